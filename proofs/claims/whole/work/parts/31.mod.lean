/-! the reference: small methods -/
def f_Mod_isIn (p0 : Int32) (p1 : Int32) (p2 : Int32) : Int32 :=
  if p0 < p1 then
    0
  else
    if p2 < p0 then
      0
    else
      1
set_option maxHeartbeats 4000000 in
set_option maxRecDepth 100000 in
theorem c_Mod_isIn (l : Launch) (g : KGt) (H0 : Heap) (p0 : Int32) (p1 : Int32) (p2 : Int32) : Met l y_Mod_isIn (kW y_Mod_isIn b_Mod_isIn 3 (.some .boolean)) ({ frames := 0, cells := 0, slots := 0, locals := 0 }) (kPc [.int p0, .int p1, .int p2] (KK g) H0) (kQc (kPure (.int (f_Mod_isIn p0 p1 p2)) H0)) 0 0 (fun _ => False) := by
  refine Met.ofW (cc := b_Mod_isIn) (maxL := 3) (ret := (.some .boolean)) (by decide) rfl ?_
  intro p e s m args below meth c s₁ B hml hv
  obtain ⟨rfl, hH, hKK⟩ := hv
  have hx := B.exec
  have hb := B.bytes
  have hr := B.returns
  have hts := kW_ts (atoms_spec (ws := kW y_Mod_isIn b_Mod_isIn 3 (.some .boolean)) B.pre)
  have hown : s.vm.findClass "BoxGlueModel" = some m.cls := findClass_of_methodNamed B.named
  have hlocks := B.notSynchronized
  have hK := hKK.1
  subst hH
  have hl := lv_entry ([.int p0, .int p1, .int p2]) (n := 3) (Nat.le_of_ble_eq_true rfl)
  rw [lg_entry_eq]
  generalize (lg_sl ([.int p0, .int p1, .int p2]) ++ List.replicate (3 - (lg_sl ([.int p0, .int p1, .int p2])).length) Slot.unset).toArray = ls at hl ⊢
  have hl : lv_has ls 3 [(0, .int p0), (1, .int p1), (2, .int p2)] := hl
  refine lv_iload_n hx hb d_Mod_isIn_0 rfl (lv_at hl 0 rfl) ?_
  refine lv_iload_n hx hb d_Mod_isIn_1 rfl (lv_at hl 1 rfl) ?_
  refine lv_icmp_lt (tgt := 14) hx hb d_Mod_isIn_2 (by decide) (fun c_1 => ?_) (fun c_1 => ?_)
  · skip
    refine lv_iconst (v := 0) hx hb d_Mod_isIn_14 (by decide) ?_
    exact W.zret (v := 0) (ty := .boolean) hx hb hr rfl (fun t ht hW => ⟨_, rfl, (by unfold f_Mod_isIn; rw [if_pos c_1]), ht⟩) (fun _ h => by cases h) d_Mod_isIn_15
  · skip
    refine lv_iload_n hx hb d_Mod_isIn_5 rfl (lv_at hl 0 rfl) ?_
    refine lv_iload_n hx hb d_Mod_isIn_6 rfl (lv_at hl 2 rfl) ?_
    refine lv_icmp_gt (tgt := 14) hx hb d_Mod_isIn_7 (by decide) (fun c_2 => ?_) (fun c_2 => ?_)
    · skip
      refine lv_iconst (v := 0) hx hb d_Mod_isIn_14 (by decide) ?_
      exact W.zret (v := 0) (ty := .boolean) hx hb hr rfl (fun t ht hW => ⟨_, rfl, (by unfold f_Mod_isIn; rw [if_neg c_1, if_pos c_2]), ht⟩) (fun _ h => by cases h) d_Mod_isIn_15
    · skip
      refine lv_iconst (v := 1) hx hb d_Mod_isIn_10 (by decide) ?_
      refine lv_goto (tgt := 15) hx hb d_Mod_isIn_11 (by decide) ?_
      exact W.zret (v := 1) (ty := .boolean) hx hb hr rfl (fun t ht hW => ⟨_, rfl, (by unfold f_Mod_isIn; rw [if_neg c_1, if_neg c_2]), ht⟩) (fun _ h => by cases h) d_Mod_isIn_15
set_option maxHeartbeats 4000000 in
set_option maxRecDepth 100000 in
theorem c_Mod_size (l : Launch) (g : KGt) (H0 : Heap) (m0 : Nat) (ad : Nat → Nat) (sz us bx : Nat) (F : Nat → Nat → Int32) (G : Nat → Nat → Int64) (hM : kMod g m0 ad sz us bx F G H0) : Met l y_Mod_size (kW y_Mod_size b_Mod_size 1 (.some .int)) ({ frames := 0, cells := 0, slots := 0, locals := 0 }) (kPc [.ref m0] (KK g) H0) (kQc (kPure (.int (nI sz)) H0)) 0 0 (fun _ => False) := by
  refine Met.ofW (cc := b_Mod_size) (maxL := 1) (ret := (.some .int)) (by decide) rfl ?_
  intro p e s m args below meth c s₁ B hml hv
  obtain ⟨rfl, hH, hKK⟩ := hv
  have hx := B.exec
  have hb := B.bytes
  have hr := B.returns
  have hts := kW_ts (atoms_spec (ws := kW y_Mod_size b_Mod_size 1 (.some .int)) B.pre)
  have hown : s.vm.findClass "BoxGlueModel" = some m.cls := findClass_of_methodNamed B.named
  have hlocks := B.notSynchronized
  have hK := hKK.1
  subst hH
  have hl := lv_entry ([.ref m0]) (n := 1) (Nat.le_of_ble_eq_true rfl)
  rw [lg_entry_eq]
  generalize (lg_sl ([.ref m0]) ++ List.replicate (1 - (lg_sl ([.ref m0])).length) Slot.unset).toArray = ls at hl ⊢
  have hl : lv_has ls 1 [(0, .ref m0)] := hl
  refine lv_aload_n hx hb d_Mod_size_0 rfl (lv_at hl 0 rfl) ?_
  refine va_get (D := g.1) (ci := 10) (v := .int (nI sz)) (C := "BoxGlueModel") (T := kT_Mod) (N := 24) hx hb hts ki_Mod hown hK (k_one hM.1) 0 rfl rfl 12 (by decide) (hts _ kw_593) (fun _ h9 => h9) rfl d_Mod_size_1 ?_
  exact W.iret (v := (nI sz)) hx hb hr (fun t ht hW => ⟨_, rfl, rfl, ht⟩) (fun _ h => by cases h) d_Mod_size_4
set_option maxHeartbeats 4000000 in
set_option maxRecDepth 100000 in
theorem c_Mod_boxes (l : Launch) (g : KGt) (H0 : Heap) (m0 : Nat) (ad : Nat → Nat) (sz us bx : Nat) (F : Nat → Nat → Int32) (G : Nat → Nat → Int64) (hM : kMod g m0 ad sz us bx F G H0) : Met l y_Mod_boxes (kW y_Mod_boxes b_Mod_boxes 1 (.some .int)) ({ frames := 0, cells := 0, slots := 0, locals := 0 }) (kPc [.ref m0] (KK g) H0) (kQc (kPure (.int (nI bx)) H0)) 0 0 (fun _ => False) := by
  refine Met.ofW (cc := b_Mod_boxes) (maxL := 1) (ret := (.some .int)) (by decide) rfl ?_
  intro p e s m args below meth c s₁ B hml hv
  obtain ⟨rfl, hH, hKK⟩ := hv
  have hx := B.exec
  have hb := B.bytes
  have hr := B.returns
  have hts := kW_ts (atoms_spec (ws := kW y_Mod_boxes b_Mod_boxes 1 (.some .int)) B.pre)
  have hown : s.vm.findClass "BoxGlueModel" = some m.cls := findClass_of_methodNamed B.named
  have hlocks := B.notSynchronized
  have hK := hKK.1
  subst hH
  have hl := lv_entry ([.ref m0]) (n := 1) (Nat.le_of_ble_eq_true rfl)
  rw [lg_entry_eq]
  generalize (lg_sl ([.ref m0]) ++ List.replicate (1 - (lg_sl ([.ref m0])).length) Slot.unset).toArray = ls at hl ⊢
  have hl : lv_has ls 1 [(0, .ref m0)] := hl
  refine lv_aload_n hx hb d_Mod_boxes_0 rfl (lv_at hl 0 rfl) ?_
  refine va_get (D := g.1) (ci := 10) (v := .int (nI bx)) (C := "BoxGlueModel") (T := kT_Mod) (N := 24) hx hb hts ki_Mod hown hK (k_one hM.1) 0 rfl rfl 14 (by decide) (hts _ kw_595) (fun _ h9 => h9) rfl d_Mod_boxes_1 ?_
  exact W.iret (v := (nI bx)) hx hb hr (fun t ht hW => ⟨_, rfl, rfl, ht⟩) (fun _ h => by cases h) d_Mod_boxes_4
set_option maxHeartbeats 4000000 in
set_option maxRecDepth 100000 in
theorem c_Mod_isBox_no (l : Launch) (g : KGt) (H0 : Heap) (m0 : Nat) (ad : Nat → Nat) (sz us bx : Nat) (F : Nat → Nat → Int32) (G : Nat → Nat → Int64) (hM : kMod g m0 ad sz us bx F G H0) (p0 : Int32) (h : p0 < 0 ∨ nI bx ≤ p0) : Met l y_Mod_isBox (kW y_Mod_isBox b_Mod_isBox 2 (.some .boolean)) ({ frames := 0, cells := 0, slots := 0, locals := 0 }) (kPc [.ref m0, .int p0] (KK g) H0) (kQc (kPure (.int 0) H0)) 0 0 (fun _ => False) := by
  refine Met.ofW (cc := b_Mod_isBox) (maxL := 2) (ret := (.some .boolean)) (by decide) rfl ?_
  intro p e s m args below meth c s₁ B hml hv
  obtain ⟨rfl, hH, hKK⟩ := hv
  have hx := B.exec
  have hb := B.bytes
  have hr := B.returns
  have hts := kW_ts (atoms_spec (ws := kW y_Mod_isBox b_Mod_isBox 2 (.some .boolean)) B.pre)
  have hown : s.vm.findClass "BoxGlueModel" = some m.cls := findClass_of_methodNamed B.named
  have hlocks := B.notSynchronized
  have hK := hKK.1
  subst hH
  have hl := lv_entry ([.ref m0, .int p0]) (n := 2) (Nat.le_of_ble_eq_true rfl)
  rw [lg_entry_eq]
  generalize (lg_sl ([.ref m0, .int p0]) ++ List.replicate (2 - (lg_sl ([.ref m0, .int p0])).length) Slot.unset).toArray = ls at hl ⊢
  have hl : lv_has ls 2 [(0, .ref m0), (1, .int p0)] := hl
  refine lv_iload_n hx hb d_Mod_isBox_0 rfl (lv_at hl 1 rfl) ?_
  refine lv_if_lt (tgt := 16) hx hb d_Mod_isBox_1 (by decide) (fun c_1 => ?_) (fun c_1 => ?_)
  · skip
    refine lv_iconst (v := 0) hx hb d_Mod_isBox_16 (by decide) ?_
    exact W.zret (v := 0) (ty := .boolean) hx hb hr rfl (fun t ht hW => ⟨_, rfl, rfl, ht⟩) (fun _ h => by cases h) d_Mod_isBox_17
  · skip
    refine lv_iload_n hx hb d_Mod_isBox_4 rfl (lv_at hl 1 rfl) ?_
    refine lv_aload_n hx hb d_Mod_isBox_5 rfl (lv_at hl 0 rfl) ?_
    refine va_get (D := g.1) (ci := 10) (v := .int (nI bx)) (C := "BoxGlueModel") (T := kT_Mod) (N := 24) hx hb hts ki_Mod hown hK (k_one hM.1) 0 rfl rfl 14 (by decide) (hts _ kw_595) (fun _ h9 => h9) rfl d_Mod_isBox_6 ?_
    refine lv_icmp_ge (tgt := 16) hx hb d_Mod_isBox_9 (by decide) (fun c_2 => ?_) (fun c_2 => ?_)
    · skip
      refine lv_iconst (v := 0) hx hb d_Mod_isBox_16 (by decide) ?_
      exact W.zret (v := 0) (ty := .boolean) hx hb hr rfl (fun t ht hW => ⟨_, rfl, rfl, ht⟩) (fun _ h => by cases h) d_Mod_isBox_17
    · skip
      rcases h with h | h <;> contradiction
set_option maxHeartbeats 4000000 in
set_option maxRecDepth 100000 in
theorem c_Mod_isBox_yes (l : Launch) (g : KGt) (H0 : Heap) (m0 : Nat) (ad : Nat → Nat) (sz us bx : Nat) (F : Nat → Nat → Int32) (G : Nat → Nat → Int64) (hM : kMod g m0 ad sz us bx F G H0) (k : Nat) (hk : k < bx) (hb9 : bx ≤ 60) : Met l y_Mod_isBox (kW y_Mod_isBox b_Mod_isBox 2 (.some .boolean)) ({ frames := 0, cells := 0, slots := 0, locals := 0 }) (kPc [.ref m0, .int (nI k)] (KK g) H0) (kQc (kPure (.int 1) H0)) 0 0 (fun _ => False) := by
  refine Met.ofW (cc := b_Mod_isBox) (maxL := 2) (ret := (.some .boolean)) (by decide) rfl ?_
  intro p e s m args below meth c s₁ B hml hv
  obtain ⟨rfl, hH, hKK⟩ := hv
  have hx := B.exec
  have hb := B.bytes
  have hr := B.returns
  have hts := kW_ts (atoms_spec (ws := kW y_Mod_isBox b_Mod_isBox 2 (.some .boolean)) B.pre)
  have hown : s.vm.findClass "BoxGlueModel" = some m.cls := findClass_of_methodNamed B.named
  have hlocks := B.notSynchronized
  have hK := hKK.1
  subst hH
  have hl := lv_entry ([.ref m0, .int (nI k)]) (n := 2) (Nat.le_of_ble_eq_true rfl)
  rw [lg_entry_eq]
  generalize (lg_sl ([.ref m0, .int (nI k)]) ++ List.replicate (2 - (lg_sl ([.ref m0, .int (nI k)])).length) Slot.unset).toArray = ls at hl ⊢
  have hl : lv_has ls 2 [(0, .ref m0), (1, .int (nI k))] := hl
  refine lv_iload_n hx hb d_Mod_isBox_0 rfl (lv_at hl 1 rfl) ?_
  refine lv_if_lt (tgt := 16) hx hb d_Mod_isBox_1 (by decide) (fun c_1 => ?_) (fun c_1 => ?_)
  · exact absurd c_1 (nI_pos (by omega))
  refine lv_iload_n hx hb d_Mod_isBox_4 rfl (lv_at hl 1 rfl) ?_
  refine lv_aload_n hx hb d_Mod_isBox_5 rfl (lv_at hl 0 rfl) ?_
  refine va_get (D := g.1) (ci := 10) (v := .int (nI bx)) (C := "BoxGlueModel") (T := kT_Mod) (N := 24) hx hb hts ki_Mod hown hK (k_one hM.1) 0 rfl rfl 14 (by decide) (hts _ kw_595) (fun _ h9 => h9) rfl d_Mod_isBox_6 ?_
  refine lv_icmp_ge (tgt := 16) hx hb d_Mod_isBox_9 (by decide) (fun c_2 => ?_) (fun c_2 => ?_)
  · exact absurd c_2 (nI_ge hk (by omega))
  refine lv_iconst (v := 1) hx hb d_Mod_isBox_12 (by decide) ?_
  refine lv_goto (tgt := 17) hx hb d_Mod_isBox_13 (by decide) ?_
  exact W.zret (v := 1) (ty := .boolean) hx hb hr rfl (fun t ht hW => ⟨_, rfl, rfl, ht⟩) (fun _ h => by cases h) d_Mod_isBox_17
set_option maxHeartbeats 4000000 in
set_option maxRecDepth 100000 in
theorem c_Mod_box_bad (l : Launch) (g : KGt) (H0 : Heap) (m0 : Nat) (ad : Nat → Nat) (sz us bx : Nat) (F : Nat → Nat → Int32) (G : Nat → Nat → Int64) (hM : kMod g m0 ad sz us bx F G H0) (p0 : Int32) (p1 : Int32) (p2 : Int32) (h : f_Mod_isIn p0 0 100000 = 0 ∨ f_Mod_isIn p1 0 100000 = 0 ∨ f_Mod_isIn p2 0 100000 = 0) : Met l y_Mod_box (kW y_Mod_box b_Mod_box 4 (.some .int)) ({ frames := 1, cells := 0, slots := 0, locals := 22 }) (kPc [.ref m0, .int p0, .int p1, .int p2] (KK g) H0) (kQc (kPure (.int (-1)) H0)) 0 0 (fun _ => False) := by
  refine Met.ofW (cc := b_Mod_box) (maxL := 4) (ret := (.some .int)) (by decide) rfl ?_
  intro p e s m args below meth c s₁ B hml hv
  obtain ⟨rfl, hH, hKK⟩ := hv
  have hx := B.exec
  have hb := B.bytes
  have hr := B.returns
  have hts := kW_ts (atoms_spec (ws := kW y_Mod_box b_Mod_box 4 (.some .int)) B.pre)
  have hown : s.vm.findClass "BoxGlueModel" = some m.cls := findClass_of_methodNamed B.named
  have hlocks := B.notSynchronized
  have hK := hKK.1
  subst hH
  have hl := lv_entry ([.ref m0, .int p0, .int p1, .int p2]) (n := 4) (Nat.le_of_ble_eq_true rfl)
  rw [lg_entry_eq]
  generalize (lg_sl ([.ref m0, .int p0, .int p1, .int p2]) ++ List.replicate (4 - (lg_sl ([.ref m0, .int p0, .int p1, .int p2])).length) Slot.unset).toArray = ls at hl ⊢
  have hl : lv_has ls 4 [(0, .ref m0), (1, .int p0), (2, .int p1), (3, .int p2)] := hl
  refine lv_iload_n hx hb d_Mod_box_0 rfl (lv_at hl 1 rfl) ?_
  refine lv_iconst (v := 0) hx hb d_Mod_box_1 (by decide) ?_
  refine lv_ldc (own := "BoxGlueModel") (index := 78) (v := 100000) hx hb hown (hts _ kw_660) d_Mod_box_2 ?_
  refine k_pure (r := .int (f_Mod_isIn p0 0 100000)) (W.runS (As := [.int p0, .int 0, .int 100000]) (rest := []) ⟨hx, hb, hml, hown, hts⟩ (c_Mod_isIn l g s.heap p0 0 100000) (va_cwS 3 hts (kS_good kw_663 kw_661 kw_662 kw_5) rfl rfl rfl (by decide +kernel) ⟨Nat.le_of_ble_eq_true rfl, Nat.le_of_ble_eq_true rfl⟩) (k_pre (KK_st g) hKK) rfl rfl hl.1 rfl (lv_room (Nat.le_of_ble_eq_true rfl)) d_Mod_box_4 ⟨Nat.zero_le _, Nat.zero_le _⟩) ?_
  refine lv_if_eq (tgt := 30) hx hb d_Mod_box_7 (by decide) (fun c_1 => ?_) (fun c_1 => ?_)
  · skip
    refine lv_iconst (v := (-1)) hx hb d_Mod_box_30 (by decide) ?_
    exact W.iret (v := (-1)) hx hb hr (fun t ht hW => ⟨_, rfl, rfl, ht⟩) (fun _ h => by cases h) d_Mod_box_31
  · skip
    refine lv_iload_n hx hb d_Mod_box_10 rfl (lv_at hl 2 rfl) ?_
    refine lv_iconst (v := 0) hx hb d_Mod_box_11 (by decide) ?_
    refine lv_ldc (own := "BoxGlueModel") (index := 78) (v := 100000) hx hb hown (hts _ kw_660) d_Mod_box_12 ?_
    refine k_pure (r := .int (f_Mod_isIn p1 0 100000)) (W.runS (As := [.int p1, .int 0, .int 100000]) (rest := []) ⟨hx, hb, hml, hown, hts⟩ (c_Mod_isIn l g s.heap p1 0 100000) (va_cwS 3 hts (kS_good kw_663 kw_661 kw_662 kw_5) rfl rfl rfl (by decide +kernel) ⟨Nat.le_of_ble_eq_true rfl, Nat.le_of_ble_eq_true rfl⟩) (k_pre (KK_st g) hKK) rfl rfl hl.1 rfl (lv_room (Nat.le_of_ble_eq_true rfl)) d_Mod_box_14 ⟨Nat.zero_le _, Nat.zero_le _⟩) ?_
    refine lv_if_eq (tgt := 30) hx hb d_Mod_box_17 (by decide) (fun c_2 => ?_) (fun c_2 => ?_)
    · skip
      refine lv_iconst (v := (-1)) hx hb d_Mod_box_30 (by decide) ?_
      exact W.iret (v := (-1)) hx hb hr (fun t ht hW => ⟨_, rfl, rfl, ht⟩) (fun _ h => by cases h) d_Mod_box_31
    · skip
      refine lv_iload_n hx hb d_Mod_box_20 rfl (lv_at hl 3 rfl) ?_
      refine lv_iconst (v := 0) hx hb d_Mod_box_21 (by decide) ?_
      refine lv_ldc (own := "BoxGlueModel") (index := 78) (v := 100000) hx hb hown (hts _ kw_660) d_Mod_box_22 ?_
      refine k_pure (r := .int (f_Mod_isIn p2 0 100000)) (W.runS (As := [.int p2, .int 0, .int 100000]) (rest := []) ⟨hx, hb, hml, hown, hts⟩ (c_Mod_isIn l g s.heap p2 0 100000) (va_cwS 3 hts (kS_good kw_663 kw_661 kw_662 kw_5) rfl rfl rfl (by decide +kernel) ⟨Nat.le_of_ble_eq_true rfl, Nat.le_of_ble_eq_true rfl⟩) (k_pre (KK_st g) hKK) rfl rfl hl.1 rfl (lv_room (Nat.le_of_ble_eq_true rfl)) d_Mod_box_24 ⟨Nat.zero_le _, Nat.zero_le _⟩) ?_
      refine lv_if_ne (tgt := 32) hx hb d_Mod_box_27 (by decide) (fun c_3 => ?_) (fun c_3 => ?_)
      · skip
        rcases h with h | h | h <;> contradiction
      · skip
        refine lv_iconst (v := (-1)) hx hb d_Mod_box_30 (by decide) ?_
        exact W.iret (v := (-1)) hx hb hr (fun t ht hW => ⟨_, rfl, rfl, ht⟩) (fun _ h => by cases h) d_Mod_box_31
set_option maxHeartbeats 4000000 in
set_option maxRecDepth 100000 in
theorem c_Mod_box_full (l : Launch) (g : KGt) (H0 : Heap) (m0 : Nat) (ad : Nat → Nat) (sz us bx : Nat) (F : Nat → Nat → Int32) (G : Nat → Nat → Int64) (hM : kMod g m0 ad sz us bx F G H0) (p0 : Int32) (p1 : Int32) (p2 : Int32) (h0 : ¬ f_Mod_isIn p0 0 100000 = 0) (h1 : ¬ f_Mod_isIn p1 0 100000 = 0) (h2 : ¬ f_Mod_isIn p2 0 100000 = 0) (h : bx = 60) : Met l y_Mod_box (kW y_Mod_box b_Mod_box 4 (.some .int)) ({ frames := 1, cells := 0, slots := 0, locals := 22 }) (kPc [.ref m0, .int p0, .int p1, .int p2] (KK g) H0) (kQc (kPure (.int (-2)) H0)) 0 0 (fun _ => False) := by
  refine Met.ofW (cc := b_Mod_box) (maxL := 4) (ret := (.some .int)) (by decide) rfl ?_
  intro p e s m args below meth c s₁ B hml hv
  obtain ⟨rfl, hH, hKK⟩ := hv
  have hx := B.exec
  have hb := B.bytes
  have hr := B.returns
  have hts := kW_ts (atoms_spec (ws := kW y_Mod_box b_Mod_box 4 (.some .int)) B.pre)
  have hown : s.vm.findClass "BoxGlueModel" = some m.cls := findClass_of_methodNamed B.named
  have hlocks := B.notSynchronized
  have hK := hKK.1
  subst hH
  have hl := lv_entry ([.ref m0, .int p0, .int p1, .int p2]) (n := 4) (Nat.le_of_ble_eq_true rfl)
  rw [lg_entry_eq]
  generalize (lg_sl ([.ref m0, .int p0, .int p1, .int p2]) ++ List.replicate (4 - (lg_sl ([.ref m0, .int p0, .int p1, .int p2])).length) Slot.unset).toArray = ls at hl ⊢
  have hl : lv_has ls 4 [(0, .ref m0), (1, .int p0), (2, .int p1), (3, .int p2)] := hl
  refine lv_iload_n hx hb d_Mod_box_0 rfl (lv_at hl 1 rfl) ?_
  refine lv_iconst (v := 0) hx hb d_Mod_box_1 (by decide) ?_
  refine lv_ldc (own := "BoxGlueModel") (index := 78) (v := 100000) hx hb hown (hts _ kw_660) d_Mod_box_2 ?_
  refine k_pure (r := .int (f_Mod_isIn p0 0 100000)) (W.runS (As := [.int p0, .int 0, .int 100000]) (rest := []) ⟨hx, hb, hml, hown, hts⟩ (c_Mod_isIn l g s.heap p0 0 100000) (va_cwS 3 hts (kS_good kw_663 kw_661 kw_662 kw_5) rfl rfl rfl (by decide +kernel) ⟨Nat.le_of_ble_eq_true rfl, Nat.le_of_ble_eq_true rfl⟩) (k_pre (KK_st g) hKK) rfl rfl hl.1 rfl (lv_room (Nat.le_of_ble_eq_true rfl)) d_Mod_box_4 ⟨Nat.zero_le _, Nat.zero_le _⟩) ?_
  refine lv_if_eq (tgt := 30) hx hb d_Mod_box_7 (by decide) (fun c_1 => ?_) (fun c_1 => ?_)
  · exact absurd c_1 h0
  refine lv_iload_n hx hb d_Mod_box_10 rfl (lv_at hl 2 rfl) ?_
  refine lv_iconst (v := 0) hx hb d_Mod_box_11 (by decide) ?_
  refine lv_ldc (own := "BoxGlueModel") (index := 78) (v := 100000) hx hb hown (hts _ kw_660) d_Mod_box_12 ?_
  refine k_pure (r := .int (f_Mod_isIn p1 0 100000)) (W.runS (As := [.int p1, .int 0, .int 100000]) (rest := []) ⟨hx, hb, hml, hown, hts⟩ (c_Mod_isIn l g s.heap p1 0 100000) (va_cwS 3 hts (kS_good kw_663 kw_661 kw_662 kw_5) rfl rfl rfl (by decide +kernel) ⟨Nat.le_of_ble_eq_true rfl, Nat.le_of_ble_eq_true rfl⟩) (k_pre (KK_st g) hKK) rfl rfl hl.1 rfl (lv_room (Nat.le_of_ble_eq_true rfl)) d_Mod_box_14 ⟨Nat.zero_le _, Nat.zero_le _⟩) ?_
  refine lv_if_eq (tgt := 30) hx hb d_Mod_box_17 (by decide) (fun c_2 => ?_) (fun c_2 => ?_)
  · exact absurd c_2 h1
  refine lv_iload_n hx hb d_Mod_box_20 rfl (lv_at hl 3 rfl) ?_
  refine lv_iconst (v := 0) hx hb d_Mod_box_21 (by decide) ?_
  refine lv_ldc (own := "BoxGlueModel") (index := 78) (v := 100000) hx hb hown (hts _ kw_660) d_Mod_box_22 ?_
  refine k_pure (r := .int (f_Mod_isIn p2 0 100000)) (W.runS (As := [.int p2, .int 0, .int 100000]) (rest := []) ⟨hx, hb, hml, hown, hts⟩ (c_Mod_isIn l g s.heap p2 0 100000) (va_cwS 3 hts (kS_good kw_663 kw_661 kw_662 kw_5) rfl rfl rfl (by decide +kernel) ⟨Nat.le_of_ble_eq_true rfl, Nat.le_of_ble_eq_true rfl⟩) (k_pre (KK_st g) hKK) rfl rfl hl.1 rfl (lv_room (Nat.le_of_ble_eq_true rfl)) d_Mod_box_24 ⟨Nat.zero_le _, Nat.zero_le _⟩) ?_
  refine lv_if_ne (tgt := 32) hx hb d_Mod_box_27 (by decide) (fun c_3 => ?_) (fun c_3 => ?_)
  rotate_left
  · exact absurd c_3 h2
  refine lv_aload_n hx hb d_Mod_box_32 rfl (lv_at hl 0 rfl) ?_
  refine va_get (D := g.1) (ci := 10) (v := .int (nI bx)) (C := "BoxGlueModel") (T := kT_Mod) (N := 24) hx hb hts ki_Mod hown hK (k_one hM.1) 0 rfl rfl 14 (by decide) (hts _ kw_595) (fun _ h9 => h9) rfl d_Mod_box_33 ?_
  refine lv_bipush (v := 60) hx hb d_Mod_box_36 (by decide) ?_
  refine lv_icmp_ne (tgt := 44) hx hb d_Mod_box_38 (by decide) (fun c_4 => ?_) (fun c_4 => ?_)
  · exact absurd c_4 (fun q => q (by rw [h]; rfl))
  refine lv_bipush (v := (-2)) hx hb d_Mod_box_41 (by decide) ?_
  exact W.iret (v := (-2)) hx hb hr (fun t ht hW => ⟨_, rfl, rfl, ht⟩) (fun _ h => by cases h) d_Mod_box_43
def mo_box (F : Nat → Nat → Int32) (bx : Nat) (p0 p1 p2 : Int32) : Nat → Nat → Int32 := mF (mF (mF (mF (mF (mF F 15 bx p0) 16 bx p1) 17 bx p2) 18 bx 40) 19 bx 0) 22 bx (-1)
set_option maxHeartbeats 4000000 in
set_option maxRecDepth 100000 in
theorem c_Mod_box_ok (l : Launch) (g : KGt) (H0 : Heap) (m0 : Nat) (ad : Nat → Nat) (sz us bx : Nat) (F : Nat → Nat → Int32) (G : Nat → Nat → Int64) (hM : kMod g m0 ad sz us bx F G H0) (p0 : Int32) (p1 : Int32) (p2 : Int32) (h0 : ¬ f_Mod_isIn p0 0 100000 = 0) (h1 : ¬ f_Mod_isIn p1 0 100000 = 0) (h2 : ¬ f_Mod_isIn p2 0 100000 = 0) (h : bx < 60) : Met l y_Mod_box (kW y_Mod_box b_Mod_box 4 (.some .int)) ({ frames := 1, cells := 0, slots := 0, locals := 22 }) (kPc [.ref m0, .int p0, .int p1, .int p2] (KK g) H0) (kQc (fun v H1 => v = some (.int (nI bx)) ∧ kE (mA m0 ad) H0 H1 ∧ kMod g m0 ad sz us (bx + 1) (mo_box F bx p0 p1 p2) G H1)) 0 0 (mA m0 ad) := by
  refine Met.ofW (cc := b_Mod_box) (maxL := 4) (ret := (.some .int)) (by decide) rfl ?_
  intro p e s m args below meth c s₁ B hml hv
  obtain ⟨rfl, hH, hKK⟩ := hv
  have hx := B.exec
  have hb := B.bytes
  have hr := B.returns
  have hts := kW_ts (atoms_spec (ws := kW y_Mod_box b_Mod_box 4 (.some .int)) B.pre)
  have hown : s.vm.findClass "BoxGlueModel" = some m.cls := findClass_of_methodNamed B.named
  have hlocks := B.notSynchronized
  have hK := hKK.1
  subst hH
  have hl := lv_entry ([.ref m0, .int p0, .int p1, .int p2]) (n := 4) (Nat.le_of_ble_eq_true rfl)
  rw [lg_entry_eq]
  generalize (lg_sl ([.ref m0, .int p0, .int p1, .int p2]) ++ List.replicate (4 - (lg_sl ([.ref m0, .int p0, .int p1, .int p2])).length) Slot.unset).toArray = ls at hl ⊢
  have hl : lv_has ls 4 [(0, .ref m0), (1, .int p0), (2, .int p1), (3, .int p2)] := hl
  refine lv_iload_n hx hb d_Mod_box_0 rfl (lv_at hl 1 rfl) ?_
  refine lv_iconst (v := 0) hx hb d_Mod_box_1 (by decide) ?_
  refine lv_ldc (own := "BoxGlueModel") (index := 78) (v := 100000) hx hb hown (hts _ kw_660) d_Mod_box_2 ?_
  refine k_pure (r := .int (f_Mod_isIn p0 0 100000)) (W.runS (As := [.int p0, .int 0, .int 100000]) (rest := []) ⟨hx, hb, hml, hown, hts⟩ (c_Mod_isIn l g s.heap p0 0 100000) (va_cwS 3 hts (kS_good kw_663 kw_661 kw_662 kw_5) rfl rfl rfl (by decide +kernel) ⟨Nat.le_of_ble_eq_true rfl, Nat.le_of_ble_eq_true rfl⟩) (k_pre (KK_st g) hKK) rfl rfl hl.1 rfl (lv_room (Nat.le_of_ble_eq_true rfl)) d_Mod_box_4 ⟨Nat.zero_le _, Nat.zero_le _⟩) ?_
  refine lv_if_eq (tgt := 30) hx hb d_Mod_box_7 (by decide) (fun c_1 => ?_) (fun c_1 => ?_)
  · exact absurd c_1 h0
  refine lv_iload_n hx hb d_Mod_box_10 rfl (lv_at hl 2 rfl) ?_
  refine lv_iconst (v := 0) hx hb d_Mod_box_11 (by decide) ?_
  refine lv_ldc (own := "BoxGlueModel") (index := 78) (v := 100000) hx hb hown (hts _ kw_660) d_Mod_box_12 ?_
  refine k_pure (r := .int (f_Mod_isIn p1 0 100000)) (W.runS (As := [.int p1, .int 0, .int 100000]) (rest := []) ⟨hx, hb, hml, hown, hts⟩ (c_Mod_isIn l g s.heap p1 0 100000) (va_cwS 3 hts (kS_good kw_663 kw_661 kw_662 kw_5) rfl rfl rfl (by decide +kernel) ⟨Nat.le_of_ble_eq_true rfl, Nat.le_of_ble_eq_true rfl⟩) (k_pre (KK_st g) hKK) rfl rfl hl.1 rfl (lv_room (Nat.le_of_ble_eq_true rfl)) d_Mod_box_14 ⟨Nat.zero_le _, Nat.zero_le _⟩) ?_
  refine lv_if_eq (tgt := 30) hx hb d_Mod_box_17 (by decide) (fun c_2 => ?_) (fun c_2 => ?_)
  · exact absurd c_2 h1
  refine lv_iload_n hx hb d_Mod_box_20 rfl (lv_at hl 3 rfl) ?_
  refine lv_iconst (v := 0) hx hb d_Mod_box_21 (by decide) ?_
  refine lv_ldc (own := "BoxGlueModel") (index := 78) (v := 100000) hx hb hown (hts _ kw_660) d_Mod_box_22 ?_
  refine k_pure (r := .int (f_Mod_isIn p2 0 100000)) (W.runS (As := [.int p2, .int 0, .int 100000]) (rest := []) ⟨hx, hb, hml, hown, hts⟩ (c_Mod_isIn l g s.heap p2 0 100000) (va_cwS 3 hts (kS_good kw_663 kw_661 kw_662 kw_5) rfl rfl rfl (by decide +kernel) ⟨Nat.le_of_ble_eq_true rfl, Nat.le_of_ble_eq_true rfl⟩) (k_pre (KK_st g) hKK) rfl rfl hl.1 rfl (lv_room (Nat.le_of_ble_eq_true rfl)) d_Mod_box_24 ⟨Nat.zero_le _, Nat.zero_le _⟩) ?_
  refine lv_if_ne (tgt := 32) hx hb d_Mod_box_27 (by decide) (fun c_3 => ?_) (fun c_3 => ?_)
  rotate_left
  · exact absurd c_3 h2
  refine lv_aload_n hx hb d_Mod_box_32 rfl (lv_at hl 0 rfl) ?_
  refine va_get (D := g.1) (ci := 10) (v := .int (nI bx)) (C := "BoxGlueModel") (T := kT_Mod) (N := 24) hx hb hts ki_Mod hown hK (k_one hM.1) 0 rfl rfl 14 (by decide) (hts _ kw_595) (fun _ h9 => h9) rfl d_Mod_box_33 ?_
  refine lv_bipush (v := 60) hx hb d_Mod_box_36 (by decide) ?_
  refine lv_icmp_ne (tgt := 44) hx hb d_Mod_box_38 (by decide) (fun c_4 => ?_) (fun c_4 => ?_)
  rotate_left
  · exact absurd c_4 (fun z => absurd ((nI_eq (by omega) (by decide)).mp (z.trans (show (60 : Int32) = nI 60 from rfl))) (by omega))
  refine lv_aload_n hx hb d_Mod_box_44 rfl (lv_at hl 0 rfl) ?_
  refine va_get (D := g.1) (ci := 10) (v := .ref (ad 15)) (C := "BoxGlueModel") (T := kT_Mod) (N := 24) hx hb hts ki_Mod hown hK (k_one hM.1) 0 rfl rfl 15 (by decide) (hts _ kw_596) (fun _ h9 => h9) rfl d_Mod_box_45 ?_
  refine lv_aload_n hx hb d_Mod_box_48 rfl (lv_at hl 0 rfl) ?_
  refine va_get (D := g.1) (ci := 10) (v := .int (nI bx)) (C := "BoxGlueModel") (T := kT_Mod) (N := 24) hx hb hts ki_Mod hown hK (k_one hM.1) 0 rfl rfl 14 (by decide) (hts _ kw_595) (fun _ h9 => h9) rfl d_Mod_box_49 ?_
  refine lv_iload_n hx hb d_Mod_box_52 rfl (lv_at hl 1 rfl) ?_
  refine m_iast hx hb hK hM (fun _ h => by cases h) 15 bx (Or.inr ⟨by decide, by decide⟩) (show bx < 60 by omega) d_Mod_box_53 (fun H locs hM hE1 hL => ?_)
  have hE : kE (mA m0 ad) s.heap H := hE1
  refine lv_aload_n hx hb d_Mod_box_54 rfl (lv_at hl 0 rfl) ?_
  refine va_get (D := g.1) (ci := 10) (v := .ref (ad 16)) (C := "BoxGlueModel") (T := kT_Mod) (N := 24) hx hb hts ki_Mod hown hK (k_one hM.1) 0 rfl rfl 16 (by decide) (hts _ kw_597) (fun _ h9 => h9) rfl d_Mod_box_55 ?_
  refine lv_aload_n hx hb d_Mod_box_58 rfl (lv_at hl 0 rfl) ?_
  refine va_get (D := g.1) (ci := 10) (v := .int (nI bx)) (C := "BoxGlueModel") (T := kT_Mod) (N := 24) hx hb hts ki_Mod hown hK (k_one hM.1) 0 rfl rfl 14 (by decide) (hts _ kw_595) (fun _ h9 => h9) rfl d_Mod_box_59 ?_
  refine lv_iload_n hx hb d_Mod_box_62 rfl (lv_at hl 2 rfl) ?_
  refine m_iast hx hb hK hM hL 16 bx (Or.inr ⟨by decide, by decide⟩) (show bx < 60 by omega) d_Mod_box_63 (fun H locs hM hE1 hL => ?_)
  have hE : kE (mA m0 ad) s.heap H := hE.tr hE1 (fun _ _ h => h)
  refine lv_aload_n hx hb d_Mod_box_64 rfl (lv_at hl 0 rfl) ?_
  refine va_get (D := g.1) (ci := 10) (v := .ref (ad 17)) (C := "BoxGlueModel") (T := kT_Mod) (N := 24) hx hb hts ki_Mod hown hK (k_one hM.1) 0 rfl rfl 17 (by decide) (hts _ kw_598) (fun _ h9 => h9) rfl d_Mod_box_65 ?_
  refine lv_aload_n hx hb d_Mod_box_68 rfl (lv_at hl 0 rfl) ?_
  refine va_get (D := g.1) (ci := 10) (v := .int (nI bx)) (C := "BoxGlueModel") (T := kT_Mod) (N := 24) hx hb hts ki_Mod hown hK (k_one hM.1) 0 rfl rfl 14 (by decide) (hts _ kw_595) (fun _ h9 => h9) rfl d_Mod_box_69 ?_
  refine lv_iload_n hx hb d_Mod_box_72 rfl (lv_at hl 3 rfl) ?_
  refine m_iast hx hb hK hM hL 17 bx (Or.inr ⟨by decide, by decide⟩) (show bx < 60 by omega) d_Mod_box_73 (fun H locs hM hE1 hL => ?_)
  have hE : kE (mA m0 ad) s.heap H := hE.tr hE1 (fun _ _ h => h)
  refine lv_aload_n hx hb d_Mod_box_74 rfl (lv_at hl 0 rfl) ?_
  refine va_get (D := g.1) (ci := 10) (v := .ref (ad 18)) (C := "BoxGlueModel") (T := kT_Mod) (N := 24) hx hb hts ki_Mod hown hK (k_one hM.1) 0 rfl rfl 18 (by decide) (hts _ kw_599) (fun _ h9 => h9) rfl d_Mod_box_75 ?_
  refine lv_aload_n hx hb d_Mod_box_78 rfl (lv_at hl 0 rfl) ?_
  refine va_get (D := g.1) (ci := 10) (v := .int (nI bx)) (C := "BoxGlueModel") (T := kT_Mod) (N := 24) hx hb hts ki_Mod hown hK (k_one hM.1) 0 rfl rfl 14 (by decide) (hts _ kw_595) (fun _ h9 => h9) rfl d_Mod_box_79 ?_
  refine lv_bipush (v := 40) hx hb d_Mod_box_82 (by decide) ?_
  refine m_iast hx hb hK hM hL 18 bx (Or.inr ⟨by decide, by decide⟩) (show bx < 60 by omega) d_Mod_box_84 (fun H locs hM hE1 hL => ?_)
  have hE : kE (mA m0 ad) s.heap H := hE.tr hE1 (fun _ _ h => h)
  refine lv_aload_n hx hb d_Mod_box_85 rfl (lv_at hl 0 rfl) ?_
  refine va_get (D := g.1) (ci := 10) (v := .ref (ad 19)) (C := "BoxGlueModel") (T := kT_Mod) (N := 24) hx hb hts ki_Mod hown hK (k_one hM.1) 0 rfl rfl 19 (by decide) (hts _ kw_600) (fun _ h9 => h9) rfl d_Mod_box_86 ?_
  refine lv_aload_n hx hb d_Mod_box_89 rfl (lv_at hl 0 rfl) ?_
  refine va_get (D := g.1) (ci := 10) (v := .int (nI bx)) (C := "BoxGlueModel") (T := kT_Mod) (N := 24) hx hb hts ki_Mod hown hK (k_one hM.1) 0 rfl rfl 14 (by decide) (hts _ kw_595) (fun _ h9 => h9) rfl d_Mod_box_90 ?_
  refine lv_iconst (v := 0) hx hb d_Mod_box_93 (by decide) ?_
  refine m_iast hx hb hK hM hL 19 bx (Or.inr ⟨by decide, by decide⟩) (show bx < 60 by omega) d_Mod_box_94 (fun H locs hM hE1 hL => ?_)
  have hE : kE (mA m0 ad) s.heap H := hE.tr hE1 (fun _ _ h => h)
  refine lv_aload_n hx hb d_Mod_box_95 rfl (lv_at hl 0 rfl) ?_
  refine va_get (D := g.1) (ci := 10) (v := .ref (ad 22)) (C := "BoxGlueModel") (T := kT_Mod) (N := 24) hx hb hts ki_Mod hown hK (k_one hM.1) 0 rfl rfl 22 (by decide) (hts _ kw_603) (fun _ h9 => h9) rfl d_Mod_box_96 ?_
  refine lv_aload_n hx hb d_Mod_box_99 rfl (lv_at hl 0 rfl) ?_
  refine va_get (D := g.1) (ci := 10) (v := .int (nI bx)) (C := "BoxGlueModel") (T := kT_Mod) (N := 24) hx hb hts ki_Mod hown hK (k_one hM.1) 0 rfl rfl 14 (by decide) (hts _ kw_595) (fun _ h9 => h9) rfl d_Mod_box_100 ?_
  refine lv_iconst (v := (-1)) hx hb d_Mod_box_103 (by decide) ?_
  refine m_iast hx hb hK hM hL 22 bx (Or.inr ⟨by decide, by decide⟩) (show bx < 60 by omega) d_Mod_box_104 (fun H locs hM hE1 hL => ?_)
  have hE : kE (mA m0 ad) s.heap H := hE.tr hE1 (fun _ _ h => h)
  refine lv_aload_n hx hb d_Mod_box_105 rfl (lv_at hl 0 rfl) ?_
  refine lv_dup hx hb d_Mod_box_106 rfl ?_
  refine va_get (D := g.1) (ci := 10) (v := .int (nI bx)) (C := "BoxGlueModel") (T := kT_Mod) (N := 24) hx hb hts ki_Mod hown hK (k_one hM.1) 0 rfl rfl 14 (by decide) (hts _ kw_595) (fun _ h9 => h9) rfl d_Mod_box_107 ?_
  refine lv_iconst (v := 1) hx hb d_Mod_box_110 (by decide) ?_
  refine lv_iadd hx hb d_Mod_box_111 ?_
  rw [nI_1]
  refine m_pbx (bx2 := bx + 1) hx hb hts hown hK hM hL (hts _ kw_595) d_Mod_box_112 (fun H locs hM hE1 hL => ?_)
  have hE : kE (mA m0 ad) s.heap H := hE.tr hE1 (fun _ _ h => h)
  refine lv_aload_n hx hb d_Mod_box_115 rfl (lv_at hl 0 rfl) ?_
  refine va_get (D := g.1) (ci := 10) (v := .int (nI (bx + 1))) (C := "BoxGlueModel") (T := kT_Mod) (N := 24) hx hb hts ki_Mod hown hK (k_one hM.1) 0 rfl rfl 14 (by decide) (hts _ kw_595) (fun _ h9 => h9) rfl d_Mod_box_116 ?_
  refine lv_iconst (v := 1) hx hb d_Mod_box_119 (by decide) ?_
  refine lv_isub hx hb d_Mod_box_120 ?_
  rw [nI_pred]
  exact W.iret (v := (nI bx)) hx hb hr (fun t ht hW => ⟨_, rfl, rfl, by rw [ht]; exact hE, by rw [ht]; exact hM⟩) hL d_Mod_box_121
def mo_more (F : Nat → Nat → Int32) (sz : Nat) (p0 p1 : Int32) : Nat → Nat → Int32 := mF (mF (mF (mF (mF (mF (mF (mF (mF (mF F 0 sz p0) 1 sz p1) 2 sz 0) 3 sz 0) 4 sz 0) 5 sz 0) 6 sz 0) 7 sz 0) 8 sz 0) 9 sz 0
set_option maxHeartbeats 4000000 in
set_option maxRecDepth 100000 in
theorem c_Mod_more (l : Launch) (g : KGt) (H0 : Heap) (m0 : Nat) (ad : Nat → Nat) (sz us bx : Nat) (F : Nat → Nat → Int32) (G : Nat → Nat → Int64) (hM : kMod g m0 ad sz us bx F G H0) (p0 : Int32) (p1 : Int32) (h : sz < 40) : Met l y_Mod_more (kW y_Mod_more b_Mod_more 3 (.some .int)) ({ frames := 0, cells := 0, slots := 0, locals := 0 }) (kPc [.ref m0, .int p0, .int p1] (KK g) H0) (kQc (fun v H1 => v = some (.int (nI (sz + 1))) ∧ kE (mA m0 ad) H0 H1 ∧ kMod g m0 ad (sz + 1) us bx (mo_more F sz p0 p1) G H1)) 0 0 (mA m0 ad) := by
  refine Met.ofW (cc := b_Mod_more) (maxL := 3) (ret := (.some .int)) (by decide) rfl ?_
  intro p e s m args below meth c s₁ B hml hv
  obtain ⟨rfl, hH, hKK⟩ := hv
  have hx := B.exec
  have hb := B.bytes
  have hr := B.returns
  have hts := kW_ts (atoms_spec (ws := kW y_Mod_more b_Mod_more 3 (.some .int)) B.pre)
  have hown : s.vm.findClass "BoxGlueModel" = some m.cls := findClass_of_methodNamed B.named
  have hlocks := B.notSynchronized
  have hK := hKK.1
  subst hH
  have hl := lv_entry ([.ref m0, .int p0, .int p1]) (n := 3) (Nat.le_of_ble_eq_true rfl)
  rw [lg_entry_eq]
  generalize (lg_sl ([.ref m0, .int p0, .int p1]) ++ List.replicate (3 - (lg_sl ([.ref m0, .int p0, .int p1])).length) Slot.unset).toArray = ls at hl ⊢
  have hl : lv_has ls 3 [(0, .ref m0), (1, .int p0), (2, .int p1)] := hl
  refine lv_aload_n hx hb d_Mod_more_0 rfl (lv_at hl 0 rfl) ?_
  refine va_get (D := g.1) (ci := 10) (v := .ref (ad 0)) (C := "BoxGlueModel") (T := kT_Mod) (N := 24) hx hb hts ki_Mod hown hK (k_one hM.1) 0 rfl rfl 0 (by decide) (hts _ kw_581) (fun _ h9 => h9) rfl d_Mod_more_1 ?_
  refine lv_aload_n hx hb d_Mod_more_4 rfl (lv_at hl 0 rfl) ?_
  refine va_get (D := g.1) (ci := 10) (v := .int (nI sz)) (C := "BoxGlueModel") (T := kT_Mod) (N := 24) hx hb hts ki_Mod hown hK (k_one hM.1) 0 rfl rfl 12 (by decide) (hts _ kw_593) (fun _ h9 => h9) rfl d_Mod_more_5 ?_
  refine lv_iload_n hx hb d_Mod_more_8 rfl (lv_at hl 1 rfl) ?_
  refine m_iast hx hb hK hM (fun _ h => by cases h) 0 sz (Or.inl (by decide)) (show sz < 340 by omega) d_Mod_more_9 (fun H locs hM hE1 hL => ?_)
  have hE : kE (mA m0 ad) s.heap H := hE1
  refine lv_aload_n hx hb d_Mod_more_10 rfl (lv_at hl 0 rfl) ?_
  refine va_get (D := g.1) (ci := 10) (v := .ref (ad 1)) (C := "BoxGlueModel") (T := kT_Mod) (N := 24) hx hb hts ki_Mod hown hK (k_one hM.1) 0 rfl rfl 1 (by decide) (hts _ kw_582) (fun _ h9 => h9) rfl d_Mod_more_11 ?_
  refine lv_aload_n hx hb d_Mod_more_14 rfl (lv_at hl 0 rfl) ?_
  refine va_get (D := g.1) (ci := 10) (v := .int (nI sz)) (C := "BoxGlueModel") (T := kT_Mod) (N := 24) hx hb hts ki_Mod hown hK (k_one hM.1) 0 rfl rfl 12 (by decide) (hts _ kw_593) (fun _ h9 => h9) rfl d_Mod_more_15 ?_
  refine lv_iload_n hx hb d_Mod_more_18 rfl (lv_at hl 2 rfl) ?_
  refine m_iast hx hb hK hM hL 1 sz (Or.inl (by decide)) (show sz < 340 by omega) d_Mod_more_19 (fun H locs hM hE1 hL => ?_)
  have hE : kE (mA m0 ad) s.heap H := hE.tr hE1 (fun _ _ h => h)
  refine lv_aload_n hx hb d_Mod_more_20 rfl (lv_at hl 0 rfl) ?_
  refine va_get (D := g.1) (ci := 10) (v := .ref (ad 2)) (C := "BoxGlueModel") (T := kT_Mod) (N := 24) hx hb hts ki_Mod hown hK (k_one hM.1) 0 rfl rfl 2 (by decide) (hts _ kw_583) (fun _ h9 => h9) rfl d_Mod_more_21 ?_
  refine lv_aload_n hx hb d_Mod_more_24 rfl (lv_at hl 0 rfl) ?_
  refine va_get (D := g.1) (ci := 10) (v := .int (nI sz)) (C := "BoxGlueModel") (T := kT_Mod) (N := 24) hx hb hts ki_Mod hown hK (k_one hM.1) 0 rfl rfl 12 (by decide) (hts _ kw_593) (fun _ h9 => h9) rfl d_Mod_more_25 ?_
  refine lv_iconst (v := 0) hx hb d_Mod_more_28 (by decide) ?_
  refine m_iast hx hb hK hM hL 2 sz (Or.inl (by decide)) (show sz < 340 by omega) d_Mod_more_29 (fun H locs hM hE1 hL => ?_)
  have hE : kE (mA m0 ad) s.heap H := hE.tr hE1 (fun _ _ h => h)
  refine lv_aload_n hx hb d_Mod_more_30 rfl (lv_at hl 0 rfl) ?_
  refine va_get (D := g.1) (ci := 10) (v := .ref (ad 3)) (C := "BoxGlueModel") (T := kT_Mod) (N := 24) hx hb hts ki_Mod hown hK (k_one hM.1) 0 rfl rfl 3 (by decide) (hts _ kw_584) (fun _ h9 => h9) rfl d_Mod_more_31 ?_
  refine lv_aload_n hx hb d_Mod_more_34 rfl (lv_at hl 0 rfl) ?_
  refine va_get (D := g.1) (ci := 10) (v := .int (nI sz)) (C := "BoxGlueModel") (T := kT_Mod) (N := 24) hx hb hts ki_Mod hown hK (k_one hM.1) 0 rfl rfl 12 (by decide) (hts _ kw_593) (fun _ h9 => h9) rfl d_Mod_more_35 ?_
  refine lv_iconst (v := 0) hx hb d_Mod_more_38 (by decide) ?_
  refine m_iast hx hb hK hM hL 3 sz (Or.inl (by decide)) (show sz < 340 by omega) d_Mod_more_39 (fun H locs hM hE1 hL => ?_)
  have hE : kE (mA m0 ad) s.heap H := hE.tr hE1 (fun _ _ h => h)
  refine lv_aload_n hx hb d_Mod_more_40 rfl (lv_at hl 0 rfl) ?_
  refine va_get (D := g.1) (ci := 10) (v := .ref (ad 4)) (C := "BoxGlueModel") (T := kT_Mod) (N := 24) hx hb hts ki_Mod hown hK (k_one hM.1) 0 rfl rfl 4 (by decide) (hts _ kw_585) (fun _ h9 => h9) rfl d_Mod_more_41 ?_
  refine lv_aload_n hx hb d_Mod_more_44 rfl (lv_at hl 0 rfl) ?_
  refine va_get (D := g.1) (ci := 10) (v := .int (nI sz)) (C := "BoxGlueModel") (T := kT_Mod) (N := 24) hx hb hts ki_Mod hown hK (k_one hM.1) 0 rfl rfl 12 (by decide) (hts _ kw_593) (fun _ h9 => h9) rfl d_Mod_more_45 ?_
  refine lv_iconst (v := 0) hx hb d_Mod_more_48 (by decide) ?_
  refine m_iast hx hb hK hM hL 4 sz (Or.inl (by decide)) (show sz < 340 by omega) d_Mod_more_49 (fun H locs hM hE1 hL => ?_)
  have hE : kE (mA m0 ad) s.heap H := hE.tr hE1 (fun _ _ h => h)
  refine lv_aload_n hx hb d_Mod_more_50 rfl (lv_at hl 0 rfl) ?_
  refine va_get (D := g.1) (ci := 10) (v := .ref (ad 5)) (C := "BoxGlueModel") (T := kT_Mod) (N := 24) hx hb hts ki_Mod hown hK (k_one hM.1) 0 rfl rfl 5 (by decide) (hts _ kw_586) (fun _ h9 => h9) rfl d_Mod_more_51 ?_
  refine lv_aload_n hx hb d_Mod_more_54 rfl (lv_at hl 0 rfl) ?_
  refine va_get (D := g.1) (ci := 10) (v := .int (nI sz)) (C := "BoxGlueModel") (T := kT_Mod) (N := 24) hx hb hts ki_Mod hown hK (k_one hM.1) 0 rfl rfl 12 (by decide) (hts _ kw_593) (fun _ h9 => h9) rfl d_Mod_more_55 ?_
  refine lv_iconst (v := 0) hx hb d_Mod_more_58 (by decide) ?_
  refine m_iast hx hb hK hM hL 5 sz (Or.inl (by decide)) (show sz < 340 by omega) d_Mod_more_59 (fun H locs hM hE1 hL => ?_)
  have hE : kE (mA m0 ad) s.heap H := hE.tr hE1 (fun _ _ h => h)
  refine lv_aload_n hx hb d_Mod_more_60 rfl (lv_at hl 0 rfl) ?_
  refine va_get (D := g.1) (ci := 10) (v := .ref (ad 6)) (C := "BoxGlueModel") (T := kT_Mod) (N := 24) hx hb hts ki_Mod hown hK (k_one hM.1) 0 rfl rfl 6 (by decide) (hts _ kw_587) (fun _ h9 => h9) rfl d_Mod_more_61 ?_
  refine lv_aload_n hx hb d_Mod_more_64 rfl (lv_at hl 0 rfl) ?_
  refine va_get (D := g.1) (ci := 10) (v := .int (nI sz)) (C := "BoxGlueModel") (T := kT_Mod) (N := 24) hx hb hts ki_Mod hown hK (k_one hM.1) 0 rfl rfl 12 (by decide) (hts _ kw_593) (fun _ h9 => h9) rfl d_Mod_more_65 ?_
  refine lv_iconst (v := 0) hx hb d_Mod_more_68 (by decide) ?_
  refine m_iast hx hb hK hM hL 6 sz (Or.inl (by decide)) (show sz < 340 by omega) d_Mod_more_69 (fun H locs hM hE1 hL => ?_)
  have hE : kE (mA m0 ad) s.heap H := hE.tr hE1 (fun _ _ h => h)
  refine lv_aload_n hx hb d_Mod_more_70 rfl (lv_at hl 0 rfl) ?_
  refine va_get (D := g.1) (ci := 10) (v := .ref (ad 7)) (C := "BoxGlueModel") (T := kT_Mod) (N := 24) hx hb hts ki_Mod hown hK (k_one hM.1) 0 rfl rfl 7 (by decide) (hts _ kw_588) (fun _ h9 => h9) rfl d_Mod_more_71 ?_
  refine lv_aload_n hx hb d_Mod_more_74 rfl (lv_at hl 0 rfl) ?_
  refine va_get (D := g.1) (ci := 10) (v := .int (nI sz)) (C := "BoxGlueModel") (T := kT_Mod) (N := 24) hx hb hts ki_Mod hown hK (k_one hM.1) 0 rfl rfl 12 (by decide) (hts _ kw_593) (fun _ h9 => h9) rfl d_Mod_more_75 ?_
  refine lv_iconst (v := 0) hx hb d_Mod_more_78 (by decide) ?_
  refine m_iast hx hb hK hM hL 7 sz (Or.inl (by decide)) (show sz < 340 by omega) d_Mod_more_79 (fun H locs hM hE1 hL => ?_)
  have hE : kE (mA m0 ad) s.heap H := hE.tr hE1 (fun _ _ h => h)
  refine lv_aload_n hx hb d_Mod_more_80 rfl (lv_at hl 0 rfl) ?_
  refine va_get (D := g.1) (ci := 10) (v := .ref (ad 8)) (C := "BoxGlueModel") (T := kT_Mod) (N := 24) hx hb hts ki_Mod hown hK (k_one hM.1) 0 rfl rfl 8 (by decide) (hts _ kw_589) (fun _ h9 => h9) rfl d_Mod_more_81 ?_
  refine lv_aload_n hx hb d_Mod_more_84 rfl (lv_at hl 0 rfl) ?_
  refine va_get (D := g.1) (ci := 10) (v := .int (nI sz)) (C := "BoxGlueModel") (T := kT_Mod) (N := 24) hx hb hts ki_Mod hown hK (k_one hM.1) 0 rfl rfl 12 (by decide) (hts _ kw_593) (fun _ h9 => h9) rfl d_Mod_more_85 ?_
  refine lv_iconst (v := 0) hx hb d_Mod_more_88 (by decide) ?_
  refine m_iast hx hb hK hM hL 8 sz (Or.inl (by decide)) (show sz < 340 by omega) d_Mod_more_89 (fun H locs hM hE1 hL => ?_)
  have hE : kE (mA m0 ad) s.heap H := hE.tr hE1 (fun _ _ h => h)
  refine lv_aload_n hx hb d_Mod_more_90 rfl (lv_at hl 0 rfl) ?_
  refine va_get (D := g.1) (ci := 10) (v := .ref (ad 9)) (C := "BoxGlueModel") (T := kT_Mod) (N := 24) hx hb hts ki_Mod hown hK (k_one hM.1) 0 rfl rfl 9 (by decide) (hts _ kw_590) (fun _ h9 => h9) rfl d_Mod_more_91 ?_
  refine lv_aload_n hx hb d_Mod_more_94 rfl (lv_at hl 0 rfl) ?_
  refine va_get (D := g.1) (ci := 10) (v := .int (nI sz)) (C := "BoxGlueModel") (T := kT_Mod) (N := 24) hx hb hts ki_Mod hown hK (k_one hM.1) 0 rfl rfl 12 (by decide) (hts _ kw_593) (fun _ h9 => h9) rfl d_Mod_more_95 ?_
  refine lv_iconst (v := 0) hx hb d_Mod_more_98 (by decide) ?_
  refine m_iast hx hb hK hM hL 9 sz (Or.inl (by decide)) (show sz < 340 by omega) d_Mod_more_99 (fun H locs hM hE1 hL => ?_)
  have hE : kE (mA m0 ad) s.heap H := hE.tr hE1 (fun _ _ h => h)
  refine lv_aload_n hx hb d_Mod_more_100 rfl (lv_at hl 0 rfl) ?_
  refine lv_dup hx hb d_Mod_more_101 rfl ?_
  refine va_get (D := g.1) (ci := 10) (v := .int (nI sz)) (C := "BoxGlueModel") (T := kT_Mod) (N := 24) hx hb hts ki_Mod hown hK (k_one hM.1) 0 rfl rfl 12 (by decide) (hts _ kw_593) (fun _ h9 => h9) rfl d_Mod_more_102 ?_
  refine lv_iconst (v := 1) hx hb d_Mod_more_105 (by decide) ?_
  refine lv_iadd hx hb d_Mod_more_106 ?_
  rw [nI_1]
  refine m_psz (sz2 := sz + 1) hx hb hts hown hK hM hL (hts _ kw_593) d_Mod_more_107 (fun H locs hM hE1 hL => ?_)
  have hE : kE (mA m0 ad) s.heap H := hE.tr hE1 (fun _ _ h => h)
  refine lv_aload_n hx hb d_Mod_more_110 rfl (lv_at hl 0 rfl) ?_
  refine va_get (D := g.1) (ci := 10) (v := .int (nI (sz + 1))) (C := "BoxGlueModel") (T := kT_Mod) (N := 24) hx hb hts ki_Mod hown hK (k_one hM.1) 0 rfl rfl 12 (by decide) (hts _ kw_593) (fun _ h9 => h9) rfl d_Mod_more_111 ?_
  exact W.iret (v := (nI (sz + 1))) hx hb hr (fun t ht hW => ⟨_, rfl, rfl, by rw [ht]; exact hE, by rw [ht]; exact hM⟩) hL d_Mod_more_114

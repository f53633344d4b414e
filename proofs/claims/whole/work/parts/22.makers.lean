/-! BoxGlue: box, put, glue, kern, rule, and the constructor -/
/-- a box with nothing in it -/
def bx0 (p0 p1 p2 : Int32) : BxT := (fun k => match k with
  | 0 => p0
  | 1 => p1
  | 2 => p2
  | 4 => (-1)
  | _ => 0, 0, fun _ _ => 0, fun _ => 0, fun _ => 0)
/-- items as they are made -/
def it_put (b : BxT) (p1 : Int32) : Nat → Int32 := fun k => match k with
  | 0 => 1
  | 1 => b.1 0
  | 2 => b.1 1 - p1
  | 3 => b.1 2 + p1
  | _ => 0
def it_kern (p0 : Int32) : Nat → Int32 := fun k => match k with
  | 0 => 3
  | 1 => p0
  | _ => 0
def it_rule (p0 p1 p2 : Int32) : Nat → Int32 := fun k => match k with
  | 0 => 4
  | 1 => p0
  | 2 => p1
  | 3 => p2
  | _ => 0
def it_glue (p0 p1 p2 p3 p4 kd bl : Int32) : Nat → Int32 := fun k => match k with
  | 0 => 2
  | 1 => p0
  | 4 => p1
  | 5 => p2
  | 6 => p3
  | 7 => p4
  | 8 => kd
  | 9 => bl
  | _ => 0
set_option maxHeartbeats 4000000 in
set_option maxRecDepth 100000 in
theorem c_BG_box_bad (l : Launch) (g : KGt) (H0 : Heap) (I M : Nat → Prop) (x n : Nat) (its : Nat → Nat → Int32) (nb : Nat) (bs : Nat → BxT) (ib : Nat) (inv : kInv g I M x n its nb bs ib H0) (p0 : Int32) (p1 : Int32) (p2 : Int32) (h : f_BG_isExtent p0 = 0 ∨ f_BG_isExtent p1 = 0 ∨ f_BG_isExtent p2 = 0) : Met l y_BG_box (kW y_BG_box b_BG_box 4 (.some .int)) ({ frames := 1, cells := 0, slots := 0, locals := 20 }) (kPc [.ref x, .int p0, .int p1, .int p2] (KK g) H0) (kQc (kPure (.int (-1)) H0)) 0 0 (fun _ => False) := by
  refine Met.ofW (cc := b_BG_box) (maxL := 4) (ret := (.some .int)) (by decide) rfl ?_
  intro p e s m args below meth c s₁ B hml hv
  obtain ⟨rfl, hH, hKK⟩ := hv
  have hx := B.exec
  have hb := B.bytes
  have hr := B.returns
  have hts := kW_ts (atoms_spec (ws := kW y_BG_box b_BG_box 4 (.some .int)) B.pre)
  have hown : s.vm.findClass "BoxGlue" = some m.cls := findClass_of_methodNamed B.named
  have hlocks := B.notSynchronized
  have hK := hKK.1
  subst hH
  have hl := lv_entry ([.ref x, .int p0, .int p1, .int p2]) (n := 4) (Nat.le_of_ble_eq_true rfl)
  rw [lg_entry_eq]
  generalize (lg_sl ([.ref x, .int p0, .int p1, .int p2]) ++ List.replicate (4 - (lg_sl ([.ref x, .int p0, .int p1, .int p2])).length) Slot.unset).toArray = ls at hl ⊢
  have hl : lv_has ls 4 [(0, .ref x), (1, .int p0), (2, .int p1), (3, .int p2)] := hl
  obtain ⟨la, larr, lcap, ma, marr, mcap, el, bel, xo, al, am, hit, hbx, hM, hne, hMI, hMg, hIl, hB, hn, hnb⟩ := id inv
  refine lv_iload_n hx hb d_BG_box_0 rfl (lv_at hl 1 rfl) ?_
  refine k_pure (r := .int (f_BG_isExtent p0)) (W.runS (As := [.int p0]) (rest := []) ⟨hx, hb, hml, hown, hts⟩ (c_BG_isExtent l g s.heap p0) (va_cwS 1 hts (kS_good kw_71 kw_69 kw_70 kw_1) rfl rfl rfl (by decide +kernel) ⟨Nat.le_of_ble_eq_true rfl, Nat.le_of_ble_eq_true rfl⟩) (k_pre (KK_st g) hKK) rfl rfl hl.1 rfl (lv_room (Nat.le_of_ble_eq_true rfl)) d_BG_box_1 ⟨Nat.zero_le _, Nat.zero_le _⟩) ?_
  refine lv_if_eq (tgt := 21) hx hb d_BG_box_4 (by decide) (fun c_1 => ?_) (fun c_1 => ?_)
  · skip
    refine lv_iconst (v := (-1)) hx hb d_BG_box_21 (by decide) ?_
    exact W.iret (v := (-1)) hx hb hr (fun t ht hW => ⟨_, rfl, rfl, ht⟩) (fun _ h => by cases h) d_BG_box_22
  · skip
    refine lv_iload_n hx hb d_BG_box_7 rfl (lv_at hl 2 rfl) ?_
    refine k_pure (r := .int (f_BG_isExtent p1)) (W.runS (As := [.int p1]) (rest := []) ⟨hx, hb, hml, hown, hts⟩ (c_BG_isExtent l g s.heap p1) (va_cwS 1 hts (kS_good kw_71 kw_69 kw_70 kw_1) rfl rfl rfl (by decide +kernel) ⟨Nat.le_of_ble_eq_true rfl, Nat.le_of_ble_eq_true rfl⟩) (k_pre (KK_st g) hKK) rfl rfl hl.1 rfl (lv_room (Nat.le_of_ble_eq_true rfl)) d_BG_box_8 ⟨Nat.zero_le _, Nat.zero_le _⟩) ?_
    refine lv_if_eq (tgt := 21) hx hb d_BG_box_11 (by decide) (fun c_2 => ?_) (fun c_2 => ?_)
    · skip
      refine lv_iconst (v := (-1)) hx hb d_BG_box_21 (by decide) ?_
      exact W.iret (v := (-1)) hx hb hr (fun t ht hW => ⟨_, rfl, rfl, ht⟩) (fun _ h => by cases h) d_BG_box_22
    · skip
      refine lv_iload_n hx hb d_BG_box_14 rfl (lv_at hl 3 rfl) ?_
      refine k_pure (r := .int (f_BG_isExtent p2)) (W.runS (As := [.int p2]) (rest := []) ⟨hx, hb, hml, hown, hts⟩ (c_BG_isExtent l g s.heap p2) (va_cwS 1 hts (kS_good kw_71 kw_69 kw_70 kw_1) rfl rfl rfl (by decide +kernel) ⟨Nat.le_of_ble_eq_true rfl, Nat.le_of_ble_eq_true rfl⟩) (k_pre (KK_st g) hKK) rfl rfl hl.1 rfl (lv_room (Nat.le_of_ble_eq_true rfl)) d_BG_box_15 ⟨Nat.zero_le _, Nat.zero_le _⟩) ?_
      refine lv_if_ne (tgt := 23) hx hb d_BG_box_18 (by decide) (fun c_3 => ?_) (fun c_3 => ?_)
      · skip
        rcases h with h | h | h <;> contradiction
      · skip
        refine lv_iconst (v := (-1)) hx hb d_BG_box_21 (by decide) ?_
        exact W.iret (v := (-1)) hx hb hr (fun t ht hW => ⟨_, rfl, rfl, ht⟩) (fun _ h => by cases h) d_BG_box_22
set_option maxHeartbeats 4000000 in
set_option maxRecDepth 100000 in
theorem c_BG_box_full (l : Launch) (g : KGt) (H0 : Heap) (I M : Nat → Prop) (x n : Nat) (its : Nat → Nat → Int32) (nb : Nat) (bs : Nat → BxT) (ib : Nat) (inv : kInv g I M x n its nb bs ib H0) (p0 p1 p2 : Int32) (h0 : ¬ f_BG_isExtent p0 = 0) (h1 : ¬ f_BG_isExtent p1 = 0) (h2 : ¬ f_BG_isExtent p2 = 0) (h : nb = 60) : Met l y_BG_box (kW y_BG_box b_BG_box 4 (.some .int)) ({ frames := 1, cells := 0, slots := 0, locals := 20 }) (kPc [.ref x, .int p0, .int p1, .int p2] (KK g) H0) (kQc (kPure (.int (-2)) H0)) 0 0 (fun _ => False) := by
  refine Met.ofW (cc := b_BG_box) (maxL := 4) (ret := (.some .int)) (by decide) rfl ?_
  intro p e s m args below meth c s₁ B hml hv
  obtain ⟨rfl, hH, hKK⟩ := hv
  have hx := B.exec
  have hb := B.bytes
  have hr := B.returns
  have hts := kW_ts (atoms_spec (ws := kW y_BG_box b_BG_box 4 (.some .int)) B.pre)
  have hown : s.vm.findClass "BoxGlue" = some m.cls := findClass_of_methodNamed B.named
  have hlocks := B.notSynchronized
  have hK := hKK.1
  subst hH
  have hl := lv_entry ([.ref x, .int p0, .int p1, .int p2]) (n := 4) (Nat.le_of_ble_eq_true rfl)
  rw [lg_entry_eq]
  generalize (lg_sl ([.ref x, .int p0, .int p1, .int p2]) ++ List.replicate (4 - (lg_sl ([.ref x, .int p0, .int p1, .int p2])).length) Slot.unset).toArray = ls at hl ⊢
  have hl : lv_has ls 4 [(0, .ref x), (1, .int p0), (2, .int p1), (3, .int p2)] := hl
  obtain ⟨la, larr, lcap, ma, marr, mcap, el, bel, xo, al, am, hit, hbx, hM, hne, hMI, hMg, hIl, hB, hn, hnb⟩ := id inv
  refine lv_iload_n hx hb d_BG_box_0 rfl (lv_at hl 1 rfl) ?_
  refine k_pure (r := .int (f_BG_isExtent p0)) (W.runS (As := [.int p0]) (rest := []) ⟨hx, hb, hml, hown, hts⟩ (c_BG_isExtent l g s.heap p0) (va_cwS 1 hts (kS_good kw_71 kw_69 kw_70 kw_1) rfl rfl rfl (by decide +kernel) ⟨Nat.le_of_ble_eq_true rfl, Nat.le_of_ble_eq_true rfl⟩) (k_pre (KK_st g) hKK) rfl rfl hl.1 rfl (lv_room (Nat.le_of_ble_eq_true rfl)) d_BG_box_1 ⟨Nat.zero_le _, Nat.zero_le _⟩) ?_
  refine lv_if_eq (tgt := 21) hx hb d_BG_box_4 (by decide) (fun c_1 => ?_) (fun c_1 => ?_)
  · exact absurd c_1 h0
  refine lv_iload_n hx hb d_BG_box_7 rfl (lv_at hl 2 rfl) ?_
  refine k_pure (r := .int (f_BG_isExtent p1)) (W.runS (As := [.int p1]) (rest := []) ⟨hx, hb, hml, hown, hts⟩ (c_BG_isExtent l g s.heap p1) (va_cwS 1 hts (kS_good kw_71 kw_69 kw_70 kw_1) rfl rfl rfl (by decide +kernel) ⟨Nat.le_of_ble_eq_true rfl, Nat.le_of_ble_eq_true rfl⟩) (k_pre (KK_st g) hKK) rfl rfl hl.1 rfl (lv_room (Nat.le_of_ble_eq_true rfl)) d_BG_box_8 ⟨Nat.zero_le _, Nat.zero_le _⟩) ?_
  refine lv_if_eq (tgt := 21) hx hb d_BG_box_11 (by decide) (fun c_2 => ?_) (fun c_2 => ?_)
  · exact absurd c_2 h1
  refine lv_iload_n hx hb d_BG_box_14 rfl (lv_at hl 3 rfl) ?_
  refine k_pure (r := .int (f_BG_isExtent p2)) (W.runS (As := [.int p2]) (rest := []) ⟨hx, hb, hml, hown, hts⟩ (c_BG_isExtent l g s.heap p2) (va_cwS 1 hts (kS_good kw_71 kw_69 kw_70 kw_1) rfl rfl rfl (by decide +kernel) ⟨Nat.le_of_ble_eq_true rfl, Nat.le_of_ble_eq_true rfl⟩) (k_pre (KK_st g) hKK) rfl rfl hl.1 rfl (lv_room (Nat.le_of_ble_eq_true rfl)) d_BG_box_15 ⟨Nat.zero_le _, Nat.zero_le _⟩) ?_
  refine lv_if_ne (tgt := 23) hx hb d_BG_box_18 (by decide) (fun c_3 => ?_) (fun c_3 => ?_)
  rotate_left
  · exact absurd c_3 h2
  refine lv_aload_n hx hb d_BG_box_23 rfl (lv_at hl 0 rfl) ?_
  refine va_get (D := g.1) (ci := 0) (v := .ref ma) (C := "BoxGlue") (T := kT_BG) (N := 3) hx hb hts ki_BG hown hK (k_one xo) 0 rfl rfl 1 (by decide) (hts _ kw_56) (fun _ h9 => h9) rfl d_BG_box_24 ?_
  refine k_pure (r := .int (nI nb)) (W.runV (As := []) (rest := []) ⟨hx, hb, hml, hown, hts⟩ (c_AL_size l g s.heap ma nb bel ⟨_, _, am⟩) (cwV 0 hts (kV_good kw_76 kw_73 kw_74 kw_75 kw_4) rfl rfl rfl (by decide +kernel) ⟨Nat.le_of_ble_eq_true rfl, Nat.le_of_ble_eq_true rfl⟩) (k_preV (KK_st g) hKK (kAL.recv ⟨_, _, am⟩ hK)) rfl rfl hl.1 rfl (lv_room (Nat.le_of_ble_eq_true rfl)) d_BG_box_27 ⟨Nat.zero_le _, Nat.zero_le _⟩) ?_
  refine lv_bipush (v := 60) hx hb d_BG_box_30 (by decide) ?_
  refine lv_icmp_lt (tgt := 38) hx hb d_BG_box_32 (by decide) (fun c_4 => ?_) (fun c_4 => ?_)
  · exact absurd c_4 (by rw [h]; decide)
  refine lv_bipush (v := (-2)) hx hb d_BG_box_35 (by decide) ?_
  exact W.iret (v := (-2)) hx hb hr (fun t ht hW => ⟨_, rfl, rfl, ht⟩) (fun _ h => by cases h) d_BG_box_37
set_option maxHeartbeats 4000000 in
set_option maxRecDepth 100000 in
theorem c_BG_box_ok (l : Launch) (g : KGt) (H0 : Heap) (I M : Nat → Prop) (x n : Nat) (its : Nat → Nat → Int32) (nb : Nat) (bs : Nat → BxT) (ib : Nat) (inv : kInv g I M x n its nb bs ib H0) (p0 p1 p2 : Int32) (h0 : ¬ f_BG_isExtent p0 = 0) (h1 : ¬ f_BG_isExtent p1 = 0) (h2 : ¬ f_BG_isExtent p2 = 0) (h : nb < 60) : Met l y_BG_box (kW y_BG_box b_BG_box 4 (.some .int)) ({ frames := 7, cells := 4, slots := 112, locals := 171 }) (kPc [.ref x, .int p0, .int p1, .int p2] (KK g) H0) (kQc (kPost g I M x n its (nb + 1) (va_up bs nb (bx0 p0 p1 p2)) ib (.int (nI nb)) H0)) 4 112 (fun q : Nat => M q ∨ H0.size ≤ q) := by
  refine Met.ofW (cc := b_BG_box) (maxL := 4) (ret := (.some .int)) (by decide) rfl ?_
  intro p e s m args below meth c s₁ B hml hv
  obtain ⟨rfl, hH, hKK⟩ := hv
  have hx := B.exec
  have hb := B.bytes
  have hr := B.returns
  have hts := kW_ts (atoms_spec (ws := kW y_BG_box b_BG_box 4 (.some .int)) B.pre)
  have hown : s.vm.findClass "BoxGlue" = some m.cls := findClass_of_methodNamed B.named
  have hlocks := B.notSynchronized
  have hK := hKK.1
  subst hH
  have hl := lv_entry ([.ref x, .int p0, .int p1, .int p2]) (n := 4) (Nat.le_of_ble_eq_true rfl)
  rw [lg_entry_eq]
  generalize (lg_sl ([.ref x, .int p0, .int p1, .int p2]) ++ List.replicate (4 - (lg_sl ([.ref x, .int p0, .int p1, .int p2])).length) Slot.unset).toArray = ls at hl ⊢
  have hl : lv_has ls 4 [(0, .ref x), (1, .int p0), (2, .int p1), (3, .int p2)] := hl
  obtain ⟨la, larr, lcap, ma, marr, mcap, el, bel, xo, al, am, hit, hbx, hM, hne, hMI, hMg, hIl, hB, hn, hnb⟩ := id inv
  refine lv_iload_n hx hb d_BG_box_0 rfl (lv_at hl 1 rfl) ?_
  refine k_pure (r := .int (f_BG_isExtent p0)) (W.runS (As := [.int p0]) (rest := []) ⟨hx, hb, hml, hown, hts⟩ (c_BG_isExtent l g s.heap p0) (va_cwS 1 hts (kS_good kw_71 kw_69 kw_70 kw_1) rfl rfl rfl (by decide +kernel) ⟨Nat.le_of_ble_eq_true rfl, Nat.le_of_ble_eq_true rfl⟩) (k_pre (KK_st g) hKK) rfl rfl hl.1 rfl (lv_room (Nat.le_of_ble_eq_true rfl)) d_BG_box_1 ⟨Nat.zero_le _, Nat.zero_le _⟩) ?_
  refine lv_if_eq (tgt := 21) hx hb d_BG_box_4 (by decide) (fun c_1 => ?_) (fun c_1 => ?_)
  · exact absurd c_1 h0
  refine lv_iload_n hx hb d_BG_box_7 rfl (lv_at hl 2 rfl) ?_
  refine k_pure (r := .int (f_BG_isExtent p1)) (W.runS (As := [.int p1]) (rest := []) ⟨hx, hb, hml, hown, hts⟩ (c_BG_isExtent l g s.heap p1) (va_cwS 1 hts (kS_good kw_71 kw_69 kw_70 kw_1) rfl rfl rfl (by decide +kernel) ⟨Nat.le_of_ble_eq_true rfl, Nat.le_of_ble_eq_true rfl⟩) (k_pre (KK_st g) hKK) rfl rfl hl.1 rfl (lv_room (Nat.le_of_ble_eq_true rfl)) d_BG_box_8 ⟨Nat.zero_le _, Nat.zero_le _⟩) ?_
  refine lv_if_eq (tgt := 21) hx hb d_BG_box_11 (by decide) (fun c_2 => ?_) (fun c_2 => ?_)
  · exact absurd c_2 h1
  refine lv_iload_n hx hb d_BG_box_14 rfl (lv_at hl 3 rfl) ?_
  refine k_pure (r := .int (f_BG_isExtent p2)) (W.runS (As := [.int p2]) (rest := []) ⟨hx, hb, hml, hown, hts⟩ (c_BG_isExtent l g s.heap p2) (va_cwS 1 hts (kS_good kw_71 kw_69 kw_70 kw_1) rfl rfl rfl (by decide +kernel) ⟨Nat.le_of_ble_eq_true rfl, Nat.le_of_ble_eq_true rfl⟩) (k_pre (KK_st g) hKK) rfl rfl hl.1 rfl (lv_room (Nat.le_of_ble_eq_true rfl)) d_BG_box_15 ⟨Nat.zero_le _, Nat.zero_le _⟩) ?_
  refine lv_if_ne (tgt := 23) hx hb d_BG_box_18 (by decide) (fun c_3 => ?_) (fun c_3 => ?_)
  rotate_left
  · exact absurd c_3 h2
  refine lv_aload_n hx hb d_BG_box_23 rfl (lv_at hl 0 rfl) ?_
  refine va_get (D := g.1) (ci := 0) (v := .ref ma) (C := "BoxGlue") (T := kT_BG) (N := 3) hx hb hts ki_BG hown hK (k_one xo) 0 rfl rfl 1 (by decide) (hts _ kw_56) (fun _ h9 => h9) rfl d_BG_box_24 ?_
  refine k_pure (r := .int (nI nb)) (W.runV (As := []) (rest := []) ⟨hx, hb, hml, hown, hts⟩ (c_AL_size l g s.heap ma nb bel ⟨_, _, am⟩) (cwV 0 hts (kV_good kw_76 kw_73 kw_74 kw_75 kw_4) rfl rfl rfl (by decide +kernel) ⟨Nat.le_of_ble_eq_true rfl, Nat.le_of_ble_eq_true rfl⟩) (k_preV (KK_st g) hKK (kAL.recv ⟨_, _, am⟩ hK)) rfl rfl hl.1 rfl (lv_room (Nat.le_of_ble_eq_true rfl)) d_BG_box_27 ⟨Nat.zero_le _, Nat.zero_le _⟩) ?_
  refine lv_bipush (v := 60) hx hb d_BG_box_30 (by decide) ?_
  refine lv_icmp_lt (tgt := 38) hx hb d_BG_box_32 (by decide) (fun c_4 => ?_) (fun c_4 => ?_)
  rotate_left
  · exact absurd c_4 (fun q => q (by rw [show (60 : Int32) = nI 60 from rfl]; exact nI_lt h (by decide)))
  refine lv_aload_n hx hb d_BG_box_38 rfl (lv_at hl 0 rfl) ?_
  refine va_get (D := g.1) (ci := 0) (v := .ref ma) (C := "BoxGlue") (T := kT_BG) (N := 3) hx hb hts ki_BG hown hK (k_one xo) 0 rfl rfl 1 (by decide) (hts _ kw_56) (fun _ h9 => h9) rfl d_BG_box_39 ?_
  refine lv_iload_n hx hb d_BG_box_42 rfl (lv_at hl 1 rfl) ?_
  refine lv_iload_n hx hb d_BG_box_43 rfl (lv_at hl 2 rfl) ?_
  refine lv_iload_n hx hb d_BG_box_44 rfl (lv_at hl 3 rfl) ?_
  refine k_call (A := (fun q : Nat => M q ∨ s.heap.size ≤ q)) (W.runS (As := [.int p0, .int p1, .int p2]) (rest := [.ref ma]) ⟨hx, hb, hml, hown, hts⟩ (c_Box_bare l g s.heap hB p0 p1 p2) (va_cwS 3 hts (kS_good kw_79 kw_77 kw_78 kw_6) rfl rfl rfl (by decide +kernel) ⟨Nat.le_of_ble_eq_true rfl, Nat.le_of_ble_eq_true rfl⟩) (k_pre (KK_st g) hKK) rfl rfl hl.1 rfl (lv_room (Nat.le_of_ble_eq_true rfl)) d_BG_box_45 ⟨Nat.le_of_ble_eq_true rfl, Nat.le_of_ble_eq_true rfl⟩) (fun _ h => by cases h) (fun q h => Or.inr h) (fun v H locs hv hL => ?_)
  obtain ⟨bq, fq, cq, rfl, g1, g2, g3, hE, bo, fo, co⟩ := hv
  have iw := kInvW.more (⟨xo, al, am, hit, hbx, hM, hne, hMI, hMg, hIl, hB, hn, hnb⟩ : kInvW g I M x n its nb bs ib la larr lcap ma marr mcap el bel s.heap) hE (J := fun q => I q ∨ q = bq ∨ q = fq ∨ q = cq) (fun q h => Or.inl h) (fun q h => by rcases h with h | rfl | rfl | rfl; exact Or.inl h; exact Or.inr ⟨g1, bo.lt⟩; exact Or.inr ⟨g2, fo.lt⟩; exact Or.inr ⟨g3, co.lt⟩)
  obtain ⟨xo, al, am, hit, hbx, hM, hne, hMI, hMg, hIl, hB, hn, hnb⟩ := iw
  have hbn : kBox g (fun q => I q ∨ q = bq ∨ q = fq ∨ q = cq) bq (bx0 p0 p1 p2) H := ⟨Or.inr (Or.inl rfl), cq, fq, g.2.2.2.1, 0, fun _ => 0, bo, Or.inr (Or.inr (Or.inl rfl)), fo, Or.inr (Or.inr (Or.inr rfl)), fun h => absurd h (by omega), ⟨0, by show va_at g.1 kcl (cq, .inr (1, [.ref g.2.2.2.1, .int (nI 0), .int 0])) H; rw [nI_0]; exact co, Or.inl ⟨rfl, rfl, rfl⟩⟩, fun i hi => absurd hi (Nat.not_lt_zero i)⟩
  refine k_call (A := (fun q : Nat => M q ∨ s.heap.size ≤ q)) (W.runV (As := [.ref bq]) (rest := []) ⟨hx, hb, hml, hown, hts⟩ (c_AL_add l g H ma marr mcap nb bq bel hB am (hMg ma hM.2.2.1).1 (by omega) (fun i hi => (hbx i hi).obj) hbn.obj) (cwV 1 hts (kV_good kw_135 kw_132 kw_133 kw_134 kw_4) rfl rfl rfl (by decide +kernel) ⟨Nat.le_of_ble_eq_true rfl, Nat.le_of_ble_eq_true rfl⟩) (k_preV (KK_st g) hKK (kAL.recv ⟨_, _, am⟩ hK)) rfl rfl hl.1 rfl (lv_room (Nat.le_of_ble_eq_true rfl)) d_BG_box_48 ⟨Nat.le_of_ble_eq_true rfl, Nat.le_of_ble_eq_true rfl⟩) hL (fun q h => by rcases h with h | h | h; rw [h]; exact Or.inl hM.2.2.1; rw [h.1]; exact Or.inl (hM.2.2.2.2 h.2); exact Or.inr (Nat.le_trans hE.1 h)) (fun v H2 locs hv hL => ?_)
  obtain ⟨rfl, arr2, cap2, hE2, h4, am2⟩ := hv
  have hA2 : ∀ q, (q = ma ∨ (q = marr ∧ 0 < mcap)) → M q := fun q h => by rcases h with h | h; rw [h]; exact hM.2.2.1; rw [h.1]; exact hM.2.2.2.2 h.2
  have hbx2 : ∀ i, i < nb + 1 → kBox g (fun q => I q ∨ q = bq ∨ q = fq ∨ q = cq) (va_up bel nb bq i) (va_up bs nb (bx0 p0 p1 p2) i) H2 := by
    intro i hi
    by_cases e : i = nb
    · subst e; rw [va_up_self, va_up_self]; exact hbn.kept (fun _ h => h) (fun q hq hl => hE2.2 q hl (fun h => hMI q (hA2 q h) hq))
    · rw [va_up_ne _ _ e, va_up_ne _ _ e]; exact (hbx i (by omega)).kept (fun _ h => h) (fun q hq hl => hE2.2 q hl (fun h => hMI q (hA2 q h) hq))
  obtain ⟨hEM, N, inv2, hN⟩ := kInv.made hK xo al am hit hbx hM hne hMI hMg hIl hB hn hE2 am2 h4 hbx2 (by omega)
  have xo := hE2.at xo (am.apartX hK xo)
  refine lv_pop hx hb d_BG_box_51 rfl ?_
  refine lv_aload_n hx hb d_BG_box_52 rfl (lv_at hl 0 rfl) ?_
  refine va_get (D := g.1) (ci := 0) (v := .ref ma) (C := "BoxGlue") (T := kT_BG) (N := 3) hx hb hts ki_BG hown hK (k_one xo) 0 rfl rfl 1 (by decide) (hts _ kw_56) (fun _ h9 => h9) rfl d_BG_box_53 ?_
  refine k_pure (r := .int (nI (nb + 1))) (W.runV (As := []) (rest := []) ⟨hx, hb, hml, hown, hts⟩ (c_AL_size l g H2 ma (nb + 1) (va_up bel nb bq) ⟨_, _, am2⟩) (cwV 0 hts (kV_good kw_76 kw_73 kw_74 kw_75 kw_4) rfl rfl rfl (by decide +kernel) ⟨Nat.le_of_ble_eq_true rfl, Nat.le_of_ble_eq_true rfl⟩) (k_preV (KK_st g) hKK (kAL.recv ⟨_, _, am2⟩ hK)) rfl rfl hl.1 rfl (lv_room (Nat.le_of_ble_eq_true rfl)) d_BG_box_56 ⟨Nat.le_of_ble_eq_true rfl, Nat.le_of_ble_eq_true rfl⟩) ?_
  refine lv_iconst (v := 1) hx hb d_BG_box_59 (by decide) ?_
  refine lv_isub hx hb d_BG_box_60 ?_
  rw [nI_pred]
  exact W.iret (v := (nI nb)) hx hb hr (fun t ht hW => ⟨_, rfl, rfl, by rw [ht]; exact (hE.wk (fun _ _ h => h.elim)).tr hEM (fun _ _ h => h), (fun q => I q ∨ q = bq ∨ q = fq ∨ q = cq), N, by rw [ht]; exact inv2.inv, fun q h => (hN q h).elim Or.inl (fun h => Or.inr (Nat.le_trans hE.1 h)), (fun q h => by rcases h with h | h | h | h; exact Or.inl h; rw [h]; exact Or.inr g1; rw [h]; exact Or.inr g2; rw [h]; exact Or.inr g3)⟩) hL d_BG_box_61
set_option maxHeartbeats 4000000 in
set_option maxRecDepth 100000 in
theorem c_BG_kern_bad (l : Launch) (g : KGt) (H0 : Heap) (I M : Nat → Prop) (x n : Nat) (its : Nat → Nat → Int32) (nb : Nat) (bs : Nat → BxT) (ib : Nat) (inv : kInv g I M x n its nb bs ib H0) (p0 : Int32) (h : f_BG_isLength p0 = 0) : Met l y_BG_kern (kW y_BG_kern b_BG_kern 2 (.some .int)) ({ frames := 1, cells := 0, slots := 0, locals := 20 }) (kPc [.ref x, .int p0] (KK g) H0) (kQc (kPure (.int (-1)) H0)) 0 0 (fun _ => False) := by
  refine Met.ofW (cc := b_BG_kern) (maxL := 2) (ret := (.some .int)) (by decide) rfl ?_
  intro p e s m args below meth c s₁ B hml hv
  obtain ⟨rfl, hH, hKK⟩ := hv
  have hx := B.exec
  have hb := B.bytes
  have hr := B.returns
  have hts := kW_ts (atoms_spec (ws := kW y_BG_kern b_BG_kern 2 (.some .int)) B.pre)
  have hown : s.vm.findClass "BoxGlue" = some m.cls := findClass_of_methodNamed B.named
  have hlocks := B.notSynchronized
  have hK := hKK.1
  subst hH
  have hl := lv_entry ([.ref x, .int p0]) (n := 2) (Nat.le_of_ble_eq_true rfl)
  rw [lg_entry_eq]
  generalize (lg_sl ([.ref x, .int p0]) ++ List.replicate (2 - (lg_sl ([.ref x, .int p0])).length) Slot.unset).toArray = ls at hl ⊢
  have hl : lv_has ls 2 [(0, .ref x), (1, .int p0)] := hl
  obtain ⟨la, larr, lcap, ma, marr, mcap, el, bel, xo, al, am, hit, hbx, hM, hne, hMI, hMg, hIl, hB, hn, hnb⟩ := id inv
  refine lv_iload_n hx hb d_BG_kern_0 rfl (lv_at hl 1 rfl) ?_
  refine k_pure (r := .int (f_BG_isLength p0)) (W.runS (As := [.int p0]) (rest := []) ⟨hx, hb, hml, hown, hts⟩ (c_BG_isLength l g s.heap p0) (va_cwS 1 hts (kS_good kw_200 kw_198 kw_199 kw_1) rfl rfl rfl (by decide +kernel) ⟨Nat.le_of_ble_eq_true rfl, Nat.le_of_ble_eq_true rfl⟩) (k_pre (KK_st g) hKK) rfl rfl hl.1 rfl (lv_room (Nat.le_of_ble_eq_true rfl)) d_BG_kern_1 ⟨Nat.zero_le _, Nat.zero_le _⟩) ?_
  refine lv_if_ne (tgt := 9) hx hb d_BG_kern_4 (by decide) (fun c_1 => ?_) (fun c_1 => ?_)
  · skip
    rcases h with h <;> contradiction
  · skip
    refine lv_iconst (v := (-1)) hx hb d_BG_kern_7 (by decide) ?_
    exact W.iret (v := (-1)) hx hb hr (fun t ht hW => ⟨_, rfl, rfl, ht⟩) (fun _ h => by cases h) d_BG_kern_8
set_option maxHeartbeats 4000000 in
set_option maxRecDepth 100000 in
theorem c_BG_kern_full (l : Launch) (g : KGt) (H0 : Heap) (I M : Nat → Prop) (x n : Nat) (its : Nat → Nat → Int32) (nb : Nat) (bs : Nat → BxT) (ib : Nat) (inv : kInv g I M x n its nb bs ib H0) (p0 : Int32) (h0 : ¬ f_BG_isLength p0 = 0) (hfull : n = 40) : Met l y_BG_kern (kW y_BG_kern b_BG_kern 2 (.some .int)) ({ frames := 8, cells := 2, slots := 102, locals := 192 }) (kPc [.ref x, .int p0] (KK g) H0) (kQc (kPost g I M x n its nb bs ib (.int (-2)) H0)) 2 102 (fun q : Nat => M q ∨ H0.size ≤ q) := by
  refine Met.ofW (cc := b_BG_kern) (maxL := 2) (ret := (.some .int)) (by decide) rfl ?_
  intro p e s m args below meth c s₁ B hml hv
  obtain ⟨rfl, hH, hKK⟩ := hv
  have hx := B.exec
  have hb := B.bytes
  have hr := B.returns
  have hts := kW_ts (atoms_spec (ws := kW y_BG_kern b_BG_kern 2 (.some .int)) B.pre)
  have hown : s.vm.findClass "BoxGlue" = some m.cls := findClass_of_methodNamed B.named
  have hlocks := B.notSynchronized
  have hK := hKK.1
  subst hH
  have hl := lv_entry ([.ref x, .int p0]) (n := 2) (Nat.le_of_ble_eq_true rfl)
  rw [lg_entry_eq]
  generalize (lg_sl ([.ref x, .int p0]) ++ List.replicate (2 - (lg_sl ([.ref x, .int p0])).length) Slot.unset).toArray = ls at hl ⊢
  have hl : lv_has ls 2 [(0, .ref x), (1, .int p0)] := hl
  obtain ⟨la, larr, lcap, ma, marr, mcap, el, bel, xo, al, am, hit, hbx, hM, hne, hMI, hMg, hIl, hB, hn, hnb⟩ := id inv
  refine lv_iload_n hx hb d_BG_kern_0 rfl (lv_at hl 1 rfl) ?_
  refine k_pure (r := .int (f_BG_isLength p0)) (W.runS (As := [.int p0]) (rest := []) ⟨hx, hb, hml, hown, hts⟩ (c_BG_isLength l g s.heap p0) (va_cwS 1 hts (kS_good kw_200 kw_198 kw_199 kw_1) rfl rfl rfl (by decide +kernel) ⟨Nat.le_of_ble_eq_true rfl, Nat.le_of_ble_eq_true rfl⟩) (k_pre (KK_st g) hKK) rfl rfl hl.1 rfl (lv_room (Nat.le_of_ble_eq_true rfl)) d_BG_kern_1 ⟨Nat.zero_le _, Nat.zero_le _⟩) ?_
  refine lv_if_ne (tgt := 9) hx hb d_BG_kern_4 (by decide) (fun c_1 => ?_) (fun c_1 => ?_)
  rotate_left
  · exact absurd c_1 h0
  refine lv_aload_n hx hb d_BG_kern_9 rfl (lv_at hl 0 rfl) ?_
  refine k_new (D := g.1) (ci := 6) (fs := [.int 0, .int 0]) (C := "BoxGlue$Kern") (T := kT_Kern) (N := 2) hx hb hts ki_Kern kt_Kern ko_Kern hown (hts _ kw_296) (hts _ kw_297) (hts _ kw_18) hK rfl (fun j hj => by rcases (show j = 0 ∨ j = 1 by omega) with rfl | rfl <;> rfl) (Nat.le_of_ble_eq_true rfl) (Nat.le_of_ble_eq_true rfl) d_BG_kern_10 (fun a H1 e_a po hN => ?_)
  refine lv_dup hx hb d_BG_kern_13 rfl ?_
  refine lv_iload_n hx hb d_BG_kern_14 rfl (lv_at hl 1 rfl) ?_
  refine k_call (A := (fun q : Nat => M q ∨ s.heap.size ≤ q)) (W.runI (As := [.int p0]) (rest := [.ref a, .ref x]) ⟨hx, hb, hml, hown, hts⟩ (c_Kern_init l g H1 a p0 po) (cwI 1 hts (kW_good kw_300) rfl rfl rfl (hts _ kw_18) (hts _ kw_298) (hts _ kw_299) rfl (by decide +kernel) ⟨Nat.le_of_ble_eq_true rfl, Nat.le_of_ble_eq_true rfl⟩) (k_pre (KK_st g) hKK) rfl rfl hl.1 rfl (lv_room (Nat.le_of_ble_eq_true rfl)) d_BG_kern_15 ⟨Nat.le_of_ble_eq_true rfl, Nat.le_of_ble_eq_true rfl⟩) (fun _ h => by cases h) (fun q h => by rcases h with h | h; rw [h, e_a]; exact Or.inr (Nat.le_refl _); exact Or.inr (Nat.le_trans hN.1 h)) (fun v H locs hv hL => ?_)
  obtain ⟨rfl, hE2, o2⟩ := hv
  have hE : kE (fun _ => False) s.heap H := hN.tr hE2 (fun z hz h => by omega)
  have iw := kInvW.more (⟨xo, al, am, hit, hbx, hM, hne, hMI, hMg, hIl, hB, hn, hnb⟩ : kInvW g I M x n its nb bs ib la larr lcap ma marr mcap el bel s.heap) hE (J := fun q => I q ∨ q = a) (fun q h => Or.inl h) (fun q h => by rcases h with h | rfl; exact Or.inl h; exact Or.inr ⟨by omega, o2.lt⟩)
  have hJ : ∀ q, (I q ∨ q = a) → I q ∨ s.heap.size ≤ q := fun q h => by rcases h with h | h; exact Or.inl h; rw [h, e_a]; exact Or.inr (Nat.le_refl _)
  have ha : kItem g (fun q => I q ∨ q = a) a (it_kern p0) H := ⟨Or.inr rfl, Or.inr (Or.inr (Or.inl ⟨rfl, o2⟩))⟩
  refine k_pure (r := .int (-2)) (W.runV (As := [.ref a]) (rest := []) ⟨hx, hb, hml, hown, hts⟩ (c_BG_append_full l g H (fun q => I q ∨ q = a) M x n its nb bs ib iw.inv a hfull) (cwV 1 hts (kV_good kw_247 kw_244 kw_246 ks_BG_append kw_1) rfl rfl rfl (by decide +kernel) ⟨Nat.le_of_ble_eq_true rfl, Nat.le_of_ble_eq_true rfl⟩) (k_preV (KK_st g) hKK (va_recv hK (k_one iw.1) (ci := 0) (q0 := 0) rfl rfl)) rfl rfl hl.1 rfl (lv_room (Nat.le_of_ble_eq_true rfl)) d_BG_kern_18 ⟨Nat.le_of_ble_eq_true rfl, Nat.le_of_ble_eq_true rfl⟩) ?_
  refine W.widen (k := 2) (n := 102) (by omega) (by omega) ?_
  exact W.iret (v := (-2)) hx hb hr (fun t ht hW => ⟨_, rfl, rfl, by rw [ht]; exact hE.wk (fun _ _ h => h.elim), (fun q => I q ∨ q = a), M, by rw [ht]; exact iw.inv, fun _ h => Or.inl h, hJ⟩) hL d_BG_kern_21
set_option maxHeartbeats 4000000 in
set_option maxRecDepth 100000 in
theorem c_BG_kern_ok (l : Launch) (g : KGt) (H0 : Heap) (I M : Nat → Prop) (x n : Nat) (its : Nat → Nat → Int32) (nb : Nat) (bs : Nat → BxT) (ib : Nat) (inv : kInv g I M x n its nb bs ib H0) (p0 : Int32) (h0 : ¬ f_BG_isLength p0 = 0) (hok : n < 40) : Met l y_BG_kern (kW y_BG_kern b_BG_kern 2 (.some .int)) ({ frames := 8, cells := 2, slots := 102, locals := 192 }) (kPc [.ref x, .int p0] (KK g) H0) (kQc (kPost g I M x (n + 1) (va_up its n (it_kern p0)) nb bs ib (.int (nI (n + 1))) H0)) 2 102 (fun q : Nat => M q ∨ H0.size ≤ q) := by
  refine Met.ofW (cc := b_BG_kern) (maxL := 2) (ret := (.some .int)) (by decide) rfl ?_
  intro p e s m args below meth c s₁ B hml hv
  obtain ⟨rfl, hH, hKK⟩ := hv
  have hx := B.exec
  have hb := B.bytes
  have hr := B.returns
  have hts := kW_ts (atoms_spec (ws := kW y_BG_kern b_BG_kern 2 (.some .int)) B.pre)
  have hown : s.vm.findClass "BoxGlue" = some m.cls := findClass_of_methodNamed B.named
  have hlocks := B.notSynchronized
  have hK := hKK.1
  subst hH
  have hl := lv_entry ([.ref x, .int p0]) (n := 2) (Nat.le_of_ble_eq_true rfl)
  rw [lg_entry_eq]
  generalize (lg_sl ([.ref x, .int p0]) ++ List.replicate (2 - (lg_sl ([.ref x, .int p0])).length) Slot.unset).toArray = ls at hl ⊢
  have hl : lv_has ls 2 [(0, .ref x), (1, .int p0)] := hl
  obtain ⟨la, larr, lcap, ma, marr, mcap, el, bel, xo, al, am, hit, hbx, hM, hne, hMI, hMg, hIl, hB, hn, hnb⟩ := id inv
  refine lv_iload_n hx hb d_BG_kern_0 rfl (lv_at hl 1 rfl) ?_
  refine k_pure (r := .int (f_BG_isLength p0)) (W.runS (As := [.int p0]) (rest := []) ⟨hx, hb, hml, hown, hts⟩ (c_BG_isLength l g s.heap p0) (va_cwS 1 hts (kS_good kw_200 kw_198 kw_199 kw_1) rfl rfl rfl (by decide +kernel) ⟨Nat.le_of_ble_eq_true rfl, Nat.le_of_ble_eq_true rfl⟩) (k_pre (KK_st g) hKK) rfl rfl hl.1 rfl (lv_room (Nat.le_of_ble_eq_true rfl)) d_BG_kern_1 ⟨Nat.zero_le _, Nat.zero_le _⟩) ?_
  refine lv_if_ne (tgt := 9) hx hb d_BG_kern_4 (by decide) (fun c_1 => ?_) (fun c_1 => ?_)
  rotate_left
  · exact absurd c_1 h0
  refine lv_aload_n hx hb d_BG_kern_9 rfl (lv_at hl 0 rfl) ?_
  refine k_new (D := g.1) (ci := 6) (fs := [.int 0, .int 0]) (C := "BoxGlue$Kern") (T := kT_Kern) (N := 2) hx hb hts ki_Kern kt_Kern ko_Kern hown (hts _ kw_296) (hts _ kw_297) (hts _ kw_18) hK rfl (fun j hj => by rcases (show j = 0 ∨ j = 1 by omega) with rfl | rfl <;> rfl) (Nat.le_of_ble_eq_true rfl) (Nat.le_of_ble_eq_true rfl) d_BG_kern_10 (fun a H1 e_a po hN => ?_)
  refine lv_dup hx hb d_BG_kern_13 rfl ?_
  refine lv_iload_n hx hb d_BG_kern_14 rfl (lv_at hl 1 rfl) ?_
  refine k_call (A := (fun q : Nat => M q ∨ s.heap.size ≤ q)) (W.runI (As := [.int p0]) (rest := [.ref a, .ref x]) ⟨hx, hb, hml, hown, hts⟩ (c_Kern_init l g H1 a p0 po) (cwI 1 hts (kW_good kw_300) rfl rfl rfl (hts _ kw_18) (hts _ kw_298) (hts _ kw_299) rfl (by decide +kernel) ⟨Nat.le_of_ble_eq_true rfl, Nat.le_of_ble_eq_true rfl⟩) (k_pre (KK_st g) hKK) rfl rfl hl.1 rfl (lv_room (Nat.le_of_ble_eq_true rfl)) d_BG_kern_15 ⟨Nat.le_of_ble_eq_true rfl, Nat.le_of_ble_eq_true rfl⟩) (fun _ h => by cases h) (fun q h => by rcases h with h | h; rw [h, e_a]; exact Or.inr (Nat.le_refl _); exact Or.inr (Nat.le_trans hN.1 h)) (fun v H locs hv hL => ?_)
  obtain ⟨rfl, hE2, o2⟩ := hv
  have hE : kE (fun _ => False) s.heap H := hN.tr hE2 (fun z hz h => by omega)
  have iw := kInvW.more (⟨xo, al, am, hit, hbx, hM, hne, hMI, hMg, hIl, hB, hn, hnb⟩ : kInvW g I M x n its nb bs ib la larr lcap ma marr mcap el bel s.heap) hE (J := fun q => I q ∨ q = a) (fun q h => Or.inl h) (fun q h => by rcases h with h | rfl; exact Or.inl h; exact Or.inr ⟨by omega, o2.lt⟩)
  have hJ : ∀ q, (I q ∨ q = a) → I q ∨ s.heap.size ≤ q := fun q h => by rcases h with h | h; exact Or.inl h; rw [h, e_a]; exact Or.inr (Nat.le_refl _)
  have ha : kItem g (fun q => I q ∨ q = a) a (it_kern p0) H := ⟨Or.inr rfl, Or.inr (Or.inr (Or.inl ⟨rfl, o2⟩))⟩
  refine k_call (A := (fun q : Nat => M q ∨ s.heap.size ≤ q)) (W.runV (As := [.ref a]) (rest := []) ⟨hx, hb, hml, hown, hts⟩ (c_BG_append_ok l g H (fun q => I q ∨ q = a) M x n its nb bs ib iw.inv a (it_kern p0) hok ha) (cwV 1 hts (kV_good kw_247 kw_244 kw_246 ks_BG_append kw_1) rfl rfl rfl (by decide +kernel) ⟨Nat.le_of_ble_eq_true rfl, Nat.le_of_ble_eq_true rfl⟩) (k_preV (KK_st g) hKK (va_recv hK (k_one iw.1) (ci := 0) (q0 := 0) rfl rfl)) rfl rfl hl.1 rfl (lv_room (Nat.le_of_ble_eq_true rfl)) d_BG_kern_18 ⟨Nat.le_of_ble_eq_true rfl, Nat.le_of_ble_eq_true rfl⟩) hL (fun q h => h.elim Or.inl (fun h => Or.inr (Nat.le_trans hE.1 h))) (fun v H9 locs hv hL => ?_)
  obtain ⟨rfl, hEM, J9, N9, inv9, hN9, hJ9⟩ := hv
  exact W.iret (v := (nI (n + 1))) hx hb hr (fun t ht hW => ⟨_, rfl, rfl, by rw [ht]; exact (hE.wk (fun _ _ h => h.elim)).tr hEM (fun _ _ h => h), J9, N9, by rw [ht]; exact inv9, fun q h => (hN9 q h).elim Or.inl (fun h => Or.inr (Nat.le_trans hE.1 h)), fun q h => (hJ9 q h).elim (hJ q) (fun h => Or.inr (Nat.le_trans hE.1 h))⟩) hL d_BG_kern_21

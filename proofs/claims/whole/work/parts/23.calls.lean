/-! BoxGlue: rule, glue, put, told, item -/
set_option maxHeartbeats 4000000 in
set_option maxRecDepth 100000 in
theorem c_BG_rule_bad (l : Launch) (g : KGt) (H0 : Heap) (I M : Nat → Prop) (x n : Nat) (its : Nat → Nat → Int32) (nb : Nat) (bs : Nat → BxT) (ib : Nat) (inv : kInv g I M x n its nb bs ib H0) (p0 : Int32) (p1 : Int32) (p2 : Int32) (h : f_BG_isExtent p0 = 0 ∨ f_BG_isExtentOrRunning p1 = 0 ∨ f_BG_isExtentOrRunning p2 = 0) : Met l y_BG_rule (kW y_BG_rule b_BG_rule 4 (.some .int)) ({ frames := 2, cells := 0, slots := 0, locals := 40 }) (kPc [.ref x, .int p0, .int p1, .int p2] (KK g) H0) (kQc (kPure (.int (-1)) H0)) 0 0 (fun _ => False) := by
  refine Met.ofW (cc := b_BG_rule) (maxL := 4) (ret := (.some .int)) (by decide) rfl ?_
  intro p e s m args below meth c s₁ B hml hv
  obtain ⟨rfl, hH, hKK⟩ := hv
  have hx := B.exec
  have hb := B.bytes
  have hr := B.returns
  have hts := kW_ts (atoms_spec (ws := kW y_BG_rule b_BG_rule 4 (.some .int)) B.pre)
  have hown : s.vm.findClass "BoxGlue" = some m.cls := findClass_of_methodNamed B.named
  have hlocks := B.notSynchronized
  have hK := hKK.1
  subst hH
  have hl := lv_entry ([.ref x, .int p0, .int p1, .int p2]) (n := 4) (Nat.le_of_ble_eq_true rfl)
  rw [lg_entry_eq]
  generalize (lg_sl ([.ref x, .int p0, .int p1, .int p2]) ++ List.replicate (4 - (lg_sl ([.ref x, .int p0, .int p1, .int p2])).length) Slot.unset).toArray = ls at hl ⊢
  have hl : lv_has ls 4 [(0, .ref x), (1, .int p0), (2, .int p1), (3, .int p2)] := hl
  obtain ⟨la, larr, lcap, ma, marr, mcap, el, bel, xo, al, am, hit, hbx, hM, hne, hMI, hMg, hIl, hB, hn, hnb⟩ := id inv
  refine lv_iload_n hx hb d_BG_rule_0 rfl (lv_at hl 1 rfl) ?_
  refine k_pure (r := .int (f_BG_isExtent p0)) (W.runS (As := [.int p0]) (rest := []) ⟨hx, hb, hml, hown, hts⟩ (c_BG_isExtent l g s.heap p0) (va_cwS 1 hts (kS_good kw_71 kw_69 kw_70 kw_1) rfl rfl rfl (by decide +kernel) ⟨Nat.le_of_ble_eq_true rfl, Nat.le_of_ble_eq_true rfl⟩) (k_pre (KK_st g) hKK) rfl rfl hl.1 rfl (lv_room (Nat.le_of_ble_eq_true rfl)) d_BG_rule_1 ⟨Nat.zero_le _, Nat.zero_le _⟩) ?_
  refine lv_if_eq (tgt := 21) hx hb d_BG_rule_4 (by decide) (fun c_1 => ?_) (fun c_1 => ?_)
  · skip
    refine lv_iconst (v := (-1)) hx hb d_BG_rule_21 (by decide) ?_
    exact W.iret (v := (-1)) hx hb hr (fun t ht hW => ⟨_, rfl, rfl, ht⟩) (fun _ h => by cases h) d_BG_rule_22
  · skip
    refine lv_iload_n hx hb d_BG_rule_7 rfl (lv_at hl 2 rfl) ?_
    refine k_pure (r := .int (f_BG_isExtentOrRunning p1)) (W.runS (As := [.int p1]) (rest := []) ⟨hx, hb, hml, hown, hts⟩ (c_BG_isExtentOrRunning l g s.heap p1) (va_cwS 1 hts (kS_good kw_311 kw_309 kw_310 kw_1) rfl rfl rfl (by decide +kernel) ⟨Nat.le_of_ble_eq_true rfl, Nat.le_of_ble_eq_true rfl⟩) (k_pre (KK_st g) hKK) rfl rfl hl.1 rfl (lv_room (Nat.le_of_ble_eq_true rfl)) d_BG_rule_8 ⟨Nat.zero_le _, Nat.zero_le _⟩) ?_
    refine lv_if_eq (tgt := 21) hx hb d_BG_rule_11 (by decide) (fun c_2 => ?_) (fun c_2 => ?_)
    · skip
      refine lv_iconst (v := (-1)) hx hb d_BG_rule_21 (by decide) ?_
      exact W.iret (v := (-1)) hx hb hr (fun t ht hW => ⟨_, rfl, rfl, ht⟩) (fun _ h => by cases h) d_BG_rule_22
    · skip
      refine lv_iload_n hx hb d_BG_rule_14 rfl (lv_at hl 3 rfl) ?_
      refine k_pure (r := .int (f_BG_isExtentOrRunning p2)) (W.runS (As := [.int p2]) (rest := []) ⟨hx, hb, hml, hown, hts⟩ (c_BG_isExtentOrRunning l g s.heap p2) (va_cwS 1 hts (kS_good kw_311 kw_309 kw_310 kw_1) rfl rfl rfl (by decide +kernel) ⟨Nat.le_of_ble_eq_true rfl, Nat.le_of_ble_eq_true rfl⟩) (k_pre (KK_st g) hKK) rfl rfl hl.1 rfl (lv_room (Nat.le_of_ble_eq_true rfl)) d_BG_rule_15 ⟨Nat.zero_le _, Nat.zero_le _⟩) ?_
      refine lv_if_ne (tgt := 23) hx hb d_BG_rule_18 (by decide) (fun c_3 => ?_) (fun c_3 => ?_)
      · skip
        rcases h with h | h | h <;> contradiction
      · skip
        refine lv_iconst (v := (-1)) hx hb d_BG_rule_21 (by decide) ?_
        exact W.iret (v := (-1)) hx hb hr (fun t ht hW => ⟨_, rfl, rfl, ht⟩) (fun _ h => by cases h) d_BG_rule_22
set_option maxHeartbeats 4000000 in
set_option maxRecDepth 100000 in
theorem c_BG_rule_full (l : Launch) (g : KGt) (H0 : Heap) (I M : Nat → Prop) (x n : Nat) (its : Nat → Nat → Int32) (nb : Nat) (bs : Nat → BxT) (ib : Nat) (inv : kInv g I M x n its nb bs ib H0) (p0 : Int32) (p1 : Int32) (p2 : Int32) (h0 : ¬ f_BG_isExtent p0 = 0) (h1 : ¬ f_BG_isExtentOrRunning p1 = 0) (h2 : ¬ f_BG_isExtentOrRunning p2 = 0) (hfull : n = 40) : Met l y_BG_rule (kW y_BG_rule b_BG_rule 4 (.some .int)) ({ frames := 8, cells := 2, slots := 104, locals := 192 }) (kPc [.ref x, .int p0, .int p1, .int p2] (KK g) H0) (kQc (kPost g I M x n its nb bs ib (.int (-2)) H0)) 2 104 (fun q : Nat => M q ∨ H0.size ≤ q) := by
  refine Met.ofW (cc := b_BG_rule) (maxL := 4) (ret := (.some .int)) (by decide) rfl ?_
  intro p e s m args below meth c s₁ B hml hv
  obtain ⟨rfl, hH, hKK⟩ := hv
  have hx := B.exec
  have hb := B.bytes
  have hr := B.returns
  have hts := kW_ts (atoms_spec (ws := kW y_BG_rule b_BG_rule 4 (.some .int)) B.pre)
  have hown : s.vm.findClass "BoxGlue" = some m.cls := findClass_of_methodNamed B.named
  have hlocks := B.notSynchronized
  have hK := hKK.1
  subst hH
  have hl := lv_entry ([.ref x, .int p0, .int p1, .int p2]) (n := 4) (Nat.le_of_ble_eq_true rfl)
  rw [lg_entry_eq]
  generalize (lg_sl ([.ref x, .int p0, .int p1, .int p2]) ++ List.replicate (4 - (lg_sl ([.ref x, .int p0, .int p1, .int p2])).length) Slot.unset).toArray = ls at hl ⊢
  have hl : lv_has ls 4 [(0, .ref x), (1, .int p0), (2, .int p1), (3, .int p2)] := hl
  obtain ⟨la, larr, lcap, ma, marr, mcap, el, bel, xo, al, am, hit, hbx, hM, hne, hMI, hMg, hIl, hB, hn, hnb⟩ := id inv
  refine lv_iload_n hx hb d_BG_rule_0 rfl (lv_at hl 1 rfl) ?_
  refine k_pure (r := .int (f_BG_isExtent p0)) (W.runS (As := [.int p0]) (rest := []) ⟨hx, hb, hml, hown, hts⟩ (c_BG_isExtent l g s.heap p0) (va_cwS 1 hts (kS_good kw_71 kw_69 kw_70 kw_1) rfl rfl rfl (by decide +kernel) ⟨Nat.le_of_ble_eq_true rfl, Nat.le_of_ble_eq_true rfl⟩) (k_pre (KK_st g) hKK) rfl rfl hl.1 rfl (lv_room (Nat.le_of_ble_eq_true rfl)) d_BG_rule_1 ⟨Nat.zero_le _, Nat.zero_le _⟩) ?_
  refine lv_if_eq (tgt := 21) hx hb d_BG_rule_4 (by decide) (fun c_1 => ?_) (fun c_1 => ?_)
  · exact absurd c_1 h0
  refine lv_iload_n hx hb d_BG_rule_7 rfl (lv_at hl 2 rfl) ?_
  refine k_pure (r := .int (f_BG_isExtentOrRunning p1)) (W.runS (As := [.int p1]) (rest := []) ⟨hx, hb, hml, hown, hts⟩ (c_BG_isExtentOrRunning l g s.heap p1) (va_cwS 1 hts (kS_good kw_311 kw_309 kw_310 kw_1) rfl rfl rfl (by decide +kernel) ⟨Nat.le_of_ble_eq_true rfl, Nat.le_of_ble_eq_true rfl⟩) (k_pre (KK_st g) hKK) rfl rfl hl.1 rfl (lv_room (Nat.le_of_ble_eq_true rfl)) d_BG_rule_8 ⟨Nat.zero_le _, Nat.zero_le _⟩) ?_
  refine lv_if_eq (tgt := 21) hx hb d_BG_rule_11 (by decide) (fun c_2 => ?_) (fun c_2 => ?_)
  · exact absurd c_2 h1
  refine lv_iload_n hx hb d_BG_rule_14 rfl (lv_at hl 3 rfl) ?_
  refine k_pure (r := .int (f_BG_isExtentOrRunning p2)) (W.runS (As := [.int p2]) (rest := []) ⟨hx, hb, hml, hown, hts⟩ (c_BG_isExtentOrRunning l g s.heap p2) (va_cwS 1 hts (kS_good kw_311 kw_309 kw_310 kw_1) rfl rfl rfl (by decide +kernel) ⟨Nat.le_of_ble_eq_true rfl, Nat.le_of_ble_eq_true rfl⟩) (k_pre (KK_st g) hKK) rfl rfl hl.1 rfl (lv_room (Nat.le_of_ble_eq_true rfl)) d_BG_rule_15 ⟨Nat.zero_le _, Nat.zero_le _⟩) ?_
  refine lv_if_ne (tgt := 23) hx hb d_BG_rule_18 (by decide) (fun c_3 => ?_) (fun c_3 => ?_)
  rotate_left
  · exact absurd c_3 h2
  refine lv_aload_n hx hb d_BG_rule_23 rfl (lv_at hl 0 rfl) ?_
  refine k_new (D := g.1) (ci := 7) (fs := [.int 0, .int 0, .int 0, .int 0]) (C := "BoxGlue$Rule") (T := kT_Rule) (N := 4) hx hb hts ki_Rule kt_Rule ko_Rule hown (hts _ kw_313) (hts _ kw_314) (hts _ kw_19) hK rfl (fun j hj => by rcases (show j = 0 ∨ j = 1 ∨ j = 2 ∨ j = 3 by omega) with rfl | rfl | rfl | rfl <;> rfl) (Nat.le_of_ble_eq_true rfl) (Nat.le_of_ble_eq_true rfl) d_BG_rule_24 (fun a H1 e_a po hN => ?_)
  refine lv_dup hx hb d_BG_rule_27 rfl ?_
  refine lv_iload_n hx hb d_BG_rule_28 rfl (lv_at hl 1 rfl) ?_
  refine lv_iload_n hx hb d_BG_rule_29 rfl (lv_at hl 2 rfl) ?_
  refine lv_iload_n hx hb d_BG_rule_30 rfl (lv_at hl 3 rfl) ?_
  refine k_call (A := (fun q : Nat => M q ∨ s.heap.size ≤ q)) (W.runI (As := [.int p0, .int p1, .int p2]) (rest := [.ref a, .ref x]) ⟨hx, hb, hml, hown, hts⟩ (c_Rule_init l g H1 a p0 p1 p2 po) (cwI 3 hts (kW_good kw_317) rfl rfl rfl (hts _ kw_19) (hts _ kw_315) (hts _ kw_316) rfl (by decide +kernel) ⟨Nat.le_of_ble_eq_true rfl, Nat.le_of_ble_eq_true rfl⟩) (k_pre (KK_st g) hKK) rfl rfl hl.1 rfl (lv_room (Nat.le_of_ble_eq_true rfl)) d_BG_rule_31 ⟨Nat.le_of_ble_eq_true rfl, Nat.le_of_ble_eq_true rfl⟩) (fun _ h => by cases h) (fun q h => by rcases h with h | h; rw [h, e_a]; exact Or.inr (Nat.le_refl _); exact Or.inr (Nat.le_trans hN.1 h)) (fun v H locs hv hL => ?_)
  obtain ⟨rfl, hE2, o2⟩ := hv
  have hE : kE (fun _ => False) s.heap H := hN.tr hE2 (fun z hz h => by omega)
  have iw := kInvW.more (⟨xo, al, am, hit, hbx, hM, hne, hMI, hMg, hIl, hB, hn, hnb⟩ : kInvW g I M x n its nb bs ib la larr lcap ma marr mcap el bel s.heap) hE (J := fun q => I q ∨ q = a) (fun q h => Or.inl h) (fun q h => by rcases h with h | rfl; exact Or.inl h; exact Or.inr ⟨by omega, o2.lt⟩)
  have hJ : ∀ q, (I q ∨ q = a) → I q ∨ s.heap.size ≤ q := fun q h => by rcases h with h | h; exact Or.inl h; rw [h, e_a]; exact Or.inr (Nat.le_refl _)
  have ha : kItem g (fun q => I q ∨ q = a) a (it_rule p0 p1 p2) H := ⟨Or.inr rfl, Or.inr (Or.inr (Or.inr ⟨rfl, o2⟩))⟩
  refine k_pure (r := .int (-2)) (W.runV (As := [.ref a]) (rest := []) ⟨hx, hb, hml, hown, hts⟩ (c_BG_append_full l g H (fun q => I q ∨ q = a) M x n its nb bs ib iw.inv a hfull) (cwV 1 hts (kV_good kw_247 kw_244 kw_246 ks_BG_append kw_1) rfl rfl rfl (by decide +kernel) ⟨Nat.le_of_ble_eq_true rfl, Nat.le_of_ble_eq_true rfl⟩) (k_preV (KK_st g) hKK (va_recv hK (k_one iw.1) (ci := 0) (q0 := 0) rfl rfl)) rfl rfl hl.1 rfl (lv_room (Nat.le_of_ble_eq_true rfl)) d_BG_rule_34 ⟨Nat.le_of_ble_eq_true rfl, Nat.le_of_ble_eq_true rfl⟩) ?_
  refine W.widen (k := 2) (n := 104) (by omega) (by omega) ?_
  exact W.iret (v := (-2)) hx hb hr (fun t ht hW => ⟨_, rfl, rfl, by rw [ht]; exact hE.wk (fun _ _ h => h.elim), (fun q => I q ∨ q = a), M, by rw [ht]; exact iw.inv, fun _ h => Or.inl h, hJ⟩) hL d_BG_rule_37
set_option maxHeartbeats 4000000 in
set_option maxRecDepth 100000 in
theorem c_BG_rule_ok (l : Launch) (g : KGt) (H0 : Heap) (I M : Nat → Prop) (x n : Nat) (its : Nat → Nat → Int32) (nb : Nat) (bs : Nat → BxT) (ib : Nat) (inv : kInv g I M x n its nb bs ib H0) (p0 : Int32) (p1 : Int32) (p2 : Int32) (h0 : ¬ f_BG_isExtent p0 = 0) (h1 : ¬ f_BG_isExtentOrRunning p1 = 0) (h2 : ¬ f_BG_isExtentOrRunning p2 = 0) (hok : n < 40) : Met l y_BG_rule (kW y_BG_rule b_BG_rule 4 (.some .int)) ({ frames := 8, cells := 2, slots := 104, locals := 192 }) (kPc [.ref x, .int p0, .int p1, .int p2] (KK g) H0) (kQc (kPost g I M x (n + 1) (va_up its n (it_rule p0 p1 p2)) nb bs ib (.int (nI (n + 1))) H0)) 2 104 (fun q : Nat => M q ∨ H0.size ≤ q) := by
  refine Met.ofW (cc := b_BG_rule) (maxL := 4) (ret := (.some .int)) (by decide) rfl ?_
  intro p e s m args below meth c s₁ B hml hv
  obtain ⟨rfl, hH, hKK⟩ := hv
  have hx := B.exec
  have hb := B.bytes
  have hr := B.returns
  have hts := kW_ts (atoms_spec (ws := kW y_BG_rule b_BG_rule 4 (.some .int)) B.pre)
  have hown : s.vm.findClass "BoxGlue" = some m.cls := findClass_of_methodNamed B.named
  have hlocks := B.notSynchronized
  have hK := hKK.1
  subst hH
  have hl := lv_entry ([.ref x, .int p0, .int p1, .int p2]) (n := 4) (Nat.le_of_ble_eq_true rfl)
  rw [lg_entry_eq]
  generalize (lg_sl ([.ref x, .int p0, .int p1, .int p2]) ++ List.replicate (4 - (lg_sl ([.ref x, .int p0, .int p1, .int p2])).length) Slot.unset).toArray = ls at hl ⊢
  have hl : lv_has ls 4 [(0, .ref x), (1, .int p0), (2, .int p1), (3, .int p2)] := hl
  obtain ⟨la, larr, lcap, ma, marr, mcap, el, bel, xo, al, am, hit, hbx, hM, hne, hMI, hMg, hIl, hB, hn, hnb⟩ := id inv
  refine lv_iload_n hx hb d_BG_rule_0 rfl (lv_at hl 1 rfl) ?_
  refine k_pure (r := .int (f_BG_isExtent p0)) (W.runS (As := [.int p0]) (rest := []) ⟨hx, hb, hml, hown, hts⟩ (c_BG_isExtent l g s.heap p0) (va_cwS 1 hts (kS_good kw_71 kw_69 kw_70 kw_1) rfl rfl rfl (by decide +kernel) ⟨Nat.le_of_ble_eq_true rfl, Nat.le_of_ble_eq_true rfl⟩) (k_pre (KK_st g) hKK) rfl rfl hl.1 rfl (lv_room (Nat.le_of_ble_eq_true rfl)) d_BG_rule_1 ⟨Nat.zero_le _, Nat.zero_le _⟩) ?_
  refine lv_if_eq (tgt := 21) hx hb d_BG_rule_4 (by decide) (fun c_1 => ?_) (fun c_1 => ?_)
  · exact absurd c_1 h0
  refine lv_iload_n hx hb d_BG_rule_7 rfl (lv_at hl 2 rfl) ?_
  refine k_pure (r := .int (f_BG_isExtentOrRunning p1)) (W.runS (As := [.int p1]) (rest := []) ⟨hx, hb, hml, hown, hts⟩ (c_BG_isExtentOrRunning l g s.heap p1) (va_cwS 1 hts (kS_good kw_311 kw_309 kw_310 kw_1) rfl rfl rfl (by decide +kernel) ⟨Nat.le_of_ble_eq_true rfl, Nat.le_of_ble_eq_true rfl⟩) (k_pre (KK_st g) hKK) rfl rfl hl.1 rfl (lv_room (Nat.le_of_ble_eq_true rfl)) d_BG_rule_8 ⟨Nat.zero_le _, Nat.zero_le _⟩) ?_
  refine lv_if_eq (tgt := 21) hx hb d_BG_rule_11 (by decide) (fun c_2 => ?_) (fun c_2 => ?_)
  · exact absurd c_2 h1
  refine lv_iload_n hx hb d_BG_rule_14 rfl (lv_at hl 3 rfl) ?_
  refine k_pure (r := .int (f_BG_isExtentOrRunning p2)) (W.runS (As := [.int p2]) (rest := []) ⟨hx, hb, hml, hown, hts⟩ (c_BG_isExtentOrRunning l g s.heap p2) (va_cwS 1 hts (kS_good kw_311 kw_309 kw_310 kw_1) rfl rfl rfl (by decide +kernel) ⟨Nat.le_of_ble_eq_true rfl, Nat.le_of_ble_eq_true rfl⟩) (k_pre (KK_st g) hKK) rfl rfl hl.1 rfl (lv_room (Nat.le_of_ble_eq_true rfl)) d_BG_rule_15 ⟨Nat.zero_le _, Nat.zero_le _⟩) ?_
  refine lv_if_ne (tgt := 23) hx hb d_BG_rule_18 (by decide) (fun c_3 => ?_) (fun c_3 => ?_)
  rotate_left
  · exact absurd c_3 h2
  refine lv_aload_n hx hb d_BG_rule_23 rfl (lv_at hl 0 rfl) ?_
  refine k_new (D := g.1) (ci := 7) (fs := [.int 0, .int 0, .int 0, .int 0]) (C := "BoxGlue$Rule") (T := kT_Rule) (N := 4) hx hb hts ki_Rule kt_Rule ko_Rule hown (hts _ kw_313) (hts _ kw_314) (hts _ kw_19) hK rfl (fun j hj => by rcases (show j = 0 ∨ j = 1 ∨ j = 2 ∨ j = 3 by omega) with rfl | rfl | rfl | rfl <;> rfl) (Nat.le_of_ble_eq_true rfl) (Nat.le_of_ble_eq_true rfl) d_BG_rule_24 (fun a H1 e_a po hN => ?_)
  refine lv_dup hx hb d_BG_rule_27 rfl ?_
  refine lv_iload_n hx hb d_BG_rule_28 rfl (lv_at hl 1 rfl) ?_
  refine lv_iload_n hx hb d_BG_rule_29 rfl (lv_at hl 2 rfl) ?_
  refine lv_iload_n hx hb d_BG_rule_30 rfl (lv_at hl 3 rfl) ?_
  refine k_call (A := (fun q : Nat => M q ∨ s.heap.size ≤ q)) (W.runI (As := [.int p0, .int p1, .int p2]) (rest := [.ref a, .ref x]) ⟨hx, hb, hml, hown, hts⟩ (c_Rule_init l g H1 a p0 p1 p2 po) (cwI 3 hts (kW_good kw_317) rfl rfl rfl (hts _ kw_19) (hts _ kw_315) (hts _ kw_316) rfl (by decide +kernel) ⟨Nat.le_of_ble_eq_true rfl, Nat.le_of_ble_eq_true rfl⟩) (k_pre (KK_st g) hKK) rfl rfl hl.1 rfl (lv_room (Nat.le_of_ble_eq_true rfl)) d_BG_rule_31 ⟨Nat.le_of_ble_eq_true rfl, Nat.le_of_ble_eq_true rfl⟩) (fun _ h => by cases h) (fun q h => by rcases h with h | h; rw [h, e_a]; exact Or.inr (Nat.le_refl _); exact Or.inr (Nat.le_trans hN.1 h)) (fun v H locs hv hL => ?_)
  obtain ⟨rfl, hE2, o2⟩ := hv
  have hE : kE (fun _ => False) s.heap H := hN.tr hE2 (fun z hz h => by omega)
  have iw := kInvW.more (⟨xo, al, am, hit, hbx, hM, hne, hMI, hMg, hIl, hB, hn, hnb⟩ : kInvW g I M x n its nb bs ib la larr lcap ma marr mcap el bel s.heap) hE (J := fun q => I q ∨ q = a) (fun q h => Or.inl h) (fun q h => by rcases h with h | rfl; exact Or.inl h; exact Or.inr ⟨by omega, o2.lt⟩)
  have hJ : ∀ q, (I q ∨ q = a) → I q ∨ s.heap.size ≤ q := fun q h => by rcases h with h | h; exact Or.inl h; rw [h, e_a]; exact Or.inr (Nat.le_refl _)
  have ha : kItem g (fun q => I q ∨ q = a) a (it_rule p0 p1 p2) H := ⟨Or.inr rfl, Or.inr (Or.inr (Or.inr ⟨rfl, o2⟩))⟩
  refine k_call (A := (fun q : Nat => M q ∨ s.heap.size ≤ q)) (W.runV (As := [.ref a]) (rest := []) ⟨hx, hb, hml, hown, hts⟩ (c_BG_append_ok l g H (fun q => I q ∨ q = a) M x n its nb bs ib iw.inv a (it_rule p0 p1 p2) hok ha) (cwV 1 hts (kV_good kw_247 kw_244 kw_246 ks_BG_append kw_1) rfl rfl rfl (by decide +kernel) ⟨Nat.le_of_ble_eq_true rfl, Nat.le_of_ble_eq_true rfl⟩) (k_preV (KK_st g) hKK (va_recv hK (k_one iw.1) (ci := 0) (q0 := 0) rfl rfl)) rfl rfl hl.1 rfl (lv_room (Nat.le_of_ble_eq_true rfl)) d_BG_rule_34 ⟨Nat.le_of_ble_eq_true rfl, Nat.le_of_ble_eq_true rfl⟩) hL (fun q h => h.elim Or.inl (fun h => Or.inr (Nat.le_trans hE.1 h))) (fun v H9 locs hv hL => ?_)
  obtain ⟨rfl, hEM, J9, N9, inv9, hN9, hJ9⟩ := hv
  exact W.iret (v := (nI (n + 1))) hx hb hr (fun t ht hW => ⟨_, rfl, rfl, by rw [ht]; exact (hE.wk (fun _ _ h => h.elim)).tr hEM (fun _ _ h => h), J9, N9, by rw [ht]; exact inv9, fun q h => (hN9 q h).elim Or.inl (fun h => Or.inr (Nat.le_trans hE.1 h)), fun q h => (hJ9 q h).elim (hJ q) (fun h => Or.inr (Nat.le_trans hE.1 h))⟩) hL d_BG_rule_37
set_option maxHeartbeats 4000000 in
set_option maxRecDepth 100000 in
theorem c_BG_glue_bad (l : Launch) (g : KGt) (H0 : Heap) (I M : Nat → Prop) (x n : Nat) (its : Nat → Nat → Int32) (nb : Nat) (bs : Nat → BxT) (ib : Nat) (inv : kInv g I M x n its nb bs ib H0) (p0 : Int32) (p1 : Int32) (p2 : Int32) (p3 : Int32) (p4 : Int32) (h : f_BG_isLength p0 = 0 ∨ f_BG_isGiving p1 p2 = 0 ∨ f_BG_isGiving p3 p4 = 0) : Met l y_BG_glue (kW y_BG_glue b_BG_glue 6 (.some .int)) ({ frames := 1, cells := 0, slots := 0, locals := 21 }) (kPc [.ref x, .int p0, .int p1, .int p2, .int p3, .int p4] (KK g) H0) (kQc (kPure (.int (-1)) H0)) 0 0 (fun _ => False) := by
  refine Met.ofW (cc := b_BG_glue) (maxL := 6) (ret := (.some .int)) (by decide) rfl ?_
  intro p e s m args below meth c s₁ B hml hv
  obtain ⟨rfl, hH, hKK⟩ := hv
  have hx := B.exec
  have hb := B.bytes
  have hr := B.returns
  have hts := kW_ts (atoms_spec (ws := kW y_BG_glue b_BG_glue 6 (.some .int)) B.pre)
  have hown : s.vm.findClass "BoxGlue" = some m.cls := findClass_of_methodNamed B.named
  have hlocks := B.notSynchronized
  have hK := hKK.1
  subst hH
  have hl := lv_entry ([.ref x, .int p0, .int p1, .int p2, .int p3, .int p4]) (n := 6) (Nat.le_of_ble_eq_true rfl)
  rw [lg_entry_eq]
  generalize (lg_sl ([.ref x, .int p0, .int p1, .int p2, .int p3, .int p4]) ++ List.replicate (6 - (lg_sl ([.ref x, .int p0, .int p1, .int p2, .int p3, .int p4])).length) Slot.unset).toArray = ls at hl ⊢
  have hl : lv_has ls 6 [(0, .ref x), (1, .int p0), (2, .int p1), (3, .int p2), (4, .int p3), (5, .int p4)] := hl
  obtain ⟨la, larr, lcap, ma, marr, mcap, el, bel, xo, al, am, hit, hbx, hM, hne, hMI, hMg, hIl, hB, hn, hnb⟩ := id inv
  refine lv_iload_n hx hb d_BG_glue_0 rfl (lv_at hl 1 rfl) ?_
  refine k_pure (r := .int (f_BG_isLength p0)) (W.runS (As := [.int p0]) (rest := []) ⟨hx, hb, hml, hown, hts⟩ (c_BG_isLength l g s.heap p0) (va_cwS 1 hts (kS_good kw_200 kw_198 kw_199 kw_1) rfl rfl rfl (by decide +kernel) ⟨Nat.le_of_ble_eq_true rfl, Nat.le_of_ble_eq_true rfl⟩) (k_pre (KK_st g) hKK) rfl rfl hl.1 rfl (lv_room (Nat.le_of_ble_eq_true rfl)) d_BG_glue_1 ⟨Nat.zero_le _, Nat.zero_le _⟩) ?_
  refine lv_if_eq (tgt := 25) hx hb d_BG_glue_4 (by decide) (fun c_1 => ?_) (fun c_1 => ?_)
  · skip
    refine lv_iconst (v := (-1)) hx hb d_BG_glue_25 (by decide) ?_
    exact W.iret (v := (-1)) hx hb hr (fun t ht hW => ⟨_, rfl, rfl, ht⟩) (fun _ h => by cases h) d_BG_glue_26
  · skip
    refine lv_iload_n hx hb d_BG_glue_7 rfl (lv_at hl 2 rfl) ?_
    refine lv_iload_n hx hb d_BG_glue_8 rfl (lv_at hl 3 rfl) ?_
    refine k_pure (r := .int (f_BG_isGiving p1 p2)) (W.runS (As := [.int p1, .int p2]) (rest := []) ⟨hx, hb, hml, hown, hts⟩ (c_BG_isGiving l g s.heap p1 p2) (va_cwS 2 hts (kS_good kw_254 kw_252 kw_253 kw_1) rfl rfl rfl (by decide +kernel) ⟨Nat.le_of_ble_eq_true rfl, Nat.le_of_ble_eq_true rfl⟩) (k_pre (KK_st g) hKK) rfl rfl hl.1 rfl (lv_room (Nat.le_of_ble_eq_true rfl)) d_BG_glue_9 ⟨Nat.zero_le _, Nat.zero_le _⟩) ?_
    refine lv_if_eq (tgt := 25) hx hb d_BG_glue_12 (by decide) (fun c_2 => ?_) (fun c_2 => ?_)
    · skip
      refine lv_iconst (v := (-1)) hx hb d_BG_glue_25 (by decide) ?_
      exact W.iret (v := (-1)) hx hb hr (fun t ht hW => ⟨_, rfl, rfl, ht⟩) (fun _ h => by cases h) d_BG_glue_26
    · skip
      refine lv_iload hx hb d_BG_glue_15 (lv_at hl 4 rfl) ?_
      refine lv_iload hx hb d_BG_glue_17 (lv_at hl 5 rfl) ?_
      refine k_pure (r := .int (f_BG_isGiving p3 p4)) (W.runS (As := [.int p3, .int p4]) (rest := []) ⟨hx, hb, hml, hown, hts⟩ (c_BG_isGiving l g s.heap p3 p4) (va_cwS 2 hts (kS_good kw_254 kw_252 kw_253 kw_1) rfl rfl rfl (by decide +kernel) ⟨Nat.le_of_ble_eq_true rfl, Nat.le_of_ble_eq_true rfl⟩) (k_pre (KK_st g) hKK) rfl rfl hl.1 rfl (lv_room (Nat.le_of_ble_eq_true rfl)) d_BG_glue_19 ⟨Nat.zero_le _, Nat.zero_le _⟩) ?_
      refine lv_if_ne (tgt := 27) hx hb d_BG_glue_22 (by decide) (fun c_3 => ?_) (fun c_3 => ?_)
      · skip
        rcases h with h | h | h <;> contradiction
      · skip
        refine lv_iconst (v := (-1)) hx hb d_BG_glue_25 (by decide) ?_
        exact W.iret (v := (-1)) hx hb hr (fun t ht hW => ⟨_, rfl, rfl, ht⟩) (fun _ h => by cases h) d_BG_glue_26
set_option maxHeartbeats 4000000 in
set_option maxRecDepth 100000 in
theorem c_BG_glue_full (l : Launch) (g : KGt) (H0 : Heap) (I M : Nat → Prop) (x n : Nat) (its : Nat → Nat → Int32) (nb : Nat) (bs : Nat → BxT) (ib : Nat) (inv : kInv g I M x n its nb bs ib H0) (p0 : Int32) (p1 : Int32) (p2 : Int32) (p3 : Int32) (p4 : Int32) (h0 : ¬ f_BG_isLength p0 = 0) (h1 : ¬ f_BG_isGiving p1 p2 = 0) (h2 : ¬ f_BG_isGiving p3 p4 = 0) (hfull : n = 40) : Met l y_BG_glue (kW y_BG_glue b_BG_glue 6 (.some .int)) ({ frames := 8, cells := 3, slots := 109, locals := 192 }) (kPc [.ref x, .int p0, .int p1, .int p2, .int p3, .int p4] (KK g) H0) (kQc (kPost g I M x n its nb bs ib (.int (-2)) H0)) 3 109 (fun q : Nat => M q ∨ H0.size ≤ q) := by
  refine Met.ofW (cc := b_BG_glue) (maxL := 6) (ret := (.some .int)) (by decide) rfl ?_
  intro p e s m args below meth c s₁ B hml hv
  obtain ⟨rfl, hH, hKK⟩ := hv
  have hx := B.exec
  have hb := B.bytes
  have hr := B.returns
  have hts := kW_ts (atoms_spec (ws := kW y_BG_glue b_BG_glue 6 (.some .int)) B.pre)
  have hown : s.vm.findClass "BoxGlue" = some m.cls := findClass_of_methodNamed B.named
  have hlocks := B.notSynchronized
  have hK := hKK.1
  subst hH
  have hl := lv_entry ([.ref x, .int p0, .int p1, .int p2, .int p3, .int p4]) (n := 6) (Nat.le_of_ble_eq_true rfl)
  rw [lg_entry_eq]
  generalize (lg_sl ([.ref x, .int p0, .int p1, .int p2, .int p3, .int p4]) ++ List.replicate (6 - (lg_sl ([.ref x, .int p0, .int p1, .int p2, .int p3, .int p4])).length) Slot.unset).toArray = ls at hl ⊢
  have hl : lv_has ls 6 [(0, .ref x), (1, .int p0), (2, .int p1), (3, .int p2), (4, .int p3), (5, .int p4)] := hl
  obtain ⟨la, larr, lcap, ma, marr, mcap, el, bel, xo, al, am, hit, hbx, hM, hne, hMI, hMg, hIl, hB, hn, hnb⟩ := id inv
  refine lv_iload_n hx hb d_BG_glue_0 rfl (lv_at hl 1 rfl) ?_
  refine k_pure (r := .int (f_BG_isLength p0)) (W.runS (As := [.int p0]) (rest := []) ⟨hx, hb, hml, hown, hts⟩ (c_BG_isLength l g s.heap p0) (va_cwS 1 hts (kS_good kw_200 kw_198 kw_199 kw_1) rfl rfl rfl (by decide +kernel) ⟨Nat.le_of_ble_eq_true rfl, Nat.le_of_ble_eq_true rfl⟩) (k_pre (KK_st g) hKK) rfl rfl hl.1 rfl (lv_room (Nat.le_of_ble_eq_true rfl)) d_BG_glue_1 ⟨Nat.zero_le _, Nat.zero_le _⟩) ?_
  refine lv_if_eq (tgt := 25) hx hb d_BG_glue_4 (by decide) (fun c_1 => ?_) (fun c_1 => ?_)
  · exact absurd c_1 h0
  refine lv_iload_n hx hb d_BG_glue_7 rfl (lv_at hl 2 rfl) ?_
  refine lv_iload_n hx hb d_BG_glue_8 rfl (lv_at hl 3 rfl) ?_
  refine k_pure (r := .int (f_BG_isGiving p1 p2)) (W.runS (As := [.int p1, .int p2]) (rest := []) ⟨hx, hb, hml, hown, hts⟩ (c_BG_isGiving l g s.heap p1 p2) (va_cwS 2 hts (kS_good kw_254 kw_252 kw_253 kw_1) rfl rfl rfl (by decide +kernel) ⟨Nat.le_of_ble_eq_true rfl, Nat.le_of_ble_eq_true rfl⟩) (k_pre (KK_st g) hKK) rfl rfl hl.1 rfl (lv_room (Nat.le_of_ble_eq_true rfl)) d_BG_glue_9 ⟨Nat.zero_le _, Nat.zero_le _⟩) ?_
  refine lv_if_eq (tgt := 25) hx hb d_BG_glue_12 (by decide) (fun c_2 => ?_) (fun c_2 => ?_)
  · exact absurd c_2 h1
  refine lv_iload hx hb d_BG_glue_15 (lv_at hl 4 rfl) ?_
  refine lv_iload hx hb d_BG_glue_17 (lv_at hl 5 rfl) ?_
  refine k_pure (r := .int (f_BG_isGiving p3 p4)) (W.runS (As := [.int p3, .int p4]) (rest := []) ⟨hx, hb, hml, hown, hts⟩ (c_BG_isGiving l g s.heap p3 p4) (va_cwS 2 hts (kS_good kw_254 kw_252 kw_253 kw_1) rfl rfl rfl (by decide +kernel) ⟨Nat.le_of_ble_eq_true rfl, Nat.le_of_ble_eq_true rfl⟩) (k_pre (KK_st g) hKK) rfl rfl hl.1 rfl (lv_room (Nat.le_of_ble_eq_true rfl)) d_BG_glue_19 ⟨Nat.zero_le _, Nat.zero_le _⟩) ?_
  refine lv_if_ne (tgt := 27) hx hb d_BG_glue_22 (by decide) (fun c_3 => ?_) (fun c_3 => ?_)
  rotate_left
  · exact absurd c_3 h2
  refine lv_aload_n hx hb d_BG_glue_27 rfl (lv_at hl 0 rfl) ?_
  refine k_new (D := g.1) (ci := 5) (fs := [.int 0, .int 0, .int 0, .int 0, .int 0, .int 0, .null]) (C := "BoxGlue$Glue") (T := kT_Glue) (N := 7) hx hb hts ki_Glue kt_Glue ko_Glue hown (hts _ kw_255) (hts _ kw_256) (hts _ kw_16) hK rfl (fun j hj => by rcases (show j = 0 ∨ j = 1 ∨ j = 2 ∨ j = 3 ∨ j = 4 ∨ j = 5 ∨ j = 6 by omega) with rfl | rfl | rfl | rfl | rfl | rfl | rfl <;> rfl) (Nat.le_of_ble_eq_true rfl) (Nat.le_of_ble_eq_true rfl) d_BG_glue_28 (fun a H1 e_a po hN => ?_)
  refine lv_dup hx hb d_BG_glue_31 rfl ?_
  refine lv_iload_n hx hb d_BG_glue_32 rfl (lv_at hl 1 rfl) ?_
  refine lv_iload_n hx hb d_BG_glue_33 rfl (lv_at hl 2 rfl) ?_
  refine lv_iload_n hx hb d_BG_glue_34 rfl (lv_at hl 3 rfl) ?_
  refine lv_iload hx hb d_BG_glue_35 (lv_at hl 4 rfl) ?_
  refine lv_iload hx hb d_BG_glue_37 (lv_at hl 5 rfl) ?_
  refine k_new (D := g.1) (ci := 8) (fs := [.int 0, .int 0]) (C := "BoxGlue$Leaders") (T := kT_Leaders) (N := 2) hx hb hts ki_Leaders kt_Leaders ko_Leaders hown (hts _ kw_257) (hts _ kw_258) (hts _ kw_17) hK rfl (fun j hj => by rcases (show j = 0 ∨ j = 1 by omega) with rfl | rfl <;> rfl) (Nat.le_of_ble_eq_true rfl) (Nat.le_of_ble_eq_true rfl) d_BG_glue_39 (fun r H2 e_r ro hN2 => ?_)
  refine lv_dup hx hb d_BG_glue_42 rfl ?_
  refine lv_iconst (v := 0) hx hb d_BG_glue_43 (by decide) ?_
  refine lv_iconst (v := 0) hx hb d_BG_glue_44 (by decide) ?_
  refine k_call (A := (fun q : Nat => M q ∨ s.heap.size ≤ q)) (k_runI (As := [.int 0, .int 0]) (rest := [.ref r, .int p4, .int p3, .int p2, .int p1, .int p0, .ref a, .ref a, .ref x]) ⟨hx, hb, hml, hown, hts⟩ (c_Leaders_init l g H2 r 0 0 ro) (cwI 2 hts (kW_good kw_261) rfl rfl rfl (hts _ kw_17) (hts _ kw_259) (hts _ kw_260) rfl (by decide +kernel) ⟨Nat.le_of_ble_eq_true rfl, Nat.le_of_ble_eq_true rfl⟩) (Nat.le_of_ble_eq_true rfl) (k_pre (KK_st g) hKK) rfl rfl hl.1 rfl (k_room (Nat.le_of_ble_eq_true rfl)) d_BG_glue_45 ⟨Nat.le_of_ble_eq_true rfl, Nat.le_of_ble_eq_true rfl⟩) (fun _ h => by cases h) (fun q h => by rcases h with h | h; rw [h, e_r]; exact Or.inr hN.1; exact Or.inr (Nat.le_trans (Nat.le_trans hN.1 hN2.1) h)) (fun v H3 locs hv hL => ?_)
  obtain ⟨rfl, hE3, lo⟩ := hv
  have hal : a < H1.size := po.lt
  have po3 := hE3.at (hN2.at po id) (by show ¬ a = r; omega)
  have hE03 : kE (fun _ => False) s.heap H3 := (hN.tr hN2 (fun _ _ h => h)).tr hE3 (fun z hz h => by have h5 := hN.1; omega)
  refine k_call (A := (fun q : Nat => M q ∨ s.heap.size ≤ q)) (W.runI (As := [.int p0, .int p1, .int p2, .int p3, .int p4, .ref r]) (rest := [.ref a, .ref x]) ⟨hx, hb, hml, hown, hts⟩ (c_Glue_init l g H3 a p0 p1 p2 p3 p4 r po3) (cwI 6 hts (kW_good kw_272) rfl rfl rfl (hts _ kw_16) (hts _ kw_270) (hts _ kw_271) rfl (by decide +kernel) ⟨Nat.le_of_ble_eq_true rfl, Nat.le_of_ble_eq_true rfl⟩) (k_pre (KK_st g) hKK) rfl rfl hl.1 rfl (lv_room (Nat.le_of_ble_eq_true rfl)) d_BG_glue_48 ⟨Nat.le_of_ble_eq_true rfl, Nat.le_of_ble_eq_true rfl⟩) hL (fun q h => by rcases h with h | h; rw [h, e_a]; exact Or.inr (Nat.le_refl _); exact Or.inr (Nat.le_trans hE03.1 h)) (fun v H locs hv hL => ?_)
  obtain ⟨rfl, hE4, o2⟩ := hv
  have hE : kE (fun _ => False) s.heap H := hE03.tr hE4 (fun z hz h => by omega)
  have lo4 := hE4.at lo (by show ¬ r = a; omega)
  have iw := kInvW.more (⟨xo, al, am, hit, hbx, hM, hne, hMI, hMg, hIl, hB, hn, hnb⟩ : kInvW g I M x n its nb bs ib la larr lcap ma marr mcap el bel s.heap) hE (J := fun q => I q ∨ q = a ∨ q = r) (fun q h => Or.inl h) (fun q h => by rcases h with h | rfl | rfl; exact Or.inl h; exact Or.inr ⟨by omega, o2.lt⟩; exact Or.inr ⟨by rw [e_r]; exact hN.1, lo4.lt⟩)
  have hJ : ∀ q, (I q ∨ q = a ∨ q = r) → I q ∨ s.heap.size ≤ q := fun q h => by rcases h with h | h | h; exact Or.inl h; rw [h, e_a]; exact Or.inr (Nat.le_refl _); rw [h, e_r]; exact Or.inr hN.1
  have ha : kItem g (fun q => I q ∨ q = a ∨ q = r) a (it_glue p0 p1 p2 p3 p4 0 0) H := ⟨Or.inr (Or.inl rfl), Or.inr (Or.inl ⟨rfl, r, Or.inr (Or.inr rfl), o2, lo4⟩)⟩
  refine k_pure (r := .int (-2)) (W.runV (As := [.ref a]) (rest := []) ⟨hx, hb, hml, hown, hts⟩ (c_BG_append_full l g H (fun q => I q ∨ q = a ∨ q = r) M x n its nb bs ib iw.inv a hfull) (cwV 1 hts (kV_good kw_247 kw_244 kw_246 ks_BG_append kw_1) rfl rfl rfl (by decide +kernel) ⟨Nat.le_of_ble_eq_true rfl, Nat.le_of_ble_eq_true rfl⟩) (k_preV (KK_st g) hKK (va_recv hK (k_one iw.1) (ci := 0) (q0 := 0) rfl rfl)) rfl rfl hl.1 rfl (lv_room (Nat.le_of_ble_eq_true rfl)) d_BG_glue_51 ⟨Nat.le_of_ble_eq_true rfl, Nat.le_of_ble_eq_true rfl⟩) ?_
  refine W.widen (k := 3) (n := 109) (by omega) (by omega) ?_
  exact W.iret (v := (-2)) hx hb hr (fun t ht hW => ⟨_, rfl, rfl, by rw [ht]; exact hE.wk (fun _ _ h => h.elim), (fun q => I q ∨ q = a ∨ q = r), M, by rw [ht]; exact iw.inv, fun _ h => Or.inl h, hJ⟩) hL d_BG_glue_54
set_option maxHeartbeats 4000000 in
set_option maxRecDepth 100000 in
theorem c_BG_glue_ok (l : Launch) (g : KGt) (H0 : Heap) (I M : Nat → Prop) (x n : Nat) (its : Nat → Nat → Int32) (nb : Nat) (bs : Nat → BxT) (ib : Nat) (inv : kInv g I M x n its nb bs ib H0) (p0 : Int32) (p1 : Int32) (p2 : Int32) (p3 : Int32) (p4 : Int32) (h0 : ¬ f_BG_isLength p0 = 0) (h1 : ¬ f_BG_isGiving p1 p2 = 0) (h2 : ¬ f_BG_isGiving p3 p4 = 0) (hok : n < 40) : Met l y_BG_glue (kW y_BG_glue b_BG_glue 6 (.some .int)) ({ frames := 8, cells := 3, slots := 109, locals := 192 }) (kPc [.ref x, .int p0, .int p1, .int p2, .int p3, .int p4] (KK g) H0) (kQc (kPost g I M x (n + 1) (va_up its n (it_glue p0 p1 p2 p3 p4 0 0)) nb bs ib (.int (nI (n + 1))) H0)) 3 109 (fun q : Nat => M q ∨ H0.size ≤ q) := by
  refine Met.ofW (cc := b_BG_glue) (maxL := 6) (ret := (.some .int)) (by decide) rfl ?_
  intro p e s m args below meth c s₁ B hml hv
  obtain ⟨rfl, hH, hKK⟩ := hv
  have hx := B.exec
  have hb := B.bytes
  have hr := B.returns
  have hts := kW_ts (atoms_spec (ws := kW y_BG_glue b_BG_glue 6 (.some .int)) B.pre)
  have hown : s.vm.findClass "BoxGlue" = some m.cls := findClass_of_methodNamed B.named
  have hlocks := B.notSynchronized
  have hK := hKK.1
  subst hH
  have hl := lv_entry ([.ref x, .int p0, .int p1, .int p2, .int p3, .int p4]) (n := 6) (Nat.le_of_ble_eq_true rfl)
  rw [lg_entry_eq]
  generalize (lg_sl ([.ref x, .int p0, .int p1, .int p2, .int p3, .int p4]) ++ List.replicate (6 - (lg_sl ([.ref x, .int p0, .int p1, .int p2, .int p3, .int p4])).length) Slot.unset).toArray = ls at hl ⊢
  have hl : lv_has ls 6 [(0, .ref x), (1, .int p0), (2, .int p1), (3, .int p2), (4, .int p3), (5, .int p4)] := hl
  obtain ⟨la, larr, lcap, ma, marr, mcap, el, bel, xo, al, am, hit, hbx, hM, hne, hMI, hMg, hIl, hB, hn, hnb⟩ := id inv
  refine lv_iload_n hx hb d_BG_glue_0 rfl (lv_at hl 1 rfl) ?_
  refine k_pure (r := .int (f_BG_isLength p0)) (W.runS (As := [.int p0]) (rest := []) ⟨hx, hb, hml, hown, hts⟩ (c_BG_isLength l g s.heap p0) (va_cwS 1 hts (kS_good kw_200 kw_198 kw_199 kw_1) rfl rfl rfl (by decide +kernel) ⟨Nat.le_of_ble_eq_true rfl, Nat.le_of_ble_eq_true rfl⟩) (k_pre (KK_st g) hKK) rfl rfl hl.1 rfl (lv_room (Nat.le_of_ble_eq_true rfl)) d_BG_glue_1 ⟨Nat.zero_le _, Nat.zero_le _⟩) ?_
  refine lv_if_eq (tgt := 25) hx hb d_BG_glue_4 (by decide) (fun c_1 => ?_) (fun c_1 => ?_)
  · exact absurd c_1 h0
  refine lv_iload_n hx hb d_BG_glue_7 rfl (lv_at hl 2 rfl) ?_
  refine lv_iload_n hx hb d_BG_glue_8 rfl (lv_at hl 3 rfl) ?_
  refine k_pure (r := .int (f_BG_isGiving p1 p2)) (W.runS (As := [.int p1, .int p2]) (rest := []) ⟨hx, hb, hml, hown, hts⟩ (c_BG_isGiving l g s.heap p1 p2) (va_cwS 2 hts (kS_good kw_254 kw_252 kw_253 kw_1) rfl rfl rfl (by decide +kernel) ⟨Nat.le_of_ble_eq_true rfl, Nat.le_of_ble_eq_true rfl⟩) (k_pre (KK_st g) hKK) rfl rfl hl.1 rfl (lv_room (Nat.le_of_ble_eq_true rfl)) d_BG_glue_9 ⟨Nat.zero_le _, Nat.zero_le _⟩) ?_
  refine lv_if_eq (tgt := 25) hx hb d_BG_glue_12 (by decide) (fun c_2 => ?_) (fun c_2 => ?_)
  · exact absurd c_2 h1
  refine lv_iload hx hb d_BG_glue_15 (lv_at hl 4 rfl) ?_
  refine lv_iload hx hb d_BG_glue_17 (lv_at hl 5 rfl) ?_
  refine k_pure (r := .int (f_BG_isGiving p3 p4)) (W.runS (As := [.int p3, .int p4]) (rest := []) ⟨hx, hb, hml, hown, hts⟩ (c_BG_isGiving l g s.heap p3 p4) (va_cwS 2 hts (kS_good kw_254 kw_252 kw_253 kw_1) rfl rfl rfl (by decide +kernel) ⟨Nat.le_of_ble_eq_true rfl, Nat.le_of_ble_eq_true rfl⟩) (k_pre (KK_st g) hKK) rfl rfl hl.1 rfl (lv_room (Nat.le_of_ble_eq_true rfl)) d_BG_glue_19 ⟨Nat.zero_le _, Nat.zero_le _⟩) ?_
  refine lv_if_ne (tgt := 27) hx hb d_BG_glue_22 (by decide) (fun c_3 => ?_) (fun c_3 => ?_)
  rotate_left
  · exact absurd c_3 h2
  refine lv_aload_n hx hb d_BG_glue_27 rfl (lv_at hl 0 rfl) ?_
  refine k_new (D := g.1) (ci := 5) (fs := [.int 0, .int 0, .int 0, .int 0, .int 0, .int 0, .null]) (C := "BoxGlue$Glue") (T := kT_Glue) (N := 7) hx hb hts ki_Glue kt_Glue ko_Glue hown (hts _ kw_255) (hts _ kw_256) (hts _ kw_16) hK rfl (fun j hj => by rcases (show j = 0 ∨ j = 1 ∨ j = 2 ∨ j = 3 ∨ j = 4 ∨ j = 5 ∨ j = 6 by omega) with rfl | rfl | rfl | rfl | rfl | rfl | rfl <;> rfl) (Nat.le_of_ble_eq_true rfl) (Nat.le_of_ble_eq_true rfl) d_BG_glue_28 (fun a H1 e_a po hN => ?_)
  refine lv_dup hx hb d_BG_glue_31 rfl ?_
  refine lv_iload_n hx hb d_BG_glue_32 rfl (lv_at hl 1 rfl) ?_
  refine lv_iload_n hx hb d_BG_glue_33 rfl (lv_at hl 2 rfl) ?_
  refine lv_iload_n hx hb d_BG_glue_34 rfl (lv_at hl 3 rfl) ?_
  refine lv_iload hx hb d_BG_glue_35 (lv_at hl 4 rfl) ?_
  refine lv_iload hx hb d_BG_glue_37 (lv_at hl 5 rfl) ?_
  refine k_new (D := g.1) (ci := 8) (fs := [.int 0, .int 0]) (C := "BoxGlue$Leaders") (T := kT_Leaders) (N := 2) hx hb hts ki_Leaders kt_Leaders ko_Leaders hown (hts _ kw_257) (hts _ kw_258) (hts _ kw_17) hK rfl (fun j hj => by rcases (show j = 0 ∨ j = 1 by omega) with rfl | rfl <;> rfl) (Nat.le_of_ble_eq_true rfl) (Nat.le_of_ble_eq_true rfl) d_BG_glue_39 (fun r H2 e_r ro hN2 => ?_)
  refine lv_dup hx hb d_BG_glue_42 rfl ?_
  refine lv_iconst (v := 0) hx hb d_BG_glue_43 (by decide) ?_
  refine lv_iconst (v := 0) hx hb d_BG_glue_44 (by decide) ?_
  refine k_call (A := (fun q : Nat => M q ∨ s.heap.size ≤ q)) (k_runI (As := [.int 0, .int 0]) (rest := [.ref r, .int p4, .int p3, .int p2, .int p1, .int p0, .ref a, .ref a, .ref x]) ⟨hx, hb, hml, hown, hts⟩ (c_Leaders_init l g H2 r 0 0 ro) (cwI 2 hts (kW_good kw_261) rfl rfl rfl (hts _ kw_17) (hts _ kw_259) (hts _ kw_260) rfl (by decide +kernel) ⟨Nat.le_of_ble_eq_true rfl, Nat.le_of_ble_eq_true rfl⟩) (Nat.le_of_ble_eq_true rfl) (k_pre (KK_st g) hKK) rfl rfl hl.1 rfl (k_room (Nat.le_of_ble_eq_true rfl)) d_BG_glue_45 ⟨Nat.le_of_ble_eq_true rfl, Nat.le_of_ble_eq_true rfl⟩) (fun _ h => by cases h) (fun q h => by rcases h with h | h; rw [h, e_r]; exact Or.inr hN.1; exact Or.inr (Nat.le_trans (Nat.le_trans hN.1 hN2.1) h)) (fun v H3 locs hv hL => ?_)
  obtain ⟨rfl, hE3, lo⟩ := hv
  have hal : a < H1.size := po.lt
  have po3 := hE3.at (hN2.at po id) (by show ¬ a = r; omega)
  have hE03 : kE (fun _ => False) s.heap H3 := (hN.tr hN2 (fun _ _ h => h)).tr hE3 (fun z hz h => by have h5 := hN.1; omega)
  refine k_call (A := (fun q : Nat => M q ∨ s.heap.size ≤ q)) (W.runI (As := [.int p0, .int p1, .int p2, .int p3, .int p4, .ref r]) (rest := [.ref a, .ref x]) ⟨hx, hb, hml, hown, hts⟩ (c_Glue_init l g H3 a p0 p1 p2 p3 p4 r po3) (cwI 6 hts (kW_good kw_272) rfl rfl rfl (hts _ kw_16) (hts _ kw_270) (hts _ kw_271) rfl (by decide +kernel) ⟨Nat.le_of_ble_eq_true rfl, Nat.le_of_ble_eq_true rfl⟩) (k_pre (KK_st g) hKK) rfl rfl hl.1 rfl (lv_room (Nat.le_of_ble_eq_true rfl)) d_BG_glue_48 ⟨Nat.le_of_ble_eq_true rfl, Nat.le_of_ble_eq_true rfl⟩) hL (fun q h => by rcases h with h | h; rw [h, e_a]; exact Or.inr (Nat.le_refl _); exact Or.inr (Nat.le_trans hE03.1 h)) (fun v H locs hv hL => ?_)
  obtain ⟨rfl, hE4, o2⟩ := hv
  have hE : kE (fun _ => False) s.heap H := hE03.tr hE4 (fun z hz h => by omega)
  have lo4 := hE4.at lo (by show ¬ r = a; omega)
  have iw := kInvW.more (⟨xo, al, am, hit, hbx, hM, hne, hMI, hMg, hIl, hB, hn, hnb⟩ : kInvW g I M x n its nb bs ib la larr lcap ma marr mcap el bel s.heap) hE (J := fun q => I q ∨ q = a ∨ q = r) (fun q h => Or.inl h) (fun q h => by rcases h with h | rfl | rfl; exact Or.inl h; exact Or.inr ⟨by omega, o2.lt⟩; exact Or.inr ⟨by rw [e_r]; exact hN.1, lo4.lt⟩)
  have hJ : ∀ q, (I q ∨ q = a ∨ q = r) → I q ∨ s.heap.size ≤ q := fun q h => by rcases h with h | h | h; exact Or.inl h; rw [h, e_a]; exact Or.inr (Nat.le_refl _); rw [h, e_r]; exact Or.inr hN.1
  have ha : kItem g (fun q => I q ∨ q = a ∨ q = r) a (it_glue p0 p1 p2 p3 p4 0 0) H := ⟨Or.inr (Or.inl rfl), Or.inr (Or.inl ⟨rfl, r, Or.inr (Or.inr rfl), o2, lo4⟩)⟩
  refine k_call (A := (fun q : Nat => M q ∨ s.heap.size ≤ q)) (W.runV (As := [.ref a]) (rest := []) ⟨hx, hb, hml, hown, hts⟩ (c_BG_append_ok l g H (fun q => I q ∨ q = a ∨ q = r) M x n its nb bs ib iw.inv a (it_glue p0 p1 p2 p3 p4 0 0) hok ha) (cwV 1 hts (kV_good kw_247 kw_244 kw_246 ks_BG_append kw_1) rfl rfl rfl (by decide +kernel) ⟨Nat.le_of_ble_eq_true rfl, Nat.le_of_ble_eq_true rfl⟩) (k_preV (KK_st g) hKK (va_recv hK (k_one iw.1) (ci := 0) (q0 := 0) rfl rfl)) rfl rfl hl.1 rfl (lv_room (Nat.le_of_ble_eq_true rfl)) d_BG_glue_51 ⟨Nat.le_of_ble_eq_true rfl, Nat.le_of_ble_eq_true rfl⟩) hL (fun q h => h.elim Or.inl (fun h => Or.inr (Nat.le_trans hE.1 h))) (fun v H9 locs hv hL => ?_)
  obtain ⟨rfl, hEM, J9, N9, inv9, hN9, hJ9⟩ := hv
  exact W.iret (v := (nI (n + 1))) hx hb hr (fun t ht hW => ⟨_, rfl, rfl, by rw [ht]; exact (hE.wk (fun _ _ h => h.elim)).tr hEM (fun _ _ h => h), J9, N9, by rw [ht]; exact inv9, fun q h => (hN9 q h).elim Or.inl (fun h => Or.inr (Nat.le_trans hE.1 h)), fun q h => (hJ9 q h).elim (hJ q) (fun h => Or.inr (Nat.le_trans hE.1 h))⟩) hL d_BG_glue_54
set_option maxHeartbeats 4000000 in
set_option maxRecDepth 100000 in
theorem c_BG_put_bad1 (l : Launch) (g : KGt) (H0 : Heap) (I M : Nat → Prop) (x n : Nat) (its : Nat → Nat → Int32) (nb : Nat) (bs : Nat → BxT) (ib : Nat) (inv : kInv g I M x n its nb bs ib H0) (p0 : Int32) (p1 : Int32) (h : p0 < 0 ∨ nI nb ≤ p0) : Met l y_BG_put (kW y_BG_put b_BG_put 3 (.some .int)) ({ frames := 2, cells := 0, slots := 0, locals := 41 }) (kPc [.ref x, .int p0, .int p1] (KK g) H0) (kQc (kPure (.int (-1)) H0)) 0 0 (fun _ => False) := by
  refine Met.ofW (cc := b_BG_put) (maxL := 3) (ret := (.some .int)) (by decide) rfl ?_
  intro p e s m args below meth c s₁ B hml hv
  obtain ⟨rfl, hH, hKK⟩ := hv
  have hx := B.exec
  have hb := B.bytes
  have hr := B.returns
  have hts := kW_ts (atoms_spec (ws := kW y_BG_put b_BG_put 3 (.some .int)) B.pre)
  have hown : s.vm.findClass "BoxGlue" = some m.cls := findClass_of_methodNamed B.named
  have hlocks := B.notSynchronized
  have hK := hKK.1
  subst hH
  have hl := lv_entry ([.ref x, .int p0, .int p1]) (n := 3) (Nat.le_of_ble_eq_true rfl)
  rw [lg_entry_eq]
  generalize (lg_sl ([.ref x, .int p0, .int p1]) ++ List.replicate (3 - (lg_sl ([.ref x, .int p0, .int p1])).length) Slot.unset).toArray = ls at hl ⊢
  have hl : lv_has ls 3 [(0, .ref x), (1, .int p0), (2, .int p1)] := hl
  obtain ⟨la, larr, lcap, ma, marr, mcap, el, bel, xo, al, am, hit, hbx, hM, hne, hMI, hMg, hIl, hB, hn, hnb⟩ := id inv
  refine lv_aload_n hx hb d_BG_put_0 rfl (lv_at hl 0 rfl) ?_
  refine lv_iload_n hx hb d_BG_put_1 rfl (lv_at hl 1 rfl) ?_
  refine k_pure (r := .int 0) (W.runV (As := [.int p0]) (rest := []) ⟨hx, hb, hml, hown, hts⟩ (c_BG_isBox_no l g s.heap I M x n its nb bs ib inv p0 h) (cwV 1 hts (kV_good kw_197 kw_194 kw_196 ks_BG_isBox kw_1) rfl rfl rfl (by decide +kernel) ⟨Nat.le_of_ble_eq_true rfl, Nat.le_of_ble_eq_true rfl⟩) (k_preV (KK_st g) hKK (va_recv hK (k_one xo) (ci := 0) (q0 := 0) rfl rfl)) rfl rfl hl.1 rfl (lv_room (Nat.le_of_ble_eq_true rfl)) d_BG_put_2 ⟨Nat.zero_le _, Nat.zero_le _⟩) ?_
  refine lv_if_eq (tgt := 15) hx hb d_BG_put_5 (by decide) (fun c_1 => ?_) (fun c_1 => ?_)
  rotate_left
  · exact absurd c_1 (fun q => q rfl)
  refine lv_iconst (v := (-1)) hx hb d_BG_put_15 (by decide) ?_
  exact W.iret (v := (-1)) hx hb hr (fun t ht hW => ⟨_, rfl, rfl, ht⟩) (fun _ h => by cases h) d_BG_put_16
set_option maxHeartbeats 4000000 in
set_option maxRecDepth 100000 in
theorem c_BG_put_bad2 (l : Launch) (g : KGt) (H0 : Heap) (I M : Nat → Prop) (x n : Nat) (its : Nat → Nat → Int32) (nb : Nat) (bs : Nat → BxT) (ib : Nat) (inv : kInv g I M x n its nb bs ib H0) (p1 : Int32) (k : Nat) (hk : k < nb) (h : f_BG_isLength p1 = 0) : Met l y_BG_put (kW y_BG_put b_BG_put 3 (.some .int)) ({ frames := 2, cells := 0, slots := 0, locals := 41 }) (kPc [.ref x, .int (nI k), .int p1] (KK g) H0) (kQc (kPure (.int (-1)) H0)) 0 0 (fun _ => False) := by
  refine Met.ofW (cc := b_BG_put) (maxL := 3) (ret := (.some .int)) (by decide) rfl ?_
  intro p e s m args below meth c s₁ B hml hv
  obtain ⟨rfl, hH, hKK⟩ := hv
  have hx := B.exec
  have hb := B.bytes
  have hr := B.returns
  have hts := kW_ts (atoms_spec (ws := kW y_BG_put b_BG_put 3 (.some .int)) B.pre)
  have hown : s.vm.findClass "BoxGlue" = some m.cls := findClass_of_methodNamed B.named
  have hlocks := B.notSynchronized
  have hK := hKK.1
  subst hH
  have hl := lv_entry ([.ref x, .int (nI k), .int p1]) (n := 3) (Nat.le_of_ble_eq_true rfl)
  rw [lg_entry_eq]
  generalize (lg_sl ([.ref x, .int (nI k), .int p1]) ++ List.replicate (3 - (lg_sl ([.ref x, .int (nI k), .int p1])).length) Slot.unset).toArray = ls at hl ⊢
  have hl : lv_has ls 3 [(0, .ref x), (1, .int (nI k)), (2, .int p1)] := hl
  obtain ⟨la, larr, lcap, ma, marr, mcap, el, bel, xo, al, am, hit, hbx, hM, hne, hMI, hMg, hIl, hB, hn, hnb⟩ := id inv
  refine lv_aload_n hx hb d_BG_put_0 rfl (lv_at hl 0 rfl) ?_
  refine lv_iload_n hx hb d_BG_put_1 rfl (lv_at hl 1 rfl) ?_
  refine k_pure (r := .int 1) (W.runV (As := [.int (nI k)]) (rest := []) ⟨hx, hb, hml, hown, hts⟩ (c_BG_isBox_yes l g s.heap I M x n its nb bs ib inv k hk) (cwV 1 hts (kV_good kw_197 kw_194 kw_196 ks_BG_isBox kw_1) rfl rfl rfl (by decide +kernel) ⟨Nat.le_of_ble_eq_true rfl, Nat.le_of_ble_eq_true rfl⟩) (k_preV (KK_st g) hKK (va_recv hK (k_one xo) (ci := 0) (q0 := 0) rfl rfl)) rfl rfl hl.1 rfl (lv_room (Nat.le_of_ble_eq_true rfl)) d_BG_put_2 ⟨Nat.zero_le _, Nat.zero_le _⟩) ?_
  refine lv_if_eq (tgt := 15) hx hb d_BG_put_5 (by decide) (fun c_1 => ?_) (fun c_1 => ?_)
  · exact absurd c_1 (by decide)
  refine lv_iload_n hx hb d_BG_put_8 rfl (lv_at hl 2 rfl) ?_
  refine k_pure (r := .int (f_BG_isLength p1)) (W.runS (As := [.int p1]) (rest := []) ⟨hx, hb, hml, hown, hts⟩ (c_BG_isLength l g s.heap p1) (va_cwS 1 hts (kS_good kw_200 kw_198 kw_199 kw_1) rfl rfl rfl (by decide +kernel) ⟨Nat.le_of_ble_eq_true rfl, Nat.le_of_ble_eq_true rfl⟩) (k_pre (KK_st g) hKK) rfl rfl hl.1 rfl (lv_room (Nat.le_of_ble_eq_true rfl)) d_BG_put_9 ⟨Nat.zero_le _, Nat.zero_le _⟩) ?_
  refine lv_if_ne (tgt := 17) hx hb d_BG_put_12 (by decide) (fun c_2 => ?_) (fun c_2 => ?_)
  · exact absurd c_2 (fun q => q h)
  refine lv_iconst (v := (-1)) hx hb d_BG_put_15 (by decide) ?_
  exact W.iret (v := (-1)) hx hb hr (fun t ht hW => ⟨_, rfl, rfl, ht⟩) (fun _ h => by cases h) d_BG_put_16
set_option maxHeartbeats 4000000 in
set_option maxRecDepth 100000 in
theorem c_BG_put_full (l : Launch) (g : KGt) (H0 : Heap) (I M : Nat → Prop) (x n : Nat) (its : Nat → Nat → Int32) (nb : Nat) (bs : Nat → BxT) (ib : Nat) (inv : kInv g I M x n its nb bs ib H0) (p1 : Int32) (k : Nat) (hk : k < nb) (h0 : ¬ f_BG_isLength p1 = 0) (hfull : n = 40) : Met l y_BG_put (kW y_BG_put b_BG_put 3 (.some .int)) ({ frames := 8, cells := 2, slots := 104, locals := 192 }) (kPc [.ref x, .int (nI k), .int p1] (KK g) H0) (kQc (kPost g I M x n its nb bs ib (.int (-2)) H0)) 2 104 (fun q : Nat => M q ∨ H0.size ≤ q) := by
  refine Met.ofW (cc := b_BG_put) (maxL := 3) (ret := (.some .int)) (by decide) rfl ?_
  intro p e s m args below meth c s₁ B hml hv
  obtain ⟨rfl, hH, hKK⟩ := hv
  have hx := B.exec
  have hb := B.bytes
  have hr := B.returns
  have hts := kW_ts (atoms_spec (ws := kW y_BG_put b_BG_put 3 (.some .int)) B.pre)
  have hown : s.vm.findClass "BoxGlue" = some m.cls := findClass_of_methodNamed B.named
  have hlocks := B.notSynchronized
  have hK := hKK.1
  subst hH
  have hl := lv_entry ([.ref x, .int (nI k), .int p1]) (n := 3) (Nat.le_of_ble_eq_true rfl)
  rw [lg_entry_eq]
  generalize (lg_sl ([.ref x, .int (nI k), .int p1]) ++ List.replicate (3 - (lg_sl ([.ref x, .int (nI k), .int p1])).length) Slot.unset).toArray = ls at hl ⊢
  have hl : lv_has ls 3 [(0, .ref x), (1, .int (nI k)), (2, .int p1)] := hl
  obtain ⟨la, larr, lcap, ma, marr, mcap, el, bel, xo, al, am, hit, hbx, hM, hne, hMI, hMg, hIl, hB, hn, hnb⟩ := id inv
  obtain ⟨hIb, bca, bfa, barr, bcap, pel, w1, hIf, w3, hIc, w5, w6, w7⟩ := hbx k hk
  refine lv_aload_n hx hb d_BG_put_0 rfl (lv_at hl 0 rfl) ?_
  refine lv_iload_n hx hb d_BG_put_1 rfl (lv_at hl 1 rfl) ?_
  refine k_pure (r := .int 1) (W.runV (As := [.int (nI k)]) (rest := []) ⟨hx, hb, hml, hown, hts⟩ (c_BG_isBox_yes l g s.heap I M x n its nb bs ib inv k hk) (cwV 1 hts (kV_good kw_197 kw_194 kw_196 ks_BG_isBox kw_1) rfl rfl rfl (by decide +kernel) ⟨Nat.le_of_ble_eq_true rfl, Nat.le_of_ble_eq_true rfl⟩) (k_preV (KK_st g) hKK (va_recv hK (k_one xo) (ci := 0) (q0 := 0) rfl rfl)) rfl rfl hl.1 rfl (lv_room (Nat.le_of_ble_eq_true rfl)) d_BG_put_2 ⟨Nat.zero_le _, Nat.zero_le _⟩) ?_
  refine lv_if_eq (tgt := 15) hx hb d_BG_put_5 (by decide) (fun c_1 => ?_) (fun c_1 => ?_)
  · exact absurd c_1 (by decide)
  refine lv_iload_n hx hb d_BG_put_8 rfl (lv_at hl 2 rfl) ?_
  refine k_pure (r := .int (f_BG_isLength p1)) (W.runS (As := [.int p1]) (rest := []) ⟨hx, hb, hml, hown, hts⟩ (c_BG_isLength l g s.heap p1) (va_cwS 1 hts (kS_good kw_200 kw_198 kw_199 kw_1) rfl rfl rfl (by decide +kernel) ⟨Nat.le_of_ble_eq_true rfl, Nat.le_of_ble_eq_true rfl⟩) (k_pre (KK_st g) hKK) rfl rfl hl.1 rfl (lv_room (Nat.le_of_ble_eq_true rfl)) d_BG_put_9 ⟨Nat.zero_le _, Nat.zero_le _⟩) ?_
  refine lv_if_ne (tgt := 17) hx hb d_BG_put_12 (by decide) (fun c_2 => ?_) (fun c_2 => ?_)
  rotate_left
  · exact absurd c_2 h0
  refine lv_aload_n hx hb d_BG_put_17 rfl (lv_at hl 0 rfl) ?_
  refine k_new (D := g.1) (ci := 4) (fs := [.int 0, .int 0, .int 0, .int 0]) (C := "BoxGlue$Put") (T := kT_Put) (N := 4) hx hb hts ki_Put kt_Put ko_Put hown (hts _ kw_202) (hts _ kw_203) (hts _ kw_13) hK rfl (fun j hj => by rcases (show j = 0 ∨ j = 1 ∨ j = 2 ∨ j = 3 by omega) with rfl | rfl | rfl | rfl <;> rfl) (Nat.le_of_ble_eq_true rfl) (Nat.le_of_ble_eq_true rfl) d_BG_put_18 (fun a H1 e_a po hN => ?_)
  have xo1 := hN.at xo id
  have am1 := am.ext hN id (fun _ => id)
  have w11 := hN.at w1 id
  refine lv_dup hx hb d_BG_put_21 rfl ?_
  refine lv_aload_n hx hb d_BG_put_22 rfl (lv_at hl 0 rfl) ?_
  refine va_get (D := g.1) (ci := 0) (v := .ref ma) (C := "BoxGlue") (T := kT_BG) (N := 3) hx hb hts ki_BG hown hK (k_one xo1) 0 rfl rfl 1 (by decide) (hts _ kw_56) (fun _ h9 => h9) rfl d_BG_put_23 ?_
  refine lv_iload_n hx hb d_BG_put_26 rfl (lv_at hl 1 rfl) ?_
  refine k_pure (r := .ref (bel k)) (W.runV (As := [.int (nI k)]) (rest := [.ref a, .ref a, .ref x]) ⟨hx, hb, hml, hown, hts⟩ (c_AL_get l g H1 ma nb bel k hk ⟨_, _, am1⟩) (cwV 1 hts (kV_good kw_207 kw_204 kw_205 kw_206 kw_4) rfl rfl rfl (by decide +kernel) ⟨Nat.le_of_ble_eq_true rfl, Nat.le_of_ble_eq_true rfl⟩) (k_preV (KK_st g) hKK (kAL.recv ⟨_, _, am1⟩ hK)) rfl rfl hl.1 rfl (lv_room (Nat.le_of_ble_eq_true rfl)) d_BG_put_27 ⟨Nat.le_of_ble_eq_true rfl, Nat.le_of_ble_eq_true rfl⟩) ?_
  refine va_castY (C := "BoxGlue$Box") hx hb hown (hts _ kw_218) (hKK.2.1 (.castable "BoxGlue$Box" "BoxGlue$Box") (by decide +kernel)) (va_recv hK (k_one w11) (ci := 2) (q0 := 0) rfl rfl) d_BG_put_30 ?_
  refine lv_iload_n hx hb d_BG_put_33 rfl (lv_at hl 2 rfl) ?_
  refine k_call (A := (fun q : Nat => M q ∨ s.heap.size ≤ q)) (W.runI (As := [.ref (bel k), .int p1]) (rest := [.ref a, .ref x]) ⟨hx, hb, hml, hown, hts⟩ (c_Put_init l g H1 a (bel k) p1 ((bs k).1 0) ((bs k).1 1) ((bs k).1 2) bca bfa w11 po) (cwI 2 hts (kW_good kw_221) rfl rfl rfl (hts _ kw_13) (hts _ kw_219) (hts _ kw_220) rfl (by decide +kernel) ⟨Nat.le_of_ble_eq_true rfl, Nat.le_of_ble_eq_true rfl⟩) (k_pre (KK_st g) hKK) rfl rfl hl.1 rfl (lv_room (Nat.le_of_ble_eq_true rfl)) d_BG_put_34 ⟨Nat.le_of_ble_eq_true rfl, Nat.le_of_ble_eq_true rfl⟩) (fun _ h => by cases h) (fun q h => by rcases h with h | h; rw [h, e_a]; exact Or.inr (Nat.le_refl _); exact Or.inr (Nat.le_trans hN.1 h)) (fun v H locs hv hL => ?_)
  obtain ⟨rfl, hE2, o2⟩ := hv
  have hE : kE (fun _ => False) s.heap H := hN.tr hE2 (fun z hz h => by omega)
  have iw := kInvW.more (⟨xo, al, am, hit, hbx, hM, hne, hMI, hMg, hIl, hB, hn, hnb⟩ : kInvW g I M x n its nb bs ib la larr lcap ma marr mcap el bel s.heap) hE (J := fun q => I q ∨ q = a) (fun q h => Or.inl h) (fun q h => by rcases h with h | rfl; exact Or.inl h; exact Or.inr ⟨by omega, o2.lt⟩)
  have hJ : ∀ q, (I q ∨ q = a) → I q ∨ s.heap.size ≤ q := fun q h => by rcases h with h | h; exact Or.inl h; rw [h, e_a]; exact Or.inr (Nat.le_refl _)
  have ha : kItem g (fun q => I q ∨ q = a) a (it_put (bs k) p1) H := ⟨Or.inr rfl, Or.inl ⟨rfl, o2⟩⟩
  refine k_pure (r := .int (-2)) (W.runV (As := [.ref a]) (rest := []) ⟨hx, hb, hml, hown, hts⟩ (c_BG_append_full l g H (fun q => I q ∨ q = a) M x n its nb bs ib iw.inv a hfull) (cwV 1 hts (kV_good kw_247 kw_244 kw_246 ks_BG_append kw_1) rfl rfl rfl (by decide +kernel) ⟨Nat.le_of_ble_eq_true rfl, Nat.le_of_ble_eq_true rfl⟩) (k_preV (KK_st g) hKK (va_recv hK (k_one iw.1) (ci := 0) (q0 := 0) rfl rfl)) rfl rfl hl.1 rfl (lv_room (Nat.le_of_ble_eq_true rfl)) d_BG_put_37 ⟨Nat.le_of_ble_eq_true rfl, Nat.le_of_ble_eq_true rfl⟩) ?_
  refine W.widen (k := 2) (n := 104) (by omega) (by omega) ?_
  exact W.iret (v := (-2)) hx hb hr (fun t ht hW => ⟨_, rfl, rfl, by rw [ht]; exact hE.wk (fun _ _ h => h.elim), (fun q => I q ∨ q = a), M, by rw [ht]; exact iw.inv, fun _ h => Or.inl h, hJ⟩) hL d_BG_put_40
set_option maxHeartbeats 4000000 in
set_option maxRecDepth 100000 in
theorem c_BG_put_ok (l : Launch) (g : KGt) (H0 : Heap) (I M : Nat → Prop) (x n : Nat) (its : Nat → Nat → Int32) (nb : Nat) (bs : Nat → BxT) (ib : Nat) (inv : kInv g I M x n its nb bs ib H0) (p1 : Int32) (k : Nat) (hk : k < nb) (h0 : ¬ f_BG_isLength p1 = 0) (hok : n < 40) : Met l y_BG_put (kW y_BG_put b_BG_put 3 (.some .int)) ({ frames := 8, cells := 2, slots := 104, locals := 192 }) (kPc [.ref x, .int (nI k), .int p1] (KK g) H0) (kQc (kPost g I M x (n + 1) (va_up its n (it_put (bs k) p1)) nb bs ib (.int (nI (n + 1))) H0)) 2 104 (fun q : Nat => M q ∨ H0.size ≤ q) := by
  refine Met.ofW (cc := b_BG_put) (maxL := 3) (ret := (.some .int)) (by decide) rfl ?_
  intro p e s m args below meth c s₁ B hml hv
  obtain ⟨rfl, hH, hKK⟩ := hv
  have hx := B.exec
  have hb := B.bytes
  have hr := B.returns
  have hts := kW_ts (atoms_spec (ws := kW y_BG_put b_BG_put 3 (.some .int)) B.pre)
  have hown : s.vm.findClass "BoxGlue" = some m.cls := findClass_of_methodNamed B.named
  have hlocks := B.notSynchronized
  have hK := hKK.1
  subst hH
  have hl := lv_entry ([.ref x, .int (nI k), .int p1]) (n := 3) (Nat.le_of_ble_eq_true rfl)
  rw [lg_entry_eq]
  generalize (lg_sl ([.ref x, .int (nI k), .int p1]) ++ List.replicate (3 - (lg_sl ([.ref x, .int (nI k), .int p1])).length) Slot.unset).toArray = ls at hl ⊢
  have hl : lv_has ls 3 [(0, .ref x), (1, .int (nI k)), (2, .int p1)] := hl
  obtain ⟨la, larr, lcap, ma, marr, mcap, el, bel, xo, al, am, hit, hbx, hM, hne, hMI, hMg, hIl, hB, hn, hnb⟩ := id inv
  obtain ⟨hIb, bca, bfa, barr, bcap, pel, w1, hIf, w3, hIc, w5, w6, w7⟩ := hbx k hk
  refine lv_aload_n hx hb d_BG_put_0 rfl (lv_at hl 0 rfl) ?_
  refine lv_iload_n hx hb d_BG_put_1 rfl (lv_at hl 1 rfl) ?_
  refine k_pure (r := .int 1) (W.runV (As := [.int (nI k)]) (rest := []) ⟨hx, hb, hml, hown, hts⟩ (c_BG_isBox_yes l g s.heap I M x n its nb bs ib inv k hk) (cwV 1 hts (kV_good kw_197 kw_194 kw_196 ks_BG_isBox kw_1) rfl rfl rfl (by decide +kernel) ⟨Nat.le_of_ble_eq_true rfl, Nat.le_of_ble_eq_true rfl⟩) (k_preV (KK_st g) hKK (va_recv hK (k_one xo) (ci := 0) (q0 := 0) rfl rfl)) rfl rfl hl.1 rfl (lv_room (Nat.le_of_ble_eq_true rfl)) d_BG_put_2 ⟨Nat.zero_le _, Nat.zero_le _⟩) ?_
  refine lv_if_eq (tgt := 15) hx hb d_BG_put_5 (by decide) (fun c_1 => ?_) (fun c_1 => ?_)
  · exact absurd c_1 (by decide)
  refine lv_iload_n hx hb d_BG_put_8 rfl (lv_at hl 2 rfl) ?_
  refine k_pure (r := .int (f_BG_isLength p1)) (W.runS (As := [.int p1]) (rest := []) ⟨hx, hb, hml, hown, hts⟩ (c_BG_isLength l g s.heap p1) (va_cwS 1 hts (kS_good kw_200 kw_198 kw_199 kw_1) rfl rfl rfl (by decide +kernel) ⟨Nat.le_of_ble_eq_true rfl, Nat.le_of_ble_eq_true rfl⟩) (k_pre (KK_st g) hKK) rfl rfl hl.1 rfl (lv_room (Nat.le_of_ble_eq_true rfl)) d_BG_put_9 ⟨Nat.zero_le _, Nat.zero_le _⟩) ?_
  refine lv_if_ne (tgt := 17) hx hb d_BG_put_12 (by decide) (fun c_2 => ?_) (fun c_2 => ?_)
  rotate_left
  · exact absurd c_2 h0
  refine lv_aload_n hx hb d_BG_put_17 rfl (lv_at hl 0 rfl) ?_
  refine k_new (D := g.1) (ci := 4) (fs := [.int 0, .int 0, .int 0, .int 0]) (C := "BoxGlue$Put") (T := kT_Put) (N := 4) hx hb hts ki_Put kt_Put ko_Put hown (hts _ kw_202) (hts _ kw_203) (hts _ kw_13) hK rfl (fun j hj => by rcases (show j = 0 ∨ j = 1 ∨ j = 2 ∨ j = 3 by omega) with rfl | rfl | rfl | rfl <;> rfl) (Nat.le_of_ble_eq_true rfl) (Nat.le_of_ble_eq_true rfl) d_BG_put_18 (fun a H1 e_a po hN => ?_)
  have xo1 := hN.at xo id
  have am1 := am.ext hN id (fun _ => id)
  have w11 := hN.at w1 id
  refine lv_dup hx hb d_BG_put_21 rfl ?_
  refine lv_aload_n hx hb d_BG_put_22 rfl (lv_at hl 0 rfl) ?_
  refine va_get (D := g.1) (ci := 0) (v := .ref ma) (C := "BoxGlue") (T := kT_BG) (N := 3) hx hb hts ki_BG hown hK (k_one xo1) 0 rfl rfl 1 (by decide) (hts _ kw_56) (fun _ h9 => h9) rfl d_BG_put_23 ?_
  refine lv_iload_n hx hb d_BG_put_26 rfl (lv_at hl 1 rfl) ?_
  refine k_pure (r := .ref (bel k)) (W.runV (As := [.int (nI k)]) (rest := [.ref a, .ref a, .ref x]) ⟨hx, hb, hml, hown, hts⟩ (c_AL_get l g H1 ma nb bel k hk ⟨_, _, am1⟩) (cwV 1 hts (kV_good kw_207 kw_204 kw_205 kw_206 kw_4) rfl rfl rfl (by decide +kernel) ⟨Nat.le_of_ble_eq_true rfl, Nat.le_of_ble_eq_true rfl⟩) (k_preV (KK_st g) hKK (kAL.recv ⟨_, _, am1⟩ hK)) rfl rfl hl.1 rfl (lv_room (Nat.le_of_ble_eq_true rfl)) d_BG_put_27 ⟨Nat.le_of_ble_eq_true rfl, Nat.le_of_ble_eq_true rfl⟩) ?_
  refine va_castY (C := "BoxGlue$Box") hx hb hown (hts _ kw_218) (hKK.2.1 (.castable "BoxGlue$Box" "BoxGlue$Box") (by decide +kernel)) (va_recv hK (k_one w11) (ci := 2) (q0 := 0) rfl rfl) d_BG_put_30 ?_
  refine lv_iload_n hx hb d_BG_put_33 rfl (lv_at hl 2 rfl) ?_
  refine k_call (A := (fun q : Nat => M q ∨ s.heap.size ≤ q)) (W.runI (As := [.ref (bel k), .int p1]) (rest := [.ref a, .ref x]) ⟨hx, hb, hml, hown, hts⟩ (c_Put_init l g H1 a (bel k) p1 ((bs k).1 0) ((bs k).1 1) ((bs k).1 2) bca bfa w11 po) (cwI 2 hts (kW_good kw_221) rfl rfl rfl (hts _ kw_13) (hts _ kw_219) (hts _ kw_220) rfl (by decide +kernel) ⟨Nat.le_of_ble_eq_true rfl, Nat.le_of_ble_eq_true rfl⟩) (k_pre (KK_st g) hKK) rfl rfl hl.1 rfl (lv_room (Nat.le_of_ble_eq_true rfl)) d_BG_put_34 ⟨Nat.le_of_ble_eq_true rfl, Nat.le_of_ble_eq_true rfl⟩) (fun _ h => by cases h) (fun q h => by rcases h with h | h; rw [h, e_a]; exact Or.inr (Nat.le_refl _); exact Or.inr (Nat.le_trans hN.1 h)) (fun v H locs hv hL => ?_)
  obtain ⟨rfl, hE2, o2⟩ := hv
  have hE : kE (fun _ => False) s.heap H := hN.tr hE2 (fun z hz h => by omega)
  have iw := kInvW.more (⟨xo, al, am, hit, hbx, hM, hne, hMI, hMg, hIl, hB, hn, hnb⟩ : kInvW g I M x n its nb bs ib la larr lcap ma marr mcap el bel s.heap) hE (J := fun q => I q ∨ q = a) (fun q h => Or.inl h) (fun q h => by rcases h with h | rfl; exact Or.inl h; exact Or.inr ⟨by omega, o2.lt⟩)
  have hJ : ∀ q, (I q ∨ q = a) → I q ∨ s.heap.size ≤ q := fun q h => by rcases h with h | h; exact Or.inl h; rw [h, e_a]; exact Or.inr (Nat.le_refl _)
  have ha : kItem g (fun q => I q ∨ q = a) a (it_put (bs k) p1) H := ⟨Or.inr rfl, Or.inl ⟨rfl, o2⟩⟩
  refine k_call (A := (fun q : Nat => M q ∨ s.heap.size ≤ q)) (W.runV (As := [.ref a]) (rest := []) ⟨hx, hb, hml, hown, hts⟩ (c_BG_append_ok l g H (fun q => I q ∨ q = a) M x n its nb bs ib iw.inv a (it_put (bs k) p1) hok ha) (cwV 1 hts (kV_good kw_247 kw_244 kw_246 ks_BG_append kw_1) rfl rfl rfl (by decide +kernel) ⟨Nat.le_of_ble_eq_true rfl, Nat.le_of_ble_eq_true rfl⟩) (k_preV (KK_st g) hKK (va_recv hK (k_one iw.1) (ci := 0) (q0 := 0) rfl rfl)) rfl rfl hl.1 rfl (lv_room (Nat.le_of_ble_eq_true rfl)) d_BG_put_37 ⟨Nat.le_of_ble_eq_true rfl, Nat.le_of_ble_eq_true rfl⟩) hL (fun q h => h.elim Or.inl (fun h => Or.inr (Nat.le_trans hE.1 h))) (fun v H9 locs hv hL => ?_)
  obtain ⟨rfl, hEM, J9, N9, inv9, hN9, hJ9⟩ := hv
  exact W.iret (v := (nI (n + 1))) hx hb hr (fun t ht hW => ⟨_, rfl, rfl, by rw [ht]; exact (hE.wk (fun _ _ h => h.elim)).tr hEM (fun _ _ h => h), J9, N9, by rw [ht]; exact inv9, fun q h => (hN9 q h).elim Or.inl (fun h => Or.inr (Nat.le_trans hE.1 h)), fun q h => (hJ9 q h).elim (hJ q) (fun h => Or.inr (Nat.le_trans hE.1 h))⟩) hL d_BG_put_40
set_option maxHeartbeats 4000000 in
set_option maxRecDepth 100000 in
theorem c_BG_told_bad (l : Launch) (g : KGt) (H0 : Heap) (I M : Nat → Prop) (x n : Nat) (its : Nat → Nat → Int32) (nb : Nat) (bs : Nat → BxT) (ib : Nat) (inv : kInv g I M x n its nb bs ib H0) (p0 : Int32) (p1 : Int32) (h : p0 < 0 ∨ nI nb ≤ p0) : Met l y_BG_told (kW y_BG_told b_BG_told 3 (.some .int)) ({ frames := 2, cells := 0, slots := 0, locals := 41 }) (kPc [.ref x, .int p0, .int p1] (KK g) H0) (kQc (kPure (.int (-1)) H0)) 0 0 (fun _ => False) := by
  refine Met.ofW (cc := b_BG_told) (maxL := 3) (ret := (.some .int)) (by decide) rfl ?_
  intro p e s m args below meth c s₁ B hml hv
  obtain ⟨rfl, hH, hKK⟩ := hv
  have hx := B.exec
  have hb := B.bytes
  have hr := B.returns
  have hts := kW_ts (atoms_spec (ws := kW y_BG_told b_BG_told 3 (.some .int)) B.pre)
  have hown : s.vm.findClass "BoxGlue" = some m.cls := findClass_of_methodNamed B.named
  have hlocks := B.notSynchronized
  have hK := hKK.1
  subst hH
  have hl := lv_entry ([.ref x, .int p0, .int p1]) (n := 3) (Nat.le_of_ble_eq_true rfl)
  rw [lg_entry_eq]
  generalize (lg_sl ([.ref x, .int p0, .int p1]) ++ List.replicate (3 - (lg_sl ([.ref x, .int p0, .int p1])).length) Slot.unset).toArray = ls at hl ⊢
  have hl : lv_has ls 3 [(0, .ref x), (1, .int p0), (2, .int p1)] := hl
  obtain ⟨la, larr, lcap, ma, marr, mcap, el, bel, xo, al, am, hit, hbx, hM, hne, hMI, hMg, hIl, hB, hn, hnb⟩ := id inv
  refine lv_aload_n hx hb d_BG_told_0 rfl (lv_at hl 0 rfl) ?_
  refine lv_iload_n hx hb d_BG_told_1 rfl (lv_at hl 1 rfl) ?_
  refine k_pure (r := .int 0) (W.runV (As := [.int p0]) (rest := []) ⟨hx, hb, hml, hown, hts⟩ (c_BG_isBox_no l g s.heap I M x n its nb bs ib inv p0 h) (cwV 1 hts (kV_good kw_197 kw_194 kw_196 ks_BG_isBox kw_1) rfl rfl rfl (by decide +kernel) ⟨Nat.le_of_ble_eq_true rfl, Nat.le_of_ble_eq_true rfl⟩) (k_preV (KK_st g) hKK (va_recv hK (k_one xo) (ci := 0) (q0 := 0) rfl rfl)) rfl rfl hl.1 rfl (lv_room (Nat.le_of_ble_eq_true rfl)) d_BG_told_2 ⟨Nat.zero_le _, Nat.zero_le _⟩) ?_
  refine lv_if_ne (tgt := 10) hx hb d_BG_told_5 (by decide) (fun c_1 => ?_) (fun c_1 => ?_)
  · exact absurd c_1 (fun q => q rfl)
  refine lv_iconst (v := (-1)) hx hb d_BG_told_8 (by decide) ?_
  exact W.iret (v := (-1)) hx hb hr (fun t ht hW => ⟨_, rfl, rfl, ht⟩) (fun _ h => by cases h) d_BG_told_9
def b_told (b : BxT) (what : Int32) : Int32 := b_ans (b.1 0) (b.1 1) (b.1 2) (b.1 3) (b.1 4) (b.1 5) (b.1 6) b.2.1 what
set_option maxHeartbeats 4000000 in
set_option maxRecDepth 100000 in
theorem c_BG_told_ok (l : Launch) (g : KGt) (H0 : Heap) (I M : Nat → Prop) (x n : Nat) (its : Nat → Nat → Int32) (nb : Nat) (bs : Nat → BxT) (ib : Nat) (inv : kInv g I M x n its nb bs ib H0) (p1 : Int32) (k : Nat) (hk : k < nb) (hz : ¬ (bs k).1 6 = 0 → ¬ ((((bs k).1 6).toInt64 * ((bs k).1 6).toInt64) * ((bs k).1 6).toInt64) = 0) : Met l y_BG_told (kW y_BG_told b_BG_told 3 (.some .int)) ({ frames := 4, cells := 0, slots := 0, locals := 90 }) (kPc [.ref x, .int (nI k), .int p1] (KK g) H0) (kQc (kPure (.int (b_told (bs k) p1)) H0)) 0 0 (fun _ => False) := by
  refine Met.ofW (cc := b_BG_told) (maxL := 3) (ret := (.some .int)) (by decide) rfl ?_
  intro p e s m args below meth c s₁ B hml hv
  obtain ⟨rfl, hH, hKK⟩ := hv
  have hx := B.exec
  have hb := B.bytes
  have hr := B.returns
  have hts := kW_ts (atoms_spec (ws := kW y_BG_told b_BG_told 3 (.some .int)) B.pre)
  have hown : s.vm.findClass "BoxGlue" = some m.cls := findClass_of_methodNamed B.named
  have hlocks := B.notSynchronized
  have hK := hKK.1
  subst hH
  have hl := lv_entry ([.ref x, .int (nI k), .int p1]) (n := 3) (Nat.le_of_ble_eq_true rfl)
  rw [lg_entry_eq]
  generalize (lg_sl ([.ref x, .int (nI k), .int p1]) ++ List.replicate (3 - (lg_sl ([.ref x, .int (nI k), .int p1])).length) Slot.unset).toArray = ls at hl ⊢
  have hl : lv_has ls 3 [(0, .ref x), (1, .int (nI k)), (2, .int p1)] := hl
  obtain ⟨la, larr, lcap, ma, marr, mcap, el, bel, xo, al, am, hit, hbx, hM, hne, hMI, hMg, hIl, hB, hn, hnb⟩ := id inv
  obtain ⟨hIb, bca, bfa, barr, bcap, pel, w1, hIf, w3, hIc, w5, w6, w7⟩ := hbx k hk
  refine lv_aload_n hx hb d_BG_told_0 rfl (lv_at hl 0 rfl) ?_
  refine lv_iload_n hx hb d_BG_told_1 rfl (lv_at hl 1 rfl) ?_
  refine k_pure (r := .int 1) (W.runV (As := [.int (nI k)]) (rest := []) ⟨hx, hb, hml, hown, hts⟩ (c_BG_isBox_yes l g s.heap I M x n its nb bs ib inv k hk) (cwV 1 hts (kV_good kw_197 kw_194 kw_196 ks_BG_isBox kw_1) rfl rfl rfl (by decide +kernel) ⟨Nat.le_of_ble_eq_true rfl, Nat.le_of_ble_eq_true rfl⟩) (k_preV (KK_st g) hKK (va_recv hK (k_one xo) (ci := 0) (q0 := 0) rfl rfl)) rfl rfl hl.1 rfl (lv_room (Nat.le_of_ble_eq_true rfl)) d_BG_told_2 ⟨Nat.zero_le _, Nat.zero_le _⟩) ?_
  refine lv_if_ne (tgt := 10) hx hb d_BG_told_5 (by decide) (fun c_1 => ?_) (fun c_1 => ?_)
  rotate_left
  · exact absurd c_1 (by decide)
  refine lv_aload_n hx hb d_BG_told_10 rfl (lv_at hl 0 rfl) ?_
  refine va_get (D := g.1) (ci := 0) (v := .ref ma) (C := "BoxGlue") (T := kT_BG) (N := 3) hx hb hts ki_BG hown hK (k_one xo) 0 rfl rfl 1 (by decide) (hts _ kw_56) (fun _ h9 => h9) rfl d_BG_told_11 ?_
  refine lv_iload_n hx hb d_BG_told_14 rfl (lv_at hl 1 rfl) ?_
  refine k_pure (r := .ref (bel k)) (W.runV (As := [.int (nI k)]) (rest := []) ⟨hx, hb, hml, hown, hts⟩ (c_AL_get l g s.heap ma nb bel k hk ⟨_, _, am⟩) (cwV 1 hts (kV_good kw_207 kw_204 kw_205 kw_206 kw_4) rfl rfl rfl (by decide +kernel) ⟨Nat.le_of_ble_eq_true rfl, Nat.le_of_ble_eq_true rfl⟩) (k_preV (KK_st g) hKK (kAL.recv ⟨_, _, am⟩ hK)) rfl rfl hl.1 rfl (lv_room (Nat.le_of_ble_eq_true rfl)) d_BG_told_15 ⟨Nat.zero_le _, Nat.zero_le _⟩) ?_
  refine va_castY (C := "BoxGlue$Box") hx hb hown (hts _ kw_218) (hKK.2.1 (.castable "BoxGlue$Box" "BoxGlue$Box") (by decide +kernel)) (va_recv hK (k_one w1) (ci := 2) (q0 := 0) rfl rfl) d_BG_told_18 ?_
  refine lv_iload_n hx hb d_BG_told_21 rfl (lv_at hl 2 rfl) ?_
  refine k_pure (r := .int (b_told (bs k) p1)) (W.runV (As := [.int p1]) (rest := []) ⟨hx, hb, hml, hown, hts⟩ (c_Box_answer l g s.heap (bel k) bca bfa (bs k).2.1 pel ((bs k).1 0) ((bs k).1 1) ((bs k).1 2) ((bs k).1 3) ((bs k).1 4) ((bs k).1 5) ((bs k).1 6) p1 hz w1 w3 ⟨_, _, w6⟩) (cwV 1 hts (kV_good kw_466 kw_463 kw_464 kw_465 kw_6) rfl rfl rfl (by decide +kernel) ⟨Nat.le_of_ble_eq_true rfl, Nat.le_of_ble_eq_true rfl⟩) (k_preV (KK_st g) hKK (va_recv hK (k_one w1) (ci := 2) (q0 := 0) rfl rfl)) rfl rfl hl.1 rfl (lv_room (Nat.le_of_ble_eq_true rfl)) d_BG_told_22 ⟨Nat.zero_le _, Nat.zero_le _⟩) ?_
  exact W.iret (v := (b_told (bs k) p1)) hx hb hr (fun t ht hW => ⟨_, rfl, rfl, ht⟩) (fun _ h => by cases h) d_BG_told_25
set_option maxHeartbeats 4000000 in
set_option maxRecDepth 100000 in
theorem c_BG_item_bad1 (l : Launch) (g : KGt) (H0 : Heap) (I M : Nat → Prop) (x n : Nat) (its : Nat → Nat → Int32) (nb : Nat) (bs : Nat → BxT) (ib : Nat) (inv : kInv g I M x n its nb bs ib H0) (p0 : Int32) (p1 : Int32) (p2 : Int32) (h : p0 < 0 ∨ nI nb ≤ p0) : Met l y_BG_item (kW y_BG_item b_BG_item 5 (.some .int)) ({ frames := 2, cells := 0, slots := 0, locals := 41 }) (kPc [.ref x, .int p0, .int p1, .int p2] (KK g) H0) (kQc (kPure (.int (-1)) H0)) 0 0 (fun _ => False) := by
  refine Met.ofW (cc := b_BG_item) (maxL := 5) (ret := (.some .int)) (by decide) rfl ?_
  intro p e s m args below meth c s₁ B hml hv
  obtain ⟨rfl, hH, hKK⟩ := hv
  have hx := B.exec
  have hb := B.bytes
  have hr := B.returns
  have hts := kW_ts (atoms_spec (ws := kW y_BG_item b_BG_item 5 (.some .int)) B.pre)
  have hown : s.vm.findClass "BoxGlue" = some m.cls := findClass_of_methodNamed B.named
  have hlocks := B.notSynchronized
  have hK := hKK.1
  subst hH
  have hl := lv_entry ([.ref x, .int p0, .int p1, .int p2]) (n := 5) (Nat.le_of_ble_eq_true rfl)
  rw [lg_entry_eq]
  generalize (lg_sl ([.ref x, .int p0, .int p1, .int p2]) ++ List.replicate (5 - (lg_sl ([.ref x, .int p0, .int p1, .int p2])).length) Slot.unset).toArray = ls at hl ⊢
  have hl : lv_has ls 5 [(0, .ref x), (1, .int p0), (2, .int p1), (3, .int p2)] := hl
  obtain ⟨la, larr, lcap, ma, marr, mcap, el, bel, xo, al, am, hit, hbx, hM, hne, hMI, hMg, hIl, hB, hn, hnb⟩ := id inv
  refine lv_aload_n hx hb d_BG_item_0 rfl (lv_at hl 0 rfl) ?_
  refine lv_iload_n hx hb d_BG_item_1 rfl (lv_at hl 1 rfl) ?_
  refine k_pure (r := .int 0) (W.runV (As := [.int p0]) (rest := []) ⟨hx, hb, hml, hown, hts⟩ (c_BG_isBox_no l g s.heap I M x n its nb bs ib inv p0 h) (cwV 1 hts (kV_good kw_197 kw_194 kw_196 ks_BG_isBox kw_1) rfl rfl rfl (by decide +kernel) ⟨Nat.le_of_ble_eq_true rfl, Nat.le_of_ble_eq_true rfl⟩) (k_preV (KK_st g) hKK (va_recv hK (k_one xo) (ci := 0) (q0 := 0) rfl rfl)) rfl rfl hl.1 rfl (lv_room (Nat.le_of_ble_eq_true rfl)) d_BG_item_2 ⟨Nat.zero_le _, Nat.zero_le _⟩) ?_
  refine lv_if_ne (tgt := 10) hx hb d_BG_item_5 (by decide) (fun c_1 => ?_) (fun c_1 => ?_)
  · exact absurd c_1 (fun q => q rfl)
  refine lv_iconst (v := (-1)) hx hb d_BG_item_8 (by decide) ?_
  exact W.iret (v := (-1)) hx hb hr (fun t ht hW => ⟨_, rfl, rfl, ht⟩) (fun _ h => by cases h) d_BG_item_9
set_option maxHeartbeats 4000000 in
set_option maxRecDepth 100000 in
theorem c_BG_item_bad2 (l : Launch) (g : KGt) (H0 : Heap) (I M : Nat → Prop) (x n : Nat) (its : Nat → Nat → Int32) (nb : Nat) (bs : Nat → BxT) (ib : Nat) (inv : kInv g I M x n its nb bs ib H0) (p1 : Int32) (p2 : Int32) (k : Nat) (hk : k < nb) (h : p1 < 0 ∨ nI (bs k).2.1 ≤ p1) : Met l y_BG_item (kW y_BG_item b_BG_item 5 (.some .int)) ({ frames := 3, cells := 0, slots := 0, locals := 64 }) (kPc [.ref x, .int (nI k), .int p1, .int p2] (KK g) H0) (kQc (kPure (.int (-1)) H0)) 0 0 (fun _ => False) := by
  refine Met.ofW (cc := b_BG_item) (maxL := 5) (ret := (.some .int)) (by decide) rfl ?_
  intro p e s m args below meth c s₁ B hml hv
  obtain ⟨rfl, hH, hKK⟩ := hv
  have hx := B.exec
  have hb := B.bytes
  have hr := B.returns
  have hts := kW_ts (atoms_spec (ws := kW y_BG_item b_BG_item 5 (.some .int)) B.pre)
  have hown : s.vm.findClass "BoxGlue" = some m.cls := findClass_of_methodNamed B.named
  have hlocks := B.notSynchronized
  have hK := hKK.1
  subst hH
  have hl := lv_entry ([.ref x, .int (nI k), .int p1, .int p2]) (n := 5) (Nat.le_of_ble_eq_true rfl)
  rw [lg_entry_eq]
  generalize (lg_sl ([.ref x, .int (nI k), .int p1, .int p2]) ++ List.replicate (5 - (lg_sl ([.ref x, .int (nI k), .int p1, .int p2])).length) Slot.unset).toArray = ls at hl ⊢
  have hl : lv_has ls 5 [(0, .ref x), (1, .int (nI k)), (2, .int p1), (3, .int p2)] := hl
  obtain ⟨la, larr, lcap, ma, marr, mcap, el, bel, xo, al, am, hit, hbx, hM, hne, hMI, hMg, hIl, hB, hn, hnb⟩ := id inv
  obtain ⟨hIb, bca, bfa, barr, bcap, pel, w1, hIf, w3, hIc, w5, w6, w7⟩ := hbx k hk
  refine lv_aload_n hx hb d_BG_item_0 rfl (lv_at hl 0 rfl) ?_
  refine lv_iload_n hx hb d_BG_item_1 rfl (lv_at hl 1 rfl) ?_
  refine k_pure (r := .int 1) (W.runV (As := [.int (nI k)]) (rest := []) ⟨hx, hb, hml, hown, hts⟩ (c_BG_isBox_yes l g s.heap I M x n its nb bs ib inv k hk) (cwV 1 hts (kV_good kw_197 kw_194 kw_196 ks_BG_isBox kw_1) rfl rfl rfl (by decide +kernel) ⟨Nat.le_of_ble_eq_true rfl, Nat.le_of_ble_eq_true rfl⟩) (k_preV (KK_st g) hKK (va_recv hK (k_one xo) (ci := 0) (q0 := 0) rfl rfl)) rfl rfl hl.1 rfl (lv_room (Nat.le_of_ble_eq_true rfl)) d_BG_item_2 ⟨Nat.zero_le _, Nat.zero_le _⟩) ?_
  refine lv_if_ne (tgt := 10) hx hb d_BG_item_5 (by decide) (fun c_1 => ?_) (fun c_1 => ?_)
  rotate_left
  · exact absurd c_1 (by decide)
  refine lv_aload_n hx hb d_BG_item_10 rfl (lv_at hl 0 rfl) ?_
  refine va_get (D := g.1) (ci := 0) (v := .ref ma) (C := "BoxGlue") (T := kT_BG) (N := 3) hx hb hts ki_BG hown hK (k_one xo) 0 rfl rfl 1 (by decide) (hts _ kw_56) (fun _ h9 => h9) rfl d_BG_item_11 ?_
  refine lv_iload_n hx hb d_BG_item_14 rfl (lv_at hl 1 rfl) ?_
  refine k_pure (r := .ref (bel k)) (W.runV (As := [.int (nI k)]) (rest := []) ⟨hx, hb, hml, hown, hts⟩ (c_AL_get l g s.heap ma nb bel k hk ⟨_, _, am⟩) (cwV 1 hts (kV_good kw_207 kw_204 kw_205 kw_206 kw_4) rfl rfl rfl (by decide +kernel) ⟨Nat.le_of_ble_eq_true rfl, Nat.le_of_ble_eq_true rfl⟩) (k_preV (KK_st g) hKK (kAL.recv ⟨_, _, am⟩ hK)) rfl rfl hl.1 rfl (lv_room (Nat.le_of_ble_eq_true rfl)) d_BG_item_15 ⟨Nat.zero_le _, Nat.zero_le _⟩) ?_
  refine va_castY (C := "BoxGlue$Box") hx hb hown (hts _ kw_218) (hKK.2.1 (.castable "BoxGlue$Box" "BoxGlue$Box") (by decide +kernel)) (va_recv hK (k_one w1) (ci := 2) (q0 := 0) rfl rfl) d_BG_item_18 ?_
  refine lv_astore (lv' := [(4, .ref (bel k)), (0, .ref x), (1, .int (nI k)), (2, .int p1), (3, .int p2)]) hx hb d_BG_item_21 hl (by decide) rfl (fun ls hl => ?_)
  refine lv_iload_n hx hb d_BG_item_23 rfl (lv_at hl 3 rfl) ?_
  refine lv_if_lt (tgt := 39) hx hb d_BG_item_24 (by decide) (fun c_2 => ?_) (fun c_2 => ?_)
  · skip
    refine lv_iconst (v := (-1)) hx hb d_BG_item_39 (by decide) ?_
    exact W.iret (v := (-1)) hx hb hr (fun t ht hW => ⟨_, rfl, rfl, ht⟩) (fun _ h => by cases h) d_BG_item_40
  · skip
    refine lv_iload_n hx hb d_BG_item_27 rfl (lv_at hl 3 rfl) ?_
    refine lv_aload hx hb d_BG_item_28 (lv_at hl 0 rfl) ?_
    refine va_get (D := g.1) (ci := 2) (v := .ref bca) (C := "BoxGlue$Box") (T := kT_Box) (N := 5) hx hb hts ki_Box hown hK (k_one w1) 0 rfl rfl 3 (by decide) (hts _ kw_119) (fun _ h9 => h9) rfl d_BG_item_30 ?_
    refine k_pure (r := .int (nI (bs k).2.1)) (W.runV (As := []) (rest := [.int p1]) ⟨hx, hb, hml, hown, hts⟩ (c_AL_size l g s.heap bca (bs k).2.1 pel ⟨_, _, w6⟩) (cwV 0 hts (kV_good kw_76 kw_73 kw_74 kw_75 kw_4) rfl rfl rfl (by decide +kernel) ⟨Nat.le_of_ble_eq_true rfl, Nat.le_of_ble_eq_true rfl⟩) (k_preV (KK_st g) hKK (kAL.recv ⟨_, _, w6⟩ hK)) rfl rfl hl.1 rfl (lv_room (Nat.le_of_ble_eq_true rfl)) d_BG_item_33 ⟨Nat.zero_le _, Nat.zero_le _⟩) ?_
    refine lv_icmp_lt (tgt := 41) hx hb d_BG_item_36 (by decide) (fun c_3 => ?_) (fun c_3 => ?_)
    · exact absurd c_3 (fun q => by rcases h with h | h; exact absurd h (by assumption); exact absurd q (Int32.not_lt.mpr h))
    refine lv_iconst (v := (-1)) hx hb d_BG_item_39 (by decide) ?_
    exact W.iret (v := (-1)) hx hb hr (fun t ht hW => ⟨_, rfl, rfl, ht⟩) (fun _ h => by cases h) d_BG_item_40
def b_item (b : BxT) (i : Nat) (what : Int32) : Int32 := p_ans (b.2.2.1 i) (b.2.2.2.1 i) (b.2.2.2.2 i) (b.1 1) (b.1 2) what
set_option maxHeartbeats 4000000 in
set_option maxRecDepth 100000 in
theorem c_BG_item_ok (l : Launch) (g : KGt) (H0 : Heap) (I M : Nat → Prop) (x n : Nat) (its : Nat → Nat → Int32) (nb : Nat) (bs : Nat → BxT) (ib : Nat) (inv : kInv g I M x n its nb bs ib H0) (p2 : Int32) (k : Nat) (hk : k < nb) (i : Nat) (hi : i < (bs k).2.1) : Met l y_BG_item (kW y_BG_item b_BG_item 5 (.some .int)) ({ frames := 6, cells := 0, slots := 0, locals := 131 }) (kPc [.ref x, .int (nI k), .int (nI i), .int p2] (KK g) H0) (kQc (kPure (.int (b_item (bs k) i p2)) H0)) 0 0 (fun _ => False) := by
  refine Met.ofW (cc := b_BG_item) (maxL := 5) (ret := (.some .int)) (by decide) rfl ?_
  intro p e s m args below meth c s₁ B hml hv
  obtain ⟨rfl, hH, hKK⟩ := hv
  have hx := B.exec
  have hb := B.bytes
  have hr := B.returns
  have hts := kW_ts (atoms_spec (ws := kW y_BG_item b_BG_item 5 (.some .int)) B.pre)
  have hown : s.vm.findClass "BoxGlue" = some m.cls := findClass_of_methodNamed B.named
  have hlocks := B.notSynchronized
  have hK := hKK.1
  subst hH
  have hl := lv_entry ([.ref x, .int (nI k), .int (nI i), .int p2]) (n := 5) (Nat.le_of_ble_eq_true rfl)
  rw [lg_entry_eq]
  generalize (lg_sl ([.ref x, .int (nI k), .int (nI i), .int p2]) ++ List.replicate (5 - (lg_sl ([.ref x, .int (nI k), .int (nI i), .int p2])).length) Slot.unset).toArray = ls at hl ⊢
  have hl : lv_has ls 5 [(0, .ref x), (1, .int (nI k)), (2, .int (nI i)), (3, .int p2)] := hl
  obtain ⟨la, larr, lcap, ma, marr, mcap, el, bel, xo, al, am, hit, hbx, hM, hne, hMI, hMg, hIl, hB, hn, hnb⟩ := id inv
  obtain ⟨hIb, bca, bfa, barr, bcap, pel, w1, hIf, w3, hIc, w5, w6, w7⟩ := hbx k hk
  obtain ⟨hIp, ia, po, io⟩ := w7 i hi
  refine lv_aload_n hx hb d_BG_item_0 rfl (lv_at hl 0 rfl) ?_
  refine lv_iload_n hx hb d_BG_item_1 rfl (lv_at hl 1 rfl) ?_
  refine k_pure (r := .int 1) (W.runV (As := [.int (nI k)]) (rest := []) ⟨hx, hb, hml, hown, hts⟩ (c_BG_isBox_yes l g s.heap I M x n its nb bs ib inv k hk) (cwV 1 hts (kV_good kw_197 kw_194 kw_196 ks_BG_isBox kw_1) rfl rfl rfl (by decide +kernel) ⟨Nat.le_of_ble_eq_true rfl, Nat.le_of_ble_eq_true rfl⟩) (k_preV (KK_st g) hKK (va_recv hK (k_one xo) (ci := 0) (q0 := 0) rfl rfl)) rfl rfl hl.1 rfl (lv_room (Nat.le_of_ble_eq_true rfl)) d_BG_item_2 ⟨Nat.zero_le _, Nat.zero_le _⟩) ?_
  refine lv_if_ne (tgt := 10) hx hb d_BG_item_5 (by decide) (fun c_1 => ?_) (fun c_1 => ?_)
  rotate_left
  · exact absurd c_1 (by decide)
  refine lv_aload_n hx hb d_BG_item_10 rfl (lv_at hl 0 rfl) ?_
  refine va_get (D := g.1) (ci := 0) (v := .ref ma) (C := "BoxGlue") (T := kT_BG) (N := 3) hx hb hts ki_BG hown hK (k_one xo) 0 rfl rfl 1 (by decide) (hts _ kw_56) (fun _ h9 => h9) rfl d_BG_item_11 ?_
  refine lv_iload_n hx hb d_BG_item_14 rfl (lv_at hl 1 rfl) ?_
  refine k_pure (r := .ref (bel k)) (W.runV (As := [.int (nI k)]) (rest := []) ⟨hx, hb, hml, hown, hts⟩ (c_AL_get l g s.heap ma nb bel k hk ⟨_, _, am⟩) (cwV 1 hts (kV_good kw_207 kw_204 kw_205 kw_206 kw_4) rfl rfl rfl (by decide +kernel) ⟨Nat.le_of_ble_eq_true rfl, Nat.le_of_ble_eq_true rfl⟩) (k_preV (KK_st g) hKK (kAL.recv ⟨_, _, am⟩ hK)) rfl rfl hl.1 rfl (lv_room (Nat.le_of_ble_eq_true rfl)) d_BG_item_15 ⟨Nat.zero_le _, Nat.zero_le _⟩) ?_
  refine va_castY (C := "BoxGlue$Box") hx hb hown (hts _ kw_218) (hKK.2.1 (.castable "BoxGlue$Box" "BoxGlue$Box") (by decide +kernel)) (va_recv hK (k_one w1) (ci := 2) (q0 := 0) rfl rfl) d_BG_item_18 ?_
  refine lv_astore (lv' := [(4, .ref (bel k)), (0, .ref x), (1, .int (nI k)), (2, .int (nI i)), (3, .int p2)]) hx hb d_BG_item_21 hl (by decide) rfl (fun ls hl => ?_)
  refine lv_iload_n hx hb d_BG_item_23 rfl (lv_at hl 3 rfl) ?_
  refine lv_if_lt (tgt := 39) hx hb d_BG_item_24 (by decide) (fun c_2 => ?_) (fun c_2 => ?_)
  · exact absurd c_2 (nI_pos (by have h9 := w6.n_lt; omega))
  refine lv_iload_n hx hb d_BG_item_27 rfl (lv_at hl 3 rfl) ?_
  refine lv_aload hx hb d_BG_item_28 (lv_at hl 0 rfl) ?_
  refine va_get (D := g.1) (ci := 2) (v := .ref bca) (C := "BoxGlue$Box") (T := kT_Box) (N := 5) hx hb hts ki_Box hown hK (k_one w1) 0 rfl rfl 3 (by decide) (hts _ kw_119) (fun _ h9 => h9) rfl d_BG_item_30 ?_
  refine k_pure (r := .int (nI (bs k).2.1)) (W.runV (As := []) (rest := [.int (nI i)]) ⟨hx, hb, hml, hown, hts⟩ (c_AL_size l g s.heap bca (bs k).2.1 pel ⟨_, _, w6⟩) (cwV 0 hts (kV_good kw_76 kw_73 kw_74 kw_75 kw_4) rfl rfl rfl (by decide +kernel) ⟨Nat.le_of_ble_eq_true rfl, Nat.le_of_ble_eq_true rfl⟩) (k_preV (KK_st g) hKK (kAL.recv ⟨_, _, w6⟩ hK)) rfl rfl hl.1 rfl (lv_room (Nat.le_of_ble_eq_true rfl)) d_BG_item_33 ⟨Nat.zero_le _, Nat.zero_le _⟩) ?_
  refine lv_icmp_lt (tgt := 41) hx hb d_BG_item_36 (by decide) (fun c_3 => ?_) (fun c_3 => ?_)
  rotate_left
  · exact absurd c_3 (fun q => q (nI_lt hi w6.n_lt))
  refine lv_aload hx hb d_BG_item_41 (lv_at hl 0 rfl) ?_
  refine va_get (D := g.1) (ci := 2) (v := .ref bca) (C := "BoxGlue$Box") (T := kT_Box) (N := 5) hx hb hts ki_Box hown hK (k_one w1) 0 rfl rfl 3 (by decide) (hts _ kw_119) (fun _ h9 => h9) rfl d_BG_item_43 ?_
  refine lv_iload_n hx hb d_BG_item_46 rfl (lv_at hl 3 rfl) ?_
  refine k_pure (r := .ref (pel i)) (W.runV (As := [.int (nI i)]) (rest := []) ⟨hx, hb, hml, hown, hts⟩ (c_AL_get l g s.heap bca (bs k).2.1 pel i hi ⟨_, _, w6⟩) (cwV 1 hts (kV_good kw_207 kw_204 kw_205 kw_206 kw_4) rfl rfl rfl (by decide +kernel) ⟨Nat.le_of_ble_eq_true rfl, Nat.le_of_ble_eq_true rfl⟩) (k_preV (KK_st g) hKK (kAL.recv ⟨_, _, w6⟩ hK)) rfl rfl hl.1 rfl (lv_room (Nat.le_of_ble_eq_true rfl)) d_BG_item_47 ⟨Nat.zero_le _, Nat.zero_le _⟩) ?_
  refine va_castY (C := "BoxGlue$Placed") hx hb hown (hts _ kw_458) (hKK.2.1 (.castable "BoxGlue$Placed" "BoxGlue$Placed") (by decide +kernel)) (va_recv hK (k_one po) (ci := 9) (q0 := 0) rfl rfl) d_BG_item_50 ?_
  refine lv_iload_n hx hb d_BG_item_53 rfl (lv_at hl 4 rfl) ?_
  refine lv_aload hx hb d_BG_item_54 (lv_at hl 0 rfl) ?_
  refine k_pure (r := .int (b_item (bs k) i p2)) (W.runV (As := [.int p2, .ref (bel k)]) (rest := []) ⟨hx, hb, hml, hown, hts⟩ (c_Placed_answer l g s.heap I (pel i) (bel k) ia bca bfa ((bs k).2.2.1 i) ((bs k).2.2.2.1 i) ((bs k).2.2.2.2 i) ((bs k).1 0) ((bs k).1 1) ((bs k).1 2) p2 po io w1) (cwV 2 hts (kV_good kw_493 kw_490 kw_491 kw_492 kw_20) rfl rfl rfl (by decide +kernel) ⟨Nat.le_of_ble_eq_true rfl, Nat.le_of_ble_eq_true rfl⟩) (k_preV (KK_st g) hKK (va_recv hK (k_one po) (ci := 9) (q0 := 0) rfl rfl)) rfl rfl hl.1 rfl (lv_room (Nat.le_of_ble_eq_true rfl)) d_BG_item_56 ⟨Nat.zero_le _, Nat.zero_le _⟩) ?_
  exact W.iret (v := (b_item (bs k) i p2)) hx hb hr (fun t ht hW => ⟨_, rfl, rfl, ht⟩) (fun _ h => by cases h) d_BG_item_59

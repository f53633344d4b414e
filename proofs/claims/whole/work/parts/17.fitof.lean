/-! Fit: greatestOrder, givingOf, of -/
theorem kALx.ext {g : KGt} {la arr cap n : Nat} {el : Nat → Nat} {A : Nat → Prop} {H H1 : Heap} (h : kALx g la arr cap n el H) (hE : kE A H H1) (h1 : ¬ A la) (h2 : 0 < cap → ¬ A arr) : kALx g la arr cap n el H1 := by
  obtain ⟨mo, w1, w2 | ⟨f, w2, w3, w4, w5⟩⟩ := h
  · exact ⟨mo, hE.at w1 h1, Or.inl w2⟩
  · exact ⟨mo, hE.at w1 h1, Or.inr ⟨f, hE.at w2 (h2 (by omega)), w3, w4, w5⟩⟩
theorem kAL.ext {g : KGt} {la n : Nat} {el : Nat → Nat} {H H1 : Heap} (h : kAL g la n el H) (hE : kE (fun _ => False) H H1) : kAL g la n el H1 := by
  obtain ⟨arr, cap, h⟩ := h
  exact ⟨arr, cap, h.ext hE id (fun _ => id)⟩
theorem kItem.ext {g : KGt} {I : Nat → Prop} {a : Nat} {it : Nat → Int32} {H H1 : Heap} (h : kItem g I a it H) (hE : kE (fun _ => False) H H1) : kItem g I a it H1 := h.kept (fun _ h => h) (fun q _ hl => hE.2 q hl id)
theorem kP0 {D : va_G} {cl : List vw_C} {H : Heap} : va_P D cl [] H := fun k q h => by simp at h
theorem kD0 {A : Nat → Prop} : va_D A [] := ⟨fun i j p q h => by simp at h, fun k q h => by simp at h⟩
def l_go (its : Nat → Nat → Int32) (b : Int32) (n : Nat) : Int32 := if l_giv its b 3 n = 0 then (if l_giv its b 2 n = 0 then (if l_giv its b 1 n = 0 then (if l_giv its b 0 n = 0 then (-1) else 0) else 1) else 2) else 3
set_option maxHeartbeats 4000000 in
set_option maxRecDepth 100000 in
theorem c_Fit_greatestOrder (l : Launch) (g : KGt) (H0 : Heap) (I : Nat → Prop) (h0 n : Nat) (el : Nat → Nat) (its : Nat → Nat → Int32) (o : kAL g h0 n el H0) (hi : ∀ i, i < n → kItem g I (el i) (its i) H0) (b : Int32) : Met l y_Fit_greatestOrder (kW y_Fit_greatestOrder b_Fit_greatestOrder 3 (.some .int)) ({ frames := 4, cells := 0, slots := 0, locals := 88 }) (kPc [.ref h0, .int b] (KK g) H0) (kQc (kPure (.int (l_go its b n)) H0)) 0 0 (fun _ => False) := by
  refine Met.ofW (cc := b_Fit_greatestOrder) (maxL := 3) (ret := (.some .int)) (by decide) rfl ?_
  intro p e s m args below meth c s₁ B hml hv
  obtain ⟨rfl, hH, hKK⟩ := hv
  have hx := B.exec
  have hb := B.bytes
  have hr := B.returns
  have hts := kW_ts (atoms_spec (ws := kW y_Fit_greatestOrder b_Fit_greatestOrder 3 (.some .int)) B.pre)
  have hown : s.vm.findClass "BoxGlue$Fit" = some m.cls := findClass_of_methodNamed B.named
  have hlocks := B.notSynchronized
  have hK := hKK.1
  subst hH
  have hl := lv_entry ([.ref h0, .int b]) (n := 3) (Nat.le_of_ble_eq_true rfl)
  rw [lg_entry_eq]
  generalize (lg_sl ([.ref h0, .int b]) ++ List.replicate (3 - (lg_sl ([.ref h0, .int b])).length) Slot.unset).toArray = ls at hl ⊢
  have hl : lv_has ls 3 [(0, .ref h0), (1, .int b)] := hl
  refine lv_iconst (v := 3) hx hb d_Fit_greatestOrder_0 (by decide) ?_
  refine lv_istore_n (lv' := [(2, .int 3), (0, .ref h0), (1, .int b)]) hx hb d_Fit_greatestOrder_1 rfl hl (by decide) rfl (fun ls hl => ?_)
  refine lv_iload_n hx hb d_Fit_greatestOrder_2 rfl (lv_at hl 0 rfl) ?_
  refine lv_if_lt (tgt := 23) hx hb d_Fit_greatestOrder_3 (by decide) (fun c_1 => ?_) (fun c_1 => ?_)
  · exact absurd c_1 (by decide)
  refine lv_aload_n hx hb d_Fit_greatestOrder_6 rfl (lv_at hl 1 rfl) ?_
  refine lv_iload_n hx hb d_Fit_greatestOrder_7 rfl (lv_at hl 2 rfl) ?_
  refine lv_iload_n hx hb d_Fit_greatestOrder_8 rfl (lv_at hl 0 rfl) ?_
  refine k_pure (r := .int (l_giv its b 3 n)) (W.runS (As := [.ref h0, .int b, .int 3]) (rest := []) ⟨hx, hb, hml, hown, hts⟩ (c_Fit_sumOf l g s.heap I h0 n el its o hi b 3) (va_cwS 3 hts (kS_good kw_399 kw_397 kw_398 kw_7) rfl rfl rfl (by decide +kernel) ⟨Nat.le_of_ble_eq_true rfl, Nat.le_of_ble_eq_true rfl⟩) (k_pre (KK_st g) hKK) rfl rfl hl.1 rfl (lv_room (Nat.le_of_ble_eq_true rfl)) d_Fit_greatestOrder_9 ⟨Nat.zero_le _, Nat.zero_le _⟩) ?_
  refine lv_if_eq (tgt := 17) hx hb d_Fit_greatestOrder_12 (by decide) (fun c_2 => ?_) (fun c_2 => ?_)
  · skip
    refine lv_iinc (v := 2) (lv' := [(2, .int 2), (0, .ref h0), (1, .int b)]) hx hb d_Fit_greatestOrder_17 hl (k := 0) rfl (by decide) (by decide) rfl (fun ls hl => ?_)
    refine lv_goto (tgt := 2) hx hb d_Fit_greatestOrder_20 (by decide) ?_
    refine lv_iload_n hx hb d_Fit_greatestOrder_2 rfl (lv_at hl 0 rfl) ?_
    refine lv_if_lt (tgt := 23) hx hb d_Fit_greatestOrder_3 (by decide) (fun c_3 => ?_) (fun c_3 => ?_)
    · exact absurd c_3 (by decide)
    refine lv_aload_n hx hb d_Fit_greatestOrder_6 rfl (lv_at hl 1 rfl) ?_
    refine lv_iload_n hx hb d_Fit_greatestOrder_7 rfl (lv_at hl 2 rfl) ?_
    refine lv_iload_n hx hb d_Fit_greatestOrder_8 rfl (lv_at hl 0 rfl) ?_
    refine k_pure (r := .int (l_giv its b 2 n)) (W.runS (As := [.ref h0, .int b, .int 2]) (rest := []) ⟨hx, hb, hml, hown, hts⟩ (c_Fit_sumOf l g s.heap I h0 n el its o hi b 2) (va_cwS 3 hts (kS_good kw_399 kw_397 kw_398 kw_7) rfl rfl rfl (by decide +kernel) ⟨Nat.le_of_ble_eq_true rfl, Nat.le_of_ble_eq_true rfl⟩) (k_pre (KK_st g) hKK) rfl rfl hl.1 rfl (lv_room (Nat.le_of_ble_eq_true rfl)) d_Fit_greatestOrder_9 ⟨Nat.zero_le _, Nat.zero_le _⟩) ?_
    refine lv_if_eq (tgt := 17) hx hb d_Fit_greatestOrder_12 (by decide) (fun c_4 => ?_) (fun c_4 => ?_)
    · skip
      refine lv_iinc (v := 1) (lv' := [(2, .int 1), (0, .ref h0), (1, .int b)]) hx hb d_Fit_greatestOrder_17 hl (k := 0) rfl (by decide) (by decide) rfl (fun ls hl => ?_)
      refine lv_goto (tgt := 2) hx hb d_Fit_greatestOrder_20 (by decide) ?_
      refine lv_iload_n hx hb d_Fit_greatestOrder_2 rfl (lv_at hl 0 rfl) ?_
      refine lv_if_lt (tgt := 23) hx hb d_Fit_greatestOrder_3 (by decide) (fun c_5 => ?_) (fun c_5 => ?_)
      · exact absurd c_5 (by decide)
      refine lv_aload_n hx hb d_Fit_greatestOrder_6 rfl (lv_at hl 1 rfl) ?_
      refine lv_iload_n hx hb d_Fit_greatestOrder_7 rfl (lv_at hl 2 rfl) ?_
      refine lv_iload_n hx hb d_Fit_greatestOrder_8 rfl (lv_at hl 0 rfl) ?_
      refine k_pure (r := .int (l_giv its b 1 n)) (W.runS (As := [.ref h0, .int b, .int 1]) (rest := []) ⟨hx, hb, hml, hown, hts⟩ (c_Fit_sumOf l g s.heap I h0 n el its o hi b 1) (va_cwS 3 hts (kS_good kw_399 kw_397 kw_398 kw_7) rfl rfl rfl (by decide +kernel) ⟨Nat.le_of_ble_eq_true rfl, Nat.le_of_ble_eq_true rfl⟩) (k_pre (KK_st g) hKK) rfl rfl hl.1 rfl (lv_room (Nat.le_of_ble_eq_true rfl)) d_Fit_greatestOrder_9 ⟨Nat.zero_le _, Nat.zero_le _⟩) ?_
      refine lv_if_eq (tgt := 17) hx hb d_Fit_greatestOrder_12 (by decide) (fun c_6 => ?_) (fun c_6 => ?_)
      · skip
        refine lv_iinc (v := 0) (lv' := [(2, .int 0), (0, .ref h0), (1, .int b)]) hx hb d_Fit_greatestOrder_17 hl (k := 0) rfl (by decide) (by decide) rfl (fun ls hl => ?_)
        refine lv_goto (tgt := 2) hx hb d_Fit_greatestOrder_20 (by decide) ?_
        refine lv_iload_n hx hb d_Fit_greatestOrder_2 rfl (lv_at hl 0 rfl) ?_
        refine lv_if_lt (tgt := 23) hx hb d_Fit_greatestOrder_3 (by decide) (fun c_7 => ?_) (fun c_7 => ?_)
        · exact absurd c_7 (by decide)
        refine lv_aload_n hx hb d_Fit_greatestOrder_6 rfl (lv_at hl 1 rfl) ?_
        refine lv_iload_n hx hb d_Fit_greatestOrder_7 rfl (lv_at hl 2 rfl) ?_
        refine lv_iload_n hx hb d_Fit_greatestOrder_8 rfl (lv_at hl 0 rfl) ?_
        refine k_pure (r := .int (l_giv its b 0 n)) (W.runS (As := [.ref h0, .int b, .int 0]) (rest := []) ⟨hx, hb, hml, hown, hts⟩ (c_Fit_sumOf l g s.heap I h0 n el its o hi b 0) (va_cwS 3 hts (kS_good kw_399 kw_397 kw_398 kw_7) rfl rfl rfl (by decide +kernel) ⟨Nat.le_of_ble_eq_true rfl, Nat.le_of_ble_eq_true rfl⟩) (k_pre (KK_st g) hKK) rfl rfl hl.1 rfl (lv_room (Nat.le_of_ble_eq_true rfl)) d_Fit_greatestOrder_9 ⟨Nat.zero_le _, Nat.zero_le _⟩) ?_
        refine lv_if_eq (tgt := 17) hx hb d_Fit_greatestOrder_12 (by decide) (fun c_8 => ?_) (fun c_8 => ?_)
        · skip
          refine lv_iinc (v := (-1)) (lv' := [(2, .int (-1)), (0, .ref h0), (1, .int b)]) hx hb d_Fit_greatestOrder_17 hl (k := 0) rfl (by decide) (by decide) rfl (fun ls hl => ?_)
          refine lv_goto (tgt := 2) hx hb d_Fit_greatestOrder_20 (by decide) ?_
          refine lv_iload_n hx hb d_Fit_greatestOrder_2 rfl (lv_at hl 0 rfl) ?_
          refine lv_if_lt (tgt := 23) hx hb d_Fit_greatestOrder_3 (by decide) (fun c_9 => ?_) (fun c_9 => ?_)
          rotate_left
          · exact absurd c_9 (fun q => q (by decide))
          refine lv_iconst (v := (-1)) hx hb d_Fit_greatestOrder_23 (by decide) ?_
          exact W.iret (v := (-1)) hx hb hr (fun t ht hW => ⟨_, rfl, (by unfold l_go; rw [if_pos c_2, if_pos c_4, if_pos c_6, if_pos c_8]), ht⟩) (fun _ h => by cases h) d_Fit_greatestOrder_24
        · skip
          refine lv_iload_n hx hb d_Fit_greatestOrder_15 rfl (lv_at hl 0 rfl) ?_
          exact W.iret (v := 0) hx hb hr (fun t ht hW => ⟨_, rfl, (by unfold l_go; rw [if_pos c_2, if_pos c_4, if_pos c_6, if_neg c_8]), ht⟩) (fun _ h => by cases h) d_Fit_greatestOrder_16
      · skip
        refine lv_iload_n hx hb d_Fit_greatestOrder_15 rfl (lv_at hl 0 rfl) ?_
        exact W.iret (v := 1) hx hb hr (fun t ht hW => ⟨_, rfl, (by unfold l_go; rw [if_pos c_2, if_pos c_4, if_neg c_6]), ht⟩) (fun _ h => by cases h) d_Fit_greatestOrder_16
    · skip
      refine lv_iload_n hx hb d_Fit_greatestOrder_15 rfl (lv_at hl 0 rfl) ?_
      exact W.iret (v := 2) hx hb hr (fun t ht hW => ⟨_, rfl, (by unfold l_go; rw [if_pos c_2, if_neg c_4]), ht⟩) (fun _ h => by cases h) d_Fit_greatestOrder_16
  · skip
    refine lv_iload_n hx hb d_Fit_greatestOrder_15 rfl (lv_at hl 0 rfl) ?_
    exact W.iret (v := 3) hx hb hr (fun t ht hW => ⟨_, rfl, (by unfold l_go; rw [if_neg c_2]), ht⟩) (fun _ h => by cases h) d_Fit_greatestOrder_16
def t_giv (it : Nat → Int32) (ord mis : Int32) : Int32 := if mis ≤ 0 then i_giving it 0 ord else i_giving it 1 ord
set_option maxHeartbeats 4000000 in
set_option maxRecDepth 100000 in
theorem c_Fit_givingOf (l : Launch) (g : KGt) (H0 : Heap) (I : Nat → Prop) (h0 a : Nat) (it : Nat → Int32) (f0 f1 f2 f3 : Int32) (o0 : va_at g.1 kcl (h0, .inr (3, [.int f0, .int f1, .int f2, .int f3])) H0) (hit : kItem g I a it H0) : Met l y_Fit_givingOf (kW y_Fit_givingOf b_Fit_givingOf 2 (.some .int)) ({ frames := 1, cells := 0, slots := 0, locals := 22 }) (kPc [.ref h0, .ref a] (KK g) H0) (kQc (kPure (.int (t_giv it f1 f2)) H0)) 0 0 (fun _ => False) := by
  refine Met.ofW (cc := b_Fit_givingOf) (maxL := 2) (ret := (.some .int)) (by decide) rfl ?_
  intro p e s m args below meth c s₁ B hml hv
  obtain ⟨rfl, hH, hKK⟩ := hv
  have hx := B.exec
  have hb := B.bytes
  have hr := B.returns
  have hts := kW_ts (atoms_spec (ws := kW y_Fit_givingOf b_Fit_givingOf 2 (.some .int)) B.pre)
  have hown : s.vm.findClass "BoxGlue$Fit" = some m.cls := findClass_of_methodNamed B.named
  have hlocks := B.notSynchronized
  have hK := hKK.1
  subst hH
  have hl := lv_entry ([.ref h0, .ref a]) (n := 2) (Nat.le_of_ble_eq_true rfl)
  rw [lg_entry_eq]
  generalize (lg_sl ([.ref h0, .ref a]) ++ List.replicate (2 - (lg_sl ([.ref h0, .ref a])).length) Slot.unset).toArray = ls at hl ⊢
  have hl : lv_has ls 2 [(0, .ref h0), (1, .ref a)] := hl
  refine lv_aload_n hx hb d_Fit_givingOf_0 rfl (lv_at hl 1 rfl) ?_
  refine lv_aload_n hx hb d_Fit_givingOf_1 rfl (lv_at hl 0 rfl) ?_
  refine va_get (D := g.1) (ci := 3) (v := .int f2) (C := "BoxGlue$Fit") (T := kT_Fit) (N := 4) hx hb hts ki_Fit hown hK (k_one o0) 0 rfl rfl 2 (by decide) (hts _ kw_92) (fun _ h9 => h9) rfl d_Fit_givingOf_2 ?_
  refine lv_if_le (tgt := 12) hx hb d_Fit_givingOf_5 (by decide) (fun c_1 => ?_) (fun c_1 => ?_)
  · skip
    refine lv_iconst (v := 0) hx hb d_Fit_givingOf_12 (by decide) ?_
    refine lv_aload_n hx hb d_Fit_givingOf_13 rfl (lv_at hl 0 rfl) ?_
    refine va_get (D := g.1) (ci := 3) (v := .int f1) (C := "BoxGlue$Fit") (T := kT_Fit) (N := 4) hx hb hts ki_Fit hown hK (k_one o0) 0 rfl rfl 1 (by decide) (hts _ kw_90) (fun _ h9 => h9) rfl d_Fit_givingOf_14 ?_
    refine v_giving hx hb hml hown hts hKK kw_400 hit hl.1 (Nat.le_of_ble_eq_true rfl) (Nat.le_of_ble_eq_true rfl) (Nat.le_of_ble_eq_true rfl) (Nat.zero_le _) (Nat.zero_le _) d_Fit_givingOf_17 ?_
    exact W.iret (v := (i_giving it 0 f1)) hx hb hr (fun t ht hW => ⟨_, rfl, (by unfold t_giv; rw [if_pos c_1]), ht⟩) (fun _ h => by cases h) d_Fit_givingOf_20
  · skip
    refine lv_iconst (v := 1) hx hb d_Fit_givingOf_8 (by decide) ?_
    refine lv_goto (tgt := 13) hx hb d_Fit_givingOf_9 (by decide) ?_
    refine lv_aload_n hx hb d_Fit_givingOf_13 rfl (lv_at hl 0 rfl) ?_
    refine va_get (D := g.1) (ci := 3) (v := .int f1) (C := "BoxGlue$Fit") (T := kT_Fit) (N := 4) hx hb hts ki_Fit hown hK (k_one o0) 0 rfl rfl 1 (by decide) (hts _ kw_90) (fun _ h9 => h9) rfl d_Fit_givingOf_14 ?_
    refine v_giving hx hb hml hown hts hKK kw_400 hit hl.1 (Nat.le_of_ble_eq_true rfl) (Nat.le_of_ble_eq_true rfl) (Nat.le_of_ble_eq_true rfl) (Nat.zero_le _) (Nat.zero_le _) d_Fit_givingOf_17 ?_
    exact W.iret (v := (i_giving it 1 f1)) hx hb hr (fun t ht hW => ⟨_, rfl, (by unfold t_giv; rw [if_neg c_1]), ht⟩) (fun _ h => by cases h) d_Fit_givingOf_20
def t_ord (its : Nat → Nat → Int32) (n : Nat) (x : Int32) : Int32 := if x = 0 then (-1) else (if x ≤ 0 then l_go its 0 n else l_go its 1 n)
def t_sum (its : Nat → Nat → Int32) (n : Nat) (x : Int32) : Int32 := if x ≤ 0 then l_giv its 0 (t_ord its n x) n else l_giv its 1 (t_ord its n x) n
set_option maxHeartbeats 4000000 in
set_option maxRecDepth 100000 in
theorem c_Fit_of (l : Launch) (g : KGt) (H0 : Heap) (I : Nat → Prop) (h0 n : Nat) (el : Nat → Nat) (its : Nat → Nat → Int32) (o : kAL g h0 n el H0) (hi : ∀ i, i < n → kItem g I (el i) (its i) H0) (len : Int32) : Met l y_Fit_of (kW y_Fit_of b_Fit_of 5 (.some (.object "BoxGlue$Fit"))) ({ frames := 5, cells := 1, slots := 4, locals := 110 }) (kPc [.ref h0, .int len] (KK g) H0) (kQc (fun v H1 => ∃ q : Nat, v = some (.ref q) ∧ H0.size ≤ q ∧ kE (fun _ => False) H0 H1 ∧ va_at g.1 kcl (q, .inr (3, [.int (l_len its n), .int (t_ord its n (len - (l_len its n))), .int (len - (l_len its n)), .int (t_sum its n (len - (l_len its n)))])) H1)) 1 4 (fun q : Nat => H0.size ≤ q) := by
  refine Met.ofW (cc := b_Fit_of) (maxL := 5) (ret := (.some (.object "BoxGlue$Fit"))) (by decide) rfl ?_
  intro p e s m args below meth c s₁ B hml hv
  obtain ⟨rfl, hH, hKK⟩ := hv
  have hx := B.exec
  have hb := B.bytes
  have hr := B.returns
  have hts := kW_ts (atoms_spec (ws := kW y_Fit_of b_Fit_of 5 (.some (.object "BoxGlue$Fit"))) B.pre)
  have hown : s.vm.findClass "BoxGlue$Fit" = some m.cls := findClass_of_methodNamed B.named
  have hlocks := B.notSynchronized
  have hK := hKK.1
  subst hH
  have hl := lv_entry ([.ref h0, .int len]) (n := 5) (Nat.le_of_ble_eq_true rfl)
  rw [lg_entry_eq]
  generalize (lg_sl ([.ref h0, .int len]) ++ List.replicate (5 - (lg_sl ([.ref h0, .int len])).length) Slot.unset).toArray = ls at hl ⊢
  have hl : lv_has ls 5 [(0, .ref h0), (1, .int len)] := hl
  generalize hAe : (fun q : Nat => s.heap.size ≤ q) = A
  have hA : ∀ q : Nat, s.heap.size ≤ q → A q := fun q h => by rw [← hAe]; exact h
  have hS : va_S A s.heap s.heap [] := va_S.rf
  have hP : va_P g.1 kcl [] s.heap := kP0
  have hD : va_D A [] := kD0
  refine lv_aload_n hx hb d_Fit_of_0 rfl (lv_at hl 0 rfl) ?_
  refine k_pure (r := .int (l_len its n)) (W.runS (As := [.ref h0]) (rest := []) ⟨hx, hb, hml, hown, hts⟩ (c_Fit_lengthOf l g s.heap I h0 n el its o hi) (va_cwS 1 hts (kS_good kw_353 kw_393 kw_352 kw_7) rfl rfl rfl (by decide +kernel) ⟨Nat.le_of_ble_eq_true rfl, Nat.le_of_ble_eq_true rfl⟩) (k_pre (KK_st g) hKK) rfl rfl hl.1 rfl (lv_room (Nat.le_of_ble_eq_true rfl)) d_Fit_of_1 ⟨Nat.le_of_ble_eq_true rfl, Nat.le_of_ble_eq_true rfl⟩) ?_
  refine lv_istore_n (lv' := [(2, .int (l_len its n)), (0, .ref h0), (1, .int len)]) hx hb d_Fit_of_4 rfl hl (by decide) rfl (fun ls hl => ?_)
  refine lv_iload_n hx hb d_Fit_of_5 rfl (lv_at hl 2 rfl) ?_
  refine lv_iload_n hx hb d_Fit_of_6 rfl (lv_at hl 0 rfl) ?_
  refine lv_isub hx hb d_Fit_of_7 ?_
  refine lv_istore_n (lv' := [(3, .int (len - (l_len its n))), (2, .int (l_len its n)), (0, .ref h0), (1, .int len)]) hx hb d_Fit_of_8 rfl hl (by decide) rfl (fun ls hl => ?_)
  refine lv_iload_n hx hb d_Fit_of_9 rfl (lv_at hl 0 rfl) ?_
  refine lv_if_ne (tgt := 17) hx hb d_Fit_of_10 (by decide) (fun c_1 => ?_) (fun c_1 => ?_)
  · skip
    refine lv_aload_n hx hb d_Fit_of_17 rfl (lv_at hl 2 rfl) ?_
    refine lv_iload_n hx hb d_Fit_of_18 rfl (lv_at hl 0 rfl) ?_
    refine lv_if_le (tgt := 26) hx hb d_Fit_of_19 (by decide) (fun c_2 => ?_) (fun c_2 => ?_)
    · skip
      refine lv_iconst (v := 0) hx hb d_Fit_of_26 (by decide) ?_
      refine k_pure (r := .int (l_go its 0 n)) (W.runS (As := [.ref h0, .int 0]) (rest := []) ⟨hx, hb, hml, hown, hts⟩ (c_Fit_greatestOrder l g s.heap I h0 n el its o hi 0) (va_cwS 2 hts (kS_good kw_396 kw_394 kw_395 kw_7) rfl rfl rfl (by decide +kernel) ⟨Nat.le_of_ble_eq_true rfl, Nat.le_of_ble_eq_true rfl⟩) (k_pre (KK_st g) hKK) rfl rfl hl.1 rfl (lv_room (Nat.le_of_ble_eq_true rfl)) d_Fit_of_27 ⟨Nat.le_of_ble_eq_true rfl, Nat.le_of_ble_eq_true rfl⟩) ?_
      refine lv_istore (lv' := [(4, .int (l_go its 0 n)), (3, .int (len - (l_len its n))), (2, .int (l_len its n)), (0, .ref h0), (1, .int len)]) hx hb d_Fit_of_30 hl (by decide) rfl (fun ls hl => ?_)
      refine va_new (D := g.1) (ci := 3) (fs := [.int 0, .int 0, .int 0, .int 0]) (C := "BoxGlue$Fit") (T := kT_Fit) (N := 4) hx hb hts ki_Fit kt_Fit ko_Fit hown (hts _ kw_410) (hts _ kw_83) (hts _ kw_7) hK hP hD hS hA rfl (fun j hj => by rcases (show j = 0 ∨ j = 1 ∨ j = 2 ∨ j = 3 by omega) with rfl | rfl | rfl | rfl <;> rfl) (Nat.le_of_ble_eq_true rfl) (Nat.le_of_ble_eq_true rfl) d_Fit_of_32 (fun q H hP hD hS => ?_)
      have hP : va_P g.1 kcl [(q, .inr (3, [.int 0, .int 0, .int 0, .int 0]))] H := hP
      have hD : va_D A [(q, .inr (3, [.int 0, .int 0, .int 0, .int 0]))] := hD
      have hE : kE (fun _ => False) s.heap H := (kE.ofS hS).wk (fun z hz h => by rw [← hAe] at h; omega)
      have hq : s.heap.size ≤ q := by have h9 := hD.2 0 _ rfl; rw [← hAe] at h9; exact h9
      have o := o.ext hE
      have hi := fun i hn => (hi i hn).ext hE
      refine lv_dup hx hb d_Fit_of_35 rfl ?_
      refine lv_iload_n hx hb d_Fit_of_36 rfl (lv_at hl 2 rfl) ?_
      refine lv_iload_n hx hb d_Fit_of_37 rfl (lv_at hl 1 rfl) ?_
      refine lv_iload hx hb d_Fit_of_38 (lv_at hl 0 rfl) ?_
      refine lv_aload_n hx hb d_Fit_of_40 rfl (lv_at hl 3 rfl) ?_
      refine lv_iload_n hx hb d_Fit_of_41 rfl (lv_at hl 1 rfl) ?_
      refine lv_if_le (tgt := 49) hx hb d_Fit_of_42 (by decide) (fun c_3 => ?_) (fun c_3 => ?_)
      rotate_left
      · exact absurd c_3 (fun q => q c_2)
      refine lv_iconst (v := 0) hx hb d_Fit_of_49 (by decide) ?_
      refine lv_iload hx hb d_Fit_of_50 (lv_at hl 0 rfl) ?_
      refine k_pure (r := .int (l_giv its 0 (l_go its 0 n) n)) (W.runS (As := [.ref h0, .int 0, .int (l_go its 0 n)]) (rest := [.int (l_go its 0 n), .int (len - (l_len its n)), .int (l_len its n), .ref q, .ref q]) ⟨hx, hb, hml, hown, hts⟩ (c_Fit_sumOf l g H I h0 n el its o hi 0 (l_go its 0 n)) (va_cwS 3 hts (kS_good kw_399 kw_397 kw_398 kw_7) rfl rfl rfl (by decide +kernel) ⟨Nat.le_of_ble_eq_true rfl, Nat.le_of_ble_eq_true rfl⟩) (k_pre (KK_st g) hKK) rfl rfl hl.1 rfl (lv_room (Nat.le_of_ble_eq_true rfl)) d_Fit_of_52 ⟨Nat.le_of_ble_eq_true rfl, Nat.le_of_ble_eq_true rfl⟩) ?_
      refine k_call (A := A) (W.runI (As := [.int (l_len its n), .int (len - (l_len its n)), .int (l_go its 0 n), .int (l_giv its 0 (l_go its 0 n) n)]) (rest := [.ref q]) ⟨hx, hb, hml, hown, hts⟩ (c_Fit_init l g H q (l_len its n) (len - (l_len its n)) (l_go its 0 n) (l_giv its 0 (l_go its 0 n) n) (k_at0 hP 0 rfl)) (cwI 4 hts (kW_good kw_86) rfl rfl rfl (hts _ kw_7) (hts _ kw_411) (hts _ kw_85) rfl (by decide +kernel) ⟨Nat.le_of_ble_eq_true rfl, Nat.le_of_ble_eq_true rfl⟩) (k_pre (KK_st g) hKK) rfl rfl hl.1 rfl (lv_room (Nat.le_of_ble_eq_true rfl)) d_Fit_of_55 ⟨Nat.le_of_ble_eq_true rfl, Nat.le_of_ble_eq_true rfl⟩) hS.2.2 (fun z h => by rw [← hAe]; rcases h with h | h; rw [h]; exact hq; exact Nat.le_trans hS.1 h) (fun v H2 locs hv hL => ?_)
      obtain ⟨rfl, hE2, o2⟩ := hv
      have hE3 : kE (fun _ => False) s.heap H2 := hE.tr hE2 (fun z hz h => by omega)
      have e1 : t_ord its n (len - (l_len its n)) = (l_go its 0 n) := by unfold t_ord; rw [if_neg c_1, if_pos c_2]
      have e2 : t_sum its n (len - (l_len its n)) = (l_giv its 0 (l_go its 0 n) n) := by unfold t_sum; rw [if_pos c_2, e1]
      exact W.aret (v := .ref q) hx hb hr (Or.inl ⟨_, rfl⟩) (Or.inr ⟨_, rfl⟩) (fun t ht hW => ⟨_, rfl, q, rfl, hq, by rw [ht]; exact hE3, by rw [ht, e1, e2]; exact o2⟩) hL d_Fit_of_58
    · skip
      refine lv_iconst (v := 1) hx hb d_Fit_of_22 (by decide) ?_
      refine lv_goto (tgt := 27) hx hb d_Fit_of_23 (by decide) ?_
      refine k_pure (r := .int (l_go its 1 n)) (W.runS (As := [.ref h0, .int 1]) (rest := []) ⟨hx, hb, hml, hown, hts⟩ (c_Fit_greatestOrder l g s.heap I h0 n el its o hi 1) (va_cwS 2 hts (kS_good kw_396 kw_394 kw_395 kw_7) rfl rfl rfl (by decide +kernel) ⟨Nat.le_of_ble_eq_true rfl, Nat.le_of_ble_eq_true rfl⟩) (k_pre (KK_st g) hKK) rfl rfl hl.1 rfl (lv_room (Nat.le_of_ble_eq_true rfl)) d_Fit_of_27 ⟨Nat.le_of_ble_eq_true rfl, Nat.le_of_ble_eq_true rfl⟩) ?_
      refine lv_istore (lv' := [(4, .int (l_go its 1 n)), (3, .int (len - (l_len its n))), (2, .int (l_len its n)), (0, .ref h0), (1, .int len)]) hx hb d_Fit_of_30 hl (by decide) rfl (fun ls hl => ?_)
      refine va_new (D := g.1) (ci := 3) (fs := [.int 0, .int 0, .int 0, .int 0]) (C := "BoxGlue$Fit") (T := kT_Fit) (N := 4) hx hb hts ki_Fit kt_Fit ko_Fit hown (hts _ kw_410) (hts _ kw_83) (hts _ kw_7) hK hP hD hS hA rfl (fun j hj => by rcases (show j = 0 ∨ j = 1 ∨ j = 2 ∨ j = 3 by omega) with rfl | rfl | rfl | rfl <;> rfl) (Nat.le_of_ble_eq_true rfl) (Nat.le_of_ble_eq_true rfl) d_Fit_of_32 (fun q H hP hD hS => ?_)
      have hP : va_P g.1 kcl [(q, .inr (3, [.int 0, .int 0, .int 0, .int 0]))] H := hP
      have hD : va_D A [(q, .inr (3, [.int 0, .int 0, .int 0, .int 0]))] := hD
      have hE : kE (fun _ => False) s.heap H := (kE.ofS hS).wk (fun z hz h => by rw [← hAe] at h; omega)
      have hq : s.heap.size ≤ q := by have h9 := hD.2 0 _ rfl; rw [← hAe] at h9; exact h9
      have o := o.ext hE
      have hi := fun i hn => (hi i hn).ext hE
      refine lv_dup hx hb d_Fit_of_35 rfl ?_
      refine lv_iload_n hx hb d_Fit_of_36 rfl (lv_at hl 2 rfl) ?_
      refine lv_iload_n hx hb d_Fit_of_37 rfl (lv_at hl 1 rfl) ?_
      refine lv_iload hx hb d_Fit_of_38 (lv_at hl 0 rfl) ?_
      refine lv_aload_n hx hb d_Fit_of_40 rfl (lv_at hl 3 rfl) ?_
      refine lv_iload_n hx hb d_Fit_of_41 rfl (lv_at hl 1 rfl) ?_
      refine lv_if_le (tgt := 49) hx hb d_Fit_of_42 (by decide) (fun c_4 => ?_) (fun c_4 => ?_)
      · exact absurd c_4 c_2
      refine lv_iconst (v := 1) hx hb d_Fit_of_45 (by decide) ?_
      refine lv_goto (tgt := 50) hx hb d_Fit_of_46 (by decide) ?_
      refine lv_iload hx hb d_Fit_of_50 (lv_at hl 0 rfl) ?_
      refine k_pure (r := .int (l_giv its 1 (l_go its 1 n) n)) (W.runS (As := [.ref h0, .int 1, .int (l_go its 1 n)]) (rest := [.int (l_go its 1 n), .int (len - (l_len its n)), .int (l_len its n), .ref q, .ref q]) ⟨hx, hb, hml, hown, hts⟩ (c_Fit_sumOf l g H I h0 n el its o hi 1 (l_go its 1 n)) (va_cwS 3 hts (kS_good kw_399 kw_397 kw_398 kw_7) rfl rfl rfl (by decide +kernel) ⟨Nat.le_of_ble_eq_true rfl, Nat.le_of_ble_eq_true rfl⟩) (k_pre (KK_st g) hKK) rfl rfl hl.1 rfl (lv_room (Nat.le_of_ble_eq_true rfl)) d_Fit_of_52 ⟨Nat.le_of_ble_eq_true rfl, Nat.le_of_ble_eq_true rfl⟩) ?_
      refine k_call (A := A) (W.runI (As := [.int (l_len its n), .int (len - (l_len its n)), .int (l_go its 1 n), .int (l_giv its 1 (l_go its 1 n) n)]) (rest := [.ref q]) ⟨hx, hb, hml, hown, hts⟩ (c_Fit_init l g H q (l_len its n) (len - (l_len its n)) (l_go its 1 n) (l_giv its 1 (l_go its 1 n) n) (k_at0 hP 0 rfl)) (cwI 4 hts (kW_good kw_86) rfl rfl rfl (hts _ kw_7) (hts _ kw_411) (hts _ kw_85) rfl (by decide +kernel) ⟨Nat.le_of_ble_eq_true rfl, Nat.le_of_ble_eq_true rfl⟩) (k_pre (KK_st g) hKK) rfl rfl hl.1 rfl (lv_room (Nat.le_of_ble_eq_true rfl)) d_Fit_of_55 ⟨Nat.le_of_ble_eq_true rfl, Nat.le_of_ble_eq_true rfl⟩) hS.2.2 (fun z h => by rw [← hAe]; rcases h with h | h; rw [h]; exact hq; exact Nat.le_trans hS.1 h) (fun v H2 locs hv hL => ?_)
      obtain ⟨rfl, hE2, o2⟩ := hv
      have hE3 : kE (fun _ => False) s.heap H2 := hE.tr hE2 (fun z hz h => by omega)
      have e1 : t_ord its n (len - (l_len its n)) = (l_go its 1 n) := by unfold t_ord; rw [if_neg c_1, if_neg c_2]
      have e2 : t_sum its n (len - (l_len its n)) = (l_giv its 1 (l_go its 1 n) n) := by unfold t_sum; rw [if_neg c_2, e1]
      exact W.aret (v := .ref q) hx hb hr (Or.inl ⟨_, rfl⟩) (Or.inr ⟨_, rfl⟩) (fun t ht hW => ⟨_, rfl, q, rfl, hq, by rw [ht]; exact hE3, by rw [ht, e1, e2]; exact o2⟩) hL d_Fit_of_58
  · skip
    refine lv_iconst (v := (-1)) hx hb d_Fit_of_13 (by decide) ?_
    refine lv_goto (tgt := 30) hx hb d_Fit_of_14 (by decide) ?_
    refine lv_istore (lv' := [(4, .int (-1)), (3, .int (len - (l_len its n))), (2, .int (l_len its n)), (0, .ref h0), (1, .int len)]) hx hb d_Fit_of_30 hl (by decide) rfl (fun ls hl => ?_)
    refine va_new (D := g.1) (ci := 3) (fs := [.int 0, .int 0, .int 0, .int 0]) (C := "BoxGlue$Fit") (T := kT_Fit) (N := 4) hx hb hts ki_Fit kt_Fit ko_Fit hown (hts _ kw_410) (hts _ kw_83) (hts _ kw_7) hK hP hD hS hA rfl (fun j hj => by rcases (show j = 0 ∨ j = 1 ∨ j = 2 ∨ j = 3 by omega) with rfl | rfl | rfl | rfl <;> rfl) (Nat.le_of_ble_eq_true rfl) (Nat.le_of_ble_eq_true rfl) d_Fit_of_32 (fun q H hP hD hS => ?_)
    have hP : va_P g.1 kcl [(q, .inr (3, [.int 0, .int 0, .int 0, .int 0]))] H := hP
    have hD : va_D A [(q, .inr (3, [.int 0, .int 0, .int 0, .int 0]))] := hD
    have hE : kE (fun _ => False) s.heap H := (kE.ofS hS).wk (fun z hz h => by rw [← hAe] at h; omega)
    have hq : s.heap.size ≤ q := by have h9 := hD.2 0 _ rfl; rw [← hAe] at h9; exact h9
    have o := o.ext hE
    have hi := fun i hn => (hi i hn).ext hE
    refine lv_dup hx hb d_Fit_of_35 rfl ?_
    refine lv_iload_n hx hb d_Fit_of_36 rfl (lv_at hl 2 rfl) ?_
    refine lv_iload_n hx hb d_Fit_of_37 rfl (lv_at hl 1 rfl) ?_
    refine lv_iload hx hb d_Fit_of_38 (lv_at hl 0 rfl) ?_
    refine lv_aload_n hx hb d_Fit_of_40 rfl (lv_at hl 3 rfl) ?_
    refine lv_iload_n hx hb d_Fit_of_41 rfl (lv_at hl 1 rfl) ?_
    refine lv_if_le (tgt := 49) hx hb d_Fit_of_42 (by decide) (fun c_5 => ?_) (fun c_5 => ?_)
    rotate_left
    · exact absurd c_5 (fun q => q (by rw [c_1]; exact Int32.le_refl _))
    refine lv_iconst (v := 0) hx hb d_Fit_of_49 (by decide) ?_
    refine lv_iload hx hb d_Fit_of_50 (lv_at hl 0 rfl) ?_
    refine k_pure (r := .int (l_giv its 0 (-1) n)) (W.runS (As := [.ref h0, .int 0, .int (-1)]) (rest := [.int (-1), .int (len - (l_len its n)), .int (l_len its n), .ref q, .ref q]) ⟨hx, hb, hml, hown, hts⟩ (c_Fit_sumOf l g H I h0 n el its o hi 0 (-1)) (va_cwS 3 hts (kS_good kw_399 kw_397 kw_398 kw_7) rfl rfl rfl (by decide +kernel) ⟨Nat.le_of_ble_eq_true rfl, Nat.le_of_ble_eq_true rfl⟩) (k_pre (KK_st g) hKK) rfl rfl hl.1 rfl (lv_room (Nat.le_of_ble_eq_true rfl)) d_Fit_of_52 ⟨Nat.le_of_ble_eq_true rfl, Nat.le_of_ble_eq_true rfl⟩) ?_
    refine k_call (A := A) (W.runI (As := [.int (l_len its n), .int (len - (l_len its n)), .int (-1), .int (l_giv its 0 (-1) n)]) (rest := [.ref q]) ⟨hx, hb, hml, hown, hts⟩ (c_Fit_init l g H q (l_len its n) (len - (l_len its n)) (-1) (l_giv its 0 (-1) n) (k_at0 hP 0 rfl)) (cwI 4 hts (kW_good kw_86) rfl rfl rfl (hts _ kw_7) (hts _ kw_411) (hts _ kw_85) rfl (by decide +kernel) ⟨Nat.le_of_ble_eq_true rfl, Nat.le_of_ble_eq_true rfl⟩) (k_pre (KK_st g) hKK) rfl rfl hl.1 rfl (lv_room (Nat.le_of_ble_eq_true rfl)) d_Fit_of_55 ⟨Nat.le_of_ble_eq_true rfl, Nat.le_of_ble_eq_true rfl⟩) hS.2.2 (fun z h => by rw [← hAe]; rcases h with h | h; rw [h]; exact hq; exact Nat.le_trans hS.1 h) (fun v H2 locs hv hL => ?_)
    obtain ⟨rfl, hE2, o2⟩ := hv
    have hE3 : kE (fun _ => False) s.heap H2 := hE.tr hE2 (fun z hz h => by omega)
    have hle : (len - (l_len its n)) ≤ 0 := by rw [c_1]; exact Int32.le_refl _
    have e1 : t_ord its n (len - (l_len its n)) = (-1) := by unfold t_ord; rw [if_pos c_1]
    have e2 : t_sum its n (len - (l_len its n)) = (l_giv its 0 (-1) n) := by unfold t_sum; rw [if_pos hle, e1]
    exact W.aret (v := .ref q) hx hb hr (Or.inl ⟨_, rfl⟩) (Or.inr ⟨_, rfl⟩) (fun t ht hW => ⟨_, rfl, q, rfl, hq, by rw [ht]; exact hE3, by rw [ht, e1, e2]; exact o2⟩) hL d_Fit_of_58

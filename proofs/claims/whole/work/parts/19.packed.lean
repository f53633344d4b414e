/-! Box.placed, Box.packed -/
theorem kALx.apart {g : KGt} {la arr cap n e : Nat} {el : Nat → Nat} {H : Heap} {s : State} (h : kALx g la arr cap n el H) (hK : va_K g.1 kcl (kTy g) s) (ho : kObj g e H) : ¬ (e = la ∨ (e = arr ∧ 0 < cap)) := by
  obtain ⟨mo, w1, w2 | ⟨f, w2, w3⟩⟩ := h
  · rintro (h | h)
    · exact ho.ne hK w1 h
    · omega
  · rintro (h | h)
    · exact ho.ne hK w1 h
    · exact ho.na hK w2 h.1
/-- what stands before item i, of the giving that counts -/
def s_bef (its : Nat → Nat → Int32) (f1 f2 : Int32) (i : Nat) : Int32 := l_sum (fun k => t_giv (its k) f1 f2) i
def s_len (its : Nat → Nat → Int32) (f0 f1 f2 f3 : Int32) (i : Nat) : Int32 := its i 1 + f_Fit_change f0 f1 f2 f3 (s_bef its f1 f2 i) (s_bef its f1 f2 (i + 1))
def s_pl (its : Nat → Nat → Int32) (f0 f1 f2 f3 : Int32) (i : Nat) : Int32 := l_sum (s_len its f0 f1 f2 f3) i
set_option maxHeartbeats 4000000 in
set_option maxRecDepth 100000 in
theorem c_Box_placed (l : Launch) (g : KGt) (H0 : Heap) (I : Nat → Prop) (h0 h1 n : Nat) (el : Nat → Nat) (its : Nat → Nat → Int32) (f0 f1 f2 f3 : Int32) (hB : kB g H0) (hn : n ≤ 40) (o : kAL g h0 n el H0) (hi : ∀ i, i < n → kItem g I (el i) (its i) H0) (fo : va_at g.1 kcl (h1, .inr (3, [.int f0, .int f1, .int f2, .int f3])) H0) : Met l y_Box_placed (kW y_Box_placed b_Box_placed 9 (.some (.object "java/util/ArrayList"))) ({ frames := 7, cells := 100, slots := 5000, locals := 171 }) (kPc [.ref h0, .ref h1] (KK g) H0) (kQc (fun v H1 => ∃ (q arr cap : Nat) (pel : Nat → Nat), v = some (.ref q) ∧ H0.size ≤ q ∧ kE (fun _ => False) H0 H1 ∧ kALx g q arr cap n pel H1 ∧ (0 < cap → H0.size ≤ arr) ∧ ∀ k, k < n → H0.size ≤ pel k ∧ va_at g.1 kcl (pel k, .inr (9, [.ref (el k), .int (s_pl its f0 f1 f2 f3 k), .int (s_len its f0 f1 f2 f3 k)])) H1)) 100 5000 (fun q : Nat => H0.size ≤ q) := by
  refine Met.ofW (cc := b_Box_placed) (maxL := 9) (ret := (.some (.object "java/util/ArrayList"))) (by decide) rfl ?_
  intro p e s m args below meth c s₁ B hml hv
  obtain ⟨rfl, hH, hKK⟩ := hv
  have hx := B.exec
  have hb := B.bytes
  have hr := B.returns
  have hts := kW_ts (atoms_spec (ws := kW y_Box_placed b_Box_placed 9 (.some (.object "java/util/ArrayList"))) B.pre)
  have hown : s.vm.findClass "BoxGlue$Box" = some m.cls := findClass_of_methodNamed B.named
  have hlocks := B.notSynchronized
  have hK := hKK.1
  subst hH
  have hl := lv_entry ([.ref h0, .ref h1]) (n := 9) (Nat.le_of_ble_eq_true rfl)
  rw [lg_entry_eq]
  generalize (lg_sl ([.ref h0, .ref h1]) ++ List.replicate (9 - (lg_sl ([.ref h0, .ref h1])).length) Slot.unset).toArray = ls at hl ⊢
  have hl : lv_has ls 9 [(0, .ref h0), (1, .ref h1)] := hl
  generalize hAe : (fun q : Nat => s.heap.size ≤ q) = A
  have hA : ∀ q : Nat, s.heap.size ≤ q → A q := fun q h => by rw [← hAe]; exact h
  refine k_new (D := g.1) (ci := 1) (fs := [.null, .int 0, .int 0]) (C := "java/util/ArrayList") (T := kT_AL) (N := 3) hx hb hts ki_AL kt_AL ko_AL hown (hts _ kw_103) (hts _ kw_30) (hts _ kw_4) hK rfl (fun j hj => by rcases (show j = 0 ∨ j = 1 ∨ j = 2 by omega) with rfl | rfl | rfl <;> rfl) (by show _ ≤ 100; omega) (by show _ ≤ 5000; omega) d_Box_placed_0 (fun q H1 e_q p1 hN => ?_)
  refine lv_dup hx hb d_Box_placed_3 rfl ?_
  have hq : s.heap.size ≤ q := by omega
  refine k_call (A := A) (W.runI (As := []) (rest := [.ref q]) ⟨hx, hb, hml, hown, hts⟩ (c_AL_init l g H1 q (hB.tr hN (fun _ _ h => h)) (Nat.le_trans hB.1 hq) p1) (cwI 0 hts (kW_good kw_33) rfl rfl rfl (hts _ kw_4) (hts _ kw_104) (hts _ kw_32) rfl (by decide +kernel) ⟨Nat.le_of_ble_eq_true rfl, Nat.le_of_ble_eq_true rfl⟩) (k_pre (KK_st g) hKK) rfl rfl hl.1 rfl (lv_room (Nat.le_of_ble_eq_true rfl)) d_Box_placed_4 ⟨by show _ ≤ 100; omega, by show _ ≤ 5000; omega⟩) (fun _ h => by cases h) (fun z h => by rw [← hAe]; rcases h with h | h; rw [h]; exact hq; exact Nat.le_trans hN.1 h) (fun v H locs hv hL => ?_)
  obtain ⟨rfl, hE2, o2⟩ := hv
  have hE : kE (fun _ => False) s.heap H := hN.tr hE2 (fun z hz h => by omega)
  have al : kALx g q g.2.2.2.1 0 0 (fun _ => 0) H := ⟨0, by rw [nI_0]; exact o2, Or.inl ⟨rfl, rfl, rfl⟩⟩
  refine lv_astore_n (lv' := [(2, .ref q), (0, .ref h0), (1, .ref h1)]) hx hb d_Box_placed_7 rfl hl (by decide) rfl (fun ls hl => ?_)
  refine lv_iconst (v := 0) hx hb d_Box_placed_8 (by decide) ?_
  refine lv_istore_n (lv' := [(3, .int 0), (2, .ref q), (0, .ref h0), (1, .ref h1)]) hx hb d_Box_placed_9 rfl hl (by decide) rfl (fun ls hl => ?_)
  refine lv_iconst (v := 0) hx hb d_Box_placed_10 (by decide) ?_
  refine lv_istore (lv' := [(4, .int 0), (3, .int 0), (2, .ref q), (0, .ref h0), (1, .ref h1)]) hx hb d_Box_placed_11 hl (by decide) rfl (fun ls hl => ?_)
  refine lv_iconst (v := 0) hx hb d_Box_placed_13 (by decide) ?_
  refine lv_istore (lv' := [(5, .int 0), (4, .int 0), (3, .int 0), (2, .ref q), (0, .ref h0), (1, .ref h1)]) hx hb d_Box_placed_14 hl (by decide) rfl (fun ls hl => ?_)
  have key : ∀ (j i arr cap : Nat) (pel : Nat → Nat) (H : Heap) (locs : List Loc) (ls : Array Slot), i + j = n → kE (fun _ => False) s.heap H → kALx g q arr cap i pel H → (0 < cap → s.heap.size ≤ arr) → (∀ k, k < i → s.heap.size ≤ pel k ∧ va_at g.1 kcl (pel k, .inr (9, [.ref (el k), .int (s_pl its f0 f1 f2 f3 k), .int (s_len its f0 f1 f2 f3 k)])) H) → (∀ x ∈ locs, A x.base) → lv_has ls 9 [(5, .int (nI i)), (4, .int (s_bef its f1 f2 i)), (3, .int (s_pl its f0 f1 f2 f3 i)), (2, .ref q), (1, .ref h1), (0, .ref h0)] → W p l e (headSpec (kW y_Box_placed b_Box_placed 9 (.some (.object "java/util/ArrayList"))) { frames := 7, cells := 100, slots := 5000, locals := 171 }).room s m #[Value.ref h0, Value.ref h1] below meth c H locs (1 + 2 * i) (3 + 103 * i) (MQ below (kQc (fun v H1 => ∃ (q arr cap : Nat) (pel : Nat → Nat), v = some (.ref q) ∧ s.heap.size ≤ q ∧ kE (fun _ => False) s.heap H1 ∧ kALx g q arr cap n pel H1 ∧ (0 < cap → s.heap.size ≤ arr) ∧ ∀ k, k < n → s.heap.size ≤ pel k ∧ va_at g.1 kcl (pel k, .inr (9, [.ref (el k), .int (s_pl its f0 f1 f2 f3 k), .int (s_len its f0 f1 f2 f3 k)])) H1)) #[Value.ref h0, Value.ref h1] s 100 5000 A) (F0 m 16 ls []) := by
    intro j
    induction j with
    | zero =>
      intro i arr cap pel H locs ls hij hE al harr hpl hL hl
      have oH := o.ext hE
      have hiH := fun k hk => (hi k hk).ext hE
      have foH := hE.at fo id
      refine lv_iload hx hb d_Box_placed_16 (lv_at hl 0 rfl) ?_
      refine lv_aload_n hx hb d_Box_placed_18 rfl (lv_at hl 5 rfl) ?_
      refine k_pure (r := .int (nI n)) (W.runV (As := []) (rest := [.int (nI i)]) ⟨hx, hb, hml, hown, hts⟩ (c_AL_size l g H h0 n el oH) (cwV 0 hts (kV_good kw_76 kw_361 kw_74 kw_75 kw_4) rfl rfl rfl (by decide +kernel) ⟨Nat.le_of_ble_eq_true rfl, Nat.le_of_ble_eq_true rfl⟩) (k_preV (KK_st g) hKK (oH.recv hK)) rfl rfl hl.1 rfl (lv_room (Nat.le_of_ble_eq_true rfl)) d_Box_placed_19 ⟨(by show _ ≤ 100; omega), (by show _ ≤ 5000; omega)⟩) ?_
      refine lv_icmp_ge (tgt := 95) hx hb d_Box_placed_22 (by decide) (fun c_1 => ?_) (fun c_1 => ?_)
      rotate_left
      · exact absurd c_1 (fun q => q (by rw [show i = n by omega]; exact Int32.le_refl _))
      refine lv_aload_n hx hb d_Box_placed_95 rfl (lv_at hl 3 rfl) ?_
      refine W.widen (k := 100) (n := 5000) (by omega) (by omega) ?_
      have ein : i = n := by omega
      subst ein
      exact W.aret (v := .ref q) hx hb hr (Or.inl ⟨_, rfl⟩) (Or.inr ⟨_, rfl⟩) (fun t ht hW => ⟨_, rfl, q, arr, cap, pel, rfl, hq, by rw [ht]; exact hE, by rw [ht]; exact al, harr, by rw [ht]; exact hpl⟩) hL d_Box_placed_96
    | succ j ih =>
      intro i arr cap pel H locs ls hij hE al harr hpl hL hl
      have oH := o.ext hE
      have hiH := fun k hk => (hi k hk).ext hE
      have foH := hE.at fo id
      refine lv_iload hx hb d_Box_placed_16 (lv_at hl 0 rfl) ?_
      refine lv_aload_n hx hb d_Box_placed_18 rfl (lv_at hl 5 rfl) ?_
      refine k_pure (r := .int (nI n)) (W.runV (As := []) (rest := [.int (nI i)]) ⟨hx, hb, hml, hown, hts⟩ (c_AL_size l g H h0 n el oH) (cwV 0 hts (kV_good kw_76 kw_361 kw_74 kw_75 kw_4) rfl rfl rfl (by decide +kernel) ⟨Nat.le_of_ble_eq_true rfl, Nat.le_of_ble_eq_true rfl⟩) (k_preV (KK_st g) hKK (oH.recv hK)) rfl rfl hl.1 rfl (lv_room (Nat.le_of_ble_eq_true rfl)) d_Box_placed_19 ⟨(by show _ ≤ 100; omega), (by show _ ≤ 5000; omega)⟩) ?_
      refine lv_icmp_ge (tgt := 95) hx hb d_Box_placed_22 (by decide) (fun c_2 => ?_) (fun c_2 => ?_)
      · exact absurd c_2 (nI_ge (by omega) (by omega))
      refine lv_aload_n hx hb d_Box_placed_25 rfl (lv_at hl 5 rfl) ?_
      refine lv_iload hx hb d_Box_placed_26 (lv_at hl 0 rfl) ?_
      refine k_pure (r := .ref (el i)) (W.runV (As := [.int (nI i)]) (rest := []) ⟨hx, hb, hml, hown, hts⟩ (c_AL_get l g H h0 n el i (by omega) oH) (cwV 1 hts (kV_good kw_207 kw_362 kw_205 kw_206 kw_4) rfl rfl rfl (by decide +kernel) ⟨Nat.le_of_ble_eq_true rfl, Nat.le_of_ble_eq_true rfl⟩) (k_preV (KK_st g) hKK (oH.recv hK)) rfl rfl hl.1 rfl (lv_room (Nat.le_of_ble_eq_true rfl)) d_Box_placed_28 ⟨(by show _ ≤ 100; omega), (by show _ ≤ 5000; omega)⟩) ?_
      refine v_cast hx hb hown hts hKK kw_363 (hiH i (by omega)) d_Box_placed_31 ?_
      refine lv_astore (lv' := [(6, .ref (el i)), (5, .int (nI i)), (4, .int (s_bef its f1 f2 i)), (3, .int (s_pl its f0 f1 f2 f3 i)), (2, .ref q), (1, .ref h1), (0, .ref h0)]) hx hb d_Box_placed_34 hl (by decide) rfl (fun ls hl => ?_)
      refine lv_iload hx hb d_Box_placed_36 (lv_at hl 2 rfl) ?_
      refine lv_aload_n hx hb d_Box_placed_38 rfl (lv_at hl 5 rfl) ?_
      refine lv_aload hx hb d_Box_placed_39 (lv_at hl 0 rfl) ?_
      refine k_pure (r := .int (t_giv (its i) f1 f2)) (W.runV (As := [.ref (el i)]) (rest := [.int (s_bef its f1 f2 i)]) ⟨hx, hb, hml, hown, hts⟩ (c_Fit_givingOf l g H I h1 (el i) (its i) f0 f1 f2 f3 foH (hiH i (by omega))) (cwV 1 hts (kV_good kw_418 kw_415 kw_416 kw_417 kw_7) rfl rfl rfl (by decide +kernel) ⟨Nat.le_of_ble_eq_true rfl, Nat.le_of_ble_eq_true rfl⟩) (k_preV (KK_st g) hKK (va_recv hK (k_one foH) (ci := 3) (q0 := 0) rfl rfl)) rfl rfl hl.1 rfl (lv_room (Nat.le_of_ble_eq_true rfl)) d_Box_placed_41 ⟨(by show _ ≤ 100; omega), (by show _ ≤ 5000; omega)⟩) ?_
      refine lv_iadd hx hb d_Box_placed_44 ?_
      refine W.eq (g2 := F0 m 45 ls [.int (s_bef its f1 f2 (i + 1))]) rfl ?_
      refine lv_istore (lv' := [(7, .int (s_bef its f1 f2 (i + 1))), (6, .ref (el i)), (5, .int (nI i)), (4, .int (s_bef its f1 f2 i)), (3, .int (s_pl its f0 f1 f2 f3 i)), (2, .ref q), (1, .ref h1), (0, .ref h0)]) hx hb d_Box_placed_45 hl (by decide) rfl (fun ls hl => ?_)
      refine lv_aload hx hb d_Box_placed_47 (lv_at hl 1 rfl) ?_
      refine v_own hx hb hown hts hKK kw_234 (hiH i (by omega)) d_Box_placed_49 ?_
      refine lv_aload_n hx hb d_Box_placed_52 rfl (lv_at hl 6 rfl) ?_
      refine lv_iload hx hb d_Box_placed_53 (lv_at hl 3 rfl) ?_
      refine lv_iload hx hb d_Box_placed_55 (lv_at hl 0 rfl) ?_
      refine k_pure (r := .int (f_Fit_change f0 f1 f2 f3 (s_bef its f1 f2 i) (s_bef its f1 f2 (i + 1)))) (W.runV (As := [.int (s_bef its f1 f2 i), .int (s_bef its f1 f2 (i + 1))]) (rest := [.int (its i 1)]) ⟨hx, hb, hml, hown, hts⟩ (c_Fit_change l g H h1 f0 f1 f2 f3 (s_bef its f1 f2 i) (s_bef its f1 f2 (i + 1)) foH) (cwV 2 hts (kV_good kw_422 kw_419 kw_420 kw_421 kw_7) rfl rfl rfl (by decide +kernel) ⟨Nat.le_of_ble_eq_true rfl, Nat.le_of_ble_eq_true rfl⟩) (k_preV (KK_st g) hKK (va_recv hK (k_one foH) (ci := 3) (q0 := 0) rfl rfl)) rfl rfl hl.1 rfl (lv_room (Nat.le_of_ble_eq_true rfl)) d_Box_placed_57 ⟨(by show _ ≤ 100; omega), (by show _ ≤ 5000; omega)⟩) ?_
      refine lv_iadd hx hb d_Box_placed_60 ?_
      refine W.eq (g2 := F0 m 61 ls [.int (s_len its f0 f1 f2 f3 i)]) rfl ?_
      refine lv_istore (lv' := [(8, .int (s_len its f0 f1 f2 f3 i)), (7, .int (s_bef its f1 f2 (i + 1))), (6, .ref (el i)), (5, .int (nI i)), (4, .int (s_bef its f1 f2 i)), (3, .int (s_pl its f0 f1 f2 f3 i)), (2, .ref q), (1, .ref h1), (0, .ref h0)]) hx hb d_Box_placed_61 hl (by decide) rfl (fun ls hl => ?_)
      refine lv_aload_n hx hb d_Box_placed_63 rfl (lv_at hl 6 rfl) ?_
      refine k_new (D := g.1) (ci := 9) (fs := [.null, .int 0, .int 0]) (C := "BoxGlue$Placed") (T := kT_Placed) (N := 3) hx hb hts ki_Placed kt_Placed ko_Placed hown (hts _ kw_432) (hts _ kw_433) (hts _ kw_20) hK rfl (fun j hj => by rcases (show j = 0 ∨ j = 1 ∨ j = 2 by omega) with rfl | rfl | rfl <;> rfl) (by show _ ≤ 100; omega) (by show _ ≤ 5000; omega) d_Box_placed_64 (fun pq H1 e_pq p1 hN => ?_)
      refine lv_dup hx hb d_Box_placed_67 rfl ?_
      refine lv_aload hx hb d_Box_placed_68 (lv_at hl 2 rfl) ?_
      refine lv_iload_n hx hb d_Box_placed_70 rfl (lv_at hl 5 rfl) ?_
      refine lv_iload hx hb d_Box_placed_71 (lv_at hl 0 rfl) ?_
      refine k_call (A := A) (W.runI (As := [.ref (el i), .int (s_pl its f0 f1 f2 f3 i), .int (s_len its f0 f1 f2 f3 i)]) (rest := [.ref pq, .ref q]) ⟨hx, hb, hml, hown, hts⟩ (c_Placed_init l g H1 pq (el i) (s_pl its f0 f1 f2 f3 i) (s_len its f0 f1 f2 f3 i) p1) (cwI 3 hts (kW_good kw_436) rfl rfl rfl (hts _ kw_20) (hts _ kw_434) (hts _ kw_435) rfl (by decide +kernel) ⟨Nat.le_of_ble_eq_true rfl, Nat.le_of_ble_eq_true rfl⟩) (k_pre (KK_st g) hKK) rfl rfl hl.1 rfl (lv_room (Nat.le_of_ble_eq_true rfl)) d_Box_placed_73 ⟨by show _ ≤ 100; omega, by show _ ≤ 5000; omega⟩) hL (fun z h => by rw [← hAe]; rcases h with h | h; rw [h, e_pq]; exact hE.1; exact Nat.le_trans (Nat.le_trans hE.1 hN.1) h) (fun v H2 locs hv hL => ?_)
      obtain ⟨rfl, hE2, o2⟩ := hv
      have hF : kE (fun _ => False) H H2 := hN.tr hE2 (fun z hz h => by omega)
      have al2 := al.ext hF id (fun _ => id)
      have hE02 : kE (fun _ => False) s.heap H2 := hE.tr hF (fun _ _ h => h)
      refine k_call (A := A) (W.runV (As := [.ref pq]) (rest := []) ⟨hx, hb, hml, hown, hts⟩ (c_AL_add l g H2 q arr cap i pq pel (hB.tr hE02 (fun _ _ h => h)) al2 (Nat.le_trans hB.1 hq) (by omega) (fun k hk => ⟨9, _, hF.at (hpl k hk).2 id, by omega⟩) ⟨9, _, o2, by omega⟩) (cwV 1 hts (kV_good kw_135 kw_449 kw_133 kw_134 kw_4) rfl rfl rfl (by decide +kernel) ⟨Nat.le_of_ble_eq_true rfl, Nat.le_of_ble_eq_true rfl⟩) (k_preV (KK_st g) hKK (kAL.recv ⟨_, _, al2⟩ hK)) rfl rfl hl.1 rfl (lv_room (Nat.le_of_ble_eq_true rfl)) d_Box_placed_76 ⟨by show _ ≤ 100; omega, by show _ ≤ 5000; omega⟩) hL (fun z h => by rw [← hAe]; rcases h with h | h | h; rw [h]; exact hq; rw [h.1]; exact harr h.2; exact Nat.le_trans hE02.1 h) (fun v H3 locs hv hL => ?_)
      obtain ⟨rfl, arr2, cap2, hE3, h4, al3⟩ := hv
      have hE03 : kE (fun _ => False) s.heap H3 := hE02.tr hE3 (fun z hz h => by rcases h with h | h; omega; have h5 := harr h.2; omega)
      have harr2 : 0 < cap2 → s.heap.size ≤ arr2 := by
        intro h
        rcases h4 with ⟨e1, e2⟩ | h4
        · rw [e1]; exact harr (by omega)
        · exact Nat.le_trans hE02.1 h4
      have hpl3 : ∀ k, k < i + 1 → s.heap.size ≤ va_up pel i pq k ∧ va_at g.1 kcl (va_up pel i pq k, .inr (9, [.ref (el k), .int (s_pl its f0 f1 f2 f3 k), .int (s_len its f0 f1 f2 f3 k)])) H3 := by
        intro k hk
        by_cases e : k = i
        · subst e
          rw [va_up_self]
          exact ⟨by rw [e_pq]; exact hE.1, hE3.at o2 (al2.apart hK ⟨9, _, o2, by omega⟩)⟩
        · rw [va_up_ne _ _ e]
          have h6 := hpl k (by omega)
          exact ⟨h6.1, hE3.at (hF.at h6.2 id) (al2.apart hK ⟨9, _, hF.at h6.2 id, by omega⟩)⟩
      refine lv_pop hx hb d_Box_placed_79 rfl ?_
      refine lv_iload_n hx hb d_Box_placed_80 rfl (lv_at hl 5 rfl) ?_
      refine lv_iload hx hb d_Box_placed_81 (lv_at hl 0 rfl) ?_
      refine lv_iadd hx hb d_Box_placed_83 ?_
      refine W.eq (g2 := F0 m 84 ls [.int (s_pl its f0 f1 f2 f3 (i + 1))]) rfl ?_
      refine lv_istore_n (lv' := [(3, .int (s_pl its f0 f1 f2 f3 (i + 1))), (8, .int (s_len its f0 f1 f2 f3 i)), (7, .int (s_bef its f1 f2 (i + 1))), (6, .ref (el i)), (5, .int (nI i)), (4, .int (s_bef its f1 f2 i)), (2, .ref q), (1, .ref h1), (0, .ref h0)]) hx hb d_Box_placed_84 rfl hl (by decide) rfl (fun ls hl => ?_)
      refine lv_iload hx hb d_Box_placed_85 (lv_at hl 2 rfl) ?_
      refine lv_istore (lv' := [(4, .int (s_bef its f1 f2 (i + 1))), (3, .int (s_pl its f0 f1 f2 f3 (i + 1))), (8, .int (s_len its f0 f1 f2 f3 i)), (7, .int (s_bef its f1 f2 (i + 1))), (6, .ref (el i)), (5, .int (nI i)), (2, .ref q), (1, .ref h1), (0, .ref h0)]) hx hb d_Box_placed_87 hl (by decide) rfl (fun ls hl => ?_)
      refine lv_iinc (v := nI (i + 1)) (lv' := [(5, .int (nI (i + 1))), (4, .int (s_bef its f1 f2 (i + 1))), (3, .int (s_pl its f0 f1 f2 f3 (i + 1))), (8, .int (s_len its f0 f1 f2 f3 i)), (7, .int (s_bef its f1 f2 (i + 1))), (6, .ref (el i)), (2, .ref q), (1, .ref h1), (0, .ref h0)]) hx hb d_Box_placed_89 hl (k := 5) rfl (nI_1 i) (by decide) rfl (fun ls hl => ?_)
      refine lv_goto (tgt := 16) hx hb d_Box_placed_92 (by decide) ?_
      refine W.widen (k := 1 + 2 * (i + 1)) (n := 3 + 103 * (i + 1)) (by omega) (by omega) ?_
      exact ih (i + 1) arr2 cap2 (va_up pel i pq) H3 locs ls (by omega) hE03 al3 harr2 hpl3 hL (lv_sub hl [0, 1, 2, 6, 7, 8] rfl)
  exact key n 0 g.2.2.2.1 0 (fun _ => 0) H locs ls (by omega) hE al (fun h => absurd h (by omega)) (fun k hk => absurd hk (by omega)) hL (lv_sub hl [0, 1, 2, 3, 5, 4] rfl)
def m_h (its : Nat → Nat → Int32) : Nat → Int32
  | 0 => 0
  | k + 1 => if m_h its k < i_height (its k) 0 then i_height (its k) 0 else m_h its k
def m_d (its : Nat → Nat → Int32) : Nat → Int32
  | 0 => 0
  | k + 1 => if m_d its k < i_depth (its k) 0 then i_depth (its k) 0 else m_d its k
set_option maxHeartbeats 4000000 in
set_option maxRecDepth 100000 in
theorem c_Box_packed (l : Launch) (g : KGt) (H0 : Heap) (I : Nat → Prop) (h0 n : Nat) (el : Nat → Nat) (its : Nat → Nat → Int32) (len : Int32) (hB : kB g H0) (hn : n ≤ 40) (o : kAL g h0 n el H0) (hi : ∀ i, i < n → kItem g I (el i) (its i) H0) : Met l y_Box_packed (kW y_Box_packed b_Box_packed 5 (.some (.object "BoxGlue$Box"))) ({ frames := 8, cells := 102, slots := 5009, locals := 199 }) (kPc [.ref h0, .int len] (KK g) H0) (kQc (fun v H1 => ∃ (bq fq cq arr cap : Nat) (pel : Nat → Nat), v = some (.ref bq) ∧ H0.size ≤ bq ∧ H0.size ≤ fq ∧ H0.size ≤ cq ∧ (0 < cap → H0.size ≤ arr) ∧ kE (fun _ => False) H0 H1 ∧ va_at g.1 kcl (bq, .inr (2, [.int len, .int (m_h its n), .int (m_d its n), .ref cq, .ref fq])) H1 ∧ va_at g.1 kcl (fq, .inr (3, [.int (l_len its n), .int (t_ord its n (len - (l_len its n))), .int (len - (l_len its n)), .int (t_sum its n (len - (l_len its n)))])) H1 ∧ kALx g cq arr cap n pel H1 ∧ ∀ k, k < n → H0.size ≤ pel k ∧ va_at g.1 kcl (pel k, .inr (9, [.ref (el k), .int (s_pl its (l_len its n) (t_ord its n (len - (l_len its n))) (len - (l_len its n)) (t_sum its n (len - (l_len its n))) k), .int (s_len its (l_len its n) (t_ord its n (len - (l_len its n))) (len - (l_len its n)) (t_sum its n (len - (l_len its n))) k)])) H1)) 102 5009 (fun q : Nat => H0.size ≤ q) := by
  refine Met.ofW (cc := b_Box_packed) (maxL := 5) (ret := (.some (.object "BoxGlue$Box"))) (by decide) rfl ?_
  intro p e s m args below meth c s₁ B hml hv
  obtain ⟨rfl, hH, hKK⟩ := hv
  have hx := B.exec
  have hb := B.bytes
  have hr := B.returns
  have hts := kW_ts (atoms_spec (ws := kW y_Box_packed b_Box_packed 5 (.some (.object "BoxGlue$Box"))) B.pre)
  have hown : s.vm.findClass "BoxGlue$Box" = some m.cls := findClass_of_methodNamed B.named
  have hlocks := B.notSynchronized
  have hK := hKK.1
  subst hH
  have hl := lv_entry ([.ref h0, .int len]) (n := 5) (Nat.le_of_ble_eq_true rfl)
  rw [lg_entry_eq]
  generalize (lg_sl ([.ref h0, .int len]) ++ List.replicate (5 - (lg_sl ([.ref h0, .int len])).length) Slot.unset).toArray = ls at hl ⊢
  have hl : lv_has ls 5 [(0, .ref h0), (1, .int len)] := hl
  generalize hAe : (fun q : Nat => s.heap.size ≤ q) = A
  have hA : ∀ q : Nat, s.heap.size ≤ q → A q := fun q h => by rw [← hAe]; exact h
  refine lv_iconst (v := 0) hx hb d_Box_packed_0 (by decide) ?_
  refine lv_istore_n (lv' := [(2, .int 0), (0, .ref h0), (1, .int len)]) hx hb d_Box_packed_1 rfl hl (by decide) rfl (fun ls hl => ?_)
  refine lv_iconst (v := 0) hx hb d_Box_packed_2 (by decide) ?_
  refine lv_istore_n (lv' := [(3, .int 0), (2, .int 0), (0, .ref h0), (1, .int len)]) hx hb d_Box_packed_3 rfl hl (by decide) rfl (fun ls hl => ?_)
  refine lv_iconst (v := 0) hx hb d_Box_packed_4 (by decide) ?_
  refine lv_istore (lv' := [(4, .int 0), (3, .int 0), (2, .int 0), (0, .ref h0), (1, .int len)]) hx hb d_Box_packed_5 hl (by decide) rfl (fun ls hl => ?_)
  have key : ∀ (j i : Nat) (ls : Array Slot), i + j = n → lv_has ls 5 [(4, .int (nI i)), (3, .int (m_d its i)), (2, .int (m_h its i)), (1, .int len), (0, .ref h0)] → W p l e (headSpec (kW y_Box_packed b_Box_packed 5 (.some (.object "BoxGlue$Box"))) { frames := 8, cells := 102, slots := 5009, locals := 199 }).room s m #[Value.ref h0, Value.int len] below meth c s.heap [] 0 0 (MQ below (kQc (fun v H1 => ∃ (bq fq cq arr cap : Nat) (pel : Nat → Nat), v = some (.ref bq) ∧ s.heap.size ≤ bq ∧ s.heap.size ≤ fq ∧ s.heap.size ≤ cq ∧ (0 < cap → s.heap.size ≤ arr) ∧ kE (fun _ => False) s.heap H1 ∧ va_at g.1 kcl (bq, .inr (2, [.int len, .int (m_h its n), .int (m_d its n), .ref cq, .ref fq])) H1 ∧ va_at g.1 kcl (fq, .inr (3, [.int (l_len its n), .int (t_ord its n (len - (l_len its n))), .int (len - (l_len its n)), .int (t_sum its n (len - (l_len its n)))])) H1 ∧ kALx g cq arr cap n pel H1 ∧ ∀ k, k < n → s.heap.size ≤ pel k ∧ va_at g.1 kcl (pel k, .inr (9, [.ref (el k), .int (s_pl its (l_len its n) (t_ord its n (len - (l_len its n))) (len - (l_len its n)) (t_sum its n (len - (l_len its n))) k), .int (s_len its (l_len its n) (t_ord its n (len - (l_len its n))) (len - (l_len its n)) (t_sum its n (len - (l_len its n))) k)])) H1)) #[Value.ref h0, Value.int len] s 102 5009 A) (F0 m 7 ls []) := by
    intro j
    induction j with
    | zero =>
      intro i ls hij hl
      have ein : i = n := by omega
      rw [ein] at hl
      refine lv_iload hx hb d_Box_packed_7 (lv_at hl 0 rfl) ?_
      refine lv_aload_n hx hb d_Box_packed_9 rfl (lv_at hl 4 rfl) ?_
      refine k_pure (r := .int (nI n)) (W.runV (As := []) (rest := [.int (nI n)]) ⟨hx, hb, hml, hown, hts⟩ (c_AL_size l g s.heap h0 n el o) (cwV 0 hts (kV_good kw_76 kw_361 kw_74 kw_75 kw_4) rfl rfl rfl (by decide +kernel) ⟨Nat.le_of_ble_eq_true rfl, Nat.le_of_ble_eq_true rfl⟩) (k_preV (KK_st g) hKK (o.recv hK)) rfl rfl hl.1 rfl (lv_room (Nat.le_of_ble_eq_true rfl)) d_Box_packed_10 ⟨Nat.zero_le _, Nat.zero_le _⟩) ?_
      refine lv_icmp_ge (tgt := 58) hx hb d_Box_packed_13 (by decide) (fun c_1 => ?_) (fun c_1 => ?_)
      rotate_left
      · exact absurd c_1 (fun q => q (Int32.le_refl _))
      refine lv_aload_n hx hb d_Box_packed_58 rfl (lv_at hl 4 rfl) ?_
      refine lv_iload_n hx hb d_Box_packed_59 rfl (lv_at hl 3 rfl) ?_
      refine k_call (A := A) (W.runS (As := [.ref h0, .int len]) (rest := []) ⟨hx, hb, hml, hown, hts⟩ (c_Fit_of l g s.heap I h0 n el its o hi len) (va_cwS 2 hts (kS_good kw_392 kw_390 kw_391 kw_7) rfl rfl rfl (by decide +kernel) ⟨Nat.le_of_ble_eq_true rfl, Nat.le_of_ble_eq_true rfl⟩) (k_pre (KK_st g) hKK) rfl rfl hl.1 rfl (lv_room (Nat.le_of_ble_eq_true rfl)) d_Box_packed_60 ⟨by show _ ≤ 102; omega, by show _ ≤ 5009; omega⟩) (fun _ h => by cases h) (fun z h => by rw [← hAe]; exact h) (fun v H locs hv hL => ?_)
      obtain ⟨fq, rfl, hfq, hE, fo⟩ := hv
      refine lv_astore (lv' := [(4, .ref fq), (3, .int (m_d its n)), (2, .int (m_h its n)), (1, .int len), (0, .ref h0)]) hx hb d_Box_packed_63 hl (by decide) rfl (fun ls hl => ?_)
      refine k_new (D := g.1) (ci := 2) (fs := [.int 0, .int 0, .int 0, .null, .null]) (C := "BoxGlue$Box") (T := kT_Box) (N := 5) hx hb hts ki_Box kt_Box ko_Box hown (hts _ kw_80) (hts _ kw_81) (hts _ kw_6) hK rfl (fun j hj => by rcases (show j = 0 ∨ j = 1 ∨ j = 2 ∨ j = 3 ∨ j = 4 by omega) with rfl | rfl | rfl | rfl | rfl <;> rfl) (by show _ ≤ 102; omega) (by show _ ≤ 5009; omega) d_Box_packed_65 (fun bq H1 e_bq p1 hN => ?_)
      have hbq : s.heap.size ≤ bq := by rw [e_bq]; exact hE.1
      have hE1 : kE (fun _ => False) s.heap H1 := hE.tr hN (fun _ _ h => h)
      have hb1 : bq < H1.size := p1.lt
      refine lv_dup hx hb d_Box_packed_68 rfl ?_
      refine lv_iload_n hx hb d_Box_packed_69 rfl (lv_at hl 3 rfl) ?_
      refine lv_iload_n hx hb d_Box_packed_70 rfl (lv_at hl 2 rfl) ?_
      refine lv_iload_n hx hb d_Box_packed_71 rfl (lv_at hl 1 rfl) ?_
      refine lv_aload hx hb d_Box_packed_72 (lv_at hl 0 rfl) ?_
      refine lv_aload_n hx hb d_Box_packed_74 rfl (lv_at hl 4 rfl) ?_
      refine lv_aload hx hb d_Box_packed_75 (lv_at hl 0 rfl) ?_
      refine k_call (A := A) (W.runS (As := [.ref h0, .ref fq]) (rest := [.ref fq, .int (m_d its n), .int (m_h its n), .int len, .ref bq, .ref bq]) ⟨hx, hb, hml, hown, hts⟩ (c_Box_placed l g H1 I h0 fq n el its (l_len its n) (t_ord its n (len - (l_len its n))) (len - (l_len its n)) (t_sum its n (len - (l_len its n))) (hB.tr hE1 (fun _ _ h => h)) hn (o.ext hE1) (fun i hn => (hi i hn).ext hE1) (hN.at fo id)) (va_cwS 2 hts (kS_good kw_414 kw_412 kw_413 kw_6) rfl rfl rfl (by decide +kernel) ⟨Nat.le_of_ble_eq_true rfl, Nat.le_of_ble_eq_true rfl⟩) (k_pre (KK_st g) hKK) rfl rfl hl.1 rfl (lv_room (Nat.le_of_ble_eq_true rfl)) d_Box_packed_77 ⟨by show _ ≤ 102; omega, by show _ ≤ 5009; omega⟩) hL (fun z h => by rw [← hAe]; exact Nat.le_trans hE1.1 h) (fun v H2 locs hv hL => ?_)
      obtain ⟨cq, arr, cap, pel, rfl, hcq, hE2, al, harr, hpl⟩ := hv
      refine k_call (A := A) (W.runI (As := [.int len, .int (m_h its n), .int (m_d its n), .ref fq, .ref cq]) (rest := [.ref bq]) ⟨hx, hb, hml, hown, hts⟩ (c_Box_init l g H2 bq len (m_h its n) (m_d its n) fq cq (hE2.at p1 id)) (cwI 5 hts (kW_good kw_107) rfl rfl rfl (hts _ kw_6) (hts _ kw_105) (hts _ kw_106) rfl (by decide +kernel) ⟨Nat.le_of_ble_eq_true rfl, Nat.le_of_ble_eq_true rfl⟩) (k_pre (KK_st g) hKK) rfl rfl hl.1 rfl (lv_room (Nat.le_of_ble_eq_true rfl)) d_Box_packed_80 ⟨by show _ ≤ 102; omega, by show _ ≤ 5009; omega⟩) hL (fun z h => by rw [← hAe]; rcases h with h | h; rw [h]; exact hbq; exact Nat.le_trans (Nat.le_trans hE1.1 hE2.1) h) (fun v H3 locs hv hL => ?_)
      obtain ⟨rfl, hE3, bo⟩ := hv
      have hE03 : kE (fun _ => False) s.heap H3 := (hE1.tr hE2 (fun _ _ h => h)).tr hE3 (fun z hz h => by omega)
      have hfl : fq < H.size := fo.lt
      have fo3 := hE3.at (hE2.at (hN.at fo id) id) (by show ¬ fq = bq; omega)
      have al3 := al.ext hE3 (by omega) (fun h => by have h5 := harr h; omega)
      have hpl3 := fun k hk => (⟨Nat.le_trans hE1.1 (hpl k hk).1, hE3.at (hpl k hk).2 (by have h5 := (hpl k hk).1; show ¬ pel k = bq; omega)⟩ : s.heap.size ≤ pel k ∧ va_at g.1 kcl (pel k, .inr (9, [.ref (el k), .int (s_pl its (l_len its n) (t_ord its n (len - (l_len its n))) (len - (l_len its n)) (t_sum its n (len - (l_len its n))) k), .int (s_len its (l_len its n) (t_ord its n (len - (l_len its n))) (len - (l_len its n)) (t_sum its n (len - (l_len its n))) k)])) H3)
      exact W.aret (v := .ref bq) hx hb hr (Or.inl ⟨_, rfl⟩) (Or.inr ⟨_, rfl⟩) (fun t ht hW => ⟨_, rfl, bq, fq, cq, arr, cap, pel, rfl, hbq, hfq, Nat.le_trans hE1.1 hcq, fun h => Nat.le_trans hE1.1 (harr h), by rw [ht]; exact hE03, by rw [ht]; exact bo, by rw [ht]; exact fo3, by rw [ht]; exact al3, by rw [ht]; exact hpl3⟩) hL d_Box_packed_83
    | succ j ih =>
      intro i ls hij hl
      refine lv_iload hx hb d_Box_packed_7 (lv_at hl 0 rfl) ?_
      refine lv_aload_n hx hb d_Box_packed_9 rfl (lv_at hl 4 rfl) ?_
      refine k_pure (r := .int (nI n)) (W.runV (As := []) (rest := [.int (nI i)]) ⟨hx, hb, hml, hown, hts⟩ (c_AL_size l g s.heap h0 n el o) (cwV 0 hts (kV_good kw_76 kw_361 kw_74 kw_75 kw_4) rfl rfl rfl (by decide +kernel) ⟨Nat.le_of_ble_eq_true rfl, Nat.le_of_ble_eq_true rfl⟩) (k_preV (KK_st g) hKK (o.recv hK)) rfl rfl hl.1 rfl (lv_room (Nat.le_of_ble_eq_true rfl)) d_Box_packed_10 ⟨Nat.zero_le _, Nat.zero_le _⟩) ?_
      refine lv_icmp_ge (tgt := 58) hx hb d_Box_packed_13 (by decide) (fun c_2 => ?_) (fun c_2 => ?_)
      · exact absurd c_2 (nI_ge (by omega) (by omega))
      refine lv_iload_n hx hb d_Box_packed_16 rfl (lv_at hl 2 rfl) ?_
      refine lv_aload_n hx hb d_Box_packed_17 rfl (lv_at hl 4 rfl) ?_
      refine lv_iload hx hb d_Box_packed_18 (lv_at hl 0 rfl) ?_
      refine k_pure (r := .ref (el i)) (W.runV (As := [.int (nI i)]) (rest := [.int (m_h its i)]) ⟨hx, hb, hml, hown, hts⟩ (c_AL_get l g s.heap h0 n el i (by omega) o) (cwV 1 hts (kV_good kw_207 kw_362 kw_205 kw_206 kw_4) rfl rfl rfl (by decide +kernel) ⟨Nat.le_of_ble_eq_true rfl, Nat.le_of_ble_eq_true rfl⟩) (k_preV (KK_st g) hKK (o.recv hK)) rfl rfl hl.1 rfl (lv_room (Nat.le_of_ble_eq_true rfl)) d_Box_packed_20 ⟨Nat.zero_le _, Nat.zero_le _⟩) ?_
      refine v_cast hx hb hown hts hKK kw_363 (hi i (by omega)) d_Box_packed_23 ?_
      refine lv_iconst (v := 0) hx hb d_Box_packed_26 (by decide) ?_
      refine v_heightWhere hx hb hml hown hts hKK kw_364 (hi i (by omega)) hl.1 (Nat.le_of_ble_eq_true rfl) (Nat.le_of_ble_eq_true rfl) (Nat.le_of_ble_eq_true rfl) (Nat.zero_le _) (Nat.zero_le _) d_Box_packed_27 ?_
      refine va_mmax (x := (m_h its i)) (y := (i_height (its i) 0)) hx hb (hml.trans hl.1.symm) hown (hts _ kw_377) (hts _ kw_152) (hts _ kw_9) (hts _ kw_153) (Nat.le_of_ble_eq_true rfl) (Nat.le_of_ble_eq_true rfl) (Nat.zero_le _) (Nat.zero_le _) d_Box_packed_30 ?_
      refine W.eq (g2 := F0 m 33 ls [.int (m_h its (i + 1))]) rfl ?_
      refine lv_istore_n (lv' := [(2, .int (m_h its (i + 1))), (4, .int (nI i)), (3, .int (m_d its i)), (1, .int len), (0, .ref h0)]) hx hb d_Box_packed_33 rfl hl (by decide) rfl (fun ls hl => ?_)
      refine lv_iload_n hx hb d_Box_packed_34 rfl (lv_at hl 2 rfl) ?_
      refine lv_aload_n hx hb d_Box_packed_35 rfl (lv_at hl 4 rfl) ?_
      refine lv_iload hx hb d_Box_packed_36 (lv_at hl 1 rfl) ?_
      refine k_pure (r := .ref (el i)) (W.runV (As := [.int (nI i)]) (rest := [.int (m_d its i)]) ⟨hx, hb, hml, hown, hts⟩ (c_AL_get l g s.heap h0 n el i (by omega) o) (cwV 1 hts (kV_good kw_207 kw_362 kw_205 kw_206 kw_4) rfl rfl rfl (by decide +kernel) ⟨Nat.le_of_ble_eq_true rfl, Nat.le_of_ble_eq_true rfl⟩) (k_preV (KK_st g) hKK (o.recv hK)) rfl rfl hl.1 rfl (lv_room (Nat.le_of_ble_eq_true rfl)) d_Box_packed_38 ⟨Nat.zero_le _, Nat.zero_le _⟩) ?_
      refine v_cast hx hb hown hts hKK kw_363 (hi i (by omega)) d_Box_packed_41 ?_
      refine lv_iconst (v := 0) hx hb d_Box_packed_44 (by decide) ?_
      refine v_depthWhere hx hb hml hown hts hKK kw_378 (hi i (by omega)) hl.1 (Nat.le_of_ble_eq_true rfl) (Nat.le_of_ble_eq_true rfl) (Nat.le_of_ble_eq_true rfl) (Nat.zero_le _) (Nat.zero_le _) d_Box_packed_45 ?_
      refine va_mmax (x := (m_d its i)) (y := (i_depth (its i) 0)) hx hb (hml.trans hl.1.symm) hown (hts _ kw_377) (hts _ kw_152) (hts _ kw_9) (hts _ kw_153) (Nat.le_of_ble_eq_true rfl) (Nat.le_of_ble_eq_true rfl) (Nat.zero_le _) (Nat.zero_le _) d_Box_packed_48 ?_
      refine W.eq (g2 := F0 m 51 ls [.int (m_d its (i + 1))]) rfl ?_
      refine lv_istore_n (lv' := [(3, .int (m_d its (i + 1))), (2, .int (m_h its (i + 1))), (4, .int (nI i)), (1, .int len), (0, .ref h0)]) hx hb d_Box_packed_51 rfl hl (by decide) rfl (fun ls hl => ?_)
      refine lv_iinc (v := nI (i + 1)) (lv' := [(4, .int (nI (i + 1))), (3, .int (m_d its (i + 1))), (2, .int (m_h its (i + 1))), (1, .int len), (0, .ref h0)]) hx hb d_Box_packed_52 hl (k := 2) rfl (nI_1 i) (by decide) rfl (fun ls hl => ?_)
      refine lv_goto (tgt := 7) hx hb d_Box_packed_55 (by decide) ?_
      exact ih (i + 1) ls (by omega) (lv_sub (l := [(4, .int (nI (i + 1))), (3, .int (m_d its (i + 1))), (2, .int (m_h its (i + 1))), (1, .int len), (0, .ref h0)]) hl [0, 1, 2, 3, 4] rfl)
  exact key n 0 ls (by omega) (lv_sub hl [0, 1, 2, 4, 3] rfl)

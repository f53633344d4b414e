/-! ArrayList: grow, add, set, remove, clear -/
/-- objects of two classes are two -/
theorem k_obob {g : KGt} {a ci cj : Nat} {fs gs : List Value} {H : Heap} {s : State} {P : Prop} (hK : va_K g.1 kcl (kTy g) s) (h : va_at g.1 kcl (a, .inr (ci, fs)) H) (h2 : va_at g.1 kcl (a, .inr (cj, gs)) H) (hne : (kcl[ci]?.map (·.1)) ≠ (kcl[cj]?.map (·.1))) : P := by
  obtain ⟨r, h1, cell, q1, q2, q3, q4⟩ := h
  obtain ⟨r', h1', cell', q1', q2', q3', q4'⟩ := h2
  obtain ⟨-, hc, -⟩ := hK.1 ci r h1
  obtain ⟨-, hc', -⟩ := hK.1 cj r' h1'
  have e : cell = cell' := Option.some.inj (q1.symm.trans q1')
  subst e
  have e2 : g.1.1 ci = g.1.1 cj := q2.symm.trans q2'
  rw [e2] at hc
  obtain ⟨k1, w1, n1⟩ := Vm.findClass_spec hc
  obtain ⟨k2, w2, n2⟩ := Vm.findClass_spec hc'
  rw [w1] at w2
  have e3 := Option.some.inj w2
  subst e3
  exact absurd (by rw [h1, h1']; exact congrArg some (n1.symm.trans n2)) hne
theorem kObj.ne {g : KGt} {e la : Nat} {fs : List Value} {H : Heap} {s : State} (hK : va_K g.1 kcl (kTy g) s) (h : kObj g e H) (o : va_at g.1 kcl (la, .inr (1, fs)) H) : e ≠ la := by
  obtain ⟨ci, gs, h1, h2⟩ := h
  intro q
  subst q
  refine k_obob hK h1 o ?_
  rcases h2 with rfl | rfl | rfl | rfl | rfl | rfl <;> decide +kernel
theorem k_alne {g : KGt} {la arr cap : Nat} {fs : List Value} {f : Nat → Option Nat} {H : Heap} {s : State} (hK : va_K g.1 kcl (kTy g) s) (o : va_at g.1 kcl (la, .inr (1, fs)) H) (a : va_at g.1 kcl (arr, .inl (g.2.1.1, cap, .inr (.inr (.inr (.inr f))))) H) : la ≠ arr := by
  intro q
  subst q
  exact k_obarr hK o a
theorem kObj.na {g : KGt} {e arr cap : Nat} {f : Nat → Option Nat} {H : Heap} {s : State} (hK : va_K g.1 kcl (kTy g) s) (h : kObj g e H) (a : va_at g.1 kcl (arr, .inl (g.2.1.1, cap, .inr (.inr (.inr (.inr f))))) H) : e ≠ arr := by
  obtain ⟨ci, gs, h1, h2⟩ := h
  intro q
  subst q
  exact k_obarr hK h1 a
set_option maxHeartbeats 4000000 in
set_option maxRecDepth 100000 in
theorem c_AL_grow2 (l : Launch) (g : KGt) (H0 : Heap) (h0 arr cap n : Nat) (el : Nat → Nat) (hB : kB g H0) (o : kALx g h0 arr cap n el H0) (hn : n = cap) (hn2 : n ≤ 60) (he : ∀ i, i < n → kObj g (el i) H0) : Met l y_AL_grow2 (kW y_AL_grow2 b_AL_grow2 4 (.some (.array (.object "java/lang/Object")))) ({ frames := 3, cells := 1, slots := 100, locals := 84 }) (kPc [.ref h0, .int (nI (n + 1))] (KK g) H0) (kQc (fun v H1 => ∃ arr2 cap2 : Nat, v = some (.ref arr2) ∧ H0.size ≤ arr2 ∧ n < cap2 ∧ kE (fun q => q = h0) H0 H1 ∧ kALx g h0 arr2 cap2 n el H1)) 1 100 (fun q : Nat => q = h0 ∨ (q = arr ∧ 0 < cap) ∨ H0.size ≤ q) := by
  refine va_MetF (cc := b_AL_grow2) (maxL := 4) (ret := (.some (.array (.object "java/lang/Object")))) (by decide +kernel) rfl ?_
  intro p e s m args below meth c s₁ B hml hv
  obtain ⟨rfl, hH, hKK⟩ := hv
  have hx := B.exec
  have hb := B.bytes
  have hr := B.returns
  have hts := kW_ts (atoms_spec (ws := kW y_AL_grow2 b_AL_grow2 4 (.some (.array (.object "java/lang/Object")))) B.pre)
  have hown : s.vm.findClass "java/util/ArrayList" = some m.cls := findClass_of_methodNamed B.named
  have hlocks := B.notSynchronized
  have hK := hKK.1
  subst hH
  have hl := lv_entry ([.ref h0, .int (nI (n + 1))]) (n := 4) (Nat.le_of_ble_eq_true rfl)
  rw [lg_entry_eq]
  generalize (lg_sl ([.ref h0, .int (nI (n + 1))]) ++ List.replicate (4 - (lg_sl ([.ref h0, .int (nI (n + 1))])).length) Slot.unset).toArray = ls at hl ⊢
  have hl : lv_has ls 4 [(0, .ref h0), (1, .int (nI (n + 1)))] := hl
  obtain ⟨mo, o0, o1⟩ := o
  rcases o1 with o1 | o1
  · skip
    obtain ⟨rfl, rfl, rfl⟩ := o1
    generalize hAe : (fun q : Nat => q = h0 ∨ (q = g.2.2.2.1 ∧ 0 < 0) ∨ s.heap.size ≤ q) = A
    have hA : ∀ q : Nat, s.heap.size ≤ q → A q := fun q h => by rw [← hAe]; exact Or.inr (Or.inr h)
    have hS : va_S A s.heap s.heap [] := va_S.rf
    have hP : va_P g.1 kcl [(h0, .inr (1, [.ref g.2.2.2.1, .int (nI 0), .int mo]))] s.heap := k_one o0
    have hD : va_D A [(h0, .inr (1, [.ref g.2.2.2.1, .int (nI 0), .int mo]))] := k_D1 (by rw [← hAe]; exact Or.inl rfl)
    refine lv_aload_n hx hb d_AL_grow2_0 rfl (lv_at hl 0 rfl) ?_
    refine va_get (D := g.1) (ci := 1) (v := .ref g.2.2.2.1) (C := "java/util/ArrayList") (T := kT_AL) (N := 3) hx hb hts ki_AL hown hK hP 0 rfl rfl 0 (by decide) (hts _ kw_43) (fun _ h9 => h9) rfl d_AL_grow2_1 ?_
    refine k_alenE hx hb hKK hB d_AL_grow2_4 ?_
    refine lv_istore_n (lv' := [(2, .int (nI 0)), (0, .ref h0), (1, .int (nI (0 + 1)))]) hx hb d_AL_grow2_5 rfl hl (by decide) rfl (fun ls hl => ?_)
    refine lv_iload_n hx hb d_AL_grow2_6 rfl (lv_at hl 0 rfl) ?_
    refine lv_if_gt (tgt := 20) hx hb d_AL_grow2_7 (by decide) (fun c_1 => ?_) (fun c_1 => ?_)
    · exact absurd c_1 (by rw [nI_0]; decide)
    refine lv_aload_n hx hb d_AL_grow2_10 rfl (lv_at hl 1 rfl) ?_
    refine va_get (D := g.1) (ci := 1) (v := .ref g.2.2.2.1) (C := "java/util/ArrayList") (T := kT_AL) (N := 3) hx hb hts ki_AL hown hK hP 0 rfl rfl 0 (by decide) (hts _ kw_43) (fun _ h9 => h9) rfl d_AL_grow2_11 ?_
    refine k_gets hx hb hKK hB hown (hts _ kw_41) d_AL_grow2_14 ?_
    refine lv_acmp_eq (rx := some g.2.2.2.1) (ry := some g.2.2.2.1) (tgt := 45) hx hb d_AL_grow2_17 (by decide) (fun c_2 => ?_) (fun c_2 => absurd rfl c_2)
    refine lv_aload_n hx hb d_AL_grow2_45 rfl (lv_at hl 1 rfl) ?_
    refine lv_bipush (v := 10) hx hb d_AL_grow2_46 (by decide) ?_
    refine lv_iload_n hx hb d_AL_grow2_48 rfl (lv_at hl 2 rfl) ?_
    refine va_mmax (x := 10) (y := (nI (0 + 1))) hx hb (hml.trans hl.1.symm) hown (hts _ kw_188) (hts _ kw_152) (hts _ kw_9) (hts _ kw_153) (Nat.le_of_ble_eq_true rfl) (Nat.le_of_ble_eq_true rfl) (Nat.zero_le _) (Nat.zero_le _) d_AL_grow2_49 ?_
    rw [if_neg (by decide)]
    refine va_newq (D := g.1) (C := "java/lang/Object") (N' := 10) hx hb hown (hts _ kw_189) hKK.2.2.2.1 hK hP hD hS hA (by decide) (by decide) (by omega) (Nat.le_of_ble_eq_true rfl) (by show 0 + _ ≤ 100; omega) d_AL_grow2_52 (fun q cA H hK9 hP hD hS => ?_)
    obtain rfl := k_cA hK hK9
    refine W.widen (k := 1) (n := 100) (by omega) (by omega) ?_
    have hP : va_P g.1 kcl [(h0, .inr (1, [.ref g.2.2.2.1, .int (nI 0), .int mo])), (q, .inl (g.2.1.1, 10, .inr (.inr (.inr (.inr (fun _ => none))))))] H := hP
    have hD : va_D A [(h0, .inr (1, [.ref g.2.2.2.1, .int (nI 0), .int mo])), (q, .inl (g.2.1.1, 10, .inr (.inr (.inr (.inr (fun _ => none))))))] := hD
    have hq : s.heap.size ≤ q := by
      have h9 := hD.2 1 _ rfl
      rw [← hAe] at h9
      rcases h9 with h9 | h9 | h9
      · exact absurd (hD.1 0 1 _ _ rfl rfl h9.symm) (by decide)
      · exact absurd h9.2 (by omega)
      · exact h9
    refine lv_dup_x1 hx hb d_AL_grow2_55 rfl rfl ?_
    refine va_put (D := g.1) (ci := 1) (v := .ref q) (ty := .array (.object "java/lang/Object")) (C := "java/util/ArrayList") (T := kT_AL) (N := 3) hx hb hts ki_AL kt_AL ko_AL kn_AL hown hK hP hD hS 0 rfl rfl 0 (by decide) (hts _ kw_43) (fun _ h9 => h9) rfl (by decide +kernel) rfl rfl (Nat.le_of_ble_eq_true rfl) d_AL_grow2_56 (fun H locs hP hD hS => ?_)
    have hP : va_P g.1 kcl [(h0, .inr (1, [.ref q, .int (nI 0), .int mo])), (q, .inl (g.2.1.1, 10, .inr (.inr (.inr (.inr (fun _ => none))))))] H := hP
    have hD : va_D A [(h0, .inr (1, [.ref q, .int (nI 0), .int mo])), (q, .inl (g.2.1.1, 10, .inr (.inr (.inr (.inr (fun _ => none))))))] := hD
    exact W.aret (v := .ref q) hx hb hr (Or.inr ⟨_, rfl⟩) (Or.inr ⟨_, rfl⟩) (fun t ht hW => ⟨_, rfl, q, 10, rfl, hq, by omega, by rw [ht]; exact (kE.ofS hS).wk (fun q hq h => by rw [← hAe] at h; rcases h with h | h | h; exact h; exact absurd h.2 (by omega); omega), by rw [ht]; exact ⟨mo, k_at0 hP 0 rfl, Or.inr ⟨_, k_at0 hP 1 rfl, by omega, by omega, by omega, (fun i hi => absurd hi (by omega))⟩⟩⟩) hS.2.2 d_AL_grow2_59
  · skip
    obtain ⟨f, a0, h3, h4, h5, h6⟩ := o1
    subst hn
    generalize hAe : (fun q : Nat => q = h0 ∨ (q = arr ∧ 0 < n) ∨ s.heap.size ≤ q) = A
    have hA : ∀ q : Nat, s.heap.size ≤ q → A q := fun q h => by rw [← hAe]; exact Or.inr (Or.inr h)
    have hS : va_S A s.heap s.heap [] := va_S.rf
    have hP : va_P g.1 kcl [(h0, .inr (1, [.ref arr, .int (nI n), .int mo])), (arr, .inl (g.2.1.1, n, .inr (.inr (.inr (.inr f)))))] s.heap := k_two o0 a0
    have hD : va_D A [(h0, .inr (1, [.ref arr, .int (nI n), .int mo])), (arr, .inl (g.2.1.1, n, .inr (.inr (.inr (.inr f)))))] := k_D2 (by rw [← hAe]; exact Or.inl rfl) (by rw [← hAe]; exact Or.inr (Or.inl ⟨rfl, by omega⟩)) (k_alne hK o0 a0)
    refine lv_aload_n hx hb d_AL_grow2_0 rfl (lv_at hl 0 rfl) ?_
    refine va_get (D := g.1) (ci := 1) (v := .ref arr) (C := "java/util/ArrayList") (T := kT_AL) (N := 3) hx hb hts ki_AL hown hK hP 0 rfl rfl 0 (by decide) (hts _ kw_43) (fun _ h9 => h9) rfl d_AL_grow2_1 ?_
    refine va_alen (D := g.1) (v := nI n) (ty := .object "java/lang/Object") hx hb hK hP 1 0 rfl rfl rfl d_AL_grow2_4 ?_
    refine lv_istore_n (lv' := [(2, .int (nI n)), (0, .ref h0), (1, .int (nI (n + 1)))]) hx hb d_AL_grow2_5 rfl hl (by decide) rfl (fun ls hl => ?_)
    refine lv_iload_n hx hb d_AL_grow2_6 rfl (lv_at hl 0 rfl) ?_
    refine lv_if_gt (tgt := 20) hx hb d_AL_grow2_7 (by decide) (fun c_1 => ?_) (fun c_1 => ?_)
    rotate_left
    · exact absurd c_1 (fun q => q (by rw [show (0 : Int32) = nI 0 from nI_0.symm]; exact nI_lt (by omega) (by omega)))
    refine lv_iload_n hx hb d_AL_grow2_20 rfl (lv_at hl 0 rfl) ?_
    refine lv_iload_n hx hb d_AL_grow2_21 rfl (lv_at hl 2 rfl) ?_
    refine lv_iload_n hx hb d_AL_grow2_22 rfl (lv_at hl 0 rfl) ?_
    refine lv_isub hx hb d_AL_grow2_23 ?_
    rw [pk_sub (show n ≤ n + 1 by omega), show n + 1 - n = 1 by omega]
    refine lv_iload_n hx hb d_AL_grow2_24 rfl (lv_at hl 0 rfl) ?_
    refine lv_iconst (v := 1) hx hb d_AL_grow2_25 (by decide) ?_
    refine lv_ishr hx hb d_AL_grow2_26 ?_
    rw [show nI n >>> ((1 : Int32) &&& 31) = nI (n / 2) by have k := pk_shrN (n := n) (by omega) ((1 : Int32) &&& 31) 1 (by decide); rw [Nat.pow_one] at k; exact k]
    refine k_pure (r := .int (nI (n + n / 2))) (W.runS (As := [.int (nI n), .int (nI 1), .int (nI (n / 2))]) (rest := []) ⟨hx, hb, hml, hown, hts⟩ (c_ASup_newLength l g s.heap n (n / 2) (by omega) (by omega)) (va_cwS 3 hts (kS_good kw_150 kw_148 kw_149 kw_8) rfl rfl rfl (by decide +kernel) ⟨Nat.le_of_ble_eq_true rfl, Nat.le_of_ble_eq_true rfl⟩) (k_pre (KK_st g) hKK) rfl rfl hl.1 rfl (lv_room (Nat.le_of_ble_eq_true rfl)) d_AL_grow2_27 ⟨Nat.zero_le _, Nat.zero_le _⟩) ?_
    refine lv_istore_n (lv' := [(3, .int (nI (n + n / 2))), (2, .int (nI n)), (0, .ref h0), (1, .int (nI (n + 1)))]) hx hb d_AL_grow2_30 rfl hl (by decide) rfl (fun ls hl => ?_)
    refine lv_aload_n hx hb d_AL_grow2_31 rfl (lv_at hl 2 rfl) ?_
    refine lv_aload_n hx hb d_AL_grow2_32 rfl (lv_at hl 2 rfl) ?_
    refine va_get (D := g.1) (ci := 1) (v := .ref arr) (C := "java/util/ArrayList") (T := kT_AL) (N := 3) hx hb hts ki_AL hown hK hP 0 rfl rfl 0 (by decide) (hts _ kw_43) (fun _ h9 => h9) rfl d_AL_grow2_33 ?_
    refine lv_iload_n hx hb d_AL_grow2_36 rfl (lv_at hl 0 rfl) ?_
    refine k_call (A := A) (W.runS (As := [.ref arr, .int (nI (n + n / 2))]) (rest := [.ref h0]) ⟨hx, hb, hml, hown, hts⟩ (c_Arrs_copyOf l g s.heap arr n (n + n / 2) f a0 (by omega) (by omega) (fun i hi y hy => by rw [h6 i hi] at hy; cases hy; exact he i hi)) (va_cwS 2 hts (kS_good kw_160 kw_158 kw_159 kw_10) rfl rfl rfl (by decide +kernel) ⟨Nat.le_of_ble_eq_true rfl, Nat.le_of_ble_eq_true rfl⟩) (k_pre (KK_st g) hKK) rfl rfl hl.1 rfl (lv_room (Nat.le_of_ble_eq_true rfl)) d_AL_grow2_37 ⟨Nat.le_of_ble_eq_true rfl, Nat.le_of_ble_eq_true rfl⟩) hS.2.2 (fun q h => by rw [← hAe]; rcases h with h | h; exact Or.inr (Or.inl ⟨h, by omega⟩); exact Or.inr (Or.inr h)) (fun v H locs hv hL => ?_)
    obtain ⟨q, rfl, hq, hE, a1⟩ := hv
    have hP : va_P g.1 kcl [(h0, .inr (1, [.ref arr, .int (nI n), .int mo])), (q, .inl (g.2.1.1, (n + n / 2), .inr (.inr (.inr (.inr (va_cpy f (fun _ => none) 0 0 n)))))), (arr, .inl (g.2.1.1, n, .inr (.inr (.inr (.inr f)))))] H := k_three (hE.at o0 id) a1 (hE.at a0 id)
    have hl0 : h0 < s.heap.size := o0.lt
    have hl1 : arr < s.heap.size := (a0 : va_at _ _ _ _).lt
    have hD : va_D A [(h0, .inr (1, [.ref arr, .int (nI n), .int mo])), (q, .inl (g.2.1.1, (n + n / 2), .inr (.inr (.inr (.inr (va_cpy f (fun _ => none) 0 0 n)))))), (arr, .inl (g.2.1.1, n, .inr (.inr (.inr (.inr f)))))] := k_D3 (by rw [← hAe]; exact Or.inl rfl) (hA _ hq) (by rw [← hAe]; exact Or.inr (Or.inl ⟨rfl, by omega⟩)) (by show h0 ≠ q; omega) (k_alne hK o0 a0) (by show q ≠ arr; omega)
    have hS : va_S A s.heap H locs := (hE.wk (fun q _ h => h.elim)).S hL
    refine lv_dup_x1 hx hb d_AL_grow2_40 rfl rfl ?_
    refine va_put (D := g.1) (ci := 1) (v := .ref q) (ty := .array (.object "java/lang/Object")) (C := "java/util/ArrayList") (T := kT_AL) (N := 3) hx hb hts ki_AL kt_AL ko_AL kn_AL hown hK hP hD hS 0 rfl rfl 0 (by decide) (hts _ kw_43) (fun _ h9 => h9) rfl (by decide +kernel) rfl rfl (Nat.le_of_ble_eq_true rfl) d_AL_grow2_41 (fun H locs hP hD hS => ?_)
    have hP : va_P g.1 kcl [(h0, .inr (1, [.ref q, .int (nI n), .int mo])), (q, .inl (g.2.1.1, (n + n / 2), .inr (.inr (.inr (.inr (va_cpy f (fun _ => none) 0 0 n)))))), (arr, .inl (g.2.1.1, n, .inr (.inr (.inr (.inr f)))))] H := hP
    have hD : va_D A [(h0, .inr (1, [.ref q, .int (nI n), .int mo])), (q, .inl (g.2.1.1, (n + n / 2), .inr (.inr (.inr (.inr (va_cpy f (fun _ => none) 0 0 n)))))), (arr, .inl (g.2.1.1, n, .inr (.inr (.inr (.inr f)))))] := hD
    have hE0 : kE (fun q => q = h0) s.heap H := by
      refine ⟨hS.1, fun z hz hne => ?_⟩
      by_cases e : z = arr
      · subst e
        exact (k_at0 hP 2 rfl : _ = _).trans (a0 : _ = _).symm
      · exact hS.2.1 z hz (fun h => by rw [← hAe] at h; rcases h with h | h | h; exact hne h; exact e h.1; omega)
    exact W.aret (v := .ref q) hx hb hr (Or.inr ⟨_, rfl⟩) (Or.inr ⟨_, rfl⟩) (fun t ht hW => ⟨_, rfl, q, (n + n / 2), rfl, hq, by omega, by rw [ht]; exact hE0, by rw [ht]; exact ⟨mo, k_at0 hP 0 rfl, Or.inr ⟨_, k_at0 hP 1 rfl, by omega, by omega, by omega, (fun i hi => (pk_cpy_in (Nat.zero_le i) (by omega)).trans (by rw [show 0 + (i - 0) = i by omega]; exact h6 i hi))⟩⟩⟩) hS.2.2 d_AL_grow2_44
set_option maxHeartbeats 4000000 in
set_option maxRecDepth 100000 in
theorem c_AL_grow (l : Launch) (g : KGt) (H0 : Heap) (h0 arr cap n : Nat) (el : Nat → Nat) (hB : kB g H0) (o : kALx g h0 arr cap n el H0) (hn : n = cap) (hn2 : n ≤ 60) (he : ∀ i, i < n → kObj g (el i) H0) : Met l y_AL_grow (kW y_AL_grow b_AL_grow 1 (.some (.array (.object "java/lang/Object")))) ({ frames := 4, cells := 1, slots := 100, locals := 107 }) (kPc [.ref h0] (KK g) H0) (kQc (fun v H1 => ∃ arr2 cap2 : Nat, v = some (.ref arr2) ∧ H0.size ≤ arr2 ∧ n < cap2 ∧ kE (fun q => q = h0) H0 H1 ∧ kALx g h0 arr2 cap2 n el H1)) 1 100 (fun q : Nat => q = h0 ∨ (q = arr ∧ 0 < cap) ∨ H0.size ≤ q) := by
  refine va_MetF (cc := b_AL_grow) (maxL := 1) (ret := (.some (.array (.object "java/lang/Object")))) (by decide +kernel) rfl ?_
  intro p e s m args below meth c s₁ B hml hv
  obtain ⟨rfl, hH, hKK⟩ := hv
  have hx := B.exec
  have hb := B.bytes
  have hr := B.returns
  have hts := kW_ts (atoms_spec (ws := kW y_AL_grow b_AL_grow 1 (.some (.array (.object "java/lang/Object")))) B.pre)
  have hown : s.vm.findClass "java/util/ArrayList" = some m.cls := findClass_of_methodNamed B.named
  have hlocks := B.notSynchronized
  have hK := hKK.1
  subst hH
  have hl := lv_entry ([.ref h0]) (n := 1) (Nat.le_of_ble_eq_true rfl)
  rw [lg_entry_eq]
  generalize (lg_sl ([.ref h0]) ++ List.replicate (1 - (lg_sl ([.ref h0])).length) Slot.unset).toArray = ls at hl ⊢
  have hl : lv_has ls 1 [(0, .ref h0)] := hl
  obtain ⟨mo, o0, o1⟩ := id o
  refine lv_aload_n hx hb d_AL_grow_0 rfl (lv_at hl 0 rfl) ?_
  refine lv_aload_n hx hb d_AL_grow_1 rfl (lv_at hl 0 rfl) ?_
  refine va_get (D := g.1) (ci := 1) (v := .int (nI n)) (C := "java/util/ArrayList") (T := kT_AL) (N := 3) hx hb hts ki_AL hown hK (k_one o0) 0 rfl rfl 1 (by decide) (hts _ kw_44) (fun _ h9 => h9) rfl d_AL_grow_2 ?_
  refine lv_iconst (v := 1) hx hb d_AL_grow_5 (by decide) ?_
  refine lv_iadd hx hb d_AL_grow_6 ?_
  rw [nI_1]
  refine k_call (A := (fun q : Nat => q = h0 ∨ (q = arr ∧ 0 < cap) ∨ s.heap.size ≤ q)) (W.runV (As := [.int (nI (n + 1))]) (rest := []) ⟨hx, hb, hml, hown, hts⟩ (c_AL_grow2 l g s.heap h0 arr cap n el hB o hn hn2 he) (cwV 1 hts (kV_good kw_147 kw_144 kw_146 ks_AL_grow2 kw_4) rfl rfl rfl (by decide +kernel) ⟨Nat.le_of_ble_eq_true rfl, Nat.le_of_ble_eq_true rfl⟩) (k_preV (KK_st g) hKK (kAL.recv ⟨_, _, o⟩ hK)) rfl rfl hl.1 rfl (lv_room (Nat.le_of_ble_eq_true rfl)) d_AL_grow_7 ⟨Nat.le_of_ble_eq_true rfl, Nat.le_of_ble_eq_true rfl⟩) (fun _ h => by cases h) (fun q h => h) (fun v H locs hv hL => ?_)
  obtain ⟨q, cap2, rfl, h3⟩ := hv
  exact W.aret (v := .ref q) hx hb hr (Or.inr ⟨_, rfl⟩) (Or.inr ⟨_, rfl⟩) (fun t ht hW => ⟨_, rfl, q, cap2, rfl, by rw [ht]; exact h3⟩) hL d_AL_grow_10

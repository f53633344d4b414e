/-! ArrayList: grow, add, set, remove, clear -/
/-- objects of two classes are two -/
theorem k_obob {g : KGt} {a ci cj : Nat} {fs gs : List Value} {H : Heap} {s : State} {P : Prop} (hK : va_K g.1 kcl (kTy g) s) (h : va_at g.1 kcl (a, .inr (ci, fs)) H) (h2 : va_at g.1 kcl (a, .inr (cj, gs)) H) (hne : (kcl[ci]?.map (·.1)) ≠ (kcl[cj]?.map (·.1))) : P := by
  obtain ⟨r, h1, cell, q1, q2, q3, q4⟩ := h
  obtain ⟨r', h1', cell', q1', q2', q3', q4'⟩ := h2
  obtain ⟨-, hc, -⟩ := hK.1 ci r h1
  obtain ⟨-, hc', -⟩ := hK.1 cj r' h1'
  have e : cell = cell' := Option.some.inj (q1.symm.trans q1')
  subst e
  have e2 : g.1.1 ci = g.1.1 cj := q2.symm.trans q2'
  rw [e2] at hc
  obtain ⟨k1, w1, n1⟩ := Vm.findClass_spec hc
  obtain ⟨k2, w2, n2⟩ := Vm.findClass_spec hc'
  rw [w1] at w2
  have e3 := Option.some.inj w2
  subst e3
  exact absurd (by rw [h1, h1']; exact congrArg some (n1.symm.trans n2)) hne
theorem kObj.ne {g : KGt} {e la : Nat} {fs : List Value} {H : Heap} {s : State} (hK : va_K g.1 kcl (kTy g) s) (h : kObj g e H) (o : va_at g.1 kcl (la, .inr (1, fs)) H) : e ≠ la := by
  obtain ⟨ci, gs, h1, h2⟩ := h
  intro q
  subst q
  refine k_obob hK h1 o ?_
  rcases h2 with rfl | rfl | rfl | rfl | rfl | rfl <;> decide +kernel
theorem k_alne {g : KGt} {la arr cap : Nat} {fs : List Value} {f : Nat → Option Nat} {H : Heap} {s : State} (hK : va_K g.1 kcl (kTy g) s) (o : va_at g.1 kcl (la, .inr (1, fs)) H) (a : va_at g.1 kcl (arr, .inl (g.2.1.1, cap, .inr (.inr (.inr (.inr f))))) H) : la ≠ arr := by
  intro q
  subst q
  exact k_obarr hK o a
theorem kObj.na {g : KGt} {e arr cap : Nat} {f : Nat → Option Nat} {H : Heap} {s : State} (hK : va_K g.1 kcl (kTy g) s) (h : kObj g e H) (a : va_at g.1 kcl (arr, .inl (g.2.1.1, cap, .inr (.inr (.inr (.inr f))))) H) : e ≠ arr := by
  obtain ⟨ci, gs, h1, h2⟩ := h
  intro q
  subst q
  exact k_obarr hK h1 a
set_option maxHeartbeats 4000000 in
set_option maxRecDepth 100000 in
theorem c_AL_grow2 (l : Launch) (g : KGt) (H0 : Heap) (h0 arr cap n : Nat) (el : Nat → Nat) (hB : kB g H0) (o : kALx g h0 arr cap n el H0) (hn : n = cap) (hn2 : n ≤ 60) (he : ∀ i, i < n → kObj g (el i) H0) : Met l y_AL_grow2 (kW y_AL_grow2 b_AL_grow2 4 (.some (.array (.object "java/lang/Object")))) ({ frames := 3, cells := 1, slots := 100, locals := 84 }) (kPc [.ref h0, .int (nI (n + 1))] (KK g) H0) (kQc (fun v H1 => ∃ arr2 cap2 : Nat, v = some (.ref arr2) ∧ H0.size ≤ arr2 ∧ n < cap2 ∧ kE (fun q => q = h0) H0 H1 ∧ kALx g h0 arr2 cap2 n el H1)) 1 100 (fun q : Nat => q = h0 ∨ (q = arr ∧ 0 < cap) ∨ H0.size ≤ q) := by
  refine va_MetF (cc := b_AL_grow2) (maxL := 4) (ret := (.some (.array (.object "java/lang/Object")))) (by decide +kernel) rfl ?_
  intro p e s m args below meth c s₁ B hml hv
  obtain ⟨rfl, hH, hKK⟩ := hv
  have hx := B.exec
  have hb := B.bytes
  have hr := B.returns
  have hts := kW_ts (atoms_spec (ws := kW y_AL_grow2 b_AL_grow2 4 (.some (.array (.object "java/lang/Object")))) B.pre)
  have hown : s.vm.findClass "java/util/ArrayList" = some m.cls := findClass_of_methodNamed B.named
  have hlocks := B.notSynchronized
  have hK := hKK.1
  subst hH
  have hl := lv_entry ([.ref h0, .int (nI (n + 1))]) (n := 4) (Nat.le_of_ble_eq_true rfl)
  rw [lg_entry_eq]
  generalize (lg_sl ([.ref h0, .int (nI (n + 1))]) ++ List.replicate (4 - (lg_sl ([.ref h0, .int (nI (n + 1))])).length) Slot.unset).toArray = ls at hl ⊢
  have hl : lv_has ls 4 [(0, .ref h0), (1, .int (nI (n + 1)))] := hl
  obtain ⟨mo, o0, o1⟩ := o
  rcases o1 with o1 | o1
  · skip
    obtain ⟨rfl, rfl, rfl⟩ := o1
    generalize hAe : (fun q : Nat => q = h0 ∨ (q = g.2.2.2.1 ∧ 0 < 0) ∨ s.heap.size ≤ q) = A
    have hA : ∀ q : Nat, s.heap.size ≤ q → A q := fun q h => by rw [← hAe]; exact Or.inr (Or.inr h)
    have hS : va_S A s.heap s.heap [] := va_S.rf
    have hP : va_P g.1 kcl [(h0, .inr (1, [.ref g.2.2.2.1, .int (nI 0), .int mo]))] s.heap := k_one o0
    have hD : va_D A [(h0, .inr (1, [.ref g.2.2.2.1, .int (nI 0), .int mo]))] := k_D1 (by rw [← hAe]; exact Or.inl rfl)
    refine lv_aload_n hx hb d_AL_grow2_0 rfl (lv_at hl 0 rfl) ?_
    refine va_get (D := g.1) (ci := 1) (v := .ref g.2.2.2.1) (C := "java/util/ArrayList") (T := kT_AL) (N := 3) hx hb hts ki_AL hown hK hP 0 rfl rfl 0 (by decide) (hts _ kw_43) (fun _ h9 => h9) rfl d_AL_grow2_1 ?_
    refine k_alenE hx hb hKK hB d_AL_grow2_4 ?_
    refine lv_istore_n (lv' := [(2, .int (nI 0)), (0, .ref h0), (1, .int (nI (0 + 1)))]) hx hb d_AL_grow2_5 rfl hl (by decide) rfl (fun ls hl => ?_)
    refine lv_iload_n hx hb d_AL_grow2_6 rfl (lv_at hl 0 rfl) ?_
    refine lv_if_gt (tgt := 20) hx hb d_AL_grow2_7 (by decide) (fun c_1 => ?_) (fun c_1 => ?_)
    · exact absurd c_1 (by rw [nI_0]; decide)
    refine lv_aload_n hx hb d_AL_grow2_10 rfl (lv_at hl 1 rfl) ?_
    refine va_get (D := g.1) (ci := 1) (v := .ref g.2.2.2.1) (C := "java/util/ArrayList") (T := kT_AL) (N := 3) hx hb hts ki_AL hown hK hP 0 rfl rfl 0 (by decide) (hts _ kw_43) (fun _ h9 => h9) rfl d_AL_grow2_11 ?_
    refine k_gets hx hb hKK hB hown (hts _ kw_41) d_AL_grow2_14 ?_
    refine lv_acmp_eq (rx := some g.2.2.2.1) (ry := some g.2.2.2.1) (tgt := 45) hx hb d_AL_grow2_17 (by decide) (fun c_2 => ?_) (fun c_2 => absurd rfl c_2)
    refine lv_aload_n hx hb d_AL_grow2_45 rfl (lv_at hl 1 rfl) ?_
    refine lv_bipush (v := 10) hx hb d_AL_grow2_46 (by decide) ?_
    refine lv_iload_n hx hb d_AL_grow2_48 rfl (lv_at hl 2 rfl) ?_
    refine va_mmax (x := 10) (y := (nI (0 + 1))) hx hb (hml.trans hl.1.symm) hown (hts _ kw_188) (hts _ kw_152) (hts _ kw_9) (hts _ kw_153) (Nat.le_of_ble_eq_true rfl) (Nat.le_of_ble_eq_true rfl) (Nat.zero_le _) (Nat.zero_le _) d_AL_grow2_49 ?_
    rw [if_neg (by decide)]
    refine va_newq (D := g.1) (C := "java/lang/Object") (N' := 10) hx hb hown (hts _ kw_189) hKK.2.2.2.1 hK hP hD hS hA (by decide) (by decide) (by omega) (Nat.le_of_ble_eq_true rfl) (by show 0 + _ ≤ 100; omega) d_AL_grow2_52 (fun q cA H hK9 hP hD hS => ?_)
    obtain rfl := k_cA hK hK9
    refine W.widen (k := 1) (n := 100) (by omega) (by omega) ?_
    have hP : va_P g.1 kcl [(h0, .inr (1, [.ref g.2.2.2.1, .int (nI 0), .int mo])), (q, .inl (g.2.1.1, 10, .inr (.inr (.inr (.inr (fun _ => none))))))] H := hP
    have hD : va_D A [(h0, .inr (1, [.ref g.2.2.2.1, .int (nI 0), .int mo])), (q, .inl (g.2.1.1, 10, .inr (.inr (.inr (.inr (fun _ => none))))))] := hD
    have hq : s.heap.size ≤ q := by
      have h9 := hD.2 1 _ rfl
      rw [← hAe] at h9
      rcases h9 with h9 | h9 | h9
      · exact absurd (hD.1 0 1 _ _ rfl rfl h9.symm) (by decide)
      · exact absurd h9.2 (by omega)
      · exact h9
    refine lv_dup_x1 hx hb d_AL_grow2_55 rfl rfl ?_
    refine va_put (D := g.1) (ci := 1) (v := .ref q) (ty := .array (.object "java/lang/Object")) (C := "java/util/ArrayList") (T := kT_AL) (N := 3) hx hb hts ki_AL kt_AL ko_AL kn_AL hown hK hP hD hS 0 rfl rfl 0 (by decide) (hts _ kw_43) (fun _ h9 => h9) rfl (by decide +kernel) rfl rfl (Nat.le_of_ble_eq_true rfl) d_AL_grow2_56 (fun H locs hP hD hS => ?_)
    have hP : va_P g.1 kcl [(h0, .inr (1, [.ref q, .int (nI 0), .int mo])), (q, .inl (g.2.1.1, 10, .inr (.inr (.inr (.inr (fun _ => none))))))] H := hP
    have hD : va_D A [(h0, .inr (1, [.ref q, .int (nI 0), .int mo])), (q, .inl (g.2.1.1, 10, .inr (.inr (.inr (.inr (fun _ => none))))))] := hD
    exact W.aret (v := .ref q) hx hb hr (Or.inr ⟨_, rfl⟩) (Or.inr ⟨_, rfl⟩) (fun t ht hW => ⟨_, rfl, q, 10, rfl, hq, by omega, by rw [ht]; exact (kE.ofS hS).wk (fun q hq h => by rw [← hAe] at h; rcases h with h | h | h; exact h; exact absurd h.2 (by omega); omega), by rw [ht]; exact ⟨mo, k_at0 hP 0 rfl, Or.inr ⟨_, k_at0 hP 1 rfl, by omega, by omega, by omega, (fun i hi => absurd hi (by omega))⟩⟩⟩) hS.2.2 d_AL_grow2_59
  · skip
    obtain ⟨f, a0, h3, h4, h5, h6⟩ := o1
    subst hn
    generalize hAe : (fun q : Nat => q = h0 ∨ (q = arr ∧ 0 < n) ∨ s.heap.size ≤ q) = A
    have hA : ∀ q : Nat, s.heap.size ≤ q → A q := fun q h => by rw [← hAe]; exact Or.inr (Or.inr h)
    have hS : va_S A s.heap s.heap [] := va_S.rf
    have hP : va_P g.1 kcl [(h0, .inr (1, [.ref arr, .int (nI n), .int mo])), (arr, .inl (g.2.1.1, n, .inr (.inr (.inr (.inr f)))))] s.heap := k_two o0 a0
    have hD : va_D A [(h0, .inr (1, [.ref arr, .int (nI n), .int mo])), (arr, .inl (g.2.1.1, n, .inr (.inr (.inr (.inr f)))))] := k_D2 (by rw [← hAe]; exact Or.inl rfl) (by rw [← hAe]; exact Or.inr (Or.inl ⟨rfl, by omega⟩)) (k_alne hK o0 a0)
    refine lv_aload_n hx hb d_AL_grow2_0 rfl (lv_at hl 0 rfl) ?_
    refine va_get (D := g.1) (ci := 1) (v := .ref arr) (C := "java/util/ArrayList") (T := kT_AL) (N := 3) hx hb hts ki_AL hown hK hP 0 rfl rfl 0 (by decide) (hts _ kw_43) (fun _ h9 => h9) rfl d_AL_grow2_1 ?_
    refine va_alen (D := g.1) (v := nI n) (ty := .object "java/lang/Object") hx hb hK hP 1 0 rfl rfl rfl d_AL_grow2_4 ?_
    refine lv_istore_n (lv' := [(2, .int (nI n)), (0, .ref h0), (1, .int (nI (n + 1)))]) hx hb d_AL_grow2_5 rfl hl (by decide) rfl (fun ls hl => ?_)
    refine lv_iload_n hx hb d_AL_grow2_6 rfl (lv_at hl 0 rfl) ?_
    refine lv_if_gt (tgt := 20) hx hb d_AL_grow2_7 (by decide) (fun c_1 => ?_) (fun c_1 => ?_)
    rotate_left
    · exact absurd c_1 (fun q => q (by rw [show (0 : Int32) = nI 0 from nI_0.symm]; exact nI_lt (by omega) (by omega)))
    refine lv_iload_n hx hb d_AL_grow2_20 rfl (lv_at hl 0 rfl) ?_
    refine lv_iload_n hx hb d_AL_grow2_21 rfl (lv_at hl 2 rfl) ?_
    refine lv_iload_n hx hb d_AL_grow2_22 rfl (lv_at hl 0 rfl) ?_
    refine lv_isub hx hb d_AL_grow2_23 ?_
    rw [pk_sub (show n ≤ n + 1 by omega), show n + 1 - n = 1 by omega]
    refine lv_iload_n hx hb d_AL_grow2_24 rfl (lv_at hl 0 rfl) ?_
    refine lv_iconst (v := 1) hx hb d_AL_grow2_25 (by decide) ?_
    refine lv_ishr hx hb d_AL_grow2_26 ?_
    rw [show nI n >>> ((1 : Int32) &&& 31) = nI (n / 2) by have k := pk_shrN (n := n) (by omega) ((1 : Int32) &&& 31) 1 (by decide); rw [Nat.pow_one] at k; exact k]
    refine k_pure (r := .int (nI (n + n / 2))) (W.runS (As := [.int (nI n), .int (nI 1), .int (nI (n / 2))]) (rest := []) ⟨hx, hb, hml, hown, hts⟩ (c_ASup_newLength l g s.heap n (n / 2) (by omega) (by omega)) (va_cwS 3 hts (kS_good kw_150 kw_148 kw_149 kw_8) rfl rfl rfl (by decide +kernel) ⟨Nat.le_of_ble_eq_true rfl, Nat.le_of_ble_eq_true rfl⟩) (k_pre (KK_st g) hKK) rfl rfl hl.1 rfl (lv_room (Nat.le_of_ble_eq_true rfl)) d_AL_grow2_27 ⟨Nat.zero_le _, Nat.zero_le _⟩) ?_
    refine lv_istore_n (lv' := [(3, .int (nI (n + n / 2))), (2, .int (nI n)), (0, .ref h0), (1, .int (nI (n + 1)))]) hx hb d_AL_grow2_30 rfl hl (by decide) rfl (fun ls hl => ?_)
    refine lv_aload_n hx hb d_AL_grow2_31 rfl (lv_at hl 2 rfl) ?_
    refine lv_aload_n hx hb d_AL_grow2_32 rfl (lv_at hl 2 rfl) ?_
    refine va_get (D := g.1) (ci := 1) (v := .ref arr) (C := "java/util/ArrayList") (T := kT_AL) (N := 3) hx hb hts ki_AL hown hK hP 0 rfl rfl 0 (by decide) (hts _ kw_43) (fun _ h9 => h9) rfl d_AL_grow2_33 ?_
    refine lv_iload_n hx hb d_AL_grow2_36 rfl (lv_at hl 0 rfl) ?_
    refine k_call (A := A) (W.runS (As := [.ref arr, .int (nI (n + n / 2))]) (rest := [.ref h0]) ⟨hx, hb, hml, hown, hts⟩ (c_Arrs_copyOf l g s.heap arr n (n + n / 2) f a0 (by omega) (by omega) (fun i hi y hy => by rw [h6 i hi] at hy; cases hy; exact he i hi)) (va_cwS 2 hts (kS_good kw_160 kw_158 kw_159 kw_10) rfl rfl rfl (by decide +kernel) ⟨Nat.le_of_ble_eq_true rfl, Nat.le_of_ble_eq_true rfl⟩) (k_pre (KK_st g) hKK) rfl rfl hl.1 rfl (lv_room (Nat.le_of_ble_eq_true rfl)) d_AL_grow2_37 ⟨Nat.le_of_ble_eq_true rfl, Nat.le_of_ble_eq_true rfl⟩) hS.2.2 (fun q h => by rw [← hAe]; rcases h with h | h; exact Or.inr (Or.inl ⟨h, by omega⟩); exact Or.inr (Or.inr h)) (fun v H locs hv hL => ?_)
    obtain ⟨q, rfl, hq, hE, a1⟩ := hv
    have hP : va_P g.1 kcl [(h0, .inr (1, [.ref arr, .int (nI n), .int mo])), (q, .inl (g.2.1.1, (n + n / 2), .inr (.inr (.inr (.inr (va_cpy f (fun _ => none) 0 0 n)))))), (arr, .inl (g.2.1.1, n, .inr (.inr (.inr (.inr f)))))] H := k_three (hE.at o0 id) a1 (hE.at a0 id)
    have hl0 : h0 < s.heap.size := o0.lt
    have hl1 : arr < s.heap.size := (a0 : va_at _ _ _ _).lt
    have hD : va_D A [(h0, .inr (1, [.ref arr, .int (nI n), .int mo])), (q, .inl (g.2.1.1, (n + n / 2), .inr (.inr (.inr (.inr (va_cpy f (fun _ => none) 0 0 n)))))), (arr, .inl (g.2.1.1, n, .inr (.inr (.inr (.inr f)))))] := k_D3 (by rw [← hAe]; exact Or.inl rfl) (hA _ hq) (by rw [← hAe]; exact Or.inr (Or.inl ⟨rfl, by omega⟩)) (by show h0 ≠ q; omega) (k_alne hK o0 a0) (by show q ≠ arr; omega)
    have hS : va_S A s.heap H locs := (hE.wk (fun q _ h => h.elim)).S hL
    refine lv_dup_x1 hx hb d_AL_grow2_40 rfl rfl ?_
    refine va_put (D := g.1) (ci := 1) (v := .ref q) (ty := .array (.object "java/lang/Object")) (C := "java/util/ArrayList") (T := kT_AL) (N := 3) hx hb hts ki_AL kt_AL ko_AL kn_AL hown hK hP hD hS 0 rfl rfl 0 (by decide) (hts _ kw_43) (fun _ h9 => h9) rfl (by decide +kernel) rfl rfl (Nat.le_of_ble_eq_true rfl) d_AL_grow2_41 (fun H locs hP hD hS => ?_)
    have hP : va_P g.1 kcl [(h0, .inr (1, [.ref q, .int (nI n), .int mo])), (q, .inl (g.2.1.1, (n + n / 2), .inr (.inr (.inr (.inr (va_cpy f (fun _ => none) 0 0 n)))))), (arr, .inl (g.2.1.1, n, .inr (.inr (.inr (.inr f)))))] H := hP
    have hD : va_D A [(h0, .inr (1, [.ref q, .int (nI n), .int mo])), (q, .inl (g.2.1.1, (n + n / 2), .inr (.inr (.inr (.inr (va_cpy f (fun _ => none) 0 0 n)))))), (arr, .inl (g.2.1.1, n, .inr (.inr (.inr (.inr f)))))] := hD
    have hE0 : kE (fun q => q = h0) s.heap H := by
      refine ⟨hS.1, fun z hz hne => ?_⟩
      by_cases e : z = arr
      · subst e
        exact (k_at0 hP 2 rfl : _ = _).trans (a0 : _ = _).symm
      · exact hS.2.1 z hz (fun h => by rw [← hAe] at h; rcases h with h | h | h; exact hne h; exact e h.1; omega)
    exact W.aret (v := .ref q) hx hb hr (Or.inr ⟨_, rfl⟩) (Or.inr ⟨_, rfl⟩) (fun t ht hW => ⟨_, rfl, q, (n + n / 2), rfl, hq, by omega, by rw [ht]; exact hE0, by rw [ht]; exact ⟨mo, k_at0 hP 0 rfl, Or.inr ⟨_, k_at0 hP 1 rfl, by omega, by omega, by omega, (fun i hi => (pk_cpy_in (Nat.zero_le i) (by omega)).trans (by rw [show 0 + (i - 0) = i by omega]; exact h6 i hi))⟩⟩⟩) hS.2.2 d_AL_grow2_44
set_option maxHeartbeats 4000000 in
set_option maxRecDepth 100000 in
theorem c_AL_grow (l : Launch) (g : KGt) (H0 : Heap) (h0 arr cap n : Nat) (el : Nat → Nat) (hB : kB g H0) (o : kALx g h0 arr cap n el H0) (hn : n = cap) (hn2 : n ≤ 60) (he : ∀ i, i < n → kObj g (el i) H0) : Met l y_AL_grow (kW y_AL_grow b_AL_grow 1 (.some (.array (.object "java/lang/Object")))) ({ frames := 4, cells := 1, slots := 100, locals := 107 }) (kPc [.ref h0] (KK g) H0) (kQc (fun v H1 => ∃ arr2 cap2 : Nat, v = some (.ref arr2) ∧ H0.size ≤ arr2 ∧ n < cap2 ∧ kE (fun q => q = h0) H0 H1 ∧ kALx g h0 arr2 cap2 n el H1)) 1 100 (fun q : Nat => q = h0 ∨ (q = arr ∧ 0 < cap) ∨ H0.size ≤ q) := by
  refine va_MetF (cc := b_AL_grow) (maxL := 1) (ret := (.some (.array (.object "java/lang/Object")))) (by decide +kernel) rfl ?_
  intro p e s m args below meth c s₁ B hml hv
  obtain ⟨rfl, hH, hKK⟩ := hv
  have hx := B.exec
  have hb := B.bytes
  have hr := B.returns
  have hts := kW_ts (atoms_spec (ws := kW y_AL_grow b_AL_grow 1 (.some (.array (.object "java/lang/Object")))) B.pre)
  have hown : s.vm.findClass "java/util/ArrayList" = some m.cls := findClass_of_methodNamed B.named
  have hlocks := B.notSynchronized
  have hK := hKK.1
  subst hH
  have hl := lv_entry ([.ref h0]) (n := 1) (Nat.le_of_ble_eq_true rfl)
  rw [lg_entry_eq]
  generalize (lg_sl ([.ref h0]) ++ List.replicate (1 - (lg_sl ([.ref h0])).length) Slot.unset).toArray = ls at hl ⊢
  have hl : lv_has ls 1 [(0, .ref h0)] := hl
  obtain ⟨mo, o0, o1⟩ := id o
  refine lv_aload_n hx hb d_AL_grow_0 rfl (lv_at hl 0 rfl) ?_
  refine lv_aload_n hx hb d_AL_grow_1 rfl (lv_at hl 0 rfl) ?_
  refine va_get (D := g.1) (ci := 1) (v := .int (nI n)) (C := "java/util/ArrayList") (T := kT_AL) (N := 3) hx hb hts ki_AL hown hK (k_one o0) 0 rfl rfl 1 (by decide) (hts _ kw_44) (fun _ h9 => h9) rfl d_AL_grow_2 ?_
  refine lv_iconst (v := 1) hx hb d_AL_grow_5 (by decide) ?_
  refine lv_iadd hx hb d_AL_grow_6 ?_
  rw [nI_1]
  refine k_call (A := (fun q : Nat => q = h0 ∨ (q = arr ∧ 0 < cap) ∨ s.heap.size ≤ q)) (W.runV (As := [.int (nI (n + 1))]) (rest := []) ⟨hx, hb, hml, hown, hts⟩ (c_AL_grow2 l g s.heap h0 arr cap n el hB o hn hn2 he) (cwV 1 hts (kV_good kw_147 kw_144 kw_146 ks_AL_grow2 kw_4) rfl rfl rfl (by decide +kernel) ⟨Nat.le_of_ble_eq_true rfl, Nat.le_of_ble_eq_true rfl⟩) (k_preV (KK_st g) hKK (kAL.recv ⟨_, _, o⟩ hK)) rfl rfl hl.1 rfl (lv_room (Nat.le_of_ble_eq_true rfl)) d_AL_grow_7 ⟨Nat.le_of_ble_eq_true rfl, Nat.le_of_ble_eq_true rfl⟩) (fun _ h => by cases h) (fun q h => h) (fun v H locs hv hL => ?_)
  obtain ⟨q, cap2, rfl, h3⟩ := hv
  exact W.aret (v := .ref q) hx hb hr (Or.inr ⟨_, rfl⟩) (Or.inr ⟨_, rfl⟩) (fun t ht hW => ⟨_, rfl, q, cap2, rfl, by rw [ht]; exact h3⟩) hL d_AL_grow_10
theorem k_up {f : Nat → Option Nat} {el : Nat → Nat} {n e : Nat} (h : ∀ i, i < n → f i = some (el i)) : ∀ i, i < n + 1 → va_up f n (some e) i = some (va_up el n e i) := by
  intro i hi
  by_cases q : i = n
  · subst q
    rw [va_up_self, va_up_self]
  · rw [va_up_ne _ _ q, va_up_ne _ _ q]
    exact h i (by omega)
set_option maxHeartbeats 4000000 in
set_option maxRecDepth 100000 in
theorem c_AL_add2 (l : Launch) (g : KGt) (H0 : Heap) (h0 arr cap n e0 : Nat) (el : Nat → Nat) (hB : kB g H0) (o : kALx g h0 arr cap n el H0) (hn2 : n ≤ 60) (he : ∀ i, i < n → kObj g (el i) H0) (hk : kObj g e0 H0) : Met l y_AL_add2 (kW y_AL_add2 b_AL_add2 4 (.none : Option FieldType)) ({ frames := 5, cells := 1, slots := 100, locals := 127 }) (kPc [.ref h0, .ref e0, .ref arr, .int (nI n)] (KK g) H0) (kQc (fun v H1 => v = none ∧ ∃ arr2 cap2 : Nat, kE (fun q => q = h0 ∨ (q = arr ∧ 0 < cap)) H0 H1 ∧ (arr2 = arr ∧ cap2 = cap ∨ H0.size ≤ arr2) ∧ kALx g h0 arr2 cap2 (n + 1) (va_up el n e0) H1)) 1 100 (fun q : Nat => q = h0 ∨ (q = arr ∧ 0 < cap) ∨ H0.size ≤ q) := by
  refine va_MetF (cc := b_AL_add2) (maxL := 4) (ret := (.none : Option FieldType)) (by decide +kernel) rfl ?_
  intro p e s m args below meth c s₁ B hml hv
  obtain ⟨rfl, hH, hKK⟩ := hv
  have hx := B.exec
  have hb := B.bytes
  have hr := B.returns
  have hts := kW_ts (atoms_spec (ws := kW y_AL_add2 b_AL_add2 4 (.none : Option FieldType)) B.pre)
  have hown : s.vm.findClass "java/util/ArrayList" = some m.cls := findClass_of_methodNamed B.named
  have hlocks := B.notSynchronized
  have hK := hKK.1
  subst hH
  have hl := lv_entry ([.ref h0, .ref e0, .ref arr, .int (nI n)]) (n := 4) (Nat.le_of_ble_eq_true rfl)
  rw [lg_entry_eq]
  generalize (lg_sl ([.ref h0, .ref e0, .ref arr, .int (nI n)]) ++ List.replicate (4 - (lg_sl ([.ref h0, .ref e0, .ref arr, .int (nI n)])).length) Slot.unset).toArray = ls at hl ⊢
  have hl : lv_has ls 4 [(0, .ref h0), (1, .ref e0), (2, .ref arr), (3, .int (nI n))] := hl
  obtain ⟨mo, o0, o1⟩ := id o
  have o1 : (n = 0 ∧ cap = 0 ∧ arr = g.2.2.2.1) ∨ (n = cap ∧ ∃ f : Nat → Option Nat, va_at g.1 kcl (arr, .inl (g.2.1.1, cap, .inr (.inr (.inr (.inr f))))) s.heap ∧ n ≤ cap ∧ 10 ≤ cap ∧ cap ≤ 100 ∧ ∀ i, i < n → f i = some (el i)) ∨ (n < cap ∧ ∃ f : Nat → Option Nat, va_at g.1 kcl (arr, .inl (g.2.1.1, cap, .inr (.inr (.inr (.inr f))))) s.heap ∧ n ≤ cap ∧ 10 ≤ cap ∧ cap ≤ 100 ∧ ∀ i, i < n → f i = some (el i)) := by
    rcases o1 with o1 | ⟨f, h2, h3, h4⟩
    · exact Or.inl o1
    · by_cases hc : n = cap
      · exact Or.inr (Or.inl ⟨hc, f, h2, h3, h4⟩)
      · exact Or.inr (Or.inr ⟨by omega, f, h2, h3, h4⟩)
  rcases o1 with o1 | o1 | o1
  · skip
    obtain ⟨rfl, rfl, rfl⟩ := o1
    generalize hAe : (fun q : Nat => q = h0 ∨ (q = g.2.2.2.1 ∧ 0 < 0) ∨ s.heap.size ≤ q) = A
    have hA : ∀ q : Nat, s.heap.size ≤ q → A q := fun q h => by rw [← hAe]; exact Or.inr (Or.inr h)
    have hS : va_S A s.heap s.heap [] := va_S.rf
    have hP : va_P g.1 kcl [(h0, .inr (1, [.ref g.2.2.2.1, .int (nI 0), .int mo]))] s.heap := k_one o0
    have hD : va_D A [(h0, .inr (1, [.ref g.2.2.2.1, .int (nI 0), .int mo]))] := k_D1 (by rw [← hAe]; exact Or.inl rfl)
    refine lv_iload_n hx hb d_AL_add2_0 rfl (lv_at hl 3 rfl) ?_
    refine lv_aload_n hx hb d_AL_add2_1 rfl (lv_at hl 2 rfl) ?_
    refine k_alenE hx hb hKK hB d_AL_add2_2 ?_
    refine lv_icmp_ne (tgt := 11) hx hb d_AL_add2_3 (by decide) (fun c_1 => ?_) (fun c_1 => ?_)
    · exact absurd c_1 (fun q => q rfl)
    refine lv_aload_n hx hb d_AL_add2_6 rfl (lv_at hl 0 rfl) ?_
    refine k_call (A := A) (W.runV (As := []) (rest := []) ⟨hx, hb, hml, hown, hts⟩ (c_AL_grow l g s.heap h0 g.2.2.2.1 0 0 el hB o rfl hn2 he) (cwV 0 hts (kV_good kw_143 kw_140 kw_142 ks_AL_grow kw_4) rfl rfl rfl (by decide +kernel) ⟨Nat.le_of_ble_eq_true rfl, Nat.le_of_ble_eq_true rfl⟩) (k_preV (KK_st g) hKK (kAL.recv ⟨_, _, o⟩ hK)) rfl rfl hl.1 rfl (lv_room (Nat.le_of_ble_eq_true rfl)) d_AL_add2_7 ⟨Nat.le_of_ble_eq_true rfl, Nat.le_of_ble_eq_true rfl⟩) hS.2.2 (fun q h => by rw [← hAe]; exact h) (fun v H locs hv hL => ?_)
    obtain ⟨q, cap2, rfl, hq, hc2, hE, mo2, o2, o3⟩ := hv
    rcases o3 with o3 | ⟨f2, a2, k3, k4, k5, k6⟩
    · exact absurd o3.2.1 (by omega)
    have hl0 : h0 < s.heap.size := o0.lt
    have hP : va_P g.1 kcl [(h0, .inr (1, [.ref q, .int (nI 0), .int mo2])), (q, .inl (g.2.1.1, cap2, .inr (.inr (.inr (.inr f2)))))] H := k_two o2 a2
    have hD : va_D A [(h0, .inr (1, [.ref q, .int (nI 0), .int mo2])), (q, .inl (g.2.1.1, cap2, .inr (.inr (.inr (.inr f2)))))] := k_D2 (by rw [← hAe]; exact Or.inl rfl) (hA _ hq) (by show h0 ≠ q; omega)
    have hS : va_S A s.heap H locs := (hE.wk (fun q _ h => by rw [← hAe]; exact Or.inl h)).S hL
    have hany : va_Any "java/lang/Object" s H e0 := (hk.kept (hE.2 e0 hk.lt (hk.ne hK o0))).any hKK
    refine lv_astore_n (lv' := [(2, .ref q), (0, .ref h0), (1, .ref e0), (3, .int (nI 0))]) hx hb d_AL_add2_10 rfl hl (by decide) rfl (fun ls hl => ?_)
    refine lv_aload_n hx hb d_AL_add2_11 rfl (lv_at hl 0 rfl) ?_
    refine lv_iload_n hx hb d_AL_add2_12 rfl (lv_at hl 3 rfl) ?_
    refine lv_aload_n hx hb d_AL_add2_13 rfl (lv_at hl 2 rfl) ?_
    refine va_astqM (D := g.1) (E := "java/lang/Object") hx hb hK hP hD hS 1 0 rfl rfl hany (vp_in_nI (show 0 < cap2 by omega) (by omega)) d_AL_add2_14 (fun H locs hP hD hS => ?_)
    rw [nI_clamp (show 0 < 2 ^ 31 by omega)] at hP hD
    have hP : va_P g.1 kcl [(h0, .inr (1, [.ref q, .int (nI 0), .int mo2])), (q, .inl (g.2.1.1, cap2, .inr (.inr (.inr (.inr (va_up f2 0 (some e0)))))))] H := hP
    have hD : va_D A [(h0, .inr (1, [.ref q, .int (nI 0), .int mo2])), (q, .inl (g.2.1.1, cap2, .inr (.inr (.inr (.inr (va_up f2 0 (some e0)))))))] := hD
    refine lv_aload_n hx hb d_AL_add2_15 rfl (lv_at hl 1 rfl) ?_
    refine lv_iload_n hx hb d_AL_add2_16 rfl (lv_at hl 3 rfl) ?_
    refine lv_iconst (v := 1) hx hb d_AL_add2_17 (by decide) ?_
    refine lv_iadd hx hb d_AL_add2_18 ?_
    rw [nI_1]
    refine va_put (D := g.1) (ci := 1) (v := .int (nI (0 + 1))) (ty := .int) (C := "java/util/ArrayList") (T := kT_AL) (N := 3) hx hb hts ki_AL kt_AL ko_AL kn_AL hown hK hP hD hS 0 rfl rfl 1 (by decide) (hts _ kw_44) (fun _ h9 => h9) rfl (by decide +kernel) rfl rfl (Nat.le_of_ble_eq_true rfl) d_AL_add2_19 (fun H locs hP hD hS => ?_)
    have hP : va_P g.1 kcl [(h0, .inr (1, [.ref q, .int (nI (0 + 1)), .int mo2])), (q, .inl (g.2.1.1, cap2, .inr (.inr (.inr (.inr (va_up f2 0 (some e0)))))))] H := hP
    have hD : va_D A [(h0, .inr (1, [.ref q, .int (nI (0 + 1)), .int mo2])), (q, .inl (g.2.1.1, cap2, .inr (.inr (.inr (.inr (va_up f2 0 (some e0)))))))] := hD
    have hE1 : kE (fun q => q = h0 ∨ (q = g.2.2.2.1 ∧ 0 < 0)) s.heap H := (kE.ofS hS).wk (fun q hq h => by rw [← hAe] at h; rcases h with h | h | h; exact Or.inl h; exact Or.inr h; omega)
    have hup : ∀ i, i < 0 + 1 → va_up f2 0 (some e0) i = some (va_up el 0 e0 i) := k_up k6
    refine W.widen (k := 1) (n := 100) (by omega) (by omega) ?_
    exact W.vret hx hb hr (fun t ht hW => ⟨_, rfl, rfl, q, cap2, by rw [ht]; exact hE1, Or.inr hq, by rw [ht]; exact ⟨_, k_at0 hP 0 rfl, Or.inr ⟨_, k_at0 hP 1 rfl, by omega, by omega, by omega, hup⟩⟩⟩) hS.2.2 d_AL_add2_22
  · skip
    obtain ⟨hcap, f, a0, h3, h4, h5, h6⟩ := o1
    subst hcap
    generalize hAe : (fun q : Nat => q = h0 ∨ (q = arr ∧ 0 < n) ∨ s.heap.size ≤ q) = A
    have hA : ∀ q : Nat, s.heap.size ≤ q → A q := fun q h => by rw [← hAe]; exact Or.inr (Or.inr h)
    have hS : va_S A s.heap s.heap [] := va_S.rf
    have hP : va_P g.1 kcl [(h0, .inr (1, [.ref arr, .int (nI n), .int mo])), (arr, .inl (g.2.1.1, n, .inr (.inr (.inr (.inr f)))))] s.heap := k_two o0 a0
    have hD : va_D A [(h0, .inr (1, [.ref arr, .int (nI n), .int mo])), (arr, .inl (g.2.1.1, n, .inr (.inr (.inr (.inr f)))))] := k_D2 (by rw [← hAe]; exact Or.inl rfl) (by rw [← hAe]; exact Or.inr (Or.inl ⟨rfl, by omega⟩)) (k_alne hK o0 a0)
    refine lv_iload_n hx hb d_AL_add2_0 rfl (lv_at hl 3 rfl) ?_
    refine lv_aload_n hx hb d_AL_add2_1 rfl (lv_at hl 2 rfl) ?_
    refine va_alen (D := g.1) (v := nI n) (ty := .object "java/lang/Object") hx hb hK hP 1 0 rfl rfl rfl d_AL_add2_2 ?_
    refine lv_icmp_ne (tgt := 11) hx hb d_AL_add2_3 (by decide) (fun c_1 => ?_) (fun c_1 => ?_)
    · exact absurd c_1 (fun q => q rfl)
    refine lv_aload_n hx hb d_AL_add2_6 rfl (lv_at hl 0 rfl) ?_
    refine k_call (A := A) (W.runV (As := []) (rest := []) ⟨hx, hb, hml, hown, hts⟩ (c_AL_grow l g s.heap h0 arr n n el hB o rfl hn2 he) (cwV 0 hts (kV_good kw_143 kw_140 kw_142 ks_AL_grow kw_4) rfl rfl rfl (by decide +kernel) ⟨Nat.le_of_ble_eq_true rfl, Nat.le_of_ble_eq_true rfl⟩) (k_preV (KK_st g) hKK (kAL.recv ⟨_, _, o⟩ hK)) rfl rfl hl.1 rfl (lv_room (Nat.le_of_ble_eq_true rfl)) d_AL_add2_7 ⟨Nat.le_of_ble_eq_true rfl, Nat.le_of_ble_eq_true rfl⟩) hS.2.2 (fun q h => by rw [← hAe]; exact h) (fun v H locs hv hL => ?_)
    obtain ⟨q, cap2, rfl, hq, hc2, hE, mo2, o2, o3⟩ := hv
    rcases o3 with o3 | ⟨f2, a2, k3, k4, k5, k6⟩
    · exact absurd o3.2.1 (by omega)
    have hl0 : h0 < s.heap.size := o0.lt
    have hP : va_P g.1 kcl [(h0, .inr (1, [.ref q, .int (nI n), .int mo2])), (q, .inl (g.2.1.1, cap2, .inr (.inr (.inr (.inr f2)))))] H := k_two o2 a2
    have hD : va_D A [(h0, .inr (1, [.ref q, .int (nI n), .int mo2])), (q, .inl (g.2.1.1, cap2, .inr (.inr (.inr (.inr f2)))))] := k_D2 (by rw [← hAe]; exact Or.inl rfl) (hA _ hq) (by show h0 ≠ q; omega)
    have hS : va_S A s.heap H locs := (hE.wk (fun q _ h => by rw [← hAe]; exact Or.inl h)).S hL
    have hany : va_Any "java/lang/Object" s H e0 := (hk.kept (hE.2 e0 hk.lt (hk.ne hK o0))).any hKK
    refine lv_astore_n (lv' := [(2, .ref q), (0, .ref h0), (1, .ref e0), (3, .int (nI n))]) hx hb d_AL_add2_10 rfl hl (by decide) rfl (fun ls hl => ?_)
    refine lv_aload_n hx hb d_AL_add2_11 rfl (lv_at hl 0 rfl) ?_
    refine lv_iload_n hx hb d_AL_add2_12 rfl (lv_at hl 3 rfl) ?_
    refine lv_aload_n hx hb d_AL_add2_13 rfl (lv_at hl 2 rfl) ?_
    refine va_astqM (D := g.1) (E := "java/lang/Object") hx hb hK hP hD hS 1 0 rfl rfl hany (vp_in_nI (show n < cap2 by omega) (by omega)) d_AL_add2_14 (fun H locs hP hD hS => ?_)
    rw [nI_clamp (show n < 2 ^ 31 by omega)] at hP hD
    have hP : va_P g.1 kcl [(h0, .inr (1, [.ref q, .int (nI n), .int mo2])), (q, .inl (g.2.1.1, cap2, .inr (.inr (.inr (.inr (va_up f2 n (some e0)))))))] H := hP
    have hD : va_D A [(h0, .inr (1, [.ref q, .int (nI n), .int mo2])), (q, .inl (g.2.1.1, cap2, .inr (.inr (.inr (.inr (va_up f2 n (some e0)))))))] := hD
    refine lv_aload_n hx hb d_AL_add2_15 rfl (lv_at hl 1 rfl) ?_
    refine lv_iload_n hx hb d_AL_add2_16 rfl (lv_at hl 3 rfl) ?_
    refine lv_iconst (v := 1) hx hb d_AL_add2_17 (by decide) ?_
    refine lv_iadd hx hb d_AL_add2_18 ?_
    rw [nI_1]
    refine va_put (D := g.1) (ci := 1) (v := .int (nI (n + 1))) (ty := .int) (C := "java/util/ArrayList") (T := kT_AL) (N := 3) hx hb hts ki_AL kt_AL ko_AL kn_AL hown hK hP hD hS 0 rfl rfl 1 (by decide) (hts _ kw_44) (fun _ h9 => h9) rfl (by decide +kernel) rfl rfl (Nat.le_of_ble_eq_true rfl) d_AL_add2_19 (fun H locs hP hD hS => ?_)
    have hP : va_P g.1 kcl [(h0, .inr (1, [.ref q, .int (nI (n + 1)), .int mo2])), (q, .inl (g.2.1.1, cap2, .inr (.inr (.inr (.inr (va_up f2 n (some e0)))))))] H := hP
    have hD : va_D A [(h0, .inr (1, [.ref q, .int (nI (n + 1)), .int mo2])), (q, .inl (g.2.1.1, cap2, .inr (.inr (.inr (.inr (va_up f2 n (some e0)))))))] := hD
    have hE1 : kE (fun q => q = h0 ∨ (q = arr ∧ 0 < n)) s.heap H := (kE.ofS hS).wk (fun q hq h => by rw [← hAe] at h; rcases h with h | h | h; exact Or.inl h; exact Or.inr h; omega)
    have hup : ∀ i, i < n + 1 → va_up f2 n (some e0) i = some (va_up el n e0 i) := k_up k6
    refine W.widen (k := 1) (n := 100) (by omega) (by omega) ?_
    exact W.vret hx hb hr (fun t ht hW => ⟨_, rfl, rfl, q, cap2, by rw [ht]; exact hE1, Or.inr hq, by rw [ht]; exact ⟨_, k_at0 hP 0 rfl, Or.inr ⟨_, k_at0 hP 1 rfl, by omega, by omega, by omega, hup⟩⟩⟩) hS.2.2 d_AL_add2_22
  · skip
    obtain ⟨hcap, f, a0, h3, h4, h5, h6⟩ := o1
    generalize hAe : (fun q : Nat => q = h0 ∨ (q = arr ∧ 0 < cap) ∨ s.heap.size ≤ q) = A
    have hA : ∀ q : Nat, s.heap.size ≤ q → A q := fun q h => by rw [← hAe]; exact Or.inr (Or.inr h)
    have hS : va_S A s.heap s.heap [] := va_S.rf
    have hP : va_P g.1 kcl [(h0, .inr (1, [.ref arr, .int (nI n), .int mo])), (arr, .inl (g.2.1.1, cap, .inr (.inr (.inr (.inr f)))))] s.heap := k_two o0 a0
    have hD : va_D A [(h0, .inr (1, [.ref arr, .int (nI n), .int mo])), (arr, .inl (g.2.1.1, cap, .inr (.inr (.inr (.inr f)))))] := k_D2 (by rw [← hAe]; exact Or.inl rfl) (by rw [← hAe]; exact Or.inr (Or.inl ⟨rfl, by omega⟩)) (k_alne hK o0 a0)
    have hany : va_Any "java/lang/Object" s s.heap e0 := hk.any hKK
    refine lv_iload_n hx hb d_AL_add2_0 rfl (lv_at hl 3 rfl) ?_
    refine lv_aload_n hx hb d_AL_add2_1 rfl (lv_at hl 2 rfl) ?_
    refine va_alen (D := g.1) (v := nI cap) (ty := .object "java/lang/Object") hx hb hK hP 1 0 rfl rfl rfl d_AL_add2_2 ?_
    refine lv_icmp_ne (tgt := 11) hx hb d_AL_add2_3 (by decide) (fun c_1 => ?_) (fun c_1 => ?_)
    rotate_left
    · exact absurd c_1 (fun z => absurd ((nI_eq (by omega) (by omega)).mp z) (by omega))
    refine lv_aload_n hx hb d_AL_add2_11 rfl (lv_at hl 2 rfl) ?_
    refine lv_iload_n hx hb d_AL_add2_12 rfl (lv_at hl 3 rfl) ?_
    refine lv_aload_n hx hb d_AL_add2_13 rfl (lv_at hl 1 rfl) ?_
    refine va_astqM (D := g.1) (E := "java/lang/Object") hx hb hK hP hD hS 1 0 rfl rfl hany (vp_in_nI (show n < cap by omega) (by omega)) d_AL_add2_14 (fun H locs hP hD hS => ?_)
    rw [nI_clamp (show n < 2 ^ 31 by omega)] at hP hD
    have hP : va_P g.1 kcl [(h0, .inr (1, [.ref arr, .int (nI n), .int mo])), (arr, .inl (g.2.1.1, cap, .inr (.inr (.inr (.inr (va_up f n (some e0)))))))] H := hP
    have hD : va_D A [(h0, .inr (1, [.ref arr, .int (nI n), .int mo])), (arr, .inl (g.2.1.1, cap, .inr (.inr (.inr (.inr (va_up f n (some e0)))))))] := hD
    refine lv_aload_n hx hb d_AL_add2_15 rfl (lv_at hl 0 rfl) ?_
    refine lv_iload_n hx hb d_AL_add2_16 rfl (lv_at hl 3 rfl) ?_
    refine lv_iconst (v := 1) hx hb d_AL_add2_17 (by decide) ?_
    refine lv_iadd hx hb d_AL_add2_18 ?_
    rw [nI_1]
    refine va_put (D := g.1) (ci := 1) (v := .int (nI (n + 1))) (ty := .int) (C := "java/util/ArrayList") (T := kT_AL) (N := 3) hx hb hts ki_AL kt_AL ko_AL kn_AL hown hK hP hD hS 0 rfl rfl 1 (by decide) (hts _ kw_44) (fun _ h9 => h9) rfl (by decide +kernel) rfl rfl (Nat.le_of_ble_eq_true rfl) d_AL_add2_19 (fun H locs hP hD hS => ?_)
    have hP : va_P g.1 kcl [(h0, .inr (1, [.ref arr, .int (nI (n + 1)), .int mo])), (arr, .inl (g.2.1.1, cap, .inr (.inr (.inr (.inr (va_up f n (some e0)))))))] H := hP
    have hD : va_D A [(h0, .inr (1, [.ref arr, .int (nI (n + 1)), .int mo])), (arr, .inl (g.2.1.1, cap, .inr (.inr (.inr (.inr (va_up f n (some e0)))))))] := hD
    have hE1 : kE (fun q => q = h0 ∨ (q = arr ∧ 0 < cap)) s.heap H := (kE.ofS hS).wk (fun q hq h => by rw [← hAe] at h; rcases h with h | h | h; exact Or.inl h; exact Or.inr h; omega)
    have hup : ∀ i, i < n + 1 → va_up f n (some e0) i = some (va_up el n e0 i) := k_up h6
    refine W.widen (k := 1) (n := 100) (by omega) (by omega) ?_
    exact W.vret hx hb hr (fun t ht hW => ⟨_, rfl, rfl, arr, cap, by rw [ht]; exact hE1, Or.inl ⟨rfl, rfl⟩, by rw [ht]; exact ⟨_, k_at0 hP 0 rfl, Or.inr ⟨_, k_at0 hP 1 rfl, by omega, by omega, by omega, hup⟩⟩⟩) hS.2.2 d_AL_add2_22
/-- a list whose count of changes alone changes -/
theorem kALx.mod {g : KGt} {la arr cap n : Nat} {el : Nat → Nat} {H H1 : Heap} {s : State} {fs : List Value} {mo : Int32} (h : kALx g la arr cap n el H) (hK : va_K g.1 kcl (kTy g) s) (o : va_at g.1 kcl (la, .inr (1, fs)) H) (hE : kE (fun q => q = la) H H1) (o2 : va_at g.1 kcl (la, .inr (1, [.ref arr, .int (nI n), .int mo])) H1) : kALx g la arr cap n el H1 := by
  obtain ⟨mo1, h1, h2 | ⟨f, h2, h3⟩⟩ := h
  · exact ⟨mo, o2, Or.inl h2⟩
  · exact ⟨mo, o2, Or.inr ⟨f, hE.at h2 (k_alne hK o h2).symm, h3⟩⟩
section KP1
variable {p : Program} {l : Launch} {e : Env} {R : Room} {s : State} {m : MethodId} {args : Array Value} {below : List Frame} {meth : Method} {c : Code} {H : Heap} {locs : List Loc} {cells slots : Nat} {Q : State → Prop}
variable {cc : ByteArray} {pc : Nat} {ls : Array Slot} {rest : List Value} {g : KGt} {A : Nat → Prop}
/-- modCount is written: all other cells stay -/
theorem k_put1 (hexec : p.tables.exec = Jvm.exec) (hb : c.code = cc) {own ref : String} {index a : Nat} {v0 v1 : Value} {mo x : Int32} (hts : ∀ w ∈ kG, w.before args s = true) (hown : s.vm.findClass own = some m.cls) (hK : va_K g.1 kcl (kTy g) s) (ho : va_at g.1 kcl (a, .inr (1, [v0, v1, .int mo])) H) (hL : ∀ q ∈ locs, A q.base) (ha : A a)
    (hlink : (Cond.fieldLink own index ref "modCount" "I").before args s = true) (hsame : ∀ x, s.fieldFound? "java/util/AbstractList" "modCount" "I" = some x → s.fieldFound? ref "modCount" "I" = some x) (hdg : decode cc pc = .ok (.putfield index, 3))
    (kk : ∀ (H1 : Heap) (locs1 : List Loc), va_at g.1 kcl (a, .inr (1, [v0, v1, .int x])) H1 → H1.size = H.size → (∀ q : Nat, q ≠ a → H1[q]? = H[q]?) → (∀ q ∈ locs1, A q.base) → W p l e R s m args below meth c H1 locs1 cells slots Q (F0 m (pc + 3) ls rest)) : W p l e R s m args below meth c H locs cells slots Q (F0 m pc ls (.int x :: .ref a :: rest)) := by
  have hap := va_apart (own := own) hts ki_AL kt_AL ko_AL kn_AL hK (ci := 1) rfl
  obtain ⟨r, h1, cell, q1, q2, q3, q4⟩ := ho
  cases h1
  obtain ⟨hSl, hfc, kC, hkC, hkind⟩ := hK.1 1 _ rfl
  obtain ⟨cf, kf, fi, f, hi, hsl⟩ := hSl 2 (by decide)
  have hlay := hts _ (ki_AL _ (u_in_lay (k := 2) (by decide)))
  have hst := (u_facts hfc hkC (u_lays hts ki_AL (k := 2) (by decide)) hi).1
  have h6 := u_store (v := .int x) hfc hkC hkind hlay hi (show parseFieldDescriptor "I" = some .int by decide +kernel) rfl rfl
  refine W.putK hexec hb (f := f) ⟨hown, hlink, ⟨_, _, _, hsame _ hi⟩, hst⟩ (by rw [q2]; exact h6) q1 q3 (by rw [hsl]; exact k2_hasslot (q4 2 (by decide))) rfl rfl hdg fun H1 e1 e2 e3 => ?_
  rw [hsl] at e1
  refine kk H1 _ ⟨_, rfl, t_OB.to (V := updV (vp_V [v0, v1, .int mo]) 2 (.int x)) ⟨_, e1, q2, q3, t_set q4 hap (by decide) (.int x)⟩ (fun j _ => vp_updV_set (fs := [v0, v1, .int mo]) (k := 2) (Nat.le_of_ble_eq_true rfl) (.int x) j)⟩ e2 e3 (t_lc hL ha)
end KP1
set_option maxHeartbeats 4000000 in
set_option maxRecDepth 100000 in
theorem c_AL_add (l : Launch) (g : KGt) (H0 : Heap) (h0 arr cap n e0 : Nat) (el : Nat → Nat) (hB : kB g H0) (o : kALx g h0 arr cap n el H0) (hg : g.2.2.1.size ≤ h0) (hn2 : n ≤ 60) (he : ∀ i, i < n → kObj g (el i) H0) (hk : kObj g e0 H0) : Met l y_AL_add (kW y_AL_add b_AL_add 2 (.some .boolean)) ({ frames := 6, cells := 1, slots := 100, locals := 150 }) (kPc [.ref h0, .ref e0] (KK g) H0) (kQc (fun v H1 => v = some (.int 1) ∧ ∃ arr2 cap2 : Nat, kE (fun q => q = h0 ∨ (q = arr ∧ 0 < cap)) H0 H1 ∧ (arr2 = arr ∧ cap2 = cap ∨ H0.size ≤ arr2) ∧ kALx g h0 arr2 cap2 (n + 1) (va_up el n e0) H1)) 1 100 (fun q : Nat => q = h0 ∨ (q = arr ∧ 0 < cap) ∨ H0.size ≤ q) := by
  refine va_MetF (cc := b_AL_add) (maxL := 2) (ret := (.some .boolean)) (by decide +kernel) rfl ?_
  intro p e s m args below meth c s₁ B hml hv
  obtain ⟨rfl, hH, hKK⟩ := hv
  have hx := B.exec
  have hb := B.bytes
  have hr := B.returns
  have hts := kW_ts (atoms_spec (ws := kW y_AL_add b_AL_add 2 (.some .boolean)) B.pre)
  have hown : s.vm.findClass "java/util/ArrayList" = some m.cls := findClass_of_methodNamed B.named
  have hlocks := B.notSynchronized
  have hK := hKK.1
  subst hH
  have hl := lv_entry ([.ref h0, .ref e0]) (n := 2) (Nat.le_of_ble_eq_true rfl)
  rw [lg_entry_eq]
  generalize (lg_sl ([.ref h0, .ref e0]) ++ List.replicate (2 - (lg_sl ([.ref h0, .ref e0])).length) Slot.unset).toArray = ls at hl ⊢
  have hl : lv_has ls 2 [(0, .ref h0), (1, .ref e0)] := hl
  obtain ⟨mo, o0, o1⟩ := id o
  generalize hAe : (fun q : Nat => q = h0 ∨ (q = arr ∧ 0 < cap) ∨ s.heap.size ≤ q) = A
  have hA : ∀ q : Nat, s.heap.size ≤ q → A q := fun q h => by rw [← hAe]; exact Or.inr (Or.inr h)
  have hS : va_S A s.heap s.heap [] := va_S.rf
  have hP : va_P g.1 kcl [(h0, .inr (1, [.ref arr, .int (nI n), .int mo]))] s.heap := k_one o0
  have hD : va_D A [(h0, .inr (1, [.ref arr, .int (nI n), .int mo]))] := k_D1 (by rw [← hAe]; exact Or.inl rfl)
  refine lv_aload_n hx hb d_AL_add_0 rfl (lv_at hl 0 rfl) ?_
  refine lv_dup hx hb d_AL_add_1 rfl ?_
  refine va_get (D := g.1) (ci := 1) (v := .int mo) (C := "java/util/ArrayList") (T := kT_AL) (N := 3) hx hb hts ki_AL hown hK hP 0 rfl rfl 2 (by decide) (hts _ kw_46) (u_same (hts _ kw_47)) rfl d_AL_add_2 ?_
  refine lv_iconst (v := 1) hx hb d_AL_add_5 (by decide) ?_
  refine lv_iadd hx hb d_AL_add_6 ?_
  refine k_put1 (g := g) (A := A) hx hb hts hown hK o0 (fun _ h => by cases h) (by rw [← hAe]; exact Or.inl rfl) (hts _ kw_46) (u_same (hts _ kw_47)) d_AL_add_7 (fun H locs o2 hz hE hL => ?_)
  have hE1 : kE (fun q => q = h0) s.heap H := ⟨by omega, fun q _ hq => hE q hq⟩
  have hP : va_P g.1 kcl [(h0, .inr (1, [.ref arr, .int (nI n), .int (mo + 1)]))] H := k_one o2
  have hS : va_S A s.heap H locs := (hE1.wk (fun q _ h => by rw [← hAe]; exact Or.inl h)).S hL
  have o9 : kALx g h0 arr cap n el H := o.mod hK o0 hE1 o2
  refine lv_aload_n hx hb d_AL_add_10 rfl (lv_at hl 0 rfl) ?_
  refine lv_aload_n hx hb d_AL_add_11 rfl (lv_at hl 1 rfl) ?_
  refine lv_aload_n hx hb d_AL_add_12 rfl (lv_at hl 0 rfl) ?_
  refine va_get (D := g.1) (ci := 1) (v := .ref arr) (C := "java/util/ArrayList") (T := kT_AL) (N := 3) hx hb hts ki_AL hown hK hP 0 rfl rfl 0 (by decide) (hts _ kw_43) (fun _ h9 => h9) rfl d_AL_add_13 ?_
  refine lv_aload_n hx hb d_AL_add_16 rfl (lv_at hl 0 rfl) ?_
  refine va_get (D := g.1) (ci := 1) (v := .int (nI n)) (C := "java/util/ArrayList") (T := kT_AL) (N := 3) hx hb hts ki_AL hown hK hP 0 rfl rfl 1 (by decide) (hts _ kw_44) (fun _ h9 => h9) rfl d_AL_add_17 ?_
  refine k_call (A := A) (W.runV (As := [.ref e0, .ref arr, .int (nI n)]) (rest := []) ⟨hx, hb, hml, hown, hts⟩ (c_AL_add2 l g H h0 arr cap n e0 el (hB.tr hE1 (fun q hq h => by omega)) o9 hn2 (fun i hi => (he i hi).kept (hE1.2 _ (he i hi).lt ((he i hi).ne hK o0))) (hk.kept (hE1.2 _ hk.lt (hk.ne hK o0)))) (cwV 3 hts (kV_good kw_139 kw_136 kw_138 ks_AL_add2 kw_4) rfl rfl rfl (by decide +kernel) ⟨Nat.le_of_ble_eq_true rfl, Nat.le_of_ble_eq_true rfl⟩) (k_preV (KK_st g) hKK (va_recv hK hP (ci := 1) (q0 := 0) rfl rfl)) rfl rfl hl.1 rfl (lv_room (Nat.le_of_ble_eq_true rfl)) d_AL_add_20 ⟨Nat.le_of_ble_eq_true rfl, Nat.le_of_ble_eq_true rfl⟩) hS.2.2 (fun q h => by rw [← hAe]; rcases h with h | h | h; exact Or.inl h; exact Or.inr (Or.inl h); exact Or.inr (Or.inr (Nat.le_trans hS.1 h))) (fun v H2 locs hv hL => ?_)
  obtain ⟨rfl, arr2, cap2, hE2, h4, h5⟩ := hv
  refine lv_iconst (v := 1) hx hb d_AL_add_23 (by decide) ?_
  exact W.zret (v := 1) (ty := .boolean) hx hb hr rfl (fun t ht hW => ⟨_, rfl, rfl, arr2, cap2, by rw [ht]; exact (hE1.wk (fun q _ h => Or.inl h)).tr hE2 (fun q _ h => h), (by rcases h4 with h4 | h4; exact Or.inl h4; exact Or.inr (Nat.le_trans hE1.1 h4)), by rw [ht]; exact h5⟩) hL d_AL_add_24
theorem k_up2 {f : Nat → Option Nat} {el : Nat → Nat} {n e i : Nat} (h : ∀ i, i < n → f i = some (el i)) : ∀ j, j < n → va_up f i (some e) j = some (va_up el i e j) := by
  intro j hj
  by_cases q : j = i
  · subst q
    rw [va_up_self, va_up_self]
  · rw [va_up_ne _ _ q, va_up_ne _ _ q]
    exact h j hj
theorem k_up3 {f : Nat → Option Nat} {el : Nat → Nat} {n : Nat} (h : ∀ i, i < n + 1 → f i = some (el i)) : ∀ j, j < n → va_up f n none j = some (el j) := by
  intro j hj
  rw [va_up_ne _ _ (by omega)]
  exact h j (by omega)
set_option maxHeartbeats 4000000 in
set_option maxRecDepth 100000 in
theorem c_AL_set (l : Launch) (g : KGt) (H0 : Heap) (h0 arr cap n i e0 : Nat) (el : Nat → Nat) (o : kALx g h0 arr cap n el H0) (hi : i < n) (hk : kObj g e0 H0) : Met l y_AL_set (kW y_AL_set b_AL_set 4 (.some (.object "java/lang/Object"))) ({ frames := 2, cells := 0, slots := 0, locals := 43 }) (kPc [.ref h0, .int (nI i), .ref e0] (KK g) H0) (kQc (fun v H1 => v = some (.ref (el i)) ∧ kE (fun q => q = arr ∧ 0 < cap) H0 H1 ∧ kALx g h0 arr cap n (va_up el i e0) H1)) 0 0 (fun q : Nat => (q = arr ∧ 0 < cap) ∨ H0.size ≤ q) := by
  refine va_MetF (cc := b_AL_set) (maxL := 4) (ret := (.some (.object "java/lang/Object"))) (by decide +kernel) rfl ?_
  intro p e s m args below meth c s₁ B hml hv
  obtain ⟨rfl, hH, hKK⟩ := hv
  have hx := B.exec
  have hb := B.bytes
  have hr := B.returns
  have hts := kW_ts (atoms_spec (ws := kW y_AL_set b_AL_set 4 (.some (.object "java/lang/Object"))) B.pre)
  have hown : s.vm.findClass "java/util/ArrayList" = some m.cls := findClass_of_methodNamed B.named
  have hlocks := B.notSynchronized
  have hK := hKK.1
  subst hH
  have hl := lv_entry ([.ref h0, .int (nI i), .ref e0]) (n := 4) (Nat.le_of_ble_eq_true rfl)
  rw [lg_entry_eq]
  generalize (lg_sl ([.ref h0, .int (nI i), .ref e0]) ++ List.replicate (4 - (lg_sl ([.ref h0, .int (nI i), .ref e0])).length) Slot.unset).toArray = ls at hl ⊢
  have hl : lv_has ls 4 [(0, .ref h0), (1, .int (nI i)), (2, .ref e0)] := hl
  obtain ⟨mo, f, o0, a0, h1, h2, h3⟩ := id (o.pos hi)
  have h10 : 10 ≤ cap := by
    obtain ⟨mo1, h1, h2 | ⟨f, h2, h3, h4, h5⟩⟩ := id o <;> omega
  generalize hAe : (fun q : Nat => (q = arr ∧ 0 < cap) ∨ s.heap.size ≤ q) = A
  have hA : ∀ q : Nat, s.heap.size ≤ q → A q := fun q h => by rw [← hAe]; exact Or.inr h
  have hS : va_S A s.heap s.heap [] := va_S.rf
  have hP : va_P g.1 kcl [(arr, .inl (g.2.1.1, cap, .inr (.inr (.inr (.inr f)))))] s.heap := k_one a0
  have hD : va_D A [(arr, .inl (g.2.1.1, cap, .inr (.inr (.inr (.inr f)))))] := k_D1 (by rw [← hAe]; exact Or.inl ⟨rfl, by omega⟩)
  have hany : va_Any "java/lang/Object" s s.heap e0 := hk.any hKK
  refine lv_iload_n hx hb d_AL_set_0 rfl (lv_at hl 1 rfl) ?_
  refine lv_aload_n hx hb d_AL_set_1 rfl (lv_at hl 0 rfl) ?_
  refine va_get (D := g.1) (ci := 1) (v := .int (nI n)) (C := "java/util/ArrayList") (T := kT_AL) (N := 3) hx hb hts ki_AL hown hK (k_one o0) 0 rfl rfl 1 (by decide) (hts _ kw_44) (fun _ h9 => h9) rfl d_AL_set_2 ?_
  refine k_pure (r := .int (nI i)) (W.runS (As := [.int (nI i), .int (nI n)]) (rest := []) ⟨hx, hb, hml, hown, hts⟩ (c_Objs_checkIndex l g s.heap (nI i) (nI n) (nI_pos (by omega)) (nI_lt hi (by omega))) (va_cwS 2 hts (kS_good kw_210 kw_208 kw_209 kw_14) rfl rfl rfl (by decide +kernel) ⟨Nat.le_of_ble_eq_true rfl, Nat.le_of_ble_eq_true rfl⟩) (k_pre (KK_st g) hKK) rfl rfl hl.1 rfl (lv_room (Nat.le_of_ble_eq_true rfl)) d_AL_set_5 ⟨Nat.zero_le _, Nat.zero_le _⟩) ?_
  refine lv_pop hx hb d_AL_set_8 rfl ?_
  refine lv_aload_n hx hb d_AL_set_9 rfl (lv_at hl 0 rfl) ?_
  refine lv_iload_n hx hb d_AL_set_10 rfl (lv_at hl 1 rfl) ?_
  refine k_pure (r := .ref (el i)) (W.runV (As := [.int (nI i)]) (rest := []) ⟨hx, hb, hml, hown, hts⟩ (c_AL_elementData l g s.heap h0 n el i hi ⟨_, _, o⟩) (cwV 1 hts (kV_good kw_217 kw_214 kw_215 kw_216 kw_4) rfl rfl rfl (by decide +kernel) ⟨Nat.le_of_ble_eq_true rfl, Nat.le_of_ble_eq_true rfl⟩) (k_preV (KK_st g) hKK (kAL.recv ⟨_, _, o⟩ hK)) rfl rfl hl.1 rfl (lv_room (Nat.le_of_ble_eq_true rfl)) d_AL_set_11 ⟨Nat.zero_le _, Nat.zero_le _⟩) ?_
  refine lv_astore_n (lv' := [(3, .ref (el i)), (0, .ref h0), (1, .int (nI i)), (2, .ref e0)]) hx hb d_AL_set_14 rfl hl (by decide) rfl (fun ls hl => ?_)
  refine lv_aload_n hx hb d_AL_set_15 rfl (lv_at hl 1 rfl) ?_
  refine va_get (D := g.1) (ci := 1) (v := .ref arr) (C := "java/util/ArrayList") (T := kT_AL) (N := 3) hx hb hts ki_AL hown hK (k_one o0) 0 rfl rfl 0 (by decide) (hts _ kw_43) (fun _ h9 => h9) rfl d_AL_set_16 ?_
  refine lv_iload_n hx hb d_AL_set_19 rfl (lv_at hl 2 rfl) ?_
  refine lv_aload_n hx hb d_AL_set_20 rfl (lv_at hl 3 rfl) ?_
  refine va_astqM (D := g.1) (E := "java/lang/Object") hx hb hK hP hD hS 0 0 rfl rfl hany (vp_in_nI (show i < cap by omega) (by omega)) d_AL_set_21 (fun H locs hP hD hS => ?_)
  rw [nI_clamp (show i < 2 ^ 31 by omega)] at hP hD
  have hP : va_P g.1 kcl [(arr, .inl (g.2.1.1, cap, .inr (.inr (.inr (.inr (va_up f i (some e0)))))))] H := hP
  have hD : va_D A [(arr, .inl (g.2.1.1, cap, .inr (.inr (.inr (.inr (va_up f i (some e0)))))))] := hD
  refine lv_aload_n hx hb d_AL_set_22 rfl (lv_at hl 0 rfl) ?_
  have hE1 : kE (fun q => q = arr ∧ 0 < cap) s.heap H := (kE.ofS hS).wk (fun q hq h => by rw [← hAe] at h; rcases h with h | h; exact h; omega)
  exact W.aret (v := .ref (el i)) hx hb hr (Or.inl ⟨_, rfl⟩) (Or.inr ⟨_, rfl⟩) (fun t ht hW => ⟨_, rfl, rfl, by rw [ht]; exact hE1, by rw [ht]; exact ⟨_, hE1.at o0 (fun h => k_alne hK o0 a0 h.1), Or.inr ⟨_, k_at0 hP 0 rfl, by omega, by omega, by omega, k_up2 h3⟩⟩⟩) hS.2.2 d_AL_set_23
set_option maxHeartbeats 4000000 in
set_option maxRecDepth 100000 in
theorem c_AL_fastRemove (l : Launch) (g : KGt) (H0 : Heap) (h0 arr cap k : Nat) (el : Nat → Nat) (o : kALx g h0 arr cap (k + 1) el H0) : Met l y_AL_fastRemove (kW y_AL_fastRemove b_AL_fastRemove 4 (.none : Option FieldType)) ({ frames := 0, cells := 0, slots := 0, locals := 0 }) (kPc [.ref h0, .ref arr, .int (nI k)] (KK g) H0) (kQc (fun v H1 => v = none ∧ kE (fun q => q = h0 ∨ (q = arr ∧ 0 < cap)) H0 H1 ∧ kALx g h0 arr cap k el H1)) 0 0 (fun q : Nat => q = h0 ∨ (q = arr ∧ 0 < cap) ∨ H0.size ≤ q) := by
  refine va_MetF (cc := b_AL_fastRemove) (maxL := 4) (ret := (.none : Option FieldType)) (by decide +kernel) rfl ?_
  intro p e s m args below meth c s₁ B hml hv
  obtain ⟨rfl, hH, hKK⟩ := hv
  have hx := B.exec
  have hb := B.bytes
  have hr := B.returns
  have hts := kW_ts (atoms_spec (ws := kW y_AL_fastRemove b_AL_fastRemove 4 (.none : Option FieldType)) B.pre)
  have hown : s.vm.findClass "java/util/ArrayList" = some m.cls := findClass_of_methodNamed B.named
  have hlocks := B.notSynchronized
  have hK := hKK.1
  subst hH
  have hl := lv_entry ([.ref h0, .ref arr, .int (nI k)]) (n := 4) (Nat.le_of_ble_eq_true rfl)
  rw [lg_entry_eq]
  generalize (lg_sl ([.ref h0, .ref arr, .int (nI k)]) ++ List.replicate (4 - (lg_sl ([.ref h0, .ref arr, .int (nI k)])).length) Slot.unset).toArray = ls at hl ⊢
  have hl : lv_has ls 4 [(0, .ref h0), (1, .ref arr), (2, .int (nI k))] := hl
  obtain ⟨mo, f, o0, a0, h1, h2, h3⟩ := id (o.pos (Nat.lt_succ_self k))
  have h10 : 10 ≤ cap := by
    obtain ⟨mo1, h1, h2 | ⟨f, h2, h3, h4, h5⟩⟩ := id o <;> omega
  generalize hAe : (fun q : Nat => q = h0 ∨ (q = arr ∧ 0 < cap) ∨ s.heap.size ≤ q) = A
  have hA : ∀ q : Nat, s.heap.size ≤ q → A q := fun q h => by rw [← hAe]; exact Or.inr (Or.inr h)
  have hS : va_S A s.heap s.heap [] := va_S.rf
  have hP : va_P g.1 kcl [(h0, .inr (1, [.ref arr, .int (nI (k + 1)), .int mo])), (arr, .inl (g.2.1.1, cap, .inr (.inr (.inr (.inr f)))))] s.heap := k_two o0 a0
  have hD : va_D A [(h0, .inr (1, [.ref arr, .int (nI (k + 1)), .int mo])), (arr, .inl (g.2.1.1, cap, .inr (.inr (.inr (.inr f)))))] := k_D2 (by rw [← hAe]; exact Or.inl rfl) (by rw [← hAe]; exact Or.inr (Or.inl ⟨rfl, by omega⟩)) (k_alne hK o0 a0)
  refine lv_aload_n hx hb d_AL_fastRemove_0 rfl (lv_at hl 0 rfl) ?_
  refine lv_dup hx hb d_AL_fastRemove_1 rfl ?_
  refine va_get (D := g.1) (ci := 1) (v := .int mo) (C := "java/util/ArrayList") (T := kT_AL) (N := 3) hx hb hts ki_AL hown hK hP 0 rfl rfl 2 (by decide) (hts _ kw_46) (u_same (hts _ kw_47)) rfl d_AL_fastRemove_2 ?_
  refine lv_iconst (v := 1) hx hb d_AL_fastRemove_5 (by decide) ?_
  refine lv_iadd hx hb d_AL_fastRemove_6 ?_
  refine va_put (D := g.1) (ci := 1) (v := .int (mo + 1)) (ty := .int) (C := "java/util/ArrayList") (T := kT_AL) (N := 3) hx hb hts ki_AL kt_AL ko_AL kn_AL hown hK hP hD hS 0 rfl rfl 2 (by decide) (hts _ kw_46) (u_same (hts _ kw_47)) rfl (by decide +kernel) rfl rfl (Nat.le_of_ble_eq_true rfl) d_AL_fastRemove_7 (fun H locs hP hD hS => ?_)
  have hP : va_P g.1 kcl [(h0, .inr (1, [.ref arr, .int (nI (k + 1)), .int (mo + 1)])), (arr, .inl (g.2.1.1, cap, .inr (.inr (.inr (.inr f)))))] H := hP
  have hD : va_D A [(h0, .inr (1, [.ref arr, .int (nI (k + 1)), .int (mo + 1)])), (arr, .inl (g.2.1.1, cap, .inr (.inr (.inr (.inr f)))))] := hD
  refine lv_aload_n hx hb d_AL_fastRemove_10 rfl (lv_at hl 0 rfl) ?_
  refine va_get (D := g.1) (ci := 1) (v := .int (nI (k + 1))) (C := "java/util/ArrayList") (T := kT_AL) (N := 3) hx hb hts ki_AL hown hK hP 0 rfl rfl 1 (by decide) (hts _ kw_44) (fun _ h9 => h9) rfl d_AL_fastRemove_11 ?_
  refine lv_iconst (v := 1) hx hb d_AL_fastRemove_14 (by decide) ?_
  refine lv_isub hx hb d_AL_fastRemove_15 ?_
  rw [nI_pred]
  refine lv_dup hx hb d_AL_fastRemove_16 rfl ?_
  refine lv_istore_n (lv' := [(3, .int (nI k)), (0, .ref h0), (1, .ref arr), (2, .int (nI k))]) hx hb d_AL_fastRemove_17 rfl hl (by decide) rfl (fun ls hl => ?_)
  refine lv_iload_n hx hb d_AL_fastRemove_18 rfl (lv_at hl 3 rfl) ?_
  refine lv_icmp_le (tgt := 34) hx hb d_AL_fastRemove_19 (by decide) (fun c_1 => ?_) (fun c_1 => ?_)
  rotate_left
  · exact absurd c_1 (fun q => q (Int32.le_refl _))
  refine lv_aload_n hx hb d_AL_fastRemove_34 rfl (lv_at hl 2 rfl) ?_
  refine lv_aload_n hx hb d_AL_fastRemove_35 rfl (lv_at hl 1 rfl) ?_
  refine lv_iload_n hx hb d_AL_fastRemove_36 rfl (lv_at hl 0 rfl) ?_
  refine lv_dup_x1 hx hb d_AL_fastRemove_37 rfl rfl ?_
  refine va_put (D := g.1) (ci := 1) (v := .int (nI k)) (ty := .int) (C := "java/util/ArrayList") (T := kT_AL) (N := 3) hx hb hts ki_AL kt_AL ko_AL kn_AL hown hK hP hD hS 0 rfl rfl 1 (by decide) (hts _ kw_44) (fun _ h9 => h9) rfl (by decide +kernel) rfl rfl (Nat.le_of_ble_eq_true rfl) d_AL_fastRemove_38 (fun H locs hP hD hS => ?_)
  have hP : va_P g.1 kcl [(h0, .inr (1, [.ref arr, .int (nI k), .int (mo + 1)])), (arr, .inl (g.2.1.1, cap, .inr (.inr (.inr (.inr f)))))] H := hP
  have hD : va_D A [(h0, .inr (1, [.ref arr, .int (nI k), .int (mo + 1)])), (arr, .inl (g.2.1.1, cap, .inr (.inr (.inr (.inr f)))))] := hD
  refine lv_null hx hb d_AL_fastRemove_41 ?_
  refine va_astqN (D := g.1) (C := "java/lang/Object") hx hb hK hP hD hS 1 0 rfl rfl (vp_in_nI (show k < cap by omega) (by omega)) d_AL_fastRemove_42 (fun H locs hP hD hS => ?_)
  rw [nI_clamp (show k < 2 ^ 31 by omega)] at hP hD
  have hP : va_P g.1 kcl [(h0, .inr (1, [.ref arr, .int (nI k), .int (mo + 1)])), (arr, .inl (g.2.1.1, cap, .inr (.inr (.inr (.inr (va_up f k none))))))] H := hP
  have hD : va_D A [(h0, .inr (1, [.ref arr, .int (nI k), .int (mo + 1)])), (arr, .inl (g.2.1.1, cap, .inr (.inr (.inr (.inr (va_up f k none))))))] := hD
  have hE1 : kE (fun q => q = h0 ∨ (q = arr ∧ 0 < cap)) s.heap H := (kE.ofS hS).wk (fun q hq h => by rw [← hAe] at h; rcases h with h | h | h; exact Or.inl h; exact Or.inr h; omega)
  exact W.vret hx hb hr (fun t ht hW => ⟨_, rfl, rfl, by rw [ht]; exact hE1, by rw [ht]; exact ⟨_, k_at0 hP 0 rfl, Or.inr ⟨_, k_at0 hP 1 rfl, by omega, by omega, by omega, k_up3 h3⟩⟩⟩) hS.2.2 d_AL_fastRemove_43
set_option maxHeartbeats 4000000 in
set_option maxRecDepth 100000 in
theorem c_AL_remove (l : Launch) (g : KGt) (H0 : Heap) (h0 arr cap k : Nat) (el : Nat → Nat) (o : kALx g h0 arr cap (k + 1) el H0) : Met l y_AL_remove (kW y_AL_remove b_AL_remove 4 (.some (.object "java/lang/Object"))) ({ frames := 2, cells := 0, slots := 0, locals := 43 }) (kPc [.ref h0, .int (nI k)] (KK g) H0) (kQc (fun v H1 => v = some (.ref (el k)) ∧ kE (fun q => q = h0 ∨ (q = arr ∧ 0 < cap)) H0 H1 ∧ kALx g h0 arr cap k el H1)) 0 0 (fun q : Nat => q = h0 ∨ (q = arr ∧ 0 < cap) ∨ H0.size ≤ q) := by
  refine va_MetF (cc := b_AL_remove) (maxL := 4) (ret := (.some (.object "java/lang/Object"))) (by decide +kernel) rfl ?_
  intro p e s m args below meth c s₁ B hml hv
  obtain ⟨rfl, hH, hKK⟩ := hv
  have hx := B.exec
  have hb := B.bytes
  have hr := B.returns
  have hts := kW_ts (atoms_spec (ws := kW y_AL_remove b_AL_remove 4 (.some (.object "java/lang/Object"))) B.pre)
  have hown : s.vm.findClass "java/util/ArrayList" = some m.cls := findClass_of_methodNamed B.named
  have hlocks := B.notSynchronized
  have hK := hKK.1
  subst hH
  have hl := lv_entry ([.ref h0, .int (nI k)]) (n := 4) (Nat.le_of_ble_eq_true rfl)
  rw [lg_entry_eq]
  generalize (lg_sl ([.ref h0, .int (nI k)]) ++ List.replicate (4 - (lg_sl ([.ref h0, .int (nI k)])).length) Slot.unset).toArray = ls at hl ⊢
  have hl : lv_has ls 4 [(0, .ref h0), (1, .int (nI k))] := hl
  obtain ⟨mo, f, o0, a0, h1, h2, h3⟩ := id (o.pos (Nat.lt_succ_self k))
  refine lv_iload_n hx hb d_AL_remove_0 rfl (lv_at hl 1 rfl) ?_
  refine lv_aload_n hx hb d_AL_remove_1 rfl (lv_at hl 0 rfl) ?_
  refine va_get (D := g.1) (ci := 1) (v := .int (nI (k + 1))) (C := "java/util/ArrayList") (T := kT_AL) (N := 3) hx hb hts ki_AL hown hK (k_one o0) 0 rfl rfl 1 (by decide) (hts _ kw_44) (fun _ h9 => h9) rfl d_AL_remove_2 ?_
  refine k_pure (r := .int (nI k)) (W.runS (As := [.int (nI k), .int (nI (k + 1))]) (rest := []) ⟨hx, hb, hml, hown, hts⟩ (c_Objs_checkIndex l g s.heap (nI k) (nI (k + 1)) (nI_pos (by omega)) (nI_lt (by omega) (by omega))) (va_cwS 2 hts (kS_good kw_210 kw_208 kw_209 kw_14) rfl rfl rfl (by decide +kernel) ⟨Nat.le_of_ble_eq_true rfl, Nat.le_of_ble_eq_true rfl⟩) (k_pre (KK_st g) hKK) rfl rfl hl.1 rfl (lv_room (Nat.le_of_ble_eq_true rfl)) d_AL_remove_5 ⟨Nat.zero_le _, Nat.zero_le _⟩) ?_
  refine lv_pop hx hb d_AL_remove_8 rfl ?_
  refine lv_aload_n hx hb d_AL_remove_9 rfl (lv_at hl 0 rfl) ?_
  refine va_get (D := g.1) (ci := 1) (v := .ref arr) (C := "java/util/ArrayList") (T := kT_AL) (N := 3) hx hb hts ki_AL hown hK (k_one o0) 0 rfl rfl 0 (by decide) (hts _ kw_43) (fun _ h9 => h9) rfl d_AL_remove_10 ?_
  refine lv_astore_n (lv' := [(2, .ref arr), (0, .ref h0), (1, .int (nI k))]) hx hb d_AL_remove_13 rfl hl (by decide) rfl (fun ls hl => ?_)
  refine lv_aload_n hx hb d_AL_remove_14 rfl (lv_at hl 0 rfl) ?_
  refine lv_iload_n hx hb d_AL_remove_15 rfl (lv_at hl 2 rfl) ?_
  refine va_aldq (D := g.1) (C := "java/lang/Object") hx hb hK (k_one a0) 0 0 rfl rfl (vp_in_nI (show k < cap by omega) (by omega)) d_AL_remove_16 ?_
  rw [nI_clamp (show k < 2 ^ 31 by omega), h3 k (by omega)]
  refine W.eq (g2 := F0 m 17 ls [.ref (el k)]) rfl ?_
  refine lv_astore_n (lv' := [(3, .ref (el k)), (2, .ref arr), (0, .ref h0), (1, .int (nI k))]) hx hb d_AL_remove_17 rfl hl (by decide) rfl (fun ls hl => ?_)
  refine lv_aload_n hx hb d_AL_remove_18 rfl (lv_at hl 2 rfl) ?_
  refine lv_aload_n hx hb d_AL_remove_19 rfl (lv_at hl 1 rfl) ?_
  refine lv_iload_n hx hb d_AL_remove_20 rfl (lv_at hl 3 rfl) ?_
  refine k_call (A := (fun q : Nat => q = h0 ∨ (q = arr ∧ 0 < cap) ∨ s.heap.size ≤ q)) (W.runV (As := [.ref arr, .int (nI k)]) (rest := []) ⟨hx, hb, hml, hown, hts⟩ (c_AL_fastRemove l g s.heap h0 arr cap k el o) (cwV 2 hts (kV_good kw_569 kw_566 kw_568 ks_AL_fastRemove kw_4) rfl rfl rfl (by decide +kernel) ⟨Nat.le_of_ble_eq_true rfl, Nat.le_of_ble_eq_true rfl⟩) (k_preV (KK_st g) hKK (kAL.recv ⟨_, _, o⟩ hK)) rfl rfl hl.1 rfl (lv_room (Nat.le_of_ble_eq_true rfl)) d_AL_remove_21 ⟨Nat.le_of_ble_eq_true rfl, Nat.le_of_ble_eq_true rfl⟩) (fun _ h => by cases h) (fun q h => h) (fun v H locs hv hL => ?_)
  obtain ⟨rfl, h4⟩ := hv
  refine lv_aload_n hx hb d_AL_remove_24 rfl (lv_at hl 0 rfl) ?_
  exact W.aret (v := .ref (el k)) hx hb hr (Or.inl ⟨_, rfl⟩) (Or.inr ⟨_, rfl⟩) (fun t ht hW => ⟨_, rfl, rfl, by rw [ht]; exact h4⟩) hL d_AL_remove_25
set_option maxHeartbeats 4000000 in
set_option maxRecDepth 100000 in
theorem c_AL_clear (l : Launch) (g : KGt) (H0 : Heap) (h0 arr cap n : Nat) (el el2 : Nat → Nat) (o : kALx g h0 arr cap n el H0) : Met l y_AL_clear (kW y_AL_clear b_AL_clear 4 (.none : Option FieldType)) ({ frames := 0, cells := 0, slots := 0, locals := 0 }) (kPc [.ref h0] (KK g) H0) (kQc (fun v H1 => v = none ∧ kE (fun q => q = h0 ∨ (q = arr ∧ 0 < cap)) H0 H1 ∧ kALx g h0 arr cap 0 el2 H1)) 0 0 (fun q : Nat => q = h0 ∨ (q = arr ∧ 0 < cap) ∨ H0.size ≤ q) := by
  refine va_MetF (cc := b_AL_clear) (maxL := 4) (ret := (.none : Option FieldType)) (by decide +kernel) rfl ?_
  intro p e s m args below meth c s₁ B hml hv
  obtain ⟨rfl, hH, hKK⟩ := hv
  have hx := B.exec
  have hb := B.bytes
  have hr := B.returns
  have hts := kW_ts (atoms_spec (ws := kW y_AL_clear b_AL_clear 4 (.none : Option FieldType)) B.pre)
  have hown : s.vm.findClass "java/util/ArrayList" = some m.cls := findClass_of_methodNamed B.named
  have hlocks := B.notSynchronized
  have hK := hKK.1
  subst hH
  have hl := lv_entry ([.ref h0]) (n := 4) (Nat.le_of_ble_eq_true rfl)
  rw [lg_entry_eq]
  generalize (lg_sl ([.ref h0]) ++ List.replicate (4 - (lg_sl ([.ref h0])).length) Slot.unset).toArray = ls at hl ⊢
  have hl : lv_has ls 4 [(0, .ref h0)] := hl
  obtain ⟨mo, o0, o1⟩ := id o
  rcases o1 with o1 | o1
  · skip
    obtain ⟨rfl, rfl, rfl⟩ := o1
    generalize hAe : (fun q : Nat => q = h0 ∨ (q = g.2.2.2.1 ∧ 0 < 0) ∨ s.heap.size ≤ q) = A
    have hA : ∀ q : Nat, s.heap.size ≤ q → A q := fun q h => by rw [← hAe]; exact Or.inr (Or.inr h)
    have hS : va_S A s.heap s.heap [] := va_S.rf
    have hP : va_P g.1 kcl [(h0, .inr (1, [.ref g.2.2.2.1, .int (nI 0), .int mo]))] s.heap := k_one o0
    have hD : va_D A [(h0, .inr (1, [.ref g.2.2.2.1, .int (nI 0), .int mo]))] := k_D1 (by rw [← hAe]; exact Or.inl rfl)
    refine lv_aload_n hx hb d_AL_clear_0 rfl (lv_at hl 0 rfl) ?_
    refine lv_dup hx hb d_AL_clear_1 rfl ?_
    refine va_get (D := g.1) (ci := 1) (v := .int mo) (C := "java/util/ArrayList") (T := kT_AL) (N := 3) hx hb hts ki_AL hown hK hP 0 rfl rfl 2 (by decide) (hts _ kw_46) (u_same (hts _ kw_47)) rfl d_AL_clear_2 ?_
    refine lv_iconst (v := 1) hx hb d_AL_clear_5 (by decide) ?_
    refine lv_iadd hx hb d_AL_clear_6 ?_
    refine va_put (D := g.1) (ci := 1) (v := .int (mo + 1)) (ty := .int) (C := "java/util/ArrayList") (T := kT_AL) (N := 3) hx hb hts ki_AL kt_AL ko_AL kn_AL hown hK hP hD hS 0 rfl rfl 2 (by decide) (hts _ kw_46) (u_same (hts _ kw_47)) rfl (by decide +kernel) rfl rfl (Nat.le_of_ble_eq_true rfl) d_AL_clear_7 (fun H locs hP hD hS => ?_)
    have hP : va_P g.1 kcl [(h0, .inr (1, [.ref g.2.2.2.1, .int (nI 0), .int (mo + 1)]))] H := hP
    have hD : va_D A [(h0, .inr (1, [.ref g.2.2.2.1, .int (nI 0), .int (mo + 1)]))] := hD
    refine lv_aload_n hx hb d_AL_clear_10 rfl (lv_at hl 0 rfl) ?_
    refine va_get (D := g.1) (ci := 1) (v := .ref g.2.2.2.1) (C := "java/util/ArrayList") (T := kT_AL) (N := 3) hx hb hts ki_AL hown hK hP 0 rfl rfl 0 (by decide) (hts _ kw_43) (fun _ h9 => h9) rfl d_AL_clear_11 ?_
    refine lv_astore_n (lv' := [(1, .ref g.2.2.2.1), (0, .ref h0)]) hx hb d_AL_clear_14 rfl hl (by decide) rfl (fun ls hl => ?_)
    refine lv_aload_n hx hb d_AL_clear_15 rfl (lv_at hl 1 rfl) ?_
    refine va_get (D := g.1) (ci := 1) (v := .int (nI 0)) (C := "java/util/ArrayList") (T := kT_AL) (N := 3) hx hb hts ki_AL hown hK hP 0 rfl rfl 1 (by decide) (hts _ kw_44) (fun _ h9 => h9) rfl d_AL_clear_16 ?_
    refine lv_istore_n (lv' := [(2, .int (nI 0)), (1, .ref g.2.2.2.1), (0, .ref h0)]) hx hb d_AL_clear_19 rfl hl (by decide) rfl (fun ls hl => ?_)
    refine lv_aload_n hx hb d_AL_clear_20 rfl (lv_at hl 2 rfl) ?_
    refine lv_iconst (v := 0) hx hb d_AL_clear_21 (by decide) ?_
    refine lv_dup_x1 hx hb d_AL_clear_22 rfl rfl ?_
    refine va_put (D := g.1) (ci := 1) (v := .int 0) (ty := .int) (C := "java/util/ArrayList") (T := kT_AL) (N := 3) hx hb hts ki_AL kt_AL ko_AL kn_AL hown hK hP hD hS 0 rfl rfl 1 (by decide) (hts _ kw_44) (fun _ h9 => h9) rfl (by decide +kernel) rfl rfl (Nat.le_of_ble_eq_true rfl) d_AL_clear_23 (fun H locs hP hD hS => ?_)
    have hP : va_P g.1 kcl [(h0, .inr (1, [.ref g.2.2.2.1, .int 0, .int (mo + 1)]))] H := hP
    have hD : va_D A [(h0, .inr (1, [.ref g.2.2.2.1, .int 0, .int (mo + 1)]))] := hD
    refine lv_istore_n (lv' := [(3, .int 0), (2, .int (nI 0)), (1, .ref g.2.2.2.1), (0, .ref h0)]) hx hb d_AL_clear_26 rfl hl (by decide) rfl (fun ls hl => ?_)
    refine lv_iload_n hx hb d_AL_clear_27 rfl (lv_at hl 0 rfl) ?_
    refine lv_iload_n hx hb d_AL_clear_28 rfl (lv_at hl 1 rfl) ?_
    refine lv_icmp_ge (tgt := 42) hx hb d_AL_clear_29 (by decide) (fun c_1 => ?_) (fun c_1 => ?_)
    rotate_left
    · exact absurd c_1 (fun q => q (by rw [nI_0]; exact Int32.le_refl _))
    have hE1 : kE (fun q => q = h0 ∨ (q = g.2.2.2.1 ∧ 0 < 0)) s.heap H := (kE.ofS hS).wk (fun q hq h => by rw [← hAe] at h; rcases h with h | h | h; exact Or.inl h; exact Or.inr h; omega)
    exact W.vret hx hb hr (fun t ht hW => ⟨_, rfl, rfl, by rw [ht]; exact hE1, by rw [ht]; exact ⟨_, k_at0 hP 0 rfl, Or.inl ⟨rfl, rfl, rfl⟩⟩⟩) hS.2.2 d_AL_clear_42
  · skip
    obtain ⟨f, a0, h3, h4, h5, h6⟩ := o1
    generalize hAe : (fun q : Nat => q = h0 ∨ (q = arr ∧ 0 < cap) ∨ s.heap.size ≤ q) = A
    have hA : ∀ q : Nat, s.heap.size ≤ q → A q := fun q h => by rw [← hAe]; exact Or.inr (Or.inr h)
    have hS : va_S A s.heap s.heap [] := va_S.rf
    have hP : va_P g.1 kcl [(h0, .inr (1, [.ref arr, .int (nI n), .int mo])), (arr, .inl (g.2.1.1, cap, .inr (.inr (.inr (.inr f)))))] s.heap := k_two o0 a0
    have hD : va_D A [(h0, .inr (1, [.ref arr, .int (nI n), .int mo])), (arr, .inl (g.2.1.1, cap, .inr (.inr (.inr (.inr f)))))] := k_D2 (by rw [← hAe]; exact Or.inl rfl) (by rw [← hAe]; exact Or.inr (Or.inl ⟨rfl, by omega⟩)) (k_alne hK o0 a0)
    refine lv_aload_n hx hb d_AL_clear_0 rfl (lv_at hl 0 rfl) ?_
    refine lv_dup hx hb d_AL_clear_1 rfl ?_
    refine va_get (D := g.1) (ci := 1) (v := .int mo) (C := "java/util/ArrayList") (T := kT_AL) (N := 3) hx hb hts ki_AL hown hK hP 0 rfl rfl 2 (by decide) (hts _ kw_46) (u_same (hts _ kw_47)) rfl d_AL_clear_2 ?_
    refine lv_iconst (v := 1) hx hb d_AL_clear_5 (by decide) ?_
    refine lv_iadd hx hb d_AL_clear_6 ?_
    refine va_put (D := g.1) (ci := 1) (v := .int (mo + 1)) (ty := .int) (C := "java/util/ArrayList") (T := kT_AL) (N := 3) hx hb hts ki_AL kt_AL ko_AL kn_AL hown hK hP hD hS 0 rfl rfl 2 (by decide) (hts _ kw_46) (u_same (hts _ kw_47)) rfl (by decide +kernel) rfl rfl (Nat.le_of_ble_eq_true rfl) d_AL_clear_7 (fun H locs hP hD hS => ?_)
    have hP : va_P g.1 kcl [(h0, .inr (1, [.ref arr, .int (nI n), .int (mo + 1)])), (arr, .inl (g.2.1.1, cap, .inr (.inr (.inr (.inr f)))))] H := hP
    have hD : va_D A [(h0, .inr (1, [.ref arr, .int (nI n), .int (mo + 1)])), (arr, .inl (g.2.1.1, cap, .inr (.inr (.inr (.inr f)))))] := hD
    refine lv_aload_n hx hb d_AL_clear_10 rfl (lv_at hl 0 rfl) ?_
    refine va_get (D := g.1) (ci := 1) (v := .ref arr) (C := "java/util/ArrayList") (T := kT_AL) (N := 3) hx hb hts ki_AL hown hK hP 0 rfl rfl 0 (by decide) (hts _ kw_43) (fun _ h9 => h9) rfl d_AL_clear_11 ?_
    refine lv_astore_n (lv' := [(1, .ref arr), (0, .ref h0)]) hx hb d_AL_clear_14 rfl hl (by decide) rfl (fun ls hl => ?_)
    refine lv_aload_n hx hb d_AL_clear_15 rfl (lv_at hl 1 rfl) ?_
    refine va_get (D := g.1) (ci := 1) (v := .int (nI n)) (C := "java/util/ArrayList") (T := kT_AL) (N := 3) hx hb hts ki_AL hown hK hP 0 rfl rfl 1 (by decide) (hts _ kw_44) (fun _ h9 => h9) rfl d_AL_clear_16 ?_
    refine lv_istore_n (lv' := [(2, .int (nI n)), (1, .ref arr), (0, .ref h0)]) hx hb d_AL_clear_19 rfl hl (by decide) rfl (fun ls hl => ?_)
    refine lv_aload_n hx hb d_AL_clear_20 rfl (lv_at hl 2 rfl) ?_
    refine lv_iconst (v := 0) hx hb d_AL_clear_21 (by decide) ?_
    refine lv_dup_x1 hx hb d_AL_clear_22 rfl rfl ?_
    refine va_put (D := g.1) (ci := 1) (v := .int 0) (ty := .int) (C := "java/util/ArrayList") (T := kT_AL) (N := 3) hx hb hts ki_AL kt_AL ko_AL kn_AL hown hK hP hD hS 0 rfl rfl 1 (by decide) (hts _ kw_44) (fun _ h9 => h9) rfl (by decide +kernel) rfl rfl (Nat.le_of_ble_eq_true rfl) d_AL_clear_23 (fun H locs hP hD hS => ?_)
    have hP : va_P g.1 kcl [(h0, .inr (1, [.ref arr, .int 0, .int (mo + 1)])), (arr, .inl (g.2.1.1, cap, .inr (.inr (.inr (.inr f)))))] H := hP
    have hD : va_D A [(h0, .inr (1, [.ref arr, .int 0, .int (mo + 1)])), (arr, .inl (g.2.1.1, cap, .inr (.inr (.inr (.inr f)))))] := hD
    refine lv_istore_n (lv' := [(3, .int 0), (2, .int (nI n)), (1, .ref arr), (0, .ref h0)]) hx hb d_AL_clear_26 rfl hl (by decide) rfl (fun ls hl => ?_)
    have key : ∀ (j i : Nat) (F : Nat → Option Nat) (H : Heap) (locs : List Loc) (ls : Array Slot), i + j = n → va_P g.1 kcl [(h0, .inr (1, [.ref arr, .int 0, .int (mo + 1)])), (arr, .inl (g.2.1.1, cap, .inr (.inr (.inr (.inr F)))))] H → va_D A [(h0, .inr (1, [.ref arr, .int 0, .int (mo + 1)])), (arr, .inl (g.2.1.1, cap, .inr (.inr (.inr (.inr F)))))] → va_S A s.heap H locs → lv_has ls 4 [(3, .int (nI i)), (2, .int (nI n)), (1, .ref arr), (0, .ref h0)] → W p l e (headSpec (kW y_AL_clear b_AL_clear 4 (.none : Option FieldType)) { frames := 0, cells := 0, slots := 0, locals := 0 }).room s m #[Value.ref h0] below meth c H locs 0 0 (MQ below (kQc (fun v H1 => v = none ∧ kE (fun q => q = h0 ∨ (q = arr ∧ 0 < cap)) s.heap H1 ∧ kALx g h0 arr cap 0 el2 H1)) #[Value.ref h0] s 0 0 A) (F0 m 27 ls []) := by
      intro j
      induction j with
      | zero =>
        intro i F H locs ls hij hP hD hS hl
        refine lv_iload_n hx hb d_AL_clear_27 rfl (lv_at hl 0 rfl) ?_
        refine lv_iload_n hx hb d_AL_clear_28 rfl (lv_at hl 1 rfl) ?_
        refine lv_icmp_ge (tgt := 42) hx hb d_AL_clear_29 (by decide) (fun c_1 => ?_) (fun c_1 => ?_)
        rotate_left
        · exact absurd c_1 (fun q => q (by rw [show i = n by omega]; exact Int32.le_refl _))
        have hE1 : kE (fun q => q = h0 ∨ (q = arr ∧ 0 < cap)) s.heap H := (kE.ofS hS).wk (fun q hq h => by rw [← hAe] at h; rcases h with h | h | h; exact Or.inl h; exact Or.inr h; omega)
        exact W.vret hx hb hr (fun t ht hW => ⟨_, rfl, rfl, by rw [ht]; exact hE1, by rw [ht]; exact ⟨_, k_at0 hP 0 rfl, Or.inr ⟨_, k_at0 hP 1 rfl, by omega, by omega, by omega, fun i hi => absurd hi (by omega)⟩⟩⟩) hS.2.2 d_AL_clear_42
      | succ j ih =>
        intro i F H locs ls hij hP hD hS hl
        refine lv_iload_n hx hb d_AL_clear_27 rfl (lv_at hl 0 rfl) ?_
        refine lv_iload_n hx hb d_AL_clear_28 rfl (lv_at hl 1 rfl) ?_
        refine lv_icmp_ge (tgt := 42) hx hb d_AL_clear_29 (by decide) (fun c_2 => ?_) (fun c_2 => ?_)
        · exact absurd c_2 (nI_ge (by omega) (by omega))
        refine lv_aload_n hx hb d_AL_clear_32 rfl (lv_at hl 2 rfl) ?_
        refine lv_iload_n hx hb d_AL_clear_33 rfl (lv_at hl 0 rfl) ?_
        refine lv_null hx hb d_AL_clear_34 ?_
        refine va_astqN (D := g.1) (C := "java/lang/Object") hx hb hK hP hD hS 1 0 rfl rfl (vp_in_nI (show i < cap by omega) (by omega)) d_AL_clear_35 (fun H locs hP hD hS => ?_)
        rw [nI_clamp (show i < 2 ^ 31 by omega)] at hP hD
        have hP : va_P g.1 kcl [(h0, .inr (1, [.ref arr, .int 0, .int (mo + 1)])), (arr, .inl (g.2.1.1, cap, .inr (.inr (.inr (.inr (va_up F i none))))))] H := hP
        have hD : va_D A [(h0, .inr (1, [.ref arr, .int 0, .int (mo + 1)])), (arr, .inl (g.2.1.1, cap, .inr (.inr (.inr (.inr (va_up F i none))))))] := hD
        refine lv_iinc (v := nI (i + 1)) (lv' := [(3, .int (nI (i + 1))), (2, .int (nI n)), (1, .ref arr), (0, .ref h0)]) hx hb d_AL_clear_36 hl (k := 0) rfl (nI_1 i) (by decide) rfl (fun ls hl => ?_)
        refine lv_goto (tgt := 27) hx hb d_AL_clear_39 (by decide) ?_
        exact ih (i + 1) _ H locs ls (by omega) hP hD hS hl
    exact key n 0 f H locs ls (by omega) hP hD hS hl

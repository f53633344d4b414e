/-! BoxGlue: the constructor -/
set_option maxHeartbeats 4000000 in
set_option maxRecDepth 100000 in
theorem c_BG_init (l : Launch) (g : KGt) (H0 : Heap) (h0 : Nat) (its : Nat → Nat → Int32) (bs : Nat → BxT) (hB : kB g H0) (hg : g.2.2.1.size ≤ h0) (o0 : va_at g.1 kcl (h0, .inr (0, [.null, .null, .int 0])) H0) : Met l y_BG_init (kW y_BG_init b_BG_init 1 (.none : Option FieldType)) ({ frames := 4, cells := 2, slots := 6, locals := 72 }) (kPc [.ref h0] (KK g) H0) (kQc (fun v H1 => v = none ∧ kE (fun q => q = h0) H0 H1 ∧ ∃ N : Nat → Prop, kInv g (fun _ => False) N h0 0 its 0 bs 0 H1 ∧ ∀ q, N q → q = h0 ∨ H0.size ≤ q)) 2 6 (fun q : Nat => q = h0 ∨ H0.size ≤ q) := by
  refine Met.ofW (cc := b_BG_init) (maxL := 1) (ret := (.none : Option FieldType)) (by decide) rfl ?_
  intro p e s m args below meth c s₁ B hml hv
  obtain ⟨rfl, hH, hKK⟩ := hv
  have hx := B.exec
  have hb := B.bytes
  have hr := B.returns
  have hts := kW_ts (atoms_spec (ws := kW y_BG_init b_BG_init 1 (.none : Option FieldType)) B.pre)
  have hown : s.vm.findClass "BoxGlue" = some m.cls := findClass_of_methodNamed B.named
  have hlocks := B.notSynchronized
  have hK := hKK.1
  subst hH
  have hl := lv_entry ([.ref h0]) (n := 1) (Nat.le_of_ble_eq_true rfl)
  rw [lg_entry_eq]
  generalize (lg_sl ([.ref h0]) ++ List.replicate (1 - (lg_sl ([.ref h0])).length) Slot.unset).toArray = ls at hl ⊢
  have hl : lv_has ls 1 [(0, .ref h0)] := hl
  have hin : meth.name = "<init>" := (name_of_methodNamed B.named B.method).1
  generalize hAe : (fun q : Nat => q = h0 ∨ s.heap.size ≤ q) = A
  have hA : ∀ q : Nat, s.heap.size ≤ q → A q := fun q h => by rw [← hAe]; exact Or.inr h
  have hS : va_S A s.heap s.heap [] := va_S.rf
  have hP : va_P g.1 kcl [(h0, .inr (0, [.null, .null, .int 0]))] s.heap := k_one o0
  have hD : va_D A [(h0, .inr (0, [.null, .null, .int 0]))] := k_D1 (by rw [← hAe]; exact Or.inl rfl)
  have hh0 : h0 < s.heap.size := o0.lt
  refine lv_aload_n hx hb d_BG_init_0 rfl (lv_at hl 0 rfl) ?_
  refine W.objInit hx hb hown (hts _ kw_26) (hts _ kw_27) (hts _ kw_28) rfl (by rw [hml]; exact hl.1) rfl d_BG_init_1 (Nat.le_of_ble_eq_true rfl) (Nat.le_of_ble_eq_true rfl) ?_
  refine W.eq (g2 := F0 m 4 ls []) rfl ?_
  refine lv_aload_n hx hb d_BG_init_4 rfl (lv_at hl 0 rfl) ?_
  refine va_new (D := g.1) (ci := 1) (fs := [.null, .int 0, .int 0]) (C := "java/util/ArrayList") (T := kT_AL) (N := 3) hx hb hts ki_AL kt_AL ko_AL hown (hts _ kw_29) (hts _ kw_30) (hts _ kw_4) hK hP hD hS hA rfl (fun j hj => by rcases (show j = 0 ∨ j = 1 ∨ j = 2 by omega) with rfl | rfl | rfl <;> rfl) (Nat.le_of_ble_eq_true rfl) (Nat.le_of_ble_eq_true rfl) d_BG_init_5 (fun la H hP hD hS => ?_)
  have hP : va_P g.1 kcl [(h0, .inr (0, [.null, .null, .int 0])), (la, .inr (1, [.null, .int 0, .int 0]))] H := hP
  have hD : va_D A [(h0, .inr (0, [.null, .null, .int 0])), (la, .inr (1, [.null, .int 0, .int 0]))] := hD
  have h_la : s.heap.size ≤ la := by have h9 := hD.2 1 _ rfl; rw [← hAe] at h9; rcases h9 with h9 | h9; exact absurd (hD.1 1 0 _ _ rfl rfl h9) (by decide); exact h9
  refine lv_dup hx hb d_BG_init_8 rfl ?_
  refine k_call (A := A) (W.runI (As := []) (rest := [.ref la, .ref h0]) ⟨hx, hb, hml, hown, hts⟩ (c_AL_init l g H la (hB.tr (kE.ofS hS) (fun z hz h => by rw [← hAe] at h; rcases h with h | h; omega; exact absurd (Nat.le_trans hB.1 h) (by omega))) (Nat.le_trans hB.1 h_la) (k_at0 hP 1 rfl)) (cwI 0 hts (kW_good kw_33) rfl rfl rfl (hts _ kw_4) (hts _ kw_31) (hts _ kw_32) rfl (by decide +kernel) ⟨Nat.le_of_ble_eq_true rfl, Nat.le_of_ble_eq_true rfl⟩) (k_pre (KK_st g) hKK) rfl rfl hl.1 rfl (lv_room (Nat.le_of_ble_eq_true rfl)) d_BG_init_9 ⟨Nat.le_of_ble_eq_true rfl, Nat.le_of_ble_eq_true rfl⟩) hS.2.2 (fun z h => by rw [← hAe]; rcases h with h | h; rw [h]; exact Or.inr h_la; exact Or.inr (Nat.le_trans hS.1 h)) (fun v H2 locs hv hL => ?_)
  obtain ⟨rfl, hE2, o2⟩ := hv
  have hS : va_S A s.heap H2 locs := ((kE.ofS hS).tr hE2 (fun z hz h => by rw [← hAe]; rw [h]; exact Or.inr h_la)).S hL
  have hP : va_P g.1 kcl [(h0, .inr (0, [.null, .null, .int 0])), (la, .inr (1, [.ref g.2.2.2.1, .int 0, .int 0]))] H2 := k_two (hE2.at (k_at0 hP 0 rfl) (fun h => absurd (hD.1 0 1 _ _ rfl rfl h) (by decide))) o2
  have hD : va_D A [(h0, .inr (0, [.null, .null, .int 0])), (la, .inr (1, [.ref g.2.2.2.1, .int 0, .int 0]))] := hD.set (p := 1) rfl
  generalize H2 = H at hP hS hE2 ⊢
  clear hE2 o2
  refine va_putF (D := g.1) (ci := 0) (v := .ref la) (ty := .object "java/util/ArrayList") (C := "BoxGlue") (T := kT_BG) (N := 3) hx hb hts ki_BG kt_BG ko_BG kn_BG hown hK hP hD hS 0 rfl rfl 0 (by decide) (hts _ kw_55) (fun _ h9 => h9) rfl hin rfl (by decide +kernel) rfl rfl (Nat.le_of_ble_eq_true rfl) d_BG_init_12 (fun H locs hP hD hS => ?_)
  have hP : va_P g.1 kcl [(h0, .inr (0, [.ref la, .null, .int 0])), (la, .inr (1, [.ref g.2.2.2.1, .int 0, .int 0]))] H := hP
  have hD : va_D A [(h0, .inr (0, [.ref la, .null, .int 0])), (la, .inr (1, [.ref g.2.2.2.1, .int 0, .int 0]))] := hD
  refine lv_aload_n hx hb d_BG_init_15 rfl (lv_at hl 0 rfl) ?_
  refine va_new (D := g.1) (ci := 1) (fs := [.null, .int 0, .int 0]) (C := "java/util/ArrayList") (T := kT_AL) (N := 3) hx hb hts ki_AL kt_AL ko_AL hown (hts _ kw_29) (hts _ kw_30) (hts _ kw_4) hK hP hD hS hA rfl (fun j hj => by rcases (show j = 0 ∨ j = 1 ∨ j = 2 by omega) with rfl | rfl | rfl <;> rfl) (Nat.le_of_ble_eq_true rfl) (Nat.le_of_ble_eq_true rfl) d_BG_init_16 (fun ma H hP hD hS => ?_)
  have hP : va_P g.1 kcl [(h0, .inr (0, [.ref la, .null, .int 0])), (la, .inr (1, [.ref g.2.2.2.1, .int 0, .int 0])), (ma, .inr (1, [.null, .int 0, .int 0]))] H := hP
  have hD : va_D A [(h0, .inr (0, [.ref la, .null, .int 0])), (la, .inr (1, [.ref g.2.2.2.1, .int 0, .int 0])), (ma, .inr (1, [.null, .int 0, .int 0]))] := hD
  have h_ma : s.heap.size ≤ ma := by have h9 := hD.2 2 _ rfl; rw [← hAe] at h9; rcases h9 with h9 | h9; exact absurd (hD.1 2 0 _ _ rfl rfl h9) (by decide); exact h9
  refine lv_dup hx hb d_BG_init_19 rfl ?_
  refine k_call (A := A) (W.runI (As := []) (rest := [.ref ma, .ref h0]) ⟨hx, hb, hml, hown, hts⟩ (c_AL_init l g H ma (hB.tr (kE.ofS hS) (fun z hz h => by rw [← hAe] at h; rcases h with h | h; omega; exact absurd (Nat.le_trans hB.1 h) (by omega))) (Nat.le_trans hB.1 h_ma) (k_at0 hP 2 rfl)) (cwI 0 hts (kW_good kw_33) rfl rfl rfl (hts _ kw_4) (hts _ kw_31) (hts _ kw_32) rfl (by decide +kernel) ⟨Nat.le_of_ble_eq_true rfl, Nat.le_of_ble_eq_true rfl⟩) (k_pre (KK_st g) hKK) rfl rfl hl.1 rfl (lv_room (Nat.le_of_ble_eq_true rfl)) d_BG_init_20 ⟨Nat.le_of_ble_eq_true rfl, Nat.le_of_ble_eq_true rfl⟩) hS.2.2 (fun z h => by rw [← hAe]; rcases h with h | h; rw [h]; exact Or.inr h_ma; exact Or.inr (Nat.le_trans hS.1 h)) (fun v H2 locs hv hL => ?_)
  obtain ⟨rfl, hE2, o2⟩ := hv
  have hS : va_S A s.heap H2 locs := ((kE.ofS hS).tr hE2 (fun z hz h => by rw [← hAe]; rw [h]; exact Or.inr h_ma)).S hL
  have hP : va_P g.1 kcl [(h0, .inr (0, [.ref la, .null, .int 0])), (la, .inr (1, [.ref g.2.2.2.1, .int 0, .int 0])), (ma, .inr (1, [.ref g.2.2.2.1, .int 0, .int 0]))] H2 := k_three (hE2.at (k_at0 hP 0 rfl) (fun h => absurd (hD.1 0 2 _ _ rfl rfl h) (by decide))) (hE2.at (k_at0 hP 1 rfl) (fun h => absurd (hD.1 1 2 _ _ rfl rfl h) (by decide))) o2
  have hD : va_D A [(h0, .inr (0, [.ref la, .null, .int 0])), (la, .inr (1, [.ref g.2.2.2.1, .int 0, .int 0])), (ma, .inr (1, [.ref g.2.2.2.1, .int 0, .int 0]))] := hD.set (p := 2) rfl
  generalize H2 = H at hP hS hE2 ⊢
  clear hE2 o2
  refine va_putF (D := g.1) (ci := 0) (v := .ref ma) (ty := .object "java/util/ArrayList") (C := "BoxGlue") (T := kT_BG) (N := 3) hx hb hts ki_BG kt_BG ko_BG kn_BG hown hK hP hD hS 0 rfl rfl 1 (by decide) (hts _ kw_56) (fun _ h9 => h9) rfl hin rfl (by decide +kernel) rfl rfl (Nat.le_of_ble_eq_true rfl) d_BG_init_23 (fun H locs hP hD hS => ?_)
  have hP : va_P g.1 kcl [(h0, .inr (0, [.ref la, .ref ma, .int 0])), (la, .inr (1, [.ref g.2.2.2.1, .int 0, .int 0])), (ma, .inr (1, [.ref g.2.2.2.1, .int 0, .int 0]))] H := hP
  have hD : va_D A [(h0, .inr (0, [.ref la, .ref ma, .int 0])), (la, .inr (1, [.ref g.2.2.2.1, .int 0, .int 0])), (ma, .inr (1, [.ref g.2.2.2.1, .int 0, .int 0]))] := hD
  refine lv_aload_n hx hb d_BG_init_26 rfl (lv_at hl 0 rfl) ?_
  refine lv_iconst (v := 0) hx hb d_BG_init_27 (by decide) ?_
  refine va_put (D := g.1) (ci := 0) (v := .int 0) (ty := .int) (C := "BoxGlue") (T := kT_BG) (N := 3) hx hb hts ki_BG kt_BG ko_BG kn_BG hown hK hP hD hS 0 rfl rfl 2 (by decide) (hts _ kw_57) (fun _ h9 => h9) rfl (by decide +kernel) rfl rfl (Nat.le_of_ble_eq_true rfl) d_BG_init_28 (fun H locs hP hD hS => ?_)
  have hP : va_P g.1 kcl [(h0, .inr (0, [.ref la, .ref ma, .int 0])), (la, .inr (1, [.ref g.2.2.2.1, .int 0, .int 0])), (ma, .inr (1, [.ref g.2.2.2.1, .int 0, .int 0]))] H := hP
  have hD : va_D A [(h0, .inr (0, [.ref la, .ref ma, .int 0])), (la, .inr (1, [.ref g.2.2.2.1, .int 0, .int 0])), (ma, .inr (1, [.ref g.2.2.2.1, .int 0, .int 0]))] := hD
  have hE : kE (fun q => q = h0) s.heap H := (kE.ofS hS).wk (fun z hz h => by rw [← hAe] at h; rcases h with h | h; exact h; omega)
  have hz0 : (0 : Int32) = nI 0 := nI_0.symm
  have inv : kInv g (fun _ => False) (fun q => q = h0 ∨ q = la ∨ q = ma) h0 0 its 0 bs 0 H := ⟨la, g.2.2.2.1, 0, ma, g.2.2.2.1, 0, fun _ => 0, fun _ => 0, by rw [← hz0]; exact k_at0 hP 0 rfl, ⟨0, by rw [← hz0]; exact k_at0 hP 1 rfl, Or.inl ⟨rfl, rfl, rfl⟩⟩, ⟨0, by rw [← hz0]; exact k_at0 hP 2 rfl, Or.inl ⟨rfl, rfl, rfl⟩⟩, fun i hi => absurd hi (Nat.not_lt_zero i), fun i hi => absurd hi (Nat.not_lt_zero i), ⟨Or.inl rfl, Or.inr (Or.inl rfl), Or.inr (Or.inr rfl), fun h => absurd h (by omega), fun h => absurd h (by omega)⟩, ⟨fun h => absurd (hD.1 1 2 _ _ rfl rfl h) (by decide), fun h => absurd h (by omega)⟩, fun _ _ h => h, fun q h => by rcases h with rfl | rfl | rfl; exact ⟨hg, Nat.lt_of_lt_of_le hh0 hE.1⟩; exact ⟨Nat.le_trans hB.1 h_la, (k_at0 hP 1 rfl : va_at _ _ _ _).lt⟩; exact ⟨Nat.le_trans hB.1 h_ma, (k_at0 hP 2 rfl : va_at _ _ _ _).lt⟩, fun q h => h.elim, hB.tr hE (fun z hz h => by omega), by omega, by omega⟩
  exact W.vret hx hb hr (fun t ht hW => ⟨_, rfl, rfl, by rw [ht]; exact hE, _, by rw [ht]; exact inv, fun q h => by rcases h with h | h | h; exact Or.inl h; rw [h]; exact Or.inr h_la; rw [h]; exact Or.inr h_ma⟩) hS.2.2 d_BG_init_31

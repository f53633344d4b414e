/-! constructors -/
set_option maxHeartbeats 4000000 in
set_option maxRecDepth 100000 in
theorem c_Leaders_init (l : Launch) (g : KGt) (H0 : Heap) (h0 : Nat) (p0 : Int32) (p1 : Int32) (o0 : va_at g.1 kcl (h0, .inr (8, [.int 0, .int 0])) H0) : Met l y_Leaders_init (kW y_Leaders_init b_Leaders_init 3 (.none : Option FieldType)) ({ frames := 1, cells := 0, slots := 0, locals := 12 }) (kPc [.ref h0, .int p0, .int p1] (KK g) H0) (kQc (fun v H1 => v = none ∧ kE (fun q => q = h0) H0 H1 ∧ va_at g.1 kcl (h0, .inr (8, [.int p0, .int p1])) H1)) 0 0 (fun q : Nat => q = h0 ∨ H0.size ≤ q) := by
  refine Met.ofW (cc := b_Leaders_init) (maxL := 3) (ret := (.none : Option FieldType)) (by decide) rfl ?_
  intro p e s m args below meth c s₁ B hml hv
  obtain ⟨rfl, hH, hKK⟩ := hv
  have hx := B.exec
  have hb := B.bytes
  have hr := B.returns
  have hts := kW_ts (atoms_spec (ws := kW y_Leaders_init b_Leaders_init 3 (.none : Option FieldType)) B.pre)
  have hown : s.vm.findClass "BoxGlue$Leaders" = some m.cls := findClass_of_methodNamed B.named
  have hlocks := B.notSynchronized
  have hK := hKK.1
  subst hH
  have hl := lv_entry ([.ref h0, .int p0, .int p1]) (n := 3) (Nat.le_of_ble_eq_true rfl)
  rw [lg_entry_eq]
  generalize (lg_sl ([.ref h0, .int p0, .int p1]) ++ List.replicate (3 - (lg_sl ([.ref h0, .int p0, .int p1])).length) Slot.unset).toArray = ls at hl ⊢
  have hl : lv_has ls 3 [(0, .ref h0), (1, .int p0), (2, .int p1)] := hl
  have hin : meth.name = "<init>" := (name_of_methodNamed B.named B.method).1
  generalize hAe : (fun q : Nat => q = h0 ∨ s.heap.size ≤ q) = A
  have hA : ∀ q : Nat, s.heap.size ≤ q → A q := fun q h => by rw [← hAe]; exact Or.inr h
  have hS : va_S A s.heap s.heap [] := va_S.rf
  have hP : va_P g.1 kcl [(h0, .inr (8, [.int 0, .int 0]))] s.heap := k_one o0
  have hD : va_D A [(h0, .inr (8, [.int 0, .int 0]))] := k_D1 (by rw [← hAe]; exact Or.inl rfl)
  refine lv_aload_n hx hb d_Leaders_init_0 rfl (lv_at hl 0 rfl) ?_
  refine W.objInit hx hb hown (hts _ kw_262) (hts _ kw_27) (hts _ kw_28) rfl (by rw [hml]; exact hl.1) rfl d_Leaders_init_1 (Nat.le_of_ble_eq_true rfl) (Nat.le_of_ble_eq_true rfl) ?_
  refine W.eq (g2 := F0 m 4 ls []) rfl ?_
  refine lv_aload_n hx hb d_Leaders_init_4 rfl (lv_at hl 0 rfl) ?_
  refine lv_iload_n hx hb d_Leaders_init_5 rfl (lv_at hl 1 rfl) ?_
  refine va_putF (D := g.1) (ci := 8) (v := .int p0) (ty := .int) (C := "BoxGlue$Leaders") (T := kT_Leaders) (N := 2) hx hb hts ki_Leaders kt_Leaders ko_Leaders kn_Leaders hown hK hP hD hS 0 rfl rfl 0 (by decide) (hts _ kw_263) (fun _ h9 => h9) rfl hin rfl (by decide +kernel) rfl rfl (Nat.le_of_ble_eq_true rfl) d_Leaders_init_6 (fun H locs hP hD hS => ?_)
  have hP : va_P g.1 kcl [(h0, .inr (8, [.int p0, .int 0]))] H := hP
  have hD : va_D A [(h0, .inr (8, [.int p0, .int 0]))] := hD
  refine lv_aload_n hx hb d_Leaders_init_9 rfl (lv_at hl 0 rfl) ?_
  refine lv_iload_n hx hb d_Leaders_init_10 rfl (lv_at hl 2 rfl) ?_
  refine va_putF (D := g.1) (ci := 8) (v := .int p1) (ty := .int) (C := "BoxGlue$Leaders") (T := kT_Leaders) (N := 2) hx hb hts ki_Leaders kt_Leaders ko_Leaders kn_Leaders hown hK hP hD hS 0 rfl rfl 1 (by decide) (hts _ kw_264) (fun _ h9 => h9) rfl hin rfl (by decide +kernel) rfl rfl (Nat.le_of_ble_eq_true rfl) d_Leaders_init_11 (fun H locs hP hD hS => ?_)
  have hP : va_P g.1 kcl [(h0, .inr (8, [.int p0, .int p1]))] H := hP
  have hD : va_D A [(h0, .inr (8, [.int p0, .int p1]))] := hD
  exact W.vret hx hb hr (fun t ht hW => ⟨_, rfl, rfl, by rw [ht]; exact (kE.ofS hS).wk (fun q hq h => by rw [← hAe] at h; rcases h with h | h; exact h; omega), by rw [ht]; exact k_at0 hP 0 rfl⟩) hS.2.2 d_Leaders_init_14
set_option maxHeartbeats 4000000 in
set_option maxRecDepth 100000 in
theorem c_Fit_init (l : Launch) (g : KGt) (H0 : Heap) (h0 : Nat) (p0 : Int32) (p1 : Int32) (p2 : Int32) (p3 : Int32) (o0 : va_at g.1 kcl (h0, .inr (3, [.int 0, .int 0, .int 0, .int 0])) H0) : Met l y_Fit_init (kW y_Fit_init b_Fit_init 5 (.none : Option FieldType)) ({ frames := 1, cells := 0, slots := 0, locals := 12 }) (kPc [.ref h0, .int p0, .int p1, .int p2, .int p3] (KK g) H0) (kQc (fun v H1 => v = none ∧ kE (fun q => q = h0) H0 H1 ∧ va_at g.1 kcl (h0, .inr (3, [.int p0, .int p2, .int p1, .int p3])) H1)) 0 0 (fun q : Nat => q = h0 ∨ H0.size ≤ q) := by
  refine Met.ofW (cc := b_Fit_init) (maxL := 5) (ret := (.none : Option FieldType)) (by decide) rfl ?_
  intro p e s m args below meth c s₁ B hml hv
  obtain ⟨rfl, hH, hKK⟩ := hv
  have hx := B.exec
  have hb := B.bytes
  have hr := B.returns
  have hts := kW_ts (atoms_spec (ws := kW y_Fit_init b_Fit_init 5 (.none : Option FieldType)) B.pre)
  have hown : s.vm.findClass "BoxGlue$Fit" = some m.cls := findClass_of_methodNamed B.named
  have hlocks := B.notSynchronized
  have hK := hKK.1
  subst hH
  have hl := lv_entry ([.ref h0, .int p0, .int p1, .int p2, .int p3]) (n := 5) (Nat.le_of_ble_eq_true rfl)
  rw [lg_entry_eq]
  generalize (lg_sl ([.ref h0, .int p0, .int p1, .int p2, .int p3]) ++ List.replicate (5 - (lg_sl ([.ref h0, .int p0, .int p1, .int p2, .int p3])).length) Slot.unset).toArray = ls at hl ⊢
  have hl : lv_has ls 5 [(0, .ref h0), (1, .int p0), (2, .int p1), (3, .int p2), (4, .int p3)] := hl
  have hin : meth.name = "<init>" := (name_of_methodNamed B.named B.method).1
  generalize hAe : (fun q : Nat => q = h0 ∨ s.heap.size ≤ q) = A
  have hA : ∀ q : Nat, s.heap.size ≤ q → A q := fun q h => by rw [← hAe]; exact Or.inr h
  have hS : va_S A s.heap s.heap [] := va_S.rf
  have hP : va_P g.1 kcl [(h0, .inr (3, [.int 0, .int 0, .int 0, .int 0]))] s.heap := k_one o0
  have hD : va_D A [(h0, .inr (3, [.int 0, .int 0, .int 0, .int 0]))] := k_D1 (by rw [← hAe]; exact Or.inl rfl)
  refine lv_aload_n hx hb d_Fit_init_0 rfl (lv_at hl 0 rfl) ?_
  refine W.objInit hx hb hown (hts _ kw_87) (hts _ kw_27) (hts _ kw_28) rfl (by rw [hml]; exact hl.1) rfl d_Fit_init_1 (Nat.le_of_ble_eq_true rfl) (Nat.le_of_ble_eq_true rfl) ?_
  refine W.eq (g2 := F0 m 4 ls []) rfl ?_
  refine lv_aload_n hx hb d_Fit_init_4 rfl (lv_at hl 0 rfl) ?_
  refine lv_iload_n hx hb d_Fit_init_5 rfl (lv_at hl 1 rfl) ?_
  refine va_putF (D := g.1) (ci := 3) (v := .int p0) (ty := .int) (C := "BoxGlue$Fit") (T := kT_Fit) (N := 4) hx hb hts ki_Fit kt_Fit ko_Fit kn_Fit hown hK hP hD hS 0 rfl rfl 0 (by decide) (hts _ kw_88) (fun _ h9 => h9) rfl hin rfl (by decide +kernel) rfl rfl (Nat.le_of_ble_eq_true rfl) d_Fit_init_6 (fun H locs hP hD hS => ?_)
  have hP : va_P g.1 kcl [(h0, .inr (3, [.int p0, .int 0, .int 0, .int 0]))] H := hP
  have hD : va_D A [(h0, .inr (3, [.int p0, .int 0, .int 0, .int 0]))] := hD
  refine lv_aload_n hx hb d_Fit_init_9 rfl (lv_at hl 0 rfl) ?_
  refine lv_iload_n hx hb d_Fit_init_10 rfl (lv_at hl 2 rfl) ?_
  refine va_putF (D := g.1) (ci := 3) (v := .int p1) (ty := .int) (C := "BoxGlue$Fit") (T := kT_Fit) (N := 4) hx hb hts ki_Fit kt_Fit ko_Fit kn_Fit hown hK hP hD hS 0 rfl rfl 2 (by decide) (hts _ kw_92) (fun _ h9 => h9) rfl hin rfl (by decide +kernel) rfl rfl (Nat.le_of_ble_eq_true rfl) d_Fit_init_11 (fun H locs hP hD hS => ?_)
  have hP : va_P g.1 kcl [(h0, .inr (3, [.int p0, .int 0, .int p1, .int 0]))] H := hP
  have hD : va_D A [(h0, .inr (3, [.int p0, .int 0, .int p1, .int 0]))] := hD
  refine lv_aload_n hx hb d_Fit_init_14 rfl (lv_at hl 0 rfl) ?_
  refine lv_iload_n hx hb d_Fit_init_15 rfl (lv_at hl 3 rfl) ?_
  refine va_putF (D := g.1) (ci := 3) (v := .int p2) (ty := .int) (C := "BoxGlue$Fit") (T := kT_Fit) (N := 4) hx hb hts ki_Fit kt_Fit ko_Fit kn_Fit hown hK hP hD hS 0 rfl rfl 1 (by decide) (hts _ kw_90) (fun _ h9 => h9) rfl hin rfl (by decide +kernel) rfl rfl (Nat.le_of_ble_eq_true rfl) d_Fit_init_16 (fun H locs hP hD hS => ?_)
  have hP : va_P g.1 kcl [(h0, .inr (3, [.int p0, .int p2, .int p1, .int 0]))] H := hP
  have hD : va_D A [(h0, .inr (3, [.int p0, .int p2, .int p1, .int 0]))] := hD
  refine lv_aload_n hx hb d_Fit_init_19 rfl (lv_at hl 0 rfl) ?_
  refine lv_iload hx hb d_Fit_init_20 (lv_at hl 4 rfl) ?_
  refine va_putF (D := g.1) (ci := 3) (v := .int p3) (ty := .int) (C := "BoxGlue$Fit") (T := kT_Fit) (N := 4) hx hb hts ki_Fit kt_Fit ko_Fit kn_Fit hown hK hP hD hS 0 rfl rfl 3 (by decide) (hts _ kw_93) (fun _ h9 => h9) rfl hin rfl (by decide +kernel) rfl rfl (Nat.le_of_ble_eq_true rfl) d_Fit_init_22 (fun H locs hP hD hS => ?_)
  have hP : va_P g.1 kcl [(h0, .inr (3, [.int p0, .int p2, .int p1, .int p3]))] H := hP
  have hD : va_D A [(h0, .inr (3, [.int p0, .int p2, .int p1, .int p3]))] := hD
  exact W.vret hx hb hr (fun t ht hW => ⟨_, rfl, rfl, by rw [ht]; exact (kE.ofS hS).wk (fun q hq h => by rw [← hAe] at h; rcases h with h | h; exact h; omega), by rw [ht]; exact k_at0 hP 0 rfl⟩) hS.2.2 d_Fit_init_25
set_option maxHeartbeats 4000000 in
set_option maxRecDepth 100000 in
theorem c_Placed_init (l : Launch) (g : KGt) (H0 : Heap) (h0 : Nat) (p0 : Nat) (p1 : Int32) (p2 : Int32) (o0 : va_at g.1 kcl (h0, .inr (9, [.null, .int 0, .int 0])) H0) : Met l y_Placed_init (kW y_Placed_init b_Placed_init 4 (.none : Option FieldType)) ({ frames := 1, cells := 0, slots := 0, locals := 12 }) (kPc [.ref h0, .ref p0, .int p1, .int p2] (KK g) H0) (kQc (fun v H1 => v = none ∧ kE (fun q => q = h0) H0 H1 ∧ va_at g.1 kcl (h0, .inr (9, [.ref p0, .int p1, .int p2])) H1)) 0 0 (fun q : Nat => q = h0 ∨ H0.size ≤ q) := by
  refine Met.ofW (cc := b_Placed_init) (maxL := 4) (ret := (.none : Option FieldType)) (by decide) rfl ?_
  intro p e s m args below meth c s₁ B hml hv
  obtain ⟨rfl, hH, hKK⟩ := hv
  have hx := B.exec
  have hb := B.bytes
  have hr := B.returns
  have hts := kW_ts (atoms_spec (ws := kW y_Placed_init b_Placed_init 4 (.none : Option FieldType)) B.pre)
  have hown : s.vm.findClass "BoxGlue$Placed" = some m.cls := findClass_of_methodNamed B.named
  have hlocks := B.notSynchronized
  have hK := hKK.1
  subst hH
  have hl := lv_entry ([.ref h0, .ref p0, .int p1, .int p2]) (n := 4) (Nat.le_of_ble_eq_true rfl)
  rw [lg_entry_eq]
  generalize (lg_sl ([.ref h0, .ref p0, .int p1, .int p2]) ++ List.replicate (4 - (lg_sl ([.ref h0, .ref p0, .int p1, .int p2])).length) Slot.unset).toArray = ls at hl ⊢
  have hl : lv_has ls 4 [(0, .ref h0), (1, .ref p0), (2, .int p1), (3, .int p2)] := hl
  have hin : meth.name = "<init>" := (name_of_methodNamed B.named B.method).1
  generalize hAe : (fun q : Nat => q = h0 ∨ s.heap.size ≤ q) = A
  have hA : ∀ q : Nat, s.heap.size ≤ q → A q := fun q h => by rw [← hAe]; exact Or.inr h
  have hS : va_S A s.heap s.heap [] := va_S.rf
  have hP : va_P g.1 kcl [(h0, .inr (9, [.null, .int 0, .int 0]))] s.heap := k_one o0
  have hD : va_D A [(h0, .inr (9, [.null, .int 0, .int 0]))] := k_D1 (by rw [← hAe]; exact Or.inl rfl)
  refine lv_aload_n hx hb d_Placed_init_0 rfl (lv_at hl 0 rfl) ?_
  refine W.objInit hx hb hown (hts _ kw_437) (hts _ kw_27) (hts _ kw_28) rfl (by rw [hml]; exact hl.1) rfl d_Placed_init_1 (Nat.le_of_ble_eq_true rfl) (Nat.le_of_ble_eq_true rfl) ?_
  refine W.eq (g2 := F0 m 4 ls []) rfl ?_
  refine lv_aload_n hx hb d_Placed_init_4 rfl (lv_at hl 0 rfl) ?_
  refine lv_aload_n hx hb d_Placed_init_5 rfl (lv_at hl 1 rfl) ?_
  refine va_putF (D := g.1) (ci := 9) (v := .ref p0) (ty := .object "BoxGlue$Item") (C := "BoxGlue$Placed") (T := kT_Placed) (N := 3) hx hb hts ki_Placed kt_Placed ko_Placed kn_Placed hown hK hP hD hS 0 rfl rfl 0 (by decide) (hts _ kw_438) (fun _ h9 => h9) rfl hin rfl (by decide +kernel) rfl rfl (Nat.le_of_ble_eq_true rfl) d_Placed_init_6 (fun H locs hP hD hS => ?_)
  have hP : va_P g.1 kcl [(h0, .inr (9, [.ref p0, .int 0, .int 0]))] H := hP
  have hD : va_D A [(h0, .inr (9, [.ref p0, .int 0, .int 0]))] := hD
  refine lv_aload_n hx hb d_Placed_init_9 rfl (lv_at hl 0 rfl) ?_
  refine lv_iload_n hx hb d_Placed_init_10 rfl (lv_at hl 2 rfl) ?_
  refine va_putF (D := g.1) (ci := 9) (v := .int p1) (ty := .int) (C := "BoxGlue$Placed") (T := kT_Placed) (N := 3) hx hb hts ki_Placed kt_Placed ko_Placed kn_Placed hown hK hP hD hS 0 rfl rfl 1 (by decide) (hts _ kw_440) (fun _ h9 => h9) rfl hin rfl (by decide +kernel) rfl rfl (Nat.le_of_ble_eq_true rfl) d_Placed_init_11 (fun H locs hP hD hS => ?_)
  have hP : va_P g.1 kcl [(h0, .inr (9, [.ref p0, .int p1, .int 0]))] H := hP
  have hD : va_D A [(h0, .inr (9, [.ref p0, .int p1, .int 0]))] := hD
  refine lv_aload_n hx hb d_Placed_init_14 rfl (lv_at hl 0 rfl) ?_
  refine lv_iload_n hx hb d_Placed_init_15 rfl (lv_at hl 3 rfl) ?_
  refine va_putF (D := g.1) (ci := 9) (v := .int p2) (ty := .int) (C := "BoxGlue$Placed") (T := kT_Placed) (N := 3) hx hb hts ki_Placed kt_Placed ko_Placed kn_Placed hown hK hP hD hS 0 rfl rfl 2 (by decide) (hts _ kw_441) (fun _ h9 => h9) rfl hin rfl (by decide +kernel) rfl rfl (Nat.le_of_ble_eq_true rfl) d_Placed_init_16 (fun H locs hP hD hS => ?_)
  have hP : va_P g.1 kcl [(h0, .inr (9, [.ref p0, .int p1, .int p2]))] H := hP
  have hD : va_D A [(h0, .inr (9, [.ref p0, .int p1, .int p2]))] := hD
  exact W.vret hx hb hr (fun t ht hW => ⟨_, rfl, rfl, by rw [ht]; exact (kE.ofS hS).wk (fun q hq h => by rw [← hAe] at h; rcases h with h | h; exact h; omega), by rw [ht]; exact k_at0 hP 0 rfl⟩) hS.2.2 d_Placed_init_19
set_option maxHeartbeats 4000000 in
set_option maxRecDepth 100000 in
theorem c_Box_init (l : Launch) (g : KGt) (H0 : Heap) (h0 : Nat) (p0 : Int32) (p1 : Int32) (p2 : Int32) (p3 : Nat) (p4 : Nat) (o0 : va_at g.1 kcl (h0, .inr (2, [.int 0, .int 0, .int 0, .null, .null])) H0) : Met l y_Box_init (kW y_Box_init b_Box_init 6 (.none : Option FieldType)) ({ frames := 1, cells := 0, slots := 0, locals := 12 }) (kPc [.ref h0, .int p0, .int p1, .int p2, .ref p3, .ref p4] (KK g) H0) (kQc (fun v H1 => v = none ∧ kE (fun q => q = h0) H0 H1 ∧ va_at g.1 kcl (h0, .inr (2, [.int p0, .int p1, .int p2, .ref p4, .ref p3])) H1)) 0 0 (fun q : Nat => q = h0 ∨ H0.size ≤ q) := by
  refine Met.ofW (cc := b_Box_init) (maxL := 6) (ret := (.none : Option FieldType)) (by decide) rfl ?_
  intro p e s m args below meth c s₁ B hml hv
  obtain ⟨rfl, hH, hKK⟩ := hv
  have hx := B.exec
  have hb := B.bytes
  have hr := B.returns
  have hts := kW_ts (atoms_spec (ws := kW y_Box_init b_Box_init 6 (.none : Option FieldType)) B.pre)
  have hown : s.vm.findClass "BoxGlue$Box" = some m.cls := findClass_of_methodNamed B.named
  have hlocks := B.notSynchronized
  have hK := hKK.1
  subst hH
  have hl := lv_entry ([.ref h0, .int p0, .int p1, .int p2, .ref p3, .ref p4]) (n := 6) (Nat.le_of_ble_eq_true rfl)
  rw [lg_entry_eq]
  generalize (lg_sl ([.ref h0, .int p0, .int p1, .int p2, .ref p3, .ref p4]) ++ List.replicate (6 - (lg_sl ([.ref h0, .int p0, .int p1, .int p2, .ref p3, .ref p4])).length) Slot.unset).toArray = ls at hl ⊢
  have hl : lv_has ls 6 [(0, .ref h0), (1, .int p0), (2, .int p1), (3, .int p2), (4, .ref p3), (5, .ref p4)] := hl
  have hin : meth.name = "<init>" := (name_of_methodNamed B.named B.method).1
  generalize hAe : (fun q : Nat => q = h0 ∨ s.heap.size ≤ q) = A
  have hA : ∀ q : Nat, s.heap.size ≤ q → A q := fun q h => by rw [← hAe]; exact Or.inr h
  have hS : va_S A s.heap s.heap [] := va_S.rf
  have hP : va_P g.1 kcl [(h0, .inr (2, [.int 0, .int 0, .int 0, .null, .null]))] s.heap := k_one o0
  have hD : va_D A [(h0, .inr (2, [.int 0, .int 0, .int 0, .null, .null]))] := k_D1 (by rw [← hAe]; exact Or.inl rfl)
  refine lv_aload_n hx hb d_Box_init_0 rfl (lv_at hl 0 rfl) ?_
  refine W.objInit hx hb hown (hts _ kw_108) (hts _ kw_27) (hts _ kw_28) rfl (by rw [hml]; exact hl.1) rfl d_Box_init_1 (Nat.le_of_ble_eq_true rfl) (Nat.le_of_ble_eq_true rfl) ?_
  refine W.eq (g2 := F0 m 4 ls []) rfl ?_
  refine lv_aload_n hx hb d_Box_init_4 rfl (lv_at hl 0 rfl) ?_
  refine lv_iload_n hx hb d_Box_init_5 rfl (lv_at hl 1 rfl) ?_
  refine va_putF (D := g.1) (ci := 2) (v := .int p0) (ty := .int) (C := "BoxGlue$Box") (T := kT_Box) (N := 5) hx hb hts ki_Box kt_Box ko_Box kn_Box hown hK hP hD hS 0 rfl rfl 0 (by decide) (hts _ kw_110) (fun _ h9 => h9) rfl hin rfl (by decide +kernel) rfl rfl (Nat.le_of_ble_eq_true rfl) d_Box_init_6 (fun H locs hP hD hS => ?_)
  have hP : va_P g.1 kcl [(h0, .inr (2, [.int p0, .int 0, .int 0, .null, .null]))] H := hP
  have hD : va_D A [(h0, .inr (2, [.int p0, .int 0, .int 0, .null, .null]))] := hD
  refine lv_aload_n hx hb d_Box_init_9 rfl (lv_at hl 0 rfl) ?_
  refine lv_iload_n hx hb d_Box_init_10 rfl (lv_at hl 2 rfl) ?_
  refine va_putF (D := g.1) (ci := 2) (v := .int p1) (ty := .int) (C := "BoxGlue$Box") (T := kT_Box) (N := 5) hx hb hts ki_Box kt_Box ko_Box kn_Box hown hK hP hD hS 0 rfl rfl 1 (by decide) (hts _ kw_112) (fun _ h9 => h9) rfl hin rfl (by decide +kernel) rfl rfl (Nat.le_of_ble_eq_true rfl) d_Box_init_11 (fun H locs hP hD hS => ?_)
  have hP : va_P g.1 kcl [(h0, .inr (2, [.int p0, .int p1, .int 0, .null, .null]))] H := hP
  have hD : va_D A [(h0, .inr (2, [.int p0, .int p1, .int 0, .null, .null]))] := hD
  refine lv_aload_n hx hb d_Box_init_14 rfl (lv_at hl 0 rfl) ?_
  refine lv_iload_n hx hb d_Box_init_15 rfl (lv_at hl 3 rfl) ?_
  refine va_putF (D := g.1) (ci := 2) (v := .int p2) (ty := .int) (C := "BoxGlue$Box") (T := kT_Box) (N := 5) hx hb hts ki_Box kt_Box ko_Box kn_Box hown hK hP hD hS 0 rfl rfl 2 (by decide) (hts _ kw_115) (fun _ h9 => h9) rfl hin rfl (by decide +kernel) rfl rfl (Nat.le_of_ble_eq_true rfl) d_Box_init_16 (fun H locs hP hD hS => ?_)
  have hP : va_P g.1 kcl [(h0, .inr (2, [.int p0, .int p1, .int p2, .null, .null]))] H := hP
  have hD : va_D A [(h0, .inr (2, [.int p0, .int p1, .int p2, .null, .null]))] := hD
  refine lv_aload_n hx hb d_Box_init_19 rfl (lv_at hl 0 rfl) ?_
  refine lv_aload hx hb d_Box_init_20 (lv_at hl 4 rfl) ?_
  refine va_putF (D := g.1) (ci := 2) (v := .ref p3) (ty := .object "BoxGlue$Fit") (C := "BoxGlue$Box") (T := kT_Box) (N := 5) hx hb hts ki_Box kt_Box ko_Box kn_Box hown hK hP hD hS 0 rfl rfl 4 (by decide) (hts _ kw_120) (fun _ h9 => h9) rfl hin rfl (by decide +kernel) rfl rfl (Nat.le_of_ble_eq_true rfl) d_Box_init_22 (fun H locs hP hD hS => ?_)
  have hP : va_P g.1 kcl [(h0, .inr (2, [.int p0, .int p1, .int p2, .null, .ref p3]))] H := hP
  have hD : va_D A [(h0, .inr (2, [.int p0, .int p1, .int p2, .null, .ref p3]))] := hD
  refine lv_aload_n hx hb d_Box_init_25 rfl (lv_at hl 0 rfl) ?_
  refine lv_aload hx hb d_Box_init_26 (lv_at hl 5 rfl) ?_
  refine va_putF (D := g.1) (ci := 2) (v := .ref p4) (ty := .object "java/util/ArrayList") (C := "BoxGlue$Box") (T := kT_Box) (N := 5) hx hb hts ki_Box kt_Box ko_Box kn_Box hown hK hP hD hS 0 rfl rfl 3 (by decide) (hts _ kw_118) (fun _ h9 => h9) rfl hin rfl (by decide +kernel) rfl rfl (Nat.le_of_ble_eq_true rfl) d_Box_init_28 (fun H locs hP hD hS => ?_)
  have hP : va_P g.1 kcl [(h0, .inr (2, [.int p0, .int p1, .int p2, .ref p4, .ref p3]))] H := hP
  have hD : va_D A [(h0, .inr (2, [.int p0, .int p1, .int p2, .ref p4, .ref p3]))] := hD
  exact W.vret hx hb hr (fun t ht hW => ⟨_, rfl, rfl, by rw [ht]; exact (kE.ofS hS).wk (fun q hq h => by rw [← hAe] at h; rcases h with h | h; exact h; omega), by rw [ht]; exact k_at0 hP 0 rfl⟩) hS.2.2 d_Box_init_31
set_option maxHeartbeats 4000000 in
set_option maxRecDepth 100000 in
theorem c_Item_init4 (l : Launch) (g : KGt) (H0 : Heap) (h0 : Nat) (p0 : Int32) (p1 : Int32) (o0 : va_at g.1 kcl (h0, .inr (4, [.int 0, .int 0, .int 0, .int 0])) H0) : Met l y_Item_init (kW y_Item_init b_Item_init 3 (.none : Option FieldType)) ({ frames := 1, cells := 0, slots := 0, locals := 12 }) (kPc [.ref h0, .int p0, .int p1] (KK g) H0) (kQc (fun v H1 => v = none ∧ kE (fun q => q = h0) H0 H1 ∧ va_at g.1 kcl (h0, .inr (4, [.int p0, .int p1, .int 0, .int 0])) H1)) 0 0 (fun q : Nat => q = h0 ∨ H0.size ≤ q) := by
  refine Met.ofW (cc := b_Item_init) (maxL := 3) (ret := (.none : Option FieldType)) (by decide) rfl ?_
  intro p e s m args below meth c s₁ B hml hv
  obtain ⟨rfl, hH, hKK⟩ := hv
  have hx := B.exec
  have hb := B.bytes
  have hr := B.returns
  have hts := kW_ts (atoms_spec (ws := kW y_Item_init b_Item_init 3 (.none : Option FieldType)) B.pre)
  have hown : s.vm.findClass "BoxGlue$Item" = some m.cls := findClass_of_methodNamed B.named
  have hlocks := B.notSynchronized
  have hK := hKK.1
  subst hH
  have hl := lv_entry ([.ref h0, .int p0, .int p1]) (n := 3) (Nat.le_of_ble_eq_true rfl)
  rw [lg_entry_eq]
  generalize (lg_sl ([.ref h0, .int p0, .int p1]) ++ List.replicate (3 - (lg_sl ([.ref h0, .int p0, .int p1])).length) Slot.unset).toArray = ls at hl ⊢
  have hl : lv_has ls 3 [(0, .ref h0), (1, .int p0), (2, .int p1)] := hl
  have hin : meth.name = "<init>" := (name_of_methodNamed B.named B.method).1
  generalize hAe : (fun q : Nat => q = h0 ∨ s.heap.size ≤ q) = A
  have hA : ∀ q : Nat, s.heap.size ≤ q → A q := fun q h => by rw [← hAe]; exact Or.inr h
  have hS : va_S A s.heap s.heap [] := va_S.rf
  have hP : va_P g.1 kcl [(h0, .inr (4, [.int 0, .int 0, .int 0, .int 0]))] s.heap := k_one o0
  have hD : va_D A [(h0, .inr (4, [.int 0, .int 0, .int 0, .int 0]))] := k_D1 (by rw [← hAe]; exact Or.inl rfl)
  refine lv_aload_n hx hb d_Item_init_0 rfl (lv_at hl 0 rfl) ?_
  refine W.objInit hx hb hown (hts _ kw_225) (hts _ kw_27) (hts _ kw_28) rfl (by rw [hml]; exact hl.1) rfl d_Item_init_1 (Nat.le_of_ble_eq_true rfl) (Nat.le_of_ble_eq_true rfl) ?_
  refine W.eq (g2 := F0 m 4 ls []) rfl ?_
  refine lv_aload_n hx hb d_Item_init_4 rfl (lv_at hl 0 rfl) ?_
  refine lv_iload_n hx hb d_Item_init_5 rfl (lv_at hl 1 rfl) ?_
  refine va_putF (D := g.1) (ci := 4) (v := .int p0) (ty := .int) (C := "BoxGlue$Put") (T := kT_Put) (N := 4) hx hb hts ki_Put kt_Put ko_Put kn_Put hown hK hP hD hS 0 rfl rfl 0 (by decide) (hts _ kw_228) (fun _ h9 => h9) rfl hin rfl (by decide +kernel) rfl rfl (Nat.le_of_ble_eq_true rfl) d_Item_init_6 (fun H locs hP hD hS => ?_)
  have hP : va_P g.1 kcl [(h0, .inr (4, [.int p0, .int 0, .int 0, .int 0]))] H := hP
  have hD : va_D A [(h0, .inr (4, [.int p0, .int 0, .int 0, .int 0]))] := hD
  refine lv_aload_n hx hb d_Item_init_9 rfl (lv_at hl 0 rfl) ?_
  refine lv_iload_n hx hb d_Item_init_10 rfl (lv_at hl 2 rfl) ?_
  refine va_putF (D := g.1) (ci := 4) (v := .int p1) (ty := .int) (C := "BoxGlue$Put") (T := kT_Put) (N := 4) hx hb hts ki_Put kt_Put ko_Put kn_Put hown hK hP hD hS 0 rfl rfl 1 (by decide) (hts _ kw_230) (fun _ h9 => h9) rfl hin rfl (by decide +kernel) rfl rfl (Nat.le_of_ble_eq_true rfl) d_Item_init_11 (fun H locs hP hD hS => ?_)
  have hP : va_P g.1 kcl [(h0, .inr (4, [.int p0, .int p1, .int 0, .int 0]))] H := hP
  have hD : va_D A [(h0, .inr (4, [.int p0, .int p1, .int 0, .int 0]))] := hD
  exact W.vret hx hb hr (fun t ht hW => ⟨_, rfl, rfl, by rw [ht]; exact (kE.ofS hS).wk (fun q hq h => by rw [← hAe] at h; rcases h with h | h; exact h; omega), by rw [ht]; exact k_at0 hP 0 rfl⟩) hS.2.2 d_Item_init_14
set_option maxHeartbeats 4000000 in
set_option maxRecDepth 100000 in
theorem c_Item_init5 (l : Launch) (g : KGt) (H0 : Heap) (h0 : Nat) (p0 : Int32) (p1 : Int32) (o0 : va_at g.1 kcl (h0, .inr (5, [.int 0, .int 0, .int 0, .int 0, .int 0, .int 0, .null])) H0) : Met l y_Item_init (kW y_Item_init b_Item_init 3 (.none : Option FieldType)) ({ frames := 1, cells := 0, slots := 0, locals := 12 }) (kPc [.ref h0, .int p0, .int p1] (KK g) H0) (kQc (fun v H1 => v = none ∧ kE (fun q => q = h0) H0 H1 ∧ va_at g.1 kcl (h0, .inr (5, [.int p0, .int p1, .int 0, .int 0, .int 0, .int 0, .null])) H1)) 0 0 (fun q : Nat => q = h0 ∨ H0.size ≤ q) := by
  refine Met.ofW (cc := b_Item_init) (maxL := 3) (ret := (.none : Option FieldType)) (by decide) rfl ?_
  intro p e s m args below meth c s₁ B hml hv
  obtain ⟨rfl, hH, hKK⟩ := hv
  have hx := B.exec
  have hb := B.bytes
  have hr := B.returns
  have hts := kW_ts (atoms_spec (ws := kW y_Item_init b_Item_init 3 (.none : Option FieldType)) B.pre)
  have hown : s.vm.findClass "BoxGlue$Item" = some m.cls := findClass_of_methodNamed B.named
  have hlocks := B.notSynchronized
  have hK := hKK.1
  subst hH
  have hl := lv_entry ([.ref h0, .int p0, .int p1]) (n := 3) (Nat.le_of_ble_eq_true rfl)
  rw [lg_entry_eq]
  generalize (lg_sl ([.ref h0, .int p0, .int p1]) ++ List.replicate (3 - (lg_sl ([.ref h0, .int p0, .int p1])).length) Slot.unset).toArray = ls at hl ⊢
  have hl : lv_has ls 3 [(0, .ref h0), (1, .int p0), (2, .int p1)] := hl
  have hin : meth.name = "<init>" := (name_of_methodNamed B.named B.method).1
  generalize hAe : (fun q : Nat => q = h0 ∨ s.heap.size ≤ q) = A
  have hA : ∀ q : Nat, s.heap.size ≤ q → A q := fun q h => by rw [← hAe]; exact Or.inr h
  have hS : va_S A s.heap s.heap [] := va_S.rf
  have hP : va_P g.1 kcl [(h0, .inr (5, [.int 0, .int 0, .int 0, .int 0, .int 0, .int 0, .null]))] s.heap := k_one o0
  have hD : va_D A [(h0, .inr (5, [.int 0, .int 0, .int 0, .int 0, .int 0, .int 0, .null]))] := k_D1 (by rw [← hAe]; exact Or.inl rfl)
  refine lv_aload_n hx hb d_Item_init_0 rfl (lv_at hl 0 rfl) ?_
  refine W.objInit hx hb hown (hts _ kw_225) (hts _ kw_27) (hts _ kw_28) rfl (by rw [hml]; exact hl.1) rfl d_Item_init_1 (Nat.le_of_ble_eq_true rfl) (Nat.le_of_ble_eq_true rfl) ?_
  refine W.eq (g2 := F0 m 4 ls []) rfl ?_
  refine lv_aload_n hx hb d_Item_init_4 rfl (lv_at hl 0 rfl) ?_
  refine lv_iload_n hx hb d_Item_init_5 rfl (lv_at hl 1 rfl) ?_
  refine va_putF (D := g.1) (ci := 5) (v := .int p0) (ty := .int) (C := "BoxGlue$Glue") (T := kT_Glue) (N := 7) hx hb hts ki_Glue kt_Glue ko_Glue kn_Glue hown hK hP hD hS 0 rfl rfl 0 (by decide) (hts _ kw_228) (fun _ h9 => h9) rfl hin rfl (by decide +kernel) rfl rfl (Nat.le_of_ble_eq_true rfl) d_Item_init_6 (fun H locs hP hD hS => ?_)
  have hP : va_P g.1 kcl [(h0, .inr (5, [.int p0, .int 0, .int 0, .int 0, .int 0, .int 0, .null]))] H := hP
  have hD : va_D A [(h0, .inr (5, [.int p0, .int 0, .int 0, .int 0, .int 0, .int 0, .null]))] := hD
  refine lv_aload_n hx hb d_Item_init_9 rfl (lv_at hl 0 rfl) ?_
  refine lv_iload_n hx hb d_Item_init_10 rfl (lv_at hl 2 rfl) ?_
  refine va_putF (D := g.1) (ci := 5) (v := .int p1) (ty := .int) (C := "BoxGlue$Glue") (T := kT_Glue) (N := 7) hx hb hts ki_Glue kt_Glue ko_Glue kn_Glue hown hK hP hD hS 0 rfl rfl 1 (by decide) (hts _ kw_230) (fun _ h9 => h9) rfl hin rfl (by decide +kernel) rfl rfl (Nat.le_of_ble_eq_true rfl) d_Item_init_11 (fun H locs hP hD hS => ?_)
  have hP : va_P g.1 kcl [(h0, .inr (5, [.int p0, .int p1, .int 0, .int 0, .int 0, .int 0, .null]))] H := hP
  have hD : va_D A [(h0, .inr (5, [.int p0, .int p1, .int 0, .int 0, .int 0, .int 0, .null]))] := hD
  exact W.vret hx hb hr (fun t ht hW => ⟨_, rfl, rfl, by rw [ht]; exact (kE.ofS hS).wk (fun q hq h => by rw [← hAe] at h; rcases h with h | h; exact h; omega), by rw [ht]; exact k_at0 hP 0 rfl⟩) hS.2.2 d_Item_init_14
set_option maxHeartbeats 4000000 in
set_option maxRecDepth 100000 in
theorem c_Item_init6 (l : Launch) (g : KGt) (H0 : Heap) (h0 : Nat) (p0 : Int32) (p1 : Int32) (o0 : va_at g.1 kcl (h0, .inr (6, [.int 0, .int 0])) H0) : Met l y_Item_init (kW y_Item_init b_Item_init 3 (.none : Option FieldType)) ({ frames := 1, cells := 0, slots := 0, locals := 12 }) (kPc [.ref h0, .int p0, .int p1] (KK g) H0) (kQc (fun v H1 => v = none ∧ kE (fun q => q = h0) H0 H1 ∧ va_at g.1 kcl (h0, .inr (6, [.int p0, .int p1])) H1)) 0 0 (fun q : Nat => q = h0 ∨ H0.size ≤ q) := by
  refine Met.ofW (cc := b_Item_init) (maxL := 3) (ret := (.none : Option FieldType)) (by decide) rfl ?_
  intro p e s m args below meth c s₁ B hml hv
  obtain ⟨rfl, hH, hKK⟩ := hv
  have hx := B.exec
  have hb := B.bytes
  have hr := B.returns
  have hts := kW_ts (atoms_spec (ws := kW y_Item_init b_Item_init 3 (.none : Option FieldType)) B.pre)
  have hown : s.vm.findClass "BoxGlue$Item" = some m.cls := findClass_of_methodNamed B.named
  have hlocks := B.notSynchronized
  have hK := hKK.1
  subst hH
  have hl := lv_entry ([.ref h0, .int p0, .int p1]) (n := 3) (Nat.le_of_ble_eq_true rfl)
  rw [lg_entry_eq]
  generalize (lg_sl ([.ref h0, .int p0, .int p1]) ++ List.replicate (3 - (lg_sl ([.ref h0, .int p0, .int p1])).length) Slot.unset).toArray = ls at hl ⊢
  have hl : lv_has ls 3 [(0, .ref h0), (1, .int p0), (2, .int p1)] := hl
  have hin : meth.name = "<init>" := (name_of_methodNamed B.named B.method).1
  generalize hAe : (fun q : Nat => q = h0 ∨ s.heap.size ≤ q) = A
  have hA : ∀ q : Nat, s.heap.size ≤ q → A q := fun q h => by rw [← hAe]; exact Or.inr h
  have hS : va_S A s.heap s.heap [] := va_S.rf
  have hP : va_P g.1 kcl [(h0, .inr (6, [.int 0, .int 0]))] s.heap := k_one o0
  have hD : va_D A [(h0, .inr (6, [.int 0, .int 0]))] := k_D1 (by rw [← hAe]; exact Or.inl rfl)
  refine lv_aload_n hx hb d_Item_init_0 rfl (lv_at hl 0 rfl) ?_
  refine W.objInit hx hb hown (hts _ kw_225) (hts _ kw_27) (hts _ kw_28) rfl (by rw [hml]; exact hl.1) rfl d_Item_init_1 (Nat.le_of_ble_eq_true rfl) (Nat.le_of_ble_eq_true rfl) ?_
  refine W.eq (g2 := F0 m 4 ls []) rfl ?_
  refine lv_aload_n hx hb d_Item_init_4 rfl (lv_at hl 0 rfl) ?_
  refine lv_iload_n hx hb d_Item_init_5 rfl (lv_at hl 1 rfl) ?_
  refine va_putF (D := g.1) (ci := 6) (v := .int p0) (ty := .int) (C := "BoxGlue$Kern") (T := kT_Kern) (N := 2) hx hb hts ki_Kern kt_Kern ko_Kern kn_Kern hown hK hP hD hS 0 rfl rfl 0 (by decide) (hts _ kw_228) (fun _ h9 => h9) rfl hin rfl (by decide +kernel) rfl rfl (Nat.le_of_ble_eq_true rfl) d_Item_init_6 (fun H locs hP hD hS => ?_)
  have hP : va_P g.1 kcl [(h0, .inr (6, [.int p0, .int 0]))] H := hP
  have hD : va_D A [(h0, .inr (6, [.int p0, .int 0]))] := hD
  refine lv_aload_n hx hb d_Item_init_9 rfl (lv_at hl 0 rfl) ?_
  refine lv_iload_n hx hb d_Item_init_10 rfl (lv_at hl 2 rfl) ?_
  refine va_putF (D := g.1) (ci := 6) (v := .int p1) (ty := .int) (C := "BoxGlue$Kern") (T := kT_Kern) (N := 2) hx hb hts ki_Kern kt_Kern ko_Kern kn_Kern hown hK hP hD hS 0 rfl rfl 1 (by decide) (hts _ kw_230) (fun _ h9 => h9) rfl hin rfl (by decide +kernel) rfl rfl (Nat.le_of_ble_eq_true rfl) d_Item_init_11 (fun H locs hP hD hS => ?_)
  have hP : va_P g.1 kcl [(h0, .inr (6, [.int p0, .int p1]))] H := hP
  have hD : va_D A [(h0, .inr (6, [.int p0, .int p1]))] := hD
  exact W.vret hx hb hr (fun t ht hW => ⟨_, rfl, rfl, by rw [ht]; exact (kE.ofS hS).wk (fun q hq h => by rw [← hAe] at h; rcases h with h | h; exact h; omega), by rw [ht]; exact k_at0 hP 0 rfl⟩) hS.2.2 d_Item_init_14
set_option maxHeartbeats 4000000 in
set_option maxRecDepth 100000 in
theorem c_Item_init7 (l : Launch) (g : KGt) (H0 : Heap) (h0 : Nat) (p0 : Int32) (p1 : Int32) (o0 : va_at g.1 kcl (h0, .inr (7, [.int 0, .int 0, .int 0, .int 0])) H0) : Met l y_Item_init (kW y_Item_init b_Item_init 3 (.none : Option FieldType)) ({ frames := 1, cells := 0, slots := 0, locals := 12 }) (kPc [.ref h0, .int p0, .int p1] (KK g) H0) (kQc (fun v H1 => v = none ∧ kE (fun q => q = h0) H0 H1 ∧ va_at g.1 kcl (h0, .inr (7, [.int p0, .int p1, .int 0, .int 0])) H1)) 0 0 (fun q : Nat => q = h0 ∨ H0.size ≤ q) := by
  refine Met.ofW (cc := b_Item_init) (maxL := 3) (ret := (.none : Option FieldType)) (by decide) rfl ?_
  intro p e s m args below meth c s₁ B hml hv
  obtain ⟨rfl, hH, hKK⟩ := hv
  have hx := B.exec
  have hb := B.bytes
  have hr := B.returns
  have hts := kW_ts (atoms_spec (ws := kW y_Item_init b_Item_init 3 (.none : Option FieldType)) B.pre)
  have hown : s.vm.findClass "BoxGlue$Item" = some m.cls := findClass_of_methodNamed B.named
  have hlocks := B.notSynchronized
  have hK := hKK.1
  subst hH
  have hl := lv_entry ([.ref h0, .int p0, .int p1]) (n := 3) (Nat.le_of_ble_eq_true rfl)
  rw [lg_entry_eq]
  generalize (lg_sl ([.ref h0, .int p0, .int p1]) ++ List.replicate (3 - (lg_sl ([.ref h0, .int p0, .int p1])).length) Slot.unset).toArray = ls at hl ⊢
  have hl : lv_has ls 3 [(0, .ref h0), (1, .int p0), (2, .int p1)] := hl
  have hin : meth.name = "<init>" := (name_of_methodNamed B.named B.method).1
  generalize hAe : (fun q : Nat => q = h0 ∨ s.heap.size ≤ q) = A
  have hA : ∀ q : Nat, s.heap.size ≤ q → A q := fun q h => by rw [← hAe]; exact Or.inr h
  have hS : va_S A s.heap s.heap [] := va_S.rf
  have hP : va_P g.1 kcl [(h0, .inr (7, [.int 0, .int 0, .int 0, .int 0]))] s.heap := k_one o0
  have hD : va_D A [(h0, .inr (7, [.int 0, .int 0, .int 0, .int 0]))] := k_D1 (by rw [← hAe]; exact Or.inl rfl)
  refine lv_aload_n hx hb d_Item_init_0 rfl (lv_at hl 0 rfl) ?_
  refine W.objInit hx hb hown (hts _ kw_225) (hts _ kw_27) (hts _ kw_28) rfl (by rw [hml]; exact hl.1) rfl d_Item_init_1 (Nat.le_of_ble_eq_true rfl) (Nat.le_of_ble_eq_true rfl) ?_
  refine W.eq (g2 := F0 m 4 ls []) rfl ?_
  refine lv_aload_n hx hb d_Item_init_4 rfl (lv_at hl 0 rfl) ?_
  refine lv_iload_n hx hb d_Item_init_5 rfl (lv_at hl 1 rfl) ?_
  refine va_putF (D := g.1) (ci := 7) (v := .int p0) (ty := .int) (C := "BoxGlue$Rule") (T := kT_Rule) (N := 4) hx hb hts ki_Rule kt_Rule ko_Rule kn_Rule hown hK hP hD hS 0 rfl rfl 0 (by decide) (hts _ kw_228) (fun _ h9 => h9) rfl hin rfl (by decide +kernel) rfl rfl (Nat.le_of_ble_eq_true rfl) d_Item_init_6 (fun H locs hP hD hS => ?_)
  have hP : va_P g.1 kcl [(h0, .inr (7, [.int p0, .int 0, .int 0, .int 0]))] H := hP
  have hD : va_D A [(h0, .inr (7, [.int p0, .int 0, .int 0, .int 0]))] := hD
  refine lv_aload_n hx hb d_Item_init_9 rfl (lv_at hl 0 rfl) ?_
  refine lv_iload_n hx hb d_Item_init_10 rfl (lv_at hl 2 rfl) ?_
  refine va_putF (D := g.1) (ci := 7) (v := .int p1) (ty := .int) (C := "BoxGlue$Rule") (T := kT_Rule) (N := 4) hx hb hts ki_Rule kt_Rule ko_Rule kn_Rule hown hK hP hD hS 0 rfl rfl 1 (by decide) (hts _ kw_230) (fun _ h9 => h9) rfl hin rfl (by decide +kernel) rfl rfl (Nat.le_of_ble_eq_true rfl) d_Item_init_11 (fun H locs hP hD hS => ?_)
  have hP : va_P g.1 kcl [(h0, .inr (7, [.int p0, .int p1, .int 0, .int 0]))] H := hP
  have hD : va_D A [(h0, .inr (7, [.int p0, .int p1, .int 0, .int 0]))] := hD
  exact W.vret hx hb hr (fun t ht hW => ⟨_, rfl, rfl, by rw [ht]; exact (kE.ofS hS).wk (fun q hq h => by rw [← hAe] at h; rcases h with h | h; exact h; omega), by rw [ht]; exact k_at0 hP 0 rfl⟩) hS.2.2 d_Item_init_14
set_option maxHeartbeats 4000000 in
set_option maxRecDepth 100000 in
theorem c_Kern_init (l : Launch) (g : KGt) (H0 : Heap) (h0 : Nat) (p0 : Int32) (o0 : va_at g.1 kcl (h0, .inr (6, [.int 0, .int 0])) H0) : Met l y_Kern_init (kW y_Kern_init b_Kern_init 2 (.none : Option FieldType)) ({ frames := 2, cells := 0, slots := 0, locals := 34 }) (kPc [.ref h0, .int p0] (KK g) H0) (kQc (fun v H1 => v = none ∧ kE (fun q => q = h0) H0 H1 ∧ va_at g.1 kcl (h0, .inr (6, [.int 3, .int p0])) H1)) 0 0 (fun q : Nat => q = h0 ∨ H0.size ≤ q) := by
  refine Met.ofW (cc := b_Kern_init) (maxL := 2) (ret := (.none : Option FieldType)) (by decide) rfl ?_
  intro p e s m args below meth c s₁ B hml hv
  obtain ⟨rfl, hH, hKK⟩ := hv
  have hx := B.exec
  have hb := B.bytes
  have hr := B.returns
  have hts := kW_ts (atoms_spec (ws := kW y_Kern_init b_Kern_init 2 (.none : Option FieldType)) B.pre)
  have hown : s.vm.findClass "BoxGlue$Kern" = some m.cls := findClass_of_methodNamed B.named
  have hlocks := B.notSynchronized
  have hK := hKK.1
  subst hH
  have hl := lv_entry ([.ref h0, .int p0]) (n := 2) (Nat.le_of_ble_eq_true rfl)
  rw [lg_entry_eq]
  generalize (lg_sl ([.ref h0, .int p0]) ++ List.replicate (2 - (lg_sl ([.ref h0, .int p0])).length) Slot.unset).toArray = ls at hl ⊢
  have hl : lv_has ls 2 [(0, .ref h0), (1, .int p0)] := hl
  have hin : meth.name = "<init>" := (name_of_methodNamed B.named B.method).1
  generalize hAe : (fun q : Nat => q = h0 ∨ s.heap.size ≤ q) = A
  have hA : ∀ q : Nat, s.heap.size ≤ q → A q := fun q h => by rw [← hAe]; exact Or.inr h
  have hS : va_S A s.heap s.heap [] := va_S.rf
  have hP : va_P g.1 kcl [(h0, .inr (6, [.int 0, .int 0]))] s.heap := k_one o0
  have hD : va_D A [(h0, .inr (6, [.int 0, .int 0]))] := k_D1 (by rw [← hAe]; exact Or.inl rfl)
  refine lv_aload_n hx hb d_Kern_init_0 rfl (lv_at hl 0 rfl) ?_
  refine lv_iconst (v := 3) hx hb d_Kern_init_1 (by decide) ?_
  refine lv_iload_n hx hb d_Kern_init_2 rfl (lv_at hl 1 rfl) ?_
  refine k_call (A := A) (W.runI (As := [.int 3, .int p0]) (rest := []) ⟨hx, hb, hml, hown, hts⟩ (c_Item_init6 l g s.heap h0 3 p0 o0) (cwI 2 hts (kW_good kw_224) rfl rfl rfl (hts _ kw_12) (hts _ kw_301) (hts _ kw_223) rfl (by decide +kernel) ⟨Nat.le_of_ble_eq_true rfl, Nat.le_of_ble_eq_true rfl⟩) (k_pre (KK_st g) hKK) rfl rfl hl.1 rfl (lv_room (Nat.le_of_ble_eq_true rfl)) d_Kern_init_3 ⟨Nat.le_of_ble_eq_true rfl, Nat.le_of_ble_eq_true rfl⟩) hS.2.2 (fun q h => by rw [← hAe]; exact h) (fun v H locs hv hL => ?_)
  obtain ⟨rfl, hE, o1⟩ := hv
  have hP : va_P g.1 kcl [(h0, .inr (6, [.int 3, .int p0]))] H := k_one o1
  have hD : va_D A [(h0, .inr (6, [.int 3, .int p0]))] := k_D1 (by rw [← hAe]; exact Or.inl rfl)
  have hS : va_S A s.heap H locs := (hE.wk (fun q _ h => by rw [← hAe]; exact Or.inl h)).S hL
  exact W.vret hx hb hr (fun t ht hW => ⟨_, rfl, rfl, by rw [ht]; exact (kE.ofS hS).wk (fun q hq h => by rw [← hAe] at h; rcases h with h | h; exact h; omega), by rw [ht]; exact k_at0 hP 0 rfl⟩) hS.2.2 d_Kern_init_6
set_option maxHeartbeats 4000000 in
set_option maxRecDepth 100000 in
theorem c_Rule_init (l : Launch) (g : KGt) (H0 : Heap) (h0 : Nat) (p0 : Int32) (p1 : Int32) (p2 : Int32) (o0 : va_at g.1 kcl (h0, .inr (7, [.int 0, .int 0, .int 0, .int 0])) H0) : Met l y_Rule_init (kW y_Rule_init b_Rule_init 4 (.none : Option FieldType)) ({ frames := 2, cells := 0, slots := 0, locals := 34 }) (kPc [.ref h0, .int p0, .int p1, .int p2] (KK g) H0) (kQc (fun v H1 => v = none ∧ kE (fun q => q = h0) H0 H1 ∧ va_at g.1 kcl (h0, .inr (7, [.int 4, .int p0, .int p1, .int p2])) H1)) 0 0 (fun q : Nat => q = h0 ∨ H0.size ≤ q) := by
  refine Met.ofW (cc := b_Rule_init) (maxL := 4) (ret := (.none : Option FieldType)) (by decide) rfl ?_
  intro p e s m args below meth c s₁ B hml hv
  obtain ⟨rfl, hH, hKK⟩ := hv
  have hx := B.exec
  have hb := B.bytes
  have hr := B.returns
  have hts := kW_ts (atoms_spec (ws := kW y_Rule_init b_Rule_init 4 (.none : Option FieldType)) B.pre)
  have hown : s.vm.findClass "BoxGlue$Rule" = some m.cls := findClass_of_methodNamed B.named
  have hlocks := B.notSynchronized
  have hK := hKK.1
  subst hH
  have hl := lv_entry ([.ref h0, .int p0, .int p1, .int p2]) (n := 4) (Nat.le_of_ble_eq_true rfl)
  rw [lg_entry_eq]
  generalize (lg_sl ([.ref h0, .int p0, .int p1, .int p2]) ++ List.replicate (4 - (lg_sl ([.ref h0, .int p0, .int p1, .int p2])).length) Slot.unset).toArray = ls at hl ⊢
  have hl : lv_has ls 4 [(0, .ref h0), (1, .int p0), (2, .int p1), (3, .int p2)] := hl
  have hin : meth.name = "<init>" := (name_of_methodNamed B.named B.method).1
  generalize hAe : (fun q : Nat => q = h0 ∨ s.heap.size ≤ q) = A
  have hA : ∀ q : Nat, s.heap.size ≤ q → A q := fun q h => by rw [← hAe]; exact Or.inr h
  have hS : va_S A s.heap s.heap [] := va_S.rf
  have hP : va_P g.1 kcl [(h0, .inr (7, [.int 0, .int 0, .int 0, .int 0]))] s.heap := k_one o0
  have hD : va_D A [(h0, .inr (7, [.int 0, .int 0, .int 0, .int 0]))] := k_D1 (by rw [← hAe]; exact Or.inl rfl)
  refine lv_aload_n hx hb d_Rule_init_0 rfl (lv_at hl 0 rfl) ?_
  refine lv_iconst (v := 4) hx hb d_Rule_init_1 (by decide) ?_
  refine lv_iload_n hx hb d_Rule_init_2 rfl (lv_at hl 1 rfl) ?_
  refine k_call (A := A) (W.runI (As := [.int 4, .int p0]) (rest := []) ⟨hx, hb, hml, hown, hts⟩ (c_Item_init7 l g s.heap h0 4 p0 o0) (cwI 2 hts (kW_good kw_224) rfl rfl rfl (hts _ kw_12) (hts _ kw_318) (hts _ kw_223) rfl (by decide +kernel) ⟨Nat.le_of_ble_eq_true rfl, Nat.le_of_ble_eq_true rfl⟩) (k_pre (KK_st g) hKK) rfl rfl hl.1 rfl (lv_room (Nat.le_of_ble_eq_true rfl)) d_Rule_init_3 ⟨Nat.le_of_ble_eq_true rfl, Nat.le_of_ble_eq_true rfl⟩) hS.2.2 (fun q h => by rw [← hAe]; exact h) (fun v H locs hv hL => ?_)
  obtain ⟨rfl, hE, o1⟩ := hv
  have hP : va_P g.1 kcl [(h0, .inr (7, [.int 4, .int p0, .int 0, .int 0]))] H := k_one o1
  have hD : va_D A [(h0, .inr (7, [.int 4, .int p0, .int 0, .int 0]))] := k_D1 (by rw [← hAe]; exact Or.inl rfl)
  have hS : va_S A s.heap H locs := (hE.wk (fun q _ h => by rw [← hAe]; exact Or.inl h)).S hL
  refine lv_aload_n hx hb d_Rule_init_6 rfl (lv_at hl 0 rfl) ?_
  refine lv_iload_n hx hb d_Rule_init_7 rfl (lv_at hl 2 rfl) ?_
  refine va_putF (D := g.1) (ci := 7) (v := .int p1) (ty := .int) (C := "BoxGlue$Rule") (T := kT_Rule) (N := 4) hx hb hts ki_Rule kt_Rule ko_Rule kn_Rule hown hK hP hD hS 0 rfl rfl 2 (by decide) (hts _ kw_319) (fun _ h9 => h9) rfl hin rfl (by decide +kernel) rfl rfl (Nat.le_of_ble_eq_true rfl) d_Rule_init_8 (fun H locs hP hD hS => ?_)
  have hP : va_P g.1 kcl [(h0, .inr (7, [.int 4, .int p0, .int p1, .int 0]))] H := hP
  have hD : va_D A [(h0, .inr (7, [.int 4, .int p0, .int p1, .int 0]))] := hD
  refine lv_aload_n hx hb d_Rule_init_11 rfl (lv_at hl 0 rfl) ?_
  refine lv_iload_n hx hb d_Rule_init_12 rfl (lv_at hl 3 rfl) ?_
  refine va_putF (D := g.1) (ci := 7) (v := .int p2) (ty := .int) (C := "BoxGlue$Rule") (T := kT_Rule) (N := 4) hx hb hts ki_Rule kt_Rule ko_Rule kn_Rule hown hK hP hD hS 0 rfl rfl 3 (by decide) (hts _ kw_320) (fun _ h9 => h9) rfl hin rfl (by decide +kernel) rfl rfl (Nat.le_of_ble_eq_true rfl) d_Rule_init_13 (fun H locs hP hD hS => ?_)
  have hP : va_P g.1 kcl [(h0, .inr (7, [.int 4, .int p0, .int p1, .int p2]))] H := hP
  have hD : va_D A [(h0, .inr (7, [.int 4, .int p0, .int p1, .int p2]))] := hD
  exact W.vret hx hb hr (fun t ht hW => ⟨_, rfl, rfl, by rw [ht]; exact (kE.ofS hS).wk (fun q hq h => by rw [← hAe] at h; rcases h with h | h; exact h; omega), by rw [ht]; exact k_at0 hP 0 rfl⟩) hS.2.2 d_Rule_init_16
set_option maxHeartbeats 4000000 in
set_option maxRecDepth 100000 in
theorem c_Glue_init (l : Launch) (g : KGt) (H0 : Heap) (h0 : Nat) (p0 : Int32) (p1 : Int32) (p2 : Int32) (p3 : Int32) (p4 : Int32) (p5 : Nat) (o0 : va_at g.1 kcl (h0, .inr (5, [.int 0, .int 0, .int 0, .int 0, .int 0, .int 0, .null])) H0) : Met l y_Glue_init (kW y_Glue_init b_Glue_init 7 (.none : Option FieldType)) ({ frames := 2, cells := 0, slots := 0, locals := 34 }) (kPc [.ref h0, .int p0, .int p1, .int p2, .int p3, .int p4, .ref p5] (KK g) H0) (kQc (fun v H1 => v = none ∧ kE (fun q => q = h0) H0 H1 ∧ va_at g.1 kcl (h0, .inr (5, [.int 2, .int p0, .int p1, .int p2, .int p3, .int p4, .ref p5])) H1)) 0 0 (fun q : Nat => q = h0 ∨ H0.size ≤ q) := by
  refine Met.ofW (cc := b_Glue_init) (maxL := 7) (ret := (.none : Option FieldType)) (by decide) rfl ?_
  intro p e s m args below meth c s₁ B hml hv
  obtain ⟨rfl, hH, hKK⟩ := hv
  have hx := B.exec
  have hb := B.bytes
  have hr := B.returns
  have hts := kW_ts (atoms_spec (ws := kW y_Glue_init b_Glue_init 7 (.none : Option FieldType)) B.pre)
  have hown : s.vm.findClass "BoxGlue$Glue" = some m.cls := findClass_of_methodNamed B.named
  have hlocks := B.notSynchronized
  have hK := hKK.1
  subst hH
  have hl := lv_entry ([.ref h0, .int p0, .int p1, .int p2, .int p3, .int p4, .ref p5]) (n := 7) (Nat.le_of_ble_eq_true rfl)
  rw [lg_entry_eq]
  generalize (lg_sl ([.ref h0, .int p0, .int p1, .int p2, .int p3, .int p4, .ref p5]) ++ List.replicate (7 - (lg_sl ([.ref h0, .int p0, .int p1, .int p2, .int p3, .int p4, .ref p5])).length) Slot.unset).toArray = ls at hl ⊢
  have hl : lv_has ls 7 [(0, .ref h0), (1, .int p0), (2, .int p1), (3, .int p2), (4, .int p3), (5, .int p4), (6, .ref p5)] := hl
  have hin : meth.name = "<init>" := (name_of_methodNamed B.named B.method).1
  generalize hAe : (fun q : Nat => q = h0 ∨ s.heap.size ≤ q) = A
  have hA : ∀ q : Nat, s.heap.size ≤ q → A q := fun q h => by rw [← hAe]; exact Or.inr h
  have hS : va_S A s.heap s.heap [] := va_S.rf
  have hP : va_P g.1 kcl [(h0, .inr (5, [.int 0, .int 0, .int 0, .int 0, .int 0, .int 0, .null]))] s.heap := k_one o0
  have hD : va_D A [(h0, .inr (5, [.int 0, .int 0, .int 0, .int 0, .int 0, .int 0, .null]))] := k_D1 (by rw [← hAe]; exact Or.inl rfl)
  refine lv_aload_n hx hb d_Glue_init_0 rfl (lv_at hl 0 rfl) ?_
  refine lv_iconst (v := 2) hx hb d_Glue_init_1 (by decide) ?_
  refine lv_iload_n hx hb d_Glue_init_2 rfl (lv_at hl 1 rfl) ?_
  refine k_call (A := A) (W.runI (As := [.int 2, .int p0]) (rest := []) ⟨hx, hb, hml, hown, hts⟩ (c_Item_init5 l g s.heap h0 2 p0 o0) (cwI 2 hts (kW_good kw_224) rfl rfl rfl (hts _ kw_12) (hts _ kw_273) (hts _ kw_223) rfl (by decide +kernel) ⟨Nat.le_of_ble_eq_true rfl, Nat.le_of_ble_eq_true rfl⟩) (k_pre (KK_st g) hKK) rfl rfl hl.1 rfl (lv_room (Nat.le_of_ble_eq_true rfl)) d_Glue_init_3 ⟨Nat.le_of_ble_eq_true rfl, Nat.le_of_ble_eq_true rfl⟩) hS.2.2 (fun q h => by rw [← hAe]; exact h) (fun v H locs hv hL => ?_)
  obtain ⟨rfl, hE, o1⟩ := hv
  have hP : va_P g.1 kcl [(h0, .inr (5, [.int 2, .int p0, .int 0, .int 0, .int 0, .int 0, .null]))] H := k_one o1
  have hD : va_D A [(h0, .inr (5, [.int 2, .int p0, .int 0, .int 0, .int 0, .int 0, .null]))] := k_D1 (by rw [← hAe]; exact Or.inl rfl)
  have hS : va_S A s.heap H locs := (hE.wk (fun q _ h => by rw [← hAe]; exact Or.inl h)).S hL
  refine lv_aload_n hx hb d_Glue_init_6 rfl (lv_at hl 0 rfl) ?_
  refine lv_iload_n hx hb d_Glue_init_7 rfl (lv_at hl 2 rfl) ?_
  refine va_putF (D := g.1) (ci := 5) (v := .int p1) (ty := .int) (C := "BoxGlue$Glue") (T := kT_Glue) (N := 7) hx hb hts ki_Glue kt_Glue ko_Glue kn_Glue hown hK hP hD hS 0 rfl rfl 2 (by decide) (hts _ kw_274) (fun _ h9 => h9) rfl hin rfl (by decide +kernel) rfl rfl (Nat.le_of_ble_eq_true rfl) d_Glue_init_8 (fun H locs hP hD hS => ?_)
  have hP : va_P g.1 kcl [(h0, .inr (5, [.int 2, .int p0, .int p1, .int 0, .int 0, .int 0, .null]))] H := hP
  have hD : va_D A [(h0, .inr (5, [.int 2, .int p0, .int p1, .int 0, .int 0, .int 0, .null]))] := hD
  refine lv_aload_n hx hb d_Glue_init_11 rfl (lv_at hl 0 rfl) ?_
  refine lv_iload_n hx hb d_Glue_init_12 rfl (lv_at hl 3 rfl) ?_
  refine va_putF (D := g.1) (ci := 5) (v := .int p2) (ty := .int) (C := "BoxGlue$Glue") (T := kT_Glue) (N := 7) hx hb hts ki_Glue kt_Glue ko_Glue kn_Glue hown hK hP hD hS 0 rfl rfl 3 (by decide) (hts _ kw_275) (fun _ h9 => h9) rfl hin rfl (by decide +kernel) rfl rfl (Nat.le_of_ble_eq_true rfl) d_Glue_init_13 (fun H locs hP hD hS => ?_)
  have hP : va_P g.1 kcl [(h0, .inr (5, [.int 2, .int p0, .int p1, .int p2, .int 0, .int 0, .null]))] H := hP
  have hD : va_D A [(h0, .inr (5, [.int 2, .int p0, .int p1, .int p2, .int 0, .int 0, .null]))] := hD
  refine lv_aload_n hx hb d_Glue_init_16 rfl (lv_at hl 0 rfl) ?_
  refine lv_iload hx hb d_Glue_init_17 (lv_at hl 4 rfl) ?_
  refine va_putF (D := g.1) (ci := 5) (v := .int p3) (ty := .int) (C := "BoxGlue$Glue") (T := kT_Glue) (N := 7) hx hb hts ki_Glue kt_Glue ko_Glue kn_Glue hown hK hP hD hS 0 rfl rfl 4 (by decide) (hts _ kw_276) (fun _ h9 => h9) rfl hin rfl (by decide +kernel) rfl rfl (Nat.le_of_ble_eq_true rfl) d_Glue_init_19 (fun H locs hP hD hS => ?_)
  have hP : va_P g.1 kcl [(h0, .inr (5, [.int 2, .int p0, .int p1, .int p2, .int p3, .int 0, .null]))] H := hP
  have hD : va_D A [(h0, .inr (5, [.int 2, .int p0, .int p1, .int p2, .int p3, .int 0, .null]))] := hD
  refine lv_aload_n hx hb d_Glue_init_22 rfl (lv_at hl 0 rfl) ?_
  refine lv_iload hx hb d_Glue_init_23 (lv_at hl 5 rfl) ?_
  refine va_putF (D := g.1) (ci := 5) (v := .int p4) (ty := .int) (C := "BoxGlue$Glue") (T := kT_Glue) (N := 7) hx hb hts ki_Glue kt_Glue ko_Glue kn_Glue hown hK hP hD hS 0 rfl rfl 5 (by decide) (hts _ kw_277) (fun _ h9 => h9) rfl hin rfl (by decide +kernel) rfl rfl (Nat.le_of_ble_eq_true rfl) d_Glue_init_25 (fun H locs hP hD hS => ?_)
  have hP : va_P g.1 kcl [(h0, .inr (5, [.int 2, .int p0, .int p1, .int p2, .int p3, .int p4, .null]))] H := hP
  have hD : va_D A [(h0, .inr (5, [.int 2, .int p0, .int p1, .int p2, .int p3, .int p4, .null]))] := hD
  refine lv_aload_n hx hb d_Glue_init_28 rfl (lv_at hl 0 rfl) ?_
  refine lv_aload hx hb d_Glue_init_29 (lv_at hl 6 rfl) ?_
  refine va_putF (D := g.1) (ci := 5) (v := .ref p5) (ty := .object "BoxGlue$Leaders") (C := "BoxGlue$Glue") (T := kT_Glue) (N := 7) hx hb hts ki_Glue kt_Glue ko_Glue kn_Glue hown hK hP hD hS 0 rfl rfl 6 (by decide) (hts _ kw_278) (fun _ h9 => h9) rfl hin rfl (by decide +kernel) rfl rfl (Nat.le_of_ble_eq_true rfl) d_Glue_init_31 (fun H locs hP hD hS => ?_)
  have hP : va_P g.1 kcl [(h0, .inr (5, [.int 2, .int p0, .int p1, .int p2, .int p3, .int p4, .ref p5]))] H := hP
  have hD : va_D A [(h0, .inr (5, [.int 2, .int p0, .int p1, .int p2, .int p3, .int p4, .ref p5]))] := hD
  exact W.vret hx hb hr (fun t ht hW => ⟨_, rfl, rfl, by rw [ht]; exact (kE.ofS hS).wk (fun q hq h => by rw [← hAe] at h; rcases h with h | h; exact h; omega), by rw [ht]; exact k_at0 hP 0 rfl⟩) hS.2.2 d_Glue_init_34
set_option maxHeartbeats 4000000 in
set_option maxRecDepth 100000 in
theorem c_Put_init (l : Launch) (g : KGt) (H0 : Heap) (h0 : Nat) (p0 : Nat) (p1 : Int32) (bl bh bd : Int32) (bc bf : Nat) (b0 : va_at g.1 kcl (p0, .inr (2, [.int bl, .int bh, .int bd, .ref bc, .ref bf])) H0) (o0 : va_at g.1 kcl (h0, .inr (4, [.int 0, .int 0, .int 0, .int 0])) H0) : Met l y_Put_init (kW y_Put_init b_Put_init 3 (.none : Option FieldType)) ({ frames := 2, cells := 0, slots := 0, locals := 34 }) (kPc [.ref h0, .ref p0, .int p1] (KK g) H0) (kQc (fun v H1 => v = none ∧ kE (fun q => q = h0) H0 H1 ∧ va_at g.1 kcl (h0, .inr (4, [.int 1, .int bl, .int (bh - p1), .int (bd + p1)])) H1)) 0 0 (fun q : Nat => q = h0 ∨ H0.size ≤ q) := by
  refine Met.ofW (cc := b_Put_init) (maxL := 3) (ret := (.none : Option FieldType)) (by decide) rfl ?_
  intro p e s m args below meth c s₁ B hml hv
  obtain ⟨rfl, hH, hKK⟩ := hv
  have hx := B.exec
  have hb := B.bytes
  have hr := B.returns
  have hts := kW_ts (atoms_spec (ws := kW y_Put_init b_Put_init 3 (.none : Option FieldType)) B.pre)
  have hown : s.vm.findClass "BoxGlue$Put" = some m.cls := findClass_of_methodNamed B.named
  have hlocks := B.notSynchronized
  have hK := hKK.1
  subst hH
  have hl := lv_entry ([.ref h0, .ref p0, .int p1]) (n := 3) (Nat.le_of_ble_eq_true rfl)
  rw [lg_entry_eq]
  generalize (lg_sl ([.ref h0, .ref p0, .int p1]) ++ List.replicate (3 - (lg_sl ([.ref h0, .ref p0, .int p1])).length) Slot.unset).toArray = ls at hl ⊢
  have hl : lv_has ls 3 [(0, .ref h0), (1, .ref p0), (2, .int p1)] := hl
  have hin : meth.name = "<init>" := (name_of_methodNamed B.named B.method).1
  generalize hAe : (fun q : Nat => q = h0 ∨ s.heap.size ≤ q) = A
  have hA : ∀ q : Nat, s.heap.size ≤ q → A q := fun q h => by rw [← hAe]; exact Or.inr h
  have hS : va_S A s.heap s.heap [] := va_S.rf
  have hP : va_P g.1 kcl [(h0, .inr (4, [.int 0, .int 0, .int 0, .int 0]))] s.heap := k_one o0
  have hD : va_D A [(h0, .inr (4, [.int 0, .int 0, .int 0, .int 0]))] := k_D1 (by rw [← hAe]; exact Or.inl rfl)
  refine lv_aload_n hx hb d_Put_init_0 rfl (lv_at hl 0 rfl) ?_
  refine lv_iconst (v := 1) hx hb d_Put_init_1 (by decide) ?_
  refine lv_aload_n hx hb d_Put_init_2 rfl (lv_at hl 1 rfl) ?_
  refine va_get (D := g.1) (ci := 2) (v := .int bl) (C := "BoxGlue$Box") (T := kT_Box) (N := 5) hx hb hts ki_Box hown hK (k_one b0) 0 rfl rfl 0 (by decide) (hts _ kw_109) (fun _ h9 => h9) rfl d_Put_init_3 ?_
  refine k_call (A := A) (W.runI (As := [.int 1, .int bl]) (rest := []) ⟨hx, hb, hml, hown, hts⟩ (c_Item_init4 l g s.heap h0 1 bl o0) (cwI 2 hts (kW_good kw_224) rfl rfl rfl (hts _ kw_12) (hts _ kw_222) (hts _ kw_223) rfl (by decide +kernel) ⟨Nat.le_of_ble_eq_true rfl, Nat.le_of_ble_eq_true rfl⟩) (k_pre (KK_st g) hKK) rfl rfl hl.1 rfl (lv_room (Nat.le_of_ble_eq_true rfl)) d_Put_init_6 ⟨Nat.le_of_ble_eq_true rfl, Nat.le_of_ble_eq_true rfl⟩) hS.2.2 (fun q h => by rw [← hAe]; exact h) (fun v H locs hv hL => ?_)
  obtain ⟨rfl, hE, o1⟩ := hv
  have hP : va_P g.1 kcl [(h0, .inr (4, [.int 1, .int bl, .int 0, .int 0]))] H := k_one o1
  have hD : va_D A [(h0, .inr (4, [.int 1, .int bl, .int 0, .int 0]))] := k_D1 (by rw [← hAe]; exact Or.inl rfl)
  have hS : va_S A s.heap H locs := (hE.wk (fun q _ h => by rw [← hAe]; exact Or.inl h)).S hL
  have b1 := hE.at b0 (fun h => k_obob hK b0 (show va_at g.1 kcl (p0, _) s.heap from h ▸ o0) (by decide +kernel))
  refine lv_aload_n hx hb d_Put_init_9 rfl (lv_at hl 0 rfl) ?_
  refine lv_aload_n hx hb d_Put_init_10 rfl (lv_at hl 1 rfl) ?_
  refine va_get (D := g.1) (ci := 2) (v := .int bh) (C := "BoxGlue$Box") (T := kT_Box) (N := 5) hx hb hts ki_Box hown hK (k_one b1) 0 rfl rfl 1 (by decide) (hts _ kw_113) (fun _ h9 => h9) rfl d_Put_init_11 ?_
  refine lv_iload_n hx hb d_Put_init_14 rfl (lv_at hl 2 rfl) ?_
  refine lv_isub hx hb d_Put_init_15 ?_
  refine va_putF (D := g.1) (ci := 4) (v := .int (bh - p1)) (ty := .int) (C := "BoxGlue$Put") (T := kT_Put) (N := 4) hx hb hts ki_Put kt_Put ko_Put kn_Put hown hK hP hD hS 0 rfl rfl 2 (by decide) (hts _ kw_226) (fun _ h9 => h9) rfl hin rfl (by decide +kernel) rfl rfl (Nat.le_of_ble_eq_true rfl) d_Put_init_16 (fun H locs hP hD hS => ?_)
  have hP : va_P g.1 kcl [(h0, .inr (4, [.int 1, .int bl, .int (bh - p1), .int 0]))] H := hP
  have hD : va_D A [(h0, .inr (4, [.int 1, .int bl, .int (bh - p1), .int 0]))] := hD
  have b1 := (kE.ofS hS).at b0 (fun h => by rw [← hAe] at h; rcases h with h | h; exact k_obob hK b0 (show va_at g.1 kcl (p0, _) s.heap from h ▸ o0) (by decide +kernel); exact absurd b0.lt (Nat.not_lt.mpr h))
  refine lv_aload_n hx hb d_Put_init_19 rfl (lv_at hl 0 rfl) ?_
  refine lv_aload_n hx hb d_Put_init_20 rfl (lv_at hl 1 rfl) ?_
  refine va_get (D := g.1) (ci := 2) (v := .int bd) (C := "BoxGlue$Box") (T := kT_Box) (N := 5) hx hb hts ki_Box hown hK (k_one b1) 0 rfl rfl 2 (by decide) (hts _ kw_116) (fun _ h9 => h9) rfl d_Put_init_21 ?_
  refine lv_iload_n hx hb d_Put_init_24 rfl (lv_at hl 2 rfl) ?_
  refine lv_iadd hx hb d_Put_init_25 ?_
  refine va_putF (D := g.1) (ci := 4) (v := .int (bd + p1)) (ty := .int) (C := "BoxGlue$Put") (T := kT_Put) (N := 4) hx hb hts ki_Put kt_Put ko_Put kn_Put hown hK hP hD hS 0 rfl rfl 3 (by decide) (hts _ kw_227) (fun _ h9 => h9) rfl hin rfl (by decide +kernel) rfl rfl (Nat.le_of_ble_eq_true rfl) d_Put_init_26 (fun H locs hP hD hS => ?_)
  have hP : va_P g.1 kcl [(h0, .inr (4, [.int 1, .int bl, .int (bh - p1), .int (bd + p1)]))] H := hP
  have hD : va_D A [(h0, .inr (4, [.int 1, .int bl, .int (bh - p1), .int (bd + p1)]))] := hD
  exact W.vret hx hb hr (fun t ht hW => ⟨_, rfl, rfl, by rw [ht]; exact (kE.ofS hS).wk (fun q hq h => by rw [← hAe] at h; rcases h with h | h; exact h; omega), by rw [ht]; exact k_at0 hP 0 rfl⟩) hS.2.2 d_Put_init_29

/-! ArrayList: its writers -/
/-- the cells that were there when the law began are as they were -/
def kB (g : KGt) (H : Heap) : Prop := kE (fun _ => False) g.2.2.1 H
theorem kB.tr {g : KGt} {A : Nat → Prop} {H H1 : Heap} (h : kB g H) (k : kE A H H1) (hA : ∀ q, q < g.2.2.1.size → ¬ A q) : kB g H1 := kE.tr h k (fun q hq z => hA q hq z)
/-- an object that may lie in a row of Object -/
def kObj (g : KGt) (e : Nat) (H : Heap) : Prop := ∃ (ci : Nat) (fs : List Value), va_at g.1 kcl (e, .inr (ci, fs)) H ∧ (ci = 2 ∨ ci = 4 ∨ ci = 5 ∨ ci = 6 ∨ ci = 7 ∨ ci = 9)
theorem kObj.any {g : KGt} {e : Nat} {H : Heap} {s : State} (h : kObj g e H) (hK : KK g s) : va_Any "java/lang/Object" s H e := by
  obtain ⟨ci, fs, h1, h2⟩ := h
  rcases h2 with rfl | rfl | rfl | rfl | rfl | rfl
  · exact va_rAny hK.1 (k_one h1) (q0 := 0) rfl (r := ("BoxGlue$Box", kT_Box, 5)) rfl (vb_asgC (hK.2.1 (.castable "BoxGlue$Box" "java/lang/Object") (by decide +kernel)))
  · exact va_rAny hK.1 (k_one h1) (q0 := 0) rfl (r := ("BoxGlue$Put", kT_Put, 4)) rfl (vb_asgC (hK.2.1 (.castable "BoxGlue$Put" "java/lang/Object") (by decide +kernel)))
  · exact va_rAny hK.1 (k_one h1) (q0 := 0) rfl (r := ("BoxGlue$Glue", kT_Glue, 7)) rfl (vb_asgC (hK.2.1 (.castable "BoxGlue$Glue" "java/lang/Object") (by decide +kernel)))
  · exact va_rAny hK.1 (k_one h1) (q0 := 0) rfl (r := ("BoxGlue$Kern", kT_Kern, 2)) rfl (vb_asgC (hK.2.1 (.castable "BoxGlue$Kern" "java/lang/Object") (by decide +kernel)))
  · exact va_rAny hK.1 (k_one h1) (q0 := 0) rfl (r := ("BoxGlue$Rule", kT_Rule, 4)) rfl (vb_asgC (hK.2.1 (.castable "BoxGlue$Rule" "java/lang/Object") (by decide +kernel)))
  · exact va_rAny hK.1 (k_one h1) (q0 := 0) rfl (r := ("BoxGlue$Placed", kT_Placed, 3)) rfl (vb_asgC (hK.2.1 (.castable "BoxGlue$Placed" "java/lang/Object") (by decide +kernel)))
theorem kObj.kept {g : KGt} {e : Nat} {H H1 : Heap} (h : kObj g e H) (k : H1[e]? = H[e]?) : kObj g e H1 := by
  obtain ⟨ci, fs, h1, h2⟩ := h
  exact ⟨ci, fs, h1.kept k, h2⟩
theorem kObj.lt {g : KGt} {e : Nat} {H : Heap} (h : kObj g e H) : e < H.size := by
  obtain ⟨ci, fs, h1, h2⟩ := h
  exact h1.lt
theorem k_cA {g : KGt} {s : State} {cA : ClassId} (hK : va_K g.1 kcl (kTy g) s) (h9 : va_K g.1 kcl (kTy g ++ [(cA, .object "java/lang/Object")]) s) : cA = g.2.1.1 := by
  obtain ⟨-, -, -, -, -, h1⟩ := (hK.2 0 _ rfl).2
  obtain ⟨-, -, -, -, -, h2⟩ := (h9.2 3 _ rfl).2
  exact Option.some.inj (h2.symm.trans h1)
theorem k_arrcls {g : KGt} {s : State} {a n : Nat} {f : Nat → Option Nat} {H : Heap} (hK : va_K g.1 kcl (kTy g) s) (h : va_at g.1 kcl (a, .inl (g.2.1.1, n, .inr (.inr (.inr (.inr f))))) H) : ∃ cell : Cell, H[a]? = some cell ∧ cell.vm.isStatics = false ∧ s.vm.findClass "[Ljava/lang/Object;" = some cell.cls :=
  ⟨_, h, rfl, va_nmO (hK.2 0 _ rfl).2 (by decide +kernel)⟩
section KGS
variable {p : Program} {l : Launch} {e : Env} {R : Room} {s : State} {m : MethodId} {args : Array Value} {below : List Frame} {meth : Method} {c : Code} {H : Heap} {locs : List Loc} {cells slots : Nat} {Q : State → Prop}
variable {cc : ByteArray} {pc : Nat} {ls : Array Slot} {rest : List Value} {g : KGt}
theorem k_gets (hexec : p.tables.exec = Jvm.exec) (hb : c.code = cc) {own : String} {index : Nat} (hKK : KK g s) (hB : kB g H) (hown : s.vm.findClass own = some m.cls) (hlink : (Cond.fieldLink own index "java/util/ArrayList" "DEFAULTCAPACITY_EMPTY_ELEMENTDATA" "[Ljava/lang/Object;").before args s = true) (hdg : decode cc pc = .ok (.getstatic index, 3))
    (kk : W p l e R s m args below meth c H locs cells slots Q (F0 m (pc + 3) ls (.ref g.2.2.2.1 :: rest))) : W p l e R s m args below meth c H locs cells slots Q (F0 m pc ls rest) := by
  obtain ⟨cf, kf, fi, f, a, cell, h1, h2, h3, h4, h5, h6, h7, h8⟩ := hKK.2.2.2.2.2.2
  exact W.gets hexec hb hown hlink h1 h2 h3 h4 (by rw [hB.2 a (Array.getElem?_eq_some_iff.mp h5).1 id]; exact h5) (fun e => by rw [e] at h6; cases h6) h7 rfl hdg kk
end KGS
/-- a cell that stands among others, said of one -/
theorem k_at0 {D : va_G} {cl : List vw_C} {ws : va_W} {H : Heap} (h : va_P D cl ws H) (k : Nat) {q : Nat × va_E} (hk : ws[k]? = some q) : va_at D cl q H := h k q hk
set_option maxHeartbeats 4000000 in
set_option maxRecDepth 100000 in
theorem c_AbC_init (l : Launch) (g : KGt) (H0 : Heap) (h0 : Nat) : Met l y_AbC_init (kW y_AbC_init b_AbC_init 1 (.none : Option FieldType)) ({ frames := 1, cells := 0, slots := 0, locals := 12 }) (kPc [.ref h0] (KK g) H0) (kQc (fun v H1 => v = none ∧ H1 = H0)) 0 0 (fun _ => False) := by
  refine va_MetF (cc := b_AbC_init) (maxL := 1) (ret := (.none : Option FieldType)) (by decide +kernel) rfl ?_
  intro p e s m args below meth c s₁ B hml hv
  obtain ⟨rfl, hH, hKK⟩ := hv
  have hx := B.exec
  have hb := B.bytes
  have hr := B.returns
  have hts := kW_ts (atoms_spec (ws := kW y_AbC_init b_AbC_init 1 (.none : Option FieldType)) B.pre)
  have hown : s.vm.findClass "java/util/AbstractCollection" = some m.cls := findClass_of_methodNamed B.named
  have hlocks := B.notSynchronized
  have hK := hKK.1
  subst hH
  have hl := lv_entry ([.ref h0]) (n := 1) (Nat.le_of_ble_eq_true rfl)
  rw [lg_entry_eq]
  generalize (lg_sl ([.ref h0]) ++ List.replicate (1 - (lg_sl ([.ref h0])).length) Slot.unset).toArray = ls at hl ⊢
  have hl : lv_has ls 1 [(0, .ref h0)] := hl
  refine lv_aload_n hx hb d_AbC_init_0 rfl (lv_at hl 0 rfl) ?_
  refine W.objInit hx hb hown (hts _ kw_40) (hts _ kw_27) (hts _ kw_28) rfl (by rw [hml]; exact hl.1) rfl d_AbC_init_1 (Nat.le_of_ble_eq_true rfl) (Nat.le_of_ble_eq_true rfl) ?_
  refine W.eq (g2 := F0 m 4 ls []) rfl ?_
  exact W.vret hx hb hr (fun t ht hW => ⟨_, rfl, rfl, ht⟩) (fun _ h => by cases h) d_AbC_init_4
set_option maxHeartbeats 4000000 in
set_option maxRecDepth 100000 in
theorem c_AbL_init (l : Launch) (g : KGt) (H0 : Heap) (h0 : Nat) (arr : Value) (n mo : Int32) (o0 : va_at g.1 kcl (h0, .inr (1, [arr, .int n, .int mo])) H0) : Met l y_AbL_init (kW y_AbL_init b_AbL_init 1 (.none : Option FieldType)) ({ frames := 2, cells := 0, slots := 0, locals := 32 }) (kPc [.ref h0] (KK g) H0) (kQc (fun v H1 => v = none ∧ kE (fun q => q = h0) H0 H1 ∧ va_at g.1 kcl (h0, .inr (1, [arr, .int n, .int 0])) H1)) 0 0 (fun q : Nat => q = h0 ∨ H0.size ≤ q) := by
  refine va_MetF (cc := b_AbL_init) (maxL := 1) (ret := (.none : Option FieldType)) (by decide +kernel) rfl ?_
  intro p e s m args below meth c s₁ B hml hv
  obtain ⟨rfl, hH, hKK⟩ := hv
  have hx := B.exec
  have hb := B.bytes
  have hr := B.returns
  have hts := kW_ts (atoms_spec (ws := kW y_AbL_init b_AbL_init 1 (.none : Option FieldType)) B.pre)
  have hown : s.vm.findClass "java/util/AbstractList" = some m.cls := findClass_of_methodNamed B.named
  have hlocks := B.notSynchronized
  have hK := hKK.1
  subst hH
  have hl := lv_entry ([.ref h0]) (n := 1) (Nat.le_of_ble_eq_true rfl)
  rw [lg_entry_eq]
  generalize (lg_sl ([.ref h0]) ++ List.replicate (1 - (lg_sl ([.ref h0])).length) Slot.unset).toArray = ls at hl ⊢
  have hl : lv_has ls 1 [(0, .ref h0)] := hl
  generalize hAe : (fun q : Nat => q = h0 ∨ s.heap.size ≤ q) = A
  have hA : ∀ q : Nat, s.heap.size ≤ q → A q := fun q h => by rw [← hAe]; exact Or.inr h
  have hS : va_S A s.heap s.heap [] := va_S.rf
  have hP : va_P g.1 kcl [(h0, .inr (1, [arr, .int n, .int mo]))] s.heap := k_one o0
  have hD : va_D A [(h0, .inr (1, [arr, .int n, .int mo]))] := k_D1 (by rw [← hAe]; exact Or.inl rfl)
  refine lv_aload_n hx hb d_AbL_init_0 rfl (lv_at hl 0 rfl) ?_
  refine k_call (A := A) (W.runI (As := []) (rest := []) ⟨hx, hb, hml, hown, hts⟩ (c_AbC_init l g s.heap h0) (cwI 0 hts (kW_good kw_39) rfl rfl rfl (hts _ kw_2) (hts _ kw_37) (hts _ kw_38) rfl (by decide +kernel) ⟨Nat.le_of_ble_eq_true rfl, Nat.le_of_ble_eq_true rfl⟩) (k_pre (KK_st g) hKK) rfl rfl hl.1 rfl (lv_room (Nat.le_of_ble_eq_true rfl)) d_AbL_init_1 ⟨Nat.le_of_ble_eq_true rfl, Nat.le_of_ble_eq_true rfl⟩) hS.2.2 (fun _ h => h.elim) (fun v H locs hv hL => ?_)
  obtain ⟨rfl, hH⟩ := hv
  rw [← hH] at hP
  have hS : va_S A s.heap H locs := by rw [hH]; exact ⟨Nat.le_refl _, fun _ _ _ => rfl, hL⟩
  refine lv_aload_n hx hb d_AbL_init_4 rfl (lv_at hl 0 rfl) ?_
  refine lv_iconst (v := 0) hx hb d_AbL_init_5 (by decide) ?_
  refine va_put (D := g.1) (ci := 1) (v := .int 0) (ty := .int) (C := "java/util/ArrayList") (T := kT_AL) (N := 3) hx hb hts ki_AL kt_AL ko_AL kn_AL hown hK hP hD hS 0 rfl rfl 2 (by decide) (hts _ kw_45) (fun _ h9 => h9) rfl (by decide +kernel) rfl rfl (Nat.le_of_ble_eq_true rfl) d_AbL_init_6 (fun H locs hP hD hS => ?_)
  have hP : va_P g.1 kcl [(h0, .inr (1, [arr, .int n, .int 0]))] H := hP
  have hD : va_D A [(h0, .inr (1, [arr, .int n, .int 0]))] := hD
  exact W.vret hx hb hr (fun t ht hW => ⟨_, rfl, rfl, by rw [ht]; exact (kE.ofS hS).wk (fun q hq h => by rw [← hAe] at h; rcases h with h | h; exact h; omega), by rw [ht]; exact k_at0 hP 0 rfl⟩) hS.2.2 d_AbL_init_9
set_option maxHeartbeats 4000000 in
set_option maxRecDepth 100000 in
theorem c_AL_init (l : Launch) (g : KGt) (H0 : Heap) (h0 : Nat) (hB : kB g H0) (hg : g.2.2.1.size ≤ h0) (o0 : va_at g.1 kcl (h0, .inr (1, [.null, .int 0, .int 0])) H0) : Met l y_AL_init (kW y_AL_init b_AL_init 1 (.none : Option FieldType)) ({ frames := 3, cells := 0, slots := 0, locals := 52 }) (kPc [.ref h0] (KK g) H0) (kQc (fun v H1 => v = none ∧ kE (fun q => q = h0) H0 H1 ∧ va_at g.1 kcl (h0, .inr (1, [.ref g.2.2.2.1, .int 0, .int 0])) H1)) 0 0 (fun q : Nat => q = h0 ∨ H0.size ≤ q) := by
  refine va_MetF (cc := b_AL_init) (maxL := 1) (ret := (.none : Option FieldType)) (by decide +kernel) rfl ?_
  intro p e s m args below meth c s₁ B hml hv
  obtain ⟨rfl, hH, hKK⟩ := hv
  have hx := B.exec
  have hb := B.bytes
  have hr := B.returns
  have hts := kW_ts (atoms_spec (ws := kW y_AL_init b_AL_init 1 (.none : Option FieldType)) B.pre)
  have hown : s.vm.findClass "java/util/ArrayList" = some m.cls := findClass_of_methodNamed B.named
  have hlocks := B.notSynchronized
  have hK := hKK.1
  subst hH
  have hl := lv_entry ([.ref h0]) (n := 1) (Nat.le_of_ble_eq_true rfl)
  rw [lg_entry_eq]
  generalize (lg_sl ([.ref h0]) ++ List.replicate (1 - (lg_sl ([.ref h0])).length) Slot.unset).toArray = ls at hl ⊢
  have hl : lv_has ls 1 [(0, .ref h0)] := hl
  generalize hAe : (fun q : Nat => q = h0 ∨ s.heap.size ≤ q) = A
  have hA : ∀ q : Nat, s.heap.size ≤ q → A q := fun q h => by rw [← hAe]; exact Or.inr h
  have hS : va_S A s.heap s.heap [] := va_S.rf
  have hP : va_P g.1 kcl [(h0, .inr (1, [.null, .int 0, .int 0]))] s.heap := k_one o0
  have hD : va_D A [(h0, .inr (1, [.null, .int 0, .int 0]))] := k_D1 (by rw [← hAe]; exact Or.inl rfl)
  refine lv_aload_n hx hb d_AL_init_0 rfl (lv_at hl 0 rfl) ?_
  refine k_call (A := A) (W.runI (As := []) (rest := []) ⟨hx, hb, hml, hown, hts⟩ (c_AbL_init l g s.heap h0 .null 0 0 o0) (cwI 0 hts (kW_good kw_36) rfl rfl rfl (hts _ kw_3) (hts _ kw_34) (hts _ kw_35) rfl (by decide +kernel) ⟨Nat.le_of_ble_eq_true rfl, Nat.le_of_ble_eq_true rfl⟩) (k_pre (KK_st g) hKK) rfl rfl hl.1 rfl (lv_room (Nat.le_of_ble_eq_true rfl)) d_AL_init_1 ⟨Nat.le_of_ble_eq_true rfl, Nat.le_of_ble_eq_true rfl⟩) hS.2.2 (fun q h => by rw [← hAe]; exact h) (fun v H locs hv hL => ?_)
  obtain ⟨rfl, hE, o1⟩ := hv
  have hP : va_P g.1 kcl [(h0, .inr (1, [.null, .int 0, .int 0]))] H := k_one o1
  have hS : va_S A s.heap H locs := (hE.wk (fun q _ h => by rw [← hAe]; exact Or.inl h)).S hL
  have hB : kB g H := hB.tr hE (fun q hq h => by omega)
  refine lv_aload_n hx hb d_AL_init_4 rfl (lv_at hl 0 rfl) ?_
  refine k_gets hx hb hKK hB hown (hts _ kw_41) d_AL_init_5 ?_
  refine va_put (D := g.1) (ci := 1) (v := .ref g.2.2.2.1) (ty := .array (.object "java/lang/Object")) (C := "java/util/ArrayList") (T := kT_AL) (N := 3) hx hb hts ki_AL kt_AL ko_AL kn_AL hown hK hP hD hS 0 rfl rfl 0 (by decide) (hts _ kw_43) (fun _ h9 => h9) rfl (by decide +kernel) rfl rfl (Nat.le_of_ble_eq_true rfl) d_AL_init_8 (fun H locs hP hD hS => ?_)
  have hP : va_P g.1 kcl [(h0, .inr (1, [.ref g.2.2.2.1, .int 0, .int 0]))] H := hP
  have hD : va_D A [(h0, .inr (1, [.ref g.2.2.2.1, .int 0, .int 0]))] := hD
  exact W.vret hx hb hr (fun t ht hW => ⟨_, rfl, rfl, by rw [ht]; exact (kE.ofS hS).wk (fun q hq h => by rw [← hAe] at h; rcases h with h | h; exact h; omega), by rw [ht]; exact k_at0 hP 0 rfl⟩) hS.2.2 d_AL_init_11

/-! ArrayList: its writers -/
/-- the cells that were there when the law began are as they were -/
def kB (g : KGt) (H : Heap) : Prop := kE (fun _ => False) g.2.2.1 H
theorem kB.tr {g : KGt} {A : Nat → Prop} {H H1 : Heap} (h : kB g H) (k : kE A H H1) (hA : ∀ q, q < g.2.2.1.size → ¬ A q) : kB g H1 := kE.tr h k (fun q hq z => hA q hq z)
/-- an object that may lie in a row of Object -/
def kObj (g : KGt) (e : Nat) (H : Heap) : Prop := ∃ (ci : Nat) (fs : List Value), va_at g.1 kcl (e, .inr (ci, fs)) H ∧ (ci = 2 ∨ ci = 4 ∨ ci = 5 ∨ ci = 6 ∨ ci = 7 ∨ ci = 9)
theorem kObj.any {g : KGt} {e : Nat} {H : Heap} {s : State} (h : kObj g e H) (hK : KK g s) : va_Any "java/lang/Object" s H e := by
  obtain ⟨ci, fs, h1, h2⟩ := h
  rcases h2 with rfl | rfl | rfl | rfl | rfl | rfl
  · exact va_rAny hK.1 (k_one h1) (q0 := 0) rfl (r := ("BoxGlue$Box", kT_Box, 5)) rfl (vb_asgC (hK.2.1 (.castable "BoxGlue$Box" "java/lang/Object") (by decide +kernel)))
  · exact va_rAny hK.1 (k_one h1) (q0 := 0) rfl (r := ("BoxGlue$Put", kT_Put, 4)) rfl (vb_asgC (hK.2.1 (.castable "BoxGlue$Put" "java/lang/Object") (by decide +kernel)))
  · exact va_rAny hK.1 (k_one h1) (q0 := 0) rfl (r := ("BoxGlue$Glue", kT_Glue, 7)) rfl (vb_asgC (hK.2.1 (.castable "BoxGlue$Glue" "java/lang/Object") (by decide +kernel)))
  · exact va_rAny hK.1 (k_one h1) (q0 := 0) rfl (r := ("BoxGlue$Kern", kT_Kern, 2)) rfl (vb_asgC (hK.2.1 (.castable "BoxGlue$Kern" "java/lang/Object") (by decide +kernel)))
  · exact va_rAny hK.1 (k_one h1) (q0 := 0) rfl (r := ("BoxGlue$Rule", kT_Rule, 4)) rfl (vb_asgC (hK.2.1 (.castable "BoxGlue$Rule" "java/lang/Object") (by decide +kernel)))
  · exact va_rAny hK.1 (k_one h1) (q0 := 0) rfl (r := ("BoxGlue$Placed", kT_Placed, 3)) rfl (vb_asgC (hK.2.1 (.castable "BoxGlue$Placed" "java/lang/Object") (by decide +kernel)))
theorem kObj.kept {g : KGt} {e : Nat} {H H1 : Heap} (h : kObj g e H) (k : H1[e]? = H[e]?) : kObj g e H1 := by
  obtain ⟨ci, fs, h1, h2⟩ := h
  exact ⟨ci, fs, h1.kept k, h2⟩
theorem kObj.lt {g : KGt} {e : Nat} {H : Heap} (h : kObj g e H) : e < H.size := by
  obtain ⟨ci, fs, h1, h2⟩ := h
  exact h1.lt
theorem k_cA {g : KGt} {s : State} {cA : ClassId} (hK : va_K g.1 kcl (kTy g) s) (h9 : va_K g.1 kcl (kTy g ++ [(cA, .object "java/lang/Object")]) s) : cA = g.2.1.1 := by
  obtain ⟨-, -, -, -, -, h1⟩ := (hK.2 0 _ rfl).2
  obtain ⟨-, -, -, -, -, h2⟩ := (h9.2 3 _ rfl).2
  exact Option.some.inj (h2.symm.trans h1)
theorem k_arrcls {g : KGt} {s : State} {a n : Nat} {f : Nat → Option Nat} {H : Heap} (hK : va_K g.1 kcl (kTy g) s) (h : va_at g.1 kcl (a, .inl (g.2.1.1, n, .inr (.inr (.inr (.inr f))))) H) : ∃ cell : Cell, H[a]? = some cell ∧ cell.vm.isStatics = false ∧ s.vm.findClass "[Ljava/lang/Object;" = some cell.cls :=
  ⟨_, h, rfl, va_nmO (hK.2 0 _ rfl).2 (by decide +kernel)⟩
section KGS
variable {p : Program} {l : Launch} {e : Env} {R : Room} {s : State} {m : MethodId} {args : Array Value} {below : List Frame} {meth : Method} {c : Code} {H : Heap} {locs : List Loc} {cells slots : Nat} {Q : State → Prop}
variable {cc : ByteArray} {pc : Nat} {ls : Array Slot} {rest : List Value} {g : KGt}
theorem k_gets (hexec : p.tables.exec = Jvm.exec) (hb : c.code = cc) {own : String} {index : Nat} (hKK : KK g s) (hB : kB g H) (hown : s.vm.findClass own = some m.cls) (hlink : (Cond.fieldLink own index "java/util/ArrayList" "DEFAULTCAPACITY_EMPTY_ELEMENTDATA" "[Ljava/lang/Object;").before args s = true) (hdg : decode cc pc = .ok (.getstatic index, 3))
    (kk : W p l e R s m args below meth c H locs cells slots Q (F0 m (pc + 3) ls (.ref g.2.2.2.1 :: rest))) : W p l e R s m args below meth c H locs cells slots Q (F0 m pc ls rest) := by
  obtain ⟨cf, kf, fi, f, a, cell, h1, h2, h3, h4, h5, h6, h7, h8⟩ := hKK.2.2.2.2.2.2.1
  exact W.gets hexec hb hown hlink h1 h2 h3 h4 (by rw [hB.2 a (Array.getElem?_eq_some_iff.mp h5).1 id]; exact h5) (fun e => by rw [e] at h6; cases h6) h7 rfl hdg kk
/-- the shared empty array has length 0 -/
theorem k_alenE (hexec : p.tables.exec = Jvm.exec) (hb : c.code = cc) (hKK : KK g s) (hB : kB g H) (hdg : decode cc pc = .ok (.arraylength, 1))
    (kk : W p l e R s m args below meth c H locs cells slots Q (F0 m (pc + 1) ls (.int (nI 0) :: rest))) : W p l e R s m args below meth c H locs cells slots Q (F0 m pc ls (.ref g.2.2.2.1 :: rest)) := by
  obtain ⟨cell, h1, h2, h3, h4, h5, h6, h7⟩ := hKK.2.2.2.2.2.2.2
  exact W.alen (n := Int32.ofNat 0) hexec hb (by rw [hB.2 _ (Array.getElem?_eq_some_iff.mp h1).1 id]; exact h1) h2 h5 rfl rfl hdg kk
end KGS
/-- an object isn't an array -/
theorem k_obarr {g : KGt} {y n ci : Nat} {fs : List Value} {f : Nat → Option Nat} {H : Heap} {s : State} {P : Prop} (hK : va_K g.1 kcl (kTy g) s) (h : va_at g.1 kcl (y, .inr (ci, fs)) H) (h2 : va_at g.1 kcl (y, .inl (g.2.1.1, n, .inr (.inr (.inr (.inr f))))) H) : P := by
  obtain ⟨r, h1, cell, q1, q2, q3, q4⟩ := h
  obtain ⟨-, -, kC, hkC, hkind⟩ := hK.1 ci r h1
  obtain ⟨kA, comp, k1, k2, -⟩ := (hK.2 0 _ rfl).2
  have e : cell = vp_cell g.2.1.1 (n, .inr (.inr (.inr (.inr f)))) := Option.some.inj (q1.symm.trans h2)
  rw [e] at q2
  have e2 : g.2.1.1 = g.1.1 ci := q2
  have k1' : s.vm.classes[g.2.1.1]? = some kA := k1
  have k2' : kA.kind = .array comp (.object "java/lang/Object") := k2
  rw [e2, hkC] at k1'
  have e3 := Option.some.inj k1'
  rw [← e3, hkind] at k2'
  cases k2'
/-- a cell that stands among others, said of one -/
theorem k_at0 {D : va_G} {cl : List vw_C} {ws : va_W} {H : Heap} (h : va_P D cl ws H) (k : Nat) {q : Nat × va_E} (hk : ws[k]? = some q) : va_at D cl q H := h k q hk
set_option maxHeartbeats 4000000 in
set_option maxRecDepth 100000 in
theorem c_AbC_init (l : Launch) (g : KGt) (H0 : Heap) (h0 : Nat) : Met l y_AbC_init (kW y_AbC_init b_AbC_init 1 (.none : Option FieldType)) ({ frames := 1, cells := 0, slots := 0, locals := 12 }) (kPc [.ref h0] (KK g) H0) (kQc (fun v H1 => v = none ∧ H1 = H0)) 0 0 (fun _ => False) := by
  refine va_MetF (cc := b_AbC_init) (maxL := 1) (ret := (.none : Option FieldType)) (by decide +kernel) rfl ?_
  intro p e s m args below meth c s₁ B hml hv
  obtain ⟨rfl, hH, hKK⟩ := hv
  have hx := B.exec
  have hb := B.bytes
  have hr := B.returns
  have hts := kW_ts (atoms_spec (ws := kW y_AbC_init b_AbC_init 1 (.none : Option FieldType)) B.pre)
  have hown : s.vm.findClass "java/util/AbstractCollection" = some m.cls := findClass_of_methodNamed B.named
  have hlocks := B.notSynchronized
  have hK := hKK.1
  subst hH
  have hl := lv_entry ([.ref h0]) (n := 1) (Nat.le_of_ble_eq_true rfl)
  rw [lg_entry_eq]
  generalize (lg_sl ([.ref h0]) ++ List.replicate (1 - (lg_sl ([.ref h0])).length) Slot.unset).toArray = ls at hl ⊢
  have hl : lv_has ls 1 [(0, .ref h0)] := hl
  refine lv_aload_n hx hb d_AbC_init_0 rfl (lv_at hl 0 rfl) ?_
  refine W.objInit hx hb hown (hts _ kw_40) (hts _ kw_27) (hts _ kw_28) rfl (by rw [hml]; exact hl.1) rfl d_AbC_init_1 (Nat.le_of_ble_eq_true rfl) (Nat.le_of_ble_eq_true rfl) ?_
  refine W.eq (g2 := F0 m 4 ls []) rfl ?_
  exact W.vret hx hb hr (fun t ht hW => ⟨_, rfl, rfl, ht⟩) (fun _ h => by cases h) d_AbC_init_4
set_option maxHeartbeats 4000000 in
set_option maxRecDepth 100000 in
theorem c_AbL_init (l : Launch) (g : KGt) (H0 : Heap) (h0 : Nat) (arr : Value) (n mo : Int32) (o0 : va_at g.1 kcl (h0, .inr (1, [arr, .int n, .int mo])) H0) : Met l y_AbL_init (kW y_AbL_init b_AbL_init 1 (.none : Option FieldType)) ({ frames := 2, cells := 0, slots := 0, locals := 32 }) (kPc [.ref h0] (KK g) H0) (kQc (fun v H1 => v = none ∧ kE (fun q => q = h0) H0 H1 ∧ va_at g.1 kcl (h0, .inr (1, [arr, .int n, .int 0])) H1)) 0 0 (fun q : Nat => q = h0 ∨ H0.size ≤ q) := by
  refine va_MetF (cc := b_AbL_init) (maxL := 1) (ret := (.none : Option FieldType)) (by decide +kernel) rfl ?_
  intro p e s m args below meth c s₁ B hml hv
  obtain ⟨rfl, hH, hKK⟩ := hv
  have hx := B.exec
  have hb := B.bytes
  have hr := B.returns
  have hts := kW_ts (atoms_spec (ws := kW y_AbL_init b_AbL_init 1 (.none : Option FieldType)) B.pre)
  have hown : s.vm.findClass "java/util/AbstractList" = some m.cls := findClass_of_methodNamed B.named
  have hlocks := B.notSynchronized
  have hK := hKK.1
  subst hH
  have hl := lv_entry ([.ref h0]) (n := 1) (Nat.le_of_ble_eq_true rfl)
  rw [lg_entry_eq]
  generalize (lg_sl ([.ref h0]) ++ List.replicate (1 - (lg_sl ([.ref h0])).length) Slot.unset).toArray = ls at hl ⊢
  have hl : lv_has ls 1 [(0, .ref h0)] := hl
  generalize hAe : (fun q : Nat => q = h0 ∨ s.heap.size ≤ q) = A
  have hA : ∀ q : Nat, s.heap.size ≤ q → A q := fun q h => by rw [← hAe]; exact Or.inr h
  have hS : va_S A s.heap s.heap [] := va_S.rf
  have hP : va_P g.1 kcl [(h0, .inr (1, [arr, .int n, .int mo]))] s.heap := k_one o0
  have hD : va_D A [(h0, .inr (1, [arr, .int n, .int mo]))] := k_D1 (by rw [← hAe]; exact Or.inl rfl)
  refine lv_aload_n hx hb d_AbL_init_0 rfl (lv_at hl 0 rfl) ?_
  refine k_call (A := A) (W.runI (As := []) (rest := []) ⟨hx, hb, hml, hown, hts⟩ (c_AbC_init l g s.heap h0) (cwI 0 hts (kW_good kw_39) rfl rfl rfl (hts _ kw_2) (hts _ kw_37) (hts _ kw_38) rfl (by decide +kernel) ⟨Nat.le_of_ble_eq_true rfl, Nat.le_of_ble_eq_true rfl⟩) (k_pre (KK_st g) hKK) rfl rfl hl.1 rfl (lv_room (Nat.le_of_ble_eq_true rfl)) d_AbL_init_1 ⟨Nat.le_of_ble_eq_true rfl, Nat.le_of_ble_eq_true rfl⟩) hS.2.2 (fun _ h => h.elim) (fun v H locs hv hL => ?_)
  obtain ⟨rfl, hH⟩ := hv
  rw [← hH] at hP
  have hS : va_S A s.heap H locs := by rw [hH]; exact ⟨Nat.le_refl _, fun _ _ _ => rfl, hL⟩
  refine lv_aload_n hx hb d_AbL_init_4 rfl (lv_at hl 0 rfl) ?_
  refine lv_iconst (v := 0) hx hb d_AbL_init_5 (by decide) ?_
  refine va_put (D := g.1) (ci := 1) (v := .int 0) (ty := .int) (C := "java/util/ArrayList") (T := kT_AL) (N := 3) hx hb hts ki_AL kt_AL ko_AL kn_AL hown hK hP hD hS 0 rfl rfl 2 (by decide) (hts _ kw_45) (fun _ h9 => h9) rfl (by decide +kernel) rfl rfl (Nat.le_of_ble_eq_true rfl) d_AbL_init_6 (fun H locs hP hD hS => ?_)
  have hP : va_P g.1 kcl [(h0, .inr (1, [arr, .int n, .int 0]))] H := hP
  have hD : va_D A [(h0, .inr (1, [arr, .int n, .int 0]))] := hD
  exact W.vret hx hb hr (fun t ht hW => ⟨_, rfl, rfl, by rw [ht]; exact (kE.ofS hS).wk (fun q hq h => by rw [← hAe] at h; rcases h with h | h; exact h; omega), by rw [ht]; exact k_at0 hP 0 rfl⟩) hS.2.2 d_AbL_init_9
set_option maxHeartbeats 4000000 in
set_option maxRecDepth 100000 in
theorem c_AL_init (l : Launch) (g : KGt) (H0 : Heap) (h0 : Nat) (hB : kB g H0) (hg : g.2.2.1.size ≤ h0) (o0 : va_at g.1 kcl (h0, .inr (1, [.null, .int 0, .int 0])) H0) : Met l y_AL_init (kW y_AL_init b_AL_init 1 (.none : Option FieldType)) ({ frames := 3, cells := 0, slots := 0, locals := 52 }) (kPc [.ref h0] (KK g) H0) (kQc (fun v H1 => v = none ∧ kE (fun q => q = h0) H0 H1 ∧ va_at g.1 kcl (h0, .inr (1, [.ref g.2.2.2.1, .int 0, .int 0])) H1)) 0 0 (fun q : Nat => q = h0 ∨ H0.size ≤ q) := by
  refine va_MetF (cc := b_AL_init) (maxL := 1) (ret := (.none : Option FieldType)) (by decide +kernel) rfl ?_
  intro p e s m args below meth c s₁ B hml hv
  obtain ⟨rfl, hH, hKK⟩ := hv
  have hx := B.exec
  have hb := B.bytes
  have hr := B.returns
  have hts := kW_ts (atoms_spec (ws := kW y_AL_init b_AL_init 1 (.none : Option FieldType)) B.pre)
  have hown : s.vm.findClass "java/util/ArrayList" = some m.cls := findClass_of_methodNamed B.named
  have hlocks := B.notSynchronized
  have hK := hKK.1
  subst hH
  have hl := lv_entry ([.ref h0]) (n := 1) (Nat.le_of_ble_eq_true rfl)
  rw [lg_entry_eq]
  generalize (lg_sl ([.ref h0]) ++ List.replicate (1 - (lg_sl ([.ref h0])).length) Slot.unset).toArray = ls at hl ⊢
  have hl : lv_has ls 1 [(0, .ref h0)] := hl
  generalize hAe : (fun q : Nat => q = h0 ∨ s.heap.size ≤ q) = A
  have hA : ∀ q : Nat, s.heap.size ≤ q → A q := fun q h => by rw [← hAe]; exact Or.inr h
  have hS : va_S A s.heap s.heap [] := va_S.rf
  have hP : va_P g.1 kcl [(h0, .inr (1, [.null, .int 0, .int 0]))] s.heap := k_one o0
  have hD : va_D A [(h0, .inr (1, [.null, .int 0, .int 0]))] := k_D1 (by rw [← hAe]; exact Or.inl rfl)
  refine lv_aload_n hx hb d_AL_init_0 rfl (lv_at hl 0 rfl) ?_
  refine k_call (A := A) (W.runI (As := []) (rest := []) ⟨hx, hb, hml, hown, hts⟩ (c_AbL_init l g s.heap h0 .null 0 0 o0) (cwI 0 hts (kW_good kw_36) rfl rfl rfl (hts _ kw_3) (hts _ kw_34) (hts _ kw_35) rfl (by decide +kernel) ⟨Nat.le_of_ble_eq_true rfl, Nat.le_of_ble_eq_true rfl⟩) (k_pre (KK_st g) hKK) rfl rfl hl.1 rfl (lv_room (Nat.le_of_ble_eq_true rfl)) d_AL_init_1 ⟨Nat.le_of_ble_eq_true rfl, Nat.le_of_ble_eq_true rfl⟩) hS.2.2 (fun q h => by rw [← hAe]; exact h) (fun v H locs hv hL => ?_)
  obtain ⟨rfl, hE, o1⟩ := hv
  have hP : va_P g.1 kcl [(h0, .inr (1, [.null, .int 0, .int 0]))] H := k_one o1
  have hS : va_S A s.heap H locs := (hE.wk (fun q _ h => by rw [← hAe]; exact Or.inl h)).S hL
  have hB : kB g H := hB.tr hE (fun q hq h => by omega)
  refine lv_aload_n hx hb d_AL_init_4 rfl (lv_at hl 0 rfl) ?_
  refine k_gets hx hb hKK hB hown (hts _ kw_41) d_AL_init_5 ?_
  refine va_put (D := g.1) (ci := 1) (v := .ref g.2.2.2.1) (ty := .array (.object "java/lang/Object")) (C := "java/util/ArrayList") (T := kT_AL) (N := 3) hx hb hts ki_AL kt_AL ko_AL kn_AL hown hK hP hD hS 0 rfl rfl 0 (by decide) (hts _ kw_43) (fun _ h9 => h9) rfl (by decide +kernel) rfl rfl (Nat.le_of_ble_eq_true rfl) d_AL_init_8 (fun H locs hP hD hS => ?_)
  have hP : va_P g.1 kcl [(h0, .inr (1, [.ref g.2.2.2.1, .int 0, .int 0]))] H := hP
  have hD : va_D A [(h0, .inr (1, [.ref g.2.2.2.1, .int 0, .int 0]))] := hD
  exact W.vret hx hb hr (fun t ht hW => ⟨_, rfl, rfl, by rw [ht]; exact (kE.ofS hS).wk (fun q hq h => by rw [← hAe] at h; rcases h with h | h; exact h; omega), by rw [ht]; exact k_at0 hP 0 rfl⟩) hS.2.2 d_AL_init_11
set_option maxHeartbeats 4000000 in
set_option maxRecDepth 100000 in
theorem c_ASup_newLength (l : Launch) (g : KGt) (H0 : Heap) (a b : Nat) (h1 : 1 < b) (h2 : a + b < 2 ^ 30) : Met l y_ASup_newLength (kW y_ASup_newLength b_ASup_newLength 4 (.some .int)) ({ frames := 1, cells := 0, slots := 0, locals := 21 }) (kPc [.int (nI a), .int (nI 1), .int (nI b)] (KK g) H0) (kQc (kPure (.int (nI (a + b))) H0)) 0 0 (fun _ => False) := by
  refine va_MetF (cc := b_ASup_newLength) (maxL := 4) (ret := (.some .int)) (by decide +kernel) rfl ?_
  intro p e s m args below meth c s₁ B hml hv
  obtain ⟨rfl, hH, hKK⟩ := hv
  have hx := B.exec
  have hb := B.bytes
  have hr := B.returns
  have hts := kW_ts (atoms_spec (ws := kW y_ASup_newLength b_ASup_newLength 4 (.some .int)) B.pre)
  have hown : s.vm.findClass "jdk/internal/util/ArraysSupport" = some m.cls := findClass_of_methodNamed B.named
  have hlocks := B.notSynchronized
  have hK := hKK.1
  subst hH
  have hl := lv_entry ([.int (nI a), .int (nI 1), .int (nI b)]) (n := 4) (Nat.le_of_ble_eq_true rfl)
  rw [lg_entry_eq]
  generalize (lg_sl ([.int (nI a), .int (nI 1), .int (nI b)]) ++ List.replicate (4 - (lg_sl ([.int (nI a), .int (nI 1), .int (nI b)])).length) Slot.unset).toArray = ls at hl ⊢
  have hl : lv_has ls 4 [(0, .int (nI a)), (1, .int (nI 1)), (2, .int (nI b))] := hl
  refine lv_iload_n hx hb d_ASup_newLength_0 rfl (lv_at hl 0 rfl) ?_
  refine lv_iload_n hx hb d_ASup_newLength_1 rfl (lv_at hl 1 rfl) ?_
  refine lv_iload_n hx hb d_ASup_newLength_2 rfl (lv_at hl 2 rfl) ?_
  refine va_mmax (x := (nI 1)) (y := (nI b)) hx hb (hml.trans hl.1.symm) hown (hts _ kw_151) (hts _ kw_152) (hts _ kw_9) (hts _ kw_153) (Nat.le_of_ble_eq_true rfl) (Nat.le_of_ble_eq_true rfl) (Nat.zero_le _) (Nat.zero_le _) d_ASup_newLength_3 ?_
  rw [if_pos (nI_lt h1 (by omega))]
  refine lv_iadd hx hb d_ASup_newLength_6 ?_
  rw [nI_add]
  refine lv_istore_n (lv' := [(3, .int (nI (a + b))), (0, .int (nI a)), (1, .int (nI 1)), (2, .int (nI b))]) hx hb d_ASup_newLength_7 rfl hl (by decide) rfl (fun ls hl => ?_)
  refine lv_iconst (v := 0) hx hb d_ASup_newLength_8 (by decide) ?_
  refine lv_iload_n hx hb d_ASup_newLength_9 rfl (lv_at hl 0 rfl) ?_
  refine lv_icmp_ge (tgt := 21) hx hb d_ASup_newLength_10 (by decide) (fun c_1 => ?_) (fun c_1 => ?_)
  · exact absurd c_1 (by rw [show (0 : Int32) = nI 0 from nI_0.symm]; exact nI_ge (by omega) (by omega))
  refine lv_iload_n hx hb d_ASup_newLength_13 rfl (lv_at hl 0 rfl) ?_
  refine lv_ldc (own := "jdk/internal/util/ArraysSupport") (index := 200) (v := 2147483639) hx hb hown (hts _ kw_154) d_ASup_newLength_14 ?_
  refine lv_icmp_gt (tgt := 21) hx hb d_ASup_newLength_16 (by decide) (fun c_2 => ?_) (fun c_2 => ?_)
  · exact absurd c_2 (by rw [show (2147483639 : Int32) = nI 2147483639 by decide]; exact nI_nlt (by omega) (by omega))
  refine lv_iload_n hx hb d_ASup_newLength_19 rfl (lv_at hl 0 rfl) ?_
  exact W.iret (v := (nI (a + b))) hx hb hr (fun t ht hW => ⟨_, rfl, rfl, ht⟩) (fun _ h => by cases h) d_ASup_newLength_20
set_option maxHeartbeats 4000000 in
set_option maxRecDepth 100000 in
theorem c_Arrs_copyOf2 (l : Launch) (g : KGt) (H0 : Heap) (a0 n k : Nat) (f : Nat → Option Nat) (o0 : va_at g.1 kcl (a0, .inl (g.2.1.1, n, .inr (.inr (.inr (.inr f))))) H0) (hk : n ≤ k) (hk2 : k ≤ 100) (he : ∀ i, i < n → ∀ y, f i = some y → kObj g y H0) : Met l y_Arrs_copyOf2 (kW y_Arrs_copyOf2 b_Arrs_copyOf2 4 (.some (.array (.object "java/lang/Object")))) ({ frames := 1, cells := 1, slots := 100, locals := 40 }) (kPc [.ref a0, .int (nI k), .ref g.2.2.2.2] (KK g) H0) (kQc (fun v H1 => ∃ q : Nat, v = some (.ref q) ∧ H0.size ≤ q ∧ kE (fun _ => False) H0 H1 ∧ va_at g.1 kcl (q, .inl (g.2.1.1, k, .inr (.inr (.inr (.inr (va_cpy f (fun _ => none) 0 0 n)))))) H1)) 1 100 (fun q : Nat => q = a0 ∨ H0.size ≤ q) := by
  refine va_MetF (cc := b_Arrs_copyOf2) (maxL := 4) (ret := (.some (.array (.object "java/lang/Object")))) (by decide +kernel) rfl ?_
  intro p e s m args below meth c s₁ B hml hv
  obtain ⟨rfl, hH, hKK⟩ := hv
  have hx := B.exec
  have hb := B.bytes
  have hr := B.returns
  have hts := kW_ts (atoms_spec (ws := kW y_Arrs_copyOf2 b_Arrs_copyOf2 4 (.some (.array (.object "java/lang/Object")))) B.pre)
  have hown : s.vm.findClass "java/util/Arrays" = some m.cls := findClass_of_methodNamed B.named
  have hlocks := B.notSynchronized
  have hK := hKK.1
  subst hH
  have hl := lv_entry ([.ref a0, .int (nI k), .ref g.2.2.2.2]) (n := 4) (Nat.le_of_ble_eq_true rfl)
  rw [lg_entry_eq]
  generalize (lg_sl ([.ref a0, .int (nI k), .ref g.2.2.2.2]) ++ List.replicate (4 - (lg_sl ([.ref a0, .int (nI k), .ref g.2.2.2.2])).length) Slot.unset).toArray = ls at hl ⊢
  have hl : lv_has ls 4 [(0, .ref a0), (1, .int (nI k)), (2, .ref g.2.2.2.2)] := hl
  generalize hAe : (fun q : Nat => q = a0 ∨ s.heap.size ≤ q) = A
  have hA : ∀ q : Nat, s.heap.size ≤ q → A q := fun q h => by rw [← hAe]; exact Or.inr h
  have hS : va_S A s.heap s.heap [] := va_S.rf
  have hP : va_P g.1 kcl [(a0, .inl (g.2.1.1, n, .inr (.inr (.inr (.inr f)))))] s.heap := k_one o0
  have hD : va_D A [(a0, .inl (g.2.1.1, n, .inr (.inr (.inr (.inr f)))))] := k_D1 (by rw [← hAe]; exact Or.inl rfl)
  refine lv_aload_n hx hb d_Arrs_copyOf2_0 rfl (lv_at hl 2 rfl) ?_
  refine va_ldcM hx hb hown (hts _ kw_179) hKK.2.2.2.2.1 d_Arrs_copyOf2_1 ?_
  refine lv_acmp_ne (rx := some g.2.2.2.2) (ry := some g.2.2.2.2) (tgt := 13) hx hb d_Arrs_copyOf2_3 (by decide) (fun c_1 => absurd rfl c_1) (fun c_1 => ?_)
  refine lv_iload_n hx hb d_Arrs_copyOf2_6 rfl (lv_at hl 1 rfl) ?_
  refine va_newq (D := g.1) (C := "java/lang/Object") (N' := k) hx hb hown (hts _ kw_181) hKK.2.2.2.1 hK hP hD hS hA (nI_pos (by omega)) (nI_clamp (by omega)) (by omega) (Nat.le_of_ble_eq_true rfl) (by show 0 + _ ≤ 100; omega) d_Arrs_copyOf2_7 (fun q cA H hK9 hP hD hS => ?_)
  obtain rfl := k_cA hK hK9
  refine W.widen (k := 1) (n := 100) (by omega) (by omega) ?_
  have hP : va_P g.1 kcl [(a0, .inl (g.2.1.1, n, .inr (.inr (.inr (.inr f))))), (q, .inl (g.2.1.1, k, .inr (.inr (.inr (.inr (fun _ => none))))))] H := hP
  have hD : va_D A [(a0, .inl (g.2.1.1, n, .inr (.inr (.inr (.inr f))))), (q, .inl (g.2.1.1, k, .inr (.inr (.inr (.inr (fun _ => none))))))] := hD
  have hq : s.heap.size ≤ q := by
    have h9 := hD.2 1 _ rfl
    rw [← hAe] at h9
    rcases h9 with h9 | h9
    · exact absurd (hD.1 0 1 _ _ rfl rfl h9.symm) (by decide)
    · exact h9
  refine lv_goto (tgt := 24) hx hb d_Arrs_copyOf2_10 (by decide) ?_
  refine lv_astore_n (lv' := [(3, .ref q), (0, .ref a0), (1, .int (nI k)), (2, .ref g.2.2.2.2)]) hx hb d_Arrs_copyOf2_24 rfl hl (by decide) rfl (fun ls hl => ?_)
  refine lv_aload_n hx hb d_Arrs_copyOf2_25 rfl (lv_at hl 1 rfl) ?_
  refine lv_iconst (v := 0) hx hb d_Arrs_copyOf2_26 (by decide) ?_
  refine lv_aload_n hx hb d_Arrs_copyOf2_27 rfl (lv_at hl 0 rfl) ?_
  refine lv_iconst (v := 0) hx hb d_Arrs_copyOf2_28 (by decide) ?_
  refine lv_aload_n hx hb d_Arrs_copyOf2_29 rfl (lv_at hl 1 rfl) ?_
  refine va_alen (D := g.1) (v := nI n) (ty := .object "java/lang/Object") hx hb hK hP 0 0 rfl rfl rfl d_Arrs_copyOf2_30 ?_
  refine lv_iload_n hx hb d_Arrs_copyOf2_31 rfl (lv_at hl 2 rfl) ?_
  refine va_mmin (x := nI n) (y := nI k) hx hb (hml.trans hl.1.symm) hown (hts _ kw_182) (hts _ kw_183) (hts _ kw_9) (hts _ kw_184) (Nat.le_of_ble_eq_true rfl) (Nat.le_of_ble_eq_true rfl) (Nat.le_of_ble_eq_true rfl) (Nat.le_of_ble_eq_true rfl) d_Arrs_copyOf2_32 ?_
  rw [if_neg (nI_nlt hk (by omega))]
  refine va_copyM (D := g.1) (E0 := "java/lang/Object") (E1 := "java/lang/Object") hx hb (hml.trans hl.1.symm) hown (hts _ kw_185) (hts _ kw_187) (hts _ kw_186) (hts _ kw_11) hK hP hD hS 0 1 0 0 rfl rfl rfl rfl (by decide) (by decide) (nI_pos (by omega)) (by rw [nI_clamp (by omega)]; show 0 + n ≤ n; omega) (by rw [nI_clamp (by omega)]; show 0 + n ≤ k; omega) (fun i hi y hy => ?_) (Nat.le_of_ble_eq_true rfl) (Nat.le_of_ble_eq_true rfl) d_Arrs_copyOf2_35 (fun H locs hP hD hS => ?_)
  · rw [nI_clamp (by omega)] at hi
    rw [show (0 : Int32).toNatClampNeg + i = i by show 0 + i = i; omega] at hy
    have hy0 := he i hi y hy
    refine kObj.any (hy0.kept ?_) hKK
    refine hS.2.1 y hy0.lt (fun h => ?_)
    rw [← hAe] at h
    rcases h with h | h
    · obtain ⟨ci, fs, w1, -⟩ := hy0; exact k_obarr hK w1 (by rw [h]; exact o0)
    · exact absurd hy0.lt (by omega)
  rw [nI_clamp (show n < 2 ^ 31 by omega)] at hP hD
  have hP : va_P g.1 kcl [(a0, .inl (g.2.1.1, n, .inr (.inr (.inr (.inr f))))), (q, .inl (g.2.1.1, k, .inr (.inr (.inr (.inr (va_cpy f (fun _ => none) 0 0 n))))))] H := hP
  have hD : va_D A [(a0, .inl (g.2.1.1, n, .inr (.inr (.inr (.inr f))))), (q, .inl (g.2.1.1, k, .inr (.inr (.inr (.inr (va_cpy f (fun _ => none) 0 0 n))))))] := hD
  refine lv_aload_n hx hb d_Arrs_copyOf2_38 rfl (lv_at hl 0 rfl) ?_
  have hE : kE (fun _ => False) s.heap H := by
    refine ⟨hS.1, fun q hq _ => ?_⟩
    by_cases e : q = a0
    · subst e
      exact (k_at0 hP 0 rfl : _ = _).trans (o0 : _ = _).symm
    · exact hS.2.1 q hq (fun h => by rw [← hAe] at h; rcases h with h | h; exact e h; omega)
  exact W.aret (v := .ref q) hx hb hr (Or.inr ⟨_, rfl⟩) (Or.inr ⟨_, rfl⟩) (fun t ht hW => ⟨_, rfl, q, rfl, hq, by rw [ht]; exact hE, by rw [ht]; exact k_at0 hP 1 rfl⟩) hS.2.2 d_Arrs_copyOf2_39
set_option maxHeartbeats 4000000 in
set_option maxRecDepth 100000 in
theorem c_Arrs_copyOf (l : Launch) (g : KGt) (H0 : Heap) (a0 n k : Nat) (f : Nat → Option Nat) (o0 : va_at g.1 kcl (a0, .inl (g.2.1.1, n, .inr (.inr (.inr (.inr f))))) H0) (hk : n ≤ k) (hk2 : k ≤ 100) (he : ∀ i, i < n → ∀ y, f i = some y → kObj g y H0) : Met l y_Arrs_copyOf (kW y_Arrs_copyOf b_Arrs_copyOf 2 (.some (.array (.object "java/lang/Object")))) ({ frames := 2, cells := 1, slots := 100, locals := 63 }) (kPc [.ref a0, .int (nI k)] (KK g) H0) (kQc (fun v H1 => ∃ q : Nat, v = some (.ref q) ∧ H0.size ≤ q ∧ kE (fun _ => False) H0 H1 ∧ va_at g.1 kcl (q, .inl (g.2.1.1, k, .inr (.inr (.inr (.inr (va_cpy f (fun _ => none) 0 0 n)))))) H1)) 1 100 (fun q : Nat => q = a0 ∨ H0.size ≤ q) := by
  refine va_MetF (cc := b_Arrs_copyOf) (maxL := 2) (ret := (.some (.array (.object "java/lang/Object")))) (by decide +kernel) rfl ?_
  intro p e s m args below meth c s₁ B hml hv
  obtain ⟨rfl, hH, hKK⟩ := hv
  have hx := B.exec
  have hb := B.bytes
  have hr := B.returns
  have hts := kW_ts (atoms_spec (ws := kW y_Arrs_copyOf b_Arrs_copyOf 2 (.some (.array (.object "java/lang/Object")))) B.pre)
  have hown : s.vm.findClass "java/util/Arrays" = some m.cls := findClass_of_methodNamed B.named
  have hlocks := B.notSynchronized
  have hK := hKK.1
  subst hH
  have hl := lv_entry ([.ref a0, .int (nI k)]) (n := 2) (Nat.le_of_ble_eq_true rfl)
  rw [lg_entry_eq]
  generalize (lg_sl ([.ref a0, .int (nI k)]) ++ List.replicate (2 - (lg_sl ([.ref a0, .int (nI k)])).length) Slot.unset).toArray = ls at hl ⊢
  have hl : lv_has ls 2 [(0, .ref a0), (1, .int (nI k))] := hl
  refine lv_aload_n hx hb d_Arrs_copyOf_0 rfl (lv_at hl 0 rfl) ?_
  refine lv_iload_n hx hb d_Arrs_copyOf_1 rfl (lv_at hl 1 rfl) ?_
  refine lv_aload_n hx hb d_Arrs_copyOf_2 rfl (lv_at hl 0 rfl) ?_
  refine va_getC (C := "[Ljava/lang/Object;") hx hb (hml.trans hl.1.symm) hown (hts _ kw_161) (va_Dc.use hKK.2.2.2.2.2.1) (hts _ kw_788) (hts _ kw_162) (hts _ kw_175) hKK.2.2.2.2.1 (k_arrcls hK o0) (Nat.le_of_ble_eq_true rfl) (Nat.le_of_ble_eq_true rfl) d_Arrs_copyOf_3 ?_
  refine k_call (A := (fun q : Nat => q = a0 ∨ s.heap.size ≤ q)) (W.runS (As := [.ref a0, .int (nI k), .ref g.2.2.2.2]) (rest := []) ⟨hx, hb, hml, hown, hts⟩ (c_Arrs_copyOf2 l g s.heap a0 n k f o0 hk hk2 he) (va_cwS 3 hts (kS_good kw_178 kw_176 kw_177 kw_10) rfl rfl rfl (by decide +kernel) ⟨Nat.le_of_ble_eq_true rfl, Nat.le_of_ble_eq_true rfl⟩) (k_pre (KK_st g) hKK) rfl rfl hl.1 rfl (lv_room (Nat.le_of_ble_eq_true rfl)) d_Arrs_copyOf_6 ⟨Nat.le_of_ble_eq_true rfl, Nat.le_of_ble_eq_true rfl⟩) (fun _ h => by cases h) (fun q h => h) (fun v H locs hv hL => ?_)
  obtain ⟨q, rfl, h3, h4, h5⟩ := hv
  exact W.aret (v := .ref q) hx hb hr (Or.inr ⟨_, rfl⟩) (Or.inr ⟨_, rfl⟩) (fun t ht hW => ⟨_, rfl, q, rfl, h3, by rw [ht]; exact h4, by rw [ht]; exact h5⟩) hL d_Arrs_copyOf_9

/-! ArrayList: what a list is, and its readers -/
/-- the list at la: n elements, the addresses el; its array is arr, of cap places -/
def kALx (g : KGt) (la arr cap n : Nat) (el : Nat → Nat) (H : Heap) : Prop := ∃ mo : Int32, va_at g.1 kcl (la, .inr (1, [.ref arr, .int (nI n), .int mo])) H ∧ ((n = 0 ∧ cap = 0 ∧ arr = g.2.2.2.1) ∨ ∃ f : Nat → Option Nat, va_at g.1 kcl (arr, .inl (g.2.1.1, cap, .inr (.inr (.inr (.inr f))))) H ∧ n ≤ cap ∧ 10 ≤ cap ∧ cap ≤ 100 ∧ ∀ i, i < n → f i = some (el i))
def kAL (g : KGt) (la n : Nat) (el : Nat → Nat) (H : Heap) : Prop := ∃ arr cap : Nat, kALx g la arr cap n el H
theorem kALx.n_lt {g : KGt} {la arr cap n : Nat} {el : Nat → Nat} {H : Heap} (h : kALx g la arr cap n el H) : n < 2 ^ 31 := by
  obtain ⟨mo, h1, h2 | ⟨f, h2, h3, h4, h5⟩⟩ := h <;> omega
theorem kALx.pos {g : KGt} {la arr cap n i : Nat} {el : Nat → Nat} {H : Heap} (h : kALx g la arr cap n el H) (hi : i < n) : ∃ (mo : Int32) (f : Nat → Option Nat), va_at g.1 kcl (la, .inr (1, [.ref arr, .int (nI n), .int mo])) H ∧ va_at g.1 kcl (arr, .inl (g.2.1.1, cap, .inr (.inr (.inr (.inr f))))) H ∧ n ≤ cap ∧ cap ≤ 100 ∧ ∀ i, i < n → f i = some (el i) := by
  obtain ⟨mo, h1, h2 | ⟨f, h2, h3, h4, h5, h6⟩⟩ := h
  · omega
  · exact ⟨mo, f, h1, h2, h3, h5, h6⟩
theorem kAL.n_lt {g : KGt} {la n : Nat} {el : Nat → Nat} {H : Heap} (h : kAL g la n el H) : n < 2 ^ 31 := by
  obtain ⟨arr, cap, h⟩ := h
  exact h.n_lt
theorem kAL.recv {g : KGt} {la n : Nat} {el : Nat → Nat} {H : Heap} {s : State} (h : kAL g la n el H) (hK : va_K g.1 kcl (kTy g) s) : ∃ cell : Cell, H[la]? = some cell ∧ cell.vm.isStatics = false ∧ s.vm.findClass "java/util/ArrayList" = some cell.cls := by
  obtain ⟨arr, cap, mo, h, -⟩ := h
  exact va_recv hK (k_one h) (ci := 1) (q0 := 0) rfl rfl
set_option maxHeartbeats 4000000 in
set_option maxRecDepth 100000 in
theorem c_AL_size (l : Launch) (g : KGt) (H0 : Heap) (h0 n : Nat) (el : Nat → Nat) (o : kAL g h0 n el H0) : Met l y_AL_size (kW y_AL_size b_AL_size 1 (.some .int)) ({ frames := 0, cells := 0, slots := 0, locals := 0 }) (kPc [.ref h0] (KK g) H0) (kQc (kPure (.int (nI n)) H0)) 0 0 (fun _ => False) := by
  refine va_MetF (cc := b_AL_size) (maxL := 1) (ret := (.some .int)) (by decide +kernel) rfl ?_
  intro p e s m args below meth c s₁ B hml hv
  obtain ⟨rfl, hH, hKK⟩ := hv
  have hx := B.exec
  have hb := B.bytes
  have hr := B.returns
  have hts := kW_ts (atoms_spec (ws := kW y_AL_size b_AL_size 1 (.some .int)) B.pre)
  have hown : s.vm.findClass "java/util/ArrayList" = some m.cls := findClass_of_methodNamed B.named
  have hlocks := B.notSynchronized
  have hK := hKK.1
  subst hH
  have hl := lv_entry ([.ref h0]) (n := 1) (Nat.le_of_ble_eq_true rfl)
  rw [lg_entry_eq]
  generalize (lg_sl ([.ref h0]) ++ List.replicate (1 - (lg_sl ([.ref h0])).length) Slot.unset).toArray = ls at hl ⊢
  have hl : lv_has ls 1 [(0, .ref h0)] := hl
  obtain ⟨arr, cap, mo, o0, -⟩ := id o
  refine lv_aload_n hx hb d_AL_size_0 rfl (lv_at hl 0 rfl) ?_
  refine va_get (D := g.1) (ci := 1) (v := .int (nI n)) (C := "java/util/ArrayList") (T := kT_AL) (N := 3) hx hb hts ki_AL hown hK (k_one o0) 0 rfl rfl 1 (by decide) (hts _ kw_44) (fun _ h9 => h9) rfl d_AL_size_1 ?_
  exact W.iret (v := (nI n)) hx hb hr (fun t ht hW => ⟨_, rfl, rfl, ht⟩) (fun _ h => by cases h) d_AL_size_4
set_option maxHeartbeats 4000000 in
set_option maxRecDepth 100000 in
theorem c_AL_isEmpty (l : Launch) (g : KGt) (H0 : Heap) (h0 n : Nat) (el : Nat → Nat) (o : kAL g h0 n el H0) : Met l y_AL_isEmpty (kW y_AL_isEmpty b_AL_isEmpty 1 (.some .boolean)) ({ frames := 0, cells := 0, slots := 0, locals := 0 }) (kPc [.ref h0] (KK g) H0) (kQc (kPure (.int (if n = 0 then 1 else 0)) H0)) 0 0 (fun _ => False) := by
  refine va_MetF (cc := b_AL_isEmpty) (maxL := 1) (ret := (.some .boolean)) (by decide +kernel) rfl ?_
  intro p e s m args below meth c s₁ B hml hv
  obtain ⟨rfl, hH, hKK⟩ := hv
  have hx := B.exec
  have hb := B.bytes
  have hr := B.returns
  have hts := kW_ts (atoms_spec (ws := kW y_AL_isEmpty b_AL_isEmpty 1 (.some .boolean)) B.pre)
  have hown : s.vm.findClass "java/util/ArrayList" = some m.cls := findClass_of_methodNamed B.named
  have hlocks := B.notSynchronized
  have hK := hKK.1
  subst hH
  have hl := lv_entry ([.ref h0]) (n := 1) (Nat.le_of_ble_eq_true rfl)
  rw [lg_entry_eq]
  generalize (lg_sl ([.ref h0]) ++ List.replicate (1 - (lg_sl ([.ref h0])).length) Slot.unset).toArray = ls at hl ⊢
  have hl : lv_has ls 1 [(0, .ref h0)] := hl
  obtain ⟨arr, cap, mo, o0, -⟩ := id o
  refine lv_aload_n hx hb d_AL_isEmpty_0 rfl (lv_at hl 0 rfl) ?_
  refine va_get (D := g.1) (ci := 1) (v := .int (nI n)) (C := "java/util/ArrayList") (T := kT_AL) (N := 3) hx hb hts ki_AL hown hK (k_one o0) 0 rfl rfl 1 (by decide) (hts _ kw_44) (fun _ h9 => h9) rfl d_AL_isEmpty_1 ?_
  refine lv_if_ne (tgt := 11) hx hb d_AL_isEmpty_4 (by decide) (fun c_1 => ?_) (fun c_1 => ?_)
  · skip
    refine lv_iconst (v := 0) hx hb d_AL_isEmpty_11 (by decide) ?_
    exact W.zret (v := 0) (ty := .boolean) hx hb hr rfl (fun t ht hW => ⟨_, rfl, (by rw [if_neg (fun h => c_1 (by rw [h]; exact nI_0))]), ht⟩) (fun _ h => by cases h) d_AL_isEmpty_12
  · skip
    refine lv_iconst (v := 1) hx hb d_AL_isEmpty_7 (by decide) ?_
    refine lv_goto (tgt := 12) hx hb d_AL_isEmpty_8 (by decide) ?_
    exact W.zret (v := 1) (ty := .boolean) hx hb hr rfl (fun t ht hW => ⟨_, rfl, (by rw [if_pos ((nI_eq o.n_lt (by decide)).mp (c_1.trans nI_0.symm))]), ht⟩) (fun _ h => by cases h) d_AL_isEmpty_12
set_option maxHeartbeats 4000000 in
set_option maxRecDepth 100000 in
theorem c_Pre_checkIndex (l : Launch) (g : KGt) (H0 : Heap) (p0 p1 : Int32) (h0 : ¬ p0 < 0) (h1 : p0 < p1) : Met l y_Pre_checkIndex (kW y_Pre_checkIndex b_Pre_checkIndex 3 (.some .int)) ({ frames := 0, cells := 0, slots := 0, locals := 0 }) (kPc [.int p0, .int p1, .null] (KK g) H0) (kQc (kPure (.int p0) H0)) 0 0 (fun _ => False) := by
  refine va_MetF (cc := b_Pre_checkIndex) (maxL := 3) (ret := (.some .int)) (by decide +kernel) rfl ?_
  intro p e s m args below meth c s₁ B hml hv
  obtain ⟨rfl, hH, hKK⟩ := hv
  have hx := B.exec
  have hb := B.bytes
  have hr := B.returns
  have hts := kW_ts (atoms_spec (ws := kW y_Pre_checkIndex b_Pre_checkIndex 3 (.some .int)) B.pre)
  have hown : s.vm.findClass "jdk/internal/util/Preconditions" = some m.cls := findClass_of_methodNamed B.named
  have hlocks := B.notSynchronized
  have hK := hKK.1
  subst hH
  have hl := lv_entry ([.int p0, .int p1, .null]) (n := 3) (Nat.le_of_ble_eq_true rfl)
  rw [lg_entry_eq]
  generalize (lg_sl ([.int p0, .int p1, .null]) ++ List.replicate (3 - (lg_sl ([.int p0, .int p1, .null])).length) Slot.unset).toArray = ls at hl ⊢
  have hl : lv_has ls 3 [(0, .int p0), (1, .int p1), (2, .null)] := hl
  refine lv_iload_n hx hb d_Pre_checkIndex_0 rfl (lv_at hl 0 rfl) ?_
  refine lv_if_lt (tgt := 9) hx hb d_Pre_checkIndex_1 (by decide) (fun c_1 => ?_) (fun c_1 => ?_)
  · exact absurd c_1 h0
  refine lv_iload_n hx hb d_Pre_checkIndex_4 rfl (lv_at hl 0 rfl) ?_
  refine lv_iload_n hx hb d_Pre_checkIndex_5 rfl (lv_at hl 1 rfl) ?_
  refine lv_icmp_lt (tgt := 16) hx hb d_Pre_checkIndex_6 (by decide) (fun c_2 => ?_) (fun c_2 => ?_)
  rotate_left
  · exact absurd c_2 (fun q => q h1)
  refine lv_iload_n hx hb d_Pre_checkIndex_16 rfl (lv_at hl 0 rfl) ?_
  exact W.iret (v := p0) hx hb hr (fun t ht hW => ⟨_, rfl, rfl, ht⟩) (fun _ h => by cases h) d_Pre_checkIndex_17
set_option maxHeartbeats 4000000 in
set_option maxRecDepth 100000 in
theorem c_Objs_checkIndex (l : Launch) (g : KGt) (H0 : Heap) (p0 p1 : Int32) (h0 : ¬ p0 < 0) (h1 : p0 < p1) : Met l y_Objs_checkIndex (kW y_Objs_checkIndex b_Objs_checkIndex 2 (.some .int)) ({ frames := 1, cells := 0, slots := 0, locals := 22 }) (kPc [.int p0, .int p1] (KK g) H0) (kQc (kPure (.int p0) H0)) 0 0 (fun _ => False) := by
  refine va_MetF (cc := b_Objs_checkIndex) (maxL := 2) (ret := (.some .int)) (by decide +kernel) rfl ?_
  intro p e s m args below meth c s₁ B hml hv
  obtain ⟨rfl, hH, hKK⟩ := hv
  have hx := B.exec
  have hb := B.bytes
  have hr := B.returns
  have hts := kW_ts (atoms_spec (ws := kW y_Objs_checkIndex b_Objs_checkIndex 2 (.some .int)) B.pre)
  have hown : s.vm.findClass "java/util/Objects" = some m.cls := findClass_of_methodNamed B.named
  have hlocks := B.notSynchronized
  have hK := hKK.1
  subst hH
  have hl := lv_entry ([.int p0, .int p1]) (n := 2) (Nat.le_of_ble_eq_true rfl)
  rw [lg_entry_eq]
  generalize (lg_sl ([.int p0, .int p1]) ++ List.replicate (2 - (lg_sl ([.int p0, .int p1])).length) Slot.unset).toArray = ls at hl ⊢
  have hl : lv_has ls 2 [(0, .int p0), (1, .int p1)] := hl
  refine lv_iload_n hx hb d_Objs_checkIndex_0 rfl (lv_at hl 0 rfl) ?_
  refine lv_iload_n hx hb d_Objs_checkIndex_1 rfl (lv_at hl 1 rfl) ?_
  refine lv_null hx hb d_Objs_checkIndex_2 ?_
  refine k_pure (r := .int p0) (W.runS (As := [.int p0, .int p1, .null]) (rest := []) ⟨hx, hb, hml, hown, hts⟩ (c_Pre_checkIndex l g s.heap p0 p1 h0 h1) (va_cwS 3 hts (kS_good kw_213 kw_211 kw_212 kw_15) rfl rfl rfl (by decide +kernel) ⟨Nat.le_of_ble_eq_true rfl, Nat.le_of_ble_eq_true rfl⟩) (k_pre (KK_st g) hKK) rfl rfl hl.1 rfl (lv_room (Nat.le_of_ble_eq_true rfl)) d_Objs_checkIndex_3 ⟨Nat.zero_le _, Nat.zero_le _⟩) ?_
  exact W.iret (v := p0) hx hb hr (fun t ht hW => ⟨_, rfl, rfl, ht⟩) (fun _ h => by cases h) d_Objs_checkIndex_6
set_option maxHeartbeats 4000000 in
set_option maxRecDepth 100000 in
theorem c_AL_elementData (l : Launch) (g : KGt) (H0 : Heap) (h0 n : Nat) (el : Nat → Nat) (i : Nat) (hi : i < n) (o : kAL g h0 n el H0) : Met l y_AL_elementData (kW y_AL_elementData b_AL_elementData 2 (.some (.object "java/lang/Object"))) ({ frames := 0, cells := 0, slots := 0, locals := 0 }) (kPc [.ref h0, .int (nI i)] (KK g) H0) (kQc (kPure (.ref (el i)) H0)) 0 0 (fun _ => False) := by
  refine va_MetF (cc := b_AL_elementData) (maxL := 2) (ret := (.some (.object "java/lang/Object"))) (by decide +kernel) rfl ?_
  intro p e s m args below meth c s₁ B hml hv
  obtain ⟨rfl, hH, hKK⟩ := hv
  have hx := B.exec
  have hb := B.bytes
  have hr := B.returns
  have hts := kW_ts (atoms_spec (ws := kW y_AL_elementData b_AL_elementData 2 (.some (.object "java/lang/Object"))) B.pre)
  have hown : s.vm.findClass "java/util/ArrayList" = some m.cls := findClass_of_methodNamed B.named
  have hlocks := B.notSynchronized
  have hK := hKK.1
  subst hH
  have hl := lv_entry ([.ref h0, .int (nI i)]) (n := 2) (Nat.le_of_ble_eq_true rfl)
  rw [lg_entry_eq]
  generalize (lg_sl ([.ref h0, .int (nI i)]) ++ List.replicate (2 - (lg_sl ([.ref h0, .int (nI i)])).length) Slot.unset).toArray = ls at hl ⊢
  have hl : lv_has ls 2 [(0, .ref h0), (1, .int (nI i))] := hl
  obtain ⟨arr, cap, ox⟩ := id o
  obtain ⟨mo, f, o0, a0, h1, h2, h3⟩ := ox.pos hi
  refine lv_aload_n hx hb d_AL_elementData_0 rfl (lv_at hl 0 rfl) ?_
  refine va_get (D := g.1) (ci := 1) (v := .ref arr) (C := "java/util/ArrayList") (T := kT_AL) (N := 3) hx hb hts ki_AL hown hK (k_one o0) 0 rfl rfl 0 (by decide) (hts _ kw_43) (fun _ h9 => h9) rfl d_AL_elementData_1 ?_
  refine lv_iload_n hx hb d_AL_elementData_4 rfl (lv_at hl 1 rfl) ?_
  refine va_aldq (D := g.1) (C := "java/lang/Object") hx hb hK (k_one a0) 0 0 rfl rfl (vp_in_nI (show i < cap by omega) (by omega)) d_AL_elementData_5 ?_
  rw [nI_clamp (show i < 2 ^ 31 by omega), h3 i hi]
  exact W.aret (v := .ref (el i)) hx hb hr (Or.inl ⟨_, rfl⟩) (Or.inr ⟨_, rfl⟩) (fun t ht hW => ⟨_, rfl, rfl, ht⟩) (fun _ h => by cases h) d_AL_elementData_6
set_option maxHeartbeats 4000000 in
set_option maxRecDepth 100000 in
theorem c_AL_get (l : Launch) (g : KGt) (H0 : Heap) (h0 n : Nat) (el : Nat → Nat) (i : Nat) (hi : i < n) (o : kAL g h0 n el H0) : Met l y_AL_get (kW y_AL_get b_AL_get 2 (.some (.object "java/lang/Object"))) ({ frames := 2, cells := 0, slots := 0, locals := 43 }) (kPc [.ref h0, .int (nI i)] (KK g) H0) (kQc (kPure (.ref (el i)) H0)) 0 0 (fun _ => False) := by
  refine va_MetF (cc := b_AL_get) (maxL := 2) (ret := (.some (.object "java/lang/Object"))) (by decide +kernel) rfl ?_
  intro p e s m args below meth c s₁ B hml hv
  obtain ⟨rfl, hH, hKK⟩ := hv
  have hx := B.exec
  have hb := B.bytes
  have hr := B.returns
  have hts := kW_ts (atoms_spec (ws := kW y_AL_get b_AL_get 2 (.some (.object "java/lang/Object"))) B.pre)
  have hown : s.vm.findClass "java/util/ArrayList" = some m.cls := findClass_of_methodNamed B.named
  have hlocks := B.notSynchronized
  have hK := hKK.1
  subst hH
  have hl := lv_entry ([.ref h0, .int (nI i)]) (n := 2) (Nat.le_of_ble_eq_true rfl)
  rw [lg_entry_eq]
  generalize (lg_sl ([.ref h0, .int (nI i)]) ++ List.replicate (2 - (lg_sl ([.ref h0, .int (nI i)])).length) Slot.unset).toArray = ls at hl ⊢
  have hl : lv_has ls 2 [(0, .ref h0), (1, .int (nI i))] := hl
  obtain ⟨arr, cap, ox⟩ := id o
  obtain ⟨mo, f, o0, a0, h1, h2, h3⟩ := ox.pos hi
  refine lv_iload_n hx hb d_AL_get_0 rfl (lv_at hl 1 rfl) ?_
  refine lv_aload_n hx hb d_AL_get_1 rfl (lv_at hl 0 rfl) ?_
  refine va_get (D := g.1) (ci := 1) (v := .int (nI n)) (C := "java/util/ArrayList") (T := kT_AL) (N := 3) hx hb hts ki_AL hown hK (k_one o0) 0 rfl rfl 1 (by decide) (hts _ kw_44) (fun _ h9 => h9) rfl d_AL_get_2 ?_
  refine k_pure (r := .int (nI i)) (W.runS (As := [.int (nI i), .int (nI n)]) (rest := []) ⟨hx, hb, hml, hown, hts⟩ (c_Objs_checkIndex l g s.heap (nI i) (nI n) (nI_pos (by omega)) (nI_lt hi (by omega))) (va_cwS 2 hts (kS_good kw_210 kw_208 kw_209 kw_14) rfl rfl rfl (by decide +kernel) ⟨Nat.le_of_ble_eq_true rfl, Nat.le_of_ble_eq_true rfl⟩) (k_pre (KK_st g) hKK) rfl rfl hl.1 rfl (lv_room (Nat.le_of_ble_eq_true rfl)) d_AL_get_5 ⟨Nat.zero_le _, Nat.zero_le _⟩) ?_
  refine lv_pop hx hb d_AL_get_8 rfl ?_
  refine lv_aload_n hx hb d_AL_get_9 rfl (lv_at hl 0 rfl) ?_
  refine lv_iload_n hx hb d_AL_get_10 rfl (lv_at hl 1 rfl) ?_
  refine k_pure (r := .ref (el i)) (W.runV (As := [.int (nI i)]) (rest := []) ⟨hx, hb, hml, hown, hts⟩ (c_AL_elementData l g s.heap h0 n el i hi o) (cwV 1 hts (kV_good kw_217 kw_214 kw_215 kw_216 kw_4) rfl rfl rfl (by decide +kernel) ⟨Nat.le_of_ble_eq_true rfl, Nat.le_of_ble_eq_true rfl⟩) (k_preV (KK_st g) hKK (o.recv hK)) rfl rfl hl.1 rfl (lv_room (Nat.le_of_ble_eq_true rfl)) d_AL_get_11 ⟨Nat.zero_le _, Nat.zero_le _⟩) ?_
  exact W.aret (v := .ref (el i)) hx hb hr (Or.inl ⟨_, rfl⟩) (Or.inr ⟨_, rfl⟩) (fun t ht hW => ⟨_, rfl, rfl, ht⟩) (fun _ h => by cases h) d_AL_get_14

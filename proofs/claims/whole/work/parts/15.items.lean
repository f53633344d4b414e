/-! items: what one is, its methods by the receiver's class -/
theorem kU_good {own : String} {idx : Nat} {C owner : String} {x y : MethodName} {b : ByteArray} {n : Nat} {r : Option FieldType} (h : Cond.code y b n r ∈ kG) (h1 : Cond.methodLink own idx x ∈ kG) (h2 : Cond.sameMethod x.cls owner x.name x.desc ∈ kG) (h3 : Cond.selects C x y ∈ kG) (h4 : Cond.instanceMethod y ∈ kG) (h5 : Cond.initialized y.cls ∈ kG) : GoodIn kG (va_wsU own idx C owner x y (kW y b n r)) := by
  intro w hw
  unfold va_wsU at hw
  rcases List.mem_append.mp hw with hw | hw
  · simp only [List.mem_cons, List.not_mem_nil, or_false] at hw
    rcases hw with rfl | rfl | rfl | rfl | rfl
    · exact kG_good _ h1
    · exact kG_good _ h2
    · exact kG_good _ h3
    · exact kG_good _ h4
    · exact kG_good _ h5
  · exact kW_good h w hw
theorem kO_good {own : String} {idx : Nat} {C owner : String} {x y : MethodName} {b : ByteArray} {n : Nat} {r : Option FieldType} (h : Cond.code y b n r ∈ kG) (h1 : Cond.methodLink own idx x ∈ kG) (h2 : Cond.sameMethod x.cls owner x.name x.desc ∈ kG) (h0 : Cond.instanceMethod ⟨owner, x.name, x.desc⟩ ∈ kG) (h3 : Cond.selects C x y ∈ kG) (h4 : Cond.instanceMethod y ∈ kG) (h5 : Cond.initialized y.cls ∈ kG) : GoodIn kG (va_wsO own idx C owner x y (kW y b n r)) := by
  intro w hw
  unfold va_wsO at hw
  rcases List.mem_append.mp hw with hw | hw
  · simp only [List.mem_cons, List.not_mem_nil, or_false] at hw
    rcases hw with rfl | rfl | rfl | rfl | rfl | rfl
    · exact kG_good _ h1
    · exact kG_good _ h2
    · exact kG_good _ h0
    · exact kG_good _ h3
    · exact kG_good _ h4
    · exact kG_good _ h5
  · exact kW_good h w hw
/-- the item at a, among the cells I that nobody writes any more. it: 0 sort, 1 own length, 2 height, 3 depth, 4 stretch, 5 its order, 6 shrink, 7 its order, 8 kind of leaders, 9 their box's length -/
def kItem (g : KGt) (I : Nat → Prop) (a : Nat) (it : Nat → Int32) (H : Heap) : Prop := I a ∧
  ((it 0 = 1 ∧ va_at g.1 kcl (a, .inr (4, [.int (it 0), .int (it 1), .int (it 2), .int (it 3)])) H) ∨
   (it 0 = 2 ∧ ∃ r : Nat, I r ∧ va_at g.1 kcl (a, .inr (5, [.int (it 0), .int (it 1), .int (it 4), .int (it 5), .int (it 6), .int (it 7), .ref r])) H ∧ va_at g.1 kcl (r, .inr (8, [.int (it 8), .int (it 9)])) H) ∨
   (it 0 = 3 ∧ va_at g.1 kcl (a, .inr (6, [.int (it 0), .int (it 1)])) H) ∨
   (it 0 = 4 ∧ va_at g.1 kcl (a, .inr (7, [.int (it 0), .int (it 1), .int (it 2), .int (it 3)])) H))
theorem kItem.kept {g : KGt} {I J : Nat → Prop} {a : Nat} {it : Nat → Int32} {H H1 : Heap} (h : kItem g I a it H) (hI : ∀ q, I q → J q) (hk : ∀ q, I q → q < H.size → H1[q]? = H[q]?) : kItem g J a it H1 := by
  obtain ⟨ha, h⟩ := h
  refine ⟨hI a ha, ?_⟩
  rcases h with ⟨h1, h2⟩ | ⟨h1, r, hr, h2, h3⟩ | ⟨h1, h2⟩ | ⟨h1, h2⟩
  · exact Or.inl ⟨h1, h2.kept (hk a ha h2.lt)⟩
  · exact Or.inr (Or.inl ⟨h1, r, hI r hr, h2.kept (hk a ha h2.lt), h3.kept (hk r hr h3.lt)⟩)
  · exact Or.inr (Or.inr (Or.inl ⟨h1, h2.kept (hk a ha h2.lt)⟩))
  · exact Or.inr (Or.inr (Or.inr ⟨h1, h2.kept (hk a ha h2.lt)⟩))
theorem kItem.obj {g : KGt} {I : Nat → Prop} {a : Nat} {it : Nat → Int32} {H : Heap} (h : kItem g I a it H) : kObj g a H := by
  obtain ⟨ha, h⟩ := h
  rcases h with ⟨h1, h2⟩ | ⟨h1, r, hr, h2, h3⟩ | ⟨h1, h2⟩ | ⟨h1, h2⟩
  · exact ⟨_, _, h2, by omega⟩
  · exact ⟨_, _, h2, by omega⟩
  · exact ⟨_, _, h2, by omega⟩
  · exact ⟨_, _, h2, by omega⟩
def i_giving (it : Nat → Int32) (b o : Int32) : Int32 := if it 0 = 2 then f_Glue_giving (it 0) (it 1) (it 4) (it 5) (it 6) (it 7) b o else 0
def i_height (it : Nat → Int32) (r : Int32) : Int32 := if it 0 = 1 then f_Put_heightWhere (it 0) (it 1) (it 2) (it 3) r else if it 0 = 4 then f_Rule_heightWhere (it 0) (it 1) (it 2) (it 3) r else 0
def i_depth (it : Nat → Int32) (r : Int32) : Int32 := if it 0 = 1 then f_Put_depthWhere (it 0) (it 1) (it 2) (it 3) r else if it 0 = 4 then f_Rule_depthWhere (it 0) (it 1) (it 2) (it 3) r else 0
def i_drawn (it : Nat → Int32) (a b : Int32) : Int32 := if it 0 = 2 then f_Glue_leadersDrawn (it 0) (it 1) (it 4) (it 5) (it 6) (it 7) (it 8) (it 9) a b else 0
def i_first (it : Nat → Int32) (a b : Int32) : Int32 := if it 0 = 2 then f_Glue_firstLeader (it 0) (it 1) (it 4) (it 5) (it 6) (it 7) (it 8) (it 9) a b else 0
def i_step (it : Nat → Int32) (a b : Int32) : Int32 := if it 0 = 2 then f_Glue_leaderStep (it 0) (it 1) (it 4) (it 5) (it 6) (it 7) (it 8) (it 9) a b else 0
set_option maxHeartbeats 4000000 in
set_option maxRecDepth 100000 in
theorem c_Item_giving (l : Launch) (g : KGt) (H0 : Heap) (h0 : Nat) (p0 : Int32) (p1 : Int32) : Met l y_Item_giving (kW y_Item_giving b_Item_giving 3 (.some .int)) ({ frames := 0, cells := 0, slots := 0, locals := 0 }) (kPc [.ref h0, .int p0, .int p1] (KK g) H0) (kQc (kPure (.int 0) H0)) 0 0 (fun _ => False) := by
  refine Met.ofW (cc := b_Item_giving) (maxL := 3) (ret := (.some .int)) (by decide) rfl ?_
  intro p e s m args below meth c s₁ B hml hv
  obtain ⟨rfl, hH, hKK⟩ := hv
  have hx := B.exec
  have hb := B.bytes
  have hr := B.returns
  have hts := kW_ts (atoms_spec (ws := kW y_Item_giving b_Item_giving 3 (.some .int)) B.pre)
  have hown : s.vm.findClass "BoxGlue$Item" = some m.cls := findClass_of_methodNamed B.named
  have hlocks := B.notSynchronized
  have hK := hKK.1
  subst hH
  have hl := lv_entry ([.ref h0, .int p0, .int p1]) (n := 3) (Nat.le_of_ble_eq_true rfl)
  rw [lg_entry_eq]
  generalize (lg_sl ([.ref h0, .int p0, .int p1]) ++ List.replicate (3 - (lg_sl ([.ref h0, .int p0, .int p1])).length) Slot.unset).toArray = ls at hl ⊢
  have hl : lv_has ls 3 [(0, .ref h0), (1, .int p0), (2, .int p1)] := hl
  refine lv_iconst (v := 0) hx hb d_Item_giving_0 (by decide) ?_
  exact W.iret (v := 0) hx hb hr (fun t ht hW => ⟨_, rfl, rfl, ht⟩) (fun _ h => by cases h) d_Item_giving_1
set_option maxHeartbeats 4000000 in
set_option maxRecDepth 100000 in
theorem c_Item_heightWhere (l : Launch) (g : KGt) (H0 : Heap) (h0 : Nat) (p0 : Int32) : Met l y_Item_heightWhere (kW y_Item_heightWhere b_Item_heightWhere 2 (.some .int)) ({ frames := 0, cells := 0, slots := 0, locals := 0 }) (kPc [.ref h0, .int p0] (KK g) H0) (kQc (kPure (.int 0) H0)) 0 0 (fun _ => False) := by
  refine Met.ofW (cc := b_Item_heightWhere) (maxL := 2) (ret := (.some .int)) (by decide) rfl ?_
  intro p e s m args below meth c s₁ B hml hv
  obtain ⟨rfl, hH, hKK⟩ := hv
  have hx := B.exec
  have hb := B.bytes
  have hr := B.returns
  have hts := kW_ts (atoms_spec (ws := kW y_Item_heightWhere b_Item_heightWhere 2 (.some .int)) B.pre)
  have hown : s.vm.findClass "BoxGlue$Item" = some m.cls := findClass_of_methodNamed B.named
  have hlocks := B.notSynchronized
  have hK := hKK.1
  subst hH
  have hl := lv_entry ([.ref h0, .int p0]) (n := 2) (Nat.le_of_ble_eq_true rfl)
  rw [lg_entry_eq]
  generalize (lg_sl ([.ref h0, .int p0]) ++ List.replicate (2 - (lg_sl ([.ref h0, .int p0])).length) Slot.unset).toArray = ls at hl ⊢
  have hl : lv_has ls 2 [(0, .ref h0), (1, .int p0)] := hl
  refine lv_iconst (v := 0) hx hb d_Item_heightWhere_0 (by decide) ?_
  exact W.iret (v := 0) hx hb hr (fun t ht hW => ⟨_, rfl, rfl, ht⟩) (fun _ h => by cases h) d_Item_heightWhere_1
set_option maxHeartbeats 4000000 in
set_option maxRecDepth 100000 in
theorem c_Item_depthWhere (l : Launch) (g : KGt) (H0 : Heap) (h0 : Nat) (p0 : Int32) : Met l y_Item_depthWhere (kW y_Item_depthWhere b_Item_depthWhere 2 (.some .int)) ({ frames := 0, cells := 0, slots := 0, locals := 0 }) (kPc [.ref h0, .int p0] (KK g) H0) (kQc (kPure (.int 0) H0)) 0 0 (fun _ => False) := by
  refine Met.ofW (cc := b_Item_depthWhere) (maxL := 2) (ret := (.some .int)) (by decide) rfl ?_
  intro p e s m args below meth c s₁ B hml hv
  obtain ⟨rfl, hH, hKK⟩ := hv
  have hx := B.exec
  have hb := B.bytes
  have hr := B.returns
  have hts := kW_ts (atoms_spec (ws := kW y_Item_depthWhere b_Item_depthWhere 2 (.some .int)) B.pre)
  have hown : s.vm.findClass "BoxGlue$Item" = some m.cls := findClass_of_methodNamed B.named
  have hlocks := B.notSynchronized
  have hK := hKK.1
  subst hH
  have hl := lv_entry ([.ref h0, .int p0]) (n := 2) (Nat.le_of_ble_eq_true rfl)
  rw [lg_entry_eq]
  generalize (lg_sl ([.ref h0, .int p0]) ++ List.replicate (2 - (lg_sl ([.ref h0, .int p0])).length) Slot.unset).toArray = ls at hl ⊢
  have hl : lv_has ls 2 [(0, .ref h0), (1, .int p0)] := hl
  refine lv_iconst (v := 0) hx hb d_Item_depthWhere_0 (by decide) ?_
  exact W.iret (v := 0) hx hb hr (fun t ht hW => ⟨_, rfl, rfl, ht⟩) (fun _ h => by cases h) d_Item_depthWhere_1
set_option maxHeartbeats 4000000 in
set_option maxRecDepth 100000 in
theorem c_Item_leadersDrawn (l : Launch) (g : KGt) (H0 : Heap) (h0 : Nat) (p0 : Int32) (p1 : Int32) : Met l y_Item_leadersDrawn (kW y_Item_leadersDrawn b_Item_leadersDrawn 3 (.some .int)) ({ frames := 0, cells := 0, slots := 0, locals := 0 }) (kPc [.ref h0, .int p0, .int p1] (KK g) H0) (kQc (kPure (.int 0) H0)) 0 0 (fun _ => False) := by
  refine Met.ofW (cc := b_Item_leadersDrawn) (maxL := 3) (ret := (.some .int)) (by decide) rfl ?_
  intro p e s m args below meth c s₁ B hml hv
  obtain ⟨rfl, hH, hKK⟩ := hv
  have hx := B.exec
  have hb := B.bytes
  have hr := B.returns
  have hts := kW_ts (atoms_spec (ws := kW y_Item_leadersDrawn b_Item_leadersDrawn 3 (.some .int)) B.pre)
  have hown : s.vm.findClass "BoxGlue$Item" = some m.cls := findClass_of_methodNamed B.named
  have hlocks := B.notSynchronized
  have hK := hKK.1
  subst hH
  have hl := lv_entry ([.ref h0, .int p0, .int p1]) (n := 3) (Nat.le_of_ble_eq_true rfl)
  rw [lg_entry_eq]
  generalize (lg_sl ([.ref h0, .int p0, .int p1]) ++ List.replicate (3 - (lg_sl ([.ref h0, .int p0, .int p1])).length) Slot.unset).toArray = ls at hl ⊢
  have hl : lv_has ls 3 [(0, .ref h0), (1, .int p0), (2, .int p1)] := hl
  refine lv_iconst (v := 0) hx hb d_Item_leadersDrawn_0 (by decide) ?_
  exact W.iret (v := 0) hx hb hr (fun t ht hW => ⟨_, rfl, rfl, ht⟩) (fun _ h => by cases h) d_Item_leadersDrawn_1
set_option maxHeartbeats 4000000 in
set_option maxRecDepth 100000 in
theorem c_Item_firstLeader (l : Launch) (g : KGt) (H0 : Heap) (h0 : Nat) (p0 : Int32) (p1 : Int32) : Met l y_Item_firstLeader (kW y_Item_firstLeader b_Item_firstLeader 3 (.some .int)) ({ frames := 0, cells := 0, slots := 0, locals := 0 }) (kPc [.ref h0, .int p0, .int p1] (KK g) H0) (kQc (kPure (.int 0) H0)) 0 0 (fun _ => False) := by
  refine Met.ofW (cc := b_Item_firstLeader) (maxL := 3) (ret := (.some .int)) (by decide) rfl ?_
  intro p e s m args below meth c s₁ B hml hv
  obtain ⟨rfl, hH, hKK⟩ := hv
  have hx := B.exec
  have hb := B.bytes
  have hr := B.returns
  have hts := kW_ts (atoms_spec (ws := kW y_Item_firstLeader b_Item_firstLeader 3 (.some .int)) B.pre)
  have hown : s.vm.findClass "BoxGlue$Item" = some m.cls := findClass_of_methodNamed B.named
  have hlocks := B.notSynchronized
  have hK := hKK.1
  subst hH
  have hl := lv_entry ([.ref h0, .int p0, .int p1]) (n := 3) (Nat.le_of_ble_eq_true rfl)
  rw [lg_entry_eq]
  generalize (lg_sl ([.ref h0, .int p0, .int p1]) ++ List.replicate (3 - (lg_sl ([.ref h0, .int p0, .int p1])).length) Slot.unset).toArray = ls at hl ⊢
  have hl : lv_has ls 3 [(0, .ref h0), (1, .int p0), (2, .int p1)] := hl
  refine lv_iconst (v := 0) hx hb d_Item_firstLeader_0 (by decide) ?_
  exact W.iret (v := 0) hx hb hr (fun t ht hW => ⟨_, rfl, rfl, ht⟩) (fun _ h => by cases h) d_Item_firstLeader_1
set_option maxHeartbeats 4000000 in
set_option maxRecDepth 100000 in
theorem c_Item_leaderStep (l : Launch) (g : KGt) (H0 : Heap) (h0 : Nat) (p0 : Int32) (p1 : Int32) : Met l y_Item_leaderStep (kW y_Item_leaderStep b_Item_leaderStep 3 (.some .int)) ({ frames := 0, cells := 0, slots := 0, locals := 0 }) (kPc [.ref h0, .int p0, .int p1] (KK g) H0) (kQc (kPure (.int 0) H0)) 0 0 (fun _ => False) := by
  refine Met.ofW (cc := b_Item_leaderStep) (maxL := 3) (ret := (.some .int)) (by decide) rfl ?_
  intro p e s m args below meth c s₁ B hml hv
  obtain ⟨rfl, hH, hKK⟩ := hv
  have hx := B.exec
  have hb := B.bytes
  have hr := B.returns
  have hts := kW_ts (atoms_spec (ws := kW y_Item_leaderStep b_Item_leaderStep 3 (.some .int)) B.pre)
  have hown : s.vm.findClass "BoxGlue$Item" = some m.cls := findClass_of_methodNamed B.named
  have hlocks := B.notSynchronized
  have hK := hKK.1
  subst hH
  have hl := lv_entry ([.ref h0, .int p0, .int p1]) (n := 3) (Nat.le_of_ble_eq_true rfl)
  rw [lg_entry_eq]
  generalize (lg_sl ([.ref h0, .int p0, .int p1]) ++ List.replicate (3 - (lg_sl ([.ref h0, .int p0, .int p1])).length) Slot.unset).toArray = ls at hl ⊢
  have hl : lv_has ls 3 [(0, .ref h0), (1, .int p0), (2, .int p1)] := hl
  refine lv_iconst (v := 0) hx hb d_Item_leaderStep_0 (by decide) ?_
  exact W.iret (v := 0) hx hb hr (fun t ht hW => ⟨_, rfl, rfl, ht⟩) (fun _ h => by cases h) d_Item_leaderStep_1
set_option maxHeartbeats 4000000 in
set_option maxRecDepth 100000 in
theorem v_giving {p : Program} {l : Launch} {e : Env} {R : Room} {s : State} {m : MethodId} {args : Array Value} {below : List Frame} {meth : Method} {c : Code} {H : Heap} {locs : List Loc} {cells slots : Nat} {Q : State → Prop} {cc : ByteArray} {nL pc : Nat} {ls : Array Slot} {rest : List Value} {g : KGt} {I : Nat → Prop} {it : Nat → Int32} {a : Nat} {p0 : Int32} {p1 : Int32} {own : String} {idx : Nat} (hx : p.tables.exec = Jvm.exec) (hb : c.code = cc) (hml : c.maxLocals = nL) (hown : s.vm.findClass own = some m.cls) (hts : ∀ w ∈ kG, w.before args s = true) (hKK : KK g s) (hlink : Cond.methodLink own idx y_Item_giving ∈ kG) (hit : kItem g I a it H) (hls : ls.size = nL) (hrest : (rest.map fun v => v.category).sum ≤ 8) (hF : 1 ≤ R.frames) (hLo : 22 ≤ R.locals) (hc : cells ≤ R.cells) (hs : slots ≤ R.slots) (hdg : decode cc pc = .ok (.invokevirtual idx, 3))
    (kk : W p l e R s m args below meth c H locs cells slots Q (F0 m (pc + 3) ls (.int (i_giving it p0 p1) :: rest))) : W p l e R s m args below meth c H locs cells slots Q (F0 m pc ls (.int p1 :: .int p0 :: .ref a :: rest)) := by
  have hK := hKK.1
  obtain ⟨-, ⟨hs0, o0⟩ | ⟨hs0, r, -, o0, o1⟩ | ⟨hs0, o0⟩ | ⟨hs0, o0⟩⟩ := hit
  · have ev : i_giving it p0 p1 = 0 := by
      unfold i_giving; rw [hs0]; rfl
    rw [ev] at kk
    exact k_pure (r := .int 0) (va_Run.run (va_runU (As := [.int p0, .int p1]) (rest := rest) ⟨hx, hb, hml, hown, hts⟩ (c_Item_giving l g H a p0 p1) (va_cwU (C := "BoxGlue$Put") (owner := "BoxGlue$Item") 2 hts (kU_good kw_409 hlink kw_402 kw_407 kw_401 kw_12) rfl rfl rfl rfl (by decide +kernel) ⟨by show 0 + 1 ≤ _; omega, by show 8 + (3 + 11) + 0 ≤ _; omega⟩) (k_preV (KK_st g) hKK (va_recv hK (k_one o0) (ci := 4) (q0 := 0) rfl rfl)) rfl rfl hls rfl (lv_room hrest) hdg ⟨by omega, by omega⟩)) kk
  · have ev : i_giving it p0 p1 = (f_Glue_giving (it 0) (it 1) (it 4) (it 5) (it 6) (it 7) p0 p1) := by
      unfold i_giving; rw [hs0]; rfl
    rw [ev] at kk
    exact k_pure (r := .int (f_Glue_giving (it 0) (it 1) (it 4) (it 5) (it 6) (it 7) p0 p1)) (va_Run.run (va_runU (As := [.int p0, .int p1]) (rest := rest) ⟨hx, hb, hml, hown, hts⟩ (c_Glue_giving l g H a r (it 0) (it 1) (it 4) (it 5) (it 6) (it 7) p0 p1 o0) (va_cwO (C := "BoxGlue$Glue") (owner := "BoxGlue$Item") 2 hts (kO_good kw_405 hlink kw_402 kw_401 kw_403 kw_404 kw_16) rfl rfl rfl kw_409 (by decide +kernel) ⟨by show 0 + 1 ≤ _; omega, by show 8 + (3 + 11) + 0 ≤ _; omega⟩) (k_preV (KK_st g) hKK (va_recv hK (k_one o0) (ci := 5) (q0 := 0) rfl rfl)) rfl rfl hls rfl (lv_room hrest) hdg ⟨by omega, by omega⟩)) kk
  · have ev : i_giving it p0 p1 = 0 := by
      unfold i_giving; rw [hs0]; rfl
    rw [ev] at kk
    exact k_pure (r := .int 0) (va_Run.run (va_runU (As := [.int p0, .int p1]) (rest := rest) ⟨hx, hb, hml, hown, hts⟩ (c_Item_giving l g H a p0 p1) (va_cwU (C := "BoxGlue$Kern") (owner := "BoxGlue$Item") 2 hts (kU_good kw_409 hlink kw_402 kw_406 kw_401 kw_12) rfl rfl rfl rfl (by decide +kernel) ⟨by show 0 + 1 ≤ _; omega, by show 8 + (3 + 11) + 0 ≤ _; omega⟩) (k_preV (KK_st g) hKK (va_recv hK (k_one o0) (ci := 6) (q0 := 0) rfl rfl)) rfl rfl hls rfl (lv_room hrest) hdg ⟨by omega, by omega⟩)) kk
  · have ev : i_giving it p0 p1 = 0 := by
      unfold i_giving; rw [hs0]; rfl
    rw [ev] at kk
    exact k_pure (r := .int 0) (va_Run.run (va_runU (As := [.int p0, .int p1]) (rest := rest) ⟨hx, hb, hml, hown, hts⟩ (c_Item_giving l g H a p0 p1) (va_cwU (C := "BoxGlue$Rule") (owner := "BoxGlue$Item") 2 hts (kU_good kw_409 hlink kw_402 kw_408 kw_401 kw_12) rfl rfl rfl rfl (by decide +kernel) ⟨by show 0 + 1 ≤ _; omega, by show 8 + (3 + 11) + 0 ≤ _; omega⟩) (k_preV (KK_st g) hKK (va_recv hK (k_one o0) (ci := 7) (q0 := 0) rfl rfl)) rfl rfl hls rfl (lv_room hrest) hdg ⟨by omega, by omega⟩)) kk
set_option maxHeartbeats 4000000 in
set_option maxRecDepth 100000 in
theorem v_heightWhere {p : Program} {l : Launch} {e : Env} {R : Room} {s : State} {m : MethodId} {args : Array Value} {below : List Frame} {meth : Method} {c : Code} {H : Heap} {locs : List Loc} {cells slots : Nat} {Q : State → Prop} {cc : ByteArray} {nL pc : Nat} {ls : Array Slot} {rest : List Value} {g : KGt} {I : Nat → Prop} {it : Nat → Int32} {a : Nat} {p0 : Int32} {own : String} {idx : Nat} (hx : p.tables.exec = Jvm.exec) (hb : c.code = cc) (hml : c.maxLocals = nL) (hown : s.vm.findClass own = some m.cls) (hts : ∀ w ∈ kG, w.before args s = true) (hKK : KK g s) (hlink : Cond.methodLink own idx y_Item_heightWhere ∈ kG) (hit : kItem g I a it H) (hls : ls.size = nL) (hrest : (rest.map fun v => v.category).sum ≤ 8) (hF : 1 ≤ R.frames) (hLo : 21 ≤ R.locals) (hc : cells ≤ R.cells) (hs : slots ≤ R.slots) (hdg : decode cc pc = .ok (.invokevirtual idx, 3))
    (kk : W p l e R s m args below meth c H locs cells slots Q (F0 m (pc + 3) ls (.int (i_height it p0) :: rest))) : W p l e R s m args below meth c H locs cells slots Q (F0 m pc ls (.int p0 :: .ref a :: rest)) := by
  have hK := hKK.1
  obtain ⟨-, ⟨hs0, o0⟩ | ⟨hs0, r, -, o0, o1⟩ | ⟨hs0, o0⟩ | ⟨hs0, o0⟩⟩ := hit
  · have ev : i_height it p0 = (f_Put_heightWhere (it 0) (it 1) (it 2) (it 3) p0) := by
      unfold i_height; rw [hs0]; rfl
    rw [ev] at kk
    exact k_pure (r := .int (f_Put_heightWhere (it 0) (it 1) (it 2) (it 3) p0)) (va_Run.run (va_runU (As := [.int p0]) (rest := rest) ⟨hx, hb, hml, hown, hts⟩ (c_Put_heightWhere l g H a (it 0) (it 1) (it 2) (it 3) p0 o0) (va_cwO (C := "BoxGlue$Put") (owner := "BoxGlue$Item") 1 hts (kO_good kw_371 hlink kw_366 kw_365 kw_369 kw_370 kw_13) rfl rfl rfl kw_376 (by decide +kernel) ⟨by show 0 + 1 ≤ _; omega, by show 8 + (2 + 11) + 0 ≤ _; omega⟩) (k_preV (KK_st g) hKK (va_recv hK (k_one o0) (ci := 4) (q0 := 0) rfl rfl)) rfl rfl hls rfl (lv_room hrest) hdg ⟨by omega, by omega⟩)) kk
  · have ev : i_height it p0 = 0 := by
      unfold i_height; rw [hs0]; rfl
    rw [ev] at kk
    exact k_pure (r := .int 0) (va_Run.run (va_runU (As := [.int p0]) (rest := rest) ⟨hx, hb, hml, hown, hts⟩ (c_Item_heightWhere l g H a p0) (va_cwU (C := "BoxGlue$Glue") (owner := "BoxGlue$Item") 1 hts (kU_good kw_376 hlink kw_366 kw_367 kw_365 kw_12) rfl rfl rfl rfl (by decide +kernel) ⟨by show 0 + 1 ≤ _; omega, by show 8 + (2 + 11) + 0 ≤ _; omega⟩) (k_preV (KK_st g) hKK (va_recv hK (k_one o0) (ci := 5) (q0 := 0) rfl rfl)) rfl rfl hls rfl (lv_room hrest) hdg ⟨by omega, by omega⟩)) kk
  · have ev : i_height it p0 = 0 := by
      unfold i_height; rw [hs0]; rfl
    rw [ev] at kk
    exact k_pure (r := .int 0) (va_Run.run (va_runU (As := [.int p0]) (rest := rest) ⟨hx, hb, hml, hown, hts⟩ (c_Item_heightWhere l g H a p0) (va_cwU (C := "BoxGlue$Kern") (owner := "BoxGlue$Item") 1 hts (kU_good kw_376 hlink kw_366 kw_368 kw_365 kw_12) rfl rfl rfl rfl (by decide +kernel) ⟨by show 0 + 1 ≤ _; omega, by show 8 + (2 + 11) + 0 ≤ _; omega⟩) (k_preV (KK_st g) hKK (va_recv hK (k_one o0) (ci := 6) (q0 := 0) rfl rfl)) rfl rfl hls rfl (lv_room hrest) hdg ⟨by omega, by omega⟩)) kk
  · have ev : i_height it p0 = (f_Rule_heightWhere (it 0) (it 1) (it 2) (it 3) p0) := by
      unfold i_height; rw [hs0]; rfl
    rw [ev] at kk
    exact k_pure (r := .int (f_Rule_heightWhere (it 0) (it 1) (it 2) (it 3) p0)) (va_Run.run (va_runU (As := [.int p0]) (rest := rest) ⟨hx, hb, hml, hown, hts⟩ (c_Rule_heightWhere l g H a (it 0) (it 1) (it 2) (it 3) p0 o0) (va_cwO (C := "BoxGlue$Rule") (owner := "BoxGlue$Item") 1 hts (kO_good kw_374 hlink kw_366 kw_365 kw_372 kw_373 kw_19) rfl rfl rfl kw_376 (by decide +kernel) ⟨by show 0 + 1 ≤ _; omega, by show 8 + (2 + 11) + 0 ≤ _; omega⟩) (k_preV (KK_st g) hKK (va_recv hK (k_one o0) (ci := 7) (q0 := 0) rfl rfl)) rfl rfl hls rfl (lv_room hrest) hdg ⟨by omega, by omega⟩)) kk
set_option maxHeartbeats 4000000 in
set_option maxRecDepth 100000 in
theorem v_depthWhere {p : Program} {l : Launch} {e : Env} {R : Room} {s : State} {m : MethodId} {args : Array Value} {below : List Frame} {meth : Method} {c : Code} {H : Heap} {locs : List Loc} {cells slots : Nat} {Q : State → Prop} {cc : ByteArray} {nL pc : Nat} {ls : Array Slot} {rest : List Value} {g : KGt} {I : Nat → Prop} {it : Nat → Int32} {a : Nat} {p0 : Int32} {own : String} {idx : Nat} (hx : p.tables.exec = Jvm.exec) (hb : c.code = cc) (hml : c.maxLocals = nL) (hown : s.vm.findClass own = some m.cls) (hts : ∀ w ∈ kG, w.before args s = true) (hKK : KK g s) (hlink : Cond.methodLink own idx y_Item_depthWhere ∈ kG) (hit : kItem g I a it H) (hls : ls.size = nL) (hrest : (rest.map fun v => v.category).sum ≤ 8) (hF : 1 ≤ R.frames) (hLo : 21 ≤ R.locals) (hc : cells ≤ R.cells) (hs : slots ≤ R.slots) (hdg : decode cc pc = .ok (.invokevirtual idx, 3))
    (kk : W p l e R s m args below meth c H locs cells slots Q (F0 m (pc + 3) ls (.int (i_depth it p0) :: rest))) : W p l e R s m args below meth c H locs cells slots Q (F0 m pc ls (.int p0 :: .ref a :: rest)) := by
  have hK := hKK.1
  obtain ⟨-, ⟨hs0, o0⟩ | ⟨hs0, r, -, o0, o1⟩ | ⟨hs0, o0⟩ | ⟨hs0, o0⟩⟩ := hit
  · have ev : i_depth it p0 = (f_Put_depthWhere (it 0) (it 1) (it 2) (it 3) p0) := by
      unfold i_depth; rw [hs0]; rfl
    rw [ev] at kk
    exact k_pure (r := .int (f_Put_depthWhere (it 0) (it 1) (it 2) (it 3) p0)) (va_Run.run (va_runU (As := [.int p0]) (rest := rest) ⟨hx, hb, hml, hown, hts⟩ (c_Put_depthWhere l g H a (it 0) (it 1) (it 2) (it 3) p0 o0) (va_cwO (C := "BoxGlue$Put") (owner := "BoxGlue$Item") 1 hts (kO_good kw_385 hlink kw_380 kw_379 kw_383 kw_384 kw_13) rfl rfl rfl kw_389 (by decide +kernel) ⟨by show 0 + 1 ≤ _; omega, by show 8 + (2 + 11) + 0 ≤ _; omega⟩) (k_preV (KK_st g) hKK (va_recv hK (k_one o0) (ci := 4) (q0 := 0) rfl rfl)) rfl rfl hls rfl (lv_room hrest) hdg ⟨by omega, by omega⟩)) kk
  · have ev : i_depth it p0 = 0 := by
      unfold i_depth; rw [hs0]; rfl
    rw [ev] at kk
    exact k_pure (r := .int 0) (va_Run.run (va_runU (As := [.int p0]) (rest := rest) ⟨hx, hb, hml, hown, hts⟩ (c_Item_depthWhere l g H a p0) (va_cwU (C := "BoxGlue$Glue") (owner := "BoxGlue$Item") 1 hts (kU_good kw_389 hlink kw_380 kw_381 kw_379 kw_12) rfl rfl rfl rfl (by decide +kernel) ⟨by show 0 + 1 ≤ _; omega, by show 8 + (2 + 11) + 0 ≤ _; omega⟩) (k_preV (KK_st g) hKK (va_recv hK (k_one o0) (ci := 5) (q0 := 0) rfl rfl)) rfl rfl hls rfl (lv_room hrest) hdg ⟨by omega, by omega⟩)) kk
  · have ev : i_depth it p0 = 0 := by
      unfold i_depth; rw [hs0]; rfl
    rw [ev] at kk
    exact k_pure (r := .int 0) (va_Run.run (va_runU (As := [.int p0]) (rest := rest) ⟨hx, hb, hml, hown, hts⟩ (c_Item_depthWhere l g H a p0) (va_cwU (C := "BoxGlue$Kern") (owner := "BoxGlue$Item") 1 hts (kU_good kw_389 hlink kw_380 kw_382 kw_379 kw_12) rfl rfl rfl rfl (by decide +kernel) ⟨by show 0 + 1 ≤ _; omega, by show 8 + (2 + 11) + 0 ≤ _; omega⟩) (k_preV (KK_st g) hKK (va_recv hK (k_one o0) (ci := 6) (q0 := 0) rfl rfl)) rfl rfl hls rfl (lv_room hrest) hdg ⟨by omega, by omega⟩)) kk
  · have ev : i_depth it p0 = (f_Rule_depthWhere (it 0) (it 1) (it 2) (it 3) p0) := by
      unfold i_depth; rw [hs0]; rfl
    rw [ev] at kk
    exact k_pure (r := .int (f_Rule_depthWhere (it 0) (it 1) (it 2) (it 3) p0)) (va_Run.run (va_runU (As := [.int p0]) (rest := rest) ⟨hx, hb, hml, hown, hts⟩ (c_Rule_depthWhere l g H a (it 0) (it 1) (it 2) (it 3) p0 o0) (va_cwO (C := "BoxGlue$Rule") (owner := "BoxGlue$Item") 1 hts (kO_good kw_388 hlink kw_380 kw_379 kw_386 kw_387 kw_19) rfl rfl rfl kw_389 (by decide +kernel) ⟨by show 0 + 1 ≤ _; omega, by show 8 + (2 + 11) + 0 ≤ _; omega⟩) (k_preV (KK_st g) hKK (va_recv hK (k_one o0) (ci := 7) (q0 := 0) rfl rfl)) rfl rfl hls rfl (lv_room hrest) hdg ⟨by omega, by omega⟩)) kk
set_option maxHeartbeats 4000000 in
set_option maxRecDepth 100000 in
theorem v_leadersDrawn {p : Program} {l : Launch} {e : Env} {R : Room} {s : State} {m : MethodId} {args : Array Value} {below : List Frame} {meth : Method} {c : Code} {H : Heap} {locs : List Loc} {cells slots : Nat} {Q : State → Prop} {cc : ByteArray} {nL pc : Nat} {ls : Array Slot} {rest : List Value} {g : KGt} {I : Nat → Prop} {it : Nat → Int32} {a : Nat} {p0 : Int32} {p1 : Int32} {own : String} {idx : Nat} (hx : p.tables.exec = Jvm.exec) (hb : c.code = cc) (hml : c.maxLocals = nL) (hown : s.vm.findClass own = some m.cls) (hts : ∀ w ∈ kG, w.before args s = true) (hKK : KK g s) (hlink : Cond.methodLink own idx y_Item_leadersDrawn ∈ kG) (hit : kItem g I a it H) (hls : ls.size = nL) (hrest : (rest.map fun v => v.category).sum ≤ 8) (hF : 4 ≤ R.frames) (hLo : 87 ≤ R.locals) (hc : cells ≤ R.cells) (hs : slots ≤ R.slots) (hdg : decode cc pc = .ok (.invokevirtual idx, 3))
    (kk : W p l e R s m args below meth c H locs cells slots Q (F0 m (pc + 3) ls (.int (i_drawn it p0 p1) :: rest))) : W p l e R s m args below meth c H locs cells slots Q (F0 m pc ls (.int p1 :: .int p0 :: .ref a :: rest)) := by
  have hK := hKK.1
  obtain ⟨-, ⟨hs0, o0⟩ | ⟨hs0, r, -, o0, o1⟩ | ⟨hs0, o0⟩ | ⟨hs0, o0⟩⟩ := hit
  · have ev : i_drawn it p0 p1 = 0 := by
      unfold i_drawn; rw [hs0]; rfl
    rw [ev] at kk
    exact k_pure (r := .int 0) (va_Run.run (va_runU (As := [.int p0, .int p1]) (rest := rest) ⟨hx, hb, hml, hown, hts⟩ (c_Item_leadersDrawn l g H a p0 p1) (va_cwU (C := "BoxGlue$Put") (owner := "BoxGlue$Item") 2 hts (kU_good kw_514 hlink kw_496 kw_512 kw_495 kw_12) rfl rfl rfl rfl (by decide +kernel) ⟨by show 0 + 1 ≤ _; omega, by show 8 + (3 + 11) + 0 ≤ _; omega⟩) (k_preV (KK_st g) hKK (va_recv hK (k_one o0) (ci := 4) (q0 := 0) rfl rfl)) rfl rfl hls rfl (lv_room hrest) hdg ⟨by omega, by omega⟩)) kk
  · have ev : i_drawn it p0 p1 = (f_Glue_leadersDrawn (it 0) (it 1) (it 4) (it 5) (it 6) (it 7) (it 8) (it 9) p0 p1) := by
      unfold i_drawn; rw [hs0]; rfl
    rw [ev] at kk
    exact k_pure (r := .int (f_Glue_leadersDrawn (it 0) (it 1) (it 4) (it 5) (it 6) (it 7) (it 8) (it 9) p0 p1)) (va_Run.run (va_runU (As := [.int p0, .int p1]) (rest := rest) ⟨hx, hb, hml, hown, hts⟩ (c_Glue_leadersDrawn l g H a r (it 0) (it 1) (it 4) (it 5) (it 6) (it 7) (it 8) (it 9) p0 p1 o0 o1) (va_cwO (C := "BoxGlue$Glue") (owner := "BoxGlue$Item") 2 hts (kO_good kw_499 hlink kw_496 kw_495 kw_497 kw_498 kw_16) rfl rfl rfl kw_514 (by decide +kernel) ⟨by show 3 + 1 ≤ _; omega, by show 8 + (3 + 11) + 65 ≤ _; omega⟩) (k_preV (KK_st g) hKK (va_recv hK (k_one o0) (ci := 5) (q0 := 0) rfl rfl)) rfl rfl hls rfl (lv_room hrest) hdg ⟨by omega, by omega⟩)) kk
  · have ev : i_drawn it p0 p1 = 0 := by
      unfold i_drawn; rw [hs0]; rfl
    rw [ev] at kk
    exact k_pure (r := .int 0) (va_Run.run (va_runU (As := [.int p0, .int p1]) (rest := rest) ⟨hx, hb, hml, hown, hts⟩ (c_Item_leadersDrawn l g H a p0 p1) (va_cwU (C := "BoxGlue$Kern") (owner := "BoxGlue$Item") 2 hts (kU_good kw_514 hlink kw_496 kw_511 kw_495 kw_12) rfl rfl rfl rfl (by decide +kernel) ⟨by show 0 + 1 ≤ _; omega, by show 8 + (3 + 11) + 0 ≤ _; omega⟩) (k_preV (KK_st g) hKK (va_recv hK (k_one o0) (ci := 6) (q0 := 0) rfl rfl)) rfl rfl hls rfl (lv_room hrest) hdg ⟨by omega, by omega⟩)) kk
  · have ev : i_drawn it p0 p1 = 0 := by
      unfold i_drawn; rw [hs0]; rfl
    rw [ev] at kk
    exact k_pure (r := .int 0) (va_Run.run (va_runU (As := [.int p0, .int p1]) (rest := rest) ⟨hx, hb, hml, hown, hts⟩ (c_Item_leadersDrawn l g H a p0 p1) (va_cwU (C := "BoxGlue$Rule") (owner := "BoxGlue$Item") 2 hts (kU_good kw_514 hlink kw_496 kw_513 kw_495 kw_12) rfl rfl rfl rfl (by decide +kernel) ⟨by show 0 + 1 ≤ _; omega, by show 8 + (3 + 11) + 0 ≤ _; omega⟩) (k_preV (KK_st g) hKK (va_recv hK (k_one o0) (ci := 7) (q0 := 0) rfl rfl)) rfl rfl hls rfl (lv_room hrest) hdg ⟨by omega, by omega⟩)) kk
set_option maxHeartbeats 4000000 in
set_option maxRecDepth 100000 in
theorem v_firstLeader {p : Program} {l : Launch} {e : Env} {R : Room} {s : State} {m : MethodId} {args : Array Value} {below : List Frame} {meth : Method} {c : Code} {H : Heap} {locs : List Loc} {cells slots : Nat} {Q : State → Prop} {cc : ByteArray} {nL pc : Nat} {ls : Array Slot} {rest : List Value} {g : KGt} {I : Nat → Prop} {it : Nat → Int32} {a : Nat} {p0 : Int32} {p1 : Int32} {own : String} {idx : Nat} (hx : p.tables.exec = Jvm.exec) (hb : c.code = cc) (hml : c.maxLocals = nL) (hown : s.vm.findClass own = some m.cls) (hts : ∀ w ∈ kG, w.before args s = true) (hKK : KK g s) (hlink : Cond.methodLink own idx y_Item_firstLeader ∈ kG) (hit : kItem g I a it H) (hls : ls.size = nL) (hrest : (rest.map fun v => v.category).sum ≤ 8) (hF : 5 ≤ R.frames) (hLo : 109 ≤ R.locals) (hc : cells ≤ R.cells) (hs : slots ≤ R.slots) (hdg : decode cc pc = .ok (.invokevirtual idx, 3))
    (kk : W p l e R s m args below meth c H locs cells slots Q (F0 m (pc + 3) ls (.int (i_first it p0 p1) :: rest))) : W p l e R s m args below meth c H locs cells slots Q (F0 m pc ls (.int p1 :: .int p0 :: .ref a :: rest)) := by
  have hK := hKK.1
  obtain ⟨-, ⟨hs0, o0⟩ | ⟨hs0, r, -, o0, o1⟩ | ⟨hs0, o0⟩ | ⟨hs0, o0⟩⟩ := hit
  · have ev : i_first it p0 p1 = 0 := by
      unfold i_first; rw [hs0]; rfl
    rw [ev] at kk
    exact k_pure (r := .int 0) (va_Run.run (va_runU (As := [.int p0, .int p1]) (rest := rest) ⟨hx, hb, hml, hown, hts⟩ (c_Item_firstLeader l g H a p0 p1) (va_cwU (C := "BoxGlue$Put") (owner := "BoxGlue$Item") 2 hts (kU_good kw_533 hlink kw_517 kw_531 kw_516 kw_12) rfl rfl rfl rfl (by decide +kernel) ⟨by show 0 + 1 ≤ _; omega, by show 8 + (3 + 11) + 0 ≤ _; omega⟩) (k_preV (KK_st g) hKK (va_recv hK (k_one o0) (ci := 4) (q0 := 0) rfl rfl)) rfl rfl hls rfl (lv_room hrest) hdg ⟨by omega, by omega⟩)) kk
  · have ev : i_first it p0 p1 = (f_Glue_firstLeader (it 0) (it 1) (it 4) (it 5) (it 6) (it 7) (it 8) (it 9) p0 p1) := by
      unfold i_first; rw [hs0]; rfl
    rw [ev] at kk
    exact k_pure (r := .int (f_Glue_firstLeader (it 0) (it 1) (it 4) (it 5) (it 6) (it 7) (it 8) (it 9) p0 p1)) (va_Run.run (va_runU (As := [.int p0, .int p1]) (rest := rest) ⟨hx, hb, hml, hown, hts⟩ (c_Glue_firstLeader l g H a r (it 0) (it 1) (it 4) (it 5) (it 6) (it 7) (it 8) (it 9) p0 p1 o0 o1) (va_cwO (C := "BoxGlue$Glue") (owner := "BoxGlue$Item") 2 hts (kO_good kw_520 hlink kw_517 kw_516 kw_518 kw_519 kw_16) rfl rfl rfl kw_533 (by decide +kernel) ⟨by show 4 + 1 ≤ _; omega, by show 8 + (3 + 11) + 87 ≤ _; omega⟩) (k_preV (KK_st g) hKK (va_recv hK (k_one o0) (ci := 5) (q0 := 0) rfl rfl)) rfl rfl hls rfl (lv_room hrest) hdg ⟨by omega, by omega⟩)) kk
  · have ev : i_first it p0 p1 = 0 := by
      unfold i_first; rw [hs0]; rfl
    rw [ev] at kk
    exact k_pure (r := .int 0) (va_Run.run (va_runU (As := [.int p0, .int p1]) (rest := rest) ⟨hx, hb, hml, hown, hts⟩ (c_Item_firstLeader l g H a p0 p1) (va_cwU (C := "BoxGlue$Kern") (owner := "BoxGlue$Item") 2 hts (kU_good kw_533 hlink kw_517 kw_530 kw_516 kw_12) rfl rfl rfl rfl (by decide +kernel) ⟨by show 0 + 1 ≤ _; omega, by show 8 + (3 + 11) + 0 ≤ _; omega⟩) (k_preV (KK_st g) hKK (va_recv hK (k_one o0) (ci := 6) (q0 := 0) rfl rfl)) rfl rfl hls rfl (lv_room hrest) hdg ⟨by omega, by omega⟩)) kk
  · have ev : i_first it p0 p1 = 0 := by
      unfold i_first; rw [hs0]; rfl
    rw [ev] at kk
    exact k_pure (r := .int 0) (va_Run.run (va_runU (As := [.int p0, .int p1]) (rest := rest) ⟨hx, hb, hml, hown, hts⟩ (c_Item_firstLeader l g H a p0 p1) (va_cwU (C := "BoxGlue$Rule") (owner := "BoxGlue$Item") 2 hts (kU_good kw_533 hlink kw_517 kw_532 kw_516 kw_12) rfl rfl rfl rfl (by decide +kernel) ⟨by show 0 + 1 ≤ _; omega, by show 8 + (3 + 11) + 0 ≤ _; omega⟩) (k_preV (KK_st g) hKK (va_recv hK (k_one o0) (ci := 7) (q0 := 0) rfl rfl)) rfl rfl hls rfl (lv_room hrest) hdg ⟨by omega, by omega⟩)) kk
set_option maxHeartbeats 4000000 in
set_option maxRecDepth 100000 in
theorem v_leaderStep {p : Program} {l : Launch} {e : Env} {R : Room} {s : State} {m : MethodId} {args : Array Value} {below : List Frame} {meth : Method} {c : Code} {H : Heap} {locs : List Loc} {cells slots : Nat} {Q : State → Prop} {cc : ByteArray} {nL pc : Nat} {ls : Array Slot} {rest : List Value} {g : KGt} {I : Nat → Prop} {it : Nat → Int32} {a : Nat} {p0 : Int32} {p1 : Int32} {own : String} {idx : Nat} (hx : p.tables.exec = Jvm.exec) (hb : c.code = cc) (hml : c.maxLocals = nL) (hown : s.vm.findClass own = some m.cls) (hts : ∀ w ∈ kG, w.before args s = true) (hKK : KK g s) (hlink : Cond.methodLink own idx y_Item_leaderStep ∈ kG) (hit : kItem g I a it H) (hls : ls.size = nL) (hrest : (rest.map fun v => v.category).sum ≤ 8) (hF : 5 ≤ R.frames) (hLo : 109 ≤ R.locals) (hc : cells ≤ R.cells) (hs : slots ≤ R.slots) (hdg : decode cc pc = .ok (.invokevirtual idx, 3))
    (kk : W p l e R s m args below meth c H locs cells slots Q (F0 m (pc + 3) ls (.int (i_step it p0 p1) :: rest))) : W p l e R s m args below meth c H locs cells slots Q (F0 m pc ls (.int p1 :: .int p0 :: .ref a :: rest)) := by
  have hK := hKK.1
  obtain ⟨-, ⟨hs0, o0⟩ | ⟨hs0, r, -, o0, o1⟩ | ⟨hs0, o0⟩ | ⟨hs0, o0⟩⟩ := hit
  · have ev : i_step it p0 p1 = 0 := by
      unfold i_step; rw [hs0]; rfl
    rw [ev] at kk
    exact k_pure (r := .int 0) (va_Run.run (va_runU (As := [.int p0, .int p1]) (rest := rest) ⟨hx, hb, hml, hown, hts⟩ (c_Item_leaderStep l g H a p0 p1) (va_cwU (C := "BoxGlue$Put") (owner := "BoxGlue$Item") 2 hts (kU_good kw_547 hlink kw_536 kw_545 kw_535 kw_12) rfl rfl rfl rfl (by decide +kernel) ⟨by show 0 + 1 ≤ _; omega, by show 8 + (3 + 11) + 0 ≤ _; omega⟩) (k_preV (KK_st g) hKK (va_recv hK (k_one o0) (ci := 4) (q0 := 0) rfl rfl)) rfl rfl hls rfl (lv_room hrest) hdg ⟨by omega, by omega⟩)) kk
  · have ev : i_step it p0 p1 = (f_Glue_leaderStep (it 0) (it 1) (it 4) (it 5) (it 6) (it 7) (it 8) (it 9) p0 p1) := by
      unfold i_step; rw [hs0]; rfl
    rw [ev] at kk
    exact k_pure (r := .int (f_Glue_leaderStep (it 0) (it 1) (it 4) (it 5) (it 6) (it 7) (it 8) (it 9) p0 p1)) (va_Run.run (va_runU (As := [.int p0, .int p1]) (rest := rest) ⟨hx, hb, hml, hown, hts⟩ (c_Glue_leaderStep l g H a r (it 0) (it 1) (it 4) (it 5) (it 6) (it 7) (it 8) (it 9) p0 p1 o0 o1) (va_cwO (C := "BoxGlue$Glue") (owner := "BoxGlue$Item") 2 hts (kO_good kw_539 hlink kw_536 kw_535 kw_537 kw_538 kw_16) rfl rfl rfl kw_547 (by decide +kernel) ⟨by show 4 + 1 ≤ _; omega, by show 8 + (3 + 11) + 87 ≤ _; omega⟩) (k_preV (KK_st g) hKK (va_recv hK (k_one o0) (ci := 5) (q0 := 0) rfl rfl)) rfl rfl hls rfl (lv_room hrest) hdg ⟨by omega, by omega⟩)) kk
  · have ev : i_step it p0 p1 = 0 := by
      unfold i_step; rw [hs0]; rfl
    rw [ev] at kk
    exact k_pure (r := .int 0) (va_Run.run (va_runU (As := [.int p0, .int p1]) (rest := rest) ⟨hx, hb, hml, hown, hts⟩ (c_Item_leaderStep l g H a p0 p1) (va_cwU (C := "BoxGlue$Kern") (owner := "BoxGlue$Item") 2 hts (kU_good kw_547 hlink kw_536 kw_544 kw_535 kw_12) rfl rfl rfl rfl (by decide +kernel) ⟨by show 0 + 1 ≤ _; omega, by show 8 + (3 + 11) + 0 ≤ _; omega⟩) (k_preV (KK_st g) hKK (va_recv hK (k_one o0) (ci := 6) (q0 := 0) rfl rfl)) rfl rfl hls rfl (lv_room hrest) hdg ⟨by omega, by omega⟩)) kk
  · have ev : i_step it p0 p1 = 0 := by
      unfold i_step; rw [hs0]; rfl
    rw [ev] at kk
    exact k_pure (r := .int 0) (va_Run.run (va_runU (As := [.int p0, .int p1]) (rest := rest) ⟨hx, hb, hml, hown, hts⟩ (c_Item_leaderStep l g H a p0 p1) (va_cwU (C := "BoxGlue$Rule") (owner := "BoxGlue$Item") 2 hts (kU_good kw_547 hlink kw_536 kw_546 kw_535 kw_12) rfl rfl rfl rfl (by decide +kernel) ⟨by show 0 + 1 ≤ _; omega, by show 8 + (3 + 11) + 0 ≤ _; omega⟩) (k_preV (KK_st g) hKK (va_recv hK (k_one o0) (ci := 7) (q0 := 0) rfl rfl)) rfl rfl hls rfl (lv_room hrest) hdg ⟨by omega, by omega⟩)) kk

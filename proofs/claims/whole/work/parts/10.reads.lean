/-- a quotient of one that isn't smaller, and 1: not 0 -/
theorem k_divne {a b : Int32} (h1 : ¬ b ≤ 0) (h2 : b ≤ a) : ¬ (a / b + 1) = 0 := by
  obtain ⟨n, hn, rfl⟩ := nI_of (x := b) (fun h => h1 (Int32.le_of_lt h))
  have h0 : 0 < n := by
    rcases Nat.eq_zero_or_pos n with rfl | h
    · exact absurd (by rw [nI_0]; exact Int32.le_refl _) h1
    · exact h
  obtain ⟨m, hm, rfl⟩ := nI_of (x := a) (fun h => h1 (Int32.le_trans h2 (Int32.le_of_lt h)))
  rw [pk_div hm h0 hn, nI_1]
  intro h
  have k := pk_tn (n := m / n + 1) (by have := Nat.div_le_self m n; omega)
  rw [h] at k
  exact absurd (k.symm.trans (rfl : (0 : Int32).toBitVec.toNat = 0)) (Nat.succ_ne_zero _)
/-- widening keeps what isn't 0 -/
theorem k_l0 {x : Int32} (h : ¬ x = 0) : ¬ x.toInt64 = 0 := by
  intro e
  apply h
  apply Int32.toInt_inj.mp
  have k : x.toInt64.toInt = x.toInt := Int32.toInt_toInt64 x
  rw [e] at k
  exact k.symm
/-! methods that only read: the functions that they answer, and their contracts (laid by wip/whole/mk10.py) -/
def f_Math_floorDiv (p0 : Int32) (p1 : Int32) : Int32 :=
  if 0 ≤ (p0 ^^^ p1) then
    (p0 / p1)
  else
    if ((p0 / p1) * p1) = p0 then
      (p0 / p1)
    else
      ((p0 / p1) - 1)
set_option maxHeartbeats 4000000 in
set_option maxRecDepth 100000 in
theorem c_Math_floorDiv (l : Launch) (g : KGt) (H0 : Heap) (p0 : Int32) (p1 : Int32) (hz : ¬ p1 = 0) : Met l y_Math_floorDiv (kW y_Math_floorDiv b_Math_floorDiv 3 (.some .int)) ({ frames := 0, cells := 0, slots := 0, locals := 0 }) (kPc [.int p0, .int p1] (KK g) H0) (kQc (kPure (.int (f_Math_floorDiv p0 p1)) H0)) 0 0 (fun _ => False) := by
  refine va_MetF (cc := b_Math_floorDiv) (maxL := 3) (ret := (.some .int)) (by decide +kernel) rfl ?_
  intro p e s m args below meth c s₁ B hml hv
  obtain ⟨rfl, hH, hKK⟩ := hv
  have hx := B.exec
  have hb := B.bytes
  have hr := B.returns
  have hts := kW_ts (atoms_spec (ws := kW y_Math_floorDiv b_Math_floorDiv 3 (.some .int)) B.pre)
  have hown : s.vm.findClass "java/lang/Math" = some m.cls := findClass_of_methodNamed B.named
  have hlocks := B.notSynchronized
  have hK := hKK.1
  subst hH
  have hl := lv_entry ([.int p0, .int p1]) (n := 3) (Nat.le_of_ble_eq_true rfl)
  rw [lg_entry_eq]
  generalize (lg_sl ([.int p0, .int p1]) ++ List.replicate (3 - (lg_sl ([.int p0, .int p1])).length) Slot.unset).toArray = ls at hl ⊢
  have hl : lv_has ls 3 [(0, .int p0), (1, .int p1)] := hl
  refine lv_iload_n hx hb d_Math_floorDiv_0 rfl (lv_at hl 0 rfl) ?_
  refine lv_iload_n hx hb d_Math_floorDiv_1 rfl (lv_at hl 1 rfl) ?_
  refine lv_idiv hx hb d_Math_floorDiv_2 hz ?_
  refine lv_istore_n (lv' := [(2, .int (p0 / p1)), (0, .int p0), (1, .int p1)]) hx hb d_Math_floorDiv_3 rfl hl (by decide) rfl (fun ls hl => ?_)
  refine lv_iload_n hx hb d_Math_floorDiv_4 rfl (lv_at hl 1 rfl) ?_
  refine lv_iload_n hx hb d_Math_floorDiv_5 rfl (lv_at hl 2 rfl) ?_
  refine lv_ixor hx hb d_Math_floorDiv_6 ?_
  refine lv_if_ge (tgt := 21) hx hb d_Math_floorDiv_7 (by decide) (fun c_1 => ?_) (fun c_1 => ?_)
  · skip
    refine lv_iload_n hx hb d_Math_floorDiv_21 rfl (lv_at hl 0 rfl) ?_
    exact W.iret (v := (p0 / p1)) hx hb hr (fun t ht hW => ⟨_, rfl, (by unfold f_Math_floorDiv; rw [if_pos c_1]), ht⟩) (fun _ h => by cases h) d_Math_floorDiv_22
  · skip
    refine lv_iload_n hx hb d_Math_floorDiv_10 rfl (lv_at hl 0 rfl) ?_
    refine lv_iload_n hx hb d_Math_floorDiv_11 rfl (lv_at hl 2 rfl) ?_
    refine lv_imul hx hb d_Math_floorDiv_12 ?_
    refine lv_iload_n hx hb d_Math_floorDiv_13 rfl (lv_at hl 1 rfl) ?_
    refine lv_icmp_eq (tgt := 21) hx hb d_Math_floorDiv_14 (by decide) (fun c_2 => ?_) (fun c_2 => ?_)
    · skip
      refine lv_iload_n hx hb d_Math_floorDiv_21 rfl (lv_at hl 0 rfl) ?_
      exact W.iret (v := (p0 / p1)) hx hb hr (fun t ht hW => ⟨_, rfl, (by unfold f_Math_floorDiv; rw [if_neg c_1, if_pos c_2]), ht⟩) (fun _ h => by cases h) d_Math_floorDiv_22
    · skip
      refine lv_iload_n hx hb d_Math_floorDiv_17 rfl (lv_at hl 0 rfl) ?_
      refine lv_iconst (v := 1) hx hb d_Math_floorDiv_18 (by decide) ?_
      refine lv_isub hx hb d_Math_floorDiv_19 ?_
      exact W.iret (v := ((p0 / p1) - 1)) hx hb hr (fun t ht hW => ⟨_, rfl, (by unfold f_Math_floorDiv; rw [if_neg c_1, if_neg c_2]), ht⟩) (fun _ h => by cases h) d_Math_floorDiv_20
def f_BG_isLength (p0 : Int32) : Int32 :=
  if p0 < (-100000) then
    0
  else
    if 100000 < p0 then
      0
    else
      1
set_option maxHeartbeats 4000000 in
set_option maxRecDepth 100000 in
theorem c_BG_isLength (l : Launch) (g : KGt) (H0 : Heap) (p0 : Int32) : Met l y_BG_isLength (kW y_BG_isLength b_BG_isLength 1 (.some .boolean)) ({ frames := 0, cells := 0, slots := 0, locals := 0 }) (kPc [.int p0] (KK g) H0) (kQc (kPure (.int (f_BG_isLength p0)) H0)) 0 0 (fun _ => False) := by
  refine Met.ofW (cc := b_BG_isLength) (maxL := 1) (ret := (.some .boolean)) (by decide) rfl ?_
  intro p e s m args below meth c s₁ B hml hv
  obtain ⟨rfl, hH, hKK⟩ := hv
  have hx := B.exec
  have hb := B.bytes
  have hr := B.returns
  have hts := kW_ts (atoms_spec (ws := kW y_BG_isLength b_BG_isLength 1 (.some .boolean)) B.pre)
  have hown : s.vm.findClass "BoxGlue" = some m.cls := findClass_of_methodNamed B.named
  have hlocks := B.notSynchronized
  have hK := hKK.1
  subst hH
  have hl := lv_entry ([.int p0]) (n := 1) (Nat.le_of_ble_eq_true rfl)
  rw [lg_entry_eq]
  generalize (lg_sl ([.int p0]) ++ List.replicate (1 - (lg_sl ([.int p0])).length) Slot.unset).toArray = ls at hl ⊢
  have hl : lv_has ls 1 [(0, .int p0)] := hl
  refine lv_iload_n hx hb d_BG_isLength_0 rfl (lv_at hl 0 rfl) ?_
  refine lv_ldc (own := "BoxGlue") (index := 141) (v := (-100000)) hx hb hown (hts _ kw_201) d_BG_isLength_1 ?_
  refine lv_icmp_lt (tgt := 16) hx hb d_BG_isLength_3 (by decide) (fun c_1 => ?_) (fun c_1 => ?_)
  · skip
    refine lv_iconst (v := 0) hx hb d_BG_isLength_16 (by decide) ?_
    exact W.zret (v := 0) (ty := .boolean) hx hb hr rfl (fun t ht hW => ⟨_, rfl, (by unfold f_BG_isLength; rw [if_pos c_1]), ht⟩) (fun _ h => by cases h) d_BG_isLength_17
  · skip
    refine lv_iload_n hx hb d_BG_isLength_6 rfl (lv_at hl 0 rfl) ?_
    refine lv_ldc (own := "BoxGlue") (index := 142) (v := 100000) hx hb hown (hts _ kw_72) d_BG_isLength_7 ?_
    refine lv_icmp_gt (tgt := 16) hx hb d_BG_isLength_9 (by decide) (fun c_2 => ?_) (fun c_2 => ?_)
    · skip
      refine lv_iconst (v := 0) hx hb d_BG_isLength_16 (by decide) ?_
      exact W.zret (v := 0) (ty := .boolean) hx hb hr rfl (fun t ht hW => ⟨_, rfl, (by unfold f_BG_isLength; rw [if_neg c_1, if_pos c_2]), ht⟩) (fun _ h => by cases h) d_BG_isLength_17
    · skip
      refine lv_iconst (v := 1) hx hb d_BG_isLength_12 (by decide) ?_
      refine lv_goto (tgt := 17) hx hb d_BG_isLength_13 (by decide) ?_
      exact W.zret (v := 1) (ty := .boolean) hx hb hr rfl (fun t ht hW => ⟨_, rfl, (by unfold f_BG_isLength; rw [if_neg c_1, if_neg c_2]), ht⟩) (fun _ h => by cases h) d_BG_isLength_17
def f_BG_isExtent (p0 : Int32) : Int32 :=
  if p0 < 0 then
    0
  else
    if 100000 < p0 then
      0
    else
      1
set_option maxHeartbeats 4000000 in
set_option maxRecDepth 100000 in
theorem c_BG_isExtent (l : Launch) (g : KGt) (H0 : Heap) (p0 : Int32) : Met l y_BG_isExtent (kW y_BG_isExtent b_BG_isExtent 1 (.some .boolean)) ({ frames := 0, cells := 0, slots := 0, locals := 0 }) (kPc [.int p0] (KK g) H0) (kQc (kPure (.int (f_BG_isExtent p0)) H0)) 0 0 (fun _ => False) := by
  refine Met.ofW (cc := b_BG_isExtent) (maxL := 1) (ret := (.some .boolean)) (by decide) rfl ?_
  intro p e s m args below meth c s₁ B hml hv
  obtain ⟨rfl, hH, hKK⟩ := hv
  have hx := B.exec
  have hb := B.bytes
  have hr := B.returns
  have hts := kW_ts (atoms_spec (ws := kW y_BG_isExtent b_BG_isExtent 1 (.some .boolean)) B.pre)
  have hown : s.vm.findClass "BoxGlue" = some m.cls := findClass_of_methodNamed B.named
  have hlocks := B.notSynchronized
  have hK := hKK.1
  subst hH
  have hl := lv_entry ([.int p0]) (n := 1) (Nat.le_of_ble_eq_true rfl)
  rw [lg_entry_eq]
  generalize (lg_sl ([.int p0]) ++ List.replicate (1 - (lg_sl ([.int p0])).length) Slot.unset).toArray = ls at hl ⊢
  have hl : lv_has ls 1 [(0, .int p0)] := hl
  refine lv_iload_n hx hb d_BG_isExtent_0 rfl (lv_at hl 0 rfl) ?_
  refine lv_if_lt (tgt := 14) hx hb d_BG_isExtent_1 (by decide) (fun c_1 => ?_) (fun c_1 => ?_)
  · skip
    refine lv_iconst (v := 0) hx hb d_BG_isExtent_14 (by decide) ?_
    exact W.zret (v := 0) (ty := .boolean) hx hb hr rfl (fun t ht hW => ⟨_, rfl, (by unfold f_BG_isExtent; rw [if_pos c_1]), ht⟩) (fun _ h => by cases h) d_BG_isExtent_15
  · skip
    refine lv_iload_n hx hb d_BG_isExtent_4 rfl (lv_at hl 0 rfl) ?_
    refine lv_ldc (own := "BoxGlue") (index := 142) (v := 100000) hx hb hown (hts _ kw_72) d_BG_isExtent_5 ?_
    refine lv_icmp_gt (tgt := 14) hx hb d_BG_isExtent_7 (by decide) (fun c_2 => ?_) (fun c_2 => ?_)
    · skip
      refine lv_iconst (v := 0) hx hb d_BG_isExtent_14 (by decide) ?_
      exact W.zret (v := 0) (ty := .boolean) hx hb hr rfl (fun t ht hW => ⟨_, rfl, (by unfold f_BG_isExtent; rw [if_neg c_1, if_pos c_2]), ht⟩) (fun _ h => by cases h) d_BG_isExtent_15
    · skip
      refine lv_iconst (v := 1) hx hb d_BG_isExtent_10 (by decide) ?_
      refine lv_goto (tgt := 15) hx hb d_BG_isExtent_11 (by decide) ?_
      exact W.zret (v := 1) (ty := .boolean) hx hb hr rfl (fun t ht hW => ⟨_, rfl, (by unfold f_BG_isExtent; rw [if_neg c_1, if_neg c_2]), ht⟩) (fun _ h => by cases h) d_BG_isExtent_15
def f_BG_isExtentOrRunning (p0 : Int32) : Int32 :=
  if p0 = (-1000000) then
    1
  else
    if (f_BG_isExtent p0) = 0 then
      0
    else
      1
set_option maxHeartbeats 4000000 in
set_option maxRecDepth 100000 in
theorem c_BG_isExtentOrRunning (l : Launch) (g : KGt) (H0 : Heap) (p0 : Int32) : Met l y_BG_isExtentOrRunning (kW y_BG_isExtentOrRunning b_BG_isExtentOrRunning 1 (.some .boolean)) ({ frames := 1, cells := 0, slots := 0, locals := 20 }) (kPc [.int p0] (KK g) H0) (kQc (kPure (.int (f_BG_isExtentOrRunning p0)) H0)) 0 0 (fun _ => False) := by
  refine Met.ofW (cc := b_BG_isExtentOrRunning) (maxL := 1) (ret := (.some .boolean)) (by decide) rfl ?_
  intro p e s m args below meth c s₁ B hml hv
  obtain ⟨rfl, hH, hKK⟩ := hv
  have hx := B.exec
  have hb := B.bytes
  have hr := B.returns
  have hts := kW_ts (atoms_spec (ws := kW y_BG_isExtentOrRunning b_BG_isExtentOrRunning 1 (.some .boolean)) B.pre)
  have hown : s.vm.findClass "BoxGlue" = some m.cls := findClass_of_methodNamed B.named
  have hlocks := B.notSynchronized
  have hK := hKK.1
  subst hH
  have hl := lv_entry ([.int p0]) (n := 1) (Nat.le_of_ble_eq_true rfl)
  rw [lg_entry_eq]
  generalize (lg_sl ([.int p0]) ++ List.replicate (1 - (lg_sl ([.int p0])).length) Slot.unset).toArray = ls at hl ⊢
  have hl : lv_has ls 1 [(0, .int p0)] := hl
  refine lv_iload_n hx hb d_BG_isExtentOrRunning_0 rfl (lv_at hl 0 rfl) ?_
  refine lv_ldc (own := "BoxGlue") (index := 143) (v := (-1000000)) hx hb hown (hts _ kw_312) d_BG_isExtentOrRunning_1 ?_
  refine lv_icmp_eq (tgt := 13) hx hb d_BG_isExtentOrRunning_3 (by decide) (fun c_1 => ?_) (fun c_1 => ?_)
  · skip
    refine lv_iconst (v := 1) hx hb d_BG_isExtentOrRunning_13 (by decide) ?_
    refine lv_goto (tgt := 18) hx hb d_BG_isExtentOrRunning_14 (by decide) ?_
    exact W.zret (v := 1) (ty := .boolean) hx hb hr rfl (fun t ht hW => ⟨_, rfl, (by unfold f_BG_isExtentOrRunning; rw [if_pos c_1]), ht⟩) (fun _ h => by cases h) d_BG_isExtentOrRunning_18
  · skip
    refine lv_iload_n hx hb d_BG_isExtentOrRunning_6 rfl (lv_at hl 0 rfl) ?_
    refine k_pure (r := .int (f_BG_isExtent p0)) (W.runS (As := [.int p0]) (rest := []) ⟨hx, hb, hml, hown, hts⟩ (c_BG_isExtent l g s.heap p0) (va_cwS 1 hts (kS_good kw_71 kw_69 kw_70 kw_1) rfl rfl rfl (by decide +kernel) ⟨Nat.le_of_ble_eq_true rfl, Nat.le_of_ble_eq_true rfl⟩) (k_pre (KK_st g) hKK) rfl rfl hl.1 rfl (lv_room (Nat.le_of_ble_eq_true rfl)) d_BG_isExtentOrRunning_7 ⟨Nat.zero_le _, Nat.zero_le _⟩) ?_
    refine lv_if_eq (tgt := 17) hx hb d_BG_isExtentOrRunning_10 (by decide) (fun c_2 => ?_) (fun c_2 => ?_)
    · skip
      refine lv_iconst (v := 0) hx hb d_BG_isExtentOrRunning_17 (by decide) ?_
      exact W.zret (v := 0) (ty := .boolean) hx hb hr rfl (fun t ht hW => ⟨_, rfl, (by unfold f_BG_isExtentOrRunning; rw [if_neg c_1, if_pos c_2]), ht⟩) (fun _ h => by cases h) d_BG_isExtentOrRunning_18
    · skip
      refine lv_iconst (v := 1) hx hb d_BG_isExtentOrRunning_13 (by decide) ?_
      refine lv_goto (tgt := 18) hx hb d_BG_isExtentOrRunning_14 (by decide) ?_
      exact W.zret (v := 1) (ty := .boolean) hx hb hr rfl (fun t ht hW => ⟨_, rfl, (by unfold f_BG_isExtentOrRunning; rw [if_neg c_1, if_neg c_2]), ht⟩) (fun _ h => by cases h) d_BG_isExtentOrRunning_18
def f_BG_isGiving (p0 : Int32) (p1 : Int32) : Int32 :=
  if p0 < 0 then
    0
  else
    if 1000 < p0 then
      0
    else
      if p1 < 0 then
        0
      else
        if 3 < p1 then
          0
        else
          1
set_option maxHeartbeats 4000000 in
set_option maxRecDepth 100000 in
theorem c_BG_isGiving (l : Launch) (g : KGt) (H0 : Heap) (p0 : Int32) (p1 : Int32) : Met l y_BG_isGiving (kW y_BG_isGiving b_BG_isGiving 2 (.some .boolean)) ({ frames := 0, cells := 0, slots := 0, locals := 0 }) (kPc [.int p0, .int p1] (KK g) H0) (kQc (kPure (.int (f_BG_isGiving p0 p1)) H0)) 0 0 (fun _ => False) := by
  refine Met.ofW (cc := b_BG_isGiving) (maxL := 2) (ret := (.some .boolean)) (by decide) rfl ?_
  intro p e s m args below meth c s₁ B hml hv
  obtain ⟨rfl, hH, hKK⟩ := hv
  have hx := B.exec
  have hb := B.bytes
  have hr := B.returns
  have hts := kW_ts (atoms_spec (ws := kW y_BG_isGiving b_BG_isGiving 2 (.some .boolean)) B.pre)
  have hown : s.vm.findClass "BoxGlue" = some m.cls := findClass_of_methodNamed B.named
  have hlocks := B.notSynchronized
  have hK := hKK.1
  subst hH
  have hl := lv_entry ([.int p0, .int p1]) (n := 2) (Nat.le_of_ble_eq_true rfl)
  rw [lg_entry_eq]
  generalize (lg_sl ([.int p0, .int p1]) ++ List.replicate (2 - (lg_sl ([.int p0, .int p1])).length) Slot.unset).toArray = ls at hl ⊢
  have hl : lv_has ls 2 [(0, .int p0), (1, .int p1)] := hl
  refine lv_iload_n hx hb d_BG_isGiving_0 rfl (lv_at hl 0 rfl) ?_
  refine lv_if_lt (tgt := 24) hx hb d_BG_isGiving_1 (by decide) (fun c_1 => ?_) (fun c_1 => ?_)
  · skip
    refine lv_iconst (v := 0) hx hb d_BG_isGiving_24 (by decide) ?_
    exact W.zret (v := 0) (ty := .boolean) hx hb hr rfl (fun t ht hW => ⟨_, rfl, (by unfold f_BG_isGiving; rw [if_pos c_1]), ht⟩) (fun _ h => by cases h) d_BG_isGiving_25
  · skip
    refine lv_iload_n hx hb d_BG_isGiving_4 rfl (lv_at hl 0 rfl) ?_
    refine lv_sipush (v := 1000) hx hb d_BG_isGiving_5 (by decide) ?_
    refine lv_icmp_gt (tgt := 24) hx hb d_BG_isGiving_8 (by decide) (fun c_2 => ?_) (fun c_2 => ?_)
    · skip
      refine lv_iconst (v := 0) hx hb d_BG_isGiving_24 (by decide) ?_
      exact W.zret (v := 0) (ty := .boolean) hx hb hr rfl (fun t ht hW => ⟨_, rfl, (by unfold f_BG_isGiving; rw [if_neg c_1, if_pos c_2]), ht⟩) (fun _ h => by cases h) d_BG_isGiving_25
    · skip
      refine lv_iload_n hx hb d_BG_isGiving_11 rfl (lv_at hl 1 rfl) ?_
      refine lv_if_lt (tgt := 24) hx hb d_BG_isGiving_12 (by decide) (fun c_3 => ?_) (fun c_3 => ?_)
      · skip
        refine lv_iconst (v := 0) hx hb d_BG_isGiving_24 (by decide) ?_
        exact W.zret (v := 0) (ty := .boolean) hx hb hr rfl (fun t ht hW => ⟨_, rfl, (by unfold f_BG_isGiving; rw [if_neg c_1, if_neg c_2, if_pos c_3]), ht⟩) (fun _ h => by cases h) d_BG_isGiving_25
      · skip
        refine lv_iload_n hx hb d_BG_isGiving_15 rfl (lv_at hl 1 rfl) ?_
        refine lv_iconst (v := 3) hx hb d_BG_isGiving_16 (by decide) ?_
        refine lv_icmp_gt (tgt := 24) hx hb d_BG_isGiving_17 (by decide) (fun c_4 => ?_) (fun c_4 => ?_)
        · skip
          refine lv_iconst (v := 0) hx hb d_BG_isGiving_24 (by decide) ?_
          exact W.zret (v := 0) (ty := .boolean) hx hb hr rfl (fun t ht hW => ⟨_, rfl, (by unfold f_BG_isGiving; rw [if_neg c_1, if_neg c_2, if_neg c_3, if_pos c_4]), ht⟩) (fun _ h => by cases h) d_BG_isGiving_25
        · skip
          refine lv_iconst (v := 1) hx hb d_BG_isGiving_20 (by decide) ?_
          refine lv_goto (tgt := 25) hx hb d_BG_isGiving_21 (by decide) ?_
          exact W.zret (v := 1) (ty := .boolean) hx hb hr rfl (fun t ht hW => ⟨_, rfl, (by unfold f_BG_isGiving; rw [if_neg c_1, if_neg c_2, if_neg c_3, if_neg c_4]), ht⟩) (fun _ h => by cases h) d_BG_isGiving_25
def f_Leaders_alignedFrom (f0 f1 : Int32) (p0 : Int32) : Int32 :=
  if 0 < f1 then
    (-(f_Math_floorDiv (-p0) f1))
  else
    0
set_option maxHeartbeats 4000000 in
set_option maxRecDepth 100000 in
theorem c_Leaders_alignedFrom (l : Launch) (g : KGt) (H0 : Heap) (h0 : Nat) (f0 f1 : Int32) (p0 : Int32) (o0 : va_at g.1 kcl (h0, .inr (8, [.int f0, .int f1])) H0) : Met l y_Leaders_alignedFrom (kW y_Leaders_alignedFrom b_Leaders_alignedFrom 2 (.some .int)) ({ frames := 1, cells := 0, slots := 0, locals := 22 }) (kPc [.ref h0, .int p0] (KK g) H0) (kQc (kPure (.int (f_Leaders_alignedFrom f0 f1 p0)) H0)) 0 0 (fun _ => False) := by
  refine Met.ofW (cc := b_Leaders_alignedFrom) (maxL := 2) (ret := (.some .int)) (by decide) rfl ?_
  intro p e s m args below meth c s₁ B hml hv
  obtain ⟨rfl, hH, hKK⟩ := hv
  have hx := B.exec
  have hb := B.bytes
  have hr := B.returns
  have hts := kW_ts (atoms_spec (ws := kW y_Leaders_alignedFrom b_Leaders_alignedFrom 2 (.some .int)) B.pre)
  have hown : s.vm.findClass "BoxGlue$Leaders" = some m.cls := findClass_of_methodNamed B.named
  have hlocks := B.notSynchronized
  have hK := hKK.1
  subst hH
  have hl := lv_entry ([.ref h0, .int p0]) (n := 2) (Nat.le_of_ble_eq_true rfl)
  rw [lg_entry_eq]
  generalize (lg_sl ([.ref h0, .int p0]) ++ List.replicate (2 - (lg_sl ([.ref h0, .int p0])).length) Slot.unset).toArray = ls at hl ⊢
  have hl : lv_has ls 2 [(0, .ref h0), (1, .int p0)] := hl
  refine lv_aload_n hx hb d_Leaders_alignedFrom_0 rfl (lv_at hl 0 rfl) ?_
  refine va_get (D := g.1) (ci := 8) (v := .int f1) (C := "BoxGlue$Leaders") (T := kT_Leaders) (N := 2) hx hb hts ki_Leaders hown hK (k_one o0) 0 rfl rfl 1 (by decide) (hts _ kw_264) (fun _ h9 => h9) rfl d_Leaders_alignedFrom_1 ?_
  refine lv_if_gt (tgt := 11) hx hb d_Leaders_alignedFrom_4 (by decide) (fun c_1 => ?_) (fun c_1 => ?_)
  · skip
    refine lv_iload_n hx hb d_Leaders_alignedFrom_11 rfl (lv_at hl 1 rfl) ?_
    refine lv_ineg hx hb d_Leaders_alignedFrom_12 ?_
    refine lv_aload_n hx hb d_Leaders_alignedFrom_13 rfl (lv_at hl 0 rfl) ?_
    refine va_get (D := g.1) (ci := 8) (v := .int f1) (C := "BoxGlue$Leaders") (T := kT_Leaders) (N := 2) hx hb hts ki_Leaders hown hK (k_one o0) 0 rfl rfl 1 (by decide) (hts _ kw_264) (fun _ h9 => h9) rfl d_Leaders_alignedFrom_14 ?_
    refine k_pure (r := .int (f_Math_floorDiv (-p0) f1)) (W.runS (As := [.int (-p0), .int f1]) (rest := []) ⟨hx, hb, hml, hown, hts⟩ (c_Math_floorDiv l g s.heap (-p0) f1 (fun h => by rw [h] at c_1; exact absurd c_1 (by decide))) (va_cwS 2 hts (kS_good kw_506 kw_504 kw_505 kw_9) rfl rfl rfl (by decide +kernel) ⟨Nat.le_of_ble_eq_true rfl, Nat.le_of_ble_eq_true rfl⟩) (k_pre (KK_st g) hKK) rfl rfl hl.1 rfl (lv_room (Nat.le_of_ble_eq_true rfl)) d_Leaders_alignedFrom_17 ⟨Nat.zero_le _, Nat.zero_le _⟩) ?_
    refine lv_ineg hx hb d_Leaders_alignedFrom_20 ?_
    exact W.iret (v := (-(f_Math_floorDiv (-p0) f1))) hx hb hr (fun t ht hW => ⟨_, rfl, (by unfold f_Leaders_alignedFrom; rw [if_pos c_1]), ht⟩) (fun _ h => by cases h) d_Leaders_alignedFrom_21
  · skip
    refine lv_iconst (v := 0) hx hb d_Leaders_alignedFrom_7 (by decide) ?_
    refine lv_goto (tgt := 21) hx hb d_Leaders_alignedFrom_8 (by decide) ?_
    exact W.iret (v := 0) hx hb hr (fun t ht hW => ⟨_, rfl, (by unfold f_Leaders_alignedFrom; rw [if_neg c_1]), ht⟩) (fun _ h => by cases h) d_Leaders_alignedFrom_21
def f_Leaders_gap (f0 f1 : Int32) (p0 : Int32) : Int32 :=
  if f1 ≤ 0 then
    0
  else
    if f1 ≤ p0 then
      ((p0 - p0 / f1 * f1) / ((p0 / f1) + 1))
    else
      0
set_option maxHeartbeats 4000000 in
set_option maxRecDepth 100000 in
theorem c_Leaders_gap (l : Launch) (g : KGt) (H0 : Heap) (h0 : Nat) (f0 f1 : Int32) (p0 : Int32) (o0 : va_at g.1 kcl (h0, .inr (8, [.int f0, .int f1])) H0) : Met l y_Leaders_gap (kW y_Leaders_gap b_Leaders_gap 2 (.some .int)) ({ frames := 0, cells := 0, slots := 0, locals := 0 }) (kPc [.ref h0, .int p0] (KK g) H0) (kQc (kPure (.int (f_Leaders_gap f0 f1 p0)) H0)) 0 0 (fun _ => False) := by
  refine Met.ofW (cc := b_Leaders_gap) (maxL := 2) (ret := (.some .int)) (by decide) rfl ?_
  intro p e s m args below meth c s₁ B hml hv
  obtain ⟨rfl, hH, hKK⟩ := hv
  have hx := B.exec
  have hb := B.bytes
  have hr := B.returns
  have hts := kW_ts (atoms_spec (ws := kW y_Leaders_gap b_Leaders_gap 2 (.some .int)) B.pre)
  have hown : s.vm.findClass "BoxGlue$Leaders" = some m.cls := findClass_of_methodNamed B.named
  have hlocks := B.notSynchronized
  have hK := hKK.1
  subst hH
  have hl := lv_entry ([.ref h0, .int p0]) (n := 2) (Nat.le_of_ble_eq_true rfl)
  rw [lg_entry_eq]
  generalize (lg_sl ([.ref h0, .int p0]) ++ List.replicate (2 - (lg_sl ([.ref h0, .int p0])).length) Slot.unset).toArray = ls at hl ⊢
  have hl : lv_has ls 2 [(0, .ref h0), (1, .int p0)] := hl
  refine lv_aload_n hx hb d_Leaders_gap_0 rfl (lv_at hl 0 rfl) ?_
  refine va_get (D := g.1) (ci := 8) (v := .int f1) (C := "BoxGlue$Leaders") (T := kT_Leaders) (N := 2) hx hb hts ki_Leaders hown hK (k_one o0) 0 rfl rfl 1 (by decide) (hts _ kw_264) (fun _ h9 => h9) rfl d_Leaders_gap_1 ?_
  refine lv_if_le (tgt := 15) hx hb d_Leaders_gap_4 (by decide) (fun c_1 => ?_) (fun c_1 => ?_)
  · skip
    refine lv_iconst (v := 0) hx hb d_Leaders_gap_15 (by decide) ?_
    exact W.iret (v := 0) hx hb hr (fun t ht hW => ⟨_, rfl, (by unfold f_Leaders_gap; rw [if_pos c_1]), ht⟩) (fun _ h => by cases h) d_Leaders_gap_16
  · skip
    refine lv_iload_n hx hb d_Leaders_gap_7 rfl (lv_at hl 1 rfl) ?_
    refine lv_aload_n hx hb d_Leaders_gap_8 rfl (lv_at hl 0 rfl) ?_
    refine va_get (D := g.1) (ci := 8) (v := .int f1) (C := "BoxGlue$Leaders") (T := kT_Leaders) (N := 2) hx hb hts ki_Leaders hown hK (k_one o0) 0 rfl rfl 1 (by decide) (hts _ kw_264) (fun _ h9 => h9) rfl d_Leaders_gap_9 ?_
    refine lv_icmp_ge (tgt := 17) hx hb d_Leaders_gap_12 (by decide) (fun c_2 => ?_) (fun c_2 => ?_)
    · skip
      refine lv_iload_n hx hb d_Leaders_gap_17 rfl (lv_at hl 1 rfl) ?_
      refine lv_aload_n hx hb d_Leaders_gap_18 rfl (lv_at hl 0 rfl) ?_
      refine va_get (D := g.1) (ci := 8) (v := .int f1) (C := "BoxGlue$Leaders") (T := kT_Leaders) (N := 2) hx hb hts ki_Leaders hown hK (k_one o0) 0 rfl rfl 1 (by decide) (hts _ kw_264) (fun _ h9 => h9) rfl d_Leaders_gap_19 ?_
      refine lv_irem hx hb d_Leaders_gap_22 (fun h => c_1 (by rw [h]; decide)) ?_
      refine lv_iload_n hx hb d_Leaders_gap_23 rfl (lv_at hl 1 rfl) ?_
      refine lv_aload_n hx hb d_Leaders_gap_24 rfl (lv_at hl 0 rfl) ?_
      refine va_get (D := g.1) (ci := 8) (v := .int f1) (C := "BoxGlue$Leaders") (T := kT_Leaders) (N := 2) hx hb hts ki_Leaders hown hK (k_one o0) 0 rfl rfl 1 (by decide) (hts _ kw_264) (fun _ h9 => h9) rfl d_Leaders_gap_25 ?_
      refine lv_idiv hx hb d_Leaders_gap_28 (fun h => c_1 (by rw [h]; decide)) ?_
      refine lv_iconst (v := 1) hx hb d_Leaders_gap_29 (by decide) ?_
      refine lv_iadd hx hb d_Leaders_gap_30 ?_
      refine lv_idiv hx hb d_Leaders_gap_31 (k_divne c_1 c_2) ?_
      exact W.iret (v := ((p0 - p0 / f1 * f1) / ((p0 / f1) + 1))) hx hb hr (fun t ht hW => ⟨_, rfl, (by unfold f_Leaders_gap; rw [if_neg c_1, if_pos c_2]), ht⟩) (fun _ h => by cases h) d_Leaders_gap_32
    · skip
      refine lv_iconst (v := 0) hx hb d_Leaders_gap_15 (by decide) ?_
      exact W.iret (v := 0) hx hb hr (fun t ht hW => ⟨_, rfl, (by unfold f_Leaders_gap; rw [if_neg c_1, if_neg c_2]), ht⟩) (fun _ h => by cases h) d_Leaders_gap_16
def f_Leaders_drawn (f0 f1 : Int32) (p0 : Int32) (p1 : Int32) : Int32 :=
  if f1 ≤ 0 then
    0
  else
    if f1 ≤ p1 then
      if f0 = 1 then
        ((f_Math_floorDiv (p0 + p1) f1) - (f_Leaders_alignedFrom f0 f1 p0))
      else
        (p1 / f1)
    else
      0
set_option maxHeartbeats 4000000 in
set_option maxRecDepth 100000 in
theorem c_Leaders_drawn (l : Launch) (g : KGt) (H0 : Heap) (h0 : Nat) (f0 f1 : Int32) (p0 : Int32) (p1 : Int32) (o0 : va_at g.1 kcl (h0, .inr (8, [.int f0, .int f1])) H0) : Met l y_Leaders_drawn (kW y_Leaders_drawn b_Leaders_drawn 3 (.some .int)) ({ frames := 2, cells := 0, slots := 0, locals := 43 }) (kPc [.ref h0, .int p0, .int p1] (KK g) H0) (kQc (kPure (.int (f_Leaders_drawn f0 f1 p0 p1)) H0)) 0 0 (fun _ => False) := by
  refine Met.ofW (cc := b_Leaders_drawn) (maxL := 3) (ret := (.some .int)) (by decide) rfl ?_
  intro p e s m args below meth c s₁ B hml hv
  obtain ⟨rfl, hH, hKK⟩ := hv
  have hx := B.exec
  have hb := B.bytes
  have hr := B.returns
  have hts := kW_ts (atoms_spec (ws := kW y_Leaders_drawn b_Leaders_drawn 3 (.some .int)) B.pre)
  have hown : s.vm.findClass "BoxGlue$Leaders" = some m.cls := findClass_of_methodNamed B.named
  have hlocks := B.notSynchronized
  have hK := hKK.1
  subst hH
  have hl := lv_entry ([.ref h0, .int p0, .int p1]) (n := 3) (Nat.le_of_ble_eq_true rfl)
  rw [lg_entry_eq]
  generalize (lg_sl ([.ref h0, .int p0, .int p1]) ++ List.replicate (3 - (lg_sl ([.ref h0, .int p0, .int p1])).length) Slot.unset).toArray = ls at hl ⊢
  have hl : lv_has ls 3 [(0, .ref h0), (1, .int p0), (2, .int p1)] := hl
  refine lv_aload_n hx hb d_Leaders_drawn_0 rfl (lv_at hl 0 rfl) ?_
  refine va_get (D := g.1) (ci := 8) (v := .int f1) (C := "BoxGlue$Leaders") (T := kT_Leaders) (N := 2) hx hb hts ki_Leaders hown hK (k_one o0) 0 rfl rfl 1 (by decide) (hts _ kw_264) (fun _ h9 => h9) rfl d_Leaders_drawn_1 ?_
  refine lv_if_le (tgt := 15) hx hb d_Leaders_drawn_4 (by decide) (fun c_1 => ?_) (fun c_1 => ?_)
  · skip
    refine lv_iconst (v := 0) hx hb d_Leaders_drawn_15 (by decide) ?_
    exact W.iret (v := 0) hx hb hr (fun t ht hW => ⟨_, rfl, (by unfold f_Leaders_drawn; rw [if_pos c_1]), ht⟩) (fun _ h => by cases h) d_Leaders_drawn_16
  · skip
    refine lv_iload_n hx hb d_Leaders_drawn_7 rfl (lv_at hl 2 rfl) ?_
    refine lv_aload_n hx hb d_Leaders_drawn_8 rfl (lv_at hl 0 rfl) ?_
    refine va_get (D := g.1) (ci := 8) (v := .int f1) (C := "BoxGlue$Leaders") (T := kT_Leaders) (N := 2) hx hb hts ki_Leaders hown hK (k_one o0) 0 rfl rfl 1 (by decide) (hts _ kw_264) (fun _ h9 => h9) rfl d_Leaders_drawn_9 ?_
    refine lv_icmp_ge (tgt := 17) hx hb d_Leaders_drawn_12 (by decide) (fun c_2 => ?_) (fun c_2 => ?_)
    · skip
      refine lv_aload_n hx hb d_Leaders_drawn_17 rfl (lv_at hl 0 rfl) ?_
      refine va_get (D := g.1) (ci := 8) (v := .int f0) (C := "BoxGlue$Leaders") (T := kT_Leaders) (N := 2) hx hb hts ki_Leaders hown hK (k_one o0) 0 rfl rfl 0 (by decide) (hts _ kw_263) (fun _ h9 => h9) rfl d_Leaders_drawn_18 ?_
      refine lv_iconst (v := 1) hx hb d_Leaders_drawn_21 (by decide) ?_
      refine lv_icmp_ne (tgt := 42) hx hb d_Leaders_drawn_22 (by decide) (fun c_3 => ?_) (fun c_3 => ?_)
      · skip
        refine lv_iload_n hx hb d_Leaders_drawn_42 rfl (lv_at hl 2 rfl) ?_
        refine lv_aload_n hx hb d_Leaders_drawn_43 rfl (lv_at hl 0 rfl) ?_
        refine va_get (D := g.1) (ci := 8) (v := .int f1) (C := "BoxGlue$Leaders") (T := kT_Leaders) (N := 2) hx hb hts ki_Leaders hown hK (k_one o0) 0 rfl rfl 1 (by decide) (hts _ kw_264) (fun _ h9 => h9) rfl d_Leaders_drawn_44 ?_
        refine lv_idiv hx hb d_Leaders_drawn_47 (fun h => c_1 (by rw [h]; decide)) ?_
        exact W.iret (v := (p1 / f1)) hx hb hr (fun t ht hW => ⟨_, rfl, (by unfold f_Leaders_drawn; rw [if_neg c_1, if_pos c_2, if_neg c_3]), ht⟩) (fun _ h => by cases h) d_Leaders_drawn_48
      · skip
        refine lv_iload_n hx hb d_Leaders_drawn_25 rfl (lv_at hl 1 rfl) ?_
        refine lv_iload_n hx hb d_Leaders_drawn_26 rfl (lv_at hl 2 rfl) ?_
        refine lv_iadd hx hb d_Leaders_drawn_27 ?_
        refine lv_aload_n hx hb d_Leaders_drawn_28 rfl (lv_at hl 0 rfl) ?_
        refine va_get (D := g.1) (ci := 8) (v := .int f1) (C := "BoxGlue$Leaders") (T := kT_Leaders) (N := 2) hx hb hts ki_Leaders hown hK (k_one o0) 0 rfl rfl 1 (by decide) (hts _ kw_264) (fun _ h9 => h9) rfl d_Leaders_drawn_29 ?_
        refine k_pure (r := .int (f_Math_floorDiv (p0 + p1) f1)) (W.runS (As := [.int (p0 + p1), .int f1]) (rest := []) ⟨hx, hb, hml, hown, hts⟩ (c_Math_floorDiv l g s.heap (p0 + p1) f1 (fun h => c_1 (by rw [h]; decide))) (va_cwS 2 hts (kS_good kw_506 kw_504 kw_505 kw_9) rfl rfl rfl (by decide +kernel) ⟨Nat.le_of_ble_eq_true rfl, Nat.le_of_ble_eq_true rfl⟩) (k_pre (KK_st g) hKK) rfl rfl hl.1 rfl (lv_room (Nat.le_of_ble_eq_true rfl)) d_Leaders_drawn_32 ⟨Nat.zero_le _, Nat.zero_le _⟩) ?_
        refine lv_aload_n hx hb d_Leaders_drawn_35 rfl (lv_at hl 0 rfl) ?_
        refine lv_iload_n hx hb d_Leaders_drawn_36 rfl (lv_at hl 1 rfl) ?_
        refine k_pure (r := .int (f_Leaders_alignedFrom f0 f1 p0)) (W.runV (As := [.int p0]) (rest := [.int (f_Math_floorDiv (p0 + p1) f1)]) ⟨hx, hb, hml, hown, hts⟩ (c_Leaders_alignedFrom l g s.heap h0 f0 f1 p0 o0) (cwV 1 hts (kV_good kw_510 kw_507 kw_509 ks_Leaders_alignedFrom kw_17) rfl rfl rfl (by decide +kernel) ⟨Nat.le_of_ble_eq_true rfl, Nat.le_of_ble_eq_true rfl⟩) (k_preV (KK_st g) hKK (va_recv hK (k_one o0) (ci := 8) (q0 := 0) rfl rfl)) rfl rfl hl.1 rfl (lv_room (Nat.le_of_ble_eq_true rfl)) d_Leaders_drawn_37 ⟨Nat.zero_le _, Nat.zero_le _⟩) ?_
        refine lv_isub hx hb d_Leaders_drawn_40 ?_
        exact W.iret (v := ((f_Math_floorDiv (p0 + p1) f1) - (f_Leaders_alignedFrom f0 f1 p0))) hx hb hr (fun t ht hW => ⟨_, rfl, (by unfold f_Leaders_drawn; rw [if_neg c_1, if_pos c_2, if_pos c_3]), ht⟩) (fun _ h => by cases h) d_Leaders_drawn_41
    · skip
      refine lv_iconst (v := 0) hx hb d_Leaders_drawn_15 (by decide) ?_
      exact W.iret (v := 0) hx hb hr (fun t ht hW => ⟨_, rfl, (by unfold f_Leaders_drawn; rw [if_neg c_1, if_neg c_2]), ht⟩) (fun _ h => by cases h) d_Leaders_drawn_16
def f_Leaders_first (f0 f1 : Int32) (p0 : Int32) (p1 : Int32) : Int32 :=
  if f1 ≤ 0 then
    0
  else
    if (f_Leaders_drawn f0 f1 p0 p1) = 0 then
      0
    else
      if f0 = 1 then
        ((f_Leaders_alignedFrom f0 f1 p0) * f1)
      else
        if f0 = 2 then
          (p0 + ((p1 - p1 / f1 * f1) / 2))
        else
          (p0 + (f_Leaders_gap f0 f1 p1))
set_option maxHeartbeats 4000000 in
set_option maxRecDepth 100000 in
theorem c_Leaders_first (l : Launch) (g : KGt) (H0 : Heap) (h0 : Nat) (f0 f1 : Int32) (p0 : Int32) (p1 : Int32) (o0 : va_at g.1 kcl (h0, .inr (8, [.int f0, .int f1])) H0) : Met l y_Leaders_first (kW y_Leaders_first b_Leaders_first 3 (.some .int)) ({ frames := 3, cells := 0, slots := 0, locals := 65 }) (kPc [.ref h0, .int p0, .int p1] (KK g) H0) (kQc (kPure (.int (f_Leaders_first f0 f1 p0 p1)) H0)) 0 0 (fun _ => False) := by
  refine Met.ofW (cc := b_Leaders_first) (maxL := 3) (ret := (.some .int)) (by decide) rfl ?_
  intro p e s m args below meth c s₁ B hml hv
  obtain ⟨rfl, hH, hKK⟩ := hv
  have hx := B.exec
  have hb := B.bytes
  have hr := B.returns
  have hts := kW_ts (atoms_spec (ws := kW y_Leaders_first b_Leaders_first 3 (.some .int)) B.pre)
  have hown : s.vm.findClass "BoxGlue$Leaders" = some m.cls := findClass_of_methodNamed B.named
  have hlocks := B.notSynchronized
  have hK := hKK.1
  subst hH
  have hl := lv_entry ([.ref h0, .int p0, .int p1]) (n := 3) (Nat.le_of_ble_eq_true rfl)
  rw [lg_entry_eq]
  generalize (lg_sl ([.ref h0, .int p0, .int p1]) ++ List.replicate (3 - (lg_sl ([.ref h0, .int p0, .int p1])).length) Slot.unset).toArray = ls at hl ⊢
  have hl : lv_has ls 3 [(0, .ref h0), (1, .int p0), (2, .int p1)] := hl
  refine lv_aload_n hx hb d_Leaders_first_0 rfl (lv_at hl 0 rfl) ?_
  refine va_get (D := g.1) (ci := 8) (v := .int f1) (C := "BoxGlue$Leaders") (T := kT_Leaders) (N := 2) hx hb hts ki_Leaders hown hK (k_one o0) 0 rfl rfl 1 (by decide) (hts _ kw_264) (fun _ h9 => h9) rfl d_Leaders_first_1 ?_
  refine lv_if_le (tgt := 16) hx hb d_Leaders_first_4 (by decide) (fun c_1 => ?_) (fun c_1 => ?_)
  · skip
    refine lv_iconst (v := 0) hx hb d_Leaders_first_16 (by decide) ?_
    exact W.iret (v := 0) hx hb hr (fun t ht hW => ⟨_, rfl, (by unfold f_Leaders_first; rw [if_pos c_1]), ht⟩) (fun _ h => by cases h) d_Leaders_first_17
  · skip
    refine lv_aload_n hx hb d_Leaders_first_7 rfl (lv_at hl 0 rfl) ?_
    refine lv_iload_n hx hb d_Leaders_first_8 rfl (lv_at hl 1 rfl) ?_
    refine lv_iload_n hx hb d_Leaders_first_9 rfl (lv_at hl 2 rfl) ?_
    refine k_pure (r := .int (f_Leaders_drawn f0 f1 p0 p1)) (W.runV (As := [.int p0, .int p1]) (rest := []) ⟨hx, hb, hml, hown, hts⟩ (c_Leaders_drawn l g s.heap h0 f0 f1 p0 p1 o0) (cwV 2 hts (kV_good kw_503 kw_525 kw_501 kw_502 kw_17) rfl rfl rfl (by decide +kernel) ⟨Nat.le_of_ble_eq_true rfl, Nat.le_of_ble_eq_true rfl⟩) (k_preV (KK_st g) hKK (va_recv hK (k_one o0) (ci := 8) (q0 := 0) rfl rfl)) rfl rfl hl.1 rfl (lv_room (Nat.le_of_ble_eq_true rfl)) d_Leaders_first_10 ⟨Nat.zero_le _, Nat.zero_le _⟩) ?_
    refine lv_if_ne (tgt := 18) hx hb d_Leaders_first_13 (by decide) (fun c_2 => ?_) (fun c_2 => ?_)
    · skip
      refine lv_aload_n hx hb d_Leaders_first_18 rfl (lv_at hl 0 rfl) ?_
      refine va_get (D := g.1) (ci := 8) (v := .int f0) (C := "BoxGlue$Leaders") (T := kT_Leaders) (N := 2) hx hb hts ki_Leaders hown hK (k_one o0) 0 rfl rfl 0 (by decide) (hts _ kw_263) (fun _ h9 => h9) rfl d_Leaders_first_19 ?_
      refine lv_iconst (v := 1) hx hb d_Leaders_first_22 (by decide) ?_
      refine lv_icmp_ne (tgt := 37) hx hb d_Leaders_first_23 (by decide) (fun c_3 => ?_) (fun c_3 => ?_)
      · skip
        refine lv_aload_n hx hb d_Leaders_first_37 rfl (lv_at hl 0 rfl) ?_
        refine va_get (D := g.1) (ci := 8) (v := .int f0) (C := "BoxGlue$Leaders") (T := kT_Leaders) (N := 2) hx hb hts ki_Leaders hown hK (k_one o0) 0 rfl rfl 0 (by decide) (hts _ kw_263) (fun _ h9 => h9) rfl d_Leaders_first_38 ?_
        refine lv_iconst (v := 2) hx hb d_Leaders_first_41 (by decide) ?_
        refine lv_icmp_ne (tgt := 56) hx hb d_Leaders_first_42 (by decide) (fun c_4 => ?_) (fun c_4 => ?_)
        · skip
          refine lv_iload_n hx hb d_Leaders_first_56 rfl (lv_at hl 1 rfl) ?_
          refine lv_aload_n hx hb d_Leaders_first_57 rfl (lv_at hl 0 rfl) ?_
          refine lv_iload_n hx hb d_Leaders_first_58 rfl (lv_at hl 2 rfl) ?_
          refine k_pure (r := .int (f_Leaders_gap f0 f1 p1)) (W.runV (As := [.int p1]) (rest := [.int p0]) ⟨hx, hb, hml, hown, hts⟩ (c_Leaders_gap l g s.heap h0 f0 f1 p1 o0) (cwV 1 hts (kV_good kw_529 kw_526 kw_528 ks_Leaders_gap kw_17) rfl rfl rfl (by decide +kernel) ⟨Nat.le_of_ble_eq_true rfl, Nat.le_of_ble_eq_true rfl⟩) (k_preV (KK_st g) hKK (va_recv hK (k_one o0) (ci := 8) (q0 := 0) rfl rfl)) rfl rfl hl.1 rfl (lv_room (Nat.le_of_ble_eq_true rfl)) d_Leaders_first_59 ⟨Nat.zero_le _, Nat.zero_le _⟩) ?_
          refine lv_iadd hx hb d_Leaders_first_62 ?_
          exact W.iret (v := (p0 + (f_Leaders_gap f0 f1 p1))) hx hb hr (fun t ht hW => ⟨_, rfl, (by unfold f_Leaders_first; rw [if_neg c_1, if_neg c_2, if_neg c_3, if_neg c_4]), ht⟩) (fun _ h => by cases h) d_Leaders_first_63
        · skip
          refine lv_iload_n hx hb d_Leaders_first_45 rfl (lv_at hl 1 rfl) ?_
          refine lv_iload_n hx hb d_Leaders_first_46 rfl (lv_at hl 2 rfl) ?_
          refine lv_aload_n hx hb d_Leaders_first_47 rfl (lv_at hl 0 rfl) ?_
          refine va_get (D := g.1) (ci := 8) (v := .int f1) (C := "BoxGlue$Leaders") (T := kT_Leaders) (N := 2) hx hb hts ki_Leaders hown hK (k_one o0) 0 rfl rfl 1 (by decide) (hts _ kw_264) (fun _ h9 => h9) rfl d_Leaders_first_48 ?_
          refine lv_irem hx hb d_Leaders_first_51 (fun h => c_1 (by rw [h]; decide)) ?_
          refine lv_iconst (v := 2) hx hb d_Leaders_first_52 (by decide) ?_
          refine lv_idiv hx hb d_Leaders_first_53 (by decide) ?_
          refine lv_iadd hx hb d_Leaders_first_54 ?_
          exact W.iret (v := (p0 + ((p1 - p1 / f1 * f1) / 2))) hx hb hr (fun t ht hW => ⟨_, rfl, (by unfold f_Leaders_first; rw [if_neg c_1, if_neg c_2, if_neg c_3, if_pos c_4]), ht⟩) (fun _ h => by cases h) d_Leaders_first_55
      · skip
        refine lv_aload_n hx hb d_Leaders_first_26 rfl (lv_at hl 0 rfl) ?_
        refine lv_iload_n hx hb d_Leaders_first_27 rfl (lv_at hl 1 rfl) ?_
        refine k_pure (r := .int (f_Leaders_alignedFrom f0 f1 p0)) (W.runV (As := [.int p0]) (rest := []) ⟨hx, hb, hml, hown, hts⟩ (c_Leaders_alignedFrom l g s.heap h0 f0 f1 p0 o0) (cwV 1 hts (kV_good kw_510 kw_507 kw_509 ks_Leaders_alignedFrom kw_17) rfl rfl rfl (by decide +kernel) ⟨Nat.le_of_ble_eq_true rfl, Nat.le_of_ble_eq_true rfl⟩) (k_preV (KK_st g) hKK (va_recv hK (k_one o0) (ci := 8) (q0 := 0) rfl rfl)) rfl rfl hl.1 rfl (lv_room (Nat.le_of_ble_eq_true rfl)) d_Leaders_first_28 ⟨Nat.zero_le _, Nat.zero_le _⟩) ?_
        refine lv_aload_n hx hb d_Leaders_first_31 rfl (lv_at hl 0 rfl) ?_
        refine va_get (D := g.1) (ci := 8) (v := .int f1) (C := "BoxGlue$Leaders") (T := kT_Leaders) (N := 2) hx hb hts ki_Leaders hown hK (k_one o0) 0 rfl rfl 1 (by decide) (hts _ kw_264) (fun _ h9 => h9) rfl d_Leaders_first_32 ?_
        refine lv_imul hx hb d_Leaders_first_35 ?_
        exact W.iret (v := ((f_Leaders_alignedFrom f0 f1 p0) * f1)) hx hb hr (fun t ht hW => ⟨_, rfl, (by unfold f_Leaders_first; rw [if_neg c_1, if_neg c_2, if_pos c_3]), ht⟩) (fun _ h => by cases h) d_Leaders_first_36
    · skip
      refine lv_iconst (v := 0) hx hb d_Leaders_first_16 (by decide) ?_
      exact W.iret (v := 0) hx hb hr (fun t ht hW => ⟨_, rfl, (by unfold f_Leaders_first; rw [if_neg c_1, if_pos c_2]), ht⟩) (fun _ h => by cases h) d_Leaders_first_17
def f_Leaders_step (f0 f1 : Int32) (p0 : Int32) (p1 : Int32) : Int32 :=
  if (f_Leaders_drawn f0 f1 p0 p1) = 0 then
    0
  else
    if f0 = 3 then
      (f1 + (f_Leaders_gap f0 f1 p1))
    else
      f1
set_option maxHeartbeats 4000000 in
set_option maxRecDepth 100000 in
theorem c_Leaders_step (l : Launch) (g : KGt) (H0 : Heap) (h0 : Nat) (f0 f1 : Int32) (p0 : Int32) (p1 : Int32) (o0 : va_at g.1 kcl (h0, .inr (8, [.int f0, .int f1])) H0) : Met l y_Leaders_step (kW y_Leaders_step b_Leaders_step 3 (.some .int)) ({ frames := 3, cells := 0, slots := 0, locals := 65 }) (kPc [.ref h0, .int p0, .int p1] (KK g) H0) (kQc (kPure (.int (f_Leaders_step f0 f1 p0 p1)) H0)) 0 0 (fun _ => False) := by
  refine Met.ofW (cc := b_Leaders_step) (maxL := 3) (ret := (.some .int)) (by decide) rfl ?_
  intro p e s m args below meth c s₁ B hml hv
  obtain ⟨rfl, hH, hKK⟩ := hv
  have hx := B.exec
  have hb := B.bytes
  have hr := B.returns
  have hts := kW_ts (atoms_spec (ws := kW y_Leaders_step b_Leaders_step 3 (.some .int)) B.pre)
  have hown : s.vm.findClass "BoxGlue$Leaders" = some m.cls := findClass_of_methodNamed B.named
  have hlocks := B.notSynchronized
  have hK := hKK.1
  subst hH
  have hl := lv_entry ([.ref h0, .int p0, .int p1]) (n := 3) (Nat.le_of_ble_eq_true rfl)
  rw [lg_entry_eq]
  generalize (lg_sl ([.ref h0, .int p0, .int p1]) ++ List.replicate (3 - (lg_sl ([.ref h0, .int p0, .int p1])).length) Slot.unset).toArray = ls at hl ⊢
  have hl : lv_has ls 3 [(0, .ref h0), (1, .int p0), (2, .int p1)] := hl
  refine lv_aload_n hx hb d_Leaders_step_0 rfl (lv_at hl 0 rfl) ?_
  refine lv_iload_n hx hb d_Leaders_step_1 rfl (lv_at hl 1 rfl) ?_
  refine lv_iload_n hx hb d_Leaders_step_2 rfl (lv_at hl 2 rfl) ?_
  refine k_pure (r := .int (f_Leaders_drawn f0 f1 p0 p1)) (W.runV (As := [.int p0, .int p1]) (rest := []) ⟨hx, hb, hml, hown, hts⟩ (c_Leaders_drawn l g s.heap h0 f0 f1 p0 p1 o0) (cwV 2 hts (kV_good kw_503 kw_525 kw_501 kw_502 kw_17) rfl rfl rfl (by decide +kernel) ⟨Nat.le_of_ble_eq_true rfl, Nat.le_of_ble_eq_true rfl⟩) (k_preV (KK_st g) hKK (va_recv hK (k_one o0) (ci := 8) (q0 := 0) rfl rfl)) rfl rfl hl.1 rfl (lv_room (Nat.le_of_ble_eq_true rfl)) d_Leaders_step_3 ⟨Nat.zero_le _, Nat.zero_le _⟩) ?_
  refine lv_if_ne (tgt := 11) hx hb d_Leaders_step_6 (by decide) (fun c_1 => ?_) (fun c_1 => ?_)
  · skip
    refine lv_aload_n hx hb d_Leaders_step_11 rfl (lv_at hl 0 rfl) ?_
    refine va_get (D := g.1) (ci := 8) (v := .int f0) (C := "BoxGlue$Leaders") (T := kT_Leaders) (N := 2) hx hb hts ki_Leaders hown hK (k_one o0) 0 rfl rfl 0 (by decide) (hts _ kw_263) (fun _ h9 => h9) rfl d_Leaders_step_12 ?_
    refine lv_iconst (v := 3) hx hb d_Leaders_step_15 (by decide) ?_
    refine lv_icmp_ne (tgt := 32) hx hb d_Leaders_step_16 (by decide) (fun c_2 => ?_) (fun c_2 => ?_)
    · skip
      refine lv_aload_n hx hb d_Leaders_step_32 rfl (lv_at hl 0 rfl) ?_
      refine va_get (D := g.1) (ci := 8) (v := .int f1) (C := "BoxGlue$Leaders") (T := kT_Leaders) (N := 2) hx hb hts ki_Leaders hown hK (k_one o0) 0 rfl rfl 1 (by decide) (hts _ kw_264) (fun _ h9 => h9) rfl d_Leaders_step_33 ?_
      exact W.iret (v := f1) hx hb hr (fun t ht hW => ⟨_, rfl, (by unfold f_Leaders_step; rw [if_neg c_1, if_neg c_2]), ht⟩) (fun _ h => by cases h) d_Leaders_step_36
    · skip
      refine lv_aload_n hx hb d_Leaders_step_19 rfl (lv_at hl 0 rfl) ?_
      refine va_get (D := g.1) (ci := 8) (v := .int f1) (C := "BoxGlue$Leaders") (T := kT_Leaders) (N := 2) hx hb hts ki_Leaders hown hK (k_one o0) 0 rfl rfl 1 (by decide) (hts _ kw_264) (fun _ h9 => h9) rfl d_Leaders_step_20 ?_
      refine lv_aload_n hx hb d_Leaders_step_23 rfl (lv_at hl 0 rfl) ?_
      refine lv_iload_n hx hb d_Leaders_step_24 rfl (lv_at hl 2 rfl) ?_
      refine k_pure (r := .int (f_Leaders_gap f0 f1 p1)) (W.runV (As := [.int p1]) (rest := [.int f1]) ⟨hx, hb, hml, hown, hts⟩ (c_Leaders_gap l g s.heap h0 f0 f1 p1 o0) (cwV 1 hts (kV_good kw_529 kw_526 kw_528 ks_Leaders_gap kw_17) rfl rfl rfl (by decide +kernel) ⟨Nat.le_of_ble_eq_true rfl, Nat.le_of_ble_eq_true rfl⟩) (k_preV (KK_st g) hKK (va_recv hK (k_one o0) (ci := 8) (q0 := 0) rfl rfl)) rfl rfl hl.1 rfl (lv_room (Nat.le_of_ble_eq_true rfl)) d_Leaders_step_25 ⟨Nat.zero_le _, Nat.zero_le _⟩) ?_
      refine lv_iadd hx hb d_Leaders_step_28 ?_
      refine lv_goto (tgt := 36) hx hb d_Leaders_step_29 (by decide) ?_
      exact W.iret (v := (f1 + (f_Leaders_gap f0 f1 p1))) hx hb hr (fun t ht hW => ⟨_, rfl, (by unfold f_Leaders_step; rw [if_neg c_1, if_pos c_2]), ht⟩) (fun _ h => by cases h) d_Leaders_step_36
  · skip
    refine lv_iconst (v := 0) hx hb d_Leaders_step_9 (by decide) ?_
    exact W.iret (v := 0) hx hb hr (fun t ht hW => ⟨_, rfl, (by unfold f_Leaders_step; rw [if_pos c_1]), ht⟩) (fun _ h => by cases h) d_Leaders_step_10
def f_Glue_giving (f0 f1 f2 f3 f4 f5 : Int32) (p0 : Int32) (p1 : Int32) : Int32 :=
  if p0 = 0 then
    if p1 = f5 then
      f4
    else
      0
  else
    if p1 = f3 then
      f2
    else
      0
set_option maxHeartbeats 4000000 in
set_option maxRecDepth 100000 in
theorem c_Glue_giving (l : Launch) (g : KGt) (H0 : Heap) (h0 : Nat) (r6 : Nat) (f0 f1 f2 f3 f4 f5 : Int32) (p0 : Int32) (p1 : Int32) (o0 : va_at g.1 kcl (h0, .inr (5, [.int f0, .int f1, .int f2, .int f3, .int f4, .int f5, .ref r6])) H0) : Met l y_Glue_giving (kW y_Glue_giving b_Glue_giving 3 (.some .int)) ({ frames := 0, cells := 0, slots := 0, locals := 0 }) (kPc [.ref h0, .int p0, .int p1] (KK g) H0) (kQc (kPure (.int (f_Glue_giving f0 f1 f2 f3 f4 f5 p0 p1)) H0)) 0 0 (fun _ => False) := by
  refine Met.ofW (cc := b_Glue_giving) (maxL := 3) (ret := (.some .int)) (by decide) rfl ?_
  intro p e s m args below meth c s₁ B hml hv
  obtain ⟨rfl, hH, hKK⟩ := hv
  have hx := B.exec
  have hb := B.bytes
  have hr := B.returns
  have hts := kW_ts (atoms_spec (ws := kW y_Glue_giving b_Glue_giving 3 (.some .int)) B.pre)
  have hown : s.vm.findClass "BoxGlue$Glue" = some m.cls := findClass_of_methodNamed B.named
  have hlocks := B.notSynchronized
  have hK := hKK.1
  subst hH
  have hl := lv_entry ([.ref h0, .int p0, .int p1]) (n := 3) (Nat.le_of_ble_eq_true rfl)
  rw [lg_entry_eq]
  generalize (lg_sl ([.ref h0, .int p0, .int p1]) ++ List.replicate (3 - (lg_sl ([.ref h0, .int p0, .int p1])).length) Slot.unset).toArray = ls at hl ⊢
  have hl : lv_has ls 3 [(0, .ref h0), (1, .int p0), (2, .int p1)] := hl
  refine lv_iload_n hx hb d_Glue_giving_0 rfl (lv_at hl 1 rfl) ?_
  refine lv_if_eq (tgt := 21) hx hb d_Glue_giving_1 (by decide) (fun c_1 => ?_) (fun c_1 => ?_)
  · skip
    refine lv_iload_n hx hb d_Glue_giving_21 rfl (lv_at hl 2 rfl) ?_
    refine lv_aload_n hx hb d_Glue_giving_22 rfl (lv_at hl 0 rfl) ?_
    refine va_get (D := g.1) (ci := 5) (v := .int f5) (C := "BoxGlue$Glue") (T := kT_Glue) (N := 7) hx hb hts ki_Glue hown hK (k_one o0) 0 rfl rfl 5 (by decide) (hts _ kw_277) (fun _ h9 => h9) rfl d_Glue_giving_23 ?_
    refine lv_icmp_ne (tgt := 36) hx hb d_Glue_giving_26 (by decide) (fun c_2 => ?_) (fun c_2 => ?_)
    · skip
      refine lv_iconst (v := 0) hx hb d_Glue_giving_36 (by decide) ?_
      exact W.iret (v := 0) hx hb hr (fun t ht hW => ⟨_, rfl, (by unfold f_Glue_giving; rw [if_pos c_1, if_neg c_2]), ht⟩) (fun _ h => by cases h) d_Glue_giving_37
    · skip
      refine lv_aload_n hx hb d_Glue_giving_29 rfl (lv_at hl 0 rfl) ?_
      refine va_get (D := g.1) (ci := 5) (v := .int f4) (C := "BoxGlue$Glue") (T := kT_Glue) (N := 7) hx hb hts ki_Glue hown hK (k_one o0) 0 rfl rfl 4 (by decide) (hts _ kw_276) (fun _ h9 => h9) rfl d_Glue_giving_30 ?_
      refine lv_goto (tgt := 37) hx hb d_Glue_giving_33 (by decide) ?_
      exact W.iret (v := f4) hx hb hr (fun t ht hW => ⟨_, rfl, (by unfold f_Glue_giving; rw [if_pos c_1, if_pos c_2]), ht⟩) (fun _ h => by cases h) d_Glue_giving_37
  · skip
    refine lv_iload_n hx hb d_Glue_giving_4 rfl (lv_at hl 2 rfl) ?_
    refine lv_aload_n hx hb d_Glue_giving_5 rfl (lv_at hl 0 rfl) ?_
    refine va_get (D := g.1) (ci := 5) (v := .int f3) (C := "BoxGlue$Glue") (T := kT_Glue) (N := 7) hx hb hts ki_Glue hown hK (k_one o0) 0 rfl rfl 3 (by decide) (hts _ kw_275) (fun _ h9 => h9) rfl d_Glue_giving_6 ?_
    refine lv_icmp_ne (tgt := 19) hx hb d_Glue_giving_9 (by decide) (fun c_3 => ?_) (fun c_3 => ?_)
    · skip
      refine lv_iconst (v := 0) hx hb d_Glue_giving_19 (by decide) ?_
      exact W.iret (v := 0) hx hb hr (fun t ht hW => ⟨_, rfl, (by unfold f_Glue_giving; rw [if_neg c_1, if_neg c_3]), ht⟩) (fun _ h => by cases h) d_Glue_giving_20
    · skip
      refine lv_aload_n hx hb d_Glue_giving_12 rfl (lv_at hl 0 rfl) ?_
      refine va_get (D := g.1) (ci := 5) (v := .int f2) (C := "BoxGlue$Glue") (T := kT_Glue) (N := 7) hx hb hts ki_Glue hown hK (k_one o0) 0 rfl rfl 2 (by decide) (hts _ kw_274) (fun _ h9 => h9) rfl d_Glue_giving_13 ?_
      refine lv_goto (tgt := 20) hx hb d_Glue_giving_16 (by decide) ?_
      exact W.iret (v := f2) hx hb hr (fun t ht hW => ⟨_, rfl, (by unfold f_Glue_giving; rw [if_neg c_1, if_pos c_3]), ht⟩) (fun _ h => by cases h) d_Glue_giving_20
def f_Glue_leadersDrawn (f0 f1 f2 f3 f4 f5 f6 f7 : Int32) (p0 : Int32) (p1 : Int32) : Int32 :=
  (f_Leaders_drawn f6 f7 p0 p1)
set_option maxHeartbeats 4000000 in
set_option maxRecDepth 100000 in
theorem c_Glue_leadersDrawn (l : Launch) (g : KGt) (H0 : Heap) (h0 h1 : Nat) (f0 f1 f2 f3 f4 f5 f6 f7 : Int32) (p0 : Int32) (p1 : Int32) (o0 : va_at g.1 kcl (h0, .inr (5, [.int f0, .int f1, .int f2, .int f3, .int f4, .int f5, .ref h1])) H0) (o1 : va_at g.1 kcl (h1, .inr (8, [.int f6, .int f7])) H0) : Met l y_Glue_leadersDrawn (kW y_Glue_leadersDrawn b_Glue_leadersDrawn 3 (.some .int)) ({ frames := 3, cells := 0, slots := 0, locals := 65 }) (kPc [.ref h0, .int p0, .int p1] (KK g) H0) (kQc (kPure (.int (f_Glue_leadersDrawn f0 f1 f2 f3 f4 f5 f6 f7 p0 p1)) H0)) 0 0 (fun _ => False) := by
  refine Met.ofW (cc := b_Glue_leadersDrawn) (maxL := 3) (ret := (.some .int)) (by decide) rfl ?_
  intro p e s m args below meth c s₁ B hml hv
  obtain ⟨rfl, hH, hKK⟩ := hv
  have hx := B.exec
  have hb := B.bytes
  have hr := B.returns
  have hts := kW_ts (atoms_spec (ws := kW y_Glue_leadersDrawn b_Glue_leadersDrawn 3 (.some .int)) B.pre)
  have hown : s.vm.findClass "BoxGlue$Glue" = some m.cls := findClass_of_methodNamed B.named
  have hlocks := B.notSynchronized
  have hK := hKK.1
  subst hH
  have hl := lv_entry ([.ref h0, .int p0, .int p1]) (n := 3) (Nat.le_of_ble_eq_true rfl)
  rw [lg_entry_eq]
  generalize (lg_sl ([.ref h0, .int p0, .int p1]) ++ List.replicate (3 - (lg_sl ([.ref h0, .int p0, .int p1])).length) Slot.unset).toArray = ls at hl ⊢
  have hl : lv_has ls 3 [(0, .ref h0), (1, .int p0), (2, .int p1)] := hl
  refine lv_aload_n hx hb d_Glue_leadersDrawn_0 rfl (lv_at hl 0 rfl) ?_
  refine va_get (D := g.1) (ci := 5) (v := .ref h1) (C := "BoxGlue$Glue") (T := kT_Glue) (N := 7) hx hb hts ki_Glue hown hK (k_one o0) 0 rfl rfl 6 (by decide) (hts _ kw_278) (fun _ h9 => h9) rfl d_Glue_leadersDrawn_1 ?_
  refine lv_iload_n hx hb d_Glue_leadersDrawn_4 rfl (lv_at hl 1 rfl) ?_
  refine lv_iload_n hx hb d_Glue_leadersDrawn_5 rfl (lv_at hl 2 rfl) ?_
  refine k_pure (r := .int (f_Leaders_drawn f6 f7 p0 p1)) (W.runV (As := [.int p0, .int p1]) (rest := []) ⟨hx, hb, hml, hown, hts⟩ (c_Leaders_drawn l g s.heap h1 f6 f7 p0 p1 o1) (cwV 2 hts (kV_good kw_503 kw_500 kw_501 kw_502 kw_17) rfl rfl rfl (by decide +kernel) ⟨Nat.le_of_ble_eq_true rfl, Nat.le_of_ble_eq_true rfl⟩) (k_preV (KK_st g) hKK (va_recv hK (k_one o1) (ci := 8) (q0 := 0) rfl rfl)) rfl rfl hl.1 rfl (lv_room (Nat.le_of_ble_eq_true rfl)) d_Glue_leadersDrawn_6 ⟨Nat.zero_le _, Nat.zero_le _⟩) ?_
  exact W.iret (v := (f_Leaders_drawn f6 f7 p0 p1)) hx hb hr (fun t ht hW => ⟨_, rfl, rfl, ht⟩) (fun _ h => by cases h) d_Glue_leadersDrawn_9
def f_Glue_firstLeader (f0 f1 f2 f3 f4 f5 f6 f7 : Int32) (p0 : Int32) (p1 : Int32) : Int32 :=
  (f_Leaders_first f6 f7 p0 p1)
set_option maxHeartbeats 4000000 in
set_option maxRecDepth 100000 in
theorem c_Glue_firstLeader (l : Launch) (g : KGt) (H0 : Heap) (h0 h1 : Nat) (f0 f1 f2 f3 f4 f5 f6 f7 : Int32) (p0 : Int32) (p1 : Int32) (o0 : va_at g.1 kcl (h0, .inr (5, [.int f0, .int f1, .int f2, .int f3, .int f4, .int f5, .ref h1])) H0) (o1 : va_at g.1 kcl (h1, .inr (8, [.int f6, .int f7])) H0) : Met l y_Glue_firstLeader (kW y_Glue_firstLeader b_Glue_firstLeader 3 (.some .int)) ({ frames := 4, cells := 0, slots := 0, locals := 87 }) (kPc [.ref h0, .int p0, .int p1] (KK g) H0) (kQc (kPure (.int (f_Glue_firstLeader f0 f1 f2 f3 f4 f5 f6 f7 p0 p1)) H0)) 0 0 (fun _ => False) := by
  refine Met.ofW (cc := b_Glue_firstLeader) (maxL := 3) (ret := (.some .int)) (by decide) rfl ?_
  intro p e s m args below meth c s₁ B hml hv
  obtain ⟨rfl, hH, hKK⟩ := hv
  have hx := B.exec
  have hb := B.bytes
  have hr := B.returns
  have hts := kW_ts (atoms_spec (ws := kW y_Glue_firstLeader b_Glue_firstLeader 3 (.some .int)) B.pre)
  have hown : s.vm.findClass "BoxGlue$Glue" = some m.cls := findClass_of_methodNamed B.named
  have hlocks := B.notSynchronized
  have hK := hKK.1
  subst hH
  have hl := lv_entry ([.ref h0, .int p0, .int p1]) (n := 3) (Nat.le_of_ble_eq_true rfl)
  rw [lg_entry_eq]
  generalize (lg_sl ([.ref h0, .int p0, .int p1]) ++ List.replicate (3 - (lg_sl ([.ref h0, .int p0, .int p1])).length) Slot.unset).toArray = ls at hl ⊢
  have hl : lv_has ls 3 [(0, .ref h0), (1, .int p0), (2, .int p1)] := hl
  refine lv_aload_n hx hb d_Glue_firstLeader_0 rfl (lv_at hl 0 rfl) ?_
  refine va_get (D := g.1) (ci := 5) (v := .ref h1) (C := "BoxGlue$Glue") (T := kT_Glue) (N := 7) hx hb hts ki_Glue hown hK (k_one o0) 0 rfl rfl 6 (by decide) (hts _ kw_278) (fun _ h9 => h9) rfl d_Glue_firstLeader_1 ?_
  refine lv_iload_n hx hb d_Glue_firstLeader_4 rfl (lv_at hl 1 rfl) ?_
  refine lv_iload_n hx hb d_Glue_firstLeader_5 rfl (lv_at hl 2 rfl) ?_
  refine k_pure (r := .int (f_Leaders_first f6 f7 p0 p1)) (W.runV (As := [.int p0, .int p1]) (rest := []) ⟨hx, hb, hml, hown, hts⟩ (c_Leaders_first l g s.heap h1 f6 f7 p0 p1 o1) (cwV 2 hts (kV_good kw_524 kw_521 kw_522 kw_523 kw_17) rfl rfl rfl (by decide +kernel) ⟨Nat.le_of_ble_eq_true rfl, Nat.le_of_ble_eq_true rfl⟩) (k_preV (KK_st g) hKK (va_recv hK (k_one o1) (ci := 8) (q0 := 0) rfl rfl)) rfl rfl hl.1 rfl (lv_room (Nat.le_of_ble_eq_true rfl)) d_Glue_firstLeader_6 ⟨Nat.zero_le _, Nat.zero_le _⟩) ?_
  exact W.iret (v := (f_Leaders_first f6 f7 p0 p1)) hx hb hr (fun t ht hW => ⟨_, rfl, rfl, ht⟩) (fun _ h => by cases h) d_Glue_firstLeader_9
def f_Glue_leaderStep (f0 f1 f2 f3 f4 f5 f6 f7 : Int32) (p0 : Int32) (p1 : Int32) : Int32 :=
  (f_Leaders_step f6 f7 p0 p1)
set_option maxHeartbeats 4000000 in
set_option maxRecDepth 100000 in
theorem c_Glue_leaderStep (l : Launch) (g : KGt) (H0 : Heap) (h0 h1 : Nat) (f0 f1 f2 f3 f4 f5 f6 f7 : Int32) (p0 : Int32) (p1 : Int32) (o0 : va_at g.1 kcl (h0, .inr (5, [.int f0, .int f1, .int f2, .int f3, .int f4, .int f5, .ref h1])) H0) (o1 : va_at g.1 kcl (h1, .inr (8, [.int f6, .int f7])) H0) : Met l y_Glue_leaderStep (kW y_Glue_leaderStep b_Glue_leaderStep 3 (.some .int)) ({ frames := 4, cells := 0, slots := 0, locals := 87 }) (kPc [.ref h0, .int p0, .int p1] (KK g) H0) (kQc (kPure (.int (f_Glue_leaderStep f0 f1 f2 f3 f4 f5 f6 f7 p0 p1)) H0)) 0 0 (fun _ => False) := by
  refine Met.ofW (cc := b_Glue_leaderStep) (maxL := 3) (ret := (.some .int)) (by decide) rfl ?_
  intro p e s m args below meth c s₁ B hml hv
  obtain ⟨rfl, hH, hKK⟩ := hv
  have hx := B.exec
  have hb := B.bytes
  have hr := B.returns
  have hts := kW_ts (atoms_spec (ws := kW y_Glue_leaderStep b_Glue_leaderStep 3 (.some .int)) B.pre)
  have hown : s.vm.findClass "BoxGlue$Glue" = some m.cls := findClass_of_methodNamed B.named
  have hlocks := B.notSynchronized
  have hK := hKK.1
  subst hH
  have hl := lv_entry ([.ref h0, .int p0, .int p1]) (n := 3) (Nat.le_of_ble_eq_true rfl)
  rw [lg_entry_eq]
  generalize (lg_sl ([.ref h0, .int p0, .int p1]) ++ List.replicate (3 - (lg_sl ([.ref h0, .int p0, .int p1])).length) Slot.unset).toArray = ls at hl ⊢
  have hl : lv_has ls 3 [(0, .ref h0), (1, .int p0), (2, .int p1)] := hl
  refine lv_aload_n hx hb d_Glue_leaderStep_0 rfl (lv_at hl 0 rfl) ?_
  refine va_get (D := g.1) (ci := 5) (v := .ref h1) (C := "BoxGlue$Glue") (T := kT_Glue) (N := 7) hx hb hts ki_Glue hown hK (k_one o0) 0 rfl rfl 6 (by decide) (hts _ kw_278) (fun _ h9 => h9) rfl d_Glue_leaderStep_1 ?_
  refine lv_iload_n hx hb d_Glue_leaderStep_4 rfl (lv_at hl 1 rfl) ?_
  refine lv_iload_n hx hb d_Glue_leaderStep_5 rfl (lv_at hl 2 rfl) ?_
  refine k_pure (r := .int (f_Leaders_step f6 f7 p0 p1)) (W.runV (As := [.int p0, .int p1]) (rest := []) ⟨hx, hb, hml, hown, hts⟩ (c_Leaders_step l g s.heap h1 f6 f7 p0 p1 o1) (cwV 2 hts (kV_good kw_543 kw_540 kw_541 kw_542 kw_17) rfl rfl rfl (by decide +kernel) ⟨Nat.le_of_ble_eq_true rfl, Nat.le_of_ble_eq_true rfl⟩) (k_preV (KK_st g) hKK (va_recv hK (k_one o1) (ci := 8) (q0 := 0) rfl rfl)) rfl rfl hl.1 rfl (lv_room (Nat.le_of_ble_eq_true rfl)) d_Glue_leaderStep_6 ⟨Nat.zero_le _, Nat.zero_le _⟩) ?_
  exact W.iret (v := (f_Leaders_step f6 f7 p0 p1)) hx hb hr (fun t ht hW => ⟨_, rfl, rfl, ht⟩) (fun _ h => by cases h) d_Glue_leaderStep_9
def f_Put_heightWhere (f0 f1 f2 f3 : Int32) (p0 : Int32) : Int32 :=
  f2
set_option maxHeartbeats 4000000 in
set_option maxRecDepth 100000 in
theorem c_Put_heightWhere (l : Launch) (g : KGt) (H0 : Heap) (h0 : Nat) (f0 f1 f2 f3 : Int32) (p0 : Int32) (o0 : va_at g.1 kcl (h0, .inr (4, [.int f0, .int f1, .int f2, .int f3])) H0) : Met l y_Put_heightWhere (kW y_Put_heightWhere b_Put_heightWhere 2 (.some .int)) ({ frames := 0, cells := 0, slots := 0, locals := 0 }) (kPc [.ref h0, .int p0] (KK g) H0) (kQc (kPure (.int (f_Put_heightWhere f0 f1 f2 f3 p0)) H0)) 0 0 (fun _ => False) := by
  refine Met.ofW (cc := b_Put_heightWhere) (maxL := 2) (ret := (.some .int)) (by decide) rfl ?_
  intro p e s m args below meth c s₁ B hml hv
  obtain ⟨rfl, hH, hKK⟩ := hv
  have hx := B.exec
  have hb := B.bytes
  have hr := B.returns
  have hts := kW_ts (atoms_spec (ws := kW y_Put_heightWhere b_Put_heightWhere 2 (.some .int)) B.pre)
  have hown : s.vm.findClass "BoxGlue$Put" = some m.cls := findClass_of_methodNamed B.named
  have hlocks := B.notSynchronized
  have hK := hKK.1
  subst hH
  have hl := lv_entry ([.ref h0, .int p0]) (n := 2) (Nat.le_of_ble_eq_true rfl)
  rw [lg_entry_eq]
  generalize (lg_sl ([.ref h0, .int p0]) ++ List.replicate (2 - (lg_sl ([.ref h0, .int p0])).length) Slot.unset).toArray = ls at hl ⊢
  have hl : lv_has ls 2 [(0, .ref h0), (1, .int p0)] := hl
  refine lv_aload_n hx hb d_Put_heightWhere_0 rfl (lv_at hl 0 rfl) ?_
  refine va_get (D := g.1) (ci := 4) (v := .int f2) (C := "BoxGlue$Put") (T := kT_Put) (N := 4) hx hb hts ki_Put hown hK (k_one o0) 0 rfl rfl 2 (by decide) (hts _ kw_226) (fun _ h9 => h9) rfl d_Put_heightWhere_1 ?_
  exact W.iret (v := f2) hx hb hr (fun t ht hW => ⟨_, rfl, rfl, ht⟩) (fun _ h => by cases h) d_Put_heightWhere_4
def f_Put_depthWhere (f0 f1 f2 f3 : Int32) (p0 : Int32) : Int32 :=
  f3
set_option maxHeartbeats 4000000 in
set_option maxRecDepth 100000 in
theorem c_Put_depthWhere (l : Launch) (g : KGt) (H0 : Heap) (h0 : Nat) (f0 f1 f2 f3 : Int32) (p0 : Int32) (o0 : va_at g.1 kcl (h0, .inr (4, [.int f0, .int f1, .int f2, .int f3])) H0) : Met l y_Put_depthWhere (kW y_Put_depthWhere b_Put_depthWhere 2 (.some .int)) ({ frames := 0, cells := 0, slots := 0, locals := 0 }) (kPc [.ref h0, .int p0] (KK g) H0) (kQc (kPure (.int (f_Put_depthWhere f0 f1 f2 f3 p0)) H0)) 0 0 (fun _ => False) := by
  refine Met.ofW (cc := b_Put_depthWhere) (maxL := 2) (ret := (.some .int)) (by decide) rfl ?_
  intro p e s m args below meth c s₁ B hml hv
  obtain ⟨rfl, hH, hKK⟩ := hv
  have hx := B.exec
  have hb := B.bytes
  have hr := B.returns
  have hts := kW_ts (atoms_spec (ws := kW y_Put_depthWhere b_Put_depthWhere 2 (.some .int)) B.pre)
  have hown : s.vm.findClass "BoxGlue$Put" = some m.cls := findClass_of_methodNamed B.named
  have hlocks := B.notSynchronized
  have hK := hKK.1
  subst hH
  have hl := lv_entry ([.ref h0, .int p0]) (n := 2) (Nat.le_of_ble_eq_true rfl)
  rw [lg_entry_eq]
  generalize (lg_sl ([.ref h0, .int p0]) ++ List.replicate (2 - (lg_sl ([.ref h0, .int p0])).length) Slot.unset).toArray = ls at hl ⊢
  have hl : lv_has ls 2 [(0, .ref h0), (1, .int p0)] := hl
  refine lv_aload_n hx hb d_Put_depthWhere_0 rfl (lv_at hl 0 rfl) ?_
  refine va_get (D := g.1) (ci := 4) (v := .int f3) (C := "BoxGlue$Put") (T := kT_Put) (N := 4) hx hb hts ki_Put hown hK (k_one o0) 0 rfl rfl 3 (by decide) (hts _ kw_227) (fun _ h9 => h9) rfl d_Put_depthWhere_1 ?_
  exact W.iret (v := f3) hx hb hr (fun t ht hW => ⟨_, rfl, rfl, ht⟩) (fun _ h => by cases h) d_Put_depthWhere_4
def f_Rule_heightWhere (f0 f1 f2 f3 : Int32) (p0 : Int32) : Int32 :=
  if f2 = (-1000000) then
    p0
  else
    f2
set_option maxHeartbeats 4000000 in
set_option maxRecDepth 100000 in
theorem c_Rule_heightWhere (l : Launch) (g : KGt) (H0 : Heap) (h0 : Nat) (f0 f1 f2 f3 : Int32) (p0 : Int32) (o0 : va_at g.1 kcl (h0, .inr (7, [.int f0, .int f1, .int f2, .int f3])) H0) : Met l y_Rule_heightWhere (kW y_Rule_heightWhere b_Rule_heightWhere 2 (.some .int)) ({ frames := 0, cells := 0, slots := 0, locals := 0 }) (kPc [.ref h0, .int p0] (KK g) H0) (kQc (kPure (.int (f_Rule_heightWhere f0 f1 f2 f3 p0)) H0)) 0 0 (fun _ => False) := by
  refine Met.ofW (cc := b_Rule_heightWhere) (maxL := 2) (ret := (.some .int)) (by decide) rfl ?_
  intro p e s m args below meth c s₁ B hml hv
  obtain ⟨rfl, hH, hKK⟩ := hv
  have hx := B.exec
  have hb := B.bytes
  have hr := B.returns
  have hts := kW_ts (atoms_spec (ws := kW y_Rule_heightWhere b_Rule_heightWhere 2 (.some .int)) B.pre)
  have hown : s.vm.findClass "BoxGlue$Rule" = some m.cls := findClass_of_methodNamed B.named
  have hlocks := B.notSynchronized
  have hK := hKK.1
  subst hH
  have hl := lv_entry ([.ref h0, .int p0]) (n := 2) (Nat.le_of_ble_eq_true rfl)
  rw [lg_entry_eq]
  generalize (lg_sl ([.ref h0, .int p0]) ++ List.replicate (2 - (lg_sl ([.ref h0, .int p0])).length) Slot.unset).toArray = ls at hl ⊢
  have hl : lv_has ls 2 [(0, .ref h0), (1, .int p0)] := hl
  refine lv_aload_n hx hb d_Rule_heightWhere_0 rfl (lv_at hl 0 rfl) ?_
  refine va_get (D := g.1) (ci := 7) (v := .int f2) (C := "BoxGlue$Rule") (T := kT_Rule) (N := 4) hx hb hts ki_Rule hown hK (k_one o0) 0 rfl rfl 2 (by decide) (hts _ kw_319) (fun _ h9 => h9) rfl d_Rule_heightWhere_1 ?_
  refine lv_ldc (own := "BoxGlue$Rule") (index := 18) (v := (-1000000)) hx hb hown (hts _ kw_375) d_Rule_heightWhere_4 ?_
  refine lv_icmp_ne (tgt := 13) hx hb d_Rule_heightWhere_6 (by decide) (fun c_1 => ?_) (fun c_1 => ?_)
  · skip
    refine lv_aload_n hx hb d_Rule_heightWhere_13 rfl (lv_at hl 0 rfl) ?_
    refine va_get (D := g.1) (ci := 7) (v := .int f2) (C := "BoxGlue$Rule") (T := kT_Rule) (N := 4) hx hb hts ki_Rule hown hK (k_one o0) 0 rfl rfl 2 (by decide) (hts _ kw_319) (fun _ h9 => h9) rfl d_Rule_heightWhere_14 ?_
    exact W.iret (v := f2) hx hb hr (fun t ht hW => ⟨_, rfl, (by unfold f_Rule_heightWhere; rw [if_neg c_1]), ht⟩) (fun _ h => by cases h) d_Rule_heightWhere_17
  · skip
    refine lv_iload_n hx hb d_Rule_heightWhere_9 rfl (lv_at hl 1 rfl) ?_
    refine lv_goto (tgt := 17) hx hb d_Rule_heightWhere_10 (by decide) ?_
    exact W.iret (v := p0) hx hb hr (fun t ht hW => ⟨_, rfl, (by unfold f_Rule_heightWhere; rw [if_pos c_1]), ht⟩) (fun _ h => by cases h) d_Rule_heightWhere_17
def f_Rule_depthWhere (f0 f1 f2 f3 : Int32) (p0 : Int32) : Int32 :=
  if f3 = (-1000000) then
    p0
  else
    f3
set_option maxHeartbeats 4000000 in
set_option maxRecDepth 100000 in
theorem c_Rule_depthWhere (l : Launch) (g : KGt) (H0 : Heap) (h0 : Nat) (f0 f1 f2 f3 : Int32) (p0 : Int32) (o0 : va_at g.1 kcl (h0, .inr (7, [.int f0, .int f1, .int f2, .int f3])) H0) : Met l y_Rule_depthWhere (kW y_Rule_depthWhere b_Rule_depthWhere 2 (.some .int)) ({ frames := 0, cells := 0, slots := 0, locals := 0 }) (kPc [.ref h0, .int p0] (KK g) H0) (kQc (kPure (.int (f_Rule_depthWhere f0 f1 f2 f3 p0)) H0)) 0 0 (fun _ => False) := by
  refine Met.ofW (cc := b_Rule_depthWhere) (maxL := 2) (ret := (.some .int)) (by decide) rfl ?_
  intro p e s m args below meth c s₁ B hml hv
  obtain ⟨rfl, hH, hKK⟩ := hv
  have hx := B.exec
  have hb := B.bytes
  have hr := B.returns
  have hts := kW_ts (atoms_spec (ws := kW y_Rule_depthWhere b_Rule_depthWhere 2 (.some .int)) B.pre)
  have hown : s.vm.findClass "BoxGlue$Rule" = some m.cls := findClass_of_methodNamed B.named
  have hlocks := B.notSynchronized
  have hK := hKK.1
  subst hH
  have hl := lv_entry ([.ref h0, .int p0]) (n := 2) (Nat.le_of_ble_eq_true rfl)
  rw [lg_entry_eq]
  generalize (lg_sl ([.ref h0, .int p0]) ++ List.replicate (2 - (lg_sl ([.ref h0, .int p0])).length) Slot.unset).toArray = ls at hl ⊢
  have hl : lv_has ls 2 [(0, .ref h0), (1, .int p0)] := hl
  refine lv_aload_n hx hb d_Rule_depthWhere_0 rfl (lv_at hl 0 rfl) ?_
  refine va_get (D := g.1) (ci := 7) (v := .int f3) (C := "BoxGlue$Rule") (T := kT_Rule) (N := 4) hx hb hts ki_Rule hown hK (k_one o0) 0 rfl rfl 3 (by decide) (hts _ kw_320) (fun _ h9 => h9) rfl d_Rule_depthWhere_1 ?_
  refine lv_ldc (own := "BoxGlue$Rule") (index := 18) (v := (-1000000)) hx hb hown (hts _ kw_375) d_Rule_depthWhere_4 ?_
  refine lv_icmp_ne (tgt := 13) hx hb d_Rule_depthWhere_6 (by decide) (fun c_1 => ?_) (fun c_1 => ?_)
  · skip
    refine lv_aload_n hx hb d_Rule_depthWhere_13 rfl (lv_at hl 0 rfl) ?_
    refine va_get (D := g.1) (ci := 7) (v := .int f3) (C := "BoxGlue$Rule") (T := kT_Rule) (N := 4) hx hb hts ki_Rule hown hK (k_one o0) 0 rfl rfl 3 (by decide) (hts _ kw_320) (fun _ h9 => h9) rfl d_Rule_depthWhere_14 ?_
    exact W.iret (v := f3) hx hb hr (fun t ht hW => ⟨_, rfl, (by unfold f_Rule_depthWhere; rw [if_neg c_1]), ht⟩) (fun _ h => by cases h) d_Rule_depthWhere_17
  · skip
    refine lv_iload_n hx hb d_Rule_depthWhere_9 rfl (lv_at hl 1 rfl) ?_
    refine lv_goto (tgt := 17) hx hb d_Rule_depthWhere_10 (by decide) ?_
    exact W.iret (v := p0) hx hb hr (fun t ht hW => ⟨_, rfl, (by unfold f_Rule_depthWhere; rw [if_pos c_1]), ht⟩) (fun _ h => by cases h) d_Rule_depthWhere_17
def f_Fit_over (f0 f1 f2 f3 : Int32) : Int32 :=
  if 0 ≤ f2 then
    0
  else
    if 0 < f1 then
      0
    else
      (if ((-f2) - f3) < 0 then 0 else ((-f2) - f3))
set_option maxHeartbeats 4000000 in
set_option maxRecDepth 100000 in
theorem c_Fit_over (l : Launch) (g : KGt) (H0 : Heap) (h0 : Nat) (f0 f1 f2 f3 : Int32) (o0 : va_at g.1 kcl (h0, .inr (3, [.int f0, .int f1, .int f2, .int f3])) H0) : Met l y_Fit_over (kW y_Fit_over b_Fit_over 1 (.some .int)) ({ frames := 1, cells := 0, slots := 0, locals := 21 }) (kPc [.ref h0] (KK g) H0) (kQc (kPure (.int (f_Fit_over f0 f1 f2 f3)) H0)) 0 0 (fun _ => False) := by
  refine Met.ofW (cc := b_Fit_over) (maxL := 1) (ret := (.some .int)) (by decide) rfl ?_
  intro p e s m args below meth c s₁ B hml hv
  obtain ⟨rfl, hH, hKK⟩ := hv
  have hx := B.exec
  have hb := B.bytes
  have hr := B.returns
  have hts := kW_ts (atoms_spec (ws := kW y_Fit_over b_Fit_over 1 (.some .int)) B.pre)
  have hown : s.vm.findClass "BoxGlue$Fit" = some m.cls := findClass_of_methodNamed B.named
  have hlocks := B.notSynchronized
  have hK := hKK.1
  subst hH
  have hl := lv_entry ([.ref h0]) (n := 1) (Nat.le_of_ble_eq_true rfl)
  rw [lg_entry_eq]
  generalize (lg_sl ([.ref h0]) ++ List.replicate (1 - (lg_sl ([.ref h0])).length) Slot.unset).toArray = ls at hl ⊢
  have hl : lv_has ls 1 [(0, .ref h0)] := hl
  refine lv_aload_n hx hb d_Fit_over_0 rfl (lv_at hl 0 rfl) ?_
  refine va_get (D := g.1) (ci := 3) (v := .int f2) (C := "BoxGlue$Fit") (T := kT_Fit) (N := 4) hx hb hts ki_Fit hown hK (k_one o0) 0 rfl rfl 2 (by decide) (hts _ kw_92) (fun _ h9 => h9) rfl d_Fit_over_1 ?_
  refine lv_if_ge (tgt := 31) hx hb d_Fit_over_4 (by decide) (fun c_1 => ?_) (fun c_1 => ?_)
  · skip
    refine lv_iconst (v := 0) hx hb d_Fit_over_31 (by decide) ?_
    exact W.iret (v := 0) hx hb hr (fun t ht hW => ⟨_, rfl, (by unfold f_Fit_over; rw [if_pos c_1]), ht⟩) (fun _ h => by cases h) d_Fit_over_32
  · skip
    refine lv_aload_n hx hb d_Fit_over_7 rfl (lv_at hl 0 rfl) ?_
    refine va_get (D := g.1) (ci := 3) (v := .int f1) (C := "BoxGlue$Fit") (T := kT_Fit) (N := 4) hx hb hts ki_Fit hown hK (k_one o0) 0 rfl rfl 1 (by decide) (hts _ kw_90) (fun _ h9 => h9) rfl d_Fit_over_8 ?_
    refine lv_if_gt (tgt := 31) hx hb d_Fit_over_11 (by decide) (fun c_2 => ?_) (fun c_2 => ?_)
    · skip
      refine lv_iconst (v := 0) hx hb d_Fit_over_31 (by decide) ?_
      exact W.iret (v := 0) hx hb hr (fun t ht hW => ⟨_, rfl, (by unfold f_Fit_over; rw [if_neg c_1, if_pos c_2]), ht⟩) (fun _ h => by cases h) d_Fit_over_32
    · skip
      refine lv_aload_n hx hb d_Fit_over_14 rfl (lv_at hl 0 rfl) ?_
      refine va_get (D := g.1) (ci := 3) (v := .int f2) (C := "BoxGlue$Fit") (T := kT_Fit) (N := 4) hx hb hts ki_Fit hown hK (k_one o0) 0 rfl rfl 2 (by decide) (hts _ kw_92) (fun _ h9 => h9) rfl d_Fit_over_15 ?_
      refine lv_ineg hx hb d_Fit_over_18 ?_
      refine lv_aload_n hx hb d_Fit_over_19 rfl (lv_at hl 0 rfl) ?_
      refine va_get (D := g.1) (ci := 3) (v := .int f3) (C := "BoxGlue$Fit") (T := kT_Fit) (N := 4) hx hb hts ki_Fit hown hK (k_one o0) 0 rfl rfl 3 (by decide) (hts _ kw_93) (fun _ h9 => h9) rfl d_Fit_over_20 ?_
      refine lv_isub hx hb d_Fit_over_23 ?_
      refine lv_iconst (v := 0) hx hb d_Fit_over_24 (by decide) ?_
      refine va_mmax (x := ((-f2) - f3)) (y := 0) hx hb (hml.trans hl.1.symm) hown (hts _ kw_431) (hts _ kw_152) (hts _ kw_9) (hts _ kw_153) (Nat.le_of_ble_eq_true rfl) (Nat.le_of_ble_eq_true rfl) (Nat.zero_le _) (Nat.zero_le _) d_Fit_over_25 ?_
      refine lv_goto (tgt := 32) hx hb d_Fit_over_28 (by decide) ?_
      exact W.iret (v := (if ((-f2) - f3) < 0 then 0 else ((-f2) - f3))) hx hb hr (fun t ht hW => ⟨_, rfl, (by unfold f_Fit_over; rw [if_neg c_1, if_neg c_2]), ht⟩) (fun _ h => by cases h) d_Fit_over_32
def f_Fit_share (f0 f1 f2 f3 : Int32) (p0 : Int32) : Int32 :=
  if f3 = 0 then
    0
  else
    (((((f2 + (f_Fit_over f0 f1 f2 f3))).toInt64 * (p0).toInt64) / (f3).toInt64)).toInt32
set_option maxHeartbeats 4000000 in
set_option maxRecDepth 100000 in
theorem c_Fit_share (l : Launch) (g : KGt) (H0 : Heap) (h0 : Nat) (f0 f1 f2 f3 : Int32) (p0 : Int32) (o0 : va_at g.1 kcl (h0, .inr (3, [.int f0, .int f1, .int f2, .int f3])) H0) : Met l y_Fit_share (kW y_Fit_share b_Fit_share 4 (.some .int)) ({ frames := 2, cells := 0, slots := 0, locals := 41 }) (kPc [.ref h0, .int p0] (KK g) H0) (kQc (kPure (.int (f_Fit_share f0 f1 f2 f3 p0)) H0)) 0 0 (fun _ => False) := by
  refine Met.ofW (cc := b_Fit_share) (maxL := 4) (ret := (.some .int)) (by decide) rfl ?_
  intro p e s m args below meth c s₁ B hml hv
  obtain ⟨rfl, hH, hKK⟩ := hv
  have hx := B.exec
  have hb := B.bytes
  have hr := B.returns
  have hts := kW_ts (atoms_spec (ws := kW y_Fit_share b_Fit_share 4 (.some .int)) B.pre)
  have hown : s.vm.findClass "BoxGlue$Fit" = some m.cls := findClass_of_methodNamed B.named
  have hlocks := B.notSynchronized
  have hK := hKK.1
  subst hH
  have hl := lv_entry ([.ref h0, .int p0]) (n := 4) (Nat.le_of_ble_eq_true rfl)
  rw [lg_entry_eq]
  generalize (lg_sl ([.ref h0, .int p0]) ++ List.replicate (4 - (lg_sl ([.ref h0, .int p0])).length) Slot.unset).toArray = ls at hl ⊢
  have hl : lv_has ls 4 [(0, .ref h0), (1, .int p0)] := hl
  refine lv_aload_n hx hb d_Fit_share_0 rfl (lv_at hl 0 rfl) ?_
  refine va_get (D := g.1) (ci := 3) (v := .int f3) (C := "BoxGlue$Fit") (T := kT_Fit) (N := 4) hx hb hts ki_Fit hown hK (k_one o0) 0 rfl rfl 3 (by decide) (hts _ kw_93) (fun _ h9 => h9) rfl d_Fit_share_1 ?_
  refine lv_if_ne (tgt := 9) hx hb d_Fit_share_4 (by decide) (fun c_1 => ?_) (fun c_1 => ?_)
  · skip
    refine lv_aload_n hx hb d_Fit_share_9 rfl (lv_at hl 0 rfl) ?_
    refine va_get (D := g.1) (ci := 3) (v := .int f2) (C := "BoxGlue$Fit") (T := kT_Fit) (N := 4) hx hb hts ki_Fit hown hK (k_one o0) 0 rfl rfl 2 (by decide) (hts _ kw_92) (fun _ h9 => h9) rfl d_Fit_share_10 ?_
    refine lv_aload_n hx hb d_Fit_share_13 rfl (lv_at hl 0 rfl) ?_
    refine k_pure (r := .int (f_Fit_over f0 f1 f2 f3)) (W.runV (As := []) (rest := [.int f2]) ⟨hx, hb, hml, hown, hts⟩ (c_Fit_over l g s.heap h0 f0 f1 f2 f3 o0) (cwV 0 hts (kV_good kw_430 kw_427 kw_428 kw_429 kw_7) rfl rfl rfl (by decide +kernel) ⟨Nat.le_of_ble_eq_true rfl, Nat.le_of_ble_eq_true rfl⟩) (k_preV (KK_st g) hKK (va_recv hK (k_one o0) (ci := 3) (q0 := 0) rfl rfl)) rfl rfl hl.1 rfl (lv_room (Nat.le_of_ble_eq_true rfl)) d_Fit_share_14 ⟨Nat.zero_le _, Nat.zero_le _⟩) ?_
    refine lv_iadd hx hb d_Fit_share_17 ?_
    refine lv_i2l hx hb d_Fit_share_18 rfl ?_
    refine lv_lstore_n (lv' := [(2, .long ((f2 + (f_Fit_over f0 f1 f2 f3))).toInt64), (0, .ref h0), (1, .int p0)]) hx hb d_Fit_share_19 rfl hl (by decide) rfl (fun ls hl => ?_)
    refine lv_lload_n hx hb d_Fit_share_20 rfl (lv_at hl 0 rfl) ?_
    refine lv_iload_n hx hb d_Fit_share_21 rfl (lv_at hl 2 rfl) ?_
    refine lv_i2l hx hb d_Fit_share_22 rfl ?_
    refine lv_lmul hx hb d_Fit_share_23 ?_
    refine lv_aload_n hx hb d_Fit_share_24 rfl (lv_at hl 1 rfl) ?_
    refine va_get (D := g.1) (ci := 3) (v := .int f3) (C := "BoxGlue$Fit") (T := kT_Fit) (N := 4) hx hb hts ki_Fit hown hK (k_one o0) 0 rfl rfl 3 (by decide) (hts _ kw_93) (fun _ h9 => h9) rfl d_Fit_share_25 ?_
    refine lv_i2l hx hb d_Fit_share_28 rfl ?_
    refine lv_ldiv hx hb d_Fit_share_29 (k_l0 c_1) ?_
    refine lv_l2i hx hb d_Fit_share_30 rfl ?_
    exact W.iret (v := (((((f2 + (f_Fit_over f0 f1 f2 f3))).toInt64 * (p0).toInt64) / (f3).toInt64)).toInt32) hx hb hr (fun t ht hW => ⟨_, rfl, (by unfold f_Fit_share; rw [if_neg c_1]), ht⟩) (fun _ h => by cases h) d_Fit_share_31
  · skip
    refine lv_iconst (v := 0) hx hb d_Fit_share_7 (by decide) ?_
    exact W.iret (v := 0) hx hb hr (fun t ht hW => ⟨_, rfl, (by unfold f_Fit_share; rw [if_pos c_1]), ht⟩) (fun _ h => by cases h) d_Fit_share_8
def f_Fit_change (f0 f1 f2 f3 : Int32) (p0 : Int32) (p1 : Int32) : Int32 :=
  ((f_Fit_share f0 f1 f2 f3 p1) - (f_Fit_share f0 f1 f2 f3 p0))
set_option maxHeartbeats 4000000 in
set_option maxRecDepth 100000 in
theorem c_Fit_change (l : Launch) (g : KGt) (H0 : Heap) (h0 : Nat) (f0 f1 f2 f3 : Int32) (p0 : Int32) (p1 : Int32) (o0 : va_at g.1 kcl (h0, .inr (3, [.int f0, .int f1, .int f2, .int f3])) H0) : Met l y_Fit_change (kW y_Fit_change b_Fit_change 3 (.some .int)) ({ frames := 3, cells := 0, slots := 0, locals := 64 }) (kPc [.ref h0, .int p0, .int p1] (KK g) H0) (kQc (kPure (.int (f_Fit_change f0 f1 f2 f3 p0 p1)) H0)) 0 0 (fun _ => False) := by
  refine Met.ofW (cc := b_Fit_change) (maxL := 3) (ret := (.some .int)) (by decide) rfl ?_
  intro p e s m args below meth c s₁ B hml hv
  obtain ⟨rfl, hH, hKK⟩ := hv
  have hx := B.exec
  have hb := B.bytes
  have hr := B.returns
  have hts := kW_ts (atoms_spec (ws := kW y_Fit_change b_Fit_change 3 (.some .int)) B.pre)
  have hown : s.vm.findClass "BoxGlue$Fit" = some m.cls := findClass_of_methodNamed B.named
  have hlocks := B.notSynchronized
  have hK := hKK.1
  subst hH
  have hl := lv_entry ([.ref h0, .int p0, .int p1]) (n := 3) (Nat.le_of_ble_eq_true rfl)
  rw [lg_entry_eq]
  generalize (lg_sl ([.ref h0, .int p0, .int p1]) ++ List.replicate (3 - (lg_sl ([.ref h0, .int p0, .int p1])).length) Slot.unset).toArray = ls at hl ⊢
  have hl : lv_has ls 3 [(0, .ref h0), (1, .int p0), (2, .int p1)] := hl
  refine lv_aload_n hx hb d_Fit_change_0 rfl (lv_at hl 0 rfl) ?_
  refine lv_iload_n hx hb d_Fit_change_1 rfl (lv_at hl 2 rfl) ?_
  refine k_pure (r := .int (f_Fit_share f0 f1 f2 f3 p1)) (W.runV (As := [.int p1]) (rest := []) ⟨hx, hb, hml, hown, hts⟩ (c_Fit_share l g s.heap h0 f0 f1 f2 f3 p1 o0) (cwV 1 hts (kV_good kw_426 kw_423 kw_425 ks_Fit_share kw_7) rfl rfl rfl (by decide +kernel) ⟨Nat.le_of_ble_eq_true rfl, Nat.le_of_ble_eq_true rfl⟩) (k_preV (KK_st g) hKK (va_recv hK (k_one o0) (ci := 3) (q0 := 0) rfl rfl)) rfl rfl hl.1 rfl (lv_room (Nat.le_of_ble_eq_true rfl)) d_Fit_change_2 ⟨Nat.zero_le _, Nat.zero_le _⟩) ?_
  refine lv_aload_n hx hb d_Fit_change_5 rfl (lv_at hl 0 rfl) ?_
  refine lv_iload_n hx hb d_Fit_change_6 rfl (lv_at hl 1 rfl) ?_
  refine k_pure (r := .int (f_Fit_share f0 f1 f2 f3 p0)) (W.runV (As := [.int p0]) (rest := [.int (f_Fit_share f0 f1 f2 f3 p1)]) ⟨hx, hb, hml, hown, hts⟩ (c_Fit_share l g s.heap h0 f0 f1 f2 f3 p0 o0) (cwV 1 hts (kV_good kw_426 kw_423 kw_425 ks_Fit_share kw_7) rfl rfl rfl (by decide +kernel) ⟨Nat.le_of_ble_eq_true rfl, Nat.le_of_ble_eq_true rfl⟩) (k_preV (KK_st g) hKK (va_recv hK (k_one o0) (ci := 3) (q0 := 0) rfl rfl)) rfl rfl hl.1 rfl (lv_room (Nat.le_of_ble_eq_true rfl)) d_Fit_change_7 ⟨Nat.zero_le _, Nat.zero_le _⟩) ?_
  refine lv_isub hx hb d_Fit_change_10 ?_
  exact W.iret (v := ((f_Fit_share f0 f1 f2 f3 p1) - (f_Fit_share f0 f1 f2 f3 p0))) hx hb hr (fun t ht hW => ⟨_, rfl, rfl, ht⟩) (fun _ h => by cases h) d_Fit_change_11
def f_Fit_cubed (f0 f1 f2 f3 : Int32) (p0 : Int64) : Int32 :=
  if f3 = 0 then
    10000
  else
    if (lg_cmp p0 (5 * (f3).toInt64)) < 0 then
      ((if 10000 < ((((100 * p0) * p0) * p0) / (((f3).toInt64 * (f3).toInt64) * (f3).toInt64)) then 10000 else ((((100 * p0) * p0) * p0) / (((f3).toInt64 * (f3).toInt64) * (f3).toInt64)))).toInt32
    else
      10000
set_option maxHeartbeats 4000000 in
set_option maxRecDepth 100000 in
theorem c_Fit_cubed (l : Launch) (g : KGt) (H0 : Heap) (h0 : Nat) (f0 f1 f2 f3 : Int32) (p0 : Int64) (o0 : va_at g.1 kcl (h0, .inr (3, [.int f0, .int f1, .int f2, .int f3])) H0) (hz : ¬ f3 = 0 → ¬ (((f3).toInt64 * (f3).toInt64) * (f3).toInt64) = 0) : Met l y_Fit_cubed (kW y_Fit_cubed b_Fit_cubed 7 (.some .int)) ({ frames := 1, cells := 0, slots := 0, locals := 23 }) (kPc [.ref h0, .long p0] (KK g) H0) (kQc (kPure (.int (f_Fit_cubed f0 f1 f2 f3 p0)) H0)) 0 0 (fun _ => False) := by
  refine Met.ofW (cc := b_Fit_cubed) (maxL := 7) (ret := (.some .int)) (by decide) rfl ?_
  intro p e s m args below meth c s₁ B hml hv
  obtain ⟨rfl, hH, hKK⟩ := hv
  have hx := B.exec
  have hb := B.bytes
  have hr := B.returns
  have hts := kW_ts (atoms_spec (ws := kW y_Fit_cubed b_Fit_cubed 7 (.some .int)) B.pre)
  have hown : s.vm.findClass "BoxGlue$Fit" = some m.cls := findClass_of_methodNamed B.named
  have hlocks := B.notSynchronized
  have hK := hKK.1
  subst hH
  have hl := lv_entry ([.ref h0, .long p0]) (n := 7) (Nat.le_of_ble_eq_true rfl)
  rw [lg_entry_eq]
  generalize (lg_sl ([.ref h0, .long p0]) ++ List.replicate (7 - (lg_sl ([.ref h0, .long p0])).length) Slot.unset).toArray = ls at hl ⊢
  have hl : lv_has ls 7 [(0, .ref h0), (1, .long p0)] := hl
  refine lv_aload_n hx hb d_Fit_cubed_0 rfl (lv_at hl 0 rfl) ?_
  refine va_get (D := g.1) (ci := 3) (v := .int f3) (C := "BoxGlue$Fit") (T := kT_Fit) (N := 4) hx hb hts ki_Fit hown hK (k_one o0) 0 rfl rfl 3 (by decide) (hts _ kw_93) (fun _ h9 => h9) rfl d_Fit_cubed_1 ?_
  refine lv_if_eq (tgt := 21) hx hb d_Fit_cubed_4 (by decide) (fun c_1 => ?_) (fun c_1 => ?_)
  · skip
    refine lv_sipush (v := 10000) hx hb d_Fit_cubed_21 (by decide) ?_
    exact W.iret (v := 10000) hx hb hr (fun t ht hW => ⟨_, rfl, (by unfold f_Fit_cubed; rw [if_pos c_1]), ht⟩) (fun _ h => by cases h) d_Fit_cubed_24
  · skip
    refine lv_lload_n hx hb d_Fit_cubed_7 rfl (lv_at hl 1 rfl) ?_
    refine lv_ldc2 (own := "BoxGlue$Fit") (index := 77) (v := 5) hx hb hown (hts _ kw_479) d_Fit_cubed_8 ?_
    refine lv_aload_n hx hb d_Fit_cubed_11 rfl (lv_at hl 0 rfl) ?_
    refine va_get (D := g.1) (ci := 3) (v := .int f3) (C := "BoxGlue$Fit") (T := kT_Fit) (N := 4) hx hb hts ki_Fit hown hK (k_one o0) 0 rfl rfl 3 (by decide) (hts _ kw_93) (fun _ h9 => h9) rfl d_Fit_cubed_12 ?_
    refine lv_i2l hx hb d_Fit_cubed_15 rfl ?_
    refine lv_lmul hx hb d_Fit_cubed_16 ?_
    refine W.lcmp hx hb d_Fit_cubed_17 ?_
    refine lv_if_lt (tgt := 25) hx hb d_Fit_cubed_18 (by decide) (fun c_2 => ?_) (fun c_2 => ?_)
    · skip
      refine lv_aload_n hx hb d_Fit_cubed_25 rfl (lv_at hl 0 rfl) ?_
      refine va_get (D := g.1) (ci := 3) (v := .int f3) (C := "BoxGlue$Fit") (T := kT_Fit) (N := 4) hx hb hts ki_Fit hown hK (k_one o0) 0 rfl rfl 3 (by decide) (hts _ kw_93) (fun _ h9 => h9) rfl d_Fit_cubed_26 ?_
      refine lv_i2l hx hb d_Fit_cubed_29 rfl ?_
      refine lv_lstore_n (lv' := [(3, .long (f3).toInt64), (0, .ref h0), (1, .long p0)]) hx hb d_Fit_cubed_30 rfl hl (by decide) rfl (fun ls hl => ?_)
      refine lv_ldc2 (own := "BoxGlue$Fit") (index := 79) (v := 100) hx hb hown (hts _ kw_480) d_Fit_cubed_31 ?_
      refine lv_lload_n hx hb d_Fit_cubed_34 rfl (lv_at hl 2 rfl) ?_
      refine lv_lmul hx hb d_Fit_cubed_35 ?_
      refine lv_lload_n hx hb d_Fit_cubed_36 rfl (lv_at hl 2 rfl) ?_
      refine lv_lmul hx hb d_Fit_cubed_37 ?_
      refine lv_lload_n hx hb d_Fit_cubed_38 rfl (lv_at hl 2 rfl) ?_
      refine lv_lmul hx hb d_Fit_cubed_39 ?_
      refine lv_lload_n hx hb d_Fit_cubed_40 rfl (lv_at hl 0 rfl) ?_
      refine lv_lload_n hx hb d_Fit_cubed_41 rfl (lv_at hl 0 rfl) ?_
      refine lv_lmul hx hb d_Fit_cubed_42 ?_
      refine lv_lload_n hx hb d_Fit_cubed_43 rfl (lv_at hl 0 rfl) ?_
      refine lv_lmul hx hb d_Fit_cubed_44 ?_
      refine lv_ldiv hx hb d_Fit_cubed_45 (hz c_1) ?_
      refine lv_lstore (lv' := [(5, .long ((((100 * p0) * p0) * p0) / (((f3).toInt64 * (f3).toInt64) * (f3).toInt64))), (3, .long (f3).toInt64), (0, .ref h0), (1, .long p0)]) hx hb d_Fit_cubed_46 hl (by decide) rfl (fun ls hl => ?_)
      refine lv_lload hx hb d_Fit_cubed_48 (lv_at hl 0 rfl) ?_
      refine lv_ldc2 (own := "BoxGlue$Fit") (index := 81) (v := 10000) hx hb hown (hts _ kw_481) d_Fit_cubed_50 ?_
      refine va_mmin_long (x := ((((100 * p0) * p0) * p0) / (((f3).toInt64 * (f3).toInt64) * (f3).toInt64))) (y := 10000) hx hb (hml.trans hl.1.symm) hown (hts _ kw_482) (hts _ kw_483) (hts _ kw_9) (hts _ kw_484) (Nat.le_of_ble_eq_true rfl) (Nat.le_of_ble_eq_true rfl) (Nat.zero_le _) (Nat.zero_le _) d_Fit_cubed_53 ?_
      refine lv_l2i hx hb d_Fit_cubed_56 rfl ?_
      exact W.iret (v := ((if 10000 < ((((100 * p0) * p0) * p0) / (((f3).toInt64 * (f3).toInt64) * (f3).toInt64)) then 10000 else ((((100 * p0) * p0) * p0) / (((f3).toInt64 * (f3).toInt64) * (f3).toInt64)))).toInt32) hx hb hr (fun t ht hW => ⟨_, rfl, (by unfold f_Fit_cubed; rw [if_neg c_1, if_pos c_2]), ht⟩) (fun _ h => by cases h) d_Fit_cubed_57
    · skip
      refine lv_sipush (v := 10000) hx hb d_Fit_cubed_21 (by decide) ?_
      exact W.iret (v := 10000) hx hb hr (fun t ht hW => ⟨_, rfl, (by unfold f_Fit_cubed; rw [if_neg c_1, if_neg c_2]), ht⟩) (fun _ h => by cases h) d_Fit_cubed_24
def f_Fit_badness (f0 f1 f2 f3 : Int32) : Int32 :=
  if f2 = 0 then
    0
  else
    if f1 ≤ 0 then
      if (f_Fit_over f0 f1 f2 f3) ≤ 0 then
        (f_Fit_cubed f0 f1 f2 f3 (((if 0 ≤ f2 then f2 else 0 - f2)).toInt64))
      else
        1000000
    else
      0
set_option maxHeartbeats 4000000 in
set_option maxRecDepth 100000 in
theorem c_Fit_badness (l : Launch) (g : KGt) (H0 : Heap) (h0 : Nat) (f0 f1 f2 f3 : Int32) (o0 : va_at g.1 kcl (h0, .inr (3, [.int f0, .int f1, .int f2, .int f3])) H0) (hz : ¬ f3 = 0 → ¬ (((f3).toInt64 * (f3).toInt64) * (f3).toInt64) = 0) : Met l y_Fit_badness (kW y_Fit_badness b_Fit_badness 1 (.some .int)) ({ frames := 2, cells := 0, slots := 0, locals := 49 }) (kPc [.ref h0] (KK g) H0) (kQc (kPure (.int (f_Fit_badness f0 f1 f2 f3)) H0)) 0 0 (fun _ => False) := by
  refine Met.ofW (cc := b_Fit_badness) (maxL := 1) (ret := (.some .int)) (by decide) rfl ?_
  intro p e s m args below meth c s₁ B hml hv
  obtain ⟨rfl, hH, hKK⟩ := hv
  have hx := B.exec
  have hb := B.bytes
  have hr := B.returns
  have hts := kW_ts (atoms_spec (ws := kW y_Fit_badness b_Fit_badness 1 (.some .int)) B.pre)
  have hown : s.vm.findClass "BoxGlue$Fit" = some m.cls := findClass_of_methodNamed B.named
  have hlocks := B.notSynchronized
  have hK := hKK.1
  subst hH
  have hl := lv_entry ([.ref h0]) (n := 1) (Nat.le_of_ble_eq_true rfl)
  rw [lg_entry_eq]
  generalize (lg_sl ([.ref h0]) ++ List.replicate (1 - (lg_sl ([.ref h0])).length) Slot.unset).toArray = ls at hl ⊢
  have hl : lv_has ls 1 [(0, .ref h0)] := hl
  refine lv_aload_n hx hb d_Fit_badness_0 rfl (lv_at hl 0 rfl) ?_
  refine va_get (D := g.1) (ci := 3) (v := .int f2) (C := "BoxGlue$Fit") (T := kT_Fit) (N := 4) hx hb hts ki_Fit hown hK (k_one o0) 0 rfl rfl 2 (by decide) (hts _ kw_92) (fun _ h9 => h9) rfl d_Fit_badness_1 ?_
  refine lv_if_eq (tgt := 14) hx hb d_Fit_badness_4 (by decide) (fun c_1 => ?_) (fun c_1 => ?_)
  · skip
    refine lv_iconst (v := 0) hx hb d_Fit_badness_14 (by decide) ?_
    exact W.iret (v := 0) hx hb hr (fun t ht hW => ⟨_, rfl, (by unfold f_Fit_badness; rw [if_pos c_1]), ht⟩) (fun _ h => by cases h) d_Fit_badness_15
  · skip
    refine lv_aload_n hx hb d_Fit_badness_7 rfl (lv_at hl 0 rfl) ?_
    refine va_get (D := g.1) (ci := 3) (v := .int f1) (C := "BoxGlue$Fit") (T := kT_Fit) (N := 4) hx hb hts ki_Fit hown hK (k_one o0) 0 rfl rfl 1 (by decide) (hts _ kw_90) (fun _ h9 => h9) rfl d_Fit_badness_8 ?_
    refine lv_if_le (tgt := 16) hx hb d_Fit_badness_11 (by decide) (fun c_2 => ?_) (fun c_2 => ?_)
    · skip
      refine lv_aload_n hx hb d_Fit_badness_16 rfl (lv_at hl 0 rfl) ?_
      refine k_pure (r := .int (f_Fit_over f0 f1 f2 f3)) (W.runV (As := []) (rest := []) ⟨hx, hb, hml, hown, hts⟩ (c_Fit_over l g s.heap h0 f0 f1 f2 f3 o0) (cwV 0 hts (kV_good kw_430 kw_427 kw_428 kw_429 kw_7) rfl rfl rfl (by decide +kernel) ⟨Nat.le_of_ble_eq_true rfl, Nat.le_of_ble_eq_true rfl⟩) (k_preV (KK_st g) hKK (va_recv hK (k_one o0) (ci := 3) (q0 := 0) rfl rfl)) rfl rfl hl.1 rfl (lv_room (Nat.le_of_ble_eq_true rfl)) d_Fit_badness_17 ⟨Nat.zero_le _, Nat.zero_le _⟩) ?_
      refine lv_if_le (tgt := 26) hx hb d_Fit_badness_20 (by decide) (fun c_3 => ?_) (fun c_3 => ?_)
      · skip
        refine lv_aload_n hx hb d_Fit_badness_26 rfl (lv_at hl 0 rfl) ?_
        refine lv_aload_n hx hb d_Fit_badness_27 rfl (lv_at hl 0 rfl) ?_
        refine va_get (D := g.1) (ci := 3) (v := .int f2) (C := "BoxGlue$Fit") (T := kT_Fit) (N := 4) hx hb hts ki_Fit hown hK (k_one o0) 0 rfl rfl 2 (by decide) (hts _ kw_92) (fun _ h9 => h9) rfl d_Fit_badness_28 ?_
        refine va_mabs (x := f2) hx hb (hml.trans hl.1.symm) hown (hts _ kw_472) (hts _ kw_473) (hts _ kw_9) (hts _ kw_474) (Nat.le_of_ble_eq_true rfl) (Nat.le_of_ble_eq_true rfl) (Nat.zero_le _) (Nat.zero_le _) d_Fit_badness_31 ?_
        refine lv_i2l hx hb d_Fit_badness_34 rfl ?_
        refine k_pure (r := .int (f_Fit_cubed f0 f1 f2 f3 (((if 0 ≤ f2 then f2 else 0 - f2)).toInt64))) (W.runV (As := [.long ((if 0 ≤ f2 then f2 else 0 - f2)).toInt64]) (rest := []) ⟨hx, hb, hml, hown, hts⟩ (c_Fit_cubed l g s.heap h0 f0 f1 f2 f3 (((if 0 ≤ f2 then f2 else 0 - f2)).toInt64) o0 hz) (cwV 1 hts (kV_good kw_478 kw_475 kw_477 ks_Fit_cubed kw_7) rfl rfl rfl (by decide +kernel) ⟨Nat.le_of_ble_eq_true rfl, Nat.le_of_ble_eq_true rfl⟩) (k_preV (KK_st g) hKK (va_recv hK (k_one o0) (ci := 3) (q0 := 0) rfl rfl)) rfl rfl hl.1 rfl (lv_room (Nat.le_of_ble_eq_true rfl)) d_Fit_badness_35 ⟨Nat.zero_le _, Nat.zero_le _⟩) ?_
        exact W.iret (v := (f_Fit_cubed f0 f1 f2 f3 (((if 0 ≤ f2 then f2 else 0 - f2)).toInt64))) hx hb hr (fun t ht hW => ⟨_, rfl, (by unfold f_Fit_badness; rw [if_neg c_1, if_pos c_2, if_pos c_3]), ht⟩) (fun _ h => by cases h) d_Fit_badness_38
      · skip
        refine lv_ldc (own := "BoxGlue$Fit") (index := 69) (v := 1000000) hx hb hown (hts _ kw_471) d_Fit_badness_23 ?_
        exact W.iret (v := 1000000) hx hb hr (fun t ht hW => ⟨_, rfl, (by unfold f_Fit_badness; rw [if_neg c_1, if_pos c_2, if_neg c_3]), ht⟩) (fun _ h => by cases h) d_Fit_badness_25
    · skip
      refine lv_iconst (v := 0) hx hb d_Fit_badness_14 (by decide) ?_
      exact W.iret (v := 0) hx hb hr (fun t ht hW => ⟨_, rfl, (by unfold f_Fit_badness; rw [if_neg c_1, if_neg c_2]), ht⟩) (fun _ h => by cases h) d_Fit_badness_15

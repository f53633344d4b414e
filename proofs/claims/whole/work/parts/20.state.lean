/-! BoxGlue: its state -/
/-- a box: 0 length, 1 height, 2 depth, 3 own length, 4 order, 5 missing, 6 sum; how many items; the items; places; lengths -/
abbrev BxT : Type := (Nat → Int32) × Nat × (Nat → Nat → Int32) × (Nat → Int32) × (Nat → Int32)
def kBox (g : KGt) (I : Nat → Prop) (a : Nat) (b : BxT) (H : Heap) : Prop := I a ∧ ∃ (ca fa arr cap : Nat) (pel : Nat → Nat), va_at g.1 kcl (a, .inr (2, [.int (b.1 0), .int (b.1 1), .int (b.1 2), .ref ca, .ref fa])) H ∧ I fa ∧ va_at g.1 kcl (fa, .inr (3, [.int (b.1 3), .int (b.1 4), .int (b.1 5), .int (b.1 6)])) H ∧ I ca ∧ (0 < cap → I arr) ∧ kALx g ca arr cap b.2.1 pel H ∧
  ∀ i, i < b.2.1 → I (pel i) ∧ ∃ ia : Nat, va_at g.1 kcl (pel i, .inr (9, [.ref ia, .int (b.2.2.2.1 i), .int (b.2.2.2.2 i)])) H ∧ kItem g I ia (b.2.2.1 i) H
theorem kALx.kept {g : KGt} {la arr cap n : Nat} {el : Nat → Nat} {H H1 : Heap} (h : kALx g la arr cap n el H) (h1 : la < H.size → H1[la]? = H[la]?) (h2 : 0 < cap → arr < H.size → H1[arr]? = H[arr]?) : kALx g la arr cap n el H1 := by
  obtain ⟨mo, w1, w2 | ⟨f, w2, w3, w4, w5⟩⟩ := h
  · exact ⟨mo, w1.kept (h1 w1.lt), Or.inl w2⟩
  · exact ⟨mo, w1.kept (h1 w1.lt), Or.inr ⟨f, w2.kept (h2 (by omega) w2.lt), w3, w4, w5⟩⟩
theorem kBox.kept {g : KGt} {I J : Nat → Prop} {a : Nat} {b : BxT} {H H1 : Heap} (h : kBox g I a b H) (hI : ∀ q, I q → J q) (hk : ∀ q, I q → q < H.size → H1[q]? = H[q]?) : kBox g J a b H1 := by
  obtain ⟨ha, ca, fa, arr, cap, pel, w1, w2, w3, w4, w5, w6, w7⟩ := h
  refine ⟨hI a ha, ca, fa, arr, cap, pel, w1.kept (hk a ha w1.lt), hI _ w2, w3.kept (hk fa w2 w3.lt), hI _ w4, fun h => hI _ (w5 h), w6.kept (hk ca w4) (fun h => hk arr (w5 h)), fun i hi => ?_⟩
  obtain ⟨p1, ia, p2, p3⟩ := w7 i hi
  exact ⟨hI _ p1, ia, p2.kept (hk _ p1 p2.lt), p3.kept hI hk⟩
theorem kBox.obj {g : KGt} {I : Nat → Prop} {a : Nat} {b : BxT} {H : Heap} (h : kBox g I a b H) : kObj g a H := by
  obtain ⟨ha, ca, fa, arr, cap, pel, w1, -⟩ := h
  exact ⟨2, _, w1, by omega⟩
/-- the object x: n items its in the making, nb boxes bs, ib items in them. I: cells that nobody writes any more; M: those that are its own to write -/
def kInv (g : KGt) (I M : Nat → Prop) (x n : Nat) (its : Nat → Nat → Int32) (nb : Nat) (bs : Nat → BxT) (ib : Nat) (H : Heap) : Prop := ∃ (la larr lcap ma marr mcap : Nat) (el bel : Nat → Nat),
  va_at g.1 kcl (x, .inr (0, [.ref la, .ref ma, .int (nI ib)])) H ∧ kALx g la larr lcap n el H ∧ kALx g ma marr mcap nb bel H ∧ (∀ i, i < n → kItem g I (el i) (its i) H) ∧ (∀ i, i < nb → kBox g I (bel i) (bs i) H) ∧
  (M x ∧ M la ∧ M ma ∧ (0 < lcap → M larr) ∧ (0 < mcap → M marr)) ∧ (la ≠ ma ∧ (0 < lcap → 0 < mcap → larr ≠ marr)) ∧ (∀ q, M q → ¬ I q) ∧ (∀ q, M q → g.2.2.1.size ≤ q ∧ q < H.size) ∧ (∀ q, I q → q < H.size) ∧ kB g H ∧ n ≤ 40 ∧ nb ≤ 60
abbrev kInvW (g : KGt) (I M : Nat → Prop) (x n : Nat) (its : Nat → Nat → Int32) (nb : Nat) (bs : Nat → BxT) (ib la larr lcap ma marr mcap : Nat) (el bel : Nat → Nat) (H : Heap) : Prop :=
  va_at g.1 kcl (x, .inr (0, [.ref la, .ref ma, .int (nI ib)])) H ∧ kALx g la larr lcap n el H ∧ kALx g ma marr mcap nb bel H ∧ (∀ i, i < n → kItem g I (el i) (its i) H) ∧ (∀ i, i < nb → kBox g I (bel i) (bs i) H) ∧
  (M x ∧ M la ∧ M ma ∧ (0 < lcap → M larr) ∧ (0 < mcap → M marr)) ∧ (la ≠ ma ∧ (0 < lcap → 0 < mcap → larr ≠ marr)) ∧ (∀ q, M q → ¬ I q) ∧ (∀ q, M q → g.2.2.1.size ≤ q ∧ q < H.size) ∧ (∀ q, I q → q < H.size) ∧ kB g H ∧ n ≤ 40 ∧ nb ≤ 60
theorem kInvW.more {g : KGt} {I J M : Nat → Prop} {x n nb ib la larr lcap ma marr mcap : Nat} {el bel : Nat → Nat} {its : Nat → Nat → Int32} {bs : Nat → BxT} {H H1 : Heap} (h : kInvW g I M x n its nb bs ib la larr lcap ma marr mcap el bel H) (hE : kE (fun _ => False) H H1) (hI : ∀ q, I q → J q) (hJ : ∀ q, J q → I q ∨ (H.size ≤ q ∧ q < H1.size)) : kInvW g J M x n its nb bs ib la larr lcap ma marr mcap el bel H1 := by
  obtain ⟨xo, al, am, hit, hbx, hM, hne, hMI, hMg, hIl, hB, hn, hnb⟩ := h
  refine ⟨hE.at xo id, al.ext hE id (fun _ => id), am.ext hE id (fun _ => id), fun i hi => (hit i hi).kept hI (fun q _ hl => hE.2 q hl id), fun i hi => (hbx i hi).kept hI (fun q _ hl => hE.2 q hl id), hM, hne, fun q hm hj => ?_, fun q hm => ⟨(hMg q hm).1, Nat.lt_of_lt_of_le (hMg q hm).2 hE.1⟩, fun q hj => ?_, hB.tr hE (fun _ _ h => h), hn, hnb⟩
  · rcases hJ q hj with h | h
    · exact hMI q hm h
    · have := (hMg q hm).2
      omega
  · rcases hJ q hj with h | h
    · exact Nat.lt_of_lt_of_le (hIl q h) hE.1
    · exact h.2
theorem kInvW.inv {g : KGt} {I M : Nat → Prop} {x n nb ib la larr lcap ma marr mcap : Nat} {el bel : Nat → Nat} {its : Nat → Nat → Int32} {bs : Nat → BxT} {H : Heap} (h : kInvW g I M x n its nb bs ib la larr lcap ma marr mcap el bel H) : kInv g I M x n its nb bs ib H := ⟨la, larr, lcap, ma, marr, mcap, el, bel, h⟩
/-- how a call leaves it -/
def kPost (g : KGt) (I M : Nat → Prop) (x n : Nat) (its : Nat → Nat → Int32) (nb : Nat) (bs : Nat → BxT) (ib : Nat) (r : Value) (H0 : Heap) : Option Value → Heap → Prop := fun v H1 => v = some r ∧ kE M H0 H1 ∧ ∃ J N : Nat → Prop, kInv g J N x n its nb bs ib H1 ∧ (∀ q, N q → M q ∨ H0.size ≤ q) ∧ (∀ q, J q → I q ∨ H0.size ≤ q)
/-- more cells that nobody writes -/
theorem kInv.more {g : KGt} {I J M : Nat → Prop} {x n nb ib : Nat} {its : Nat → Nat → Int32} {bs : Nat → BxT} {H H1 : Heap} (h : kInv g I M x n its nb bs ib H) (hE : kE (fun _ => False) H H1) (hI : ∀ q, I q → J q) (hJ : ∀ q, J q → I q ∨ (H.size ≤ q ∧ q < H1.size)) : kInv g J M x n its nb bs ib H1 := by
  obtain ⟨la, larr, lcap, ma, marr, mcap, el, bel, xo, al, am, hit, hbx, hM, hne, hMI, hMg, hIl, hB, hn, hnb⟩ := h
  refine ⟨la, larr, lcap, ma, marr, mcap, el, bel, hE.at xo id, al.ext hE id (fun _ => id), am.ext hE id (fun _ => id), fun i hi => (hit i hi).kept hI (fun q _ hl => hE.2 q hl id), fun i hi => (hbx i hi).kept hI (fun q _ hl => hE.2 q hl id), hM, hne, fun q hm hj => ?_, fun q hm => ⟨(hMg q hm).1, Nat.lt_of_lt_of_le (hMg q hm).2 hE.1⟩, fun q hj => ?_, hB.tr hE (fun _ _ h => h), hn, hnb⟩
  · rcases hJ q hj with h | h
    · exact hMI q hm h
    · have := (hMg q hm).2
      omega
  · rcases hJ q hj with h | h
    · exact Nat.lt_of_lt_of_le (hIl q h) hE.1
    · exact h.2
theorem kObj.neX {g : KGt} {a x : Nat} {fs gs : List Value} {H : Heap} {s : State} (hK : va_K g.1 kcl (kTy g) s) (o : va_at g.1 kcl (a, .inr (1, fs)) H) (xo : va_at g.1 kcl (x, .inr (0, gs)) H) : x ≠ a := by
  intro q
  subst q
  exact k_obob hK xo o (by decide +kernel)
theorem kALx.apartX {g : KGt} {la arr cap n x : Nat} {el : Nat → Nat} {gs : List Value} {H : Heap} {s : State} (h : kALx g la arr cap n el H) (hK : va_K g.1 kcl (kTy g) s) (xo : va_at g.1 kcl (x, .inr (0, gs)) H) : ¬ (x = la ∨ (x = arr ∧ 0 < cap)) := by
  obtain ⟨mo, w1, w2 | ⟨f, w2, w3⟩⟩ := h
  · rintro (h | h)
    · exact kObj.neX hK w1 xo h
    · omega
  · rintro (h | h)
    · exact kObj.neX hK w1 xo h
    · subst_vars; obtain ⟨rfl, -⟩ := h; exact k_obarr hK xo w2
/-- two lists whose objects and arrays are two -/
theorem kALx.apartL {g : KGt} {la arr cap n ma marr mcap k : Nat} {el bel : Nat → Nat} {H : Heap} {s : State} (h : kALx g la arr cap n el H) (h2 : kALx g ma marr mcap k bel H) (hK : va_K g.1 kcl (kTy g) s) (hne : la ≠ ma ∧ (0 < cap → 0 < mcap → arr ≠ marr)) : ¬ (ma = la ∨ (ma = arr ∧ 0 < cap)) ∧ (0 < mcap → ¬ (marr = la ∨ (marr = arr ∧ 0 < cap))) := by
  obtain ⟨mo, w1, w2⟩ := h
  obtain ⟨mo2, u1, u2⟩ := h2
  refine ⟨?_, fun hm => ?_⟩
  · rintro (h | h)
    · exact hne.1 h.symm
    · rcases w2 with w2 | ⟨f, w2, -⟩
      · omega
      · obtain ⟨rfl, -⟩ := h; exact k_obarr hK u1 w2
  · rintro (h | h)
    · rcases u2 with u2 | ⟨f, u2, -⟩
      · omega
      · subst h; exact k_obarr hK w1 u2
    · exact hne.2 h.2 hm h.1.symm
set_option maxHeartbeats 4000000 in
set_option maxRecDepth 100000 in
theorem c_BG_isBox_no (l : Launch) (g : KGt) (H0 : Heap) (I M : Nat → Prop) (x n : Nat) (its : Nat → Nat → Int32) (nb : Nat) (bs : Nat → BxT) (ib : Nat) (inv : kInv g I M x n its nb bs ib H0) (p0 : Int32) (h : p0 < 0 ∨ nI nb ≤ p0) : Met l y_BG_isBox (kW y_BG_isBox b_BG_isBox 2 (.some .boolean)) ({ frames := 1, cells := 0, slots := 0, locals := 20 }) (kPc [.ref x, .int p0] (KK g) H0) (kQc (kPure (.int 0) H0)) 0 0 (fun _ => False) := by
  refine Met.ofW (cc := b_BG_isBox) (maxL := 2) (ret := (.some .boolean)) (by decide) rfl ?_
  intro p e s m args below meth c s₁ B hml hv
  obtain ⟨rfl, hH, hKK⟩ := hv
  have hx := B.exec
  have hb := B.bytes
  have hr := B.returns
  have hts := kW_ts (atoms_spec (ws := kW y_BG_isBox b_BG_isBox 2 (.some .boolean)) B.pre)
  have hown : s.vm.findClass "BoxGlue" = some m.cls := findClass_of_methodNamed B.named
  have hlocks := B.notSynchronized
  have hK := hKK.1
  subst hH
  have hl := lv_entry ([.ref x, .int p0]) (n := 2) (Nat.le_of_ble_eq_true rfl)
  rw [lg_entry_eq]
  generalize (lg_sl ([.ref x, .int p0]) ++ List.replicate (2 - (lg_sl ([.ref x, .int p0])).length) Slot.unset).toArray = ls at hl ⊢
  have hl : lv_has ls 2 [(0, .ref x), (1, .int p0)] := hl
  obtain ⟨la, larr, lcap, ma, marr, mcap, el, bel, xo, al, am, hit, hbx, hM, hne, hMI, hMg, hIl, hB, hn, hnb⟩ := id inv
  refine lv_iload_n hx hb d_BG_isBox_0 rfl (lv_at hl 1 rfl) ?_
  refine lv_if_lt (tgt := 19) hx hb d_BG_isBox_1 (by decide) (fun c_1 => ?_) (fun c_1 => ?_)
  · skip
    refine lv_iconst (v := 0) hx hb d_BG_isBox_19 (by decide) ?_
    exact W.zret (v := 0) (ty := .boolean) hx hb hr rfl (fun t ht hW => ⟨_, rfl, rfl, ht⟩) (fun _ h => by cases h) d_BG_isBox_20
  · skip
    refine lv_iload_n hx hb d_BG_isBox_4 rfl (lv_at hl 1 rfl) ?_
    refine lv_aload_n hx hb d_BG_isBox_5 rfl (lv_at hl 0 rfl) ?_
    refine va_get (D := g.1) (ci := 0) (v := .ref ma) (C := "BoxGlue") (T := kT_BG) (N := 3) hx hb hts ki_BG hown hK (k_one xo) 0 rfl rfl 1 (by decide) (hts _ kw_56) (fun _ h9 => h9) rfl d_BG_isBox_6 ?_
    refine k_pure (r := .int (nI nb)) (W.runV (As := []) (rest := [.int p0]) ⟨hx, hb, hml, hown, hts⟩ (c_AL_size l g s.heap ma nb bel ⟨_, _, am⟩) (cwV 0 hts (kV_good kw_76 kw_73 kw_74 kw_75 kw_4) rfl rfl rfl (by decide +kernel) ⟨Nat.le_of_ble_eq_true rfl, Nat.le_of_ble_eq_true rfl⟩) (k_preV (KK_st g) hKK (kAL.recv ⟨_, _, am⟩ hK)) rfl rfl hl.1 rfl (lv_room (Nat.le_of_ble_eq_true rfl)) d_BG_isBox_9 ⟨Nat.zero_le _, Nat.zero_le _⟩) ?_
    refine lv_icmp_ge (tgt := 19) hx hb d_BG_isBox_12 (by decide) (fun c_2 => ?_) (fun c_2 => ?_)
    · skip
      refine lv_iconst (v := 0) hx hb d_BG_isBox_19 (by decide) ?_
      exact W.zret (v := 0) (ty := .boolean) hx hb hr rfl (fun t ht hW => ⟨_, rfl, rfl, ht⟩) (fun _ h => by cases h) d_BG_isBox_20
    · skip
      rcases h with h | h <;> contradiction
set_option maxHeartbeats 4000000 in
set_option maxRecDepth 100000 in
theorem c_BG_isBox_yes (l : Launch) (g : KGt) (H0 : Heap) (I M : Nat → Prop) (x n : Nat) (its : Nat → Nat → Int32) (nb : Nat) (bs : Nat → BxT) (ib : Nat) (inv : kInv g I M x n its nb bs ib H0) (k : Nat) (hk : k < nb) : Met l y_BG_isBox (kW y_BG_isBox b_BG_isBox 2 (.some .boolean)) ({ frames := 1, cells := 0, slots := 0, locals := 20 }) (kPc [.ref x, .int (nI k)] (KK g) H0) (kQc (kPure (.int 1) H0)) 0 0 (fun _ => False) := by
  refine Met.ofW (cc := b_BG_isBox) (maxL := 2) (ret := (.some .boolean)) (by decide) rfl ?_
  intro p e s m args below meth c s₁ B hml hv
  obtain ⟨rfl, hH, hKK⟩ := hv
  have hx := B.exec
  have hb := B.bytes
  have hr := B.returns
  have hts := kW_ts (atoms_spec (ws := kW y_BG_isBox b_BG_isBox 2 (.some .boolean)) B.pre)
  have hown : s.vm.findClass "BoxGlue" = some m.cls := findClass_of_methodNamed B.named
  have hlocks := B.notSynchronized
  have hK := hKK.1
  subst hH
  have hl := lv_entry ([.ref x, .int (nI k)]) (n := 2) (Nat.le_of_ble_eq_true rfl)
  rw [lg_entry_eq]
  generalize (lg_sl ([.ref x, .int (nI k)]) ++ List.replicate (2 - (lg_sl ([.ref x, .int (nI k)])).length) Slot.unset).toArray = ls at hl ⊢
  have hl : lv_has ls 2 [(0, .ref x), (1, .int (nI k))] := hl
  obtain ⟨la, larr, lcap, ma, marr, mcap, el, bel, xo, al, am, hit, hbx, hM, hne, hMI, hMg, hIl, hB, hn, hnb⟩ := id inv
  refine lv_iload_n hx hb d_BG_isBox_0 rfl (lv_at hl 1 rfl) ?_
  refine lv_if_lt (tgt := 19) hx hb d_BG_isBox_1 (by decide) (fun c_1 => ?_) (fun c_1 => ?_)
  · exact absurd c_1 (nI_pos (by omega))
  refine lv_iload_n hx hb d_BG_isBox_4 rfl (lv_at hl 1 rfl) ?_
  refine lv_aload_n hx hb d_BG_isBox_5 rfl (lv_at hl 0 rfl) ?_
  refine va_get (D := g.1) (ci := 0) (v := .ref ma) (C := "BoxGlue") (T := kT_BG) (N := 3) hx hb hts ki_BG hown hK (k_one xo) 0 rfl rfl 1 (by decide) (hts _ kw_56) (fun _ h9 => h9) rfl d_BG_isBox_6 ?_
  refine k_pure (r := .int (nI nb)) (W.runV (As := []) (rest := [.int (nI k)]) ⟨hx, hb, hml, hown, hts⟩ (c_AL_size l g s.heap ma nb bel ⟨_, _, am⟩) (cwV 0 hts (kV_good kw_76 kw_73 kw_74 kw_75 kw_4) rfl rfl rfl (by decide +kernel) ⟨Nat.le_of_ble_eq_true rfl, Nat.le_of_ble_eq_true rfl⟩) (k_preV (KK_st g) hKK (kAL.recv ⟨_, _, am⟩ hK)) rfl rfl hl.1 rfl (lv_room (Nat.le_of_ble_eq_true rfl)) d_BG_isBox_9 ⟨Nat.zero_le _, Nat.zero_le _⟩) ?_
  refine lv_icmp_ge (tgt := 19) hx hb d_BG_isBox_12 (by decide) (fun c_2 => ?_) (fun c_2 => ?_)
  · exact absurd c_2 (nI_ge hk (by omega))
  refine lv_iconst (v := 1) hx hb d_BG_isBox_15 (by decide) ?_
  refine lv_goto (tgt := 20) hx hb d_BG_isBox_16 (by decide) ?_
  exact W.zret (v := 1) (ty := .boolean) hx hb hr rfl (fun t ht hW => ⟨_, rfl, rfl, ht⟩) (fun _ h => by cases h) d_BG_isBox_20
set_option maxHeartbeats 4000000 in
set_option maxRecDepth 100000 in
theorem c_BG_size (l : Launch) (g : KGt) (H0 : Heap) (I M : Nat → Prop) (x n : Nat) (its : Nat → Nat → Int32) (nb : Nat) (bs : Nat → BxT) (ib : Nat) (inv : kInv g I M x n its nb bs ib H0) : Met l y_BG_size (kW y_BG_size b_BG_size 1 (.some .int)) ({ frames := 1, cells := 0, slots := 0, locals := 20 }) (kPc [.ref x] (KK g) H0) (kQc (kPure (.int (nI n)) H0)) 0 0 (fun _ => False) := by
  refine Met.ofW (cc := b_BG_size) (maxL := 1) (ret := (.some .int)) (by decide) rfl ?_
  intro p e s m args below meth c s₁ B hml hv
  obtain ⟨rfl, hH, hKK⟩ := hv
  have hx := B.exec
  have hb := B.bytes
  have hr := B.returns
  have hts := kW_ts (atoms_spec (ws := kW y_BG_size b_BG_size 1 (.some .int)) B.pre)
  have hown : s.vm.findClass "BoxGlue" = some m.cls := findClass_of_methodNamed B.named
  have hlocks := B.notSynchronized
  have hK := hKK.1
  subst hH
  have hl := lv_entry ([.ref x]) (n := 1) (Nat.le_of_ble_eq_true rfl)
  rw [lg_entry_eq]
  generalize (lg_sl ([.ref x]) ++ List.replicate (1 - (lg_sl ([.ref x])).length) Slot.unset).toArray = ls at hl ⊢
  have hl : lv_has ls 1 [(0, .ref x)] := hl
  obtain ⟨la, larr, lcap, ma, marr, mcap, el, bel, xo, al, am, hit, hbx, hM, hne, hMI, hMg, hIl, hB, hn, hnb⟩ := id inv
  refine lv_aload_n hx hb d_BG_size_0 rfl (lv_at hl 0 rfl) ?_
  refine va_get (D := g.1) (ci := 0) (v := .ref la) (C := "BoxGlue") (T := kT_BG) (N := 3) hx hb hts ki_BG hown hK (k_one xo) 0 rfl rfl 0 (by decide) (hts _ kw_55) (fun _ h9 => h9) rfl d_BG_size_1 ?_
  refine k_pure (r := .int (nI n)) (W.runV (As := []) (rest := []) ⟨hx, hb, hml, hown, hts⟩ (c_AL_size l g s.heap la n el ⟨_, _, al⟩) (cwV 0 hts (kV_good kw_76 kw_73 kw_74 kw_75 kw_4) rfl rfl rfl (by decide +kernel) ⟨Nat.le_of_ble_eq_true rfl, Nat.le_of_ble_eq_true rfl⟩) (k_preV (KK_st g) hKK (kAL.recv ⟨_, _, al⟩ hK)) rfl rfl hl.1 rfl (lv_room (Nat.le_of_ble_eq_true rfl)) d_BG_size_4 ⟨Nat.zero_le _, Nat.zero_le _⟩) ?_
  exact W.iret (v := (nI n)) hx hb hr (fun t ht hW => ⟨_, rfl, rfl, ht⟩) (fun _ h => by cases h) d_BG_size_7
set_option maxHeartbeats 4000000 in
set_option maxRecDepth 100000 in
theorem c_BG_boxes (l : Launch) (g : KGt) (H0 : Heap) (I M : Nat → Prop) (x n : Nat) (its : Nat → Nat → Int32) (nb : Nat) (bs : Nat → BxT) (ib : Nat) (inv : kInv g I M x n its nb bs ib H0) : Met l y_BG_boxes (kW y_BG_boxes b_BG_boxes 1 (.some .int)) ({ frames := 1, cells := 0, slots := 0, locals := 20 }) (kPc [.ref x] (KK g) H0) (kQc (kPure (.int (nI nb)) H0)) 0 0 (fun _ => False) := by
  refine Met.ofW (cc := b_BG_boxes) (maxL := 1) (ret := (.some .int)) (by decide) rfl ?_
  intro p e s m args below meth c s₁ B hml hv
  obtain ⟨rfl, hH, hKK⟩ := hv
  have hx := B.exec
  have hb := B.bytes
  have hr := B.returns
  have hts := kW_ts (atoms_spec (ws := kW y_BG_boxes b_BG_boxes 1 (.some .int)) B.pre)
  have hown : s.vm.findClass "BoxGlue" = some m.cls := findClass_of_methodNamed B.named
  have hlocks := B.notSynchronized
  have hK := hKK.1
  subst hH
  have hl := lv_entry ([.ref x]) (n := 1) (Nat.le_of_ble_eq_true rfl)
  rw [lg_entry_eq]
  generalize (lg_sl ([.ref x]) ++ List.replicate (1 - (lg_sl ([.ref x])).length) Slot.unset).toArray = ls at hl ⊢
  have hl : lv_has ls 1 [(0, .ref x)] := hl
  obtain ⟨la, larr, lcap, ma, marr, mcap, el, bel, xo, al, am, hit, hbx, hM, hne, hMI, hMg, hIl, hB, hn, hnb⟩ := id inv
  refine lv_aload_n hx hb d_BG_boxes_0 rfl (lv_at hl 0 rfl) ?_
  refine va_get (D := g.1) (ci := 0) (v := .ref ma) (C := "BoxGlue") (T := kT_BG) (N := 3) hx hb hts ki_BG hown hK (k_one xo) 0 rfl rfl 1 (by decide) (hts _ kw_56) (fun _ h9 => h9) rfl d_BG_boxes_1 ?_
  refine k_pure (r := .int (nI nb)) (W.runV (As := []) (rest := []) ⟨hx, hb, hml, hown, hts⟩ (c_AL_size l g s.heap ma nb bel ⟨_, _, am⟩) (cwV 0 hts (kV_good kw_76 kw_73 kw_74 kw_75 kw_4) rfl rfl rfl (by decide +kernel) ⟨Nat.le_of_ble_eq_true rfl, Nat.le_of_ble_eq_true rfl⟩) (k_preV (KK_st g) hKK (kAL.recv ⟨_, _, am⟩ hK)) rfl rfl hl.1 rfl (lv_room (Nat.le_of_ble_eq_true rfl)) d_BG_boxes_4 ⟨Nat.zero_le _, Nat.zero_le _⟩) ?_
  exact W.iret (v := (nI nb)) hx hb hr (fun t ht hW => ⟨_, rfl, rfl, ht⟩) (fun _ h => by cases h) d_BG_boxes_7
set_option maxHeartbeats 4000000 in
set_option maxRecDepth 100000 in
theorem c_BG_natural (l : Launch) (g : KGt) (H0 : Heap) (I M : Nat → Prop) (x n : Nat) (its : Nat → Nat → Int32) (nb : Nat) (bs : Nat → BxT) (ib : Nat) (inv : kInv g I M x n its nb bs ib H0) : Met l y_BG_natural (kW y_BG_natural b_BG_natural 1 (.some .long)) ({ frames := 4, cells := 0, slots := 0, locals := 86 }) (kPc [.ref x] (KK g) H0) (kQc (kPure (.long (l_len its n).toInt64) H0)) 0 0 (fun _ => False) := by
  refine Met.ofW (cc := b_BG_natural) (maxL := 1) (ret := (.some .long)) (by decide) rfl ?_
  intro p e s m args below meth c s₁ B hml hv
  obtain ⟨rfl, hH, hKK⟩ := hv
  have hx := B.exec
  have hb := B.bytes
  have hr := B.returns
  have hts := kW_ts (atoms_spec (ws := kW y_BG_natural b_BG_natural 1 (.some .long)) B.pre)
  have hown : s.vm.findClass "BoxGlue" = some m.cls := findClass_of_methodNamed B.named
  have hlocks := B.notSynchronized
  have hK := hKK.1
  subst hH
  have hl := lv_entry ([.ref x]) (n := 1) (Nat.le_of_ble_eq_true rfl)
  rw [lg_entry_eq]
  generalize (lg_sl ([.ref x]) ++ List.replicate (1 - (lg_sl ([.ref x])).length) Slot.unset).toArray = ls at hl ⊢
  have hl : lv_has ls 1 [(0, .ref x)] := hl
  obtain ⟨la, larr, lcap, ma, marr, mcap, el, bel, xo, al, am, hit, hbx, hM, hne, hMI, hMg, hIl, hB, hn, hnb⟩ := id inv
  refine lv_aload_n hx hb d_BG_natural_0 rfl (lv_at hl 0 rfl) ?_
  refine va_get (D := g.1) (ci := 0) (v := .ref la) (C := "BoxGlue") (T := kT_BG) (N := 3) hx hb hts ki_BG hown hK (k_one xo) 0 rfl rfl 0 (by decide) (hts _ kw_55) (fun _ h9 => h9) rfl d_BG_natural_1 ?_
  refine k_pure (r := .int (l_len its n)) (W.runS (As := [.ref la]) (rest := []) ⟨hx, hb, hml, hown, hts⟩ (c_Fit_lengthOf l g s.heap I la n el its ⟨_, _, al⟩ hit) (va_cwS 1 hts (kS_good kw_353 kw_351 kw_352 kw_7) rfl rfl rfl (by decide +kernel) ⟨Nat.le_of_ble_eq_true rfl, Nat.le_of_ble_eq_true rfl⟩) (k_pre (KK_st g) hKK) rfl rfl hl.1 rfl (lv_room (Nat.le_of_ble_eq_true rfl)) d_BG_natural_4 ⟨Nat.zero_le _, Nat.zero_le _⟩) ?_
  refine lv_i2l hx hb d_BG_natural_7 rfl ?_
  exact W.lret (v := ((l_len its n)).toInt64) hx hb hr (fun t ht hW => ⟨_, rfl, rfl, ht⟩) (fun _ h => by cases h) d_BG_natural_8

/-! BoxGlue: the calls that change the list -/
theorem kALx.arrlt {g : KGt} {la arr cap n : Nat} {el : Nat → Nat} {H : Heap} (h : kALx g la arr cap n el H) (hc : 0 < cap) : arr < H.size := by
  obtain ⟨mo, w1, w2 | ⟨f, w2, -⟩⟩ := h
  · omega
  · exact w2.lt
theorem kInv.list {g : KGt} {I M : Nat → Prop} {x n nb ib la larr lcap ma marr mcap : Nat} {el bel : Nat → Nat} {its : Nat → Nat → Int32} {bs : Nat → BxT} {H H1 : Heap} {s : State} (hK : va_K g.1 kcl (kTy g) s) (xo : va_at g.1 kcl (x, .inr (0, [.ref la, .ref ma, .int (nI ib)])) H) (al : kALx g la larr lcap n el H) (am : kALx g ma marr mcap nb bel H) (hit : ∀ i, i < n → kItem g I (el i) (its i) H) (hbx : ∀ i, i < nb → kBox g I (bel i) (bs i) H) (hM : M x ∧ M la ∧ M ma ∧ (0 < lcap → M larr) ∧ (0 < mcap → M marr)) (hne : la ≠ ma ∧ (0 < lcap → 0 < mcap → larr ≠ marr)) (hMI : ∀ q, M q → ¬ I q) (hMg : ∀ q, M q → g.2.2.1.size ≤ q ∧ q < H.size) (hIl : ∀ q, I q → q < H.size) (hB : kB g H) (hn : nb ≤ 60) (hE : kE (fun q => q = la ∨ (q = larr ∧ 0 < lcap)) H H1) {arr2 cap2 n2 : Nat} {el2 : Nat → Nat} {its2 : Nat → Nat → Int32} (al2 : kALx g la arr2 cap2 n2 el2 H1) (h4 : arr2 = larr ∧ cap2 = lcap ∨ H.size ≤ arr2) (hit2 : ∀ i, i < n2 → kItem g I (el2 i) (its2 i) H1) (hn2 : n2 ≤ 40) : kE M H H1 ∧ ∃ N : Nat → Prop, kInvW g I N x n2 its2 nb bs ib la arr2 cap2 ma marr mcap el2 bel H1 ∧ ∀ q, N q → M q ∨ H.size ≤ q := by
  have hA : ∀ q, (q = la ∨ (q = larr ∧ 0 < lcap)) → M q := fun q h => by
    rcases h with h | h
    · rw [h]; exact hM.2.1
    · rw [h.1]; exact hM.2.2.2.1 h.2
  have hnew : 0 < cap2 → M arr2 ∨ H.size ≤ arr2 := fun h => by
    rcases h4 with ⟨e1, e2⟩ | h4
    · exact Or.inl (by rw [e1]; exact hM.2.2.2.1 (by omega))
    · exact Or.inr h4
  refine ⟨hE.wk (fun q _ h => hA q h), fun q => M q ∨ (q = arr2 ∧ 0 < cap2), ⟨hE.at xo (al.apartX hK xo), al2, am.ext hE (al.apartL am hK hne).1 (al.apartL am hK hne).2, hit2, fun i hi => (hbx i hi).kept (fun _ h => h) (fun q hq hl => hE.2 q hl (fun h => hMI q (hA q h) hq)), ⟨Or.inl hM.1, Or.inl hM.2.1, Or.inl hM.2.2.1, fun h => Or.inr ⟨rfl, h⟩, fun h => Or.inl (hM.2.2.2.2 h)⟩, ⟨hne.1, fun h1 h2 e => ?_⟩, fun q hq hI => ?_, fun q hq => ?_, fun q hq => Nat.lt_of_lt_of_le (hIl q hq) hE.1, hB.tr hE (fun q hq h => by have := (hMg q (hA q h)).1; omega), hn2, hn⟩, fun q hq => ?_⟩
  · rcases h4 with ⟨e1, e2⟩ | h4
    · exact hne.2 (by omega) h2 (by rw [← e1]; exact e)
    · have := (hMg marr (hM.2.2.2.2 h2)).2
      omega
  · rcases hq with hq | ⟨rfl, hc⟩
    · exact hMI q hq hI
    · rcases hnew hc with h | h
      · exact hMI _ h hI
      · have := hIl _ hI
        omega
  · rcases hq with hq | ⟨rfl, hc⟩
    · exact ⟨(hMg q hq).1, Nat.lt_of_lt_of_le (hMg q hq).2 hE.1⟩
    · refine ⟨?_, al2.arrlt hc⟩
      rcases hnew hc with h | h
      · exact (hMg _ h).1
      · exact Nat.le_trans hB.1 h
  · rcases hq with hq | ⟨rfl, hc⟩
    · exact Or.inl hq
    · exact hnew hc
theorem kInv.made {g : KGt} {I M : Nat → Prop} {x n nb ib la larr lcap ma marr mcap : Nat} {el bel : Nat → Nat} {its : Nat → Nat → Int32} {bs : Nat → BxT} {H H1 : Heap} {s : State} (hK : va_K g.1 kcl (kTy g) s) (xo : va_at g.1 kcl (x, .inr (0, [.ref la, .ref ma, .int (nI ib)])) H) (al : kALx g la larr lcap n el H) (am : kALx g ma marr mcap nb bel H) (hit : ∀ i, i < n → kItem g I (el i) (its i) H) (hbx : ∀ i, i < nb → kBox g I (bel i) (bs i) H) (hM : M x ∧ M la ∧ M ma ∧ (0 < lcap → M larr) ∧ (0 < mcap → M marr)) (hne : la ≠ ma ∧ (0 < lcap → 0 < mcap → larr ≠ marr)) (hMI : ∀ q, M q → ¬ I q) (hMg : ∀ q, M q → g.2.2.1.size ≤ q ∧ q < H.size) (hIl : ∀ q, I q → q < H.size) (hB : kB g H) (hn : n ≤ 40) (hE : kE (fun q => q = ma ∨ (q = marr ∧ 0 < mcap)) H H1) {arr2 cap2 n2 : Nat} {el2 : Nat → Nat} {bs2 : Nat → BxT} (am2 : kALx g ma arr2 cap2 n2 el2 H1) (h4 : arr2 = marr ∧ cap2 = mcap ∨ H.size ≤ arr2) (hbx2 : ∀ i, i < n2 → kBox g I (el2 i) (bs2 i) H1) (hn2 : n2 ≤ 60) : kE M H H1 ∧ ∃ N : Nat → Prop, kInvW g I N x n its n2 bs2 ib la larr lcap ma arr2 cap2 el el2 H1 ∧ ∀ q, N q → M q ∨ H.size ≤ q := by
  have hA : ∀ q, (q = ma ∨ (q = marr ∧ 0 < mcap)) → M q := fun q h => by
    rcases h with h | h
    · rw [h]; exact hM.2.2.1
    · rw [h.1]; exact hM.2.2.2.2 h.2
  have hnew : 0 < cap2 → M arr2 ∨ H.size ≤ arr2 := fun h => by
    rcases h4 with ⟨e1, e2⟩ | h4
    · exact Or.inl (by rw [e1]; exact hM.2.2.2.2 (by omega))
    · exact Or.inr h4
  have hap := am.apartL al hK ⟨hne.1.symm, fun h1 h2 e => hne.2 h2 h1 e.symm⟩
  refine ⟨hE.wk (fun q _ h => hA q h), fun q => M q ∨ (q = arr2 ∧ 0 < cap2), ⟨hE.at xo (am.apartX hK xo), al.ext hE hap.1 hap.2, am2, fun i hi => (hit i hi).kept (fun _ h => h) (fun q hq hl => hE.2 q hl (fun h => hMI q (hA q h) hq)), hbx2, ⟨Or.inl hM.1, Or.inl hM.2.1, Or.inl hM.2.2.1, fun h => Or.inl (hM.2.2.2.1 h), fun h => Or.inr ⟨rfl, h⟩⟩, ⟨hne.1, fun h1 h2 e => ?_⟩, fun q hq hI => ?_, fun q hq => ?_, fun q hq => Nat.lt_of_lt_of_le (hIl q hq) hE.1, hB.tr hE (fun q hq h => by have := (hMg q (hA q h)).1; omega), hn, hn2⟩, fun q hq => ?_⟩
  · rcases h4 with ⟨e1, e2⟩ | h4
    · exact hne.2 h1 (by omega) (by rw [← e1]; exact e)
    · have := (hMg larr (hM.2.2.2.1 h1)).2
      omega
  · rcases hq with hq | ⟨rfl, hc⟩
    · exact hMI q hq hI
    · rcases hnew hc with h | h
      · exact hMI _ h hI
      · have := hIl _ hI
        omega
  · rcases hq with hq | ⟨rfl, hc⟩
    · exact ⟨(hMg q hq).1, Nat.lt_of_lt_of_le (hMg q hq).2 hE.1⟩
    · refine ⟨?_, am2.arrlt hc⟩
      rcases hnew hc with h | h
      · exact (hMg _ h).1
      · exact Nat.le_trans hB.1 h
  · rcases hq with hq | ⟨rfl, hc⟩
    · exact Or.inl hq
    · exact hnew hc
set_option maxHeartbeats 4000000 in
set_option maxRecDepth 100000 in
theorem c_BG_append_full (l : Launch) (g : KGt) (H0 : Heap) (I M : Nat → Prop) (x n : Nat) (its : Nat → Nat → Int32) (nb : Nat) (bs : Nat → BxT) (ib : Nat) (inv : kInv g I M x n its nb bs ib H0) (a : Nat) (h : n = 40) : Met l y_BG_append (kW y_BG_append b_BG_append 2 (.some .int)) ({ frames := 1, cells := 0, slots := 0, locals := 20 }) (kPc [.ref x, .ref a] (KK g) H0) (kQc (kPure (.int (-2)) H0)) 0 0 (fun _ => False) := by
  refine Met.ofW (cc := b_BG_append) (maxL := 2) (ret := (.some .int)) (by decide) rfl ?_
  intro p e s m args below meth c s₁ B hml hv
  obtain ⟨rfl, hH, hKK⟩ := hv
  have hx := B.exec
  have hb := B.bytes
  have hr := B.returns
  have hts := kW_ts (atoms_spec (ws := kW y_BG_append b_BG_append 2 (.some .int)) B.pre)
  have hown : s.vm.findClass "BoxGlue" = some m.cls := findClass_of_methodNamed B.named
  have hlocks := B.notSynchronized
  have hK := hKK.1
  subst hH
  have hl := lv_entry ([.ref x, .ref a]) (n := 2) (Nat.le_of_ble_eq_true rfl)
  rw [lg_entry_eq]
  generalize (lg_sl ([.ref x, .ref a]) ++ List.replicate (2 - (lg_sl ([.ref x, .ref a])).length) Slot.unset).toArray = ls at hl ⊢
  have hl : lv_has ls 2 [(0, .ref x), (1, .ref a)] := hl
  obtain ⟨la, larr, lcap, ma, marr, mcap, el, bel, xo, al, am, hit, hbx, hM, hne, hMI, hMg, hIl, hB, hn, hnb⟩ := id inv
  refine lv_aload_n hx hb d_BG_append_0 rfl (lv_at hl 0 rfl) ?_
  refine va_get (D := g.1) (ci := 0) (v := .ref la) (C := "BoxGlue") (T := kT_BG) (N := 3) hx hb hts ki_BG hown hK (k_one xo) 0 rfl rfl 0 (by decide) (hts _ kw_55) (fun _ h9 => h9) rfl d_BG_append_1 ?_
  refine k_pure (r := .int (nI n)) (W.runV (As := []) (rest := []) ⟨hx, hb, hml, hown, hts⟩ (c_AL_size l g s.heap la n el ⟨_, _, al⟩) (cwV 0 hts (kV_good kw_76 kw_73 kw_74 kw_75 kw_4) rfl rfl rfl (by decide +kernel) ⟨Nat.le_of_ble_eq_true rfl, Nat.le_of_ble_eq_true rfl⟩) (k_preV (KK_st g) hKK (kAL.recv ⟨_, _, al⟩ hK)) rfl rfl hl.1 rfl (lv_room (Nat.le_of_ble_eq_true rfl)) d_BG_append_4 ⟨Nat.zero_le _, Nat.zero_le _⟩) ?_
  refine lv_bipush (v := 40) hx hb d_BG_append_7 (by decide) ?_
  refine lv_icmp_lt (tgt := 15) hx hb d_BG_append_9 (by decide) (fun c_1 => ?_) (fun c_1 => ?_)
  · exact absurd c_1 (by rw [h]; decide)
  refine lv_bipush (v := (-2)) hx hb d_BG_append_12 (by decide) ?_
  exact W.iret (v := (-2)) hx hb hr (fun t ht hW => ⟨_, rfl, rfl, ht⟩) (fun _ h => by cases h) d_BG_append_14
set_option maxHeartbeats 4000000 in
set_option maxRecDepth 100000 in
theorem c_BG_append_ok (l : Launch) (g : KGt) (H0 : Heap) (I M : Nat → Prop) (x n : Nat) (its : Nat → Nat → Int32) (nb : Nat) (bs : Nat → BxT) (ib : Nat) (inv : kInv g I M x n its nb bs ib H0) (a : Nat) (it : Nat → Int32) (hn : n < 40) (ha : kItem g I a it H0) : Met l y_BG_append (kW y_BG_append b_BG_append 2 (.some .int)) ({ frames := 7, cells := 1, slots := 100, locals := 171 }) (kPc [.ref x, .ref a] (KK g) H0) (kQc (kPost g I M x (n + 1) (va_up its n it) nb bs ib (.int (nI (n + 1))) H0)) 1 100 (fun q : Nat => M q ∨ H0.size ≤ q) := by
  refine Met.ofW (cc := b_BG_append) (maxL := 2) (ret := (.some .int)) (by decide) rfl ?_
  intro p e s m args below meth c s₁ B hml hv
  obtain ⟨rfl, hH, hKK⟩ := hv
  have hx := B.exec
  have hb := B.bytes
  have hr := B.returns
  have hts := kW_ts (atoms_spec (ws := kW y_BG_append b_BG_append 2 (.some .int)) B.pre)
  have hown : s.vm.findClass "BoxGlue" = some m.cls := findClass_of_methodNamed B.named
  have hlocks := B.notSynchronized
  have hK := hKK.1
  subst hH
  have hl := lv_entry ([.ref x, .ref a]) (n := 2) (Nat.le_of_ble_eq_true rfl)
  rw [lg_entry_eq]
  generalize (lg_sl ([.ref x, .ref a]) ++ List.replicate (2 - (lg_sl ([.ref x, .ref a])).length) Slot.unset).toArray = ls at hl ⊢
  have hl : lv_has ls 2 [(0, .ref x), (1, .ref a)] := hl
  obtain ⟨la, larr, lcap, ma, marr, mcap, el, bel, xo, al, am, hit, hbx, hM, hne, hMI, hMg, hIl, hB, -, hnb⟩ := id inv
  refine lv_aload_n hx hb d_BG_append_0 rfl (lv_at hl 0 rfl) ?_
  refine va_get (D := g.1) (ci := 0) (v := .ref la) (C := "BoxGlue") (T := kT_BG) (N := 3) hx hb hts ki_BG hown hK (k_one xo) 0 rfl rfl 0 (by decide) (hts _ kw_55) (fun _ h9 => h9) rfl d_BG_append_1 ?_
  refine k_pure (r := .int (nI n)) (W.runV (As := []) (rest := []) ⟨hx, hb, hml, hown, hts⟩ (c_AL_size l g s.heap la n el ⟨_, _, al⟩) (cwV 0 hts (kV_good kw_76 kw_73 kw_74 kw_75 kw_4) rfl rfl rfl (by decide +kernel) ⟨Nat.le_of_ble_eq_true rfl, Nat.le_of_ble_eq_true rfl⟩) (k_preV (KK_st g) hKK (kAL.recv ⟨_, _, al⟩ hK)) rfl rfl hl.1 rfl (lv_room (Nat.le_of_ble_eq_true rfl)) d_BG_append_4 ⟨Nat.zero_le _, Nat.zero_le _⟩) ?_
  refine lv_bipush (v := 40) hx hb d_BG_append_7 (by decide) ?_
  refine lv_icmp_lt (tgt := 15) hx hb d_BG_append_9 (by decide) (fun c_1 => ?_) (fun c_1 => ?_)
  rotate_left
  · exact absurd c_1 (fun q => q (by rw [show (40 : Int32) = nI 40 from rfl]; exact nI_lt hn (by decide)))
  refine lv_aload_n hx hb d_BG_append_15 rfl (lv_at hl 0 rfl) ?_
  refine va_get (D := g.1) (ci := 0) (v := .ref la) (C := "BoxGlue") (T := kT_BG) (N := 3) hx hb hts ki_BG hown hK (k_one xo) 0 rfl rfl 0 (by decide) (hts _ kw_55) (fun _ h9 => h9) rfl d_BG_append_16 ?_
  refine lv_aload_n hx hb d_BG_append_19 rfl (lv_at hl 1 rfl) ?_
  refine k_call (A := (fun q : Nat => M q ∨ s.heap.size ≤ q)) (W.runV (As := [.ref a]) (rest := []) ⟨hx, hb, hml, hown, hts⟩ (c_AL_add l g s.heap la larr lcap n a el hB al (hMg la hM.2.1).1 (by omega) (fun i hi => (hit i hi).obj) ha.obj) (cwV 1 hts (kV_good kw_135 kw_132 kw_133 kw_134 kw_4) rfl rfl rfl (by decide +kernel) ⟨Nat.le_of_ble_eq_true rfl, Nat.le_of_ble_eq_true rfl⟩) (k_preV (KK_st g) hKK (kAL.recv ⟨_, _, al⟩ hK)) rfl rfl hl.1 rfl (lv_room (Nat.le_of_ble_eq_true rfl)) d_BG_append_20 ⟨Nat.le_of_ble_eq_true rfl, Nat.le_of_ble_eq_true rfl⟩) (fun _ h => by cases h) (fun q h => by rcases h with h | h | h; rw [h]; exact Or.inl hM.2.1; rw [h.1]; exact Or.inl (hM.2.2.2.1 h.2); exact Or.inr h) (fun v H locs hv hL => ?_)
  obtain ⟨rfl, arr2, cap2, hE, h4, al2⟩ := hv
  have hA : ∀ q, (q = la ∨ (q = larr ∧ 0 < lcap)) → M q := fun q h => by rcases h with h | h; rw [h]; exact hM.2.1; rw [h.1]; exact hM.2.2.2.1 h.2
  have hkp : ∀ b jt, kItem g I b jt s.heap → kItem g I b jt H := fun b jt h => h.kept (fun _ h => h) (fun q hq hl => hE.2 q hl (fun h => hMI q (hA q h) hq))
  have hit2 : ∀ i, i < n + 1 → kItem g I (va_up el n a i) (va_up its n it i) H := by
    intro i hi
    by_cases e : i = n
    · subst e; rw [va_up_self, va_up_self]; exact hkp _ _ ha
    · rw [va_up_ne _ _ e, va_up_ne _ _ e]; exact hkp _ _ (hit i (by omega))
  obtain ⟨hEM, N, inv2, hN⟩ := kInv.list hK xo al am hit hbx hM hne hMI hMg hIl hB hnb hE al2 h4 hit2 (by omega)
  have xo := hE.at xo (al.apartX hK xo)
  refine lv_pop hx hb d_BG_append_23 rfl ?_
  refine lv_aload_n hx hb d_BG_append_24 rfl (lv_at hl 0 rfl) ?_
  refine va_get (D := g.1) (ci := 0) (v := .ref la) (C := "BoxGlue") (T := kT_BG) (N := 3) hx hb hts ki_BG hown hK (k_one xo) 0 rfl rfl 0 (by decide) (hts _ kw_55) (fun _ h9 => h9) rfl d_BG_append_25 ?_
  refine k_pure (r := .int (nI (n + 1))) (W.runV (As := []) (rest := []) ⟨hx, hb, hml, hown, hts⟩ (c_AL_size l g H la (n + 1) (va_up el n a) ⟨_, _, al2⟩) (cwV 0 hts (kV_good kw_76 kw_73 kw_74 kw_75 kw_4) rfl rfl rfl (by decide +kernel) ⟨Nat.le_of_ble_eq_true rfl, Nat.le_of_ble_eq_true rfl⟩) (k_preV (KK_st g) hKK (kAL.recv ⟨_, _, al2⟩ hK)) rfl rfl hl.1 rfl (lv_room (Nat.le_of_ble_eq_true rfl)) d_BG_append_28 ⟨Nat.le_of_ble_eq_true rfl, Nat.le_of_ble_eq_true rfl⟩) ?_
  exact W.iret (v := (nI (n + 1))) hx hb hr (fun t ht hW => ⟨_, rfl, rfl, by rw [ht]; exact hEM, I, N, by rw [ht]; exact inv2.inv, hN, fun _ h => Or.inl h⟩) hL d_BG_append_31
set_option maxHeartbeats 4000000 in
set_option maxRecDepth 100000 in
theorem c_BG_drop_no (l : Launch) (g : KGt) (H0 : Heap) (I M : Nat → Prop) (x n : Nat) (its : Nat → Nat → Int32) (nb : Nat) (bs : Nat → BxT) (ib : Nat) (inv : kInv g I M x n its nb bs ib H0) (h : n = 0) : Met l y_BG_drop (kW y_BG_drop b_BG_drop 1 (.some .int)) ({ frames := 1, cells := 0, slots := 0, locals := 20 }) (kPc [.ref x] (KK g) H0) (kQc (kPure (.int (-3)) H0)) 0 0 (fun _ => False) := by
  refine Met.ofW (cc := b_BG_drop) (maxL := 1) (ret := (.some .int)) (by decide) rfl ?_
  intro p e s m args below meth c s₁ B hml hv
  obtain ⟨rfl, hH, hKK⟩ := hv
  have hx := B.exec
  have hb := B.bytes
  have hr := B.returns
  have hts := kW_ts (atoms_spec (ws := kW y_BG_drop b_BG_drop 1 (.some .int)) B.pre)
  have hown : s.vm.findClass "BoxGlue" = some m.cls := findClass_of_methodNamed B.named
  have hlocks := B.notSynchronized
  have hK := hKK.1
  subst hH
  have hl := lv_entry ([.ref x]) (n := 1) (Nat.le_of_ble_eq_true rfl)
  rw [lg_entry_eq]
  generalize (lg_sl ([.ref x]) ++ List.replicate (1 - (lg_sl ([.ref x])).length) Slot.unset).toArray = ls at hl ⊢
  have hl : lv_has ls 1 [(0, .ref x)] := hl
  obtain ⟨la, larr, lcap, ma, marr, mcap, el, bel, xo, al, am, hit, hbx, hM, hne, hMI, hMg, hIl, hB, hn, hnb⟩ := id inv
  refine lv_aload_n hx hb d_BG_drop_0 rfl (lv_at hl 0 rfl) ?_
  refine va_get (D := g.1) (ci := 0) (v := .ref la) (C := "BoxGlue") (T := kT_BG) (N := 3) hx hb hts ki_BG hown hK (k_one xo) 0 rfl rfl 0 (by decide) (hts _ kw_55) (fun _ h9 => h9) rfl d_BG_drop_1 ?_
  refine k_pure (r := .int (if n = 0 then 1 else 0)) (W.runV (As := []) (rest := []) ⟨hx, hb, hml, hown, hts⟩ (c_AL_isEmpty l g s.heap la n el ⟨_, _, al⟩) (cwV 0 hts (kV_good kw_335 kw_332 kw_333 kw_334 kw_4) rfl rfl rfl (by decide +kernel) ⟨Nat.le_of_ble_eq_true rfl, Nat.le_of_ble_eq_true rfl⟩) (k_preV (KK_st g) hKK (kAL.recv ⟨_, _, al⟩ hK)) rfl rfl hl.1 rfl (lv_room (Nat.le_of_ble_eq_true rfl)) d_BG_drop_4 ⟨Nat.zero_le _, Nat.zero_le _⟩) ?_
  refine lv_if_eq (tgt := 13) hx hb d_BG_drop_7 (by decide) (fun c_1 => ?_) (fun c_1 => ?_)
  · exact absurd c_1 (by rw [if_pos h]; decide)
  refine lv_bipush (v := (-3)) hx hb d_BG_drop_10 (by decide) ?_
  exact W.iret (v := (-3)) hx hb hr (fun t ht hW => ⟨_, rfl, rfl, ht⟩) (fun _ h => by cases h) d_BG_drop_12
set_option maxHeartbeats 4000000 in
set_option maxRecDepth 100000 in
theorem c_BG_drop_ok (l : Launch) (g : KGt) (H0 : Heap) (I M : Nat → Prop) (x k : Nat) (its : Nat → Nat → Int32) (nb : Nat) (bs : Nat → BxT) (ib : Nat) (inv : kInv g I M x (k + 1) its nb bs ib H0) : Met l y_BG_drop (kW y_BG_drop b_BG_drop 1 (.some .int)) ({ frames := 3, cells := 0, slots := 0, locals := 66 }) (kPc [.ref x] (KK g) H0) (kQc (kPost g I M x k its nb bs ib (.int (nI k)) H0)) 0 0 (fun q : Nat => M q ∨ H0.size ≤ q) := by
  refine Met.ofW (cc := b_BG_drop) (maxL := 1) (ret := (.some .int)) (by decide) rfl ?_
  intro p e s m args below meth c s₁ B hml hv
  obtain ⟨rfl, hH, hKK⟩ := hv
  have hx := B.exec
  have hb := B.bytes
  have hr := B.returns
  have hts := kW_ts (atoms_spec (ws := kW y_BG_drop b_BG_drop 1 (.some .int)) B.pre)
  have hown : s.vm.findClass "BoxGlue" = some m.cls := findClass_of_methodNamed B.named
  have hlocks := B.notSynchronized
  have hK := hKK.1
  subst hH
  have hl := lv_entry ([.ref x]) (n := 1) (Nat.le_of_ble_eq_true rfl)
  rw [lg_entry_eq]
  generalize (lg_sl ([.ref x]) ++ List.replicate (1 - (lg_sl ([.ref x])).length) Slot.unset).toArray = ls at hl ⊢
  have hl : lv_has ls 1 [(0, .ref x)] := hl
  obtain ⟨la, larr, lcap, ma, marr, mcap, el, bel, xo, al, am, hit, hbx, hM, hne, hMI, hMg, hIl, hB, hn, hnb⟩ := id inv
  refine lv_aload_n hx hb d_BG_drop_0 rfl (lv_at hl 0 rfl) ?_
  refine va_get (D := g.1) (ci := 0) (v := .ref la) (C := "BoxGlue") (T := kT_BG) (N := 3) hx hb hts ki_BG hown hK (k_one xo) 0 rfl rfl 0 (by decide) (hts _ kw_55) (fun _ h9 => h9) rfl d_BG_drop_1 ?_
  refine k_pure (r := .int (if k + 1 = 0 then 1 else 0)) (W.runV (As := []) (rest := []) ⟨hx, hb, hml, hown, hts⟩ (c_AL_isEmpty l g s.heap la (k + 1) el ⟨_, _, al⟩) (cwV 0 hts (kV_good kw_335 kw_332 kw_333 kw_334 kw_4) rfl rfl rfl (by decide +kernel) ⟨Nat.le_of_ble_eq_true rfl, Nat.le_of_ble_eq_true rfl⟩) (k_preV (KK_st g) hKK (kAL.recv ⟨_, _, al⟩ hK)) rfl rfl hl.1 rfl (lv_room (Nat.le_of_ble_eq_true rfl)) d_BG_drop_4 ⟨Nat.zero_le _, Nat.zero_le _⟩) ?_
  refine lv_if_eq (tgt := 13) hx hb d_BG_drop_7 (by decide) (fun c_1 => ?_) (fun c_1 => ?_)
  rotate_left
  · exact absurd c_1 (fun q => q (by rw [if_neg (by omega)]))
  refine lv_aload_n hx hb d_BG_drop_13 rfl (lv_at hl 0 rfl) ?_
  refine va_get (D := g.1) (ci := 0) (v := .ref la) (C := "BoxGlue") (T := kT_BG) (N := 3) hx hb hts ki_BG hown hK (k_one xo) 0 rfl rfl 0 (by decide) (hts _ kw_55) (fun _ h9 => h9) rfl d_BG_drop_14 ?_
  refine lv_aload_n hx hb d_BG_drop_17 rfl (lv_at hl 0 rfl) ?_
  refine va_get (D := g.1) (ci := 0) (v := .ref la) (C := "BoxGlue") (T := kT_BG) (N := 3) hx hb hts ki_BG hown hK (k_one xo) 0 rfl rfl 0 (by decide) (hts _ kw_55) (fun _ h9 => h9) rfl d_BG_drop_18 ?_
  refine k_pure (r := .int (nI (k + 1))) (W.runV (As := []) (rest := [.ref la]) ⟨hx, hb, hml, hown, hts⟩ (c_AL_size l g s.heap la (k + 1) el ⟨_, _, al⟩) (cwV 0 hts (kV_good kw_76 kw_73 kw_74 kw_75 kw_4) rfl rfl rfl (by decide +kernel) ⟨Nat.le_of_ble_eq_true rfl, Nat.le_of_ble_eq_true rfl⟩) (k_preV (KK_st g) hKK (kAL.recv ⟨_, _, al⟩ hK)) rfl rfl hl.1 rfl (lv_room (Nat.le_of_ble_eq_true rfl)) d_BG_drop_21 ⟨Nat.zero_le _, Nat.zero_le _⟩) ?_
  refine lv_iconst (v := 1) hx hb d_BG_drop_24 (by decide) ?_
  refine lv_isub hx hb d_BG_drop_25 ?_
  rw [nI_pred]
  refine k_call (A := (fun q : Nat => M q ∨ s.heap.size ≤ q)) (W.runV (As := [.int (nI k)]) (rest := []) ⟨hx, hb, hml, hown, hts⟩ (c_AL_remove l g s.heap la larr lcap k el al) (cwV 1 hts (kV_good kw_565 kw_562 kw_563 kw_564 kw_4) rfl rfl rfl (by decide +kernel) ⟨Nat.le_of_ble_eq_true rfl, Nat.le_of_ble_eq_true rfl⟩) (k_preV (KK_st g) hKK (kAL.recv ⟨_, _, al⟩ hK)) rfl rfl hl.1 rfl (lv_room (Nat.le_of_ble_eq_true rfl)) d_BG_drop_26 ⟨Nat.le_of_ble_eq_true rfl, Nat.le_of_ble_eq_true rfl⟩) (fun _ h => by cases h) (fun q h => by rcases h with h | h | h; rw [h]; exact Or.inl hM.2.1; rw [h.1]; exact Or.inl (hM.2.2.2.1 h.2); exact Or.inr h) (fun v H locs hv hL => ?_)
  obtain ⟨rfl, hE, al2⟩ := hv
  have hA : ∀ q, (q = la ∨ (q = larr ∧ 0 < lcap)) → M q := fun q h => by rcases h with h | h; rw [h]; exact hM.2.1; rw [h.1]; exact hM.2.2.2.1 h.2
  have hit2 : ∀ i, i < k → kItem g I (el i) (its i) H := fun i hi => (hit i (by omega)).kept (fun _ h => h) (fun q hq hl => hE.2 q hl (fun h => hMI q (hA q h) hq))
  obtain ⟨hEM, N, inv2, hN⟩ := kInv.list hK xo al am hit hbx hM hne hMI hMg hIl hB hnb hE al2 (Or.inl ⟨rfl, rfl⟩) hit2 (by omega)
  have xo := hE.at xo (al.apartX hK xo)
  refine lv_pop hx hb d_BG_drop_29 rfl ?_
  refine lv_aload_n hx hb d_BG_drop_30 rfl (lv_at hl 0 rfl) ?_
  refine va_get (D := g.1) (ci := 0) (v := .ref la) (C := "BoxGlue") (T := kT_BG) (N := 3) hx hb hts ki_BG hown hK (k_one xo) 0 rfl rfl 0 (by decide) (hts _ kw_55) (fun _ h9 => h9) rfl d_BG_drop_31 ?_
  refine k_pure (r := .int (nI k)) (W.runV (As := []) (rest := []) ⟨hx, hb, hml, hown, hts⟩ (c_AL_size l g H la k el ⟨_, _, al2⟩) (cwV 0 hts (kV_good kw_76 kw_73 kw_74 kw_75 kw_4) rfl rfl rfl (by decide +kernel) ⟨Nat.le_of_ble_eq_true rfl, Nat.le_of_ble_eq_true rfl⟩) (k_preV (KK_st g) hKK (kAL.recv ⟨_, _, al2⟩ hK)) rfl rfl hl.1 rfl (lv_room (Nat.le_of_ble_eq_true rfl)) d_BG_drop_34 ⟨Nat.le_of_ble_eq_true rfl, Nat.le_of_ble_eq_true rfl⟩) ?_
  exact W.iret (v := (nI k)) hx hb hr (fun t ht hW => ⟨_, rfl, rfl, by rw [ht]; exact hEM, I, N, by rw [ht]; exact inv2.inv, hN, fun _ h => Or.inl h⟩) hL d_BG_drop_37

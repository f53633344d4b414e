/-! the law: a lemma for each call -/
set_option maxHeartbeats 4000000 in
set_option maxRecDepth 100000 in
theorem lw_box {p : Program} {l : Launch} {e : Env} {s : State} {m : MethodId} {below : List Frame} {meth : Method} {c : Code} {b L : Nat} {xs : Nat → Int32} {g : KGt} {x m0 : Nat} {ad : Nat → Nat} (C0 : lw_At p s m meth c b L xs) (hKK : KK g s) (hg : g.2.2.1 = s.heap) {I M : Nat → Prop} {n : Nat} {its : Nat → Nat → Int32} {nb : Nat} {bs : Nat → BxT} {ib : Nat} {F : Nat → Nat → Int32} {G : Nat → Nat → Int64} {H : Heap} {locs : List Loc} (hI : lw_I g s x m0 ad I M n its nb bs ib F G H locs) {i cells slots : Nat} (hL3 : L ≤ 3072) (hi : i + 6 ≤ L) (hce : cells + 103 ≤ 600000) (hsl : slots + 5109 ≤ 7302250) {ls : Array Slot} (hl : lv_has ls 4 [(3, .int (nI i)), (2, .ref m0), (1, .ref x), (0, .ref b)]) (kk : (∀ (I M : Nat → Prop) (n : Nat) (its : Nat → Nat → Int32) (nb : Nat) (bs : Nat → BxT) (ib : Nat) (F : Nat → Nat → Int32) (G : Nat → Nat → Int64) (H : Heap) (locs : List Loc) (ls : Array Slot), lw_I g s x m0 ad I M n its nb bs ib F G H locs → lv_has ls 4 [(3, .int (nI i)), (2, .ref m0), (1, .ref x), (0, .ref b)] → W p l e room_1 s m #[Value.ref b] below meth c H locs (cells + 103) (slots + 5109) (lw_Z below #[Value.ref b] s) (F0 m 517 ls []))) : W p l e room_1 s m #[Value.ref b] below meth c H locs cells slots (lw_Z below #[Value.ref b] s) (F0 m 104 ls []) := by
  obtain ⟨hx, hb, hr, hml, hown, hts0, hX, hbl, hlocks, hgv⟩ := id C0
  have hts : ∀ w ∈ kG, w.before #[Value.ref b] s = true := fun w hw => hts0 w (kG_in hw)
  have hown : s.vm.findClass "BoxGlueLaw" = some m.cls := hown
  have hK := hKK.1
  obtain ⟨inv, hMd, rel, sep, hLc⟩ := hI
  have hbA : ¬ (fun q : Nat => s.heap.size ≤ q) b := Nat.not_le.mpr hbl
  have hS := lw_S hg inv hLc
  have hn40 := rel.1
  have hnb60 := rel.2.1
  have hib := rel.2.2.1
  have hfM := lw_fM hg inv
  obtain ⟨a1, e1⟩ : ∃ a, xs (i + 1) = a := ⟨_, rfl⟩
  obtain ⟨a2, e2⟩ : ∃ a, xs (i + 2) = a := ⟨_, rfl⟩
  obtain ⟨a3, e3⟩ : ∃ a, xs (i + 3) = a := ⟨_, rfl⟩
  rcases lw_c_box nb a1 a2 a3 with h | ⟨h0, h1, h2, h⟩ | ⟨h0, h1, h2, h⟩
  · skip
    refine lv_aload_n hx hb d_law_104 rfl (lv_at hl 2 rfl) ?_
    refine lv_aload_n hx hb d_law_105 rfl (lv_at hl 3 rfl) ?_
    refine lv_iload_n hx hb d_law_106 rfl (lv_at hl 0 rfl) ?_
    refine lv_iconst (v := 1) hx hb d_law_107 (by decide) ?_
    refine lv_iadd hx hb d_law_108 ?_
    rw [show nI i + 1 = nI (i + 1) from nI_add i 1]
    refine va_sld hx hb hX hbl hbA hS (vp_in_nI (show i + 1 < L by omega) (by omega)) d_law_109 ?_
    rw [nI_clamp (show i + 1 < 2 ^ 31 by omega), e1]
    refine lv_aload_n hx hb d_law_110 rfl (lv_at hl 3 rfl) ?_
    refine lv_iload_n hx hb d_law_111 rfl (lv_at hl 0 rfl) ?_
    refine lv_iconst (v := 2) hx hb d_law_112 (by decide) ?_
    refine lv_iadd hx hb d_law_113 ?_
    rw [show nI i + 2 = nI (i + 2) from nI_add i 2]
    refine va_sld hx hb hX hbl hbA hS (vp_in_nI (show i + 2 < L by omega) (by omega)) d_law_114 ?_
    rw [nI_clamp (show i + 2 < 2 ^ 31 by omega), e2]
    refine lv_aload_n hx hb d_law_115 rfl (lv_at hl 3 rfl) ?_
    refine lv_iload_n hx hb d_law_116 rfl (lv_at hl 0 rfl) ?_
    refine lv_iconst (v := 3) hx hb d_law_117 (by decide) ?_
    refine lv_iadd hx hb d_law_118 ?_
    rw [show nI i + 3 = nI (i + 3) from nI_add i 3]
    refine va_sld hx hb hX hbl hbA hS (vp_in_nI (show i + 3 < L by omega) (by omega)) d_law_119 ?_
    rw [nI_clamp (show i + 3 < 2 ^ 31 by omega), e3]
    refine k_pure (r := .int (-1)) (W.runV (As := [.int a1, .int a2, .int a3]) (rest := []) ⟨hx, hb, hml, hown, hts⟩ (c_BG_box_bad l g H I M x n its nb bs ib inv a1 a2 a3 h) (cwV 3 hts (kV_good kw_68 kw_65 kw_66 kw_67 kw_1) rfl rfl rfl (by decide +kernel) ⟨Nat.le_of_ble_eq_true rfl, Nat.le_of_ble_eq_true rfl⟩) (k_preV (KK_st g) hKK (inv.recv hK)) rfl rfl hl.1 rfl (lv_room (Nat.le_of_ble_eq_true rfl)) d_law_120 ⟨by show _ ≤ 600000; omega, by show _ ≤ 7302250; omega⟩) ?_
    refine lv_aload_n hx hb d_law_123 rfl (lv_at hl 1 rfl) ?_
    refine lv_aload_n hx hb d_law_124 rfl (lv_at hl 3 rfl) ?_
    refine lv_iload_n hx hb d_law_125 rfl (lv_at hl 0 rfl) ?_
    refine lv_iconst (v := 1) hx hb d_law_126 (by decide) ?_
    refine lv_iadd hx hb d_law_127 ?_
    rw [show nI i + 1 = nI (i + 1) from nI_add i 1]
    refine va_sld hx hb hX hbl hbA hS (vp_in_nI (show i + 1 < L by omega) (by omega)) d_law_128 ?_
    rw [nI_clamp (show i + 1 < 2 ^ 31 by omega), e1]
    refine lv_aload_n hx hb d_law_129 rfl (lv_at hl 3 rfl) ?_
    refine lv_iload_n hx hb d_law_130 rfl (lv_at hl 0 rfl) ?_
    refine lv_iconst (v := 2) hx hb d_law_131 (by decide) ?_
    refine lv_iadd hx hb d_law_132 ?_
    rw [show nI i + 2 = nI (i + 2) from nI_add i 2]
    refine va_sld hx hb hX hbl hbA hS (vp_in_nI (show i + 2 < L by omega) (by omega)) d_law_133 ?_
    rw [nI_clamp (show i + 2 < 2 ^ 31 by omega), e2]
    refine lv_aload_n hx hb d_law_134 rfl (lv_at hl 3 rfl) ?_
    refine lv_iload_n hx hb d_law_135 rfl (lv_at hl 0 rfl) ?_
    refine lv_iconst (v := 3) hx hb d_law_136 (by decide) ?_
    refine lv_iadd hx hb d_law_137 ?_
    rw [show nI i + 3 = nI (i + 3) from nI_add i 3]
    refine va_sld hx hb hX hbl hbA hS (vp_in_nI (show i + 3 < L by omega) (by omega)) d_law_138 ?_
    rw [nI_clamp (show i + 3 < 2 ^ 31 by omega), e3]
    refine k_pure (r := .int (-1)) (W.runV (As := [.int a1, .int a2, .int a3]) (rest := [.int (-1)]) ⟨hx, hb, hml, hown, hts⟩ (c_Mod_box_bad l g H m0 ad n ib nb F G hMd a1 a2 a3 h) (cwV 3 hts (kV_good kw_659 kw_656 kw_657 kw_658 kw_5) rfl rfl rfl (by decide +kernel) ⟨Nat.le_of_ble_eq_true rfl, Nat.le_of_ble_eq_true rfl⟩) (k_preV (KK_st g) hKK (va_recv hK (k_one hMd.1) (ci := 10) (q0 := 0) rfl rfl)) rfl rfl hl.1 rfl (lv_room (Nat.le_of_ble_eq_true rfl)) d_law_139 ⟨by show _ ≤ 600000; omega, by show _ ≤ 7302250; omega⟩) ?_
    refine lv_icmp_eq (tgt := 517) hx hb d_law_142 (by decide) (fun c_1 => ?_) (fun c_1 => ?_)
    rotate_left
    · exact absurd c_1 (fun q => q rfl)
    refine W.widen (k := cells + 103) (n := slots + 5109) (by omega) (by omega) ?_
    exact kk _ _ _ _ _ _ _ _ _ H locs ls ⟨inv, hMd, rel, sep, hLc⟩ (lv_sub (l := [(3, .int (nI i)), (2, .ref m0), (1, .ref x), (0, .ref b)]) hl [0, 1, 2, 3] rfl)
  · skip
    have h : nb = 60 := by omega
    refine lv_aload_n hx hb d_law_104 rfl (lv_at hl 2 rfl) ?_
    refine lv_aload_n hx hb d_law_105 rfl (lv_at hl 3 rfl) ?_
    refine lv_iload_n hx hb d_law_106 rfl (lv_at hl 0 rfl) ?_
    refine lv_iconst (v := 1) hx hb d_law_107 (by decide) ?_
    refine lv_iadd hx hb d_law_108 ?_
    rw [show nI i + 1 = nI (i + 1) from nI_add i 1]
    refine va_sld hx hb hX hbl hbA hS (vp_in_nI (show i + 1 < L by omega) (by omega)) d_law_109 ?_
    rw [nI_clamp (show i + 1 < 2 ^ 31 by omega), e1]
    refine lv_aload_n hx hb d_law_110 rfl (lv_at hl 3 rfl) ?_
    refine lv_iload_n hx hb d_law_111 rfl (lv_at hl 0 rfl) ?_
    refine lv_iconst (v := 2) hx hb d_law_112 (by decide) ?_
    refine lv_iadd hx hb d_law_113 ?_
    rw [show nI i + 2 = nI (i + 2) from nI_add i 2]
    refine va_sld hx hb hX hbl hbA hS (vp_in_nI (show i + 2 < L by omega) (by omega)) d_law_114 ?_
    rw [nI_clamp (show i + 2 < 2 ^ 31 by omega), e2]
    refine lv_aload_n hx hb d_law_115 rfl (lv_at hl 3 rfl) ?_
    refine lv_iload_n hx hb d_law_116 rfl (lv_at hl 0 rfl) ?_
    refine lv_iconst (v := 3) hx hb d_law_117 (by decide) ?_
    refine lv_iadd hx hb d_law_118 ?_
    rw [show nI i + 3 = nI (i + 3) from nI_add i 3]
    refine va_sld hx hb hX hbl hbA hS (vp_in_nI (show i + 3 < L by omega) (by omega)) d_law_119 ?_
    rw [nI_clamp (show i + 3 < 2 ^ 31 by omega), e3]
    refine k_pure (r := .int (-2)) (W.runV (As := [.int a1, .int a2, .int a3]) (rest := []) ⟨hx, hb, hml, hown, hts⟩ (c_BG_box_full l g H I M x n its nb bs ib inv a1 a2 a3 h0 h1 h2 h) (cwV 3 hts (kV_good kw_68 kw_65 kw_66 kw_67 kw_1) rfl rfl rfl (by decide +kernel) ⟨Nat.le_of_ble_eq_true rfl, Nat.le_of_ble_eq_true rfl⟩) (k_preV (KK_st g) hKK (inv.recv hK)) rfl rfl hl.1 rfl (lv_room (Nat.le_of_ble_eq_true rfl)) d_law_120 ⟨by show _ ≤ 600000; omega, by show _ ≤ 7302250; omega⟩) ?_
    refine lv_aload_n hx hb d_law_123 rfl (lv_at hl 1 rfl) ?_
    refine lv_aload_n hx hb d_law_124 rfl (lv_at hl 3 rfl) ?_
    refine lv_iload_n hx hb d_law_125 rfl (lv_at hl 0 rfl) ?_
    refine lv_iconst (v := 1) hx hb d_law_126 (by decide) ?_
    refine lv_iadd hx hb d_law_127 ?_
    rw [show nI i + 1 = nI (i + 1) from nI_add i 1]
    refine va_sld hx hb hX hbl hbA hS (vp_in_nI (show i + 1 < L by omega) (by omega)) d_law_128 ?_
    rw [nI_clamp (show i + 1 < 2 ^ 31 by omega), e1]
    refine lv_aload_n hx hb d_law_129 rfl (lv_at hl 3 rfl) ?_
    refine lv_iload_n hx hb d_law_130 rfl (lv_at hl 0 rfl) ?_
    refine lv_iconst (v := 2) hx hb d_law_131 (by decide) ?_
    refine lv_iadd hx hb d_law_132 ?_
    rw [show nI i + 2 = nI (i + 2) from nI_add i 2]
    refine va_sld hx hb hX hbl hbA hS (vp_in_nI (show i + 2 < L by omega) (by omega)) d_law_133 ?_
    rw [nI_clamp (show i + 2 < 2 ^ 31 by omega), e2]
    refine lv_aload_n hx hb d_law_134 rfl (lv_at hl 3 rfl) ?_
    refine lv_iload_n hx hb d_law_135 rfl (lv_at hl 0 rfl) ?_
    refine lv_iconst (v := 3) hx hb d_law_136 (by decide) ?_
    refine lv_iadd hx hb d_law_137 ?_
    rw [show nI i + 3 = nI (i + 3) from nI_add i 3]
    refine va_sld hx hb hX hbl hbA hS (vp_in_nI (show i + 3 < L by omega) (by omega)) d_law_138 ?_
    rw [nI_clamp (show i + 3 < 2 ^ 31 by omega), e3]
    refine k_pure (r := .int (-2)) (W.runV (As := [.int a1, .int a2, .int a3]) (rest := [.int (-2)]) ⟨hx, hb, hml, hown, hts⟩ (c_Mod_box_full l g H m0 ad n ib nb F G hMd a1 a2 a3 h0 h1 h2 h) (cwV 3 hts (kV_good kw_659 kw_656 kw_657 kw_658 kw_5) rfl rfl rfl (by decide +kernel) ⟨Nat.le_of_ble_eq_true rfl, Nat.le_of_ble_eq_true rfl⟩) (k_preV (KK_st g) hKK (va_recv hK (k_one hMd.1) (ci := 10) (q0 := 0) rfl rfl)) rfl rfl hl.1 rfl (lv_room (Nat.le_of_ble_eq_true rfl)) d_law_139 ⟨by show _ ≤ 600000; omega, by show _ ≤ 7302250; omega⟩) ?_
    refine lv_icmp_eq (tgt := 517) hx hb d_law_142 (by decide) (fun c_1 => ?_) (fun c_1 => ?_)
    rotate_left
    · exact absurd c_1 (fun q => q rfl)
    refine W.widen (k := cells + 103) (n := slots + 5109) (by omega) (by omega) ?_
    exact kk _ _ _ _ _ _ _ _ _ H locs ls ⟨inv, hMd, rel, sep, hLc⟩ (lv_sub (l := [(3, .int (nI i)), (2, .ref m0), (1, .ref x), (0, .ref b)]) hl [0, 1, 2, 3] rfl)
  · skip
    refine lv_aload_n hx hb d_law_104 rfl (lv_at hl 2 rfl) ?_
    refine lv_aload_n hx hb d_law_105 rfl (lv_at hl 3 rfl) ?_
    refine lv_iload_n hx hb d_law_106 rfl (lv_at hl 0 rfl) ?_
    refine lv_iconst (v := 1) hx hb d_law_107 (by decide) ?_
    refine lv_iadd hx hb d_law_108 ?_
    rw [show nI i + 1 = nI (i + 1) from nI_add i 1]
    refine va_sld hx hb hX hbl hbA hS (vp_in_nI (show i + 1 < L by omega) (by omega)) d_law_109 ?_
    rw [nI_clamp (show i + 1 < 2 ^ 31 by omega), e1]
    refine lv_aload_n hx hb d_law_110 rfl (lv_at hl 3 rfl) ?_
    refine lv_iload_n hx hb d_law_111 rfl (lv_at hl 0 rfl) ?_
    refine lv_iconst (v := 2) hx hb d_law_112 (by decide) ?_
    refine lv_iadd hx hb d_law_113 ?_
    rw [show nI i + 2 = nI (i + 2) from nI_add i 2]
    refine va_sld hx hb hX hbl hbA hS (vp_in_nI (show i + 2 < L by omega) (by omega)) d_law_114 ?_
    rw [nI_clamp (show i + 2 < 2 ^ 31 by omega), e2]
    refine lv_aload_n hx hb d_law_115 rfl (lv_at hl 3 rfl) ?_
    refine lv_iload_n hx hb d_law_116 rfl (lv_at hl 0 rfl) ?_
    refine lv_iconst (v := 3) hx hb d_law_117 (by decide) ?_
    refine lv_iadd hx hb d_law_118 ?_
    rw [show nI i + 3 = nI (i + 3) from nI_add i 3]
    refine va_sld hx hb hX hbl hbA hS (vp_in_nI (show i + 3 < L by omega) (by omega)) d_law_119 ?_
    rw [nI_clamp (show i + 3 < 2 ^ 31 by omega), e3]
    refine k_call (A := (fun q : Nat => s.heap.size ≤ q)) (W.runV (As := [.int a1, .int a2, .int a3]) (rest := []) ⟨hx, hb, hml, hown, hts⟩ (c_BG_box_ok l g H I M x n its nb bs ib inv a1 a2 a3 h0 h1 h2 h) (cwV 3 hts (kV_good kw_68 kw_65 kw_66 kw_67 kw_1) rfl rfl rfl (by decide +kernel) ⟨Nat.le_of_ble_eq_true rfl, Nat.le_of_ble_eq_true rfl⟩) (k_preV (KK_st g) hKK (inv.recv hK)) rfl rfl hl.1 rfl (lv_room (Nat.le_of_ble_eq_true rfl)) d_law_120 ⟨by show _ ≤ 600000; omega, by show _ ≤ 7302250; omega⟩) hLc hfM (fun v H1 locs hv hLc => ?_)
    obtain ⟨rfl, hE, J, N, inv, hN, hJ⟩ := hv
    obtain ⟨hMd, sep⟩ := lw_cls hMd sep hE hN hJ
    have hS := lw_S hg inv hLc
    skip
    refine lv_aload_n hx hb d_law_123 rfl (lv_at hl 1 rfl) ?_
    refine lv_aload_n hx hb d_law_124 rfl (lv_at hl 3 rfl) ?_
    refine lv_iload_n hx hb d_law_125 rfl (lv_at hl 0 rfl) ?_
    refine lv_iconst (v := 1) hx hb d_law_126 (by decide) ?_
    refine lv_iadd hx hb d_law_127 ?_
    rw [show nI i + 1 = nI (i + 1) from nI_add i 1]
    refine va_sld hx hb hX hbl hbA hS (vp_in_nI (show i + 1 < L by omega) (by omega)) d_law_128 ?_
    rw [nI_clamp (show i + 1 < 2 ^ 31 by omega), e1]
    refine lv_aload_n hx hb d_law_129 rfl (lv_at hl 3 rfl) ?_
    refine lv_iload_n hx hb d_law_130 rfl (lv_at hl 0 rfl) ?_
    refine lv_iconst (v := 2) hx hb d_law_131 (by decide) ?_
    refine lv_iadd hx hb d_law_132 ?_
    rw [show nI i + 2 = nI (i + 2) from nI_add i 2]
    refine va_sld hx hb hX hbl hbA hS (vp_in_nI (show i + 2 < L by omega) (by omega)) d_law_133 ?_
    rw [nI_clamp (show i + 2 < 2 ^ 31 by omega), e2]
    refine lv_aload_n hx hb d_law_134 rfl (lv_at hl 3 rfl) ?_
    refine lv_iload_n hx hb d_law_135 rfl (lv_at hl 0 rfl) ?_
    refine lv_iconst (v := 3) hx hb d_law_136 (by decide) ?_
    refine lv_iadd hx hb d_law_137 ?_
    rw [show nI i + 3 = nI (i + 3) from nI_add i 3]
    refine va_sld hx hb hX hbl hbA hS (vp_in_nI (show i + 3 < L by omega) (by omega)) d_law_138 ?_
    rw [nI_clamp (show i + 3 < 2 ^ 31 by omega), e3]
    refine k_call (A := (fun q : Nat => s.heap.size ≤ q)) (W.runV (As := [.int a1, .int a2, .int a3]) (rest := [.int (nI nb)]) ⟨hx, hb, hml, hown, hts⟩ (c_Mod_box_ok l g H1 m0 ad n ib nb F G hMd a1 a2 a3 h0 h1 h2 h) (cwV 3 hts (kV_good kw_659 kw_656 kw_657 kw_658 kw_5) rfl rfl rfl (by decide +kernel) ⟨Nat.le_of_ble_eq_true rfl, Nat.le_of_ble_eq_true rfl⟩) (k_preV (KK_st g) hKK (va_recv hK (k_one hMd.1) (ci := 10) (q0 := 0) rfl rfl)) rfl rfl hl.1 rfl (lv_room (Nat.le_of_ble_eq_true rfl)) d_law_139 ⟨by show _ ≤ 600000; omega, by show _ ≤ 7302250; omega⟩) hLc (fun q h => (sep q h).2.2.1) (fun v H2 locs hv hLc => ?_)
    obtain ⟨rfl, hE2, hMd⟩ := hv
    obtain ⟨inv, sep⟩ := lw_ref hg inv sep hE2
    refine lv_icmp_eq (tgt := 517) hx hb d_law_142 (by decide) (fun c_1 => ?_) (fun c_1 => ?_)
    rotate_left
    · exact absurd c_1 (fun q => q rfl)
    refine W.widen (k := cells + 103) (n := slots + 5109) (by omega) (by omega) ?_
    exact kk _ _ _ _ _ _ _ _ _ H2 locs ls ⟨inv, hMd, rel_box rel h h0, sep, hLc⟩ (lv_sub (l := [(3, .int (nI i)), (2, .ref m0), (1, .ref x), (0, .ref b)]) hl [0, 1, 2, 3] rfl)
set_option maxHeartbeats 4000000 in
set_option maxRecDepth 100000 in
theorem lw_put {p : Program} {l : Launch} {e : Env} {s : State} {m : MethodId} {below : List Frame} {meth : Method} {c : Code} {b L : Nat} {xs : Nat → Int32} {g : KGt} {x m0 : Nat} {ad : Nat → Nat} (C0 : lw_At p s m meth c b L xs) (hKK : KK g s) (hg : g.2.2.1 = s.heap) {I M : Nat → Prop} {n : Nat} {its : Nat → Nat → Int32} {nb : Nat} {bs : Nat → BxT} {ib : Nat} {F : Nat → Nat → Int32} {G : Nat → Nat → Int64} {H : Heap} {locs : List Loc} (hI : lw_I g s x m0 ad I M n its nb bs ib F G H locs) {i cells slots : Nat} (hL3 : L ≤ 3072) (hi : i + 6 ≤ L) (hce : cells + 103 ≤ 600000) (hsl : slots + 5109 ≤ 7302250) {ls : Array Slot} (hl : lv_has ls 4 [(3, .int (nI i)), (2, .ref m0), (1, .ref x), (0, .ref b)]) (kk : (∀ (I M : Nat → Prop) (n : Nat) (its : Nat → Nat → Int32) (nb : Nat) (bs : Nat → BxT) (ib : Nat) (F : Nat → Nat → Int32) (G : Nat → Nat → Int64) (H : Heap) (locs : List Loc) (ls : Array Slot), lw_I g s x m0 ad I M n its nb bs ib F G H locs → lv_has ls 4 [(3, .int (nI i)), (2, .ref m0), (1, .ref x), (0, .ref b)] → W p l e room_1 s m #[Value.ref b] below meth c H locs (cells + 103) (slots + 5109) (lw_Z below #[Value.ref b] s) (F0 m 517 ls []))) : W p l e room_1 s m #[Value.ref b] below meth c H locs cells slots (lw_Z below #[Value.ref b] s) (F0 m 147 ls []) := by
  obtain ⟨hx, hb, hr, hml, hown, hts0, hX, hbl, hlocks, hgv⟩ := id C0
  have hts : ∀ w ∈ kG, w.before #[Value.ref b] s = true := fun w hw => hts0 w (kG_in hw)
  have hown : s.vm.findClass "BoxGlueLaw" = some m.cls := hown
  have hK := hKK.1
  obtain ⟨inv, hMd, rel, sep, hLc⟩ := hI
  have hbA : ¬ (fun q : Nat => s.heap.size ≤ q) b := Nat.not_le.mpr hbl
  have hS := lw_S hg inv hLc
  have hn40 := rel.1
  have hnb60 := rel.2.1
  have hib := rel.2.2.1
  have hfM := lw_fM hg inv
  obtain ⟨a1, e1⟩ : ∃ a, xs (i + 1) = a := ⟨_, rfl⟩
  obtain ⟨a2, e2⟩ : ∃ a, xs (i + 2) = a := ⟨_, rfl⟩
  rcases lw_c_put hnb60 n a1 a2 with h | ⟨k, hk, rfl, h | ⟨h0, h⟩ | ⟨h0, h⟩⟩
  · skip
    refine lv_aload_n hx hb d_law_147 rfl (lv_at hl 2 rfl) ?_
    refine lv_aload_n hx hb d_law_148 rfl (lv_at hl 3 rfl) ?_
    refine lv_iload_n hx hb d_law_149 rfl (lv_at hl 0 rfl) ?_
    refine lv_iconst (v := 1) hx hb d_law_150 (by decide) ?_
    refine lv_iadd hx hb d_law_151 ?_
    rw [show nI i + 1 = nI (i + 1) from nI_add i 1]
    refine va_sld hx hb hX hbl hbA hS (vp_in_nI (show i + 1 < L by omega) (by omega)) d_law_152 ?_
    rw [nI_clamp (show i + 1 < 2 ^ 31 by omega), e1]
    refine lv_aload_n hx hb d_law_153 rfl (lv_at hl 3 rfl) ?_
    refine lv_iload_n hx hb d_law_154 rfl (lv_at hl 0 rfl) ?_
    refine lv_iconst (v := 2) hx hb d_law_155 (by decide) ?_
    refine lv_iadd hx hb d_law_156 ?_
    rw [show nI i + 2 = nI (i + 2) from nI_add i 2]
    refine va_sld hx hb hX hbl hbA hS (vp_in_nI (show i + 2 < L by omega) (by omega)) d_law_157 ?_
    rw [nI_clamp (show i + 2 < 2 ^ 31 by omega), e2]
    refine k_pure (r := .int (-1)) (W.runV (As := [.int a1, .int a2]) (rest := []) ⟨hx, hb, hml, hown, hts⟩ (c_BG_put_bad1 l g H I M x n its nb bs ib inv a1 a2 h) (cwV 2 hts (kV_good kw_193 kw_190 kw_191 kw_192 kw_1) rfl rfl rfl (by decide +kernel) ⟨Nat.le_of_ble_eq_true rfl, Nat.le_of_ble_eq_true rfl⟩) (k_preV (KK_st g) hKK (inv.recv hK)) rfl rfl hl.1 rfl (lv_room (Nat.le_of_ble_eq_true rfl)) d_law_158 ⟨by show _ ≤ 600000; omega, by show _ ≤ 7302250; omega⟩) ?_
    refine lv_aload_n hx hb d_law_161 rfl (lv_at hl 1 rfl) ?_
    refine lv_aload_n hx hb d_law_162 rfl (lv_at hl 3 rfl) ?_
    refine lv_iload_n hx hb d_law_163 rfl (lv_at hl 0 rfl) ?_
    refine lv_iconst (v := 1) hx hb d_law_164 (by decide) ?_
    refine lv_iadd hx hb d_law_165 ?_
    rw [show nI i + 1 = nI (i + 1) from nI_add i 1]
    refine va_sld hx hb hX hbl hbA hS (vp_in_nI (show i + 1 < L by omega) (by omega)) d_law_166 ?_
    rw [nI_clamp (show i + 1 < 2 ^ 31 by omega), e1]
    refine lv_aload_n hx hb d_law_167 rfl (lv_at hl 3 rfl) ?_
    refine lv_iload_n hx hb d_law_168 rfl (lv_at hl 0 rfl) ?_
    refine lv_iconst (v := 2) hx hb d_law_169 (by decide) ?_
    refine lv_iadd hx hb d_law_170 ?_
    rw [show nI i + 2 = nI (i + 2) from nI_add i 2]
    refine va_sld hx hb hX hbl hbA hS (vp_in_nI (show i + 2 < L by omega) (by omega)) d_law_171 ?_
    rw [nI_clamp (show i + 2 < 2 ^ 31 by omega), e2]
    refine k_pure (r := .int (-1)) (W.runV (As := [.int a1, .int a2]) (rest := [.int (-1)]) ⟨hx, hb, hml, hown, hts⟩ (c_Mod_put_bad1 l g H m0 ad n ib nb F G hMd a1 a2 h) (cwV 2 hts (kV_good kw_667 kw_664 kw_665 kw_666 kw_5) rfl rfl rfl (by decide +kernel) ⟨Nat.le_of_ble_eq_true rfl, Nat.le_of_ble_eq_true rfl⟩) (k_preV (KK_st g) hKK (va_recv hK (k_one hMd.1) (ci := 10) (q0 := 0) rfl rfl)) rfl rfl hl.1 rfl (lv_room (Nat.le_of_ble_eq_true rfl)) d_law_172 ⟨by show _ ≤ 600000; omega, by show _ ≤ 7302250; omega⟩) ?_
    refine lv_icmp_eq (tgt := 517) hx hb d_law_175 (by decide) (fun c_1 => ?_) (fun c_1 => ?_)
    rotate_left
    · exact absurd c_1 (fun q => q rfl)
    refine W.widen (k := cells + 103) (n := slots + 5109) (by omega) (by omega) ?_
    exact kk _ _ _ _ _ _ _ _ _ H locs ls ⟨inv, hMd, rel, sep, hLc⟩ (lv_sub (l := [(3, .int (nI i)), (2, .ref m0), (1, .ref x), (0, .ref b)]) hl [0, 1, 2, 3] rfl)
  · skip
    refine lv_aload_n hx hb d_law_147 rfl (lv_at hl 2 rfl) ?_
    refine lv_aload_n hx hb d_law_148 rfl (lv_at hl 3 rfl) ?_
    refine lv_iload_n hx hb d_law_149 rfl (lv_at hl 0 rfl) ?_
    refine lv_iconst (v := 1) hx hb d_law_150 (by decide) ?_
    refine lv_iadd hx hb d_law_151 ?_
    rw [show nI i + 1 = nI (i + 1) from nI_add i 1]
    refine va_sld hx hb hX hbl hbA hS (vp_in_nI (show i + 1 < L by omega) (by omega)) d_law_152 ?_
    rw [nI_clamp (show i + 1 < 2 ^ 31 by omega), e1]
    refine lv_aload_n hx hb d_law_153 rfl (lv_at hl 3 rfl) ?_
    refine lv_iload_n hx hb d_law_154 rfl (lv_at hl 0 rfl) ?_
    refine lv_iconst (v := 2) hx hb d_law_155 (by decide) ?_
    refine lv_iadd hx hb d_law_156 ?_
    rw [show nI i + 2 = nI (i + 2) from nI_add i 2]
    refine va_sld hx hb hX hbl hbA hS (vp_in_nI (show i + 2 < L by omega) (by omega)) d_law_157 ?_
    rw [nI_clamp (show i + 2 < 2 ^ 31 by omega), e2]
    refine k_pure (r := .int (-1)) (W.runV (As := [.int (nI k), .int a2]) (rest := []) ⟨hx, hb, hml, hown, hts⟩ (c_BG_put_bad2 l g H I M x n its nb bs ib inv a2 k hk h) (cwV 2 hts (kV_good kw_193 kw_190 kw_191 kw_192 kw_1) rfl rfl rfl (by decide +kernel) ⟨Nat.le_of_ble_eq_true rfl, Nat.le_of_ble_eq_true rfl⟩) (k_preV (KK_st g) hKK (inv.recv hK)) rfl rfl hl.1 rfl (lv_room (Nat.le_of_ble_eq_true rfl)) d_law_158 ⟨by show _ ≤ 600000; omega, by show _ ≤ 7302250; omega⟩) ?_
    refine lv_aload_n hx hb d_law_161 rfl (lv_at hl 1 rfl) ?_
    refine lv_aload_n hx hb d_law_162 rfl (lv_at hl 3 rfl) ?_
    refine lv_iload_n hx hb d_law_163 rfl (lv_at hl 0 rfl) ?_
    refine lv_iconst (v := 1) hx hb d_law_164 (by decide) ?_
    refine lv_iadd hx hb d_law_165 ?_
    rw [show nI i + 1 = nI (i + 1) from nI_add i 1]
    refine va_sld hx hb hX hbl hbA hS (vp_in_nI (show i + 1 < L by omega) (by omega)) d_law_166 ?_
    rw [nI_clamp (show i + 1 < 2 ^ 31 by omega), e1]
    refine lv_aload_n hx hb d_law_167 rfl (lv_at hl 3 rfl) ?_
    refine lv_iload_n hx hb d_law_168 rfl (lv_at hl 0 rfl) ?_
    refine lv_iconst (v := 2) hx hb d_law_169 (by decide) ?_
    refine lv_iadd hx hb d_law_170 ?_
    rw [show nI i + 2 = nI (i + 2) from nI_add i 2]
    refine va_sld hx hb hX hbl hbA hS (vp_in_nI (show i + 2 < L by omega) (by omega)) d_law_171 ?_
    rw [nI_clamp (show i + 2 < 2 ^ 31 by omega), e2]
    refine k_pure (r := .int (-1)) (W.runV (As := [.int (nI k), .int a2]) (rest := [.int (-1)]) ⟨hx, hb, hml, hown, hts⟩ (c_Mod_put_bad2 l g H m0 ad n ib nb F G hMd a2 k hk hnb60 h) (cwV 2 hts (kV_good kw_667 kw_664 kw_665 kw_666 kw_5) rfl rfl rfl (by decide +kernel) ⟨Nat.le_of_ble_eq_true rfl, Nat.le_of_ble_eq_true rfl⟩) (k_preV (KK_st g) hKK (va_recv hK (k_one hMd.1) (ci := 10) (q0 := 0) rfl rfl)) rfl rfl hl.1 rfl (lv_room (Nat.le_of_ble_eq_true rfl)) d_law_172 ⟨by show _ ≤ 600000; omega, by show _ ≤ 7302250; omega⟩) ?_
    refine lv_icmp_eq (tgt := 517) hx hb d_law_175 (by decide) (fun c_1 => ?_) (fun c_1 => ?_)
    rotate_left
    · exact absurd c_1 (fun q => q rfl)
    refine W.widen (k := cells + 103) (n := slots + 5109) (by omega) (by omega) ?_
    exact kk _ _ _ _ _ _ _ _ _ H locs ls ⟨inv, hMd, rel, sep, hLc⟩ (lv_sub (l := [(3, .int (nI i)), (2, .ref m0), (1, .ref x), (0, .ref b)]) hl [0, 1, 2, 3] rfl)
  · skip
    have h : n = 40 := by omega
    refine lv_aload_n hx hb d_law_147 rfl (lv_at hl 2 rfl) ?_
    refine lv_aload_n hx hb d_law_148 rfl (lv_at hl 3 rfl) ?_
    refine lv_iload_n hx hb d_law_149 rfl (lv_at hl 0 rfl) ?_
    refine lv_iconst (v := 1) hx hb d_law_150 (by decide) ?_
    refine lv_iadd hx hb d_law_151 ?_
    rw [show nI i + 1 = nI (i + 1) from nI_add i 1]
    refine va_sld hx hb hX hbl hbA hS (vp_in_nI (show i + 1 < L by omega) (by omega)) d_law_152 ?_
    rw [nI_clamp (show i + 1 < 2 ^ 31 by omega), e1]
    refine lv_aload_n hx hb d_law_153 rfl (lv_at hl 3 rfl) ?_
    refine lv_iload_n hx hb d_law_154 rfl (lv_at hl 0 rfl) ?_
    refine lv_iconst (v := 2) hx hb d_law_155 (by decide) ?_
    refine lv_iadd hx hb d_law_156 ?_
    rw [show nI i + 2 = nI (i + 2) from nI_add i 2]
    refine va_sld hx hb hX hbl hbA hS (vp_in_nI (show i + 2 < L by omega) (by omega)) d_law_157 ?_
    rw [nI_clamp (show i + 2 < 2 ^ 31 by omega), e2]
    refine k_call (A := (fun q : Nat => s.heap.size ≤ q)) (W.runV (As := [.int (nI k), .int a2]) (rest := []) ⟨hx, hb, hml, hown, hts⟩ (c_BG_put_full l g H I M x n its nb bs ib inv a2 k hk h0 h) (cwV 2 hts (kV_good kw_193 kw_190 kw_191 kw_192 kw_1) rfl rfl rfl (by decide +kernel) ⟨Nat.le_of_ble_eq_true rfl, Nat.le_of_ble_eq_true rfl⟩) (k_preV (KK_st g) hKK (inv.recv hK)) rfl rfl hl.1 rfl (lv_room (Nat.le_of_ble_eq_true rfl)) d_law_158 ⟨by show _ ≤ 600000; omega, by show _ ≤ 7302250; omega⟩) hLc hfM (fun v H1 locs hv hLc => ?_)
    obtain ⟨rfl, hE, J, N, inv, hN, hJ⟩ := hv
    obtain ⟨hMd, sep⟩ := lw_cls hMd sep hE hN hJ
    have hS := lw_S hg inv hLc
    skip
    refine lv_aload_n hx hb d_law_161 rfl (lv_at hl 1 rfl) ?_
    refine lv_aload_n hx hb d_law_162 rfl (lv_at hl 3 rfl) ?_
    refine lv_iload_n hx hb d_law_163 rfl (lv_at hl 0 rfl) ?_
    refine lv_iconst (v := 1) hx hb d_law_164 (by decide) ?_
    refine lv_iadd hx hb d_law_165 ?_
    rw [show nI i + 1 = nI (i + 1) from nI_add i 1]
    refine va_sld hx hb hX hbl hbA hS (vp_in_nI (show i + 1 < L by omega) (by omega)) d_law_166 ?_
    rw [nI_clamp (show i + 1 < 2 ^ 31 by omega), e1]
    refine lv_aload_n hx hb d_law_167 rfl (lv_at hl 3 rfl) ?_
    refine lv_iload_n hx hb d_law_168 rfl (lv_at hl 0 rfl) ?_
    refine lv_iconst (v := 2) hx hb d_law_169 (by decide) ?_
    refine lv_iadd hx hb d_law_170 ?_
    rw [show nI i + 2 = nI (i + 2) from nI_add i 2]
    refine va_sld hx hb hX hbl hbA hS (vp_in_nI (show i + 2 < L by omega) (by omega)) d_law_171 ?_
    rw [nI_clamp (show i + 2 < 2 ^ 31 by omega), e2]
    refine k_pure (r := .int (-2)) (W.runV (As := [.int (nI k), .int a2]) (rest := [.int (-2)]) ⟨hx, hb, hml, hown, hts⟩ (c_Mod_put_full l g H1 m0 ad n ib nb F G hMd a2 k hk hnb60 h0 h) (cwV 2 hts (kV_good kw_667 kw_664 kw_665 kw_666 kw_5) rfl rfl rfl (by decide +kernel) ⟨Nat.le_of_ble_eq_true rfl, Nat.le_of_ble_eq_true rfl⟩) (k_preV (KK_st g) hKK (va_recv hK (k_one hMd.1) (ci := 10) (q0 := 0) rfl rfl)) rfl rfl hl.1 rfl (lv_room (Nat.le_of_ble_eq_true rfl)) d_law_172 ⟨by show _ ≤ 600000; omega, by show _ ≤ 7302250; omega⟩) ?_
    refine lv_icmp_eq (tgt := 517) hx hb d_law_175 (by decide) (fun c_1 => ?_) (fun c_1 => ?_)
    rotate_left
    · exact absurd c_1 (fun q => q rfl)
    refine W.widen (k := cells + 103) (n := slots + 5109) (by omega) (by omega) ?_
    exact kk _ _ _ _ _ _ _ _ _ H1 locs ls ⟨inv, hMd, rel, sep, hLc⟩ (lv_sub (l := [(3, .int (nI i)), (2, .ref m0), (1, .ref x), (0, .ref b)]) hl [0, 1, 2, 3] rfl)
  · skip
    refine lv_aload_n hx hb d_law_147 rfl (lv_at hl 2 rfl) ?_
    refine lv_aload_n hx hb d_law_148 rfl (lv_at hl 3 rfl) ?_
    refine lv_iload_n hx hb d_law_149 rfl (lv_at hl 0 rfl) ?_
    refine lv_iconst (v := 1) hx hb d_law_150 (by decide) ?_
    refine lv_iadd hx hb d_law_151 ?_
    rw [show nI i + 1 = nI (i + 1) from nI_add i 1]
    refine va_sld hx hb hX hbl hbA hS (vp_in_nI (show i + 1 < L by omega) (by omega)) d_law_152 ?_
    rw [nI_clamp (show i + 1 < 2 ^ 31 by omega), e1]
    refine lv_aload_n hx hb d_law_153 rfl (lv_at hl 3 rfl) ?_
    refine lv_iload_n hx hb d_law_154 rfl (lv_at hl 0 rfl) ?_
    refine lv_iconst (v := 2) hx hb d_law_155 (by decide) ?_
    refine lv_iadd hx hb d_law_156 ?_
    rw [show nI i + 2 = nI (i + 2) from nI_add i 2]
    refine va_sld hx hb hX hbl hbA hS (vp_in_nI (show i + 2 < L by omega) (by omega)) d_law_157 ?_
    rw [nI_clamp (show i + 2 < 2 ^ 31 by omega), e2]
    refine k_call (A := (fun q : Nat => s.heap.size ≤ q)) (W.runV (As := [.int (nI k), .int a2]) (rest := []) ⟨hx, hb, hml, hown, hts⟩ (c_BG_put_ok l g H I M x n its nb bs ib inv a2 k hk h0 h) (cwV 2 hts (kV_good kw_193 kw_190 kw_191 kw_192 kw_1) rfl rfl rfl (by decide +kernel) ⟨Nat.le_of_ble_eq_true rfl, Nat.le_of_ble_eq_true rfl⟩) (k_preV (KK_st g) hKK (inv.recv hK)) rfl rfl hl.1 rfl (lv_room (Nat.le_of_ble_eq_true rfl)) d_law_158 ⟨by show _ ≤ 600000; omega, by show _ ≤ 7302250; omega⟩) hLc hfM (fun v H1 locs hv hLc => ?_)
    obtain ⟨rfl, hE, J, N, inv, hN, hJ⟩ := hv
    obtain ⟨hMd, sep⟩ := lw_cls hMd sep hE hN hJ
    have hS := lw_S hg inv hLc
    skip
    refine lv_aload_n hx hb d_law_161 rfl (lv_at hl 1 rfl) ?_
    refine lv_aload_n hx hb d_law_162 rfl (lv_at hl 3 rfl) ?_
    refine lv_iload_n hx hb d_law_163 rfl (lv_at hl 0 rfl) ?_
    refine lv_iconst (v := 1) hx hb d_law_164 (by decide) ?_
    refine lv_iadd hx hb d_law_165 ?_
    rw [show nI i + 1 = nI (i + 1) from nI_add i 1]
    refine va_sld hx hb hX hbl hbA hS (vp_in_nI (show i + 1 < L by omega) (by omega)) d_law_166 ?_
    rw [nI_clamp (show i + 1 < 2 ^ 31 by omega), e1]
    refine lv_aload_n hx hb d_law_167 rfl (lv_at hl 3 rfl) ?_
    refine lv_iload_n hx hb d_law_168 rfl (lv_at hl 0 rfl) ?_
    refine lv_iconst (v := 2) hx hb d_law_169 (by decide) ?_
    refine lv_iadd hx hb d_law_170 ?_
    rw [show nI i + 2 = nI (i + 2) from nI_add i 2]
    refine va_sld hx hb hX hbl hbA hS (vp_in_nI (show i + 2 < L by omega) (by omega)) d_law_171 ?_
    rw [nI_clamp (show i + 2 < 2 ^ 31 by omega), e2]
    refine k_call (A := (fun q : Nat => s.heap.size ≤ q)) (W.runV (As := [.int (nI k), .int a2]) (rest := [.int (nI (n + 1))]) ⟨hx, hb, hml, hown, hts⟩ (c_Mod_put_ok l g H1 m0 ad n ib nb F G hMd a2 k hk hnb60 h0 h) (cwV 2 hts (kV_good kw_667 kw_664 kw_665 kw_666 kw_5) rfl rfl rfl (by decide +kernel) ⟨Nat.le_of_ble_eq_true rfl, Nat.le_of_ble_eq_true rfl⟩) (k_preV (KK_st g) hKK (va_recv hK (k_one hMd.1) (ci := 10) (q0 := 0) rfl rfl)) rfl rfl hl.1 rfl (lv_room (Nat.le_of_ble_eq_true rfl)) d_law_172 ⟨by show _ ≤ 600000; omega, by show _ ≤ 7302250; omega⟩) hLc (fun q h => (sep q h).2.2.1) (fun v H2 locs hv hLc => ?_)
    obtain ⟨rfl, hE2, hMd⟩ := hv
    obtain ⟨inv, sep⟩ := lw_ref hg inv sep hE2
    refine lv_icmp_eq (tgt := 517) hx hb d_law_175 (by decide) (fun c_1 => ?_) (fun c_1 => ?_)
    rotate_left
    · exact absurd c_1 (fun q => q rfl)
    refine W.widen (k := cells + 103) (n := slots + 5109) (by omega) (by omega) ?_
    exact kk _ _ _ _ _ _ _ _ _ H2 locs ls ⟨inv, hMd, rel_put rel h hk, sep, hLc⟩ (lv_sub (l := [(3, .int (nI i)), (2, .ref m0), (1, .ref x), (0, .ref b)]) hl [0, 1, 2, 3] rfl)
set_option maxHeartbeats 4000000 in
set_option maxRecDepth 100000 in
theorem lw_glue {p : Program} {l : Launch} {e : Env} {s : State} {m : MethodId} {below : List Frame} {meth : Method} {c : Code} {b L : Nat} {xs : Nat → Int32} {g : KGt} {x m0 : Nat} {ad : Nat → Nat} (C0 : lw_At p s m meth c b L xs) (hKK : KK g s) (hg : g.2.2.1 = s.heap) {I M : Nat → Prop} {n : Nat} {its : Nat → Nat → Int32} {nb : Nat} {bs : Nat → BxT} {ib : Nat} {F : Nat → Nat → Int32} {G : Nat → Nat → Int64} {H : Heap} {locs : List Loc} (hI : lw_I g s x m0 ad I M n its nb bs ib F G H locs) {i cells slots : Nat} (hL3 : L ≤ 3072) (hi : i + 6 ≤ L) (hce : cells + 103 ≤ 600000) (hsl : slots + 5109 ≤ 7302250) {ls : Array Slot} (hl : lv_has ls 4 [(3, .int (nI i)), (2, .ref m0), (1, .ref x), (0, .ref b)]) (kk : (∀ (I M : Nat → Prop) (n : Nat) (its : Nat → Nat → Int32) (nb : Nat) (bs : Nat → BxT) (ib : Nat) (F : Nat → Nat → Int32) (G : Nat → Nat → Int64) (H : Heap) (locs : List Loc) (ls : Array Slot), lw_I g s x m0 ad I M n its nb bs ib F G H locs → lv_has ls 4 [(3, .int (nI i)), (2, .ref m0), (1, .ref x), (0, .ref b)] → W p l e room_1 s m #[Value.ref b] below meth c H locs (cells + 103) (slots + 5109) (lw_Z below #[Value.ref b] s) (F0 m 517 ls []))) : W p l e room_1 s m #[Value.ref b] below meth c H locs cells slots (lw_Z below #[Value.ref b] s) (F0 m 180 ls []) := by
  obtain ⟨hx, hb, hr, hml, hown, hts0, hX, hbl, hlocks, hgv⟩ := id C0
  have hts : ∀ w ∈ kG, w.before #[Value.ref b] s = true := fun w hw => hts0 w (kG_in hw)
  have hown : s.vm.findClass "BoxGlueLaw" = some m.cls := hown
  have hK := hKK.1
  obtain ⟨inv, hMd, rel, sep, hLc⟩ := hI
  have hbA : ¬ (fun q : Nat => s.heap.size ≤ q) b := Nat.not_le.mpr hbl
  have hS := lw_S hg inv hLc
  have hn40 := rel.1
  have hnb60 := rel.2.1
  have hib := rel.2.2.1
  have hfM := lw_fM hg inv
  obtain ⟨a1, e1⟩ : ∃ a, xs (i + 1) = a := ⟨_, rfl⟩
  obtain ⟨a2, e2⟩ : ∃ a, xs (i + 2) = a := ⟨_, rfl⟩
  obtain ⟨a3, e3⟩ : ∃ a, xs (i + 3) = a := ⟨_, rfl⟩
  obtain ⟨a4, e4⟩ : ∃ a, xs (i + 4) = a := ⟨_, rfl⟩
  obtain ⟨a5, e5⟩ : ∃ a, xs (i + 5) = a := ⟨_, rfl⟩
  rcases lw_c_glue n a1 a2 a3 a4 a5 with h | ⟨h0, h1, h2, h⟩ | ⟨h0, h1, h2, h⟩
  · skip
    refine lv_aload_n hx hb d_law_180 rfl (lv_at hl 2 rfl) ?_
    refine lv_aload_n hx hb d_law_181 rfl (lv_at hl 3 rfl) ?_
    refine lv_iload_n hx hb d_law_182 rfl (lv_at hl 0 rfl) ?_
    refine lv_iconst (v := 1) hx hb d_law_183 (by decide) ?_
    refine lv_iadd hx hb d_law_184 ?_
    rw [show nI i + 1 = nI (i + 1) from nI_add i 1]
    refine va_sld hx hb hX hbl hbA hS (vp_in_nI (show i + 1 < L by omega) (by omega)) d_law_185 ?_
    rw [nI_clamp (show i + 1 < 2 ^ 31 by omega), e1]
    refine lv_aload_n hx hb d_law_186 rfl (lv_at hl 3 rfl) ?_
    refine lv_iload_n hx hb d_law_187 rfl (lv_at hl 0 rfl) ?_
    refine lv_iconst (v := 2) hx hb d_law_188 (by decide) ?_
    refine lv_iadd hx hb d_law_189 ?_
    rw [show nI i + 2 = nI (i + 2) from nI_add i 2]
    refine va_sld hx hb hX hbl hbA hS (vp_in_nI (show i + 2 < L by omega) (by omega)) d_law_190 ?_
    rw [nI_clamp (show i + 2 < 2 ^ 31 by omega), e2]
    refine lv_aload_n hx hb d_law_191 rfl (lv_at hl 3 rfl) ?_
    refine lv_iload_n hx hb d_law_192 rfl (lv_at hl 0 rfl) ?_
    refine lv_iconst (v := 3) hx hb d_law_193 (by decide) ?_
    refine lv_iadd hx hb d_law_194 ?_
    rw [show nI i + 3 = nI (i + 3) from nI_add i 3]
    refine va_sld hx hb hX hbl hbA hS (vp_in_nI (show i + 3 < L by omega) (by omega)) d_law_195 ?_
    rw [nI_clamp (show i + 3 < 2 ^ 31 by omega), e3]
    refine lv_aload_n hx hb d_law_196 rfl (lv_at hl 3 rfl) ?_
    refine lv_iload_n hx hb d_law_197 rfl (lv_at hl 0 rfl) ?_
    refine lv_iconst (v := 4) hx hb d_law_198 (by decide) ?_
    refine lv_iadd hx hb d_law_199 ?_
    rw [show nI i + 4 = nI (i + 4) from nI_add i 4]
    refine va_sld hx hb hX hbl hbA hS (vp_in_nI (show i + 4 < L by omega) (by omega)) d_law_200 ?_
    rw [nI_clamp (show i + 4 < 2 ^ 31 by omega), e4]
    refine lv_aload_n hx hb d_law_201 rfl (lv_at hl 3 rfl) ?_
    refine lv_iload_n hx hb d_law_202 rfl (lv_at hl 0 rfl) ?_
    refine lv_iconst (v := 5) hx hb d_law_203 (by decide) ?_
    refine lv_iadd hx hb d_law_204 ?_
    rw [show nI i + 5 = nI (i + 5) from nI_add i 5]
    refine va_sld hx hb hX hbl hbA hS (vp_in_nI (show i + 5 < L by omega) (by omega)) d_law_205 ?_
    rw [nI_clamp (show i + 5 < 2 ^ 31 by omega), e5]
    refine k_pure (r := .int (-1)) (W.runV (As := [.int a1, .int a2, .int a3, .int a4, .int a5]) (rest := []) ⟨hx, hb, hml, hown, hts⟩ (c_BG_glue_bad l g H I M x n its nb bs ib inv a1 a2 a3 a4 a5 h) (cwV 5 hts (kV_good kw_251 kw_248 kw_249 kw_250 kw_1) rfl rfl rfl (by decide +kernel) ⟨Nat.le_of_ble_eq_true rfl, Nat.le_of_ble_eq_true rfl⟩) (k_preV (KK_st g) hKK (inv.recv hK)) rfl rfl hl.1 rfl (lv_room (Nat.le_of_ble_eq_true rfl)) d_law_206 ⟨by show _ ≤ 600000; omega, by show _ ≤ 7302250; omega⟩) ?_
    refine lv_aload_n hx hb d_law_209 rfl (lv_at hl 1 rfl) ?_
    refine lv_aload_n hx hb d_law_210 rfl (lv_at hl 3 rfl) ?_
    refine lv_iload_n hx hb d_law_211 rfl (lv_at hl 0 rfl) ?_
    refine lv_iconst (v := 1) hx hb d_law_212 (by decide) ?_
    refine lv_iadd hx hb d_law_213 ?_
    rw [show nI i + 1 = nI (i + 1) from nI_add i 1]
    refine va_sld hx hb hX hbl hbA hS (vp_in_nI (show i + 1 < L by omega) (by omega)) d_law_214 ?_
    rw [nI_clamp (show i + 1 < 2 ^ 31 by omega), e1]
    refine lv_aload_n hx hb d_law_215 rfl (lv_at hl 3 rfl) ?_
    refine lv_iload_n hx hb d_law_216 rfl (lv_at hl 0 rfl) ?_
    refine lv_iconst (v := 2) hx hb d_law_217 (by decide) ?_
    refine lv_iadd hx hb d_law_218 ?_
    rw [show nI i + 2 = nI (i + 2) from nI_add i 2]
    refine va_sld hx hb hX hbl hbA hS (vp_in_nI (show i + 2 < L by omega) (by omega)) d_law_219 ?_
    rw [nI_clamp (show i + 2 < 2 ^ 31 by omega), e2]
    refine lv_aload_n hx hb d_law_220 rfl (lv_at hl 3 rfl) ?_
    refine lv_iload_n hx hb d_law_221 rfl (lv_at hl 0 rfl) ?_
    refine lv_iconst (v := 3) hx hb d_law_222 (by decide) ?_
    refine lv_iadd hx hb d_law_223 ?_
    rw [show nI i + 3 = nI (i + 3) from nI_add i 3]
    refine va_sld hx hb hX hbl hbA hS (vp_in_nI (show i + 3 < L by omega) (by omega)) d_law_224 ?_
    rw [nI_clamp (show i + 3 < 2 ^ 31 by omega), e3]
    refine lv_aload_n hx hb d_law_225 rfl (lv_at hl 3 rfl) ?_
    refine lv_iload_n hx hb d_law_226 rfl (lv_at hl 0 rfl) ?_
    refine lv_iconst (v := 4) hx hb d_law_227 (by decide) ?_
    refine lv_iadd hx hb d_law_228 ?_
    rw [show nI i + 4 = nI (i + 4) from nI_add i 4]
    refine va_sld hx hb hX hbl hbA hS (vp_in_nI (show i + 4 < L by omega) (by omega)) d_law_229 ?_
    rw [nI_clamp (show i + 4 < 2 ^ 31 by omega), e4]
    refine lv_aload_n hx hb d_law_230 rfl (lv_at hl 3 rfl) ?_
    refine lv_iload_n hx hb d_law_231 rfl (lv_at hl 0 rfl) ?_
    refine lv_iconst (v := 5) hx hb d_law_232 (by decide) ?_
    refine lv_iadd hx hb d_law_233 ?_
    rw [show nI i + 5 = nI (i + 5) from nI_add i 5]
    refine va_sld hx hb hX hbl hbA hS (vp_in_nI (show i + 5 < L by omega) (by omega)) d_law_234 ?_
    rw [nI_clamp (show i + 5 < 2 ^ 31 by omega), e5]
    refine k_pure (r := .int (-1)) (W.runV (As := [.int a1, .int a2, .int a3, .int a4, .int a5]) (rest := [.int (-1)]) ⟨hx, hb, hml, hown, hts⟩ (c_Mod_glue_bad l g H m0 ad n ib nb F G hMd a1 a2 a3 a4 a5 (lw_glb h)) (cwV 5 hts (kV_good kw_680 kw_677 kw_678 kw_679 kw_5) rfl rfl rfl (by decide +kernel) ⟨Nat.le_of_ble_eq_true rfl, Nat.le_of_ble_eq_true rfl⟩) (k_preV (KK_st g) hKK (va_recv hK (k_one hMd.1) (ci := 10) (q0 := 0) rfl rfl)) rfl rfl hl.1 rfl (lv_room (Nat.le_of_ble_eq_true rfl)) d_law_235 ⟨by show _ ≤ 600000; omega, by show _ ≤ 7302250; omega⟩) ?_
    refine lv_icmp_eq (tgt := 517) hx hb d_law_238 (by decide) (fun c_1 => ?_) (fun c_1 => ?_)
    rotate_left
    · exact absurd c_1 (fun q => q rfl)
    refine W.widen (k := cells + 103) (n := slots + 5109) (by omega) (by omega) ?_
    exact kk _ _ _ _ _ _ _ _ _ H locs ls ⟨inv, hMd, rel, sep, hLc⟩ (lv_sub (l := [(3, .int (nI i)), (2, .ref m0), (1, .ref x), (0, .ref b)]) hl [0, 1, 2, 3] rfl)
  · skip
    have h : n = 40 := by omega
    refine lv_aload_n hx hb d_law_180 rfl (lv_at hl 2 rfl) ?_
    refine lv_aload_n hx hb d_law_181 rfl (lv_at hl 3 rfl) ?_
    refine lv_iload_n hx hb d_law_182 rfl (lv_at hl 0 rfl) ?_
    refine lv_iconst (v := 1) hx hb d_law_183 (by decide) ?_
    refine lv_iadd hx hb d_law_184 ?_
    rw [show nI i + 1 = nI (i + 1) from nI_add i 1]
    refine va_sld hx hb hX hbl hbA hS (vp_in_nI (show i + 1 < L by omega) (by omega)) d_law_185 ?_
    rw [nI_clamp (show i + 1 < 2 ^ 31 by omega), e1]
    refine lv_aload_n hx hb d_law_186 rfl (lv_at hl 3 rfl) ?_
    refine lv_iload_n hx hb d_law_187 rfl (lv_at hl 0 rfl) ?_
    refine lv_iconst (v := 2) hx hb d_law_188 (by decide) ?_
    refine lv_iadd hx hb d_law_189 ?_
    rw [show nI i + 2 = nI (i + 2) from nI_add i 2]
    refine va_sld hx hb hX hbl hbA hS (vp_in_nI (show i + 2 < L by omega) (by omega)) d_law_190 ?_
    rw [nI_clamp (show i + 2 < 2 ^ 31 by omega), e2]
    refine lv_aload_n hx hb d_law_191 rfl (lv_at hl 3 rfl) ?_
    refine lv_iload_n hx hb d_law_192 rfl (lv_at hl 0 rfl) ?_
    refine lv_iconst (v := 3) hx hb d_law_193 (by decide) ?_
    refine lv_iadd hx hb d_law_194 ?_
    rw [show nI i + 3 = nI (i + 3) from nI_add i 3]
    refine va_sld hx hb hX hbl hbA hS (vp_in_nI (show i + 3 < L by omega) (by omega)) d_law_195 ?_
    rw [nI_clamp (show i + 3 < 2 ^ 31 by omega), e3]
    refine lv_aload_n hx hb d_law_196 rfl (lv_at hl 3 rfl) ?_
    refine lv_iload_n hx hb d_law_197 rfl (lv_at hl 0 rfl) ?_
    refine lv_iconst (v := 4) hx hb d_law_198 (by decide) ?_
    refine lv_iadd hx hb d_law_199 ?_
    rw [show nI i + 4 = nI (i + 4) from nI_add i 4]
    refine va_sld hx hb hX hbl hbA hS (vp_in_nI (show i + 4 < L by omega) (by omega)) d_law_200 ?_
    rw [nI_clamp (show i + 4 < 2 ^ 31 by omega), e4]
    refine lv_aload_n hx hb d_law_201 rfl (lv_at hl 3 rfl) ?_
    refine lv_iload_n hx hb d_law_202 rfl (lv_at hl 0 rfl) ?_
    refine lv_iconst (v := 5) hx hb d_law_203 (by decide) ?_
    refine lv_iadd hx hb d_law_204 ?_
    rw [show nI i + 5 = nI (i + 5) from nI_add i 5]
    refine va_sld hx hb hX hbl hbA hS (vp_in_nI (show i + 5 < L by omega) (by omega)) d_law_205 ?_
    rw [nI_clamp (show i + 5 < 2 ^ 31 by omega), e5]
    refine k_call (A := (fun q : Nat => s.heap.size ≤ q)) (W.runV (As := [.int a1, .int a2, .int a3, .int a4, .int a5]) (rest := []) ⟨hx, hb, hml, hown, hts⟩ (c_BG_glue_full l g H I M x n its nb bs ib inv a1 a2 a3 a4 a5 h0 h1 h2 h) (cwV 5 hts (kV_good kw_251 kw_248 kw_249 kw_250 kw_1) rfl rfl rfl (by decide +kernel) ⟨Nat.le_of_ble_eq_true rfl, Nat.le_of_ble_eq_true rfl⟩) (k_preV (KK_st g) hKK (inv.recv hK)) rfl rfl hl.1 rfl (lv_room (Nat.le_of_ble_eq_true rfl)) d_law_206 ⟨by show _ ≤ 600000; omega, by show _ ≤ 7302250; omega⟩) hLc hfM (fun v H1 locs hv hLc => ?_)
    obtain ⟨rfl, hE, J, N, inv, hN, hJ⟩ := hv
    obtain ⟨hMd, sep⟩ := lw_cls hMd sep hE hN hJ
    have hS := lw_S hg inv hLc
    skip
    refine lv_aload_n hx hb d_law_209 rfl (lv_at hl 1 rfl) ?_
    refine lv_aload_n hx hb d_law_210 rfl (lv_at hl 3 rfl) ?_
    refine lv_iload_n hx hb d_law_211 rfl (lv_at hl 0 rfl) ?_
    refine lv_iconst (v := 1) hx hb d_law_212 (by decide) ?_
    refine lv_iadd hx hb d_law_213 ?_
    rw [show nI i + 1 = nI (i + 1) from nI_add i 1]
    refine va_sld hx hb hX hbl hbA hS (vp_in_nI (show i + 1 < L by omega) (by omega)) d_law_214 ?_
    rw [nI_clamp (show i + 1 < 2 ^ 31 by omega), e1]
    refine lv_aload_n hx hb d_law_215 rfl (lv_at hl 3 rfl) ?_
    refine lv_iload_n hx hb d_law_216 rfl (lv_at hl 0 rfl) ?_
    refine lv_iconst (v := 2) hx hb d_law_217 (by decide) ?_
    refine lv_iadd hx hb d_law_218 ?_
    rw [show nI i + 2 = nI (i + 2) from nI_add i 2]
    refine va_sld hx hb hX hbl hbA hS (vp_in_nI (show i + 2 < L by omega) (by omega)) d_law_219 ?_
    rw [nI_clamp (show i + 2 < 2 ^ 31 by omega), e2]
    refine lv_aload_n hx hb d_law_220 rfl (lv_at hl 3 rfl) ?_
    refine lv_iload_n hx hb d_law_221 rfl (lv_at hl 0 rfl) ?_
    refine lv_iconst (v := 3) hx hb d_law_222 (by decide) ?_
    refine lv_iadd hx hb d_law_223 ?_
    rw [show nI i + 3 = nI (i + 3) from nI_add i 3]
    refine va_sld hx hb hX hbl hbA hS (vp_in_nI (show i + 3 < L by omega) (by omega)) d_law_224 ?_
    rw [nI_clamp (show i + 3 < 2 ^ 31 by omega), e3]
    refine lv_aload_n hx hb d_law_225 rfl (lv_at hl 3 rfl) ?_
    refine lv_iload_n hx hb d_law_226 rfl (lv_at hl 0 rfl) ?_
    refine lv_iconst (v := 4) hx hb d_law_227 (by decide) ?_
    refine lv_iadd hx hb d_law_228 ?_
    rw [show nI i + 4 = nI (i + 4) from nI_add i 4]
    refine va_sld hx hb hX hbl hbA hS (vp_in_nI (show i + 4 < L by omega) (by omega)) d_law_229 ?_
    rw [nI_clamp (show i + 4 < 2 ^ 31 by omega), e4]
    refine lv_aload_n hx hb d_law_230 rfl (lv_at hl 3 rfl) ?_
    refine lv_iload_n hx hb d_law_231 rfl (lv_at hl 0 rfl) ?_
    refine lv_iconst (v := 5) hx hb d_law_232 (by decide) ?_
    refine lv_iadd hx hb d_law_233 ?_
    rw [show nI i + 5 = nI (i + 5) from nI_add i 5]
    refine va_sld hx hb hX hbl hbA hS (vp_in_nI (show i + 5 < L by omega) (by omega)) d_law_234 ?_
    rw [nI_clamp (show i + 5 < 2 ^ 31 by omega), e5]
    refine k_pure (r := .int (-2)) (W.runV (As := [.int a1, .int a2, .int a3, .int a4, .int a5]) (rest := [.int (-2)]) ⟨hx, hb, hml, hown, hts⟩ (c_Mod_glue_full l g H1 m0 ad n ib nb F G hMd a1 a2 a3 a4 a5 h0 (a_giv h1).2.2.1 (a_giv h1).2.2.2 (a_giv h2).2.2.1 (a_giv h2).2.2.2 h) (cwV 5 hts (kV_good kw_680 kw_677 kw_678 kw_679 kw_5) rfl rfl rfl (by decide +kernel) ⟨Nat.le_of_ble_eq_true rfl, Nat.le_of_ble_eq_true rfl⟩) (k_preV (KK_st g) hKK (va_recv hK (k_one hMd.1) (ci := 10) (q0 := 0) rfl rfl)) rfl rfl hl.1 rfl (lv_room (Nat.le_of_ble_eq_true rfl)) d_law_235 ⟨by show _ ≤ 600000; omega, by show _ ≤ 7302250; omega⟩) ?_
    refine lv_icmp_eq (tgt := 517) hx hb d_law_238 (by decide) (fun c_1 => ?_) (fun c_1 => ?_)
    rotate_left
    · exact absurd c_1 (fun q => q rfl)
    refine W.widen (k := cells + 103) (n := slots + 5109) (by omega) (by omega) ?_
    exact kk _ _ _ _ _ _ _ _ _ H1 locs ls ⟨inv, hMd, rel, sep, hLc⟩ (lv_sub (l := [(3, .int (nI i)), (2, .ref m0), (1, .ref x), (0, .ref b)]) hl [0, 1, 2, 3] rfl)
  · skip
    refine lv_aload_n hx hb d_law_180 rfl (lv_at hl 2 rfl) ?_
    refine lv_aload_n hx hb d_law_181 rfl (lv_at hl 3 rfl) ?_
    refine lv_iload_n hx hb d_law_182 rfl (lv_at hl 0 rfl) ?_
    refine lv_iconst (v := 1) hx hb d_law_183 (by decide) ?_
    refine lv_iadd hx hb d_law_184 ?_
    rw [show nI i + 1 = nI (i + 1) from nI_add i 1]
    refine va_sld hx hb hX hbl hbA hS (vp_in_nI (show i + 1 < L by omega) (by omega)) d_law_185 ?_
    rw [nI_clamp (show i + 1 < 2 ^ 31 by omega), e1]
    refine lv_aload_n hx hb d_law_186 rfl (lv_at hl 3 rfl) ?_
    refine lv_iload_n hx hb d_law_187 rfl (lv_at hl 0 rfl) ?_
    refine lv_iconst (v := 2) hx hb d_law_188 (by decide) ?_
    refine lv_iadd hx hb d_law_189 ?_
    rw [show nI i + 2 = nI (i + 2) from nI_add i 2]
    refine va_sld hx hb hX hbl hbA hS (vp_in_nI (show i + 2 < L by omega) (by omega)) d_law_190 ?_
    rw [nI_clamp (show i + 2 < 2 ^ 31 by omega), e2]
    refine lv_aload_n hx hb d_law_191 rfl (lv_at hl 3 rfl) ?_
    refine lv_iload_n hx hb d_law_192 rfl (lv_at hl 0 rfl) ?_
    refine lv_iconst (v := 3) hx hb d_law_193 (by decide) ?_
    refine lv_iadd hx hb d_law_194 ?_
    rw [show nI i + 3 = nI (i + 3) from nI_add i 3]
    refine va_sld hx hb hX hbl hbA hS (vp_in_nI (show i + 3 < L by omega) (by omega)) d_law_195 ?_
    rw [nI_clamp (show i + 3 < 2 ^ 31 by omega), e3]
    refine lv_aload_n hx hb d_law_196 rfl (lv_at hl 3 rfl) ?_
    refine lv_iload_n hx hb d_law_197 rfl (lv_at hl 0 rfl) ?_
    refine lv_iconst (v := 4) hx hb d_law_198 (by decide) ?_
    refine lv_iadd hx hb d_law_199 ?_
    rw [show nI i + 4 = nI (i + 4) from nI_add i 4]
    refine va_sld hx hb hX hbl hbA hS (vp_in_nI (show i + 4 < L by omega) (by omega)) d_law_200 ?_
    rw [nI_clamp (show i + 4 < 2 ^ 31 by omega), e4]
    refine lv_aload_n hx hb d_law_201 rfl (lv_at hl 3 rfl) ?_
    refine lv_iload_n hx hb d_law_202 rfl (lv_at hl 0 rfl) ?_
    refine lv_iconst (v := 5) hx hb d_law_203 (by decide) ?_
    refine lv_iadd hx hb d_law_204 ?_
    rw [show nI i + 5 = nI (i + 5) from nI_add i 5]
    refine va_sld hx hb hX hbl hbA hS (vp_in_nI (show i + 5 < L by omega) (by omega)) d_law_205 ?_
    rw [nI_clamp (show i + 5 < 2 ^ 31 by omega), e5]
    refine k_call (A := (fun q : Nat => s.heap.size ≤ q)) (W.runV (As := [.int a1, .int a2, .int a3, .int a4, .int a5]) (rest := []) ⟨hx, hb, hml, hown, hts⟩ (c_BG_glue_ok l g H I M x n its nb bs ib inv a1 a2 a3 a4 a5 h0 h1 h2 h) (cwV 5 hts (kV_good kw_251 kw_248 kw_249 kw_250 kw_1) rfl rfl rfl (by decide +kernel) ⟨Nat.le_of_ble_eq_true rfl, Nat.le_of_ble_eq_true rfl⟩) (k_preV (KK_st g) hKK (inv.recv hK)) rfl rfl hl.1 rfl (lv_room (Nat.le_of_ble_eq_true rfl)) d_law_206 ⟨by show _ ≤ 600000; omega, by show _ ≤ 7302250; omega⟩) hLc hfM (fun v H1 locs hv hLc => ?_)
    obtain ⟨rfl, hE, J, N, inv, hN, hJ⟩ := hv
    obtain ⟨hMd, sep⟩ := lw_cls hMd sep hE hN hJ
    have hS := lw_S hg inv hLc
    skip
    refine lv_aload_n hx hb d_law_209 rfl (lv_at hl 1 rfl) ?_
    refine lv_aload_n hx hb d_law_210 rfl (lv_at hl 3 rfl) ?_
    refine lv_iload_n hx hb d_law_211 rfl (lv_at hl 0 rfl) ?_
    refine lv_iconst (v := 1) hx hb d_law_212 (by decide) ?_
    refine lv_iadd hx hb d_law_213 ?_
    rw [show nI i + 1 = nI (i + 1) from nI_add i 1]
    refine va_sld hx hb hX hbl hbA hS (vp_in_nI (show i + 1 < L by omega) (by omega)) d_law_214 ?_
    rw [nI_clamp (show i + 1 < 2 ^ 31 by omega), e1]
    refine lv_aload_n hx hb d_law_215 rfl (lv_at hl 3 rfl) ?_
    refine lv_iload_n hx hb d_law_216 rfl (lv_at hl 0 rfl) ?_
    refine lv_iconst (v := 2) hx hb d_law_217 (by decide) ?_
    refine lv_iadd hx hb d_law_218 ?_
    rw [show nI i + 2 = nI (i + 2) from nI_add i 2]
    refine va_sld hx hb hX hbl hbA hS (vp_in_nI (show i + 2 < L by omega) (by omega)) d_law_219 ?_
    rw [nI_clamp (show i + 2 < 2 ^ 31 by omega), e2]
    refine lv_aload_n hx hb d_law_220 rfl (lv_at hl 3 rfl) ?_
    refine lv_iload_n hx hb d_law_221 rfl (lv_at hl 0 rfl) ?_
    refine lv_iconst (v := 3) hx hb d_law_222 (by decide) ?_
    refine lv_iadd hx hb d_law_223 ?_
    rw [show nI i + 3 = nI (i + 3) from nI_add i 3]
    refine va_sld hx hb hX hbl hbA hS (vp_in_nI (show i + 3 < L by omega) (by omega)) d_law_224 ?_
    rw [nI_clamp (show i + 3 < 2 ^ 31 by omega), e3]
    refine lv_aload_n hx hb d_law_225 rfl (lv_at hl 3 rfl) ?_
    refine lv_iload_n hx hb d_law_226 rfl (lv_at hl 0 rfl) ?_
    refine lv_iconst (v := 4) hx hb d_law_227 (by decide) ?_
    refine lv_iadd hx hb d_law_228 ?_
    rw [show nI i + 4 = nI (i + 4) from nI_add i 4]
    refine va_sld hx hb hX hbl hbA hS (vp_in_nI (show i + 4 < L by omega) (by omega)) d_law_229 ?_
    rw [nI_clamp (show i + 4 < 2 ^ 31 by omega), e4]
    refine lv_aload_n hx hb d_law_230 rfl (lv_at hl 3 rfl) ?_
    refine lv_iload_n hx hb d_law_231 rfl (lv_at hl 0 rfl) ?_
    refine lv_iconst (v := 5) hx hb d_law_232 (by decide) ?_
    refine lv_iadd hx hb d_law_233 ?_
    rw [show nI i + 5 = nI (i + 5) from nI_add i 5]
    refine va_sld hx hb hX hbl hbA hS (vp_in_nI (show i + 5 < L by omega) (by omega)) d_law_234 ?_
    rw [nI_clamp (show i + 5 < 2 ^ 31 by omega), e5]
    refine k_call (A := (fun q : Nat => s.heap.size ≤ q)) (W.runV (As := [.int a1, .int a2, .int a3, .int a4, .int a5]) (rest := [.int (nI (n + 1))]) ⟨hx, hb, hml, hown, hts⟩ (c_Mod_glue_ok l g H1 m0 ad n ib nb F G hMd a1 a2 a3 a4 a5 h0 (a_giv h1).2.2.1 (a_giv h1).2.2.2 (a_giv h2).2.2.1 (a_giv h2).2.2.2 h) (cwV 5 hts (kV_good kw_680 kw_677 kw_678 kw_679 kw_5) rfl rfl rfl (by decide +kernel) ⟨Nat.le_of_ble_eq_true rfl, Nat.le_of_ble_eq_true rfl⟩) (k_preV (KK_st g) hKK (va_recv hK (k_one hMd.1) (ci := 10) (q0 := 0) rfl rfl)) rfl rfl hl.1 rfl (lv_room (Nat.le_of_ble_eq_true rfl)) d_law_235 ⟨by show _ ≤ 600000; omega, by show _ ≤ 7302250; omega⟩) hLc (fun q h => (sep q h).2.2.1) (fun v H2 locs hv hLc => ?_)
    obtain ⟨rfl, hE2, hMd⟩ := hv
    obtain ⟨inv, sep⟩ := lw_ref hg inv sep hE2
    refine lv_icmp_eq (tgt := 517) hx hb d_law_238 (by decide) (fun c_1 => ?_) (fun c_1 => ?_)
    rotate_left
    · exact absurd c_1 (fun q => q rfl)
    refine W.widen (k := cells + 103) (n := slots + 5109) (by omega) (by omega) ?_
    exact kk _ _ _ _ _ _ _ _ _ H2 locs ls ⟨inv, hMd, rel_glue rel h h0 h1 h2, sep, hLc⟩ (lv_sub (l := [(3, .int (nI i)), (2, .ref m0), (1, .ref x), (0, .ref b)]) hl [0, 1, 2, 3] rfl)
set_option maxHeartbeats 4000000 in
set_option maxRecDepth 100000 in
theorem lw_kern {p : Program} {l : Launch} {e : Env} {s : State} {m : MethodId} {below : List Frame} {meth : Method} {c : Code} {b L : Nat} {xs : Nat → Int32} {g : KGt} {x m0 : Nat} {ad : Nat → Nat} (C0 : lw_At p s m meth c b L xs) (hKK : KK g s) (hg : g.2.2.1 = s.heap) {I M : Nat → Prop} {n : Nat} {its : Nat → Nat → Int32} {nb : Nat} {bs : Nat → BxT} {ib : Nat} {F : Nat → Nat → Int32} {G : Nat → Nat → Int64} {H : Heap} {locs : List Loc} (hI : lw_I g s x m0 ad I M n its nb bs ib F G H locs) {i cells slots : Nat} (hL3 : L ≤ 3072) (hi : i + 6 ≤ L) (hce : cells + 103 ≤ 600000) (hsl : slots + 5109 ≤ 7302250) {ls : Array Slot} (hl : lv_has ls 4 [(3, .int (nI i)), (2, .ref m0), (1, .ref x), (0, .ref b)]) (kk : (∀ (I M : Nat → Prop) (n : Nat) (its : Nat → Nat → Int32) (nb : Nat) (bs : Nat → BxT) (ib : Nat) (F : Nat → Nat → Int32) (G : Nat → Nat → Int64) (H : Heap) (locs : List Loc) (ls : Array Slot), lw_I g s x m0 ad I M n its nb bs ib F G H locs → lv_has ls 4 [(3, .int (nI i)), (2, .ref m0), (1, .ref x), (0, .ref b)] → W p l e room_1 s m #[Value.ref b] below meth c H locs (cells + 103) (slots + 5109) (lw_Z below #[Value.ref b] s) (F0 m 517 ls []))) : W p l e room_1 s m #[Value.ref b] below meth c H locs cells slots (lw_Z below #[Value.ref b] s) (F0 m 243 ls []) := by
  obtain ⟨hx, hb, hr, hml, hown, hts0, hX, hbl, hlocks, hgv⟩ := id C0
  have hts : ∀ w ∈ kG, w.before #[Value.ref b] s = true := fun w hw => hts0 w (kG_in hw)
  have hown : s.vm.findClass "BoxGlueLaw" = some m.cls := hown
  have hK := hKK.1
  obtain ⟨inv, hMd, rel, sep, hLc⟩ := hI
  have hbA : ¬ (fun q : Nat => s.heap.size ≤ q) b := Nat.not_le.mpr hbl
  have hS := lw_S hg inv hLc
  have hn40 := rel.1
  have hnb60 := rel.2.1
  have hib := rel.2.2.1
  have hfM := lw_fM hg inv
  obtain ⟨a1, e1⟩ : ∃ a, xs (i + 1) = a := ⟨_, rfl⟩
  rcases lw_c_kern n a1 with h | ⟨h0, h⟩ | ⟨h0, h⟩
  · skip
    refine lv_aload_n hx hb d_law_243 rfl (lv_at hl 2 rfl) ?_
    refine lv_aload_n hx hb d_law_244 rfl (lv_at hl 3 rfl) ?_
    refine lv_iload_n hx hb d_law_245 rfl (lv_at hl 0 rfl) ?_
    refine lv_iconst (v := 1) hx hb d_law_246 (by decide) ?_
    refine lv_iadd hx hb d_law_247 ?_
    rw [show nI i + 1 = nI (i + 1) from nI_add i 1]
    refine va_sld hx hb hX hbl hbA hS (vp_in_nI (show i + 1 < L by omega) (by omega)) d_law_248 ?_
    rw [nI_clamp (show i + 1 < 2 ^ 31 by omega), e1]
    refine k_pure (r := .int (-1)) (W.runV (As := [.int a1]) (rest := []) ⟨hx, hb, hml, hown, hts⟩ (c_BG_kern_bad l g H I M x n its nb bs ib inv a1 h) (cwV 1 hts (kV_good kw_295 kw_292 kw_293 kw_294 kw_1) rfl rfl rfl (by decide +kernel) ⟨Nat.le_of_ble_eq_true rfl, Nat.le_of_ble_eq_true rfl⟩) (k_preV (KK_st g) hKK (inv.recv hK)) rfl rfl hl.1 rfl (lv_room (Nat.le_of_ble_eq_true rfl)) d_law_249 ⟨by show _ ≤ 600000; omega, by show _ ≤ 7302250; omega⟩) ?_
    refine lv_aload_n hx hb d_law_252 rfl (lv_at hl 1 rfl) ?_
    refine lv_aload_n hx hb d_law_253 rfl (lv_at hl 3 rfl) ?_
    refine lv_iload_n hx hb d_law_254 rfl (lv_at hl 0 rfl) ?_
    refine lv_iconst (v := 1) hx hb d_law_255 (by decide) ?_
    refine lv_iadd hx hb d_law_256 ?_
    rw [show nI i + 1 = nI (i + 1) from nI_add i 1]
    refine va_sld hx hb hX hbl hbA hS (vp_in_nI (show i + 1 < L by omega) (by omega)) d_law_257 ?_
    rw [nI_clamp (show i + 1 < 2 ^ 31 by omega), e1]
    refine k_pure (r := .int (-1)) (W.runV (As := [.int a1]) (rest := [.int (-1)]) ⟨hx, hb, hml, hown, hts⟩ (c_Mod_kern_bad l g H m0 ad n ib nb F G hMd a1 h) (cwV 1 hts (kV_good kw_684 kw_681 kw_682 kw_683 kw_5) rfl rfl rfl (by decide +kernel) ⟨Nat.le_of_ble_eq_true rfl, Nat.le_of_ble_eq_true rfl⟩) (k_preV (KK_st g) hKK (va_recv hK (k_one hMd.1) (ci := 10) (q0 := 0) rfl rfl)) rfl rfl hl.1 rfl (lv_room (Nat.le_of_ble_eq_true rfl)) d_law_258 ⟨by show _ ≤ 600000; omega, by show _ ≤ 7302250; omega⟩) ?_
    refine lv_icmp_eq (tgt := 517) hx hb d_law_261 (by decide) (fun c_1 => ?_) (fun c_1 => ?_)
    rotate_left
    · exact absurd c_1 (fun q => q rfl)
    refine W.widen (k := cells + 103) (n := slots + 5109) (by omega) (by omega) ?_
    exact kk _ _ _ _ _ _ _ _ _ H locs ls ⟨inv, hMd, rel, sep, hLc⟩ (lv_sub (l := [(3, .int (nI i)), (2, .ref m0), (1, .ref x), (0, .ref b)]) hl [0, 1, 2, 3] rfl)
  · skip
    have h : n = 40 := by omega
    refine lv_aload_n hx hb d_law_243 rfl (lv_at hl 2 rfl) ?_
    refine lv_aload_n hx hb d_law_244 rfl (lv_at hl 3 rfl) ?_
    refine lv_iload_n hx hb d_law_245 rfl (lv_at hl 0 rfl) ?_
    refine lv_iconst (v := 1) hx hb d_law_246 (by decide) ?_
    refine lv_iadd hx hb d_law_247 ?_
    rw [show nI i + 1 = nI (i + 1) from nI_add i 1]
    refine va_sld hx hb hX hbl hbA hS (vp_in_nI (show i + 1 < L by omega) (by omega)) d_law_248 ?_
    rw [nI_clamp (show i + 1 < 2 ^ 31 by omega), e1]
    refine k_call (A := (fun q : Nat => s.heap.size ≤ q)) (W.runV (As := [.int a1]) (rest := []) ⟨hx, hb, hml, hown, hts⟩ (c_BG_kern_full l g H I M x n its nb bs ib inv a1 h0 h) (cwV 1 hts (kV_good kw_295 kw_292 kw_293 kw_294 kw_1) rfl rfl rfl (by decide +kernel) ⟨Nat.le_of_ble_eq_true rfl, Nat.le_of_ble_eq_true rfl⟩) (k_preV (KK_st g) hKK (inv.recv hK)) rfl rfl hl.1 rfl (lv_room (Nat.le_of_ble_eq_true rfl)) d_law_249 ⟨by show _ ≤ 600000; omega, by show _ ≤ 7302250; omega⟩) hLc hfM (fun v H1 locs hv hLc => ?_)
    obtain ⟨rfl, hE, J, N, inv, hN, hJ⟩ := hv
    obtain ⟨hMd, sep⟩ := lw_cls hMd sep hE hN hJ
    have hS := lw_S hg inv hLc
    skip
    refine lv_aload_n hx hb d_law_252 rfl (lv_at hl 1 rfl) ?_
    refine lv_aload_n hx hb d_law_253 rfl (lv_at hl 3 rfl) ?_
    refine lv_iload_n hx hb d_law_254 rfl (lv_at hl 0 rfl) ?_
    refine lv_iconst (v := 1) hx hb d_law_255 (by decide) ?_
    refine lv_iadd hx hb d_law_256 ?_
    rw [show nI i + 1 = nI (i + 1) from nI_add i 1]
    refine va_sld hx hb hX hbl hbA hS (vp_in_nI (show i + 1 < L by omega) (by omega)) d_law_257 ?_
    rw [nI_clamp (show i + 1 < 2 ^ 31 by omega), e1]
    refine k_pure (r := .int (-2)) (W.runV (As := [.int a1]) (rest := [.int (-2)]) ⟨hx, hb, hml, hown, hts⟩ (c_Mod_kern_full l g H1 m0 ad n ib nb F G hMd a1 h0 h) (cwV 1 hts (kV_good kw_684 kw_681 kw_682 kw_683 kw_5) rfl rfl rfl (by decide +kernel) ⟨Nat.le_of_ble_eq_true rfl, Nat.le_of_ble_eq_true rfl⟩) (k_preV (KK_st g) hKK (va_recv hK (k_one hMd.1) (ci := 10) (q0 := 0) rfl rfl)) rfl rfl hl.1 rfl (lv_room (Nat.le_of_ble_eq_true rfl)) d_law_258 ⟨by show _ ≤ 600000; omega, by show _ ≤ 7302250; omega⟩) ?_
    refine lv_icmp_eq (tgt := 517) hx hb d_law_261 (by decide) (fun c_1 => ?_) (fun c_1 => ?_)
    rotate_left
    · exact absurd c_1 (fun q => q rfl)
    refine W.widen (k := cells + 103) (n := slots + 5109) (by omega) (by omega) ?_
    exact kk _ _ _ _ _ _ _ _ _ H1 locs ls ⟨inv, hMd, rel, sep, hLc⟩ (lv_sub (l := [(3, .int (nI i)), (2, .ref m0), (1, .ref x), (0, .ref b)]) hl [0, 1, 2, 3] rfl)
  · skip
    refine lv_aload_n hx hb d_law_243 rfl (lv_at hl 2 rfl) ?_
    refine lv_aload_n hx hb d_law_244 rfl (lv_at hl 3 rfl) ?_
    refine lv_iload_n hx hb d_law_245 rfl (lv_at hl 0 rfl) ?_
    refine lv_iconst (v := 1) hx hb d_law_246 (by decide) ?_
    refine lv_iadd hx hb d_law_247 ?_
    rw [show nI i + 1 = nI (i + 1) from nI_add i 1]
    refine va_sld hx hb hX hbl hbA hS (vp_in_nI (show i + 1 < L by omega) (by omega)) d_law_248 ?_
    rw [nI_clamp (show i + 1 < 2 ^ 31 by omega), e1]
    refine k_call (A := (fun q : Nat => s.heap.size ≤ q)) (W.runV (As := [.int a1]) (rest := []) ⟨hx, hb, hml, hown, hts⟩ (c_BG_kern_ok l g H I M x n its nb bs ib inv a1 h0 h) (cwV 1 hts (kV_good kw_295 kw_292 kw_293 kw_294 kw_1) rfl rfl rfl (by decide +kernel) ⟨Nat.le_of_ble_eq_true rfl, Nat.le_of_ble_eq_true rfl⟩) (k_preV (KK_st g) hKK (inv.recv hK)) rfl rfl hl.1 rfl (lv_room (Nat.le_of_ble_eq_true rfl)) d_law_249 ⟨by show _ ≤ 600000; omega, by show _ ≤ 7302250; omega⟩) hLc hfM (fun v H1 locs hv hLc => ?_)
    obtain ⟨rfl, hE, J, N, inv, hN, hJ⟩ := hv
    obtain ⟨hMd, sep⟩ := lw_cls hMd sep hE hN hJ
    have hS := lw_S hg inv hLc
    skip
    refine lv_aload_n hx hb d_law_252 rfl (lv_at hl 1 rfl) ?_
    refine lv_aload_n hx hb d_law_253 rfl (lv_at hl 3 rfl) ?_
    refine lv_iload_n hx hb d_law_254 rfl (lv_at hl 0 rfl) ?_
    refine lv_iconst (v := 1) hx hb d_law_255 (by decide) ?_
    refine lv_iadd hx hb d_law_256 ?_
    rw [show nI i + 1 = nI (i + 1) from nI_add i 1]
    refine va_sld hx hb hX hbl hbA hS (vp_in_nI (show i + 1 < L by omega) (by omega)) d_law_257 ?_
    rw [nI_clamp (show i + 1 < 2 ^ 31 by omega), e1]
    refine k_call (A := (fun q : Nat => s.heap.size ≤ q)) (W.runV (As := [.int a1]) (rest := [.int (nI (n + 1))]) ⟨hx, hb, hml, hown, hts⟩ (c_Mod_kern_ok l g H1 m0 ad n ib nb F G hMd a1 h0 h) (cwV 1 hts (kV_good kw_684 kw_681 kw_682 kw_683 kw_5) rfl rfl rfl (by decide +kernel) ⟨Nat.le_of_ble_eq_true rfl, Nat.le_of_ble_eq_true rfl⟩) (k_preV (KK_st g) hKK (va_recv hK (k_one hMd.1) (ci := 10) (q0 := 0) rfl rfl)) rfl rfl hl.1 rfl (lv_room (Nat.le_of_ble_eq_true rfl)) d_law_258 ⟨by show _ ≤ 600000; omega, by show _ ≤ 7302250; omega⟩) hLc (fun q h => (sep q h).2.2.1) (fun v H2 locs hv hLc => ?_)
    obtain ⟨rfl, hE2, hMd⟩ := hv
    obtain ⟨inv, sep⟩ := lw_ref hg inv sep hE2
    refine lv_icmp_eq (tgt := 517) hx hb d_law_261 (by decide) (fun c_1 => ?_) (fun c_1 => ?_)
    rotate_left
    · exact absurd c_1 (fun q => q rfl)
    refine W.widen (k := cells + 103) (n := slots + 5109) (by omega) (by omega) ?_
    exact kk _ _ _ _ _ _ _ _ _ H2 locs ls ⟨inv, hMd, rel_kern rel h h0, sep, hLc⟩ (lv_sub (l := [(3, .int (nI i)), (2, .ref m0), (1, .ref x), (0, .ref b)]) hl [0, 1, 2, 3] rfl)
set_option maxHeartbeats 4000000 in
set_option maxRecDepth 100000 in
theorem lw_rule {p : Program} {l : Launch} {e : Env} {s : State} {m : MethodId} {below : List Frame} {meth : Method} {c : Code} {b L : Nat} {xs : Nat → Int32} {g : KGt} {x m0 : Nat} {ad : Nat → Nat} (C0 : lw_At p s m meth c b L xs) (hKK : KK g s) (hg : g.2.2.1 = s.heap) {I M : Nat → Prop} {n : Nat} {its : Nat → Nat → Int32} {nb : Nat} {bs : Nat → BxT} {ib : Nat} {F : Nat → Nat → Int32} {G : Nat → Nat → Int64} {H : Heap} {locs : List Loc} (hI : lw_I g s x m0 ad I M n its nb bs ib F G H locs) {i cells slots : Nat} (hL3 : L ≤ 3072) (hi : i + 6 ≤ L) (hce : cells + 103 ≤ 600000) (hsl : slots + 5109 ≤ 7302250) {ls : Array Slot} (hl : lv_has ls 4 [(3, .int (nI i)), (2, .ref m0), (1, .ref x), (0, .ref b)]) (kk : (∀ (I M : Nat → Prop) (n : Nat) (its : Nat → Nat → Int32) (nb : Nat) (bs : Nat → BxT) (ib : Nat) (F : Nat → Nat → Int32) (G : Nat → Nat → Int64) (H : Heap) (locs : List Loc) (ls : Array Slot), lw_I g s x m0 ad I M n its nb bs ib F G H locs → lv_has ls 4 [(3, .int (nI i)), (2, .ref m0), (1, .ref x), (0, .ref b)] → W p l e room_1 s m #[Value.ref b] below meth c H locs (cells + 103) (slots + 5109) (lw_Z below #[Value.ref b] s) (F0 m 517 ls []))) : W p l e room_1 s m #[Value.ref b] below meth c H locs cells slots (lw_Z below #[Value.ref b] s) (F0 m 266 ls []) := by
  obtain ⟨hx, hb, hr, hml, hown, hts0, hX, hbl, hlocks, hgv⟩ := id C0
  have hts : ∀ w ∈ kG, w.before #[Value.ref b] s = true := fun w hw => hts0 w (kG_in hw)
  have hown : s.vm.findClass "BoxGlueLaw" = some m.cls := hown
  have hK := hKK.1
  obtain ⟨inv, hMd, rel, sep, hLc⟩ := hI
  have hbA : ¬ (fun q : Nat => s.heap.size ≤ q) b := Nat.not_le.mpr hbl
  have hS := lw_S hg inv hLc
  have hn40 := rel.1
  have hnb60 := rel.2.1
  have hib := rel.2.2.1
  have hfM := lw_fM hg inv
  obtain ⟨a1, e1⟩ : ∃ a, xs (i + 1) = a := ⟨_, rfl⟩
  obtain ⟨a2, e2⟩ : ∃ a, xs (i + 2) = a := ⟨_, rfl⟩
  obtain ⟨a3, e3⟩ : ∃ a, xs (i + 3) = a := ⟨_, rfl⟩
  rcases lw_c_rule n a1 a2 a3 with ⟨h, hR⟩ | ⟨h0, h1, h2, hR, h⟩ | ⟨h0, h1, h2, hR, h⟩
  · skip
    refine lv_aload_n hx hb d_law_266 rfl (lv_at hl 2 rfl) ?_
    refine lv_aload_n hx hb d_law_267 rfl (lv_at hl 3 rfl) ?_
    refine lv_iload_n hx hb d_law_268 rfl (lv_at hl 0 rfl) ?_
    refine lv_iconst (v := 1) hx hb d_law_269 (by decide) ?_
    refine lv_iadd hx hb d_law_270 ?_
    rw [show nI i + 1 = nI (i + 1) from nI_add i 1]
    refine va_sld hx hb hX hbl hbA hS (vp_in_nI (show i + 1 < L by omega) (by omega)) d_law_271 ?_
    rw [nI_clamp (show i + 1 < 2 ^ 31 by omega), e1]
    refine lv_aload_n hx hb d_law_272 rfl (lv_at hl 3 rfl) ?_
    refine lv_iload_n hx hb d_law_273 rfl (lv_at hl 0 rfl) ?_
    refine lv_iconst (v := 2) hx hb d_law_274 (by decide) ?_
    refine lv_iadd hx hb d_law_275 ?_
    rw [show nI i + 2 = nI (i + 2) from nI_add i 2]
    refine va_sld hx hb hX hbl hbA hS (vp_in_nI (show i + 2 < L by omega) (by omega)) d_law_276 ?_
    rw [nI_clamp (show i + 2 < 2 ^ 31 by omega), e2]
    refine lv_aload_n hx hb d_law_277 rfl (lv_at hl 3 rfl) ?_
    refine lv_iload_n hx hb d_law_278 rfl (lv_at hl 0 rfl) ?_
    refine lv_iconst (v := 3) hx hb d_law_279 (by decide) ?_
    refine lv_iadd hx hb d_law_280 ?_
    rw [show nI i + 3 = nI (i + 3) from nI_add i 3]
    refine va_sld hx hb hX hbl hbA hS (vp_in_nI (show i + 3 < L by omega) (by omega)) d_law_281 ?_
    rw [nI_clamp (show i + 3 < 2 ^ 31 by omega), e3]
    refine k_pure (r := .int (-1)) (W.runV (As := [.int a1, .int a2, .int a3]) (rest := []) ⟨hx, hb, hml, hown, hts⟩ (c_BG_rule_bad l g H I M x n its nb bs ib inv a1 a2 a3 h) (cwV 3 hts (kV_good kw_308 kw_305 kw_306 kw_307 kw_1) rfl rfl rfl (by decide +kernel) ⟨Nat.le_of_ble_eq_true rfl, Nat.le_of_ble_eq_true rfl⟩) (k_preV (KK_st g) hKK (inv.recv hK)) rfl rfl hl.1 rfl (lv_room (Nat.le_of_ble_eq_true rfl)) d_law_282 ⟨by show _ ≤ 600000; omega, by show _ ≤ 7302250; omega⟩) ?_
    refine lv_aload_n hx hb d_law_285 rfl (lv_at hl 1 rfl) ?_
    refine lv_aload_n hx hb d_law_286 rfl (lv_at hl 3 rfl) ?_
    refine lv_iload_n hx hb d_law_287 rfl (lv_at hl 0 rfl) ?_
    refine lv_iconst (v := 1) hx hb d_law_288 (by decide) ?_
    refine lv_iadd hx hb d_law_289 ?_
    rw [show nI i + 1 = nI (i + 1) from nI_add i 1]
    refine va_sld hx hb hX hbl hbA hS (vp_in_nI (show i + 1 < L by omega) (by omega)) d_law_290 ?_
    rw [nI_clamp (show i + 1 < 2 ^ 31 by omega), e1]
    refine lv_aload_n hx hb d_law_291 rfl (lv_at hl 3 rfl) ?_
    refine lv_iload_n hx hb d_law_292 rfl (lv_at hl 0 rfl) ?_
    refine lv_iconst (v := 2) hx hb d_law_293 (by decide) ?_
    refine lv_iadd hx hb d_law_294 ?_
    rw [show nI i + 2 = nI (i + 2) from nI_add i 2]
    refine va_sld hx hb hX hbl hbA hS (vp_in_nI (show i + 2 < L by omega) (by omega)) d_law_295 ?_
    rw [nI_clamp (show i + 2 < 2 ^ 31 by omega), e2]
    refine lv_aload_n hx hb d_law_296 rfl (lv_at hl 3 rfl) ?_
    refine lv_iload_n hx hb d_law_297 rfl (lv_at hl 0 rfl) ?_
    refine lv_iconst (v := 3) hx hb d_law_298 (by decide) ?_
    refine lv_iadd hx hb d_law_299 ?_
    rw [show nI i + 3 = nI (i + 3) from nI_add i 3]
    refine va_sld hx hb hX hbl hbA hS (vp_in_nI (show i + 3 < L by omega) (by omega)) d_law_300 ?_
    rw [nI_clamp (show i + 3 < 2 ^ 31 by omega), e3]
    refine k_pure (r := .int (-1)) (W.runV (As := [.int a1, .int a2, .int a3]) (rest := [.int (-1)]) ⟨hx, hb, hml, hown, hts⟩ (c_Mod_rule_bad l g H m0 ad n ib nb F G hMd a1 a2 a3 hR) (cwV 3 hts (kV_good kw_688 kw_685 kw_686 kw_687 kw_5) rfl rfl rfl (by decide +kernel) ⟨Nat.le_of_ble_eq_true rfl, Nat.le_of_ble_eq_true rfl⟩) (k_preV (KK_st g) hKK (va_recv hK (k_one hMd.1) (ci := 10) (q0 := 0) rfl rfl)) rfl rfl hl.1 rfl (lv_room (Nat.le_of_ble_eq_true rfl)) d_law_301 ⟨by show _ ≤ 600000; omega, by show _ ≤ 7302250; omega⟩) ?_
    refine lv_icmp_eq (tgt := 517) hx hb d_law_304 (by decide) (fun c_1 => ?_) (fun c_1 => ?_)
    rotate_left
    · exact absurd c_1 (fun q => q rfl)
    refine W.widen (k := cells + 103) (n := slots + 5109) (by omega) (by omega) ?_
    exact kk _ _ _ _ _ _ _ _ _ H locs ls ⟨inv, hMd, rel, sep, hLc⟩ (lv_sub (l := [(3, .int (nI i)), (2, .ref m0), (1, .ref x), (0, .ref b)]) hl [0, 1, 2, 3] rfl)
  · skip
    have h : n = 40 := by omega
    refine lv_aload_n hx hb d_law_266 rfl (lv_at hl 2 rfl) ?_
    refine lv_aload_n hx hb d_law_267 rfl (lv_at hl 3 rfl) ?_
    refine lv_iload_n hx hb d_law_268 rfl (lv_at hl 0 rfl) ?_
    refine lv_iconst (v := 1) hx hb d_law_269 (by decide) ?_
    refine lv_iadd hx hb d_law_270 ?_
    rw [show nI i + 1 = nI (i + 1) from nI_add i 1]
    refine va_sld hx hb hX hbl hbA hS (vp_in_nI (show i + 1 < L by omega) (by omega)) d_law_271 ?_
    rw [nI_clamp (show i + 1 < 2 ^ 31 by omega), e1]
    refine lv_aload_n hx hb d_law_272 rfl (lv_at hl 3 rfl) ?_
    refine lv_iload_n hx hb d_law_273 rfl (lv_at hl 0 rfl) ?_
    refine lv_iconst (v := 2) hx hb d_law_274 (by decide) ?_
    refine lv_iadd hx hb d_law_275 ?_
    rw [show nI i + 2 = nI (i + 2) from nI_add i 2]
    refine va_sld hx hb hX hbl hbA hS (vp_in_nI (show i + 2 < L by omega) (by omega)) d_law_276 ?_
    rw [nI_clamp (show i + 2 < 2 ^ 31 by omega), e2]
    refine lv_aload_n hx hb d_law_277 rfl (lv_at hl 3 rfl) ?_
    refine lv_iload_n hx hb d_law_278 rfl (lv_at hl 0 rfl) ?_
    refine lv_iconst (v := 3) hx hb d_law_279 (by decide) ?_
    refine lv_iadd hx hb d_law_280 ?_
    rw [show nI i + 3 = nI (i + 3) from nI_add i 3]
    refine va_sld hx hb hX hbl hbA hS (vp_in_nI (show i + 3 < L by omega) (by omega)) d_law_281 ?_
    rw [nI_clamp (show i + 3 < 2 ^ 31 by omega), e3]
    refine k_call (A := (fun q : Nat => s.heap.size ≤ q)) (W.runV (As := [.int a1, .int a2, .int a3]) (rest := []) ⟨hx, hb, hml, hown, hts⟩ (c_BG_rule_full l g H I M x n its nb bs ib inv a1 a2 a3 h0 h1 h2 h) (cwV 3 hts (kV_good kw_308 kw_305 kw_306 kw_307 kw_1) rfl rfl rfl (by decide +kernel) ⟨Nat.le_of_ble_eq_true rfl, Nat.le_of_ble_eq_true rfl⟩) (k_preV (KK_st g) hKK (inv.recv hK)) rfl rfl hl.1 rfl (lv_room (Nat.le_of_ble_eq_true rfl)) d_law_282 ⟨by show _ ≤ 600000; omega, by show _ ≤ 7302250; omega⟩) hLc hfM (fun v H1 locs hv hLc => ?_)
    obtain ⟨rfl, hE, J, N, inv, hN, hJ⟩ := hv
    obtain ⟨hMd, sep⟩ := lw_cls hMd sep hE hN hJ
    have hS := lw_S hg inv hLc
    skip
    refine lv_aload_n hx hb d_law_285 rfl (lv_at hl 1 rfl) ?_
    refine lv_aload_n hx hb d_law_286 rfl (lv_at hl 3 rfl) ?_
    refine lv_iload_n hx hb d_law_287 rfl (lv_at hl 0 rfl) ?_
    refine lv_iconst (v := 1) hx hb d_law_288 (by decide) ?_
    refine lv_iadd hx hb d_law_289 ?_
    rw [show nI i + 1 = nI (i + 1) from nI_add i 1]
    refine va_sld hx hb hX hbl hbA hS (vp_in_nI (show i + 1 < L by omega) (by omega)) d_law_290 ?_
    rw [nI_clamp (show i + 1 < 2 ^ 31 by omega), e1]
    refine lv_aload_n hx hb d_law_291 rfl (lv_at hl 3 rfl) ?_
    refine lv_iload_n hx hb d_law_292 rfl (lv_at hl 0 rfl) ?_
    refine lv_iconst (v := 2) hx hb d_law_293 (by decide) ?_
    refine lv_iadd hx hb d_law_294 ?_
    rw [show nI i + 2 = nI (i + 2) from nI_add i 2]
    refine va_sld hx hb hX hbl hbA hS (vp_in_nI (show i + 2 < L by omega) (by omega)) d_law_295 ?_
    rw [nI_clamp (show i + 2 < 2 ^ 31 by omega), e2]
    refine lv_aload_n hx hb d_law_296 rfl (lv_at hl 3 rfl) ?_
    refine lv_iload_n hx hb d_law_297 rfl (lv_at hl 0 rfl) ?_
    refine lv_iconst (v := 3) hx hb d_law_298 (by decide) ?_
    refine lv_iadd hx hb d_law_299 ?_
    rw [show nI i + 3 = nI (i + 3) from nI_add i 3]
    refine va_sld hx hb hX hbl hbA hS (vp_in_nI (show i + 3 < L by omega) (by omega)) d_law_300 ?_
    rw [nI_clamp (show i + 3 < 2 ^ 31 by omega), e3]
    refine k_pure (r := .int (-2)) (W.runV (As := [.int a1, .int a2, .int a3]) (rest := [.int (-2)]) ⟨hx, hb, hml, hown, hts⟩ (c_Mod_rule_full l g H1 m0 ad n ib nb F G hMd a1 a2 a3 hR h) (cwV 3 hts (kV_good kw_688 kw_685 kw_686 kw_687 kw_5) rfl rfl rfl (by decide +kernel) ⟨Nat.le_of_ble_eq_true rfl, Nat.le_of_ble_eq_true rfl⟩) (k_preV (KK_st g) hKK (va_recv hK (k_one hMd.1) (ci := 10) (q0 := 0) rfl rfl)) rfl rfl hl.1 rfl (lv_room (Nat.le_of_ble_eq_true rfl)) d_law_301 ⟨by show _ ≤ 600000; omega, by show _ ≤ 7302250; omega⟩) ?_
    refine lv_icmp_eq (tgt := 517) hx hb d_law_304 (by decide) (fun c_1 => ?_) (fun c_1 => ?_)
    rotate_left
    · exact absurd c_1 (fun q => q rfl)
    refine W.widen (k := cells + 103) (n := slots + 5109) (by omega) (by omega) ?_
    exact kk _ _ _ _ _ _ _ _ _ H1 locs ls ⟨inv, hMd, rel, sep, hLc⟩ (lv_sub (l := [(3, .int (nI i)), (2, .ref m0), (1, .ref x), (0, .ref b)]) hl [0, 1, 2, 3] rfl)
  · skip
    refine lv_aload_n hx hb d_law_266 rfl (lv_at hl 2 rfl) ?_
    refine lv_aload_n hx hb d_law_267 rfl (lv_at hl 3 rfl) ?_
    refine lv_iload_n hx hb d_law_268 rfl (lv_at hl 0 rfl) ?_
    refine lv_iconst (v := 1) hx hb d_law_269 (by decide) ?_
    refine lv_iadd hx hb d_law_270 ?_
    rw [show nI i + 1 = nI (i + 1) from nI_add i 1]
    refine va_sld hx hb hX hbl hbA hS (vp_in_nI (show i + 1 < L by omega) (by omega)) d_law_271 ?_
    rw [nI_clamp (show i + 1 < 2 ^ 31 by omega), e1]
    refine lv_aload_n hx hb d_law_272 rfl (lv_at hl 3 rfl) ?_
    refine lv_iload_n hx hb d_law_273 rfl (lv_at hl 0 rfl) ?_
    refine lv_iconst (v := 2) hx hb d_law_274 (by decide) ?_
    refine lv_iadd hx hb d_law_275 ?_
    rw [show nI i + 2 = nI (i + 2) from nI_add i 2]
    refine va_sld hx hb hX hbl hbA hS (vp_in_nI (show i + 2 < L by omega) (by omega)) d_law_276 ?_
    rw [nI_clamp (show i + 2 < 2 ^ 31 by omega), e2]
    refine lv_aload_n hx hb d_law_277 rfl (lv_at hl 3 rfl) ?_
    refine lv_iload_n hx hb d_law_278 rfl (lv_at hl 0 rfl) ?_
    refine lv_iconst (v := 3) hx hb d_law_279 (by decide) ?_
    refine lv_iadd hx hb d_law_280 ?_
    rw [show nI i + 3 = nI (i + 3) from nI_add i 3]
    refine va_sld hx hb hX hbl hbA hS (vp_in_nI (show i + 3 < L by omega) (by omega)) d_law_281 ?_
    rw [nI_clamp (show i + 3 < 2 ^ 31 by omega), e3]
    refine k_call (A := (fun q : Nat => s.heap.size ≤ q)) (W.runV (As := [.int a1, .int a2, .int a3]) (rest := []) ⟨hx, hb, hml, hown, hts⟩ (c_BG_rule_ok l g H I M x n its nb bs ib inv a1 a2 a3 h0 h1 h2 h) (cwV 3 hts (kV_good kw_308 kw_305 kw_306 kw_307 kw_1) rfl rfl rfl (by decide +kernel) ⟨Nat.le_of_ble_eq_true rfl, Nat.le_of_ble_eq_true rfl⟩) (k_preV (KK_st g) hKK (inv.recv hK)) rfl rfl hl.1 rfl (lv_room (Nat.le_of_ble_eq_true rfl)) d_law_282 ⟨by show _ ≤ 600000; omega, by show _ ≤ 7302250; omega⟩) hLc hfM (fun v H1 locs hv hLc => ?_)
    obtain ⟨rfl, hE, J, N, inv, hN, hJ⟩ := hv
    obtain ⟨hMd, sep⟩ := lw_cls hMd sep hE hN hJ
    have hS := lw_S hg inv hLc
    skip
    refine lv_aload_n hx hb d_law_285 rfl (lv_at hl 1 rfl) ?_
    refine lv_aload_n hx hb d_law_286 rfl (lv_at hl 3 rfl) ?_
    refine lv_iload_n hx hb d_law_287 rfl (lv_at hl 0 rfl) ?_
    refine lv_iconst (v := 1) hx hb d_law_288 (by decide) ?_
    refine lv_iadd hx hb d_law_289 ?_
    rw [show nI i + 1 = nI (i + 1) from nI_add i 1]
    refine va_sld hx hb hX hbl hbA hS (vp_in_nI (show i + 1 < L by omega) (by omega)) d_law_290 ?_
    rw [nI_clamp (show i + 1 < 2 ^ 31 by omega), e1]
    refine lv_aload_n hx hb d_law_291 rfl (lv_at hl 3 rfl) ?_
    refine lv_iload_n hx hb d_law_292 rfl (lv_at hl 0 rfl) ?_
    refine lv_iconst (v := 2) hx hb d_law_293 (by decide) ?_
    refine lv_iadd hx hb d_law_294 ?_
    rw [show nI i + 2 = nI (i + 2) from nI_add i 2]
    refine va_sld hx hb hX hbl hbA hS (vp_in_nI (show i + 2 < L by omega) (by omega)) d_law_295 ?_
    rw [nI_clamp (show i + 2 < 2 ^ 31 by omega), e2]
    refine lv_aload_n hx hb d_law_296 rfl (lv_at hl 3 rfl) ?_
    refine lv_iload_n hx hb d_law_297 rfl (lv_at hl 0 rfl) ?_
    refine lv_iconst (v := 3) hx hb d_law_298 (by decide) ?_
    refine lv_iadd hx hb d_law_299 ?_
    rw [show nI i + 3 = nI (i + 3) from nI_add i 3]
    refine va_sld hx hb hX hbl hbA hS (vp_in_nI (show i + 3 < L by omega) (by omega)) d_law_300 ?_
    rw [nI_clamp (show i + 3 < 2 ^ 31 by omega), e3]
    refine k_call (A := (fun q : Nat => s.heap.size ≤ q)) (W.runV (As := [.int a1, .int a2, .int a3]) (rest := [.int (nI (n + 1))]) ⟨hx, hb, hml, hown, hts⟩ (c_Mod_rule_ok l g H1 m0 ad n ib nb F G hMd a1 a2 a3 hR h) (cwV 3 hts (kV_good kw_688 kw_685 kw_686 kw_687 kw_5) rfl rfl rfl (by decide +kernel) ⟨Nat.le_of_ble_eq_true rfl, Nat.le_of_ble_eq_true rfl⟩) (k_preV (KK_st g) hKK (va_recv hK (k_one hMd.1) (ci := 10) (q0 := 0) rfl rfl)) rfl rfl hl.1 rfl (lv_room (Nat.le_of_ble_eq_true rfl)) d_law_301 ⟨by show _ ≤ 600000; omega, by show _ ≤ 7302250; omega⟩) hLc (fun q h => (sep q h).2.2.1) (fun v H2 locs hv hLc => ?_)
    obtain ⟨rfl, hE2, hMd⟩ := hv
    obtain ⟨inv, sep⟩ := lw_ref hg inv sep hE2
    refine lv_icmp_eq (tgt := 517) hx hb d_law_304 (by decide) (fun c_1 => ?_) (fun c_1 => ?_)
    rotate_left
    · exact absurd c_1 (fun q => q rfl)
    refine W.widen (k := cells + 103) (n := slots + 5109) (by omega) (by omega) ?_
    exact kk _ _ _ _ _ _ _ _ _ H2 locs ls ⟨inv, hMd, rel_rule rel h h0, sep, hLc⟩ (lv_sub (l := [(3, .int (nI i)), (2, .ref m0), (1, .ref x), (0, .ref b)]) hl [0, 1, 2, 3] rfl)
set_option maxHeartbeats 4000000 in
set_option maxRecDepth 100000 in
theorem lw_leaders {p : Program} {l : Launch} {e : Env} {s : State} {m : MethodId} {below : List Frame} {meth : Method} {c : Code} {b L : Nat} {xs : Nat → Int32} {g : KGt} {x m0 : Nat} {ad : Nat → Nat} (C0 : lw_At p s m meth c b L xs) (hKK : KK g s) (hg : g.2.2.1 = s.heap) {I M : Nat → Prop} {n : Nat} {its : Nat → Nat → Int32} {nb : Nat} {bs : Nat → BxT} {ib : Nat} {F : Nat → Nat → Int32} {G : Nat → Nat → Int64} {H : Heap} {locs : List Loc} (hI : lw_I g s x m0 ad I M n its nb bs ib F G H locs) {i cells slots : Nat} (hL3 : L ≤ 3072) (hi : i + 6 ≤ L) (hce : cells + 103 ≤ 600000) (hsl : slots + 5109 ≤ 7302250) {ls : Array Slot} (hl : lv_has ls 4 [(3, .int (nI i)), (2, .ref m0), (1, .ref x), (0, .ref b)]) (kk : (∀ (I M : Nat → Prop) (n : Nat) (its : Nat → Nat → Int32) (nb : Nat) (bs : Nat → BxT) (ib : Nat) (F : Nat → Nat → Int32) (G : Nat → Nat → Int64) (H : Heap) (locs : List Loc) (ls : Array Slot), lw_I g s x m0 ad I M n its nb bs ib F G H locs → lv_has ls 4 [(3, .int (nI i)), (2, .ref m0), (1, .ref x), (0, .ref b)] → W p l e room_1 s m #[Value.ref b] below meth c H locs (cells + 103) (slots + 5109) (lw_Z below #[Value.ref b] s) (F0 m 517 ls []))) : W p l e room_1 s m #[Value.ref b] below meth c H locs cells slots (lw_Z below #[Value.ref b] s) (F0 m 309 ls []) := by
  obtain ⟨hx, hb, hr, hml, hown, hts0, hX, hbl, hlocks, hgv⟩ := id C0
  have hts : ∀ w ∈ kG, w.before #[Value.ref b] s = true := fun w hw => hts0 w (kG_in hw)
  have hown : s.vm.findClass "BoxGlueLaw" = some m.cls := hown
  have hK := hKK.1
  obtain ⟨inv, hMd, rel, sep, hLc⟩ := hI
  have hbA : ¬ (fun q : Nat => s.heap.size ≤ q) b := Nat.not_le.mpr hbl
  have hS := lw_S hg inv hLc
  have hn40 := rel.1
  have hnb60 := rel.2.1
  have hib := rel.2.2.1
  have hfM := lw_fM hg inv
  obtain ⟨a1, e1⟩ : ∃ a, xs (i + 1) = a := ⟨_, rfl⟩
  obtain ⟨a2, e2⟩ : ∃ a, xs (i + 2) = a := ⟨_, rfl⟩
  rcases lw_c_lead hnb60 n F a1 a2 with h | ⟨h1, h3, h0, h | ⟨kb, hkb, rfl, rfl | ⟨k, rfl, h | h⟩⟩⟩
  · skip
    refine lv_aload_n hx hb d_law_309 rfl (lv_at hl 2 rfl) ?_
    refine lv_aload_n hx hb d_law_310 rfl (lv_at hl 3 rfl) ?_
    refine lv_iload_n hx hb d_law_311 rfl (lv_at hl 0 rfl) ?_
    refine lv_iconst (v := 1) hx hb d_law_312 (by decide) ?_
    refine lv_iadd hx hb d_law_313 ?_
    rw [show nI i + 1 = nI (i + 1) from nI_add i 1]
    refine va_sld hx hb hX hbl hbA hS (vp_in_nI (show i + 1 < L by omega) (by omega)) d_law_314 ?_
    rw [nI_clamp (show i + 1 < 2 ^ 31 by omega), e1]
    refine lv_aload_n hx hb d_law_315 rfl (lv_at hl 3 rfl) ?_
    refine lv_iload_n hx hb d_law_316 rfl (lv_at hl 0 rfl) ?_
    refine lv_iconst (v := 2) hx hb d_law_317 (by decide) ?_
    refine lv_iadd hx hb d_law_318 ?_
    rw [show nI i + 2 = nI (i + 2) from nI_add i 2]
    refine va_sld hx hb hX hbl hbA hS (vp_in_nI (show i + 2 < L by omega) (by omega)) d_law_319 ?_
    rw [nI_clamp (show i + 2 < 2 ^ 31 by omega), e2]
    refine k_pure (r := .int (-1)) (W.runV (As := [.int a1, .int a2]) (rest := []) ⟨hx, hb, hml, hown, hts⟩ (c_BG_leaders_bad1 l g H I M x n its nb bs ib inv a1 a2 h) (cwV 2 hts (kV_good kw_331 kw_328 kw_329 kw_330 kw_1) rfl rfl rfl (by decide +kernel) ⟨Nat.le_of_ble_eq_true rfl, Nat.le_of_ble_eq_true rfl⟩) (k_preV (KK_st g) hKK (inv.recv hK)) rfl rfl hl.1 rfl (lv_room (Nat.le_of_ble_eq_true rfl)) d_law_320 ⟨by show _ ≤ 600000; omega, by show _ ≤ 7302250; omega⟩) ?_
    refine lv_aload_n hx hb d_law_323 rfl (lv_at hl 1 rfl) ?_
    refine lv_aload_n hx hb d_law_324 rfl (lv_at hl 3 rfl) ?_
    refine lv_iload_n hx hb d_law_325 rfl (lv_at hl 0 rfl) ?_
    refine lv_iconst (v := 1) hx hb d_law_326 (by decide) ?_
    refine lv_iadd hx hb d_law_327 ?_
    rw [show nI i + 1 = nI (i + 1) from nI_add i 1]
    refine va_sld hx hb hX hbl hbA hS (vp_in_nI (show i + 1 < L by omega) (by omega)) d_law_328 ?_
    rw [nI_clamp (show i + 1 < 2 ^ 31 by omega), e1]
    refine lv_aload_n hx hb d_law_329 rfl (lv_at hl 3 rfl) ?_
    refine lv_iload_n hx hb d_law_330 rfl (lv_at hl 0 rfl) ?_
    refine lv_iconst (v := 2) hx hb d_law_331 (by decide) ?_
    refine lv_iadd hx hb d_law_332 ?_
    rw [show nI i + 2 = nI (i + 2) from nI_add i 2]
    refine va_sld hx hb hX hbl hbA hS (vp_in_nI (show i + 2 < L by omega) (by omega)) d_law_333 ?_
    rw [nI_clamp (show i + 2 < 2 ^ 31 by omega), e2]
    refine k_pure (r := .int (-1)) (W.runV (As := [.int a1, .int a2]) (rest := [.int (-1)]) ⟨hx, hb, hml, hown, hts⟩ (c_Mod_leaders_bad1 l g H m0 ad n ib nb F G hMd a1 a2 (a_in.mpr h)) (cwV 2 hts (kV_good kw_693 kw_690 kw_691 kw_692 kw_5) rfl rfl rfl (by decide +kernel) ⟨Nat.le_of_ble_eq_true rfl, Nat.le_of_ble_eq_true rfl⟩) (k_preV (KK_st g) hKK (va_recv hK (k_one hMd.1) (ci := 10) (q0 := 0) rfl rfl)) rfl rfl hl.1 rfl (lv_room (Nat.le_of_ble_eq_true rfl)) d_law_334 ⟨by show _ ≤ 600000; omega, by show _ ≤ 7302250; omega⟩) ?_
    refine lv_icmp_eq (tgt := 517) hx hb d_law_337 (by decide) (fun c_1 => ?_) (fun c_1 => ?_)
    rotate_left
    · exact absurd c_1 (fun q => q rfl)
    refine W.widen (k := cells + 103) (n := slots + 5109) (by omega) (by omega) ?_
    exact kk _ _ _ _ _ _ _ _ _ H locs ls ⟨inv, hMd, rel, sep, hLc⟩ (lv_sub (l := [(3, .int (nI i)), (2, .ref m0), (1, .ref x), (0, .ref b)]) hl [0, 1, 2, 3] rfl)
  · skip
    refine lv_aload_n hx hb d_law_309 rfl (lv_at hl 2 rfl) ?_
    refine lv_aload_n hx hb d_law_310 rfl (lv_at hl 3 rfl) ?_
    refine lv_iload_n hx hb d_law_311 rfl (lv_at hl 0 rfl) ?_
    refine lv_iconst (v := 1) hx hb d_law_312 (by decide) ?_
    refine lv_iadd hx hb d_law_313 ?_
    rw [show nI i + 1 = nI (i + 1) from nI_add i 1]
    refine va_sld hx hb hX hbl hbA hS (vp_in_nI (show i + 1 < L by omega) (by omega)) d_law_314 ?_
    rw [nI_clamp (show i + 1 < 2 ^ 31 by omega), e1]
    refine lv_aload_n hx hb d_law_315 rfl (lv_at hl 3 rfl) ?_
    refine lv_iload_n hx hb d_law_316 rfl (lv_at hl 0 rfl) ?_
    refine lv_iconst (v := 2) hx hb d_law_317 (by decide) ?_
    refine lv_iadd hx hb d_law_318 ?_
    rw [show nI i + 2 = nI (i + 2) from nI_add i 2]
    refine va_sld hx hb hX hbl hbA hS (vp_in_nI (show i + 2 < L by omega) (by omega)) d_law_319 ?_
    rw [nI_clamp (show i + 2 < 2 ^ 31 by omega), e2]
    refine k_pure (r := .int (-1)) (W.runV (As := [.int a1, .int a2]) (rest := []) ⟨hx, hb, hml, hown, hts⟩ (c_BG_leaders_bad2 l g H I M x n its nb bs ib inv a1 a2 h1 h3 h) (cwV 2 hts (kV_good kw_331 kw_328 kw_329 kw_330 kw_1) rfl rfl rfl (by decide +kernel) ⟨Nat.le_of_ble_eq_true rfl, Nat.le_of_ble_eq_true rfl⟩) (k_preV (KK_st g) hKK (inv.recv hK)) rfl rfl hl.1 rfl (lv_room (Nat.le_of_ble_eq_true rfl)) d_law_320 ⟨by show _ ≤ 600000; omega, by show _ ≤ 7302250; omega⟩) ?_
    refine lv_aload_n hx hb d_law_323 rfl (lv_at hl 1 rfl) ?_
    refine lv_aload_n hx hb d_law_324 rfl (lv_at hl 3 rfl) ?_
    refine lv_iload_n hx hb d_law_325 rfl (lv_at hl 0 rfl) ?_
    refine lv_iconst (v := 1) hx hb d_law_326 (by decide) ?_
    refine lv_iadd hx hb d_law_327 ?_
    rw [show nI i + 1 = nI (i + 1) from nI_add i 1]
    refine va_sld hx hb hX hbl hbA hS (vp_in_nI (show i + 1 < L by omega) (by omega)) d_law_328 ?_
    rw [nI_clamp (show i + 1 < 2 ^ 31 by omega), e1]
    refine lv_aload_n hx hb d_law_329 rfl (lv_at hl 3 rfl) ?_
    refine lv_iload_n hx hb d_law_330 rfl (lv_at hl 0 rfl) ?_
    refine lv_iconst (v := 2) hx hb d_law_331 (by decide) ?_
    refine lv_iadd hx hb d_law_332 ?_
    rw [show nI i + 2 = nI (i + 2) from nI_add i 2]
    refine va_sld hx hb hX hbl hbA hS (vp_in_nI (show i + 2 < L by omega) (by omega)) d_law_333 ?_
    rw [nI_clamp (show i + 2 < 2 ^ 31 by omega), e2]
    refine k_pure (r := .int (-1)) (W.runV (As := [.int a1, .int a2]) (rest := [.int (-1)]) ⟨hx, hb, hml, hown, hts⟩ (c_Mod_leaders_bad2 l g H m0 ad n ib nb F G hMd a1 a2 h0 h) (cwV 2 hts (kV_good kw_693 kw_690 kw_691 kw_692 kw_5) rfl rfl rfl (by decide +kernel) ⟨Nat.le_of_ble_eq_true rfl, Nat.le_of_ble_eq_true rfl⟩) (k_preV (KK_st g) hKK (va_recv hK (k_one hMd.1) (ci := 10) (q0 := 0) rfl rfl)) rfl rfl hl.1 rfl (lv_room (Nat.le_of_ble_eq_true rfl)) d_law_334 ⟨by show _ ≤ 600000; omega, by show _ ≤ 7302250; omega⟩) ?_
    refine lv_icmp_eq (tgt := 517) hx hb d_law_337 (by decide) (fun c_1 => ?_) (fun c_1 => ?_)
    rotate_left
    · exact absurd c_1 (fun q => q rfl)
    refine W.widen (k := cells + 103) (n := slots + 5109) (by omega) (by omega) ?_
    exact kk _ _ _ _ _ _ _ _ _ H locs ls ⟨inv, hMd, rel, sep, hLc⟩ (lv_sub (l := [(3, .int (nI i)), (2, .ref m0), (1, .ref x), (0, .ref b)]) hl [0, 1, 2, 3] rfl)
  · skip
    refine lv_aload_n hx hb d_law_309 rfl (lv_at hl 2 rfl) ?_
    refine lv_aload_n hx hb d_law_310 rfl (lv_at hl 3 rfl) ?_
    refine lv_iload_n hx hb d_law_311 rfl (lv_at hl 0 rfl) ?_
    refine lv_iconst (v := 1) hx hb d_law_312 (by decide) ?_
    refine lv_iadd hx hb d_law_313 ?_
    rw [show nI i + 1 = nI (i + 1) from nI_add i 1]
    refine va_sld hx hb hX hbl hbA hS (vp_in_nI (show i + 1 < L by omega) (by omega)) d_law_314 ?_
    rw [nI_clamp (show i + 1 < 2 ^ 31 by omega), e1]
    refine lv_aload_n hx hb d_law_315 rfl (lv_at hl 3 rfl) ?_
    refine lv_iload_n hx hb d_law_316 rfl (lv_at hl 0 rfl) ?_
    refine lv_iconst (v := 2) hx hb d_law_317 (by decide) ?_
    refine lv_iadd hx hb d_law_318 ?_
    rw [show nI i + 2 = nI (i + 2) from nI_add i 2]
    refine va_sld hx hb hX hbl hbA hS (vp_in_nI (show i + 2 < L by omega) (by omega)) d_law_319 ?_
    rw [nI_clamp (show i + 2 < 2 ^ 31 by omega), e2]
    refine k_pure (r := .int (-3)) (W.runV (As := [.int a1, .int (nI kb)]) (rest := []) ⟨hx, hb, hml, hown, hts⟩ (c_BG_leaders_no1 l g H I M x 0 its nb bs ib inv a1 h1 h3 kb hkb rfl) (cwV 2 hts (kV_good kw_331 kw_328 kw_329 kw_330 kw_1) rfl rfl rfl (by decide +kernel) ⟨Nat.le_of_ble_eq_true rfl, Nat.le_of_ble_eq_true rfl⟩) (k_preV (KK_st g) hKK (inv.recv hK)) rfl rfl hl.1 rfl (lv_room (Nat.le_of_ble_eq_true rfl)) d_law_320 ⟨by show _ ≤ 600000; omega, by show _ ≤ 7302250; omega⟩) ?_
    refine lv_aload_n hx hb d_law_323 rfl (lv_at hl 1 rfl) ?_
    refine lv_aload_n hx hb d_law_324 rfl (lv_at hl 3 rfl) ?_
    refine lv_iload_n hx hb d_law_325 rfl (lv_at hl 0 rfl) ?_
    refine lv_iconst (v := 1) hx hb d_law_326 (by decide) ?_
    refine lv_iadd hx hb d_law_327 ?_
    rw [show nI i + 1 = nI (i + 1) from nI_add i 1]
    refine va_sld hx hb hX hbl hbA hS (vp_in_nI (show i + 1 < L by omega) (by omega)) d_law_328 ?_
    rw [nI_clamp (show i + 1 < 2 ^ 31 by omega), e1]
    refine lv_aload_n hx hb d_law_329 rfl (lv_at hl 3 rfl) ?_
    refine lv_iload_n hx hb d_law_330 rfl (lv_at hl 0 rfl) ?_
    refine lv_iconst (v := 2) hx hb d_law_331 (by decide) ?_
    refine lv_iadd hx hb d_law_332 ?_
    rw [show nI i + 2 = nI (i + 2) from nI_add i 2]
    refine va_sld hx hb hX hbl hbA hS (vp_in_nI (show i + 2 < L by omega) (by omega)) d_law_333 ?_
    rw [nI_clamp (show i + 2 < 2 ^ 31 by omega), e2]
    refine k_pure (r := .int (-3)) (W.runV (As := [.int a1, .int (nI kb)]) (rest := [.int (-3)]) ⟨hx, hb, hml, hown, hts⟩ (c_Mod_leaders_no1 l g H m0 ad 0 ib nb F G hMd a1 kb hkb hnb60 h0 rfl) (cwV 2 hts (kV_good kw_693 kw_690 kw_691 kw_692 kw_5) rfl rfl rfl (by decide +kernel) ⟨Nat.le_of_ble_eq_true rfl, Nat.le_of_ble_eq_true rfl⟩) (k_preV (KK_st g) hKK (va_recv hK (k_one hMd.1) (ci := 10) (q0 := 0) rfl rfl)) rfl rfl hl.1 rfl (lv_room (Nat.le_of_ble_eq_true rfl)) d_law_334 ⟨by show _ ≤ 600000; omega, by show _ ≤ 7302250; omega⟩) ?_
    refine lv_icmp_eq (tgt := 517) hx hb d_law_337 (by decide) (fun c_1 => ?_) (fun c_1 => ?_)
    rotate_left
    · exact absurd c_1 (fun q => q rfl)
    refine W.widen (k := cells + 103) (n := slots + 5109) (by omega) (by omega) ?_
    exact kk _ _ _ _ _ _ _ _ _ H locs ls ⟨inv, hMd, rel, sep, hLc⟩ (lv_sub (l := [(3, .int (nI i)), (2, .ref m0), (1, .ref x), (0, .ref b)]) hl [0, 1, 2, 3] rfl)
  · skip
    have i0 : its k 0 = F 0 k := (rel.2.2.2.1 k (by omega)).1
    refine lv_aload_n hx hb d_law_309 rfl (lv_at hl 2 rfl) ?_
    refine lv_aload_n hx hb d_law_310 rfl (lv_at hl 3 rfl) ?_
    refine lv_iload_n hx hb d_law_311 rfl (lv_at hl 0 rfl) ?_
    refine lv_iconst (v := 1) hx hb d_law_312 (by decide) ?_
    refine lv_iadd hx hb d_law_313 ?_
    rw [show nI i + 1 = nI (i + 1) from nI_add i 1]
    refine va_sld hx hb hX hbl hbA hS (vp_in_nI (show i + 1 < L by omega) (by omega)) d_law_314 ?_
    rw [nI_clamp (show i + 1 < 2 ^ 31 by omega), e1]
    refine lv_aload_n hx hb d_law_315 rfl (lv_at hl 3 rfl) ?_
    refine lv_iload_n hx hb d_law_316 rfl (lv_at hl 0 rfl) ?_
    refine lv_iconst (v := 2) hx hb d_law_317 (by decide) ?_
    refine lv_iadd hx hb d_law_318 ?_
    rw [show nI i + 2 = nI (i + 2) from nI_add i 2]
    refine va_sld hx hb hX hbl hbA hS (vp_in_nI (show i + 2 < L by omega) (by omega)) d_law_319 ?_
    rw [nI_clamp (show i + 2 < 2 ^ 31 by omega), e2]
    refine k_pure (r := .int (-3)) (W.runV (As := [.int a1, .int (nI kb)]) (rest := []) ⟨hx, hb, hml, hown, hts⟩ (c_BG_leaders_no2 l g H I M x k its nb bs ib inv a1 h1 h3 kb hkb (by rw [i0]; exact h)) (cwV 2 hts (kV_good kw_331 kw_328 kw_329 kw_330 kw_1) rfl rfl rfl (by decide +kernel) ⟨Nat.le_of_ble_eq_true rfl, Nat.le_of_ble_eq_true rfl⟩) (k_preV (KK_st g) hKK (inv.recv hK)) rfl rfl hl.1 rfl (lv_room (Nat.le_of_ble_eq_true rfl)) d_law_320 ⟨by show _ ≤ 600000; omega, by show _ ≤ 7302250; omega⟩) ?_
    refine lv_aload_n hx hb d_law_323 rfl (lv_at hl 1 rfl) ?_
    refine lv_aload_n hx hb d_law_324 rfl (lv_at hl 3 rfl) ?_
    refine lv_iload_n hx hb d_law_325 rfl (lv_at hl 0 rfl) ?_
    refine lv_iconst (v := 1) hx hb d_law_326 (by decide) ?_
    refine lv_iadd hx hb d_law_327 ?_
    rw [show nI i + 1 = nI (i + 1) from nI_add i 1]
    refine va_sld hx hb hX hbl hbA hS (vp_in_nI (show i + 1 < L by omega) (by omega)) d_law_328 ?_
    rw [nI_clamp (show i + 1 < 2 ^ 31 by omega), e1]
    refine lv_aload_n hx hb d_law_329 rfl (lv_at hl 3 rfl) ?_
    refine lv_iload_n hx hb d_law_330 rfl (lv_at hl 0 rfl) ?_
    refine lv_iconst (v := 2) hx hb d_law_331 (by decide) ?_
    refine lv_iadd hx hb d_law_332 ?_
    rw [show nI i + 2 = nI (i + 2) from nI_add i 2]
    refine va_sld hx hb hX hbl hbA hS (vp_in_nI (show i + 2 < L by omega) (by omega)) d_law_333 ?_
    rw [nI_clamp (show i + 2 < 2 ^ 31 by omega), e2]
    refine k_pure (r := .int (-3)) (W.runV (As := [.int a1, .int (nI kb)]) (rest := [.int (-3)]) ⟨hx, hb, hml, hown, hts⟩ (c_Mod_leaders_no2 l g H m0 ad (k + 1) ib nb F G hMd a1 kb hkb hnb60 h0 k rfl (by omega) h) (cwV 2 hts (kV_good kw_693 kw_690 kw_691 kw_692 kw_5) rfl rfl rfl (by decide +kernel) ⟨Nat.le_of_ble_eq_true rfl, Nat.le_of_ble_eq_true rfl⟩) (k_preV (KK_st g) hKK (va_recv hK (k_one hMd.1) (ci := 10) (q0 := 0) rfl rfl)) rfl rfl hl.1 rfl (lv_room (Nat.le_of_ble_eq_true rfl)) d_law_334 ⟨by show _ ≤ 600000; omega, by show _ ≤ 7302250; omega⟩) ?_
    refine lv_icmp_eq (tgt := 517) hx hb d_law_337 (by decide) (fun c_1 => ?_) (fun c_1 => ?_)
    rotate_left
    · exact absurd c_1 (fun q => q rfl)
    refine W.widen (k := cells + 103) (n := slots + 5109) (by omega) (by omega) ?_
    exact kk _ _ _ _ _ _ _ _ _ H locs ls ⟨inv, hMd, rel, sep, hLc⟩ (lv_sub (l := [(3, .int (nI i)), (2, .ref m0), (1, .ref x), (0, .ref b)]) hl [0, 1, 2, 3] rfl)
  · skip
    have i0 : its k 0 = F 0 k := (rel.2.2.2.1 k (by omega)).1
    refine lv_aload_n hx hb d_law_309 rfl (lv_at hl 2 rfl) ?_
    refine lv_aload_n hx hb d_law_310 rfl (lv_at hl 3 rfl) ?_
    refine lv_iload_n hx hb d_law_311 rfl (lv_at hl 0 rfl) ?_
    refine lv_iconst (v := 1) hx hb d_law_312 (by decide) ?_
    refine lv_iadd hx hb d_law_313 ?_
    rw [show nI i + 1 = nI (i + 1) from nI_add i 1]
    refine va_sld hx hb hX hbl hbA hS (vp_in_nI (show i + 1 < L by omega) (by omega)) d_law_314 ?_
    rw [nI_clamp (show i + 1 < 2 ^ 31 by omega), e1]
    refine lv_aload_n hx hb d_law_315 rfl (lv_at hl 3 rfl) ?_
    refine lv_iload_n hx hb d_law_316 rfl (lv_at hl 0 rfl) ?_
    refine lv_iconst (v := 2) hx hb d_law_317 (by decide) ?_
    refine lv_iadd hx hb d_law_318 ?_
    rw [show nI i + 2 = nI (i + 2) from nI_add i 2]
    refine va_sld hx hb hX hbl hbA hS (vp_in_nI (show i + 2 < L by omega) (by omega)) d_law_319 ?_
    rw [nI_clamp (show i + 2 < 2 ^ 31 by omega), e2]
    refine k_call (A := (fun q : Nat => s.heap.size ≤ q)) (W.runV (As := [.int a1, .int (nI kb)]) (rest := []) ⟨hx, hb, hml, hown, hts⟩ (c_BG_leaders_ok l g H I M x k its nb bs ib inv a1 h1 h3 kb hkb (by rw [i0]; exact h)) (cwV 2 hts (kV_good kw_331 kw_328 kw_329 kw_330 kw_1) rfl rfl rfl (by decide +kernel) ⟨Nat.le_of_ble_eq_true rfl, Nat.le_of_ble_eq_true rfl⟩) (k_preV (KK_st g) hKK (inv.recv hK)) rfl rfl hl.1 rfl (lv_room (Nat.le_of_ble_eq_true rfl)) d_law_320 ⟨by show _ ≤ 600000; omega, by show _ ≤ 7302250; omega⟩) hLc hfM (fun v H1 locs hv hLc => ?_)
    obtain ⟨rfl, hE, J, N, inv, hN, hJ⟩ := hv
    obtain ⟨hMd, sep⟩ := lw_cls hMd sep hE hN hJ
    have hS := lw_S hg inv hLc
    skip
    refine lv_aload_n hx hb d_law_323 rfl (lv_at hl 1 rfl) ?_
    refine lv_aload_n hx hb d_law_324 rfl (lv_at hl 3 rfl) ?_
    refine lv_iload_n hx hb d_law_325 rfl (lv_at hl 0 rfl) ?_
    refine lv_iconst (v := 1) hx hb d_law_326 (by decide) ?_
    refine lv_iadd hx hb d_law_327 ?_
    rw [show nI i + 1 = nI (i + 1) from nI_add i 1]
    refine va_sld hx hb hX hbl hbA hS (vp_in_nI (show i + 1 < L by omega) (by omega)) d_law_328 ?_
    rw [nI_clamp (show i + 1 < 2 ^ 31 by omega), e1]
    refine lv_aload_n hx hb d_law_329 rfl (lv_at hl 3 rfl) ?_
    refine lv_iload_n hx hb d_law_330 rfl (lv_at hl 0 rfl) ?_
    refine lv_iconst (v := 2) hx hb d_law_331 (by decide) ?_
    refine lv_iadd hx hb d_law_332 ?_
    rw [show nI i + 2 = nI (i + 2) from nI_add i 2]
    refine va_sld hx hb hX hbl hbA hS (vp_in_nI (show i + 2 < L by omega) (by omega)) d_law_333 ?_
    rw [nI_clamp (show i + 2 < 2 ^ 31 by omega), e2]
    refine k_call (A := (fun q : Nat => s.heap.size ≤ q)) (W.runV (As := [.int a1, .int (nI kb)]) (rest := [.int 1]) ⟨hx, hb, hml, hown, hts⟩ (c_Mod_leaders_ok l g H1 m0 ad (k + 1) ib nb F G hMd a1 kb hkb hnb60 h0 k rfl (by omega) h) (cwV 2 hts (kV_good kw_693 kw_690 kw_691 kw_692 kw_5) rfl rfl rfl (by decide +kernel) ⟨Nat.le_of_ble_eq_true rfl, Nat.le_of_ble_eq_true rfl⟩) (k_preV (KK_st g) hKK (va_recv hK (k_one hMd.1) (ci := 10) (q0 := 0) rfl rfl)) rfl rfl hl.1 rfl (lv_room (Nat.le_of_ble_eq_true rfl)) d_law_334 ⟨by show _ ≤ 600000; omega, by show _ ≤ 7302250; omega⟩) hLc (fun q h => (sep q h).2.2.1) (fun v H2 locs hv hLc => ?_)
    obtain ⟨rfl, hE2, hMd⟩ := hv
    obtain ⟨inv, sep⟩ := lw_ref hg inv sep hE2
    refine lv_icmp_eq (tgt := 517) hx hb d_law_337 (by decide) (fun c_1 => ?_) (fun c_1 => ?_)
    rotate_left
    · exact absurd c_1 (fun q => q rfl)
    refine W.widen (k := cells + 103) (n := slots + 5109) (by omega) (by omega) ?_
    exact kk _ _ _ _ _ _ _ _ _ H2 locs ls ⟨inv, hMd, rel_lead rel hkb h1 h, sep, hLc⟩ (lv_sub (l := [(3, .int (nI i)), (2, .ref m0), (1, .ref x), (0, .ref b)]) hl [0, 1, 2, 3] rfl)
set_option maxHeartbeats 4000000 in
set_option maxRecDepth 100000 in
theorem lw_pack {p : Program} {l : Launch} {e : Env} {s : State} {m : MethodId} {below : List Frame} {meth : Method} {c : Code} {b L : Nat} {xs : Nat → Int32} {g : KGt} {x m0 : Nat} {ad : Nat → Nat} (C0 : lw_At p s m meth c b L xs) (hKK : KK g s) (hg : g.2.2.1 = s.heap) {I M : Nat → Prop} {n : Nat} {its : Nat → Nat → Int32} {nb : Nat} {bs : Nat → BxT} {ib : Nat} {F : Nat → Nat → Int32} {G : Nat → Nat → Int64} {H : Heap} {locs : List Loc} (hI : lw_I g s x m0 ad I M n its nb bs ib F G H locs) {i cells slots : Nat} (hL3 : L ≤ 3072) (hi : i + 6 ≤ L) (hce : cells + 103 ≤ 600000) (hsl : slots + 5109 ≤ 7302250) {ls : Array Slot} (hl : lv_has ls 4 [(3, .int (nI i)), (2, .ref m0), (1, .ref x), (0, .ref b)]) (kk : (∀ (I M : Nat → Prop) (n : Nat) (its : Nat → Nat → Int32) (nb : Nat) (bs : Nat → BxT) (ib : Nat) (F : Nat → Nat → Int32) (G : Nat → Nat → Int64) (H : Heap) (locs : List Loc) (ls : Array Slot), lw_I g s x m0 ad I M n its nb bs ib F G H locs → lv_has ls 4 [(3, .int (nI i)), (2, .ref m0), (1, .ref x), (0, .ref b)] → W p l e room_1 s m #[Value.ref b] below meth c H locs (cells + 103) (slots + 5109) (lw_Z below #[Value.ref b] s) (F0 m 517 ls []))) : W p l e room_1 s m #[Value.ref b] below meth c H locs cells slots (lw_Z below #[Value.ref b] s) (F0 m 342 ls []) := by
  obtain ⟨hx, hb, hr, hml, hown, hts0, hX, hbl, hlocks, hgv⟩ := id C0
  have hts : ∀ w ∈ kG, w.before #[Value.ref b] s = true := fun w hw => hts0 w (kG_in hw)
  have hown : s.vm.findClass "BoxGlueLaw" = some m.cls := hown
  have hK := hKK.1
  obtain ⟨inv, hMd, rel, sep, hLc⟩ := hI
  have hbA : ¬ (fun q : Nat => s.heap.size ≤ q) b := Nat.not_le.mpr hbl
  have hS := lw_S hg inv hLc
  have hn40 := rel.1
  have hnb60 := rel.2.1
  have hib := rel.2.2.1
  have hfM := lw_fM hg inv
  obtain ⟨a1, e1⟩ : ∃ a, xs (i + 1) = a := ⟨_, rfl⟩
  rcases lw_c_pack n nb ib (l_len its n) a1 with h | ⟨h1, h2, h⟩ | ⟨h1, h2, h3, h⟩ | ⟨h1, h2, h3, h60, h300⟩
  · skip
    refine lv_aload_n hx hb d_law_342 rfl (lv_at hl 2 rfl) ?_
    refine lv_aload_n hx hb d_law_343 rfl (lv_at hl 3 rfl) ?_
    refine lv_iload_n hx hb d_law_344 rfl (lv_at hl 0 rfl) ?_
    refine lv_iconst (v := 1) hx hb d_law_345 (by decide) ?_
    refine lv_iadd hx hb d_law_346 ?_
    rw [show nI i + 1 = nI (i + 1) from nI_add i 1]
    refine va_sld hx hb hX hbl hbA hS (vp_in_nI (show i + 1 < L by omega) (by omega)) d_law_347 ?_
    rw [nI_clamp (show i + 1 < 2 ^ 31 by omega), e1]
    refine k_pure (r := .int (-1)) (W.runV (As := [.int a1]) (rest := []) ⟨hx, hb, hml, hown, hts⟩ (c_BG_pack_bad1 l g H I M x n its nb bs ib inv a1 h) (cwV 1 hts (kV_good kw_349 kw_346 kw_347 kw_348 kw_1) rfl rfl rfl (by decide +kernel) ⟨Nat.le_of_ble_eq_true rfl, Nat.le_of_ble_eq_true rfl⟩) (k_preV (KK_st g) hKK (inv.recv hK)) rfl rfl hl.1 rfl (lv_room (Nat.le_of_ble_eq_true rfl)) d_law_348 ⟨by show _ ≤ 600000; omega, by show _ ≤ 7302250; omega⟩) ?_
    refine lv_aload_n hx hb d_law_351 rfl (lv_at hl 1 rfl) ?_
    refine lv_aload_n hx hb d_law_352 rfl (lv_at hl 3 rfl) ?_
    refine lv_iload_n hx hb d_law_353 rfl (lv_at hl 0 rfl) ?_
    refine lv_iconst (v := 1) hx hb d_law_354 (by decide) ?_
    refine lv_iadd hx hb d_law_355 ?_
    rw [show nI i + 1 = nI (i + 1) from nI_add i 1]
    refine va_sld hx hb hX hbl hbA hS (vp_in_nI (show i + 1 < L by omega) (by omega)) d_law_356 ?_
    rw [nI_clamp (show i + 1 < 2 ^ 31 by omega), e1]
    refine k_pure (r := .int (-1)) (W.runV (As := [.int a1]) (rest := [.int (-1)]) ⟨hx, hb, hml, hown, hts⟩ (c_Mod_pack_bad l g H m0 ad n ib nb F G hMd a1 hn40 hnb60 (an_mw rel) (Or.inl (a_in.mpr (h.imp id lw_nle)))) (cwV 1 hts (kV_good kw_705 kw_702 kw_703 kw_704 kw_5) rfl rfl rfl (by decide +kernel) ⟨Nat.le_of_ble_eq_true rfl, Nat.le_of_ble_eq_true rfl⟩) (k_preV (KK_st g) hKK (va_recv hK (k_one hMd.1) (ci := 10) (q0 := 0) rfl rfl)) rfl rfl hl.1 rfl (lv_room (Nat.le_of_ble_eq_true rfl)) d_law_357 ⟨by show _ ≤ 600000; omega, by show _ ≤ 7302250; omega⟩) ?_
    refine lv_icmp_eq (tgt := 517) hx hb d_law_360 (by decide) (fun c_1 => ?_) (fun c_1 => ?_)
    rotate_left
    · exact absurd c_1 (fun q => q rfl)
    refine W.widen (k := cells + 103) (n := slots + 5109) (by omega) (by omega) ?_
    exact kk _ _ _ _ _ _ _ _ _ H locs ls ⟨inv, hMd, rel, sep, hLc⟩ (lv_sub (l := [(3, .int (nI i)), (2, .ref m0), (1, .ref x), (0, .ref b)]) hl [0, 1, 2, 3] rfl)
  · skip
    refine lv_aload_n hx hb d_law_342 rfl (lv_at hl 2 rfl) ?_
    refine lv_aload_n hx hb d_law_343 rfl (lv_at hl 3 rfl) ?_
    refine lv_iload_n hx hb d_law_344 rfl (lv_at hl 0 rfl) ?_
    refine lv_iconst (v := 1) hx hb d_law_345 (by decide) ?_
    refine lv_iadd hx hb d_law_346 ?_
    rw [show nI i + 1 = nI (i + 1) from nI_add i 1]
    refine va_sld hx hb hX hbl hbA hS (vp_in_nI (show i + 1 < L by omega) (by omega)) d_law_347 ?_
    rw [nI_clamp (show i + 1 < 2 ^ 31 by omega), e1]
    refine k_pure (r := .int (-1)) (W.runV (As := [.int a1]) (rest := []) ⟨hx, hb, hml, hown, hts⟩ (c_BG_pack_bad2 l g H I M x n its nb bs ib inv a1 h1 h2 h.1 h.2) (cwV 1 hts (kV_good kw_349 kw_346 kw_347 kw_348 kw_1) rfl rfl rfl (by decide +kernel) ⟨Nat.le_of_ble_eq_true rfl, Nat.le_of_ble_eq_true rfl⟩) (k_preV (KK_st g) hKK (inv.recv hK)) rfl rfl hl.1 rfl (lv_room (Nat.le_of_ble_eq_true rfl)) d_law_348 ⟨by show _ ≤ 600000; omega, by show _ ≤ 7302250; omega⟩) ?_
    refine lv_aload_n hx hb d_law_351 rfl (lv_at hl 1 rfl) ?_
    refine lv_aload_n hx hb d_law_352 rfl (lv_at hl 3 rfl) ?_
    refine lv_iload_n hx hb d_law_353 rfl (lv_at hl 0 rfl) ?_
    refine lv_iconst (v := 1) hx hb d_law_354 (by decide) ?_
    refine lv_iadd hx hb d_law_355 ?_
    rw [show nI i + 1 = nI (i + 1) from nI_add i 1]
    refine va_sld hx hb hX hbl hbA hS (vp_in_nI (show i + 1 < L by omega) (by omega)) d_law_356 ?_
    rw [nI_clamp (show i + 1 < 2 ^ 31 by omega), e1]
    refine k_pure (r := .int (-1)) (W.runV (As := [.int a1]) (rest := [.int (-1)]) ⟨hx, hb, hml, hown, hts⟩ (c_Mod_pack_bad l g H m0 ad n ib nb F G hMd a1 hn40 hnb60 (an_mw rel) (Or.inr ⟨h.1, fun q => h.2 ((an_big rel).mp q)⟩)) (cwV 1 hts (kV_good kw_705 kw_702 kw_703 kw_704 kw_5) rfl rfl rfl (by decide +kernel) ⟨Nat.le_of_ble_eq_true rfl, Nat.le_of_ble_eq_true rfl⟩) (k_preV (KK_st g) hKK (va_recv hK (k_one hMd.1) (ci := 10) (q0 := 0) rfl rfl)) rfl rfl hl.1 rfl (lv_room (Nat.le_of_ble_eq_true rfl)) d_law_357 ⟨by show _ ≤ 600000; omega, by show _ ≤ 7302250; omega⟩) ?_
    refine lv_icmp_eq (tgt := 517) hx hb d_law_360 (by decide) (fun c_1 => ?_) (fun c_1 => ?_)
    rotate_left
    · exact absurd c_1 (fun q => q rfl)
    refine W.widen (k := cells + 103) (n := slots + 5109) (by omega) (by omega) ?_
    exact kk _ _ _ _ _ _ _ _ _ H locs ls ⟨inv, hMd, rel, sep, hLc⟩ (lv_sub (l := [(3, .int (nI i)), (2, .ref m0), (1, .ref x), (0, .ref b)]) hl [0, 1, 2, 3] rfl)
  · skip
    have h : nb = 60 ∨ 300 < ib + n := by omega
    have hq : ¬ f_Mod_isIn a1 (-1) 1000000 = 0 := fun q => (a_in.mp q).elim h1 (lw_nlt h2)
    refine lv_aload_n hx hb d_law_342 rfl (lv_at hl 2 rfl) ?_
    refine lv_aload_n hx hb d_law_343 rfl (lv_at hl 3 rfl) ?_
    refine lv_iload_n hx hb d_law_344 rfl (lv_at hl 0 rfl) ?_
    refine lv_iconst (v := 1) hx hb d_law_345 (by decide) ?_
    refine lv_iadd hx hb d_law_346 ?_
    rw [show nI i + 1 = nI (i + 1) from nI_add i 1]
    refine va_sld hx hb hX hbl hbA hS (vp_in_nI (show i + 1 < L by omega) (by omega)) d_law_347 ?_
    rw [nI_clamp (show i + 1 < 2 ^ 31 by omega), e1]
    refine k_pure (r := .int (-2)) (W.runV (As := [.int a1]) (rest := []) ⟨hx, hb, hml, hown, hts⟩ (c_BG_pack_full l g H I M x n its nb bs ib inv a1 h1 h2 h3 hib h) (cwV 1 hts (kV_good kw_349 kw_346 kw_347 kw_348 kw_1) rfl rfl rfl (by decide +kernel) ⟨Nat.le_of_ble_eq_true rfl, Nat.le_of_ble_eq_true rfl⟩) (k_preV (KK_st g) hKK (inv.recv hK)) rfl rfl hl.1 rfl (lv_room (Nat.le_of_ble_eq_true rfl)) d_law_348 ⟨by show _ ≤ 600000; omega, by show _ ≤ 7302250; omega⟩) ?_
    refine lv_aload_n hx hb d_law_351 rfl (lv_at hl 1 rfl) ?_
    refine lv_aload_n hx hb d_law_352 rfl (lv_at hl 3 rfl) ?_
    refine lv_iload_n hx hb d_law_353 rfl (lv_at hl 0 rfl) ?_
    refine lv_iconst (v := 1) hx hb d_law_354 (by decide) ?_
    refine lv_iadd hx hb d_law_355 ?_
    rw [show nI i + 1 = nI (i + 1) from nI_add i 1]
    refine va_sld hx hb hX hbl hbA hS (vp_in_nI (show i + 1 < L by omega) (by omega)) d_law_356 ?_
    rw [nI_clamp (show i + 1 < 2 ^ 31 by omega), e1]
    refine k_pure (r := .int (-2)) (W.runV (As := [.int a1]) (rest := [.int (-2)]) ⟨hx, hb, hml, hown, hts⟩ (c_Mod_pack_full l g H m0 ad n ib nb F G hMd a1 hn40 hnb60 (an_mw rel) hq (fun q => (an_big rel).mpr (h3 q)) hib h) (cwV 1 hts (kV_good kw_705 kw_702 kw_703 kw_704 kw_5) rfl rfl rfl (by decide +kernel) ⟨Nat.le_of_ble_eq_true rfl, Nat.le_of_ble_eq_true rfl⟩) (k_preV (KK_st g) hKK (va_recv hK (k_one hMd.1) (ci := 10) (q0 := 0) rfl rfl)) rfl rfl hl.1 rfl (lv_room (Nat.le_of_ble_eq_true rfl)) d_law_357 ⟨by show _ ≤ 600000; omega, by show _ ≤ 7302250; omega⟩) ?_
    refine lv_icmp_eq (tgt := 517) hx hb d_law_360 (by decide) (fun c_1 => ?_) (fun c_1 => ?_)
    rotate_left
    · exact absurd c_1 (fun q => q rfl)
    refine W.widen (k := cells + 103) (n := slots + 5109) (by omega) (by omega) ?_
    exact kk _ _ _ _ _ _ _ _ _ H locs ls ⟨inv, hMd, rel, sep, hLc⟩ (lv_sub (l := [(3, .int (nI i)), (2, .ref m0), (1, .ref x), (0, .ref b)]) hl [0, 1, 2, 3] rfl)
  · skip
    have hq : ¬ f_Mod_isIn a1 (-1) 1000000 = 0 := fun q => (a_in.mp q).elim h1 (lw_nlt h2)
    have hz := an_pack rel h1 h2 h3
    have hp := a_pk h1 h2
    refine lv_aload_n hx hb d_law_342 rfl (lv_at hl 2 rfl) ?_
    refine lv_aload_n hx hb d_law_343 rfl (lv_at hl 3 rfl) ?_
    refine lv_iload_n hx hb d_law_344 rfl (lv_at hl 0 rfl) ?_
    refine lv_iconst (v := 1) hx hb d_law_345 (by decide) ?_
    refine lv_iadd hx hb d_law_346 ?_
    rw [show nI i + 1 = nI (i + 1) from nI_add i 1]
    refine va_sld hx hb hX hbl hbA hS (vp_in_nI (show i + 1 < L by omega) (by omega)) d_law_347 ?_
    rw [nI_clamp (show i + 1 < 2 ^ 31 by omega), e1]
    refine k_call (A := (fun q : Nat => s.heap.size ≤ q)) (W.runV (As := [.int a1]) (rest := []) ⟨hx, hb, hml, hown, hts⟩ (c_BG_pack_ok l g H I M x n its nb bs ib inv a1 h1 h2 h3 h60 h300) (cwV 1 hts (kV_good kw_349 kw_346 kw_347 kw_348 kw_1) rfl rfl rfl (by decide +kernel) ⟨Nat.le_of_ble_eq_true rfl, Nat.le_of_ble_eq_true rfl⟩) (k_preV (KK_st g) hKK (inv.recv hK)) rfl rfl hl.1 rfl (lv_room (Nat.le_of_ble_eq_true rfl)) d_law_348 ⟨by show _ ≤ 600000; omega, by show _ ≤ 7302250; omega⟩) hLc hfM (fun v H1 locs hv hLc => ?_)
    obtain ⟨rfl, hE, J, N, inv, hN, hJ⟩ := hv
    obtain ⟨hMd, sep⟩ := lw_cls hMd sep hE hN hJ
    have hS := lw_S hg inv hLc
    skip
    refine lv_aload_n hx hb d_law_351 rfl (lv_at hl 1 rfl) ?_
    refine lv_aload_n hx hb d_law_352 rfl (lv_at hl 3 rfl) ?_
    refine lv_iload_n hx hb d_law_353 rfl (lv_at hl 0 rfl) ?_
    refine lv_iconst (v := 1) hx hb d_law_354 (by decide) ?_
    refine lv_iadd hx hb d_law_355 ?_
    rw [show nI i + 1 = nI (i + 1) from nI_add i 1]
    refine va_sld hx hb hX hbl hbA hS (vp_in_nI (show i + 1 < L by omega) (by omega)) d_law_356 ?_
    rw [nI_clamp (show i + 1 < 2 ^ 31 by omega), e1]
    refine k_call (A := (fun q : Nat => s.heap.size ≤ q)) (W.runV (As := [.int a1]) (rest := [.int (nI nb)]) ⟨hx, hb, hml, hown, hts⟩ (c_Mod_pack_ok l g H1 m0 ad n ib nb F G hMd a1 hn40 hnb60 (an_mw rel) hq (fun q => (an_big rel).mpr (h3 q)) h60 h300 hz.1 hz.2) (cwV 1 hts (kV_good kw_705 kw_702 kw_703 kw_704 kw_5) rfl rfl rfl (by decide +kernel) ⟨Nat.le_of_ble_eq_true rfl, Nat.le_of_ble_eq_true rfl⟩) (k_preV (KK_st g) hKK (va_recv hK (k_one hMd.1) (ci := 10) (q0 := 0) rfl rfl)) rfl rfl hl.1 rfl (lv_room (Nat.le_of_ble_eq_true rfl)) d_law_357 ⟨by show _ ≤ 600000; omega, by show _ ≤ 7302250; omega⟩) hLc (fun q h => (sep q h).2.2.1) (fun v H2 locs hv hLc => ?_)
    obtain ⟨rfl, hE2, F1, G1, hMd, hP⟩ := hv
    obtain ⟨inv, sep⟩ := lw_ref hg inv sep hE2
    refine lv_icmp_eq (tgt := 517) hx hb d_law_360 (by decide) (fun c_1 => ?_) (fun c_1 => ?_)
    rotate_left
    · exact absurd c_1 (fun q => q rfl)
    refine W.widen (k := cells + 103) (n := slots + 5109) (by omega) (by omega) ?_
    exact kk _ _ _ _ _ _ _ _ _ H2 locs ls ⟨inv, hMd, rel_pack rel h60 h300 hp.1 hp.2 (fun q => Int32.le_iff_toInt_le.mp (h3 q)) hP, sep, hLc⟩ (lv_sub (l := [(3, .int (nI i)), (2, .ref m0), (1, .ref x), (0, .ref b)]) hl [0, 1, 2, 3] rfl)
set_option maxHeartbeats 4000000 in
set_option maxRecDepth 100000 in
theorem lw_unpack {p : Program} {l : Launch} {e : Env} {s : State} {m : MethodId} {below : List Frame} {meth : Method} {c : Code} {b L : Nat} {xs : Nat → Int32} {g : KGt} {x m0 : Nat} {ad : Nat → Nat} (C0 : lw_At p s m meth c b L xs) (hKK : KK g s) (hg : g.2.2.1 = s.heap) {I M : Nat → Prop} {n : Nat} {its : Nat → Nat → Int32} {nb : Nat} {bs : Nat → BxT} {ib : Nat} {F : Nat → Nat → Int32} {G : Nat → Nat → Int64} {H : Heap} {locs : List Loc} (hI : lw_I g s x m0 ad I M n its nb bs ib F G H locs) {i cells slots : Nat} (hL3 : L ≤ 3072) (hi : i + 6 ≤ L) (hce : cells + 103 ≤ 600000) (hsl : slots + 5109 ≤ 7302250) {ls : Array Slot} (hl : lv_has ls 4 [(3, .int (nI i)), (2, .ref m0), (1, .ref x), (0, .ref b)]) (kk : (∀ (I M : Nat → Prop) (n : Nat) (its : Nat → Nat → Int32) (nb : Nat) (bs : Nat → BxT) (ib : Nat) (F : Nat → Nat → Int32) (G : Nat → Nat → Int64) (H : Heap) (locs : List Loc) (ls : Array Slot), lw_I g s x m0 ad I M n its nb bs ib F G H locs → lv_has ls 4 [(3, .int (nI i)), (2, .ref m0), (1, .ref x), (0, .ref b)] → W p l e room_1 s m #[Value.ref b] below meth c H locs (cells + 103) (slots + 5109) (lw_Z below #[Value.ref b] s) (F0 m 517 ls []))) : W p l e room_1 s m #[Value.ref b] below meth c H locs cells slots (lw_Z below #[Value.ref b] s) (F0 m 365 ls []) := by
  obtain ⟨hx, hb, hr, hml, hown, hts0, hX, hbl, hlocks, hgv⟩ := id C0
  have hts : ∀ w ∈ kG, w.before #[Value.ref b] s = true := fun w hw => hts0 w (kG_in hw)
  have hown : s.vm.findClass "BoxGlueLaw" = some m.cls := hown
  have hK := hKK.1
  obtain ⟨inv, hMd, rel, sep, hLc⟩ := hI
  have hbA : ¬ (fun q : Nat => s.heap.size ≤ q) b := Nat.not_le.mpr hbl
  have hS := lw_S hg inv hLc
  have hn40 := rel.1
  have hnb60 := rel.2.1
  have hib := rel.2.2.1
  have hfM := lw_fM hg inv
  obtain ⟨a1, e1⟩ : ∃ a, xs (i + 1) = a := ⟨_, rfl⟩
  rcases lw_c_un hnb60 (fun k => n + (bs k).2.1) a1 with h | ⟨k, hk, rfl, h | h⟩
  · skip
    refine lv_aload_n hx hb d_law_365 rfl (lv_at hl 2 rfl) ?_
    refine lv_aload_n hx hb d_law_366 rfl (lv_at hl 3 rfl) ?_
    refine lv_iload_n hx hb d_law_367 rfl (lv_at hl 0 rfl) ?_
    refine lv_iconst (v := 1) hx hb d_law_368 (by decide) ?_
    refine lv_iadd hx hb d_law_369 ?_
    rw [show nI i + 1 = nI (i + 1) from nI_add i 1]
    refine va_sld hx hb hX hbl hbA hS (vp_in_nI (show i + 1 < L by omega) (by omega)) d_law_370 ?_
    rw [nI_clamp (show i + 1 < 2 ^ 31 by omega), e1]
    refine k_pure (r := .int (-1)) (W.runV (As := [.int a1]) (rest := []) ⟨hx, hb, hml, hown, hts⟩ (c_BG_unpack_bad l g H I M x n its nb bs ib inv a1 h) (cwV 1 hts (kV_good kw_457 kw_454 kw_455 kw_456 kw_1) rfl rfl rfl (by decide +kernel) ⟨Nat.le_of_ble_eq_true rfl, Nat.le_of_ble_eq_true rfl⟩) (k_preV (KK_st g) hKK (inv.recv hK)) rfl rfl hl.1 rfl (lv_room (Nat.le_of_ble_eq_true rfl)) d_law_371 ⟨by show _ ≤ 600000; omega, by show _ ≤ 7302250; omega⟩) ?_
    refine lv_aload_n hx hb d_law_374 rfl (lv_at hl 1 rfl) ?_
    refine lv_aload_n hx hb d_law_375 rfl (lv_at hl 3 rfl) ?_
    refine lv_iload_n hx hb d_law_376 rfl (lv_at hl 0 rfl) ?_
    refine lv_iconst (v := 1) hx hb d_law_377 (by decide) ?_
    refine lv_iadd hx hb d_law_378 ?_
    rw [show nI i + 1 = nI (i + 1) from nI_add i 1]
    refine va_sld hx hb hX hbl hbA hS (vp_in_nI (show i + 1 < L by omega) (by omega)) d_law_379 ?_
    rw [nI_clamp (show i + 1 < 2 ^ 31 by omega), e1]
    refine k_pure (r := .int (-1)) (W.runV (As := [.int a1]) (rest := [.int (-1)]) ⟨hx, hb, hml, hown, hts⟩ (c_Mod_unpack_bad l g H m0 ad n ib nb F G hMd a1 h) (cwV 1 hts (kV_good kw_738 kw_735 kw_736 kw_737 kw_5) rfl rfl rfl (by decide +kernel) ⟨Nat.le_of_ble_eq_true rfl, Nat.le_of_ble_eq_true rfl⟩) (k_preV (KK_st g) hKK (va_recv hK (k_one hMd.1) (ci := 10) (q0 := 0) rfl rfl)) rfl rfl hl.1 rfl (lv_room (Nat.le_of_ble_eq_true rfl)) d_law_380 ⟨by show _ ≤ 600000; omega, by show _ ≤ 7302250; omega⟩) ?_
    refine lv_icmp_eq (tgt := 517) hx hb d_law_383 (by decide) (fun c_1 => ?_) (fun c_1 => ?_)
    rotate_left
    · exact absurd c_1 (fun q => q rfl)
    refine W.widen (k := cells + 103) (n := slots + 5109) (by omega) (by omega) ?_
    exact kk _ _ _ _ _ _ _ _ _ H locs ls ⟨inv, hMd, rel, sep, hLc⟩ (lv_sub (l := [(3, .int (nI i)), (2, .ref m0), (1, .ref x), (0, .ref b)]) hl [0, 1, 2, 3] rfl)
  · skip
    obtain ⟨-, -, -, -, hcn, hc40, -, -, -, -, -, fr, hfr, hf40, hf3, -⟩ := id (rel.2.2.2.2.1 k hk)
    refine lv_aload_n hx hb d_law_365 rfl (lv_at hl 2 rfl) ?_
    refine lv_aload_n hx hb d_law_366 rfl (lv_at hl 3 rfl) ?_
    refine lv_iload_n hx hb d_law_367 rfl (lv_at hl 0 rfl) ?_
    refine lv_iconst (v := 1) hx hb d_law_368 (by decide) ?_
    refine lv_iadd hx hb d_law_369 ?_
    rw [show nI i + 1 = nI (i + 1) from nI_add i 1]
    refine va_sld hx hb hX hbl hbA hS (vp_in_nI (show i + 1 < L by omega) (by omega)) d_law_370 ?_
    rw [nI_clamp (show i + 1 < 2 ^ 31 by omega), e1]
    refine k_pure (r := .int (-2)) (W.runV (As := [.int (nI k)]) (rest := []) ⟨hx, hb, hml, hown, hts⟩ (c_BG_unpack_full l g H I M x n its nb bs ib inv k hk h) (cwV 1 hts (kV_good kw_457 kw_454 kw_455 kw_456 kw_1) rfl rfl rfl (by decide +kernel) ⟨Nat.le_of_ble_eq_true rfl, Nat.le_of_ble_eq_true rfl⟩) (k_preV (KK_st g) hKK (inv.recv hK)) rfl rfl hl.1 rfl (lv_room (Nat.le_of_ble_eq_true rfl)) d_law_371 ⟨by show _ ≤ 600000; omega, by show _ ≤ 7302250; omega⟩) ?_
    refine lv_aload_n hx hb d_law_374 rfl (lv_at hl 1 rfl) ?_
    refine lv_aload_n hx hb d_law_375 rfl (lv_at hl 3 rfl) ?_
    refine lv_iload_n hx hb d_law_376 rfl (lv_at hl 0 rfl) ?_
    refine lv_iconst (v := 1) hx hb d_law_377 (by decide) ?_
    refine lv_iadd hx hb d_law_378 ?_
    rw [show nI i + 1 = nI (i + 1) from nI_add i 1]
    refine va_sld hx hb hX hbl hbA hS (vp_in_nI (show i + 1 < L by omega) (by omega)) d_law_379 ?_
    rw [nI_clamp (show i + 1 < 2 ^ 31 by omega), e1]
    refine k_pure (r := .int (-2)) (W.runV (As := [.int (nI k)]) (rest := [.int (-2)]) ⟨hx, hb, hml, hown, hts⟩ (c_Mod_unpack_full l g H m0 ad n ib nb F G hMd k hk hnb60 (bs k).2.1 hcn (by omega) hn40 h) (cwV 1 hts (kV_good kw_738 kw_735 kw_736 kw_737 kw_5) rfl rfl rfl (by decide +kernel) ⟨Nat.le_of_ble_eq_true rfl, Nat.le_of_ble_eq_true rfl⟩) (k_preV (KK_st g) hKK (va_recv hK (k_one hMd.1) (ci := 10) (q0 := 0) rfl rfl)) rfl rfl hl.1 rfl (lv_room (Nat.le_of_ble_eq_true rfl)) d_law_380 ⟨by show _ ≤ 600000; omega, by show _ ≤ 7302250; omega⟩) ?_
    refine lv_icmp_eq (tgt := 517) hx hb d_law_383 (by decide) (fun c_1 => ?_) (fun c_1 => ?_)
    rotate_left
    · exact absurd c_1 (fun q => q rfl)
    refine W.widen (k := cells + 103) (n := slots + 5109) (by omega) (by omega) ?_
    exact kk _ _ _ _ _ _ _ _ _ H locs ls ⟨inv, hMd, rel, sep, hLc⟩ (lv_sub (l := [(3, .int (nI i)), (2, .ref m0), (1, .ref x), (0, .ref b)]) hl [0, 1, 2, 3] rfl)
  · skip
    obtain ⟨-, -, -, -, hcn, hc40, -, -, -, -, -, fr, hfr, hf40, hf3, -⟩ := id (rel.2.2.2.2.1 k hk)
    refine lv_aload_n hx hb d_law_365 rfl (lv_at hl 2 rfl) ?_
    refine lv_aload_n hx hb d_law_366 rfl (lv_at hl 3 rfl) ?_
    refine lv_iload_n hx hb d_law_367 rfl (lv_at hl 0 rfl) ?_
    refine lv_iconst (v := 1) hx hb d_law_368 (by decide) ?_
    refine lv_iadd hx hb d_law_369 ?_
    rw [show nI i + 1 = nI (i + 1) from nI_add i 1]
    refine va_sld hx hb hX hbl hbA hS (vp_in_nI (show i + 1 < L by omega) (by omega)) d_law_370 ?_
    rw [nI_clamp (show i + 1 < 2 ^ 31 by omega), e1]
    refine k_call (A := (fun q : Nat => s.heap.size ≤ q)) (W.runV (As := [.int (nI k)]) (rest := []) ⟨hx, hb, hml, hown, hts⟩ (c_BG_unpack_ok l g H I M x n its nb bs ib inv k hk h) (cwV 1 hts (kV_good kw_457 kw_454 kw_455 kw_456 kw_1) rfl rfl rfl (by decide +kernel) ⟨Nat.le_of_ble_eq_true rfl, Nat.le_of_ble_eq_true rfl⟩) (k_preV (KK_st g) hKK (inv.recv hK)) rfl rfl hl.1 rfl (lv_room (Nat.le_of_ble_eq_true rfl)) d_law_371 ⟨by show _ ≤ 600000; omega, by show _ ≤ 7302250; omega⟩) hLc hfM (fun v H1 locs hv hLc => ?_)
    obtain ⟨rfl, hE, J, N, inv, hN, hJ⟩ := hv
    obtain ⟨hMd, sep⟩ := lw_cls hMd sep hE hN hJ
    have hS := lw_S hg inv hLc
    skip
    refine lv_aload_n hx hb d_law_374 rfl (lv_at hl 1 rfl) ?_
    refine lv_aload_n hx hb d_law_375 rfl (lv_at hl 3 rfl) ?_
    refine lv_iload_n hx hb d_law_376 rfl (lv_at hl 0 rfl) ?_
    refine lv_iconst (v := 1) hx hb d_law_377 (by decide) ?_
    refine lv_iadd hx hb d_law_378 ?_
    rw [show nI i + 1 = nI (i + 1) from nI_add i 1]
    refine va_sld hx hb hX hbl hbA hS (vp_in_nI (show i + 1 < L by omega) (by omega)) d_law_379 ?_
    rw [nI_clamp (show i + 1 < 2 ^ 31 by omega), e1]
    refine k_call (A := (fun q : Nat => s.heap.size ≤ q)) (W.runV (As := [.int (nI k)]) (rest := [.int (nI (n + (bs k).2.1))]) ⟨hx, hb, hml, hown, hts⟩ (c_Mod_unpack_ok l g H1 m0 ad n ib nb F G hMd k hk hnb60 (bs k).2.1 hcn h fr hfr hf40 (by omega)) (cwV 1 hts (kV_good kw_738 kw_735 kw_736 kw_737 kw_5) rfl rfl rfl (by decide +kernel) ⟨Nat.le_of_ble_eq_true rfl, Nat.le_of_ble_eq_true rfl⟩) (k_preV (KK_st g) hKK (va_recv hK (k_one hMd.1) (ci := 10) (q0 := 0) rfl rfl)) rfl rfl hl.1 rfl (lv_room (Nat.le_of_ble_eq_true rfl)) d_law_380 ⟨by show _ ≤ 600000; omega, by show _ ≤ 7302250; omega⟩) hLc (fun q h => (sep q h).2.2.1) (fun v H2 locs hv hLc => ?_)
    obtain ⟨rfl, hE2, hMd⟩ := hv
    obtain ⟨inv, sep⟩ := lw_ref hg inv sep hE2
    refine lv_icmp_eq (tgt := 517) hx hb d_law_383 (by decide) (fun c_1 => ?_) (fun c_1 => ?_)
    rotate_left
    · exact absurd c_1 (fun q => q rfl)
    refine W.widen (k := cells + 103) (n := slots + 5109) (by omega) (by omega) ?_
    exact kk _ _ _ _ _ _ _ _ _ H2 locs ls ⟨inv, hMd, rel_unpack rel hk hfr (by omega) h, sep, hLc⟩ (lv_sub (l := [(3, .int (nI i)), (2, .ref m0), (1, .ref x), (0, .ref b)]) hl [0, 1, 2, 3] rfl)
set_option maxHeartbeats 4000000 in
set_option maxRecDepth 100000 in
theorem lw_told {p : Program} {l : Launch} {e : Env} {s : State} {m : MethodId} {below : List Frame} {meth : Method} {c : Code} {b L : Nat} {xs : Nat → Int32} {g : KGt} {x m0 : Nat} {ad : Nat → Nat} (C0 : lw_At p s m meth c b L xs) (hKK : KK g s) (hg : g.2.2.1 = s.heap) {I M : Nat → Prop} {n : Nat} {its : Nat → Nat → Int32} {nb : Nat} {bs : Nat → BxT} {ib : Nat} {F : Nat → Nat → Int32} {G : Nat → Nat → Int64} {H : Heap} {locs : List Loc} (hI : lw_I g s x m0 ad I M n its nb bs ib F G H locs) {i cells slots : Nat} (hL3 : L ≤ 3072) (hi : i + 6 ≤ L) (hce : cells + 103 ≤ 600000) (hsl : slots + 5109 ≤ 7302250) {ls : Array Slot} (hl : lv_has ls 4 [(3, .int (nI i)), (2, .ref m0), (1, .ref x), (0, .ref b)]) (kk : (∀ (I M : Nat → Prop) (n : Nat) (its : Nat → Nat → Int32) (nb : Nat) (bs : Nat → BxT) (ib : Nat) (F : Nat → Nat → Int32) (G : Nat → Nat → Int64) (H : Heap) (locs : List Loc) (ls : Array Slot), lw_I g s x m0 ad I M n its nb bs ib F G H locs → lv_has ls 4 [(3, .int (nI i)), (2, .ref m0), (1, .ref x), (0, .ref b)] → W p l e room_1 s m #[Value.ref b] below meth c H locs (cells + 103) (slots + 5109) (lw_Z below #[Value.ref b] s) (F0 m 517 ls []))) : W p l e room_1 s m #[Value.ref b] below meth c H locs cells slots (lw_Z below #[Value.ref b] s) (F0 m 388 ls []) := by
  obtain ⟨hx, hb, hr, hml, hown, hts0, hX, hbl, hlocks, hgv⟩ := id C0
  have hts : ∀ w ∈ kG, w.before #[Value.ref b] s = true := fun w hw => hts0 w (kG_in hw)
  have hown : s.vm.findClass "BoxGlueLaw" = some m.cls := hown
  have hK := hKK.1
  obtain ⟨inv, hMd, rel, sep, hLc⟩ := hI
  have hbA : ¬ (fun q : Nat => s.heap.size ≤ q) b := Nat.not_le.mpr hbl
  have hS := lw_S hg inv hLc
  have hn40 := rel.1
  have hnb60 := rel.2.1
  have hib := rel.2.2.1
  have hfM := lw_fM hg inv
  obtain ⟨a1, e1⟩ : ∃ a, xs (i + 1) = a := ⟨_, rfl⟩
  obtain ⟨a2, e2⟩ : ∃ a, xs (i + 2) = a := ⟨_, rfl⟩
  rcases lw_c_told hnb60 a1 a2 with h | ⟨k, hk, rfl, h | h⟩
  · skip
    refine lv_aload_n hx hb d_law_388 rfl (lv_at hl 2 rfl) ?_
    refine lv_aload_n hx hb d_law_389 rfl (lv_at hl 3 rfl) ?_
    refine lv_iload_n hx hb d_law_390 rfl (lv_at hl 0 rfl) ?_
    refine lv_iconst (v := 1) hx hb d_law_391 (by decide) ?_
    refine lv_iadd hx hb d_law_392 ?_
    rw [show nI i + 1 = nI (i + 1) from nI_add i 1]
    refine va_sld hx hb hX hbl hbA hS (vp_in_nI (show i + 1 < L by omega) (by omega)) d_law_393 ?_
    rw [nI_clamp (show i + 1 < 2 ^ 31 by omega), e1]
    refine lv_aload_n hx hb d_law_394 rfl (lv_at hl 3 rfl) ?_
    refine lv_iload_n hx hb d_law_395 rfl (lv_at hl 0 rfl) ?_
    refine lv_iconst (v := 2) hx hb d_law_396 (by decide) ?_
    refine lv_iadd hx hb d_law_397 ?_
    rw [show nI i + 2 = nI (i + 2) from nI_add i 2]
    refine va_sld hx hb hX hbl hbA hS (vp_in_nI (show i + 2 < L by omega) (by omega)) d_law_398 ?_
    rw [nI_clamp (show i + 2 < 2 ^ 31 by omega), e2]
    refine k_pure (r := .int (-1)) (W.runV (As := [.int a1, .int a2]) (rest := []) ⟨hx, hb, hml, hown, hts⟩ (c_BG_told_bad l g H I M x n its nb bs ib inv a1 a2 h) (cwV 2 hts (kV_good kw_462 kw_459 kw_460 kw_461 kw_1) rfl rfl rfl (by decide +kernel) ⟨Nat.le_of_ble_eq_true rfl, Nat.le_of_ble_eq_true rfl⟩) (k_preV (KK_st g) hKK (inv.recv hK)) rfl rfl hl.1 rfl (lv_room (Nat.le_of_ble_eq_true rfl)) d_law_399 ⟨by show _ ≤ 600000; omega, by show _ ≤ 7302250; omega⟩) ?_
    refine lv_aload_n hx hb d_law_402 rfl (lv_at hl 1 rfl) ?_
    refine lv_aload_n hx hb d_law_403 rfl (lv_at hl 3 rfl) ?_
    refine lv_iload_n hx hb d_law_404 rfl (lv_at hl 0 rfl) ?_
    refine lv_iconst (v := 1) hx hb d_law_405 (by decide) ?_
    refine lv_iadd hx hb d_law_406 ?_
    rw [show nI i + 1 = nI (i + 1) from nI_add i 1]
    refine va_sld hx hb hX hbl hbA hS (vp_in_nI (show i + 1 < L by omega) (by omega)) d_law_407 ?_
    rw [nI_clamp (show i + 1 < 2 ^ 31 by omega), e1]
    refine lv_aload_n hx hb d_law_408 rfl (lv_at hl 3 rfl) ?_
    refine lv_iload_n hx hb d_law_409 rfl (lv_at hl 0 rfl) ?_
    refine lv_iconst (v := 2) hx hb d_law_410 (by decide) ?_
    refine lv_iadd hx hb d_law_411 ?_
    rw [show nI i + 2 = nI (i + 2) from nI_add i 2]
    refine va_sld hx hb hX hbl hbA hS (vp_in_nI (show i + 2 < L by omega) (by omega)) d_law_412 ?_
    rw [nI_clamp (show i + 2 < 2 ^ 31 by omega), e2]
    refine k_pure (r := .int (-1)) (W.runV (As := [.int a1, .int a2]) (rest := [.int (-1)]) ⟨hx, hb, hml, hown, hts⟩ (c_Mod_told_bad1 l g H m0 ad n ib nb F G hMd a1 a2 h) (cwV 2 hts (kV_good kw_742 kw_739 kw_740 kw_741 kw_5) rfl rfl rfl (by decide +kernel) ⟨Nat.le_of_ble_eq_true rfl, Nat.le_of_ble_eq_true rfl⟩) (k_preV (KK_st g) hKK (va_recv hK (k_one hMd.1) (ci := 10) (q0 := 0) rfl rfl)) rfl rfl hl.1 rfl (lv_room (Nat.le_of_ble_eq_true rfl)) d_law_413 ⟨by show _ ≤ 600000; omega, by show _ ≤ 7302250; omega⟩) ?_
    refine lv_icmp_eq (tgt := 517) hx hb d_law_416 (by decide) (fun c_1 => ?_) (fun c_1 => ?_)
    rotate_left
    · exact absurd c_1 (fun q => q rfl)
    refine W.widen (k := cells + 103) (n := slots + 5109) (by omega) (by omega) ?_
    exact kk _ _ _ _ _ _ _ _ _ H locs ls ⟨inv, hMd, rel, sep, hLc⟩ (lv_sub (l := [(3, .int (nI i)), (2, .ref m0), (1, .ref x), (0, .ref b)]) hl [0, 1, 2, 3] rfl)
  · skip
    obtain ⟨t1, t2, t3⟩ := an_told (p1 := a2) rel hk
    refine lv_aload_n hx hb d_law_388 rfl (lv_at hl 2 rfl) ?_
    refine lv_aload_n hx hb d_law_389 rfl (lv_at hl 3 rfl) ?_
    refine lv_iload_n hx hb d_law_390 rfl (lv_at hl 0 rfl) ?_
    refine lv_iconst (v := 1) hx hb d_law_391 (by decide) ?_
    refine lv_iadd hx hb d_law_392 ?_
    rw [show nI i + 1 = nI (i + 1) from nI_add i 1]
    refine va_sld hx hb hX hbl hbA hS (vp_in_nI (show i + 1 < L by omega) (by omega)) d_law_393 ?_
    rw [nI_clamp (show i + 1 < 2 ^ 31 by omega), e1]
    refine lv_aload_n hx hb d_law_394 rfl (lv_at hl 3 rfl) ?_
    refine lv_iload_n hx hb d_law_395 rfl (lv_at hl 0 rfl) ?_
    refine lv_iconst (v := 2) hx hb d_law_396 (by decide) ?_
    refine lv_iadd hx hb d_law_397 ?_
    rw [show nI i + 2 = nI (i + 2) from nI_add i 2]
    refine va_sld hx hb hX hbl hbA hS (vp_in_nI (show i + 2 < L by omega) (by omega)) d_law_398 ?_
    rw [nI_clamp (show i + 2 < 2 ^ 31 by omega), e2]
    refine k_pure (r := .int (b_told (bs k) a2)) (W.runV (As := [.int (nI k), .int a2]) (rest := []) ⟨hx, hb, hml, hown, hts⟩ (c_BG_told_ok l g H I M x n its nb bs ib inv a2 k hk t3) (cwV 2 hts (kV_good kw_462 kw_459 kw_460 kw_461 kw_1) rfl rfl rfl (by decide +kernel) ⟨Nat.le_of_ble_eq_true rfl, Nat.le_of_ble_eq_true rfl⟩) (k_preV (KK_st g) hKK (inv.recv hK)) rfl rfl hl.1 rfl (lv_room (Nat.le_of_ble_eq_true rfl)) d_law_399 ⟨by show _ ≤ 600000; omega, by show _ ≤ 7302250; omega⟩) ?_
    rw [t1 h]
    refine lv_aload_n hx hb d_law_402 rfl (lv_at hl 1 rfl) ?_
    refine lv_aload_n hx hb d_law_403 rfl (lv_at hl 3 rfl) ?_
    refine lv_iload_n hx hb d_law_404 rfl (lv_at hl 0 rfl) ?_
    refine lv_iconst (v := 1) hx hb d_law_405 (by decide) ?_
    refine lv_iadd hx hb d_law_406 ?_
    rw [show nI i + 1 = nI (i + 1) from nI_add i 1]
    refine va_sld hx hb hX hbl hbA hS (vp_in_nI (show i + 1 < L by omega) (by omega)) d_law_407 ?_
    rw [nI_clamp (show i + 1 < 2 ^ 31 by omega), e1]
    refine lv_aload_n hx hb d_law_408 rfl (lv_at hl 3 rfl) ?_
    refine lv_iload_n hx hb d_law_409 rfl (lv_at hl 0 rfl) ?_
    refine lv_iconst (v := 2) hx hb d_law_410 (by decide) ?_
    refine lv_iadd hx hb d_law_411 ?_
    rw [show nI i + 2 = nI (i + 2) from nI_add i 2]
    refine va_sld hx hb hX hbl hbA hS (vp_in_nI (show i + 2 < L by omega) (by omega)) d_law_412 ?_
    rw [nI_clamp (show i + 2 < 2 ^ 31 by omega), e2]
    refine k_pure (r := .int (-1)) (W.runV (As := [.int (nI k), .int a2]) (rest := [.int (-1)]) ⟨hx, hb, hml, hown, hts⟩ (c_Mod_told_bad2 l g H m0 ad n ib nb F G hMd a2 k hk hnb60 h) (cwV 2 hts (kV_good kw_742 kw_739 kw_740 kw_741 kw_5) rfl rfl rfl (by decide +kernel) ⟨Nat.le_of_ble_eq_true rfl, Nat.le_of_ble_eq_true rfl⟩) (k_preV (KK_st g) hKK (va_recv hK (k_one hMd.1) (ci := 10) (q0 := 0) rfl rfl)) rfl rfl hl.1 rfl (lv_room (Nat.le_of_ble_eq_true rfl)) d_law_413 ⟨by show _ ≤ 600000; omega, by show _ ≤ 7302250; omega⟩) ?_
    refine lv_icmp_eq (tgt := 517) hx hb d_law_416 (by decide) (fun c_1 => ?_) (fun c_1 => ?_)
    rotate_left
    · exact absurd c_1 (fun q => q rfl)
    refine W.widen (k := cells + 103) (n := slots + 5109) (by omega) (by omega) ?_
    exact kk _ _ _ _ _ _ _ _ _ H locs ls ⟨inv, hMd, rel, sep, hLc⟩ (lv_sub (l := [(3, .int (nI i)), (2, .ref m0), (1, .ref x), (0, .ref b)]) hl [0, 1, 2, 3] rfl)
  · skip
    obtain ⟨t1, t2, t3⟩ := an_told (p1 := a2) rel hk
    refine lv_aload_n hx hb d_law_388 rfl (lv_at hl 2 rfl) ?_
    refine lv_aload_n hx hb d_law_389 rfl (lv_at hl 3 rfl) ?_
    refine lv_iload_n hx hb d_law_390 rfl (lv_at hl 0 rfl) ?_
    refine lv_iconst (v := 1) hx hb d_law_391 (by decide) ?_
    refine lv_iadd hx hb d_law_392 ?_
    rw [show nI i + 1 = nI (i + 1) from nI_add i 1]
    refine va_sld hx hb hX hbl hbA hS (vp_in_nI (show i + 1 < L by omega) (by omega)) d_law_393 ?_
    rw [nI_clamp (show i + 1 < 2 ^ 31 by omega), e1]
    refine lv_aload_n hx hb d_law_394 rfl (lv_at hl 3 rfl) ?_
    refine lv_iload_n hx hb d_law_395 rfl (lv_at hl 0 rfl) ?_
    refine lv_iconst (v := 2) hx hb d_law_396 (by decide) ?_
    refine lv_iadd hx hb d_law_397 ?_
    rw [show nI i + 2 = nI (i + 2) from nI_add i 2]
    refine va_sld hx hb hX hbl hbA hS (vp_in_nI (show i + 2 < L by omega) (by omega)) d_law_398 ?_
    rw [nI_clamp (show i + 2 < 2 ^ 31 by omega), e2]
    refine k_pure (r := .int (b_told (bs k) a2)) (W.runV (As := [.int (nI k), .int a2]) (rest := []) ⟨hx, hb, hml, hown, hts⟩ (c_BG_told_ok l g H I M x n its nb bs ib inv a2 k hk t3) (cwV 2 hts (kV_good kw_462 kw_459 kw_460 kw_461 kw_1) rfl rfl rfl (by decide +kernel) ⟨Nat.le_of_ble_eq_true rfl, Nat.le_of_ble_eq_true rfl⟩) (k_preV (KK_st g) hKK (inv.recv hK)) rfl rfl hl.1 rfl (lv_room (Nat.le_of_ble_eq_true rfl)) d_law_399 ⟨by show _ ≤ 600000; omega, by show _ ≤ 7302250; omega⟩) ?_
    rw [t2 h]
    refine lv_aload_n hx hb d_law_402 rfl (lv_at hl 1 rfl) ?_
    refine lv_aload_n hx hb d_law_403 rfl (lv_at hl 3 rfl) ?_
    refine lv_iload_n hx hb d_law_404 rfl (lv_at hl 0 rfl) ?_
    refine lv_iconst (v := 1) hx hb d_law_405 (by decide) ?_
    refine lv_iadd hx hb d_law_406 ?_
    rw [show nI i + 1 = nI (i + 1) from nI_add i 1]
    refine va_sld hx hb hX hbl hbA hS (vp_in_nI (show i + 1 < L by omega) (by omega)) d_law_407 ?_
    rw [nI_clamp (show i + 1 < 2 ^ 31 by omega), e1]
    refine lv_aload_n hx hb d_law_408 rfl (lv_at hl 3 rfl) ?_
    refine lv_iload_n hx hb d_law_409 rfl (lv_at hl 0 rfl) ?_
    refine lv_iconst (v := 2) hx hb d_law_410 (by decide) ?_
    refine lv_iadd hx hb d_law_411 ?_
    rw [show nI i + 2 = nI (i + 2) from nI_add i 2]
    refine va_sld hx hb hX hbl hbA hS (vp_in_nI (show i + 2 < L by omega) (by omega)) d_law_412 ?_
    rw [nI_clamp (show i + 2 < 2 ^ 31 by omega), e2]
    refine k_pure (r := .int (md_told F k a2)) (W.runV (As := [.int (nI k), .int a2]) (rest := [.int (md_told F k a2)]) ⟨hx, hb, hml, hown, hts⟩ (c_Mod_told_ok l g H m0 ad n ib nb F G hMd a2 k hk hnb60 h) (cwV 2 hts (kV_good kw_742 kw_739 kw_740 kw_741 kw_5) rfl rfl rfl (by decide +kernel) ⟨Nat.le_of_ble_eq_true rfl, Nat.le_of_ble_eq_true rfl⟩) (k_preV (KK_st g) hKK (va_recv hK (k_one hMd.1) (ci := 10) (q0 := 0) rfl rfl)) rfl rfl hl.1 rfl (lv_room (Nat.le_of_ble_eq_true rfl)) d_law_413 ⟨by show _ ≤ 600000; omega, by show _ ≤ 7302250; omega⟩) ?_
    refine lv_icmp_eq (tgt := 517) hx hb d_law_416 (by decide) (fun c_1 => ?_) (fun c_1 => ?_)
    rotate_left
    · exact absurd c_1 (fun q => q rfl)
    refine W.widen (k := cells + 103) (n := slots + 5109) (by omega) (by omega) ?_
    exact kk _ _ _ _ _ _ _ _ _ H locs ls ⟨inv, hMd, rel, sep, hLc⟩ (lv_sub (l := [(3, .int (nI i)), (2, .ref m0), (1, .ref x), (0, .ref b)]) hl [0, 1, 2, 3] rfl)
set_option maxHeartbeats 4000000 in
set_option maxRecDepth 100000 in
theorem lw_item {p : Program} {l : Launch} {e : Env} {s : State} {m : MethodId} {below : List Frame} {meth : Method} {c : Code} {b L : Nat} {xs : Nat → Int32} {g : KGt} {x m0 : Nat} {ad : Nat → Nat} (C0 : lw_At p s m meth c b L xs) (hKK : KK g s) (hg : g.2.2.1 = s.heap) {I M : Nat → Prop} {n : Nat} {its : Nat → Nat → Int32} {nb : Nat} {bs : Nat → BxT} {ib : Nat} {F : Nat → Nat → Int32} {G : Nat → Nat → Int64} {H : Heap} {locs : List Loc} (hI : lw_I g s x m0 ad I M n its nb bs ib F G H locs) {i cells slots : Nat} (hL3 : L ≤ 3072) (hi : i + 6 ≤ L) (hce : cells + 103 ≤ 600000) (hsl : slots + 5109 ≤ 7302250) {ls : Array Slot} (hl : lv_has ls 4 [(3, .int (nI i)), (2, .ref m0), (1, .ref x), (0, .ref b)]) (kk : (∀ (I M : Nat → Prop) (n : Nat) (its : Nat → Nat → Int32) (nb : Nat) (bs : Nat → BxT) (ib : Nat) (F : Nat → Nat → Int32) (G : Nat → Nat → Int64) (H : Heap) (locs : List Loc) (ls : Array Slot), lw_I g s x m0 ad I M n its nb bs ib F G H locs → lv_has ls 4 [(3, .int (nI i)), (2, .ref m0), (1, .ref x), (0, .ref b)] → W p l e room_1 s m #[Value.ref b] below meth c H locs (cells + 103) (slots + 5109) (lw_Z below #[Value.ref b] s) (F0 m 517 ls []))) : W p l e room_1 s m #[Value.ref b] below meth c H locs cells slots (lw_Z below #[Value.ref b] s) (F0 m 421 ls []) := by
  obtain ⟨hx, hb, hr, hml, hown, hts0, hX, hbl, hlocks, hgv⟩ := id C0
  have hts : ∀ w ∈ kG, w.before #[Value.ref b] s = true := fun w hw => hts0 w (kG_in hw)
  have hown : s.vm.findClass "BoxGlueLaw" = some m.cls := hown
  have hK := hKK.1
  obtain ⟨inv, hMd, rel, sep, hLc⟩ := hI
  have hbA : ¬ (fun q : Nat => s.heap.size ≤ q) b := Nat.not_le.mpr hbl
  have hS := lw_S hg inv hLc
  have hn40 := rel.1
  have hnb60 := rel.2.1
  have hib := rel.2.2.1
  have hfM := lw_fM hg inv
  obtain ⟨a1, e1⟩ : ∃ a, xs (i + 1) = a := ⟨_, rfl⟩
  obtain ⟨a2, e2⟩ : ∃ a, xs (i + 2) = a := ⟨_, rfl⟩
  obtain ⟨a3, e3⟩ : ∃ a, xs (i + 3) = a := ⟨_, rfl⟩
  rcases lw_c_item hnb60 (fun k => (bs k).2.1) (fun k hk => (rel.2.2.2.2.1 k hk).2.2.2.2.2.1) a1 a2 a3 with h | ⟨k, hk, rfl, h | ⟨j, hj, rfl, h | h⟩⟩
  · skip
    refine lv_aload_n hx hb d_law_421 rfl (lv_at hl 2 rfl) ?_
    refine lv_aload_n hx hb d_law_422 rfl (lv_at hl 3 rfl) ?_
    refine lv_iload_n hx hb d_law_423 rfl (lv_at hl 0 rfl) ?_
    refine lv_iconst (v := 1) hx hb d_law_424 (by decide) ?_
    refine lv_iadd hx hb d_law_425 ?_
    rw [show nI i + 1 = nI (i + 1) from nI_add i 1]
    refine va_sld hx hb hX hbl hbA hS (vp_in_nI (show i + 1 < L by omega) (by omega)) d_law_426 ?_
    rw [nI_clamp (show i + 1 < 2 ^ 31 by omega), e1]
    refine lv_aload_n hx hb d_law_427 rfl (lv_at hl 3 rfl) ?_
    refine lv_iload_n hx hb d_law_428 rfl (lv_at hl 0 rfl) ?_
    refine lv_iconst (v := 2) hx hb d_law_429 (by decide) ?_
    refine lv_iadd hx hb d_law_430 ?_
    rw [show nI i + 2 = nI (i + 2) from nI_add i 2]
    refine va_sld hx hb hX hbl hbA hS (vp_in_nI (show i + 2 < L by omega) (by omega)) d_law_431 ?_
    rw [nI_clamp (show i + 2 < 2 ^ 31 by omega), e2]
    refine lv_aload_n hx hb d_law_432 rfl (lv_at hl 3 rfl) ?_
    refine lv_iload_n hx hb d_law_433 rfl (lv_at hl 0 rfl) ?_
    refine lv_iconst (v := 3) hx hb d_law_434 (by decide) ?_
    refine lv_iadd hx hb d_law_435 ?_
    rw [show nI i + 3 = nI (i + 3) from nI_add i 3]
    refine va_sld hx hb hX hbl hbA hS (vp_in_nI (show i + 3 < L by omega) (by omega)) d_law_436 ?_
    rw [nI_clamp (show i + 3 < 2 ^ 31 by omega), e3]
    refine k_pure (r := .int (-1)) (W.runV (As := [.int a1, .int a2, .int a3]) (rest := []) ⟨hx, hb, hml, hown, hts⟩ (c_BG_item_bad1 l g H I M x n its nb bs ib inv a1 a2 a3 h) (cwV 3 hts (kV_good kw_489 kw_486 kw_487 kw_488 kw_1) rfl rfl rfl (by decide +kernel) ⟨Nat.le_of_ble_eq_true rfl, Nat.le_of_ble_eq_true rfl⟩) (k_preV (KK_st g) hKK (inv.recv hK)) rfl rfl hl.1 rfl (lv_room (Nat.le_of_ble_eq_true rfl)) d_law_437 ⟨by show _ ≤ 600000; omega, by show _ ≤ 7302250; omega⟩) ?_
    refine lv_aload_n hx hb d_law_440 rfl (lv_at hl 1 rfl) ?_
    refine lv_aload_n hx hb d_law_441 rfl (lv_at hl 3 rfl) ?_
    refine lv_iload_n hx hb d_law_442 rfl (lv_at hl 0 rfl) ?_
    refine lv_iconst (v := 1) hx hb d_law_443 (by decide) ?_
    refine lv_iadd hx hb d_law_444 ?_
    rw [show nI i + 1 = nI (i + 1) from nI_add i 1]
    refine va_sld hx hb hX hbl hbA hS (vp_in_nI (show i + 1 < L by omega) (by omega)) d_law_445 ?_
    rw [nI_clamp (show i + 1 < 2 ^ 31 by omega), e1]
    refine lv_aload_n hx hb d_law_446 rfl (lv_at hl 3 rfl) ?_
    refine lv_iload_n hx hb d_law_447 rfl (lv_at hl 0 rfl) ?_
    refine lv_iconst (v := 2) hx hb d_law_448 (by decide) ?_
    refine lv_iadd hx hb d_law_449 ?_
    rw [show nI i + 2 = nI (i + 2) from nI_add i 2]
    refine va_sld hx hb hX hbl hbA hS (vp_in_nI (show i + 2 < L by omega) (by omega)) d_law_450 ?_
    rw [nI_clamp (show i + 2 < 2 ^ 31 by omega), e2]
    refine lv_aload_n hx hb d_law_451 rfl (lv_at hl 3 rfl) ?_
    refine lv_iload_n hx hb d_law_452 rfl (lv_at hl 0 rfl) ?_
    refine lv_iconst (v := 3) hx hb d_law_453 (by decide) ?_
    refine lv_iadd hx hb d_law_454 ?_
    rw [show nI i + 3 = nI (i + 3) from nI_add i 3]
    refine va_sld hx hb hX hbl hbA hS (vp_in_nI (show i + 3 < L by omega) (by omega)) d_law_455 ?_
    rw [nI_clamp (show i + 3 < 2 ^ 31 by omega), e3]
    refine k_pure (r := .int (-1)) (W.runV (As := [.int a1, .int a2, .int a3]) (rest := [.int (-1)]) ⟨hx, hb, hml, hown, hts⟩ (c_Mod_item_bad1 l g H m0 ad n ib nb F G hMd a1 a2 a3 h) (cwV 3 hts (kV_good kw_746 kw_743 kw_744 kw_745 kw_5) rfl rfl rfl (by decide +kernel) ⟨Nat.le_of_ble_eq_true rfl, Nat.le_of_ble_eq_true rfl⟩) (k_preV (KK_st g) hKK (va_recv hK (k_one hMd.1) (ci := 10) (q0 := 0) rfl rfl)) rfl rfl hl.1 rfl (lv_room (Nat.le_of_ble_eq_true rfl)) d_law_456 ⟨by show _ ≤ 600000; omega, by show _ ≤ 7302250; omega⟩) ?_
    refine lv_icmp_eq (tgt := 517) hx hb d_law_459 (by decide) (fun c_1 => ?_) (fun c_1 => ?_)
    rotate_left
    · exact absurd c_1 (fun q => q rfl)
    refine W.widen (k := cells + 103) (n := slots + 5109) (by omega) (by omega) ?_
    exact kk _ _ _ _ _ _ _ _ _ H locs ls ⟨inv, hMd, rel, sep, hLc⟩ (lv_sub (l := [(3, .int (nI i)), (2, .ref m0), (1, .ref x), (0, .ref b)]) hl [0, 1, 2, 3] rfl)
  · skip
    obtain ⟨-, -, -, -, hcn, hc40, -⟩ := id (rel.2.2.2.2.1 k hk)
    refine lv_aload_n hx hb d_law_421 rfl (lv_at hl 2 rfl) ?_
    refine lv_aload_n hx hb d_law_422 rfl (lv_at hl 3 rfl) ?_
    refine lv_iload_n hx hb d_law_423 rfl (lv_at hl 0 rfl) ?_
    refine lv_iconst (v := 1) hx hb d_law_424 (by decide) ?_
    refine lv_iadd hx hb d_law_425 ?_
    rw [show nI i + 1 = nI (i + 1) from nI_add i 1]
    refine va_sld hx hb hX hbl hbA hS (vp_in_nI (show i + 1 < L by omega) (by omega)) d_law_426 ?_
    rw [nI_clamp (show i + 1 < 2 ^ 31 by omega), e1]
    refine lv_aload_n hx hb d_law_427 rfl (lv_at hl 3 rfl) ?_
    refine lv_iload_n hx hb d_law_428 rfl (lv_at hl 0 rfl) ?_
    refine lv_iconst (v := 2) hx hb d_law_429 (by decide) ?_
    refine lv_iadd hx hb d_law_430 ?_
    rw [show nI i + 2 = nI (i + 2) from nI_add i 2]
    refine va_sld hx hb hX hbl hbA hS (vp_in_nI (show i + 2 < L by omega) (by omega)) d_law_431 ?_
    rw [nI_clamp (show i + 2 < 2 ^ 31 by omega), e2]
    refine lv_aload_n hx hb d_law_432 rfl (lv_at hl 3 rfl) ?_
    refine lv_iload_n hx hb d_law_433 rfl (lv_at hl 0 rfl) ?_
    refine lv_iconst (v := 3) hx hb d_law_434 (by decide) ?_
    refine lv_iadd hx hb d_law_435 ?_
    rw [show nI i + 3 = nI (i + 3) from nI_add i 3]
    refine va_sld hx hb hX hbl hbA hS (vp_in_nI (show i + 3 < L by omega) (by omega)) d_law_436 ?_
    rw [nI_clamp (show i + 3 < 2 ^ 31 by omega), e3]
    refine k_pure (r := .int (-1)) (W.runV (As := [.int (nI k), .int a2, .int a3]) (rest := []) ⟨hx, hb, hml, hown, hts⟩ (c_BG_item_bad2 l g H I M x n its nb bs ib inv a2 a3 k hk h) (cwV 3 hts (kV_good kw_489 kw_486 kw_487 kw_488 kw_1) rfl rfl rfl (by decide +kernel) ⟨Nat.le_of_ble_eq_true rfl, Nat.le_of_ble_eq_true rfl⟩) (k_preV (KK_st g) hKK (inv.recv hK)) rfl rfl hl.1 rfl (lv_room (Nat.le_of_ble_eq_true rfl)) d_law_437 ⟨by show _ ≤ 600000; omega, by show _ ≤ 7302250; omega⟩) ?_
    refine lv_aload_n hx hb d_law_440 rfl (lv_at hl 1 rfl) ?_
    refine lv_aload_n hx hb d_law_441 rfl (lv_at hl 3 rfl) ?_
    refine lv_iload_n hx hb d_law_442 rfl (lv_at hl 0 rfl) ?_
    refine lv_iconst (v := 1) hx hb d_law_443 (by decide) ?_
    refine lv_iadd hx hb d_law_444 ?_
    rw [show nI i + 1 = nI (i + 1) from nI_add i 1]
    refine va_sld hx hb hX hbl hbA hS (vp_in_nI (show i + 1 < L by omega) (by omega)) d_law_445 ?_
    rw [nI_clamp (show i + 1 < 2 ^ 31 by omega), e1]
    refine lv_aload_n hx hb d_law_446 rfl (lv_at hl 3 rfl) ?_
    refine lv_iload_n hx hb d_law_447 rfl (lv_at hl 0 rfl) ?_
    refine lv_iconst (v := 2) hx hb d_law_448 (by decide) ?_
    refine lv_iadd hx hb d_law_449 ?_
    rw [show nI i + 2 = nI (i + 2) from nI_add i 2]
    refine va_sld hx hb hX hbl hbA hS (vp_in_nI (show i + 2 < L by omega) (by omega)) d_law_450 ?_
    rw [nI_clamp (show i + 2 < 2 ^ 31 by omega), e2]
    refine lv_aload_n hx hb d_law_451 rfl (lv_at hl 3 rfl) ?_
    refine lv_iload_n hx hb d_law_452 rfl (lv_at hl 0 rfl) ?_
    refine lv_iconst (v := 3) hx hb d_law_453 (by decide) ?_
    refine lv_iadd hx hb d_law_454 ?_
    rw [show nI i + 3 = nI (i + 3) from nI_add i 3]
    refine va_sld hx hb hX hbl hbA hS (vp_in_nI (show i + 3 < L by omega) (by omega)) d_law_455 ?_
    rw [nI_clamp (show i + 3 < 2 ^ 31 by omega), e3]
    refine k_pure (r := .int (-1)) (W.runV (As := [.int (nI k), .int a2, .int a3]) (rest := [.int (-1)]) ⟨hx, hb, hml, hown, hts⟩ (c_Mod_item_bad2 l g H m0 ad n ib nb F G hMd a2 a3 k hk hnb60 (bs k).2.1 hcn h) (cwV 3 hts (kV_good kw_746 kw_743 kw_744 kw_745 kw_5) rfl rfl rfl (by decide +kernel) ⟨Nat.le_of_ble_eq_true rfl, Nat.le_of_ble_eq_true rfl⟩) (k_preV (KK_st g) hKK (va_recv hK (k_one hMd.1) (ci := 10) (q0 := 0) rfl rfl)) rfl rfl hl.1 rfl (lv_room (Nat.le_of_ble_eq_true rfl)) d_law_456 ⟨by show _ ≤ 600000; omega, by show _ ≤ 7302250; omega⟩) ?_
    refine lv_icmp_eq (tgt := 517) hx hb d_law_459 (by decide) (fun c_1 => ?_) (fun c_1 => ?_)
    rotate_left
    · exact absurd c_1 (fun q => q rfl)
    refine W.widen (k := cells + 103) (n := slots + 5109) (by omega) (by omega) ?_
    exact kk _ _ _ _ _ _ _ _ _ H locs ls ⟨inv, hMd, rel, sep, hLc⟩ (lv_sub (l := [(3, .int (nI i)), (2, .ref m0), (1, .ref x), (0, .ref b)]) hl [0, 1, 2, 3] rfl)
  · skip
    obtain ⟨-, -, -, -, hcn, hc40, -⟩ := id (rel.2.2.2.2.1 k hk)
    obtain ⟨fr, hfr, hi3, hw, hn1, t1, t2⟩ := an_item (p2 := a3) rel hk hj
    refine lv_aload_n hx hb d_law_421 rfl (lv_at hl 2 rfl) ?_
    refine lv_aload_n hx hb d_law_422 rfl (lv_at hl 3 rfl) ?_
    refine lv_iload_n hx hb d_law_423 rfl (lv_at hl 0 rfl) ?_
    refine lv_iconst (v := 1) hx hb d_law_424 (by decide) ?_
    refine lv_iadd hx hb d_law_425 ?_
    rw [show nI i + 1 = nI (i + 1) from nI_add i 1]
    refine va_sld hx hb hX hbl hbA hS (vp_in_nI (show i + 1 < L by omega) (by omega)) d_law_426 ?_
    rw [nI_clamp (show i + 1 < 2 ^ 31 by omega), e1]
    refine lv_aload_n hx hb d_law_427 rfl (lv_at hl 3 rfl) ?_
    refine lv_iload_n hx hb d_law_428 rfl (lv_at hl 0 rfl) ?_
    refine lv_iconst (v := 2) hx hb d_law_429 (by decide) ?_
    refine lv_iadd hx hb d_law_430 ?_
    rw [show nI i + 2 = nI (i + 2) from nI_add i 2]
    refine va_sld hx hb hX hbl hbA hS (vp_in_nI (show i + 2 < L by omega) (by omega)) d_law_431 ?_
    rw [nI_clamp (show i + 2 < 2 ^ 31 by omega), e2]
    refine lv_aload_n hx hb d_law_432 rfl (lv_at hl 3 rfl) ?_
    refine lv_iload_n hx hb d_law_433 rfl (lv_at hl 0 rfl) ?_
    refine lv_iconst (v := 3) hx hb d_law_434 (by decide) ?_
    refine lv_iadd hx hb d_law_435 ?_
    rw [show nI i + 3 = nI (i + 3) from nI_add i 3]
    refine va_sld hx hb hX hbl hbA hS (vp_in_nI (show i + 3 < L by omega) (by omega)) d_law_436 ?_
    rw [nI_clamp (show i + 3 < 2 ^ 31 by omega), e3]
    refine k_pure (r := .int (b_item (bs k) j a3)) (W.runV (As := [.int (nI k), .int (nI j), .int a3]) (rest := []) ⟨hx, hb, hml, hown, hts⟩ (c_BG_item_ok l g H I M x n its nb bs ib inv a3 k hk j hj) (cwV 3 hts (kV_good kw_489 kw_486 kw_487 kw_488 kw_1) rfl rfl rfl (by decide +kernel) ⟨Nat.le_of_ble_eq_true rfl, Nat.le_of_ble_eq_true rfl⟩) (k_preV (KK_st g) hKK (inv.recv hK)) rfl rfl hl.1 rfl (lv_room (Nat.le_of_ble_eq_true rfl)) d_law_437 ⟨by show _ ≤ 600000; omega, by show _ ≤ 7302250; omega⟩) ?_
    rw [t1 h]
    refine lv_aload_n hx hb d_law_440 rfl (lv_at hl 1 rfl) ?_
    refine lv_aload_n hx hb d_law_441 rfl (lv_at hl 3 rfl) ?_
    refine lv_iload_n hx hb d_law_442 rfl (lv_at hl 0 rfl) ?_
    refine lv_iconst (v := 1) hx hb d_law_443 (by decide) ?_
    refine lv_iadd hx hb d_law_444 ?_
    rw [show nI i + 1 = nI (i + 1) from nI_add i 1]
    refine va_sld hx hb hX hbl hbA hS (vp_in_nI (show i + 1 < L by omega) (by omega)) d_law_445 ?_
    rw [nI_clamp (show i + 1 < 2 ^ 31 by omega), e1]
    refine lv_aload_n hx hb d_law_446 rfl (lv_at hl 3 rfl) ?_
    refine lv_iload_n hx hb d_law_447 rfl (lv_at hl 0 rfl) ?_
    refine lv_iconst (v := 2) hx hb d_law_448 (by decide) ?_
    refine lv_iadd hx hb d_law_449 ?_
    rw [show nI i + 2 = nI (i + 2) from nI_add i 2]
    refine va_sld hx hb hX hbl hbA hS (vp_in_nI (show i + 2 < L by omega) (by omega)) d_law_450 ?_
    rw [nI_clamp (show i + 2 < 2 ^ 31 by omega), e2]
    refine lv_aload_n hx hb d_law_451 rfl (lv_at hl 3 rfl) ?_
    refine lv_iload_n hx hb d_law_452 rfl (lv_at hl 0 rfl) ?_
    refine lv_iconst (v := 3) hx hb d_law_453 (by decide) ?_
    refine lv_iadd hx hb d_law_454 ?_
    rw [show nI i + 3 = nI (i + 3) from nI_add i 3]
    refine va_sld hx hb hX hbl hbA hS (vp_in_nI (show i + 3 < L by omega) (by omega)) d_law_455 ?_
    rw [nI_clamp (show i + 3 < 2 ^ 31 by omega), e3]
    refine k_pure (r := .int (-1)) (W.runV (As := [.int (nI k), .int (nI j), .int a3]) (rest := [.int (-1)]) ⟨hx, hb, hml, hown, hts⟩ (c_Mod_item_bad3 l g H m0 ad n ib nb F G hMd a3 k hk hnb60 (bs k).2.1 hcn j hj (by omega) h) (cwV 3 hts (kV_good kw_746 kw_743 kw_744 kw_745 kw_5) rfl rfl rfl (by decide +kernel) ⟨Nat.le_of_ble_eq_true rfl, Nat.le_of_ble_eq_true rfl⟩) (k_preV (KK_st g) hKK (va_recv hK (k_one hMd.1) (ci := 10) (q0 := 0) rfl rfl)) rfl rfl hl.1 rfl (lv_room (Nat.le_of_ble_eq_true rfl)) d_law_456 ⟨by show _ ≤ 600000; omega, by show _ ≤ 7302250; omega⟩) ?_
    refine lv_icmp_eq (tgt := 517) hx hb d_law_459 (by decide) (fun c_1 => ?_) (fun c_1 => ?_)
    rotate_left
    · exact absurd c_1 (fun q => q rfl)
    refine W.widen (k := cells + 103) (n := slots + 5109) (by omega) (by omega) ?_
    exact kk _ _ _ _ _ _ _ _ _ H locs ls ⟨inv, hMd, rel, sep, hLc⟩ (lv_sub (l := [(3, .int (nI i)), (2, .ref m0), (1, .ref x), (0, .ref b)]) hl [0, 1, 2, 3] rfl)
  · skip
    obtain ⟨-, -, -, -, hcn, hc40, -⟩ := id (rel.2.2.2.2.1 k hk)
    obtain ⟨fr, hfr, hi3, hw, hn1, t1, t2⟩ := an_item (p2 := a3) rel hk hj
    refine lv_aload_n hx hb d_law_421 rfl (lv_at hl 2 rfl) ?_
    refine lv_aload_n hx hb d_law_422 rfl (lv_at hl 3 rfl) ?_
    refine lv_iload_n hx hb d_law_423 rfl (lv_at hl 0 rfl) ?_
    refine lv_iconst (v := 1) hx hb d_law_424 (by decide) ?_
    refine lv_iadd hx hb d_law_425 ?_
    rw [show nI i + 1 = nI (i + 1) from nI_add i 1]
    refine va_sld hx hb hX hbl hbA hS (vp_in_nI (show i + 1 < L by omega) (by omega)) d_law_426 ?_
    rw [nI_clamp (show i + 1 < 2 ^ 31 by omega), e1]
    refine lv_aload_n hx hb d_law_427 rfl (lv_at hl 3 rfl) ?_
    refine lv_iload_n hx hb d_law_428 rfl (lv_at hl 0 rfl) ?_
    refine lv_iconst (v := 2) hx hb d_law_429 (by decide) ?_
    refine lv_iadd hx hb d_law_430 ?_
    rw [show nI i + 2 = nI (i + 2) from nI_add i 2]
    refine va_sld hx hb hX hbl hbA hS (vp_in_nI (show i + 2 < L by omega) (by omega)) d_law_431 ?_
    rw [nI_clamp (show i + 2 < 2 ^ 31 by omega), e2]
    refine lv_aload_n hx hb d_law_432 rfl (lv_at hl 3 rfl) ?_
    refine lv_iload_n hx hb d_law_433 rfl (lv_at hl 0 rfl) ?_
    refine lv_iconst (v := 3) hx hb d_law_434 (by decide) ?_
    refine lv_iadd hx hb d_law_435 ?_
    rw [show nI i + 3 = nI (i + 3) from nI_add i 3]
    refine va_sld hx hb hX hbl hbA hS (vp_in_nI (show i + 3 < L by omega) (by omega)) d_law_436 ?_
    rw [nI_clamp (show i + 3 < 2 ^ 31 by omega), e3]
    refine k_pure (r := .int (b_item (bs k) j a3)) (W.runV (As := [.int (nI k), .int (nI j), .int a3]) (rest := []) ⟨hx, hb, hml, hown, hts⟩ (c_BG_item_ok l g H I M x n its nb bs ib inv a3 k hk j hj) (cwV 3 hts (kV_good kw_489 kw_486 kw_487 kw_488 kw_1) rfl rfl rfl (by decide +kernel) ⟨Nat.le_of_ble_eq_true rfl, Nat.le_of_ble_eq_true rfl⟩) (k_preV (KK_st g) hKK (inv.recv hK)) rfl rfl hl.1 rfl (lv_room (Nat.le_of_ble_eq_true rfl)) d_law_437 ⟨by show _ ≤ 600000; omega, by show _ ≤ 7302250; omega⟩) ?_
    rw [t2 h]
    refine lv_aload_n hx hb d_law_440 rfl (lv_at hl 1 rfl) ?_
    refine lv_aload_n hx hb d_law_441 rfl (lv_at hl 3 rfl) ?_
    refine lv_iload_n hx hb d_law_442 rfl (lv_at hl 0 rfl) ?_
    refine lv_iconst (v := 1) hx hb d_law_443 (by decide) ?_
    refine lv_iadd hx hb d_law_444 ?_
    rw [show nI i + 1 = nI (i + 1) from nI_add i 1]
    refine va_sld hx hb hX hbl hbA hS (vp_in_nI (show i + 1 < L by omega) (by omega)) d_law_445 ?_
    rw [nI_clamp (show i + 1 < 2 ^ 31 by omega), e1]
    refine lv_aload_n hx hb d_law_446 rfl (lv_at hl 3 rfl) ?_
    refine lv_iload_n hx hb d_law_447 rfl (lv_at hl 0 rfl) ?_
    refine lv_iconst (v := 2) hx hb d_law_448 (by decide) ?_
    refine lv_iadd hx hb d_law_449 ?_
    rw [show nI i + 2 = nI (i + 2) from nI_add i 2]
    refine va_sld hx hb hX hbl hbA hS (vp_in_nI (show i + 2 < L by omega) (by omega)) d_law_450 ?_
    rw [nI_clamp (show i + 2 < 2 ^ 31 by omega), e2]
    refine lv_aload_n hx hb d_law_451 rfl (lv_at hl 3 rfl) ?_
    refine lv_iload_n hx hb d_law_452 rfl (lv_at hl 0 rfl) ?_
    refine lv_iconst (v := 3) hx hb d_law_453 (by decide) ?_
    refine lv_iadd hx hb d_law_454 ?_
    rw [show nI i + 3 = nI (i + 3) from nI_add i 3]
    refine va_sld hx hb hX hbl hbA hS (vp_in_nI (show i + 3 < L by omega) (by omega)) d_law_455 ?_
    rw [nI_clamp (show i + 3 < 2 ^ 31 by omega), e3]
    refine k_pure (r := .int (md_item F G k (fr + j) a3)) (W.runV (As := [.int (nI k), .int (nI j), .int a3]) (rest := [.int (md_item F G k (fr + j) a3)]) ⟨hx, hb, hml, hown, hts⟩ (c_Mod_item_ok l g H m0 ad n ib nb F G hMd a3 k hk hnb60 (bs k).2.1 hcn j hj (by omega) h fr (fr + j) hfr rfl hi3 hw hn1) (cwV 3 hts (kV_good kw_746 kw_743 kw_744 kw_745 kw_5) rfl rfl rfl (by decide +kernel) ⟨Nat.le_of_ble_eq_true rfl, Nat.le_of_ble_eq_true rfl⟩) (k_preV (KK_st g) hKK (va_recv hK (k_one hMd.1) (ci := 10) (q0 := 0) rfl rfl)) rfl rfl hl.1 rfl (lv_room (Nat.le_of_ble_eq_true rfl)) d_law_456 ⟨by show _ ≤ 600000; omega, by show _ ≤ 7302250; omega⟩) ?_
    refine lv_icmp_eq (tgt := 517) hx hb d_law_459 (by decide) (fun c_1 => ?_) (fun c_1 => ?_)
    rotate_left
    · exact absurd c_1 (fun q => q rfl)
    refine W.widen (k := cells + 103) (n := slots + 5109) (by omega) (by omega) ?_
    exact kk _ _ _ _ _ _ _ _ _ H locs ls ⟨inv, hMd, rel, sep, hLc⟩ (lv_sub (l := [(3, .int (nI i)), (2, .ref m0), (1, .ref x), (0, .ref b)]) hl [0, 1, 2, 3] rfl)
set_option maxHeartbeats 4000000 in
set_option maxRecDepth 100000 in
theorem lw_size {p : Program} {l : Launch} {e : Env} {s : State} {m : MethodId} {below : List Frame} {meth : Method} {c : Code} {b L : Nat} {xs : Nat → Int32} {g : KGt} {x m0 : Nat} {ad : Nat → Nat} (C0 : lw_At p s m meth c b L xs) (hKK : KK g s) (hg : g.2.2.1 = s.heap) {I M : Nat → Prop} {n : Nat} {its : Nat → Nat → Int32} {nb : Nat} {bs : Nat → BxT} {ib : Nat} {F : Nat → Nat → Int32} {G : Nat → Nat → Int64} {H : Heap} {locs : List Loc} (hI : lw_I g s x m0 ad I M n its nb bs ib F G H locs) {i cells slots : Nat} (hL3 : L ≤ 3072) (hi : i + 6 ≤ L) (hce : cells + 103 ≤ 600000) (hsl : slots + 5109 ≤ 7302250) {ls : Array Slot} (hl : lv_has ls 4 [(3, .int (nI i)), (2, .ref m0), (1, .ref x), (0, .ref b)]) (kk : (∀ (I M : Nat → Prop) (n : Nat) (its : Nat → Nat → Int32) (nb : Nat) (bs : Nat → BxT) (ib : Nat) (F : Nat → Nat → Int32) (G : Nat → Nat → Int64) (H : Heap) (locs : List Loc) (ls : Array Slot), lw_I g s x m0 ad I M n its nb bs ib F G H locs → lv_has ls 4 [(3, .int (nI i)), (2, .ref m0), (1, .ref x), (0, .ref b)] → W p l e room_1 s m #[Value.ref b] below meth c H locs (cells + 103) (slots + 5109) (lw_Z below #[Value.ref b] s) (F0 m 517 ls []))) : W p l e room_1 s m #[Value.ref b] below meth c H locs cells slots (lw_Z below #[Value.ref b] s) (F0 m 464 ls []) := by
  obtain ⟨hx, hb, hr, hml, hown, hts0, hX, hbl, hlocks, hgv⟩ := id C0
  have hts : ∀ w ∈ kG, w.before #[Value.ref b] s = true := fun w hw => hts0 w (kG_in hw)
  have hown : s.vm.findClass "BoxGlueLaw" = some m.cls := hown
  have hK := hKK.1
  obtain ⟨inv, hMd, rel, sep, hLc⟩ := hI
  have hbA : ¬ (fun q : Nat => s.heap.size ≤ q) b := Nat.not_le.mpr hbl
  have hS := lw_S hg inv hLc
  have hn40 := rel.1
  have hnb60 := rel.2.1
  have hib := rel.2.2.1
  have hfM := lw_fM hg inv
  · skip
    refine lv_aload_n hx hb d_law_464 rfl (lv_at hl 2 rfl) ?_
    refine k_pure (r := .int (nI n)) (W.runV (As := []) (rest := []) ⟨hx, hb, hml, hown, hts⟩ (c_BG_size l g H I M x n its nb bs ib inv) (cwV 0 hts (kV_good kw_553 kw_550 kw_551 kw_552 kw_1) rfl rfl rfl (by decide +kernel) ⟨Nat.le_of_ble_eq_true rfl, Nat.le_of_ble_eq_true rfl⟩) (k_preV (KK_st g) hKK (inv.recv hK)) rfl rfl hl.1 rfl (lv_room (Nat.le_of_ble_eq_true rfl)) d_law_465 ⟨by show _ ≤ 600000; omega, by show _ ≤ 7302250; omega⟩) ?_
    refine lv_aload_n hx hb d_law_468 rfl (lv_at hl 1 rfl) ?_
    refine k_pure (r := .int (nI n)) (W.runV (As := []) (rest := [.int (nI n)]) ⟨hx, hb, hml, hown, hts⟩ (c_Mod_size l g H m0 ad n ib nb F G hMd) (cwV 0 hts (kV_good kw_771 kw_768 kw_769 kw_770 kw_5) rfl rfl rfl (by decide +kernel) ⟨Nat.le_of_ble_eq_true rfl, Nat.le_of_ble_eq_true rfl⟩) (k_preV (KK_st g) hKK (va_recv hK (k_one hMd.1) (ci := 10) (q0 := 0) rfl rfl)) rfl rfl hl.1 rfl (lv_room (Nat.le_of_ble_eq_true rfl)) d_law_469 ⟨by show _ ≤ 600000; omega, by show _ ≤ 7302250; omega⟩) ?_
    refine lv_icmp_eq (tgt := 517) hx hb d_law_472 (by decide) (fun c_1 => ?_) (fun c_1 => ?_)
    rotate_left
    · exact absurd c_1 (fun q => q rfl)
    refine W.widen (k := cells + 103) (n := slots + 5109) (by omega) (by omega) ?_
    exact kk _ _ _ _ _ _ _ _ _ H locs ls ⟨inv, hMd, rel, sep, hLc⟩ (lv_sub (l := [(3, .int (nI i)), (2, .ref m0), (1, .ref x), (0, .ref b)]) hl [0, 1, 2, 3] rfl)
set_option maxHeartbeats 4000000 in
set_option maxRecDepth 100000 in
theorem lw_natural {p : Program} {l : Launch} {e : Env} {s : State} {m : MethodId} {below : List Frame} {meth : Method} {c : Code} {b L : Nat} {xs : Nat → Int32} {g : KGt} {x m0 : Nat} {ad : Nat → Nat} (C0 : lw_At p s m meth c b L xs) (hKK : KK g s) (hg : g.2.2.1 = s.heap) {I M : Nat → Prop} {n : Nat} {its : Nat → Nat → Int32} {nb : Nat} {bs : Nat → BxT} {ib : Nat} {F : Nat → Nat → Int32} {G : Nat → Nat → Int64} {H : Heap} {locs : List Loc} (hI : lw_I g s x m0 ad I M n its nb bs ib F G H locs) {i cells slots : Nat} (hL3 : L ≤ 3072) (hi : i + 6 ≤ L) (hce : cells + 103 ≤ 600000) (hsl : slots + 5109 ≤ 7302250) {ls : Array Slot} (hl : lv_has ls 4 [(3, .int (nI i)), (2, .ref m0), (1, .ref x), (0, .ref b)]) (kk : (∀ (I M : Nat → Prop) (n : Nat) (its : Nat → Nat → Int32) (nb : Nat) (bs : Nat → BxT) (ib : Nat) (F : Nat → Nat → Int32) (G : Nat → Nat → Int64) (H : Heap) (locs : List Loc) (ls : Array Slot), lw_I g s x m0 ad I M n its nb bs ib F G H locs → lv_has ls 4 [(3, .int (nI i)), (2, .ref m0), (1, .ref x), (0, .ref b)] → W p l e room_1 s m #[Value.ref b] below meth c H locs (cells + 103) (slots + 5109) (lw_Z below #[Value.ref b] s) (F0 m 517 ls []))) : W p l e room_1 s m #[Value.ref b] below meth c H locs cells slots (lw_Z below #[Value.ref b] s) (F0 m 477 ls []) := by
  obtain ⟨hx, hb, hr, hml, hown, hts0, hX, hbl, hlocks, hgv⟩ := id C0
  have hts : ∀ w ∈ kG, w.before #[Value.ref b] s = true := fun w hw => hts0 w (kG_in hw)
  have hown : s.vm.findClass "BoxGlueLaw" = some m.cls := hown
  have hK := hKK.1
  obtain ⟨inv, hMd, rel, sep, hLc⟩ := hI
  have hbA : ¬ (fun q : Nat => s.heap.size ≤ q) b := Nat.not_le.mpr hbl
  have hS := lw_S hg inv hLc
  have hn40 := rel.1
  have hnb60 := rel.2.1
  have hib := rel.2.2.1
  have hfM := lw_fM hg inv
  · skip
    refine lv_aload_n hx hb d_law_477 rfl (lv_at hl 2 rfl) ?_
    refine k_pure (r := .long (l_len its n).toInt64) (W.runV (As := []) (rest := []) ⟨hx, hb, hml, hown, hts⟩ (c_BG_natural l g H I M x n its nb bs ib inv) (cwV 0 hts (kV_good kw_557 kw_554 kw_555 kw_556 kw_1) rfl rfl rfl (by decide +kernel) ⟨Nat.le_of_ble_eq_true rfl, Nat.le_of_ble_eq_true rfl⟩) (k_preV (KK_st g) hKK (inv.recv hK)) rfl rfl hl.1 rfl (lv_room (Nat.le_of_ble_eq_true rfl)) d_law_478 ⟨by show _ ≤ 600000; omega, by show _ ≤ 7302250; omega⟩) ?_
    refine lv_aload_n hx hb d_law_481 rfl (lv_at hl 1 rfl) ?_
    refine k_pure (r := .long (md_nat F n)) (W.runV (As := []) (rest := [.long (l_len its n).toInt64]) ⟨hx, hb, hml, hown, hts⟩ (c_Mod_natural l g H m0 ad n ib nb F G hMd hn40 hnb60 (an_mw rel)) (cwV 0 hts (kV_good kw_697 kw_694 kw_695 kw_696 kw_5) rfl rfl rfl (by decide +kernel) ⟨Nat.le_of_ble_eq_true rfl, Nat.le_of_ble_eq_true rfl⟩) (k_preV (KK_st g) hKK (va_recv hK (k_one hMd.1) (ci := 10) (q0 := 0) rfl rfl)) rfl rfl hl.1 rfl (lv_room (Nat.le_of_ble_eq_true rfl)) d_law_482 ⟨by show _ ≤ 600000; omega, by show _ ≤ 7302250; omega⟩) ?_
    rw [an_nat rel]
    refine W.lcmp hx hb d_law_485 ?_
    refine lv_if_eq (tgt := 517) hx hb d_law_486 (by decide) (fun c_1 => ?_) (fun c_1 => ?_)
    rotate_left
    · exact absurd c_1 (fun q => q ((lg_cmp_eq _ _).mpr rfl))
    refine W.widen (k := cells + 103) (n := slots + 5109) (by omega) (by omega) ?_
    exact kk _ _ _ _ _ _ _ _ _ H locs ls ⟨inv, hMd, rel, sep, hLc⟩ (lv_sub (l := [(3, .int (nI i)), (2, .ref m0), (1, .ref x), (0, .ref b)]) hl [0, 1, 2, 3] rfl)
set_option maxHeartbeats 4000000 in
set_option maxRecDepth 100000 in
theorem lw_drop {p : Program} {l : Launch} {e : Env} {s : State} {m : MethodId} {below : List Frame} {meth : Method} {c : Code} {b L : Nat} {xs : Nat → Int32} {g : KGt} {x m0 : Nat} {ad : Nat → Nat} (C0 : lw_At p s m meth c b L xs) (hKK : KK g s) (hg : g.2.2.1 = s.heap) {I M : Nat → Prop} {n : Nat} {its : Nat → Nat → Int32} {nb : Nat} {bs : Nat → BxT} {ib : Nat} {F : Nat → Nat → Int32} {G : Nat → Nat → Int64} {H : Heap} {locs : List Loc} (hI : lw_I g s x m0 ad I M n its nb bs ib F G H locs) {i cells slots : Nat} (hL3 : L ≤ 3072) (hi : i + 6 ≤ L) (hce : cells + 103 ≤ 600000) (hsl : slots + 5109 ≤ 7302250) {ls : Array Slot} (hl : lv_has ls 4 [(3, .int (nI i)), (2, .ref m0), (1, .ref x), (0, .ref b)]) (kk : (∀ (I M : Nat → Prop) (n : Nat) (its : Nat → Nat → Int32) (nb : Nat) (bs : Nat → BxT) (ib : Nat) (F : Nat → Nat → Int32) (G : Nat → Nat → Int64) (H : Heap) (locs : List Loc) (ls : Array Slot), lw_I g s x m0 ad I M n its nb bs ib F G H locs → lv_has ls 4 [(3, .int (nI i)), (2, .ref m0), (1, .ref x), (0, .ref b)] → W p l e room_1 s m #[Value.ref b] below meth c H locs (cells + 103) (slots + 5109) (lw_Z below #[Value.ref b] s) (F0 m 517 ls []))) : W p l e room_1 s m #[Value.ref b] below meth c H locs cells slots (lw_Z below #[Value.ref b] s) (F0 m 491 ls []) := by
  obtain ⟨hx, hb, hr, hml, hown, hts0, hX, hbl, hlocks, hgv⟩ := id C0
  have hts : ∀ w ∈ kG, w.before #[Value.ref b] s = true := fun w hw => hts0 w (kG_in hw)
  have hown : s.vm.findClass "BoxGlueLaw" = some m.cls := hown
  have hK := hKK.1
  obtain ⟨inv, hMd, rel, sep, hLc⟩ := hI
  have hbA : ¬ (fun q : Nat => s.heap.size ≤ q) b := Nat.not_le.mpr hbl
  have hS := lw_S hg inv hLc
  have hn40 := rel.1
  have hnb60 := rel.2.1
  have hib := rel.2.2.1
  have hfM := lw_fM hg inv
  obtain rfl | ⟨k, rfl⟩ := lw_n n
  · skip
    refine lv_aload_n hx hb d_law_491 rfl (lv_at hl 2 rfl) ?_
    refine k_pure (r := .int (-3)) (W.runV (As := []) (rest := []) ⟨hx, hb, hml, hown, hts⟩ (c_BG_drop_no l g H I M x 0 its nb bs ib inv rfl) (cwV 0 hts (kV_good kw_561 kw_558 kw_559 kw_560 kw_1) rfl rfl rfl (by decide +kernel) ⟨Nat.le_of_ble_eq_true rfl, Nat.le_of_ble_eq_true rfl⟩) (k_preV (KK_st g) hKK (inv.recv hK)) rfl rfl hl.1 rfl (lv_room (Nat.le_of_ble_eq_true rfl)) d_law_492 ⟨by show _ ≤ 600000; omega, by show _ ≤ 7302250; omega⟩) ?_
    refine lv_aload_n hx hb d_law_495 rfl (lv_at hl 1 rfl) ?_
    refine k_pure (r := .int (-3)) (W.runV (As := []) (rest := [.int (-3)]) ⟨hx, hb, hml, hown, hts⟩ (c_Mod_drop_no l g H m0 ad 0 ib nb F G hMd rfl) (cwV 0 hts (kV_good kw_775 kw_772 kw_773 kw_774 kw_5) rfl rfl rfl (by decide +kernel) ⟨Nat.le_of_ble_eq_true rfl, Nat.le_of_ble_eq_true rfl⟩) (k_preV (KK_st g) hKK (va_recv hK (k_one hMd.1) (ci := 10) (q0 := 0) rfl rfl)) rfl rfl hl.1 rfl (lv_room (Nat.le_of_ble_eq_true rfl)) d_law_496 ⟨by show _ ≤ 600000; omega, by show _ ≤ 7302250; omega⟩) ?_
    refine lv_icmp_eq (tgt := 517) hx hb d_law_499 (by decide) (fun c_1 => ?_) (fun c_1 => ?_)
    rotate_left
    · exact absurd c_1 (fun q => q rfl)
    refine W.widen (k := cells + 103) (n := slots + 5109) (by omega) (by omega) ?_
    exact kk _ _ _ _ _ _ _ _ _ H locs ls ⟨inv, hMd, rel, sep, hLc⟩ (lv_sub (l := [(3, .int (nI i)), (2, .ref m0), (1, .ref x), (0, .ref b)]) hl [0, 1, 2, 3] rfl)
  · skip
    refine lv_aload_n hx hb d_law_491 rfl (lv_at hl 2 rfl) ?_
    refine k_call (A := (fun q : Nat => s.heap.size ≤ q)) (W.runV (As := []) (rest := []) ⟨hx, hb, hml, hown, hts⟩ (c_BG_drop_ok l g H I M x k its nb bs ib inv) (cwV 0 hts (kV_good kw_561 kw_558 kw_559 kw_560 kw_1) rfl rfl rfl (by decide +kernel) ⟨Nat.le_of_ble_eq_true rfl, Nat.le_of_ble_eq_true rfl⟩) (k_preV (KK_st g) hKK (inv.recv hK)) rfl rfl hl.1 rfl (lv_room (Nat.le_of_ble_eq_true rfl)) d_law_492 ⟨by show _ ≤ 600000; omega, by show _ ≤ 7302250; omega⟩) hLc hfM (fun v H1 locs hv hLc => ?_)
    obtain ⟨rfl, hE, J, N, inv, hN, hJ⟩ := hv
    obtain ⟨hMd, sep⟩ := lw_cls hMd sep hE hN hJ
    have hS := lw_S hg inv hLc
    skip
    refine lv_aload_n hx hb d_law_495 rfl (lv_at hl 1 rfl) ?_
    refine k_call (A := (fun q : Nat => s.heap.size ≤ q)) (W.runV (As := []) (rest := [.int (nI k)]) ⟨hx, hb, hml, hown, hts⟩ (c_Mod_drop_ok l g H1 m0 ad (k + 1) ib nb F G hMd k rfl (by omega)) (cwV 0 hts (kV_good kw_775 kw_772 kw_773 kw_774 kw_5) rfl rfl rfl (by decide +kernel) ⟨Nat.le_of_ble_eq_true rfl, Nat.le_of_ble_eq_true rfl⟩) (k_preV (KK_st g) hKK (va_recv hK (k_one hMd.1) (ci := 10) (q0 := 0) rfl rfl)) rfl rfl hl.1 rfl (lv_room (Nat.le_of_ble_eq_true rfl)) d_law_496 ⟨by show _ ≤ 600000; omega, by show _ ≤ 7302250; omega⟩) hLc (fun q h => (sep q h).2.2.1) (fun v H2 locs hv hLc => ?_)
    obtain ⟨rfl, hE2, hMd⟩ := hv
    obtain ⟨inv, sep⟩ := lw_ref hg inv sep hE2
    refine lv_icmp_eq (tgt := 517) hx hb d_law_499 (by decide) (fun c_1 => ?_) (fun c_1 => ?_)
    rotate_left
    · exact absurd c_1 (fun q => q rfl)
    refine W.widen (k := cells + 103) (n := slots + 5109) (by omega) (by omega) ?_
    exact kk _ _ _ _ _ _ _ _ _ H2 locs ls ⟨inv, hMd, rel_drop rel, sep, hLc⟩ (lv_sub (l := [(3, .int (nI i)), (2, .ref m0), (1, .ref x), (0, .ref b)]) hl [0, 1, 2, 3] rfl)
set_option maxHeartbeats 4000000 in
set_option maxRecDepth 100000 in
theorem lw_boxes {p : Program} {l : Launch} {e : Env} {s : State} {m : MethodId} {below : List Frame} {meth : Method} {c : Code} {b L : Nat} {xs : Nat → Int32} {g : KGt} {x m0 : Nat} {ad : Nat → Nat} (C0 : lw_At p s m meth c b L xs) (hKK : KK g s) (hg : g.2.2.1 = s.heap) {I M : Nat → Prop} {n : Nat} {its : Nat → Nat → Int32} {nb : Nat} {bs : Nat → BxT} {ib : Nat} {F : Nat → Nat → Int32} {G : Nat → Nat → Int64} {H : Heap} {locs : List Loc} (hI : lw_I g s x m0 ad I M n its nb bs ib F G H locs) {i cells slots : Nat} (hL3 : L ≤ 3072) (hi : i + 6 ≤ L) (hce : cells + 103 ≤ 600000) (hsl : slots + 5109 ≤ 7302250) {ls : Array Slot} (hl : lv_has ls 4 [(3, .int (nI i)), (2, .ref m0), (1, .ref x), (0, .ref b)]) (kk : (∀ (I M : Nat → Prop) (n : Nat) (its : Nat → Nat → Int32) (nb : Nat) (bs : Nat → BxT) (ib : Nat) (F : Nat → Nat → Int32) (G : Nat → Nat → Int64) (H : Heap) (locs : List Loc) (ls : Array Slot), lw_I g s x m0 ad I M n its nb bs ib F G H locs → lv_has ls 4 [(3, .int (nI i)), (2, .ref m0), (1, .ref x), (0, .ref b)] → W p l e room_1 s m #[Value.ref b] below meth c H locs (cells + 103) (slots + 5109) (lw_Z below #[Value.ref b] s) (F0 m 517 ls []))) : W p l e room_1 s m #[Value.ref b] below meth c H locs cells slots (lw_Z below #[Value.ref b] s) (F0 m 504 ls []) := by
  obtain ⟨hx, hb, hr, hml, hown, hts0, hX, hbl, hlocks, hgv⟩ := id C0
  have hts : ∀ w ∈ kG, w.before #[Value.ref b] s = true := fun w hw => hts0 w (kG_in hw)
  have hown : s.vm.findClass "BoxGlueLaw" = some m.cls := hown
  have hK := hKK.1
  obtain ⟨inv, hMd, rel, sep, hLc⟩ := hI
  have hbA : ¬ (fun q : Nat => s.heap.size ≤ q) b := Nat.not_le.mpr hbl
  have hS := lw_S hg inv hLc
  have hn40 := rel.1
  have hnb60 := rel.2.1
  have hib := rel.2.2.1
  have hfM := lw_fM hg inv
  · skip
    refine lv_aload_n hx hb d_law_504 rfl (lv_at hl 2 rfl) ?_
    refine k_pure (r := .int (nI nb)) (W.runV (As := []) (rest := []) ⟨hx, hb, hml, hown, hts⟩ (c_BG_boxes l g H I M x n its nb bs ib inv) (cwV 0 hts (kV_good kw_574 kw_571 kw_572 kw_573 kw_1) rfl rfl rfl (by decide +kernel) ⟨Nat.le_of_ble_eq_true rfl, Nat.le_of_ble_eq_true rfl⟩) (k_preV (KK_st g) hKK (inv.recv hK)) rfl rfl hl.1 rfl (lv_room (Nat.le_of_ble_eq_true rfl)) d_law_505 ⟨by show _ ≤ 600000; omega, by show _ ≤ 7302250; omega⟩) ?_
    refine lv_aload_n hx hb d_law_508 rfl (lv_at hl 1 rfl) ?_
    refine k_pure (r := .int (nI nb)) (W.runV (As := []) (rest := [.int (nI nb)]) ⟨hx, hb, hml, hown, hts⟩ (c_Mod_boxes l g H m0 ad n ib nb F G hMd) (cwV 0 hts (kV_good kw_779 kw_776 kw_777 kw_778 kw_5) rfl rfl rfl (by decide +kernel) ⟨Nat.le_of_ble_eq_true rfl, Nat.le_of_ble_eq_true rfl⟩) (k_preV (KK_st g) hKK (va_recv hK (k_one hMd.1) (ci := 10) (q0 := 0) rfl rfl)) rfl rfl hl.1 rfl (lv_room (Nat.le_of_ble_eq_true rfl)) d_law_509 ⟨by show _ ≤ 600000; omega, by show _ ≤ 7302250; omega⟩) ?_
    refine lv_icmp_eq (tgt := 517) hx hb d_law_512 (by decide) (fun c_1 => ?_) (fun c_1 => ?_)
    rotate_left
    · exact absurd c_1 (fun q => q rfl)
    refine W.widen (k := cells + 103) (n := slots + 5109) (by omega) (by omega) ?_
    exact kk _ _ _ _ _ _ _ _ _ H locs ls ⟨inv, hMd, rel, sep, hLc⟩ (lv_sub (l := [(3, .int (nI i)), (2, .ref m0), (1, .ref x), (0, .ref b)]) hl [0, 1, 2, 3] rfl)

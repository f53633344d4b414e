/-! the reference: copy, unpack -/
def mo_cp (F : Nat → Nat → Int32) (i j n : Nat) : Nat → Nat → Int32 := fun k a => if k < n ∧ a = j then F k i else F k a
theorem mo_cp_0 (F : Nat → Nat → Int32) (i j : Nat) : mo_cp F i j 0 = F := by
  funext k a
  unfold mo_cp
  rw [if_neg (by omega)]
theorem mo_cp_r (F : Nat → Nat → Int32) (i j n : Nat) : mo_cp F i j n n i = F n i := by
  unfold mo_cp
  rw [if_neg (by omega)]
theorem mo_cp_s (F : Nat → Nat → Int32) (i j n n1 : Nat) (h : n1 = n + 1) : mF (mo_cp F i j n) n j (F n i) = mo_cp F i j n1 := by
  subst h
  funext k a
  by_cases e : k = n
  · subst e
    by_cases ea : a = j
    · subst ea
      rw [mF_self]
      unfold mo_cp
      rw [if_pos ⟨by omega, rfl⟩]
    · rw [mF_ne ea]
      unfold mo_cp
      rw [if_neg (by omega), if_neg (by omega)]
  · rw [mF_row e]
    unfold mo_cp
    by_cases ek : k < n ∧ a = j
    · rw [if_pos ek, if_pos ⟨by omega, ek.2⟩]
    · rw [if_neg ek, if_neg (by omega)]
def mg_cp (G : Nat → Nat → Int64) (i j : Nat) : Nat → Nat → Int64 := mG (mG G 10 j (G 10 i)) 11 j (G 11 i)
theorem mG_self {G : Nat → Nat → Int64} {k j : Nat} {x : Int64} : mG G k j x k j = x := by
  unfold mG vp_updL
  rw [if_pos rfl, if_pos rfl]
theorem mG_row {G : Nat → Nat → Int64} {k k2 j : Nat} {x : Int64} (h : k2 ≠ k) : mG G k j x k2 = G k2 := if_neg h
theorem mG_ne {G : Nat → Nat → Int64} {k j j2 k2 : Nat} {x : Int64} (h : j2 ≠ j) : mG G k j x k2 j2 = G k2 j2 := by
  unfold mG
  by_cases e : k2 = k
  · rw [if_pos e, e]
    unfold vp_updL
    rw [if_neg h]
  · rw [if_neg e]
theorem mg_cp_at (G : Nat → Nat → Int64) (i j k a : Nat) : mg_cp G i j k a = if (k = 10 ∨ k = 11) ∧ a = j then G k i else G k a := by
  unfold mg_cp
  by_cases ea : a = j
  · subst ea
    by_cases e1 : k = 11
    · subst e1
      rw [mG_self, if_pos ⟨Or.inr rfl, rfl⟩]
    · rw [mG_row e1]
      by_cases e0 : k = 10
      · subst e0
        rw [mG_self, if_pos ⟨Or.inl rfl, rfl⟩]
      · rw [mG_row e0, if_neg (by omega)]
  · rw [mG_ne ea, mG_ne ea, if_neg (fun h => ea h.2)]
def mo_cps (F : Nat → Nat → Int32) (s d n : Nat) : Nat → Nat → Int32 := fun k a => if k < 10 ∧ d ≤ a ∧ a < d + n then F k (s + (a - d)) else F k a
def mg_cps (G : Nat → Nat → Int64) (s d n : Nat) : Nat → Nat → Int64 := fun k a => if (k = 10 ∨ k = 11) ∧ d ≤ a ∧ a < d + n then G k (s + (a - d)) else G k a
theorem mo_cps_0 (F : Nat → Nat → Int32) (s d : Nat) : mo_cps F s d 0 = F := by
  funext k a
  unfold mo_cps
  rw [if_neg (by omega)]
theorem mg_cps_0 (G : Nat → Nat → Int64) (s d : Nat) : mg_cps G s d 0 = G := by
  funext k a
  unfold mg_cps
  rw [if_neg (by omega)]
theorem mo_cps_hi {F : Nat → Nat → Int32} {s d n k a : Nat} (h : 10 ≤ k) : mo_cps F s d n k a = F k a := by
  unfold mo_cps
  rw [if_neg (by omega)]
theorem mo_cps_s (F : Nat → Nat → Int32) (s d i : Nat) (h : d ≤ s ∨ s + i < d) : mo_cp (mo_cps F s d i) (s + i) (d + i) 10 = mo_cps F s d (i + 1) := by
  funext k a
  unfold mo_cp mo_cps
  by_cases e : k < 10 ∧ a = d + i
  · rw [if_pos e, if_neg (by omega), if_pos ⟨e.1, by omega, by omega⟩, e.2, show s + (d + i - d) = s + i by omega]
  · rw [if_neg e]
    by_cases e2 : k < 10 ∧ d ≤ a ∧ a < d + i
    · rw [if_pos e2, if_pos ⟨e2.1, e2.2.1, by omega⟩]
    · rw [if_neg e2, if_neg (by omega)]
theorem mg_cps_s (G : Nat → Nat → Int64) (s d i : Nat) (h : d ≤ s ∨ s + i < d) : mg_cp (mg_cps G s d i) (s + i) (d + i) = mg_cps G s d (i + 1) := by
  funext k a
  rw [mg_cp_at]
  unfold mg_cps
  by_cases e : (k = 10 ∨ k = 11) ∧ a = d + i
  · rw [if_pos e, if_neg (by omega), if_pos ⟨e.1, by omega, by omega⟩, e.2, show s + (d + i - d) = s + i by omega]
  · rw [if_neg e]
    by_cases e2 : (k = 10 ∨ k = 11) ∧ d ≤ a ∧ a < d + i
    · rw [if_pos e2, if_pos ⟨e2.1, e2.2.1, by omega⟩]
    · rw [if_neg e2, if_neg (by omega)]
set_option maxHeartbeats 4000000 in
set_option maxRecDepth 100000 in
theorem c_Mod_copy (l : Launch) (g : KGt) (H0 : Heap) (m0 : Nat) (ad : Nat → Nat) (sz us bx : Nat) (F : Nat → Nat → Int32) (G : Nat → Nat → Int64) (hM : kMod g m0 ad sz us bx F G H0) (i j : Nat) (hi : i < 340) (hj : j < 340) : Met l y_Mod_copy (kW y_Mod_copy b_Mod_copy 3 (.none : Option FieldType)) ({ frames := 0, cells := 0, slots := 0, locals := 0 }) (kPc [.ref m0, .int (nI i), .int (nI j)] (KK g) H0) (kQc (fun v H1 => v = none ∧ kE (mA m0 ad) H0 H1 ∧ kMod g m0 ad sz us bx (mo_cp F i j 10) (mg_cp G i j) H1)) 0 0 (mA m0 ad) := by
  refine Met.ofW (cc := b_Mod_copy) (maxL := 3) (ret := (.none : Option FieldType)) (by decide) rfl ?_
  intro p e s m args below meth c s₁ B hml hv
  obtain ⟨rfl, hH, hKK⟩ := hv
  have hx := B.exec
  have hb := B.bytes
  have hr := B.returns
  have hts := kW_ts (atoms_spec (ws := kW y_Mod_copy b_Mod_copy 3 (.none : Option FieldType)) B.pre)
  have hown : s.vm.findClass "BoxGlueModel" = some m.cls := findClass_of_methodNamed B.named
  have hlocks := B.notSynchronized
  have hK := hKK.1
  subst hH
  have hl := lv_entry ([.ref m0, .int (nI i), .int (nI j)]) (n := 3) (Nat.le_of_ble_eq_true rfl)
  rw [lg_entry_eq]
  generalize (lg_sl ([.ref m0, .int (nI i), .int (nI j)]) ++ List.replicate (3 - (lg_sl ([.ref m0, .int (nI i), .int (nI j)])).length) Slot.unset).toArray = ls at hl ⊢
  have hl : lv_has ls 3 [(0, .ref m0), (1, .int (nI i)), (2, .int (nI j))] := hl
  have hM : kMod g m0 ad sz us bx (mo_cp F i j 0) G s.heap := by rw [mo_cp_0]; exact hM
  refine lv_aload_n hx hb d_Mod_copy_0 rfl (lv_at hl 0 rfl) ?_
  refine va_get (D := g.1) (ci := 10) (v := .ref (ad 0)) (C := "BoxGlueModel") (T := kT_Mod) (N := 24) hx hb hts ki_Mod hown hK (k_one hM.1) 0 rfl rfl 0 (by decide) (hts _ kw_581) (fun _ h9 => h9) rfl d_Mod_copy_1 ?_
  refine lv_iload_n hx hb d_Mod_copy_4 rfl (lv_at hl 2 rfl) ?_
  refine lv_aload_n hx hb d_Mod_copy_5 rfl (lv_at hl 0 rfl) ?_
  refine va_get (D := g.1) (ci := 10) (v := .ref (ad 0)) (C := "BoxGlueModel") (T := kT_Mod) (N := 24) hx hb hts ki_Mod hown hK (k_one hM.1) 0 rfl rfl 0 (by decide) (hts _ kw_581) (fun _ h9 => h9) rfl d_Mod_copy_6 ?_
  refine lv_iload_n hx hb d_Mod_copy_9 rfl (lv_at hl 1 rfl) ?_
  refine m_iald hx hb hK hM 0 i (Or.inl (by decide)) (show i < 340 by omega) d_Mod_copy_10 ?_
  rw [mo_cp_r]
  refine m_iast hx hb hK hM (fun _ h => by cases h) 0 j (Or.inl (by decide)) (show j < 340 by omega) d_Mod_copy_11 (fun H locs hM hE1 hL => ?_)
  have hE : kE (mA m0 ad) s.heap H := hE1
  rw [mo_cp_s F i j 0 1 rfl] at hM
  refine lv_aload_n hx hb d_Mod_copy_12 rfl (lv_at hl 0 rfl) ?_
  refine va_get (D := g.1) (ci := 10) (v := .ref (ad 1)) (C := "BoxGlueModel") (T := kT_Mod) (N := 24) hx hb hts ki_Mod hown hK (k_one hM.1) 0 rfl rfl 1 (by decide) (hts _ kw_582) (fun _ h9 => h9) rfl d_Mod_copy_13 ?_
  refine lv_iload_n hx hb d_Mod_copy_16 rfl (lv_at hl 2 rfl) ?_
  refine lv_aload_n hx hb d_Mod_copy_17 rfl (lv_at hl 0 rfl) ?_
  refine va_get (D := g.1) (ci := 10) (v := .ref (ad 1)) (C := "BoxGlueModel") (T := kT_Mod) (N := 24) hx hb hts ki_Mod hown hK (k_one hM.1) 0 rfl rfl 1 (by decide) (hts _ kw_582) (fun _ h9 => h9) rfl d_Mod_copy_18 ?_
  refine lv_iload_n hx hb d_Mod_copy_21 rfl (lv_at hl 1 rfl) ?_
  refine m_iald hx hb hK hM 1 i (Or.inl (by decide)) (show i < 340 by omega) d_Mod_copy_22 ?_
  rw [mo_cp_r]
  refine m_iast hx hb hK hM hL 1 j (Or.inl (by decide)) (show j < 340 by omega) d_Mod_copy_23 (fun H locs hM hE1 hL => ?_)
  have hE : kE (mA m0 ad) s.heap H := hE.tr hE1 (fun _ _ h => h)
  rw [mo_cp_s F i j 1 2 rfl] at hM
  refine lv_aload_n hx hb d_Mod_copy_24 rfl (lv_at hl 0 rfl) ?_
  refine va_get (D := g.1) (ci := 10) (v := .ref (ad 2)) (C := "BoxGlueModel") (T := kT_Mod) (N := 24) hx hb hts ki_Mod hown hK (k_one hM.1) 0 rfl rfl 2 (by decide) (hts _ kw_583) (fun _ h9 => h9) rfl d_Mod_copy_25 ?_
  refine lv_iload_n hx hb d_Mod_copy_28 rfl (lv_at hl 2 rfl) ?_
  refine lv_aload_n hx hb d_Mod_copy_29 rfl (lv_at hl 0 rfl) ?_
  refine va_get (D := g.1) (ci := 10) (v := .ref (ad 2)) (C := "BoxGlueModel") (T := kT_Mod) (N := 24) hx hb hts ki_Mod hown hK (k_one hM.1) 0 rfl rfl 2 (by decide) (hts _ kw_583) (fun _ h9 => h9) rfl d_Mod_copy_30 ?_
  refine lv_iload_n hx hb d_Mod_copy_33 rfl (lv_at hl 1 rfl) ?_
  refine m_iald hx hb hK hM 2 i (Or.inl (by decide)) (show i < 340 by omega) d_Mod_copy_34 ?_
  rw [mo_cp_r]
  refine m_iast hx hb hK hM hL 2 j (Or.inl (by decide)) (show j < 340 by omega) d_Mod_copy_35 (fun H locs hM hE1 hL => ?_)
  have hE : kE (mA m0 ad) s.heap H := hE.tr hE1 (fun _ _ h => h)
  rw [mo_cp_s F i j 2 3 rfl] at hM
  refine lv_aload_n hx hb d_Mod_copy_36 rfl (lv_at hl 0 rfl) ?_
  refine va_get (D := g.1) (ci := 10) (v := .ref (ad 3)) (C := "BoxGlueModel") (T := kT_Mod) (N := 24) hx hb hts ki_Mod hown hK (k_one hM.1) 0 rfl rfl 3 (by decide) (hts _ kw_584) (fun _ h9 => h9) rfl d_Mod_copy_37 ?_
  refine lv_iload_n hx hb d_Mod_copy_40 rfl (lv_at hl 2 rfl) ?_
  refine lv_aload_n hx hb d_Mod_copy_41 rfl (lv_at hl 0 rfl) ?_
  refine va_get (D := g.1) (ci := 10) (v := .ref (ad 3)) (C := "BoxGlueModel") (T := kT_Mod) (N := 24) hx hb hts ki_Mod hown hK (k_one hM.1) 0 rfl rfl 3 (by decide) (hts _ kw_584) (fun _ h9 => h9) rfl d_Mod_copy_42 ?_
  refine lv_iload_n hx hb d_Mod_copy_45 rfl (lv_at hl 1 rfl) ?_
  refine m_iald hx hb hK hM 3 i (Or.inl (by decide)) (show i < 340 by omega) d_Mod_copy_46 ?_
  rw [mo_cp_r]
  refine m_iast hx hb hK hM hL 3 j (Or.inl (by decide)) (show j < 340 by omega) d_Mod_copy_47 (fun H locs hM hE1 hL => ?_)
  have hE : kE (mA m0 ad) s.heap H := hE.tr hE1 (fun _ _ h => h)
  rw [mo_cp_s F i j 3 4 rfl] at hM
  refine lv_aload_n hx hb d_Mod_copy_48 rfl (lv_at hl 0 rfl) ?_
  refine va_get (D := g.1) (ci := 10) (v := .ref (ad 4)) (C := "BoxGlueModel") (T := kT_Mod) (N := 24) hx hb hts ki_Mod hown hK (k_one hM.1) 0 rfl rfl 4 (by decide) (hts _ kw_585) (fun _ h9 => h9) rfl d_Mod_copy_49 ?_
  refine lv_iload_n hx hb d_Mod_copy_52 rfl (lv_at hl 2 rfl) ?_
  refine lv_aload_n hx hb d_Mod_copy_53 rfl (lv_at hl 0 rfl) ?_
  refine va_get (D := g.1) (ci := 10) (v := .ref (ad 4)) (C := "BoxGlueModel") (T := kT_Mod) (N := 24) hx hb hts ki_Mod hown hK (k_one hM.1) 0 rfl rfl 4 (by decide) (hts _ kw_585) (fun _ h9 => h9) rfl d_Mod_copy_54 ?_
  refine lv_iload_n hx hb d_Mod_copy_57 rfl (lv_at hl 1 rfl) ?_
  refine m_iald hx hb hK hM 4 i (Or.inl (by decide)) (show i < 340 by omega) d_Mod_copy_58 ?_
  rw [mo_cp_r]
  refine m_iast hx hb hK hM hL 4 j (Or.inl (by decide)) (show j < 340 by omega) d_Mod_copy_59 (fun H locs hM hE1 hL => ?_)
  have hE : kE (mA m0 ad) s.heap H := hE.tr hE1 (fun _ _ h => h)
  rw [mo_cp_s F i j 4 5 rfl] at hM
  refine lv_aload_n hx hb d_Mod_copy_60 rfl (lv_at hl 0 rfl) ?_
  refine va_get (D := g.1) (ci := 10) (v := .ref (ad 5)) (C := "BoxGlueModel") (T := kT_Mod) (N := 24) hx hb hts ki_Mod hown hK (k_one hM.1) 0 rfl rfl 5 (by decide) (hts _ kw_586) (fun _ h9 => h9) rfl d_Mod_copy_61 ?_
  refine lv_iload_n hx hb d_Mod_copy_64 rfl (lv_at hl 2 rfl) ?_
  refine lv_aload_n hx hb d_Mod_copy_65 rfl (lv_at hl 0 rfl) ?_
  refine va_get (D := g.1) (ci := 10) (v := .ref (ad 5)) (C := "BoxGlueModel") (T := kT_Mod) (N := 24) hx hb hts ki_Mod hown hK (k_one hM.1) 0 rfl rfl 5 (by decide) (hts _ kw_586) (fun _ h9 => h9) rfl d_Mod_copy_66 ?_
  refine lv_iload_n hx hb d_Mod_copy_69 rfl (lv_at hl 1 rfl) ?_
  refine m_iald hx hb hK hM 5 i (Or.inl (by decide)) (show i < 340 by omega) d_Mod_copy_70 ?_
  rw [mo_cp_r]
  refine m_iast hx hb hK hM hL 5 j (Or.inl (by decide)) (show j < 340 by omega) d_Mod_copy_71 (fun H locs hM hE1 hL => ?_)
  have hE : kE (mA m0 ad) s.heap H := hE.tr hE1 (fun _ _ h => h)
  rw [mo_cp_s F i j 5 6 rfl] at hM
  refine lv_aload_n hx hb d_Mod_copy_72 rfl (lv_at hl 0 rfl) ?_
  refine va_get (D := g.1) (ci := 10) (v := .ref (ad 6)) (C := "BoxGlueModel") (T := kT_Mod) (N := 24) hx hb hts ki_Mod hown hK (k_one hM.1) 0 rfl rfl 6 (by decide) (hts _ kw_587) (fun _ h9 => h9) rfl d_Mod_copy_73 ?_
  refine lv_iload_n hx hb d_Mod_copy_76 rfl (lv_at hl 2 rfl) ?_
  refine lv_aload_n hx hb d_Mod_copy_77 rfl (lv_at hl 0 rfl) ?_
  refine va_get (D := g.1) (ci := 10) (v := .ref (ad 6)) (C := "BoxGlueModel") (T := kT_Mod) (N := 24) hx hb hts ki_Mod hown hK (k_one hM.1) 0 rfl rfl 6 (by decide) (hts _ kw_587) (fun _ h9 => h9) rfl d_Mod_copy_78 ?_
  refine lv_iload_n hx hb d_Mod_copy_81 rfl (lv_at hl 1 rfl) ?_
  refine m_iald hx hb hK hM 6 i (Or.inl (by decide)) (show i < 340 by omega) d_Mod_copy_82 ?_
  rw [mo_cp_r]
  refine m_iast hx hb hK hM hL 6 j (Or.inl (by decide)) (show j < 340 by omega) d_Mod_copy_83 (fun H locs hM hE1 hL => ?_)
  have hE : kE (mA m0 ad) s.heap H := hE.tr hE1 (fun _ _ h => h)
  rw [mo_cp_s F i j 6 7 rfl] at hM
  refine lv_aload_n hx hb d_Mod_copy_84 rfl (lv_at hl 0 rfl) ?_
  refine va_get (D := g.1) (ci := 10) (v := .ref (ad 7)) (C := "BoxGlueModel") (T := kT_Mod) (N := 24) hx hb hts ki_Mod hown hK (k_one hM.1) 0 rfl rfl 7 (by decide) (hts _ kw_588) (fun _ h9 => h9) rfl d_Mod_copy_85 ?_
  refine lv_iload_n hx hb d_Mod_copy_88 rfl (lv_at hl 2 rfl) ?_
  refine lv_aload_n hx hb d_Mod_copy_89 rfl (lv_at hl 0 rfl) ?_
  refine va_get (D := g.1) (ci := 10) (v := .ref (ad 7)) (C := "BoxGlueModel") (T := kT_Mod) (N := 24) hx hb hts ki_Mod hown hK (k_one hM.1) 0 rfl rfl 7 (by decide) (hts _ kw_588) (fun _ h9 => h9) rfl d_Mod_copy_90 ?_
  refine lv_iload_n hx hb d_Mod_copy_93 rfl (lv_at hl 1 rfl) ?_
  refine m_iald hx hb hK hM 7 i (Or.inl (by decide)) (show i < 340 by omega) d_Mod_copy_94 ?_
  rw [mo_cp_r]
  refine m_iast hx hb hK hM hL 7 j (Or.inl (by decide)) (show j < 340 by omega) d_Mod_copy_95 (fun H locs hM hE1 hL => ?_)
  have hE : kE (mA m0 ad) s.heap H := hE.tr hE1 (fun _ _ h => h)
  rw [mo_cp_s F i j 7 8 rfl] at hM
  refine lv_aload_n hx hb d_Mod_copy_96 rfl (lv_at hl 0 rfl) ?_
  refine va_get (D := g.1) (ci := 10) (v := .ref (ad 8)) (C := "BoxGlueModel") (T := kT_Mod) (N := 24) hx hb hts ki_Mod hown hK (k_one hM.1) 0 rfl rfl 8 (by decide) (hts _ kw_589) (fun _ h9 => h9) rfl d_Mod_copy_97 ?_
  refine lv_iload_n hx hb d_Mod_copy_100 rfl (lv_at hl 2 rfl) ?_
  refine lv_aload_n hx hb d_Mod_copy_101 rfl (lv_at hl 0 rfl) ?_
  refine va_get (D := g.1) (ci := 10) (v := .ref (ad 8)) (C := "BoxGlueModel") (T := kT_Mod) (N := 24) hx hb hts ki_Mod hown hK (k_one hM.1) 0 rfl rfl 8 (by decide) (hts _ kw_589) (fun _ h9 => h9) rfl d_Mod_copy_102 ?_
  refine lv_iload_n hx hb d_Mod_copy_105 rfl (lv_at hl 1 rfl) ?_
  refine m_iald hx hb hK hM 8 i (Or.inl (by decide)) (show i < 340 by omega) d_Mod_copy_106 ?_
  rw [mo_cp_r]
  refine m_iast hx hb hK hM hL 8 j (Or.inl (by decide)) (show j < 340 by omega) d_Mod_copy_107 (fun H locs hM hE1 hL => ?_)
  have hE : kE (mA m0 ad) s.heap H := hE.tr hE1 (fun _ _ h => h)
  rw [mo_cp_s F i j 8 9 rfl] at hM
  refine lv_aload_n hx hb d_Mod_copy_108 rfl (lv_at hl 0 rfl) ?_
  refine va_get (D := g.1) (ci := 10) (v := .ref (ad 9)) (C := "BoxGlueModel") (T := kT_Mod) (N := 24) hx hb hts ki_Mod hown hK (k_one hM.1) 0 rfl rfl 9 (by decide) (hts _ kw_590) (fun _ h9 => h9) rfl d_Mod_copy_109 ?_
  refine lv_iload_n hx hb d_Mod_copy_112 rfl (lv_at hl 2 rfl) ?_
  refine lv_aload_n hx hb d_Mod_copy_113 rfl (lv_at hl 0 rfl) ?_
  refine va_get (D := g.1) (ci := 10) (v := .ref (ad 9)) (C := "BoxGlueModel") (T := kT_Mod) (N := 24) hx hb hts ki_Mod hown hK (k_one hM.1) 0 rfl rfl 9 (by decide) (hts _ kw_590) (fun _ h9 => h9) rfl d_Mod_copy_114 ?_
  refine lv_iload_n hx hb d_Mod_copy_117 rfl (lv_at hl 1 rfl) ?_
  refine m_iald hx hb hK hM 9 i (Or.inl (by decide)) (show i < 340 by omega) d_Mod_copy_118 ?_
  rw [mo_cp_r]
  refine m_iast hx hb hK hM hL 9 j (Or.inl (by decide)) (show j < 340 by omega) d_Mod_copy_119 (fun H locs hM hE1 hL => ?_)
  have hE : kE (mA m0 ad) s.heap H := hE.tr hE1 (fun _ _ h => h)
  rw [mo_cp_s F i j 9 10 rfl] at hM
  refine lv_aload_n hx hb d_Mod_copy_120 rfl (lv_at hl 0 rfl) ?_
  refine va_get (D := g.1) (ci := 10) (v := .ref (ad 10)) (C := "BoxGlueModel") (T := kT_Mod) (N := 24) hx hb hts ki_Mod hown hK (k_one hM.1) 0 rfl rfl 10 (by decide) (hts _ kw_591) (fun _ h9 => h9) rfl d_Mod_copy_121 ?_
  refine lv_iload_n hx hb d_Mod_copy_124 rfl (lv_at hl 2 rfl) ?_
  refine lv_aload_n hx hb d_Mod_copy_125 rfl (lv_at hl 0 rfl) ?_
  refine va_get (D := g.1) (ci := 10) (v := .ref (ad 10)) (C := "BoxGlueModel") (T := kT_Mod) (N := 24) hx hb hts ki_Mod hown hK (k_one hM.1) 0 rfl rfl 10 (by decide) (hts _ kw_591) (fun _ h9 => h9) rfl d_Mod_copy_126 ?_
  refine lv_iload_n hx hb d_Mod_copy_129 rfl (lv_at hl 1 rfl) ?_
  refine m_lald hx hb hK hM 10 i (by decide) (show i < 340 by omega) d_Mod_copy_130 ?_
  refine m_last hx hb hK hM hL 10 j (by decide) (show j < 340 by omega) d_Mod_copy_131 (fun H locs hM hE1 hL => ?_)
  have hE : kE (mA m0 ad) s.heap H := hE.tr hE1 (fun _ _ h => h)
  refine lv_aload_n hx hb d_Mod_copy_132 rfl (lv_at hl 0 rfl) ?_
  refine va_get (D := g.1) (ci := 10) (v := .ref (ad 11)) (C := "BoxGlueModel") (T := kT_Mod) (N := 24) hx hb hts ki_Mod hown hK (k_one hM.1) 0 rfl rfl 11 (by decide) (hts _ kw_592) (fun _ h9 => h9) rfl d_Mod_copy_133 ?_
  refine lv_iload_n hx hb d_Mod_copy_136 rfl (lv_at hl 2 rfl) ?_
  refine lv_aload_n hx hb d_Mod_copy_137 rfl (lv_at hl 0 rfl) ?_
  refine va_get (D := g.1) (ci := 10) (v := .ref (ad 11)) (C := "BoxGlueModel") (T := kT_Mod) (N := 24) hx hb hts ki_Mod hown hK (k_one hM.1) 0 rfl rfl 11 (by decide) (hts _ kw_592) (fun _ h9 => h9) rfl d_Mod_copy_138 ?_
  refine lv_iload_n hx hb d_Mod_copy_141 rfl (lv_at hl 1 rfl) ?_
  refine m_lald hx hb hK hM 11 i (by decide) (show i < 340 by omega) d_Mod_copy_142 ?_
  rw [mG_row (show 11 ≠ 10 by decide)]
  refine m_last hx hb hK hM hL 11 j (by decide) (show j < 340 by omega) d_Mod_copy_143 (fun H locs hM hE1 hL => ?_)
  have hE : kE (mA m0 ad) s.heap H := hE.tr hE1 (fun _ _ h => h)
  exact W.vret hx hb hr (fun t ht hW => ⟨_, rfl, rfl, by rw [ht]; exact hE, by rw [ht]; exact hM⟩) hL d_Mod_copy_144
set_option maxHeartbeats 4000000 in
set_option maxRecDepth 100000 in
theorem c_Mod_unpack_bad (l : Launch) (g : KGt) (H0 : Heap) (m0 : Nat) (ad : Nat → Nat) (sz us bx : Nat) (F : Nat → Nat → Int32) (G : Nat → Nat → Int64) (hM : kMod g m0 ad sz us bx F G H0) (p0 : Int32) (h : p0 < 0 ∨ nI bx ≤ p0) : Met l y_Mod_unpack (kW y_Mod_unpack b_Mod_unpack 3 (.some .int)) ({ frames := 1, cells := 0, slots := 0, locals := 21 }) (kPc [.ref m0, .int p0] (KK g) H0) (kQc (kPure (.int (-1)) H0)) 0 0 (fun _ => False) := by
  refine Met.ofW (cc := b_Mod_unpack) (maxL := 3) (ret := (.some .int)) (by decide) rfl ?_
  intro p e s m args below meth c s₁ B hml hv
  obtain ⟨rfl, hH, hKK⟩ := hv
  have hx := B.exec
  have hb := B.bytes
  have hr := B.returns
  have hts := kW_ts (atoms_spec (ws := kW y_Mod_unpack b_Mod_unpack 3 (.some .int)) B.pre)
  have hown : s.vm.findClass "BoxGlueModel" = some m.cls := findClass_of_methodNamed B.named
  have hlocks := B.notSynchronized
  have hK := hKK.1
  subst hH
  have hl := lv_entry ([.ref m0, .int p0]) (n := 3) (Nat.le_of_ble_eq_true rfl)
  rw [lg_entry_eq]
  generalize (lg_sl ([.ref m0, .int p0]) ++ List.replicate (3 - (lg_sl ([.ref m0, .int p0])).length) Slot.unset).toArray = ls at hl ⊢
  have hl : lv_has ls 3 [(0, .ref m0), (1, .int p0)] := hl
  refine lv_aload_n hx hb d_Mod_unpack_0 rfl (lv_at hl 0 rfl) ?_
  refine lv_iload_n hx hb d_Mod_unpack_1 rfl (lv_at hl 1 rfl) ?_
  refine k_pure (r := .int 0) (W.runV (As := [.int p0]) (rest := []) ⟨hx, hb, hml, hown, hts⟩ (c_Mod_isBox_no l g s.heap m0 ad sz us bx F G hM p0 h) (cwV 1 hts (kV_good kw_671 kw_668 kw_670 ks_Mod_isBox kw_5) rfl rfl rfl (by decide +kernel) ⟨Nat.le_of_ble_eq_true rfl, Nat.le_of_ble_eq_true rfl⟩) (k_preV (KK_st g) hKK (va_recv hK (k_one hM.1) (ci := 10) (q0 := 0) rfl rfl)) rfl rfl hl.1 rfl (lv_room (Nat.le_of_ble_eq_true rfl)) d_Mod_unpack_2 ⟨Nat.zero_le _, Nat.zero_le _⟩) ?_
  refine lv_if_ne (tgt := 10) hx hb d_Mod_unpack_5 (by decide) (fun c_1 => ?_) (fun c_1 => ?_)
  · exact absurd c_1 (fun q => q rfl)
  refine lv_iconst (v := (-1)) hx hb d_Mod_unpack_8 (by decide) ?_
  exact W.iret (v := (-1)) hx hb hr (fun t ht hW => ⟨_, rfl, rfl, ht⟩) (fun _ h => by cases h) d_Mod_unpack_9
set_option maxHeartbeats 4000000 in
set_option maxRecDepth 100000 in
theorem c_Mod_unpack_full (l : Launch) (g : KGt) (H0 : Heap) (m0 : Nat) (ad : Nat → Nat) (sz us bx : Nat) (F : Nat → Nat → Int32) (G : Nat → Nat → Int64) (hM : kMod g m0 ad sz us bx F G H0) (k : Nat) (hk : k < bx) (hb60 : bx ≤ 60) (cn : Nat) (hcn : F 19 k = nI cn) (hcn3 : cn ≤ 300) (hs40 : sz ≤ 40) (h : 40 < sz + cn) : Met l y_Mod_unpack (kW y_Mod_unpack b_Mod_unpack 3 (.some .int)) ({ frames := 1, cells := 0, slots := 0, locals := 21 }) (kPc [.ref m0, .int (nI k)] (KK g) H0) (kQc (kPure (.int (-2)) H0)) 0 0 (fun _ => False) := by
  refine Met.ofW (cc := b_Mod_unpack) (maxL := 3) (ret := (.some .int)) (by decide) rfl ?_
  intro p e s m args below meth c s₁ B hml hv
  obtain ⟨rfl, hH, hKK⟩ := hv
  have hx := B.exec
  have hb := B.bytes
  have hr := B.returns
  have hts := kW_ts (atoms_spec (ws := kW y_Mod_unpack b_Mod_unpack 3 (.some .int)) B.pre)
  have hown : s.vm.findClass "BoxGlueModel" = some m.cls := findClass_of_methodNamed B.named
  have hlocks := B.notSynchronized
  have hK := hKK.1
  subst hH
  have hl := lv_entry ([.ref m0, .int (nI k)]) (n := 3) (Nat.le_of_ble_eq_true rfl)
  rw [lg_entry_eq]
  generalize (lg_sl ([.ref m0, .int (nI k)]) ++ List.replicate (3 - (lg_sl ([.ref m0, .int (nI k)])).length) Slot.unset).toArray = ls at hl ⊢
  have hl : lv_has ls 3 [(0, .ref m0), (1, .int (nI k))] := hl
  refine lv_aload_n hx hb d_Mod_unpack_0 rfl (lv_at hl 0 rfl) ?_
  refine lv_iload_n hx hb d_Mod_unpack_1 rfl (lv_at hl 1 rfl) ?_
  refine k_pure (r := .int 1) (W.runV (As := [.int (nI k)]) (rest := []) ⟨hx, hb, hml, hown, hts⟩ (c_Mod_isBox_yes l g s.heap m0 ad sz us bx F G hM k hk hb60) (cwV 1 hts (kV_good kw_671 kw_668 kw_670 ks_Mod_isBox kw_5) rfl rfl rfl (by decide +kernel) ⟨Nat.le_of_ble_eq_true rfl, Nat.le_of_ble_eq_true rfl⟩) (k_preV (KK_st g) hKK (va_recv hK (k_one hM.1) (ci := 10) (q0 := 0) rfl rfl)) rfl rfl hl.1 rfl (lv_room (Nat.le_of_ble_eq_true rfl)) d_Mod_unpack_2 ⟨Nat.zero_le _, Nat.zero_le _⟩) ?_
  refine lv_if_ne (tgt := 10) hx hb d_Mod_unpack_5 (by decide) (fun c_1 => ?_) (fun c_1 => ?_)
  rotate_left
  · exact absurd c_1 (by decide)
  refine lv_aload_n hx hb d_Mod_unpack_10 rfl (lv_at hl 0 rfl) ?_
  refine va_get (D := g.1) (ci := 10) (v := .int (nI sz)) (C := "BoxGlueModel") (T := kT_Mod) (N := 24) hx hb hts ki_Mod hown hK (k_one hM.1) 0 rfl rfl 12 (by decide) (hts _ kw_593) (fun _ h9 => h9) rfl d_Mod_unpack_11 ?_
  refine lv_aload_n hx hb d_Mod_unpack_14 rfl (lv_at hl 0 rfl) ?_
  refine va_get (D := g.1) (ci := 10) (v := .ref (ad 19)) (C := "BoxGlueModel") (T := kT_Mod) (N := 24) hx hb hts ki_Mod hown hK (k_one hM.1) 0 rfl rfl 19 (by decide) (hts _ kw_600) (fun _ h9 => h9) rfl d_Mod_unpack_15 ?_
  refine lv_iload_n hx hb d_Mod_unpack_18 rfl (lv_at hl 1 rfl) ?_
  refine m_iald hx hb hK hM 19 k (Or.inr ⟨by decide, by decide⟩) (show k < 60 by omega) d_Mod_unpack_19 ?_
  rw [hcn]
  refine lv_iadd hx hb d_Mod_unpack_20 ?_
  rw [nI_add]
  refine lv_bipush (v := 40) hx hb d_Mod_unpack_21 (by decide) ?_
  refine lv_icmp_le (tgt := 29) hx hb d_Mod_unpack_23 (by decide) (fun c_2 => ?_) (fun c_2 => ?_)
  · exact absurd c_2 (by rw [show (40 : Int32) = nI 40 from rfl]; exact nI_ge h (by omega))
  refine lv_bipush (v := (-2)) hx hb d_Mod_unpack_26 (by decide) ?_
  exact W.iret (v := (-2)) hx hb hr (fun t ht hW => ⟨_, rfl, rfl, ht⟩) (fun _ h => by cases h) d_Mod_unpack_28
set_option maxHeartbeats 4000000 in
set_option maxRecDepth 100000 in
theorem c_Mod_unpack_ok (l : Launch) (g : KGt) (H0 : Heap) (m0 : Nat) (ad : Nat → Nat) (sz us bx : Nat) (F : Nat → Nat → Int32) (G : Nat → Nat → Int64) (hM : kMod g m0 ad sz us bx F G H0) (k : Nat) (hk : k < bx) (hb60 : bx ≤ 60) (cn : Nat) (hcn : F 19 k = nI cn) (h : sz + cn ≤ 40) (fr : Nat) (hfr : F 18 k = nI fr) (hf40 : 40 ≤ fr) (hf3 : fr + cn ≤ 340) : Met l y_Mod_unpack (kW y_Mod_unpack b_Mod_unpack 3 (.some .int)) ({ frames := 1, cells := 0, slots := 0, locals := 22 }) (kPc [.ref m0, .int (nI k)] (KK g) H0) (kQc (fun v H1 => v = some (.int (nI (sz + cn))) ∧ kE (mA m0 ad) H0 H1 ∧ kMod g m0 ad (sz + cn) us bx (mo_cps F fr sz cn) (mg_cps G fr sz cn) H1)) 0 0 (mA m0 ad) := by
  refine Met.ofW (cc := b_Mod_unpack) (maxL := 3) (ret := (.some .int)) (by decide) rfl ?_
  intro p e s m args below meth c s₁ B hml hv
  obtain ⟨rfl, hH, hKK⟩ := hv
  have hx := B.exec
  have hb := B.bytes
  have hr := B.returns
  have hts := kW_ts (atoms_spec (ws := kW y_Mod_unpack b_Mod_unpack 3 (.some .int)) B.pre)
  have hown : s.vm.findClass "BoxGlueModel" = some m.cls := findClass_of_methodNamed B.named
  have hlocks := B.notSynchronized
  have hK := hKK.1
  subst hH
  have hl := lv_entry ([.ref m0, .int (nI k)]) (n := 3) (Nat.le_of_ble_eq_true rfl)
  rw [lg_entry_eq]
  generalize (lg_sl ([.ref m0, .int (nI k)]) ++ List.replicate (3 - (lg_sl ([.ref m0, .int (nI k)])).length) Slot.unset).toArray = ls at hl ⊢
  have hl : lv_has ls 3 [(0, .ref m0), (1, .int (nI k))] := hl
  refine lv_aload_n hx hb d_Mod_unpack_0 rfl (lv_at hl 0 rfl) ?_
  refine lv_iload_n hx hb d_Mod_unpack_1 rfl (lv_at hl 1 rfl) ?_
  refine k_pure (r := .int 1) (W.runV (As := [.int (nI k)]) (rest := []) ⟨hx, hb, hml, hown, hts⟩ (c_Mod_isBox_yes l g s.heap m0 ad sz us bx F G hM k hk hb60) (cwV 1 hts (kV_good kw_671 kw_668 kw_670 ks_Mod_isBox kw_5) rfl rfl rfl (by decide +kernel) ⟨Nat.le_of_ble_eq_true rfl, Nat.le_of_ble_eq_true rfl⟩) (k_preV (KK_st g) hKK (va_recv hK (k_one hM.1) (ci := 10) (q0 := 0) rfl rfl)) rfl rfl hl.1 rfl (lv_room (Nat.le_of_ble_eq_true rfl)) d_Mod_unpack_2 ⟨Nat.zero_le _, Nat.zero_le _⟩) ?_
  refine lv_if_ne (tgt := 10) hx hb d_Mod_unpack_5 (by decide) (fun c_1 => ?_) (fun c_1 => ?_)
  rotate_left
  · exact absurd c_1 (by decide)
  refine lv_aload_n hx hb d_Mod_unpack_10 rfl (lv_at hl 0 rfl) ?_
  refine va_get (D := g.1) (ci := 10) (v := .int (nI sz)) (C := "BoxGlueModel") (T := kT_Mod) (N := 24) hx hb hts ki_Mod hown hK (k_one hM.1) 0 rfl rfl 12 (by decide) (hts _ kw_593) (fun _ h9 => h9) rfl d_Mod_unpack_11 ?_
  refine lv_aload_n hx hb d_Mod_unpack_14 rfl (lv_at hl 0 rfl) ?_
  refine va_get (D := g.1) (ci := 10) (v := .ref (ad 19)) (C := "BoxGlueModel") (T := kT_Mod) (N := 24) hx hb hts ki_Mod hown hK (k_one hM.1) 0 rfl rfl 19 (by decide) (hts _ kw_600) (fun _ h9 => h9) rfl d_Mod_unpack_15 ?_
  refine lv_iload_n hx hb d_Mod_unpack_18 rfl (lv_at hl 1 rfl) ?_
  refine m_iald hx hb hK hM 19 k (Or.inr ⟨by decide, by decide⟩) (show k < 60 by omega) d_Mod_unpack_19 ?_
  rw [hcn]
  refine lv_iadd hx hb d_Mod_unpack_20 ?_
  rw [nI_add]
  refine lv_bipush (v := 40) hx hb d_Mod_unpack_21 (by decide) ?_
  refine lv_icmp_le (tgt := 29) hx hb d_Mod_unpack_23 (by decide) (fun c_2 => ?_) (fun c_2 => ?_)
  rotate_left
  · exact absurd c_2 (fun q => q (by rw [show (40 : Int32) = nI 40 from rfl]; exact nI_le h (by decide)))
  refine lv_iconst (v := 0) hx hb d_Mod_unpack_29 (by decide) ?_
  refine lv_istore_n (lv' := [(2, .int 0), (0, .ref m0), (1, .int (nI k))]) hx hb d_Mod_unpack_30 rfl hl (by decide) rfl (fun ls hl => ?_)
  have key : ∀ (j i : Nat) (H : Heap) (locs : List Loc) (ls : Array Slot), i + j = cn → kMod g m0 ad sz us bx (mo_cps F fr sz i) (mg_cps G fr sz i) H → kE (mA m0 ad) s.heap H → (∀ q ∈ locs, mA m0 ad q.base) → lv_has ls 3 [(2, .int (nI i)), (1, .int (nI k)), (0, .ref m0)] → W p l e (headSpec (kW y_Mod_unpack b_Mod_unpack 3 (.some .int)) { frames := 1, cells := 0, slots := 0, locals := 22 }).room s m #[Value.ref m0, Value.int (nI k)] below meth c H locs 0 0 (MQ below (kQc (fun v H1 => v = some (.int (nI (sz + cn))) ∧ kE (mA m0 ad) s.heap H1 ∧ kMod g m0 ad (sz + cn) us bx (mo_cps F fr sz cn) (mg_cps G fr sz cn) H1)) #[Value.ref m0, Value.int (nI k)] s 0 0 (mA m0 ad)) (F0 m 31 ls []) := by
    intro j
    induction j with
    | zero =>
      intro i H locs ls hij hM hE hL hl
      refine lv_iload_n hx hb d_Mod_unpack_31 rfl (lv_at hl 0 rfl) ?_
      refine lv_aload_n hx hb d_Mod_unpack_32 rfl (lv_at hl 2 rfl) ?_
      refine va_get (D := g.1) (ci := 10) (v := .ref (ad 19)) (C := "BoxGlueModel") (T := kT_Mod) (N := 24) hx hb hts ki_Mod hown hK (k_one hM.1) 0 rfl rfl 19 (by decide) (hts _ kw_600) (fun _ h9 => h9) rfl d_Mod_unpack_33 ?_
      refine lv_iload_n hx hb d_Mod_unpack_36 rfl (lv_at hl 1 rfl) ?_
      refine m_iald hx hb hK hM 19 k (Or.inr ⟨by decide, by decide⟩) (show k < 60 by omega) d_Mod_unpack_37 ?_
      rw [mo_cps_hi (by decide)]
      rw [hcn]
      refine lv_icmp_ge (tgt := 65) hx hb d_Mod_unpack_38 (by decide) (fun c_3 => ?_) (fun c_3 => ?_)
      rotate_left
      · exact absurd c_3 (fun q => q (by rw [show i = cn by omega]; exact Int32.le_refl _))
      have ein : i = cn := by omega
      rw [ein] at hM
      refine lv_aload_n hx hb d_Mod_unpack_65 rfl (lv_at hl 2 rfl) ?_
      refine lv_dup hx hb d_Mod_unpack_66 rfl ?_
      refine va_get (D := g.1) (ci := 10) (v := .int (nI sz)) (C := "BoxGlueModel") (T := kT_Mod) (N := 24) hx hb hts ki_Mod hown hK (k_one hM.1) 0 rfl rfl 12 (by decide) (hts _ kw_593) (fun _ h9 => h9) rfl d_Mod_unpack_67 ?_
      refine lv_aload_n hx hb d_Mod_unpack_70 rfl (lv_at hl 2 rfl) ?_
      refine va_get (D := g.1) (ci := 10) (v := .ref (ad 19)) (C := "BoxGlueModel") (T := kT_Mod) (N := 24) hx hb hts ki_Mod hown hK (k_one hM.1) 0 rfl rfl 19 (by decide) (hts _ kw_600) (fun _ h9 => h9) rfl d_Mod_unpack_71 ?_
      refine lv_iload_n hx hb d_Mod_unpack_74 rfl (lv_at hl 1 rfl) ?_
      refine m_iald hx hb hK hM 19 k (Or.inr ⟨by decide, by decide⟩) (show k < 60 by omega) d_Mod_unpack_75 ?_
      rw [mo_cps_hi (by decide)]
      rw [hcn]
      refine lv_iadd hx hb d_Mod_unpack_76 ?_
      rw [nI_add]
      refine m_psz (sz2 := sz + cn) hx hb hts hown hK hM hL (hts _ kw_593) d_Mod_unpack_77 (fun H locs hM hE1 hL => ?_)
      have hE : kE (mA m0 ad) s.heap H := hE.tr hE1 (fun _ _ h => h)
      refine lv_aload_n hx hb d_Mod_unpack_80 rfl (lv_at hl 2 rfl) ?_
      refine va_get (D := g.1) (ci := 10) (v := .int (nI (sz + cn))) (C := "BoxGlueModel") (T := kT_Mod) (N := 24) hx hb hts ki_Mod hown hK (k_one hM.1) 0 rfl rfl 12 (by decide) (hts _ kw_593) (fun _ h9 => h9) rfl d_Mod_unpack_81 ?_
      exact W.iret (v := (nI (sz + cn))) hx hb hr (fun t ht hW => ⟨_, rfl, rfl, by rw [ht]; exact hE, by rw [ht]; exact hM⟩) hL d_Mod_unpack_84
    | succ j ih =>
      intro i H locs ls hij hM hE hL hl
      refine lv_iload_n hx hb d_Mod_unpack_31 rfl (lv_at hl 0 rfl) ?_
      refine lv_aload_n hx hb d_Mod_unpack_32 rfl (lv_at hl 2 rfl) ?_
      refine va_get (D := g.1) (ci := 10) (v := .ref (ad 19)) (C := "BoxGlueModel") (T := kT_Mod) (N := 24) hx hb hts ki_Mod hown hK (k_one hM.1) 0 rfl rfl 19 (by decide) (hts _ kw_600) (fun _ h9 => h9) rfl d_Mod_unpack_33 ?_
      refine lv_iload_n hx hb d_Mod_unpack_36 rfl (lv_at hl 1 rfl) ?_
      refine m_iald hx hb hK hM 19 k (Or.inr ⟨by decide, by decide⟩) (show k < 60 by omega) d_Mod_unpack_37 ?_
      rw [mo_cps_hi (by decide)]
      rw [hcn]
      refine lv_icmp_ge (tgt := 65) hx hb d_Mod_unpack_38 (by decide) (fun c_4 => ?_) (fun c_4 => ?_)
      · exact absurd c_4 (nI_ge (by omega) (by omega))
      refine lv_aload_n hx hb d_Mod_unpack_41 rfl (lv_at hl 2 rfl) ?_
      refine lv_aload_n hx hb d_Mod_unpack_42 rfl (lv_at hl 2 rfl) ?_
      refine va_get (D := g.1) (ci := 10) (v := .ref (ad 18)) (C := "BoxGlueModel") (T := kT_Mod) (N := 24) hx hb hts ki_Mod hown hK (k_one hM.1) 0 rfl rfl 18 (by decide) (hts _ kw_599) (fun _ h9 => h9) rfl d_Mod_unpack_43 ?_
      refine lv_iload_n hx hb d_Mod_unpack_46 rfl (lv_at hl 1 rfl) ?_
      refine m_iald hx hb hK hM 18 k (Or.inr ⟨by decide, by decide⟩) (show k < 60 by omega) d_Mod_unpack_47 ?_
      rw [mo_cps_hi (by decide), hfr]
      refine lv_iload_n hx hb d_Mod_unpack_48 rfl (lv_at hl 0 rfl) ?_
      refine lv_iadd hx hb d_Mod_unpack_49 ?_
      rw [nI_add]
      refine lv_aload_n hx hb d_Mod_unpack_50 rfl (lv_at hl 2 rfl) ?_
      refine va_get (D := g.1) (ci := 10) (v := .int (nI sz)) (C := "BoxGlueModel") (T := kT_Mod) (N := 24) hx hb hts ki_Mod hown hK (k_one hM.1) 0 rfl rfl 12 (by decide) (hts _ kw_593) (fun _ h9 => h9) rfl d_Mod_unpack_51 ?_
      refine lv_iload_n hx hb d_Mod_unpack_54 rfl (lv_at hl 0 rfl) ?_
      refine lv_iadd hx hb d_Mod_unpack_55 ?_
      rw [nI_add]
      refine k_call (A := (mA m0 ad)) (W.runV (As := [.int (nI (fr + i)), .int (nI (sz + i))]) (rest := []) ⟨hx, hb, hml, hown, hts⟩ (c_Mod_copy l g H m0 ad sz us bx (mo_cps F fr sz i) (mg_cps G fr sz i) hM (fr + i) (sz + i) (by omega) (by omega)) (cwV 2 hts (kV_good kw_734 kw_731 kw_733 ks_Mod_copy kw_5) rfl rfl rfl (by decide +kernel) ⟨Nat.le_of_ble_eq_true rfl, Nat.le_of_ble_eq_true rfl⟩) (k_preV (KK_st g) hKK (va_recv hK (k_one hM.1) (ci := 10) (q0 := 0) rfl rfl)) rfl rfl hl.1 rfl (lv_room (Nat.le_of_ble_eq_true rfl)) d_Mod_unpack_56 ⟨Nat.le_of_ble_eq_true rfl, Nat.le_of_ble_eq_true rfl⟩) hL (fun q h => h) (fun v H locs hv hL => ?_)
      obtain ⟨rfl, hE1, hM⟩ := hv
      have hE : kE (mA m0 ad) s.heap H := hE.tr hE1 (fun _ _ h => h)
      rw [mo_cps_s F fr sz i (Or.inl (by omega)), mg_cps_s G fr sz i (Or.inl (by omega))] at hM
      refine lv_iinc (v := nI (i + 1)) (lv' := [(2, .int (nI (i + 1))), (1, .int (nI k)), (0, .ref m0)]) hx hb d_Mod_unpack_59 hl (k := 0) rfl (nI_1 i) (by decide) rfl (fun ls hl => ?_)
      refine lv_goto (tgt := 31) hx hb d_Mod_unpack_62 (by decide) ?_
      exact ih (i + 1) H locs ls (by omega) hM hE hL (lv_sub (l := [(2, .int (nI (i + 1))), (1, .int (nI k)), (0, .ref m0)]) hl [0, 1, 2] rfl)
  exact key cn 0 s.heap [] ls (by omega) (by rw [mo_cps_0, mg_cps_0]; exact hM) kE.rf (fun _ h => by cases h) (lv_sub hl [0, 2, 1] rfl)

/-! the reference: sums, leaders' numbers, told, item -/
theorem k_sw7 {x : Int32} (h0 : ¬ x = 0) (h1 : ¬ x = 1) (h2 : ¬ x = 2) (h3 : ¬ x = 3) (h4 : ¬ x = 4) (h5 : ¬ x = 5) (h6 : ¬ x = 6) : x.toInt < 0 ∨ 6 < x.toInt := by
  have g : ∀ n : Nat, n < 8 → ¬ x = Int32.ofNat n → ¬ x.toInt = (n : Int) := fun n hn h e => h (Int32.toInt_inj.mp (by rw [e]; exact (Int32.toInt_ofNat_of_lt (by omega)).symm))
  have a0 := g 0 (by omega) h0
  have a1 := g 1 (by omega) h1
  have a2 := g 2 (by omega) h2
  have a3 := g 3 (by omega) h3
  have a4 := g 4 (by omega) h4
  have a5 := g 5 (by omega) h5
  have a6 := g 6 (by omega) h6
  omega
def md_nat (F : Nat → Nat → Int32) : Nat → Int64
  | 0 => 0
  | k + 1 => md_nat F k + (md_len F k).toInt64
def md_giv (F : Nat → Nat → Int32) (b d : Int32) (i : Nat) : Int64 := if F 0 i = 2 then (if b = 0 then (if F 7 i = d then (F 6 i).toInt64 else 0) else (if F 5 i = d then (F 4 i).toInt64 else 0)) else 0
def md_sum (F : Nat → Nat → Int32) (b d : Int32) : Nat → Int64
  | 0 => 0
  | k + 1 => md_sum F b d k + md_giv F b d k
set_option maxHeartbeats 4000000 in
set_option maxRecDepth 100000 in
theorem c_Mod_natural (l : Launch) (g : KGt) (H0 : Heap) (m0 : Nat) (ad : Nat → Nat) (sz us bx : Nat) (F : Nat → Nat → Int32) (G : Nat → Nat → Int64) (hM : kMod g m0 ad sz us bx F G H0) (hs40 : sz ≤ 40) (hb60 : bx ≤ 60) (hw : ∀ i, i < sz → mW F bx i) : Met l y_Mod_natural (kW y_Mod_natural b_Mod_natural 4 (.some .long)) ({ frames := 1, cells := 0, slots := 0, locals := 21 }) (kPc [.ref m0] (KK g) H0) (kQc (kPure (.long (md_nat F sz)) H0)) 0 0 (fun _ => False) := by
  refine Met.ofW (cc := b_Mod_natural) (maxL := 4) (ret := (.some .long)) (by decide) rfl ?_
  intro p e s m args below meth c s₁ B hml hv
  obtain ⟨rfl, hH, hKK⟩ := hv
  have hx := B.exec
  have hb := B.bytes
  have hr := B.returns
  have hts := kW_ts (atoms_spec (ws := kW y_Mod_natural b_Mod_natural 4 (.some .long)) B.pre)
  have hown : s.vm.findClass "BoxGlueModel" = some m.cls := findClass_of_methodNamed B.named
  have hlocks := B.notSynchronized
  have hK := hKK.1
  subst hH
  have hl := lv_entry ([.ref m0]) (n := 4) (Nat.le_of_ble_eq_true rfl)
  rw [lg_entry_eq]
  generalize (lg_sl ([.ref m0]) ++ List.replicate (4 - (lg_sl ([.ref m0])).length) Slot.unset).toArray = ls at hl ⊢
  have hl : lv_has ls 4 [(0, .ref m0)] := hl
  refine lv_lconst (v := 0) hx hb d_Mod_natural_0 (by decide) ?_
  refine lv_lstore_n (lv' := [(1, .long 0), (0, .ref m0)]) hx hb d_Mod_natural_1 rfl hl (by decide) rfl (fun ls hl => ?_)
  refine lv_iconst (v := 0) hx hb d_Mod_natural_2 (by decide) ?_
  refine lv_istore_n (lv' := [(3, .int 0), (1, .long 0), (0, .ref m0)]) hx hb d_Mod_natural_3 rfl hl (by decide) rfl (fun ls hl => ?_)
  have key : ∀ (j i : Nat) (ls : Array Slot), i + j = sz → lv_has ls 4 [(3, .int (nI i)), (1, .long (md_nat F i)), (0, .ref m0)] → W p l e (headSpec (kW y_Mod_natural b_Mod_natural 4 (.some .long)) { frames := 1, cells := 0, slots := 0, locals := 21 }).room s m #[Value.ref m0] below meth c s.heap [] 0 0 (MQ below (kQc (kPure (.long (md_nat F sz)) s.heap)) #[Value.ref m0] s 0 0 (fun _ => False)) (F0 m 4 ls []) := by
    intro j
    induction j with
    | zero =>
      intro i ls hij hl
      refine lv_iload_n hx hb d_Mod_natural_4 rfl (lv_at hl 0 rfl) ?_
      refine lv_aload_n hx hb d_Mod_natural_5 rfl (lv_at hl 2 rfl) ?_
      refine va_get (D := g.1) (ci := 10) (v := .int (nI sz)) (C := "BoxGlueModel") (T := kT_Mod) (N := 24) hx hb hts ki_Mod hown hK (k_one hM.1) 0 rfl rfl 12 (by decide) (hts _ kw_593) (fun _ h9 => h9) rfl d_Mod_natural_6 ?_
      refine lv_icmp_ge (tgt := 27) hx hb d_Mod_natural_9 (by decide) (fun c_1 => ?_) (fun c_1 => ?_)
      rotate_left
      · exact absurd c_1 (fun q => q (by rw [show i = sz by omega]; exact Int32.le_refl _))
      refine lv_lload_n hx hb d_Mod_natural_27 rfl (lv_at hl 1 rfl) ?_
      exact W.lret (v := (md_nat F i)) hx hb hr (fun t ht hW => ⟨_, rfl, (by rw [show i = sz by omega]), ht⟩) (fun _ h => by cases h) d_Mod_natural_28
    | succ j ih =>
      intro i ls hij hl
      refine lv_iload_n hx hb d_Mod_natural_4 rfl (lv_at hl 0 rfl) ?_
      refine lv_aload_n hx hb d_Mod_natural_5 rfl (lv_at hl 2 rfl) ?_
      refine va_get (D := g.1) (ci := 10) (v := .int (nI sz)) (C := "BoxGlueModel") (T := kT_Mod) (N := 24) hx hb hts ki_Mod hown hK (k_one hM.1) 0 rfl rfl 12 (by decide) (hts _ kw_593) (fun _ h9 => h9) rfl d_Mod_natural_6 ?_
      refine lv_icmp_ge (tgt := 27) hx hb d_Mod_natural_9 (by decide) (fun c_2 => ?_) (fun c_2 => ?_)
      · exact absurd c_2 (nI_ge (by omega) (by omega))
      refine lv_lload_n hx hb d_Mod_natural_12 rfl (lv_at hl 1 rfl) ?_
      refine lv_aload_n hx hb d_Mod_natural_13 rfl (lv_at hl 2 rfl) ?_
      refine lv_iload_n hx hb d_Mod_natural_14 rfl (lv_at hl 0 rfl) ?_
      refine k_pure (r := .int (md_len F i)) (W.runV (As := [.int (nI i)]) (rest := [.long (md_nat F i)]) ⟨hx, hb, hml, hown, hts⟩ (c_Mod_lengthOf l g s.heap m0 ad sz us bx F G hM i (by omega) hb60 (hw i (by omega))) (cwV 1 hts (kV_good kw_701 kw_698 kw_700 ks_Mod_lengthOf kw_5) rfl rfl rfl (by decide +kernel) ⟨Nat.le_of_ble_eq_true rfl, Nat.le_of_ble_eq_true rfl⟩) (k_preV (KK_st g) hKK (va_recv hK (k_one hM.1) (ci := 10) (q0 := 0) rfl rfl)) rfl rfl hl.1 rfl (lv_room (Nat.le_of_ble_eq_true rfl)) d_Mod_natural_15 ⟨Nat.zero_le _, Nat.zero_le _⟩) ?_
      refine lv_i2l hx hb d_Mod_natural_18 rfl ?_
      refine lv_ladd hx hb d_Mod_natural_19 ?_
      refine W.eq (g2 := F0 m 20 ls [.long (md_nat F (i + 1))]) rfl ?_
      refine lv_lstore_n (lv' := [(1, .long (md_nat F (i + 1))), (3, .int (nI i)), (0, .ref m0)]) hx hb d_Mod_natural_20 rfl hl (by decide) rfl (fun ls hl => ?_)
      refine lv_iinc (v := nI (i + 1)) (lv' := [(3, .int (nI (i + 1))), (1, .long (md_nat F (i + 1))), (0, .ref m0)]) hx hb d_Mod_natural_21 hl (k := 1) rfl (nI_1 i) (by decide) rfl (fun ls hl => ?_)
      refine lv_goto (tgt := 4) hx hb d_Mod_natural_24 (by decide) ?_
      exact ih (i + 1) ls (by omega) (lv_sub (l := [(3, .int (nI (i + 1))), (1, .long (md_nat F (i + 1))), (0, .ref m0)]) hl [0, 1, 2] rfl)
  exact key sz 0 ls (by omega) (lv_sub hl [0, 1, 2] rfl)
set_option maxHeartbeats 4000000 in
set_option maxRecDepth 100000 in
theorem c_Mod_sumOf (l : Launch) (g : KGt) (H0 : Heap) (m0 : Nat) (ad : Nat → Nat) (sz us bx : Nat) (F : Nat → Nat → Int32) (G : Nat → Nat → Int64) (hM : kMod g m0 ad sz us bx F G H0) (p0 : Int32) (p1 : Int32) (en : Nat) (hen : en ≤ 40) : Met l y_Mod_sumOf (kW y_Mod_sumOf b_Mod_sumOf 7 (.some .long)) ({ frames := 0, cells := 0, slots := 0, locals := 0 }) (kPc [.ref m0, .int p0, .int p1, .int (nI en)] (KK g) H0) (kQc (kPure (.long (md_sum F p0 p1 en)) H0)) 0 0 (fun _ => False) := by
  refine Met.ofW (cc := b_Mod_sumOf) (maxL := 7) (ret := (.some .long)) (by decide) rfl ?_
  intro p e s m args below meth c s₁ B hml hv
  obtain ⟨rfl, hH, hKK⟩ := hv
  have hx := B.exec
  have hb := B.bytes
  have hr := B.returns
  have hts := kW_ts (atoms_spec (ws := kW y_Mod_sumOf b_Mod_sumOf 7 (.some .long)) B.pre)
  have hown : s.vm.findClass "BoxGlueModel" = some m.cls := findClass_of_methodNamed B.named
  have hlocks := B.notSynchronized
  have hK := hKK.1
  subst hH
  have hl := lv_entry ([.ref m0, .int p0, .int p1, .int (nI en)]) (n := 7) (Nat.le_of_ble_eq_true rfl)
  rw [lg_entry_eq]
  generalize (lg_sl ([.ref m0, .int p0, .int p1, .int (nI en)]) ++ List.replicate (7 - (lg_sl ([.ref m0, .int p0, .int p1, .int (nI en)])).length) Slot.unset).toArray = ls at hl ⊢
  have hl : lv_has ls 7 [(0, .ref m0), (1, .int p0), (2, .int p1), (3, .int (nI en))] := hl
  refine lv_lconst (v := 0) hx hb d_Mod_sumOf_0 (by decide) ?_
  refine lv_lstore (lv' := [(4, .long 0), (0, .ref m0), (1, .int p0), (2, .int p1), (3, .int (nI en))]) hx hb d_Mod_sumOf_1 hl (by decide) rfl (fun ls hl => ?_)
  refine lv_iconst (v := 0) hx hb d_Mod_sumOf_3 (by decide) ?_
  refine lv_istore (lv' := [(6, .int 0), (4, .long 0), (0, .ref m0), (1, .int p0), (2, .int p1), (3, .int (nI en))]) hx hb d_Mod_sumOf_4 hl (by decide) rfl (fun ls hl => ?_)
  have key : ∀ (j i : Nat) (ls : Array Slot), i + j = en → lv_has ls 7 [(6, .int (nI i)), (4, .long (md_sum F p0 p1 i)), (3, .int (nI en)), (2, .int p1), (1, .int p0), (0, .ref m0)] → W p l e (headSpec (kW y_Mod_sumOf b_Mod_sumOf 7 (.some .long)) { frames := 0, cells := 0, slots := 0, locals := 0 }).room s m #[Value.ref m0, Value.int p0, Value.int p1, Value.int (nI en)] below meth c s.heap [] 0 0 (MQ below (kQc (kPure (.long (md_sum F p0 p1 en)) s.heap)) #[Value.ref m0, Value.int p0, Value.int p1, Value.int (nI en)] s 0 0 (fun _ => False)) (F0 m 6 ls []) := by
    intro j
    induction j with
    | zero =>
      intro i ls hij hl
      refine lv_iload hx hb d_Mod_sumOf_6 (lv_at hl 0 rfl) ?_
      refine lv_iload_n hx hb d_Mod_sumOf_8 rfl (lv_at hl 2 rfl) ?_
      refine lv_icmp_ge (tgt := 82) hx hb d_Mod_sumOf_9 (by decide) (fun c_1 => ?_) (fun c_1 => ?_)
      rotate_left
      · exact absurd c_1 (fun q => q (by rw [show i = en by omega]; exact Int32.le_refl _))
      refine lv_lload hx hb d_Mod_sumOf_82 (lv_at hl 1 rfl) ?_
      exact W.lret (v := (md_sum F p0 p1 i)) hx hb hr (fun t ht hW => ⟨_, rfl, (by rw [show i = en by omega]), ht⟩) (fun _ h => by cases h) d_Mod_sumOf_84
    | succ j ih =>
      intro i ls hij hl
      refine lv_iload hx hb d_Mod_sumOf_6 (lv_at hl 0 rfl) ?_
      refine lv_iload_n hx hb d_Mod_sumOf_8 rfl (lv_at hl 2 rfl) ?_
      refine lv_icmp_ge (tgt := 82) hx hb d_Mod_sumOf_9 (by decide) (fun c_2 => ?_) (fun c_2 => ?_)
      · exact absurd c_2 (nI_ge (by omega) (by omega))
      refine lv_aload_n hx hb d_Mod_sumOf_12 rfl (lv_at hl 5 rfl) ?_
      refine va_get (D := g.1) (ci := 10) (v := .ref (ad 0)) (C := "BoxGlueModel") (T := kT_Mod) (N := 24) hx hb hts ki_Mod hown hK (k_one hM.1) 0 rfl rfl 0 (by decide) (hts _ kw_581) (fun _ h9 => h9) rfl d_Mod_sumOf_13 ?_
      refine lv_iload hx hb d_Mod_sumOf_16 (lv_at hl 0 rfl) ?_
      refine m_iald hx hb hK hM 0 i (Or.inl (by decide)) (show i < 340 by omega) d_Mod_sumOf_18 ?_
      refine lv_iconst (v := 2) hx hb d_Mod_sumOf_19 (by decide) ?_
      refine lv_icmp_ne (tgt := 76) hx hb d_Mod_sumOf_20 (by decide) (fun c_3 => ?_) (fun c_3 => ?_)
      · skip
        have e : (md_sum F p0 p1 i) = md_sum F p0 p1 (i + 1) := by show _ = md_sum F p0 p1 i + md_giv F p0 p1 i; unfold md_giv; rw [if_neg c_3]; exact (Int64.add_zero _).symm
        rw [e] at hl
        refine lv_iinc (v := nI (i + 1)) (lv' := [(6, .int (nI (i + 1))), (4, .long (md_sum F p0 p1 (i + 1))), (3, .int (nI en)), (2, .int p1), (1, .int p0), (0, .ref m0)]) hx hb d_Mod_sumOf_76 hl (k := 0) rfl (nI_1 i) (by decide) rfl (fun ls hl => ?_)
        refine lv_goto (tgt := 6) hx hb d_Mod_sumOf_79 (by decide) ?_
        exact ih (i + 1) ls (by omega) (lv_sub (l := [(6, .int (nI (i + 1))), (4, .long (md_sum F p0 p1 (i + 1))), (3, .int (nI en)), (2, .int p1), (1, .int p0), (0, .ref m0)]) hl [0, 1, 2, 3, 4, 5] rfl)
      · skip
        refine lv_iload_n hx hb d_Mod_sumOf_23 rfl (lv_at hl 4 rfl) ?_
        refine lv_if_eq (tgt := 37) hx hb d_Mod_sumOf_24 (by decide) (fun c_4 => ?_) (fun c_4 => ?_)
        · skip
          refine lv_aload_n hx hb d_Mod_sumOf_37 rfl (lv_at hl 5 rfl) ?_
          refine va_get (D := g.1) (ci := 10) (v := .ref (ad 7)) (C := "BoxGlueModel") (T := kT_Mod) (N := 24) hx hb hts ki_Mod hown hK (k_one hM.1) 0 rfl rfl 7 (by decide) (hts _ kw_588) (fun _ h9 => h9) rfl d_Mod_sumOf_38 ?_
          refine lv_iload hx hb d_Mod_sumOf_41 (lv_at hl 0 rfl) ?_
          refine m_iald hx hb hK hM 7 i (Or.inl (by decide)) (show i < 340 by omega) d_Mod_sumOf_43 ?_
          refine lv_iload_n hx hb d_Mod_sumOf_44 rfl (lv_at hl 3 rfl) ?_
          refine lv_icmp_ne (tgt := 76) hx hb d_Mod_sumOf_45 (by decide) (fun c_5 => ?_) (fun c_5 => ?_)
          · skip
            have e : (md_sum F p0 p1 i) = md_sum F p0 p1 (i + 1) := by show _ = md_sum F p0 p1 i + md_giv F p0 p1 i; unfold md_giv; rw [if_pos c_3, if_pos c_4, if_neg c_5]; exact (Int64.add_zero _).symm
            rw [e] at hl
            refine lv_iinc (v := nI (i + 1)) (lv' := [(6, .int (nI (i + 1))), (4, .long (md_sum F p0 p1 (i + 1))), (3, .int (nI en)), (2, .int p1), (1, .int p0), (0, .ref m0)]) hx hb d_Mod_sumOf_76 hl (k := 0) rfl (nI_1 i) (by decide) rfl (fun ls hl => ?_)
            refine lv_goto (tgt := 6) hx hb d_Mod_sumOf_79 (by decide) ?_
            exact ih (i + 1) ls (by omega) (lv_sub (l := [(6, .int (nI (i + 1))), (4, .long (md_sum F p0 p1 (i + 1))), (3, .int (nI en)), (2, .int p1), (1, .int p0), (0, .ref m0)]) hl [0, 1, 2, 3, 4, 5] rfl)
          · skip
            refine lv_lload hx hb d_Mod_sumOf_48 (lv_at hl 1 rfl) ?_
            refine lv_iload_n hx hb d_Mod_sumOf_50 rfl (lv_at hl 4 rfl) ?_
            refine lv_if_eq (tgt := 65) hx hb d_Mod_sumOf_51 (by decide) (fun c_6 => ?_) (fun c_6 => ?_)
            rotate_left
            · exact absurd c_6 (fun q => q c_4)
            refine lv_aload_n hx hb d_Mod_sumOf_65 rfl (lv_at hl 5 rfl) ?_
            refine va_get (D := g.1) (ci := 10) (v := .ref (ad 6)) (C := "BoxGlueModel") (T := kT_Mod) (N := 24) hx hb hts ki_Mod hown hK (k_one hM.1) 0 rfl rfl 6 (by decide) (hts _ kw_587) (fun _ h9 => h9) rfl d_Mod_sumOf_66 ?_
            refine lv_iload hx hb d_Mod_sumOf_69 (lv_at hl 0 rfl) ?_
            refine m_iald hx hb hK hM 6 i (Or.inl (by decide)) (show i < 340 by omega) d_Mod_sumOf_71 ?_
            refine lv_i2l hx hb d_Mod_sumOf_72 rfl ?_
            refine lv_ladd hx hb d_Mod_sumOf_73 ?_
            refine lv_lstore (lv' := [(4, .long ((md_sum F p0 p1 i) + ((F 6 i)).toInt64)), (6, .int (nI i)), (3, .int (nI en)), (2, .int p1), (1, .int p0), (0, .ref m0)]) hx hb d_Mod_sumOf_74 hl (by decide) rfl (fun ls hl => ?_)
            have e : ((md_sum F p0 p1 i) + ((F 6 i)).toInt64) = md_sum F p0 p1 (i + 1) := by show _ = md_sum F p0 p1 i + md_giv F p0 p1 i; unfold md_giv; rw [if_pos c_3, if_pos c_4, if_pos c_5]
            rw [e] at hl
            refine lv_iinc (v := nI (i + 1)) (lv' := [(6, .int (nI (i + 1))), (4, .long (md_sum F p0 p1 (i + 1))), (3, .int (nI en)), (2, .int p1), (1, .int p0), (0, .ref m0)]) hx hb d_Mod_sumOf_76 hl (k := 1) rfl (nI_1 i) (by decide) rfl (fun ls hl => ?_)
            refine lv_goto (tgt := 6) hx hb d_Mod_sumOf_79 (by decide) ?_
            exact ih (i + 1) ls (by omega) (lv_sub (l := [(6, .int (nI (i + 1))), (4, .long (md_sum F p0 p1 (i + 1))), (3, .int (nI en)), (2, .int p1), (1, .int p0), (0, .ref m0)]) hl [0, 1, 2, 3, 4, 5] rfl)
        · skip
          refine lv_aload_n hx hb d_Mod_sumOf_27 rfl (lv_at hl 5 rfl) ?_
          refine va_get (D := g.1) (ci := 10) (v := .ref (ad 5)) (C := "BoxGlueModel") (T := kT_Mod) (N := 24) hx hb hts ki_Mod hown hK (k_one hM.1) 0 rfl rfl 5 (by decide) (hts _ kw_586) (fun _ h9 => h9) rfl d_Mod_sumOf_28 ?_
          refine lv_iload hx hb d_Mod_sumOf_31 (lv_at hl 0 rfl) ?_
          refine m_iald hx hb hK hM 5 i (Or.inl (by decide)) (show i < 340 by omega) d_Mod_sumOf_33 ?_
          refine lv_goto (tgt := 44) hx hb d_Mod_sumOf_34 (by decide) ?_
          refine lv_iload_n hx hb d_Mod_sumOf_44 rfl (lv_at hl 3 rfl) ?_
          refine lv_icmp_ne (tgt := 76) hx hb d_Mod_sumOf_45 (by decide) (fun c_7 => ?_) (fun c_7 => ?_)
          · skip
            have e : (md_sum F p0 p1 i) = md_sum F p0 p1 (i + 1) := by show _ = md_sum F p0 p1 i + md_giv F p0 p1 i; unfold md_giv; rw [if_pos c_3, if_neg c_4, if_neg c_7]; exact (Int64.add_zero _).symm
            rw [e] at hl
            refine lv_iinc (v := nI (i + 1)) (lv' := [(6, .int (nI (i + 1))), (4, .long (md_sum F p0 p1 (i + 1))), (3, .int (nI en)), (2, .int p1), (1, .int p0), (0, .ref m0)]) hx hb d_Mod_sumOf_76 hl (k := 0) rfl (nI_1 i) (by decide) rfl (fun ls hl => ?_)
            refine lv_goto (tgt := 6) hx hb d_Mod_sumOf_79 (by decide) ?_
            exact ih (i + 1) ls (by omega) (lv_sub (l := [(6, .int (nI (i + 1))), (4, .long (md_sum F p0 p1 (i + 1))), (3, .int (nI en)), (2, .int p1), (1, .int p0), (0, .ref m0)]) hl [0, 1, 2, 3, 4, 5] rfl)
          · skip
            refine lv_lload hx hb d_Mod_sumOf_48 (lv_at hl 1 rfl) ?_
            refine lv_iload_n hx hb d_Mod_sumOf_50 rfl (lv_at hl 4 rfl) ?_
            refine lv_if_eq (tgt := 65) hx hb d_Mod_sumOf_51 (by decide) (fun c_8 => ?_) (fun c_8 => ?_)
            · exact absurd c_8 c_4
            refine lv_aload_n hx hb d_Mod_sumOf_54 rfl (lv_at hl 5 rfl) ?_
            refine va_get (D := g.1) (ci := 10) (v := .ref (ad 4)) (C := "BoxGlueModel") (T := kT_Mod) (N := 24) hx hb hts ki_Mod hown hK (k_one hM.1) 0 rfl rfl 4 (by decide) (hts _ kw_585) (fun _ h9 => h9) rfl d_Mod_sumOf_55 ?_
            refine lv_iload hx hb d_Mod_sumOf_58 (lv_at hl 0 rfl) ?_
            refine m_iald hx hb hK hM 4 i (Or.inl (by decide)) (show i < 340 by omega) d_Mod_sumOf_60 ?_
            refine lv_i2l hx hb d_Mod_sumOf_61 rfl ?_
            refine lv_goto (tgt := 73) hx hb d_Mod_sumOf_62 (by decide) ?_
            refine lv_ladd hx hb d_Mod_sumOf_73 ?_
            refine lv_lstore (lv' := [(4, .long ((md_sum F p0 p1 i) + ((F 4 i)).toInt64)), (6, .int (nI i)), (3, .int (nI en)), (2, .int p1), (1, .int p0), (0, .ref m0)]) hx hb d_Mod_sumOf_74 hl (by decide) rfl (fun ls hl => ?_)
            have e : ((md_sum F p0 p1 i) + ((F 4 i)).toInt64) = md_sum F p0 p1 (i + 1) := by show _ = md_sum F p0 p1 i + md_giv F p0 p1 i; unfold md_giv; rw [if_pos c_3, if_neg c_4, if_pos c_7]
            rw [e] at hl
            refine lv_iinc (v := nI (i + 1)) (lv' := [(6, .int (nI (i + 1))), (4, .long (md_sum F p0 p1 (i + 1))), (3, .int (nI en)), (2, .int p1), (1, .int p0), (0, .ref m0)]) hx hb d_Mod_sumOf_76 hl (k := 1) rfl (nI_1 i) (by decide) rfl (fun ls hl => ?_)
            refine lv_goto (tgt := 6) hx hb d_Mod_sumOf_79 (by decide) ?_
            exact ih (i + 1) ls (by omega) (lv_sub (l := [(6, .int (nI (i + 1))), (4, .long (md_sum F p0 p1 (i + 1))), (3, .int (nI en)), (2, .int p1), (1, .int p0), (0, .ref m0)]) hl [0, 1, 2, 3, 4, 5] rfl)
  exact key en 0 ls (by omega) (lv_sub hl [0, 1, 5, 4, 3, 2] rfl)
def f_Mod_badness (p0 : Int64) (p1 : Int64) : Int32 :=
  if (lg_cmp p0 (5 * p1)) < 0 then
    if (lg_cmp ((((100 * p0) * p0) * p0) / ((p1 * p1) * p1)) 10000) ≤ 0 then
      (((((100 * p0) * p0) * p0) / ((p1 * p1) * p1))).toInt32
    else
      10000
  else
    10000
set_option maxHeartbeats 4000000 in
set_option maxRecDepth 100000 in
theorem c_Mod_badness (l : Launch) (g : KGt) (H0 : Heap) (p0 : Int64) (p1 : Int64) (hz : ¬ ((p1 * p1) * p1) = 0) : Met l y_Mod_badness (kW y_Mod_badness b_Mod_badness 6 (.some .int)) ({ frames := 0, cells := 0, slots := 0, locals := 0 }) (kPc [.long p0, .long p1] (KK g) H0) (kQc (kPure (.int (f_Mod_badness p0 p1)) H0)) 0 0 (fun _ => False) := by
  refine Met.ofW (cc := b_Mod_badness) (maxL := 6) (ret := (.some .int)) (by decide) rfl ?_
  intro p e s m args below meth c s₁ B hml hv
  obtain ⟨rfl, hH, hKK⟩ := hv
  have hx := B.exec
  have hb := B.bytes
  have hr := B.returns
  have hts := kW_ts (atoms_spec (ws := kW y_Mod_badness b_Mod_badness 6 (.some .int)) B.pre)
  have hown : s.vm.findClass "BoxGlueModel" = some m.cls := findClass_of_methodNamed B.named
  have hlocks := B.notSynchronized
  have hK := hKK.1
  subst hH
  have hl := lv_entry ([.long p0, .long p1]) (n := 6) (Nat.le_of_ble_eq_true rfl)
  rw [lg_entry_eq]
  generalize (lg_sl ([.long p0, .long p1]) ++ List.replicate (6 - (lg_sl ([.long p0, .long p1])).length) Slot.unset).toArray = ls at hl ⊢
  have hl : lv_has ls 6 [(0, .long p0), (2, .long p1)] := hl
  refine lv_lload_n hx hb d_Mod_badness_0 rfl (lv_at hl 0 rfl) ?_
  refine lv_ldc2 (own := "BoxGlueModel") (index := 100) (v := 5) hx hb hown (hts _ kw_720) d_Mod_badness_1 ?_
  refine lv_lload_n hx hb d_Mod_badness_4 rfl (lv_at hl 1 rfl) ?_
  refine lv_lmul hx hb d_Mod_badness_5 ?_
  refine W.lcmp hx hb d_Mod_badness_6 ?_
  refine lv_if_lt (tgt := 14) hx hb d_Mod_badness_7 (by decide) (fun c_1 => ?_) (fun c_1 => ?_)
  · skip
    refine lv_ldc2 (own := "BoxGlueModel") (index := 102) (v := 100) hx hb hown (hts _ kw_721) d_Mod_badness_14 ?_
    refine lv_lload_n hx hb d_Mod_badness_17 rfl (lv_at hl 0 rfl) ?_
    refine lv_lmul hx hb d_Mod_badness_18 ?_
    refine lv_lload_n hx hb d_Mod_badness_19 rfl (lv_at hl 0 rfl) ?_
    refine lv_lmul hx hb d_Mod_badness_20 ?_
    refine lv_lload_n hx hb d_Mod_badness_21 rfl (lv_at hl 0 rfl) ?_
    refine lv_lmul hx hb d_Mod_badness_22 ?_
    refine lv_lload_n hx hb d_Mod_badness_23 rfl (lv_at hl 1 rfl) ?_
    refine lv_lload_n hx hb d_Mod_badness_24 rfl (lv_at hl 1 rfl) ?_
    refine lv_lmul hx hb d_Mod_badness_25 ?_
    refine lv_lload_n hx hb d_Mod_badness_26 rfl (lv_at hl 1 rfl) ?_
    refine lv_lmul hx hb d_Mod_badness_27 ?_
    refine lv_ldiv hx hb d_Mod_badness_28 hz ?_
    refine lv_lstore (lv' := [(4, .long ((((100 * p0) * p0) * p0) / ((p1 * p1) * p1))), (0, .long p0), (2, .long p1)]) hx hb d_Mod_badness_29 hl (by decide) rfl (fun ls hl => ?_)
    refine lv_lload hx hb d_Mod_badness_31 (lv_at hl 0 rfl) ?_
    refine lv_ldc2 (own := "BoxGlueModel") (index := 104) (v := 10000) hx hb hown (hts _ kw_722) d_Mod_badness_33 ?_
    refine W.lcmp hx hb d_Mod_badness_36 ?_
    refine lv_if_le (tgt := 46) hx hb d_Mod_badness_37 (by decide) (fun c_2 => ?_) (fun c_2 => ?_)
    · skip
      refine lv_lload hx hb d_Mod_badness_46 (lv_at hl 0 rfl) ?_
      refine lv_l2i hx hb d_Mod_badness_48 rfl ?_
      exact W.iret (v := (((((100 * p0) * p0) * p0) / ((p1 * p1) * p1))).toInt32) hx hb hr (fun t ht hW => ⟨_, rfl, (by unfold f_Mod_badness; rw [if_pos c_1, if_pos c_2]), ht⟩) (fun _ h => by cases h) d_Mod_badness_49
    · skip
      refine lv_sipush (v := 10000) hx hb d_Mod_badness_40 (by decide) ?_
      refine lv_goto (tgt := 49) hx hb d_Mod_badness_43 (by decide) ?_
      exact W.iret (v := 10000) hx hb hr (fun t ht hW => ⟨_, rfl, (by unfold f_Mod_badness; rw [if_pos c_1, if_neg c_2]), ht⟩) (fun _ h => by cases h) d_Mod_badness_49
  · skip
    refine lv_sipush (v := 10000) hx hb d_Mod_badness_10 (by decide) ?_
    exact W.iret (v := 10000) hx hb hr (fun t ht hW => ⟨_, rfl, (by unfold f_Mod_badness; rw [if_neg c_1]), ht⟩) (fun _ h => by cases h) d_Mod_badness_13
def md_go (F : Nat → Nat → Int32) (sz : Nat) (p0 : Int32) : Int32 := if lg_cmp (md_sum F p0 3 sz) 0 = 0 then (if lg_cmp (md_sum F p0 2 sz) 0 = 0 then (if lg_cmp (md_sum F p0 1 sz) 0 = 0 then (if lg_cmp (md_sum F p0 0 sz) 0 = 0 then (-1) else 0) else 1) else 2) else 3
set_option maxHeartbeats 4000000 in
set_option maxRecDepth 100000 in
theorem c_Mod_greatestOrder (l : Launch) (g : KGt) (H0 : Heap) (m0 : Nat) (ad : Nat → Nat) (sz us bx : Nat) (F : Nat → Nat → Int32) (G : Nat → Nat → Int64) (hM : kMod g m0 ad sz us bx F G H0) (p0 : Int32) (hs40 : sz ≤ 40) : Met l y_Mod_greatestOrder (kW y_Mod_greatestOrder b_Mod_greatestOrder 3 (.some .int)) ({ frames := 1, cells := 0, slots := 0, locals := 26 }) (kPc [.ref m0, .int p0] (KK g) H0) (kQc (kPure (.int (md_go F sz p0)) H0)) 0 0 (fun _ => False) := by
  refine Met.ofW (cc := b_Mod_greatestOrder) (maxL := 3) (ret := (.some .int)) (by decide) rfl ?_
  intro p e s m args below meth c s₁ B hml hv
  obtain ⟨rfl, hH, hKK⟩ := hv
  have hx := B.exec
  have hb := B.bytes
  have hr := B.returns
  have hts := kW_ts (atoms_spec (ws := kW y_Mod_greatestOrder b_Mod_greatestOrder 3 (.some .int)) B.pre)
  have hown : s.vm.findClass "BoxGlueModel" = some m.cls := findClass_of_methodNamed B.named
  have hlocks := B.notSynchronized
  have hK := hKK.1
  subst hH
  have hl := lv_entry ([.ref m0, .int p0]) (n := 3) (Nat.le_of_ble_eq_true rfl)
  rw [lg_entry_eq]
  generalize (lg_sl ([.ref m0, .int p0]) ++ List.replicate (3 - (lg_sl ([.ref m0, .int p0])).length) Slot.unset).toArray = ls at hl ⊢
  have hl : lv_has ls 3 [(0, .ref m0), (1, .int p0)] := hl
  refine lv_iconst (v := 3) hx hb d_Mod_greatestOrder_0 (by decide) ?_
  refine lv_istore_n (lv' := [(2, .int 3), (0, .ref m0), (1, .int p0)]) hx hb d_Mod_greatestOrder_1 rfl hl (by decide) rfl (fun ls hl => ?_)
  refine lv_iload_n hx hb d_Mod_greatestOrder_2 rfl (lv_at hl 0 rfl) ?_
  refine lv_if_lt (tgt := 27) hx hb d_Mod_greatestOrder_3 (by decide) (fun c_1 => ?_) (fun c_1 => ?_)
  · exact absurd c_1 (by decide)
  refine lv_aload_n hx hb d_Mod_greatestOrder_6 rfl (lv_at hl 1 rfl) ?_
  refine lv_iload_n hx hb d_Mod_greatestOrder_7 rfl (lv_at hl 2 rfl) ?_
  refine lv_iload_n hx hb d_Mod_greatestOrder_8 rfl (lv_at hl 0 rfl) ?_
  refine lv_aload_n hx hb d_Mod_greatestOrder_9 rfl (lv_at hl 1 rfl) ?_
  refine va_get (D := g.1) (ci := 10) (v := .int (nI sz)) (C := "BoxGlueModel") (T := kT_Mod) (N := 24) hx hb hts ki_Mod hown hK (k_one hM.1) 0 rfl rfl 12 (by decide) (hts _ kw_593) (fun _ h9 => h9) rfl d_Mod_greatestOrder_10 ?_
  refine k_pure (r := .long (md_sum F p0 3 sz)) (W.runV (As := [.int p0, .int 3, .int (nI sz)]) (rest := []) ⟨hx, hb, hml, hown, hts⟩ (c_Mod_sumOf l g s.heap m0 ad sz us bx F G hM p0 3 sz hs40) (cwV 3 hts (kV_good kw_716 kw_713 kw_715 ks_Mod_sumOf kw_5) rfl rfl rfl (by decide +kernel) ⟨Nat.le_of_ble_eq_true rfl, Nat.le_of_ble_eq_true rfl⟩) (k_preV (KK_st g) hKK (va_recv hK (k_one hM.1) (ci := 10) (q0 := 0) rfl rfl)) rfl rfl hl.1 rfl (lv_room (Nat.le_of_ble_eq_true rfl)) d_Mod_greatestOrder_13 ⟨Nat.zero_le _, Nat.zero_le _⟩) ?_
  refine lv_lconst (v := 0) hx hb d_Mod_greatestOrder_16 (by decide) ?_
  refine W.lcmp hx hb d_Mod_greatestOrder_17 ?_
  refine lv_if_ne (tgt := 27) hx hb d_Mod_greatestOrder_18 (by decide) (fun c_2 => ?_) (fun c_2 => ?_)
  · skip
    refine lv_iload_n hx hb d_Mod_greatestOrder_27 rfl (lv_at hl 0 rfl) ?_
    exact W.iret (v := 3) hx hb hr (fun t ht hW => ⟨_, rfl, (by unfold md_go; rw [if_neg c_2]), ht⟩) (fun _ h => by cases h) d_Mod_greatestOrder_28
  · skip
    refine lv_iinc (v := 2) (lv' := [(2, .int 2), (0, .ref m0), (1, .int p0)]) hx hb d_Mod_greatestOrder_21 hl (k := 0) rfl (by decide) (by decide) rfl (fun ls hl => ?_)
    refine lv_goto (tgt := 2) hx hb d_Mod_greatestOrder_24 (by decide) ?_
    refine lv_iload_n hx hb d_Mod_greatestOrder_2 rfl (lv_at hl 0 rfl) ?_
    refine lv_if_lt (tgt := 27) hx hb d_Mod_greatestOrder_3 (by decide) (fun c_3 => ?_) (fun c_3 => ?_)
    · exact absurd c_3 (by decide)
    refine lv_aload_n hx hb d_Mod_greatestOrder_6 rfl (lv_at hl 1 rfl) ?_
    refine lv_iload_n hx hb d_Mod_greatestOrder_7 rfl (lv_at hl 2 rfl) ?_
    refine lv_iload_n hx hb d_Mod_greatestOrder_8 rfl (lv_at hl 0 rfl) ?_
    refine lv_aload_n hx hb d_Mod_greatestOrder_9 rfl (lv_at hl 1 rfl) ?_
    refine va_get (D := g.1) (ci := 10) (v := .int (nI sz)) (C := "BoxGlueModel") (T := kT_Mod) (N := 24) hx hb hts ki_Mod hown hK (k_one hM.1) 0 rfl rfl 12 (by decide) (hts _ kw_593) (fun _ h9 => h9) rfl d_Mod_greatestOrder_10 ?_
    refine k_pure (r := .long (md_sum F p0 2 sz)) (W.runV (As := [.int p0, .int 2, .int (nI sz)]) (rest := []) ⟨hx, hb, hml, hown, hts⟩ (c_Mod_sumOf l g s.heap m0 ad sz us bx F G hM p0 2 sz hs40) (cwV 3 hts (kV_good kw_716 kw_713 kw_715 ks_Mod_sumOf kw_5) rfl rfl rfl (by decide +kernel) ⟨Nat.le_of_ble_eq_true rfl, Nat.le_of_ble_eq_true rfl⟩) (k_preV (KK_st g) hKK (va_recv hK (k_one hM.1) (ci := 10) (q0 := 0) rfl rfl)) rfl rfl hl.1 rfl (lv_room (Nat.le_of_ble_eq_true rfl)) d_Mod_greatestOrder_13 ⟨Nat.zero_le _, Nat.zero_le _⟩) ?_
    refine lv_lconst (v := 0) hx hb d_Mod_greatestOrder_16 (by decide) ?_
    refine W.lcmp hx hb d_Mod_greatestOrder_17 ?_
    refine lv_if_ne (tgt := 27) hx hb d_Mod_greatestOrder_18 (by decide) (fun c_4 => ?_) (fun c_4 => ?_)
    · skip
      refine lv_iload_n hx hb d_Mod_greatestOrder_27 rfl (lv_at hl 0 rfl) ?_
      exact W.iret (v := 2) hx hb hr (fun t ht hW => ⟨_, rfl, (by unfold md_go; rw [if_pos c_2, if_neg c_4]), ht⟩) (fun _ h => by cases h) d_Mod_greatestOrder_28
    · skip
      refine lv_iinc (v := 1) (lv' := [(2, .int 1), (0, .ref m0), (1, .int p0)]) hx hb d_Mod_greatestOrder_21 hl (k := 0) rfl (by decide) (by decide) rfl (fun ls hl => ?_)
      refine lv_goto (tgt := 2) hx hb d_Mod_greatestOrder_24 (by decide) ?_
      refine lv_iload_n hx hb d_Mod_greatestOrder_2 rfl (lv_at hl 0 rfl) ?_
      refine lv_if_lt (tgt := 27) hx hb d_Mod_greatestOrder_3 (by decide) (fun c_5 => ?_) (fun c_5 => ?_)
      · exact absurd c_5 (by decide)
      refine lv_aload_n hx hb d_Mod_greatestOrder_6 rfl (lv_at hl 1 rfl) ?_
      refine lv_iload_n hx hb d_Mod_greatestOrder_7 rfl (lv_at hl 2 rfl) ?_
      refine lv_iload_n hx hb d_Mod_greatestOrder_8 rfl (lv_at hl 0 rfl) ?_
      refine lv_aload_n hx hb d_Mod_greatestOrder_9 rfl (lv_at hl 1 rfl) ?_
      refine va_get (D := g.1) (ci := 10) (v := .int (nI sz)) (C := "BoxGlueModel") (T := kT_Mod) (N := 24) hx hb hts ki_Mod hown hK (k_one hM.1) 0 rfl rfl 12 (by decide) (hts _ kw_593) (fun _ h9 => h9) rfl d_Mod_greatestOrder_10 ?_
      refine k_pure (r := .long (md_sum F p0 1 sz)) (W.runV (As := [.int p0, .int 1, .int (nI sz)]) (rest := []) ⟨hx, hb, hml, hown, hts⟩ (c_Mod_sumOf l g s.heap m0 ad sz us bx F G hM p0 1 sz hs40) (cwV 3 hts (kV_good kw_716 kw_713 kw_715 ks_Mod_sumOf kw_5) rfl rfl rfl (by decide +kernel) ⟨Nat.le_of_ble_eq_true rfl, Nat.le_of_ble_eq_true rfl⟩) (k_preV (KK_st g) hKK (va_recv hK (k_one hM.1) (ci := 10) (q0 := 0) rfl rfl)) rfl rfl hl.1 rfl (lv_room (Nat.le_of_ble_eq_true rfl)) d_Mod_greatestOrder_13 ⟨Nat.zero_le _, Nat.zero_le _⟩) ?_
      refine lv_lconst (v := 0) hx hb d_Mod_greatestOrder_16 (by decide) ?_
      refine W.lcmp hx hb d_Mod_greatestOrder_17 ?_
      refine lv_if_ne (tgt := 27) hx hb d_Mod_greatestOrder_18 (by decide) (fun c_6 => ?_) (fun c_6 => ?_)
      · skip
        refine lv_iload_n hx hb d_Mod_greatestOrder_27 rfl (lv_at hl 0 rfl) ?_
        exact W.iret (v := 1) hx hb hr (fun t ht hW => ⟨_, rfl, (by unfold md_go; rw [if_pos c_2, if_pos c_4, if_neg c_6]), ht⟩) (fun _ h => by cases h) d_Mod_greatestOrder_28
      · skip
        refine lv_iinc (v := 0) (lv' := [(2, .int 0), (0, .ref m0), (1, .int p0)]) hx hb d_Mod_greatestOrder_21 hl (k := 0) rfl (by decide) (by decide) rfl (fun ls hl => ?_)
        refine lv_goto (tgt := 2) hx hb d_Mod_greatestOrder_24 (by decide) ?_
        refine lv_iload_n hx hb d_Mod_greatestOrder_2 rfl (lv_at hl 0 rfl) ?_
        refine lv_if_lt (tgt := 27) hx hb d_Mod_greatestOrder_3 (by decide) (fun c_7 => ?_) (fun c_7 => ?_)
        · exact absurd c_7 (by decide)
        refine lv_aload_n hx hb d_Mod_greatestOrder_6 rfl (lv_at hl 1 rfl) ?_
        refine lv_iload_n hx hb d_Mod_greatestOrder_7 rfl (lv_at hl 2 rfl) ?_
        refine lv_iload_n hx hb d_Mod_greatestOrder_8 rfl (lv_at hl 0 rfl) ?_
        refine lv_aload_n hx hb d_Mod_greatestOrder_9 rfl (lv_at hl 1 rfl) ?_
        refine va_get (D := g.1) (ci := 10) (v := .int (nI sz)) (C := "BoxGlueModel") (T := kT_Mod) (N := 24) hx hb hts ki_Mod hown hK (k_one hM.1) 0 rfl rfl 12 (by decide) (hts _ kw_593) (fun _ h9 => h9) rfl d_Mod_greatestOrder_10 ?_
        refine k_pure (r := .long (md_sum F p0 0 sz)) (W.runV (As := [.int p0, .int 0, .int (nI sz)]) (rest := []) ⟨hx, hb, hml, hown, hts⟩ (c_Mod_sumOf l g s.heap m0 ad sz us bx F G hM p0 0 sz hs40) (cwV 3 hts (kV_good kw_716 kw_713 kw_715 ks_Mod_sumOf kw_5) rfl rfl rfl (by decide +kernel) ⟨Nat.le_of_ble_eq_true rfl, Nat.le_of_ble_eq_true rfl⟩) (k_preV (KK_st g) hKK (va_recv hK (k_one hM.1) (ci := 10) (q0 := 0) rfl rfl)) rfl rfl hl.1 rfl (lv_room (Nat.le_of_ble_eq_true rfl)) d_Mod_greatestOrder_13 ⟨Nat.zero_le _, Nat.zero_le _⟩) ?_
        refine lv_lconst (v := 0) hx hb d_Mod_greatestOrder_16 (by decide) ?_
        refine W.lcmp hx hb d_Mod_greatestOrder_17 ?_
        refine lv_if_ne (tgt := 27) hx hb d_Mod_greatestOrder_18 (by decide) (fun c_8 => ?_) (fun c_8 => ?_)
        · skip
          refine lv_iload_n hx hb d_Mod_greatestOrder_27 rfl (lv_at hl 0 rfl) ?_
          exact W.iret (v := 0) hx hb hr (fun t ht hW => ⟨_, rfl, (by unfold md_go; rw [if_pos c_2, if_pos c_4, if_pos c_6, if_neg c_8]), ht⟩) (fun _ h => by cases h) d_Mod_greatestOrder_28
        · skip
          refine lv_iinc (v := (-1)) (lv' := [(2, .int (-1)), (0, .ref m0), (1, .int p0)]) hx hb d_Mod_greatestOrder_21 hl (k := 0) rfl (by decide) (by decide) rfl (fun ls hl => ?_)
          refine lv_goto (tgt := 2) hx hb d_Mod_greatestOrder_24 (by decide) ?_
          refine lv_iload_n hx hb d_Mod_greatestOrder_2 rfl (lv_at hl 0 rfl) ?_
          refine lv_if_lt (tgt := 27) hx hb d_Mod_greatestOrder_3 (by decide) (fun c_9 => ?_) (fun c_9 => ?_)
          rotate_left
          · exact absurd c_9 (fun q => q (by decide))
          refine lv_iload_n hx hb d_Mod_greatestOrder_27 rfl (lv_at hl 0 rfl) ?_
          exact W.iret (v := (-1)) hx hb hr (fun t ht hW => ⟨_, rfl, (by unfold md_go; rw [if_pos c_2, if_pos c_4, if_pos c_6, if_pos c_8]), ht⟩) (fun _ h => by cases h) d_Mod_greatestOrder_28
def md_fp (F : Nat → Nat → Int32) (G : Nat → Nat → Int64) (i : Nat) : Int64 :=
  if (lg_cmp ((G 11 i) - (G 11 i) / ((md_ll F i)).toInt64 * ((md_ll F i)).toInt64) 0) = 0 then
    (G 11 i)
  else
    if 0 ≤ (lg_cmp ((G 11 i) - (G 11 i) / ((md_ll F i)).toInt64 * ((md_ll F i)).toInt64) 0) then
      (((G 11 i) - ((G 11 i) - (G 11 i) / ((md_ll F i)).toInt64 * ((md_ll F i)).toInt64)) + ((md_ll F i)).toInt64)
    else
      ((G 11 i) - ((G 11 i) - (G 11 i) / ((md_ll F i)).toInt64 * ((md_ll F i)).toInt64))
set_option maxHeartbeats 4000000 in
set_option maxRecDepth 100000 in
theorem c_Mod_firstPlace (l : Launch) (g : KGt) (H0 : Heap) (m0 : Nat) (ad : Nat → Nat) (sz us bx : Nat) (F : Nat → Nat → Int32) (G : Nat → Nat → Int64) (hM : kMod g m0 ad sz us bx F G H0) (i : Nat) (hi : i < 340) (hb60 : bx ≤ 60) (hw : mW F bx i) (hk0 : ¬ F 8 i = 0) (hl0 : ¬ md_ll F i = 0) : Met l y_Mod_firstPlace (kW y_Mod_firstPlace b_Mod_firstPlace 6 (.some .long)) ({ frames := 1, cells := 0, slots := 0, locals := 21 }) (kPc [.ref m0, .int (nI i)] (KK g) H0) (kQc (kPure (.long (md_fp F G i)) H0)) 0 0 (fun _ => False) := by
  refine Met.ofW (cc := b_Mod_firstPlace) (maxL := 6) (ret := (.some .long)) (by decide) rfl ?_
  intro p e s m args below meth c s₁ B hml hv
  obtain ⟨rfl, hH, hKK⟩ := hv
  have hx := B.exec
  have hb := B.bytes
  have hr := B.returns
  have hts := kW_ts (atoms_spec (ws := kW y_Mod_firstPlace b_Mod_firstPlace 6 (.some .long)) B.pre)
  have hown : s.vm.findClass "BoxGlueModel" = some m.cls := findClass_of_methodNamed B.named
  have hlocks := B.notSynchronized
  have hK := hKK.1
  subst hH
  have hl := lv_entry ([.ref m0, .int (nI i)]) (n := 6) (Nat.le_of_ble_eq_true rfl)
  rw [lg_entry_eq]
  generalize (lg_sl ([.ref m0, .int (nI i)]) ++ List.replicate (6 - (lg_sl ([.ref m0, .int (nI i)])).length) Slot.unset).toArray = ls at hl ⊢
  have hl : lv_has ls 6 [(0, .ref m0), (1, .int (nI i))] := hl
  refine lv_aload_n hx hb d_Mod_firstPlace_0 rfl (lv_at hl 0 rfl) ?_
  refine lv_iload_n hx hb d_Mod_firstPlace_1 rfl (lv_at hl 1 rfl) ?_
  refine k_pure (r := .int (md_ll F i)) (W.runV (As := [.int (nI i)]) (rest := []) ⟨hx, hb, hml, hown, hts⟩ (c_Mod_leaderLength l g s.heap m0 ad sz us bx F G hM i hi hb60 hw hk0) (cwV 1 hts (kV_good kw_754 kw_751 kw_753 ks_Mod_leaderLength kw_5) rfl rfl rfl (by decide +kernel) ⟨Nat.le_of_ble_eq_true rfl, Nat.le_of_ble_eq_true rfl⟩) (k_preV (KK_st g) hKK (va_recv hK (k_one hM.1) (ci := 10) (q0 := 0) rfl rfl)) rfl rfl hl.1 rfl (lv_room (Nat.le_of_ble_eq_true rfl)) d_Mod_firstPlace_2 ⟨Nat.zero_le _, Nat.zero_le _⟩) ?_
  refine lv_i2l hx hb d_Mod_firstPlace_5 rfl ?_
  refine lv_lstore_n (lv' := [(2, .long ((md_ll F i)).toInt64), (0, .ref m0), (1, .int (nI i))]) hx hb d_Mod_firstPlace_6 rfl hl (by decide) rfl (fun ls hl => ?_)
  refine lv_aload_n hx hb d_Mod_firstPlace_7 rfl (lv_at hl 1 rfl) ?_
  refine va_get (D := g.1) (ci := 10) (v := .ref (ad 11)) (C := "BoxGlueModel") (T := kT_Mod) (N := 24) hx hb hts ki_Mod hown hK (k_one hM.1) 0 rfl rfl 11 (by decide) (hts _ kw_592) (fun _ h9 => h9) rfl d_Mod_firstPlace_8 ?_
  refine lv_iload_n hx hb d_Mod_firstPlace_11 rfl (lv_at hl 2 rfl) ?_
  refine m_lald hx hb hK hM 11 i (by decide) (show i < 340 by omega) d_Mod_firstPlace_12 ?_
  refine lv_lload_n hx hb d_Mod_firstPlace_13 rfl (lv_at hl 0 rfl) ?_
  refine lv_lrem hx hb d_Mod_firstPlace_14 (k_l0 hl0) ?_
  refine lv_lstore (lv' := [(4, .long ((G 11 i) - (G 11 i) / ((md_ll F i)).toInt64 * ((md_ll F i)).toInt64)), (2, .long ((md_ll F i)).toInt64), (0, .ref m0), (1, .int (nI i))]) hx hb d_Mod_firstPlace_15 hl (by decide) rfl (fun ls hl => ?_)
  refine lv_lload hx hb d_Mod_firstPlace_17 (lv_at hl 0 rfl) ?_
  refine lv_lconst (v := 0) hx hb d_Mod_firstPlace_19 (by decide) ?_
  refine W.lcmp hx hb d_Mod_firstPlace_20 ?_
  refine lv_if_ne (tgt := 33) hx hb d_Mod_firstPlace_21 (by decide) (fun c_1 => ?_) (fun c_1 => ?_)
  · skip
    refine lv_lload hx hb d_Mod_firstPlace_33 (lv_at hl 0 rfl) ?_
    refine lv_lconst (v := 0) hx hb d_Mod_firstPlace_35 (by decide) ?_
    refine W.lcmp hx hb d_Mod_firstPlace_36 ?_
    refine lv_if_ge (tgt := 52) hx hb d_Mod_firstPlace_37 (by decide) (fun c_2 => ?_) (fun c_2 => ?_)
    · skip
      refine lv_aload_n hx hb d_Mod_firstPlace_52 rfl (lv_at hl 2 rfl) ?_
      refine va_get (D := g.1) (ci := 10) (v := .ref (ad 11)) (C := "BoxGlueModel") (T := kT_Mod) (N := 24) hx hb hts ki_Mod hown hK (k_one hM.1) 0 rfl rfl 11 (by decide) (hts _ kw_592) (fun _ h9 => h9) rfl d_Mod_firstPlace_53 ?_
      refine lv_iload_n hx hb d_Mod_firstPlace_56 rfl (lv_at hl 3 rfl) ?_
      refine m_lald hx hb hK hM 11 i (by decide) (show i < 340 by omega) d_Mod_firstPlace_57 ?_
      refine lv_lload hx hb d_Mod_firstPlace_58 (lv_at hl 0 rfl) ?_
      refine lv_lsub hx hb d_Mod_firstPlace_60 ?_
      refine lv_lload_n hx hb d_Mod_firstPlace_61 rfl (lv_at hl 1 rfl) ?_
      refine lv_ladd hx hb d_Mod_firstPlace_62 ?_
      exact W.lret (v := (((G 11 i) - ((G 11 i) - (G 11 i) / ((md_ll F i)).toInt64 * ((md_ll F i)).toInt64)) + ((md_ll F i)).toInt64)) hx hb hr (fun t ht hW => ⟨_, rfl, (by unfold md_fp; rw [if_neg c_1, if_pos c_2]), ht⟩) (fun _ h => by cases h) d_Mod_firstPlace_63
    · skip
      refine lv_aload_n hx hb d_Mod_firstPlace_40 rfl (lv_at hl 2 rfl) ?_
      refine va_get (D := g.1) (ci := 10) (v := .ref (ad 11)) (C := "BoxGlueModel") (T := kT_Mod) (N := 24) hx hb hts ki_Mod hown hK (k_one hM.1) 0 rfl rfl 11 (by decide) (hts _ kw_592) (fun _ h9 => h9) rfl d_Mod_firstPlace_41 ?_
      refine lv_iload_n hx hb d_Mod_firstPlace_44 rfl (lv_at hl 3 rfl) ?_
      refine m_lald hx hb hK hM 11 i (by decide) (show i < 340 by omega) d_Mod_firstPlace_45 ?_
      refine lv_lload hx hb d_Mod_firstPlace_46 (lv_at hl 0 rfl) ?_
      refine lv_lsub hx hb d_Mod_firstPlace_48 ?_
      refine lv_goto (tgt := 63) hx hb d_Mod_firstPlace_49 (by decide) ?_
      exact W.lret (v := ((G 11 i) - ((G 11 i) - (G 11 i) / ((md_ll F i)).toInt64 * ((md_ll F i)).toInt64))) hx hb hr (fun t ht hW => ⟨_, rfl, (by unfold md_fp; rw [if_neg c_1, if_neg c_2]), ht⟩) (fun _ h => by cases h) d_Mod_firstPlace_63
  · skip
    refine lv_aload_n hx hb d_Mod_firstPlace_24 rfl (lv_at hl 2 rfl) ?_
    refine va_get (D := g.1) (ci := 10) (v := .ref (ad 11)) (C := "BoxGlueModel") (T := kT_Mod) (N := 24) hx hb hts ki_Mod hown hK (k_one hM.1) 0 rfl rfl 11 (by decide) (hts _ kw_592) (fun _ h9 => h9) rfl d_Mod_firstPlace_25 ?_
    refine lv_iload_n hx hb d_Mod_firstPlace_28 rfl (lv_at hl 3 rfl) ?_
    refine m_lald hx hb hK hM 11 i (by decide) (show i < 340 by omega) d_Mod_firstPlace_29 ?_
    refine lv_goto (tgt := 63) hx hb d_Mod_firstPlace_30 (by decide) ?_
    exact W.lret (v := (G 11 i)) hx hb hr (fun t ht hW => ⟨_, rfl, (by unfold md_fp; rw [if_pos c_1]), ht⟩) (fun _ h => by cases h) d_Mod_firstPlace_63
def md_drawn (F : Nat → Nat → Int32) (G : Nat → Nat → Int64) (i : Nat) : Int32 :=
  if (F 8 i) = 0 then
    0
  else
    if (md_ll F i) = 0 then
      0
    else
      if 0 ≤ (lg_cmp (G 10 i) (((md_ll F i)).toInt64)) then
        if (F 8 i) = 1 then
          if 0 ≤ (lg_cmp (((G 11 i) + (G 10 i)) - (md_fp F G i)) 0) then
            (((((G 11 i) + (G 10 i)) - (md_fp F G i)) / ((md_ll F i)).toInt64)).toInt32
          else
            0
        else
          (((G 10 i) / ((md_ll F i)).toInt64)).toInt32
      else
        0
set_option maxHeartbeats 4000000 in
set_option maxRecDepth 100000 in
theorem c_Mod_drawn (l : Launch) (g : KGt) (H0 : Heap) (m0 : Nat) (ad : Nat → Nat) (sz us bx : Nat) (F : Nat → Nat → Int32) (G : Nat → Nat → Int64) (hM : kMod g m0 ad sz us bx F G H0) (i : Nat) (hi : i < 340) (hb60 : bx ≤ 60) (hw : mW F bx i) : Met l y_Mod_drawn (kW y_Mod_drawn b_Mod_drawn 4 (.some .int)) ({ frames := 2, cells := 0, slots := 0, locals := 46 }) (kPc [.ref m0, .int (nI i)] (KK g) H0) (kQc (kPure (.int (md_drawn F G i)) H0)) 0 0 (fun _ => False) := by
  refine Met.ofW (cc := b_Mod_drawn) (maxL := 4) (ret := (.some .int)) (by decide) rfl ?_
  intro p e s m args below meth c s₁ B hml hv
  obtain ⟨rfl, hH, hKK⟩ := hv
  have hx := B.exec
  have hb := B.bytes
  have hr := B.returns
  have hts := kW_ts (atoms_spec (ws := kW y_Mod_drawn b_Mod_drawn 4 (.some .int)) B.pre)
  have hown : s.vm.findClass "BoxGlueModel" = some m.cls := findClass_of_methodNamed B.named
  have hlocks := B.notSynchronized
  have hK := hKK.1
  subst hH
  have hl := lv_entry ([.ref m0, .int (nI i)]) (n := 4) (Nat.le_of_ble_eq_true rfl)
  rw [lg_entry_eq]
  generalize (lg_sl ([.ref m0, .int (nI i)]) ++ List.replicate (4 - (lg_sl ([.ref m0, .int (nI i)])).length) Slot.unset).toArray = ls at hl ⊢
  have hl : lv_has ls 4 [(0, .ref m0), (1, .int (nI i))] := hl
  refine lv_aload_n hx hb d_Mod_drawn_0 rfl (lv_at hl 0 rfl) ?_
  refine va_get (D := g.1) (ci := 10) (v := .ref (ad 8)) (C := "BoxGlueModel") (T := kT_Mod) (N := 24) hx hb hts ki_Mod hown hK (k_one hM.1) 0 rfl rfl 8 (by decide) (hts _ kw_589) (fun _ h9 => h9) rfl d_Mod_drawn_1 ?_
  refine lv_iload_n hx hb d_Mod_drawn_4 rfl (lv_at hl 1 rfl) ?_
  refine m_iald hx hb hK hM 8 i (Or.inl (by decide)) (show i < 340 by omega) d_Mod_drawn_5 ?_
  refine lv_if_eq (tgt := 33) hx hb d_Mod_drawn_6 (by decide) (fun c_1 => ?_) (fun c_1 => ?_)
  · skip
    refine lv_iconst (v := 0) hx hb d_Mod_drawn_33 (by decide) ?_
    exact W.iret (v := 0) hx hb hr (fun t ht hW => ⟨_, rfl, (by unfold md_drawn; rw [if_pos c_1]), ht⟩) (fun _ h => by cases h) d_Mod_drawn_34
  · skip
    refine lv_aload_n hx hb d_Mod_drawn_9 rfl (lv_at hl 0 rfl) ?_
    refine lv_iload_n hx hb d_Mod_drawn_10 rfl (lv_at hl 1 rfl) ?_
    refine k_pure (r := .int (md_ll F i)) (W.runV (As := [.int (nI i)]) (rest := []) ⟨hx, hb, hml, hown, hts⟩ (c_Mod_leaderLength l g s.heap m0 ad sz us bx F G hM i hi hb60 hw c_1) (cwV 1 hts (kV_good kw_754 kw_751 kw_753 ks_Mod_leaderLength kw_5) rfl rfl rfl (by decide +kernel) ⟨Nat.le_of_ble_eq_true rfl, Nat.le_of_ble_eq_true rfl⟩) (k_preV (KK_st g) hKK (va_recv hK (k_one hM.1) (ci := 10) (q0 := 0) rfl rfl)) rfl rfl hl.1 rfl (lv_room (Nat.le_of_ble_eq_true rfl)) d_Mod_drawn_11 ⟨Nat.zero_le _, Nat.zero_le _⟩) ?_
    refine lv_if_eq (tgt := 33) hx hb d_Mod_drawn_14 (by decide) (fun c_2 => ?_) (fun c_2 => ?_)
    · skip
      refine lv_iconst (v := 0) hx hb d_Mod_drawn_33 (by decide) ?_
      exact W.iret (v := 0) hx hb hr (fun t ht hW => ⟨_, rfl, (by unfold md_drawn; rw [if_neg c_1, if_pos c_2]), ht⟩) (fun _ h => by cases h) d_Mod_drawn_34
    · skip
      refine lv_aload_n hx hb d_Mod_drawn_17 rfl (lv_at hl 0 rfl) ?_
      refine va_get (D := g.1) (ci := 10) (v := .ref (ad 10)) (C := "BoxGlueModel") (T := kT_Mod) (N := 24) hx hb hts ki_Mod hown hK (k_one hM.1) 0 rfl rfl 10 (by decide) (hts _ kw_591) (fun _ h9 => h9) rfl d_Mod_drawn_18 ?_
      refine lv_iload_n hx hb d_Mod_drawn_21 rfl (lv_at hl 1 rfl) ?_
      refine m_lald hx hb hK hM 10 i (by decide) (show i < 340 by omega) d_Mod_drawn_22 ?_
      refine lv_aload_n hx hb d_Mod_drawn_23 rfl (lv_at hl 0 rfl) ?_
      refine lv_iload_n hx hb d_Mod_drawn_24 rfl (lv_at hl 1 rfl) ?_
      refine k_pure (r := .int (md_ll F i)) (W.runV (As := [.int (nI i)]) (rest := [.long (G 10 i)]) ⟨hx, hb, hml, hown, hts⟩ (c_Mod_leaderLength l g s.heap m0 ad sz us bx F G hM i hi hb60 hw c_1) (cwV 1 hts (kV_good kw_754 kw_751 kw_753 ks_Mod_leaderLength kw_5) rfl rfl rfl (by decide +kernel) ⟨Nat.le_of_ble_eq_true rfl, Nat.le_of_ble_eq_true rfl⟩) (k_preV (KK_st g) hKK (va_recv hK (k_one hM.1) (ci := 10) (q0 := 0) rfl rfl)) rfl rfl hl.1 rfl (lv_room (Nat.le_of_ble_eq_true rfl)) d_Mod_drawn_25 ⟨Nat.zero_le _, Nat.zero_le _⟩) ?_
      refine lv_i2l hx hb d_Mod_drawn_28 rfl ?_
      refine W.lcmp hx hb d_Mod_drawn_29 ?_
      refine lv_if_ge (tgt := 35) hx hb d_Mod_drawn_30 (by decide) (fun c_3 => ?_) (fun c_3 => ?_)
      · skip
        refine lv_aload_n hx hb d_Mod_drawn_35 rfl (lv_at hl 0 rfl) ?_
        refine va_get (D := g.1) (ci := 10) (v := .ref (ad 8)) (C := "BoxGlueModel") (T := kT_Mod) (N := 24) hx hb hts ki_Mod hown hK (k_one hM.1) 0 rfl rfl 8 (by decide) (hts _ kw_589) (fun _ h9 => h9) rfl d_Mod_drawn_36 ?_
        refine lv_iload_n hx hb d_Mod_drawn_39 rfl (lv_at hl 1 rfl) ?_
        refine m_iald hx hb hK hM 8 i (Or.inl (by decide)) (show i < 340 by omega) d_Mod_drawn_40 ?_
        refine lv_iconst (v := 1) hx hb d_Mod_drawn_41 (by decide) ?_
        refine lv_icmp_ne (tgt := 85) hx hb d_Mod_drawn_42 (by decide) (fun c_4 => ?_) (fun c_4 => ?_)
        · skip
          refine lv_aload_n hx hb d_Mod_drawn_85 rfl (lv_at hl 0 rfl) ?_
          refine va_get (D := g.1) (ci := 10) (v := .ref (ad 10)) (C := "BoxGlueModel") (T := kT_Mod) (N := 24) hx hb hts ki_Mod hown hK (k_one hM.1) 0 rfl rfl 10 (by decide) (hts _ kw_591) (fun _ h9 => h9) rfl d_Mod_drawn_86 ?_
          refine lv_iload_n hx hb d_Mod_drawn_89 rfl (lv_at hl 1 rfl) ?_
          refine m_lald hx hb hK hM 10 i (by decide) (show i < 340 by omega) d_Mod_drawn_90 ?_
          refine lv_aload_n hx hb d_Mod_drawn_91 rfl (lv_at hl 0 rfl) ?_
          refine lv_iload_n hx hb d_Mod_drawn_92 rfl (lv_at hl 1 rfl) ?_
          refine k_pure (r := .int (md_ll F i)) (W.runV (As := [.int (nI i)]) (rest := [.long (G 10 i)]) ⟨hx, hb, hml, hown, hts⟩ (c_Mod_leaderLength l g s.heap m0 ad sz us bx F G hM i hi hb60 hw c_1) (cwV 1 hts (kV_good kw_754 kw_751 kw_753 ks_Mod_leaderLength kw_5) rfl rfl rfl (by decide +kernel) ⟨Nat.le_of_ble_eq_true rfl, Nat.le_of_ble_eq_true rfl⟩) (k_preV (KK_st g) hKK (va_recv hK (k_one hM.1) (ci := 10) (q0 := 0) rfl rfl)) rfl rfl hl.1 rfl (lv_room (Nat.le_of_ble_eq_true rfl)) d_Mod_drawn_93 ⟨Nat.zero_le _, Nat.zero_le _⟩) ?_
          refine lv_i2l hx hb d_Mod_drawn_96 rfl ?_
          refine lv_ldiv hx hb d_Mod_drawn_97 (k_l0 c_2) ?_
          refine lv_l2i hx hb d_Mod_drawn_98 rfl ?_
          exact W.iret (v := (((G 10 i) / ((md_ll F i)).toInt64)).toInt32) hx hb hr (fun t ht hW => ⟨_, rfl, (by unfold md_drawn; rw [if_neg c_1, if_neg c_2, if_pos c_3, if_neg c_4]), ht⟩) (fun _ h => by cases h) d_Mod_drawn_99
        · skip
          refine lv_aload_n hx hb d_Mod_drawn_45 rfl (lv_at hl 0 rfl) ?_
          refine va_get (D := g.1) (ci := 10) (v := .ref (ad 11)) (C := "BoxGlueModel") (T := kT_Mod) (N := 24) hx hb hts ki_Mod hown hK (k_one hM.1) 0 rfl rfl 11 (by decide) (hts _ kw_592) (fun _ h9 => h9) rfl d_Mod_drawn_46 ?_
          refine lv_iload_n hx hb d_Mod_drawn_49 rfl (lv_at hl 1 rfl) ?_
          refine m_lald hx hb hK hM 11 i (by decide) (show i < 340 by omega) d_Mod_drawn_50 ?_
          refine lv_aload_n hx hb d_Mod_drawn_51 rfl (lv_at hl 0 rfl) ?_
          refine va_get (D := g.1) (ci := 10) (v := .ref (ad 10)) (C := "BoxGlueModel") (T := kT_Mod) (N := 24) hx hb hts ki_Mod hown hK (k_one hM.1) 0 rfl rfl 10 (by decide) (hts _ kw_591) (fun _ h9 => h9) rfl d_Mod_drawn_52 ?_
          refine lv_iload_n hx hb d_Mod_drawn_55 rfl (lv_at hl 1 rfl) ?_
          refine m_lald hx hb hK hM 10 i (by decide) (show i < 340 by omega) d_Mod_drawn_56 ?_
          refine lv_ladd hx hb d_Mod_drawn_57 ?_
          refine lv_aload_n hx hb d_Mod_drawn_58 rfl (lv_at hl 0 rfl) ?_
          refine lv_iload_n hx hb d_Mod_drawn_59 rfl (lv_at hl 1 rfl) ?_
          refine k_pure (r := .long (md_fp F G i)) (W.runV (As := [.int (nI i)]) (rest := [.long ((G 11 i) + (G 10 i))]) ⟨hx, hb, hml, hown, hts⟩ (c_Mod_firstPlace l g s.heap m0 ad sz us bx F G hM i hi hb60 hw c_1 c_2) (cwV 1 hts (kV_good kw_758 kw_755 kw_757 ks_Mod_firstPlace kw_5) rfl rfl rfl (by decide +kernel) ⟨Nat.le_of_ble_eq_true rfl, Nat.le_of_ble_eq_true rfl⟩) (k_preV (KK_st g) hKK (va_recv hK (k_one hM.1) (ci := 10) (q0 := 0) rfl rfl)) rfl rfl hl.1 rfl (lv_room (Nat.le_of_ble_eq_true rfl)) d_Mod_drawn_60 ⟨Nat.zero_le _, Nat.zero_le _⟩) ?_
          refine lv_lsub hx hb d_Mod_drawn_63 ?_
          refine lv_lstore_n (lv' := [(2, .long (((G 11 i) + (G 10 i)) - (md_fp F G i))), (0, .ref m0), (1, .int (nI i))]) hx hb d_Mod_drawn_64 rfl hl (by decide) rfl (fun ls hl => ?_)
          refine lv_lload_n hx hb d_Mod_drawn_65 rfl (lv_at hl 0 rfl) ?_
          refine lv_lconst (v := 0) hx hb d_Mod_drawn_66 (by decide) ?_
          refine W.lcmp hx hb d_Mod_drawn_67 ?_
          refine lv_if_ge (tgt := 75) hx hb d_Mod_drawn_68 (by decide) (fun c_5 => ?_) (fun c_5 => ?_)
          · skip
            refine lv_lload_n hx hb d_Mod_drawn_75 rfl (lv_at hl 0 rfl) ?_
            refine lv_aload_n hx hb d_Mod_drawn_76 rfl (lv_at hl 1 rfl) ?_
            refine lv_iload_n hx hb d_Mod_drawn_77 rfl (lv_at hl 2 rfl) ?_
            refine k_pure (r := .int (md_ll F i)) (W.runV (As := [.int (nI i)]) (rest := [.long (((G 11 i) + (G 10 i)) - (md_fp F G i))]) ⟨hx, hb, hml, hown, hts⟩ (c_Mod_leaderLength l g s.heap m0 ad sz us bx F G hM i hi hb60 hw c_1) (cwV 1 hts (kV_good kw_754 kw_751 kw_753 ks_Mod_leaderLength kw_5) rfl rfl rfl (by decide +kernel) ⟨Nat.le_of_ble_eq_true rfl, Nat.le_of_ble_eq_true rfl⟩) (k_preV (KK_st g) hKK (va_recv hK (k_one hM.1) (ci := 10) (q0 := 0) rfl rfl)) rfl rfl hl.1 rfl (lv_room (Nat.le_of_ble_eq_true rfl)) d_Mod_drawn_78 ⟨Nat.zero_le _, Nat.zero_le _⟩) ?_
            refine lv_i2l hx hb d_Mod_drawn_81 rfl ?_
            refine lv_ldiv hx hb d_Mod_drawn_82 (k_l0 c_2) ?_
            refine lv_l2i hx hb d_Mod_drawn_83 rfl ?_
            exact W.iret (v := (((((G 11 i) + (G 10 i)) - (md_fp F G i)) / ((md_ll F i)).toInt64)).toInt32) hx hb hr (fun t ht hW => ⟨_, rfl, (by unfold md_drawn; rw [if_neg c_1, if_neg c_2, if_pos c_3, if_pos c_4, if_pos c_5]), ht⟩) (fun _ h => by cases h) d_Mod_drawn_84
          · skip
            refine lv_iconst (v := 0) hx hb d_Mod_drawn_71 (by decide) ?_
            refine lv_goto (tgt := 84) hx hb d_Mod_drawn_72 (by decide) ?_
            exact W.iret (v := 0) hx hb hr (fun t ht hW => ⟨_, rfl, (by unfold md_drawn; rw [if_neg c_1, if_neg c_2, if_pos c_3, if_pos c_4, if_neg c_5]), ht⟩) (fun _ h => by cases h) d_Mod_drawn_84
      · skip
        refine lv_iconst (v := 0) hx hb d_Mod_drawn_33 (by decide) ?_
        exact W.iret (v := 0) hx hb hr (fun t ht hW => ⟨_, rfl, (by unfold md_drawn; rw [if_neg c_1, if_neg c_2, if_neg c_3]), ht⟩) (fun _ h => by cases h) d_Mod_drawn_34
theorem md_drawn_ne {F : Nat → Nat → Int32} {G : Nat → Nat → Int64} {i : Nat} (h : ¬ md_drawn F G i = 0) : ¬ F 8 i = 0 ∧ ¬ md_ll F i = 0 := by
  refine ⟨fun e => h ?_, fun e => h ?_⟩
  · unfold md_drawn
    rw [if_pos e]
  · unfold md_drawn
    by_cases e8 : F 8 i = 0
    · rw [if_pos e8]
    · rw [if_neg e8, if_pos e]
def md_fo (F : Nat → Nat → Int32) (G : Nat → Nat → Int64) (i : Nat) : Int64 :=
  if (md_drawn F G i) = 0 then
    0
  else
    if (F 8 i) = 1 then
      (md_fp F G i)
    else
      if (F 8 i) = 2 then
        ((G 11 i) + (((G 10 i) - (((md_drawn F G i)).toInt64 * ((md_ll F i)).toInt64)) / 2))
      else
        ((G 11 i) + (((G 10 i) - (((md_drawn F G i)).toInt64 * ((md_ll F i)).toInt64)) / (((md_drawn F G i)).toInt64 + 1)))
set_option maxHeartbeats 4000000 in
set_option maxRecDepth 100000 in
theorem c_Mod_firstOf (l : Launch) (g : KGt) (H0 : Heap) (m0 : Nat) (ad : Nat → Nat) (sz us bx : Nat) (F : Nat → Nat → Int32) (G : Nat → Nat → Int64) (hM : kMod g m0 ad sz us bx F G H0) (i : Nat) (hi : i < 340) (hb60 : bx ≤ 60) (hw : mW F bx i) (hn1 : ¬ ((md_drawn F G i).toInt64 + 1) = 0) : Met l y_Mod_firstOf (kW y_Mod_firstOf b_Mod_firstOf 5 (.some .long)) ({ frames := 3, cells := 0, slots := 0, locals := 69 }) (kPc [.ref m0, .int (nI i)] (KK g) H0) (kQc (kPure (.long (md_fo F G i)) H0)) 0 0 (fun _ => False) := by
  refine Met.ofW (cc := b_Mod_firstOf) (maxL := 5) (ret := (.some .long)) (by decide) rfl ?_
  intro p e s m args below meth c s₁ B hml hv
  obtain ⟨rfl, hH, hKK⟩ := hv
  have hx := B.exec
  have hb := B.bytes
  have hr := B.returns
  have hts := kW_ts (atoms_spec (ws := kW y_Mod_firstOf b_Mod_firstOf 5 (.some .long)) B.pre)
  have hown : s.vm.findClass "BoxGlueModel" = some m.cls := findClass_of_methodNamed B.named
  have hlocks := B.notSynchronized
  have hK := hKK.1
  subst hH
  have hl := lv_entry ([.ref m0, .int (nI i)]) (n := 5) (Nat.le_of_ble_eq_true rfl)
  rw [lg_entry_eq]
  generalize (lg_sl ([.ref m0, .int (nI i)]) ++ List.replicate (5 - (lg_sl ([.ref m0, .int (nI i)])).length) Slot.unset).toArray = ls at hl ⊢
  have hl : lv_has ls 5 [(0, .ref m0), (1, .int (nI i))] := hl
  refine lv_aload_n hx hb d_Mod_firstOf_0 rfl (lv_at hl 0 rfl) ?_
  refine lv_iload_n hx hb d_Mod_firstOf_1 rfl (lv_at hl 1 rfl) ?_
  refine k_pure (r := .int (md_drawn F G i)) (W.runV (As := [.int (nI i)]) (rest := []) ⟨hx, hb, hml, hown, hts⟩ (c_Mod_drawn l g s.heap m0 ad sz us bx F G hM i hi hb60 hw) (cwV 1 hts (kV_good kw_750 kw_747 kw_749 ks_Mod_drawn kw_5) rfl rfl rfl (by decide +kernel) ⟨Nat.le_of_ble_eq_true rfl, Nat.le_of_ble_eq_true rfl⟩) (k_preV (KK_st g) hKK (va_recv hK (k_one hM.1) (ci := 10) (q0 := 0) rfl rfl)) rfl rfl hl.1 rfl (lv_room (Nat.le_of_ble_eq_true rfl)) d_Mod_firstOf_2 ⟨Nat.zero_le _, Nat.zero_le _⟩) ?_
  refine lv_istore_n (lv' := [(2, .int (md_drawn F G i)), (0, .ref m0), (1, .int (nI i))]) hx hb d_Mod_firstOf_5 rfl hl (by decide) rfl (fun ls hl => ?_)
  refine lv_iload_n hx hb d_Mod_firstOf_6 rfl (lv_at hl 0 rfl) ?_
  refine lv_if_ne (tgt := 12) hx hb d_Mod_firstOf_7 (by decide) (fun c_1 => ?_) (fun c_1 => ?_)
  · skip
    refine lv_aload_n hx hb d_Mod_firstOf_12 rfl (lv_at hl 1 rfl) ?_
    refine va_get (D := g.1) (ci := 10) (v := .ref (ad 10)) (C := "BoxGlueModel") (T := kT_Mod) (N := 24) hx hb hts ki_Mod hown hK (k_one hM.1) 0 rfl rfl 10 (by decide) (hts _ kw_591) (fun _ h9 => h9) rfl d_Mod_firstOf_13 ?_
    refine lv_iload_n hx hb d_Mod_firstOf_16 rfl (lv_at hl 2 rfl) ?_
    refine m_lald hx hb hK hM 10 i (by decide) (show i < 340 by omega) d_Mod_firstOf_17 ?_
    refine lv_iload_n hx hb d_Mod_firstOf_18 rfl (lv_at hl 0 rfl) ?_
    refine lv_i2l hx hb d_Mod_firstOf_19 rfl ?_
    refine lv_aload_n hx hb d_Mod_firstOf_20 rfl (lv_at hl 1 rfl) ?_
    refine lv_iload_n hx hb d_Mod_firstOf_21 rfl (lv_at hl 2 rfl) ?_
    refine k_pure (r := .int (md_ll F i)) (W.runV (As := [.int (nI i)]) (rest := [.long ((md_drawn F G i)).toInt64, .long (G 10 i)]) ⟨hx, hb, hml, hown, hts⟩ (c_Mod_leaderLength l g s.heap m0 ad sz us bx F G hM i hi hb60 hw (md_drawn_ne c_1).1) (cwV 1 hts (kV_good kw_754 kw_751 kw_753 ks_Mod_leaderLength kw_5) rfl rfl rfl (by decide +kernel) ⟨Nat.le_of_ble_eq_true rfl, Nat.le_of_ble_eq_true rfl⟩) (k_preV (KK_st g) hKK (va_recv hK (k_one hM.1) (ci := 10) (q0 := 0) rfl rfl)) rfl rfl hl.1 rfl (lv_room (Nat.le_of_ble_eq_true rfl)) d_Mod_firstOf_22 ⟨Nat.zero_le _, Nat.zero_le _⟩) ?_
    refine lv_i2l hx hb d_Mod_firstOf_25 rfl ?_
    refine lv_lmul hx hb d_Mod_firstOf_26 ?_
    refine lv_lsub hx hb d_Mod_firstOf_27 ?_
    refine lv_lstore_n (lv' := [(3, .long ((G 10 i) - (((md_drawn F G i)).toInt64 * ((md_ll F i)).toInt64))), (2, .int (md_drawn F G i)), (0, .ref m0), (1, .int (nI i))]) hx hb d_Mod_firstOf_28 rfl hl (by decide) rfl (fun ls hl => ?_)
    refine lv_aload_n hx hb d_Mod_firstOf_29 rfl (lv_at hl 2 rfl) ?_
    refine va_get (D := g.1) (ci := 10) (v := .ref (ad 8)) (C := "BoxGlueModel") (T := kT_Mod) (N := 24) hx hb hts ki_Mod hown hK (k_one hM.1) 0 rfl rfl 8 (by decide) (hts _ kw_589) (fun _ h9 => h9) rfl d_Mod_firstOf_30 ?_
    refine lv_iload_n hx hb d_Mod_firstOf_33 rfl (lv_at hl 3 rfl) ?_
    refine m_iald hx hb hK hM 8 i (Or.inl (by decide)) (show i < 340 by omega) d_Mod_firstOf_34 ?_
    refine lv_iconst (v := 1) hx hb d_Mod_firstOf_35 (by decide) ?_
    refine lv_icmp_ne (tgt := 47) hx hb d_Mod_firstOf_36 (by decide) (fun c_2 => ?_) (fun c_2 => ?_)
    · skip
      refine lv_aload_n hx hb d_Mod_firstOf_47 rfl (lv_at hl 2 rfl) ?_
      refine va_get (D := g.1) (ci := 10) (v := .ref (ad 8)) (C := "BoxGlueModel") (T := kT_Mod) (N := 24) hx hb hts ki_Mod hown hK (k_one hM.1) 0 rfl rfl 8 (by decide) (hts _ kw_589) (fun _ h9 => h9) rfl d_Mod_firstOf_48 ?_
      refine lv_iload_n hx hb d_Mod_firstOf_51 rfl (lv_at hl 3 rfl) ?_
      refine m_iald hx hb hK hM 8 i (Or.inl (by decide)) (show i < 340 by omega) d_Mod_firstOf_52 ?_
      refine lv_iconst (v := 2) hx hb d_Mod_firstOf_53 (by decide) ?_
      refine lv_icmp_ne (tgt := 72) hx hb d_Mod_firstOf_54 (by decide) (fun c_3 => ?_) (fun c_3 => ?_)
      · skip
        refine lv_aload_n hx hb d_Mod_firstOf_72 rfl (lv_at hl 2 rfl) ?_
        refine va_get (D := g.1) (ci := 10) (v := .ref (ad 11)) (C := "BoxGlueModel") (T := kT_Mod) (N := 24) hx hb hts ki_Mod hown hK (k_one hM.1) 0 rfl rfl 11 (by decide) (hts _ kw_592) (fun _ h9 => h9) rfl d_Mod_firstOf_73 ?_
        refine lv_iload_n hx hb d_Mod_firstOf_76 rfl (lv_at hl 3 rfl) ?_
        refine m_lald hx hb hK hM 11 i (by decide) (show i < 340 by omega) d_Mod_firstOf_77 ?_
        refine lv_lload_n hx hb d_Mod_firstOf_78 rfl (lv_at hl 0 rfl) ?_
        refine lv_iload_n hx hb d_Mod_firstOf_79 rfl (lv_at hl 1 rfl) ?_
        refine lv_i2l hx hb d_Mod_firstOf_80 rfl ?_
        refine lv_lconst (v := 1) hx hb d_Mod_firstOf_81 (by decide) ?_
        refine lv_ladd hx hb d_Mod_firstOf_82 ?_
        refine lv_ldiv hx hb d_Mod_firstOf_83 hn1 ?_
        refine lv_ladd hx hb d_Mod_firstOf_84 ?_
        exact W.lret (v := ((G 11 i) + (((G 10 i) - (((md_drawn F G i)).toInt64 * ((md_ll F i)).toInt64)) / (((md_drawn F G i)).toInt64 + 1)))) hx hb hr (fun t ht hW => ⟨_, rfl, (by unfold md_fo; rw [if_neg c_1, if_neg c_2, if_neg c_3]), ht⟩) (fun _ h => by cases h) d_Mod_firstOf_85
      · skip
        refine lv_aload_n hx hb d_Mod_firstOf_57 rfl (lv_at hl 2 rfl) ?_
        refine va_get (D := g.1) (ci := 10) (v := .ref (ad 11)) (C := "BoxGlueModel") (T := kT_Mod) (N := 24) hx hb hts ki_Mod hown hK (k_one hM.1) 0 rfl rfl 11 (by decide) (hts _ kw_592) (fun _ h9 => h9) rfl d_Mod_firstOf_58 ?_
        refine lv_iload_n hx hb d_Mod_firstOf_61 rfl (lv_at hl 3 rfl) ?_
        refine m_lald hx hb hK hM 11 i (by decide) (show i < 340 by omega) d_Mod_firstOf_62 ?_
        refine lv_lload_n hx hb d_Mod_firstOf_63 rfl (lv_at hl 0 rfl) ?_
        refine lv_ldc2 (own := "BoxGlueModel") (index := 148) (v := 2) hx hb hown (hts _ kw_763) d_Mod_firstOf_64 ?_
        refine lv_ldiv hx hb d_Mod_firstOf_67 (by decide) ?_
        refine lv_ladd hx hb d_Mod_firstOf_68 ?_
        refine lv_goto (tgt := 85) hx hb d_Mod_firstOf_69 (by decide) ?_
        exact W.lret (v := ((G 11 i) + (((G 10 i) - (((md_drawn F G i)).toInt64 * ((md_ll F i)).toInt64)) / 2))) hx hb hr (fun t ht hW => ⟨_, rfl, (by unfold md_fo; rw [if_neg c_1, if_neg c_2, if_pos c_3]), ht⟩) (fun _ h => by cases h) d_Mod_firstOf_85
    · skip
      refine lv_aload_n hx hb d_Mod_firstOf_39 rfl (lv_at hl 2 rfl) ?_
      refine lv_iload_n hx hb d_Mod_firstOf_40 rfl (lv_at hl 3 rfl) ?_
      refine k_pure (r := .long (md_fp F G i)) (W.runV (As := [.int (nI i)]) (rest := []) ⟨hx, hb, hml, hown, hts⟩ (c_Mod_firstPlace l g s.heap m0 ad sz us bx F G hM i hi hb60 hw (md_drawn_ne c_1).1 (md_drawn_ne c_1).2) (cwV 1 hts (kV_good kw_758 kw_755 kw_757 ks_Mod_firstPlace kw_5) rfl rfl rfl (by decide +kernel) ⟨Nat.le_of_ble_eq_true rfl, Nat.le_of_ble_eq_true rfl⟩) (k_preV (KK_st g) hKK (va_recv hK (k_one hM.1) (ci := 10) (q0 := 0) rfl rfl)) rfl rfl hl.1 rfl (lv_room (Nat.le_of_ble_eq_true rfl)) d_Mod_firstOf_41 ⟨Nat.zero_le _, Nat.zero_le _⟩) ?_
      refine lv_goto (tgt := 85) hx hb d_Mod_firstOf_44 (by decide) ?_
      exact W.lret (v := (md_fp F G i)) hx hb hr (fun t ht hW => ⟨_, rfl, (by unfold md_fo; rw [if_neg c_1, if_pos c_2]), ht⟩) (fun _ h => by cases h) d_Mod_firstOf_85
  · skip
    refine lv_lconst (v := 0) hx hb d_Mod_firstOf_10 (by decide) ?_
    exact W.lret (v := 0) hx hb hr (fun t ht hW => ⟨_, rfl, (by unfold md_fo; rw [if_pos c_1]), ht⟩) (fun _ h => by cases h) d_Mod_firstOf_11
def md_so (F : Nat → Nat → Int32) (G : Nat → Nat → Int64) (i : Nat) : Int64 :=
  if (md_drawn F G i) = 0 then
    0
  else
    if (F 8 i) = 3 then
      (((md_ll F i)).toInt64 + (((G 10 i) - (((md_drawn F G i)).toInt64 * ((md_ll F i)).toInt64)) / (((md_drawn F G i)).toInt64 + 1)))
    else
      ((md_ll F i)).toInt64
set_option maxHeartbeats 4000000 in
set_option maxRecDepth 100000 in
theorem c_Mod_stepOf (l : Launch) (g : KGt) (H0 : Heap) (m0 : Nat) (ad : Nat → Nat) (sz us bx : Nat) (F : Nat → Nat → Int32) (G : Nat → Nat → Int64) (hM : kMod g m0 ad sz us bx F G H0) (i : Nat) (hi : i < 340) (hb60 : bx ≤ 60) (hw : mW F bx i) (hn1 : ¬ ((md_drawn F G i).toInt64 + 1) = 0) : Met l y_Mod_stepOf (kW y_Mod_stepOf b_Mod_stepOf 5 (.some .long)) ({ frames := 3, cells := 0, slots := 0, locals := 69 }) (kPc [.ref m0, .int (nI i)] (KK g) H0) (kQc (kPure (.long (md_so F G i)) H0)) 0 0 (fun _ => False) := by
  refine Met.ofW (cc := b_Mod_stepOf) (maxL := 5) (ret := (.some .long)) (by decide) rfl ?_
  intro p e s m args below meth c s₁ B hml hv
  obtain ⟨rfl, hH, hKK⟩ := hv
  have hx := B.exec
  have hb := B.bytes
  have hr := B.returns
  have hts := kW_ts (atoms_spec (ws := kW y_Mod_stepOf b_Mod_stepOf 5 (.some .long)) B.pre)
  have hown : s.vm.findClass "BoxGlueModel" = some m.cls := findClass_of_methodNamed B.named
  have hlocks := B.notSynchronized
  have hK := hKK.1
  subst hH
  have hl := lv_entry ([.ref m0, .int (nI i)]) (n := 5) (Nat.le_of_ble_eq_true rfl)
  rw [lg_entry_eq]
  generalize (lg_sl ([.ref m0, .int (nI i)]) ++ List.replicate (5 - (lg_sl ([.ref m0, .int (nI i)])).length) Slot.unset).toArray = ls at hl ⊢
  have hl : lv_has ls 5 [(0, .ref m0), (1, .int (nI i))] := hl
  refine lv_aload_n hx hb d_Mod_stepOf_0 rfl (lv_at hl 0 rfl) ?_
  refine lv_iload_n hx hb d_Mod_stepOf_1 rfl (lv_at hl 1 rfl) ?_
  refine k_pure (r := .int (md_drawn F G i)) (W.runV (As := [.int (nI i)]) (rest := []) ⟨hx, hb, hml, hown, hts⟩ (c_Mod_drawn l g s.heap m0 ad sz us bx F G hM i hi hb60 hw) (cwV 1 hts (kV_good kw_750 kw_747 kw_749 ks_Mod_drawn kw_5) rfl rfl rfl (by decide +kernel) ⟨Nat.le_of_ble_eq_true rfl, Nat.le_of_ble_eq_true rfl⟩) (k_preV (KK_st g) hKK (va_recv hK (k_one hM.1) (ci := 10) (q0 := 0) rfl rfl)) rfl rfl hl.1 rfl (lv_room (Nat.le_of_ble_eq_true rfl)) d_Mod_stepOf_2 ⟨Nat.zero_le _, Nat.zero_le _⟩) ?_
  refine lv_istore_n (lv' := [(2, .int (md_drawn F G i)), (0, .ref m0), (1, .int (nI i))]) hx hb d_Mod_stepOf_5 rfl hl (by decide) rfl (fun ls hl => ?_)
  refine lv_iload_n hx hb d_Mod_stepOf_6 rfl (lv_at hl 0 rfl) ?_
  refine lv_if_ne (tgt := 12) hx hb d_Mod_stepOf_7 (by decide) (fun c_1 => ?_) (fun c_1 => ?_)
  · skip
    refine lv_aload_n hx hb d_Mod_stepOf_12 rfl (lv_at hl 1 rfl) ?_
    refine va_get (D := g.1) (ci := 10) (v := .ref (ad 10)) (C := "BoxGlueModel") (T := kT_Mod) (N := 24) hx hb hts ki_Mod hown hK (k_one hM.1) 0 rfl rfl 10 (by decide) (hts _ kw_591) (fun _ h9 => h9) rfl d_Mod_stepOf_13 ?_
    refine lv_iload_n hx hb d_Mod_stepOf_16 rfl (lv_at hl 2 rfl) ?_
    refine m_lald hx hb hK hM 10 i (by decide) (show i < 340 by omega) d_Mod_stepOf_17 ?_
    refine lv_iload_n hx hb d_Mod_stepOf_18 rfl (lv_at hl 0 rfl) ?_
    refine lv_i2l hx hb d_Mod_stepOf_19 rfl ?_
    refine lv_aload_n hx hb d_Mod_stepOf_20 rfl (lv_at hl 1 rfl) ?_
    refine lv_iload_n hx hb d_Mod_stepOf_21 rfl (lv_at hl 2 rfl) ?_
    refine k_pure (r := .int (md_ll F i)) (W.runV (As := [.int (nI i)]) (rest := [.long ((md_drawn F G i)).toInt64, .long (G 10 i)]) ⟨hx, hb, hml, hown, hts⟩ (c_Mod_leaderLength l g s.heap m0 ad sz us bx F G hM i hi hb60 hw (md_drawn_ne c_1).1) (cwV 1 hts (kV_good kw_754 kw_751 kw_753 ks_Mod_leaderLength kw_5) rfl rfl rfl (by decide +kernel) ⟨Nat.le_of_ble_eq_true rfl, Nat.le_of_ble_eq_true rfl⟩) (k_preV (KK_st g) hKK (va_recv hK (k_one hM.1) (ci := 10) (q0 := 0) rfl rfl)) rfl rfl hl.1 rfl (lv_room (Nat.le_of_ble_eq_true rfl)) d_Mod_stepOf_22 ⟨Nat.zero_le _, Nat.zero_le _⟩) ?_
    refine lv_i2l hx hb d_Mod_stepOf_25 rfl ?_
    refine lv_lmul hx hb d_Mod_stepOf_26 ?_
    refine lv_lsub hx hb d_Mod_stepOf_27 ?_
    refine lv_lstore_n (lv' := [(3, .long ((G 10 i) - (((md_drawn F G i)).toInt64 * ((md_ll F i)).toInt64))), (2, .int (md_drawn F G i)), (0, .ref m0), (1, .int (nI i))]) hx hb d_Mod_stepOf_28 rfl hl (by decide) rfl (fun ls hl => ?_)
    refine lv_aload_n hx hb d_Mod_stepOf_29 rfl (lv_at hl 2 rfl) ?_
    refine va_get (D := g.1) (ci := 10) (v := .ref (ad 8)) (C := "BoxGlueModel") (T := kT_Mod) (N := 24) hx hb hts ki_Mod hown hK (k_one hM.1) 0 rfl rfl 8 (by decide) (hts _ kw_589) (fun _ h9 => h9) rfl d_Mod_stepOf_30 ?_
    refine lv_iload_n hx hb d_Mod_stepOf_33 rfl (lv_at hl 3 rfl) ?_
    refine m_iald hx hb hK hM 8 i (Or.inl (by decide)) (show i < 340 by omega) d_Mod_stepOf_34 ?_
    refine lv_iconst (v := 3) hx hb d_Mod_stepOf_35 (by decide) ?_
    refine lv_icmp_ne (tgt := 55) hx hb d_Mod_stepOf_36 (by decide) (fun c_2 => ?_) (fun c_2 => ?_)
    · skip
      refine lv_aload_n hx hb d_Mod_stepOf_55 rfl (lv_at hl 2 rfl) ?_
      refine lv_iload_n hx hb d_Mod_stepOf_56 rfl (lv_at hl 3 rfl) ?_
      refine k_pure (r := .int (md_ll F i)) (W.runV (As := [.int (nI i)]) (rest := []) ⟨hx, hb, hml, hown, hts⟩ (c_Mod_leaderLength l g s.heap m0 ad sz us bx F G hM i hi hb60 hw (md_drawn_ne c_1).1) (cwV 1 hts (kV_good kw_754 kw_751 kw_753 ks_Mod_leaderLength kw_5) rfl rfl rfl (by decide +kernel) ⟨Nat.le_of_ble_eq_true rfl, Nat.le_of_ble_eq_true rfl⟩) (k_preV (KK_st g) hKK (va_recv hK (k_one hM.1) (ci := 10) (q0 := 0) rfl rfl)) rfl rfl hl.1 rfl (lv_room (Nat.le_of_ble_eq_true rfl)) d_Mod_stepOf_57 ⟨Nat.zero_le _, Nat.zero_le _⟩) ?_
      refine lv_i2l hx hb d_Mod_stepOf_60 rfl ?_
      exact W.lret (v := ((md_ll F i)).toInt64) hx hb hr (fun t ht hW => ⟨_, rfl, (by unfold md_so; rw [if_neg c_1, if_neg c_2]), ht⟩) (fun _ h => by cases h) d_Mod_stepOf_61
    · skip
      refine lv_aload_n hx hb d_Mod_stepOf_39 rfl (lv_at hl 2 rfl) ?_
      refine lv_iload_n hx hb d_Mod_stepOf_40 rfl (lv_at hl 3 rfl) ?_
      refine k_pure (r := .int (md_ll F i)) (W.runV (As := [.int (nI i)]) (rest := []) ⟨hx, hb, hml, hown, hts⟩ (c_Mod_leaderLength l g s.heap m0 ad sz us bx F G hM i hi hb60 hw (md_drawn_ne c_1).1) (cwV 1 hts (kV_good kw_754 kw_751 kw_753 ks_Mod_leaderLength kw_5) rfl rfl rfl (by decide +kernel) ⟨Nat.le_of_ble_eq_true rfl, Nat.le_of_ble_eq_true rfl⟩) (k_preV (KK_st g) hKK (va_recv hK (k_one hM.1) (ci := 10) (q0 := 0) rfl rfl)) rfl rfl hl.1 rfl (lv_room (Nat.le_of_ble_eq_true rfl)) d_Mod_stepOf_41 ⟨Nat.zero_le _, Nat.zero_le _⟩) ?_
      refine lv_i2l hx hb d_Mod_stepOf_44 rfl ?_
      refine lv_lload_n hx hb d_Mod_stepOf_45 rfl (lv_at hl 0 rfl) ?_
      refine lv_iload_n hx hb d_Mod_stepOf_46 rfl (lv_at hl 1 rfl) ?_
      refine lv_i2l hx hb d_Mod_stepOf_47 rfl ?_
      refine lv_lconst (v := 1) hx hb d_Mod_stepOf_48 (by decide) ?_
      refine lv_ladd hx hb d_Mod_stepOf_49 ?_
      refine lv_ldiv hx hb d_Mod_stepOf_50 hn1 ?_
      refine lv_ladd hx hb d_Mod_stepOf_51 ?_
      refine lv_goto (tgt := 61) hx hb d_Mod_stepOf_52 (by decide) ?_
      exact W.lret (v := (((md_ll F i)).toInt64 + (((G 10 i) - (((md_drawn F G i)).toInt64 * ((md_ll F i)).toInt64)) / (((md_drawn F G i)).toInt64 + 1)))) hx hb hr (fun t ht hW => ⟨_, rfl, (by unfold md_so; rw [if_neg c_1, if_pos c_2]), ht⟩) (fun _ h => by cases h) d_Mod_stepOf_61
  · skip
    refine lv_lconst (v := 0) hx hb d_Mod_stepOf_10 (by decide) ?_
    exact W.lret (v := 0) hx hb hr (fun t ht hW => ⟨_, rfl, (by unfold md_so; rw [if_pos c_1]), ht⟩) (fun _ h => by cases h) d_Mod_stepOf_11
set_option maxHeartbeats 4000000 in
set_option maxRecDepth 100000 in
theorem c_Mod_told_bad1 (l : Launch) (g : KGt) (H0 : Heap) (m0 : Nat) (ad : Nat → Nat) (sz us bx : Nat) (F : Nat → Nat → Int32) (G : Nat → Nat → Int64) (hM : kMod g m0 ad sz us bx F G H0) (p0 : Int32) (p1 : Int32) (h : p0 < 0 ∨ nI bx ≤ p0) : Met l y_Mod_told (kW y_Mod_told b_Mod_told 3 (.some .int)) ({ frames := 1, cells := 0, slots := 0, locals := 21 }) (kPc [.ref m0, .int p0, .int p1] (KK g) H0) (kQc (kPure (.int (-1)) H0)) 0 0 (fun _ => False) := by
  refine Met.ofW (cc := b_Mod_told) (maxL := 3) (ret := (.some .int)) (by decide) rfl ?_
  intro p e s m args below meth c s₁ B hml hv
  obtain ⟨rfl, hH, hKK⟩ := hv
  have hx := B.exec
  have hb := B.bytes
  have hr := B.returns
  have hts := kW_ts (atoms_spec (ws := kW y_Mod_told b_Mod_told 3 (.some .int)) B.pre)
  have hown : s.vm.findClass "BoxGlueModel" = some m.cls := findClass_of_methodNamed B.named
  have hlocks := B.notSynchronized
  have hK := hKK.1
  subst hH
  have hl := lv_entry ([.ref m0, .int p0, .int p1]) (n := 3) (Nat.le_of_ble_eq_true rfl)
  rw [lg_entry_eq]
  generalize (lg_sl ([.ref m0, .int p0, .int p1]) ++ List.replicate (3 - (lg_sl ([.ref m0, .int p0, .int p1])).length) Slot.unset).toArray = ls at hl ⊢
  have hl : lv_has ls 3 [(0, .ref m0), (1, .int p0), (2, .int p1)] := hl
  refine lv_aload_n hx hb d_Mod_told_0 rfl (lv_at hl 0 rfl) ?_
  refine lv_iload_n hx hb d_Mod_told_1 rfl (lv_at hl 1 rfl) ?_
  refine k_pure (r := .int 0) (W.runV (As := [.int p0]) (rest := []) ⟨hx, hb, hml, hown, hts⟩ (c_Mod_isBox_no l g s.heap m0 ad sz us bx F G hM p0 h) (cwV 1 hts (kV_good kw_671 kw_668 kw_670 ks_Mod_isBox kw_5) rfl rfl rfl (by decide +kernel) ⟨Nat.le_of_ble_eq_true rfl, Nat.le_of_ble_eq_true rfl⟩) (k_preV (KK_st g) hKK (va_recv hK (k_one hM.1) (ci := 10) (q0 := 0) rfl rfl)) rfl rfl hl.1 rfl (lv_room (Nat.le_of_ble_eq_true rfl)) d_Mod_told_2 ⟨Nat.zero_le _, Nat.zero_le _⟩) ?_
  refine lv_if_eq (tgt := 18) hx hb d_Mod_told_5 (by decide) (fun c_1 => ?_) (fun c_1 => ?_)
  rotate_left
  · exact absurd c_1 (fun q => q rfl)
  refine lv_iconst (v := (-1)) hx hb d_Mod_told_18 (by decide) ?_
  exact W.iret (v := (-1)) hx hb hr (fun t ht hW => ⟨_, rfl, rfl, ht⟩) (fun _ h => by cases h) d_Mod_told_19
set_option maxHeartbeats 4000000 in
set_option maxRecDepth 100000 in
theorem c_Mod_told_bad2 (l : Launch) (g : KGt) (H0 : Heap) (m0 : Nat) (ad : Nat → Nat) (sz us bx : Nat) (F : Nat → Nat → Int32) (G : Nat → Nat → Int64) (hM : kMod g m0 ad sz us bx F G H0) (p1 : Int32) (k : Nat) (hk : k < bx) (hb60 : bx ≤ 60) (h : f_Mod_isIn p1 0 7 = 0) : Met l y_Mod_told (kW y_Mod_told b_Mod_told 3 (.some .int)) ({ frames := 1, cells := 0, slots := 0, locals := 22 }) (kPc [.ref m0, .int (nI k), .int p1] (KK g) H0) (kQc (kPure (.int (-1)) H0)) 0 0 (fun _ => False) := by
  refine Met.ofW (cc := b_Mod_told) (maxL := 3) (ret := (.some .int)) (by decide) rfl ?_
  intro p e s m args below meth c s₁ B hml hv
  obtain ⟨rfl, hH, hKK⟩ := hv
  have hx := B.exec
  have hb := B.bytes
  have hr := B.returns
  have hts := kW_ts (atoms_spec (ws := kW y_Mod_told b_Mod_told 3 (.some .int)) B.pre)
  have hown : s.vm.findClass "BoxGlueModel" = some m.cls := findClass_of_methodNamed B.named
  have hlocks := B.notSynchronized
  have hK := hKK.1
  subst hH
  have hl := lv_entry ([.ref m0, .int (nI k), .int p1]) (n := 3) (Nat.le_of_ble_eq_true rfl)
  rw [lg_entry_eq]
  generalize (lg_sl ([.ref m0, .int (nI k), .int p1]) ++ List.replicate (3 - (lg_sl ([.ref m0, .int (nI k), .int p1])).length) Slot.unset).toArray = ls at hl ⊢
  have hl : lv_has ls 3 [(0, .ref m0), (1, .int (nI k)), (2, .int p1)] := hl
  refine lv_aload_n hx hb d_Mod_told_0 rfl (lv_at hl 0 rfl) ?_
  refine lv_iload_n hx hb d_Mod_told_1 rfl (lv_at hl 1 rfl) ?_
  refine k_pure (r := .int 1) (W.runV (As := [.int (nI k)]) (rest := []) ⟨hx, hb, hml, hown, hts⟩ (c_Mod_isBox_yes l g s.heap m0 ad sz us bx F G hM k hk hb60) (cwV 1 hts (kV_good kw_671 kw_668 kw_670 ks_Mod_isBox kw_5) rfl rfl rfl (by decide +kernel) ⟨Nat.le_of_ble_eq_true rfl, Nat.le_of_ble_eq_true rfl⟩) (k_preV (KK_st g) hKK (va_recv hK (k_one hM.1) (ci := 10) (q0 := 0) rfl rfl)) rfl rfl hl.1 rfl (lv_room (Nat.le_of_ble_eq_true rfl)) d_Mod_told_2 ⟨Nat.zero_le _, Nat.zero_le _⟩) ?_
  refine lv_if_eq (tgt := 18) hx hb d_Mod_told_5 (by decide) (fun c_1 => ?_) (fun c_1 => ?_)
  · exact absurd c_1 (by decide)
  refine lv_iload_n hx hb d_Mod_told_8 rfl (lv_at hl 2 rfl) ?_
  refine lv_iconst (v := 0) hx hb d_Mod_told_9 (by decide) ?_
  refine lv_bipush (v := 7) hx hb d_Mod_told_10 (by decide) ?_
  refine k_pure (r := .int (f_Mod_isIn p1 0 7)) (W.runS (As := [.int p1, .int 0, .int 7]) (rest := []) ⟨hx, hb, hml, hown, hts⟩ (c_Mod_isIn l g s.heap p1 0 7) (va_cwS 3 hts (kS_good kw_663 kw_661 kw_662 kw_5) rfl rfl rfl (by decide +kernel) ⟨Nat.le_of_ble_eq_true rfl, Nat.le_of_ble_eq_true rfl⟩) (k_pre (KK_st g) hKK) rfl rfl hl.1 rfl (lv_room (Nat.le_of_ble_eq_true rfl)) d_Mod_told_12 ⟨Nat.zero_le _, Nat.zero_le _⟩) ?_
  refine lv_if_ne (tgt := 20) hx hb d_Mod_told_15 (by decide) (fun c_2 => ?_) (fun c_2 => ?_)
  · exact absurd c_2 (fun q => q h)
  refine lv_iconst (v := (-1)) hx hb d_Mod_told_18 (by decide) ?_
  exact W.iret (v := (-1)) hx hb hr (fun t ht hW => ⟨_, rfl, rfl, ht⟩) (fun _ h => by cases h) d_Mod_told_19
def md_told (F : Nat → Nat → Int32) (k : Nat) (p1 : Int32) : Int32 := if p1 = 0 then F 15 k else if p1 = 1 then F 16 k else if p1 = 2 then F 17 k else if p1 = 3 then F 19 k else if p1 = 4 then F 20 k else if p1 = 5 then F 21 k else if p1 = 6 then F 22 k else F 23 k
set_option maxHeartbeats 4000000 in
set_option maxRecDepth 100000 in
theorem c_Mod_told_ok (l : Launch) (g : KGt) (H0 : Heap) (m0 : Nat) (ad : Nat → Nat) (sz us bx : Nat) (F : Nat → Nat → Int32) (G : Nat → Nat → Int64) (hM : kMod g m0 ad sz us bx F G H0) (p1 : Int32) (k : Nat) (hk : k < bx) (hb60 : bx ≤ 60) (h : ¬ f_Mod_isIn p1 0 7 = 0) : Met l y_Mod_told (kW y_Mod_told b_Mod_told 3 (.some .int)) ({ frames := 1, cells := 0, slots := 0, locals := 22 }) (kPc [.ref m0, .int (nI k), .int p1] (KK g) H0) (kQc (kPure (.int (md_told F k p1)) H0)) 0 0 (fun _ => False) := by
  refine Met.ofW (cc := b_Mod_told) (maxL := 3) (ret := (.some .int)) (by decide) rfl ?_
  intro p e s m args below meth c s₁ B hml hv
  obtain ⟨rfl, hH, hKK⟩ := hv
  have hx := B.exec
  have hb := B.bytes
  have hr := B.returns
  have hts := kW_ts (atoms_spec (ws := kW y_Mod_told b_Mod_told 3 (.some .int)) B.pre)
  have hown : s.vm.findClass "BoxGlueModel" = some m.cls := findClass_of_methodNamed B.named
  have hlocks := B.notSynchronized
  have hK := hKK.1
  subst hH
  have hl := lv_entry ([.ref m0, .int (nI k), .int p1]) (n := 3) (Nat.le_of_ble_eq_true rfl)
  rw [lg_entry_eq]
  generalize (lg_sl ([.ref m0, .int (nI k), .int p1]) ++ List.replicate (3 - (lg_sl ([.ref m0, .int (nI k), .int p1])).length) Slot.unset).toArray = ls at hl ⊢
  have hl : lv_has ls 3 [(0, .ref m0), (1, .int (nI k)), (2, .int p1)] := hl
  refine lv_aload_n hx hb d_Mod_told_0 rfl (lv_at hl 0 rfl) ?_
  refine lv_iload_n hx hb d_Mod_told_1 rfl (lv_at hl 1 rfl) ?_
  refine k_pure (r := .int 1) (W.runV (As := [.int (nI k)]) (rest := []) ⟨hx, hb, hml, hown, hts⟩ (c_Mod_isBox_yes l g s.heap m0 ad sz us bx F G hM k hk hb60) (cwV 1 hts (kV_good kw_671 kw_668 kw_670 ks_Mod_isBox kw_5) rfl rfl rfl (by decide +kernel) ⟨Nat.le_of_ble_eq_true rfl, Nat.le_of_ble_eq_true rfl⟩) (k_preV (KK_st g) hKK (va_recv hK (k_one hM.1) (ci := 10) (q0 := 0) rfl rfl)) rfl rfl hl.1 rfl (lv_room (Nat.le_of_ble_eq_true rfl)) d_Mod_told_2 ⟨Nat.zero_le _, Nat.zero_le _⟩) ?_
  refine lv_if_eq (tgt := 18) hx hb d_Mod_told_5 (by decide) (fun c_1 => ?_) (fun c_1 => ?_)
  · exact absurd c_1 (by decide)
  refine lv_iload_n hx hb d_Mod_told_8 rfl (lv_at hl 2 rfl) ?_
  refine lv_iconst (v := 0) hx hb d_Mod_told_9 (by decide) ?_
  refine lv_bipush (v := 7) hx hb d_Mod_told_10 (by decide) ?_
  refine k_pure (r := .int (f_Mod_isIn p1 0 7)) (W.runS (As := [.int p1, .int 0, .int 7]) (rest := []) ⟨hx, hb, hml, hown, hts⟩ (c_Mod_isIn l g s.heap p1 0 7) (va_cwS 3 hts (kS_good kw_663 kw_661 kw_662 kw_5) rfl rfl rfl (by decide +kernel) ⟨Nat.le_of_ble_eq_true rfl, Nat.le_of_ble_eq_true rfl⟩) (k_pre (KK_st g) hKK) rfl rfl hl.1 rfl (lv_room (Nat.le_of_ble_eq_true rfl)) d_Mod_told_12 ⟨Nat.zero_le _, Nat.zero_le _⟩) ?_
  refine lv_if_ne (tgt := 20) hx hb d_Mod_told_15 (by decide) (fun c_2 => ?_) (fun c_2 => ?_)
  rotate_left
  · exact absurd c_2 h
  refine lv_iload_n hx hb d_Mod_told_20 rfl (lv_at hl 2 rfl) ?_
  by_cases c_4 : p1 = 0
  · refine lv_tableIn (tgt := 64) hx hb d_Mod_told_21 (by rw [c_4]; decide) (by rw [c_4]; decide) (by rw [c_4]; rfl) (by decide) ?_
    refine lv_aload_n hx hb d_Mod_told_64 rfl (lv_at hl 0 rfl) ?_
    refine va_get (D := g.1) (ci := 10) (v := .ref (ad 15)) (C := "BoxGlueModel") (T := kT_Mod) (N := 24) hx hb hts ki_Mod hown hK (k_one hM.1) 0 rfl rfl 15 (by decide) (hts _ kw_596) (fun _ h9 => h9) rfl d_Mod_told_65 ?_
    refine lv_iload_n hx hb d_Mod_told_68 rfl (lv_at hl 1 rfl) ?_
    refine m_iald hx hb hK hM 15 k (Or.inr ⟨by decide, by decide⟩) (show k < 60 by omega) d_Mod_told_69 ?_
    exact W.iret (v := (F 15 k)) hx hb hr (fun t ht hW => ⟨_, rfl, (by unfold md_told; rw [if_pos c_4]), ht⟩) (fun _ h => by cases h) d_Mod_told_70
  by_cases c_5 : p1 = 1
  · refine lv_tableIn (tgt := 71) hx hb d_Mod_told_21 (by rw [c_5]; decide) (by rw [c_5]; decide) (by rw [c_5]; rfl) (by decide) ?_
    refine lv_aload_n hx hb d_Mod_told_71 rfl (lv_at hl 0 rfl) ?_
    refine va_get (D := g.1) (ci := 10) (v := .ref (ad 16)) (C := "BoxGlueModel") (T := kT_Mod) (N := 24) hx hb hts ki_Mod hown hK (k_one hM.1) 0 rfl rfl 16 (by decide) (hts _ kw_597) (fun _ h9 => h9) rfl d_Mod_told_72 ?_
    refine lv_iload_n hx hb d_Mod_told_75 rfl (lv_at hl 1 rfl) ?_
    refine m_iald hx hb hK hM 16 k (Or.inr ⟨by decide, by decide⟩) (show k < 60 by omega) d_Mod_told_76 ?_
    exact W.iret (v := (F 16 k)) hx hb hr (fun t ht hW => ⟨_, rfl, (by unfold md_told; rw [if_neg c_4, if_pos c_5]), ht⟩) (fun _ h => by cases h) d_Mod_told_77
  by_cases c_6 : p1 = 2
  · refine lv_tableIn (tgt := 78) hx hb d_Mod_told_21 (by rw [c_6]; decide) (by rw [c_6]; decide) (by rw [c_6]; rfl) (by decide) ?_
    refine lv_aload_n hx hb d_Mod_told_78 rfl (lv_at hl 0 rfl) ?_
    refine va_get (D := g.1) (ci := 10) (v := .ref (ad 17)) (C := "BoxGlueModel") (T := kT_Mod) (N := 24) hx hb hts ki_Mod hown hK (k_one hM.1) 0 rfl rfl 17 (by decide) (hts _ kw_598) (fun _ h9 => h9) rfl d_Mod_told_79 ?_
    refine lv_iload_n hx hb d_Mod_told_82 rfl (lv_at hl 1 rfl) ?_
    refine m_iald hx hb hK hM 17 k (Or.inr ⟨by decide, by decide⟩) (show k < 60 by omega) d_Mod_told_83 ?_
    exact W.iret (v := (F 17 k)) hx hb hr (fun t ht hW => ⟨_, rfl, (by unfold md_told; rw [if_neg c_4, if_neg c_5, if_pos c_6]), ht⟩) (fun _ h => by cases h) d_Mod_told_84
  by_cases c_7 : p1 = 3
  · refine lv_tableIn (tgt := 85) hx hb d_Mod_told_21 (by rw [c_7]; decide) (by rw [c_7]; decide) (by rw [c_7]; rfl) (by decide) ?_
    refine lv_aload_n hx hb d_Mod_told_85 rfl (lv_at hl 0 rfl) ?_
    refine va_get (D := g.1) (ci := 10) (v := .ref (ad 19)) (C := "BoxGlueModel") (T := kT_Mod) (N := 24) hx hb hts ki_Mod hown hK (k_one hM.1) 0 rfl rfl 19 (by decide) (hts _ kw_600) (fun _ h9 => h9) rfl d_Mod_told_86 ?_
    refine lv_iload_n hx hb d_Mod_told_89 rfl (lv_at hl 1 rfl) ?_
    refine m_iald hx hb hK hM 19 k (Or.inr ⟨by decide, by decide⟩) (show k < 60 by omega) d_Mod_told_90 ?_
    exact W.iret (v := (F 19 k)) hx hb hr (fun t ht hW => ⟨_, rfl, (by unfold md_told; rw [if_neg c_4, if_neg c_5, if_neg c_6, if_pos c_7]), ht⟩) (fun _ h => by cases h) d_Mod_told_91
  by_cases c_8 : p1 = 4
  · refine lv_tableIn (tgt := 92) hx hb d_Mod_told_21 (by rw [c_8]; decide) (by rw [c_8]; decide) (by rw [c_8]; rfl) (by decide) ?_
    refine lv_aload_n hx hb d_Mod_told_92 rfl (lv_at hl 0 rfl) ?_
    refine va_get (D := g.1) (ci := 10) (v := .ref (ad 20)) (C := "BoxGlueModel") (T := kT_Mod) (N := 24) hx hb hts ki_Mod hown hK (k_one hM.1) 0 rfl rfl 20 (by decide) (hts _ kw_601) (fun _ h9 => h9) rfl d_Mod_told_93 ?_
    refine lv_iload_n hx hb d_Mod_told_96 rfl (lv_at hl 1 rfl) ?_
    refine m_iald hx hb hK hM 20 k (Or.inr ⟨by decide, by decide⟩) (show k < 60 by omega) d_Mod_told_97 ?_
    exact W.iret (v := (F 20 k)) hx hb hr (fun t ht hW => ⟨_, rfl, (by unfold md_told; rw [if_neg c_4, if_neg c_5, if_neg c_6, if_neg c_7, if_pos c_8]), ht⟩) (fun _ h => by cases h) d_Mod_told_98
  by_cases c_9 : p1 = 5
  · refine lv_tableIn (tgt := 99) hx hb d_Mod_told_21 (by rw [c_9]; decide) (by rw [c_9]; decide) (by rw [c_9]; rfl) (by decide) ?_
    refine lv_aload_n hx hb d_Mod_told_99 rfl (lv_at hl 0 rfl) ?_
    refine va_get (D := g.1) (ci := 10) (v := .ref (ad 21)) (C := "BoxGlueModel") (T := kT_Mod) (N := 24) hx hb hts ki_Mod hown hK (k_one hM.1) 0 rfl rfl 21 (by decide) (hts _ kw_602) (fun _ h9 => h9) rfl d_Mod_told_100 ?_
    refine lv_iload_n hx hb d_Mod_told_103 rfl (lv_at hl 1 rfl) ?_
    refine m_iald hx hb hK hM 21 k (Or.inr ⟨by decide, by decide⟩) (show k < 60 by omega) d_Mod_told_104 ?_
    exact W.iret (v := (F 21 k)) hx hb hr (fun t ht hW => ⟨_, rfl, (by unfold md_told; rw [if_neg c_4, if_neg c_5, if_neg c_6, if_neg c_7, if_neg c_8, if_pos c_9]), ht⟩) (fun _ h => by cases h) d_Mod_told_105
  by_cases c_10 : p1 = 6
  · refine lv_tableIn (tgt := 106) hx hb d_Mod_told_21 (by rw [c_10]; decide) (by rw [c_10]; decide) (by rw [c_10]; rfl) (by decide) ?_
    refine lv_aload_n hx hb d_Mod_told_106 rfl (lv_at hl 0 rfl) ?_
    refine va_get (D := g.1) (ci := 10) (v := .ref (ad 22)) (C := "BoxGlueModel") (T := kT_Mod) (N := 24) hx hb hts ki_Mod hown hK (k_one hM.1) 0 rfl rfl 22 (by decide) (hts _ kw_603) (fun _ h9 => h9) rfl d_Mod_told_107 ?_
    refine lv_iload_n hx hb d_Mod_told_110 rfl (lv_at hl 1 rfl) ?_
    refine m_iald hx hb hK hM 22 k (Or.inr ⟨by decide, by decide⟩) (show k < 60 by omega) d_Mod_told_111 ?_
    exact W.iret (v := (F 22 k)) hx hb hr (fun t ht hW => ⟨_, rfl, (by unfold md_told; rw [if_neg c_4, if_neg c_5, if_neg c_6, if_neg c_7, if_neg c_8, if_neg c_9, if_pos c_10]), ht⟩) (fun _ h => by cases h) d_Mod_told_112
  refine lv_tableOut (tgt := 113) hx hb d_Mod_told_21 (k_sw7 c_4 c_5 c_6 c_7 c_8 c_9 c_10) (by decide) ?_
  refine lv_aload_n hx hb d_Mod_told_113 rfl (lv_at hl 0 rfl) ?_
  refine va_get (D := g.1) (ci := 10) (v := .ref (ad 23)) (C := "BoxGlueModel") (T := kT_Mod) (N := 24) hx hb hts ki_Mod hown hK (k_one hM.1) 0 rfl rfl 23 (by decide) (hts _ kw_604) (fun _ h9 => h9) rfl d_Mod_told_114 ?_
  refine lv_iload_n hx hb d_Mod_told_117 rfl (lv_at hl 1 rfl) ?_
  refine m_iald hx hb hK hM 23 k (Or.inr ⟨by decide, by decide⟩) (show k < 60 by omega) d_Mod_told_118 ?_
  exact W.iret (v := (F 23 k)) hx hb hr (fun t ht hW => ⟨_, rfl, (by unfold md_told; rw [if_neg c_4, if_neg c_5, if_neg c_6, if_neg c_7, if_neg c_8, if_neg c_9, if_neg c_10]), ht⟩) (fun _ h => by cases h) d_Mod_told_119
set_option maxHeartbeats 4000000 in
set_option maxRecDepth 100000 in
theorem c_Mod_item_bad1 (l : Launch) (g : KGt) (H0 : Heap) (m0 : Nat) (ad : Nat → Nat) (sz us bx : Nat) (F : Nat → Nat → Int32) (G : Nat → Nat → Int64) (hM : kMod g m0 ad sz us bx F G H0) (p0 : Int32) (p1 : Int32) (p2 : Int32) (h : p0 < 0 ∨ nI bx ≤ p0) : Met l y_Mod_item (kW y_Mod_item b_Mod_item 5 (.some .int)) ({ frames := 1, cells := 0, slots := 0, locals := 21 }) (kPc [.ref m0, .int p0, .int p1, .int p2] (KK g) H0) (kQc (kPure (.int (-1)) H0)) 0 0 (fun _ => False) := by
  refine Met.ofW (cc := b_Mod_item) (maxL := 5) (ret := (.some .int)) (by decide) rfl ?_
  intro p e s m args below meth c s₁ B hml hv
  obtain ⟨rfl, hH, hKK⟩ := hv
  have hx := B.exec
  have hb := B.bytes
  have hr := B.returns
  have hts := kW_ts (atoms_spec (ws := kW y_Mod_item b_Mod_item 5 (.some .int)) B.pre)
  have hown : s.vm.findClass "BoxGlueModel" = some m.cls := findClass_of_methodNamed B.named
  have hlocks := B.notSynchronized
  have hK := hKK.1
  subst hH
  have hl := lv_entry ([.ref m0, .int p0, .int p1, .int p2]) (n := 5) (Nat.le_of_ble_eq_true rfl)
  rw [lg_entry_eq]
  generalize (lg_sl ([.ref m0, .int p0, .int p1, .int p2]) ++ List.replicate (5 - (lg_sl ([.ref m0, .int p0, .int p1, .int p2])).length) Slot.unset).toArray = ls at hl ⊢
  have hl : lv_has ls 5 [(0, .ref m0), (1, .int p0), (2, .int p1), (3, .int p2)] := hl
  refine lv_aload_n hx hb d_Mod_item_0 rfl (lv_at hl 0 rfl) ?_
  refine lv_iload_n hx hb d_Mod_item_1 rfl (lv_at hl 1 rfl) ?_
  refine k_pure (r := .int 0) (W.runV (As := [.int p0]) (rest := []) ⟨hx, hb, hml, hown, hts⟩ (c_Mod_isBox_no l g s.heap m0 ad sz us bx F G hM p0 h) (cwV 1 hts (kV_good kw_671 kw_668 kw_670 ks_Mod_isBox kw_5) rfl rfl rfl (by decide +kernel) ⟨Nat.le_of_ble_eq_true rfl, Nat.le_of_ble_eq_true rfl⟩) (k_preV (KK_st g) hKK (va_recv hK (k_one hM.1) (ci := 10) (q0 := 0) rfl rfl)) rfl rfl hl.1 rfl (lv_room (Nat.le_of_ble_eq_true rfl)) d_Mod_item_2 ⟨Nat.zero_le _, Nat.zero_le _⟩) ?_
  refine lv_if_eq (tgt := 32) hx hb d_Mod_item_5 (by decide) (fun c_1 => ?_) (fun c_1 => ?_)
  rotate_left
  · exact absurd c_1 (fun q => q rfl)
  refine lv_iconst (v := (-1)) hx hb d_Mod_item_32 (by decide) ?_
  exact W.iret (v := (-1)) hx hb hr (fun t ht hW => ⟨_, rfl, rfl, ht⟩) (fun _ h => by cases h) d_Mod_item_33
set_option maxHeartbeats 4000000 in
set_option maxRecDepth 100000 in
theorem c_Mod_item_bad2 (l : Launch) (g : KGt) (H0 : Heap) (m0 : Nat) (ad : Nat → Nat) (sz us bx : Nat) (F : Nat → Nat → Int32) (G : Nat → Nat → Int64) (hM : kMod g m0 ad sz us bx F G H0) (p1 : Int32) (p2 : Int32) (k : Nat) (hk : k < bx) (hb60 : bx ≤ 60) (cn : Nat) (hcn : F 19 k = nI cn) (h : p1 < 0 ∨ nI cn ≤ p1) : Met l y_Mod_item (kW y_Mod_item b_Mod_item 5 (.some .int)) ({ frames := 1, cells := 0, slots := 0, locals := 21 }) (kPc [.ref m0, .int (nI k), .int p1, .int p2] (KK g) H0) (kQc (kPure (.int (-1)) H0)) 0 0 (fun _ => False) := by
  refine Met.ofW (cc := b_Mod_item) (maxL := 5) (ret := (.some .int)) (by decide) rfl ?_
  intro p e s m args below meth c s₁ B hml hv
  obtain ⟨rfl, hH, hKK⟩ := hv
  have hx := B.exec
  have hb := B.bytes
  have hr := B.returns
  have hts := kW_ts (atoms_spec (ws := kW y_Mod_item b_Mod_item 5 (.some .int)) B.pre)
  have hown : s.vm.findClass "BoxGlueModel" = some m.cls := findClass_of_methodNamed B.named
  have hlocks := B.notSynchronized
  have hK := hKK.1
  subst hH
  have hl := lv_entry ([.ref m0, .int (nI k), .int p1, .int p2]) (n := 5) (Nat.le_of_ble_eq_true rfl)
  rw [lg_entry_eq]
  generalize (lg_sl ([.ref m0, .int (nI k), .int p1, .int p2]) ++ List.replicate (5 - (lg_sl ([.ref m0, .int (nI k), .int p1, .int p2])).length) Slot.unset).toArray = ls at hl ⊢
  have hl : lv_has ls 5 [(0, .ref m0), (1, .int (nI k)), (2, .int p1), (3, .int p2)] := hl
  refine lv_aload_n hx hb d_Mod_item_0 rfl (lv_at hl 0 rfl) ?_
  refine lv_iload_n hx hb d_Mod_item_1 rfl (lv_at hl 1 rfl) ?_
  refine k_pure (r := .int 1) (W.runV (As := [.int (nI k)]) (rest := []) ⟨hx, hb, hml, hown, hts⟩ (c_Mod_isBox_yes l g s.heap m0 ad sz us bx F G hM k hk hb60) (cwV 1 hts (kV_good kw_671 kw_668 kw_670 ks_Mod_isBox kw_5) rfl rfl rfl (by decide +kernel) ⟨Nat.le_of_ble_eq_true rfl, Nat.le_of_ble_eq_true rfl⟩) (k_preV (KK_st g) hKK (va_recv hK (k_one hM.1) (ci := 10) (q0 := 0) rfl rfl)) rfl rfl hl.1 rfl (lv_room (Nat.le_of_ble_eq_true rfl)) d_Mod_item_2 ⟨Nat.zero_le _, Nat.zero_le _⟩) ?_
  refine lv_if_eq (tgt := 32) hx hb d_Mod_item_5 (by decide) (fun c_1 => ?_) (fun c_1 => ?_)
  · exact absurd c_1 (by decide)
  refine lv_iload_n hx hb d_Mod_item_8 rfl (lv_at hl 2 rfl) ?_
  refine lv_if_lt (tgt := 32) hx hb d_Mod_item_9 (by decide) (fun c_2 => ?_) (fun c_2 => ?_)
  · skip
    refine lv_iconst (v := (-1)) hx hb d_Mod_item_32 (by decide) ?_
    exact W.iret (v := (-1)) hx hb hr (fun t ht hW => ⟨_, rfl, rfl, ht⟩) (fun _ h => by cases h) d_Mod_item_33
  · skip
    refine lv_iload_n hx hb d_Mod_item_12 rfl (lv_at hl 2 rfl) ?_
    refine lv_aload_n hx hb d_Mod_item_13 rfl (lv_at hl 0 rfl) ?_
    refine va_get (D := g.1) (ci := 10) (v := .ref (ad 19)) (C := "BoxGlueModel") (T := kT_Mod) (N := 24) hx hb hts ki_Mod hown hK (k_one hM.1) 0 rfl rfl 19 (by decide) (hts _ kw_600) (fun _ h9 => h9) rfl d_Mod_item_14 ?_
    refine lv_iload_n hx hb d_Mod_item_17 rfl (lv_at hl 1 rfl) ?_
    refine m_iald hx hb hK hM 19 k (Or.inr ⟨by decide, by decide⟩) (show k < 60 by omega) d_Mod_item_18 ?_
    rw [hcn]
    refine lv_icmp_ge (tgt := 32) hx hb d_Mod_item_19 (by decide) (fun c_3 => ?_) (fun c_3 => ?_)
    · skip
      refine lv_iconst (v := (-1)) hx hb d_Mod_item_32 (by decide) ?_
      exact W.iret (v := (-1)) hx hb hr (fun t ht hW => ⟨_, rfl, rfl, ht⟩) (fun _ h => by cases h) d_Mod_item_33
    · skip
      rcases h with h | h <;> contradiction
set_option maxHeartbeats 4000000 in
set_option maxRecDepth 100000 in
theorem c_Mod_item_bad3 (l : Launch) (g : KGt) (H0 : Heap) (m0 : Nat) (ad : Nat → Nat) (sz us bx : Nat) (F : Nat → Nat → Int32) (G : Nat → Nat → Int64) (hM : kMod g m0 ad sz us bx F G H0) (p2 : Int32) (k : Nat) (hk : k < bx) (hb60 : bx ≤ 60) (cn : Nat) (hcn : F 19 k = nI cn) (j : Nat) (hj : j < cn) (hcn3 : cn ≤ 300) (h : f_Mod_isIn p2 0 7 = 0) : Met l y_Mod_item (kW y_Mod_item b_Mod_item 5 (.some .int)) ({ frames := 1, cells := 0, slots := 0, locals := 22 }) (kPc [.ref m0, .int (nI k), .int (nI j), .int p2] (KK g) H0) (kQc (kPure (.int (-1)) H0)) 0 0 (fun _ => False) := by
  refine Met.ofW (cc := b_Mod_item) (maxL := 5) (ret := (.some .int)) (by decide) rfl ?_
  intro p e s m args below meth c s₁ B hml hv
  obtain ⟨rfl, hH, hKK⟩ := hv
  have hx := B.exec
  have hb := B.bytes
  have hr := B.returns
  have hts := kW_ts (atoms_spec (ws := kW y_Mod_item b_Mod_item 5 (.some .int)) B.pre)
  have hown : s.vm.findClass "BoxGlueModel" = some m.cls := findClass_of_methodNamed B.named
  have hlocks := B.notSynchronized
  have hK := hKK.1
  subst hH
  have hl := lv_entry ([.ref m0, .int (nI k), .int (nI j), .int p2]) (n := 5) (Nat.le_of_ble_eq_true rfl)
  rw [lg_entry_eq]
  generalize (lg_sl ([.ref m0, .int (nI k), .int (nI j), .int p2]) ++ List.replicate (5 - (lg_sl ([.ref m0, .int (nI k), .int (nI j), .int p2])).length) Slot.unset).toArray = ls at hl ⊢
  have hl : lv_has ls 5 [(0, .ref m0), (1, .int (nI k)), (2, .int (nI j)), (3, .int p2)] := hl
  refine lv_aload_n hx hb d_Mod_item_0 rfl (lv_at hl 0 rfl) ?_
  refine lv_iload_n hx hb d_Mod_item_1 rfl (lv_at hl 1 rfl) ?_
  refine k_pure (r := .int 1) (W.runV (As := [.int (nI k)]) (rest := []) ⟨hx, hb, hml, hown, hts⟩ (c_Mod_isBox_yes l g s.heap m0 ad sz us bx F G hM k hk hb60) (cwV 1 hts (kV_good kw_671 kw_668 kw_670 ks_Mod_isBox kw_5) rfl rfl rfl (by decide +kernel) ⟨Nat.le_of_ble_eq_true rfl, Nat.le_of_ble_eq_true rfl⟩) (k_preV (KK_st g) hKK (va_recv hK (k_one hM.1) (ci := 10) (q0 := 0) rfl rfl)) rfl rfl hl.1 rfl (lv_room (Nat.le_of_ble_eq_true rfl)) d_Mod_item_2 ⟨Nat.zero_le _, Nat.zero_le _⟩) ?_
  refine lv_if_eq (tgt := 32) hx hb d_Mod_item_5 (by decide) (fun c_1 => ?_) (fun c_1 => ?_)
  · exact absurd c_1 (by decide)
  refine lv_iload_n hx hb d_Mod_item_8 rfl (lv_at hl 2 rfl) ?_
  refine lv_if_lt (tgt := 32) hx hb d_Mod_item_9 (by decide) (fun c_2 => ?_) (fun c_2 => ?_)
  · exact absurd c_2 (nI_pos (by omega))
  refine lv_iload_n hx hb d_Mod_item_12 rfl (lv_at hl 2 rfl) ?_
  refine lv_aload_n hx hb d_Mod_item_13 rfl (lv_at hl 0 rfl) ?_
  refine va_get (D := g.1) (ci := 10) (v := .ref (ad 19)) (C := "BoxGlueModel") (T := kT_Mod) (N := 24) hx hb hts ki_Mod hown hK (k_one hM.1) 0 rfl rfl 19 (by decide) (hts _ kw_600) (fun _ h9 => h9) rfl d_Mod_item_14 ?_
  refine lv_iload_n hx hb d_Mod_item_17 rfl (lv_at hl 1 rfl) ?_
  refine m_iald hx hb hK hM 19 k (Or.inr ⟨by decide, by decide⟩) (show k < 60 by omega) d_Mod_item_18 ?_
  rw [hcn]
  refine lv_icmp_ge (tgt := 32) hx hb d_Mod_item_19 (by decide) (fun c_3 => ?_) (fun c_3 => ?_)
  · exact absurd c_3 (nI_ge hj (by omega))
  refine lv_iload_n hx hb d_Mod_item_22 rfl (lv_at hl 3 rfl) ?_
  refine lv_iconst (v := 0) hx hb d_Mod_item_23 (by decide) ?_
  refine lv_bipush (v := 7) hx hb d_Mod_item_24 (by decide) ?_
  refine k_pure (r := .int (f_Mod_isIn p2 0 7)) (W.runS (As := [.int p2, .int 0, .int 7]) (rest := []) ⟨hx, hb, hml, hown, hts⟩ (c_Mod_isIn l g s.heap p2 0 7) (va_cwS 3 hts (kS_good kw_663 kw_661 kw_662 kw_5) rfl rfl rfl (by decide +kernel) ⟨Nat.le_of_ble_eq_true rfl, Nat.le_of_ble_eq_true rfl⟩) (k_pre (KK_st g) hKK) rfl rfl hl.1 rfl (lv_room (Nat.le_of_ble_eq_true rfl)) d_Mod_item_26 ⟨Nat.zero_le _, Nat.zero_le _⟩) ?_
  refine lv_if_ne (tgt := 34) hx hb d_Mod_item_29 (by decide) (fun c_4 => ?_) (fun c_4 => ?_)
  · exact absurd c_4 (fun q => q h)
  refine lv_iconst (v := (-1)) hx hb d_Mod_item_32 (by decide) ?_
  exact W.iret (v := (-1)) hx hb hr (fun t ht hW => ⟨_, rfl, rfl, ht⟩) (fun _ h => by cases h) d_Mod_item_33
def md_item (F : Nat → Nat → Int32) (G : Nat → Nat → Int64) (k i : Nat) (p2 : Int32) : Int32 := if p2 = 0 then F 0 i else if p2 = 1 then (G 10 i).toInt32 else if p2 = 2 then (G 11 i).toInt32 else if p2 = 3 then md_drawn F G i else if p2 = 4 then (md_fo F G i).toInt32 else if p2 = 5 then (md_so F G i).toInt32 else if p2 = 6 then md_h F i (F 16 k) else md_d F i (F 17 k)
set_option maxHeartbeats 4000000 in
set_option maxRecDepth 100000 in
theorem c_Mod_item_ok (l : Launch) (g : KGt) (H0 : Heap) (m0 : Nat) (ad : Nat → Nat) (sz us bx : Nat) (F : Nat → Nat → Int32) (G : Nat → Nat → Int64) (hM : kMod g m0 ad sz us bx F G H0) (p2 : Int32) (k : Nat) (hk : k < bx) (hb60 : bx ≤ 60) (cn : Nat) (hcn : F 19 k = nI cn) (j : Nat) (hj : j < cn) (hcn3 : cn ≤ 300) (h : ¬ f_Mod_isIn p2 0 7 = 0) (fr i : Nat) (hfr : F 18 k = nI fr) (hij : fr + j = i) (hi : i < 340) (hw : mW F bx i) (hn1 : ¬ ((md_drawn F G i).toInt64 + 1) = 0) : Met l y_Mod_item (kW y_Mod_item b_Mod_item 5 (.some .int)) ({ frames := 4, cells := 0, slots := 0, locals := 93 }) (kPc [.ref m0, .int (nI k), .int (nI j), .int p2] (KK g) H0) (kQc (kPure (.int (md_item F G k i p2)) H0)) 0 0 (fun _ => False) := by
  refine Met.ofW (cc := b_Mod_item) (maxL := 5) (ret := (.some .int)) (by decide) rfl ?_
  intro p e s m args below meth c s₁ B hml hv
  obtain ⟨rfl, hH, hKK⟩ := hv
  have hx := B.exec
  have hb := B.bytes
  have hr := B.returns
  have hts := kW_ts (atoms_spec (ws := kW y_Mod_item b_Mod_item 5 (.some .int)) B.pre)
  have hown : s.vm.findClass "BoxGlueModel" = some m.cls := findClass_of_methodNamed B.named
  have hlocks := B.notSynchronized
  have hK := hKK.1
  subst hH
  have hl := lv_entry ([.ref m0, .int (nI k), .int (nI j), .int p2]) (n := 5) (Nat.le_of_ble_eq_true rfl)
  rw [lg_entry_eq]
  generalize (lg_sl ([.ref m0, .int (nI k), .int (nI j), .int p2]) ++ List.replicate (5 - (lg_sl ([.ref m0, .int (nI k), .int (nI j), .int p2])).length) Slot.unset).toArray = ls at hl ⊢
  have hl : lv_has ls 5 [(0, .ref m0), (1, .int (nI k)), (2, .int (nI j)), (3, .int p2)] := hl
  refine lv_aload_n hx hb d_Mod_item_0 rfl (lv_at hl 0 rfl) ?_
  refine lv_iload_n hx hb d_Mod_item_1 rfl (lv_at hl 1 rfl) ?_
  refine k_pure (r := .int 1) (W.runV (As := [.int (nI k)]) (rest := []) ⟨hx, hb, hml, hown, hts⟩ (c_Mod_isBox_yes l g s.heap m0 ad sz us bx F G hM k hk hb60) (cwV 1 hts (kV_good kw_671 kw_668 kw_670 ks_Mod_isBox kw_5) rfl rfl rfl (by decide +kernel) ⟨Nat.le_of_ble_eq_true rfl, Nat.le_of_ble_eq_true rfl⟩) (k_preV (KK_st g) hKK (va_recv hK (k_one hM.1) (ci := 10) (q0 := 0) rfl rfl)) rfl rfl hl.1 rfl (lv_room (Nat.le_of_ble_eq_true rfl)) d_Mod_item_2 ⟨Nat.zero_le _, Nat.zero_le _⟩) ?_
  refine lv_if_eq (tgt := 32) hx hb d_Mod_item_5 (by decide) (fun c_1 => ?_) (fun c_1 => ?_)
  · exact absurd c_1 (by decide)
  refine lv_iload_n hx hb d_Mod_item_8 rfl (lv_at hl 2 rfl) ?_
  refine lv_if_lt (tgt := 32) hx hb d_Mod_item_9 (by decide) (fun c_2 => ?_) (fun c_2 => ?_)
  · exact absurd c_2 (nI_pos (by omega))
  refine lv_iload_n hx hb d_Mod_item_12 rfl (lv_at hl 2 rfl) ?_
  refine lv_aload_n hx hb d_Mod_item_13 rfl (lv_at hl 0 rfl) ?_
  refine va_get (D := g.1) (ci := 10) (v := .ref (ad 19)) (C := "BoxGlueModel") (T := kT_Mod) (N := 24) hx hb hts ki_Mod hown hK (k_one hM.1) 0 rfl rfl 19 (by decide) (hts _ kw_600) (fun _ h9 => h9) rfl d_Mod_item_14 ?_
  refine lv_iload_n hx hb d_Mod_item_17 rfl (lv_at hl 1 rfl) ?_
  refine m_iald hx hb hK hM 19 k (Or.inr ⟨by decide, by decide⟩) (show k < 60 by omega) d_Mod_item_18 ?_
  rw [hcn]
  refine lv_icmp_ge (tgt := 32) hx hb d_Mod_item_19 (by decide) (fun c_3 => ?_) (fun c_3 => ?_)
  · exact absurd c_3 (nI_ge hj (by omega))
  refine lv_iload_n hx hb d_Mod_item_22 rfl (lv_at hl 3 rfl) ?_
  refine lv_iconst (v := 0) hx hb d_Mod_item_23 (by decide) ?_
  refine lv_bipush (v := 7) hx hb d_Mod_item_24 (by decide) ?_
  refine k_pure (r := .int (f_Mod_isIn p2 0 7)) (W.runS (As := [.int p2, .int 0, .int 7]) (rest := []) ⟨hx, hb, hml, hown, hts⟩ (c_Mod_isIn l g s.heap p2 0 7) (va_cwS 3 hts (kS_good kw_663 kw_661 kw_662 kw_5) rfl rfl rfl (by decide +kernel) ⟨Nat.le_of_ble_eq_true rfl, Nat.le_of_ble_eq_true rfl⟩) (k_pre (KK_st g) hKK) rfl rfl hl.1 rfl (lv_room (Nat.le_of_ble_eq_true rfl)) d_Mod_item_26 ⟨Nat.zero_le _, Nat.zero_le _⟩) ?_
  refine lv_if_ne (tgt := 34) hx hb d_Mod_item_29 (by decide) (fun c_4 => ?_) (fun c_4 => ?_)
  rotate_left
  · exact absurd c_4 h
  refine lv_aload_n hx hb d_Mod_item_34 rfl (lv_at hl 0 rfl) ?_
  refine va_get (D := g.1) (ci := 10) (v := .ref (ad 18)) (C := "BoxGlueModel") (T := kT_Mod) (N := 24) hx hb hts ki_Mod hown hK (k_one hM.1) 0 rfl rfl 18 (by decide) (hts _ kw_599) (fun _ h9 => h9) rfl d_Mod_item_35 ?_
  refine lv_iload_n hx hb d_Mod_item_38 rfl (lv_at hl 1 rfl) ?_
  refine m_iald hx hb hK hM 18 k (Or.inr ⟨by decide, by decide⟩) (show k < 60 by omega) d_Mod_item_39 ?_
  rw [hfr]
  refine lv_iload_n hx hb d_Mod_item_40 rfl (lv_at hl 2 rfl) ?_
  refine lv_iadd hx hb d_Mod_item_41 ?_
  rw [nI_add, hij]
  refine lv_istore (lv' := [(4, .int (nI i)), (0, .ref m0), (1, .int (nI k)), (2, .int (nI j)), (3, .int p2)]) hx hb d_Mod_item_42 hl (by decide) rfl (fun ls hl => ?_)
  refine lv_iload_n hx hb d_Mod_item_44 rfl (lv_at hl 4 rfl) ?_
  by_cases c_6 : p2 = 0
  · refine lv_tableIn (tgt := 88) hx hb d_Mod_item_45 (by rw [c_6]; decide) (by rw [c_6]; decide) (by rw [c_6]; rfl) (by decide) ?_
    refine lv_aload_n hx hb d_Mod_item_88 rfl (lv_at hl 1 rfl) ?_
    refine va_get (D := g.1) (ci := 10) (v := .ref (ad 0)) (C := "BoxGlueModel") (T := kT_Mod) (N := 24) hx hb hts ki_Mod hown hK (k_one hM.1) 0 rfl rfl 0 (by decide) (hts _ kw_581) (fun _ h9 => h9) rfl d_Mod_item_89 ?_
    refine lv_iload hx hb d_Mod_item_92 (lv_at hl 0 rfl) ?_
    refine m_iald hx hb hK hM 0 i (Or.inl (by decide)) (show i < 340 by omega) d_Mod_item_94 ?_
    exact W.iret (v := (F 0 i)) hx hb hr (fun t ht hW => ⟨_, rfl, (by unfold md_item; rw [if_pos c_6]), ht⟩) (fun _ h => by cases h) d_Mod_item_95
  by_cases c_7 : p2 = 1
  · refine lv_tableIn (tgt := 96) hx hb d_Mod_item_45 (by rw [c_7]; decide) (by rw [c_7]; decide) (by rw [c_7]; rfl) (by decide) ?_
    refine lv_aload_n hx hb d_Mod_item_96 rfl (lv_at hl 1 rfl) ?_
    refine va_get (D := g.1) (ci := 10) (v := .ref (ad 10)) (C := "BoxGlueModel") (T := kT_Mod) (N := 24) hx hb hts ki_Mod hown hK (k_one hM.1) 0 rfl rfl 10 (by decide) (hts _ kw_591) (fun _ h9 => h9) rfl d_Mod_item_97 ?_
    refine lv_iload hx hb d_Mod_item_100 (lv_at hl 0 rfl) ?_
    refine m_lald hx hb hK hM 10 i (by decide) (show i < 340 by omega) d_Mod_item_102 ?_
    refine lv_l2i hx hb d_Mod_item_103 rfl ?_
    exact W.iret (v := ((G 10 i)).toInt32) hx hb hr (fun t ht hW => ⟨_, rfl, (by unfold md_item; rw [if_neg c_6, if_pos c_7]), ht⟩) (fun _ h => by cases h) d_Mod_item_104
  by_cases c_8 : p2 = 2
  · refine lv_tableIn (tgt := 105) hx hb d_Mod_item_45 (by rw [c_8]; decide) (by rw [c_8]; decide) (by rw [c_8]; rfl) (by decide) ?_
    refine lv_aload_n hx hb d_Mod_item_105 rfl (lv_at hl 1 rfl) ?_
    refine va_get (D := g.1) (ci := 10) (v := .ref (ad 11)) (C := "BoxGlueModel") (T := kT_Mod) (N := 24) hx hb hts ki_Mod hown hK (k_one hM.1) 0 rfl rfl 11 (by decide) (hts _ kw_592) (fun _ h9 => h9) rfl d_Mod_item_106 ?_
    refine lv_iload hx hb d_Mod_item_109 (lv_at hl 0 rfl) ?_
    refine m_lald hx hb hK hM 11 i (by decide) (show i < 340 by omega) d_Mod_item_111 ?_
    refine lv_l2i hx hb d_Mod_item_112 rfl ?_
    exact W.iret (v := ((G 11 i)).toInt32) hx hb hr (fun t ht hW => ⟨_, rfl, (by unfold md_item; rw [if_neg c_6, if_neg c_7, if_pos c_8]), ht⟩) (fun _ h => by cases h) d_Mod_item_113
  by_cases c_9 : p2 = 3
  · refine lv_tableIn (tgt := 114) hx hb d_Mod_item_45 (by rw [c_9]; decide) (by rw [c_9]; decide) (by rw [c_9]; rfl) (by decide) ?_
    refine lv_aload_n hx hb d_Mod_item_114 rfl (lv_at hl 1 rfl) ?_
    refine lv_iload hx hb d_Mod_item_115 (lv_at hl 0 rfl) ?_
    refine k_pure (r := .int (md_drawn F G i)) (W.runV (As := [.int (nI i)]) (rest := []) ⟨hx, hb, hml, hown, hts⟩ (c_Mod_drawn l g s.heap m0 ad sz us bx F G hM i hi hb60 hw) (cwV 1 hts (kV_good kw_750 kw_747 kw_749 ks_Mod_drawn kw_5) rfl rfl rfl (by decide +kernel) ⟨Nat.le_of_ble_eq_true rfl, Nat.le_of_ble_eq_true rfl⟩) (k_preV (KK_st g) hKK (va_recv hK (k_one hM.1) (ci := 10) (q0 := 0) rfl rfl)) rfl rfl hl.1 rfl (lv_room (Nat.le_of_ble_eq_true rfl)) d_Mod_item_117 ⟨Nat.zero_le _, Nat.zero_le _⟩) ?_
    exact W.iret (v := (md_drawn F G i)) hx hb hr (fun t ht hW => ⟨_, rfl, (by unfold md_item; rw [if_neg c_6, if_neg c_7, if_neg c_8, if_pos c_9]), ht⟩) (fun _ h => by cases h) d_Mod_item_120
  by_cases c_10 : p2 = 4
  · refine lv_tableIn (tgt := 121) hx hb d_Mod_item_45 (by rw [c_10]; decide) (by rw [c_10]; decide) (by rw [c_10]; rfl) (by decide) ?_
    refine lv_aload_n hx hb d_Mod_item_121 rfl (lv_at hl 1 rfl) ?_
    refine lv_iload hx hb d_Mod_item_122 (lv_at hl 0 rfl) ?_
    refine k_pure (r := .long (md_fo F G i)) (W.runV (As := [.int (nI i)]) (rest := []) ⟨hx, hb, hml, hown, hts⟩ (c_Mod_firstOf l g s.heap m0 ad sz us bx F G hM i hi hb60 hw hn1) (cwV 1 hts (kV_good kw_762 kw_759 kw_761 ks_Mod_firstOf kw_5) rfl rfl rfl (by decide +kernel) ⟨Nat.le_of_ble_eq_true rfl, Nat.le_of_ble_eq_true rfl⟩) (k_preV (KK_st g) hKK (va_recv hK (k_one hM.1) (ci := 10) (q0 := 0) rfl rfl)) rfl rfl hl.1 rfl (lv_room (Nat.le_of_ble_eq_true rfl)) d_Mod_item_124 ⟨Nat.zero_le _, Nat.zero_le _⟩) ?_
    refine lv_l2i hx hb d_Mod_item_127 rfl ?_
    exact W.iret (v := ((md_fo F G i)).toInt32) hx hb hr (fun t ht hW => ⟨_, rfl, (by unfold md_item; rw [if_neg c_6, if_neg c_7, if_neg c_8, if_neg c_9, if_pos c_10]), ht⟩) (fun _ h => by cases h) d_Mod_item_128
  by_cases c_11 : p2 = 5
  · refine lv_tableIn (tgt := 129) hx hb d_Mod_item_45 (by rw [c_11]; decide) (by rw [c_11]; decide) (by rw [c_11]; rfl) (by decide) ?_
    refine lv_aload_n hx hb d_Mod_item_129 rfl (lv_at hl 1 rfl) ?_
    refine lv_iload hx hb d_Mod_item_130 (lv_at hl 0 rfl) ?_
    refine k_pure (r := .long (md_so F G i)) (W.runV (As := [.int (nI i)]) (rest := []) ⟨hx, hb, hml, hown, hts⟩ (c_Mod_stepOf l g s.heap m0 ad sz us bx F G hM i hi hb60 hw hn1) (cwV 1 hts (kV_good kw_767 kw_764 kw_766 ks_Mod_stepOf kw_5) rfl rfl rfl (by decide +kernel) ⟨Nat.le_of_ble_eq_true rfl, Nat.le_of_ble_eq_true rfl⟩) (k_preV (KK_st g) hKK (va_recv hK (k_one hM.1) (ci := 10) (q0 := 0) rfl rfl)) rfl rfl hl.1 rfl (lv_room (Nat.le_of_ble_eq_true rfl)) d_Mod_item_132 ⟨Nat.zero_le _, Nat.zero_le _⟩) ?_
    refine lv_l2i hx hb d_Mod_item_135 rfl ?_
    exact W.iret (v := ((md_so F G i)).toInt32) hx hb hr (fun t ht hW => ⟨_, rfl, (by unfold md_item; rw [if_neg c_6, if_neg c_7, if_neg c_8, if_neg c_9, if_neg c_10, if_pos c_11]), ht⟩) (fun _ h => by cases h) d_Mod_item_136
  by_cases c_12 : p2 = 6
  · refine lv_tableIn (tgt := 137) hx hb d_Mod_item_45 (by rw [c_12]; decide) (by rw [c_12]; decide) (by rw [c_12]; rfl) (by decide) ?_
    refine lv_aload_n hx hb d_Mod_item_137 rfl (lv_at hl 1 rfl) ?_
    refine lv_iload hx hb d_Mod_item_138 (lv_at hl 0 rfl) ?_
    refine lv_aload_n hx hb d_Mod_item_140 rfl (lv_at hl 1 rfl) ?_
    refine va_get (D := g.1) (ci := 10) (v := .ref (ad 16)) (C := "BoxGlueModel") (T := kT_Mod) (N := 24) hx hb hts ki_Mod hown hK (k_one hM.1) 0 rfl rfl 16 (by decide) (hts _ kw_597) (fun _ h9 => h9) rfl d_Mod_item_141 ?_
    refine lv_iload_n hx hb d_Mod_item_144 rfl (lv_at hl 2 rfl) ?_
    refine m_iald hx hb hK hM 16 k (Or.inr ⟨by decide, by decide⟩) (show k < 60 by omega) d_Mod_item_145 ?_
    refine k_pure (r := .int (md_h F i (F 16 k))) (W.runV (As := [.int (nI i), .int (F 16 k)]) (rest := []) ⟨hx, hb, hml, hown, hts⟩ (c_Mod_heightOf l g s.heap m0 ad sz us bx F G hM (F 16 k) i hi hb60 hw) (cwV 2 hts (kV_good kw_726 kw_723 kw_725 ks_Mod_heightOf kw_5) rfl rfl rfl (by decide +kernel) ⟨Nat.le_of_ble_eq_true rfl, Nat.le_of_ble_eq_true rfl⟩) (k_preV (KK_st g) hKK (va_recv hK (k_one hM.1) (ci := 10) (q0 := 0) rfl rfl)) rfl rfl hl.1 rfl (lv_room (Nat.le_of_ble_eq_true rfl)) d_Mod_item_146 ⟨Nat.zero_le _, Nat.zero_le _⟩) ?_
    exact W.iret (v := (md_h F i (F 16 k))) hx hb hr (fun t ht hW => ⟨_, rfl, (by unfold md_item; rw [if_neg c_6, if_neg c_7, if_neg c_8, if_neg c_9, if_neg c_10, if_neg c_11, if_pos c_12]), ht⟩) (fun _ h => by cases h) d_Mod_item_149
  refine lv_tableOut (tgt := 150) hx hb d_Mod_item_45 (k_sw7 c_6 c_7 c_8 c_9 c_10 c_11 c_12) (by decide) ?_
  refine lv_aload_n hx hb d_Mod_item_150 rfl (lv_at hl 1 rfl) ?_
  refine lv_iload hx hb d_Mod_item_151 (lv_at hl 0 rfl) ?_
  refine lv_aload_n hx hb d_Mod_item_153 rfl (lv_at hl 1 rfl) ?_
  refine va_get (D := g.1) (ci := 10) (v := .ref (ad 17)) (C := "BoxGlueModel") (T := kT_Mod) (N := 24) hx hb hts ki_Mod hown hK (k_one hM.1) 0 rfl rfl 17 (by decide) (hts _ kw_598) (fun _ h9 => h9) rfl d_Mod_item_154 ?_
  refine lv_iload_n hx hb d_Mod_item_157 rfl (lv_at hl 2 rfl) ?_
  refine m_iald hx hb hK hM 17 k (Or.inr ⟨by decide, by decide⟩) (show k < 60 by omega) d_Mod_item_158 ?_
  refine k_pure (r := .int (md_d F i (F 17 k))) (W.runV (As := [.int (nI i), .int (F 17 k)]) (rest := []) ⟨hx, hb, hml, hown, hts⟩ (c_Mod_depthOf l g s.heap m0 ad sz us bx F G hM (F 17 k) i hi hb60 hw) (cwV 2 hts (kV_good kw_730 kw_727 kw_729 ks_Mod_depthOf kw_5) rfl rfl rfl (by decide +kernel) ⟨Nat.le_of_ble_eq_true rfl, Nat.le_of_ble_eq_true rfl⟩) (k_preV (KK_st g) hKK (va_recv hK (k_one hM.1) (ci := 10) (q0 := 0) rfl rfl)) rfl rfl hl.1 rfl (lv_room (Nat.le_of_ble_eq_true rfl)) d_Mod_item_159 ⟨Nat.zero_le _, Nat.zero_le _⟩) ?_
  exact W.iret (v := (md_d F i (F 17 k))) hx hb hr (fun t ht hW => ⟨_, rfl, (by unfold md_item; rw [if_neg c_6, if_neg c_7, if_neg c_8, if_neg c_9, if_neg c_10, if_neg c_11, if_neg c_12]), ht⟩) (fun _ h => by cases h) d_Mod_item_162

/-! answers of placed items and boxes; small makers -/
def p_ans (it : Nat → Int32) (pl ln bh bd what : Int32) : Int32 := if what = 0 then it 0 else if what = 1 then ln else if what = 2 then pl else if what = 3 then i_drawn it pl ln else if what = 4 then i_first it pl ln else if what = 5 then i_step it pl ln else if what = 6 then i_height it bh else if what = 7 then i_depth it bd else (-1)
set_option maxHeartbeats 4000000 in
set_option maxRecDepth 100000 in
theorem c_Placed_answer (l : Launch) (g : KGt) (H0 : Heap) (I : Nat → Prop) (h0 bx ia bc bf : Nat) (it : Nat → Int32) (pl ln bl bh bd what : Int32) (o0 : va_at g.1 kcl (h0, .inr (9, [.ref ia, .int pl, .int ln])) H0) (hit : kItem g I ia it H0) (b0 : va_at g.1 kcl (bx, .inr (2, [.int bl, .int bh, .int bd, .ref bc, .ref bf])) H0) : Met l y_Placed_answer (kW y_Placed_answer b_Placed_answer 3 (.some .int)) ({ frames := 5, cells := 0, slots := 0, locals := 109 }) (kPc [.ref h0, .int what, .ref bx] (KK g) H0) (kQc (kPure (.int (p_ans it pl ln bh bd what)) H0)) 0 0 (fun _ => False) := by
  refine Met.ofW (cc := b_Placed_answer) (maxL := 3) (ret := (.some .int)) (by decide) rfl ?_
  intro p e s m args below meth c s₁ B hml hv
  obtain ⟨rfl, hH, hKK⟩ := hv
  have hx := B.exec
  have hb := B.bytes
  have hr := B.returns
  have hts := kW_ts (atoms_spec (ws := kW y_Placed_answer b_Placed_answer 3 (.some .int)) B.pre)
  have hown : s.vm.findClass "BoxGlue$Placed" = some m.cls := findClass_of_methodNamed B.named
  have hlocks := B.notSynchronized
  have hK := hKK.1
  subst hH
  have hl := lv_entry ([.ref h0, .int what, .ref bx]) (n := 3) (Nat.le_of_ble_eq_true rfl)
  rw [lg_entry_eq]
  generalize (lg_sl ([.ref h0, .int what, .ref bx]) ++ List.replicate (3 - (lg_sl ([.ref h0, .int what, .ref bx])).length) Slot.unset).toArray = ls at hl ⊢
  have hl : lv_has ls 3 [(0, .ref h0), (1, .int what), (2, .ref bx)] := hl
  refine lv_iload_n hx hb d_Placed_answer_0 rfl (lv_at hl 1 rfl) ?_
  by_cases c_2 : what = 0
  · refine lv_tableIn (tgt := 48) hx hb d_Placed_answer_1 (by rw [c_2]; decide) (by rw [c_2]; decide) (by rw [c_2]; rfl) (by decide) ?_
    refine lv_aload_n hx hb d_Placed_answer_48 rfl (lv_at hl 0 rfl) ?_
    refine va_get (D := g.1) (ci := 9) (v := .ref ia) (C := "BoxGlue$Placed") (T := kT_Placed) (N := 3) hx hb hts ki_Placed hown hK (k_one o0) 0 rfl rfl 0 (by decide) (hts _ kw_438) (fun _ h9 => h9) rfl d_Placed_answer_49 ?_
    refine v_sort hx hb hown hts hKK kw_229 hit d_Placed_answer_52 ?_
    exact W.iret (v := (it 0)) hx hb hr (fun t ht hW => ⟨_, rfl, (by unfold p_ans; rw [if_pos c_2]), ht⟩) (fun _ h => by cases h) d_Placed_answer_55
  by_cases c_3 : what = 1
  · refine lv_tableIn (tgt := 56) hx hb d_Placed_answer_1 (by rw [c_3]; decide) (by rw [c_3]; decide) (by rw [c_3]; rfl) (by decide) ?_
    refine lv_aload_n hx hb d_Placed_answer_56 rfl (lv_at hl 0 rfl) ?_
    refine va_get (D := g.1) (ci := 9) (v := .int ln) (C := "BoxGlue$Placed") (T := kT_Placed) (N := 3) hx hb hts ki_Placed hown hK (k_one o0) 0 rfl rfl 2 (by decide) (hts _ kw_441) (fun _ h9 => h9) rfl d_Placed_answer_57 ?_
    exact W.iret (v := ln) hx hb hr (fun t ht hW => ⟨_, rfl, (by unfold p_ans; rw [if_neg c_2, if_pos c_3]), ht⟩) (fun _ h => by cases h) d_Placed_answer_60
  by_cases c_4 : what = 2
  · refine lv_tableIn (tgt := 61) hx hb d_Placed_answer_1 (by rw [c_4]; decide) (by rw [c_4]; decide) (by rw [c_4]; rfl) (by decide) ?_
    refine lv_aload_n hx hb d_Placed_answer_61 rfl (lv_at hl 0 rfl) ?_
    refine va_get (D := g.1) (ci := 9) (v := .int pl) (C := "BoxGlue$Placed") (T := kT_Placed) (N := 3) hx hb hts ki_Placed hown hK (k_one o0) 0 rfl rfl 1 (by decide) (hts _ kw_440) (fun _ h9 => h9) rfl d_Placed_answer_62 ?_
    exact W.iret (v := pl) hx hb hr (fun t ht hW => ⟨_, rfl, (by unfold p_ans; rw [if_neg c_2, if_neg c_3, if_pos c_4]), ht⟩) (fun _ h => by cases h) d_Placed_answer_65
  by_cases c_5 : what = 3
  · refine lv_tableIn (tgt := 66) hx hb d_Placed_answer_1 (by rw [c_5]; decide) (by rw [c_5]; decide) (by rw [c_5]; rfl) (by decide) ?_
    refine lv_aload_n hx hb d_Placed_answer_66 rfl (lv_at hl 0 rfl) ?_
    refine va_get (D := g.1) (ci := 9) (v := .ref ia) (C := "BoxGlue$Placed") (T := kT_Placed) (N := 3) hx hb hts ki_Placed hown hK (k_one o0) 0 rfl rfl 0 (by decide) (hts _ kw_438) (fun _ h9 => h9) rfl d_Placed_answer_67 ?_
    refine lv_aload_n hx hb d_Placed_answer_70 rfl (lv_at hl 0 rfl) ?_
    refine va_get (D := g.1) (ci := 9) (v := .int pl) (C := "BoxGlue$Placed") (T := kT_Placed) (N := 3) hx hb hts ki_Placed hown hK (k_one o0) 0 rfl rfl 1 (by decide) (hts _ kw_440) (fun _ h9 => h9) rfl d_Placed_answer_71 ?_
    refine lv_aload_n hx hb d_Placed_answer_74 rfl (lv_at hl 0 rfl) ?_
    refine va_get (D := g.1) (ci := 9) (v := .int ln) (C := "BoxGlue$Placed") (T := kT_Placed) (N := 3) hx hb hts ki_Placed hown hK (k_one o0) 0 rfl rfl 2 (by decide) (hts _ kw_441) (fun _ h9 => h9) rfl d_Placed_answer_75 ?_
    refine v_leadersDrawn hx hb hml hown hts hKK kw_494 hit hl.1 (Nat.le_of_ble_eq_true rfl) (Nat.le_of_ble_eq_true rfl) (Nat.le_of_ble_eq_true rfl) (Nat.zero_le _) (Nat.zero_le _) d_Placed_answer_78 ?_
    exact W.iret (v := (i_drawn it pl ln)) hx hb hr (fun t ht hW => ⟨_, rfl, (by unfold p_ans; rw [if_neg c_2, if_neg c_3, if_neg c_4, if_pos c_5]), ht⟩) (fun _ h => by cases h) d_Placed_answer_81
  by_cases c_6 : what = 4
  · refine lv_tableIn (tgt := 82) hx hb d_Placed_answer_1 (by rw [c_6]; decide) (by rw [c_6]; decide) (by rw [c_6]; rfl) (by decide) ?_
    refine lv_aload_n hx hb d_Placed_answer_82 rfl (lv_at hl 0 rfl) ?_
    refine va_get (D := g.1) (ci := 9) (v := .ref ia) (C := "BoxGlue$Placed") (T := kT_Placed) (N := 3) hx hb hts ki_Placed hown hK (k_one o0) 0 rfl rfl 0 (by decide) (hts _ kw_438) (fun _ h9 => h9) rfl d_Placed_answer_83 ?_
    refine lv_aload_n hx hb d_Placed_answer_86 rfl (lv_at hl 0 rfl) ?_
    refine va_get (D := g.1) (ci := 9) (v := .int pl) (C := "BoxGlue$Placed") (T := kT_Placed) (N := 3) hx hb hts ki_Placed hown hK (k_one o0) 0 rfl rfl 1 (by decide) (hts _ kw_440) (fun _ h9 => h9) rfl d_Placed_answer_87 ?_
    refine lv_aload_n hx hb d_Placed_answer_90 rfl (lv_at hl 0 rfl) ?_
    refine va_get (D := g.1) (ci := 9) (v := .int ln) (C := "BoxGlue$Placed") (T := kT_Placed) (N := 3) hx hb hts ki_Placed hown hK (k_one o0) 0 rfl rfl 2 (by decide) (hts _ kw_441) (fun _ h9 => h9) rfl d_Placed_answer_91 ?_
    refine v_firstLeader hx hb hml hown hts hKK kw_515 hit hl.1 (Nat.le_of_ble_eq_true rfl) (Nat.le_of_ble_eq_true rfl) (Nat.le_of_ble_eq_true rfl) (Nat.zero_le _) (Nat.zero_le _) d_Placed_answer_94 ?_
    exact W.iret (v := (i_first it pl ln)) hx hb hr (fun t ht hW => ⟨_, rfl, (by unfold p_ans; rw [if_neg c_2, if_neg c_3, if_neg c_4, if_neg c_5, if_pos c_6]), ht⟩) (fun _ h => by cases h) d_Placed_answer_97
  by_cases c_7 : what = 5
  · refine lv_tableIn (tgt := 98) hx hb d_Placed_answer_1 (by rw [c_7]; decide) (by rw [c_7]; decide) (by rw [c_7]; rfl) (by decide) ?_
    refine lv_aload_n hx hb d_Placed_answer_98 rfl (lv_at hl 0 rfl) ?_
    refine va_get (D := g.1) (ci := 9) (v := .ref ia) (C := "BoxGlue$Placed") (T := kT_Placed) (N := 3) hx hb hts ki_Placed hown hK (k_one o0) 0 rfl rfl 0 (by decide) (hts _ kw_438) (fun _ h9 => h9) rfl d_Placed_answer_99 ?_
    refine lv_aload_n hx hb d_Placed_answer_102 rfl (lv_at hl 0 rfl) ?_
    refine va_get (D := g.1) (ci := 9) (v := .int pl) (C := "BoxGlue$Placed") (T := kT_Placed) (N := 3) hx hb hts ki_Placed hown hK (k_one o0) 0 rfl rfl 1 (by decide) (hts _ kw_440) (fun _ h9 => h9) rfl d_Placed_answer_103 ?_
    refine lv_aload_n hx hb d_Placed_answer_106 rfl (lv_at hl 0 rfl) ?_
    refine va_get (D := g.1) (ci := 9) (v := .int ln) (C := "BoxGlue$Placed") (T := kT_Placed) (N := 3) hx hb hts ki_Placed hown hK (k_one o0) 0 rfl rfl 2 (by decide) (hts _ kw_441) (fun _ h9 => h9) rfl d_Placed_answer_107 ?_
    refine v_leaderStep hx hb hml hown hts hKK kw_534 hit hl.1 (Nat.le_of_ble_eq_true rfl) (Nat.le_of_ble_eq_true rfl) (Nat.le_of_ble_eq_true rfl) (Nat.zero_le _) (Nat.zero_le _) d_Placed_answer_110 ?_
    exact W.iret (v := (i_step it pl ln)) hx hb hr (fun t ht hW => ⟨_, rfl, (by unfold p_ans; rw [if_neg c_2, if_neg c_3, if_neg c_4, if_neg c_5, if_neg c_6, if_pos c_7]), ht⟩) (fun _ h => by cases h) d_Placed_answer_113
  by_cases c_8 : what = 6
  · refine lv_tableIn (tgt := 114) hx hb d_Placed_answer_1 (by rw [c_8]; decide) (by rw [c_8]; decide) (by rw [c_8]; rfl) (by decide) ?_
    refine lv_aload_n hx hb d_Placed_answer_114 rfl (lv_at hl 0 rfl) ?_
    refine va_get (D := g.1) (ci := 9) (v := .ref ia) (C := "BoxGlue$Placed") (T := kT_Placed) (N := 3) hx hb hts ki_Placed hown hK (k_one o0) 0 rfl rfl 0 (by decide) (hts _ kw_438) (fun _ h9 => h9) rfl d_Placed_answer_115 ?_
    refine lv_aload_n hx hb d_Placed_answer_118 rfl (lv_at hl 2 rfl) ?_
    refine va_get (D := g.1) (ci := 2) (v := .int bh) (C := "BoxGlue$Box") (T := kT_Box) (N := 5) hx hb hts ki_Box hown hK (k_one b0) 0 rfl rfl 1 (by decide) (hts _ kw_114) (fun _ h9 => h9) rfl d_Placed_answer_119 ?_
    refine v_heightWhere hx hb hml hown hts hKK kw_548 hit hl.1 (Nat.le_of_ble_eq_true rfl) (Nat.le_of_ble_eq_true rfl) (Nat.le_of_ble_eq_true rfl) (Nat.zero_le _) (Nat.zero_le _) d_Placed_answer_122 ?_
    exact W.iret (v := (i_height it bh)) hx hb hr (fun t ht hW => ⟨_, rfl, (by unfold p_ans; rw [if_neg c_2, if_neg c_3, if_neg c_4, if_neg c_5, if_neg c_6, if_neg c_7, if_pos c_8]), ht⟩) (fun _ h => by cases h) d_Placed_answer_125
  by_cases c_9 : what = 7
  · refine lv_tableIn (tgt := 126) hx hb d_Placed_answer_1 (by rw [c_9]; decide) (by rw [c_9]; decide) (by rw [c_9]; rfl) (by decide) ?_
    refine lv_aload_n hx hb d_Placed_answer_126 rfl (lv_at hl 0 rfl) ?_
    refine va_get (D := g.1) (ci := 9) (v := .ref ia) (C := "BoxGlue$Placed") (T := kT_Placed) (N := 3) hx hb hts ki_Placed hown hK (k_one o0) 0 rfl rfl 0 (by decide) (hts _ kw_438) (fun _ h9 => h9) rfl d_Placed_answer_127 ?_
    refine lv_aload_n hx hb d_Placed_answer_130 rfl (lv_at hl 2 rfl) ?_
    refine va_get (D := g.1) (ci := 2) (v := .int bd) (C := "BoxGlue$Box") (T := kT_Box) (N := 5) hx hb hts ki_Box hown hK (k_one b0) 0 rfl rfl 2 (by decide) (hts _ kw_117) (fun _ h9 => h9) rfl d_Placed_answer_131 ?_
    refine v_depthWhere hx hb hml hown hts hKK kw_549 hit hl.1 (Nat.le_of_ble_eq_true rfl) (Nat.le_of_ble_eq_true rfl) (Nat.le_of_ble_eq_true rfl) (Nat.zero_le _) (Nat.zero_le _) d_Placed_answer_134 ?_
    exact W.iret (v := (i_depth it bd)) hx hb hr (fun t ht hW => ⟨_, rfl, (by unfold p_ans; rw [if_neg c_2, if_neg c_3, if_neg c_4, if_neg c_5, if_neg c_6, if_neg c_7, if_neg c_8, if_pos c_9]), ht⟩) (fun _ h => by cases h) d_Placed_answer_137
  refine lv_tableOut (tgt := 138) hx hb d_Placed_answer_1 (k_sw c_2 c_3 c_4 c_5 c_6 c_7 c_8 c_9) (by decide) ?_
  refine lv_iconst (v := (-1)) hx hb d_Placed_answer_138 (by decide) ?_
  exact W.iret (v := (-1)) hx hb hr (fun t ht hW => ⟨_, rfl, (by unfold p_ans; rw [if_neg c_2, if_neg c_3, if_neg c_4, if_neg c_5, if_neg c_6, if_neg c_7, if_neg c_8, if_neg c_9]), ht⟩) (fun _ h => by cases h) d_Placed_answer_139
def b_ans (bl bh bd f0 f1 f2 f3 : Int32) (n : Nat) (what : Int32) : Int32 := if what = 0 then bl else if what = 1 then bh else if what = 2 then bd else if what = 3 then nI n else if what = 4 then f_Fit_badness f0 f1 f2 f3 else if what = 5 then f_Fit_over f0 f1 f2 f3 else if what = 6 then f1 else if what = 7 then f0 else (-1)
set_option maxHeartbeats 4000000 in
set_option maxRecDepth 100000 in
theorem c_Box_answer (l : Launch) (g : KGt) (H0 : Heap) (h0 bc bf n : Nat) (el : Nat → Nat) (bl bh bd f0 f1 f2 f3 what : Int32) (hz : ¬ f3 = 0 → ¬ (((f3).toInt64 * (f3).toInt64) * (f3).toInt64) = 0) (b0 : va_at g.1 kcl (h0, .inr (2, [.int bl, .int bh, .int bd, .ref bc, .ref bf])) H0) (o0 : va_at g.1 kcl (bf, .inr (3, [.int f0, .int f1, .int f2, .int f3])) H0) (o : kAL g bc n el H0) : Met l y_Box_answer (kW y_Box_answer b_Box_answer 2 (.some .int)) ({ frames := 3, cells := 0, slots := 0, locals := 69 }) (kPc [.ref h0, .int what] (KK g) H0) (kQc (kPure (.int (b_ans bl bh bd f0 f1 f2 f3 n what)) H0)) 0 0 (fun _ => False) := by
  refine Met.ofW (cc := b_Box_answer) (maxL := 2) (ret := (.some .int)) (by decide) rfl ?_
  intro p e s m args below meth c s₁ B hml hv
  obtain ⟨rfl, hH, hKK⟩ := hv
  have hx := B.exec
  have hb := B.bytes
  have hr := B.returns
  have hts := kW_ts (atoms_spec (ws := kW y_Box_answer b_Box_answer 2 (.some .int)) B.pre)
  have hown : s.vm.findClass "BoxGlue$Box" = some m.cls := findClass_of_methodNamed B.named
  have hlocks := B.notSynchronized
  have hK := hKK.1
  subst hH
  have hl := lv_entry ([.ref h0, .int what]) (n := 2) (Nat.le_of_ble_eq_true rfl)
  rw [lg_entry_eq]
  generalize (lg_sl ([.ref h0, .int what]) ++ List.replicate (2 - (lg_sl ([.ref h0, .int what])).length) Slot.unset).toArray = ls at hl ⊢
  have hl : lv_has ls 2 [(0, .ref h0), (1, .int what)] := hl
  refine lv_iload_n hx hb d_Box_answer_0 rfl (lv_at hl 1 rfl) ?_
  by_cases c_2 : what = 0
  · refine lv_tableIn (tgt := 48) hx hb d_Box_answer_1 (by rw [c_2]; decide) (by rw [c_2]; decide) (by rw [c_2]; rfl) (by decide) ?_
    refine lv_aload_n hx hb d_Box_answer_48 rfl (lv_at hl 0 rfl) ?_
    refine va_get (D := g.1) (ci := 2) (v := .int bl) (C := "BoxGlue$Box") (T := kT_Box) (N := 5) hx hb hts ki_Box hown hK (k_one b0) 0 rfl rfl 0 (by decide) (hts _ kw_110) (fun _ h9 => h9) rfl d_Box_answer_49 ?_
    exact W.iret (v := bl) hx hb hr (fun t ht hW => ⟨_, rfl, (by unfold b_ans; rw [if_pos c_2]), ht⟩) (fun _ h => by cases h) d_Box_answer_52
  by_cases c_3 : what = 1
  · refine lv_tableIn (tgt := 53) hx hb d_Box_answer_1 (by rw [c_3]; decide) (by rw [c_3]; decide) (by rw [c_3]; rfl) (by decide) ?_
    refine lv_aload_n hx hb d_Box_answer_53 rfl (lv_at hl 0 rfl) ?_
    refine va_get (D := g.1) (ci := 2) (v := .int bh) (C := "BoxGlue$Box") (T := kT_Box) (N := 5) hx hb hts ki_Box hown hK (k_one b0) 0 rfl rfl 1 (by decide) (hts _ kw_112) (fun _ h9 => h9) rfl d_Box_answer_54 ?_
    exact W.iret (v := bh) hx hb hr (fun t ht hW => ⟨_, rfl, (by unfold b_ans; rw [if_neg c_2, if_pos c_3]), ht⟩) (fun _ h => by cases h) d_Box_answer_57
  by_cases c_4 : what = 2
  · refine lv_tableIn (tgt := 58) hx hb d_Box_answer_1 (by rw [c_4]; decide) (by rw [c_4]; decide) (by rw [c_4]; rfl) (by decide) ?_
    refine lv_aload_n hx hb d_Box_answer_58 rfl (lv_at hl 0 rfl) ?_
    refine va_get (D := g.1) (ci := 2) (v := .int bd) (C := "BoxGlue$Box") (T := kT_Box) (N := 5) hx hb hts ki_Box hown hK (k_one b0) 0 rfl rfl 2 (by decide) (hts _ kw_115) (fun _ h9 => h9) rfl d_Box_answer_59 ?_
    exact W.iret (v := bd) hx hb hr (fun t ht hW => ⟨_, rfl, (by unfold b_ans; rw [if_neg c_2, if_neg c_3, if_pos c_4]), ht⟩) (fun _ h => by cases h) d_Box_answer_62
  by_cases c_5 : what = 3
  · refine lv_tableIn (tgt := 63) hx hb d_Box_answer_1 (by rw [c_5]; decide) (by rw [c_5]; decide) (by rw [c_5]; rfl) (by decide) ?_
    refine lv_aload_n hx hb d_Box_answer_63 rfl (lv_at hl 0 rfl) ?_
    refine va_get (D := g.1) (ci := 2) (v := .ref bc) (C := "BoxGlue$Box") (T := kT_Box) (N := 5) hx hb hts ki_Box hown hK (k_one b0) 0 rfl rfl 3 (by decide) (hts _ kw_118) (fun _ h9 => h9) rfl d_Box_answer_64 ?_
    refine k_pure (r := .int (nI n)) (W.runV (As := []) (rest := []) ⟨hx, hb, hml, hown, hts⟩ (c_AL_size l g s.heap bc n el o) (cwV 0 hts (kV_good kw_76 kw_361 kw_74 kw_75 kw_4) rfl rfl rfl (by decide +kernel) ⟨Nat.le_of_ble_eq_true rfl, Nat.le_of_ble_eq_true rfl⟩) (k_preV (KK_st g) hKK (o.recv hK)) rfl rfl hl.1 rfl (lv_room (Nat.le_of_ble_eq_true rfl)) d_Box_answer_67 ⟨Nat.zero_le _, Nat.zero_le _⟩) ?_
    exact W.iret (v := (nI n)) hx hb hr (fun t ht hW => ⟨_, rfl, (by unfold b_ans; rw [if_neg c_2, if_neg c_3, if_neg c_4, if_pos c_5]), ht⟩) (fun _ h => by cases h) d_Box_answer_70
  by_cases c_6 : what = 4
  · refine lv_tableIn (tgt := 71) hx hb d_Box_answer_1 (by rw [c_6]; decide) (by rw [c_6]; decide) (by rw [c_6]; rfl) (by decide) ?_
    refine lv_aload_n hx hb d_Box_answer_71 rfl (lv_at hl 0 rfl) ?_
    refine va_get (D := g.1) (ci := 2) (v := .ref bf) (C := "BoxGlue$Box") (T := kT_Box) (N := 5) hx hb hts ki_Box hown hK (k_one b0) 0 rfl rfl 4 (by decide) (hts _ kw_120) (fun _ h9 => h9) rfl d_Box_answer_72 ?_
    refine k_pure (r := .int (f_Fit_badness f0 f1 f2 f3)) (W.runV (As := []) (rest := []) ⟨hx, hb, hml, hown, hts⟩ (c_Fit_badness l g s.heap bf f0 f1 f2 f3 o0 hz) (cwV 0 hts (kV_good kw_470 kw_467 kw_468 kw_469 kw_7) rfl rfl rfl (by decide +kernel) ⟨Nat.le_of_ble_eq_true rfl, Nat.le_of_ble_eq_true rfl⟩) (k_preV (KK_st g) hKK (va_recv hK (k_one o0) (ci := 3) (q0 := 0) rfl rfl)) rfl rfl hl.1 rfl (lv_room (Nat.le_of_ble_eq_true rfl)) d_Box_answer_75 ⟨Nat.zero_le _, Nat.zero_le _⟩) ?_
    exact W.iret (v := (f_Fit_badness f0 f1 f2 f3)) hx hb hr (fun t ht hW => ⟨_, rfl, (by unfold b_ans; rw [if_neg c_2, if_neg c_3, if_neg c_4, if_neg c_5, if_pos c_6]), ht⟩) (fun _ h => by cases h) d_Box_answer_78
  by_cases c_7 : what = 5
  · refine lv_tableIn (tgt := 79) hx hb d_Box_answer_1 (by rw [c_7]; decide) (by rw [c_7]; decide) (by rw [c_7]; rfl) (by decide) ?_
    refine lv_aload_n hx hb d_Box_answer_79 rfl (lv_at hl 0 rfl) ?_
    refine va_get (D := g.1) (ci := 2) (v := .ref bf) (C := "BoxGlue$Box") (T := kT_Box) (N := 5) hx hb hts ki_Box hown hK (k_one b0) 0 rfl rfl 4 (by decide) (hts _ kw_120) (fun _ h9 => h9) rfl d_Box_answer_80 ?_
    refine k_pure (r := .int (f_Fit_over f0 f1 f2 f3)) (W.runV (As := []) (rest := []) ⟨hx, hb, hml, hown, hts⟩ (c_Fit_over l g s.heap bf f0 f1 f2 f3 o0) (cwV 0 hts (kV_good kw_430 kw_485 kw_428 kw_429 kw_7) rfl rfl rfl (by decide +kernel) ⟨Nat.le_of_ble_eq_true rfl, Nat.le_of_ble_eq_true rfl⟩) (k_preV (KK_st g) hKK (va_recv hK (k_one o0) (ci := 3) (q0 := 0) rfl rfl)) rfl rfl hl.1 rfl (lv_room (Nat.le_of_ble_eq_true rfl)) d_Box_answer_83 ⟨Nat.zero_le _, Nat.zero_le _⟩) ?_
    exact W.iret (v := (f_Fit_over f0 f1 f2 f3)) hx hb hr (fun t ht hW => ⟨_, rfl, (by unfold b_ans; rw [if_neg c_2, if_neg c_3, if_neg c_4, if_neg c_5, if_neg c_6, if_pos c_7]), ht⟩) (fun _ h => by cases h) d_Box_answer_86
  by_cases c_8 : what = 6
  · refine lv_tableIn (tgt := 87) hx hb d_Box_answer_1 (by rw [c_8]; decide) (by rw [c_8]; decide) (by rw [c_8]; rfl) (by decide) ?_
    refine lv_aload_n hx hb d_Box_answer_87 rfl (lv_at hl 0 rfl) ?_
    refine va_get (D := g.1) (ci := 2) (v := .ref bf) (C := "BoxGlue$Box") (T := kT_Box) (N := 5) hx hb hts ki_Box hown hK (k_one b0) 0 rfl rfl 4 (by decide) (hts _ kw_120) (fun _ h9 => h9) rfl d_Box_answer_88 ?_
    refine va_get (D := g.1) (ci := 3) (v := .int f1) (C := "BoxGlue$Fit") (T := kT_Fit) (N := 4) hx hb hts ki_Fit hown hK (k_one o0) 0 rfl rfl 1 (by decide) (hts _ kw_91) (fun _ h9 => h9) rfl d_Box_answer_91 ?_
    exact W.iret (v := f1) hx hb hr (fun t ht hW => ⟨_, rfl, (by unfold b_ans; rw [if_neg c_2, if_neg c_3, if_neg c_4, if_neg c_5, if_neg c_6, if_neg c_7, if_pos c_8]), ht⟩) (fun _ h => by cases h) d_Box_answer_94
  by_cases c_9 : what = 7
  · refine lv_tableIn (tgt := 95) hx hb d_Box_answer_1 (by rw [c_9]; decide) (by rw [c_9]; decide) (by rw [c_9]; rfl) (by decide) ?_
    refine lv_aload_n hx hb d_Box_answer_95 rfl (lv_at hl 0 rfl) ?_
    refine va_get (D := g.1) (ci := 2) (v := .ref bf) (C := "BoxGlue$Box") (T := kT_Box) (N := 5) hx hb hts ki_Box hown hK (k_one b0) 0 rfl rfl 4 (by decide) (hts _ kw_120) (fun _ h9 => h9) rfl d_Box_answer_96 ?_
    refine va_get (D := g.1) (ci := 3) (v := .int f0) (C := "BoxGlue$Fit") (T := kT_Fit) (N := 4) hx hb hts ki_Fit hown hK (k_one o0) 0 rfl rfl 0 (by decide) (hts _ kw_89) (fun _ h9 => h9) rfl d_Box_answer_99 ?_
    exact W.iret (v := f0) hx hb hr (fun t ht hW => ⟨_, rfl, (by unfold b_ans; rw [if_neg c_2, if_neg c_3, if_neg c_4, if_neg c_5, if_neg c_6, if_neg c_7, if_neg c_8, if_pos c_9]), ht⟩) (fun _ h => by cases h) d_Box_answer_102
  refine lv_tableOut (tgt := 103) hx hb d_Box_answer_1 (k_sw c_2 c_3 c_4 c_5 c_6 c_7 c_8 c_9) (by decide) ?_
  refine lv_iconst (v := (-1)) hx hb d_Box_answer_103 (by decide) ?_
  exact W.iret (v := (-1)) hx hb hr (fun t ht hW => ⟨_, rfl, (by unfold b_ans; rw [if_neg c_2, if_neg c_3, if_neg c_4, if_neg c_5, if_neg c_6, if_neg c_7, if_neg c_8, if_neg c_9]), ht⟩) (fun _ h => by cases h) d_Box_answer_104
set_option maxHeartbeats 4000000 in
set_option maxRecDepth 100000 in
theorem c_Box_bare (l : Launch) (g : KGt) (H0 : Heap) (hB : kB g H0) (p0 p1 p2 : Int32) : Met l y_Box_bare (kW y_Box_bare b_Box_bare 3 (.some (.object "BoxGlue$Box"))) ({ frames := 4, cells := 3, slots := 12, locals := 72 }) (kPc [.int p0, .int p1, .int p2] (KK g) H0) (kQc (fun v H1 => ∃ bq fq cq : Nat, v = some (.ref bq) ∧ H0.size ≤ bq ∧ H0.size ≤ fq ∧ H0.size ≤ cq ∧ kE (fun _ => False) H0 H1 ∧ va_at g.1 kcl (bq, .inr (2, [.int p0, .int p1, .int p2, .ref cq, .ref fq])) H1 ∧ va_at g.1 kcl (fq, .inr (3, [.int 0, .int (-1), .int 0, .int 0])) H1 ∧ va_at g.1 kcl (cq, .inr (1, [.ref g.2.2.2.1, .int 0, .int 0])) H1)) 3 12 (fun q : Nat => H0.size ≤ q) := by
  refine Met.ofW (cc := b_Box_bare) (maxL := 3) (ret := (.some (.object "BoxGlue$Box"))) (by decide) rfl ?_
  intro p e s m args below meth c s₁ B hml hv
  obtain ⟨rfl, hH, hKK⟩ := hv
  have hx := B.exec
  have hb := B.bytes
  have hr := B.returns
  have hts := kW_ts (atoms_spec (ws := kW y_Box_bare b_Box_bare 3 (.some (.object "BoxGlue$Box"))) B.pre)
  have hown : s.vm.findClass "BoxGlue$Box" = some m.cls := findClass_of_methodNamed B.named
  have hlocks := B.notSynchronized
  have hK := hKK.1
  subst hH
  have hl := lv_entry ([.int p0, .int p1, .int p2]) (n := 3) (Nat.le_of_ble_eq_true rfl)
  rw [lg_entry_eq]
  generalize (lg_sl ([.int p0, .int p1, .int p2]) ++ List.replicate (3 - (lg_sl ([.int p0, .int p1, .int p2])).length) Slot.unset).toArray = ls at hl ⊢
  have hl : lv_has ls 3 [(0, .int p0), (1, .int p1), (2, .int p2)] := hl
  generalize hAe : (fun q : Nat => s.heap.size ≤ q) = A
  have hA : ∀ q : Nat, s.heap.size ≤ q → A q := fun q h => by rw [← hAe]; exact h
  have hS : va_S A s.heap s.heap [] := va_S.rf
  have hP : va_P g.1 kcl [] s.heap := kP0
  have hD : va_D A [] := kD0
  refine va_new (D := g.1) (ci := 2) (fs := [.int 0, .int 0, .int 0, .null, .null]) (C := "BoxGlue$Box") (T := kT_Box) (N := 5) hx hb hts ki_Box kt_Box ko_Box hown (hts _ kw_80) (hts _ kw_81) (hts _ kw_6) hK hP hD hS hA rfl (fun j hj => by rcases (show j = 0 ∨ j = 1 ∨ j = 2 ∨ j = 3 ∨ j = 4 by omega) with rfl | rfl | rfl | rfl | rfl <;> rfl) (Nat.le_of_ble_eq_true rfl) (Nat.le_of_ble_eq_true rfl) d_Box_bare_0 (fun bq H hP hD hS => ?_)
  have hP : va_P g.1 kcl [(bq, .inr (2, [.int 0, .int 0, .int 0, .null, .null]))] H := hP
  have hD : va_D A [(bq, .inr (2, [.int 0, .int 0, .int 0, .null, .null]))] := hD
  have h_bq : s.heap.size ≤ bq := by have h9 := hD.2 0 _ rfl; rw [← hAe] at h9; exact h9
  refine lv_dup hx hb d_Box_bare_3 rfl ?_
  refine lv_iload_n hx hb d_Box_bare_4 rfl (lv_at hl 0 rfl) ?_
  refine lv_iload_n hx hb d_Box_bare_5 rfl (lv_at hl 1 rfl) ?_
  refine lv_iload_n hx hb d_Box_bare_6 rfl (lv_at hl 2 rfl) ?_
  refine va_new (D := g.1) (ci := 3) (fs := [.int 0, .int 0, .int 0, .int 0]) (C := "BoxGlue$Fit") (T := kT_Fit) (N := 4) hx hb hts ki_Fit kt_Fit ko_Fit hown (hts _ kw_82) (hts _ kw_83) (hts _ kw_7) hK hP hD hS hA rfl (fun j hj => by rcases (show j = 0 ∨ j = 1 ∨ j = 2 ∨ j = 3 by omega) with rfl | rfl | rfl | rfl <;> rfl) (Nat.le_of_ble_eq_true rfl) (Nat.le_of_ble_eq_true rfl) d_Box_bare_7 (fun fq H hP hD hS => ?_)
  have hP : va_P g.1 kcl [(bq, .inr (2, [.int 0, .int 0, .int 0, .null, .null])), (fq, .inr (3, [.int 0, .int 0, .int 0, .int 0]))] H := hP
  have hD : va_D A [(bq, .inr (2, [.int 0, .int 0, .int 0, .null, .null])), (fq, .inr (3, [.int 0, .int 0, .int 0, .int 0]))] := hD
  have h_fq : s.heap.size ≤ fq := by have h9 := hD.2 1 _ rfl; rw [← hAe] at h9; exact h9
  refine lv_dup hx hb d_Box_bare_10 rfl ?_
  refine lv_iconst (v := 0) hx hb d_Box_bare_11 (by decide) ?_
  refine lv_iconst (v := 0) hx hb d_Box_bare_12 (by decide) ?_
  refine lv_iconst (v := (-1)) hx hb d_Box_bare_13 (by decide) ?_
  refine lv_iconst (v := 0) hx hb d_Box_bare_14 (by decide) ?_
  refine k_call (A := A) (W.runI (As := [.int 0, .int 0, .int (-1), .int 0]) (rest := [.ref fq, .int p2, .int p1, .int p0, .ref bq, .ref bq]) ⟨hx, hb, hml, hown, hts⟩ (c_Fit_init l g H fq 0 0 (-1) 0 (k_at0 hP 1 rfl)) (cwI 4 hts (kW_good kw_86) rfl rfl rfl (hts _ kw_7) (hts _ kw_84) (hts _ kw_85) rfl (by decide +kernel) ⟨Nat.le_of_ble_eq_true rfl, Nat.le_of_ble_eq_true rfl⟩) (k_pre (KK_st g) hKK) rfl rfl hl.1 rfl (lv_room (Nat.le_of_ble_eq_true rfl)) d_Box_bare_15 ⟨Nat.le_of_ble_eq_true rfl, Nat.le_of_ble_eq_true rfl⟩) hS.2.2 (fun z h => by rw [← hAe]; rcases h with h | h; rw [h]; exact h_fq; exact Nat.le_trans hS.1 h) (fun v H2 locs hv hL => ?_)
  obtain ⟨rfl, hE2, o2⟩ := hv
  have hS : va_S A s.heap H2 locs := ((kE.ofS hS).tr hE2 (fun z hz h => by rw [← hAe]; rw [h]; exact h_fq)).S hL
  have hP : va_P g.1 kcl [(bq, .inr (2, [.int 0, .int 0, .int 0, .null, .null])), (fq, .inr (3, [.int 0, .int (-1), .int 0, .int 0]))] H2 := k_two (hE2.at (k_at0 hP 0 rfl) (fun h => absurd (hD.1 0 1 _ _ rfl rfl h) (by decide))) o2
  have hD : va_D A [(bq, .inr (2, [.int 0, .int 0, .int 0, .null, .null])), (fq, .inr (3, [.int 0, .int (-1), .int 0, .int 0]))] := hD.set (p := 1) rfl
  generalize H2 = H at hP hS hE2 ⊢
  clear hE2 o2
  refine va_new (D := g.1) (ci := 1) (fs := [.null, .int 0, .int 0]) (C := "java/util/ArrayList") (T := kT_AL) (N := 3) hx hb hts ki_AL kt_AL ko_AL hown (hts _ kw_103) (hts _ kw_30) (hts _ kw_4) hK hP hD hS hA rfl (fun j hj => by rcases (show j = 0 ∨ j = 1 ∨ j = 2 by omega) with rfl | rfl | rfl <;> rfl) (Nat.le_of_ble_eq_true rfl) (Nat.le_of_ble_eq_true rfl) d_Box_bare_18 (fun cq H hP hD hS => ?_)
  have hP : va_P g.1 kcl [(bq, .inr (2, [.int 0, .int 0, .int 0, .null, .null])), (fq, .inr (3, [.int 0, .int (-1), .int 0, .int 0])), (cq, .inr (1, [.null, .int 0, .int 0]))] H := hP
  have hD : va_D A [(bq, .inr (2, [.int 0, .int 0, .int 0, .null, .null])), (fq, .inr (3, [.int 0, .int (-1), .int 0, .int 0])), (cq, .inr (1, [.null, .int 0, .int 0]))] := hD
  have h_cq : s.heap.size ≤ cq := by have h9 := hD.2 2 _ rfl; rw [← hAe] at h9; exact h9
  refine lv_dup hx hb d_Box_bare_21 rfl ?_
  refine k_call (A := A) (W.runI (As := []) (rest := [.ref cq, .ref fq, .int p2, .int p1, .int p0, .ref bq, .ref bq]) ⟨hx, hb, hml, hown, hts⟩ (c_AL_init l g H cq (hB.tr (kE.ofS hS) (fun z hz h => by rw [← hAe] at h; exact absurd (Nat.le_trans hB.1 h) (by omega))) (Nat.le_trans hB.1 h_cq) (k_at0 hP 2 rfl)) (cwI 0 hts (kW_good kw_33) rfl rfl rfl (hts _ kw_4) (hts _ kw_104) (hts _ kw_32) rfl (by decide +kernel) ⟨Nat.le_of_ble_eq_true rfl, Nat.le_of_ble_eq_true rfl⟩) (k_pre (KK_st g) hKK) rfl rfl hl.1 rfl (lv_room (Nat.le_of_ble_eq_true rfl)) d_Box_bare_22 ⟨Nat.le_of_ble_eq_true rfl, Nat.le_of_ble_eq_true rfl⟩) hS.2.2 (fun z h => by rw [← hAe]; rcases h with h | h; rw [h]; exact h_cq; exact Nat.le_trans hS.1 h) (fun v H2 locs hv hL => ?_)
  obtain ⟨rfl, hE2, o2⟩ := hv
  have hS : va_S A s.heap H2 locs := ((kE.ofS hS).tr hE2 (fun z hz h => by rw [← hAe]; rw [h]; exact h_cq)).S hL
  have hP : va_P g.1 kcl [(bq, .inr (2, [.int 0, .int 0, .int 0, .null, .null])), (fq, .inr (3, [.int 0, .int (-1), .int 0, .int 0])), (cq, .inr (1, [.ref g.2.2.2.1, .int 0, .int 0]))] H2 := k_three (hE2.at (k_at0 hP 0 rfl) (fun h => absurd (hD.1 0 2 _ _ rfl rfl h) (by decide))) (hE2.at (k_at0 hP 1 rfl) (fun h => absurd (hD.1 1 2 _ _ rfl rfl h) (by decide))) o2
  have hD : va_D A [(bq, .inr (2, [.int 0, .int 0, .int 0, .null, .null])), (fq, .inr (3, [.int 0, .int (-1), .int 0, .int 0])), (cq, .inr (1, [.ref g.2.2.2.1, .int 0, .int 0]))] := hD.set (p := 2) rfl
  generalize H2 = H at hP hS hE2 ⊢
  clear hE2 o2
  refine k_call (A := A) (W.runI (As := [.int p0, .int p1, .int p2, .ref fq, .ref cq]) (rest := [.ref bq]) ⟨hx, hb, hml, hown, hts⟩ (c_Box_init l g H bq p0 p1 p2 fq cq (k_at0 hP 0 rfl)) (cwI 5 hts (kW_good kw_107) rfl rfl rfl (hts _ kw_6) (hts _ kw_105) (hts _ kw_106) rfl (by decide +kernel) ⟨Nat.le_of_ble_eq_true rfl, Nat.le_of_ble_eq_true rfl⟩) (k_pre (KK_st g) hKK) rfl rfl hl.1 rfl (lv_room (Nat.le_of_ble_eq_true rfl)) d_Box_bare_25 ⟨Nat.le_of_ble_eq_true rfl, Nat.le_of_ble_eq_true rfl⟩) hS.2.2 (fun z h => by rw [← hAe]; rcases h with h | h; rw [h]; exact h_bq; exact Nat.le_trans hS.1 h) (fun v H2 locs hv hL => ?_)
  obtain ⟨rfl, hE2, o2⟩ := hv
  have hS : va_S A s.heap H2 locs := ((kE.ofS hS).tr hE2 (fun z hz h => by rw [← hAe]; rw [h]; exact h_bq)).S hL
  have hP : va_P g.1 kcl [(bq, .inr (2, [.int p0, .int p1, .int p2, .ref cq, .ref fq])), (fq, .inr (3, [.int 0, .int (-1), .int 0, .int 0])), (cq, .inr (1, [.ref g.2.2.2.1, .int 0, .int 0]))] H2 := k_three o2 (hE2.at (k_at0 hP 1 rfl) (fun h => absurd (hD.1 1 0 _ _ rfl rfl h) (by decide))) (hE2.at (k_at0 hP 2 rfl) (fun h => absurd (hD.1 2 0 _ _ rfl rfl h) (by decide)))
  have hD : va_D A [(bq, .inr (2, [.int p0, .int p1, .int p2, .ref cq, .ref fq])), (fq, .inr (3, [.int 0, .int (-1), .int 0, .int 0])), (cq, .inr (1, [.ref g.2.2.2.1, .int 0, .int 0]))] := hD.set (p := 0) rfl
  generalize H2 = H at hP hS hE2 ⊢
  clear hE2 o2
  have hE : kE (fun _ => False) s.heap H := (kE.ofS hS).wk (fun z hz h => by rw [← hAe] at h; omega)
  exact W.aret (v := .ref bq) hx hb hr (Or.inl ⟨_, rfl⟩) (Or.inr ⟨_, rfl⟩) (fun t ht hW => ⟨_, rfl, bq, fq, cq, rfl, h_bq, h_fq, h_cq, by rw [ht]; exact hE, by rw [ht]; exact k_at0 hP 0 rfl, by rw [ht]; exact k_at0 hP 1 rfl, by rw [ht]; exact k_at0 hP 2 rfl⟩) hS.2.2 d_Box_bare_28
set_option maxHeartbeats 4000000 in
set_option maxRecDepth 100000 in
theorem c_Glue_with (l : Launch) (g : KGt) (H0 : Heap) (h0 p0 r : Nat) (a0 a1 a2 a3 a4 a5 : Int32) (o0 : va_at g.1 kcl (h0, .inr (5, [.int a0, .int a1, .int a2, .int a3, .int a4, .int a5, .ref r])) H0) : Met l y_Glue_with (kW y_Glue_with b_Glue_with 2 (.some (.object "BoxGlue$Glue"))) ({ frames := 3, cells := 1, slots := 7, locals := 60 }) (kPc [.ref h0, .ref p0] (KK g) H0) (kQc (fun v H1 => ∃ bq : Nat, v = some (.ref bq) ∧ H0.size ≤ bq ∧ kE (fun _ => False) H0 H1 ∧ va_at g.1 kcl (bq, .inr (5, [.int 2, .int a1, .int a2, .int a3, .int a4, .int a5, .ref p0])) H1)) 1 7 (fun q : Nat => H0.size ≤ q) := by
  refine Met.ofW (cc := b_Glue_with) (maxL := 2) (ret := (.some (.object "BoxGlue$Glue"))) (by decide) rfl ?_
  intro p e s m args below meth c s₁ B hml hv
  obtain ⟨rfl, hH, hKK⟩ := hv
  have hx := B.exec
  have hb := B.bytes
  have hr := B.returns
  have hts := kW_ts (atoms_spec (ws := kW y_Glue_with b_Glue_with 2 (.some (.object "BoxGlue$Glue"))) B.pre)
  have hown : s.vm.findClass "BoxGlue$Glue" = some m.cls := findClass_of_methodNamed B.named
  have hlocks := B.notSynchronized
  have hK := hKK.1
  subst hH
  have hl := lv_entry ([.ref h0, .ref p0]) (n := 2) (Nat.le_of_ble_eq_true rfl)
  rw [lg_entry_eq]
  generalize (lg_sl ([.ref h0, .ref p0]) ++ List.replicate (2 - (lg_sl ([.ref h0, .ref p0])).length) Slot.unset).toArray = ls at hl ⊢
  have hl : lv_has ls 2 [(0, .ref h0), (1, .ref p0)] := hl
  generalize hAe : (fun q : Nat => s.heap.size ≤ q) = A
  have hA : ∀ q : Nat, s.heap.size ≤ q → A q := fun q h => by rw [← hAe]; exact h
  have hS : va_S A s.heap s.heap [] := va_S.rf
  have hP : va_P g.1 kcl [] s.heap := kP0
  have hD : va_D A [] := kD0
  refine va_new (D := g.1) (ci := 5) (fs := [.int 0, .int 0, .int 0, .int 0, .int 0, .int 0, .null]) (C := "BoxGlue$Glue") (T := kT_Glue) (N := 7) hx hb hts ki_Glue kt_Glue ko_Glue hown (hts _ kw_340) (hts _ kw_256) (hts _ kw_16) hK hP hD hS hA rfl (fun j hj => by rcases (show j = 0 ∨ j = 1 ∨ j = 2 ∨ j = 3 ∨ j = 4 ∨ j = 5 ∨ j = 6 by omega) with rfl | rfl | rfl | rfl | rfl | rfl | rfl <;> rfl) (Nat.le_of_ble_eq_true rfl) (Nat.le_of_ble_eq_true rfl) d_Glue_with_0 (fun bq H hP hD hS => ?_)
  have hP : va_P g.1 kcl [(bq, .inr (5, [.int 0, .int 0, .int 0, .int 0, .int 0, .int 0, .null]))] H := hP
  have hD : va_D A [(bq, .inr (5, [.int 0, .int 0, .int 0, .int 0, .int 0, .int 0, .null]))] := hD
  have h_bq : s.heap.size ≤ bq := by have h9 := hD.2 0 _ rfl; rw [← hAe] at h9; exact h9
  have o1 := (kE.ofS hS).at o0 (fun h => by rw [← hAe] at h; exact absurd o0.lt (Nat.not_lt.mpr h))
  refine lv_dup hx hb d_Glue_with_3 rfl ?_
  refine lv_aload_n hx hb d_Glue_with_4 rfl (lv_at hl 0 rfl) ?_
  refine va_get (D := g.1) (ci := 5) (v := .int a1) (C := "BoxGlue$Glue") (T := kT_Glue) (N := 7) hx hb hts ki_Glue hown hK (k_one o1) 0 rfl rfl 1 (by decide) (hts _ kw_231) (u_same (hts _ kw_232)) rfl d_Glue_with_5 ?_
  refine lv_aload_n hx hb d_Glue_with_8 rfl (lv_at hl 0 rfl) ?_
  refine va_get (D := g.1) (ci := 5) (v := .int a2) (C := "BoxGlue$Glue") (T := kT_Glue) (N := 7) hx hb hts ki_Glue hown hK (k_one o1) 0 rfl rfl 2 (by decide) (hts _ kw_274) (fun _ h9 => h9) rfl d_Glue_with_9 ?_
  refine lv_aload_n hx hb d_Glue_with_12 rfl (lv_at hl 0 rfl) ?_
  refine va_get (D := g.1) (ci := 5) (v := .int a3) (C := "BoxGlue$Glue") (T := kT_Glue) (N := 7) hx hb hts ki_Glue hown hK (k_one o1) 0 rfl rfl 3 (by decide) (hts _ kw_275) (fun _ h9 => h9) rfl d_Glue_with_13 ?_
  refine lv_aload_n hx hb d_Glue_with_16 rfl (lv_at hl 0 rfl) ?_
  refine va_get (D := g.1) (ci := 5) (v := .int a4) (C := "BoxGlue$Glue") (T := kT_Glue) (N := 7) hx hb hts ki_Glue hown hK (k_one o1) 0 rfl rfl 4 (by decide) (hts _ kw_276) (fun _ h9 => h9) rfl d_Glue_with_17 ?_
  refine lv_aload_n hx hb d_Glue_with_20 rfl (lv_at hl 0 rfl) ?_
  refine va_get (D := g.1) (ci := 5) (v := .int a5) (C := "BoxGlue$Glue") (T := kT_Glue) (N := 7) hx hb hts ki_Glue hown hK (k_one o1) 0 rfl rfl 5 (by decide) (hts _ kw_277) (fun _ h9 => h9) rfl d_Glue_with_21 ?_
  refine lv_aload_n hx hb d_Glue_with_24 rfl (lv_at hl 1 rfl) ?_
  refine k_call (A := A) (W.runI (As := [.int a1, .int a2, .int a3, .int a4, .int a5, .ref p0]) (rest := [.ref bq]) ⟨hx, hb, hml, hown, hts⟩ (c_Glue_init l g H bq a1 a2 a3 a4 a5 p0 (k_at0 hP 0 rfl)) (cwI 6 hts (kW_good kw_272) rfl rfl rfl (hts _ kw_16) (hts _ kw_341) (hts _ kw_271) rfl (by decide +kernel) ⟨Nat.le_of_ble_eq_true rfl, Nat.le_of_ble_eq_true rfl⟩) (k_pre (KK_st g) hKK) rfl rfl hl.1 rfl (lv_room (Nat.le_of_ble_eq_true rfl)) d_Glue_with_25 ⟨Nat.le_of_ble_eq_true rfl, Nat.le_of_ble_eq_true rfl⟩) hS.2.2 (fun z h => by rw [← hAe]; rcases h with h | h; rw [h]; exact h_bq; exact Nat.le_trans hS.1 h) (fun v H2 locs hv hL => ?_)
  obtain ⟨rfl, hE2, o2⟩ := hv
  have hS : va_S A s.heap H2 locs := ((kE.ofS hS).tr hE2 (fun z hz h => by rw [← hAe]; rw [h]; exact h_bq)).S hL
  have hP : va_P g.1 kcl [(bq, .inr (5, [.int 2, .int a1, .int a2, .int a3, .int a4, .int a5, .ref p0]))] H2 := k_one o2
  have hD : va_D A [(bq, .inr (5, [.int 2, .int a1, .int a2, .int a3, .int a4, .int a5, .ref p0]))] := hD.set (p := 0) rfl
  generalize H2 = H at hP hS hE2 ⊢
  clear hE2 o2
  have hE : kE (fun _ => False) s.heap H := (kE.ofS hS).wk (fun z hz h => by rw [← hAe] at h; omega)
  exact W.aret (v := .ref bq) hx hb hr (Or.inl ⟨_, rfl⟩) (Or.inr ⟨_, rfl⟩) (fun t ht hW => ⟨_, rfl, bq, rfl, h_bq, by rw [ht]; exact hE, by rw [ht]; exact k_at0 hP 0 rfl⟩) hS.2.2 d_Glue_with_28

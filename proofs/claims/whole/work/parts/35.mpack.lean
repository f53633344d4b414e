/-! the reference: pack -/
section
variable (F : Nat → Nat → Int32) (sz : Nat) (p0 : Int32)
def mp_l : Int64 := if p0 < 0 then (if 0 ≤ (lg_cmp (md_nat F sz) 0) then (md_nat F sz) else 0) else (p0).toInt64
def mp_x : Int64 := (mp_l F sz p0) - (md_nat F sz)
def mp_up : Int32 := if (lg_cmp (mp_x F sz p0) 0) ≤ 0 then 0 else 1
def mp_sh : Int64 := if (mp_up F sz p0) = 0 then (-(mp_x F sz p0)) else (mp_x F sz p0)
def mp_by : Int32 := if (lg_cmp (mp_x F sz p0) 0) = 0 then (-1) else (md_go F sz (mp_up F sz p0))
def mp_all : Int64 := if 0 ≤ (mp_by F sz p0) then (md_sum F (mp_up F sz p0) (mp_by F sz p0) sz) else 0
def mp_bad : Int32 := if 0 < (mp_by F sz p0) then 0 else if (lg_cmp (mp_x F sz p0) 0) = 0 then 0 else if (mp_up F sz p0) = 0 then (if 0 < (lg_cmp (mp_sh F sz p0) (mp_all F sz p0)) then 1000000 else (f_Mod_badness (mp_sh F sz p0) (mp_all F sz p0))) else (if 0 ≤ (mp_by F sz p0) then (f_Mod_badness (mp_sh F sz p0) (mp_all F sz p0)) else 10000)
def mp_sh2 : Int64 := if (mp_bad F sz p0) = 1000000 then (mp_all F sz p0) else (mp_sh F sz p0)
def mp_over : Int32 := if (mp_bad F sz p0) = 1000000 then ((mp_sh F sz p0) - (mp_all F sz p0)).toInt32 else 0
def mp_g (i : Nat) : Int64 := if (mp_by F sz p0) < 0 then ((md_len F i)).toInt64 else if (F 0 i) = 2 then (if (mp_up F sz p0) = 0 then (if (F 7 i) = (mp_by F sz p0) then (((md_len F i)).toInt64 - (((mp_sh2 F sz p0) * (md_sum F (mp_up F sz p0) (mp_by F sz p0) (i + 1))) / (mp_all F sz p0) - ((mp_sh2 F sz p0) * (md_sum F (mp_up F sz p0) (mp_by F sz p0) i)) / (mp_all F sz p0))) else ((md_len F i)).toInt64) else (if (F 5 i) = (mp_by F sz p0) then (((md_len F i)).toInt64 + (((mp_sh2 F sz p0) * (md_sum F (mp_up F sz p0) (mp_by F sz p0) (i + 1))) / (mp_all F sz p0) - ((mp_sh2 F sz p0) * (md_sum F (mp_up F sz p0) (mp_by F sz p0) i)) / (mp_all F sz p0))) else ((md_len F i)).toInt64)) else ((md_len F i)).toInt64
def mp_at : Nat → Int64
  | 0 => 0
  | k + 1 => mp_at k + mp_g F sz p0 k
def mp_H : Nat → Int32
  | 0 => 0
  | k + 1 => if (md_h F k 0) ≤ (mp_H k) then (mp_H k) else (md_h F k 0)
def mp_D : Nat → Int32
  | 0 => 0
  | k + 1 => if (md_d F k 0) ≤ (mp_D k) then (mp_D k) else (md_d F k 0)
end
def mp_call (F : Nat → Nat → Int32) (sz : Nat) (p0 : Int32) : Prop := ¬ 0 < mp_by F sz p0 ∧ ¬ lg_cmp (mp_x F sz p0) 0 = 0 ∧ (mp_up F sz p0 = 0 ∨ 0 ≤ mp_by F sz p0) ∧ (¬ mp_up F sz p0 = 0 ∨ ¬ 0 < lg_cmp (mp_sh F sz p0) (mp_all F sz p0))
def mp_ag (F F1 : Nat → Nat → Int32) (bx : Nat) : Prop := ∀ k a, (¬ (k = 16 ∨ k = 17 ∨ k = 20 ∨ k = 21) ∨ a ≠ bx) → F1 k a = F k a
theorem mp_ag.put {F F1 : Nat → Nat → Int32} {bx k : Nat} {x : Int32} (h : mp_ag F F1 bx) (hk : k = 16 ∨ k = 17 ∨ k = 20 ∨ k = 21) : mp_ag F (mF F1 k bx x) bx := by
  intro a b hab
  by_cases e : b = bx
  · subst e
    rw [mF_row (fun e => by subst e; exact hab.elim (fun h => h hk) (fun h => h rfl))]
    exact h a b hab
  · rw [mF_ne e]
    exact h a b hab
theorem mp_ag.row {F F1 : Nat → Nat → Int32} {bx k a : Nat} (h : mp_ag F F1 bx) (hk : ¬ (k = 16 ∨ k = 17 ∨ k = 20 ∨ k = 21)) : F1 k a = F k a := h k a (Or.inl hk)
theorem mp_ag.mw {F F1 : Nat → Nat → Int32} {bx i : Nat} (h : mp_ag F F1 bx) (hw : mW F bx i) : mW F1 bx i := by
  unfold mW
  rw [h.row (k := 0) (by decide), h.row (k := 1) (by decide), h.row (k := 8) (by decide), h.row (k := 9) (by decide)]
  exact hw
theorem mp_ag.len {F F1 : Nat → Nat → Int32} {bx i : Nat} (h : mp_ag F F1 bx) : md_len F1 i = md_len F i := by
  unfold md_len
  rw [h.row (k := 0) (by decide), h.row (k := 1) (by decide), h.row (k := 15) (by decide)]
theorem mp_ag.h {F F1 : Nat → Nat → Int32} {bx i : Nat} {r : Int32} (h : mp_ag F F1 bx) (hb : bx ≤ 60) (hw : mW F bx i) : md_h F1 i r = md_h F i r := by
  unfold md_h
  rw [h.row (k := 0) (by decide), h.row (k := 1) (by decide), h.row (k := 2) (by decide)]
  by_cases e : F 0 i = 1
  · obtain ⟨b, hb1, hb2⟩ := hw.1 e
    rw [if_pos e, if_pos e, hb2, nI_clamp (by omega), h 16 b (Or.inr (by omega))]
  · rw [if_neg e, if_neg e]
theorem mp_ag.d {F F1 : Nat → Nat → Int32} {bx i : Nat} {r : Int32} (h : mp_ag F F1 bx) (hb : bx ≤ 60) (hw : mW F bx i) : md_d F1 i r = md_d F i r := by
  unfold md_d
  rw [h.row (k := 0) (by decide), h.row (k := 1) (by decide), h.row (k := 2) (by decide), h.row (k := 3) (by decide)]
  by_cases e : F 0 i = 1
  · obtain ⟨b, hb1, hb2⟩ := hw.1 e
    rw [if_pos e, if_pos e, hb2, nI_clamp (by omega), h 17 b (Or.inr (by omega))]
  · rw [if_neg e, if_neg e]
theorem mp_ag.sum {F F1 : Nat → Nat → Int32} {bx : Nat} {b d : Int32} (h : mp_ag F F1 bx) (n : Nat) : md_sum F1 b d n = md_sum F b d n := by
  induction n with
  | zero => rfl
  | succ n ih =>
    show md_sum F1 b d n + md_giv F1 b d n = md_sum F b d n + md_giv F b d n
    rw [ih]
    unfold md_giv
    rw [h.row (k := 0) (by decide), h.row (k := 4) (by decide), h.row (k := 5) (by decide), h.row (k := 6) (by decide), h.row (k := 7) (by decide)]
def mp_gg (F : Nat → Nat → Int32) (G : Nat → Nat → Int64) (sz : Nat) (p0 : Int32) (i : Nat) (G1 : Nat → Nat → Int64) : Prop := (∀ a, a < i → G1 10 a = mp_g F sz p0 a ∧ G1 11 a = mp_at F sz p0 a) ∧ ∀ k a, i ≤ a → G1 k a = G k a
theorem mp_gg.put {F : Nat → Nat → Int32} {G G1 : Nat → Nat → Int64} {sz i : Nat} {p0 : Int32} (h : mp_gg F G sz p0 i G1) : mp_gg F G sz p0 (i + 1) (mG (mG G1 10 i (mp_g F sz p0 i)) 11 i (mp_at F sz p0 i)) := by
  refine ⟨fun a ha => ?_, fun k a ha => ?_⟩
  · by_cases e : a = i
    · subst e
      rw [mG_self, mG_row (by decide), mG_self]
      exact ⟨rfl, rfl⟩
    · rw [mG_ne e, mG_ne e, mG_ne e, mG_ne e]
      exact h.1 a (by omega)
  · rw [mG_ne (by omega), mG_ne (by omega)]
    exact h.2 k a (by omega)
abbrev mp_post (F : Nat → Nat → Int32) (G : Nat → Nat → Int64) (sz us bx : Nat) (p0 : Int32) (F1 : Nat → Nat → Int32) (G1 : Nat → Nat → Int64) : Prop :=
  (∀ k a, k < 10 → 40 ≤ a → a < 40 + us → F1 k a = F k a) ∧ (∀ k a, k < 10 → a < sz → F1 k (40 + us + a) = F k a) ∧ (∀ k a, 15 ≤ k → a ≠ bx → F1 k a = F k a) ∧ (F1 15 bx = (mp_l F sz p0).toInt32) ∧ (F1 16 bx = mp_H F sz) ∧ (F1 17 bx = mp_D F sz) ∧ (F1 18 bx = nI (40 + us)) ∧ (F1 19 bx = nI sz) ∧ (F1 20 bx = mp_bad F sz p0) ∧ (F1 21 bx = mp_over F sz p0) ∧ (F1 22 bx = mp_by F sz p0) ∧ (F1 23 bx = (md_nat F sz).toInt32) ∧ (∀ k a, (k = 10 ∨ k = 11) → 40 ≤ a → a < 40 + us → G1 k a = G k a) ∧ (∀ a, a < sz → G1 10 (40 + us + a) = mp_g F sz p0 a ∧ G1 11 (40 + us + a) = mp_at F sz p0 a)
theorem mp_post_old {F : Nat → Nat → Int32} {G : Nat → Nat → Int64} {sz us bx : Nat} {p0 : Int32} {F1 : Nat → Nat → Int32} {G1 : Nat → Nat → Int64} (h : mp_post F G sz us bx p0 F1 G1) : ∀ k a, k < 10 → 40 ≤ a → a < 40 + us → F1 k a = F k a := h.1
theorem mp_post_new {F : Nat → Nat → Int32} {G : Nat → Nat → Int64} {sz us bx : Nat} {p0 : Int32} {F1 : Nat → Nat → Int32} {G1 : Nat → Nat → Int64} (h : mp_post F G sz us bx p0 F1 G1) : ∀ k a, k < 10 → a < sz → F1 k (40 + us + a) = F k a := h.2.1
theorem mp_post_box {F : Nat → Nat → Int32} {G : Nat → Nat → Int64} {sz us bx : Nat} {p0 : Int32} {F1 : Nat → Nat → Int32} {G1 : Nat → Nat → Int64} (h : mp_post F G sz us bx p0 F1 G1) : ∀ k a, 15 ≤ k → a ≠ bx → F1 k a = F k a := h.2.2.1
theorem mp_post_b15 {F : Nat → Nat → Int32} {G : Nat → Nat → Int64} {sz us bx : Nat} {p0 : Int32} {F1 : Nat → Nat → Int32} {G1 : Nat → Nat → Int64} (h : mp_post F G sz us bx p0 F1 G1) : F1 15 bx = (mp_l F sz p0).toInt32 := h.2.2.2.1
theorem mp_post_b16 {F : Nat → Nat → Int32} {G : Nat → Nat → Int64} {sz us bx : Nat} {p0 : Int32} {F1 : Nat → Nat → Int32} {G1 : Nat → Nat → Int64} (h : mp_post F G sz us bx p0 F1 G1) : F1 16 bx = mp_H F sz := h.2.2.2.2.1
theorem mp_post_b17 {F : Nat → Nat → Int32} {G : Nat → Nat → Int64} {sz us bx : Nat} {p0 : Int32} {F1 : Nat → Nat → Int32} {G1 : Nat → Nat → Int64} (h : mp_post F G sz us bx p0 F1 G1) : F1 17 bx = mp_D F sz := h.2.2.2.2.2.1
theorem mp_post_b18 {F : Nat → Nat → Int32} {G : Nat → Nat → Int64} {sz us bx : Nat} {p0 : Int32} {F1 : Nat → Nat → Int32} {G1 : Nat → Nat → Int64} (h : mp_post F G sz us bx p0 F1 G1) : F1 18 bx = nI (40 + us) := h.2.2.2.2.2.2.1
theorem mp_post_b19 {F : Nat → Nat → Int32} {G : Nat → Nat → Int64} {sz us bx : Nat} {p0 : Int32} {F1 : Nat → Nat → Int32} {G1 : Nat → Nat → Int64} (h : mp_post F G sz us bx p0 F1 G1) : F1 19 bx = nI sz := h.2.2.2.2.2.2.2.1
theorem mp_post_b20 {F : Nat → Nat → Int32} {G : Nat → Nat → Int64} {sz us bx : Nat} {p0 : Int32} {F1 : Nat → Nat → Int32} {G1 : Nat → Nat → Int64} (h : mp_post F G sz us bx p0 F1 G1) : F1 20 bx = mp_bad F sz p0 := h.2.2.2.2.2.2.2.2.1
theorem mp_post_b21 {F : Nat → Nat → Int32} {G : Nat → Nat → Int64} {sz us bx : Nat} {p0 : Int32} {F1 : Nat → Nat → Int32} {G1 : Nat → Nat → Int64} (h : mp_post F G sz us bx p0 F1 G1) : F1 21 bx = mp_over F sz p0 := h.2.2.2.2.2.2.2.2.2.1
theorem mp_post_b22 {F : Nat → Nat → Int32} {G : Nat → Nat → Int64} {sz us bx : Nat} {p0 : Int32} {F1 : Nat → Nat → Int32} {G1 : Nat → Nat → Int64} (h : mp_post F G sz us bx p0 F1 G1) : F1 22 bx = mp_by F sz p0 := h.2.2.2.2.2.2.2.2.2.2.1
theorem mp_post_b23 {F : Nat → Nat → Int32} {G : Nat → Nat → Int64} {sz us bx : Nat} {p0 : Int32} {F1 : Nat → Nat → Int32} {G1 : Nat → Nat → Int64} (h : mp_post F G sz us bx p0 F1 G1) : F1 23 bx = (md_nat F sz).toInt32 := h.2.2.2.2.2.2.2.2.2.2.2.1
theorem mp_post_gold {F : Nat → Nat → Int32} {G : Nat → Nat → Int64} {sz us bx : Nat} {p0 : Int32} {F1 : Nat → Nat → Int32} {G1 : Nat → Nat → Int64} (h : mp_post F G sz us bx p0 F1 G1) : ∀ k a, (k = 10 ∨ k = 11) → 40 ≤ a → a < 40 + us → G1 k a = G k a := h.2.2.2.2.2.2.2.2.2.2.2.2.1
theorem mp_post_gnew {F : Nat → Nat → Int32} {G : Nat → Nat → Int64} {sz us bx : Nat} {p0 : Int32} {F1 : Nat → Nat → Int32} {G1 : Nat → Nat → Int64} (h : mp_post F G sz us bx p0 F1 G1) : ∀ a, a < sz → G1 10 (40 + us + a) = mp_g F sz p0 a ∧ G1 11 (40 + us + a) = mp_at F sz p0 a := h.2.2.2.2.2.2.2.2.2.2.2.2.2
set_option maxHeartbeats 4000000 in
set_option maxRecDepth 100000 in
theorem c_Mod_pack_bad (l : Launch) (g : KGt) (H0 : Heap) (m0 : Nat) (ad : Nat → Nat) (sz us bx : Nat) (F : Nat → Nat → Int32) (G : Nat → Nat → Int64) (hM : kMod g m0 ad sz us bx F G H0) (p0 : Int32) (hs40 : sz ≤ 40) (hb60 : bx ≤ 60) (hw : ∀ i, i < sz → mW F bx i) (h : f_Mod_isIn p0 (-1) 1000000 = 0 ∨ (p0 = (-1) ∧ ¬ (lg_cmp (md_nat F sz) 1000000) ≤ 0)) : Met l y_Mod_pack (kW y_Mod_pack b_Mod_pack 22 (.some .int)) ({ frames := 2, cells := 0, slots := 0, locals := 44 }) (kPc [.ref m0, .int p0] (KK g) H0) (kQc (kPure (.int (-1)) H0)) 0 0 (fun _ => False) := by
  refine Met.ofW (cc := b_Mod_pack) (maxL := 22) (ret := (.some .int)) (by decide) rfl ?_
  intro p e s m args below meth c s₁ B hml hv
  obtain ⟨rfl, hH, hKK⟩ := hv
  have hx := B.exec
  have hb := B.bytes
  have hr := B.returns
  have hts := kW_ts (atoms_spec (ws := kW y_Mod_pack b_Mod_pack 22 (.some .int)) B.pre)
  have hown : s.vm.findClass "BoxGlueModel" = some m.cls := findClass_of_methodNamed B.named
  have hlocks := B.notSynchronized
  have hK := hKK.1
  subst hH
  have hl := lv_entry ([.ref m0, .int p0]) (n := 22) (Nat.le_of_ble_eq_true rfl)
  rw [lg_entry_eq]
  generalize (lg_sl ([.ref m0, .int p0]) ++ List.replicate (22 - (lg_sl ([.ref m0, .int p0])).length) Slot.unset).toArray = ls at hl ⊢
  have hl : lv_has ls 22 [(0, .ref m0), (1, .int p0)] := hl
  refine lv_aload_n hx hb d_Mod_pack_0 rfl (lv_at hl 0 rfl) ?_
  refine k_pure (r := .long (md_nat F sz)) (W.runV (As := []) (rest := []) ⟨hx, hb, hml, hown, hts⟩ (c_Mod_natural l g s.heap m0 ad sz us bx F G hM hs40 hb60 hw) (cwV 0 hts (kV_good kw_697 kw_706 kw_695 kw_696 kw_5) rfl rfl rfl (by decide +kernel) ⟨Nat.le_of_ble_eq_true rfl, Nat.le_of_ble_eq_true rfl⟩) (k_preV (KK_st g) hKK (va_recv hK (k_one hM.1) (ci := 10) (q0 := 0) rfl rfl)) rfl rfl hl.1 rfl (lv_room (Nat.le_of_ble_eq_true rfl)) d_Mod_pack_1 ⟨Nat.zero_le _, Nat.zero_le _⟩) ?_
  refine lv_lstore_n (lv' := [(2, .long (md_nat F sz)), (0, .ref m0), (1, .int p0)]) hx hb d_Mod_pack_4 rfl hl (by decide) rfl (fun ls hl => ?_)
  refine lv_iload_n hx hb d_Mod_pack_5 rfl (lv_at hl 2 rfl) ?_
  refine lv_iconst (v := (-1)) hx hb d_Mod_pack_6 (by decide) ?_
  refine lv_ldc (own := "BoxGlueModel") (index := 114) (v := 1000000) hx hb hown (hts _ kw_707) d_Mod_pack_7 ?_
  refine k_pure (r := .int (f_Mod_isIn p0 (-1) 1000000)) (W.runS (As := [.int p0, .int (-1), .int 1000000]) (rest := []) ⟨hx, hb, hml, hown, hts⟩ (c_Mod_isIn l g s.heap p0 (-1) 1000000) (va_cwS 3 hts (kS_good kw_663 kw_661 kw_662 kw_5) rfl rfl rfl (by decide +kernel) ⟨Nat.le_of_ble_eq_true rfl, Nat.le_of_ble_eq_true rfl⟩) (k_pre (KK_st g) hKK) rfl rfl hl.1 rfl (lv_room (Nat.le_of_ble_eq_true rfl)) d_Mod_pack_9 ⟨Nat.zero_le _, Nat.zero_le _⟩) ?_
  refine lv_if_eq (tgt := 28) hx hb d_Mod_pack_12 (by decide) (fun c_1 => ?_) (fun c_1 => ?_)
  · skip
    refine lv_iconst (v := (-1)) hx hb d_Mod_pack_28 (by decide) ?_
    exact W.iret (v := (-1)) hx hb hr (fun t ht hW => ⟨_, rfl, rfl, ht⟩) (fun _ h => by cases h) d_Mod_pack_29
  · skip
    refine lv_iload_n hx hb d_Mod_pack_15 rfl (lv_at hl 2 rfl) ?_
    refine lv_iconst (v := (-1)) hx hb d_Mod_pack_16 (by decide) ?_
    refine lv_icmp_ne (tgt := 30) hx hb d_Mod_pack_17 (by decide) (fun c_2 => ?_) (fun c_2 => ?_)
    · skip
      first | exact absurd h (by assumption) | (rcases h with h | ⟨h, h3⟩ <;> contradiction)
    · skip
      refine lv_lload_n hx hb d_Mod_pack_20 rfl (lv_at hl 0 rfl) ?_
      refine lv_ldc2 (own := "BoxGlueModel") (index := 115) (v := 1000000) hx hb hown (hts _ kw_708) d_Mod_pack_21 ?_
      refine W.lcmp hx hb d_Mod_pack_24 ?_
      refine lv_if_le (tgt := 30) hx hb d_Mod_pack_25 (by decide) (fun c_3 => ?_) (fun c_3 => ?_)
      · skip
        first | exact absurd h (by assumption) | (rcases h with h | ⟨h, h3⟩ <;> contradiction)
      · skip
        refine lv_iconst (v := (-1)) hx hb d_Mod_pack_28 (by decide) ?_
        exact W.iret (v := (-1)) hx hb hr (fun t ht hW => ⟨_, rfl, rfl, ht⟩) (fun _ h => by cases h) d_Mod_pack_29
set_option maxHeartbeats 4000000 in
set_option maxRecDepth 100000 in
theorem c_Mod_pack_full (l : Launch) (g : KGt) (H0 : Heap) (m0 : Nat) (ad : Nat → Nat) (sz us bx : Nat) (F : Nat → Nat → Int32) (G : Nat → Nat → Int64) (hM : kMod g m0 ad sz us bx F G H0) (p0 : Int32) (hs40 : sz ≤ 40) (hb60 : bx ≤ 60) (hw : ∀ i, i < sz → mW F bx i) (h1 : ¬ f_Mod_isIn p0 (-1) 1000000 = 0) (h2 : p0 = (-1) → (lg_cmp (md_nat F sz) 1000000) ≤ 0) (hus : us ≤ 300) (h : bx = 60 ∨ 300 < us + sz) : Met l y_Mod_pack (kW y_Mod_pack b_Mod_pack 22 (.some .int)) ({ frames := 2, cells := 0, slots := 0, locals := 44 }) (kPc [.ref m0, .int p0] (KK g) H0) (kQc (kPure (.int (-2)) H0)) 0 0 (fun _ => False) := by
  refine Met.ofW (cc := b_Mod_pack) (maxL := 22) (ret := (.some .int)) (by decide) rfl ?_
  intro p e s m args below meth c s₁ B hml hv
  obtain ⟨rfl, hH, hKK⟩ := hv
  have hx := B.exec
  have hb := B.bytes
  have hr := B.returns
  have hts := kW_ts (atoms_spec (ws := kW y_Mod_pack b_Mod_pack 22 (.some .int)) B.pre)
  have hown : s.vm.findClass "BoxGlueModel" = some m.cls := findClass_of_methodNamed B.named
  have hlocks := B.notSynchronized
  have hK := hKK.1
  subst hH
  have hl := lv_entry ([.ref m0, .int p0]) (n := 22) (Nat.le_of_ble_eq_true rfl)
  rw [lg_entry_eq]
  generalize (lg_sl ([.ref m0, .int p0]) ++ List.replicate (22 - (lg_sl ([.ref m0, .int p0])).length) Slot.unset).toArray = ls at hl ⊢
  have hl : lv_has ls 22 [(0, .ref m0), (1, .int p0)] := hl
  refine lv_aload_n hx hb d_Mod_pack_0 rfl (lv_at hl 0 rfl) ?_
  refine k_pure (r := .long (md_nat F sz)) (W.runV (As := []) (rest := []) ⟨hx, hb, hml, hown, hts⟩ (c_Mod_natural l g s.heap m0 ad sz us bx F G hM hs40 hb60 hw) (cwV 0 hts (kV_good kw_697 kw_706 kw_695 kw_696 kw_5) rfl rfl rfl (by decide +kernel) ⟨Nat.le_of_ble_eq_true rfl, Nat.le_of_ble_eq_true rfl⟩) (k_preV (KK_st g) hKK (va_recv hK (k_one hM.1) (ci := 10) (q0 := 0) rfl rfl)) rfl rfl hl.1 rfl (lv_room (Nat.le_of_ble_eq_true rfl)) d_Mod_pack_1 ⟨Nat.zero_le _, Nat.zero_le _⟩) ?_
  refine lv_lstore_n (lv' := [(2, .long (md_nat F sz)), (0, .ref m0), (1, .int p0)]) hx hb d_Mod_pack_4 rfl hl (by decide) rfl (fun ls hl => ?_)
  refine lv_iload_n hx hb d_Mod_pack_5 rfl (lv_at hl 2 rfl) ?_
  refine lv_iconst (v := (-1)) hx hb d_Mod_pack_6 (by decide) ?_
  refine lv_ldc (own := "BoxGlueModel") (index := 114) (v := 1000000) hx hb hown (hts _ kw_707) d_Mod_pack_7 ?_
  refine k_pure (r := .int (f_Mod_isIn p0 (-1) 1000000)) (W.runS (As := [.int p0, .int (-1), .int 1000000]) (rest := []) ⟨hx, hb, hml, hown, hts⟩ (c_Mod_isIn l g s.heap p0 (-1) 1000000) (va_cwS 3 hts (kS_good kw_663 kw_661 kw_662 kw_5) rfl rfl rfl (by decide +kernel) ⟨Nat.le_of_ble_eq_true rfl, Nat.le_of_ble_eq_true rfl⟩) (k_pre (KK_st g) hKK) rfl rfl hl.1 rfl (lv_room (Nat.le_of_ble_eq_true rfl)) d_Mod_pack_9 ⟨Nat.zero_le _, Nat.zero_le _⟩) ?_
  refine lv_if_eq (tgt := 28) hx hb d_Mod_pack_12 (by decide) (fun c_1 => ?_) (fun c_1 => ?_)
  · exact absurd c_1 h1
  refine lv_iload_n hx hb d_Mod_pack_15 rfl (lv_at hl 2 rfl) ?_
  refine lv_iconst (v := (-1)) hx hb d_Mod_pack_16 (by decide) ?_
  refine lv_icmp_ne (tgt := 30) hx hb d_Mod_pack_17 (by decide) (fun c_2 => ?_) (fun c_2 => ?_)
  · skip
    refine lv_aload_n hx hb d_Mod_pack_30 rfl (lv_at hl 1 rfl) ?_
    refine va_get (D := g.1) (ci := 10) (v := .int (nI bx)) (C := "BoxGlueModel") (T := kT_Mod) (N := 24) hx hb hts ki_Mod hown hK (k_one hM.1) 0 rfl rfl 14 (by decide) (hts _ kw_595) (fun _ h9 => h9) rfl d_Mod_pack_31 ?_
    refine lv_bipush (v := 60) hx hb d_Mod_pack_34 (by decide) ?_
    refine lv_icmp_eq (tgt := 54) hx hb d_Mod_pack_36 (by decide) (fun c_3 => ?_) (fun c_3 => ?_)
    · skip
      refine lv_bipush (v := (-2)) hx hb d_Mod_pack_54 (by decide) ?_
      exact W.iret (v := (-2)) hx hb hr (fun t ht hW => ⟨_, rfl, rfl, ht⟩) (fun _ h => by cases h) d_Mod_pack_56
    · skip
      have h : 300 < us + sz := h.elim (fun h => absurd (by rw [h]; rfl) c_3) id
      refine lv_aload_n hx hb d_Mod_pack_39 rfl (lv_at hl 1 rfl) ?_
      refine va_get (D := g.1) (ci := 10) (v := .int (nI us)) (C := "BoxGlueModel") (T := kT_Mod) (N := 24) hx hb hts ki_Mod hown hK (k_one hM.1) 0 rfl rfl 13 (by decide) (hts _ kw_594) (fun _ h9 => h9) rfl d_Mod_pack_40 ?_
      refine lv_aload_n hx hb d_Mod_pack_43 rfl (lv_at hl 1 rfl) ?_
      refine va_get (D := g.1) (ci := 10) (v := .int (nI sz)) (C := "BoxGlueModel") (T := kT_Mod) (N := 24) hx hb hts ki_Mod hown hK (k_one hM.1) 0 rfl rfl 12 (by decide) (hts _ kw_593) (fun _ h9 => h9) rfl d_Mod_pack_44 ?_
      refine lv_iadd hx hb d_Mod_pack_47 ?_
      rw [nI_add]
      refine lv_sipush (v := 300) hx hb d_Mod_pack_48 (by decide) ?_
      refine lv_icmp_le (tgt := 57) hx hb d_Mod_pack_51 (by decide) (fun c_4 => ?_) (fun c_4 => ?_)
      · exact absurd c_4 (by rw [show (300 : Int32) = nI 300 from rfl]; exact nI_ge h (by omega))
      refine lv_bipush (v := (-2)) hx hb d_Mod_pack_54 (by decide) ?_
      exact W.iret (v := (-2)) hx hb hr (fun t ht hW => ⟨_, rfl, rfl, ht⟩) (fun _ h => by cases h) d_Mod_pack_56
  · skip
    refine lv_lload_n hx hb d_Mod_pack_20 rfl (lv_at hl 0 rfl) ?_
    refine lv_ldc2 (own := "BoxGlueModel") (index := 115) (v := 1000000) hx hb hown (hts _ kw_708) d_Mod_pack_21 ?_
    refine W.lcmp hx hb d_Mod_pack_24 ?_
    refine lv_if_le (tgt := 30) hx hb d_Mod_pack_25 (by decide) (fun c_5 => ?_) (fun c_5 => ?_)
    rotate_left
    · exact absurd c_5 (fun q => q (h2 c_2))
    refine lv_aload_n hx hb d_Mod_pack_30 rfl (lv_at hl 1 rfl) ?_
    refine va_get (D := g.1) (ci := 10) (v := .int (nI bx)) (C := "BoxGlueModel") (T := kT_Mod) (N := 24) hx hb hts ki_Mod hown hK (k_one hM.1) 0 rfl rfl 14 (by decide) (hts _ kw_595) (fun _ h9 => h9) rfl d_Mod_pack_31 ?_
    refine lv_bipush (v := 60) hx hb d_Mod_pack_34 (by decide) ?_
    refine lv_icmp_eq (tgt := 54) hx hb d_Mod_pack_36 (by decide) (fun c_6 => ?_) (fun c_6 => ?_)
    · skip
      refine lv_bipush (v := (-2)) hx hb d_Mod_pack_54 (by decide) ?_
      exact W.iret (v := (-2)) hx hb hr (fun t ht hW => ⟨_, rfl, rfl, ht⟩) (fun _ h => by cases h) d_Mod_pack_56
    · skip
      have h : 300 < us + sz := h.elim (fun h => absurd (by rw [h]; rfl) c_6) id
      refine lv_aload_n hx hb d_Mod_pack_39 rfl (lv_at hl 1 rfl) ?_
      refine va_get (D := g.1) (ci := 10) (v := .int (nI us)) (C := "BoxGlueModel") (T := kT_Mod) (N := 24) hx hb hts ki_Mod hown hK (k_one hM.1) 0 rfl rfl 13 (by decide) (hts _ kw_594) (fun _ h9 => h9) rfl d_Mod_pack_40 ?_
      refine lv_aload_n hx hb d_Mod_pack_43 rfl (lv_at hl 1 rfl) ?_
      refine va_get (D := g.1) (ci := 10) (v := .int (nI sz)) (C := "BoxGlueModel") (T := kT_Mod) (N := 24) hx hb hts ki_Mod hown hK (k_one hM.1) 0 rfl rfl 12 (by decide) (hts _ kw_593) (fun _ h9 => h9) rfl d_Mod_pack_44 ?_
      refine lv_iadd hx hb d_Mod_pack_47 ?_
      rw [nI_add]
      refine lv_sipush (v := 300) hx hb d_Mod_pack_48 (by decide) ?_
      refine lv_icmp_le (tgt := 57) hx hb d_Mod_pack_51 (by decide) (fun c_7 => ?_) (fun c_7 => ?_)
      · exact absurd c_7 (by rw [show (300 : Int32) = nI 300 from rfl]; exact nI_ge h (by omega))
      refine lv_bipush (v := (-2)) hx hb d_Mod_pack_54 (by decide) ?_
      exact W.iret (v := (-2)) hx hb hr (fun t ht hW => ⟨_, rfl, rfl, ht⟩) (fun _ h => by cases h) d_Mod_pack_56
set_option maxHeartbeats 4000000 in
set_option maxRecDepth 100000 in
theorem c_Mod_pack_ok (l : Launch) (g : KGt) (H0 : Heap) (m0 : Nat) (ad : Nat → Nat) (sz us bx : Nat) (F : Nat → Nat → Int32) (G : Nat → Nat → Int64) (hM : kMod g m0 ad sz us bx F G H0) (p0 : Int32) (hs40 : sz ≤ 40) (hb60 : bx ≤ 60) (hw : ∀ i, i < sz → mW F bx i) (h1 : ¬ f_Mod_isIn p0 (-1) 1000000 = 0) (h2 : p0 = (-1) → (lg_cmp (md_nat F sz) 1000000) ≤ 0) (h60 : bx < 60) (h300 : us + sz ≤ 300) (hz : mp_call F sz p0 → ¬ ((mp_all F sz p0 * mp_all F sz p0) * mp_all F sz p0) = 0) (hall : ¬ mp_by F sz p0 < 0 → ¬ mp_all F sz p0 = 0) : Met l y_Mod_pack (kW y_Mod_pack b_Mod_pack 22 (.some .int)) ({ frames := 2, cells := 0, slots := 0, locals := 48 }) (kPc [.ref m0, .int p0] (KK g) H0) (kQc (fun v H1 => v = some (.int (nI bx)) ∧ kE (mA m0 ad) H0 H1 ∧ ∃ F1 G1, kMod g m0 ad 0 (us + sz) (bx + 1) F1 G1 H1 ∧ mp_post F G sz us bx p0 F1 G1)) 0 0 (mA m0 ad) := by
  refine Met.ofW (cc := b_Mod_pack) (maxL := 22) (ret := (.some .int)) (by decide) rfl ?_
  intro p e s m args below meth c s₁ B hml hv
  obtain ⟨rfl, hH, hKK⟩ := hv
  have hx := B.exec
  have hb := B.bytes
  have hr := B.returns
  have hts := kW_ts (atoms_spec (ws := kW y_Mod_pack b_Mod_pack 22 (.some .int)) B.pre)
  have hown : s.vm.findClass "BoxGlueModel" = some m.cls := findClass_of_methodNamed B.named
  have hlocks := B.notSynchronized
  have hK := hKK.1
  subst hH
  have hl := lv_entry ([.ref m0, .int p0]) (n := 22) (Nat.le_of_ble_eq_true rfl)
  rw [lg_entry_eq]
  generalize (lg_sl ([.ref m0, .int p0]) ++ List.replicate (22 - (lg_sl ([.ref m0, .int p0])).length) Slot.unset).toArray = ls at hl ⊢
  have hl : lv_has ls 22 [(0, .ref m0), (1, .int p0)] := hl
  refine lv_aload_n hx hb d_Mod_pack_0 rfl (lv_at hl 0 rfl) ?_
  refine k_pure (r := .long (md_nat F sz)) (W.runV (As := []) (rest := []) ⟨hx, hb, hml, hown, hts⟩ (c_Mod_natural l g s.heap m0 ad sz us bx F G hM hs40 hb60 hw) (cwV 0 hts (kV_good kw_697 kw_706 kw_695 kw_696 kw_5) rfl rfl rfl (by decide +kernel) ⟨Nat.le_of_ble_eq_true rfl, Nat.le_of_ble_eq_true rfl⟩) (k_preV (KK_st g) hKK (va_recv hK (k_one hM.1) (ci := 10) (q0 := 0) rfl rfl)) rfl rfl hl.1 rfl (lv_room (Nat.le_of_ble_eq_true rfl)) d_Mod_pack_1 ⟨Nat.zero_le _, Nat.zero_le _⟩) ?_
  refine lv_lstore_n (lv' := [(2, .long (md_nat F sz)), (0, .ref m0), (1, .int p0)]) hx hb d_Mod_pack_4 rfl hl (by decide) rfl (fun ls hl => ?_)
  refine lv_iload_n hx hb d_Mod_pack_5 rfl (lv_at hl 2 rfl) ?_
  refine lv_iconst (v := (-1)) hx hb d_Mod_pack_6 (by decide) ?_
  refine lv_ldc (own := "BoxGlueModel") (index := 114) (v := 1000000) hx hb hown (hts _ kw_707) d_Mod_pack_7 ?_
  refine k_pure (r := .int (f_Mod_isIn p0 (-1) 1000000)) (W.runS (As := [.int p0, .int (-1), .int 1000000]) (rest := []) ⟨hx, hb, hml, hown, hts⟩ (c_Mod_isIn l g s.heap p0 (-1) 1000000) (va_cwS 3 hts (kS_good kw_663 kw_661 kw_662 kw_5) rfl rfl rfl (by decide +kernel) ⟨Nat.le_of_ble_eq_true rfl, Nat.le_of_ble_eq_true rfl⟩) (k_pre (KK_st g) hKK) rfl rfl hl.1 rfl (lv_room (Nat.le_of_ble_eq_true rfl)) d_Mod_pack_9 ⟨Nat.zero_le _, Nat.zero_le _⟩) ?_
  refine lv_if_eq (tgt := 28) hx hb d_Mod_pack_12 (by decide) (fun c_1 => ?_) (fun c_1 => ?_)
  · exact absurd c_1 h1
  have tl_2 : ∀ ls : Array Slot, lv_has ls 22 [(2, .long (md_nat F sz)), (0, .ref m0), (1, .int p0)] → W p l e (headSpec (kW y_Mod_pack b_Mod_pack 22 (.some .int)) { frames := 2, cells := 0, slots := 0, locals := 48 }).room s m #[Value.ref m0, Value.int p0] below meth c s.heap [] 0 0 (MQ below (kQc (fun v H1 => v = some (.int (nI bx)) ∧ kE (mA m0 ad) s.heap H1 ∧ ∃ F1 G1, kMod g m0 ad 0 (us + sz) (bx + 1) F1 G1 H1 ∧ mp_post F G sz us bx p0 F1 G1)) #[Value.ref m0, Value.int p0] s 0 0 (mA m0 ad)) (F0 m 30 ls []) := by
    intro ls hl
    refine lv_aload_n hx hb d_Mod_pack_30 rfl (lv_at hl 1 rfl) ?_
    refine va_get (D := g.1) (ci := 10) (v := .int (nI bx)) (C := "BoxGlueModel") (T := kT_Mod) (N := 24) hx hb hts ki_Mod hown hK (k_one hM.1) 0 rfl rfl 14 (by decide) (hts _ kw_595) (fun _ h9 => h9) rfl d_Mod_pack_31 ?_
    refine lv_bipush (v := 60) hx hb d_Mod_pack_34 (by decide) ?_
    refine lv_icmp_eq (tgt := 54) hx hb d_Mod_pack_36 (by decide) (fun c_3 => ?_) (fun c_3 => ?_)
    · exact absurd c_3 (fun z => absurd ((nI_eq (by omega) (by decide)).mp (z.trans (show (60 : Int32) = nI 60 from rfl))) (by omega))
    refine lv_aload_n hx hb d_Mod_pack_39 rfl (lv_at hl 1 rfl) ?_
    refine va_get (D := g.1) (ci := 10) (v := .int (nI us)) (C := "BoxGlueModel") (T := kT_Mod) (N := 24) hx hb hts ki_Mod hown hK (k_one hM.1) 0 rfl rfl 13 (by decide) (hts _ kw_594) (fun _ h9 => h9) rfl d_Mod_pack_40 ?_
    refine lv_aload_n hx hb d_Mod_pack_43 rfl (lv_at hl 1 rfl) ?_
    refine va_get (D := g.1) (ci := 10) (v := .int (nI sz)) (C := "BoxGlueModel") (T := kT_Mod) (N := 24) hx hb hts ki_Mod hown hK (k_one hM.1) 0 rfl rfl 12 (by decide) (hts _ kw_593) (fun _ h9 => h9) rfl d_Mod_pack_44 ?_
    refine lv_iadd hx hb d_Mod_pack_47 ?_
    rw [nI_add]
    refine lv_sipush (v := 300) hx hb d_Mod_pack_48 (by decide) ?_
    refine lv_icmp_le (tgt := 57) hx hb d_Mod_pack_51 (by decide) (fun c_4 => ?_) (fun c_4 => ?_)
    rotate_left
    · exact absurd c_4 (fun q => q (by rw [show (300 : Int32) = nI 300 from rfl]; exact nI_le h300 (by decide)))
    refine lv_aload_n hx hb d_Mod_pack_57 rfl (lv_at hl 1 rfl) ?_
    refine va_get (D := g.1) (ci := 10) (v := .int (nI bx)) (C := "BoxGlueModel") (T := kT_Mod) (N := 24) hx hb hts ki_Mod hown hK (k_one hM.1) 0 rfl rfl 14 (by decide) (hts _ kw_595) (fun _ h9 => h9) rfl d_Mod_pack_58 ?_
    refine lv_istore (lv' := [(4, .int (nI bx)), (2, .long (md_nat F sz)), (0, .ref m0), (1, .int p0)]) hx hb d_Mod_pack_61 hl (by decide) rfl (fun ls hl => ?_)
    have tl_5 : ∀ ls : Array Slot, lv_has ls 22 [(4, .int (nI bx)), (2, .long (md_nat F sz)), (0, .ref m0), (1, .int p0)] → W p l e (headSpec (kW y_Mod_pack b_Mod_pack 22 (.some .int)) { frames := 2, cells := 0, slots := 0, locals := 48 }).room s m #[Value.ref m0, Value.int p0] below meth c s.heap [] 0 0 (MQ below (kQc (fun v H1 => v = some (.int (nI bx)) ∧ kE (mA m0 ad) s.heap H1 ∧ ∃ F1 G1, kMod g m0 ad 0 (us + sz) (bx + 1) F1 G1 H1 ∧ mp_post F G sz us bx p0 F1 G1)) #[Value.ref m0, Value.int p0] s 0 0 (mA m0 ad)) (F0 m 83 ls [.long (mp_l F sz p0)]) := by
      intro ls hl
      refine lv_lstore (lv' := [(5, .long (mp_l F sz p0)), (4, .int (nI bx)), (2, .long (md_nat F sz)), (0, .ref m0), (1, .int p0)]) hx hb d_Mod_pack_83 hl (by decide) rfl (fun ls hl => ?_)
      refine lv_lload hx hb d_Mod_pack_85 (lv_at hl 0 rfl) ?_
      refine lv_lload_n hx hb d_Mod_pack_87 rfl (lv_at hl 2 rfl) ?_
      refine lv_lsub hx hb d_Mod_pack_88 ?_
      refine W.eq (g2 := F0 m 89 ls [.long (mp_x F sz p0)]) rfl ?_
      refine lv_lstore (lv' := [(7, .long (mp_x F sz p0)), (5, .long (mp_l F sz p0)), (4, .int (nI bx)), (2, .long (md_nat F sz)), (0, .ref m0), (1, .int p0)]) hx hb d_Mod_pack_89 hl (by decide) rfl (fun ls hl => ?_)
      have tl_6 : ∀ ls : Array Slot, lv_has ls 22 [(7, .long (mp_x F sz p0)), (5, .long (mp_l F sz p0)), (4, .int (nI bx)), (2, .long (md_nat F sz)), (0, .ref m0), (1, .int p0)] → W p l e (headSpec (kW y_Mod_pack b_Mod_pack 22 (.some .int)) { frames := 2, cells := 0, slots := 0, locals := 48 }).room s m #[Value.ref m0, Value.int p0] below meth c s.heap [] 0 0 (MQ below (kQc (fun v H1 => v = some (.int (nI bx)) ∧ kE (mA m0 ad) s.heap H1 ∧ ∃ F1 G1, kMod g m0 ad 0 (us + sz) (bx + 1) F1 G1 H1 ∧ mp_post F G sz us bx p0 F1 G1)) #[Value.ref m0, Value.int p0] s 0 0 (mA m0 ad)) (F0 m 103 ls [.int (mp_up F sz p0)]) := by
        intro ls hl
        refine lv_istore (lv' := [(9, .int (mp_up F sz p0)), (7, .long (mp_x F sz p0)), (5, .long (mp_l F sz p0)), (4, .int (nI bx)), (2, .long (md_nat F sz)), (0, .ref m0), (1, .int p0)]) hx hb d_Mod_pack_103 hl (by decide) rfl (fun ls hl => ?_)
        have tl_7 : ∀ ls : Array Slot, lv_has ls 22 [(9, .int (mp_up F sz p0)), (7, .long (mp_x F sz p0)), (5, .long (mp_l F sz p0)), (4, .int (nI bx)), (2, .long (md_nat F sz)), (0, .ref m0), (1, .int p0)] → W p l e (headSpec (kW y_Mod_pack b_Mod_pack 22 (.some .int)) { frames := 2, cells := 0, slots := 0, locals := 48 }).room s m #[Value.ref m0, Value.int p0] below meth c s.heap [] 0 0 (MQ below (kQc (fun v H1 => v = some (.int (nI bx)) ∧ kE (mA m0 ad) s.heap H1 ∧ ∃ F1 G1, kMod g m0 ad 0 (us + sz) (bx + 1) F1 G1 H1 ∧ mp_post F G sz us bx p0 F1 G1)) #[Value.ref m0, Value.int p0] s 0 0 (mA m0 ad)) (F0 m 118 ls [.long (mp_sh F sz p0)]) := by
          intro ls hl
          refine lv_lstore (lv' := [(10, .long (mp_sh F sz p0)), (9, .int (mp_up F sz p0)), (7, .long (mp_x F sz p0)), (5, .long (mp_l F sz p0)), (4, .int (nI bx)), (2, .long (md_nat F sz)), (0, .ref m0), (1, .int p0)]) hx hb d_Mod_pack_118 hl (by decide) rfl (fun ls hl => ?_)
          have tl_8 : ∀ ls : Array Slot, lv_has ls 22 [(10, .long (mp_sh F sz p0)), (9, .int (mp_up F sz p0)), (7, .long (mp_x F sz p0)), (5, .long (mp_l F sz p0)), (4, .int (nI bx)), (2, .long (md_nat F sz)), (0, .ref m0), (1, .int p0)] → W p l e (headSpec (kW y_Mod_pack b_Mod_pack 22 (.some .int)) { frames := 2, cells := 0, slots := 0, locals := 48 }).room s m #[Value.ref m0, Value.int p0] below meth c s.heap [] 0 0 (MQ below (kQc (fun v H1 => v = some (.int (nI bx)) ∧ kE (mA m0 ad) s.heap H1 ∧ ∃ F1 G1, kMod g m0 ad 0 (us + sz) (bx + 1) F1 G1 H1 ∧ mp_post F G sz us bx p0 F1 G1)) #[Value.ref m0, Value.int p0] s 0 0 (mA m0 ad)) (F0 m 137 ls [.int (mp_by F sz p0)]) := by
            intro ls hl
            refine lv_istore (lv' := [(12, .int (mp_by F sz p0)), (10, .long (mp_sh F sz p0)), (9, .int (mp_up F sz p0)), (7, .long (mp_x F sz p0)), (5, .long (mp_l F sz p0)), (4, .int (nI bx)), (2, .long (md_nat F sz)), (0, .ref m0), (1, .int p0)]) hx hb d_Mod_pack_137 hl (by decide) rfl (fun ls hl => ?_)
            have tl_9 : ∀ ls : Array Slot, lv_has ls 22 [(12, .int (mp_by F sz p0)), (10, .long (mp_sh F sz p0)), (9, .int (mp_up F sz p0)), (7, .long (mp_x F sz p0)), (5, .long (mp_l F sz p0)), (4, .int (nI bx)), (2, .long (md_nat F sz)), (0, .ref m0), (1, .int p0)] → W p l e (headSpec (kW y_Mod_pack b_Mod_pack 22 (.some .int)) { frames := 2, cells := 0, slots := 0, locals := 48 }).room s m #[Value.ref m0, Value.int p0] below meth c s.heap [] 0 0 (MQ below (kQc (fun v H1 => v = some (.int (nI bx)) ∧ kE (mA m0 ad) s.heap H1 ∧ ∃ F1 G1, kMod g m0 ad 0 (us + sz) (bx + 1) F1 G1 H1 ∧ mp_post F G sz us bx p0 F1 G1)) #[Value.ref m0, Value.int p0] s 0 0 (mA m0 ad)) (F0 m 160 ls [.long (mp_all F sz p0)]) := by
              intro ls hl
              refine lv_lstore (lv' := [(13, .long (mp_all F sz p0)), (12, .int (mp_by F sz p0)), (10, .long (mp_sh F sz p0)), (9, .int (mp_up F sz p0)), (7, .long (mp_x F sz p0)), (5, .long (mp_l F sz p0)), (4, .int (nI bx)), (2, .long (md_nat F sz)), (0, .ref m0), (1, .int p0)]) hx hb d_Mod_pack_160 hl (by decide) rfl (fun ls hl => ?_)
              refine lv_aload_n hx hb d_Mod_pack_162 rfl (lv_at hl 8 rfl) ?_
              refine va_get (D := g.1) (ci := 10) (v := .ref (ad 21)) (C := "BoxGlueModel") (T := kT_Mod) (N := 24) hx hb hts ki_Mod hown hK (k_one hM.1) 0 rfl rfl 21 (by decide) (hts _ kw_602) (fun _ h9 => h9) rfl d_Mod_pack_163 ?_
              refine lv_iload hx hb d_Mod_pack_166 (lv_at hl 6 rfl) ?_
              refine lv_iconst (v := 0) hx hb d_Mod_pack_168 (by decide) ?_
              refine m_iast hx hb hK hM (fun _ h => by cases h) 21 bx (Or.inr ⟨by decide, by decide⟩) (show bx < 60 by omega) d_Mod_pack_169 (fun H locs hM hE1 hL => ?_)
              have hE : kE (mA m0 ad) s.heap H := hE1
              refine lv_aload_n hx hb d_Mod_pack_170 rfl (lv_at hl 8 rfl) ?_
              refine va_get (D := g.1) (ci := 10) (v := .ref (ad 20)) (C := "BoxGlueModel") (T := kT_Mod) (N := 24) hx hb hts ki_Mod hown hK (k_one hM.1) 0 rfl rfl 20 (by decide) (hts _ kw_601) (fun _ h9 => h9) rfl d_Mod_pack_171 ?_
              refine lv_iload hx hb d_Mod_pack_174 (lv_at hl 6 rfl) ?_
              have tl_10 : ∀ ls : Array Slot, lv_has ls 22 [(13, .long (mp_all F sz p0)), (12, .int (mp_by F sz p0)), (10, .long (mp_sh F sz p0)), (9, .int (mp_up F sz p0)), (7, .long (mp_x F sz p0)), (5, .long (mp_l F sz p0)), (4, .int (nI bx)), (2, .long (md_nat F sz)), (0, .ref m0), (1, .int p0)] → W p l e (headSpec (kW y_Mod_pack b_Mod_pack 22 (.some .int)) { frames := 2, cells := 0, slots := 0, locals := 48 }).room s m #[Value.ref m0, Value.int p0] below meth c H locs 0 0 (MQ below (kQc (fun v H1 => v = some (.int (nI bx)) ∧ kE (mA m0 ad) s.heap H1 ∧ ∃ F1 G1, kMod g m0 ad 0 (us + sz) (bx + 1) F1 G1 H1 ∧ mp_post F G sz us bx p0 F1 G1)) #[Value.ref m0, Value.int p0] s 0 0 (mA m0 ad)) (F0 m 233 ls [.int (mp_bad F sz p0), .int (nI bx), .ref (ad 20)]) := by
                intro ls hl
                refine m_iast hx hb hK hM hL 20 bx (Or.inr ⟨by decide, by decide⟩) (show bx < 60 by omega) d_Mod_pack_233 (fun H locs hM hE1 hL => ?_)
                have hE : kE (mA m0 ad) s.heap H := hE.tr hE1 (fun _ _ h => h)
                have tl_11 : ∀ (F1 : Nat → Nat → Int32) (H : Heap) (locs : List Loc) (ls : Array Slot), mp_ag F F1 bx → F1 20 bx = (mp_bad F sz p0) → F1 21 bx = (mp_over F sz p0) → kMod g m0 ad sz us bx F1 G H → kE (mA m0 ad) s.heap H → (∀ q ∈ locs, mA m0 ad q.base) → lv_has ls 22 [(13, .long (mp_all F sz p0)), (12, .int (mp_by F sz p0)), (10, .long (mp_sh2 F sz p0)), (9, .int (mp_up F sz p0)), (7, .long (mp_x F sz p0)), (5, .long (mp_l F sz p0)), (4, .int (nI bx)), (2, .long (md_nat F sz)), (1, .int p0), (0, .ref m0)] → W p l e (headSpec (kW y_Mod_pack b_Mod_pack 22 (.some .int)) { frames := 2, cells := 0, slots := 0, locals := 48 }).room s m #[Value.ref m0, Value.int p0] below meth c H locs 0 0 (MQ below (kQc (fun v H1 => v = some (.int (nI bx)) ∧ kE (mA m0 ad) s.heap H1 ∧ ∃ F1 G1, kMod g m0 ad 0 (us + sz) (bx + 1) F1 G1 H1 ∧ mp_post F G sz us bx p0 F1 G1)) #[Value.ref m0, Value.int p0] s 0 0 (mA m0 ad)) (F0 m 263 ls []) := by
                  intro F1 H locs ls hAg h20 h21 hM hE hL hl
                  refine lv_lconst (v := 0) hx hb d_Mod_pack_263 (by decide) ?_
                  refine lv_lstore (lv' := [(15, .long 0), (13, .long (mp_all F sz p0)), (12, .int (mp_by F sz p0)), (10, .long (mp_sh2 F sz p0)), (9, .int (mp_up F sz p0)), (7, .long (mp_x F sz p0)), (5, .long (mp_l F sz p0)), (4, .int (nI bx)), (2, .long (md_nat F sz)), (1, .int p0), (0, .ref m0)]) hx hb d_Mod_pack_264 hl (by decide) rfl (fun ls hl => ?_)
                  refine lv_aload_n hx hb d_Mod_pack_266 rfl (lv_at hl 10 rfl) ?_
                  refine va_get (D := g.1) (ci := 10) (v := .ref (ad 16)) (C := "BoxGlueModel") (T := kT_Mod) (N := 24) hx hb hts ki_Mod hown hK (k_one hM.1) 0 rfl rfl 16 (by decide) (hts _ kw_597) (fun _ h9 => h9) rfl d_Mod_pack_267 ?_
                  refine lv_iload hx hb d_Mod_pack_270 (lv_at hl 7 rfl) ?_
                  refine lv_iconst (v := 0) hx hb d_Mod_pack_272 (by decide) ?_
                  refine m_iast hx hb hK hM hL 16 bx (Or.inr ⟨by decide, by decide⟩) (show bx < 60 by omega) d_Mod_pack_273 (fun H locs hM hE1 hL => ?_)
                  have hE : kE (mA m0 ad) s.heap H := hE.tr hE1 (fun _ _ h => h)
                  refine lv_aload_n hx hb d_Mod_pack_274 rfl (lv_at hl 10 rfl) ?_
                  refine va_get (D := g.1) (ci := 10) (v := .ref (ad 17)) (C := "BoxGlueModel") (T := kT_Mod) (N := 24) hx hb hts ki_Mod hown hK (k_one hM.1) 0 rfl rfl 17 (by decide) (hts _ kw_598) (fun _ h9 => h9) rfl d_Mod_pack_275 ?_
                  refine lv_iload hx hb d_Mod_pack_278 (lv_at hl 7 rfl) ?_
                  refine lv_iconst (v := 0) hx hb d_Mod_pack_280 (by decide) ?_
                  refine m_iast hx hb hK hM hL 17 bx (Or.inr ⟨by decide, by decide⟩) (show bx < 60 by omega) d_Mod_pack_281 (fun H locs hM hE1 hL => ?_)
                  have hE : kE (mA m0 ad) s.heap H := hE.tr hE1 (fun _ _ h => h)
                  refine lv_iconst (v := 0) hx hb d_Mod_pack_282 (by decide) ?_
                  refine lv_istore (lv' := [(17, .int 0), (15, .long 0), (13, .long (mp_all F sz p0)), (12, .int (mp_by F sz p0)), (10, .long (mp_sh2 F sz p0)), (9, .int (mp_up F sz p0)), (7, .long (mp_x F sz p0)), (5, .long (mp_l F sz p0)), (4, .int (nI bx)), (2, .long (md_nat F sz)), (1, .int p0), (0, .ref m0)]) hx hb d_Mod_pack_283 hl (by decide) rfl (fun ls hl => ?_)
                  have key : ∀ (j i : Nat) (F1 : Nat → Nat → Int32) (G1 : Nat → Nat → Int64) (H : Heap) (locs : List Loc) (ls : Array Slot), i + j = sz → mp_ag F F1 bx → F1 20 bx = (mp_bad F sz p0) → F1 21 bx = (mp_over F sz p0) → F1 16 bx = mp_H F i → F1 17 bx = mp_D F i → mp_gg F G sz p0 i G1 → kMod g m0 ad sz us bx F1 G1 H → kE (mA m0 ad) s.heap H → (∀ q ∈ locs, mA m0 ad q.base) → lv_has ls 22 [(17, .int (nI i)), (15, .long (mp_at F sz p0 i)), (13, .long (mp_all F sz p0)), (12, .int (mp_by F sz p0)), (10, .long (mp_sh2 F sz p0)), (9, .int (mp_up F sz p0)), (7, .long (mp_x F sz p0)), (5, .long (mp_l F sz p0)), (4, .int (nI bx)), (2, .long (md_nat F sz)), (1, .int p0), (0, .ref m0)] → W p l e (headSpec (kW y_Mod_pack b_Mod_pack 22 (.some .int)) { frames := 2, cells := 0, slots := 0, locals := 48 }).room s m #[Value.ref m0, Value.int p0] below meth c H locs 0 0 (MQ below (kQc (fun v H1 => v = some (.int (nI bx)) ∧ kE (mA m0 ad) s.heap H1 ∧ ∃ F1 G1, kMod g m0 ad 0 (us + sz) (bx + 1) F1 G1 H1 ∧ mp_post F G sz us bx p0 F1 G1)) #[Value.ref m0, Value.int p0] s 0 0 (mA m0 ad)) (F0 m 285 ls []) := by
                    intro j
                    induction j with
                    | zero =>
                      intro i F1 G1 H locs ls hij hAg h20 h21 h16 h17 hG hM hE hL hl
                      refine lv_iload hx hb d_Mod_pack_285 (lv_at hl 0 rfl) ?_
                      refine lv_aload_n hx hb d_Mod_pack_287 rfl (lv_at hl 11 rfl) ?_
                      refine va_get (D := g.1) (ci := 10) (v := .int (nI sz)) (C := "BoxGlueModel") (T := kT_Mod) (N := 24) hx hb hts ki_Mod hown hK (k_one hM.1) 0 rfl rfl 12 (by decide) (hts _ kw_593) (fun _ h9 => h9) rfl d_Mod_pack_288 ?_
                      refine lv_icmp_ge (tgt := 514) hx hb d_Mod_pack_291 (by decide) (fun c_12 => ?_) (fun c_12 => ?_)
                      rotate_left
                      · exact absurd c_12 (fun q => q (by rw [show i = sz by omega]; exact Int32.le_refl _))
                      refine lv_aload_n hx hb d_Mod_pack_514 rfl (lv_at hl 11 rfl) ?_
                      refine va_get (D := g.1) (ci := 10) (v := .ref (ad 15)) (C := "BoxGlueModel") (T := kT_Mod) (N := 24) hx hb hts ki_Mod hown hK (k_one hM.1) 0 rfl rfl 15 (by decide) (hts _ kw_596) (fun _ h9 => h9) rfl d_Mod_pack_515 ?_
                      refine lv_iload hx hb d_Mod_pack_518 (lv_at hl 8 rfl) ?_
                      refine lv_lload hx hb d_Mod_pack_520 (lv_at hl 7 rfl) ?_
                      refine lv_l2i hx hb d_Mod_pack_522 rfl ?_
                      refine m_iast hx hb hK hM hL 15 bx (Or.inr ⟨by decide, by decide⟩) (show bx < 60 by omega) d_Mod_pack_523 (fun H locs hM hE1 hL => ?_)
                      have hE : kE (mA m0 ad) s.heap H := hE.tr hE1 (fun _ _ h => h)
                      refine lv_aload_n hx hb d_Mod_pack_524 rfl (lv_at hl 11 rfl) ?_
                      refine va_get (D := g.1) (ci := 10) (v := .ref (ad 22)) (C := "BoxGlueModel") (T := kT_Mod) (N := 24) hx hb hts ki_Mod hown hK (k_one hM.1) 0 rfl rfl 22 (by decide) (hts _ kw_603) (fun _ h9 => h9) rfl d_Mod_pack_525 ?_
                      refine lv_iload hx hb d_Mod_pack_528 (lv_at hl 8 rfl) ?_
                      refine lv_iload hx hb d_Mod_pack_530 (lv_at hl 3 rfl) ?_
                      refine m_iast hx hb hK hM hL 22 bx (Or.inr ⟨by decide, by decide⟩) (show bx < 60 by omega) d_Mod_pack_532 (fun H locs hM hE1 hL => ?_)
                      have hE : kE (mA m0 ad) s.heap H := hE.tr hE1 (fun _ _ h => h)
                      refine lv_aload_n hx hb d_Mod_pack_533 rfl (lv_at hl 11 rfl) ?_
                      refine va_get (D := g.1) (ci := 10) (v := .ref (ad 23)) (C := "BoxGlueModel") (T := kT_Mod) (N := 24) hx hb hts ki_Mod hown hK (k_one hM.1) 0 rfl rfl 23 (by decide) (hts _ kw_604) (fun _ h9 => h9) rfl d_Mod_pack_534 ?_
                      refine lv_iload hx hb d_Mod_pack_537 (lv_at hl 8 rfl) ?_
                      refine lv_lload_n hx hb d_Mod_pack_539 rfl (lv_at hl 9 rfl) ?_
                      refine lv_l2i hx hb d_Mod_pack_540 rfl ?_
                      refine m_iast hx hb hK hM hL 23 bx (Or.inr ⟨by decide, by decide⟩) (show bx < 60 by omega) d_Mod_pack_541 (fun H locs hM hE1 hL => ?_)
                      have hE : kE (mA m0 ad) s.heap H := hE.tr hE1 (fun _ _ h => h)
                      refine lv_aload_n hx hb d_Mod_pack_542 rfl (lv_at hl 11 rfl) ?_
                      refine va_get (D := g.1) (ci := 10) (v := .ref (ad 18)) (C := "BoxGlueModel") (T := kT_Mod) (N := 24) hx hb hts ki_Mod hown hK (k_one hM.1) 0 rfl rfl 18 (by decide) (hts _ kw_599) (fun _ h9 => h9) rfl d_Mod_pack_543 ?_
                      refine lv_iload hx hb d_Mod_pack_546 (lv_at hl 8 rfl) ?_
                      refine lv_bipush (v := 40) hx hb d_Mod_pack_548 (by decide) ?_
                      refine lv_aload_n hx hb d_Mod_pack_550 rfl (lv_at hl 11 rfl) ?_
                      refine va_get (D := g.1) (ci := 10) (v := .int (nI us)) (C := "BoxGlueModel") (T := kT_Mod) (N := 24) hx hb hts ki_Mod hown hK (k_one hM.1) 0 rfl rfl 13 (by decide) (hts _ kw_594) (fun _ h9 => h9) rfl d_Mod_pack_551 ?_
                      refine lv_iadd hx hb d_Mod_pack_554 ?_
                      rw [show (40 : Int32) = nI 40 from rfl, nI_add]
                      refine m_iast hx hb hK hM hL 18 bx (Or.inr ⟨by decide, by decide⟩) (show bx < 60 by omega) d_Mod_pack_555 (fun H locs hM hE1 hL => ?_)
                      have hE : kE (mA m0 ad) s.heap H := hE.tr hE1 (fun _ _ h => h)
                      refine lv_aload_n hx hb d_Mod_pack_556 rfl (lv_at hl 11 rfl) ?_
                      refine va_get (D := g.1) (ci := 10) (v := .ref (ad 19)) (C := "BoxGlueModel") (T := kT_Mod) (N := 24) hx hb hts ki_Mod hown hK (k_one hM.1) 0 rfl rfl 19 (by decide) (hts _ kw_600) (fun _ h9 => h9) rfl d_Mod_pack_557 ?_
                      refine lv_iload hx hb d_Mod_pack_560 (lv_at hl 8 rfl) ?_
                      refine lv_aload_n hx hb d_Mod_pack_562 rfl (lv_at hl 11 rfl) ?_
                      refine va_get (D := g.1) (ci := 10) (v := .int (nI sz)) (C := "BoxGlueModel") (T := kT_Mod) (N := 24) hx hb hts ki_Mod hown hK (k_one hM.1) 0 rfl rfl 12 (by decide) (hts _ kw_593) (fun _ h9 => h9) rfl d_Mod_pack_563 ?_
                      refine m_iast hx hb hK hM hL 19 bx (Or.inr ⟨by decide, by decide⟩) (show bx < 60 by omega) d_Mod_pack_566 (fun H locs hM hE1 hL => ?_)
                      have hE : kE (mA m0 ad) s.heap H := hE.tr hE1 (fun _ _ h => h)
                      refine lv_iconst (v := 0) hx hb d_Mod_pack_567 (by decide) ?_
                      refine lv_istore (lv' := [(17, .int 0), (15, .long (mp_at F sz p0 i)), (13, .long (mp_all F sz p0)), (12, .int (mp_by F sz p0)), (10, .long (mp_sh2 F sz p0)), (9, .int (mp_up F sz p0)), (7, .long (mp_x F sz p0)), (5, .long (mp_l F sz p0)), (4, .int (nI bx)), (2, .long (md_nat F sz)), (1, .int p0), (0, .ref m0)]) hx hb d_Mod_pack_568 hl (by decide) rfl (fun ls hl => ?_)
                      have ein : i = sz := by omega
                      obtain ⟨F5, hF5⟩ : ∃ F5, F5 = mF (mF (mF (mF (mF F1 15 bx (((mp_l F sz p0)).toInt32)) 22 bx (mp_by F sz p0)) 23 bx (((md_nat F sz)).toInt32)) 18 bx (nI (40 + us))) 19 bx (nI sz) := ⟨_, rfl⟩
                      rw [← hF5] at hM
                      rw [ein] at h16 h17 hG
                      have p5 : ∀ k a, k < 10 → F5 k a = F k a := fun k a hk => by rw [hF5, mF_row (by omega), mF_row (by omega), mF_row (by omega), mF_row (by omega), mF_row (by omega)]; exact hAg.row (by omega)
                      have p6 : ∀ k a, a ≠ bx → F5 k a = F k a := fun k a hk => by rw [hF5, mF_ne hk, mF_ne hk, mF_ne hk, mF_ne hk, mF_ne hk]; exact hAg k a (Or.inr hk)
                      have e15 : F5 15 bx = ((mp_l F sz p0)).toInt32 := by rw [hF5, mF_row (by decide), mF_row (by decide), mF_row (by decide), mF_row (by decide), mF_self]
                      have e22 : F5 22 bx = (mp_by F sz p0) := by rw [hF5, mF_row (by decide), mF_row (by decide), mF_row (by decide), mF_self]
                      have e23 : F5 23 bx = ((md_nat F sz)).toInt32 := by rw [hF5, mF_row (by decide), mF_row (by decide), mF_self]
                      have e18 : F5 18 bx = nI (40 + us) := by rw [hF5, mF_row (by decide), mF_self]
                      have e19 : F5 19 bx = nI sz := by rw [hF5, mF_self]
                      have e16 : F5 16 bx = mp_H F sz := by rw [hF5, mF_row (by decide), mF_row (by decide), mF_row (by decide), mF_row (by decide), mF_row (by decide)]; exact h16
                      have e17 : F5 17 bx = mp_D F sz := by rw [hF5, mF_row (by decide), mF_row (by decide), mF_row (by decide), mF_row (by decide), mF_row (by decide)]; exact h17
                      have e20 : F5 20 bx = (mp_bad F sz p0) := by rw [hF5, mF_row (by decide), mF_row (by decide), mF_row (by decide), mF_row (by decide), mF_row (by decide)]; exact h20
                      have e21 : F5 21 bx = (mp_over F sz p0) := by rw [hF5, mF_row (by decide), mF_row (by decide), mF_row (by decide), mF_row (by decide), mF_row (by decide)]; exact h21
                      have key2 : ∀ (j i : Nat) (H : Heap) (locs : List Loc) (ls : Array Slot), i + j = sz → kMod g m0 ad sz us bx (mo_cps F5 0 (40 + us) i) (mg_cps G1 0 (40 + us) i) H → kE (mA m0 ad) s.heap H → (∀ q ∈ locs, mA m0 ad q.base) → lv_has ls 22 [(17, .int (nI i)), (4, .int (nI bx)), (0, .ref m0)] → W p l e (headSpec (kW y_Mod_pack b_Mod_pack 22 (.some .int)) { frames := 2, cells := 0, slots := 0, locals := 48 }).room s m #[Value.ref m0, Value.int p0] below meth c H locs 0 0 (MQ below (kQc (fun v H1 => v = some (.int (nI bx)) ∧ kE (mA m0 ad) s.heap H1 ∧ ∃ F1 G1, kMod g m0 ad 0 (us + sz) (bx + 1) F1 G1 H1 ∧ mp_post F G sz us bx p0 F1 G1)) #[Value.ref m0, Value.int p0] s 0 0 (mA m0 ad)) (F0 m 570 ls []) := by
                        clear hij ein h16 h17 h20 h21 hAg hF5 hM hE hL
                        intro j
                        induction j with
                        | zero =>
                          intro i H locs ls hij hM hE hL hl
                          refine lv_iload hx hb d_Mod_pack_570 (lv_at hl 0 rfl) ?_
                          refine lv_aload_n hx hb d_Mod_pack_572 rfl (lv_at hl 2 rfl) ?_
                          refine va_get (D := g.1) (ci := 10) (v := .int (nI sz)) (C := "BoxGlueModel") (T := kT_Mod) (N := 24) hx hb hts ki_Mod hown hK (k_one hM.1) 0 rfl rfl 12 (by decide) (hts _ kw_593) (fun _ h9 => h9) rfl d_Mod_pack_573 ?_
                          refine lv_icmp_ge (tgt := 601) hx hb d_Mod_pack_576 (by decide) (fun c_13 => ?_) (fun c_13 => ?_)
                          rotate_left
                          · exact absurd c_13 (fun q => q (by rw [show i = sz by omega]; exact Int32.le_refl _))
                          refine lv_aload_n hx hb d_Mod_pack_601 rfl (lv_at hl 2 rfl) ?_
                          refine lv_dup hx hb d_Mod_pack_602 rfl ?_
                          refine va_get (D := g.1) (ci := 10) (v := .int (nI us)) (C := "BoxGlueModel") (T := kT_Mod) (N := 24) hx hb hts ki_Mod hown hK (k_one hM.1) 0 rfl rfl 13 (by decide) (hts _ kw_594) (fun _ h9 => h9) rfl d_Mod_pack_603 ?_
                          refine lv_aload_n hx hb d_Mod_pack_606 rfl (lv_at hl 2 rfl) ?_
                          refine va_get (D := g.1) (ci := 10) (v := .int (nI sz)) (C := "BoxGlueModel") (T := kT_Mod) (N := 24) hx hb hts ki_Mod hown hK (k_one hM.1) 0 rfl rfl 12 (by decide) (hts _ kw_593) (fun _ h9 => h9) rfl d_Mod_pack_607 ?_
                          refine lv_iadd hx hb d_Mod_pack_610 ?_
                          rw [nI_add]
                          refine m_pus (us2 := us + sz) hx hb hts hown hK hM hL (hts _ kw_594) d_Mod_pack_611 (fun H locs hM hE1 hL => ?_)
                          have hE : kE (mA m0 ad) s.heap H := hE.tr hE1 (fun _ _ h => h)
                          refine lv_aload_n hx hb d_Mod_pack_614 rfl (lv_at hl 2 rfl) ?_
                          refine lv_iconst (v := 0) hx hb d_Mod_pack_615 (by decide) ?_
                          refine W.eq (g2 := F0 m 616 ls [.int (nI 0), .ref m0]) rfl ?_
                          refine m_psz (sz2 := 0) hx hb hts hown hK hM hL (hts _ kw_593) d_Mod_pack_616 (fun H locs hM hE1 hL => ?_)
                          have hE : kE (mA m0 ad) s.heap H := hE.tr hE1 (fun _ _ h => h)
                          refine lv_aload_n hx hb d_Mod_pack_619 rfl (lv_at hl 2 rfl) ?_
                          refine lv_dup hx hb d_Mod_pack_620 rfl ?_
                          refine va_get (D := g.1) (ci := 10) (v := .int (nI bx)) (C := "BoxGlueModel") (T := kT_Mod) (N := 24) hx hb hts ki_Mod hown hK (k_one hM.1) 0 rfl rfl 14 (by decide) (hts _ kw_595) (fun _ h9 => h9) rfl d_Mod_pack_621 ?_
                          refine lv_iconst (v := 1) hx hb d_Mod_pack_624 (by decide) ?_
                          refine lv_iadd hx hb d_Mod_pack_625 ?_
                          rw [nI_1]
                          refine m_pbx (bx2 := bx + 1) hx hb hts hown hK hM hL (hts _ kw_595) d_Mod_pack_626 (fun H locs hM hE1 hL => ?_)
                          have hE : kE (mA m0 ad) s.heap H := hE.tr hE1 (fun _ _ h => h)
                          refine lv_iload hx hb d_Mod_pack_629 (lv_at hl 1 rfl) ?_
                          have ein : i = sz := by omega
                          rw [ein] at hM
                          exact W.iret (v := nI bx) hx hb hr (fun t ht hW => ⟨_, rfl, rfl, by rw [ht]; exact hE, _, _, by rw [ht]; exact hM, ⟨fun k a h1 h2 h3 => by unfold mo_cps; rw [if_neg (by omega)]; exact p5 k a h1, fun k a h1 h2 => by unfold mo_cps; rw [if_pos ⟨h1, by omega, by omega⟩, show 0 + (40 + us + a - (40 + us)) = a by omega]; exact p5 k a h1, fun k a h1 h2 => by rw [mo_cps_hi (by omega)]; exact p6 k a h2, (by rw [mo_cps_hi (by omega)]; exact e15), (by rw [mo_cps_hi (by omega)]; exact e16), (by rw [mo_cps_hi (by omega)]; exact e17), (by rw [mo_cps_hi (by omega)]; exact e18), (by rw [mo_cps_hi (by omega)]; exact e19), (by rw [mo_cps_hi (by omega)]; exact e20), (by rw [mo_cps_hi (by omega)]; exact e21), (by rw [mo_cps_hi (by omega)]; exact e22), (by rw [mo_cps_hi (by omega)]; exact e23), fun k a h1 h2 h3 => by unfold mg_cps; rw [if_neg (by omega)]; exact hG.2 k a (by omega), fun a ha => by unfold mg_cps; rw [if_pos ⟨Or.inl rfl, by omega, by omega⟩, if_pos ⟨Or.inr rfl, by omega, by omega⟩, show 0 + (40 + us + a - (40 + us)) = a by omega]; exact hG.1 a ha⟩⟩) hL d_Mod_pack_631
                        | succ j ih =>
                          intro i H locs ls hij hM hE hL hl
                          refine lv_iload hx hb d_Mod_pack_570 (lv_at hl 0 rfl) ?_
                          refine lv_aload_n hx hb d_Mod_pack_572 rfl (lv_at hl 2 rfl) ?_
                          refine va_get (D := g.1) (ci := 10) (v := .int (nI sz)) (C := "BoxGlueModel") (T := kT_Mod) (N := 24) hx hb hts ki_Mod hown hK (k_one hM.1) 0 rfl rfl 12 (by decide) (hts _ kw_593) (fun _ h9 => h9) rfl d_Mod_pack_573 ?_
                          refine lv_icmp_ge (tgt := 601) hx hb d_Mod_pack_576 (by decide) (fun c_14 => ?_) (fun c_14 => ?_)
                          · exact absurd c_14 (nI_ge (by omega) (by omega))
                          refine lv_aload_n hx hb d_Mod_pack_579 rfl (lv_at hl 2 rfl) ?_
                          refine lv_iload hx hb d_Mod_pack_580 (lv_at hl 0 rfl) ?_
                          refine lv_bipush (v := 40) hx hb d_Mod_pack_582 (by decide) ?_
                          refine lv_aload_n hx hb d_Mod_pack_584 rfl (lv_at hl 2 rfl) ?_
                          refine va_get (D := g.1) (ci := 10) (v := .int (nI us)) (C := "BoxGlueModel") (T := kT_Mod) (N := 24) hx hb hts ki_Mod hown hK (k_one hM.1) 0 rfl rfl 13 (by decide) (hts _ kw_594) (fun _ h9 => h9) rfl d_Mod_pack_585 ?_
                          refine lv_iadd hx hb d_Mod_pack_588 ?_
                          rw [show (40 : Int32) = nI 40 from rfl, nI_add]
                          refine lv_iload hx hb d_Mod_pack_589 (lv_at hl 0 rfl) ?_
                          refine lv_iadd hx hb d_Mod_pack_591 ?_
                          rw [nI_add]
                          refine k_call (A := (mA m0 ad)) (W.runV (As := [.int (nI i), .int (nI (40 + us + i))]) (rest := []) ⟨hx, hb, hml, hown, hts⟩ (c_Mod_copy l g H m0 ad sz us bx (mo_cps F5 0 (40 + us) i) (mg_cps G1 0 (40 + us) i) hM i (40 + us + i) (by omega) (by omega)) (cwV 2 hts (kV_good kw_734 kw_731 kw_733 ks_Mod_copy kw_5) rfl rfl rfl (by decide +kernel) ⟨Nat.le_of_ble_eq_true rfl, Nat.le_of_ble_eq_true rfl⟩) (k_preV (KK_st g) hKK (va_recv hK (k_one hM.1) (ci := 10) (q0 := 0) rfl rfl)) rfl rfl hl.1 rfl (lv_room (Nat.le_of_ble_eq_true rfl)) d_Mod_pack_592 ⟨Nat.le_of_ble_eq_true rfl, Nat.le_of_ble_eq_true rfl⟩) hL (fun q h => h) (fun v H locs hv hL => ?_)
                          obtain ⟨rfl, hE1, hM⟩ := hv
                          have hE : kE (mA m0 ad) s.heap H := hE.tr hE1 (fun _ _ h => h)
                          have hM : kMod g m0 ad sz us bx (mo_cps F5 0 (40 + us) (i + 1)) (mg_cps G1 0 (40 + us) (i + 1)) H := by rw [← mo_cps_s F5 0 (40 + us) i (Or.inr (by omega)), ← mg_cps_s G1 0 (40 + us) i (Or.inr (by omega)), Nat.zero_add]; exact hM
                          refine lv_iinc (v := nI (i + 1)) (lv' := [(17, .int (nI (i + 1))), (4, .int (nI bx)), (0, .ref m0)]) hx hb d_Mod_pack_595 hl (k := 0) rfl (nI_1 i) (by decide) rfl (fun ls hl => ?_)
                          refine lv_goto (tgt := 570) hx hb d_Mod_pack_598 (by decide) ?_
                          exact ih (i + 1) H locs ls (by omega) hM hE hL (lv_sub (l := [(17, .int (nI (i + 1))), (4, .int (nI bx)), (0, .ref m0)]) hl [0, 1, 2] rfl)
                      exact key2 sz 0 H locs ls (by omega) (by rw [mo_cps_0, mg_cps_0]; exact hM) hE hL (lv_sub (l := [(17, .int 0), (15, .long (mp_at F sz p0 i)), (13, .long (mp_all F sz p0)), (12, .int (mp_by F sz p0)), (10, .long (mp_sh2 F sz p0)), (9, .int (mp_up F sz p0)), (7, .long (mp_x F sz p0)), (5, .long (mp_l F sz p0)), (4, .int (nI bx)), (2, .long (md_nat F sz)), (1, .int p0), (0, .ref m0)]) hl [0, 8, 11] rfl)
                    | succ j ih =>
                      intro i F1 G1 H locs ls hij hAg h20 h21 h16 h17 hG hM hE hL hl
                      refine lv_iload hx hb d_Mod_pack_285 (lv_at hl 0 rfl) ?_
                      refine lv_aload_n hx hb d_Mod_pack_287 rfl (lv_at hl 11 rfl) ?_
                      refine va_get (D := g.1) (ci := 10) (v := .int (nI sz)) (C := "BoxGlueModel") (T := kT_Mod) (N := 24) hx hb hts ki_Mod hown hK (k_one hM.1) 0 rfl rfl 12 (by decide) (hts _ kw_593) (fun _ h9 => h9) rfl d_Mod_pack_288 ?_
                      refine lv_icmp_ge (tgt := 514) hx hb d_Mod_pack_291 (by decide) (fun c_15 => ?_) (fun c_15 => ?_)
                      · exact absurd c_15 (nI_ge (by omega) (by omega))
                      refine lv_aload_n hx hb d_Mod_pack_294 rfl (lv_at hl 11 rfl) ?_
                      refine lv_iload hx hb d_Mod_pack_295 (lv_at hl 0 rfl) ?_
                      refine k_pure (r := .int (md_len F1 i)) (W.runV (As := [.int (nI i)]) (rest := []) ⟨hx, hb, hml, hown, hts⟩ (c_Mod_lengthOf l g H m0 ad sz us bx F1 G1 hM i (by omega) hb60 (hAg.mw (hw i (by omega)))) (cwV 1 hts (kV_good kw_701 kw_698 kw_700 ks_Mod_lengthOf kw_5) rfl rfl rfl (by decide +kernel) ⟨Nat.le_of_ble_eq_true rfl, Nat.le_of_ble_eq_true rfl⟩) (k_preV (KK_st g) hKK (va_recv hK (k_one hM.1) (ci := 10) (q0 := 0) rfl rfl)) rfl rfl hl.1 rfl (lv_room (Nat.le_of_ble_eq_true rfl)) d_Mod_pack_297 ⟨Nat.le_of_ble_eq_true rfl, Nat.le_of_ble_eq_true rfl⟩) ?_
                      rw [hAg.len]
                      refine lv_i2l hx hb d_Mod_pack_300 rfl ?_
                      refine lv_lstore (lv' := [(18, .long ((md_len F i)).toInt64), (17, .int (nI i)), (15, .long (mp_at F sz p0 i)), (13, .long (mp_all F sz p0)), (12, .int (mp_by F sz p0)), (10, .long (mp_sh2 F sz p0)), (9, .int (mp_up F sz p0)), (7, .long (mp_x F sz p0)), (5, .long (mp_l F sz p0)), (4, .int (nI bx)), (2, .long (md_nat F sz)), (1, .int p0), (0, .ref m0)]) hx hb d_Mod_pack_301 hl (by decide) rfl (fun ls hl => ?_)
                      have tl_16 : ∀ ls : Array Slot, lv_has ls 22 [(18, .long (mp_g F sz p0 i)), (17, .int (nI i)), (15, .long (mp_at F sz p0 i)), (13, .long (mp_all F sz p0)), (12, .int (mp_by F sz p0)), (10, .long (mp_sh2 F sz p0)), (9, .int (mp_up F sz p0)), (7, .long (mp_x F sz p0)), (5, .long (mp_l F sz p0)), (4, .int (nI bx)), (2, .long (md_nat F sz)), (1, .int p0), (0, .ref m0)] → W p l e (headSpec (kW y_Mod_pack b_Mod_pack 22 (.some .int)) { frames := 2, cells := 0, slots := 0, locals := 48 }).room s m #[Value.ref m0, Value.int p0] below meth c H locs 0 0 (MQ below (kQc (fun v H1 => v = some (.int (nI bx)) ∧ kE (mA m0 ad) s.heap H1 ∧ ∃ F1 G1, kMod g m0 ad 0 (us + sz) (bx + 1) F1 G1 H1 ∧ mp_post F G sz us bx p0 F1 G1)) #[Value.ref m0, Value.int p0] s 0 0 (mA m0 ad)) (F0 m 403 ls []) := by
                        intro ls hl
                        refine lv_aload_n hx hb d_Mod_pack_403 rfl (lv_at hl 12 rfl) ?_
                        refine va_get (D := g.1) (ci := 10) (v := .ref (ad 10)) (C := "BoxGlueModel") (T := kT_Mod) (N := 24) hx hb hts ki_Mod hown hK (k_one hM.1) 0 rfl rfl 10 (by decide) (hts _ kw_591) (fun _ h9 => h9) rfl d_Mod_pack_404 ?_
                        refine lv_iload hx hb d_Mod_pack_407 (lv_at hl 1 rfl) ?_
                        refine lv_lload hx hb d_Mod_pack_409 (lv_at hl 0 rfl) ?_
                        refine m_last hx hb hK hM hL 10 i (by decide) (show i < 340 by omega) d_Mod_pack_411 (fun H locs hM hE1 hL => ?_)
                        have hE : kE (mA m0 ad) s.heap H := hE.tr hE1 (fun _ _ h => h)
                        refine lv_aload_n hx hb d_Mod_pack_412 rfl (lv_at hl 12 rfl) ?_
                        refine va_get (D := g.1) (ci := 10) (v := .ref (ad 11)) (C := "BoxGlueModel") (T := kT_Mod) (N := 24) hx hb hts ki_Mod hown hK (k_one hM.1) 0 rfl rfl 11 (by decide) (hts _ kw_592) (fun _ h9 => h9) rfl d_Mod_pack_413 ?_
                        refine lv_iload hx hb d_Mod_pack_416 (lv_at hl 1 rfl) ?_
                        refine lv_lload hx hb d_Mod_pack_418 (lv_at hl 2 rfl) ?_
                        refine m_last hx hb hK hM hL 11 i (by decide) (show i < 340 by omega) d_Mod_pack_420 (fun H locs hM hE1 hL => ?_)
                        have hE : kE (mA m0 ad) s.heap H := hE.tr hE1 (fun _ _ h => h)
                        refine lv_lload hx hb d_Mod_pack_421 (lv_at hl 2 rfl) ?_
                        refine lv_lload hx hb d_Mod_pack_423 (lv_at hl 0 rfl) ?_
                        refine lv_ladd hx hb d_Mod_pack_425 ?_
                        refine W.eq (g2 := F0 m 426 ls [.long (mp_at F sz p0 (i + 1))]) rfl ?_
                        refine lv_lstore (lv' := [(15, .long (mp_at F sz p0 (i + 1))), (18, .long (mp_g F sz p0 i)), (17, .int (nI i)), (13, .long (mp_all F sz p0)), (12, .int (mp_by F sz p0)), (10, .long (mp_sh2 F sz p0)), (9, .int (mp_up F sz p0)), (7, .long (mp_x F sz p0)), (5, .long (mp_l F sz p0)), (4, .int (nI bx)), (2, .long (md_nat F sz)), (1, .int p0), (0, .ref m0)]) hx hb d_Mod_pack_426 hl (by decide) rfl (fun ls hl => ?_)
                        refine lv_aload_n hx hb d_Mod_pack_428 rfl (lv_at hl 12 rfl) ?_
                        refine lv_iload hx hb d_Mod_pack_429 (lv_at hl 2 rfl) ?_
                        refine lv_iconst (v := 0) hx hb d_Mod_pack_431 (by decide) ?_
                        refine k_pure (r := .int (md_h F1 i 0)) (W.runV (As := [.int (nI i), .int 0]) (rest := []) ⟨hx, hb, hml, hown, hts⟩ (c_Mod_heightOf l g H m0 ad sz us bx F1 (mG (mG G1 10 i (mp_g F sz p0 i)) 11 i (mp_at F sz p0 i)) hM 0 i (by omega) hb60 (hAg.mw (hw i (by omega)))) (cwV 2 hts (kV_good kw_726 kw_723 kw_725 ks_Mod_heightOf kw_5) rfl rfl rfl (by decide +kernel) ⟨Nat.le_of_ble_eq_true rfl, Nat.le_of_ble_eq_true rfl⟩) (k_preV (KK_st g) hKK (va_recv hK (k_one hM.1) (ci := 10) (q0 := 0) rfl rfl)) rfl rfl hl.1 rfl (lv_room (Nat.le_of_ble_eq_true rfl)) d_Mod_pack_432 ⟨Nat.le_of_ble_eq_true rfl, Nat.le_of_ble_eq_true rfl⟩) ?_
                        rw [hAg.h hb60 (hw i (by omega))]
                        refine lv_istore (lv' := [(20, .int (md_h F i 0)), (15, .long (mp_at F sz p0 (i + 1))), (18, .long (mp_g F sz p0 i)), (17, .int (nI i)), (13, .long (mp_all F sz p0)), (12, .int (mp_by F sz p0)), (10, .long (mp_sh2 F sz p0)), (9, .int (mp_up F sz p0)), (7, .long (mp_x F sz p0)), (5, .long (mp_l F sz p0)), (4, .int (nI bx)), (2, .long (md_nat F sz)), (1, .int p0), (0, .ref m0)]) hx hb d_Mod_pack_435 hl (by decide) rfl (fun ls hl => ?_)
                        refine lv_aload_n hx hb d_Mod_pack_437 rfl (lv_at hl 13 rfl) ?_
                        refine lv_iload hx hb d_Mod_pack_438 (lv_at hl 3 rfl) ?_
                        refine lv_iconst (v := 0) hx hb d_Mod_pack_440 (by decide) ?_
                        refine k_pure (r := .int (md_d F1 i 0)) (W.runV (As := [.int (nI i), .int 0]) (rest := []) ⟨hx, hb, hml, hown, hts⟩ (c_Mod_depthOf l g H m0 ad sz us bx F1 (mG (mG G1 10 i (mp_g F sz p0 i)) 11 i (mp_at F sz p0 i)) hM 0 i (by omega) hb60 (hAg.mw (hw i (by omega)))) (cwV 2 hts (kV_good kw_730 kw_727 kw_729 ks_Mod_depthOf kw_5) rfl rfl rfl (by decide +kernel) ⟨Nat.le_of_ble_eq_true rfl, Nat.le_of_ble_eq_true rfl⟩) (k_preV (KK_st g) hKK (va_recv hK (k_one hM.1) (ci := 10) (q0 := 0) rfl rfl)) rfl rfl hl.1 rfl (lv_room (Nat.le_of_ble_eq_true rfl)) d_Mod_pack_441 ⟨Nat.le_of_ble_eq_true rfl, Nat.le_of_ble_eq_true rfl⟩) ?_
                        rw [hAg.d hb60 (hw i (by omega))]
                        refine lv_istore (lv' := [(21, .int (md_d F i 0)), (20, .int (md_h F i 0)), (15, .long (mp_at F sz p0 (i + 1))), (18, .long (mp_g F sz p0 i)), (17, .int (nI i)), (13, .long (mp_all F sz p0)), (12, .int (mp_by F sz p0)), (10, .long (mp_sh2 F sz p0)), (9, .int (mp_up F sz p0)), (7, .long (mp_x F sz p0)), (5, .long (mp_l F sz p0)), (4, .int (nI bx)), (2, .long (md_nat F sz)), (1, .int p0), (0, .ref m0)]) hx hb d_Mod_pack_444 hl (by decide) rfl (fun ls hl => ?_)
                        refine lv_aload_n hx hb d_Mod_pack_446 rfl (lv_at hl 14 rfl) ?_
                        refine va_get (D := g.1) (ci := 10) (v := .ref (ad 16)) (C := "BoxGlueModel") (T := kT_Mod) (N := 24) hx hb hts ki_Mod hown hK (k_one hM.1) 0 rfl rfl 16 (by decide) (hts _ kw_597) (fun _ h9 => h9) rfl d_Mod_pack_447 ?_
                        refine lv_iload hx hb d_Mod_pack_450 (lv_at hl 11 rfl) ?_
                        have tl_17 : ∀ ls : Array Slot, lv_has ls 22 [(21, .int (md_d F i 0)), (20, .int (md_h F i 0)), (15, .long (mp_at F sz p0 (i + 1))), (18, .long (mp_g F sz p0 i)), (17, .int (nI i)), (13, .long (mp_all F sz p0)), (12, .int (mp_by F sz p0)), (10, .long (mp_sh2 F sz p0)), (9, .int (mp_up F sz p0)), (7, .long (mp_x F sz p0)), (5, .long (mp_l F sz p0)), (4, .int (nI bx)), (2, .long (md_nat F sz)), (1, .int p0), (0, .ref m0)] → W p l e (headSpec (kW y_Mod_pack b_Mod_pack 22 (.some .int)) { frames := 2, cells := 0, slots := 0, locals := 48 }).room s m #[Value.ref m0, Value.int p0] below meth c H locs 0 0 (MQ below (kQc (fun v H1 => v = some (.int (nI bx)) ∧ kE (mA m0 ad) s.heap H1 ∧ ∃ F1 G1, kMod g m0 ad 0 (us + sz) (bx + 1) F1 G1 H1 ∧ mp_post F G sz us bx p0 F1 G1)) #[Value.ref m0, Value.int p0] s 0 0 (mA m0 ad)) (F0 m 476 ls [.int (mp_H F (i + 1)), .int (nI bx), .ref (ad 16)]) := by
                          intro ls hl
                          refine m_iast hx hb hK hM hL 16 bx (Or.inr ⟨by decide, by decide⟩) (show bx < 60 by omega) d_Mod_pack_476 (fun H locs hM hE1 hL => ?_)
                          have hE : kE (mA m0 ad) s.heap H := hE.tr hE1 (fun _ _ h => h)
                          refine lv_aload_n hx hb d_Mod_pack_477 rfl (lv_at hl 14 rfl) ?_
                          refine va_get (D := g.1) (ci := 10) (v := .ref (ad 17)) (C := "BoxGlueModel") (T := kT_Mod) (N := 24) hx hb hts ki_Mod hown hK (k_one hM.1) 0 rfl rfl 17 (by decide) (hts _ kw_598) (fun _ h9 => h9) rfl d_Mod_pack_478 ?_
                          refine lv_iload hx hb d_Mod_pack_481 (lv_at hl 11 rfl) ?_
                          have tl_18 : ∀ ls : Array Slot, lv_has ls 22 [(21, .int (md_d F i 0)), (20, .int (md_h F i 0)), (15, .long (mp_at F sz p0 (i + 1))), (18, .long (mp_g F sz p0 i)), (17, .int (nI i)), (13, .long (mp_all F sz p0)), (12, .int (mp_by F sz p0)), (10, .long (mp_sh2 F sz p0)), (9, .int (mp_up F sz p0)), (7, .long (mp_x F sz p0)), (5, .long (mp_l F sz p0)), (4, .int (nI bx)), (2, .long (md_nat F sz)), (1, .int p0), (0, .ref m0)] → W p l e (headSpec (kW y_Mod_pack b_Mod_pack 22 (.some .int)) { frames := 2, cells := 0, slots := 0, locals := 48 }).room s m #[Value.ref m0, Value.int p0] below meth c H locs 0 0 (MQ below (kQc (fun v H1 => v = some (.int (nI bx)) ∧ kE (mA m0 ad) s.heap H1 ∧ ∃ F1 G1, kMod g m0 ad 0 (us + sz) (bx + 1) F1 G1 H1 ∧ mp_post F G sz us bx p0 F1 G1)) #[Value.ref m0, Value.int p0] s 0 0 (mA m0 ad)) (F0 m 507 ls [.int (mp_D F (i + 1)), .int (nI bx), .ref (ad 17)]) := by
                            intro ls hl
                            refine m_iast hx hb hK hM hL 17 bx (Or.inr ⟨by decide, by decide⟩) (show bx < 60 by omega) d_Mod_pack_507 (fun H locs hM hE1 hL => ?_)
                            have hE : kE (mA m0 ad) s.heap H := hE.tr hE1 (fun _ _ h => h)
                            refine lv_iinc (v := nI (i + 1)) (lv' := [(17, .int (nI (i + 1))), (21, .int (md_d F i 0)), (20, .int (md_h F i 0)), (15, .long (mp_at F sz p0 (i + 1))), (18, .long (mp_g F sz p0 i)), (13, .long (mp_all F sz p0)), (12, .int (mp_by F sz p0)), (10, .long (mp_sh2 F sz p0)), (9, .int (mp_up F sz p0)), (7, .long (mp_x F sz p0)), (5, .long (mp_l F sz p0)), (4, .int (nI bx)), (2, .long (md_nat F sz)), (1, .int p0), (0, .ref m0)]) hx hb d_Mod_pack_508 hl (k := 4) rfl (nI_1 i) (by decide) rfl (fun ls hl => ?_)
                            refine lv_goto (tgt := 285) hx hb d_Mod_pack_511 (by decide) ?_
                            exact ih (i + 1) _ _ H locs ls (by omega) (mp_ag.put (mp_ag.put hAg (by decide)) (by decide)) (by rw [mF_row (by decide), mF_row (by decide)]; exact h20) (by rw [mF_row (by decide), mF_row (by decide)]; exact h21) (by rw [mF_row (by decide), mF_self]) (by rw [mF_self]) hG.put hM hE hL (lv_sub (l := [(17, .int (nI (i + 1))), (21, .int (md_d F i 0)), (20, .int (md_h F i 0)), (15, .long (mp_at F sz p0 (i + 1))), (18, .long (mp_g F sz p0 i)), (13, .long (mp_all F sz p0)), (12, .int (mp_by F sz p0)), (10, .long (mp_sh2 F sz p0)), (9, .int (mp_up F sz p0)), (7, .long (mp_x F sz p0)), (5, .long (mp_l F sz p0)), (4, .int (nI bx)), (2, .long (md_nat F sz)), (1, .int p0), (0, .ref m0)]) hl [0, 3, 5, 6, 7, 8, 9, 10, 11, 12, 13, 14] rfl)
                          refine lv_iload hx hb d_Mod_pack_483 (lv_at hl 0 rfl) ?_
                          refine lv_aload_n hx hb d_Mod_pack_485 rfl (lv_at hl 14 rfl) ?_
                          refine va_get (D := g.1) (ci := 10) (v := .ref (ad 17)) (C := "BoxGlueModel") (T := kT_Mod) (N := 24) hx hb hts ki_Mod hown hK (k_one hM.1) 0 rfl rfl 17 (by decide) (hts _ kw_598) (fun _ h9 => h9) rfl d_Mod_pack_486 ?_
                          refine lv_iload hx hb d_Mod_pack_489 (lv_at hl 11 rfl) ?_
                          refine m_iald hx hb hK hM 17 bx (Or.inr ⟨by decide, by decide⟩) (show bx < 60 by omega) d_Mod_pack_491 ?_
                          rw [mF_row (by decide)]
                          rw [h17]
                          refine lv_icmp_le (tgt := 500) hx hb d_Mod_pack_492 (by decide) (fun c_19 => ?_) (fun c_19 => ?_)
                          · skip
                            refine lv_aload_n hx hb d_Mod_pack_500 rfl (lv_at hl 14 rfl) ?_
                            refine va_get (D := g.1) (ci := 10) (v := .ref (ad 17)) (C := "BoxGlueModel") (T := kT_Mod) (N := 24) hx hb hts ki_Mod hown hK (k_one hM.1) 0 rfl rfl 17 (by decide) (hts _ kw_598) (fun _ h9 => h9) rfl d_Mod_pack_501 ?_
                            refine lv_iload hx hb d_Mod_pack_504 (lv_at hl 11 rfl) ?_
                            refine m_iald hx hb hK hM 17 bx (Or.inr ⟨by decide, by decide⟩) (show bx < 60 by omega) d_Mod_pack_506 ?_
                            rw [mF_row (by decide)]
                            rw [h17]
                            rw [show (mp_D F i) = (mp_D F (i + 1)) from (if_pos c_19).symm]
                            exact tl_18 ls (lv_sub hl [0, 1, 2, 3, 4, 5, 6, 7, 8, 9, 10, 11, 12, 13, 14] rfl)
                          · skip
                            refine lv_iload hx hb d_Mod_pack_495 (lv_at hl 0 rfl) ?_
                            refine lv_goto (tgt := 507) hx hb d_Mod_pack_497 (by decide) ?_
                            rw [show (md_d F i 0) = (mp_D F (i + 1)) from (if_neg c_19).symm]
                            exact tl_18 ls (lv_sub hl [0, 1, 2, 3, 4, 5, 6, 7, 8, 9, 10, 11, 12, 13, 14] rfl)
                        refine lv_iload hx hb d_Mod_pack_452 (lv_at hl 1 rfl) ?_
                        refine lv_aload_n hx hb d_Mod_pack_454 rfl (lv_at hl 14 rfl) ?_
                        refine va_get (D := g.1) (ci := 10) (v := .ref (ad 16)) (C := "BoxGlueModel") (T := kT_Mod) (N := 24) hx hb hts ki_Mod hown hK (k_one hM.1) 0 rfl rfl 16 (by decide) (hts _ kw_597) (fun _ h9 => h9) rfl d_Mod_pack_455 ?_
                        refine lv_iload hx hb d_Mod_pack_458 (lv_at hl 11 rfl) ?_
                        refine m_iald hx hb hK hM 16 bx (Or.inr ⟨by decide, by decide⟩) (show bx < 60 by omega) d_Mod_pack_460 ?_
                        rw [h16]
                        refine lv_icmp_le (tgt := 469) hx hb d_Mod_pack_461 (by decide) (fun c_20 => ?_) (fun c_20 => ?_)
                        · skip
                          refine lv_aload_n hx hb d_Mod_pack_469 rfl (lv_at hl 14 rfl) ?_
                          refine va_get (D := g.1) (ci := 10) (v := .ref (ad 16)) (C := "BoxGlueModel") (T := kT_Mod) (N := 24) hx hb hts ki_Mod hown hK (k_one hM.1) 0 rfl rfl 16 (by decide) (hts _ kw_597) (fun _ h9 => h9) rfl d_Mod_pack_470 ?_
                          refine lv_iload hx hb d_Mod_pack_473 (lv_at hl 11 rfl) ?_
                          refine m_iald hx hb hK hM 16 bx (Or.inr ⟨by decide, by decide⟩) (show bx < 60 by omega) d_Mod_pack_475 ?_
                          rw [h16]
                          rw [show (mp_H F i) = (mp_H F (i + 1)) from (if_pos c_20).symm]
                          exact tl_17 ls (lv_sub hl [0, 1, 2, 3, 4, 5, 6, 7, 8, 9, 10, 11, 12, 13, 14] rfl)
                        · skip
                          refine lv_iload hx hb d_Mod_pack_464 (lv_at hl 1 rfl) ?_
                          refine lv_goto (tgt := 476) hx hb d_Mod_pack_466 (by decide) ?_
                          rw [show (md_h F i 0) = (mp_H F (i + 1)) from (if_neg c_20).symm]
                          exact tl_17 ls (lv_sub hl [0, 1, 2, 3, 4, 5, 6, 7, 8, 9, 10, 11, 12, 13, 14] rfl)
                      refine lv_iload hx hb d_Mod_pack_303 (lv_at hl 4 rfl) ?_
                      refine lv_if_lt (tgt := 403) hx hb d_Mod_pack_305 (by decide) (fun c_21 => ?_) (fun c_21 => ?_)
                      · skip
                        rw [show ((md_len F i)).toInt64 = mp_g F sz p0 i from by unfold mp_g; rw [if_pos c_21]] at hl
                        exact tl_16 ls (lv_sub (l := [(18, .long (mp_g F sz p0 i)), (17, .int (nI i)), (15, .long (mp_at F sz p0 i)), (13, .long (mp_all F sz p0)), (12, .int (mp_by F sz p0)), (10, .long (mp_sh2 F sz p0)), (9, .int (mp_up F sz p0)), (7, .long (mp_x F sz p0)), (5, .long (mp_l F sz p0)), (4, .int (nI bx)), (2, .long (md_nat F sz)), (1, .int p0), (0, .ref m0)]) hl [0, 1, 2, 3, 4, 5, 6, 7, 8, 9, 10, 11, 12] rfl)
                      · skip
                        refine lv_aload_n hx hb d_Mod_pack_308 rfl (lv_at hl 12 rfl) ?_
                        refine va_get (D := g.1) (ci := 10) (v := .ref (ad 0)) (C := "BoxGlueModel") (T := kT_Mod) (N := 24) hx hb hts ki_Mod hown hK (k_one hM.1) 0 rfl rfl 0 (by decide) (hts _ kw_581) (fun _ h9 => h9) rfl d_Mod_pack_309 ?_
                        refine lv_iload hx hb d_Mod_pack_312 (lv_at hl 1 rfl) ?_
                        refine m_iald hx hb hK hM 0 i (Or.inl (by decide)) (show i < 340 by omega) d_Mod_pack_314 ?_
                        rw [hAg.row (k := 0) (by decide)]
                        refine lv_iconst (v := 2) hx hb d_Mod_pack_315 (by decide) ?_
                        refine lv_icmp_ne (tgt := 403) hx hb d_Mod_pack_316 (by decide) (fun c_22 => ?_) (fun c_22 => ?_)
                        · skip
                          rw [show ((md_len F i)).toInt64 = mp_g F sz p0 i from by unfold mp_g; rw [if_neg c_21, if_neg c_22]] at hl
                          exact tl_16 ls (lv_sub (l := [(18, .long (mp_g F sz p0 i)), (17, .int (nI i)), (15, .long (mp_at F sz p0 i)), (13, .long (mp_all F sz p0)), (12, .int (mp_by F sz p0)), (10, .long (mp_sh2 F sz p0)), (9, .int (mp_up F sz p0)), (7, .long (mp_x F sz p0)), (5, .long (mp_l F sz p0)), (4, .int (nI bx)), (2, .long (md_nat F sz)), (1, .int p0), (0, .ref m0)]) hl [0, 1, 2, 3, 4, 5, 6, 7, 8, 9, 10, 11, 12] rfl)
                        · skip
                          refine lv_iload hx hb d_Mod_pack_319 (lv_at hl 6 rfl) ?_
                          refine lv_if_eq (tgt := 334) hx hb d_Mod_pack_321 (by decide) (fun c_23 => ?_) (fun c_23 => ?_)
                          · skip
                            refine lv_aload_n hx hb d_Mod_pack_334 rfl (lv_at hl 12 rfl) ?_
                            refine va_get (D := g.1) (ci := 10) (v := .ref (ad 7)) (C := "BoxGlueModel") (T := kT_Mod) (N := 24) hx hb hts ki_Mod hown hK (k_one hM.1) 0 rfl rfl 7 (by decide) (hts _ kw_588) (fun _ h9 => h9) rfl d_Mod_pack_335 ?_
                            refine lv_iload hx hb d_Mod_pack_338 (lv_at hl 1 rfl) ?_
                            refine m_iald hx hb hK hM 7 i (Or.inl (by decide)) (show i < 340 by omega) d_Mod_pack_340 ?_
                            rw [hAg.row (k := 7) (by decide)]
                            refine lv_iload hx hb d_Mod_pack_341 (lv_at hl 4 rfl) ?_
                            refine lv_icmp_ne (tgt := 403) hx hb d_Mod_pack_343 (by decide) (fun c_24 => ?_) (fun c_24 => ?_)
                            · skip
                              rw [show ((md_len F i)).toInt64 = mp_g F sz p0 i from by unfold mp_g; rw [if_neg c_21, if_pos c_22, if_pos c_23, if_neg c_24]] at hl
                              exact tl_16 ls (lv_sub (l := [(18, .long (mp_g F sz p0 i)), (17, .int (nI i)), (15, .long (mp_at F sz p0 i)), (13, .long (mp_all F sz p0)), (12, .int (mp_by F sz p0)), (10, .long (mp_sh2 F sz p0)), (9, .int (mp_up F sz p0)), (7, .long (mp_x F sz p0)), (5, .long (mp_l F sz p0)), (4, .int (nI bx)), (2, .long (md_nat F sz)), (1, .int p0), (0, .ref m0)]) hl [0, 1, 2, 3, 4, 5, 6, 7, 8, 9, 10, 11, 12] rfl)
                            · skip
                              refine lv_lload hx hb d_Mod_pack_346 (lv_at hl 5 rfl) ?_
                              refine lv_aload_n hx hb d_Mod_pack_348 rfl (lv_at hl 12 rfl) ?_
                              refine lv_iload hx hb d_Mod_pack_349 (lv_at hl 6 rfl) ?_
                              refine lv_iload hx hb d_Mod_pack_351 (lv_at hl 4 rfl) ?_
                              refine lv_iload hx hb d_Mod_pack_353 (lv_at hl 1 rfl) ?_
                              refine lv_iconst (v := 1) hx hb d_Mod_pack_355 (by decide) ?_
                              refine lv_iadd hx hb d_Mod_pack_356 ?_
                              rw [nI_1]
                              refine k_pure (r := .long (md_sum F1 (mp_up F sz p0) (mp_by F sz p0) (i + 1))) (W.runV (As := [.int (mp_up F sz p0), .int (mp_by F sz p0), .int (nI (i + 1))]) (rest := [.long (mp_sh2 F sz p0)]) ⟨hx, hb, hml, hown, hts⟩ (c_Mod_sumOf l g H m0 ad sz us bx F1 G1 hM (mp_up F sz p0) (mp_by F sz p0) (i + 1) (by omega)) (cwV 3 hts (kV_good kw_716 kw_713 kw_715 ks_Mod_sumOf kw_5) rfl rfl rfl (by decide +kernel) ⟨Nat.le_of_ble_eq_true rfl, Nat.le_of_ble_eq_true rfl⟩) (k_preV (KK_st g) hKK (va_recv hK (k_one hM.1) (ci := 10) (q0 := 0) rfl rfl)) rfl rfl hl.1 rfl (lv_room (Nat.le_of_ble_eq_true rfl)) d_Mod_pack_357 ⟨Nat.le_of_ble_eq_true rfl, Nat.le_of_ble_eq_true rfl⟩) ?_
                              rw [hAg.sum]
                              refine lv_lmul hx hb d_Mod_pack_360 ?_
                              refine lv_lload hx hb d_Mod_pack_361 (lv_at hl 3 rfl) ?_
                              refine lv_ldiv hx hb d_Mod_pack_363 (hall c_21) ?_
                              refine lv_lload hx hb d_Mod_pack_364 (lv_at hl 5 rfl) ?_
                              refine lv_aload_n hx hb d_Mod_pack_366 rfl (lv_at hl 12 rfl) ?_
                              refine lv_iload hx hb d_Mod_pack_367 (lv_at hl 6 rfl) ?_
                              refine lv_iload hx hb d_Mod_pack_369 (lv_at hl 4 rfl) ?_
                              refine lv_iload hx hb d_Mod_pack_371 (lv_at hl 1 rfl) ?_
                              refine k_pure (r := .long (md_sum F1 (mp_up F sz p0) (mp_by F sz p0) (i))) (W.runV (As := [.int (mp_up F sz p0), .int (mp_by F sz p0), .int (nI i)]) (rest := [.long (mp_sh2 F sz p0), .long (((mp_sh2 F sz p0) * (md_sum F (mp_up F sz p0) (mp_by F sz p0) (i + 1))) / (mp_all F sz p0))]) ⟨hx, hb, hml, hown, hts⟩ (c_Mod_sumOf l g H m0 ad sz us bx F1 G1 hM (mp_up F sz p0) (mp_by F sz p0) (i) (by omega)) (cwV 3 hts (kV_good kw_716 kw_713 kw_715 ks_Mod_sumOf kw_5) rfl rfl rfl (by decide +kernel) ⟨Nat.le_of_ble_eq_true rfl, Nat.le_of_ble_eq_true rfl⟩) (k_preV (KK_st g) hKK (va_recv hK (k_one hM.1) (ci := 10) (q0 := 0) rfl rfl)) rfl rfl hl.1 rfl (lv_room (Nat.le_of_ble_eq_true rfl)) d_Mod_pack_373 ⟨Nat.le_of_ble_eq_true rfl, Nat.le_of_ble_eq_true rfl⟩) ?_
                              rw [hAg.sum]
                              refine lv_lmul hx hb d_Mod_pack_376 ?_
                              refine lv_lload hx hb d_Mod_pack_377 (lv_at hl 3 rfl) ?_
                              refine lv_ldiv hx hb d_Mod_pack_379 (hall c_21) ?_
                              refine lv_lsub hx hb d_Mod_pack_380 ?_
                              refine lv_lstore (lv' := [(20, .long ((((mp_sh2 F sz p0) * (md_sum F (mp_up F sz p0) (mp_by F sz p0) (i + 1))) / (mp_all F sz p0)) - (((mp_sh2 F sz p0) * (md_sum F (mp_up F sz p0) (mp_by F sz p0) i)) / (mp_all F sz p0)))), (18, .long ((md_len F i)).toInt64), (17, .int (nI i)), (15, .long (mp_at F sz p0 i)), (13, .long (mp_all F sz p0)), (12, .int (mp_by F sz p0)), (10, .long (mp_sh2 F sz p0)), (9, .int (mp_up F sz p0)), (7, .long (mp_x F sz p0)), (5, .long (mp_l F sz p0)), (4, .int (nI bx)), (2, .long (md_nat F sz)), (1, .int p0), (0, .ref m0)]) hx hb d_Mod_pack_381 hl (by decide) rfl (fun ls hl => ?_)
                              refine lv_iload hx hb d_Mod_pack_383 (lv_at hl 7 rfl) ?_
                              refine lv_if_eq (tgt := 396) hx hb d_Mod_pack_385 (by decide) (fun c_25 => ?_) (fun c_25 => ?_)
                              rotate_left
                              · exact absurd c_25 (fun q => q c_23)
                              refine lv_lload hx hb d_Mod_pack_396 (lv_at hl 1 rfl) ?_
                              refine lv_lload hx hb d_Mod_pack_398 (lv_at hl 0 rfl) ?_
                              refine lv_lsub hx hb d_Mod_pack_400 ?_
                              refine lv_lstore (lv' := [(18, .long (((md_len F i)).toInt64 - ((((mp_sh2 F sz p0) * (md_sum F (mp_up F sz p0) (mp_by F sz p0) (i + 1))) / (mp_all F sz p0)) - (((mp_sh2 F sz p0) * (md_sum F (mp_up F sz p0) (mp_by F sz p0) i)) / (mp_all F sz p0))))), (20, .long ((((mp_sh2 F sz p0) * (md_sum F (mp_up F sz p0) (mp_by F sz p0) (i + 1))) / (mp_all F sz p0)) - (((mp_sh2 F sz p0) * (md_sum F (mp_up F sz p0) (mp_by F sz p0) i)) / (mp_all F sz p0)))), (17, .int (nI i)), (15, .long (mp_at F sz p0 i)), (13, .long (mp_all F sz p0)), (12, .int (mp_by F sz p0)), (10, .long (mp_sh2 F sz p0)), (9, .int (mp_up F sz p0)), (7, .long (mp_x F sz p0)), (5, .long (mp_l F sz p0)), (4, .int (nI bx)), (2, .long (md_nat F sz)), (1, .int p0), (0, .ref m0)]) hx hb d_Mod_pack_401 hl (by decide) rfl (fun ls hl => ?_)
                              rw [show (((md_len F i)).toInt64 - ((((mp_sh2 F sz p0) * (md_sum F (mp_up F sz p0) (mp_by F sz p0) (i + 1))) / (mp_all F sz p0)) - (((mp_sh2 F sz p0) * (md_sum F (mp_up F sz p0) (mp_by F sz p0) i)) / (mp_all F sz p0)))) = mp_g F sz p0 i from by unfold mp_g; rw [if_neg c_21, if_pos c_22, if_pos c_23, if_pos c_24]] at hl
                              exact tl_16 ls (lv_sub (l := [(18, .long (mp_g F sz p0 i)), (20, .long ((((mp_sh2 F sz p0) * (md_sum F (mp_up F sz p0) (mp_by F sz p0) (i + 1))) / (mp_all F sz p0)) - (((mp_sh2 F sz p0) * (md_sum F (mp_up F sz p0) (mp_by F sz p0) i)) / (mp_all F sz p0)))), (17, .int (nI i)), (15, .long (mp_at F sz p0 i)), (13, .long (mp_all F sz p0)), (12, .int (mp_by F sz p0)), (10, .long (mp_sh2 F sz p0)), (9, .int (mp_up F sz p0)), (7, .long (mp_x F sz p0)), (5, .long (mp_l F sz p0)), (4, .int (nI bx)), (2, .long (md_nat F sz)), (1, .int p0), (0, .ref m0)]) hl [0, 2, 3, 4, 5, 6, 7, 8, 9, 10, 11, 12, 13] rfl)
                          · skip
                            refine lv_aload_n hx hb d_Mod_pack_324 rfl (lv_at hl 12 rfl) ?_
                            refine va_get (D := g.1) (ci := 10) (v := .ref (ad 5)) (C := "BoxGlueModel") (T := kT_Mod) (N := 24) hx hb hts ki_Mod hown hK (k_one hM.1) 0 rfl rfl 5 (by decide) (hts _ kw_586) (fun _ h9 => h9) rfl d_Mod_pack_325 ?_
                            refine lv_iload hx hb d_Mod_pack_328 (lv_at hl 1 rfl) ?_
                            refine m_iald hx hb hK hM 5 i (Or.inl (by decide)) (show i < 340 by omega) d_Mod_pack_330 ?_
                            rw [hAg.row (k := 5) (by decide)]
                            refine lv_goto (tgt := 341) hx hb d_Mod_pack_331 (by decide) ?_
                            refine lv_iload hx hb d_Mod_pack_341 (lv_at hl 4 rfl) ?_
                            refine lv_icmp_ne (tgt := 403) hx hb d_Mod_pack_343 (by decide) (fun c_26 => ?_) (fun c_26 => ?_)
                            · skip
                              rw [show ((md_len F i)).toInt64 = mp_g F sz p0 i from by unfold mp_g; rw [if_neg c_21, if_pos c_22, if_neg c_23, if_neg c_26]] at hl
                              exact tl_16 ls (lv_sub (l := [(18, .long (mp_g F sz p0 i)), (17, .int (nI i)), (15, .long (mp_at F sz p0 i)), (13, .long (mp_all F sz p0)), (12, .int (mp_by F sz p0)), (10, .long (mp_sh2 F sz p0)), (9, .int (mp_up F sz p0)), (7, .long (mp_x F sz p0)), (5, .long (mp_l F sz p0)), (4, .int (nI bx)), (2, .long (md_nat F sz)), (1, .int p0), (0, .ref m0)]) hl [0, 1, 2, 3, 4, 5, 6, 7, 8, 9, 10, 11, 12] rfl)
                            · skip
                              refine lv_lload hx hb d_Mod_pack_346 (lv_at hl 5 rfl) ?_
                              refine lv_aload_n hx hb d_Mod_pack_348 rfl (lv_at hl 12 rfl) ?_
                              refine lv_iload hx hb d_Mod_pack_349 (lv_at hl 6 rfl) ?_
                              refine lv_iload hx hb d_Mod_pack_351 (lv_at hl 4 rfl) ?_
                              refine lv_iload hx hb d_Mod_pack_353 (lv_at hl 1 rfl) ?_
                              refine lv_iconst (v := 1) hx hb d_Mod_pack_355 (by decide) ?_
                              refine lv_iadd hx hb d_Mod_pack_356 ?_
                              rw [nI_1]
                              refine k_pure (r := .long (md_sum F1 (mp_up F sz p0) (mp_by F sz p0) (i + 1))) (W.runV (As := [.int (mp_up F sz p0), .int (mp_by F sz p0), .int (nI (i + 1))]) (rest := [.long (mp_sh2 F sz p0)]) ⟨hx, hb, hml, hown, hts⟩ (c_Mod_sumOf l g H m0 ad sz us bx F1 G1 hM (mp_up F sz p0) (mp_by F sz p0) (i + 1) (by omega)) (cwV 3 hts (kV_good kw_716 kw_713 kw_715 ks_Mod_sumOf kw_5) rfl rfl rfl (by decide +kernel) ⟨Nat.le_of_ble_eq_true rfl, Nat.le_of_ble_eq_true rfl⟩) (k_preV (KK_st g) hKK (va_recv hK (k_one hM.1) (ci := 10) (q0 := 0) rfl rfl)) rfl rfl hl.1 rfl (lv_room (Nat.le_of_ble_eq_true rfl)) d_Mod_pack_357 ⟨Nat.le_of_ble_eq_true rfl, Nat.le_of_ble_eq_true rfl⟩) ?_
                              rw [hAg.sum]
                              refine lv_lmul hx hb d_Mod_pack_360 ?_
                              refine lv_lload hx hb d_Mod_pack_361 (lv_at hl 3 rfl) ?_
                              refine lv_ldiv hx hb d_Mod_pack_363 (hall c_21) ?_
                              refine lv_lload hx hb d_Mod_pack_364 (lv_at hl 5 rfl) ?_
                              refine lv_aload_n hx hb d_Mod_pack_366 rfl (lv_at hl 12 rfl) ?_
                              refine lv_iload hx hb d_Mod_pack_367 (lv_at hl 6 rfl) ?_
                              refine lv_iload hx hb d_Mod_pack_369 (lv_at hl 4 rfl) ?_
                              refine lv_iload hx hb d_Mod_pack_371 (lv_at hl 1 rfl) ?_
                              refine k_pure (r := .long (md_sum F1 (mp_up F sz p0) (mp_by F sz p0) (i))) (W.runV (As := [.int (mp_up F sz p0), .int (mp_by F sz p0), .int (nI i)]) (rest := [.long (mp_sh2 F sz p0), .long (((mp_sh2 F sz p0) * (md_sum F (mp_up F sz p0) (mp_by F sz p0) (i + 1))) / (mp_all F sz p0))]) ⟨hx, hb, hml, hown, hts⟩ (c_Mod_sumOf l g H m0 ad sz us bx F1 G1 hM (mp_up F sz p0) (mp_by F sz p0) (i) (by omega)) (cwV 3 hts (kV_good kw_716 kw_713 kw_715 ks_Mod_sumOf kw_5) rfl rfl rfl (by decide +kernel) ⟨Nat.le_of_ble_eq_true rfl, Nat.le_of_ble_eq_true rfl⟩) (k_preV (KK_st g) hKK (va_recv hK (k_one hM.1) (ci := 10) (q0 := 0) rfl rfl)) rfl rfl hl.1 rfl (lv_room (Nat.le_of_ble_eq_true rfl)) d_Mod_pack_373 ⟨Nat.le_of_ble_eq_true rfl, Nat.le_of_ble_eq_true rfl⟩) ?_
                              rw [hAg.sum]
                              refine lv_lmul hx hb d_Mod_pack_376 ?_
                              refine lv_lload hx hb d_Mod_pack_377 (lv_at hl 3 rfl) ?_
                              refine lv_ldiv hx hb d_Mod_pack_379 (hall c_21) ?_
                              refine lv_lsub hx hb d_Mod_pack_380 ?_
                              refine lv_lstore (lv' := [(20, .long ((((mp_sh2 F sz p0) * (md_sum F (mp_up F sz p0) (mp_by F sz p0) (i + 1))) / (mp_all F sz p0)) - (((mp_sh2 F sz p0) * (md_sum F (mp_up F sz p0) (mp_by F sz p0) i)) / (mp_all F sz p0)))), (18, .long ((md_len F i)).toInt64), (17, .int (nI i)), (15, .long (mp_at F sz p0 i)), (13, .long (mp_all F sz p0)), (12, .int (mp_by F sz p0)), (10, .long (mp_sh2 F sz p0)), (9, .int (mp_up F sz p0)), (7, .long (mp_x F sz p0)), (5, .long (mp_l F sz p0)), (4, .int (nI bx)), (2, .long (md_nat F sz)), (1, .int p0), (0, .ref m0)]) hx hb d_Mod_pack_381 hl (by decide) rfl (fun ls hl => ?_)
                              refine lv_iload hx hb d_Mod_pack_383 (lv_at hl 7 rfl) ?_
                              refine lv_if_eq (tgt := 396) hx hb d_Mod_pack_385 (by decide) (fun c_27 => ?_) (fun c_27 => ?_)
                              · exact absurd c_27 c_23
                              refine lv_lload hx hb d_Mod_pack_388 (lv_at hl 1 rfl) ?_
                              refine lv_lload hx hb d_Mod_pack_390 (lv_at hl 0 rfl) ?_
                              refine lv_ladd hx hb d_Mod_pack_392 ?_
                              refine lv_goto (tgt := 401) hx hb d_Mod_pack_393 (by decide) ?_
                              refine lv_lstore (lv' := [(18, .long (((md_len F i)).toInt64 + ((((mp_sh2 F sz p0) * (md_sum F (mp_up F sz p0) (mp_by F sz p0) (i + 1))) / (mp_all F sz p0)) - (((mp_sh2 F sz p0) * (md_sum F (mp_up F sz p0) (mp_by F sz p0) i)) / (mp_all F sz p0))))), (20, .long ((((mp_sh2 F sz p0) * (md_sum F (mp_up F sz p0) (mp_by F sz p0) (i + 1))) / (mp_all F sz p0)) - (((mp_sh2 F sz p0) * (md_sum F (mp_up F sz p0) (mp_by F sz p0) i)) / (mp_all F sz p0)))), (17, .int (nI i)), (15, .long (mp_at F sz p0 i)), (13, .long (mp_all F sz p0)), (12, .int (mp_by F sz p0)), (10, .long (mp_sh2 F sz p0)), (9, .int (mp_up F sz p0)), (7, .long (mp_x F sz p0)), (5, .long (mp_l F sz p0)), (4, .int (nI bx)), (2, .long (md_nat F sz)), (1, .int p0), (0, .ref m0)]) hx hb d_Mod_pack_401 hl (by decide) rfl (fun ls hl => ?_)
                              rw [show (((md_len F i)).toInt64 + ((((mp_sh2 F sz p0) * (md_sum F (mp_up F sz p0) (mp_by F sz p0) (i + 1))) / (mp_all F sz p0)) - (((mp_sh2 F sz p0) * (md_sum F (mp_up F sz p0) (mp_by F sz p0) i)) / (mp_all F sz p0)))) = mp_g F sz p0 i from by unfold mp_g; rw [if_neg c_21, if_pos c_22, if_neg c_23, if_pos c_26]] at hl
                              exact tl_16 ls (lv_sub (l := [(18, .long (mp_g F sz p0 i)), (20, .long ((((mp_sh2 F sz p0) * (md_sum F (mp_up F sz p0) (mp_by F sz p0) (i + 1))) / (mp_all F sz p0)) - (((mp_sh2 F sz p0) * (md_sum F (mp_up F sz p0) (mp_by F sz p0) i)) / (mp_all F sz p0)))), (17, .int (nI i)), (15, .long (mp_at F sz p0 i)), (13, .long (mp_all F sz p0)), (12, .int (mp_by F sz p0)), (10, .long (mp_sh2 F sz p0)), (9, .int (mp_up F sz p0)), (7, .long (mp_x F sz p0)), (5, .long (mp_l F sz p0)), (4, .int (nI bx)), (2, .long (md_nat F sz)), (1, .int p0), (0, .ref m0)]) hl [0, 2, 3, 4, 5, 6, 7, 8, 9, 10, 11, 12, 13] rfl)
                  exact key sz 0 _ G H locs ls (by omega) (mp_ag.put (mp_ag.put hAg (by decide)) (by decide)) (by rw [mF_row (by decide), mF_row (by decide)]; exact h20) (by rw [mF_row (by decide), mF_row (by decide)]; exact h21) (by rw [mF_row (by decide), mF_self]; rfl) (by rw [mF_self]; rfl) ⟨fun a ha => absurd ha (Nat.not_lt_zero a), fun _ _ _ => rfl⟩ hM hE hL (lv_sub (l := [(17, .int 0), (15, .long 0), (13, .long (mp_all F sz p0)), (12, .int (mp_by F sz p0)), (10, .long (mp_sh2 F sz p0)), (9, .int (mp_up F sz p0)), (7, .long (mp_x F sz p0)), (5, .long (mp_l F sz p0)), (4, .int (nI bx)), (2, .long (md_nat F sz)), (1, .int p0), (0, .ref m0)]) hl [0, 1, 2, 3, 4, 5, 6, 7, 8, 9, 10, 11] rfl)
                refine lv_aload_n hx hb d_Mod_pack_234 rfl (lv_at hl 8 rfl) ?_
                refine va_get (D := g.1) (ci := 10) (v := .ref (ad 20)) (C := "BoxGlueModel") (T := kT_Mod) (N := 24) hx hb hts ki_Mod hown hK (k_one hM.1) 0 rfl rfl 20 (by decide) (hts _ kw_601) (fun _ h9 => h9) rfl d_Mod_pack_235 ?_
                refine lv_iload hx hb d_Mod_pack_238 (lv_at hl 6 rfl) ?_
                refine m_iald hx hb hK hM 20 bx (Or.inr ⟨by decide, by decide⟩) (show bx < 60 by omega) d_Mod_pack_240 ?_
                rw [mF_self]
                refine lv_ldc (own := "BoxGlueModel") (index := 114) (v := 1000000) hx hb hown (hts _ kw_707) d_Mod_pack_241 ?_
                refine lv_icmp_ne (tgt := 263) hx hb d_Mod_pack_243 (by decide) (fun c_28 => ?_) (fun c_28 => ?_)
                · skip
                  have e10 : (mp_sh2 F sz p0) = (mp_sh F sz p0) := by unfold mp_sh2; rw [if_neg c_28]
                  have hl2 : lv_has ls 22 [(13, .long (mp_all F sz p0)), (12, .int (mp_by F sz p0)), (10, .long (mp_sh2 F sz p0)), (9, .int (mp_up F sz p0)), (7, .long (mp_x F sz p0)), (5, .long (mp_l F sz p0)), (4, .int (nI bx)), (2, .long (md_nat F sz)), (1, .int p0), (0, .ref m0)] := by rw [e10]; exact lv_sub (l := [(13, .long (mp_all F sz p0)), (12, .int (mp_by F sz p0)), (10, .long (mp_sh F sz p0)), (9, .int (mp_up F sz p0)), (7, .long (mp_x F sz p0)), (5, .long (mp_l F sz p0)), (4, .int (nI bx)), (2, .long (md_nat F sz)), (0, .ref m0), (1, .int p0)]) hl [0, 1, 2, 3, 4, 5, 6, 7, 9, 8] rfl
                  have hAg2 : mp_ag F (mF (mF F 21 bx 0) 20 bx (mp_bad F sz p0)) bx := (mp_ag.put (mp_ag.put (fun _ _ _ => rfl) (by decide)) (by decide))
                  exact tl_11 _ H locs ls hAg2 (by rw [mF_self]) (by rw [mF_row (by decide), mF_self]; unfold mp_over; rw [if_neg c_28]) hM hE hL hl2
                · skip
                  refine lv_aload_n hx hb d_Mod_pack_246 rfl (lv_at hl 8 rfl) ?_
                  refine va_get (D := g.1) (ci := 10) (v := .ref (ad 21)) (C := "BoxGlueModel") (T := kT_Mod) (N := 24) hx hb hts ki_Mod hown hK (k_one hM.1) 0 rfl rfl 21 (by decide) (hts _ kw_602) (fun _ h9 => h9) rfl d_Mod_pack_247 ?_
                  refine lv_iload hx hb d_Mod_pack_250 (lv_at hl 6 rfl) ?_
                  refine lv_lload hx hb d_Mod_pack_252 (lv_at hl 2 rfl) ?_
                  refine lv_lload hx hb d_Mod_pack_254 (lv_at hl 0 rfl) ?_
                  refine lv_lsub hx hb d_Mod_pack_256 ?_
                  refine lv_l2i hx hb d_Mod_pack_257 rfl ?_
                  refine m_iast hx hb hK hM hL 21 bx (Or.inr ⟨by decide, by decide⟩) (show bx < 60 by omega) d_Mod_pack_258 (fun H locs hM hE1 hL => ?_)
                  have hE : kE (mA m0 ad) s.heap H := hE.tr hE1 (fun _ _ h => h)
                  refine lv_lload hx hb d_Mod_pack_259 (lv_at hl 0 rfl) ?_
                  refine lv_lstore (lv' := [(10, .long (mp_all F sz p0)), (13, .long (mp_all F sz p0)), (12, .int (mp_by F sz p0)), (9, .int (mp_up F sz p0)), (7, .long (mp_x F sz p0)), (5, .long (mp_l F sz p0)), (4, .int (nI bx)), (2, .long (md_nat F sz)), (0, .ref m0), (1, .int p0)]) hx hb d_Mod_pack_261 hl (by decide) rfl (fun ls hl => ?_)
                  have e10 : (mp_sh2 F sz p0) = (mp_all F sz p0) := by unfold mp_sh2; rw [if_pos c_28]
                  have hl2 : lv_has ls 22 [(13, .long (mp_all F sz p0)), (12, .int (mp_by F sz p0)), (10, .long (mp_sh2 F sz p0)), (9, .int (mp_up F sz p0)), (7, .long (mp_x F sz p0)), (5, .long (mp_l F sz p0)), (4, .int (nI bx)), (2, .long (md_nat F sz)), (1, .int p0), (0, .ref m0)] := by rw [e10]; exact lv_sub (l := [(10, .long (mp_all F sz p0)), (13, .long (mp_all F sz p0)), (12, .int (mp_by F sz p0)), (9, .int (mp_up F sz p0)), (7, .long (mp_x F sz p0)), (5, .long (mp_l F sz p0)), (4, .int (nI bx)), (2, .long (md_nat F sz)), (0, .ref m0), (1, .int p0)]) hl [1, 2, 0, 3, 4, 5, 6, 7, 9, 8] rfl
                  have hAg2 : mp_ag F (mF (mF (mF F 21 bx 0) 20 bx (mp_bad F sz p0)) 21 bx ((((mp_sh F sz p0) - (mp_all F sz p0))).toInt32)) bx := (mp_ag.put (mp_ag.put (mp_ag.put (fun _ _ _ => rfl) (by decide)) (by decide)) (by decide))
                  exact tl_11 _ H locs ls hAg2 (by rw [mF_row (by decide), mF_self]) (by rw [mF_self]; unfold mp_over; rw [if_pos c_28]) hM hE hL hl2
              refine lv_iload hx hb d_Mod_pack_176 (lv_at hl 1 rfl) ?_
              refine lv_if_gt (tgt := 188) hx hb d_Mod_pack_178 (by decide) (fun c_29 => ?_) (fun c_29 => ?_)
              · skip
                refine lv_iconst (v := 0) hx hb d_Mod_pack_188 (by decide) ?_
                refine lv_goto (tgt := 233) hx hb d_Mod_pack_189 (by decide) ?_
                rw [show 0 = (mp_bad F sz p0) from by unfold mp_bad; rw [if_pos c_29]]
                exact tl_10 ls (lv_sub hl [0, 1, 2, 3, 4, 5, 6, 7, 8, 9] rfl)
              · skip
                refine lv_lload hx hb d_Mod_pack_181 (lv_at hl 4 rfl) ?_
                refine lv_lconst (v := 0) hx hb d_Mod_pack_183 (by decide) ?_
                refine W.lcmp hx hb d_Mod_pack_184 ?_
                refine lv_if_ne (tgt := 192) hx hb d_Mod_pack_185 (by decide) (fun c_30 => ?_) (fun c_30 => ?_)
                · skip
                  refine lv_iload hx hb d_Mod_pack_192 (lv_at hl 3 rfl) ?_
                  refine lv_if_eq (tgt := 208) hx hb d_Mod_pack_194 (by decide) (fun c_31 => ?_) (fun c_31 => ?_)
                  · skip
                    refine lv_iload hx hb d_Mod_pack_208 (lv_at hl 3 rfl) ?_
                    refine lv_if_ne (tgt := 221) hx hb d_Mod_pack_210 (by decide) (fun c_32 => ?_) (fun c_32 => ?_)
                    · exact absurd c_32 (fun q => q c_31)
                    refine lv_lload hx hb d_Mod_pack_213 (lv_at hl 2 rfl) ?_
                    refine lv_lload hx hb d_Mod_pack_215 (lv_at hl 0 rfl) ?_
                    refine W.lcmp hx hb d_Mod_pack_217 ?_
                    refine lv_if_gt (tgt := 231) hx hb d_Mod_pack_218 (by decide) (fun c_33 => ?_) (fun c_33 => ?_)
                    · skip
                      refine lv_ldc (own := "BoxGlueModel") (index := 114) (v := 1000000) hx hb hown (hts _ kw_707) d_Mod_pack_231 ?_
                      rw [show 1000000 = (mp_bad F sz p0) from by unfold mp_bad; rw [if_neg c_29, if_neg c_30, if_pos c_31, if_pos c_33]]
                      exact tl_10 ls (lv_sub hl [0, 1, 2, 3, 4, 5, 6, 7, 8, 9] rfl)
                    · skip
                      refine lv_lload hx hb d_Mod_pack_221 (lv_at hl 2 rfl) ?_
                      refine lv_lload hx hb d_Mod_pack_223 (lv_at hl 0 rfl) ?_
                      refine k_pure (r := .int (f_Mod_badness (mp_sh F sz p0) (mp_all F sz p0))) (W.runS (As := [.long (mp_sh F sz p0), .long (mp_all F sz p0)]) (rest := [.int (nI bx), .ref (ad 20)]) ⟨hx, hb, hml, hown, hts⟩ (c_Mod_badness l g H (mp_sh F sz p0) (mp_all F sz p0) (hz ⟨c_29, c_30, Or.inl c_31, Or.inr c_33⟩)) (va_cwS 2 hts (kS_good kw_719 kw_717 kw_718 kw_5) rfl rfl rfl (by decide +kernel) ⟨Nat.le_of_ble_eq_true rfl, Nat.le_of_ble_eq_true rfl⟩) (k_pre (KK_st g) hKK) rfl rfl hl.1 rfl (lv_room (Nat.le_of_ble_eq_true rfl)) d_Mod_pack_225 ⟨Nat.le_of_ble_eq_true rfl, Nat.le_of_ble_eq_true rfl⟩) ?_
                      refine lv_goto (tgt := 233) hx hb d_Mod_pack_228 (by decide) ?_
                      rw [show (f_Mod_badness (mp_sh F sz p0) (mp_all F sz p0)) = (mp_bad F sz p0) from by unfold mp_bad; rw [if_neg c_29, if_neg c_30, if_pos c_31, if_neg c_33]]
                      exact tl_10 ls (lv_sub hl [0, 1, 2, 3, 4, 5, 6, 7, 8, 9] rfl)
                  · skip
                    refine lv_iload hx hb d_Mod_pack_197 (lv_at hl 1 rfl) ?_
                    refine lv_if_ge (tgt := 208) hx hb d_Mod_pack_199 (by decide) (fun c_34 => ?_) (fun c_34 => ?_)
                    · skip
                      refine lv_iload hx hb d_Mod_pack_208 (lv_at hl 3 rfl) ?_
                      refine lv_if_ne (tgt := 221) hx hb d_Mod_pack_210 (by decide) (fun c_35 => ?_) (fun c_35 => ?_)
                      rotate_left
                      · exact absurd c_35 c_31
                      refine lv_lload hx hb d_Mod_pack_221 (lv_at hl 2 rfl) ?_
                      refine lv_lload hx hb d_Mod_pack_223 (lv_at hl 0 rfl) ?_
                      refine k_pure (r := .int (f_Mod_badness (mp_sh F sz p0) (mp_all F sz p0))) (W.runS (As := [.long (mp_sh F sz p0), .long (mp_all F sz p0)]) (rest := [.int (nI bx), .ref (ad 20)]) ⟨hx, hb, hml, hown, hts⟩ (c_Mod_badness l g H (mp_sh F sz p0) (mp_all F sz p0) (hz ⟨c_29, c_30, Or.inr c_34, Or.inl c_31⟩)) (va_cwS 2 hts (kS_good kw_719 kw_717 kw_718 kw_5) rfl rfl rfl (by decide +kernel) ⟨Nat.le_of_ble_eq_true rfl, Nat.le_of_ble_eq_true rfl⟩) (k_pre (KK_st g) hKK) rfl rfl hl.1 rfl (lv_room (Nat.le_of_ble_eq_true rfl)) d_Mod_pack_225 ⟨Nat.le_of_ble_eq_true rfl, Nat.le_of_ble_eq_true rfl⟩) ?_
                      refine lv_goto (tgt := 233) hx hb d_Mod_pack_228 (by decide) ?_
                      rw [show (f_Mod_badness (mp_sh F sz p0) (mp_all F sz p0)) = (mp_bad F sz p0) from by unfold mp_bad; rw [if_neg c_29, if_neg c_30, if_neg c_31, if_pos c_34]]
                      exact tl_10 ls (lv_sub hl [0, 1, 2, 3, 4, 5, 6, 7, 8, 9] rfl)
                    · skip
                      refine lv_sipush (v := 10000) hx hb d_Mod_pack_202 (by decide) ?_
                      refine lv_goto (tgt := 233) hx hb d_Mod_pack_205 (by decide) ?_
                      rw [show 10000 = (mp_bad F sz p0) from by unfold mp_bad; rw [if_neg c_29, if_neg c_30, if_neg c_31, if_neg c_34]]
                      exact tl_10 ls (lv_sub hl [0, 1, 2, 3, 4, 5, 6, 7, 8, 9] rfl)
                · skip
                  refine lv_iconst (v := 0) hx hb d_Mod_pack_188 (by decide) ?_
                  refine lv_goto (tgt := 233) hx hb d_Mod_pack_189 (by decide) ?_
                  rw [show 0 = (mp_bad F sz p0) from by unfold mp_bad; rw [if_neg c_29, if_pos c_30]]
                  exact tl_10 ls (lv_sub hl [0, 1, 2, 3, 4, 5, 6, 7, 8, 9] rfl)
            refine lv_iload hx hb d_Mod_pack_139 (lv_at hl 0 rfl) ?_
            refine lv_if_ge (tgt := 148) hx hb d_Mod_pack_141 (by decide) (fun c_36 => ?_) (fun c_36 => ?_)
            · skip
              refine lv_aload_n hx hb d_Mod_pack_148 rfl (lv_at hl 7 rfl) ?_
              refine lv_iload hx hb d_Mod_pack_149 (lv_at hl 2 rfl) ?_
              refine lv_iload hx hb d_Mod_pack_151 (lv_at hl 0 rfl) ?_
              refine lv_aload_n hx hb d_Mod_pack_153 rfl (lv_at hl 7 rfl) ?_
              refine va_get (D := g.1) (ci := 10) (v := .int (nI sz)) (C := "BoxGlueModel") (T := kT_Mod) (N := 24) hx hb hts ki_Mod hown hK (k_one hM.1) 0 rfl rfl 12 (by decide) (hts _ kw_593) (fun _ h9 => h9) rfl d_Mod_pack_154 ?_
              refine k_pure (r := .long (md_sum F (mp_up F sz p0) (mp_by F sz p0) sz)) (W.runV (As := [.int (mp_up F sz p0), .int (mp_by F sz p0), .int (nI sz)]) (rest := []) ⟨hx, hb, hml, hown, hts⟩ (c_Mod_sumOf l g s.heap m0 ad sz us bx F G hM (mp_up F sz p0) (mp_by F sz p0) sz hs40) (cwV 3 hts (kV_good kw_716 kw_713 kw_715 ks_Mod_sumOf kw_5) rfl rfl rfl (by decide +kernel) ⟨Nat.le_of_ble_eq_true rfl, Nat.le_of_ble_eq_true rfl⟩) (k_preV (KK_st g) hKK (va_recv hK (k_one hM.1) (ci := 10) (q0 := 0) rfl rfl)) rfl rfl hl.1 rfl (lv_room (Nat.le_of_ble_eq_true rfl)) d_Mod_pack_157 ⟨Nat.zero_le _, Nat.zero_le _⟩) ?_
              rw [show (md_sum F (mp_up F sz p0) (mp_by F sz p0) sz) = (mp_all F sz p0) from by unfold mp_all; rw [if_pos c_36]]
              exact tl_9 ls (lv_sub hl [0, 1, 2, 3, 4, 5, 6, 7, 8] rfl)
            · skip
              refine lv_lconst (v := 0) hx hb d_Mod_pack_144 (by decide) ?_
              refine lv_goto (tgt := 160) hx hb d_Mod_pack_145 (by decide) ?_
              rw [show 0 = (mp_all F sz p0) from by unfold mp_all; rw [if_neg c_36]]
              exact tl_9 ls (lv_sub hl [0, 1, 2, 3, 4, 5, 6, 7, 8] rfl)
          refine lv_lload hx hb d_Mod_pack_120 (lv_at hl 2 rfl) ?_
          refine lv_lconst (v := 0) hx hb d_Mod_pack_122 (by decide) ?_
          refine W.lcmp hx hb d_Mod_pack_123 ?_
          refine lv_if_ne (tgt := 131) hx hb d_Mod_pack_124 (by decide) (fun c_37 => ?_) (fun c_37 => ?_)
          · skip
            refine lv_aload_n hx hb d_Mod_pack_131 rfl (lv_at hl 6 rfl) ?_
            refine lv_iload hx hb d_Mod_pack_132 (lv_at hl 1 rfl) ?_
            refine k_pure (r := .int (md_go F sz (mp_up F sz p0))) (W.runV (As := [.int (mp_up F sz p0)]) (rest := []) ⟨hx, hb, hml, hown, hts⟩ (c_Mod_greatestOrder l g s.heap m0 ad sz us bx F G hM (mp_up F sz p0) hs40) (cwV 1 hts (kV_good kw_712 kw_709 kw_711 ks_Mod_greatestOrder kw_5) rfl rfl rfl (by decide +kernel) ⟨Nat.le_of_ble_eq_true rfl, Nat.le_of_ble_eq_true rfl⟩) (k_preV (KK_st g) hKK (va_recv hK (k_one hM.1) (ci := 10) (q0 := 0) rfl rfl)) rfl rfl hl.1 rfl (lv_room (Nat.le_of_ble_eq_true rfl)) d_Mod_pack_134 ⟨Nat.zero_le _, Nat.zero_le _⟩) ?_
            rw [show (md_go F sz (mp_up F sz p0)) = (mp_by F sz p0) from by unfold mp_by; rw [if_neg c_37]]
            exact tl_8 ls (lv_sub hl [0, 1, 2, 3, 4, 5, 6, 7] rfl)
          · skip
            refine lv_iconst (v := (-1)) hx hb d_Mod_pack_127 (by decide) ?_
            refine lv_goto (tgt := 137) hx hb d_Mod_pack_128 (by decide) ?_
            rw [show (-1) = (mp_by F sz p0) from by unfold mp_by; rw [if_pos c_37]]
            exact tl_8 ls (lv_sub hl [0, 1, 2, 3, 4, 5, 6, 7] rfl)
        refine lv_iload hx hb d_Mod_pack_105 (lv_at hl 0 rfl) ?_
        refine lv_if_eq (tgt := 115) hx hb d_Mod_pack_107 (by decide) (fun c_38 => ?_) (fun c_38 => ?_)
        · skip
          refine lv_lload hx hb d_Mod_pack_115 (lv_at hl 1 rfl) ?_
          refine lv_lneg hx hb d_Mod_pack_117 ?_
          rw [show (-(mp_x F sz p0)) = (mp_sh F sz p0) from by unfold mp_sh; rw [if_pos c_38]]
          exact tl_7 ls (lv_sub hl [0, 1, 2, 3, 4, 5, 6] rfl)
        · skip
          refine lv_lload hx hb d_Mod_pack_110 (lv_at hl 1 rfl) ?_
          refine lv_goto (tgt := 118) hx hb d_Mod_pack_112 (by decide) ?_
          rw [show (mp_x F sz p0) = (mp_sh F sz p0) from by unfold mp_sh; rw [if_neg c_38]]
          exact tl_7 ls (lv_sub hl [0, 1, 2, 3, 4, 5, 6] rfl)
      refine lv_lload hx hb d_Mod_pack_91 (lv_at hl 0 rfl) ?_
      refine lv_lconst (v := 0) hx hb d_Mod_pack_93 (by decide) ?_
      refine W.lcmp hx hb d_Mod_pack_94 ?_
      refine lv_if_le (tgt := 102) hx hb d_Mod_pack_95 (by decide) (fun c_39 => ?_) (fun c_39 => ?_)
      · skip
        refine lv_iconst (v := 0) hx hb d_Mod_pack_102 (by decide) ?_
        rw [show 0 = (mp_up F sz p0) from by unfold mp_up; rw [if_pos c_39]]
        exact tl_6 ls (lv_sub hl [0, 1, 2, 3, 4, 5] rfl)
      · skip
        refine lv_iconst (v := 1) hx hb d_Mod_pack_98 (by decide) ?_
        refine lv_goto (tgt := 103) hx hb d_Mod_pack_99 (by decide) ?_
        rw [show 1 = (mp_up F sz p0) from by unfold mp_up; rw [if_neg c_39]]
        exact tl_6 ls (lv_sub hl [0, 1, 2, 3, 4, 5] rfl)
    refine lv_iload_n hx hb d_Mod_pack_63 rfl (lv_at hl 3 rfl) ?_
    refine lv_if_lt (tgt := 72) hx hb d_Mod_pack_64 (by decide) (fun c_40 => ?_) (fun c_40 => ?_)
    · skip
      refine lv_lload_n hx hb d_Mod_pack_72 rfl (lv_at hl 1 rfl) ?_
      refine lv_lconst (v := 0) hx hb d_Mod_pack_73 (by decide) ?_
      refine W.lcmp hx hb d_Mod_pack_74 ?_
      refine lv_if_ge (tgt := 82) hx hb d_Mod_pack_75 (by decide) (fun c_41 => ?_) (fun c_41 => ?_)
      · skip
        refine lv_lload_n hx hb d_Mod_pack_82 rfl (lv_at hl 1 rfl) ?_
        rw [show (md_nat F sz) = (mp_l F sz p0) from by unfold mp_l; rw [if_pos c_40, if_pos c_41]]
        exact tl_5 ls (lv_sub hl [0, 1, 2, 3] rfl)
      · skip
        refine lv_lconst (v := 0) hx hb d_Mod_pack_78 (by decide) ?_
        refine lv_goto (tgt := 83) hx hb d_Mod_pack_79 (by decide) ?_
        rw [show 0 = (mp_l F sz p0) from by unfold mp_l; rw [if_pos c_40, if_neg c_41]]
        exact tl_5 ls (lv_sub hl [0, 1, 2, 3] rfl)
    · skip
      refine lv_iload_n hx hb d_Mod_pack_67 rfl (lv_at hl 3 rfl) ?_
      refine lv_i2l hx hb d_Mod_pack_68 rfl ?_
      refine lv_goto (tgt := 83) hx hb d_Mod_pack_69 (by decide) ?_
      rw [show (p0).toInt64 = (mp_l F sz p0) from by unfold mp_l; rw [if_neg c_40]]
      exact tl_5 ls (lv_sub hl [0, 1, 2, 3] rfl)
  refine lv_iload_n hx hb d_Mod_pack_15 rfl (lv_at hl 2 rfl) ?_
  refine lv_iconst (v := (-1)) hx hb d_Mod_pack_16 (by decide) ?_
  refine lv_icmp_ne (tgt := 30) hx hb d_Mod_pack_17 (by decide) (fun c_42 => ?_) (fun c_42 => ?_)
  · skip
    exact tl_2 ls (lv_sub hl [0, 1, 2] rfl)
  · skip
    refine lv_lload_n hx hb d_Mod_pack_20 rfl (lv_at hl 0 rfl) ?_
    refine lv_ldc2 (own := "BoxGlueModel") (index := 115) (v := 1000000) hx hb hown (hts _ kw_708) d_Mod_pack_21 ?_
    refine W.lcmp hx hb d_Mod_pack_24 ?_
    refine lv_if_le (tgt := 30) hx hb d_Mod_pack_25 (by decide) (fun c_43 => ?_) (fun c_43 => ?_)
    rotate_left
    · exact absurd c_43 (fun q => q (h2 c_42))
    exact tl_2 ls (lv_sub hl [0, 1, 2] rfl)

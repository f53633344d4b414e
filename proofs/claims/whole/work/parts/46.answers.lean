/-! the answers agree -/
section
variable {n nb ib : Nat} {its : Nat → Nat → Int32} {bs : Nat → BxT} {F : Nat → Nat → Int32} {G : Nat → Nat → Int64}
theorem a_07 {p : Int32} (h : f_Mod_isIn p 0 7 = 0) : ¬ p = 0 ∧ ¬ p = 1 ∧ ¬ p = 2 ∧ ¬ p = 3 ∧ ¬ p = 4 ∧ ¬ p = 5 ∧ ¬ p = 6 ∧ ¬ p = 7 := by
  refine ⟨?_, ?_, ?_, ?_, ?_, ?_, ?_, ?_⟩ <;> (intro e; rw [e] at h; exact absurd h (by decide))
theorem a_7 {p : Int32} (h : ¬ f_Mod_isIn p 0 7 = 0) (h0 : ¬ p = 0) (h1 : ¬ p = 1) (h2 : ¬ p = 2) (h3 : ¬ p = 3) (h4 : ¬ p = 4) (h5 : ¬ p = 5) (h6 : ¬ p = 6) : p = 7 := by
  rw [a_in, Int32.lt_iff_toInt_lt, Int32.lt_iff_toInt_lt] at h
  have g : ∀ k : Int32, ¬ p = k → p.toInt ≠ k.toInt := fun k h q => h (Int32.toInt_inj.mp q)
  have a0 : p.toInt ≠ 0 := g 0 h0
  have a1 : p.toInt ≠ 1 := g 1 h1
  have a2 : p.toInt ≠ 2 := g 2 h2
  have a3 : p.toInt ≠ 3 := g 3 h3
  have a4 : p.toInt ≠ 4 := g 4 h4
  have a5 : p.toInt ≠ 5 := g 5 h5
  have a6 : p.toInt ≠ 6 := g 6 h6
  have z : (0 : Int32).toInt = 0 := rfl
  have y : (7 : Int32).toInt = 7 := rfl
  exact Int32.toInt_inj.mp (by omega)
theorem an_told {k : Nat} {p1 : Int32} (h : kRel n its nb bs ib F G) (hk : k < nb) : (f_Mod_isIn p1 0 7 = 0 → b_told (bs k) p1 = -1) ∧ (¬ f_Mod_isIn p1 0 7 = 0 → b_told (bs k) p1 = md_told F k p1) ∧ (¬ (bs k).1 6 = 0 → ¬ ((((bs k).1 6).toInt64 * ((bs k).1 6).toInt64) * ((bs k).1 6).toInt64) = 0) := by
  obtain ⟨a0, a1, a2, a3, a4, a5, a6, a7, a8, a9, a10, -⟩ := h.2.2.2.2.1 k hk
  refine ⟨fun q => ?_, fun q => ?_, fun q w => ?_⟩
  · obtain ⟨c0, c1, c2, c3, c4, c5, c6, c7⟩ := a_07 q
    unfold b_told b_ans
    rw [if_neg c0, if_neg c1, if_neg c2, if_neg c3, if_neg c4, if_neg c5, if_neg c6, if_neg c7]
  · unfold b_told b_ans md_told
    by_cases c0 : p1 = 0
    · rw [if_pos c0, if_pos c0, a0]
    rw [if_neg c0, if_neg c0]
    by_cases c1 : p1 = 1
    · rw [if_pos c1, if_pos c1, a2]
    rw [if_neg c1, if_neg c1]
    by_cases c2 : p1 = 2
    · rw [if_pos c2, if_pos c2, a3]
    rw [if_neg c2, if_neg c2]
    by_cases c3 : p1 = 3
    · rw [if_pos c3, if_pos c3, a4]
    rw [if_neg c3, if_neg c3]
    by_cases c4 : p1 = 4
    · rw [if_pos c4, if_pos c4, a6]
    rw [if_neg c4, if_neg c4]
    by_cases c5 : p1 = 5
    · rw [if_pos c5, if_pos c5, a7]
    rw [if_neg c5, if_neg c5]
    by_cases c6 : p1 = 6
    · rw [if_pos c6, if_pos c6, a8]
    rw [if_neg c6, if_neg c6, if_pos (a_7 q c0 c1 c2 c3 c4 c5 c6), a9]
  · have : ((bs k).1 6).toInt ≠ 0 := fun e => q (Int32.toInt_inj.mp (by rw [e]; rfl))
    have c := q_cube0 (x := ((bs k).1 6).toInt64) (by rw [Int32.toInt_toInt64]; omega) (by rw [Int32.toInt_toInt64]; omega)
    rw [w] at c
    exact absurd c (by decide)
theorem an_item {k i : Nat} {p2 : Int32} (h : kRel n its nb bs ib F G) (hk : k < nb) (hi : i < (bs k).2.1) : ∃ fr, F 18 k = nI fr ∧ fr + i < 340 ∧ mW F nb (fr + i) ∧ ¬ ((md_drawn F G (fr + i)).toInt64 + 1) = 0 ∧ (f_Mod_isIn p2 0 7 = 0 → b_item (bs k) i p2 = -1) ∧ (¬ f_Mod_isIn p2 0 7 = 0 → b_item (bs k) i p2 = md_item F G k (fr + i) p2) := by
  have h3 := h.2.2.1
  obtain ⟨a0, a1, a2, a3, a4, a5, a6, a7, a8, a9, a10, fr, f1, f2, f3, f4⟩ := h.2.2.2.2.1 k hk
  obtain ⟨g, pl, ln, bp, bc⟩ := f4 i hi
  obtain ⟨i0, i1, i2, i3, i4, i5, i6, i7, i8⟩ := g
  have key : i_drawn ((bs k).2.2.1 i) ((bs k).2.2.2.1 i) ((bs k).2.2.2.2 i) = md_drawn F G (fr + i) ∧ i_first ((bs k).2.2.1 i) ((bs k).2.2.2.1 i) ((bs k).2.2.2.2 i) = (md_fo F G (fr + i)).toInt32 ∧ i_step ((bs k).2.2.1 i) ((bs k).2.2.2.1 i) ((bs k).2.2.2.2 i) = (md_so F G (fr + i)).toInt32 ∧ 0 ≤ (md_drawn F G (fr + i)).toInt ∧ (md_drawn F G (fr + i)).toInt ≤ 42000000 := by
    unfold i_drawn i_first i_step f_Glue_leadersDrawn f_Glue_firstLeader f_Glue_leaderStep
    rw [i0]
    rcases i8 with ⟨q0, q1, q2, q3, q4, q5⟩ | ⟨q0, q1⟩
    · rw [if_pos q0, if_pos q0, if_pos q0, q2, q3]
      exact q_lead q1 q4 q5 bp.1 bp.2 bc.1 bc.2 pl ln
    · have d0 : md_drawn F G (fr + i) = 0 := by unfold md_drawn; rw [if_pos q0]
      have fo : md_fo F G (fr + i) = 0 := by unfold md_fo; rw [if_pos d0]
      have so : md_so F G (fr + i) = 0 := by unfold md_so; rw [if_pos d0]
      rw [d0, fo, so]
      by_cases e : F 0 (fr + i) = 2
      · obtain ⟨e8, e9⟩ := q1 e
        rw [if_pos e, if_pos e, if_pos e, e8, e9]
        have dd : f_Leaders_drawn 0 0 ((bs k).2.2.2.1 i) ((bs k).2.2.2.2 i) = 0 := by unfold f_Leaders_drawn; rw [if_pos (by decide)]
        refine ⟨dd, ?_, ?_, by decide, by decide⟩
        · unfold f_Leaders_first; rw [if_pos (by decide)]; rfl
        · unfold f_Leaders_step; rw [if_pos dd]; rfl
      · rw [if_neg e, if_neg e, if_neg e]
        exact ⟨rfl, rfl, rfl, by decide, by decide⟩
  obtain ⟨k1, k2, k3, k4, k5⟩ := key
  refine ⟨fr, f1, by omega, i7, fun q => ?_, fun q => ?_, fun q => ?_⟩
  · have w := congrArg Int64.toInt q
    rw [q_a64 (by rw [Int32.toInt_toInt64, show (1 : Int64).toInt = 1 from rfl]; omega) (by rw [Int32.toInt_toInt64, show (1 : Int64).toInt = 1 from rfl]; omega), Int32.toInt_toInt64, show (1 : Int64).toInt = 1 from rfl, show (0 : Int64).toInt = 0 from rfl] at w
    omega
  · obtain ⟨c0, c1, c2, c3, c4, c5, c6, c7⟩ := a_07 q
    unfold b_item p_ans
    rw [if_neg c0, if_neg c1, if_neg c2, if_neg c3, if_neg c4, if_neg c5, if_neg c6, if_neg c7]
  · unfold b_item p_ans md_item
    rw [k1, k2, k3]
    by_cases c0 : p2 = 0
    · rw [if_pos c0, if_pos c0, i0]
    rw [if_neg c0, if_neg c0]
    by_cases c1 : p2 = 1
    · rw [if_pos c1, if_pos c1, ln]
    rw [if_neg c1, if_neg c1]
    by_cases c2 : p2 = 2
    · rw [if_pos c2, if_pos c2, pl]
    rw [if_neg c2, if_neg c2]
    by_cases c3 : p2 = 3
    · rw [if_pos c3, if_pos c3]
    rw [if_neg c3, if_neg c3]
    by_cases c4 : p2 = 4
    · rw [if_pos c4, if_pos c4]
    rw [if_neg c4, if_neg c4]
    by_cases c5 : p2 = 5
    · rw [if_pos c5, if_pos c5]
    rw [if_neg c5, if_neg c5]
    by_cases c6 : p2 = 6
    · rw [if_pos c6, if_pos c6, a2]
      exact i5 _
    rw [if_neg c6, if_neg c6, if_pos (a_7 q c0 c1 c2 c3 c4 c5 c6), a3]
    exact i6 _
theorem an_nat (h : kRel n its nb bs ib F G) : md_nat F n = (l_len its n).toInt64 := (r_nat h.2.2.2.1 h.1 n (Nat.le_refl n)).1
theorem an_big (h : kRel n its nb bs ib F G) : lg_cmp (md_nat F n) 1000000 ≤ 0 ↔ l_len its n ≤ 1000000 := by
  rw [lg_cmp_le, an_nat h, Int64.le_iff_toInt_le, Int32.toInt_toInt64, Int32.le_iff_toInt_le]
  exact Iff.rfl
theorem an_mw (h : kRel n its nb bs ib F G) : ∀ i, i < n → mW F nb i := fun i hi => (h.2.2.2.1 i hi).2.2.2.2.2.2.2.1
theorem a_pk {p0 : Int32} (h1 : ¬ p0 < (-1)) (h2 : p0 ≤ 1000000) : -1 ≤ p0.toInt ∧ p0.toInt ≤ 1000000 := by
  rw [Int32.lt_iff_toInt_lt] at h1
  rw [Int32.le_iff_toInt_le] at h2
  have z : (-1 : Int32).toInt = -1 := rfl
  have y : (1000000 : Int32).toInt = 1000000 := rfl
  omega
theorem an_pack {p0 : Int32} (h : kRel n its nb bs ib F G) (h1 : ¬ p0 < (-1)) (h2 : p0 ≤ 1000000) (h3 : p0 = (-1) → l_len its n ≤ 1000000) : (mp_call F n p0 → ¬ ((mp_all F n p0 * mp_all F n p0) * mp_all F n p0) = 0) ∧ (¬ mp_by F n p0 < 0 → ¬ mp_all F n p0 = 0) := by
  obtain ⟨p1, p2⟩ := a_pk h1 h2
  have hb : p0 = -1 → (l_len its n).toInt ≤ 1000000 := fun e => by have := h3 e; rw [Int32.le_iff_toInt_le] at this; exact this
  obtain ⟨x1, x2, x3⟩ := p_x h.2.2.2.1 h.1 p1 p2 hb
  obtain ⟨f1, f2, f3, f4, f5, f6⟩ := p_fit h.2.2.2.1 h.1 x1 x2 x3
  have z : (0 : Int32).toInt = 0 := rfl
  have a64 : (mp_all F n p0).toInt = (t_sum its n (pk_L p0 (l_len its n) - l_len its n)).toInt := by rw [f3, Int32.toInt_toInt64]
  have cube : 0 < (mp_all F n p0).toInt → ¬ ((mp_all F n p0 * mp_all F n p0) * mp_all F n p0) = 0 := by
    intro q w
    have c := q_cube0 q (by omega)
    rw [w] at c
    exact absurd c (by decide)
  refine ⟨fun ⟨c1, c2, c3, c4⟩ => ?_, fun q w => ?_⟩
  · rcases f6 with g | g
    · exact cube (by omega)
    · exfalso
      have u : mp_up F n p0 = 0 := c3.resolve_right (fun w => by rw [f2, g.1] at w; exact absurd w (by decide))
      have xl : pk_L p0 (l_len its n) - l_len its n ≤ 0 := by
        rcases Decidable.em (pk_L p0 (l_len its n) - l_len its n ≤ 0) with w | w
        · exact w
        · rw [f1, if_neg w] at u
          exact absurd u (by decide)
      have w := c4.resolve_left (fun w => w u)
      apply w
      rw [lg_cmp_gt, Int64.lt_iff_toInt_lt, a64, g.2]
      have x0 : (pk_L p0 (l_len its n) - l_len its n).toInt ≠ 0 := by
        intro e
        apply c2
        rw [lg_cmp_eq, x1]
        apply Int64.toInt_inj.mp
        rw [Int32.toInt_toInt64, e]
        rfl
      rw [Int32.le_iff_toInt_le] at xl
      unfold mp_sh
      rw [if_pos u, x1, q_n64 (by rw [Int32.toInt_toInt64]; omega), Int32.toInt_toInt64]
      omega
  · rcases f6 with g | g
    · rw [w] at a64
      have : (0 : Int64).toInt = 0 := rfl
      omega
    · apply q
      rw [f2, g.1]
      decide
end

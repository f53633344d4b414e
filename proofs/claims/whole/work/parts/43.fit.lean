/-! what packing gives: the numbers -/
theorem q_mulb {a b A B : Int} (ha : 0 ≤ a) (hA : a ≤ A) (hb : 0 ≤ b) (hB : b ≤ B) : 0 ≤ a * b ∧ a * b ≤ A * B :=
  ⟨Int.mul_nonneg ha hb, Int.mul_le_mul hA hB hb (by omega)⟩
theorem q_cub {x : Int64} (h0 : 0 ≤ x.toInt) (h1 : x.toInt ≤ 200000) : (x * x * x).toInt = x.toInt * x.toInt * x.toInt ∧ (100 * x * x * x).toInt = 100 * x.toInt * x.toInt * x.toInt ∧ 0 ≤ 100 * x.toInt * x.toInt * x.toInt ∧ 0 ≤ x.toInt * x.toInt * x.toInt := by
  have a1 := q_mulb h0 h1 h0 h1
  have a2 := q_mulb a1.1 a1.2 h0 h1
  have c : (100 : Int64).toInt = 100 := rfl
  have b1 : (100 * x).toInt = 100 * x.toInt := by rw [q_m64 (by rw [c]; omega) (by rw [c]; omega), c]
  have b2 := q_mulb (a := 100 * x.toInt) (A := 20000000) (by omega) (by omega) h0 h1
  have b3 := q_mulb b2.1 b2.2 h0 h1
  have c1 : (x * x).toInt = x.toInt * x.toInt := q_m64 (by omega) (by omega)
  have c2 : (x * x * x).toInt = x.toInt * x.toInt * x.toInt := by rw [q_m64 (by rw [c1]; omega) (by rw [c1]; omega), c1]
  have d1 : (100 * x * x).toInt = 100 * x.toInt * x.toInt := by rw [q_m64 (by rw [b1]; omega) (by rw [b1]; omega), b1]
  have d2 : (100 * x * x * x).toInt = 100 * x.toInt * x.toInt * x.toInt := by rw [q_m64 (by rw [d1]; omega) (by rw [d1]; omega), d1]
  exact ⟨c2, d2, b3.1, a2.1⟩
theorem q_cube0 {x : Int64} (h0 : 0 < x.toInt) (h1 : x.toInt ≤ 40000) : 0 < (x * x * x).toInt := by
  have := q_cub (x := x) (by omega) (by omega)
  rw [this.1]
  exact Int.mul_pos (Int.mul_pos h0 h0) h0
theorem q_bad {f0 f1 f2 s : Int32} {p : Int64} (hs0 : 0 < s.toInt) (hs1 : s.toInt ≤ 40000) (hp : 0 ≤ p.toInt) : f_Fit_cubed f0 f1 f2 s p = f_Mod_badness p s.toInt64 ∧ 0 ≤ (f_Mod_badness p s.toInt64).toInt ∧ (f_Mod_badness p s.toInt64).toInt ≤ 10000 := by
  have es : s.toInt64.toInt = s.toInt := Int32.toInt_toInt64 _
  have hne : ¬ s = 0 := fun q => by rw [q] at hs0; exact absurd hs0 (by decide)
  have c5 : (5 : Int64).toInt = 5 := rfl
  have e5 : (5 * s.toInt64).toInt = 5 * s.toInt := by rw [q_m64 (by rw [es, c5]; omega) (by rw [es, c5]; omega), es, c5]
  have ck : (10000 : Int64).toInt = 10000 := rfl
  unfold f_Fit_cubed f_Mod_badness
  rw [if_neg hne]
  simp only [lg_cmp_lt, lg_cmp_le]
  by_cases h : p < 5 * s.toInt64
  · rw [if_pos h, if_pos h]
    rw [Int64.lt_iff_toInt_lt, e5] at h
    have k := q_cub (x := p) hp (by omega)
    have k2 := q_cube0 (x := s.toInt64) (by rw [es]; exact hs0) (by rw [es]; exact hs1)
    have v := q_d64 (x := 100 * p * p * p) k2
    have t := (q_td (a := (100 * p * p * p).toInt) k2).1 (by rw [k.2.1]; exact k.2.2.1)
    by_cases g : 10000 < 100 * p * p * p / (s.toInt64 * s.toInt64 * s.toInt64)
    · rw [if_pos g, if_neg (fun q => by rw [Int64.le_iff_toInt_le] at q; rw [Int64.lt_iff_toInt_lt] at g; omega)]
      exact ⟨rfl, by decide, by decide⟩
    · have g2 : 100 * p * p * p / (s.toInt64 * s.toInt64 * s.toInt64) ≤ 10000 := by rw [Int64.le_iff_toInt_le]; rw [Int64.lt_iff_toInt_lt] at g; omega
      rw [if_neg g, if_pos g2]
      rw [Int64.le_iff_toInt_le, ck] at g2
      have e : (100 * p * p * p / (s.toInt64 * s.toInt64 * s.toInt64)).toInt32.toInt = (100 * p * p * p / (s.toInt64 * s.toInt64 * s.toInt64)).toInt := q_c32 (by omega) (by omega)
      exact ⟨rfl, by omega, by omega⟩
  · rw [if_neg h, if_neg h]
    exact ⟨rfl, by decide, by decide⟩
section
variable {F : Nat → Nat → Int32} {bx n : Nat} {its : Nat → Nat → Int32} {p0 : Int32}
theorem p_l (h : ∀ i, i < n → rIt F bx i (its i)) (hn : n ≤ 40) (hp0 : -1 ≤ p0.toInt) (hp1 : p0.toInt ≤ 1000000) (hb : p0 = -1 → (l_len its n).toInt ≤ 1000000) : mp_l F n p0 = (pk_L p0 (l_len its n)).toInt64 ∧ 0 ≤ (pk_L p0 (l_len its n)).toInt ∧ (pk_L p0 (l_len its n)).toInt ≤ 1000000 := by
  obtain ⟨a1, a2, a3⟩ := r_nat h hn n (Nat.le_refl n)
  have z : (0 : Int32).toInt = 0 := rfl
  have z64 : (0 : Int64).toInt = 0 := rfl
  unfold mp_l pk_L
  simp only [lg_cmp_ge]
  by_cases e : p0 = -1
  · rw [if_pos (by rw [e]; decide), if_pos e, a1]
    have hb := hb e
    by_cases g : l_len its n < 0
    · rw [if_pos g, if_neg (fun q => by rw [Int64.le_iff_toInt_le, Int32.toInt_toInt64] at q; rw [Int32.lt_iff_toInt_lt] at g; omega)]
      exact ⟨rfl, by decide, by decide⟩
    · rw [if_neg g]
      rw [Int32.lt_iff_toInt_lt] at g
      rw [if_pos (by rw [Int64.le_iff_toInt_le, Int32.toInt_toInt64]; omega)]
      exact ⟨rfl, by omega, hb⟩
  · have : p0.toInt ≠ -1 := fun q => e (Int32.toInt_inj.mp (by rw [q]; rfl))
    rw [if_neg (by rw [Int32.lt_iff_toInt_lt]; omega), if_neg e]
    exact ⟨rfl, by omega, hp1⟩
theorem p_x (h : ∀ i, i < n → rIt F bx i (its i)) (hn : n ≤ 40) (hp0 : -1 ≤ p0.toInt) (hp1 : p0.toInt ≤ 1000000) (hb : p0 = -1 → (l_len its n).toInt ≤ 1000000) : mp_x F n p0 = (pk_L p0 (l_len its n) - l_len its n).toInt64 ∧ -41000000 ≤ (pk_L p0 (l_len its n) - l_len its n).toInt ∧ (pk_L p0 (l_len its n) - l_len its n).toInt ≤ 41000000 := by
  obtain ⟨a1, a2, a3⟩ := r_nat h hn n (Nat.le_refl n)
  obtain ⟨b1, b2, b3⟩ := p_l h hn hp0 hp1 hb
  have t : (pk_L p0 (l_len its n) - l_len its n).toInt = (pk_L p0 (l_len its n)).toInt - (l_len its n).toInt := q_s32 (by omega) (by omega)
  refine ⟨?_, by omega, by omega⟩
  apply q_eq64
  unfold mp_x
  rw [a1, b1, q_s64 (by rw [Int32.toInt_toInt64, Int32.toInt_toInt64]; omega) (by rw [Int32.toInt_toInt64, Int32.toInt_toInt64]; omega), Int32.toInt_toInt64, Int32.toInt_toInt64, t]
/-- all numbers of a fit, told by X: what is missing -/
theorem p_fit {X : Int32} (h : ∀ i, i < n → rIt F bx i (its i)) (hn : n ≤ 40) (hX : mp_x F n p0 = X.toInt64) (hX0 : -41000000 ≤ X.toInt) (hX1 : X.toInt ≤ 41000000) :
    mp_up F n p0 = (if X ≤ 0 then 0 else 1) ∧ mp_by F n p0 = t_ord its n X ∧ mp_all F n p0 = (t_sum its n X).toInt64 ∧ 0 ≤ (t_sum its n X).toInt ∧ (t_sum its n X).toInt ≤ 40000 ∧
    ((0 ≤ (t_ord its n X).toInt ∧ 0 < (t_sum its n X).toInt) ∨ (t_ord its n X = -1 ∧ t_sum its n X = 0)) := by
  have z : (0 : Int32).toInt = 0 := rfl
  have z64 : (0 : Int64).toInt = 0 := rfl
  have x0 : lg_cmp (mp_x F n p0) 0 = 0 ↔ X = 0 := by
    rw [lg_cmp_eq, hX]
    exact ⟨fun q => Int32.toInt_inj.mp (by rw [← Int32.toInt_toInt64, q]; rfl), fun q => by rw [q]; rfl⟩
  have xl : lg_cmp (mp_x F n p0) 0 ≤ 0 ↔ X ≤ 0 := by
    rw [lg_cmp_le, hX, Int64.le_iff_toInt_le, Int32.toInt_toInt64, Int32.le_iff_toInt_le]
    exact Iff.rfl
  have up : mp_up F n p0 = (if X ≤ 0 then 0 else 1) := by
    unfold mp_up
    simp only [xl]
  have by_ : mp_by F n p0 = t_ord its n X := by
    unfold mp_by t_ord
    simp only [x0]
    rw [up]
    by_cases e : X = 0
    · rw [if_pos e, if_pos e]
    · rw [if_neg e, if_neg e]
      by_cases e2 : X ≤ 0
      · rw [if_pos e2, if_pos e2, r_go h hn]
      · rw [if_neg e2, if_neg e2, r_go h hn]
  have sm : t_sum its n X = (if X ≤ 0 then l_giv its 0 (t_ord its n X) n else l_giv its 1 (t_ord its n X) n) := rfl
  have ssum : t_sum its n X = l_giv its (if X ≤ 0 then 0 else 1) (t_ord its n X) n := by
    rw [sm]
    by_cases e2 : X ≤ 0
    · rw [if_pos e2, if_pos e2]
    · rw [if_neg e2, if_neg e2]
  obtain ⟨s1, s2, s3, s4⟩ := r_sum h hn (if X ≤ 0 then 0 else 1) (t_ord its n X) n (Nat.le_refl n)
  rw [← ssum] at s1 s2 s3 s4
  have last : (0 ≤ (t_ord its n X).toInt ∧ 0 < (t_sum its n X).toInt) ∨ (t_ord its n X = -1 ∧ t_sum its n X = 0) := by
    have cs : t_ord its n X = -1 ∨ (0 ≤ (t_ord its n X).toInt ∧ ¬ t_sum its n X = 0) := by
      rw [ssum]
      unfold t_ord
      by_cases e : X = 0
      · rw [if_pos e]
        exact Or.inl rfl
      · rw [if_neg e]
        by_cases e2 : X ≤ 0
        · rw [if_pos e2, if_pos e2]
          exact (r_go2 0).imp id (fun q => ⟨q.1.1, q.2⟩)
        · rw [if_neg e2, if_neg e2]
          exact (r_go2 1).imp id (fun q => ⟨q.1.1, q.2⟩)
    rcases cs with q | q
    · exact Or.inr ⟨q, s4 (by rw [q]; decide)⟩
    · have : (t_sum its n X).toInt ≠ 0 := fun w => q.2 (Int32.toInt_inj.mp (by rw [w]; rfl))
      exact Or.inl ⟨q.1, by omega⟩
  refine ⟨up, by_, ?_, s2, by omega, last⟩
  unfold mp_all
  rw [by_, up]
  rcases last with q | q
  · rw [if_pos (by rw [Int32.le_iff_toInt_le]; exact q.1)]
    exact s1
  · rw [if_neg (by rw [q.1]; decide), q.2]
    rfl
theorem p_bad {X f0 : Int32} (h : ∀ i, i < n → rIt F bx i (its i)) (hn : n ≤ 40) (hX : mp_x F n p0 = X.toInt64) (hX0 : -41000000 ≤ X.toInt) (hX1 : X.toInt ≤ 41000000) :
    f_Fit_badness f0 (t_ord its n X) X (t_sum its n X) = mp_bad F n p0 ∧ f_Fit_over f0 (t_ord its n X) X (t_sum its n X) = mp_over F n p0 ∧
    (X ≤ 0 → (X + f_Fit_over f0 (t_ord its n X) X (t_sum its n X)).toInt64 = -(mp_sh2 F n p0)) ∧ (¬ X ≤ 0 → (X + f_Fit_over f0 (t_ord its n X) X (t_sum its n X)).toInt64 = mp_sh2 F n p0) ∧ 0 ≤ (mp_sh2 F n p0).toInt ∧ (mp_sh2 F n p0).toInt ≤ 41000000 := by
  obtain ⟨up, by_, all, s0, s1, last⟩ := p_fit h hn hX hX0 hX1
  have z : (0 : Int32).toInt = 0 := rfl
  have z64 : (0 : Int64).toInt = 0 := rfl
  have x0 : lg_cmp (mp_x F n p0) 0 = 0 ↔ X = 0 := by
    rw [lg_cmp_eq, hX]
    exact ⟨fun q => Int32.toInt_inj.mp (by rw [← Int32.toInt_toInt64, q]; rfl), fun q => by rw [q]; rfl⟩
  have a64 : (mp_all F n p0).toInt = (t_sum its n X).toInt := by rw [all, Int32.toInt_toInt64]
  have b0 : 0 < mp_by F n p0 ↔ 0 < (t_ord its n X).toInt := by rw [by_, Int32.lt_iff_toInt_lt]; exact Iff.rfl
  have b1 : 0 ≤ mp_by F n p0 ↔ 0 ≤ (t_ord its n X).toInt := by rw [by_, Int32.le_iff_toInt_le]; exact Iff.rfl
  by_cases xl : X ≤ 0
  · -- nothing is missing, or it is too long
    have u0 : mp_up F n p0 = 0 := by rw [up, if_pos xl]
    have xl' : X.toInt ≤ 0 := by rw [Int32.le_iff_toInt_le] at xl; exact xl
    have nx : (-X).toInt = -X.toInt := q_n32 (by omega)
    have sh : mp_sh F n p0 = (-X).toInt64 := by
      unfold mp_sh
      rw [if_pos u0, hX]
      apply q_eq64
      rw [q_n64 (by rw [Int32.toInt_toInt64]; omega), Int32.toInt_toInt64, nx]
    have sh64 : (mp_sh F n p0).toInt = -X.toInt := by rw [sh, Int32.toInt_toInt64, nx]
    have gt : 0 < lg_cmp (mp_sh F n p0) (mp_all F n p0) ↔ (t_sum its n X).toInt < -X.toInt := by rw [lg_cmp_gt, Int64.lt_iff_toInt_lt, sh64, a64]
    have dif : (-X - t_sum its n X).toInt = -X.toInt - (t_sum its n X).toInt := by rw [q_s32 (by rw [nx]; omega) (by rw [nx]; omega), nx]
    by_cases e : X = 0
    · have bad : mp_bad F n p0 = 0 := by
        unfold mp_bad
        by_cases g : 0 < mp_by F n p0
        · rw [if_pos g]
        · rw [if_neg g, if_pos (x0.mpr e)]
      have n6 : ¬ mp_bad F n p0 = 1000000 := by rw [bad]; decide
      have ov : f_Fit_over f0 (t_ord its n X) X (t_sum its n X) = 0 := by unfold f_Fit_over; rw [if_pos (by rw [e]; decide)]
      have sh2 : mp_sh2 F n p0 = mp_sh F n p0 := by unfold mp_sh2; rw [if_neg n6]
      refine ⟨?_, ?_, fun _ => ?_, fun q => absurd xl q, by rw [sh2, sh64]; omega, by rw [sh2, sh64]; omega⟩
      · unfold f_Fit_badness
        rw [if_pos e, bad]
      · rw [ov]; unfold mp_over; rw [if_neg n6]
      · rw [ov, sh2, sh, e]
        rfl
    · have e' : X.toInt < 0 := by
        have : X.toInt ≠ 0 := fun q => e (Int32.toInt_inj.mp (by rw [q]; rfl))
        omega
      have n0 : ¬ (0 : Int32) ≤ X := by rw [Int32.le_iff_toInt_le]; omega
      have ab : (if 0 ≤ X then X else 0 - X) = -X := by
        rw [if_neg n0]
        exact Int32.zero_sub X
      by_cases g : 0 < (t_ord its n X).toInt
      · have bad : mp_bad F n p0 = 0 := by unfold mp_bad; rw [if_pos (b0.mpr g)]
        have n6 : ¬ mp_bad F n p0 = 1000000 := by rw [bad]; decide
        have gp : (0 : Int32) < t_ord its n X := by rw [Int32.lt_iff_toInt_lt]; exact g
        have ov : f_Fit_over f0 (t_ord its n X) X (t_sum its n X) = 0 := by unfold f_Fit_over; rw [if_neg n0, if_pos gp]
        have sh2 : mp_sh2 F n p0 = mp_sh F n p0 := by unfold mp_sh2; rw [if_neg n6]
        refine ⟨?_, ?_, fun _ => ?_, fun q => absurd xl q, by rw [sh2, sh64]; omega, by rw [sh2, sh64]; omega⟩
        · unfold f_Fit_badness
          rw [if_neg e, if_neg (by rw [Int32.le_iff_toInt_le]; omega), bad]
        · rw [ov]; unfold mp_over; rw [if_neg n6]
        · rw [ov, sh2, Int32.add_zero]
          apply Int64.toInt_inj.mp
          rw [q_n64 (by rw [sh64]; omega), sh64, Int32.toInt_toInt64]
          omega
      · have gn : ¬ 0 < mp_by F n p0 := fun q => g (b0.mp q)
        have gp : ¬ (0 : Int32) < t_ord its n X := by rw [Int32.lt_iff_toInt_lt]; exact g
        by_cases w : (t_sum its n X).toInt < -X.toInt
        · have bad : mp_bad F n p0 = 1000000 := by
            unfold mp_bad
            rw [if_neg gn, if_neg (fun q => e (x0.mp q)), if_pos u0, if_pos (gt.mpr w)]
          have ov : f_Fit_over f0 (t_ord its n X) X (t_sum its n X) = -X - t_sum its n X := by
            unfold f_Fit_over
            rw [if_neg n0, if_neg gp, if_neg (by rw [Int32.lt_iff_toInt_lt, dif]; omega)]
          have sh2 : mp_sh2 F n p0 = mp_all F n p0 := by unfold mp_sh2; rw [if_pos bad]
          refine ⟨?_, ?_, fun _ => ?_, fun q => absurd xl q, by rw [sh2, a64]; omega, by rw [sh2, a64]; omega⟩
          · unfold f_Fit_badness
            rw [if_neg e, if_pos (by rw [Int32.le_iff_toInt_le]; omega), ov, if_neg (by rw [Int32.le_iff_toInt_le, dif]; omega), bad]
          · rw [ov]; unfold mp_over; rw [if_pos bad, Int64.toInt32_sub, sh, all, Int32.toInt32_toInt64, Int32.toInt32_toInt64]
          · rw [ov, sh2]
            apply Int64.toInt_inj.mp
            rw [q_n64 (by rw [a64]; omega), a64, Int32.toInt_toInt64, q_a32 (by rw [dif]; omega) (by rw [dif]; omega), dif]
            omega
        · have sp : 0 < (t_sum its n X).toInt := by omega
          have bb := q_bad (f0 := f0) (f1 := t_ord its n X) (f2 := X) (s := t_sum its n X) (p := (-X).toInt64) sp s1 (by rw [Int32.toInt_toInt64, nx]; omega)
          have bad : mp_bad F n p0 = f_Mod_badness (mp_sh F n p0) (mp_all F n p0) := by
            unfold mp_bad
            rw [if_neg gn, if_neg (fun q => e (x0.mp q)), if_pos u0, if_neg (fun q => w (gt.mp q))]
          have n6 : ¬ mp_bad F n p0 = 1000000 := by
            rw [bad, sh, all]
            intro q
            have := bb.2.2
            rw [q] at this
            exact absurd this (by decide)
          have ov : f_Fit_over f0 (t_ord its n X) X (t_sum its n X) = 0 := by
            unfold f_Fit_over
            rw [if_neg n0, if_neg gp]
            by_cases w2 : -X - t_sum its n X < 0
            · rw [if_pos w2]
            · rw [if_neg w2]
              rw [Int32.lt_iff_toInt_lt, dif] at w2
              apply Int32.toInt_inj.mp
              rw [dif]
              omega
          have sh2 : mp_sh2 F n p0 = mp_sh F n p0 := by unfold mp_sh2; rw [if_neg n6]
          refine ⟨?_, ?_, fun _ => ?_, fun q => absurd xl q, by rw [sh2, sh64]; omega, by rw [sh2, sh64]; omega⟩
          · unfold f_Fit_badness
            rw [if_neg e, if_pos (by rw [Int32.le_iff_toInt_le]; omega), ov, if_pos (by decide), ab, bb.1, bad, sh, all]
          · rw [ov]; unfold mp_over; rw [if_neg n6]
          · rw [ov, sh2, Int32.add_zero]
            apply Int64.toInt_inj.mp
            rw [q_n64 (by rw [sh64]; omega), sh64, Int32.toInt_toInt64]
            omega
  · -- it is too short
    have u1 : ¬ mp_up F n p0 = 0 := by rw [up, if_neg xl]; decide
    have xl' : 0 < X.toInt := by rw [Int32.le_iff_toInt_le] at xl; omega
    have sh : mp_sh F n p0 = X.toInt64 := by unfold mp_sh; rw [if_neg u1, hX]
    have sh64 : (mp_sh F n p0).toInt = X.toInt := by rw [sh, Int32.toInt_toInt64]
    have e : ¬ X = 0 := fun q => by rw [q] at xl'; exact absurd xl' (by decide)
    have p0' : (0 : Int32) ≤ X := by rw [Int32.le_iff_toInt_le]; omega
    have ab : (if 0 ≤ X then X else 0 - X) = X := if_pos p0'
    have ov : f_Fit_over f0 (t_ord its n X) X (t_sum its n X) = 0 := by unfold f_Fit_over; rw [if_pos p0']
    have key : f_Fit_badness f0 (t_ord its n X) X (t_sum its n X) = mp_bad F n p0 ∧ ¬ mp_bad F n p0 = 1000000 := by
      unfold f_Fit_badness
      rw [if_neg e]
      by_cases g : 0 < (t_ord its n X).toInt
      · have bad : mp_bad F n p0 = 0 := by unfold mp_bad; rw [if_pos (b0.mpr g)]
        rw [if_neg (by rw [Int32.le_iff_toInt_le]; omega), bad]
        exact ⟨rfl, by decide⟩
      · have gn : ¬ 0 < mp_by F n p0 := fun q => g (b0.mp q)
        rw [if_pos (by rw [Int32.le_iff_toInt_le]; omega), ov, if_pos (by decide), ab]
        rcases last with q | q
        · have bb := q_bad (f0 := f0) (f1 := t_ord its n X) (f2 := X) (s := t_sum its n X) (p := X.toInt64) q.2 s1 (by rw [Int32.toInt_toInt64]; omega)
          have bad : mp_bad F n p0 = f_Mod_badness (mp_sh F n p0) (mp_all F n p0) := by
            unfold mp_bad
            rw [if_neg gn, if_neg (fun q => e (x0.mp q)), if_neg u1, if_pos (b1.mpr q.1)]
          rw [bb.1, bad, sh, all]
          refine ⟨rfl, fun q => ?_⟩
          have := bb.2.2
          rw [q] at this
          exact absurd this (by decide)
        · have bad : mp_bad F n p0 = 10000 := by
            unfold mp_bad
            rw [if_neg gn, if_neg (fun q => e (x0.mp q)), if_neg u1, if_neg (fun w => by have := b1.mp w; rw [q.1] at this; exact absurd this (by decide))]
          unfold f_Fit_cubed
          rw [if_pos q.2, bad]
          exact ⟨rfl, by decide⟩
    have sh2 : mp_sh2 F n p0 = mp_sh F n p0 := by unfold mp_sh2; rw [if_neg key.2]
    refine ⟨key.1, ?_, fun q => absurd q xl, fun _ => ?_, by rw [sh2, sh64]; omega, by rw [sh2, sh64]; omega⟩
    · rw [ov]; unfold mp_over; rw [if_neg key.2]
    · rw [ov, sh2, sh, Int32.add_zero]
end

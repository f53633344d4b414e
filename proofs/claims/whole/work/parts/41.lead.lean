/-! leaders -/
theorem q_ceil {P B : Int} (hB : 0 < B) : -((-P) / B) * B = P + (-P) % B := by
  have := Int.mul_ediv_add_emod (-P) B
  rw [Int.neg_mul, Int.mul_comm]
  omega
theorem q_1 : (1 : Int32).toInt = 1 := rfl
theorem q_fp {F : Nat → Nat → Int32} {G : Nat → Nat → Int64} {i : Nat} (hb0 : 0 < (md_ll F i).toInt) (hb1 : (md_ll F i).toInt ≤ 1000000) (hp0 : -1700000000 ≤ (G 11 i).toInt) (hp1 : (G 11 i).toInt ≤ 1700000000) :
    (md_fp F G i).toInt = (G 11 i).toInt + (-(G 11 i).toInt) % (md_ll F i).toInt := by
  have eB : ((md_ll F i).toInt64).toInt = (md_ll F i).toInt := Int32.toInt_toInt64 _
  have hB64 : 0 < ((md_ll F i).toInt64).toInt := by rw [eB]; exact hb0
  obtain ⟨k1, k2⟩ := q_td (a := (G 11 i).toInt) hb0
  have d := q_d64 (x := G 11 i) hB64
  rw [eB] at d
  have c1 := Int.mul_ediv_add_emod (G 11 i).toInt (md_ll F i).toInt
  have c2 := Int.emod_nonneg (G 11 i).toInt (show (md_ll F i).toInt ≠ 0 by omega)
  have c3 := Int.emod_lt_of_pos (G 11 i).toInt hb0
  have e1 := Int.mul_ediv_add_emod (-(G 11 i).toInt) (md_ll F i).toInt
  have e2 := Int.emod_nonneg (-(G 11 i).toInt) (show (md_ll F i).toInt ≠ 0 by omega)
  have e3 := Int.emod_lt_of_pos (-(G 11 i).toInt) hb0
  -- the rest
  have key : ∃ R : Int, ((G 11 i) - (G 11 i) / ((md_ll F i)).toInt64 * ((md_ll F i)).toInt64).toInt = R ∧ (0 ≤ (G 11 i).toInt → R = (G 11 i).toInt % (md_ll F i).toInt) ∧ ((G 11 i).toInt < 0 → R = -((-(G 11 i).toInt) % (md_ll F i).toInt)) := by
    by_cases h : 0 ≤ (G 11 i).toInt
    · have w := k1 h
      have pm : ((G 11 i) / ((md_ll F i)).toInt64 * ((md_ll F i)).toInt64).toInt = (G 11 i).toInt - (G 11 i).toInt % (md_ll F i).toInt := by
        have q : ((G 11 i) / ((md_ll F i)).toInt64).toInt * ((md_ll F i)).toInt64.toInt = (G 11 i).toInt - (G 11 i).toInt % (md_ll F i).toInt := by rw [d, eB, w.2.2, Int.mul_comm]; omega
        rw [q_m64 (by rw [q]; omega) (by rw [q]; omega), q]
      refine ⟨(G 11 i).toInt % (md_ll F i).toInt, ?_, fun _ => rfl, fun h2 => by omega⟩
      rw [q_s64 (by rw [pm]; omega) (by rw [pm]; omega), pm]
      omega
    · have w := k2 (by omega)
      have pm : ((G 11 i) / ((md_ll F i)).toInt64 * ((md_ll F i)).toInt64).toInt = (G 11 i).toInt + (-(G 11 i).toInt) % (md_ll F i).toInt := by
        have q : ((G 11 i) / ((md_ll F i)).toInt64).toInt * ((md_ll F i)).toInt64.toInt = (G 11 i).toInt + (-(G 11 i).toInt) % (md_ll F i).toInt := by rw [d, eB, w.2.2, Int.neg_mul, Int.mul_comm]; omega
        rw [q_m64 (by rw [q]; omega) (by rw [q]; omega), q]
      refine ⟨-((-(G 11 i).toInt) % (md_ll F i).toInt), ?_, fun h2 => absurd h2 h, fun _ => rfl⟩
      rw [q_s64 (by rw [pm]; omega) (by rw [pm]; omega), pm]
      omega
  obtain ⟨R, hR, hR1, hR2⟩ := key
  -- what a whole row of P and of -P leaves
  have hneg : 0 ≤ (G 11 i).toInt → ((G 11 i).toInt % (md_ll F i).toInt = 0 ∧ (-(G 11 i).toInt) % (md_ll F i).toInt = 0) ∨ (0 < (G 11 i).toInt % (md_ll F i).toInt ∧ (-(G 11 i).toInt) % (md_ll F i).toInt = (md_ll F i).toInt - (G 11 i).toInt % (md_ll F i).toInt) := by
    intro h
    by_cases z : (G 11 i).toInt % (md_ll F i).toInt = 0
    · refine Or.inl ⟨z, ?_⟩
      exact ((Int.ediv_emod_unique hb0 (a := -(G 11 i).toInt) (r := 0) (q := -((G 11 i).toInt / (md_ll F i).toInt))).mpr ⟨by rw [Int.mul_neg]; omega, by omega, by omega⟩).2
    · refine Or.inr ⟨by omega, ?_⟩
      exact ((Int.ediv_emod_unique hb0 (a := -(G 11 i).toInt) (r := (md_ll F i).toInt - (G 11 i).toInt % (md_ll F i).toInt) (q := -((G 11 i).toInt / (md_ll F i).toInt) - 1)).mpr ⟨by rw [Int.mul_sub, Int.mul_neg, Int.mul_one]; omega, by omega, by omega⟩).2
  have z0 : (0 : Int64).toInt = 0 := rfl
  have bR : -1000000 < R ∧ R < 1000000 := by
    by_cases h : 0 ≤ (G 11 i).toInt
    · have := hR1 h; omega
    · have := hR2 (by omega); omega
  have sub : ((G 11 i) - ((G 11 i) - (G 11 i) / ((md_ll F i)).toInt64 * ((md_ll F i)).toInt64)).toInt = (G 11 i).toInt - R := by
    rw [q_s64 (by rw [hR]; omega) (by rw [hR]; omega), hR]
  unfold md_fp
  simp only [lg_cmp_eq, lg_cmp_ge]
  by_cases hz : (G 11 i) - (G 11 i) / ((md_ll F i)).toInt64 * ((md_ll F i)).toInt64 = 0
  · rw [if_pos hz]
    have : R = 0 := by rw [← hR, hz]; rfl
    by_cases h : 0 ≤ (G 11 i).toInt
    · have := hR1 h; have := hneg h; omega
    · have := hR2 (by omega); omega
  · rw [if_neg hz]
    have hR0 : R ≠ 0 := fun q => hz (Int64.toInt_inj.mp (by rw [hR, q]; rfl))
    by_cases hs : 0 ≤ (G 11 i) - (G 11 i) / ((md_ll F i)).toInt64 * ((md_ll F i)).toInt64
    · rw [if_pos hs]
      rw [Int64.le_iff_toInt_le, hR, z0] at hs
      rw [q_a64 (by rw [sub, eB]; omega) (by rw [sub, eB]; omega), sub, eB]
      by_cases h : 0 ≤ (G 11 i).toInt
      · have := hR1 h; have := hneg h; omega
      · have := hR2 (by omega); omega
    · rw [if_neg hs, sub]
      rw [Int64.le_iff_toInt_le, hR, z0] at hs
      by_cases h : 0 ≤ (G 11 i).toInt
      · have := hR1 h; omega
      · have := hR2 (by omega); omega
theorem q_lead {F : Nat → Nat → Int32} {G : Nat → Nat → Int64} {i : Nat} {pl ln : Int32} (h8 : ¬ F 8 i = 0) (hb0 : 0 ≤ (md_ll F i).toInt) (hb1 : (md_ll F i).toInt ≤ 1000000) (hp0 : -1700000000 ≤ (G 11 i).toInt) (hp1 : (G 11 i).toInt ≤ 1700000000) (hc0 : -42000000 ≤ (G 10 i).toInt) (hc1 : (G 10 i).toInt ≤ 42000000) (epl : pl = (G 11 i).toInt32) (eln : ln = (G 10 i).toInt32) :
    f_Leaders_drawn (F 8 i) (md_ll F i) pl ln = md_drawn F G i ∧ f_Leaders_first (F 8 i) (md_ll F i) pl ln = (md_fo F G i).toInt32 ∧ f_Leaders_step (F 8 i) (md_ll F i) pl ln = (md_so F G i).toInt32 ∧ 0 ≤ (md_drawn F G i).toInt ∧ (md_drawn F G i).toInt ≤ 42000000 := by
  have z32 : (0 : Int32).toInt = 0 := rfl
  have z64 : (0 : Int64).toInt = 0 := rfl
  have eB : ((md_ll F i).toInt64).toInt = (md_ll F i).toInt := Int32.toInt_toInt64 _
  have tp : pl.toInt = (G 11 i).toInt := by rw [epl]; exact q_c32 (by omega) (by omega)
  have tc : ln.toInt = (G 10 i).toInt := by rw [eln]; exact q_c32 (by omega) (by omega)
  by_cases hB : md_ll F i = 0
  · have d0 : md_drawn F G i = 0 := by unfold md_drawn; rw [if_neg h8, if_pos hB]
    have c0 : f_Leaders_drawn (F 8 i) (md_ll F i) pl ln = 0 := by unfold f_Leaders_drawn; rw [hB]; rfl
    refine ⟨by rw [c0, d0], ?_, ?_, by rw [d0]; decide, by rw [d0]; decide⟩
    · unfold f_Leaders_first md_fo
      rw [if_pos d0, hB]
      rfl
    · unfold f_Leaders_step md_so
      rw [c0, if_pos rfl, if_pos d0]
      rfl
  · have hbp : 0 < (md_ll F i).toInt := by
      have : (md_ll F i).toInt ≠ 0 := fun q => hB (Int32.toInt_inj.mp (by rw [q]; rfl))
      omega
    have hB64 : 0 < ((md_ll F i).toInt64).toInt := by rw [eB]; exact hbp
    have hle : ¬ md_ll F i ≤ 0 := by rw [Int32.le_iff_toInt_le]; omega
    by_cases hC : md_ll F i ≤ ln
    · have hC' : (md_ll F i).toInt ≤ (G 10 i).toInt := by rw [Int32.le_iff_toInt_le, tc] at hC; exact hC
      have hC64 : 0 ≤ lg_cmp (G 10 i) ((md_ll F i).toInt64) := by rw [lg_cmp_ge, Int64.le_iff_toInt_le, eB]; exact hC'
      have dd := q_d64 (x := G 10 i) hB64
      have kd := (q_td (a := (G 10 i).toInt) hbp).1 (by omega)
      rw [eB, kd.2.2] at dd
      have d32 := q_d32 (x := ln) hbp
      rw [tc, kd.2.2] at d32
      have em := Int.mul_ediv_add_emod (G 10 i).toInt (md_ll F i).toInt
      have m1 := Int.emod_nonneg (G 10 i).toInt (show (md_ll F i).toInt ≠ 0 by omega)
      have m2 := Int.emod_lt_of_pos (G 10 i).toInt hbp
      have fp := q_fp (F := F) (G := G) (i := i) hbp hb1 hp0 hp1
      have n1 := Int.emod_nonneg (-(G 11 i).toInt) (show (md_ll F i).toInt ≠ 0 by omega)
      have n2 := Int.emod_lt_of_pos (-(G 11 i).toInt) hbp
      have ce := q_ceil (P := (G 11 i).toInt) hbp
      -- alignedFrom
      have np : (-pl).toInt = -(G 11 i).toInt := by rw [q_n32 (by omega), tp]
      have bnd : ∀ a : Int, -2000000000 ≤ a → a ≤ 2000000000 → -2000000000 ≤ a / (md_ll F i).toInt ∧ a / (md_ll F i).toInt ≤ 2000000000 := by
        intro a a1 a2
        by_cases ha : 0 ≤ a
        · have := Int.ediv_nonneg ha (show 0 ≤ (md_ll F i).toInt by omega)
          have := Int.ediv_le_self (md_ll F i).toInt ha
          omega
        · have w1 := Int.mul_ediv_add_emod a (md_ll F i).toInt
          have w2 := Int.emod_lt_of_pos a hbp
          have w3 := Int.emod_nonneg a (show (md_ll F i).toInt ≠ 0 by omega)
          generalize a / (md_ll F i).toInt = q at *
          have hq : q ≤ 0 := by
            rcases Int.lt_or_le 0 q with h | h
            · have := Int.mul_le_mul (show (1 : Int) ≤ (md_ll F i).toInt by omega) (show (1 : Int) ≤ q by omega) (by omega) (by omega)
              omega
            · exact h
          have : (md_ll F i).toInt * q ≤ q := by
            have := Int.mul_le_mul_of_nonneg_right (show (1 : Int) ≤ (md_ll F i).toInt by omega) (show 0 ≤ -q by omega)
            rw [Int.mul_neg, Int.mul_neg] at this
            omega
          have w4 : a - (md_ll F i).toInt < q * (md_ll F i).toInt := by rw [Int.mul_comm]; omega
          refine ⟨?_, by omega⟩
          -- q ≥ a: as (−a) / B ≤ −a
          rcases Int.lt_or_le q a with h | h
          · have h5 : (md_ll F i).toInt * q ≤ (md_ll F i).toInt * (a - 1) := Int.mul_le_mul_of_nonneg_left (by omega) (by omega)
            have h6 : (md_ll F i).toInt * (a - 1) ≤ 1 * (a - 1) := by
              have := Int.mul_le_mul_of_nonneg_right (show (1 : Int) ≤ (md_ll F i).toInt by omega) (show 0 ≤ -(a - 1) by omega)
              rw [Int.mul_neg, Int.mul_neg] at this
              omega
            have h7 : (md_ll F i).toInt * (a - 1) = (md_ll F i).toInt * a - (md_ll F i).toInt := by rw [Int.mul_sub, Int.mul_one]
            have h8 : (md_ll F i).toInt * a ≤ 1 * a := by
              have := Int.mul_le_mul_of_nonneg_right (show (1 : Int) ≤ (md_ll F i).toInt by omega) (show 0 ≤ -a by omega)
              rw [Int.mul_neg, Int.mul_neg] at this
              omega
            omega
          · omega
      have fdn := q_fd (x := -pl) hbp
      rw [np] at fdn
      have b1 := bnd (-(G 11 i).toInt) (by omega) (by omega)
      have af : (f_Leaders_alignedFrom (F 8 i) (md_ll F i) pl).toInt = -((-(G 11 i).toInt) / (md_ll F i).toInt) := by
        unfold f_Leaders_alignedFrom
        rw [if_pos (by rw [Int32.lt_iff_toInt_lt]; omega), q_n32 (by rw [fdn]; omega), fdn]
      generalize hc : -((-(G 11 i).toInt) / (md_ll F i).toInt) = cc at *
      generalize hr : (-(G 11 i).toInt) % (md_ll F i).toInt = rr at *
      -- drawn
      have spc : (pl + ln).toInt = (G 11 i).toInt + (G 10 i).toInt := by rw [q_a32 (by omega) (by omega), tp, tc]
      have fdp := q_fd (x := pl + ln) hbp
      rw [spc] at fdp
      have ediv : ((G 11 i).toInt + (G 10 i).toInt) / (md_ll F i).toInt = ((G 10 i).toInt - rr) / (md_ll F i).toInt + cc := by
        rw [show (G 11 i).toInt + (G 10 i).toInt = ((G 10 i).toInt - rr) + cc * (md_ll F i).toInt by omega, Int.add_mul_ediv_right _ _ (by omega)]
      have d1n := Int.ediv_nonneg (show 0 ≤ (G 10 i).toInt - rr by omega) (show 0 ≤ (md_ll F i).toInt by omega)
      have d1l := Int.ediv_le_self (md_ll F i).toInt (show 0 ≤ (G 10 i).toInt - rr by omega)
      have room : (((G 11 i) + (G 10 i)) - (md_fp F G i)).toInt = (G 10 i).toInt - rr := by
        have s1 : ((G 11 i) + (G 10 i)).toInt = (G 11 i).toInt + (G 10 i).toInt := q_a64 (by omega) (by omega)
        rw [q_s64 (by rw [s1, fp]; omega) (by rw [s1, fp]; omega), s1, fp]
        omega
      have rdiv : ((((G 11 i) + (G 10 i)) - (md_fp F G i)) / ((md_ll F i)).toInt64).toInt = ((G 10 i).toInt - rr) / (md_ll F i).toInt := by
        rw [q_d64 hB64, room, eB, Int.tdiv_eq_ediv_of_nonneg (by omega)]
      have D : ∃ n : Int, 0 ≤ n ∧ n ≤ 42000000 ∧ (f_Leaders_drawn (F 8 i) (md_ll F i) pl ln).toInt = n ∧ (md_drawn F G i).toInt = n ∧ (¬ F 8 i = 1 → n = (G 10 i).toInt / (md_ll F i).toInt) := by
        unfold f_Leaders_drawn md_drawn
        rw [if_neg hle, if_pos hC, if_neg h8, if_neg hB, if_pos hC64]
        by_cases k1 : F 8 i = 1
        · refine ⟨((G 10 i).toInt - rr) / (md_ll F i).toInt, d1n, by omega, ?_, ?_, fun q => absurd k1 q⟩
          · rw [if_pos k1, q_s32 (by rw [fdp, af, ediv]; omega) (by rw [fdp, af, ediv]; omega), fdp, af, ediv]
            omega
          · rw [if_pos k1, if_pos (by rw [lg_cmp_ge, Int64.le_iff_toInt_le, room]; omega), q_c32 (by rw [rdiv]; omega) (by rw [rdiv]; omega), rdiv]
        · refine ⟨(G 10 i).toInt / (md_ll F i).toInt, by omega, by omega, ?_, ?_, fun _ => rfl⟩
          · rw [if_neg k1, d32]
          · rw [if_neg k1, q_c32 (by rw [dd]; omega) (by rw [dd]; omega), dd]
      obtain ⟨n, hn0, hn1, hnc, hnr, hnk⟩ := D
      have eD : f_Leaders_drawn (F 8 i) (md_ll F i) pl ln = md_drawn F G i := Int32.toInt_inj.mp (hnc.trans hnr.symm)
      -- the rest of the room
      have e64 : ((md_drawn F G i).toInt64).toInt = n := by rw [Int32.toInt_toInt64, hnr]
      have left : ¬ F 8 i = 1 → ((G 10 i) - (((md_drawn F G i)).toInt64 * ((md_ll F i)).toInt64)).toInt = (G 10 i).toInt % (md_ll F i).toInt := by
        intro k
        have hk := hnk k
        have pm : ((md_drawn F G i)).toInt64.toInt * ((md_ll F i)).toInt64.toInt = (G 10 i).toInt - (G 10 i).toInt % (md_ll F i).toInt := by rw [e64, eB, hk, Int.mul_comm]; omega
        have mm : (((md_drawn F G i)).toInt64 * ((md_ll F i)).toInt64).toInt = (G 10 i).toInt - (G 10 i).toInt % (md_ll F i).toInt := by rw [q_m64 (by rw [pm]; omega) (by rw [pm]; omega), pm]
        rw [q_s64 (by rw [mm]; omega) (by rw [mm]; omega), mm]
        omega
      have left32 : (ln - ln / md_ll F i * md_ll F i).toInt = (G 10 i).toInt % (md_ll F i).toInt := by
        have pm : (ln / md_ll F i).toInt * (md_ll F i).toInt = (G 10 i).toInt - (G 10 i).toInt % (md_ll F i).toInt := by rw [d32, Int.mul_comm]; omega
        have mm : (ln / md_ll F i * md_ll F i).toInt = (G 10 i).toInt - (G 10 i).toInt % (md_ll F i).toInt := by rw [q_m32 (by rw [pm]; omega) (by rw [pm]; omega), pm]
        rw [q_s32 (by rw [mm, tc]; omega) (by rw [mm, tc]; omega), mm, tc]
        omega
      have gap : ¬ F 8 i = 1 → (f_Leaders_gap (F 8 i) (md_ll F i) ln).toInt = (((G 10 i) - (((md_drawn F G i)).toInt64 * ((md_ll F i)).toInt64)) / (((md_drawn F G i)).toInt64 + 1)).toInt ∧ 0 ≤ (f_Leaders_gap (F 8 i) (md_ll F i) ln).toInt ∧ (f_Leaders_gap (F 8 i) (md_ll F i) ln).toInt ≤ 1000000 := by
        intro k
        have hk := hnk k
        have p1 : (ln / md_ll F i + 1).toInt = n + 1 := by rw [q_a32 (by rw [d32, q_1]; omega) (by rw [d32, q_1]; omega), d32, q_1]; omega
        have p2 : ((md_drawn F G i).toInt64 + 1).toInt = n + 1 := by rw [q_a64 (by rw [e64, show (1 : Int64).toInt = 1 from rfl]; omega) (by rw [e64, show (1 : Int64).toInt = 1 from rfl]; omega), e64]; rfl
        have td := (q_td (a := (G 10 i).toInt % (md_ll F i).toInt) (b := n + 1) (by omega)).1 m1
        have gv : (f_Leaders_gap (F 8 i) (md_ll F i) ln).toInt = ((G 10 i).toInt % (md_ll F i).toInt).tdiv (n + 1) := by
          unfold f_Leaders_gap
          rw [if_neg hle, if_pos hC, q_d32 (by rw [p1]; omega), left32, p1]
        refine ⟨?_, by rw [gv]; omega, by rw [gv]; omega⟩
        rw [gv, q_d64 (by rw [p2]; omega), left k, p2]
      refine ⟨eD, ?_, ?_, by rw [hnr]; exact hn0, by rw [hnr]; exact hn1⟩
      · unfold f_Leaders_first md_fo
        rw [if_neg hle, eD]
        by_cases hz : md_drawn F G i = 0
        · rw [if_pos hz, if_pos hz]
          rfl
        · rw [if_neg hz, if_neg hz]
          by_cases k1 : F 8 i = 1
          · rw [if_pos k1, if_pos k1]
            apply Int32.toInt_inj.mp
            rw [q_m32 (by rw [af, ce]; omega) (by rw [af, ce]; omega), af, ce, q_c32 (by rw [fp]; omega) (by rw [fp]; omega), fp]
          · rw [if_neg k1, if_neg k1]
            by_cases k2 : F 8 i = 2
            · rw [if_pos k2, if_pos k2, Int64.toInt32_add, ← epl]
              congr 1
              apply Int32.toInt_inj.mp
              have td := (q_td (a := (G 10 i).toInt % (md_ll F i).toInt) (b := 2) (by omega)).1 m1
              have v : (((G 10 i) - (((md_drawn F G i)).toInt64 * ((md_ll F i)).toInt64)) / 2).toInt = ((G 10 i).toInt % (md_ll F i).toInt).tdiv 2 := by
                rw [q_d64 (by decide), left k1]; rfl
              rw [q_d32 (by decide), left32, q_c32 (by rw [v]; omega) (by rw [v]; omega), v]
              rfl
            · rw [if_neg k2, if_neg k2, Int64.toInt32_add, ← epl]
              congr 1
              have gg := gap k1
              apply Int32.toInt_inj.mp
              rw [q_c32 (by rw [← gg.1]; omega) (by rw [← gg.1]; omega), gg.1]
      · unfold f_Leaders_step md_so
        rw [eD]
        by_cases hz : md_drawn F G i = 0
        · rw [if_pos hz, if_pos hz]
          rfl
        · rw [if_neg hz, if_neg hz]
          by_cases k3 : F 8 i = 3
          · have k1 : ¬ F 8 i = 1 := by rw [k3]; decide
            have gg := gap k1
            rw [if_pos k3, if_pos k3, Int64.toInt32_add, Int32.toInt32_toInt64]
            congr 1
            apply Int32.toInt_inj.mp
            rw [q_c32 (by rw [← gg.1]; omega) (by rw [← gg.1]; omega), gg.1]
          · rw [if_neg k3, if_neg k3, Int32.toInt32_toInt64]
    · have hC64 : ¬ 0 ≤ lg_cmp (G 10 i) ((md_ll F i).toInt64) := by
        rw [lg_cmp_ge, Int64.le_iff_toInt_le, eB]
        rw [Int32.le_iff_toInt_le, tc] at hC
        exact hC
      have d0 : md_drawn F G i = 0 := by unfold md_drawn; rw [if_neg h8, if_neg hB, if_neg hC64]
      have c0 : f_Leaders_drawn (F 8 i) (md_ll F i) pl ln = 0 := by unfold f_Leaders_drawn; rw [if_neg hle, if_neg hC]
      refine ⟨by rw [c0, d0], ?_, ?_, by rw [d0]; decide, by rw [d0]; decide⟩
      · unfold f_Leaders_first md_fo
        rw [if_pos d0, if_neg hle, c0, if_pos rfl]
        rfl
      · unfold f_Leaders_step md_so
        rw [c0, if_pos rfl, if_pos d0]
        rfl

/-! what packing gives: lengths, places, heights, depths -/
section
variable {F : Nat → Nat → Int32} {bx n : Nat} {its : Nat → Nat → Int32} {p0 : Int32}
theorem p_bef (X d : Int32) (i : Nat) : s_bef its d X i = l_giv its (if X ≤ 0 then 0 else 1) d i := by
  unfold s_bef l_giv
  congr 1
  funext k
  unfold t_giv
  by_cases e : X ≤ 0
  · rw [if_pos e, if_pos e]
  · rw [if_neg e, if_neg e]
def p_A (F : Nat → Nat → Int32) (n : Nat) (p0 : Int32) (j : Nat) : Int64 := ((mp_sh2 F n p0) * (md_sum F (mp_up F n p0) (mp_by F n p0) j)) / (mp_all F n p0)
theorem p_g {X : Int32} (h : ∀ i, i < n → rIt F bx i (its i)) (hn : n ≤ 40) (hX : mp_x F n p0 = X.toInt64) (hX0 : -41000000 ≤ X.toInt) (hX1 : X.toInt ≤ 41000000) {i : Nat} (hi : i < n) (hb : 0 ≤ (t_ord its n X).toInt) :
    mp_g F n p0 i = if X ≤ 0 then (md_len F i).toInt64 - (p_A F n p0 (i + 1) - p_A F n p0 i) else (md_len F i).toInt64 + (p_A F n p0 (i + 1) - p_A F n p0 i) := by
  obtain ⟨up, by_, all, s0, s1, last⟩ := p_fit h hn hX hX0 hX1
  have nb : ¬ mp_by F n p0 < 0 := by rw [by_, Int32.lt_iff_toInt_lt]; exact fun q => by have : (0 : Int32).toInt = 0 := rfl; omega
  obtain ⟨g1, -, -, -, g5, g6, g7⟩ := r_giv (h i hi) (mp_up F n p0) (mp_by F n p0)
  have same : i_giving (its i) (mp_up F n p0) (mp_by F n p0) = 0 → p_A F n p0 (i + 1) = p_A F n p0 i := by
    intro q
    unfold p_A
    have : md_sum F (mp_up F n p0) (mp_by F n p0) (i + 1) = md_sum F (mp_up F n p0) (mp_by F n p0) i := by
      show md_sum F (mp_up F n p0) (mp_by F n p0) i + md_giv F (mp_up F n p0) (mp_by F n p0) i = _
      rw [g1, q]
      exact Int64.add_zero _
    rw [this]
  have z : ∀ a : Int64, a - a = 0 := fun a => Int64.sub_self a
  have keep : i_giving (its i) (mp_up F n p0) (mp_by F n p0) = 0 → (if X ≤ 0 then (md_len F i).toInt64 - (p_A F n p0 (i + 1) - p_A F n p0 i) else (md_len F i).toInt64 + (p_A F n p0 (i + 1) - p_A F n p0 i)) = (md_len F i).toInt64 := by
    intro q
    rw [same q, z, Int64.sub_zero, Int64.add_zero]
    by_cases e : X ≤ 0
    · rw [if_pos e]
    · rw [if_neg e]
  unfold mp_g
  rw [if_neg nb]
  by_cases e0 : F 0 i = 2
  · rw [if_pos e0]
    by_cases e : X ≤ 0
    · have u : mp_up F n p0 = 0 := by rw [up, if_pos e]
      rw [if_pos u]
      by_cases e7 : F 7 i = mp_by F n p0
      · rw [if_pos e7, if_pos e]
        rfl
      · rw [if_neg e7, keep (g5 e0 u e7)]
    · have u : ¬ mp_up F n p0 = 0 := by rw [up, if_neg e]; decide
      rw [if_neg u]
      by_cases e5 : F 5 i = mp_by F n p0
      · rw [if_pos e5, if_neg e]
        rfl
      · rw [if_neg e5, keep (g6 e0 u e5)]
  · rw [if_neg e0, keep (g7 e0)]
theorem p_Ab {X : Int32} (h : ∀ i, i < n → rIt F bx i (its i)) (hn : n ≤ 40) (hX : mp_x F n p0 = X.toInt64) (hX0 : -41000000 ≤ X.toInt) (hX1 : X.toInt ≤ 41000000) {j : Nat} (hj : j ≤ n) (hb : 0 < (t_sum its n X).toInt) : 0 ≤ (p_A F n p0 j).toInt ∧ (p_A F n p0 j).toInt ≤ 41000000 := by
  obtain ⟨up, by_, all, s0, s1, last⟩ := p_fit h hn hX hX0 hX1
  obtain ⟨-, -, -, -, t0, t1⟩ := p_bad (f0 := 0) h hn hX hX0 hX1
  have e1 := (r_sum h hn (mp_up F n p0) (mp_by F n p0) j hj)
  have mo := r_mono h hn (mp_up F n p0) (mp_by F n p0) (n - j) j (by omega)
  rw [show j + (n - j) = n by omega] at mo
  have ts : l_giv its (mp_up F n p0) (mp_by F n p0) n = t_sum its n X := by
    rw [up, by_]
    unfold t_sum
    by_cases e : X ≤ 0
    · rw [if_pos e, if_pos e]
    · rw [if_neg e, if_neg e]
  rw [ts] at mo
  have S : (md_sum F (mp_up F n p0) (mp_by F n p0) j).toInt = (l_giv its (mp_up F n p0) (mp_by F n p0) j).toInt := by rw [e1.1, Int32.toInt_toInt64]
  have a64 : (mp_all F n p0).toInt = (t_sum its n X).toInt := by rw [all, Int32.toInt_toInt64]
  have mb := q_mulb t0 t1 e1.2.1 (show _ ≤ (40000 : Int) by omega)
  have m : (mp_sh2 F n p0 * md_sum F (mp_up F n p0) (mp_by F n p0) j).toInt = (mp_sh2 F n p0).toInt * (l_giv its (mp_up F n p0) (mp_by F n p0) j).toInt := by
    rw [q_m64 (by rw [S]; omega) (by rw [S]; omega), S]
  unfold p_A
  rw [q_d64 (by rw [a64]; exact hb), m, a64, Int.tdiv_eq_ediv_of_nonneg mb.1]
  refine ⟨Int.ediv_nonneg mb.1 (by omega), ?_⟩
  have k := Int.ediv_le_ediv hb (Int.mul_le_mul_of_nonneg_left mo t0)
  rw [Int.mul_ediv_cancel _ (by omega)] at k
  omega
theorem p_len {X f0 : Int32} (h : ∀ i, i < n → rIt F bx i (its i)) (hn : n ≤ 40) (hX : mp_x F n p0 = X.toInt64) (hX0 : -41000000 ≤ X.toInt) (hX1 : X.toInt ≤ 41000000) {i : Nat} (hi : i < n) :
    s_len its f0 (t_ord its n X) X (t_sum its n X) i = (mp_g F n p0 i).toInt32 ∧ -42000000 ≤ (mp_g F n p0 i).toInt ∧ (mp_g F n p0 i).toInt ≤ 42000000 := by
  obtain ⟨up, by_, all, s0, s1, last⟩ := p_fit h hn hX hX0 hX1
  obtain ⟨-, -, l1, l2, -⟩ := h i hi
  have l64 : ((md_len F i).toInt64).toInt = (md_len F i).toInt := Int32.toInt_toInt64 _
  unfold s_len f_Fit_change
  rw [l1]
  rcases last with q | q
  · obtain ⟨-, -, d1, d2, t0, t1⟩ := p_bad (f0 := f0) h hn hX hX0 hX1
    have hne : ¬ t_sum its n X = 0 := fun w => by rw [w] at q; exact absurd q.2 (by decide)
    have a64 : (mp_all F n p0).toInt = (t_sum its n X).toInt := by rw [all, Int32.toInt_toInt64]
    have sb : ∀ j, j ≤ n → (s_bef its (t_ord its n X) X j).toInt64 = md_sum F (mp_up F n p0) (mp_by F n p0) j := by
      intro j hj
      rw [p_bef, up, by_, (r_sum h hn _ _ j hj).1]
    have share : ∀ j, j ≤ n → f_Fit_share f0 (t_ord its n X) X (t_sum its n X) (s_bef its (t_ord its n X) X j) = if X ≤ 0 then -(p_A F n p0 j).toInt32 else (p_A F n p0 j).toInt32 := by
      intro j hj
      unfold f_Fit_share
      rw [if_neg hne, sb j hj, ← all]
      by_cases e : X ≤ 0
      · have e1 := (r_sum h hn (mp_up F n p0) (mp_by F n p0) j hj)
        have S : (md_sum F (mp_up F n p0) (mp_by F n p0) j).toInt = (l_giv its (mp_up F n p0) (mp_by F n p0) j).toInt := by rw [e1.1, Int32.toInt_toInt64]
        have mb := q_mulb t0 t1 e1.2.1 (show _ ≤ (40000 : Int) by omega)
        rw [if_pos e, d1 e, Int64.neg_mul, q_neg_div (by rw [a64]; exact q.2) (by rw [q_m64 (by rw [S]; omega) (by rw [S]; omega), S]; omega), Int64.toInt32_neg]
        rfl
      · rw [if_neg e, d2 e]
        rfl
    rw [share i (by omega), share (i + 1) (by omega), p_g h hn hX hX0 hX1 hi q.1]
    have A0 := p_Ab h hn hX hX0 hX1 (j := i) (by omega) q.2
    have A1 := p_Ab h hn hX hX0 hX1 (j := i + 1) (by omega) q.2
    have dA : (p_A F n p0 (i + 1) - p_A F n p0 i).toInt = (p_A F n p0 (i + 1)).toInt - (p_A F n p0 i).toInt := q_s64 (by omega) (by omega)
    by_cases e : X ≤ 0
    · rw [if_pos e, if_pos e, if_pos e]
      refine ⟨?_, ?_⟩
      · rw [Int64.toInt32_sub, Int64.toInt32_sub, Int32.toInt32_toInt64]
        generalize (p_A F n p0 (i + 1)).toInt32 = a
        generalize (p_A F n p0 i).toInt32 = b
        rw [Int32.sub_eq_add_neg (md_len F i), Int32.neg_sub, Int32.sub_eq_add_neg (-a), Int32.neg_neg, Int32.add_comm (-a), Int32.sub_eq_add_neg b]
      · have : ((md_len F i).toInt64 - (p_A F n p0 (i + 1) - p_A F n p0 i)).toInt = (md_len F i).toInt - ((p_A F n p0 (i + 1)).toInt - (p_A F n p0 i).toInt) := by
          rw [q_s64 (by rw [l64, dA]; omega) (by rw [l64, dA]; omega), l64, dA]
        rw [this]
        omega
    · rw [if_neg e, if_neg e, if_neg e]
      refine ⟨?_, ?_⟩
      · rw [Int64.toInt32_add, Int64.toInt32_sub, Int32.toInt32_toInt64]
      · have : ((md_len F i).toInt64 + (p_A F n p0 (i + 1) - p_A F n p0 i)).toInt = (md_len F i).toInt + ((p_A F n p0 (i + 1)).toInt - (p_A F n p0 i).toInt) := by
          rw [q_a64 (by rw [l64, dA]; omega) (by rw [l64, dA]; omega), l64, dA]
        rw [this]
        omega
  · have nb : mp_by F n p0 < 0 := by rw [by_, q.1]; decide
    have g : mp_g F n p0 i = (md_len F i).toInt64 := by unfold mp_g; rw [if_pos nb]
    have sh : ∀ a, f_Fit_share f0 (t_ord its n X) X (t_sum its n X) a = 0 := fun a => by unfold f_Fit_share; rw [if_pos q.2]
    rw [g, sh, sh, Int32.toInt32_toInt64, l64]
    refine ⟨?_, by omega, by omega⟩
    rw [Int32.sub_self, Int32.add_zero]
theorem p_pl {X f0 : Int32} (h : ∀ i, i < n → rIt F bx i (its i)) (hn : n ≤ 40) (hX : mp_x F n p0 = X.toInt64) (hX0 : -41000000 ≤ X.toInt) (hX1 : X.toInt ≤ 41000000) : ∀ i, i ≤ n →
    s_pl its f0 (t_ord its n X) X (t_sum its n X) i = (mp_at F n p0 i).toInt32 ∧ -42000000 * (i : Int) ≤ (mp_at F n p0 i).toInt ∧ (mp_at F n p0 i).toInt ≤ 42000000 * (i : Int) := by
  intro i
  induction i with
  | zero => exact fun _ => ⟨rfl, by show -42000000 * 0 ≤ (0 : Int64).toInt; decide, by show (0 : Int64).toInt ≤ 42000000 * 0; decide⟩
  | succ i ih =>
    intro hi
    obtain ⟨a1, a2, a3⟩ := ih (by omega)
    obtain ⟨b1, b2, b3⟩ := p_len (f0 := f0) h hn hX hX0 hX1 (i := i) (by omega)
    have e : (mp_at F n p0 (i + 1)).toInt = (mp_at F n p0 i).toInt + (mp_g F n p0 i).toInt := by
      show (mp_at F n p0 i + mp_g F n p0 i).toInt = _
      rw [q_a64 (by omega) (by omega)]
    refine ⟨?_, by omega, by omega⟩
    show s_pl its f0 (t_ord its n X) X (t_sum its n X) i + s_len its f0 (t_ord its n X) X (t_sum its n X) i = (mp_at F n p0 i + mp_g F n p0 i).toInt32
    rw [a1, b1, Int64.toInt32_add]
theorem p_h (h : ∀ i, i < n → rIt F bx i (its i)) : ∀ i, i ≤ n → m_h its i = mp_H F i ∧ m_d its i = mp_D F i := by
  intro i
  induction i with
  | zero => exact fun _ => ⟨rfl, rfl⟩
  | succ i ih =>
    intro hi
    obtain ⟨a1, a2⟩ := ih (by omega)
    obtain ⟨-, -, -, -, -, hh, hd, -⟩ := h i (by omega)
    have lt : ∀ a b c : Int32, (if a < b then b else a) = (if b ≤ a then a else b) := by
      intro a b c
      by_cases e : a < b
      · rw [if_pos e, if_neg (by rw [Int32.lt_iff_toInt_lt] at e; rw [Int32.le_iff_toInt_le]; omega)]
      · rw [if_neg e, if_pos (by rw [Int32.lt_iff_toInt_lt] at e; rw [Int32.le_iff_toInt_le]; omega)]
    refine ⟨?_, ?_⟩
    · show (if m_h its i < i_height (its i) 0 then i_height (its i) 0 else m_h its i) = (if md_h F i 0 ≤ mp_H F i then mp_H F i else md_h F i 0)
      rw [hh, a1]
      exact lt _ _ 0
    · show (if m_d its i < i_depth (its i) 0 then i_depth (its i) 0 else m_d its i) = (if md_d F i 0 ≤ mp_D F i then mp_D F i else md_d F i 0)
      rw [hd, a2]
      exact lt _ _ 0
end

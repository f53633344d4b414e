/-! rows of the reference and items of the class -/
def rIt (F : Nat → Nat → Int32) (bx r : Nat) (it : Nat → Int32) : Prop :=
  it 0 = F 0 r ∧ (F 0 r = 1 ∨ F 0 r = 2 ∨ F 0 r = 3 ∨ F 0 r = 4) ∧ it 1 = md_len F r ∧ (-1000000 ≤ (md_len F r).toInt ∧ (md_len F r).toInt ≤ 1000000) ∧
  (F 0 r = 2 → (it 4 = F 4 r ∧ it 5 = F 5 r ∧ it 6 = F 6 r ∧ it 7 = F 7 r) ∧ (0 ≤ (F 4 r).toInt ∧ (F 4 r).toInt ≤ 1000) ∧ (0 ≤ (F 5 r).toInt ∧ (F 5 r).toInt ≤ 3) ∧ (0 ≤ (F 6 r).toInt ∧ (F 6 r).toInt ≤ 1000) ∧ (0 ≤ (F 7 r).toInt ∧ (F 7 r).toInt ≤ 3)) ∧
  (∀ q, i_height it q = md_h F r q) ∧ (∀ q, i_depth it q = md_d F r q) ∧ mW F bx r ∧
  ((F 0 r = 2 ∧ ¬ F 8 r = 0 ∧ it 8 = F 8 r ∧ it 9 = md_ll F r ∧ 0 ≤ (md_ll F r).toInt ∧ (md_ll F r).toInt ≤ 1000000) ∨ (F 8 r = 0 ∧ (F 0 r = 2 → it 8 = 0 ∧ it 9 = 0)))
theorem r_giv {F : Nat → Nat → Int32} {bx r : Nat} {it : Nat → Int32} (h : rIt F bx r it) (b d : Int32) : md_giv F b d r = (i_giving it b d).toInt64 ∧ 0 ≤ (i_giving it b d).toInt ∧ (i_giving it b d).toInt ≤ 1000 ∧ (d.toInt < 0 → i_giving it b d = 0) ∧ (F 0 r = 2 → b = 0 → ¬ F 7 r = d → i_giving it b d = 0) ∧ (F 0 r = 2 → ¬ b = 0 → ¬ F 5 r = d → i_giving it b d = 0) ∧ (¬ F 0 r = 2 → i_giving it b d = 0) := by
  obtain ⟨h0, -, -, -, h2, -⟩ := h
  have z : (0 : Int32).toInt = 0 := rfl
  have z64 : (0 : Int64) = (0 : Int32).toInt64 := rfl
  unfold md_giv i_giving
  rw [h0]
  by_cases e : F 0 r = 2
  · rw [if_pos e, if_pos e]
    obtain ⟨⟨a4, a5, a6, a7⟩, b4, b5, b6, b7⟩ := h2 e
    unfold f_Glue_giving
    rw [a4, a5, a6, a7]
    by_cases eb : b = 0
    · rw [if_pos eb, if_pos eb]
      by_cases ed : F 7 r = d
      · rw [if_pos ed, if_pos ed.symm]
        exact ⟨rfl, b6.1, b6.2, fun h => by rw [← ed] at h; omega, fun _ _ h => absurd ed h, fun _ h => absurd eb h, fun h => absurd e h⟩
      · rw [if_neg ed, if_neg (fun q => ed q.symm)]
        exact ⟨z64, by omega, by omega, fun _ => rfl, fun _ _ _ => rfl, fun _ _ _ => rfl, fun _ => rfl⟩
    · rw [if_neg eb, if_neg eb]
      by_cases ed : F 5 r = d
      · rw [if_pos ed, if_pos ed.symm]
        exact ⟨rfl, b4.1, b4.2, fun h => by rw [← ed] at h; omega, fun _ h => absurd h eb, fun _ _ h => absurd ed h, fun h => absurd e h⟩
      · rw [if_neg ed, if_neg (fun q => ed q.symm)]
        exact ⟨z64, by omega, by omega, fun _ => rfl, fun _ _ _ => rfl, fun _ _ _ => rfl, fun _ => rfl⟩
  · rw [if_neg e, if_neg e]
    exact ⟨z64, by omega, by omega, fun _ => rfl, fun _ _ _ => rfl, fun _ _ _ => rfl, fun _ => rfl⟩
section
variable {F : Nat → Nat → Int32} {bx n : Nat} {its : Nat → Nat → Int32}
theorem r_sum (h : ∀ i, i < n → rIt F bx i (its i)) (hn : n ≤ 40) (b d : Int32) : ∀ k, k ≤ n → md_sum F b d k = (l_giv its b d k).toInt64 ∧ 0 ≤ (l_giv its b d k).toInt ∧ (l_giv its b d k).toInt ≤ 1000 * (k : Int) ∧ (d.toInt < 0 → l_giv its b d k = 0) := by
  intro k
  induction k with
  | zero => exact fun _ => ⟨rfl, by show (0 : Int) ≤ (0 : Int32).toInt; decide, by show (0 : Int32).toInt ≤ 1000 * 0; decide, fun _ => rfl⟩
  | succ k ih =>
    intro hk
    obtain ⟨a1, a2, a3, a4⟩ := ih (by omega)
    obtain ⟨b1, b2, b3, b4, -⟩ := r_giv (h k (by omega)) b d
    have e : l_giv its b d (k + 1) = l_giv its b d k + i_giving (its k) b d := rfl
    have t : (l_giv its b d (k + 1)).toInt = (l_giv its b d k).toInt + (i_giving (its k) b d).toInt := by rw [e, q_a32 (by omega) (by omega)]
    refine ⟨?_, by omega, by omega, fun hd => by rw [e, a4 hd, b4 hd]; rfl⟩
    apply q_eq64
    show (md_sum F b d k + md_giv F b d k).toInt = _
    have x1 : (md_sum F b d k).toInt = (l_giv its b d k).toInt := by rw [a1, Int32.toInt_toInt64]
    have x2 : (md_giv F b d k).toInt = (i_giving (its k) b d).toInt := by rw [b1, Int32.toInt_toInt64]
    rw [q_a64 (by omega) (by omega), x1, x2, t]
theorem r_mono (h : ∀ i, i < n → rIt F bx i (its i)) (hn : n ≤ 40) (b d : Int32) : ∀ j k, k + j ≤ n → (l_giv its b d k).toInt ≤ (l_giv its b d (k + j)).toInt := by
  intro j
  induction j with
  | zero => exact fun k _ => Int.le_refl _
  | succ j ih =>
    intro k hk
    have a := ih k (by omega)
    obtain ⟨-, a2, a3, -⟩ := r_sum h hn b d (k + j) (by omega)
    obtain ⟨-, b2, b3, -⟩ := r_giv (h (k + j) (by omega)) b d
    have t : (l_giv its b d (k + j + 1)).toInt = (l_giv its b d (k + j)).toInt + (i_giving (its (k + j)) b d).toInt := by
      show (l_giv its b d (k + j) + i_giving (its (k + j)) b d).toInt = _
      rw [q_a32 (by omega) (by omega)]
    rw [show k + (j + 1) = k + j + 1 by omega, t]
    omega
theorem r_nat (h : ∀ i, i < n → rIt F bx i (its i)) (hn : n ≤ 40) : ∀ k, k ≤ n → md_nat F k = (l_len its k).toInt64 ∧ -1000000 * (k : Int) ≤ (l_len its k).toInt ∧ (l_len its k).toInt ≤ 1000000 * (k : Int) := by
  intro k
  induction k with
  | zero => exact fun _ => ⟨rfl, by show -1000000 * 0 ≤ (0 : Int32).toInt; decide, by show (0 : Int32).toInt ≤ 1000000 * 0; decide⟩
  | succ k ih =>
    intro hk
    obtain ⟨a1, a2, a3⟩ := ih (by omega)
    obtain ⟨-, -, b1, b2, -⟩ := h k (by omega)
    have t : (l_len its (k + 1)).toInt = (l_len its k).toInt + (md_len F k).toInt := by
      show (l_len its k + its k 1).toInt = _
      rw [b1, q_a32 (by omega) (by omega)]
    refine ⟨?_, by omega, by omega⟩
    apply q_eq64
    show (md_nat F k + (md_len F k).toInt64).toInt = _
    have x1 : (md_nat F k).toInt = (l_len its k).toInt := by rw [a1, Int32.toInt_toInt64]
    have x2 : ((md_len F k).toInt64).toInt = (md_len F k).toInt := Int32.toInt_toInt64 _
    rw [q_a64 (by omega) (by omega), x1, x2, t]
theorem r_z (h : ∀ i, i < n → rIt F bx i (its i)) (hn : n ≤ 40) (b d : Int32) : lg_cmp (md_sum F b d n) 0 = 0 ↔ l_giv its b d n = 0 := by
  obtain ⟨a1, -⟩ := r_sum h hn b d n (Nat.le_refl n)
  rw [lg_cmp_eq, a1]
  refine ⟨fun q => Int32.toInt_inj.mp ?_, fun q => by rw [q]; rfl⟩
  rw [← Int32.toInt_toInt64, q]
  rfl
theorem r_go (h : ∀ i, i < n → rIt F bx i (its i)) (hn : n ≤ 40) (b : Int32) : md_go F n b = l_go its b n := by
  unfold md_go l_go
  simp only [r_z h hn]
theorem r_go2 (b : Int32) : (l_go its b n = -1) ∨ ((0 ≤ (l_go its b n).toInt ∧ (l_go its b n).toInt ≤ 3) ∧ ¬ l_giv its b (l_go its b n) n = 0) := by
  unfold l_go
  by_cases h3 : l_giv its b 3 n = 0
  · rw [if_pos h3]
    by_cases h2 : l_giv its b 2 n = 0
    · rw [if_pos h2]
      by_cases h1 : l_giv its b 1 n = 0
      · rw [if_pos h1]
        by_cases h0 : l_giv its b 0 n = 0
        · rw [if_pos h0]
          exact Or.inl rfl
        · rw [if_neg h0]
          exact Or.inr ⟨by decide, h0⟩
      · rw [if_neg h1]
        exact Or.inr ⟨by decide, h1⟩
    · rw [if_neg h2]
      exact Or.inr ⟨by decide, h2⟩
  · rw [if_neg h3]
    exact Or.inr ⟨by decide, h3⟩
end

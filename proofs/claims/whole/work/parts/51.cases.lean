/-! the law: cases of the calls -/
theorem lw_c_box (nb : Nat) (a b c : Int32) : (f_BG_isExtent a = 0 ∨ f_BG_isExtent b = 0 ∨ f_BG_isExtent c = 0) ∨ (¬ f_BG_isExtent a = 0 ∧ ¬ f_BG_isExtent b = 0 ∧ ¬ f_BG_isExtent c = 0 ∧ 60 ≤ nb) ∨ (¬ f_BG_isExtent a = 0 ∧ ¬ f_BG_isExtent b = 0 ∧ ¬ f_BG_isExtent c = 0 ∧ nb < 60) := by
  by_cases h : f_BG_isExtent a = 0 ∨ f_BG_isExtent b = 0 ∨ f_BG_isExtent c = 0
  · exact Or.inl h
  · rcases Nat.lt_or_ge nb 60 with q | q
    · exact Or.inr (Or.inr ⟨fun w => h (Or.inl w), fun w => h (Or.inr (Or.inl w)), fun w => h (Or.inr (Or.inr w)), q⟩)
    · exact Or.inr (Or.inl ⟨fun w => h (Or.inl w), fun w => h (Or.inr (Or.inl w)), fun w => h (Or.inr (Or.inr w)), q⟩)
theorem lw_c_put {nb : Nat} (hb : nb ≤ 60) (n : Nat) (a b : Int32) : (a < 0 ∨ nI nb ≤ a) ∨ ∃ k, k < nb ∧ a = nI k ∧ (f_BG_isLength b = 0 ∨ (¬ f_BG_isLength b = 0 ∧ 40 ≤ n) ∨ (¬ f_BG_isLength b = 0 ∧ n < 40)) := by
  rcases lw_ix hb a with h | ⟨k, hk, rfl⟩
  · exact Or.inl h
  · refine Or.inr ⟨k, hk, rfl, ?_⟩
    by_cases h : f_BG_isLength b = 0
    · exact Or.inl h
    · rcases Nat.lt_or_ge n 40 with q | q
      · exact Or.inr (Or.inr ⟨h, q⟩)
      · exact Or.inr (Or.inl ⟨h, q⟩)
theorem lw_c_glue (n : Nat) (a b c d e : Int32) : (f_BG_isLength a = 0 ∨ f_BG_isGiving b c = 0 ∨ f_BG_isGiving d e = 0) ∨ (¬ f_BG_isLength a = 0 ∧ ¬ f_BG_isGiving b c = 0 ∧ ¬ f_BG_isGiving d e = 0 ∧ 40 ≤ n) ∨ (¬ f_BG_isLength a = 0 ∧ ¬ f_BG_isGiving b c = 0 ∧ ¬ f_BG_isGiving d e = 0 ∧ n < 40) := by
  by_cases h : f_BG_isLength a = 0 ∨ f_BG_isGiving b c = 0 ∨ f_BG_isGiving d e = 0
  · exact Or.inl h
  · rcases Nat.lt_or_ge n 40 with q | q
    · exact Or.inr (Or.inr ⟨fun w => h (Or.inl w), fun w => h (Or.inr (Or.inl w)), fun w => h (Or.inr (Or.inr w)), q⟩)
    · exact Or.inr (Or.inl ⟨fun w => h (Or.inl w), fun w => h (Or.inr (Or.inl w)), fun w => h (Or.inr (Or.inr w)), q⟩)
theorem lw_c_kern (n : Nat) (a : Int32) : f_BG_isLength a = 0 ∨ (¬ f_BG_isLength a = 0 ∧ 40 ≤ n) ∨ (¬ f_BG_isLength a = 0 ∧ n < 40) := by
  by_cases h : f_BG_isLength a = 0
  · exact Or.inl h
  · rcases Nat.lt_or_ge n 40 with q | q
    · exact Or.inr (Or.inr ⟨h, q⟩)
    · exact Or.inr (Or.inl ⟨h, q⟩)
def lw_RR (a b c : Int32) : Prop := ¬ f_Mod_isIn a 0 100000 = 0 ∧ (b = (-1000000) ∨ ¬ f_Mod_isIn b 0 100000 = 0) ∧ (c = (-1000000) ∨ ¬ f_Mod_isIn c 0 100000 = 0)
theorem lw_c_rule (n : Nat) (a b c : Int32) : ((f_BG_isExtent a = 0 ∨ f_BG_isExtentOrRunning b = 0 ∨ f_BG_isExtentOrRunning c = 0) ∧ ¬ lw_RR a b c) ∨ (¬ f_BG_isExtent a = 0 ∧ ¬ f_BG_isExtentOrRunning b = 0 ∧ ¬ f_BG_isExtentOrRunning c = 0 ∧ lw_RR a b c ∧ 40 ≤ n) ∨ (¬ f_BG_isExtent a = 0 ∧ ¬ f_BG_isExtentOrRunning b = 0 ∧ ¬ f_BG_isExtentOrRunning c = 0 ∧ lw_RR a b c ∧ n < 40) := by
  by_cases h : f_BG_isExtent a = 0 ∨ f_BG_isExtentOrRunning b = 0 ∨ f_BG_isExtentOrRunning c = 0
  · refine Or.inl ⟨h, fun r => ?_⟩
    rcases h with h | h | h
    · exact r.1 h
    · exact a_run.mp h r.2.1
    · exact a_run.mp h r.2.2
  · have h0 : ¬ f_BG_isExtent a = 0 := fun w => h (Or.inl w)
    have h1 : ¬ f_BG_isExtentOrRunning b = 0 := fun w => h (Or.inr (Or.inl w))
    have h2 : ¬ f_BG_isExtentOrRunning c = 0 := fun w => h (Or.inr (Or.inr w))
    have hR : lw_RR a b c := ⟨h0, Decidable.of_not_not (fun w => h1 (a_run.mpr w)), Decidable.of_not_not (fun w => h2 (a_run.mpr w))⟩
    rcases Nat.lt_or_ge n 40 with q | q
    · exact Or.inr (Or.inr ⟨h0, h1, h2, hR, q⟩)
    · exact Or.inr (Or.inl ⟨h0, h1, h2, hR, q⟩)
theorem lw_c_lead {nb : Nat} (hb : nb ≤ 60) (n : Nat) (F : Nat → Nat → Int32) (a b : Int32) : (a < 1 ∨ 3 < a) ∨ (¬ a < 1 ∧ ¬ 3 < a ∧ ¬ f_Mod_isIn a 1 3 = 0 ∧ ((b < 0 ∨ nI nb ≤ b) ∨ ∃ k, k < nb ∧ b = nI k ∧ (n = 0 ∨ ∃ j, n = j + 1 ∧ (¬ F 0 j = 2 ∨ F 0 j = 2)))) := by
  by_cases h : a < 1 ∨ 3 < a
  · exact Or.inl h
  · refine Or.inr ⟨fun w => h (Or.inl w), fun w => h (Or.inr w), fun w => h (a_in.mp w), ?_⟩
    rcases lw_ix hb b with q | ⟨k, hk, rfl⟩
    · exact Or.inl q
    · refine Or.inr ⟨k, hk, rfl, ?_⟩
      rcases lw_n n with q | ⟨j, q⟩
      · exact Or.inl q
      · exact Or.inr ⟨j, q, (Decidable.em (F 0 j = 2)).symm⟩
theorem lw_c_pack (n nb ib : Nat) (len a : Int32) : (a < (-1) ∨ ¬ a ≤ 1000000) ∨ (¬ a < (-1) ∧ a ≤ 1000000 ∧ (a = (-1) ∧ ¬ len ≤ 1000000)) ∨ (¬ a < (-1) ∧ a ≤ 1000000 ∧ (a = (-1) → len ≤ 1000000) ∧ (nb = 60 ∨ 300 < ib + n ∨ 60 < nb)) ∨ (¬ a < (-1) ∧ a ≤ 1000000 ∧ (a = (-1) → len ≤ 1000000) ∧ nb < 60 ∧ ib + n ≤ 300) := by
  by_cases h : a < (-1) ∨ ¬ a ≤ 1000000
  · exact Or.inl h
  · have h1 : ¬ a < (-1) := fun w => h (Or.inl w)
    have h2 : a ≤ 1000000 := Decidable.of_not_not (fun w => h (Or.inr w))
    by_cases g : a = (-1) ∧ ¬ len ≤ 1000000
    · exact Or.inr (Or.inl ⟨h1, h2, g⟩)
    · have h3 : a = (-1) → len ≤ 1000000 := fun e => Decidable.of_not_not (fun w => g ⟨e, w⟩)
      by_cases k : nb < 60 ∧ ib + n ≤ 300
      · exact Or.inr (Or.inr (Or.inr ⟨h1, h2, h3, k.1, k.2⟩))
      · exact Or.inr (Or.inr (Or.inl ⟨h1, h2, h3, by omega⟩))
theorem lw_c_un {nb : Nat} (hb : nb ≤ 60) (f : Nat → Nat) (a : Int32) : (a < 0 ∨ nI nb ≤ a) ∨ ∃ k, k < nb ∧ a = nI k ∧ (40 < f k ∨ f k ≤ 40) := by
  rcases lw_ix hb a with h | ⟨k, hk, rfl⟩
  · exact Or.inl h
  · exact Or.inr ⟨k, hk, rfl, by omega⟩
theorem lw_c_told {nb : Nat} (hb : nb ≤ 60) (a b : Int32) : (a < 0 ∨ nI nb ≤ a) ∨ ∃ k, k < nb ∧ a = nI k ∧ (f_Mod_isIn b 0 7 = 0 ∨ ¬ f_Mod_isIn b 0 7 = 0) := by
  rcases lw_ix hb a with h | ⟨k, hk, rfl⟩
  · exact Or.inl h
  · exact Or.inr ⟨k, hk, rfl, Decidable.em _⟩
theorem lw_c_item {nb : Nat} (hb : nb ≤ 60) (f : Nat → Nat) (hf : ∀ k, k < nb → f k ≤ 40) (a b c : Int32) : (a < 0 ∨ nI nb ≤ a) ∨ ∃ k, k < nb ∧ a = nI k ∧ ((b < 0 ∨ nI (f k) ≤ b) ∨ ∃ j, j < f k ∧ b = nI j ∧ (f_Mod_isIn c 0 7 = 0 ∨ ¬ f_Mod_isIn c 0 7 = 0)) := by
  rcases lw_ix hb a with h | ⟨k, hk, rfl⟩
  · exact Or.inl h
  · refine Or.inr ⟨k, hk, rfl, ?_⟩
    rcases lw_ix (Nat.le_trans (hf k hk) (by omega)) b with h | ⟨j, hj, rfl⟩
    · exact Or.inl h
    · exact Or.inr ⟨j, hj, rfl, Decidable.em _⟩

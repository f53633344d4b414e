/-! the relation between the class's state and the reference's -/
def rPl (G : Nat → Nat → Int64) (r : Nat) (pl ln : Int32) : Prop := pl = (G 11 r).toInt32 ∧ ln = (G 10 r).toInt32 ∧ (-1700000000 ≤ (G 11 r).toInt ∧ (G 11 r).toInt ≤ 1700000000) ∧ (-42000000 ≤ (G 10 r).toInt ∧ (G 10 r).toInt ≤ 42000000)
def rBx (F : Nat → Nat → Int32) (G : Nat → Nat → Int64) (us bx k : Nat) (b : BxT) : Prop :=
  b.1 0 = F 15 k ∧ (0 ≤ (F 15 k).toInt ∧ (F 15 k).toInt ≤ 1000000) ∧ b.1 1 = F 16 k ∧ b.1 2 = F 17 k ∧ F 19 k = nI b.2.1 ∧ b.2.1 ≤ 40 ∧
  f_Fit_badness (b.1 3) (b.1 4) (b.1 5) (b.1 6) = F 20 k ∧ f_Fit_over (b.1 3) (b.1 4) (b.1 5) (b.1 6) = F 21 k ∧ b.1 4 = F 22 k ∧ b.1 3 = F 23 k ∧ (0 ≤ (b.1 6).toInt ∧ (b.1 6).toInt ≤ 40000) ∧
  ∃ fr, F 18 k = nI fr ∧ 40 ≤ fr ∧ fr + b.2.1 ≤ 40 + us ∧ ∀ i, i < b.2.1 → rIt F bx (fr + i) (b.2.2.1 i) ∧ rPl G (fr + i) (b.2.2.2.1 i) (b.2.2.2.2 i)
def kRel (n : Nat) (its : Nat → Nat → Int32) (nb : Nat) (bs : Nat → BxT) (ib : Nat) (F : Nat → Nat → Int32) (G : Nat → Nat → Int64) : Prop :=
  n ≤ 40 ∧ nb ≤ 60 ∧ ib ≤ 300 ∧ (∀ i, i < n → rIt F nb i (its i)) ∧ (∀ k, k < nb → rBx F G ib nb k (bs k)) ∧ ∀ k, nb ≤ k → F 20 k = 0 ∧ F 21 k = 0 ∧ F 23 k = 0
theorem kRel_0 (its : Nat → Nat → Int32) (bs : Nat → BxT) : kRel 0 its 0 bs 0 (fun _ _ => 0) (fun _ _ => 0) :=
  ⟨by omega, by omega, by omega, fun i h => absurd h (Nat.not_lt_zero i), fun i h => absurd h (Nat.not_lt_zero i), fun _ _ => ⟨rfl, rfl, rfl⟩⟩
theorem rIt_move {F F1 : Nat → Nat → Int32} {bx bx1 r r1 : Nat} {it : Nat → Int32} (h : rIt F bx r it) (hr : ∀ k, k < 10 → F1 k r1 = F k r) (hb : ∀ k b, b < bx → (k = 15 ∨ k = 16 ∨ k = 17) → F1 k b = F k b) (hx : bx ≤ bx1) (h60 : bx ≤ 60) : rIt F1 bx1 r1 it := by
  obtain ⟨a0, a1, a2, a3, a4, a5, a6, a7, a8⟩ := h
  have w1 : ∀ k, (k = 15 ∨ k = 16 ∨ k = 17) → F 0 r = 1 → F1 k (F 1 r).toNatClampNeg = F k (F 1 r).toNatClampNeg := by
    intro k hk e
    obtain ⟨b, b1, b2⟩ := a7.1 e
    rw [b2, nI_clamp (by omega)]
    exact hb k b b1 hk
  have len : md_len F1 r1 = md_len F r := by
    unfold md_len
    rw [hr 0 (by omega), hr 1 (by omega)]
    by_cases e : F 0 r = 1
    · rw [if_pos e, if_pos e]
      exact w1 15 (by omega) e
    · rw [if_neg e, if_neg e]
  have hh : ∀ q, md_h F1 r1 q = md_h F r q := by
    intro q
    unfold md_h
    rw [hr 0 (by omega), hr 1 (by omega), hr 2 (by omega)]
    by_cases e : F 0 r = 1
    · rw [if_pos e, if_pos e, w1 16 (by omega) e]
    · rw [if_neg e, if_neg e]
  have hd : ∀ q, md_d F1 r1 q = md_d F r q := by
    intro q
    unfold md_d
    rw [hr 0 (by omega), hr 1 (by omega), hr 2 (by omega), hr 3 (by omega)]
    by_cases e : F 0 r = 1
    · rw [if_pos e, if_pos e, w1 17 (by omega) e]
    · rw [if_neg e, if_neg e]
  have hw : mW F1 bx1 r1 := by
    unfold mW
    rw [hr 0 (by omega), hr 1 (by omega), hr 8 (by omega), hr 9 (by omega)]
    exact ⟨fun e => by obtain ⟨b, b1, b2⟩ := a7.1 e; exact ⟨b, by omega, b2⟩, fun e => by obtain ⟨b, b1, b2⟩ := a7.2 e; exact ⟨b, by omega, b2⟩⟩
  refine ⟨by rw [hr 0 (by omega)]; exact a0, by rw [hr 0 (by omega)]; exact a1, by rw [len]; exact a2, by rw [len]; exact a3, ?_, fun q => by rw [hh]; exact a5 q, fun q => by rw [hd]; exact a6 q, hw, ?_⟩
  · rw [hr 0 (by omega), hr 4 (by omega), hr 5 (by omega), hr 6 (by omega), hr 7 (by omega)]
    exact a4
  · rw [hr 0 (by omega), hr 8 (by omega)]
    rcases a8 with q | q
    · refine Or.inl ?_
      have ll : md_ll F1 r1 = md_ll F r := by
        unfold md_ll
        obtain ⟨b, b1, b2⟩ := a7.2 q.2.1
        rw [hr 9 (by omega), b2, nI_clamp (by omega)]
        exact hb 15 b b1 (by omega)
      rw [ll]
      exact q
    · exact Or.inr q
theorem rBx_move {F F1 : Nat → Nat → Int32} {G G1 : Nat → Nat → Int64} {us us1 bx bx1 k : Nat} {b : BxT} (h : rBx F G us bx k b) (hk : k < bx) (hb : ∀ q a, 15 ≤ q → a < bx → F1 q a = F q a) (hr : ∀ q a, q < 10 → 40 ≤ a → a < 40 + us → F1 q a = F q a) (hg : ∀ q a, (q = 10 ∨ q = 11) → 40 ≤ a → a < 40 + us → G1 q a = G q a) (hu : us ≤ us1) (hx : bx ≤ bx1) (h60 : bx ≤ 60) : rBx F1 G1 us1 bx1 k b := by
  obtain ⟨a0, a1, a2, a3, a4, a5, a6, a7, a8, a9, a10, fr, f1, f2, f3, f4⟩ := h
  unfold rBx
  rw [hb 15 k (by omega) hk, hb 16 k (by omega) hk, hb 17 k (by omega) hk, hb 18 k (by omega) hk, hb 19 k (by omega) hk, hb 20 k (by omega) hk, hb 21 k (by omega) hk, hb 22 k (by omega) hk, hb 23 k (by omega) hk]
  refine ⟨a0, a1, a2, a3, a4, a5, a6, a7, a8, a9, a10, fr, f1, f2, by omega, fun i hi => ?_⟩
  obtain ⟨g1, g2⟩ := f4 i hi
  refine ⟨rIt_move g1 (fun q hq => hr q _ hq (by omega) (by omega)) (fun q a ha hq => hb q a (by omega) ha) hx h60, ?_⟩
  unfold rPl
  rw [hg 10 _ (Or.inl rfl) (by omega) (by omega), hg 11 _ (Or.inr rfl) (by omega) (by omega)]
  exact g2
/-- an item more: the reference's rows below 10 change at the list's end alone -/
theorem kRel_app {n nb ib : Nat} {its : Nat → Nat → Int32} {bs : Nat → BxT} {F F1 : Nat → Nat → Int32} {G : Nat → Nat → Int64} {it : Nat → Int32} (h : kRel n its nb bs ib F G) (hn : n < 40) (hF : ∀ k a, (a ≠ n ∨ 10 ≤ k) → F1 k a = F k a) (hit : rIt F1 nb n it) : kRel (n + 1) (va_up its n it) nb bs ib F1 G := by
  obtain ⟨h1, h2, h3, h4, h5, h6⟩ := h
  refine ⟨by omega, h2, h3, fun i hi => ?_, fun k hk => ?_, fun k hk => ?_⟩
  · by_cases e : i = n
    · subst e
      rw [va_up_self]
      exact hit
    · rw [va_up_ne _ _ e]
      exact rIt_move (h4 i (by omega)) (fun k hk => hF k i (Or.inl e)) (fun k b hb hk => hF k b (Or.inr (by omega))) (Nat.le_refl _) h2
  · exact rBx_move (h5 k hk) hk (fun q a hq _ => hF q a (Or.inr (by omega))) (fun q a _ ha _ => hF q a (Or.inl (by omega))) (fun _ _ _ _ _ => rfl) (Nat.le_refl _) (Nat.le_refl _) h2
  · rw [hF 20 k (Or.inr (by omega)), hF 21 k (Or.inr (by omega)), hF 23 k (Or.inr (by omega))]
    exact h6 k hk
/-! arguments -/
theorem a_ext {p : Int32} (h : ¬ f_BG_isExtent p = 0) : 0 ≤ p.toInt ∧ p.toInt ≤ 100000 := by
  unfold f_BG_isExtent at h
  by_cases e : p < 0
  · rw [if_pos e] at h; exact absurd rfl h
  · rw [if_neg e] at h
    by_cases e2 : 100000 < p
    · rw [if_pos e2] at h; exact absurd rfl h
    · rw [Int32.lt_iff_toInt_lt] at e e2
      have z : (0 : Int32).toInt = 0 := rfl
      have y : (100000 : Int32).toInt = 100000 := rfl
      omega
theorem a_len {p : Int32} (h : ¬ f_BG_isLength p = 0) : -100000 ≤ p.toInt ∧ p.toInt ≤ 100000 := by
  unfold f_BG_isLength at h
  by_cases e : p < -100000
  · rw [if_pos e] at h; exact absurd rfl h
  · rw [if_neg e] at h
    by_cases e2 : 100000 < p
    · rw [if_pos e2] at h; exact absurd rfl h
    · rw [Int32.lt_iff_toInt_lt] at e e2
      have z : (-100000 : Int32).toInt = -100000 := rfl
      have y : (100000 : Int32).toInt = 100000 := rfl
      omega
theorem a_giv {p q : Int32} (h : ¬ f_BG_isGiving p q = 0) : (0 ≤ p.toInt ∧ p.toInt ≤ 1000) ∧ (0 ≤ q.toInt ∧ q.toInt ≤ 3) ∧ ¬ f_Mod_isIn p 0 1000 = 0 ∧ ¬ f_Mod_isIn q 0 3 = 0 := by
  unfold f_BG_isGiving at h
  by_cases e : p < 0
  · rw [if_pos e] at h; exact absurd rfl h
  · rw [if_neg e] at h
    by_cases e2 : 1000 < p
    · rw [if_pos e2] at h; exact absurd rfl h
    · rw [if_neg e2] at h
      by_cases e3 : q < 0
      · rw [if_pos e3] at h; exact absurd rfl h
      · rw [if_neg e3] at h
        by_cases e4 : 3 < q
        · rw [if_pos e4] at h; exact absurd rfl h
        · refine ⟨?_, ?_, by unfold f_Mod_isIn; rw [if_neg e, if_neg e2]; decide, by unfold f_Mod_isIn; rw [if_neg e3, if_neg e4]; decide⟩
          · rw [Int32.lt_iff_toInt_lt] at e e2
            have z : (0 : Int32).toInt = 0 := rfl
            have y : (1000 : Int32).toInt = 1000 := rfl
            omega
          · rw [Int32.lt_iff_toInt_lt] at e3 e4
            have z : (0 : Int32).toInt = 0 := rfl
            have y : (3 : Int32).toInt = 3 := rfl
            omega
theorem a_giv0 {p q : Int32} (h : f_BG_isGiving p q = 0) : f_Mod_isIn p 0 1000 = 0 ∨ f_Mod_isIn q 0 3 = 0 := by
  unfold f_BG_isGiving at h
  unfold f_Mod_isIn
  by_cases e : p < 0
  · rw [if_pos e]; exact Or.inl rfl
  · rw [if_neg e] at h ⊢
    by_cases e2 : 1000 < p
    · rw [if_pos e2]; exact Or.inl rfl
    · rw [if_neg e2] at h ⊢
      by_cases e3 : q < 0
      · rw [if_pos e3]; exact Or.inr rfl
      · rw [if_neg e3] at h ⊢
        by_cases e4 : 3 < q
        · rw [if_pos e4]; exact Or.inr rfl
        · rw [if_neg e4] at h; exact absurd h (by decide)
theorem a_run {p : Int32} : f_BG_isExtentOrRunning p = 0 ↔ ¬ (p = (-1000000) ∨ ¬ f_Mod_isIn p 0 100000 = 0) := by
  have e : f_Mod_isIn p 0 100000 = f_BG_isExtent p := rfl
  rw [e]
  unfold f_BG_isExtentOrRunning
  by_cases e1 : p = -1000000
  · rw [if_pos e1]
    exact ⟨fun h => absurd h (by decide), fun h => absurd (Or.inl e1) h⟩
  · rw [if_neg e1]
    by_cases e2 : f_BG_isExtent p = 0
    · rw [if_pos e2]
      exact ⟨fun _ h => h.elim e1 (fun h => h e2), fun _ => rfl⟩
    · rw [if_neg e2]
      exact ⟨fun h => absurd h (by decide), fun h => absurd (Or.inr e2) h⟩
theorem a_in {p lo hi : Int32} : f_Mod_isIn p lo hi = 0 ↔ p < lo ∨ hi < p := by
  unfold f_Mod_isIn
  by_cases e : p < lo
  · rw [if_pos e]
    exact ⟨fun _ => Or.inl e, fun _ => rfl⟩
  · rw [if_neg e]
    by_cases e2 : hi < p
    · rw [if_pos e2]
      exact ⟨fun _ => Or.inr e2, fun _ => rfl⟩
    · rw [if_neg e2]
      exact ⟨fun h => absurd h (by decide), fun h => h.elim (fun h => absurd h e) (fun h => absurd h e2)⟩
/-! the operations -/
theorem mh_none {F : Nat → Nat → Int32} {r : Nat} {q : Int32} (h1 : ¬ F 0 r = 1) (h4 : ¬ F 0 r = 4) : md_h F r q = 0 := by unfold md_h; rw [if_neg h1, if_neg h4]
theorem md_none {F : Nat → Nat → Int32} {r : Nat} {q : Int32} (h1 : ¬ F 0 r = 1) (h4 : ¬ F 0 r = 4) : md_d F r q = 0 := by unfold md_d; rw [if_neg h1, if_neg h4]
theorem ih_none {it : Nat → Int32} {q : Int32} (h1 : ¬ it 0 = 1) (h4 : ¬ it 0 = 4) : i_height it q = 0 := by unfold i_height; rw [if_neg h1, if_neg h4]
theorem id_none {it : Nat → Int32} {q : Int32} (h1 : ¬ it 0 = 1) (h4 : ¬ it 0 = 4) : i_depth it q = 0 := by unfold i_depth; rw [if_neg h1, if_neg h4]
theorem mh_rule {F : Nat → Nat → Int32} {r : Nat} {q : Int32} (h4 : F 0 r = 4) : md_h F r q = if F 2 r = (-1000000) then q else F 2 r := by unfold md_h; rw [if_neg (by rw [h4]; decide), if_pos h4]
theorem md_rule {F : Nat → Nat → Int32} {r : Nat} {q : Int32} (h4 : F 0 r = 4) : md_d F r q = if F 3 r = (-1000000) then q else F 3 r := by unfold md_d; rw [if_neg (by rw [h4]; decide), if_pos h4]
theorem mF_k {F : Nat → Nat → Int32} {k k2 j : Nat} {x : Int32} {j2 : Nat} (h : k2 ≠ k) : mF F k j x k2 j2 = F k2 j2 := by rw [mF_row h]
section
variable {n nb ib : Nat} {its : Nat → Nat → Int32} {bs : Nat → BxT} {F : Nat → Nat → Int32} {G : Nat → Nat → Int64}
theorem mo_more_ag (F : Nat → Nat → Int32) (n : Nat) (x y : Int32) : ∀ k a, (a ≠ n ∨ 10 ≤ k) → mo_more F n x y k a = F k a := by
  intro k a h
  unfold mo_more
  rcases h with h | h
  · repeat rw [mF_ne h]
  · repeat rw [mF_k (by omega)]
theorem mo_more_at (F : Nat → Nat → Int32) (n : Nat) (x y : Int32) : mo_more F n x y 0 n = x ∧ mo_more F n x y 1 n = y ∧ ∀ k, 2 ≤ k → k < 10 → mo_more F n x y k n = 0 := by
  refine ⟨by simp [mo_more, mF, upd], by simp [mo_more, mF, upd], fun k h1 h2 => ?_⟩
  rcases (show k = 2 ∨ k = 3 ∨ k = 4 ∨ k = 5 ∨ k = 6 ∨ k = 7 ∨ k = 8 ∨ k = 9 by omega) with rfl | rfl | rfl | rfl | rfl | rfl | rfl | rfl <;> simp [mo_more, mF, upd]
theorem rel_kern {p0 : Int32} (h : kRel n its nb bs ib F G) (hn : n < 40) (ha : ¬ f_BG_isLength p0 = 0) : kRel (n + 1) (va_up its n (it_kern p0)) nb bs ib (mo_more F n 3 p0) G := by
  obtain ⟨m0, m1, m2⟩ := mo_more_at F n 3 p0
  have b := a_len ha
  refine kRel_app h hn (mo_more_ag F n 3 p0) ⟨by rw [m0]; rfl, by rw [m0]; decide, ?_, ?_, by rw [m0]; exact fun q => absurd q (by decide), fun q => ?_, fun q => ?_, ?_, Or.inr ⟨m2 8 (by omega) (by omega), by rw [m0]; exact fun q => absurd q (by decide)⟩⟩
  · unfold md_len; rw [m0, if_neg (by decide), m1]; rfl
  · unfold md_len; rw [m0, if_neg (by decide), m1]; omega
  · rw [mh_none (by rw [m0]; decide) (by rw [m0]; decide)]; exact ih_none (by show ¬ (3 : Int32) = 1; decide) (by show ¬ (3 : Int32) = 4; decide)
  · rw [md_none (by rw [m0]; decide) (by rw [m0]; decide)]; exact id_none (by show ¬ (3 : Int32) = 1; decide) (by show ¬ (3 : Int32) = 4; decide)
  · unfold mW; rw [m0, m2 8 (by omega) (by omega)]; exact ⟨fun q => absurd q (by decide), fun q => absurd rfl q⟩
theorem rel_rule {p0 p1 p2 : Int32} (h : kRel n its nb bs ib F G) (hn : n < 40) (ha : ¬ f_BG_isExtent p0 = 0) : kRel (n + 1) (va_up its n (it_rule p0 p1 p2)) nb bs ib (mo_rule F n p0 p1 p2) G := by
  obtain ⟨m0, m1, m2⟩ := mo_more_at F n 4 p0
  have b := a_ext ha
  have r0 : mo_rule F n p0 p1 p2 0 n = 4 := by unfold mo_rule; rw [mF_k (by decide), mF_k (by decide), m0]
  have r1 : mo_rule F n p0 p1 p2 1 n = p0 := by unfold mo_rule; rw [mF_k (by decide), mF_k (by decide), m1]
  have r2 : mo_rule F n p0 p1 p2 2 n = p1 := by unfold mo_rule; rw [mF_k (by decide), mF_self]
  have r3 : mo_rule F n p0 p1 p2 3 n = p2 := by unfold mo_rule; rw [mF_self]
  have r8 : mo_rule F n p0 p1 p2 8 n = 0 := by unfold mo_rule; rw [mF_k (by decide), mF_k (by decide), m2 8 (by omega) (by omega)]
  have ag : ∀ k a, (a ≠ n ∨ 10 ≤ k) → mo_rule F n p0 p1 p2 k a = F k a := by
    intro k a q
    unfold mo_rule
    rw [show mF (mF (mo_more F n 4 p0) 2 n p1) 3 n p2 k a = mo_more F n 4 p0 k a from by rcases q with q | q; rw [mF_ne q, mF_ne q]; rw [mF_k (by omega), mF_k (by omega)]]
    exact mo_more_ag F n 4 p0 k a q
  refine kRel_app h hn ag ⟨by rw [r0]; rfl, by rw [r0]; decide, ?_, ?_, by rw [r0]; exact fun q => absurd q (by decide), fun q => ?_, fun q => ?_, ?_, Or.inr ⟨r8, by rw [r0]; exact fun q => absurd q (by decide)⟩⟩
  · unfold md_len; rw [r0, if_neg (by decide), r1]; rfl
  · unfold md_len; rw [r0, if_neg (by decide), r1]; omega
  · rw [mh_rule r0, r2]; unfold i_height; rw [if_neg (by show ¬ (4 : Int32) = 1; decide), if_pos (by show (4 : Int32) = 4; rfl)]; rfl
  · rw [md_rule r0, r3]; unfold i_depth; rw [if_neg (by show ¬ (4 : Int32) = 1; decide), if_pos (by show (4 : Int32) = 4; rfl)]; rfl
  · unfold mW; rw [r0, r8]; exact ⟨fun q => absurd q (by decide), fun q => absurd rfl q⟩
theorem rel_glue {p0 p1 p2 p3 p4 : Int32} (h : kRel n its nb bs ib F G) (hn : n < 40) (ha : ¬ f_BG_isLength p0 = 0) (hb : ¬ f_BG_isGiving p1 p2 = 0) (hc : ¬ f_BG_isGiving p3 p4 = 0) : kRel (n + 1) (va_up its n (it_glue p0 p1 p2 p3 p4 0 0)) nb bs ib (mo_glue F n p0 p1 p2 p3 p4) G := by
  obtain ⟨m0, m1, m2⟩ := mo_more_at F n 2 p0
  have b := a_len ha
  have g1 := a_giv hb
  have g2 := a_giv hc
  have r0 : mo_glue F n p0 p1 p2 p3 p4 0 n = 2 := by unfold mo_glue; rw [mF_k (by decide), mF_k (by decide), mF_k (by decide), mF_k (by decide), m0]
  have r1 : mo_glue F n p0 p1 p2 p3 p4 1 n = p0 := by unfold mo_glue; rw [mF_k (by decide), mF_k (by decide), mF_k (by decide), mF_k (by decide), m1]
  have r4 : mo_glue F n p0 p1 p2 p3 p4 4 n = p1 := by unfold mo_glue; rw [mF_k (by decide), mF_k (by decide), mF_k (by decide), mF_self]
  have r5 : mo_glue F n p0 p1 p2 p3 p4 5 n = p2 := by unfold mo_glue; rw [mF_k (by decide), mF_k (by decide), mF_self]
  have r6 : mo_glue F n p0 p1 p2 p3 p4 6 n = p3 := by unfold mo_glue; rw [mF_k (by decide), mF_self]
  have r7 : mo_glue F n p0 p1 p2 p3 p4 7 n = p4 := by unfold mo_glue; rw [mF_self]
  have r8 : mo_glue F n p0 p1 p2 p3 p4 8 n = 0 := by unfold mo_glue; rw [mF_k (by decide), mF_k (by decide), mF_k (by decide), mF_k (by decide), m2 8 (by omega) (by omega)]
  have ag : ∀ k a, (a ≠ n ∨ 10 ≤ k) → mo_glue F n p0 p1 p2 p3 p4 k a = F k a := by
    intro k a q
    unfold mo_glue
    rw [show mF (mF (mF (mF (mo_more F n 2 p0) 4 n p1) 5 n p2) 6 n p3) 7 n p4 k a = mo_more F n 2 p0 k a from by rcases q with q | q; rw [mF_ne q, mF_ne q, mF_ne q, mF_ne q]; rw [mF_k (by omega), mF_k (by omega), mF_k (by omega), mF_k (by omega)]]
    exact mo_more_ag F n 2 p0 k a q
  refine kRel_app h hn ag ⟨by rw [r0]; rfl, by rw [r0]; decide, ?_, ?_, fun _ => ⟨⟨by rw [r4]; rfl, by rw [r5]; rfl, by rw [r6]; rfl, by rw [r7]; rfl⟩, by rw [r4]; exact g1.1, by rw [r5]; exact g1.2.1, by rw [r6]; exact g2.1, by rw [r7]; exact g2.2.1⟩, fun q => ?_, fun q => ?_, ?_, Or.inr ⟨r8, fun _ => ⟨rfl, rfl⟩⟩⟩
  · unfold md_len; rw [r0, if_neg (by decide), r1]; rfl
  · unfold md_len; rw [r0, if_neg (by decide), r1]; omega
  · rw [mh_none (by rw [r0]; decide) (by rw [r0]; decide)]; exact ih_none (by show ¬ (2 : Int32) = 1; decide) (by show ¬ (2 : Int32) = 4; decide)
  · rw [md_none (by rw [r0]; decide) (by rw [r0]; decide)]; exact id_none (by show ¬ (2 : Int32) = 1; decide) (by show ¬ (2 : Int32) = 4; decide)
  · unfold mW; rw [r0, r8]; exact ⟨fun q => absurd q (by decide), fun q => absurd rfl q⟩
theorem rel_put {k : Nat} {p1 : Int32} (h : kRel n its nb bs ib F G) (hn : n < 40) (hk : k < nb) : kRel (n + 1) (va_up its n (it_put (bs k) p1)) nb bs ib (mo_put F n k p1) G := by
  have h60 := h.2.1
  obtain ⟨m0, m1, m2⟩ := mo_more_at (mF F 2 n 0) n 1 (nI k)
  have r0 : mo_put F n k p1 0 n = 1 := by unfold mo_put; rw [mF_k (by decide), m0]
  have r1 : mo_put F n k p1 1 n = nI k := by unfold mo_put; rw [mF_k (by decide), m1]
  have r2 : mo_put F n k p1 2 n = p1 := by unfold mo_put; rw [mF_self]
  have r8 : mo_put F n k p1 8 n = 0 := by unfold mo_put; rw [mF_k (by decide), m2 8 (by omega) (by omega)]
  have ag : ∀ k2 a, (a ≠ n ∨ 10 ≤ k2) → mo_put F n k p1 k2 a = F k2 a := by
    intro k2 a q
    unfold mo_put
    rw [show mF (mo_more (mF F 2 n 0) n 1 (nI k)) 2 n p1 k2 a = mo_more (mF F 2 n 0) n 1 (nI k) k2 a from by rcases q with q | q; rw [mF_ne q]; rw [mF_k (by omega)], mo_more_ag _ _ _ _ k2 a q]
    rcases q with q | q
    · rw [mF_ne q]
    · rw [mF_k (by omega)]
  obtain ⟨a0, a1, a2, a3, -⟩ := h.2.2.2.2.1 k hk
  refine kRel_app h hn ag ⟨by rw [r0]; rfl, by rw [r0]; decide, ?_, ?_, by rw [r0]; exact fun q => absurd q (by decide), fun q => ?_, fun q => ?_, ?_, Or.inr ⟨r8, by rw [r0]; exact fun q => absurd q (by decide)⟩⟩
  · unfold md_len; rw [r0, if_pos rfl, r1, nI_clamp (by omega), ag 15 k (Or.inr (by omega)), ← a0]; rfl
  · unfold md_len; rw [r0, if_pos rfl, r1, nI_clamp (by omega), ag 15 k (Or.inr (by omega))]; omega
  · unfold md_h i_height; rw [r0, if_pos rfl, r1, r2, nI_clamp (by omega), ag 16 k (Or.inr (by omega)), ← a2, if_pos (by show (1 : Int32) = 1; rfl)]; rfl
  · unfold md_d i_depth; rw [r0, if_pos rfl, r1, r2, nI_clamp (by omega), ag 17 k (Or.inr (by omega)), ← a3, if_pos (by show (1 : Int32) = 1; rfl)]; rfl
  · unfold mW; rw [r0, r1, r8]; exact ⟨fun _ => ⟨k, hk, rfl⟩, fun q => absurd rfl q⟩
theorem rel_drop {k : Nat} (h : kRel (k + 1) its nb bs ib F G) : kRel k its nb bs ib F G := ⟨by have := h.1; omega, h.2.1, h.2.2.1, fun i hi => h.2.2.2.1 i (by omega), h.2.2.2.2⟩
theorem rel_lead {k kb : Nat} {p0 : Int32} (h : kRel (k + 1) its nb bs ib F G) (hkb : kb < nb) (h1 : ¬ p0 < 1) (hgl : F 0 k = 2) : kRel (k + 1) (va_up its k (it_glue (its k 1) (its k 4) (its k 5) (its k 6) (its k 7) p0 ((bs kb).1 0))) nb bs ib (mF (mF F 8 k p0) 9 k (nI kb)) G := by
  have h60 := h.2.1
  have hk40 := h.1
  have ag : ∀ q a, (a ≠ k ∨ 10 ≤ q) → mF (mF F 8 k p0) 9 k (nI kb) q a = F q a := by
    intro q a w
    rcases w with w | w
    · rw [mF_ne w, mF_ne w]
    · rw [mF_k (by omega), mF_k (by omega)]
  have lo : ∀ q, q < 8 → mF (mF F 8 k p0) 9 k (nI kb) q k = F q k := fun q hq => by rw [mF_k (by omega), mF_k (by omega)]
  have r8 : mF (mF F 8 k p0) 9 k (nI kb) 8 k = p0 := by rw [mF_k (by decide), mF_self]
  have r9 : mF (mF F 8 k p0) 9 k (nI kb) 9 k = nI kb := mF_self
  obtain ⟨a0, a1, a2, a3, a4, a5, a6, a7, a8⟩ := h.2.2.2.1 k (by omega)
  have b := a4 hgl
  obtain ⟨c0, c1, -⟩ := h.2.2.2.2.1 kb hkb
  have p0n : ¬ p0 = 0 := fun q => h1 (by rw [q]; decide)
  refine kRel_app (n := k) (rel_drop h) (by omega) ag ⟨by rw [lo 0 (by omega), hgl]; rfl, by rw [lo 0 (by omega)]; exact a1, ?_, ?_, fun _ => ⟨⟨by rw [lo 4 (by omega)]; exact b.1.1, by rw [lo 5 (by omega)]; exact b.1.2.1, by rw [lo 6 (by omega)]; exact b.1.2.2.1, by rw [lo 7 (by omega)]; exact b.1.2.2.2⟩, by rw [lo 4 (by omega)]; exact b.2.1, by rw [lo 5 (by omega)]; exact b.2.2.1, by rw [lo 6 (by omega)]; exact b.2.2.2.1, by rw [lo 7 (by omega)]; exact b.2.2.2.2⟩, fun q => ?_, fun q => ?_, ?_, Or.inl ⟨by rw [lo 0 (by omega)]; exact hgl, by rw [r8]; exact p0n, by rw [r8]; rfl, ?_, ?_⟩⟩
  · show its k 1 = _
    rw [a2]
    unfold md_len
    rw [lo 0 (by omega), lo 1 (by omega), hgl, if_neg (by decide), if_neg (by decide)]
  · unfold md_len at a3 ⊢
    rw [hgl, if_neg (by decide)] at a3
    rw [lo 0 (by omega), lo 1 (by omega), hgl, if_neg (by decide)]
    exact a3
  · rw [mh_none (by rw [lo 0 (by omega), hgl]; decide) (by rw [lo 0 (by omega), hgl]; decide)]; exact ih_none (by show ¬ (2 : Int32) = 1; decide) (by show ¬ (2 : Int32) = 4; decide)
  · rw [md_none (by rw [lo 0 (by omega), hgl]; decide) (by rw [lo 0 (by omega), hgl]; decide)]; exact id_none (by show ¬ (2 : Int32) = 1; decide) (by show ¬ (2 : Int32) = 4; decide)
  · unfold mW; rw [lo 0 (by omega), hgl, r9]; exact ⟨fun q => absurd q (by decide), fun _ => ⟨kb, hkb, rfl⟩⟩
  · unfold md_ll; rw [r9, nI_clamp (by omega), ag 15 kb (Or.inr (by omega))]; exact c0
  · unfold md_ll; rw [r9, nI_clamp (by omega), ag 15 kb (Or.inr (by omega))]; exact c1
theorem rel_unpack {k fr : Nat} (h : kRel n its nb bs ib F G) (hk : k < nb) (hfr : F 18 k = nI fr) (hfr3 : fr ≤ 340) (hn : n + (bs k).2.1 ≤ 40) : kRel (n + (bs k).2.1) (l_app its n (bs k).2.2.1) nb bs ib (mo_cps F fr n (bs k).2.1) (mg_cps G fr n (bs k).2.1) := by
  obtain ⟨h1, h2, h3, h4, h5, h6⟩ := h
  obtain ⟨-, -, -, -, -, c5, -, -, -, -, -, fr', f1, f2, f3, f4⟩ := h5 k hk
  have efr : fr' = fr := by
    have := hfr.symm.trans f1
    have w := congrArg Int32.toInt this
    rw [nI_toInt (by omega), nI_toInt (by omega)] at w
    omega
  subst efr
  have hi : ∀ q a, 10 ≤ q → mo_cps F fr' n (bs k).2.1 q a = F q a := fun q a hq => by unfold mo_cps; rw [if_neg (by omega)]
  have out : ∀ q a, (a < n ∨ n + (bs k).2.1 ≤ a) → mo_cps F fr' n (bs k).2.1 q a = F q a := fun q a hq => by unfold mo_cps; rw [if_neg (by omega)]
  refine ⟨hn, h2, h3, fun i hi9 => ?_, fun j hj => ?_, fun j hj => ?_⟩
  · unfold l_app
    by_cases e : i < n
    · rw [if_pos e]
      exact rIt_move (h4 i e) (fun q hq => out q i (Or.inl e)) (fun q b hb hq => hi q b (by omega)) (Nat.le_refl _) h2
    · rw [if_neg e]
      exact rIt_move (f4 (i - n) (by omega)).1 (fun q hq => by unfold mo_cps; rw [if_pos ⟨hq, by omega, by omega⟩]) (fun q b hb hq => hi q b (by omega)) (Nat.le_refl _) h2
  · refine rBx_move (h5 j hj) hj (fun q a hq _ => hi q a (by omega)) (fun q a _ ha _ => out q a (Or.inr (by omega))) (fun q a _ ha _ => ?_) (Nat.le_refl _) (Nat.le_refl _) h2
    unfold mg_cps
    rw [if_neg (by omega)]
  · rw [hi 20 j (by omega), hi 21 j (by omega), hi 23 j (by omega)]
    exact h6 j hj
theorem rel_box {p0 p1 p2 : Int32} (h : kRel n its nb bs ib F G) (hb : nb < 60) (ha : ¬ f_BG_isExtent p0 = 0) : kRel n its (nb + 1) (va_up bs nb (bx0 p0 p1 p2)) ib (mo_box F nb p0 p1 p2) G := by
  obtain ⟨h1, h2, h3, h4, h5, h6⟩ := h
  have b := a_ext ha
  have ag : ∀ k a, (a ≠ nb ∨ k < 15 ∨ k = 20 ∨ k = 21 ∨ k = 23) → mo_box F nb p0 p1 p2 k a = F k a := by
    intro k a q
    unfold mo_box
    rcases q with q | q
    · repeat rw [mF_ne q]
    · repeat rw [mF_k (by omega)]
  have r15 : mo_box F nb p0 p1 p2 15 nb = p0 := by unfold mo_box; rw [mF_k (by decide), mF_k (by decide), mF_k (by decide), mF_k (by decide), mF_k (by decide), mF_self]
  have r16 : mo_box F nb p0 p1 p2 16 nb = p1 := by unfold mo_box; rw [mF_k (by decide), mF_k (by decide), mF_k (by decide), mF_k (by decide), mF_self]
  have r17 : mo_box F nb p0 p1 p2 17 nb = p2 := by unfold mo_box; rw [mF_k (by decide), mF_k (by decide), mF_k (by decide), mF_self]
  have r18 : mo_box F nb p0 p1 p2 18 nb = nI 40 := by unfold mo_box; rw [mF_k (by decide), mF_k (by decide), mF_self]; rfl
  have r19 : mo_box F nb p0 p1 p2 19 nb = nI 0 := by unfold mo_box; rw [mF_k (by decide), mF_self]; rfl
  have r22 : mo_box F nb p0 p1 p2 22 nb = (-1) := by unfold mo_box; rw [mF_self]
  refine ⟨h1, by omega, h3, fun i hi => ?_, fun k hk => ?_, fun k hk => ?_⟩
  · exact rIt_move (h4 i hi) (fun q hq => ag q i (by omega)) (fun q a ha hq => ag q a (Or.inl (by omega))) (by omega) h2
  · by_cases e : k = nb
    · subst e
      rw [va_up_self]
      refine ⟨by rw [r15]; rfl, by rw [r15]; omega, by rw [r16]; rfl, by rw [r17]; rfl, by rw [r19]; rfl, by show 0 ≤ 40; omega, ?_, ?_, by rw [r22]; rfl, ?_, by show 0 ≤ (0 : Int32).toInt ∧ (0 : Int32).toInt ≤ 40000; decide, 40, r18, by omega, by show 40 + 0 ≤ _; omega, fun i hi => absurd hi (Nat.not_lt_zero i)⟩
      · rw [ag 20 k (by omega), (h6 k (Nat.le_refl _)).1]; rfl
      · rw [ag 21 k (by omega), (h6 k (Nat.le_refl _)).2.1]; rfl
      · rw [ag 23 k (by omega), (h6 k (Nat.le_refl _)).2.2]; rfl
    · rw [va_up_ne _ _ e]
      exact rBx_move (h5 k (by omega)) (by omega) (fun q a hq ha => ag q a (Or.inl (by omega))) (fun q a hq _ _ => ag q a (by omega)) (fun _ _ _ _ _ => rfl) (Nat.le_refl _) (by omega) h2
  · rw [ag 20 k (by omega), ag 21 k (by omega), ag 23 k (by omega)]
    exact h6 k (by omega)
theorem rel_pack {p0 : Int32} {F1 : Nat → Nat → Int32} {G1 : Nat → Nat → Int64} (h : kRel n its nb bs ib F G) (hb : nb < 60) (hi : ib + n ≤ 300) (hp0 : -1 ≤ p0.toInt) (hp1 : p0.toInt ≤ 1000000) (hbig : p0 = -1 → (l_len its n).toInt ≤ 1000000) (P : mp_post F G n ib nb p0 F1 G1) : kRel 0 its (nb + 1) (va_up bs nb (bxp its n (pk_L p0 (l_len its n)))) (ib + n) F1 G1 := by
  obtain ⟨h1, h2, h3, h4, h5, h6⟩ := h
  obtain ⟨old, new, box, b15, b16, b17, b18, b19, b20, b21, b22, b23, gold, gnew⟩ := P
  obtain ⟨l1, l2, l3⟩ := p_l h4 h1 hp0 hp1 hbig
  obtain ⟨x1, x2, x3⟩ := p_x h4 h1 hp0 hp1 hbig
  obtain ⟨f1, f2, f3, f4, f5, f6⟩ := p_fit h4 h1 x1 x2 x3
  obtain ⟨d1, d2, -⟩ := p_bad (f0 := l_len its n) h4 h1 x1 x2 x3
  obtain ⟨n1, -⟩ := r_nat h4 h1 n (Nat.le_refl n)
  obtain ⟨e1, e2⟩ := p_h h4 n (Nat.le_refl n)
  refine ⟨by omega, by omega, hi, fun i hi => absurd hi (Nat.not_lt_zero i), fun k hk => ?_, fun k hk => ?_⟩
  · by_cases e : k = nb
    · subst e
      rw [va_up_self]
      have q15 : F1 15 k = pk_L p0 (l_len its n) := by rw [b15, l1, Int32.toInt32_toInt64]
      refine ⟨by rw [q15]; rfl, by rw [q15]; exact ⟨l2, l3⟩, by rw [b16, ← e1]; rfl, by rw [b17, ← e2]; rfl, by rw [b19]; rfl, h1, by rw [b20, ← d1]; rfl, by rw [b21, ← d2]; rfl, by rw [b22, f2]; rfl, by rw [b23, n1, Int32.toInt32_toInt64]; rfl, ⟨f4, f5⟩, 40 + ib, b18, by omega, by show 40 + ib + n ≤ _; omega, fun i hi => ?_⟩
      have hi : i < n := hi
      refine ⟨rIt_move (h4 i hi) (fun q hq => new q i hq hi) (fun q a ha hq => box q a (by omega) (by omega)) (by omega) h2, ?_⟩
      obtain ⟨g1, g2⟩ := gnew i hi
      obtain ⟨s1, s2, s3⟩ := p_len (f0 := l_len its n) h4 h1 x1 x2 x3 hi
      obtain ⟨t1, t2, t3⟩ := p_pl (f0 := l_len its n) h4 h1 x1 x2 x3 i (by omega)
      unfold rPl
      rw [g1, g2]
      exact ⟨t1, s1, ⟨by omega, by omega⟩, s2, s3⟩
    · rw [va_up_ne _ _ e]
      exact rBx_move (h5 k (by omega)) (by omega) (fun q a hq ha => box q a hq (by omega)) (fun q a hq h1 h2 => old q a hq h1 h2) (fun q a hq h1 h2 => gold q a hq h1 h2) (by omega) (by omega) h2
  · rw [box 20 k (by omega) (by omega), box 21 k (by omega) (by omega), box 23 k (by omega) (by omega)]
    exact h6 k (by omega)
end

/-! the law's loop -/
theorem k_sw14 {x : Int32} (h0 : ¬ x = 0) (h1 : ¬ x = 1) (h2 : ¬ x = 2) (h3 : ¬ x = 3) (h4 : ¬ x = 4) (h5 : ¬ x = 5) (h6 : ¬ x = 6) (h7 : ¬ x = 7) (h8 : ¬ x = 8) (h9 : ¬ x = 9) (h10 : ¬ x = 10) (h11 : ¬ x = 11) (h12 : ¬ x = 12) (h13 : ¬ x = 13) : x.toInt < 0 ∨ 13 < x.toInt := by
  have g : ∀ n : Nat, n < 16 → ¬ x = Int32.ofNat n → ¬ x.toInt = (n : Int) := fun n hn h e => h (Int32.toInt_inj.mp (by rw [e]; exact (Int32.toInt_ofNat_of_lt (by omega)).symm))
  have a0 := g 0 (by omega) h0
  have a1 := g 1 (by omega) h1
  have a2 := g 2 (by omega) h2
  have a3 := g 3 (by omega) h3
  have a4 := g 4 (by omega) h4
  have a5 := g 5 (by omega) h5
  have a6 := g 6 (by omega) h6
  have a7 := g 7 (by omega) h7
  have a8 := g 8 (by omega) h8
  have a9 := g 9 (by omega) h9
  have a10 := g 10 (by omega) h10
  have a11 := g 11 (by omega) h11
  have a12 := g 12 (by omega) h12
  have a13 := g 13 (by omega) h13
  omega
set_option maxHeartbeats 4000000 in
set_option maxRecDepth 100000 in
theorem lw_loop {p : Program} {l : Launch} {e : Env} {s : State} {m : MethodId} {below : List Frame} {meth : Method} {c : Code} {b L : Nat} {xs : Nat → Int32} {g : KGt} {x m0 : Nat} {ad : Nat → Nat} (hL3 : L ≤ 3072) (C0 : lw_At p s m meth c b L xs) (hKK : KK g s) (hg : g.2.2.1 = s.heap) : ∀ (j t i : Nat), t + j = 513 → i = 6 * t → i ≤ L → ∀ (I M : Nat → Prop) (n : Nat) (its : Nat → Nat → Int32) (nb : Nat) (bs : Nat → BxT) (ib : Nat) (F : Nat → Nat → Int32) (G : Nat → Nat → Int64) (H : Heap) (locs : List Loc) (ls : Array Slot), lw_I g s x m0 ad I M n its nb bs ib F G H locs → lv_has ls 4 [(3, .int (nI i)), (2, .ref m0), (1, .ref x), (0, .ref b)] → W p l e room_1 s m #[Value.ref b] below meth c H locs (25 + 103 * t) (4653 + 5109 * t) (lw_Z below #[Value.ref b] s) (F0 m 18 ls []) := by
  obtain ⟨hx, hb, hr, hml, hown, hts0, hX, hbl, hlocks, hgv⟩ := id C0
  have hbA : ¬ (fun q : Nat => s.heap.size ≤ q) b := Nat.not_le.mpr hbl
  intro j
  induction j with
  | zero =>
    intro t i h1 h2 h3
    omega
  | succ j ih =>
    intro t i h1 h2 h3 I M n its nb bs ib F G H locs ls hI hl
    have hS := lw_S hg hI.1 hI.2.2.2.2
    refine lv_iload_n hx hb d_law_18 rfl (lv_at hl 0 rfl) ?_
    refine lv_aload_n hx hb d_law_19 rfl (lv_at hl 3 rfl) ?_
    refine va_slen hx hb hX hbl hbA hS d_law_20 ?_
    refine W.eq (g2 := F0 m 21 ls [.int (nI L), .int (nI i)]) rfl ?_
    refine lv_bipush (v := 6) hx hb d_law_21 (by decide) ?_
    refine lv_isub hx hb d_law_23 ?_
    refine lv_icmp_gt (tgt := 523) hx hb d_law_24 (by decide) (fun c1 => ?_) (fun c1 => ?_)
    · refine lv_iconst (v := 1) hx hb d_law_523 (by decide) ?_
      refine va_forget (fun q hq => hI.2.2.2.2 q hq) ?_
      refine W.widen (k := 600000) (n := 7302250) (by omega) (by omega) ?_
      exact lw_ret hx hb hr hlocks d_law_524
    have hi6 : i + 6 ≤ L := by
      have e1 : (nI L - 6).toInt = (L : Int) - 6 := by rw [q_s32 (by rw [nI_toInt (by omega), show (6 : Int32).toInt = 6 from rfl]; omega) (by rw [nI_toInt (by omega), show (6 : Int32).toInt = 6 from rfl]; omega), nI_toInt (by omega)]; rfl
      rw [Int32.lt_iff_toInt_lt, e1, nI_toInt (by omega)] at c1
      omega
    have kk : (∀ (I M : Nat → Prop) (n : Nat) (its : Nat → Nat → Int32) (nb : Nat) (bs : Nat → BxT) (ib : Nat) (F : Nat → Nat → Int32) (G : Nat → Nat → Int64) (H : Heap) (locs : List Loc) (ls : Array Slot), lw_I g s x m0 ad I M n its nb bs ib F G H locs → lv_has ls 4 [(3, .int (nI i)), (2, .ref m0), (1, .ref x), (0, .ref b)] → W p l e room_1 s m #[Value.ref b] below meth c H locs (25 + 103 * t + 103) (4653 + 5109 * t + 5109) (lw_Z below #[Value.ref b] s) (F0 m 517 ls [])) := by
      intro I M n its nb bs ib F G H locs ls hI hl
      refine lv_iinc (v := nI (i + 6)) (lv' := [(3, .int (nI (i + 6))), (2, .ref m0), (1, .ref x), (0, .ref b)]) hx hb d_law_517 hl (k := 0) rfl (nI_add i 6) (by decide) rfl (fun ls hl => ?_)
      refine lv_goto (tgt := 18) hx hb d_law_520 (by decide) ?_
      refine W.widen (k := 25 + 103 * (t + 1)) (n := 4653 + 5109 * (t + 1)) (by omega) (by omega) ?_
      exact ih (t + 1) (i + 6) (by omega) (by omega) hi6 I M n its nb bs ib F G H locs ls hI hl
    refine lv_aload_n hx hb d_law_27 rfl (lv_at hl 3 rfl) ?_
    refine lv_iload_n hx hb d_law_28 rfl (lv_at hl 0 rfl) ?_
    refine va_sld hx hb hX hbl hbA hS (vp_in_nI (show i < L by omega) (by omega)) d_law_29 ?_
    refine lv_bipush (v := 15) hx hb d_law_30 (by decide) ?_
    refine lv_iand hx hb d_law_32 ?_
    generalize xs (nI i).toNatClampNeg &&& 15 = w
    by_cases c_2 : w = 0
    · refine lv_tableIn (tgt := 104) hx hb d_law_33 (by rw [c_2]; decide) (by rw [c_2]; decide) (by rw [c_2]; rfl) (by decide) ?_
      exact lw_box C0 hKK hg hI hL3 hi6 (by omega) (by omega) hl kk
    by_cases c_3 : w = 1
    · refine lv_tableIn (tgt := 147) hx hb d_law_33 (by rw [c_3]; decide) (by rw [c_3]; decide) (by rw [c_3]; rfl) (by decide) ?_
      exact lw_put C0 hKK hg hI hL3 hi6 (by omega) (by omega) hl kk
    by_cases c_4 : w = 2
    · refine lv_tableIn (tgt := 180) hx hb d_law_33 (by rw [c_4]; decide) (by rw [c_4]; decide) (by rw [c_4]; rfl) (by decide) ?_
      exact lw_glue C0 hKK hg hI hL3 hi6 (by omega) (by omega) hl kk
    by_cases c_5 : w = 3
    · refine lv_tableIn (tgt := 243) hx hb d_law_33 (by rw [c_5]; decide) (by rw [c_5]; decide) (by rw [c_5]; rfl) (by decide) ?_
      exact lw_kern C0 hKK hg hI hL3 hi6 (by omega) (by omega) hl kk
    by_cases c_6 : w = 4
    · refine lv_tableIn (tgt := 266) hx hb d_law_33 (by rw [c_6]; decide) (by rw [c_6]; decide) (by rw [c_6]; rfl) (by decide) ?_
      exact lw_rule C0 hKK hg hI hL3 hi6 (by omega) (by omega) hl kk
    by_cases c_7 : w = 5
    · refine lv_tableIn (tgt := 309) hx hb d_law_33 (by rw [c_7]; decide) (by rw [c_7]; decide) (by rw [c_7]; rfl) (by decide) ?_
      exact lw_leaders C0 hKK hg hI hL3 hi6 (by omega) (by omega) hl kk
    by_cases c_8 : w = 6
    · refine lv_tableIn (tgt := 342) hx hb d_law_33 (by rw [c_8]; decide) (by rw [c_8]; decide) (by rw [c_8]; rfl) (by decide) ?_
      exact lw_pack C0 hKK hg hI hL3 hi6 (by omega) (by omega) hl kk
    by_cases c_9 : w = 7
    · refine lv_tableIn (tgt := 365) hx hb d_law_33 (by rw [c_9]; decide) (by rw [c_9]; decide) (by rw [c_9]; rfl) (by decide) ?_
      exact lw_unpack C0 hKK hg hI hL3 hi6 (by omega) (by omega) hl kk
    by_cases c_10 : w = 8
    · refine lv_tableIn (tgt := 388) hx hb d_law_33 (by rw [c_10]; decide) (by rw [c_10]; decide) (by rw [c_10]; rfl) (by decide) ?_
      exact lw_told C0 hKK hg hI hL3 hi6 (by omega) (by omega) hl kk
    by_cases c_11 : w = 9
    · refine lv_tableIn (tgt := 421) hx hb d_law_33 (by rw [c_11]; decide) (by rw [c_11]; decide) (by rw [c_11]; rfl) (by decide) ?_
      exact lw_item C0 hKK hg hI hL3 hi6 (by omega) (by omega) hl kk
    by_cases c_12 : w = 10
    · refine lv_tableIn (tgt := 464) hx hb d_law_33 (by rw [c_12]; decide) (by rw [c_12]; decide) (by rw [c_12]; rfl) (by decide) ?_
      exact lw_size C0 hKK hg hI hL3 hi6 (by omega) (by omega) hl kk
    by_cases c_13 : w = 11
    · refine lv_tableIn (tgt := 477) hx hb d_law_33 (by rw [c_13]; decide) (by rw [c_13]; decide) (by rw [c_13]; rfl) (by decide) ?_
      exact lw_natural C0 hKK hg hI hL3 hi6 (by omega) (by omega) hl kk
    by_cases c_14 : w = 12
    · refine lv_tableIn (tgt := 491) hx hb d_law_33 (by rw [c_14]; decide) (by rw [c_14]; decide) (by rw [c_14]; rfl) (by decide) ?_
      exact lw_drop C0 hKK hg hI hL3 hi6 (by omega) (by omega) hl kk
    by_cases c_15 : w = 13
    · refine lv_tableIn (tgt := 504) hx hb d_law_33 (by rw [c_15]; decide) (by rw [c_15]; decide) (by rw [c_15]; rfl) (by decide) ?_
      exact lw_boxes C0 hKK hg hI hL3 hi6 (by omega) (by omega) hl kk
    refine lv_tableOut (tgt := 517) hx hb d_law_33 (k_sw14 c_2 c_3 c_4 c_5 c_6 c_7 c_8 c_9 c_10 c_11 c_12 c_13 c_14 c_15) (by decide) ?_
    refine W.widen (k := 25 + 103 * t + 103) (n := 4653 + 5109 * t + 5109) (by omega) (by omega) ?_
    exact kk _ _ _ _ _ _ _ _ _ _ _ _ hI hl
/-! the tables at the law's start -/
set_option maxRecDepth 100000 in
theorem lw_KK {p : Program} {s : State} {m : MethodId} {meth : Method} {c : Code} {b L : Nat} {xs : Nat → Int32} (C0 : lw_At p s m meth c b L xs) : ∃ g : KGt, KK g s ∧ g.2.2.1 = s.heap := by
  obtain ⟨hx, hb, hr, hml, hown, hts0, hX, hbl, hlocks, hgv⟩ := id C0
  have hts : ∀ w ∈ kG, w.before #[Value.ref b] s = true := fun w hw => hts0 w (kG_in hw)
  have htt : ∀ w ∈ tables_1, w.before #[Value.ref b] s = true := fun w hw => hts0 w (List.mem_append_right _ hw)
  have hs := flat_of_before _ hgv
  obtain ⟨c0, i0, hK0⟩ := u_known (C := "BoxGlue") (T := kT_BG) (N := 3) (n := 3) hts ki_BG (hts _ kw_22)
  obtain ⟨c1, i1, hK1⟩ := u_known (C := "java/util/ArrayList") (T := kT_AL) (N := 3) (n := 3) hts ki_AL (hts _ kw_30)
  obtain ⟨c2, i2, hK2⟩ := u_known (C := "BoxGlue$Box") (T := kT_Box) (N := 5) (n := 5) hts ki_Box (hts _ kw_81)
  obtain ⟨c3, i3, hK3⟩ := u_known (C := "BoxGlue$Fit") (T := kT_Fit) (N := 4) (n := 4) hts ki_Fit (hts _ kw_83)
  obtain ⟨c4, i4, hK4⟩ := u_known (C := "BoxGlue$Put") (T := kT_Put) (N := 4) (n := 4) hts ki_Put (hts _ kw_203)
  obtain ⟨c5, i5, hK5⟩ := u_known (C := "BoxGlue$Glue") (T := kT_Glue) (N := 7) (n := 7) hts ki_Glue (hts _ kw_256)
  obtain ⟨c6, i6, hK6⟩ := u_known (C := "BoxGlue$Kern") (T := kT_Kern) (N := 2) (n := 2) hts ki_Kern (hts _ kw_297)
  obtain ⟨c7, i7, hK7⟩ := u_known (C := "BoxGlue$Rule") (T := kT_Rule) (N := 4) (n := 4) hts ki_Rule (hts _ kw_314)
  obtain ⟨c8, i8, hK8⟩ := u_known (C := "BoxGlue$Leaders") (T := kT_Leaders) (N := 2) (n := 2) hts ki_Leaders (hts _ kw_258)
  obtain ⟨c9, i9, hK9⟩ := u_known (C := "BoxGlue$Placed") (T := kT_Placed) (N := 3) (n := 3) hts ki_Placed (hts _ kw_433)
  obtain ⟨c10, i10, hK10⟩ := u_known (C := "BoxGlueModel") (T := kT_Mod) (N := 24) (n := 24) hts ki_Mod (hts _ kw_576)
  obtain ⟨comp, cO, kO, o1, -, o3, o4, o5⟩ := Cond.arrayOver_spec (htt _ kw_180)
  obtain ⟨cI, kI, compI, j1, j2, j3⟩ := Cond.arrayClass_spec (hts _ kw_654)
  obtain ⟨cL, kL, compL, l1, l2, l3⟩ := Cond.arrayClass_spec (hts _ kw_655)
  have harr : (Cond.arrayOf (.static "java/util/ArrayList" "DEFAULTCAPACITY_EMPTY_ELEMENTDATA" "[Ljava/lang/Object;") (.object "java/lang/Object")).before #[Value.ref b] s = true := hs _ (by decide +kernel)
  have hlen : (Cond.eq (.length (.static "java/util/ArrayList" "DEFAULTCAPACITY_EMPTY_ELEMENTDATA" "[Ljava/lang/Object;")) (.int 0)).before #[Value.ref b] s = true := hs _ (by decide +kernel)
  obtain ⟨y, y1, y2⟩ := Cond.eq_one hlen
  have hy : y = .int (Int32.ofNat 0) := (Option.some.inj y2).symm
  rw [hy] at y1
  obtain ⟨t, ht, hT⟩ := va_Tof (N := 0) (f := fun _ => .null) (A := fun _ => False) (by decide) harr y1 (fun j hj => absurd hj (Nat.not_lt_zero j)) (fun _ _ h => h)
  have hZ := va_Zof (A := fun _ => False) (htt _ kw_42) (hts _ kw_4) ht (fun _ _ h => h)
  obtain ⟨mi, hMi⟩ := va_Mi.of (C := "[Ljava/lang/Object;") (hs _ (by decide +kernel))
  refine ⟨((fun k => match k with | 0 => c0 | 1 => c1 | 2 => c2 | 3 => c3 | 4 => c4 | 5 => c5 | 6 => c6 | 7 => c7 | 8 => c8 | 9 => c9 | _ => c10, fun k => match k with | 0 => i0 | 1 => i1 | 2 => i2 | 3 => i3 | 4 => i4 | 5 => i5 | 6 => i6 | 7 => i7 | 8 => i8 | 9 => i9 | _ => i10), (cO, cI, cL), s.heap, t, mi), ⟨⟨?_, ?_⟩, ?_, ⟨va_Nc.of (hs _ (by decide +kernel)), va_Nc.of (hs _ (by decide +kernel)), va_Nc.of (hs _ (by decide +kernel))⟩, va_AO.of (htt _ kw_180), hMi, va_Dc.of (htt _ kw_789), hZ, hT⟩, rfl⟩
  · intro k q hq
    match k, hq with
    | 0, hq => cases hq; exact hK0
    | 1, hq => cases hq; exact hK1
    | 2, hq => cases hq; exact hK2
    | 3, hq => cases hq; exact hK3
    | 4, hq => cases hq; exact hK4
    | 5, hq => cases hq; exact hK5
    | 6, hq => cases hq; exact hK6
    | 7, hq => cases hq; exact hK7
    | 8, hq => cases hq; exact hK8
    | 9, hq => cases hq; exact hK9
    | 10, hq => cases hq; exact hK10
    | k + 11, hq => simp [kcl] at hq
  · intro k q hq
    match k, hq with
    | 0, hq => cases hq; exact ⟨fun n z => ⟨fun k h => (by cases h), kO, o3, comp, o4⟩, kO, comp, o3, o4, o1, o5⟩
    | 1, hq => cases hq; exact ⟨fun n z => ⟨fun k h => (by cases h), kI, j2, compI, j3⟩, j1⟩
    | 2, hq => cases hq; exact ⟨fun n z => ⟨fun k h => (by cases h), kL, l2, compL, l3⟩, l1⟩
    | k + 3, hq => simp [kTy] at hq
  · intro w hw
    simp only [kCast, List.mem_cons, List.not_mem_nil, or_false] at hw
    rcases hw with rfl | rfl | rfl | rfl | rfl | rfl | rfl | rfl | rfl | rfl | rfl | rfl | rfl
    · exact va_Nw.of rfl (htt _ kw_780)
    · exact va_Nw.of rfl (htt _ kw_781)
    · exact va_Nw.of rfl (htt _ kw_782)
    · exact va_Nw.of rfl (htt _ kw_783)
    · exact va_Nw.of rfl (htt _ kw_784)
    · exact va_Nw.of rfl (htt _ kw_785)
    · exact va_Nw.of rfl (htt _ kw_786)
    · exact va_Nw.of rfl (htt _ kw_792)
    · exact va_Nw.of rfl (htt _ kw_794)
    · exact va_Nw.of rfl (htt _ kw_795)
    · exact va_Nw.of rfl (htt _ kw_797)
    · exact va_Nw.of rfl (htt _ kw_798)
    · exact va_Nw.of rfl (htt _ kw_799)

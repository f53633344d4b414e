/-! the reference's state: one object, 19 rows of ints, 2 rows of longs -/
/-- a field's number that holds a row -/
def mK (k : Nat) : Prop := k < 10 ∨ (15 ≤ k ∧ k < 24)
def mL (k : Nat) : Nat := if k < 15 then 340 else 60
def mA (m0 : Nat) (ad : Nat → Nat) : Nat → Prop := fun q => q = m0 ∨ ∃ k, k < 24 ∧ q = ad k
def mF (F : Nat → Nat → Int32) (k j : Nat) (x : Int32) : Nat → Nat → Int32 := fun a => if a = k then upd (F k) j x else F a
def mG (G : Nat → Nat → Int64) (k j : Nat) (x : Int64) : Nat → Nat → Int64 := fun a => if a = k then vp_updL (G k) j x else G a
abbrev mObj (ad : Nat → Nat) (sz us bx : Nat) : List Value := [.ref (ad 0), .ref (ad 1), .ref (ad 2), .ref (ad 3), .ref (ad 4), .ref (ad 5), .ref (ad 6), .ref (ad 7), .ref (ad 8), .ref (ad 9), .ref (ad 10), .ref (ad 11), .int (nI sz), .int (nI us), .int (nI bx), .ref (ad 15), .ref (ad 16), .ref (ad 17), .ref (ad 18), .ref (ad 19), .ref (ad 20), .ref (ad 21), .ref (ad 22), .ref (ad 23)]
def kMod (g : KGt) (m0 : Nat) (ad : Nat → Nat) (sz us bx : Nat) (F : Nat → Nat → Int32) (G : Nat → Nat → Int64) (H : Heap) : Prop :=
  va_at g.1 kcl (m0, .inr (10, mObj ad sz us bx)) H ∧ (∀ k, mK k → va_at g.1 kcl (ad k, .inl (g.2.1.2.1, mL k, .inl (F k))) H) ∧ (∀ k, k = 10 ∨ k = 11 → va_at g.1 kcl (ad k, .inl (g.2.1.2.2, mL k, .inr (.inl (G k)))) H) ∧
  (∀ i j, (mK i ∨ i = 10 ∨ i = 11) → (mK j ∨ j = 10 ∨ j = 11) → ad i = ad j → i = j) ∧ ∀ k, (mK k ∨ k = 10 ∨ k = 11) → ad k ≠ m0
theorem mK_lt {k : Nat} (h : mK k ∨ k = 10 ∨ k = 11) : k < 24 := by
  unfold mK at h
  omega
theorem mL_lt (k : Nat) : mL k < 2 ^ 31 := by
  unfold mL
  split <;> omega
theorem mF_self {F : Nat → Nat → Int32} {k j : Nat} {x : Int32} : mF F k j x k j = x := by
  unfold mF
  rw [if_pos rfl]
  exact pk_us
theorem mF_row {F : Nat → Nat → Int32} {k k2 j : Nat} {x : Int32} (h : k2 ≠ k) : mF F k j x k2 = F k2 := if_neg h
theorem mF_ne {F : Nat → Nat → Int32} {k j j2 k2 : Nat} {x : Int32} (h : j2 ≠ j) : mF F k j x k2 j2 = F k2 j2 := by
  unfold mF
  by_cases e : k2 = k
  · rw [if_pos e, e]
    exact pk_un h
  · rw [if_neg e]
theorem kMod.ext {g : KGt} {m0 : Nat} {ad : Nat → Nat} {sz us bx : Nat} {F : Nat → Nat → Int32} {G : Nat → Nat → Int64} {A : Nat → Prop} {H H1 : Heap} (h : kMod g m0 ad sz us bx F G H) (hE : kE A H H1) (hA : ∀ q, mA m0 ad q → ¬ A q) : kMod g m0 ad sz us bx F G H1 :=
  ⟨hE.at h.1 (hA _ (Or.inl rfl)), fun k hk => hE.at (h.2.1 k hk) (hA _ (Or.inr ⟨k, mK_lt (Or.inl hk), rfl⟩)), fun k hk => hE.at (h.2.2.1 k hk) (hA _ (Or.inr ⟨k, mK_lt (Or.inr hk), rfl⟩)), h.2.2.2⟩
section KM
variable {p : Program} {l : Launch} {e : Env} {R : Room} {s : State} {m : MethodId} {args : Array Value} {below : List Frame} {meth : Method} {c : Code} {H : Heap} {locs : List Loc} {cells slots : Nat} {Q : State → Prop}
variable {cc : ByteArray} {pc : Nat} {ls : Array Slot} {rest : List Value} {g : KGt} {m0 : Nat} {ad : Nat → Nat} {sz us bx : Nat} {F : Nat → Nat → Int32} {G : Nat → Nat → Int64}
theorem m_iald (hexec : p.tables.exec = Jvm.exec) (hb : c.code = cc) (hK : va_K g.1 kcl (kTy g) s) (hM : kMod g m0 ad sz us bx F G H) (k j : Nat) (hk : mK k) (hj : j < mL k) (hdg : decode cc pc = .ok (.iaload, 1))
    (kk : W p l e R s m args below meth c H locs cells slots Q (F0 m (pc + 1) ls (.int (F k j) :: rest))) : W p l e R s m args below meth c H locs cells slots Q (F0 m pc ls (.int (nI j) :: .ref (ad k) :: rest)) := by
  refine va_iald hexec hb hK (k_one (hM.2.1 k hk)) 0 1 rfl rfl (vp_in_nI hj (mL_lt k)) hdg ?_
  rw [nI_clamp (Nat.lt_trans hj (mL_lt k))]
  exact kk
theorem m_lald (hexec : p.tables.exec = Jvm.exec) (hb : c.code = cc) (hK : va_K g.1 kcl (kTy g) s) (hM : kMod g m0 ad sz us bx F G H) (k j : Nat) (hk : k = 10 ∨ k = 11) (hj : j < mL k) (hdg : decode cc pc = .ok (.laload, 1))
    (kk : W p l e R s m args below meth c H locs cells slots Q (F0 m (pc + 1) ls (.long (G k j) :: rest))) : W p l e R s m args below meth c H locs cells slots Q (F0 m pc ls (.int (nI j) :: .ref (ad k) :: rest)) := by
  refine va_lald hexec hb hK (k_one (hM.2.2.1 k hk)) 0 2 rfl rfl (vp_in_nI hj (mL_lt k)) hdg ?_
  rw [nI_clamp (Nat.lt_trans hj (mL_lt k))]
  exact kk
/-- one row is another function, all else stays -/
theorem kMod.row {H1 : Heap} (hM : kMod g m0 ad sz us bx F G H) {k j : Nat} {x : Int32} (hk : mK k) (h1 : va_at g.1 kcl (ad k, .inl (g.2.1.2.1, mL k, .inl (upd (F k) j x))) H1) (oq : ∀ q : Nat, q ≠ ad k → H1[q]? = H[q]?) : kMod g m0 ad sz us bx (mF F k j x) G H1 := by
  refine ⟨hM.1.kept (oq _ (fun h => hM.2.2.2.2 k (Or.inl hk) h.symm)), fun a ha => ?_, fun a ha => (hM.2.2.1 a ha).kept (oq _ (fun h => ?_)), hM.2.2.2⟩
  · by_cases e : a = k
    · subst e
      unfold mF
      rw [if_pos rfl]
      exact h1
    · rw [mF_row e]
      exact (hM.2.1 a ha).kept (oq _ (fun h => e (hM.2.2.2.1 a k (Or.inl ha) (Or.inl hk) h)))
  · have e := hM.2.2.2.1 a k (Or.inr ha) (Or.inl hk) h
    unfold mK at hk
    omega
theorem kMod.rowL {H1 : Heap} (hM : kMod g m0 ad sz us bx F G H) {k j : Nat} {x : Int64} (hk : k = 10 ∨ k = 11) (h1 : va_at g.1 kcl (ad k, .inl (g.2.1.2.2, mL k, .inr (.inl (vp_updL (G k) j x)))) H1) (oq : ∀ q : Nat, q ≠ ad k → H1[q]? = H[q]?) : kMod g m0 ad sz us bx F (mG G k j x) H1 := by
  refine ⟨hM.1.kept (oq _ (fun h => hM.2.2.2.2 k (Or.inr hk) h.symm)), fun a ha => (hM.2.1 a ha).kept (oq _ (fun h => ?_)), fun a ha => ?_, hM.2.2.2⟩
  · have e := hM.2.2.2.1 a k (Or.inl ha) (Or.inr hk) h
    unfold mK at ha
    omega
  · by_cases e : a = k
    · subst e
      unfold mG
      rw [if_pos rfl]
      exact h1
    · unfold mG
      rw [if_neg e]
      exact (hM.2.2.1 a ha).kept (oq _ (fun h => e (hM.2.2.2.1 a k (Or.inr ha) (Or.inr hk) h)))
theorem m_kE {H1 : Heap} {a : Nat} (z : H1.size = H.size) (oq : ∀ q : Nat, q ≠ a → H1[q]? = H[q]?) (ha : mA m0 ad a) : kE (mA m0 ad) H H1 := ⟨by omega, fun q _ h => oq q (fun e => h (by rw [e]; exact ha))⟩
theorem m_iast (hexec : p.tables.exec = Jvm.exec) (hb : c.code = cc) (hK : va_K g.1 kcl (kTy g) s) (hM : kMod g m0 ad sz us bx F G H) (hL : ∀ q ∈ locs, mA m0 ad q.base) (k j : Nat) (hk : mK k) (hj : j < mL k) {x : Int32} (hdg : decode cc pc = .ok (.iastore, 1))
    (kk : ∀ (H1 : Heap) (locs1 : List Loc), kMod g m0 ad sz us bx (mF F k j x) G H1 → kE (mA m0 ad) H H1 → (∀ q ∈ locs1, mA m0 ad q.base) → W p l e R s m args below meth c H1 locs1 cells slots Q (F0 m (pc + 1) ls rest)) : W p l e R s m args below meth c H locs cells slots Q (F0 m pc ls (.int x :: .int (nI j) :: .ref (ad k) :: rest)) := by
  have hc : (nI j).toNatClampNeg = j := nI_clamp (Nat.lt_trans hj (mL_lt k))
  have ha : mA m0 ad (ad k) := Or.inr ⟨k, mK_lt (Or.inl hk), rfl⟩
  refine W.iast hexec hb (hM.2.1 k hk) ((hK.2 1 _ rfl).1 (mL k) (fun j => .int (F k j))) (fun q => by cases q) (by show ¬ (nI j < 0 ∨ (arrV _ _ _).slots.size ≤ _); rw [arrV_size]; exact vp_in_nI hj (mL_lt k)) rfl rfl hdg fun H1 e1 z oq => ?_
  rw [hc] at e1 ⊢
  refine kk H1 _ (hM.row hk ?_ oq) (m_kE z oq ha) (t_lc hL ha)
  show H1[ad k]? = some (vp_cell _ _)
  rw [e1, vp_cell_i, vp_cell_i, arrV_store]
  congr 2
  funext q
  by_cases hq : q = j
  · subst hq; simp [updV, upd]
  · simp [updV, upd, hq]
theorem m_last (hexec : p.tables.exec = Jvm.exec) (hb : c.code = cc) (hK : va_K g.1 kcl (kTy g) s) (hM : kMod g m0 ad sz us bx F G H) (hL : ∀ q ∈ locs, mA m0 ad q.base) (k j : Nat) (hk : k = 10 ∨ k = 11) (hj : j < mL k) {x : Int64} (hdg : decode cc pc = .ok (.lastore, 1))
    (kk : ∀ (H1 : Heap) (locs1 : List Loc), kMod g m0 ad sz us bx F (mG G k j x) H1 → kE (mA m0 ad) H H1 → (∀ q ∈ locs1, mA m0 ad q.base) → W p l e R s m args below meth c H1 locs1 cells slots Q (F0 m (pc + 1) ls rest)) : W p l e R s m args below meth c H locs cells slots Q (F0 m pc ls (.long x :: .int (nI j) :: .ref (ad k) :: rest)) := by
  have hc : (nI j).toNatClampNeg = j := nI_clamp (Nat.lt_trans hj (mL_lt k))
  have ha : mA m0 ad (ad k) := Or.inr ⟨k, mK_lt (Or.inr hk), rfl⟩
  refine W.last hexec hb (hM.2.2.1 k hk) ((hK.2 2 _ rfl).1 (mL k) (fun j => .long (G k j))) (fun q => by cases q) (by show ¬ (nI j < 0 ∨ (arrV _ _ _).slots.size ≤ _); rw [arrV_size]; exact vp_in_nI hj (mL_lt k)) rfl rfl hdg fun H1 e1 z oq => ?_
  rw [hc] at e1 ⊢
  refine kk H1 _ (hM.rowL hk ?_ oq) (m_kE z oq ha) (t_lc hL ha)
  show H1[ad k]? = some (vp_cell _ _)
  rw [e1, vp_cell_l, vp_cell_l, arrV_store]
  congr 2
  funext q
  by_cases hq : q = j
  · subst hq; simp [updV, vp_updL]
  · simp [updV, vp_updL, hq]
/-- an int field of the object is written -/
theorem m_put0 (hexec : p.tables.exec = Jvm.exec) (hb : c.code = cc) {index : Nat} (hts : ∀ w ∈ kG, w.before args s = true) (hown : s.vm.findClass "BoxGlueModel" = some m.cls) (hK : va_K g.1 kcl (kTy g) s) {fs : List Value} (ho : va_at g.1 kcl (m0, .inr (10, fs)) H) (k : Nat) (hk : k < 24) (hlen : fs.length = 24) {x : Int32}
    (hlink : (Cond.fieldLink "BoxGlueModel" index "BoxGlueModel" (kT_Mod k).2.1 (kT_Mod k).2.2.1).before args s = true) (hkd : (kT_Mod k).1 = "BoxGlueModel") (hfin : (kT_Mod k).2.2.2 = false) (hty : parseFieldDescriptor (kT_Mod k).2.2.1 = some .int) (hdg : decode cc pc = .ok (.putfield index, 3))
    (kk : ∀ (H1 : Heap) (sl : Nat), va_at g.1 kcl (m0, .inr (10, fs.set k (.int x))) H1 → H1.size = H.size → (∀ q : Nat, q ≠ m0 → H1[q]? = H[q]?) → W p l e R s m args below meth c H1 (locs ++ [⟨m0, sl⟩]) cells slots Q (F0 m (pc + 3) ls rest)) : W p l e R s m args below meth c H locs cells slots Q (F0 m pc ls (.int x :: .ref m0 :: rest)) := by
  have hap := va_apart (own := "BoxGlueModel") hts ki_Mod kt_Mod ko_Mod kn_Mod hK (ci := 10) rfl
  obtain ⟨r, h1, cell, q1, q2, q3, q4⟩ := ho
  cases h1
  obtain ⟨hSl, hfc, kC, hkC, hkind⟩ := hK.1 10 _ rfl
  obtain ⟨cf, kf, fi, f, hi, hsl⟩ := hSl k hk
  have hlay := hts _ (ki_Mod _ (u_in_lay (k := k) hk))
  unfold u_lay at hlay
  rw [if_neg (by rw [hfin]; decide)] at hlay
  have hst := (u_facts hfc hkC (u_lays hts ki_Mod (k := k) hk) hi).1
  have h6 := u_store (v := .int x) hfc hkC hkind hlay hi hty rfl rfl
  refine W.putK hexec hb (f := f) ⟨hown, hlink, ⟨_, _, _, by rw [← hkd]; exact hi⟩, hst⟩ (by rw [q2]; exact h6) q1 q3 (by rw [hsl]; exact k2_hasslot (q4 k hk)) rfl rfl hdg fun H1 e1 e2 e3 => ?_
  rw [hsl] at e1
  exact kk H1 _ ⟨_, rfl, t_OB.to (V := updV (vp_V fs) k (.int x)) ⟨_, e1, q2, q3, t_set q4 hap hk (.int x)⟩ (fun j _ => vp_updV_set (fs := fs) (k := k) (by rw [hlen]; exact hk) (.int x) j)⟩ e2 e3
theorem kMod.obj {H1 : Heap} {sz2 us2 bx2 : Nat} (hM : kMod g m0 ad sz us bx F G H) (h1 : va_at g.1 kcl (m0, .inr (10, mObj ad sz2 us2 bx2)) H1) (oq : ∀ q : Nat, q ≠ m0 → H1[q]? = H[q]?) : kMod g m0 ad sz2 us2 bx2 F G H1 :=
  ⟨h1, fun k hk => (hM.2.1 k hk).kept (oq _ (hM.2.2.2.2 k (Or.inl hk))), fun k hk => (hM.2.2.1 k hk).kept (oq _ (hM.2.2.2.2 k (Or.inr hk))), hM.2.2.2⟩
theorem m_psz (hexec : p.tables.exec = Jvm.exec) (hb : c.code = cc) (hts : ∀ w ∈ kG, w.before args s = true) (hown : s.vm.findClass "BoxGlueModel" = some m.cls) (hK : va_K g.1 kcl (kTy g) s) (hM : kMod g m0 ad sz us bx F G H) (hL : ∀ q ∈ locs, mA m0 ad q.base) {index sz2 : Nat} (hlink : (Cond.fieldLink "BoxGlueModel" index "BoxGlueModel" "size" "I").before args s = true) (hdg : decode cc pc = .ok (.putfield index, 3))
    (kk : ∀ (H1 : Heap) (locs1 : List Loc), kMod g m0 ad sz2 us bx F G H1 → kE (mA m0 ad) H H1 → (∀ q ∈ locs1, mA m0 ad q.base) → W p l e R s m args below meth c H1 locs1 cells slots Q (F0 m (pc + 3) ls rest)) : W p l e R s m args below meth c H locs cells slots Q (F0 m pc ls (.int (nI sz2) :: .ref m0 :: rest)) := by
  refine m_put0 hexec hb hts hown hK hM.1 12 (by decide) rfl hlink rfl rfl (by decide +kernel) hdg fun H1 sl h1 z oq => ?_
  exact kk H1 _ (hM.obj h1 oq) (m_kE z oq (Or.inl rfl)) (t_lc hL (Or.inl rfl))
theorem m_pus (hexec : p.tables.exec = Jvm.exec) (hb : c.code = cc) (hts : ∀ w ∈ kG, w.before args s = true) (hown : s.vm.findClass "BoxGlueModel" = some m.cls) (hK : va_K g.1 kcl (kTy g) s) (hM : kMod g m0 ad sz us bx F G H) (hL : ∀ q ∈ locs, mA m0 ad q.base) {index us2 : Nat} (hlink : (Cond.fieldLink "BoxGlueModel" index "BoxGlueModel" "used" "I").before args s = true) (hdg : decode cc pc = .ok (.putfield index, 3))
    (kk : ∀ (H1 : Heap) (locs1 : List Loc), kMod g m0 ad sz us2 bx F G H1 → kE (mA m0 ad) H H1 → (∀ q ∈ locs1, mA m0 ad q.base) → W p l e R s m args below meth c H1 locs1 cells slots Q (F0 m (pc + 3) ls rest)) : W p l e R s m args below meth c H locs cells slots Q (F0 m pc ls (.int (nI us2) :: .ref m0 :: rest)) := by
  refine m_put0 hexec hb hts hown hK hM.1 13 (by decide) rfl hlink rfl rfl (by decide +kernel) hdg fun H1 sl h1 z oq => ?_
  exact kk H1 _ (hM.obj h1 oq) (m_kE z oq (Or.inl rfl)) (t_lc hL (Or.inl rfl))
theorem m_pbx (hexec : p.tables.exec = Jvm.exec) (hb : c.code = cc) (hts : ∀ w ∈ kG, w.before args s = true) (hown : s.vm.findClass "BoxGlueModel" = some m.cls) (hK : va_K g.1 kcl (kTy g) s) (hM : kMod g m0 ad sz us bx F G H) (hL : ∀ q ∈ locs, mA m0 ad q.base) {index bx2 : Nat} (hlink : (Cond.fieldLink "BoxGlueModel" index "BoxGlueModel" "boxes" "I").before args s = true) (hdg : decode cc pc = .ok (.putfield index, 3))
    (kk : ∀ (H1 : Heap) (locs1 : List Loc), kMod g m0 ad sz us bx2 F G H1 → kE (mA m0 ad) H H1 → (∀ q ∈ locs1, mA m0 ad q.base) → W p l e R s m args below meth c H1 locs1 cells slots Q (F0 m (pc + 3) ls rest)) : W p l e R s m args below meth c H locs cells slots Q (F0 m pc ls (.int (nI bx2) :: .ref m0 :: rest)) := by
  refine m_put0 hexec hb hts hown hK hM.1 14 (by decide) rfl hlink rfl rfl (by decide +kernel) hdg fun H1 sl h1 z oq => ?_
  exact kk H1 _ (hM.obj h1 oq) (m_kE z oq (Or.inl rfl)) (t_lc hL (Or.inl rfl))
end KM

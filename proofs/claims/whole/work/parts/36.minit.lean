/-! the reference: its constructor -/
def mIs (k : Nat) : Bool := k == 12 || k == 13 || k == 14
def mIn (ad : Nat → Nat) (n : Nat) : List Value := (List.range 24).map fun k => if mIs k then .int 0 else if k < n then .ref (ad k) else .null
theorem mIn_len (ad : Nat → Nat) (n : Nat) : (mIn ad n).length = 24 := by simp [mIn]
theorem mIn_get (ad : Nat → Nat) (n i : Nat) (h : i < (mIn ad n).length) : (mIn ad n)[i] = if mIs i then .int 0 else if i < n then .ref (ad i) else .null := by simp [mIn]
theorem mIn_set (ad : Nat → Nat) (k q : Nat) (hk : mIs k = false) : (mIn ad k).set k (.ref q) = mIn (va_up ad k q) (k + 1) := by
  apply List.ext_getElem (by simp [mIn])
  intro i h1 h2
  rw [List.getElem_set, mIn_get]
  by_cases e : k = i
  · subst e
    rw [if_pos rfl, mIn_get, if_neg (by rw [hk]; decide), if_pos (by omega), va_up_self]
  · rw [if_neg e, mIn_get, va_up_ne _ _ (fun h => e h.symm)]
    by_cases e2 : mIs i = true
    · rw [if_pos e2, if_pos e2]
    · rw [if_neg e2, if_neg e2]
      by_cases e3 : i < k
      · rw [if_pos e3, if_pos (by omega)]
      · rw [if_neg e3, if_neg (by omega)]
def kIni (g : KGt) (H0 : Heap) (m0 : Nat) (ad : Nat → Nat) (n : Nat) (H : Heap) : Prop :=
  va_at g.1 kcl (m0, .inr (10, mIn ad n)) H ∧ (∀ k, k < n → mK k → va_at g.1 kcl (ad k, .inl (g.2.1.2.1, mL k, .inl (fun _ => 0))) H) ∧ (∀ k, k < n → (k = 10 ∨ k = 11) → va_at g.1 kcl (ad k, .inl (g.2.1.2.2, mL k, .inr (.inl (fun _ => 0)))) H) ∧
  (∀ i j, i < n → j < n → (mK i ∨ i = 10 ∨ i = 11) → (mK j ∨ j = 10 ∨ j = 11) → ad i = ad j → i = j) ∧ (∀ k, k < n → (mK k ∨ k = 10 ∨ k = 11) → H0.size ≤ ad k ∧ ad k < H.size) ∧ m0 < H0.size ∧ kE (fun q => q = m0) H0 H ∧ ∀ k, (n ≤ k ∨ mIs k = true) → ad k = m0
theorem kIni.step {g : KGt} {H0 : Heap} {m0 : Nat} {ad : Nat → Nat} {n : Nat} {H H1 H2 : Heap} {q : Nat} (h : kIni g H0 m0 ad n H) (hs : mIs n = false) (hq : q = H.size) (h1 : H1.size = H.size + 1) (ho : ∀ z, z < H.size → H1[z]? = H[z]?) (hE : kE (fun z => z = m0) H1 H2) (hob : va_at g.1 kcl (m0, .inr (10, mIn (va_up ad n q) (n + 1))) H2)
    (hi : mK n → va_at g.1 kcl (q, .inl (g.2.1.2.1, mL n, .inl (fun _ => 0))) H1) (hl : n = 10 ∨ n = 11 → va_at g.1 kcl (q, .inl (g.2.1.2.2, mL n, .inr (.inl (fun _ => 0)))) H1) : kIni g H0 m0 (va_up ad n q) (n + 1) H2 := by
  obtain ⟨a1, a2, a3, a4, a5, a6, a7, a8⟩ := h
  have hs0 : H0.size ≤ H.size := a7.1
  have hqm : q ≠ m0 := by omega
  refine ⟨hob, fun k hk hm => ?_, fun k hk hm => ?_, fun i j h2 h3 r1 r2 e => ?_, fun k hk hm => ?_, a6, ⟨by have := hE.1; omega, fun z hz hn => ?_⟩, fun k hk => ?_⟩
  · by_cases e : k = n
    · subst e
      rw [va_up_self]
      exact hE.at (hi hm) hqm
    · rw [va_up_ne _ _ e]
      have w := a5 k (by omega) (Or.inl hm)
      exact hE.at ((a2 k (by omega) hm).kept (ho _ w.2)) (show ad k ≠ m0 by omega)
  · by_cases e : k = n
    · subst e
      rw [va_up_self]
      exact hE.at (hl hm) hqm
    · rw [va_up_ne _ _ e]
      have w := a5 k (by omega) (Or.inr hm)
      exact hE.at ((a3 k (by omega) hm).kept (ho _ w.2)) (show ad k ≠ m0 by omega)
  · by_cases e1 : i = n
    · subst e1
      by_cases e2 : j = i
      · exact e2.symm
      · rw [va_up_self, va_up_ne _ _ e2] at e
        have w := a5 j (by omega) r2
        omega
    · rw [va_up_ne _ _ e1] at e
      by_cases e2 : j = n
      · subst e2
        rw [va_up_self] at e
        have w := a5 i (by omega) r1
        omega
      · rw [va_up_ne _ _ e2] at e
        exact a4 i j (by omega) (by omega) r1 r2 e
  · by_cases e : k = n
    · subst e
      rw [va_up_self]
      exact ⟨by omega, by have := hE.1; omega⟩
    · rw [va_up_ne _ _ e]
      have w := a5 k (by omega) hm
      exact ⟨w.1, by have := hE.1; omega⟩
  · exact (hE.2 z (by omega) hn).trans ((ho z (by omega)).trans (a7.2 z hz hn))
  · rw [va_up_ne _ _ (by rintro rfl; rcases hk with h | h; omega; rw [hs] at h; exact absurd h (by decide))]
    exact a8 k (hk.imp (fun h => by omega) id)
theorem kIni.skip {g : KGt} {H0 : Heap} {m0 : Nat} {ad : Nat → Nat} {H : Heap} (h : kIni g H0 m0 ad 12 H) : kIni g H0 m0 ad 15 H := by
  obtain ⟨a1, a2, a3, a4, a5, a6, a7, a8⟩ := h
  have r : ∀ k, k < 15 → (mK k ∨ k = 10 ∨ k = 11) → k < 12 := fun k h1 h2 => by unfold mK at h2; omega
  exact ⟨a1, fun k h1 h2 => a2 k (r k h1 (Or.inl h2)) h2, fun k h1 h2 => a3 k (r k h1 (Or.inr h2)) h2, fun i j h1 h2 r1 r2 => a4 i j (r i h1 r1) (r j h2 r2) r1 r2, fun k h1 h2 => a5 k (r k h1 h2) h2, a6, a7, fun k hk => a8 k (hk.imp (fun h => by omega) id)⟩
theorem kIni.mod {g : KGt} {H0 : Heap} {m0 : Nat} {ad : Nat → Nat} {H : Heap} (h : kIni g H0 m0 ad 24 H) : kMod g m0 ad 0 0 0 (fun _ _ => 0) (fun _ _ => 0) H := by
  obtain ⟨a1, a2, a3, a4, a5, a6, a7, a8⟩ := h
  have r : ∀ k, (mK k ∨ k = 10 ∨ k = 11) → k < 24 := fun k h => mK_lt h
  exact ⟨a1, fun k h2 => a2 k (r k (Or.inl h2)) h2, fun k h2 => a3 k (r k (Or.inr h2)) h2, fun i j r1 r2 => a4 i j (r i r1) (r j r2) r1 r2, fun k h2 e => by have w := a5 k (r k h2) h2; omega⟩
section KI
variable {p : Program} {l : Launch} {e : Env} {R : Room} {s : State} {m : MethodId} {args : Array Value} {below : List Frame} {meth : Method} {c : Code} {H : Heap} {locs : List Loc} {cells slots : Nat} {Q : State → Prop}
variable {cc : ByteArray} {pc : Nat} {ls : Array Slot} {rest : List Value} {g : KGt} {m0 : Nat} {ad : Nat → Nat} {H0 : Heap}
theorem m_put1 (hexec : p.tables.exec = Jvm.exec) (hb : c.code = cc) (hts : ∀ w ∈ kG, w.before args s = true) (hown : s.vm.findClass "BoxGlueModel" = some m.cls) (hK : va_K g.1 kcl (kTy g) s) (hin2 : meth.name = "<init>") (k q index : Nat) (hk : k < 24) (hr : mIs k = false) (ho : va_at g.1 kcl (m0, .inr (10, mIn ad k)) H) (hL : ∀ z ∈ locs, z.base = m0) (hlink : (Cond.fieldLink "BoxGlueModel" index "BoxGlueModel" (kT_Mod k).2.1 (kT_Mod k).2.2.1).before args s = true) (hfin : (kT_Mod k).2.2.2 = true) (hdecl : (kT_Mod k).1 = "BoxGlueModel") {ty : FieldType} (hd : parseFieldDescriptor (kT_Mod k).2.2.1 = some ty) (hn : narrow ty (.ref q) = .ref q) (hfit : fits ty (.ref q) = true) (hdg : decode cc pc = .ok (.putfield index, 3))
    (kk : ∀ (H1 : Heap) (locs1 : List Loc), va_at g.1 kcl (m0, .inr (10, mIn (va_up ad k q) (k + 1))) H1 → kE (fun z => z = m0) H H1 → (∀ z ∈ locs1, z.base = m0) → W p l e R s m args below meth c H1 locs1 cells slots Q (F0 m (pc + 3) ls rest)) : W p l e R s m args below meth c H locs cells slots Q (F0 m pc ls (.ref q :: .ref m0 :: rest)) := by
  refine va_putF (D := g.1) (ci := 10) (v := .ref q) (ty := ty) (C := "BoxGlueModel") (T := kT_Mod) (N := 24) (A := fun z => z = m0) (H0 := H) hexec hb hts ki_Mod kt_Mod ko_Mod kn_Mod hown hK (k_one ho) (k_D1 rfl) ⟨Nat.le_refl _, fun _ _ _ => rfl, hL⟩ 0 rfl rfl k hk hlink (by rw [hdecl]; exact fun _ h9 => h9) hfin hin2 hdecl hd hn hfit (by rw [mIn_len]; exact hk) hdg fun H1 locs1 h1 h2 h3 => ?_
  have w := h1 0 _ rfl
  rw [mIn_set ad k q hr] at w
  exact kk H1 locs1 w (kE.ofS h3) h3.2.2
theorem m_mki (hexec : p.tables.exec = Jvm.exec) (hb : c.code = cc) (hts : ∀ w ∈ kG, w.before args s = true) (hown : s.vm.findClass "BoxGlueModel" = some m.cls) (hK : va_K g.1 kcl (kTy g) s) (hin2 : meth.name = "<init>") (k index : Nat) (hk : mK k) (hM : kIni g H0 m0 ad k H) (hL : ∀ z ∈ locs, z.base = m0) {x : Int32} (hx0 : ¬ x < 0) (hx : x.toNatClampNeg = mL k) (hcells : cells + 1 ≤ R.cells) (hslots : slots + mL k ≤ R.slots) (hdg0 : decode cc pc = .ok (.newarray .int, 2)) (hlink : (Cond.fieldLink "BoxGlueModel" index "BoxGlueModel" (kT_Mod k).2.1 (kT_Mod k).2.2.1).before args s = true) (hfin : (kT_Mod k).2.2.2 = true) (hdecl : (kT_Mod k).1 = "BoxGlueModel") (hd : parseFieldDescriptor (kT_Mod k).2.2.1 = some (.array .int)) (hdg : decode cc (pc + 2) = .ok (.putfield index, 3))
    (kk : ∀ (ad : Nat → Nat) (H1 : Heap) (locs1 : List Loc), kIni g H0 m0 ad (k + 1) H1 → (∀ z ∈ locs1, z.base = m0) → W p l e R s m args below meth c H1 locs1 (cells + 1) (slots + mL k) Q (F0 m (pc + 5) ls rest)) : W p l e R s m args below meth c H locs cells slots Q (F0 m pc ls (.int x :: .ref m0 :: rest)) := by
  refine va_newaK (g := F0 m pc ls (.int x :: .ref m0 :: rest)) (atype := .int) hexec hb (hts _ kw_654) rfl hdg0 rfl hx0 hx (by show mL k * 4 ≤ _; have := mL_lt k; unfold mL at *; split <;> omega) hcells hslots rfl fun H1 cA e1 z1 o1 hAr hNm => ?_
  have hc : cA = g.2.1.2.1 := Option.some.inj (hNm.symm.trans (hK.2 1 _ rfl).2)
  subst hc
  have hlt : m0 < H.size := hM.1.lt
  refine m_put1 hexec hb hts hown hK hin2 k H.size index (mK_lt (Or.inl hk)) (by unfold mK at hk; unfold mIs; simp; omega) (hM.1.kept (o1 _ hlt)) hL hlink hfin hdecl hd rfl rfl hdg fun H2 locs2 w1 w2 w3 => ?_
  exact kk _ H2 locs2 (hM.step (by unfold mK at hk; unfold mIs; simp; omega) rfl z1 o1 w2 w1 (fun _ => e1) (fun h => by unfold mK at hk; omega)) w3
theorem m_mkl (hexec : p.tables.exec = Jvm.exec) (hb : c.code = cc) (hts : ∀ w ∈ kG, w.before args s = true) (hown : s.vm.findClass "BoxGlueModel" = some m.cls) (hK : va_K g.1 kcl (kTy g) s) (hin2 : meth.name = "<init>") (k index : Nat) (hk : k = 10 ∨ k = 11) (hM : kIni g H0 m0 ad k H) (hL : ∀ z ∈ locs, z.base = m0) {x : Int32} (hx0 : ¬ x < 0) (hx : x.toNatClampNeg = mL k) (hcells : cells + 1 ≤ R.cells) (hslots : slots + mL k ≤ R.slots) (hdg0 : decode cc pc = .ok (.newarray .long, 2)) (hlink : (Cond.fieldLink "BoxGlueModel" index "BoxGlueModel" (kT_Mod k).2.1 (kT_Mod k).2.2.1).before args s = true) (hfin : (kT_Mod k).2.2.2 = true) (hdecl : (kT_Mod k).1 = "BoxGlueModel") (hd : parseFieldDescriptor (kT_Mod k).2.2.1 = some (.array .long)) (hdg : decode cc (pc + 2) = .ok (.putfield index, 3))
    (kk : ∀ (ad : Nat → Nat) (H1 : Heap) (locs1 : List Loc), kIni g H0 m0 ad (k + 1) H1 → (∀ z ∈ locs1, z.base = m0) → W p l e R s m args below meth c H1 locs1 (cells + 1) (slots + mL k) Q (F0 m (pc + 5) ls rest)) : W p l e R s m args below meth c H locs cells slots Q (F0 m pc ls (.int x :: .ref m0 :: rest)) := by
  refine va_newaK (g := F0 m pc ls (.int x :: .ref m0 :: rest)) (atype := .long) hexec hb (hts _ kw_655) rfl hdg0 rfl hx0 hx (by show mL k * 8 ≤ _; have := mL_lt k; unfold mL at *; split <;> omega) hcells hslots rfl fun H1 cA e1 z1 o1 hAr hNm => ?_
  have hc : cA = g.2.1.2.2 := Option.some.inj (hNm.symm.trans (hK.2 2 _ rfl).2)
  subst hc
  have hlt : m0 < H.size := hM.1.lt
  refine m_put1 hexec hb hts hown hK hin2 k H.size index (mK_lt (Or.inr hk)) (by unfold mIs; simp; omega) (hM.1.kept (o1 _ hlt)) hL hlink hfin hdecl hd rfl rfl hdg fun H2 locs2 w1 w2 w3 => ?_
  exact kk _ H2 locs2 (hM.step (by unfold mIs; simp; omega) rfl z1 o1 w2 w1 (fun h => by unfold mK at h; omega) (fun _ => e1)) w3
end KI
set_option maxHeartbeats 4000000 in
set_option maxRecDepth 100000 in
theorem c_Mod_init (l : Launch) (g : KGt) (H0 : Heap) (m0 : Nat) (o0 : va_at g.1 kcl (m0, .inr (10, mIn (fun _ => m0) 0)) H0) : Met l y_Mod_init (kW y_Mod_init b_Mod_init 1 (.none : Option FieldType)) ({ frames := 1, cells := 21, slots := 4620, locals := 12 }) (kPc [.ref m0] (KK g) H0) (kQc (fun v H1 => v = none ∧ kE (fun q => q = m0) H0 H1 ∧ ∃ ad : Nat → Nat, kMod g m0 ad 0 0 0 (fun _ _ => 0) (fun _ _ => 0) H1 ∧ ∀ k, k < 24 → ad k = m0 ∨ ((mK k ∨ k = 10 ∨ k = 11) ∧ H0.size ≤ ad k))) 21 4620 (fun q : Nat => q = m0 ∨ H0.size ≤ q) := by
  refine Met.ofW (cc := b_Mod_init) (maxL := 1) (ret := (.none : Option FieldType)) (by decide) rfl ?_
  intro p e s m args below meth c s₁ B hml hv
  obtain ⟨rfl, hH, hKK⟩ := hv
  have hx := B.exec
  have hb := B.bytes
  have hr := B.returns
  have hts := kW_ts (atoms_spec (ws := kW y_Mod_init b_Mod_init 1 (.none : Option FieldType)) B.pre)
  have hown : s.vm.findClass "BoxGlueModel" = some m.cls := findClass_of_methodNamed B.named
  have hlocks := B.notSynchronized
  have hK := hKK.1
  subst hH
  have hl := lv_entry ([.ref m0]) (n := 1) (Nat.le_of_ble_eq_true rfl)
  rw [lg_entry_eq]
  generalize (lg_sl ([.ref m0]) ++ List.replicate (1 - (lg_sl ([.ref m0])).length) Slot.unset).toArray = ls at hl ⊢
  have hl : lv_has ls 1 [(0, .ref m0)] := hl
  have hin : meth.name = "<init>" := (name_of_methodNamed B.named B.method).1
  have hM : kIni g s.heap m0 (fun _ => m0) 0 s.heap := ⟨o0, fun k h => absurd h (Nat.not_lt_zero k), fun k h => absurd h (Nat.not_lt_zero k), fun i j h => absurd h (Nat.not_lt_zero i), fun k h => absurd h (Nat.not_lt_zero k), o0.lt, kE.rf, fun _ _ => rfl⟩
  have hL : ∀ z ∈ ([] : List Loc), z.base = m0 := fun _ h => by cases h
  refine lv_aload_n hx hb d_Mod_init_0 rfl (lv_at hl 0 rfl) ?_
  refine W.objInit hx hb hown (hts _ kw_580) (hts _ kw_27) (hts _ kw_28) rfl (by rw [hml]; exact hl.1) rfl d_Mod_init_1 (Nat.le_of_ble_eq_true rfl) (Nat.le_of_ble_eq_true rfl) ?_
  refine W.eq (g2 := F0 m 4 ls []) rfl ?_
  refine lv_aload_n hx hb d_Mod_init_4 rfl (lv_at hl 0 rfl) ?_
  refine lv_sipush (v := 340) hx hb d_Mod_init_5 (by decide) ?_
  refine m_mki hx hb hts hown hK hin 0 7 (Or.inl (by decide)) hM hL (by decide) rfl (Nat.le_of_ble_eq_true rfl) (Nat.le_of_ble_eq_true rfl) d_Mod_init_8 (hts _ kw_581) rfl rfl (by decide +kernel) d_Mod_init_10 (fun ad H locs hM hL => ?_)
  refine lv_aload_n hx hb d_Mod_init_13 rfl (lv_at hl 0 rfl) ?_
  refine lv_sipush (v := 340) hx hb d_Mod_init_14 (by decide) ?_
  refine m_mki hx hb hts hown hK hin 1 13 (Or.inl (by decide)) hM hL (by decide) rfl (Nat.le_of_ble_eq_true rfl) (Nat.le_of_ble_eq_true rfl) d_Mod_init_17 (hts _ kw_582) rfl rfl (by decide +kernel) d_Mod_init_19 (fun ad H locs hM hL => ?_)
  refine lv_aload_n hx hb d_Mod_init_22 rfl (lv_at hl 0 rfl) ?_
  refine lv_sipush (v := 340) hx hb d_Mod_init_23 (by decide) ?_
  refine m_mki hx hb hts hown hK hin 2 16 (Or.inl (by decide)) hM hL (by decide) rfl (Nat.le_of_ble_eq_true rfl) (Nat.le_of_ble_eq_true rfl) d_Mod_init_26 (hts _ kw_583) rfl rfl (by decide +kernel) d_Mod_init_28 (fun ad H locs hM hL => ?_)
  refine lv_aload_n hx hb d_Mod_init_31 rfl (lv_at hl 0 rfl) ?_
  refine lv_sipush (v := 340) hx hb d_Mod_init_32 (by decide) ?_
  refine m_mki hx hb hts hown hK hin 3 19 (Or.inl (by decide)) hM hL (by decide) rfl (Nat.le_of_ble_eq_true rfl) (Nat.le_of_ble_eq_true rfl) d_Mod_init_35 (hts _ kw_584) rfl rfl (by decide +kernel) d_Mod_init_37 (fun ad H locs hM hL => ?_)
  refine lv_aload_n hx hb d_Mod_init_40 rfl (lv_at hl 0 rfl) ?_
  refine lv_sipush (v := 340) hx hb d_Mod_init_41 (by decide) ?_
  refine m_mki hx hb hts hown hK hin 4 22 (Or.inl (by decide)) hM hL (by decide) rfl (Nat.le_of_ble_eq_true rfl) (Nat.le_of_ble_eq_true rfl) d_Mod_init_44 (hts _ kw_585) rfl rfl (by decide +kernel) d_Mod_init_46 (fun ad H locs hM hL => ?_)
  refine lv_aload_n hx hb d_Mod_init_49 rfl (lv_at hl 0 rfl) ?_
  refine lv_sipush (v := 340) hx hb d_Mod_init_50 (by decide) ?_
  refine m_mki hx hb hts hown hK hin 5 25 (Or.inl (by decide)) hM hL (by decide) rfl (Nat.le_of_ble_eq_true rfl) (Nat.le_of_ble_eq_true rfl) d_Mod_init_53 (hts _ kw_586) rfl rfl (by decide +kernel) d_Mod_init_55 (fun ad H locs hM hL => ?_)
  refine lv_aload_n hx hb d_Mod_init_58 rfl (lv_at hl 0 rfl) ?_
  refine lv_sipush (v := 340) hx hb d_Mod_init_59 (by decide) ?_
  refine m_mki hx hb hts hown hK hin 6 28 (Or.inl (by decide)) hM hL (by decide) rfl (Nat.le_of_ble_eq_true rfl) (Nat.le_of_ble_eq_true rfl) d_Mod_init_62 (hts _ kw_587) rfl rfl (by decide +kernel) d_Mod_init_64 (fun ad H locs hM hL => ?_)
  refine lv_aload_n hx hb d_Mod_init_67 rfl (lv_at hl 0 rfl) ?_
  refine lv_sipush (v := 340) hx hb d_Mod_init_68 (by decide) ?_
  refine m_mki hx hb hts hown hK hin 7 31 (Or.inl (by decide)) hM hL (by decide) rfl (Nat.le_of_ble_eq_true rfl) (Nat.le_of_ble_eq_true rfl) d_Mod_init_71 (hts _ kw_588) rfl rfl (by decide +kernel) d_Mod_init_73 (fun ad H locs hM hL => ?_)
  refine lv_aload_n hx hb d_Mod_init_76 rfl (lv_at hl 0 rfl) ?_
  refine lv_sipush (v := 340) hx hb d_Mod_init_77 (by decide) ?_
  refine m_mki hx hb hts hown hK hin 8 34 (Or.inl (by decide)) hM hL (by decide) rfl (Nat.le_of_ble_eq_true rfl) (Nat.le_of_ble_eq_true rfl) d_Mod_init_80 (hts _ kw_589) rfl rfl (by decide +kernel) d_Mod_init_82 (fun ad H locs hM hL => ?_)
  refine lv_aload_n hx hb d_Mod_init_85 rfl (lv_at hl 0 rfl) ?_
  refine lv_sipush (v := 340) hx hb d_Mod_init_86 (by decide) ?_
  refine m_mki hx hb hts hown hK hin 9 37 (Or.inl (by decide)) hM hL (by decide) rfl (Nat.le_of_ble_eq_true rfl) (Nat.le_of_ble_eq_true rfl) d_Mod_init_89 (hts _ kw_590) rfl rfl (by decide +kernel) d_Mod_init_91 (fun ad H locs hM hL => ?_)
  refine lv_aload_n hx hb d_Mod_init_94 rfl (lv_at hl 0 rfl) ?_
  refine lv_sipush (v := 340) hx hb d_Mod_init_95 (by decide) ?_
  refine m_mkl hx hb hts hown hK hin 10 40 (by decide) hM hL (by decide) rfl (Nat.le_of_ble_eq_true rfl) (Nat.le_of_ble_eq_true rfl) d_Mod_init_98 (hts _ kw_591) rfl rfl (by decide +kernel) d_Mod_init_100 (fun ad H locs hM hL => ?_)
  refine lv_aload_n hx hb d_Mod_init_103 rfl (lv_at hl 0 rfl) ?_
  refine lv_sipush (v := 340) hx hb d_Mod_init_104 (by decide) ?_
  refine m_mkl hx hb hts hown hK hin 11 44 (by decide) hM hL (by decide) rfl (Nat.le_of_ble_eq_true rfl) (Nat.le_of_ble_eq_true rfl) d_Mod_init_107 (hts _ kw_592) rfl rfl (by decide +kernel) d_Mod_init_109 (fun ad H locs hM hL => ?_)
  refine lv_aload_n hx hb d_Mod_init_112 rfl (lv_at hl 0 rfl) ?_
  refine lv_bipush (v := 60) hx hb d_Mod_init_113 (by decide) ?_
  have hM := hM.skip
  refine m_mki hx hb hts hown hK hin 15 47 (Or.inr ⟨by decide, by decide⟩) hM hL (by decide) rfl (Nat.le_of_ble_eq_true rfl) (Nat.le_of_ble_eq_true rfl) d_Mod_init_115 (hts _ kw_596) rfl rfl (by decide +kernel) d_Mod_init_117 (fun ad H locs hM hL => ?_)
  refine lv_aload_n hx hb d_Mod_init_120 rfl (lv_at hl 0 rfl) ?_
  refine lv_bipush (v := 60) hx hb d_Mod_init_121 (by decide) ?_
  refine m_mki hx hb hts hown hK hin 16 50 (Or.inr ⟨by decide, by decide⟩) hM hL (by decide) rfl (Nat.le_of_ble_eq_true rfl) (Nat.le_of_ble_eq_true rfl) d_Mod_init_123 (hts _ kw_597) rfl rfl (by decide +kernel) d_Mod_init_125 (fun ad H locs hM hL => ?_)
  refine lv_aload_n hx hb d_Mod_init_128 rfl (lv_at hl 0 rfl) ?_
  refine lv_bipush (v := 60) hx hb d_Mod_init_129 (by decide) ?_
  refine m_mki hx hb hts hown hK hin 17 53 (Or.inr ⟨by decide, by decide⟩) hM hL (by decide) rfl (Nat.le_of_ble_eq_true rfl) (Nat.le_of_ble_eq_true rfl) d_Mod_init_131 (hts _ kw_598) rfl rfl (by decide +kernel) d_Mod_init_133 (fun ad H locs hM hL => ?_)
  refine lv_aload_n hx hb d_Mod_init_136 rfl (lv_at hl 0 rfl) ?_
  refine lv_bipush (v := 60) hx hb d_Mod_init_137 (by decide) ?_
  refine m_mki hx hb hts hown hK hin 18 56 (Or.inr ⟨by decide, by decide⟩) hM hL (by decide) rfl (Nat.le_of_ble_eq_true rfl) (Nat.le_of_ble_eq_true rfl) d_Mod_init_139 (hts _ kw_599) rfl rfl (by decide +kernel) d_Mod_init_141 (fun ad H locs hM hL => ?_)
  refine lv_aload_n hx hb d_Mod_init_144 rfl (lv_at hl 0 rfl) ?_
  refine lv_bipush (v := 60) hx hb d_Mod_init_145 (by decide) ?_
  refine m_mki hx hb hts hown hK hin 19 59 (Or.inr ⟨by decide, by decide⟩) hM hL (by decide) rfl (Nat.le_of_ble_eq_true rfl) (Nat.le_of_ble_eq_true rfl) d_Mod_init_147 (hts _ kw_600) rfl rfl (by decide +kernel) d_Mod_init_149 (fun ad H locs hM hL => ?_)
  refine lv_aload_n hx hb d_Mod_init_152 rfl (lv_at hl 0 rfl) ?_
  refine lv_bipush (v := 60) hx hb d_Mod_init_153 (by decide) ?_
  refine m_mki hx hb hts hown hK hin 20 62 (Or.inr ⟨by decide, by decide⟩) hM hL (by decide) rfl (Nat.le_of_ble_eq_true rfl) (Nat.le_of_ble_eq_true rfl) d_Mod_init_155 (hts _ kw_601) rfl rfl (by decide +kernel) d_Mod_init_157 (fun ad H locs hM hL => ?_)
  refine lv_aload_n hx hb d_Mod_init_160 rfl (lv_at hl 0 rfl) ?_
  refine lv_bipush (v := 60) hx hb d_Mod_init_161 (by decide) ?_
  refine m_mki hx hb hts hown hK hin 21 65 (Or.inr ⟨by decide, by decide⟩) hM hL (by decide) rfl (Nat.le_of_ble_eq_true rfl) (Nat.le_of_ble_eq_true rfl) d_Mod_init_163 (hts _ kw_602) rfl rfl (by decide +kernel) d_Mod_init_165 (fun ad H locs hM hL => ?_)
  refine lv_aload_n hx hb d_Mod_init_168 rfl (lv_at hl 0 rfl) ?_
  refine lv_bipush (v := 60) hx hb d_Mod_init_169 (by decide) ?_
  refine m_mki hx hb hts hown hK hin 22 68 (Or.inr ⟨by decide, by decide⟩) hM hL (by decide) rfl (Nat.le_of_ble_eq_true rfl) (Nat.le_of_ble_eq_true rfl) d_Mod_init_171 (hts _ kw_603) rfl rfl (by decide +kernel) d_Mod_init_173 (fun ad H locs hM hL => ?_)
  refine lv_aload_n hx hb d_Mod_init_176 rfl (lv_at hl 0 rfl) ?_
  refine lv_bipush (v := 60) hx hb d_Mod_init_177 (by decide) ?_
  refine m_mki hx hb hts hown hK hin 23 71 (Or.inr ⟨by decide, by decide⟩) hM hL (by decide) rfl (Nat.le_of_ble_eq_true rfl) (Nat.le_of_ble_eq_true rfl) d_Mod_init_179 (hts _ kw_604) rfl rfl (by decide +kernel) d_Mod_init_181 (fun ad H locs hM hL => ?_)
  have hE : kE (fun q => q = m0) s.heap H := hM.2.2.2.2.2.2.1
  have hA : ∀ k, k < 24 → ad k = m0 ∨ ((mK k ∨ k = 10 ∨ k = 11) ∧ s.heap.size ≤ ad k) := fun k hk => by
    by_cases e : mIs k = true
    · exact Or.inl (hM.2.2.2.2.2.2.2 k (Or.inr e))
    · have r : mK k ∨ k = 10 ∨ k = 11 := by
        unfold mK; unfold mIs at e; simp at e; omega
      exact Or.inr ⟨r, (hM.2.2.2.2.1 k hk r).1⟩
  exact W.vret hx hb hr (fun t ht hW => ⟨_, rfl, rfl, by rw [ht]; exact hE, ad, by rw [ht]; exact hM.mod, hA⟩) (fun q h => Or.inl (hL q h)) d_Mod_init_184

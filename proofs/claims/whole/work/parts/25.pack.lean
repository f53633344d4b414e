/-! BoxGlue: unpack, pack, the constructor -/
theorem kALx.n100 {g : KGt} {la arr cap n : Nat} {el : Nat → Nat} {H : Heap} (h : kALx g la arr cap n el H) : n ≤ 100 := by
  obtain ⟨mo, h1, h2 | ⟨f, h2, h3, h4, h5⟩⟩ := h <;> omega
/-- the list's items, then others -/
def l_app (its : Nat → Nat → Int32) (n : Nat) (b : Nat → Nat → Int32) : Nat → Nat → Int32 := fun j => if j < n then its j else b (j - n)
theorem l_app_lo {its b : Nat → Nat → Int32} {n j : Nat} (h : j < n) : l_app its n b j = its j := if_pos h
theorem l_app_hi {its b : Nat → Nat → Int32} {n j : Nat} : l_app its n b (n + j) = b j := by
  unfold l_app
  rw [if_neg (by omega), Nat.add_sub_cancel_left]
/-- a box packed of items its, n of them, to the length L -/
def bxp (its : Nat → Nat → Int32) (n : Nat) (L : Int32) : BxT := (fun k => match k with
  | 0 => L
  | 1 => m_h its n
  | 2 => m_d its n
  | 3 => l_len its n
  | 4 => t_ord its n (L - l_len its n)
  | 5 => L - l_len its n
  | 6 => t_sum its n (L - l_len its n)
  | _ => 0, n, its, s_pl its (l_len its n) (t_ord its n (L - l_len its n)) (L - l_len its n) (t_sum its n (L - l_len its n)), s_len its (l_len its n) (t_ord its n (L - l_len its n)) (L - l_len its n) (t_sum its n (L - l_len its n)))
def pk_L (p0 len : Int32) : Int32 := if p0 = (-1) then (if len < 0 then 0 else len) else p0
theorem kInvW.putx {g : KGt} {I M : Nat → Prop} {x n nb ib ib2 la larr lcap ma marr mcap : Nat} {el bel : Nat → Nat} {its : Nat → Nat → Int32} {bs : Nat → BxT} {H H1 : Heap} {s : State} (hK : va_K g.1 kcl (kTy g) s) (h : kInvW g I M x n its nb bs ib la larr lcap ma marr mcap el bel H) (hE : kE (fun q => q = x) H H1) (xo2 : va_at g.1 kcl (x, .inr (0, [.ref la, .ref ma, .int (nI ib2)])) H1) : kInvW g I M x n its nb bs ib2 la larr lcap ma marr mcap el bel H1 := by
  obtain ⟨xo, al, am, hit, hbx, hM, hne, hMI, hMg, hIl, hB, hn, hnb⟩ := h
  refine ⟨xo2, al.ext hE (fun h => al.apartX hK xo (Or.inl h.symm)) (fun hc h => al.apartX hK xo (Or.inr ⟨h.symm, hc⟩)), am.ext hE (fun h => am.apartX hK xo (Or.inl h.symm)) (fun hc h => am.apartX hK xo (Or.inr ⟨h.symm, hc⟩)), fun i hi => (hit i hi).kept (fun _ h => h) (fun q hq hl => hE.2 q hl (fun h => hMI q (by rw [h]; exact hM.1) hq)), fun i hi => (hbx i hi).kept (fun _ h => h) (fun q hq hl => hE.2 q hl (fun h => hMI q (by rw [h]; exact hM.1) hq)), hM, hne, hMI, fun q hq => ⟨(hMg q hq).1, Nat.lt_of_lt_of_le (hMg q hq).2 hE.1⟩, fun q hq => Nat.lt_of_lt_of_le (hIl q hq) hE.1, hB.tr hE (fun q hq h => by have h5 := (hMg x hM.1).1; omega), hn, hnb⟩
section KP0
variable {p : Program} {l : Launch} {e : Env} {R : Room} {s : State} {m : MethodId} {args : Array Value} {below : List Frame} {meth : Method} {c : Code} {H : Heap} {locs : List Loc} {cells slots : Nat} {Q : State → Prop}
variable {cc : ByteArray} {pc : Nat} {ls : Array Slot} {rest : List Value} {g : KGt} {A : Nat → Prop}
/-- inBoxes is written: all other cells stay -/
theorem k_put0 (hexec : p.tables.exec = Jvm.exec) (hb : c.code = cc) {own ref : String} {index a : Nat} {v0 v1 : Value} {mo x : Int32} (hts : ∀ w ∈ kG, w.before args s = true) (hown : s.vm.findClass own = some m.cls) (hK : va_K g.1 kcl (kTy g) s) (ho : va_at g.1 kcl (a, .inr (0, [v0, v1, .int mo])) H) (hL : ∀ q ∈ locs, A q.base) (ha : A a)
    (hlink : (Cond.fieldLink own index ref "inBoxes" "I").before args s = true) (hsame : ∀ x, s.fieldFound? "BoxGlue" "inBoxes" "I" = some x → s.fieldFound? ref "inBoxes" "I" = some x) (hdg : decode cc pc = .ok (.putfield index, 3))
    (kk : ∀ (H1 : Heap) (locs1 : List Loc), va_at g.1 kcl (a, .inr (0, [v0, v1, .int x])) H1 → H1.size = H.size → (∀ q : Nat, q ≠ a → H1[q]? = H[q]?) → (∀ q ∈ locs1, A q.base) → W p l e R s m args below meth c H1 locs1 cells slots Q (F0 m (pc + 3) ls rest)) : W p l e R s m args below meth c H locs cells slots Q (F0 m pc ls (.int x :: .ref a :: rest)) := by
  have hap := va_apart (own := own) hts ki_BG kt_BG ko_BG kn_BG hK (ci := 0) rfl
  obtain ⟨r, h1, cell, q1, q2, q3, q4⟩ := ho
  cases h1
  obtain ⟨hSl, hfc, kC, hkC, hkind⟩ := hK.1 0 _ rfl
  obtain ⟨cf, kf, fi, f, hi, hsl⟩ := hSl 2 (by decide)
  have hlay := hts _ (ki_BG _ (u_in_lay (k := 2) (by decide)))
  have hst := (u_facts hfc hkC (u_lays hts ki_BG (k := 2) (by decide)) hi).1
  have h6 := u_store (v := .int x) hfc hkC hkind hlay hi (show parseFieldDescriptor "I" = some .int by decide +kernel) rfl rfl
  refine W.putK hexec hb (f := f) ⟨hown, hlink, ⟨_, _, _, hsame _ hi⟩, hst⟩ (by rw [q2]; exact h6) q1 q3 (by rw [hsl]; exact k2_hasslot (q4 2 (by decide))) rfl rfl hdg fun H1 e1 e2 e3 => ?_
  rw [hsl] at e1
  refine kk H1 _ ⟨_, rfl, t_OB.to (V := updV (vp_V [v0, v1, .int mo]) 2 (.int x)) ⟨_, e1, q2, q3, t_set q4 hap (by decide) (.int x)⟩ (fun j _ => vp_updV_set (fs := [v0, v1, .int mo]) (k := 2) (Nat.le_of_ble_eq_true rfl) (.int x) j)⟩ e2 e3 (t_lc hL ha)
end KP0
set_option maxHeartbeats 4000000 in
set_option maxRecDepth 100000 in
theorem c_BG_unpack_bad (l : Launch) (g : KGt) (H0 : Heap) (I M : Nat → Prop) (x n : Nat) (its : Nat → Nat → Int32) (nb : Nat) (bs : Nat → BxT) (ib : Nat) (inv : kInv g I M x n its nb bs ib H0) (p0 : Int32) (h : p0 < 0 ∨ nI nb ≤ p0) : Met l y_BG_unpack (kW y_BG_unpack b_BG_unpack 5 (.some .int)) ({ frames := 2, cells := 0, slots := 0, locals := 41 }) (kPc [.ref x, .int p0] (KK g) H0) (kQc (kPure (.int (-1)) H0)) 0 0 (fun _ => False) := by
  refine Met.ofW (cc := b_BG_unpack) (maxL := 5) (ret := (.some .int)) (by decide) rfl ?_
  intro p e s m args below meth c s₁ B hml hv
  obtain ⟨rfl, hH, hKK⟩ := hv
  have hx := B.exec
  have hb := B.bytes
  have hr := B.returns
  have hts := kW_ts (atoms_spec (ws := kW y_BG_unpack b_BG_unpack 5 (.some .int)) B.pre)
  have hown : s.vm.findClass "BoxGlue" = some m.cls := findClass_of_methodNamed B.named
  have hlocks := B.notSynchronized
  have hK := hKK.1
  subst hH
  have hl := lv_entry ([.ref x, .int p0]) (n := 5) (Nat.le_of_ble_eq_true rfl)
  rw [lg_entry_eq]
  generalize (lg_sl ([.ref x, .int p0]) ++ List.replicate (5 - (lg_sl ([.ref x, .int p0])).length) Slot.unset).toArray = ls at hl ⊢
  have hl : lv_has ls 5 [(0, .ref x), (1, .int p0)] := hl
  obtain ⟨la, larr, lcap, ma, marr, mcap, el, bel, xo, al, am, hit, hbx, hM, hne, hMI, hMg, hIl, hB, hn, hnb⟩ := id inv
  refine lv_aload_n hx hb d_BG_unpack_0 rfl (lv_at hl 0 rfl) ?_
  refine lv_iload_n hx hb d_BG_unpack_1 rfl (lv_at hl 1 rfl) ?_
  refine k_pure (r := .int 0) (W.runV (As := [.int p0]) (rest := []) ⟨hx, hb, hml, hown, hts⟩ (c_BG_isBox_no l g s.heap I M x n its nb bs ib inv p0 h) (cwV 1 hts (kV_good kw_197 kw_194 kw_196 ks_BG_isBox kw_1) rfl rfl rfl (by decide +kernel) ⟨Nat.le_of_ble_eq_true rfl, Nat.le_of_ble_eq_true rfl⟩) (k_preV (KK_st g) hKK (va_recv hK (k_one xo) (ci := 0) (q0 := 0) rfl rfl)) rfl rfl hl.1 rfl (lv_room (Nat.le_of_ble_eq_true rfl)) d_BG_unpack_2 ⟨Nat.zero_le _, Nat.zero_le _⟩) ?_
  refine lv_if_ne (tgt := 10) hx hb d_BG_unpack_5 (by decide) (fun c_1 => ?_) (fun c_1 => ?_)
  · exact absurd c_1 (fun q => q rfl)
  refine lv_iconst (v := (-1)) hx hb d_BG_unpack_8 (by decide) ?_
  exact W.iret (v := (-1)) hx hb hr (fun t ht hW => ⟨_, rfl, rfl, ht⟩) (fun _ h => by cases h) d_BG_unpack_9
set_option maxHeartbeats 4000000 in
set_option maxRecDepth 100000 in
theorem c_BG_unpack_full (l : Launch) (g : KGt) (H0 : Heap) (I M : Nat → Prop) (x n : Nat) (its : Nat → Nat → Int32) (nb : Nat) (bs : Nat → BxT) (ib : Nat) (inv : kInv g I M x n its nb bs ib H0) (k : Nat) (hk : k < nb) (h : 40 < n + (bs k).2.1) : Met l y_BG_unpack (kW y_BG_unpack b_BG_unpack 5 (.some .int)) ({ frames := 3, cells := 0, slots := 0, locals := 64 }) (kPc [.ref x, .int (nI k)] (KK g) H0) (kQc (kPure (.int (-2)) H0)) 0 0 (fun _ => False) := by
  refine Met.ofW (cc := b_BG_unpack) (maxL := 5) (ret := (.some .int)) (by decide) rfl ?_
  intro p e s m args below meth c s₁ B hml hv
  obtain ⟨rfl, hH, hKK⟩ := hv
  have hx := B.exec
  have hb := B.bytes
  have hr := B.returns
  have hts := kW_ts (atoms_spec (ws := kW y_BG_unpack b_BG_unpack 5 (.some .int)) B.pre)
  have hown : s.vm.findClass "BoxGlue" = some m.cls := findClass_of_methodNamed B.named
  have hlocks := B.notSynchronized
  have hK := hKK.1
  subst hH
  have hl := lv_entry ([.ref x, .int (nI k)]) (n := 5) (Nat.le_of_ble_eq_true rfl)
  rw [lg_entry_eq]
  generalize (lg_sl ([.ref x, .int (nI k)]) ++ List.replicate (5 - (lg_sl ([.ref x, .int (nI k)])).length) Slot.unset).toArray = ls at hl ⊢
  have hl : lv_has ls 5 [(0, .ref x), (1, .int (nI k))] := hl
  obtain ⟨la, larr, lcap, ma, marr, mcap, el, bel, xo, al, am, hit, hbx, hM, hne, hMI, hMg, hIl, hB, hn, hnb⟩ := id inv
  obtain ⟨hIb, bca, bfa, barr, bcap, pel, w1, hIf, w3, hIc, w5, w6, w7⟩ := hbx k hk
  refine lv_aload_n hx hb d_BG_unpack_0 rfl (lv_at hl 0 rfl) ?_
  refine lv_iload_n hx hb d_BG_unpack_1 rfl (lv_at hl 1 rfl) ?_
  refine k_pure (r := .int 1) (W.runV (As := [.int (nI k)]) (rest := []) ⟨hx, hb, hml, hown, hts⟩ (c_BG_isBox_yes l g s.heap I M x n its nb bs ib inv k hk) (cwV 1 hts (kV_good kw_197 kw_194 kw_196 ks_BG_isBox kw_1) rfl rfl rfl (by decide +kernel) ⟨Nat.le_of_ble_eq_true rfl, Nat.le_of_ble_eq_true rfl⟩) (k_preV (KK_st g) hKK (va_recv hK (k_one xo) (ci := 0) (q0 := 0) rfl rfl)) rfl rfl hl.1 rfl (lv_room (Nat.le_of_ble_eq_true rfl)) d_BG_unpack_2 ⟨Nat.zero_le _, Nat.zero_le _⟩) ?_
  refine lv_if_ne (tgt := 10) hx hb d_BG_unpack_5 (by decide) (fun c_1 => ?_) (fun c_1 => ?_)
  rotate_left
  · exact absurd c_1 (by decide)
  refine lv_aload_n hx hb d_BG_unpack_10 rfl (lv_at hl 0 rfl) ?_
  refine va_get (D := g.1) (ci := 0) (v := .ref ma) (C := "BoxGlue") (T := kT_BG) (N := 3) hx hb hts ki_BG hown hK (k_one xo) 0 rfl rfl 1 (by decide) (hts _ kw_56) (fun _ h9 => h9) rfl d_BG_unpack_11 ?_
  refine lv_iload_n hx hb d_BG_unpack_14 rfl (lv_at hl 1 rfl) ?_
  refine k_pure (r := .ref (bel k)) (W.runV (As := [.int (nI k)]) (rest := []) ⟨hx, hb, hml, hown, hts⟩ (c_AL_get l g s.heap ma nb bel k hk ⟨_, _, am⟩) (cwV 1 hts (kV_good kw_207 kw_204 kw_205 kw_206 kw_4) rfl rfl rfl (by decide +kernel) ⟨Nat.le_of_ble_eq_true rfl, Nat.le_of_ble_eq_true rfl⟩) (k_preV (KK_st g) hKK (kAL.recv ⟨_, _, am⟩ hK)) rfl rfl hl.1 rfl (lv_room (Nat.le_of_ble_eq_true rfl)) d_BG_unpack_15 ⟨Nat.zero_le _, Nat.zero_le _⟩) ?_
  refine va_castY (C := "BoxGlue$Box") hx hb hown (hts _ kw_218) (hKK.2.1 (.castable "BoxGlue$Box" "BoxGlue$Box") (by decide +kernel)) (va_recv hK (k_one w1) (ci := 2) (q0 := 0) rfl rfl) d_BG_unpack_18 ?_
  refine va_get (D := g.1) (ci := 2) (v := .ref bca) (C := "BoxGlue$Box") (T := kT_Box) (N := 5) hx hb hts ki_Box hown hK (k_one w1) 0 rfl rfl 3 (by decide) (hts _ kw_119) (fun _ h9 => h9) rfl d_BG_unpack_21 ?_
  refine lv_astore_n (lv' := [(2, .ref bca), (0, .ref x), (1, .int (nI k))]) hx hb d_BG_unpack_24 rfl hl (by decide) rfl (fun ls hl => ?_)
  refine lv_aload_n hx hb d_BG_unpack_25 rfl (lv_at hl 0 rfl) ?_
  refine k_pure (r := .int (nI (bs k).2.1)) (W.runV (As := []) (rest := []) ⟨hx, hb, hml, hown, hts⟩ (c_AL_size l g s.heap bca (bs k).2.1 pel ⟨_, _, w6⟩) (cwV 0 hts (kV_good kw_76 kw_73 kw_74 kw_75 kw_4) rfl rfl rfl (by decide +kernel) ⟨Nat.le_of_ble_eq_true rfl, Nat.le_of_ble_eq_true rfl⟩) (k_preV (KK_st g) hKK (kAL.recv ⟨_, _, w6⟩ hK)) rfl rfl hl.1 rfl (lv_room (Nat.le_of_ble_eq_true rfl)) d_BG_unpack_26 ⟨Nat.zero_le _, Nat.zero_le _⟩) ?_
  refine lv_istore_n (lv' := [(3, .int (nI (bs k).2.1)), (2, .ref bca), (0, .ref x), (1, .int (nI k))]) hx hb d_BG_unpack_29 rfl hl (by decide) rfl (fun ls hl => ?_)
  refine lv_aload_n hx hb d_BG_unpack_30 rfl (lv_at hl 2 rfl) ?_
  refine va_get (D := g.1) (ci := 0) (v := .ref la) (C := "BoxGlue") (T := kT_BG) (N := 3) hx hb hts ki_BG hown hK (k_one xo) 0 rfl rfl 0 (by decide) (hts _ kw_55) (fun _ h9 => h9) rfl d_BG_unpack_31 ?_
  refine k_pure (r := .int (nI n)) (W.runV (As := []) (rest := []) ⟨hx, hb, hml, hown, hts⟩ (c_AL_size l g s.heap la n el ⟨_, _, al⟩) (cwV 0 hts (kV_good kw_76 kw_73 kw_74 kw_75 kw_4) rfl rfl rfl (by decide +kernel) ⟨Nat.le_of_ble_eq_true rfl, Nat.le_of_ble_eq_true rfl⟩) (k_preV (KK_st g) hKK (kAL.recv ⟨_, _, al⟩ hK)) rfl rfl hl.1 rfl (lv_room (Nat.le_of_ble_eq_true rfl)) d_BG_unpack_34 ⟨Nat.zero_le _, Nat.zero_le _⟩) ?_
  refine lv_iload_n hx hb d_BG_unpack_37 rfl (lv_at hl 0 rfl) ?_
  refine lv_iadd hx hb d_BG_unpack_38 ?_
  rw [nI_add]
  refine lv_bipush (v := 40) hx hb d_BG_unpack_39 (by decide) ?_
  refine lv_icmp_le (tgt := 47) hx hb d_BG_unpack_41 (by decide) (fun c_2 => ?_) (fun c_2 => ?_)
  · exact absurd c_2 (by rw [show (40 : Int32) = nI 40 from rfl]; exact nI_ge h (by have h9 := w6.n100; omega))
  refine lv_bipush (v := (-2)) hx hb d_BG_unpack_44 (by decide) ?_
  exact W.iret (v := (-2)) hx hb hr (fun t ht hW => ⟨_, rfl, rfl, ht⟩) (fun _ h => by cases h) d_BG_unpack_46
set_option maxHeartbeats 4000000 in
set_option maxRecDepth 100000 in
theorem c_BG_unpack_ok (l : Launch) (g : KGt) (H0 : Heap) (I M : Nat → Prop) (x n : Nat) (its : Nat → Nat → Int32) (nb : Nat) (bs : Nat → BxT) (ib : Nat) (inv : kInv g I M x n its nb bs ib H0) (k : Nat) (hk : k < nb) (h : n + (bs k).2.1 ≤ 40) : Met l y_BG_unpack (kW y_BG_unpack b_BG_unpack 5 (.some .int)) ({ frames := 7, cells := 40, slots := 4000, locals := 171 }) (kPc [.ref x, .int (nI k)] (KK g) H0) (kQc (kPost g I M x (n + (bs k).2.1) (l_app its n (bs k).2.2.1) nb bs ib (.int (nI (n + (bs k).2.1))) H0)) 40 4000 (fun q : Nat => M q ∨ H0.size ≤ q) := by
  refine Met.ofW (cc := b_BG_unpack) (maxL := 5) (ret := (.some .int)) (by decide) rfl ?_
  intro p e s m args below meth c s₁ B hml hv
  obtain ⟨rfl, hH, hKK⟩ := hv
  have hx := B.exec
  have hb := B.bytes
  have hr := B.returns
  have hts := kW_ts (atoms_spec (ws := kW y_BG_unpack b_BG_unpack 5 (.some .int)) B.pre)
  have hown : s.vm.findClass "BoxGlue" = some m.cls := findClass_of_methodNamed B.named
  have hlocks := B.notSynchronized
  have hK := hKK.1
  subst hH
  have hl := lv_entry ([.ref x, .int (nI k)]) (n := 5) (Nat.le_of_ble_eq_true rfl)
  rw [lg_entry_eq]
  generalize (lg_sl ([.ref x, .int (nI k)]) ++ List.replicate (5 - (lg_sl ([.ref x, .int (nI k)])).length) Slot.unset).toArray = ls at hl ⊢
  have hl : lv_has ls 5 [(0, .ref x), (1, .int (nI k))] := hl
  obtain ⟨la, larr, lcap, ma, marr, mcap, el, bel, xo, al, am, hit, hbx, hM, hne, hMI, hMg, hIl, hB, hn, hnb⟩ := id inv
  obtain ⟨hIb, bca, bfa, barr, bcap, pel, w1, hIf, w3, hIc, w5, w6, w7⟩ := hbx k hk
  refine lv_aload_n hx hb d_BG_unpack_0 rfl (lv_at hl 0 rfl) ?_
  refine lv_iload_n hx hb d_BG_unpack_1 rfl (lv_at hl 1 rfl) ?_
  refine k_pure (r := .int 1) (W.runV (As := [.int (nI k)]) (rest := []) ⟨hx, hb, hml, hown, hts⟩ (c_BG_isBox_yes l g s.heap I M x n its nb bs ib inv k hk) (cwV 1 hts (kV_good kw_197 kw_194 kw_196 ks_BG_isBox kw_1) rfl rfl rfl (by decide +kernel) ⟨Nat.le_of_ble_eq_true rfl, Nat.le_of_ble_eq_true rfl⟩) (k_preV (KK_st g) hKK (va_recv hK (k_one xo) (ci := 0) (q0 := 0) rfl rfl)) rfl rfl hl.1 rfl (lv_room (Nat.le_of_ble_eq_true rfl)) d_BG_unpack_2 ⟨Nat.zero_le _, Nat.zero_le _⟩) ?_
  refine lv_if_ne (tgt := 10) hx hb d_BG_unpack_5 (by decide) (fun c_1 => ?_) (fun c_1 => ?_)
  rotate_left
  · exact absurd c_1 (by decide)
  refine lv_aload_n hx hb d_BG_unpack_10 rfl (lv_at hl 0 rfl) ?_
  refine va_get (D := g.1) (ci := 0) (v := .ref ma) (C := "BoxGlue") (T := kT_BG) (N := 3) hx hb hts ki_BG hown hK (k_one xo) 0 rfl rfl 1 (by decide) (hts _ kw_56) (fun _ h9 => h9) rfl d_BG_unpack_11 ?_
  refine lv_iload_n hx hb d_BG_unpack_14 rfl (lv_at hl 1 rfl) ?_
  refine k_pure (r := .ref (bel k)) (W.runV (As := [.int (nI k)]) (rest := []) ⟨hx, hb, hml, hown, hts⟩ (c_AL_get l g s.heap ma nb bel k hk ⟨_, _, am⟩) (cwV 1 hts (kV_good kw_207 kw_204 kw_205 kw_206 kw_4) rfl rfl rfl (by decide +kernel) ⟨Nat.le_of_ble_eq_true rfl, Nat.le_of_ble_eq_true rfl⟩) (k_preV (KK_st g) hKK (kAL.recv ⟨_, _, am⟩ hK)) rfl rfl hl.1 rfl (lv_room (Nat.le_of_ble_eq_true rfl)) d_BG_unpack_15 ⟨Nat.zero_le _, Nat.zero_le _⟩) ?_
  refine va_castY (C := "BoxGlue$Box") hx hb hown (hts _ kw_218) (hKK.2.1 (.castable "BoxGlue$Box" "BoxGlue$Box") (by decide +kernel)) (va_recv hK (k_one w1) (ci := 2) (q0 := 0) rfl rfl) d_BG_unpack_18 ?_
  refine va_get (D := g.1) (ci := 2) (v := .ref bca) (C := "BoxGlue$Box") (T := kT_Box) (N := 5) hx hb hts ki_Box hown hK (k_one w1) 0 rfl rfl 3 (by decide) (hts _ kw_119) (fun _ h9 => h9) rfl d_BG_unpack_21 ?_
  refine lv_astore_n (lv' := [(2, .ref bca), (0, .ref x), (1, .int (nI k))]) hx hb d_BG_unpack_24 rfl hl (by decide) rfl (fun ls hl => ?_)
  refine lv_aload_n hx hb d_BG_unpack_25 rfl (lv_at hl 0 rfl) ?_
  refine k_pure (r := .int (nI (bs k).2.1)) (W.runV (As := []) (rest := []) ⟨hx, hb, hml, hown, hts⟩ (c_AL_size l g s.heap bca (bs k).2.1 pel ⟨_, _, w6⟩) (cwV 0 hts (kV_good kw_76 kw_73 kw_74 kw_75 kw_4) rfl rfl rfl (by decide +kernel) ⟨Nat.le_of_ble_eq_true rfl, Nat.le_of_ble_eq_true rfl⟩) (k_preV (KK_st g) hKK (kAL.recv ⟨_, _, w6⟩ hK)) rfl rfl hl.1 rfl (lv_room (Nat.le_of_ble_eq_true rfl)) d_BG_unpack_26 ⟨Nat.zero_le _, Nat.zero_le _⟩) ?_
  refine lv_istore_n (lv' := [(3, .int (nI (bs k).2.1)), (2, .ref bca), (0, .ref x), (1, .int (nI k))]) hx hb d_BG_unpack_29 rfl hl (by decide) rfl (fun ls hl => ?_)
  refine lv_aload_n hx hb d_BG_unpack_30 rfl (lv_at hl 2 rfl) ?_
  refine va_get (D := g.1) (ci := 0) (v := .ref la) (C := "BoxGlue") (T := kT_BG) (N := 3) hx hb hts ki_BG hown hK (k_one xo) 0 rfl rfl 0 (by decide) (hts _ kw_55) (fun _ h9 => h9) rfl d_BG_unpack_31 ?_
  refine k_pure (r := .int (nI n)) (W.runV (As := []) (rest := []) ⟨hx, hb, hml, hown, hts⟩ (c_AL_size l g s.heap la n el ⟨_, _, al⟩) (cwV 0 hts (kV_good kw_76 kw_73 kw_74 kw_75 kw_4) rfl rfl rfl (by decide +kernel) ⟨Nat.le_of_ble_eq_true rfl, Nat.le_of_ble_eq_true rfl⟩) (k_preV (KK_st g) hKK (kAL.recv ⟨_, _, al⟩ hK)) rfl rfl hl.1 rfl (lv_room (Nat.le_of_ble_eq_true rfl)) d_BG_unpack_34 ⟨Nat.zero_le _, Nat.zero_le _⟩) ?_
  refine lv_iload_n hx hb d_BG_unpack_37 rfl (lv_at hl 0 rfl) ?_
  refine lv_iadd hx hb d_BG_unpack_38 ?_
  rw [nI_add]
  refine lv_bipush (v := 40) hx hb d_BG_unpack_39 (by decide) ?_
  refine lv_icmp_le (tgt := 47) hx hb d_BG_unpack_41 (by decide) (fun c_2 => ?_) (fun c_2 => ?_)
  rotate_left
  · exact absurd c_2 (fun q => q (by rw [show (40 : Int32) = nI 40 from rfl]; exact nI_le h (by decide)))
  refine lv_iconst (v := 0) hx hb d_BG_unpack_47 (by decide) ?_
  refine lv_istore (lv' := [(4, .int 0), (3, .int (nI (bs k).2.1)), (2, .ref bca), (0, .ref x), (1, .int (nI k))]) hx hb d_BG_unpack_48 hl (by decide) rfl (fun ls hl => ?_)
  have key : ∀ (j i larr lcap : Nat) (el : Nat → Nat) (N : Nat → Prop) (H : Heap) (locs : List Loc) (ls : Array Slot), i + j = (bs k).2.1 → kInvW g I N x (n + i) (l_app its n (bs k).2.2.1) nb bs ib la larr lcap ma marr mcap el bel H → kE M s.heap H → (∀ q, N q → M q ∨ s.heap.size ≤ q) → (∀ y ∈ locs, M y.base ∨ s.heap.size ≤ y.base) → lv_has ls 5 [(4, .int (nI i)), (3, .int (nI (bs k).2.1)), (2, .ref bca), (1, .int (nI k)), (0, .ref x)] → W p l e (headSpec (kW y_BG_unpack b_BG_unpack 5 (.some .int)) { frames := 7, cells := 40, slots := 4000, locals := 171 }).room s m #[Value.ref x, Value.int (nI k)] below meth c H locs i (100 * i) (MQ below (kQc (kPost g I M x (n + (bs k).2.1) (l_app its n (bs k).2.2.1) nb bs ib (.int (nI (n + (bs k).2.1))) s.heap)) #[Value.ref x, Value.int (nI k)] s 40 4000 (fun q : Nat => M q ∨ s.heap.size ≤ q)) (F0 m 50 ls []) := by
    intro j
    induction j with
    | zero =>
      intro i larr lcap el N H locs ls hij iw hE hNM hL hl
      obtain ⟨xo9, al9, am9, hit9, hbx9, hM9, hne9, hMI9, hMg9, hIl9, hB9, hn9, hnb9⟩ := id iw
      refine lv_iload hx hb d_BG_unpack_50 (lv_at hl 0 rfl) ?_
      refine lv_iload_n hx hb d_BG_unpack_52 rfl (lv_at hl 1 rfl) ?_
      refine lv_icmp_ge (tgt := 82) hx hb d_BG_unpack_53 (by decide) (fun c_3 => ?_) (fun c_3 => ?_)
      rotate_left
      · exact absurd c_3 (fun q => q (by rw [show i = (bs k).2.1 by omega]; exact Int32.le_refl _))
      refine lv_aload_n hx hb d_BG_unpack_82 rfl (lv_at hl 4 rfl) ?_
      refine va_get (D := g.1) (ci := 0) (v := .ref la) (C := "BoxGlue") (T := kT_BG) (N := 3) hx hb hts ki_BG hown hK (k_one xo9) 0 rfl rfl 0 (by decide) (hts _ kw_55) (fun _ h9 => h9) rfl d_BG_unpack_83 ?_
      refine k_pure (r := .int (nI (n + i))) (W.runV (As := []) (rest := []) ⟨hx, hb, hml, hown, hts⟩ (c_AL_size l g H la (n + i) el ⟨_, _, al9⟩) (cwV 0 hts (kV_good kw_76 kw_73 kw_74 kw_75 kw_4) rfl rfl rfl (by decide +kernel) ⟨Nat.le_of_ble_eq_true rfl, Nat.le_of_ble_eq_true rfl⟩) (k_preV (KK_st g) hKK (kAL.recv ⟨_, _, al9⟩ hK)) rfl rfl hl.1 rfl (lv_room (Nat.le_of_ble_eq_true rfl)) d_BG_unpack_86 ⟨(by show _ ≤ 40; omega), (by show _ ≤ 4000; omega)⟩) ?_
      refine W.widen (k := 40) (n := 4000) (by omega) (by omega) ?_
      have ein : i = (bs k).2.1 := by omega
      rw [ein] at iw ⊢
      exact W.iret (v := nI (n + (bs k).2.1)) hx hb hr (fun t ht hW => ⟨_, rfl, rfl, by rw [ht]; exact hE, I, N, by rw [ht]; exact iw.inv, hNM, fun _ h => Or.inl h⟩) hL d_BG_unpack_89
    | succ j ih =>
      intro i larr lcap el N H locs ls hij iw hE hNM hL hl
      obtain ⟨xo9, al9, am9, hit9, hbx9, hM9, hne9, hMI9, hMg9, hIl9, hB9, hn9, hnb9⟩ := id iw
      obtain ⟨hIp, ia, po, io⟩ := w7 i (by omega)
      have w6H := w6.ext hE (fun h => hMI _ h hIc) (fun hc h => hMI _ h (w5 hc))
      have poH := hE.at po (fun h => hMI _ h hIp)
      have ioH : kItem g I ia ((bs k).2.2.1 i) H := io.kept (fun _ h => h) (fun q hq hl => hE.2 q hl (fun h => hMI q h hq))
      refine lv_iload hx hb d_BG_unpack_50 (lv_at hl 0 rfl) ?_
      refine lv_iload_n hx hb d_BG_unpack_52 rfl (lv_at hl 1 rfl) ?_
      refine lv_icmp_ge (tgt := 82) hx hb d_BG_unpack_53 (by decide) (fun c_4 => ?_) (fun c_4 => ?_)
      · exact absurd c_4 (nI_ge (by omega) (by have h9 := w6.n100; omega))
      refine lv_aload_n hx hb d_BG_unpack_56 rfl (lv_at hl 4 rfl) ?_
      refine va_get (D := g.1) (ci := 0) (v := .ref la) (C := "BoxGlue") (T := kT_BG) (N := 3) hx hb hts ki_BG hown hK (k_one xo9) 0 rfl rfl 0 (by decide) (hts _ kw_55) (fun _ h9 => h9) rfl d_BG_unpack_57 ?_
      refine lv_aload_n hx hb d_BG_unpack_60 rfl (lv_at hl 2 rfl) ?_
      refine lv_iload hx hb d_BG_unpack_61 (lv_at hl 0 rfl) ?_
      refine k_pure (r := .ref (pel i)) (W.runV (As := [.int (nI i)]) (rest := [.ref la]) ⟨hx, hb, hml, hown, hts⟩ (c_AL_get l g H bca (bs k).2.1 pel i (by omega) ⟨_, _, w6H⟩) (cwV 1 hts (kV_good kw_207 kw_204 kw_205 kw_206 kw_4) rfl rfl rfl (by decide +kernel) ⟨Nat.le_of_ble_eq_true rfl, Nat.le_of_ble_eq_true rfl⟩) (k_preV (KK_st g) hKK (kAL.recv ⟨_, _, w6H⟩ hK)) rfl rfl hl.1 rfl (lv_room (Nat.le_of_ble_eq_true rfl)) d_BG_unpack_63 ⟨(by show _ ≤ 40; omega), (by show _ ≤ 4000; omega)⟩) ?_
      refine va_castY (C := "BoxGlue$Placed") hx hb hown (hts _ kw_458) (hKK.2.1 (.castable "BoxGlue$Placed" "BoxGlue$Placed") (by decide +kernel)) (va_recv hK (k_one poH) (ci := 9) (q0 := 0) rfl rfl) d_BG_unpack_66 ?_
      refine va_get (D := g.1) (ci := 9) (v := .ref ia) (C := "BoxGlue$Placed") (T := kT_Placed) (N := 3) hx hb hts ki_Placed hown hK (k_one poH) 0 rfl rfl 0 (by decide) (hts _ kw_439) (fun _ h9 => h9) rfl d_BG_unpack_69 ?_
      refine k_call (A := (fun q : Nat => M q ∨ s.heap.size ≤ q)) (W.runV (As := [.ref ia]) (rest := []) ⟨hx, hb, hml, hown, hts⟩ (c_AL_add l g H la larr lcap (n + i) ia el hB9 al9 (hMg9 la hM9.2.1).1 (by omega) (fun z hz => (hit9 z hz).obj) ioH.obj) (cwV 1 hts (kV_good kw_135 kw_132 kw_133 kw_134 kw_4) rfl rfl rfl (by decide +kernel) ⟨Nat.le_of_ble_eq_true rfl, Nat.le_of_ble_eq_true rfl⟩) (k_preV (KK_st g) hKK (kAL.recv ⟨_, _, al9⟩ hK)) rfl rfl hl.1 rfl (lv_room (Nat.le_of_ble_eq_true rfl)) d_BG_unpack_72 ⟨by show _ ≤ 40; omega, by show _ ≤ 4000; omega⟩) hL (fun q h => by rcases h with h | h | h; rw [h]; exact hNM la hM9.2.1; rw [h.1]; exact hNM larr (hM9.2.2.2.1 h.2); exact Or.inr (Nat.le_trans hE.1 h)) (fun v H2 locs hv hL => ?_)
      obtain ⟨rfl, arr2, cap2, hE2, h4, al2⟩ := hv
      have hA : ∀ q, (q = la ∨ (q = larr ∧ 0 < lcap)) → N q := fun q h => by rcases h with h | h; rw [h]; exact hM9.2.1; rw [h.1]; exact hM9.2.2.2.1 h.2
      have hkp : ∀ b jt, kItem g I b jt H → kItem g I b jt H2 := fun b jt h => h.kept (fun _ h => h) (fun q hq hl => hE2.2 q hl (fun h => hMI9 q (hA q h) hq))
      have hit2 : ∀ z, z < n + i + 1 → kItem g I (va_up el (n + i) ia z) ((l_app its n (bs k).2.2.1) z) H2 := by
        intro z hz
        by_cases e : z = n + i
        · subst e; rw [va_up_self, l_app_hi]; exact hkp _ _ ioH
        · rw [va_up_ne _ _ e]; exact hkp _ _ (hit9 z (by omega))
      obtain ⟨hEM, N2, iw2, hN2⟩ := kInv.list hK xo9 al9 am9 hit9 hbx9 hM9 hne9 hMI9 hMg9 hIl9 hB9 hnb9 hE2 al2 h4 hit2 (by omega)
      have hE3 : kE M s.heap H2 := hE.tr hEM (fun q hq h => (hNM q h).elim id (fun h => absurd hq (by omega)))
      have hNM2 : ∀ q, N2 q → M q ∨ s.heap.size ≤ q := fun q h => (hN2 q h).elim (hNM q) (fun h => Or.inr (Nat.le_trans hE.1 h))
      refine lv_pop hx hb d_BG_unpack_75 rfl ?_
      refine lv_iinc (v := nI (i + 1)) (lv' := [(4, .int (nI (i + 1))), (3, .int (nI (bs k).2.1)), (2, .ref bca), (1, .int (nI k)), (0, .ref x)]) hx hb d_BG_unpack_76 hl (k := 0) rfl (nI_1 i) (by decide) rfl (fun ls hl => ?_)
      refine lv_goto (tgt := 50) hx hb d_BG_unpack_79 (by decide) ?_
      refine W.widen (k := i + 1) (n := 100 * (i + 1)) (by omega) (by omega) ?_
      exact ih (i + 1) arr2 cap2 (va_up el (n + i) ia) N2 H2 locs ls (by omega) iw2 hE3 hNM2 hL (lv_sub hl [0, 1, 2, 3, 4] rfl)
  exact key (bs k).2.1 0 larr lcap el M s.heap [] ls (by omega) ⟨xo, al, am, fun i hi => by rw [l_app_lo (show i < n from hi)]; exact hit i hi, hbx, hM, hne, hMI, hMg, hIl, hB, hn, hnb⟩ kE.rf (fun _ h => Or.inl h) (fun _ h => by cases h) (lv_sub hl [0, 1, 2, 4, 3] rfl)
set_option maxHeartbeats 4000000 in
set_option maxRecDepth 100000 in
theorem c_BG_pack_bad1 (l : Launch) (g : KGt) (H0 : Heap) (I M : Nat → Prop) (x n : Nat) (its : Nat → Nat → Int32) (nb : Nat) (bs : Nat → BxT) (ib : Nat) (inv : kInv g I M x n its nb bs ib H0) (p0 : Int32) (h : p0 < (-1) ∨ ¬ p0 ≤ 1000000) : Met l y_BG_pack (kW y_BG_pack b_BG_pack 3 (.some .int)) ({ frames := 0, cells := 0, slots := 0, locals := 0 }) (kPc [.ref x, .int p0] (KK g) H0) (kQc (kPure (.int (-1)) H0)) 0 0 (fun _ => False) := by
  refine Met.ofW (cc := b_BG_pack) (maxL := 3) (ret := (.some .int)) (by decide) rfl ?_
  intro p e s m args below meth c s₁ B hml hv
  obtain ⟨rfl, hH, hKK⟩ := hv
  have hx := B.exec
  have hb := B.bytes
  have hr := B.returns
  have hts := kW_ts (atoms_spec (ws := kW y_BG_pack b_BG_pack 3 (.some .int)) B.pre)
  have hown : s.vm.findClass "BoxGlue" = some m.cls := findClass_of_methodNamed B.named
  have hlocks := B.notSynchronized
  have hK := hKK.1
  subst hH
  have hl := lv_entry ([.ref x, .int p0]) (n := 3) (Nat.le_of_ble_eq_true rfl)
  rw [lg_entry_eq]
  generalize (lg_sl ([.ref x, .int p0]) ++ List.replicate (3 - (lg_sl ([.ref x, .int p0])).length) Slot.unset).toArray = ls at hl ⊢
  have hl : lv_has ls 3 [(0, .ref x), (1, .int p0)] := hl
  obtain ⟨la, larr, lcap, ma, marr, mcap, el, bel, xo, al, am, hit, hbx, hM, hne, hMI, hMg, hIl, hB, hn, hnb⟩ := id inv
  refine lv_iload_n hx hb d_BG_pack_0 rfl (lv_at hl 1 rfl) ?_
  refine lv_iconst (v := (-1)) hx hb d_BG_pack_1 (by decide) ?_
  refine lv_icmp_lt (tgt := 11) hx hb d_BG_pack_2 (by decide) (fun c_1 => ?_) (fun c_1 => ?_)
  · skip
    refine lv_iconst (v := (-1)) hx hb d_BG_pack_11 (by decide) ?_
    exact W.iret (v := (-1)) hx hb hr (fun t ht hW => ⟨_, rfl, rfl, ht⟩) (fun _ h => by cases h) d_BG_pack_12
  · skip
    refine lv_iload_n hx hb d_BG_pack_5 rfl (lv_at hl 1 rfl) ?_
    refine lv_ldc (own := "BoxGlue") (index := 102) (v := 1000000) hx hb hown (hts _ kw_350) d_BG_pack_6 ?_
    refine lv_icmp_le (tgt := 13) hx hb d_BG_pack_8 (by decide) (fun c_2 => ?_) (fun c_2 => ?_)
    · skip
      rcases h with h | h <;> contradiction
    · skip
      refine lv_iconst (v := (-1)) hx hb d_BG_pack_11 (by decide) ?_
      exact W.iret (v := (-1)) hx hb hr (fun t ht hW => ⟨_, rfl, rfl, ht⟩) (fun _ h => by cases h) d_BG_pack_12
set_option maxHeartbeats 4000000 in
set_option maxRecDepth 100000 in
theorem c_BG_pack_bad2 (l : Launch) (g : KGt) (H0 : Heap) (I M : Nat → Prop) (x n : Nat) (its : Nat → Nat → Int32) (nb : Nat) (bs : Nat → BxT) (ib : Nat) (inv : kInv g I M x n its nb bs ib H0) (p0 : Int32) (hr1 : ¬ p0 < (-1)) (hr2 : p0 ≤ 1000000) (hp : p0 = (-1)) (h : ¬ l_len its n ≤ 1000000) : Met l y_BG_pack (kW y_BG_pack b_BG_pack 3 (.some .int)) ({ frames := 4, cells := 0, slots := 0, locals := 86 }) (kPc [.ref x, .int p0] (KK g) H0) (kQc (kPure (.int (-1)) H0)) 0 0 (fun _ => False) := by
  refine Met.ofW (cc := b_BG_pack) (maxL := 3) (ret := (.some .int)) (by decide) rfl ?_
  intro p e s m args below meth c s₁ B hml hv
  obtain ⟨rfl, hH, hKK⟩ := hv
  have hx := B.exec
  have hb := B.bytes
  have hr := B.returns
  have hts := kW_ts (atoms_spec (ws := kW y_BG_pack b_BG_pack 3 (.some .int)) B.pre)
  have hown : s.vm.findClass "BoxGlue" = some m.cls := findClass_of_methodNamed B.named
  have hlocks := B.notSynchronized
  have hK := hKK.1
  subst hH
  have hl := lv_entry ([.ref x, .int p0]) (n := 3) (Nat.le_of_ble_eq_true rfl)
  rw [lg_entry_eq]
  generalize (lg_sl ([.ref x, .int p0]) ++ List.replicate (3 - (lg_sl ([.ref x, .int p0])).length) Slot.unset).toArray = ls at hl ⊢
  have hl : lv_has ls 3 [(0, .ref x), (1, .int p0)] := hl
  obtain ⟨la, larr, lcap, ma, marr, mcap, el, bel, xo, al, am, hit, hbx, hM, hne, hMI, hMg, hIl, hB, hn, hnb⟩ := id inv
  refine lv_iload_n hx hb d_BG_pack_0 rfl (lv_at hl 1 rfl) ?_
  refine lv_iconst (v := (-1)) hx hb d_BG_pack_1 (by decide) ?_
  refine lv_icmp_lt (tgt := 11) hx hb d_BG_pack_2 (by decide) (fun c_1 => ?_) (fun c_1 => ?_)
  · exact absurd c_1 hr1
  refine lv_iload_n hx hb d_BG_pack_5 rfl (lv_at hl 1 rfl) ?_
  refine lv_ldc (own := "BoxGlue") (index := 102) (v := 1000000) hx hb hown (hts _ kw_350) d_BG_pack_6 ?_
  refine lv_icmp_le (tgt := 13) hx hb d_BG_pack_8 (by decide) (fun c_2 => ?_) (fun c_2 => ?_)
  rotate_left
  · exact absurd c_2 (fun q => q hr2)
  refine lv_aload_n hx hb d_BG_pack_13 rfl (lv_at hl 0 rfl) ?_
  refine va_get (D := g.1) (ci := 0) (v := .ref la) (C := "BoxGlue") (T := kT_BG) (N := 3) hx hb hts ki_BG hown hK (k_one xo) 0 rfl rfl 0 (by decide) (hts _ kw_55) (fun _ h9 => h9) rfl d_BG_pack_14 ?_
  refine k_pure (r := .int (l_len its n)) (W.runS (As := [.ref la]) (rest := []) ⟨hx, hb, hml, hown, hts⟩ (c_Fit_lengthOf l g s.heap I la n el its ⟨_, _, al⟩ hit) (va_cwS 1 hts (kS_good kw_353 kw_351 kw_352 kw_7) rfl rfl rfl (by decide +kernel) ⟨Nat.le_of_ble_eq_true rfl, Nat.le_of_ble_eq_true rfl⟩) (k_pre (KK_st g) hKK) rfl rfl hl.1 rfl (lv_room (Nat.le_of_ble_eq_true rfl)) d_BG_pack_17 ⟨Nat.zero_le _, Nat.zero_le _⟩) ?_
  refine lv_istore_n (lv' := [(2, .int (l_len its n)), (0, .ref x), (1, .int p0)]) hx hb d_BG_pack_20 rfl hl (by decide) rfl (fun ls hl => ?_)
  refine lv_iload_n hx hb d_BG_pack_21 rfl (lv_at hl 2 rfl) ?_
  refine lv_iconst (v := (-1)) hx hb d_BG_pack_22 (by decide) ?_
  refine lv_icmp_ne (tgt := 34) hx hb d_BG_pack_23 (by decide) (fun c_3 => ?_) (fun c_3 => ?_)
  · exact absurd c_3 (fun q => q hp)
  refine lv_iload_n hx hb d_BG_pack_26 rfl (lv_at hl 0 rfl) ?_
  refine lv_ldc (own := "BoxGlue") (index := 102) (v := 1000000) hx hb hown (hts _ kw_350) d_BG_pack_27 ?_
  refine lv_icmp_le (tgt := 34) hx hb d_BG_pack_29 (by decide) (fun c_4 => ?_) (fun c_4 => ?_)
  · exact absurd c_4 h
  refine lv_iconst (v := (-1)) hx hb d_BG_pack_32 (by decide) ?_
  exact W.iret (v := (-1)) hx hb hr (fun t ht hW => ⟨_, rfl, rfl, ht⟩) (fun _ h => by cases h) d_BG_pack_33
set_option maxHeartbeats 4000000 in
set_option maxRecDepth 100000 in
theorem c_BG_pack_full (l : Launch) (g : KGt) (H0 : Heap) (I M : Nat → Prop) (x n : Nat) (its : Nat → Nat → Int32) (nb : Nat) (bs : Nat → BxT) (ib : Nat) (inv : kInv g I M x n its nb bs ib H0) (p0 : Int32) (hr1 : ¬ p0 < (-1)) (hr2 : p0 ≤ 1000000) (hr3 : p0 = (-1) → l_len its n ≤ 1000000) (hib : ib ≤ 300) (h : nb = 60 ∨ 300 < ib + n) : Met l y_BG_pack (kW y_BG_pack b_BG_pack 3 (.some .int)) ({ frames := 4, cells := 0, slots := 0, locals := 86 }) (kPc [.ref x, .int p0] (KK g) H0) (kQc (kPure (.int (-2)) H0)) 0 0 (fun _ => False) := by
  refine Met.ofW (cc := b_BG_pack) (maxL := 3) (ret := (.some .int)) (by decide) rfl ?_
  intro p e s m args below meth c s₁ B hml hv
  obtain ⟨rfl, hH, hKK⟩ := hv
  have hx := B.exec
  have hb := B.bytes
  have hr := B.returns
  have hts := kW_ts (atoms_spec (ws := kW y_BG_pack b_BG_pack 3 (.some .int)) B.pre)
  have hown : s.vm.findClass "BoxGlue" = some m.cls := findClass_of_methodNamed B.named
  have hlocks := B.notSynchronized
  have hK := hKK.1
  subst hH
  have hl := lv_entry ([.ref x, .int p0]) (n := 3) (Nat.le_of_ble_eq_true rfl)
  rw [lg_entry_eq]
  generalize (lg_sl ([.ref x, .int p0]) ++ List.replicate (3 - (lg_sl ([.ref x, .int p0])).length) Slot.unset).toArray = ls at hl ⊢
  have hl : lv_has ls 3 [(0, .ref x), (1, .int p0)] := hl
  obtain ⟨la, larr, lcap, ma, marr, mcap, el, bel, xo, al, am, hit, hbx, hM, hne, hMI, hMg, hIl, hB, hn, hnb⟩ := id inv
  rcases Decidable.em (p0 = (-1)) with hp | hp
  · skip
    refine lv_iload_n hx hb d_BG_pack_0 rfl (lv_at hl 1 rfl) ?_
    refine lv_iconst (v := (-1)) hx hb d_BG_pack_1 (by decide) ?_
    refine lv_icmp_lt (tgt := 11) hx hb d_BG_pack_2 (by decide) (fun c_1 => ?_) (fun c_1 => ?_)
    · exact absurd c_1 hr1
    refine lv_iload_n hx hb d_BG_pack_5 rfl (lv_at hl 1 rfl) ?_
    refine lv_ldc (own := "BoxGlue") (index := 102) (v := 1000000) hx hb hown (hts _ kw_350) d_BG_pack_6 ?_
    refine lv_icmp_le (tgt := 13) hx hb d_BG_pack_8 (by decide) (fun c_2 => ?_) (fun c_2 => ?_)
    rotate_left
    · exact absurd c_2 (fun q => q hr2)
    refine lv_aload_n hx hb d_BG_pack_13 rfl (lv_at hl 0 rfl) ?_
    refine va_get (D := g.1) (ci := 0) (v := .ref la) (C := "BoxGlue") (T := kT_BG) (N := 3) hx hb hts ki_BG hown hK (k_one xo) 0 rfl rfl 0 (by decide) (hts _ kw_55) (fun _ h9 => h9) rfl d_BG_pack_14 ?_
    refine k_pure (r := .int (l_len its n)) (W.runS (As := [.ref la]) (rest := []) ⟨hx, hb, hml, hown, hts⟩ (c_Fit_lengthOf l g s.heap I la n el its ⟨_, _, al⟩ hit) (va_cwS 1 hts (kS_good kw_353 kw_351 kw_352 kw_7) rfl rfl rfl (by decide +kernel) ⟨Nat.le_of_ble_eq_true rfl, Nat.le_of_ble_eq_true rfl⟩) (k_pre (KK_st g) hKK) rfl rfl hl.1 rfl (lv_room (Nat.le_of_ble_eq_true rfl)) d_BG_pack_17 ⟨Nat.zero_le _, Nat.zero_le _⟩) ?_
    refine lv_istore_n (lv' := [(2, .int (l_len its n)), (0, .ref x), (1, .int p0)]) hx hb d_BG_pack_20 rfl hl (by decide) rfl (fun ls hl => ?_)
    refine lv_iload_n hx hb d_BG_pack_21 rfl (lv_at hl 2 rfl) ?_
    refine lv_iconst (v := (-1)) hx hb d_BG_pack_22 (by decide) ?_
    refine lv_icmp_ne (tgt := 34) hx hb d_BG_pack_23 (by decide) (fun c_3 => ?_) (fun c_3 => ?_)
    · exact absurd c_3 (fun q => q hp)
    refine lv_iload_n hx hb d_BG_pack_26 rfl (lv_at hl 0 rfl) ?_
    refine lv_ldc (own := "BoxGlue") (index := 102) (v := 1000000) hx hb hown (hts _ kw_350) d_BG_pack_27 ?_
    refine lv_icmp_le (tgt := 34) hx hb d_BG_pack_29 (by decide) (fun c_4 => ?_) (fun c_4 => ?_)
    rotate_left
    · exact absurd c_4 (fun q => q (hr3 hp))
    refine lv_aload_n hx hb d_BG_pack_34 rfl (lv_at hl 1 rfl) ?_
    refine va_get (D := g.1) (ci := 0) (v := .ref ma) (C := "BoxGlue") (T := kT_BG) (N := 3) hx hb hts ki_BG hown hK (k_one xo) 0 rfl rfl 1 (by decide) (hts _ kw_56) (fun _ h9 => h9) rfl d_BG_pack_35 ?_
    refine k_pure (r := .int (nI nb)) (W.runV (As := []) (rest := []) ⟨hx, hb, hml, hown, hts⟩ (c_AL_size l g s.heap ma nb bel ⟨_, _, am⟩) (cwV 0 hts (kV_good kw_76 kw_73 kw_74 kw_75 kw_4) rfl rfl rfl (by decide +kernel) ⟨Nat.le_of_ble_eq_true rfl, Nat.le_of_ble_eq_true rfl⟩) (k_preV (KK_st g) hKK (kAL.recv ⟨_, _, am⟩ hK)) rfl rfl hl.1 rfl (lv_room (Nat.le_of_ble_eq_true rfl)) d_BG_pack_38 ⟨Nat.zero_le _, Nat.zero_le _⟩) ?_
    refine lv_bipush (v := 60) hx hb d_BG_pack_41 (by decide) ?_
    refine lv_icmp_ge (tgt := 64) hx hb d_BG_pack_43 (by decide) (fun c_5 => ?_) (fun c_5 => ?_)
    · skip
      refine lv_bipush (v := (-2)) hx hb d_BG_pack_64 (by decide) ?_
      exact W.iret (v := (-2)) hx hb hr (fun t ht hW => ⟨_, rfl, rfl, ht⟩) (fun _ h => by cases h) d_BG_pack_66
    · skip
      have h : 300 < ib + n := h.elim (fun h => absurd (by rw [h]; decide) c_5) id
      refine lv_aload_n hx hb d_BG_pack_46 rfl (lv_at hl 1 rfl) ?_
      refine va_get (D := g.1) (ci := 0) (v := .int (nI ib)) (C := "BoxGlue") (T := kT_BG) (N := 3) hx hb hts ki_BG hown hK (k_one xo) 0 rfl rfl 2 (by decide) (hts _ kw_57) (fun _ h9 => h9) rfl d_BG_pack_47 ?_
      refine lv_aload_n hx hb d_BG_pack_50 rfl (lv_at hl 1 rfl) ?_
      refine va_get (D := g.1) (ci := 0) (v := .ref la) (C := "BoxGlue") (T := kT_BG) (N := 3) hx hb hts ki_BG hown hK (k_one xo) 0 rfl rfl 0 (by decide) (hts _ kw_55) (fun _ h9 => h9) rfl d_BG_pack_51 ?_
      refine k_pure (r := .int (nI n)) (W.runV (As := []) (rest := [.int (nI ib)]) ⟨hx, hb, hml, hown, hts⟩ (c_AL_size l g s.heap la n el ⟨_, _, al⟩) (cwV 0 hts (kV_good kw_76 kw_73 kw_74 kw_75 kw_4) rfl rfl rfl (by decide +kernel) ⟨Nat.le_of_ble_eq_true rfl, Nat.le_of_ble_eq_true rfl⟩) (k_preV (KK_st g) hKK (kAL.recv ⟨_, _, al⟩ hK)) rfl rfl hl.1 rfl (lv_room (Nat.le_of_ble_eq_true rfl)) d_BG_pack_54 ⟨Nat.zero_le _, Nat.zero_le _⟩) ?_
      refine lv_iadd hx hb d_BG_pack_57 ?_
      rw [nI_add]
      refine lv_sipush (v := 300) hx hb d_BG_pack_58 (by decide) ?_
      refine lv_icmp_le (tgt := 67) hx hb d_BG_pack_61 (by decide) (fun c_6 => ?_) (fun c_6 => ?_)
      · exact absurd c_6 (by rw [show (300 : Int32) = nI 300 from rfl]; exact nI_ge h (by omega))
      refine lv_bipush (v := (-2)) hx hb d_BG_pack_64 (by decide) ?_
      exact W.iret (v := (-2)) hx hb hr (fun t ht hW => ⟨_, rfl, rfl, ht⟩) (fun _ h => by cases h) d_BG_pack_66
  · skip
    refine lv_iload_n hx hb d_BG_pack_0 rfl (lv_at hl 1 rfl) ?_
    refine lv_iconst (v := (-1)) hx hb d_BG_pack_1 (by decide) ?_
    refine lv_icmp_lt (tgt := 11) hx hb d_BG_pack_2 (by decide) (fun c_1 => ?_) (fun c_1 => ?_)
    · exact absurd c_1 hr1
    refine lv_iload_n hx hb d_BG_pack_5 rfl (lv_at hl 1 rfl) ?_
    refine lv_ldc (own := "BoxGlue") (index := 102) (v := 1000000) hx hb hown (hts _ kw_350) d_BG_pack_6 ?_
    refine lv_icmp_le (tgt := 13) hx hb d_BG_pack_8 (by decide) (fun c_2 => ?_) (fun c_2 => ?_)
    rotate_left
    · exact absurd c_2 (fun q => q hr2)
    refine lv_aload_n hx hb d_BG_pack_13 rfl (lv_at hl 0 rfl) ?_
    refine va_get (D := g.1) (ci := 0) (v := .ref la) (C := "BoxGlue") (T := kT_BG) (N := 3) hx hb hts ki_BG hown hK (k_one xo) 0 rfl rfl 0 (by decide) (hts _ kw_55) (fun _ h9 => h9) rfl d_BG_pack_14 ?_
    refine k_pure (r := .int (l_len its n)) (W.runS (As := [.ref la]) (rest := []) ⟨hx, hb, hml, hown, hts⟩ (c_Fit_lengthOf l g s.heap I la n el its ⟨_, _, al⟩ hit) (va_cwS 1 hts (kS_good kw_353 kw_351 kw_352 kw_7) rfl rfl rfl (by decide +kernel) ⟨Nat.le_of_ble_eq_true rfl, Nat.le_of_ble_eq_true rfl⟩) (k_pre (KK_st g) hKK) rfl rfl hl.1 rfl (lv_room (Nat.le_of_ble_eq_true rfl)) d_BG_pack_17 ⟨Nat.zero_le _, Nat.zero_le _⟩) ?_
    refine lv_istore_n (lv' := [(2, .int (l_len its n)), (0, .ref x), (1, .int p0)]) hx hb d_BG_pack_20 rfl hl (by decide) rfl (fun ls hl => ?_)
    refine lv_iload_n hx hb d_BG_pack_21 rfl (lv_at hl 2 rfl) ?_
    refine lv_iconst (v := (-1)) hx hb d_BG_pack_22 (by decide) ?_
    refine lv_icmp_ne (tgt := 34) hx hb d_BG_pack_23 (by decide) (fun c_3 => ?_) (fun c_3 => ?_)
    rotate_left
    · exact absurd c_3 hp
    refine lv_aload_n hx hb d_BG_pack_34 rfl (lv_at hl 1 rfl) ?_
    refine va_get (D := g.1) (ci := 0) (v := .ref ma) (C := "BoxGlue") (T := kT_BG) (N := 3) hx hb hts ki_BG hown hK (k_one xo) 0 rfl rfl 1 (by decide) (hts _ kw_56) (fun _ h9 => h9) rfl d_BG_pack_35 ?_
    refine k_pure (r := .int (nI nb)) (W.runV (As := []) (rest := []) ⟨hx, hb, hml, hown, hts⟩ (c_AL_size l g s.heap ma nb bel ⟨_, _, am⟩) (cwV 0 hts (kV_good kw_76 kw_73 kw_74 kw_75 kw_4) rfl rfl rfl (by decide +kernel) ⟨Nat.le_of_ble_eq_true rfl, Nat.le_of_ble_eq_true rfl⟩) (k_preV (KK_st g) hKK (kAL.recv ⟨_, _, am⟩ hK)) rfl rfl hl.1 rfl (lv_room (Nat.le_of_ble_eq_true rfl)) d_BG_pack_38 ⟨Nat.zero_le _, Nat.zero_le _⟩) ?_
    refine lv_bipush (v := 60) hx hb d_BG_pack_41 (by decide) ?_
    refine lv_icmp_ge (tgt := 64) hx hb d_BG_pack_43 (by decide) (fun c_4 => ?_) (fun c_4 => ?_)
    · skip
      refine lv_bipush (v := (-2)) hx hb d_BG_pack_64 (by decide) ?_
      exact W.iret (v := (-2)) hx hb hr (fun t ht hW => ⟨_, rfl, rfl, ht⟩) (fun _ h => by cases h) d_BG_pack_66
    · skip
      have h : 300 < ib + n := h.elim (fun h => absurd (by rw [h]; decide) c_4) id
      refine lv_aload_n hx hb d_BG_pack_46 rfl (lv_at hl 1 rfl) ?_
      refine va_get (D := g.1) (ci := 0) (v := .int (nI ib)) (C := "BoxGlue") (T := kT_BG) (N := 3) hx hb hts ki_BG hown hK (k_one xo) 0 rfl rfl 2 (by decide) (hts _ kw_57) (fun _ h9 => h9) rfl d_BG_pack_47 ?_
      refine lv_aload_n hx hb d_BG_pack_50 rfl (lv_at hl 1 rfl) ?_
      refine va_get (D := g.1) (ci := 0) (v := .ref la) (C := "BoxGlue") (T := kT_BG) (N := 3) hx hb hts ki_BG hown hK (k_one xo) 0 rfl rfl 0 (by decide) (hts _ kw_55) (fun _ h9 => h9) rfl d_BG_pack_51 ?_
      refine k_pure (r := .int (nI n)) (W.runV (As := []) (rest := [.int (nI ib)]) ⟨hx, hb, hml, hown, hts⟩ (c_AL_size l g s.heap la n el ⟨_, _, al⟩) (cwV 0 hts (kV_good kw_76 kw_73 kw_74 kw_75 kw_4) rfl rfl rfl (by decide +kernel) ⟨Nat.le_of_ble_eq_true rfl, Nat.le_of_ble_eq_true rfl⟩) (k_preV (KK_st g) hKK (kAL.recv ⟨_, _, al⟩ hK)) rfl rfl hl.1 rfl (lv_room (Nat.le_of_ble_eq_true rfl)) d_BG_pack_54 ⟨Nat.zero_le _, Nat.zero_le _⟩) ?_
      refine lv_iadd hx hb d_BG_pack_57 ?_
      rw [nI_add]
      refine lv_sipush (v := 300) hx hb d_BG_pack_58 (by decide) ?_
      refine lv_icmp_le (tgt := 67) hx hb d_BG_pack_61 (by decide) (fun c_5 => ?_) (fun c_5 => ?_)
      · exact absurd c_5 (by rw [show (300 : Int32) = nI 300 from rfl]; exact nI_ge h (by omega))
      refine lv_bipush (v := (-2)) hx hb d_BG_pack_64 (by decide) ?_
      exact W.iret (v := (-2)) hx hb hr (fun t ht hW => ⟨_, rfl, rfl, ht⟩) (fun _ h => by cases h) d_BG_pack_66
theorem kALx.lalt {g : KGt} {la arr cap n : Nat} {el : Nat → Nat} {H : Heap} (h : kALx g la arr cap n el H) : la < H.size := by
  obtain ⟨mo, w1, -⟩ := h
  exact w1.lt
set_option maxHeartbeats 4000000 in
set_option maxRecDepth 100000 in
theorem c_BG_pack_ok (l : Launch) (g : KGt) (H0 : Heap) (I M : Nat → Prop) (x n : Nat) (its : Nat → Nat → Int32) (nb : Nat) (bs : Nat → BxT) (ib : Nat) (inv : kInv g I M x n its nb bs ib H0) (p0 : Int32) (hr1 : ¬ p0 < (-1)) (hr2 : p0 ≤ 1000000) (hr3 : p0 = (-1) → l_len its n ≤ 1000000) (h60 : nb < 60) (h300 : ib + n ≤ 300) : Met l y_BG_pack (kW y_BG_pack b_BG_pack 3 (.some .int)) ({ frames := 9, cells := 103, slots := 5109, locals := 223 }) (kPc [.ref x, .int p0] (KK g) H0) (kQc (kPost g I M x 0 its (nb + 1) (va_up bs nb (bxp its n (pk_L p0 (l_len its n)))) (ib + n) (.int (nI nb)) H0)) 103 5109 (fun q : Nat => M q ∨ H0.size ≤ q) := by
  refine Met.ofW (cc := b_BG_pack) (maxL := 3) (ret := (.some .int)) (by decide) rfl ?_
  intro p e s m args below meth c s₁ B hml hv
  obtain ⟨rfl, hH, hKK⟩ := hv
  have hx := B.exec
  have hb := B.bytes
  have hr := B.returns
  have hts := kW_ts (atoms_spec (ws := kW y_BG_pack b_BG_pack 3 (.some .int)) B.pre)
  have hown : s.vm.findClass "BoxGlue" = some m.cls := findClass_of_methodNamed B.named
  have hlocks := B.notSynchronized
  have hK := hKK.1
  subst hH
  have hl := lv_entry ([.ref x, .int p0]) (n := 3) (Nat.le_of_ble_eq_true rfl)
  rw [lg_entry_eq]
  generalize (lg_sl ([.ref x, .int p0]) ++ List.replicate (3 - (lg_sl ([.ref x, .int p0])).length) Slot.unset).toArray = ls at hl ⊢
  have hl : lv_has ls 3 [(0, .ref x), (1, .int p0)] := hl
  obtain ⟨la, larr, lcap, ma, marr, mcap, el, bel, xo, al, am, hit, hbx, hM, hne, hMI, hMg, hIl, hB, hn, hnb⟩ := id inv
  rcases Decidable.em (p0 = (-1)) with hp | hp
  · skip
    refine lv_iload_n hx hb d_BG_pack_0 rfl (lv_at hl 1 rfl) ?_
    refine lv_iconst (v := (-1)) hx hb d_BG_pack_1 (by decide) ?_
    refine lv_icmp_lt (tgt := 11) hx hb d_BG_pack_2 (by decide) (fun c_1 => ?_) (fun c_1 => ?_)
    · exact absurd c_1 hr1
    refine lv_iload_n hx hb d_BG_pack_5 rfl (lv_at hl 1 rfl) ?_
    refine lv_ldc (own := "BoxGlue") (index := 102) (v := 1000000) hx hb hown (hts _ kw_350) d_BG_pack_6 ?_
    refine lv_icmp_le (tgt := 13) hx hb d_BG_pack_8 (by decide) (fun c_2 => ?_) (fun c_2 => ?_)
    rotate_left
    · exact absurd c_2 (fun q => q hr2)
    refine lv_aload_n hx hb d_BG_pack_13 rfl (lv_at hl 0 rfl) ?_
    refine va_get (D := g.1) (ci := 0) (v := .ref la) (C := "BoxGlue") (T := kT_BG) (N := 3) hx hb hts ki_BG hown hK (k_one xo) 0 rfl rfl 0 (by decide) (hts _ kw_55) (fun _ h9 => h9) rfl d_BG_pack_14 ?_
    refine k_pure (r := .int (l_len its n)) (W.runS (As := [.ref la]) (rest := []) ⟨hx, hb, hml, hown, hts⟩ (c_Fit_lengthOf l g s.heap I la n el its ⟨_, _, al⟩ hit) (va_cwS 1 hts (kS_good kw_353 kw_351 kw_352 kw_7) rfl rfl rfl (by decide +kernel) ⟨Nat.le_of_ble_eq_true rfl, Nat.le_of_ble_eq_true rfl⟩) (k_pre (KK_st g) hKK) rfl rfl hl.1 rfl (lv_room (Nat.le_of_ble_eq_true rfl)) d_BG_pack_17 ⟨Nat.zero_le _, Nat.zero_le _⟩) ?_
    refine lv_istore_n (lv' := [(2, .int (l_len its n)), (0, .ref x), (1, .int p0)]) hx hb d_BG_pack_20 rfl hl (by decide) rfl (fun ls hl => ?_)
    refine lv_iload_n hx hb d_BG_pack_21 rfl (lv_at hl 2 rfl) ?_
    refine lv_iconst (v := (-1)) hx hb d_BG_pack_22 (by decide) ?_
    refine lv_icmp_ne (tgt := 34) hx hb d_BG_pack_23 (by decide) (fun c_3 => ?_) (fun c_3 => ?_)
    · exact absurd c_3 (fun q => q hp)
    refine lv_iload_n hx hb d_BG_pack_26 rfl (lv_at hl 0 rfl) ?_
    refine lv_ldc (own := "BoxGlue") (index := 102) (v := 1000000) hx hb hown (hts _ kw_350) d_BG_pack_27 ?_
    refine lv_icmp_le (tgt := 34) hx hb d_BG_pack_29 (by decide) (fun c_4 => ?_) (fun c_4 => ?_)
    rotate_left
    · exact absurd c_4 (fun q => q (hr3 hp))
    refine lv_aload_n hx hb d_BG_pack_34 rfl (lv_at hl 1 rfl) ?_
    refine va_get (D := g.1) (ci := 0) (v := .ref ma) (C := "BoxGlue") (T := kT_BG) (N := 3) hx hb hts ki_BG hown hK (k_one xo) 0 rfl rfl 1 (by decide) (hts _ kw_56) (fun _ h9 => h9) rfl d_BG_pack_35 ?_
    refine k_pure (r := .int (nI nb)) (W.runV (As := []) (rest := []) ⟨hx, hb, hml, hown, hts⟩ (c_AL_size l g s.heap ma nb bel ⟨_, _, am⟩) (cwV 0 hts (kV_good kw_76 kw_73 kw_74 kw_75 kw_4) rfl rfl rfl (by decide +kernel) ⟨Nat.le_of_ble_eq_true rfl, Nat.le_of_ble_eq_true rfl⟩) (k_preV (KK_st g) hKK (kAL.recv ⟨_, _, am⟩ hK)) rfl rfl hl.1 rfl (lv_room (Nat.le_of_ble_eq_true rfl)) d_BG_pack_38 ⟨Nat.zero_le _, Nat.zero_le _⟩) ?_
    refine lv_bipush (v := 60) hx hb d_BG_pack_41 (by decide) ?_
    refine lv_icmp_ge (tgt := 64) hx hb d_BG_pack_43 (by decide) (fun c_5 => ?_) (fun c_5 => ?_)
    · exact absurd c_5 (by rw [show (60 : Int32) = nI 60 from rfl]; exact nI_ge h60 (by decide))
    refine lv_aload_n hx hb d_BG_pack_46 rfl (lv_at hl 1 rfl) ?_
    refine va_get (D := g.1) (ci := 0) (v := .int (nI ib)) (C := "BoxGlue") (T := kT_BG) (N := 3) hx hb hts ki_BG hown hK (k_one xo) 0 rfl rfl 2 (by decide) (hts _ kw_57) (fun _ h9 => h9) rfl d_BG_pack_47 ?_
    refine lv_aload_n hx hb d_BG_pack_50 rfl (lv_at hl 1 rfl) ?_
    refine va_get (D := g.1) (ci := 0) (v := .ref la) (C := "BoxGlue") (T := kT_BG) (N := 3) hx hb hts ki_BG hown hK (k_one xo) 0 rfl rfl 0 (by decide) (hts _ kw_55) (fun _ h9 => h9) rfl d_BG_pack_51 ?_
    refine k_pure (r := .int (nI n)) (W.runV (As := []) (rest := [.int (nI ib)]) ⟨hx, hb, hml, hown, hts⟩ (c_AL_size l g s.heap la n el ⟨_, _, al⟩) (cwV 0 hts (kV_good kw_76 kw_73 kw_74 kw_75 kw_4) rfl rfl rfl (by decide +kernel) ⟨Nat.le_of_ble_eq_true rfl, Nat.le_of_ble_eq_true rfl⟩) (k_preV (KK_st g) hKK (kAL.recv ⟨_, _, al⟩ hK)) rfl rfl hl.1 rfl (lv_room (Nat.le_of_ble_eq_true rfl)) d_BG_pack_54 ⟨Nat.zero_le _, Nat.zero_le _⟩) ?_
    refine lv_iadd hx hb d_BG_pack_57 ?_
    rw [nI_add]
    refine lv_sipush (v := 300) hx hb d_BG_pack_58 (by decide) ?_
    refine lv_icmp_le (tgt := 67) hx hb d_BG_pack_61 (by decide) (fun c_6 => ?_) (fun c_6 => ?_)
    rotate_left
    · exact absurd c_6 (fun q => q (by rw [show (300 : Int32) = nI 300 from rfl]; exact nI_le h300 (by decide)))
    refine lv_aload_n hx hb d_BG_pack_67 rfl (lv_at hl 1 rfl) ?_
    refine va_get (D := g.1) (ci := 0) (v := .ref ma) (C := "BoxGlue") (T := kT_BG) (N := 3) hx hb hts ki_BG hown hK (k_one xo) 0 rfl rfl 1 (by decide) (hts _ kw_56) (fun _ h9 => h9) rfl d_BG_pack_68 ?_
    refine lv_aload_n hx hb d_BG_pack_71 rfl (lv_at hl 1 rfl) ?_
    refine va_get (D := g.1) (ci := 0) (v := .ref la) (C := "BoxGlue") (T := kT_BG) (N := 3) hx hb hts ki_BG hown hK (k_one xo) 0 rfl rfl 0 (by decide) (hts _ kw_55) (fun _ h9 => h9) rfl d_BG_pack_72 ?_
    refine lv_iload_n hx hb d_BG_pack_75 rfl (lv_at hl 2 rfl) ?_
    refine lv_iconst (v := (-1)) hx hb d_BG_pack_76 (by decide) ?_
    refine lv_icmp_ne (tgt := 88) hx hb d_BG_pack_77 (by decide) (fun c_7 => ?_) (fun c_7 => ?_)
    · exact absurd c_7 (fun q => q hp)
    refine lv_iload_n hx hb d_BG_pack_80 rfl (lv_at hl 0 rfl) ?_
    refine lv_iconst (v := 0) hx hb d_BG_pack_81 (by decide) ?_
    refine va_mmax (x := (l_len its n)) (y := 0) hx hb (hml.trans hl.1.symm) hown (hts _ kw_357) (hts _ kw_152) (hts _ kw_9) (hts _ kw_153) (Nat.le_of_ble_eq_true rfl) (Nat.le_of_ble_eq_true rfl) (Nat.zero_le _) (Nat.zero_le _) d_BG_pack_82 ?_
    refine lv_goto (tgt := 89) hx hb d_BG_pack_85 (by decide) ?_
    refine lv_topi (fun L hLe => ?_)
    have hLe : L = (pk_L p0 (l_len its n)) := by rw [hLe]; unfold pk_L; rw [if_pos hp]
    refine k_call (A := (fun q : Nat => M q ∨ s.heap.size ≤ q)) (W.runS (As := [.ref la, .int L]) (rest := [.ref ma]) ⟨hx, hb, hml, hown, hts⟩ (c_Box_packed l g s.heap I la n el its L hB hn ⟨_, _, al⟩ hit) (va_cwS 2 hts (kS_good kw_360 kw_358 kw_359 kw_6) rfl rfl rfl (by decide +kernel) ⟨Nat.le_of_ble_eq_true rfl, Nat.le_of_ble_eq_true rfl⟩) (k_pre (KK_st g) hKK) rfl rfl hl.1 rfl (lv_room (Nat.le_of_ble_eq_true rfl)) d_BG_pack_89 ⟨Nat.le_of_ble_eq_true rfl, Nat.le_of_ble_eq_true rfl⟩) (fun _ h => by cases h) (fun q h => Or.inr h) (fun v H locs hv hL => ?_)
    obtain ⟨bq, fq, cq, arr, cap, pel, rfl, g1, g2, g3, g4, hE, bo, fo, co, hpl⟩ := hv
    have iw := kInvW.more (⟨xo, al, am, hit, hbx, hM, hne, hMI, hMg, hIl, hB, hn, hnb⟩ : kInvW g I M x n its nb bs ib la larr lcap ma marr mcap el bel s.heap) hE (J := fun q => I q ∨ q = bq ∨ q = fq ∨ q = cq ∨ (q = arr ∧ 0 < cap) ∨ ∃ i, i < n ∧ q = pel i) (fun q h => Or.inl h) (fun q h => by rcases h with h | rfl | rfl | rfl | ⟨rfl, hc⟩ | ⟨i, hi, rfl⟩; exact Or.inl h; exact Or.inr ⟨g1, bo.lt⟩; exact Or.inr ⟨g2, fo.lt⟩; exact Or.inr ⟨g3, (kALx.lalt co)⟩; exact Or.inr ⟨g4 hc, co.arrlt hc⟩; exact Or.inr ⟨(hpl i hi).1, (hpl i hi).2.lt⟩)
    obtain ⟨xo, al, am, hit, hbx, hM, hne, hMI, hMg, hIl, hB, hn, hnb⟩ := iw
    have hbn : kBox g (fun q => I q ∨ q = bq ∨ q = fq ∨ q = cq ∨ (q = arr ∧ 0 < cap) ∨ ∃ i, i < n ∧ q = pel i) bq (bxp its n L) H := ⟨Or.inr (Or.inl rfl), cq, fq, arr, cap, pel, bo, Or.inr (Or.inr (Or.inl rfl)), fo, Or.inr (Or.inr (Or.inr (Or.inl rfl))), fun h => Or.inr (Or.inr (Or.inr (Or.inr (Or.inl ⟨rfl, h⟩)))), co, fun i hi => ⟨Or.inr (Or.inr (Or.inr (Or.inr (Or.inr ⟨i, hi, rfl⟩)))), el i, (hpl i hi).2, hit i hi⟩⟩
    refine k_call (A := (fun q : Nat => M q ∨ s.heap.size ≤ q)) (W.runV (As := [.ref bq]) (rest := []) ⟨hx, hb, hml, hown, hts⟩ (c_AL_add l g H ma marr mcap nb bq bel hB am (hMg ma hM.2.2.1).1 (by omega) (fun i hi => (hbx i hi).obj) hbn.obj) (cwV 1 hts (kV_good kw_135 kw_132 kw_133 kw_134 kw_4) rfl rfl rfl (by decide +kernel) ⟨Nat.le_of_ble_eq_true rfl, Nat.le_of_ble_eq_true rfl⟩) (k_preV (KK_st g) hKK (kAL.recv ⟨_, _, am⟩ hK)) rfl rfl hl.1 rfl (lv_room (Nat.le_of_ble_eq_true rfl)) d_BG_pack_92 ⟨Nat.le_of_ble_eq_true rfl, Nat.le_of_ble_eq_true rfl⟩) hL (fun q h => by rcases h with h | h | h; rw [h]; exact Or.inl hM.2.2.1; rw [h.1]; exact Or.inl (hM.2.2.2.2 h.2); exact Or.inr (Nat.le_trans hE.1 h)) (fun v H2 locs hv hL => ?_)
    obtain ⟨rfl, arr2, cap2, hE2, h4, am2⟩ := hv
    have hA2 : ∀ q, (q = ma ∨ (q = marr ∧ 0 < mcap)) → M q := fun q h => by rcases h with h | h; rw [h]; exact hM.2.2.1; rw [h.1]; exact hM.2.2.2.2 h.2
    have hbx2 : ∀ i, i < nb + 1 → kBox g (fun q => I q ∨ q = bq ∨ q = fq ∨ q = cq ∨ (q = arr ∧ 0 < cap) ∨ ∃ i, i < n ∧ q = pel i) (va_up bel nb bq i) (va_up bs nb (bxp its n L) i) H2 := by
      intro i hi
      by_cases e : i = nb
      · subst e; rw [va_up_self, va_up_self]; exact hbn.kept (fun _ h => h) (fun q hq hl => hE2.2 q hl (fun h => hMI q (hA2 q h) hq))
      · rw [va_up_ne _ _ e, va_up_ne _ _ e]; exact (hbx i (by omega)).kept (fun _ h => h) (fun q hq hl => hE2.2 q hl (fun h => hMI q (hA2 q h) hq))
    obtain ⟨hEM, N, inv2, hN⟩ := kInv.made hK xo al am hit hbx hM hne hMI hMg hIl hB hn hE2 am2 h4 hbx2 (by omega)
    have xo := hE2.at xo (am.apartX hK xo)
    obtain ⟨xo, al, am, hit, hbx, hM2, hne, hMI2, hMg2, hIl, hB, hn, hnb⟩ := id inv2
    have hE02 : kE M s.heap H2 := (hE.wk (fun _ _ h => h.elim)).tr hEM (fun _ _ h => h)
    refine lv_pop hx hb d_BG_pack_95 rfl ?_
    refine lv_aload_n hx hb d_BG_pack_96 rfl (lv_at hl 1 rfl) ?_
    refine lv_dup hx hb d_BG_pack_97 rfl ?_
    refine va_get (D := g.1) (ci := 0) (v := .int (nI ib)) (C := "BoxGlue") (T := kT_BG) (N := 3) hx hb hts ki_BG hown hK (k_one xo) 0 rfl rfl 2 (by decide) (hts _ kw_57) (fun _ h9 => h9) rfl d_BG_pack_98 ?_
    refine lv_aload_n hx hb d_BG_pack_101 rfl (lv_at hl 1 rfl) ?_
    refine va_get (D := g.1) (ci := 0) (v := .ref la) (C := "BoxGlue") (T := kT_BG) (N := 3) hx hb hts ki_BG hown hK (k_one xo) 0 rfl rfl 0 (by decide) (hts _ kw_55) (fun _ h9 => h9) rfl d_BG_pack_102 ?_
    refine k_pure (r := .int (nI n)) (W.runV (As := []) (rest := [.int (nI ib), .ref x]) ⟨hx, hb, hml, hown, hts⟩ (c_AL_size l g H2 la n el ⟨_, _, al⟩) (cwV 0 hts (kV_good kw_76 kw_73 kw_74 kw_75 kw_4) rfl rfl rfl (by decide +kernel) ⟨Nat.le_of_ble_eq_true rfl, Nat.le_of_ble_eq_true rfl⟩) (k_preV (KK_st g) hKK (kAL.recv ⟨_, _, al⟩ hK)) rfl rfl hl.1 rfl (lv_room (Nat.le_of_ble_eq_true rfl)) d_BG_pack_105 ⟨Nat.le_of_ble_eq_true rfl, Nat.le_of_ble_eq_true rfl⟩) ?_
    refine lv_iadd hx hb d_BG_pack_108 ?_
    rw [nI_add]
    refine k_put0 (g := g) (A := (fun q : Nat => M q ∨ s.heap.size ≤ q)) hx hb hts hown hK xo hL (Or.inl hM.1) (hts _ kw_57) (fun _ h9 => h9) d_BG_pack_109 (fun H3 locs xo3 hz hE3 hL => ?_)
    have hE3 : kE (fun q => q = x) H2 H3 := ⟨by omega, fun q _ hq => hE3 q hq⟩
    have iw3 := kInvW.putx (ib2 := ib + n) hK inv2 hE3 xo3
    obtain ⟨xo, al, am, hit, hbx, hM3, hne, hMI3, hMg3, hIl, hB, hn, hnb⟩ := id iw3
    have hE03 : kE M s.heap H3 := hE02.tr hE3 (fun q _ h => by rw [h]; exact hM.1)
    refine lv_aload_n hx hb d_BG_pack_112 rfl (lv_at hl 1 rfl) ?_
    refine va_get (D := g.1) (ci := 0) (v := .ref la) (C := "BoxGlue") (T := kT_BG) (N := 3) hx hb hts ki_BG hown hK (k_one xo) 0 rfl rfl 0 (by decide) (hts _ kw_55) (fun _ h9 => h9) rfl d_BG_pack_113 ?_
    refine k_call (A := (fun q : Nat => M q ∨ s.heap.size ≤ q)) (W.runV (As := []) (rest := []) ⟨hx, hb, hml, hown, hts⟩ (c_AL_clear l g H3 la larr lcap n el (fun _ => 0) al) (cwV 0 hts (kV_good kw_453 kw_450 kw_451 kw_452 kw_4) rfl rfl rfl (by decide +kernel) ⟨Nat.le_of_ble_eq_true rfl, Nat.le_of_ble_eq_true rfl⟩) (k_preV (KK_st g) hKK (kAL.recv ⟨_, _, al⟩ hK)) rfl rfl hl.1 rfl (lv_room (Nat.le_of_ble_eq_true rfl)) d_BG_pack_116 ⟨Nat.le_of_ble_eq_true rfl, Nat.le_of_ble_eq_true rfl⟩) hL (fun q h => by rcases h with h | h | h; rw [h]; exact Or.inl hM.2.1; rw [h.1]; exact Or.inl (hM.2.2.2.1 h.2); exact Or.inr (Nat.le_trans hE03.1 h)) (fun v H4 locs hv hL => ?_)
    obtain ⟨rfl, hE4, al4⟩ := hv
    obtain ⟨hEM4, N4, iw4, hN4⟩ := kInv.list hK xo al am hit hbx hM3 hne hMI3 hMg3 hIl hB hnb hE4 al4 (Or.inl ⟨rfl, rfl⟩) (its2 := its) (fun i hi => absurd hi (Nat.not_lt_zero i)) (by omega)
    have hNs : ∀ q, N q → M q ∨ s.heap.size ≤ q := fun q h => (hN q h).elim Or.inl (fun h => Or.inr (Nat.le_trans hE.1 h))
    have hE04 : kE M s.heap H4 := hE03.tr hEM4 (fun q hq h => (hNs q h).elim id (fun h => absurd hq (by omega)))
    obtain ⟨xo, al, am, -⟩ := id iw4
    refine lv_aload_n hx hb d_BG_pack_119 rfl (lv_at hl 1 rfl) ?_
    refine va_get (D := g.1) (ci := 0) (v := .ref ma) (C := "BoxGlue") (T := kT_BG) (N := 3) hx hb hts ki_BG hown hK (k_one xo) 0 rfl rfl 1 (by decide) (hts _ kw_56) (fun _ h9 => h9) rfl d_BG_pack_120 ?_
    refine k_pure (r := .int (nI (nb + 1))) (W.runV (As := []) (rest := []) ⟨hx, hb, hml, hown, hts⟩ (c_AL_size l g H4 ma (nb + 1) (va_up bel nb bq) ⟨_, _, am⟩) (cwV 0 hts (kV_good kw_76 kw_73 kw_74 kw_75 kw_4) rfl rfl rfl (by decide +kernel) ⟨Nat.le_of_ble_eq_true rfl, Nat.le_of_ble_eq_true rfl⟩) (k_preV (KK_st g) hKK (kAL.recv ⟨_, _, am⟩ hK)) rfl rfl hl.1 rfl (lv_room (Nat.le_of_ble_eq_true rfl)) d_BG_pack_123 ⟨Nat.le_of_ble_eq_true rfl, Nat.le_of_ble_eq_true rfl⟩) ?_
    refine lv_iconst (v := 1) hx hb d_BG_pack_126 (by decide) ?_
    refine lv_isub hx hb d_BG_pack_127 ?_
    rw [nI_pred]
    exact W.iret (v := nI nb) hx hb hr (fun t ht hW => ⟨_, rfl, rfl, by rw [ht]; exact hE04, (fun q => I q ∨ q = bq ∨ q = fq ∨ q = cq ∨ (q = arr ∧ 0 < cap) ∨ ∃ i, i < n ∧ q = pel i), N4, by rw [ht, ← hLe]; exact iw4.inv, fun q h => (hN4 q h).elim (hNs q) (fun h => Or.inr (Nat.le_trans hE03.1 h)), fun q h => by rcases h with h | h | h | h | h | ⟨i, hi, h⟩; exact Or.inl h; rw [h]; exact Or.inr g1; rw [h]; exact Or.inr g2; rw [h]; exact Or.inr g3; rw [h.1]; exact Or.inr (g4 h.2); rw [h]; exact Or.inr (hpl i hi).1⟩) hL d_BG_pack_128
  · skip
    refine lv_iload_n hx hb d_BG_pack_0 rfl (lv_at hl 1 rfl) ?_
    refine lv_iconst (v := (-1)) hx hb d_BG_pack_1 (by decide) ?_
    refine lv_icmp_lt (tgt := 11) hx hb d_BG_pack_2 (by decide) (fun c_1 => ?_) (fun c_1 => ?_)
    · exact absurd c_1 hr1
    refine lv_iload_n hx hb d_BG_pack_5 rfl (lv_at hl 1 rfl) ?_
    refine lv_ldc (own := "BoxGlue") (index := 102) (v := 1000000) hx hb hown (hts _ kw_350) d_BG_pack_6 ?_
    refine lv_icmp_le (tgt := 13) hx hb d_BG_pack_8 (by decide) (fun c_2 => ?_) (fun c_2 => ?_)
    rotate_left
    · exact absurd c_2 (fun q => q hr2)
    refine lv_aload_n hx hb d_BG_pack_13 rfl (lv_at hl 0 rfl) ?_
    refine va_get (D := g.1) (ci := 0) (v := .ref la) (C := "BoxGlue") (T := kT_BG) (N := 3) hx hb hts ki_BG hown hK (k_one xo) 0 rfl rfl 0 (by decide) (hts _ kw_55) (fun _ h9 => h9) rfl d_BG_pack_14 ?_
    refine k_pure (r := .int (l_len its n)) (W.runS (As := [.ref la]) (rest := []) ⟨hx, hb, hml, hown, hts⟩ (c_Fit_lengthOf l g s.heap I la n el its ⟨_, _, al⟩ hit) (va_cwS 1 hts (kS_good kw_353 kw_351 kw_352 kw_7) rfl rfl rfl (by decide +kernel) ⟨Nat.le_of_ble_eq_true rfl, Nat.le_of_ble_eq_true rfl⟩) (k_pre (KK_st g) hKK) rfl rfl hl.1 rfl (lv_room (Nat.le_of_ble_eq_true rfl)) d_BG_pack_17 ⟨Nat.zero_le _, Nat.zero_le _⟩) ?_
    refine lv_istore_n (lv' := [(2, .int (l_len its n)), (0, .ref x), (1, .int p0)]) hx hb d_BG_pack_20 rfl hl (by decide) rfl (fun ls hl => ?_)
    refine lv_iload_n hx hb d_BG_pack_21 rfl (lv_at hl 2 rfl) ?_
    refine lv_iconst (v := (-1)) hx hb d_BG_pack_22 (by decide) ?_
    refine lv_icmp_ne (tgt := 34) hx hb d_BG_pack_23 (by decide) (fun c_3 => ?_) (fun c_3 => ?_)
    rotate_left
    · exact absurd c_3 hp
    refine lv_aload_n hx hb d_BG_pack_34 rfl (lv_at hl 1 rfl) ?_
    refine va_get (D := g.1) (ci := 0) (v := .ref ma) (C := "BoxGlue") (T := kT_BG) (N := 3) hx hb hts ki_BG hown hK (k_one xo) 0 rfl rfl 1 (by decide) (hts _ kw_56) (fun _ h9 => h9) rfl d_BG_pack_35 ?_
    refine k_pure (r := .int (nI nb)) (W.runV (As := []) (rest := []) ⟨hx, hb, hml, hown, hts⟩ (c_AL_size l g s.heap ma nb bel ⟨_, _, am⟩) (cwV 0 hts (kV_good kw_76 kw_73 kw_74 kw_75 kw_4) rfl rfl rfl (by decide +kernel) ⟨Nat.le_of_ble_eq_true rfl, Nat.le_of_ble_eq_true rfl⟩) (k_preV (KK_st g) hKK (kAL.recv ⟨_, _, am⟩ hK)) rfl rfl hl.1 rfl (lv_room (Nat.le_of_ble_eq_true rfl)) d_BG_pack_38 ⟨Nat.zero_le _, Nat.zero_le _⟩) ?_
    refine lv_bipush (v := 60) hx hb d_BG_pack_41 (by decide) ?_
    refine lv_icmp_ge (tgt := 64) hx hb d_BG_pack_43 (by decide) (fun c_4 => ?_) (fun c_4 => ?_)
    · exact absurd c_4 (by rw [show (60 : Int32) = nI 60 from rfl]; exact nI_ge h60 (by decide))
    refine lv_aload_n hx hb d_BG_pack_46 rfl (lv_at hl 1 rfl) ?_
    refine va_get (D := g.1) (ci := 0) (v := .int (nI ib)) (C := "BoxGlue") (T := kT_BG) (N := 3) hx hb hts ki_BG hown hK (k_one xo) 0 rfl rfl 2 (by decide) (hts _ kw_57) (fun _ h9 => h9) rfl d_BG_pack_47 ?_
    refine lv_aload_n hx hb d_BG_pack_50 rfl (lv_at hl 1 rfl) ?_
    refine va_get (D := g.1) (ci := 0) (v := .ref la) (C := "BoxGlue") (T := kT_BG) (N := 3) hx hb hts ki_BG hown hK (k_one xo) 0 rfl rfl 0 (by decide) (hts _ kw_55) (fun _ h9 => h9) rfl d_BG_pack_51 ?_
    refine k_pure (r := .int (nI n)) (W.runV (As := []) (rest := [.int (nI ib)]) ⟨hx, hb, hml, hown, hts⟩ (c_AL_size l g s.heap la n el ⟨_, _, al⟩) (cwV 0 hts (kV_good kw_76 kw_73 kw_74 kw_75 kw_4) rfl rfl rfl (by decide +kernel) ⟨Nat.le_of_ble_eq_true rfl, Nat.le_of_ble_eq_true rfl⟩) (k_preV (KK_st g) hKK (kAL.recv ⟨_, _, al⟩ hK)) rfl rfl hl.1 rfl (lv_room (Nat.le_of_ble_eq_true rfl)) d_BG_pack_54 ⟨Nat.zero_le _, Nat.zero_le _⟩) ?_
    refine lv_iadd hx hb d_BG_pack_57 ?_
    rw [nI_add]
    refine lv_sipush (v := 300) hx hb d_BG_pack_58 (by decide) ?_
    refine lv_icmp_le (tgt := 67) hx hb d_BG_pack_61 (by decide) (fun c_5 => ?_) (fun c_5 => ?_)
    rotate_left
    · exact absurd c_5 (fun q => q (by rw [show (300 : Int32) = nI 300 from rfl]; exact nI_le h300 (by decide)))
    refine lv_aload_n hx hb d_BG_pack_67 rfl (lv_at hl 1 rfl) ?_
    refine va_get (D := g.1) (ci := 0) (v := .ref ma) (C := "BoxGlue") (T := kT_BG) (N := 3) hx hb hts ki_BG hown hK (k_one xo) 0 rfl rfl 1 (by decide) (hts _ kw_56) (fun _ h9 => h9) rfl d_BG_pack_68 ?_
    refine lv_aload_n hx hb d_BG_pack_71 rfl (lv_at hl 1 rfl) ?_
    refine va_get (D := g.1) (ci := 0) (v := .ref la) (C := "BoxGlue") (T := kT_BG) (N := 3) hx hb hts ki_BG hown hK (k_one xo) 0 rfl rfl 0 (by decide) (hts _ kw_55) (fun _ h9 => h9) rfl d_BG_pack_72 ?_
    refine lv_iload_n hx hb d_BG_pack_75 rfl (lv_at hl 2 rfl) ?_
    refine lv_iconst (v := (-1)) hx hb d_BG_pack_76 (by decide) ?_
    refine lv_icmp_ne (tgt := 88) hx hb d_BG_pack_77 (by decide) (fun c_6 => ?_) (fun c_6 => ?_)
    rotate_left
    · exact absurd c_6 hp
    refine lv_iload_n hx hb d_BG_pack_88 rfl (lv_at hl 2 rfl) ?_
    refine lv_topi (fun L hLe => ?_)
    have hLe : L = (pk_L p0 (l_len its n)) := by rw [hLe]; unfold pk_L; rw [if_neg hp]
    refine k_call (A := (fun q : Nat => M q ∨ s.heap.size ≤ q)) (W.runS (As := [.ref la, .int L]) (rest := [.ref ma]) ⟨hx, hb, hml, hown, hts⟩ (c_Box_packed l g s.heap I la n el its L hB hn ⟨_, _, al⟩ hit) (va_cwS 2 hts (kS_good kw_360 kw_358 kw_359 kw_6) rfl rfl rfl (by decide +kernel) ⟨Nat.le_of_ble_eq_true rfl, Nat.le_of_ble_eq_true rfl⟩) (k_pre (KK_st g) hKK) rfl rfl hl.1 rfl (lv_room (Nat.le_of_ble_eq_true rfl)) d_BG_pack_89 ⟨Nat.le_of_ble_eq_true rfl, Nat.le_of_ble_eq_true rfl⟩) (fun _ h => by cases h) (fun q h => Or.inr h) (fun v H locs hv hL => ?_)
    obtain ⟨bq, fq, cq, arr, cap, pel, rfl, g1, g2, g3, g4, hE, bo, fo, co, hpl⟩ := hv
    have iw := kInvW.more (⟨xo, al, am, hit, hbx, hM, hne, hMI, hMg, hIl, hB, hn, hnb⟩ : kInvW g I M x n its nb bs ib la larr lcap ma marr mcap el bel s.heap) hE (J := fun q => I q ∨ q = bq ∨ q = fq ∨ q = cq ∨ (q = arr ∧ 0 < cap) ∨ ∃ i, i < n ∧ q = pel i) (fun q h => Or.inl h) (fun q h => by rcases h with h | rfl | rfl | rfl | ⟨rfl, hc⟩ | ⟨i, hi, rfl⟩; exact Or.inl h; exact Or.inr ⟨g1, bo.lt⟩; exact Or.inr ⟨g2, fo.lt⟩; exact Or.inr ⟨g3, (kALx.lalt co)⟩; exact Or.inr ⟨g4 hc, co.arrlt hc⟩; exact Or.inr ⟨(hpl i hi).1, (hpl i hi).2.lt⟩)
    obtain ⟨xo, al, am, hit, hbx, hM, hne, hMI, hMg, hIl, hB, hn, hnb⟩ := iw
    have hbn : kBox g (fun q => I q ∨ q = bq ∨ q = fq ∨ q = cq ∨ (q = arr ∧ 0 < cap) ∨ ∃ i, i < n ∧ q = pel i) bq (bxp its n L) H := ⟨Or.inr (Or.inl rfl), cq, fq, arr, cap, pel, bo, Or.inr (Or.inr (Or.inl rfl)), fo, Or.inr (Or.inr (Or.inr (Or.inl rfl))), fun h => Or.inr (Or.inr (Or.inr (Or.inr (Or.inl ⟨rfl, h⟩)))), co, fun i hi => ⟨Or.inr (Or.inr (Or.inr (Or.inr (Or.inr ⟨i, hi, rfl⟩)))), el i, (hpl i hi).2, hit i hi⟩⟩
    refine k_call (A := (fun q : Nat => M q ∨ s.heap.size ≤ q)) (W.runV (As := [.ref bq]) (rest := []) ⟨hx, hb, hml, hown, hts⟩ (c_AL_add l g H ma marr mcap nb bq bel hB am (hMg ma hM.2.2.1).1 (by omega) (fun i hi => (hbx i hi).obj) hbn.obj) (cwV 1 hts (kV_good kw_135 kw_132 kw_133 kw_134 kw_4) rfl rfl rfl (by decide +kernel) ⟨Nat.le_of_ble_eq_true rfl, Nat.le_of_ble_eq_true rfl⟩) (k_preV (KK_st g) hKK (kAL.recv ⟨_, _, am⟩ hK)) rfl rfl hl.1 rfl (lv_room (Nat.le_of_ble_eq_true rfl)) d_BG_pack_92 ⟨Nat.le_of_ble_eq_true rfl, Nat.le_of_ble_eq_true rfl⟩) hL (fun q h => by rcases h with h | h | h; rw [h]; exact Or.inl hM.2.2.1; rw [h.1]; exact Or.inl (hM.2.2.2.2 h.2); exact Or.inr (Nat.le_trans hE.1 h)) (fun v H2 locs hv hL => ?_)
    obtain ⟨rfl, arr2, cap2, hE2, h4, am2⟩ := hv
    have hA2 : ∀ q, (q = ma ∨ (q = marr ∧ 0 < mcap)) → M q := fun q h => by rcases h with h | h; rw [h]; exact hM.2.2.1; rw [h.1]; exact hM.2.2.2.2 h.2
    have hbx2 : ∀ i, i < nb + 1 → kBox g (fun q => I q ∨ q = bq ∨ q = fq ∨ q = cq ∨ (q = arr ∧ 0 < cap) ∨ ∃ i, i < n ∧ q = pel i) (va_up bel nb bq i) (va_up bs nb (bxp its n L) i) H2 := by
      intro i hi
      by_cases e : i = nb
      · subst e; rw [va_up_self, va_up_self]; exact hbn.kept (fun _ h => h) (fun q hq hl => hE2.2 q hl (fun h => hMI q (hA2 q h) hq))
      · rw [va_up_ne _ _ e, va_up_ne _ _ e]; exact (hbx i (by omega)).kept (fun _ h => h) (fun q hq hl => hE2.2 q hl (fun h => hMI q (hA2 q h) hq))
    obtain ⟨hEM, N, inv2, hN⟩ := kInv.made hK xo al am hit hbx hM hne hMI hMg hIl hB hn hE2 am2 h4 hbx2 (by omega)
    have xo := hE2.at xo (am.apartX hK xo)
    obtain ⟨xo, al, am, hit, hbx, hM2, hne, hMI2, hMg2, hIl, hB, hn, hnb⟩ := id inv2
    have hE02 : kE M s.heap H2 := (hE.wk (fun _ _ h => h.elim)).tr hEM (fun _ _ h => h)
    refine lv_pop hx hb d_BG_pack_95 rfl ?_
    refine lv_aload_n hx hb d_BG_pack_96 rfl (lv_at hl 1 rfl) ?_
    refine lv_dup hx hb d_BG_pack_97 rfl ?_
    refine va_get (D := g.1) (ci := 0) (v := .int (nI ib)) (C := "BoxGlue") (T := kT_BG) (N := 3) hx hb hts ki_BG hown hK (k_one xo) 0 rfl rfl 2 (by decide) (hts _ kw_57) (fun _ h9 => h9) rfl d_BG_pack_98 ?_
    refine lv_aload_n hx hb d_BG_pack_101 rfl (lv_at hl 1 rfl) ?_
    refine va_get (D := g.1) (ci := 0) (v := .ref la) (C := "BoxGlue") (T := kT_BG) (N := 3) hx hb hts ki_BG hown hK (k_one xo) 0 rfl rfl 0 (by decide) (hts _ kw_55) (fun _ h9 => h9) rfl d_BG_pack_102 ?_
    refine k_pure (r := .int (nI n)) (W.runV (As := []) (rest := [.int (nI ib), .ref x]) ⟨hx, hb, hml, hown, hts⟩ (c_AL_size l g H2 la n el ⟨_, _, al⟩) (cwV 0 hts (kV_good kw_76 kw_73 kw_74 kw_75 kw_4) rfl rfl rfl (by decide +kernel) ⟨Nat.le_of_ble_eq_true rfl, Nat.le_of_ble_eq_true rfl⟩) (k_preV (KK_st g) hKK (kAL.recv ⟨_, _, al⟩ hK)) rfl rfl hl.1 rfl (lv_room (Nat.le_of_ble_eq_true rfl)) d_BG_pack_105 ⟨Nat.le_of_ble_eq_true rfl, Nat.le_of_ble_eq_true rfl⟩) ?_
    refine lv_iadd hx hb d_BG_pack_108 ?_
    rw [nI_add]
    refine k_put0 (g := g) (A := (fun q : Nat => M q ∨ s.heap.size ≤ q)) hx hb hts hown hK xo hL (Or.inl hM.1) (hts _ kw_57) (fun _ h9 => h9) d_BG_pack_109 (fun H3 locs xo3 hz hE3 hL => ?_)
    have hE3 : kE (fun q => q = x) H2 H3 := ⟨by omega, fun q _ hq => hE3 q hq⟩
    have iw3 := kInvW.putx (ib2 := ib + n) hK inv2 hE3 xo3
    obtain ⟨xo, al, am, hit, hbx, hM3, hne, hMI3, hMg3, hIl, hB, hn, hnb⟩ := id iw3
    have hE03 : kE M s.heap H3 := hE02.tr hE3 (fun q _ h => by rw [h]; exact hM.1)
    refine lv_aload_n hx hb d_BG_pack_112 rfl (lv_at hl 1 rfl) ?_
    refine va_get (D := g.1) (ci := 0) (v := .ref la) (C := "BoxGlue") (T := kT_BG) (N := 3) hx hb hts ki_BG hown hK (k_one xo) 0 rfl rfl 0 (by decide) (hts _ kw_55) (fun _ h9 => h9) rfl d_BG_pack_113 ?_
    refine k_call (A := (fun q : Nat => M q ∨ s.heap.size ≤ q)) (W.runV (As := []) (rest := []) ⟨hx, hb, hml, hown, hts⟩ (c_AL_clear l g H3 la larr lcap n el (fun _ => 0) al) (cwV 0 hts (kV_good kw_453 kw_450 kw_451 kw_452 kw_4) rfl rfl rfl (by decide +kernel) ⟨Nat.le_of_ble_eq_true rfl, Nat.le_of_ble_eq_true rfl⟩) (k_preV (KK_st g) hKK (kAL.recv ⟨_, _, al⟩ hK)) rfl rfl hl.1 rfl (lv_room (Nat.le_of_ble_eq_true rfl)) d_BG_pack_116 ⟨Nat.le_of_ble_eq_true rfl, Nat.le_of_ble_eq_true rfl⟩) hL (fun q h => by rcases h with h | h | h; rw [h]; exact Or.inl hM.2.1; rw [h.1]; exact Or.inl (hM.2.2.2.1 h.2); exact Or.inr (Nat.le_trans hE03.1 h)) (fun v H4 locs hv hL => ?_)
    obtain ⟨rfl, hE4, al4⟩ := hv
    obtain ⟨hEM4, N4, iw4, hN4⟩ := kInv.list hK xo al am hit hbx hM3 hne hMI3 hMg3 hIl hB hnb hE4 al4 (Or.inl ⟨rfl, rfl⟩) (its2 := its) (fun i hi => absurd hi (Nat.not_lt_zero i)) (by omega)
    have hNs : ∀ q, N q → M q ∨ s.heap.size ≤ q := fun q h => (hN q h).elim Or.inl (fun h => Or.inr (Nat.le_trans hE.1 h))
    have hE04 : kE M s.heap H4 := hE03.tr hEM4 (fun q hq h => (hNs q h).elim id (fun h => absurd hq (by omega)))
    obtain ⟨xo, al, am, -⟩ := id iw4
    refine lv_aload_n hx hb d_BG_pack_119 rfl (lv_at hl 1 rfl) ?_
    refine va_get (D := g.1) (ci := 0) (v := .ref ma) (C := "BoxGlue") (T := kT_BG) (N := 3) hx hb hts ki_BG hown hK (k_one xo) 0 rfl rfl 1 (by decide) (hts _ kw_56) (fun _ h9 => h9) rfl d_BG_pack_120 ?_
    refine k_pure (r := .int (nI (nb + 1))) (W.runV (As := []) (rest := []) ⟨hx, hb, hml, hown, hts⟩ (c_AL_size l g H4 ma (nb + 1) (va_up bel nb bq) ⟨_, _, am⟩) (cwV 0 hts (kV_good kw_76 kw_73 kw_74 kw_75 kw_4) rfl rfl rfl (by decide +kernel) ⟨Nat.le_of_ble_eq_true rfl, Nat.le_of_ble_eq_true rfl⟩) (k_preV (KK_st g) hKK (kAL.recv ⟨_, _, am⟩ hK)) rfl rfl hl.1 rfl (lv_room (Nat.le_of_ble_eq_true rfl)) d_BG_pack_123 ⟨Nat.le_of_ble_eq_true rfl, Nat.le_of_ble_eq_true rfl⟩) ?_
    refine lv_iconst (v := 1) hx hb d_BG_pack_126 (by decide) ?_
    refine lv_isub hx hb d_BG_pack_127 ?_
    rw [nI_pred]
    exact W.iret (v := nI nb) hx hb hr (fun t ht hW => ⟨_, rfl, rfl, by rw [ht]; exact hE04, (fun q => I q ∨ q = bq ∨ q = fq ∨ q = cq ∨ (q = arr ∧ 0 < cap) ∨ ∃ i, i < n ∧ q = pel i), N4, by rw [ht, ← hLe]; exact iw4.inv, fun q h => (hN4 q h).elim (hNs q) (fun h => Or.inr (Nat.le_trans hE03.1 h)), fun q h => by rcases h with h | h | h | h | h | ⟨i, hi, h⟩; exact Or.inl h; rw [h]; exact Or.inr g1; rw [h]; exact Or.inr g2; rw [h]; exact Or.inr g3; rw [h.1]; exact Or.inr (g4 h.2); rw [h]; exact Or.inr (hpl i hi).1⟩) hL d_BG_pack_128

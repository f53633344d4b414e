/-! contracts over named heaps: a callee starts at the heap H0, which is a parameter; what it finds there are premises of its contract -/
def kPc (av : List Value) (K : State → Prop) (H0 : Heap) : Array Value → State → Prop := fun v U => v = av.toArray ∧ U.heap = H0 ∧ K U
def kQc (Rr : Option Value → Heap → Prop) : Array Value → State → Outcome → State → Prop := fun _ _ o t => ∃ v, o = .returned v ∧ Rr v t.heap
def kPure (r : Value) (H0 : Heap) : Option Value → Heap → Prop := fun v H1 => v = some r ∧ H1 = H0
def kSt (K : State → Prop) : Prop := ∀ u U : State, u.vm.Alike U.vm → K u → K U
/-- cells outside A are as they were -/
def kE (A : Nat → Prop) (H0 H1 : Heap) : Prop := H0.size ≤ H1.size ∧ ∀ q : Nat, q < H0.size → ¬ A q → H1[q]? = H0[q]?
theorem kE.rf {A : Nat → Prop} {H : Heap} : kE A H H := ⟨Nat.le_refl _, fun _ _ _ => rfl⟩
theorem kE.tr {A B : Nat → Prop} {H0 H1 H2 : Heap} (h : kE A H0 H1) (g : kE B H1 H2) (hB : ∀ q, q < H0.size → B q → A q) : kE A H0 H2 :=
  ⟨Nat.le_trans h.1 g.1, fun q h1 h2 => (g.2 q (Nat.lt_of_lt_of_le h1 h.1) (fun z => h2 (hB q h1 z))).trans (h.2 q h1 h2)⟩
theorem kE.wk {A B : Nat → Prop} {H0 H1 : Heap} (h : kE A H0 H1) (hA : ∀ q, q < H0.size → A q → B q) : kE B H0 H1 := ⟨h.1, fun q h1 h2 => h.2 q h1 (fun z => h2 (hA q h1 z))⟩
theorem kE.ofS {A : Nat → Prop} {H0 H1 : Heap} {locs : List Loc} (h : va_S A H0 H1 locs) : kE A H0 H1 := ⟨h.1, h.2.1⟩
theorem kE.S {A : Nat → Prop} {H0 H1 : Heap} {locs : List Loc} (h : kE A H0 H1) (hL : ∀ q ∈ locs, A q.base) : va_S A H0 H1 locs := ⟨h.1, h.2, hL⟩
theorem kE.at {A : Nat → Prop} {H0 H1 : Heap} {D : va_G} {cl : List vw_C} {q : Nat × va_E} (h : kE A H0 H1) (ho : va_at D cl q H0) (hq : ¬ A q.1) : va_at D cl q H1 := ho.kept (h.2 q.1 ho.lt hq)
theorem k_one {D : va_G} {cl : List vw_C} {q : Nat × va_E} {H : Heap} (h : va_at D cl q H) : va_P D cl [q] H := by
  intro k x hx
  match k, hx with
  | 0, hx => cases hx; exact h
  | k + 1, hx => simp at hx
theorem k_two {D : va_G} {cl : List vw_C} {q r : Nat × va_E} {H : Heap} (h : va_at D cl q H) (h2 : va_at D cl r H) : va_P D cl [q, r] H := by
  intro k x hx
  match k, hx with
  | 0, hx => cases hx; exact h
  | 1, hx => cases hx; exact h2
  | k + 2, hx => simp at hx
theorem k_D1 {A : Nat → Prop} {q : Nat × va_E} (h : A q.1) : va_D A [q] := by
  refine ⟨fun i j x y hi hj _ => ?_, fun k x hx => ?_⟩
  · match i, j, hi, hj with
    | 0, 0, _, _ => rfl
    | i + 1, _, hi, _ => simp at hi
    | 0, j + 1, _, hj => simp at hj
  · match k, hx with
    | 0, hx => cases hx; exact h
    | k + 1, hx => simp at hx
theorem k_D2 {A : Nat → Prop} {q r : Nat × va_E} (h : A q.1) (h2 : A r.1) (hn : q.1 ≠ r.1) : va_D A [q, r] := by
  refine ⟨fun i j x y hi hj e => ?_, fun k x hx => ?_⟩
  · match i, j, hi, hj with
    | 0, 0, _, _ => rfl
    | 1, 1, _, _ => rfl
    | 0, 1, hi, hj => cases hi; cases hj; exact absurd e hn
    | 1, 0, hi, hj => cases hi; cases hj; exact absurd e.symm hn
    | i + 2, _, hi, _ => simp at hi
    | 0, j + 2, _, hj => simp at hj
    | 1, j + 2, _, hj => simp at hj
  · match k, hx with
    | 0, hx => cases hx; exact h
    | 1, hx => cases hx; exact h2
    | k + 2, hx => simp at hx
theorem k_three {D : va_G} {cl : List vw_C} {q r z : Nat × va_E} {H : Heap} (h : va_at D cl q H) (h2 : va_at D cl r H) (h3 : va_at D cl z H) : va_P D cl [q, r, z] H := by
  intro k x hx
  match k, hx with
  | 0, hx => cases hx; exact h
  | 1, hx => cases hx; exact h2
  | 2, hx => cases hx; exact h3
  | k + 3, hx => simp at hx
theorem k_D3 {A : Nat → Prop} {q r z : Nat × va_E} (h : A q.1) (h2 : A r.1) (h3 : A z.1) (n1 : q.1 ≠ r.1) (n2 : q.1 ≠ z.1) (n3 : r.1 ≠ z.1) : va_D A [q, r, z] := by
  refine ⟨fun i j x y hi hj e => ?_, fun k x hx => ?_⟩
  · match i, j, hi, hj with
    | 0, 0, _, _ => rfl
    | 1, 1, _, _ => rfl
    | 2, 2, _, _ => rfl
    | 0, 1, hi, hj => cases hi; cases hj; exact absurd e n1
    | 1, 0, hi, hj => cases hi; cases hj; exact absurd e.symm n1
    | 0, 2, hi, hj => cases hi; cases hj; exact absurd e n2
    | 2, 0, hi, hj => cases hi; cases hj; exact absurd e.symm n2
    | 1, 2, hi, hj => cases hi; cases hj; exact absurd e n3
    | 2, 1, hi, hj => cases hi; cases hj; exact absurd e.symm n3
    | i + 3, _, hi, _ => simp at hi
    | 0, j + 3, _, hj => simp at hj
    | 1, j + 3, _, hj => simp at hj
    | 2, j + 3, _, hj => simp at hj
  · match k, hx with
    | 0, hx => cases hx; exact h
    | 1, hx => cases hx; exact h2
    | 2, hx => cases hx; exact h3
    | k + 3, hx => simp at hx
theorem k_blind {av : List Value} {K : State → Prop} {H0 : Heap} (hK : kSt K) : FrameBlind (kPc av K H0) := fun a U g mk q => ⟨q.1, q.2.1, hK U (U.calling g mk a) (Vm.Alike.refl U.vm) q.2.2⟩
theorem k_pre {s : State} {H : Heap} {K : State → Prop} {av : List Value} (hK : kSt K) (hs : K s) : PreS s H (kPc av K H) av := ⟨k_blind hK, fun U hU hW => ⟨rfl, hU, hK s U hW.alike hs⟩⟩
theorem k_preV {s : State} {H : Heap} {C : String} {b : Addr} {K : State → Prop} {As : List Value} (hK : kSt K) (hs : K s) (hr : ∃ cell : Cell, H[b]? = some cell ∧ cell.vm.isStatics = false ∧ s.vm.findClass C = some cell.cls) : PreV s H C b (kPc (.ref b :: As) K H) As :=
  ⟨k_blind hK, hr, fun U hU hW => ⟨rfl, hU, hK s U hW.alike hs⟩⟩
section KB
variable {p : Program} {l : Launch} {e : Env} {R : Room} {s : State} {m : MethodId} {args : Array Value} {below : List Frame} {meth : Method} {c : Code} {H : Heap} {locs : List Loc} {cells slots : Nat} {Q : State → Prop}
variable {pc : Nat} {ls : Array Slot} {rest st0 : List Value} {a : Array Value} {A : Nat → Prop} {mc ms : Nat} {free : Addr → Prop}
/-- a call that answers r and leaves the heap -/
theorem k_pure {r : Value} (hr : CallRun p l e R s m args below meth c H locs cells slots 0 0 (F0 m pc ls st0) rest (kQc (kPure r H) a) (fun _ => False))
    (kk : W p l e R s m args below meth c H locs cells slots Q (F0 m (pc + 3) ls (r :: rest))) : W p l e R s m args below meth c H locs cells slots Q (F0 m pc ls st0) := by
  intro T hT X
  obtain ⟨v, st₀, t, T', L, h0, X', hL, e1, ⟨v', hv, hp, hh⟩, st⟩ := hr T hT X
  cases hv
  subst hp
  obtain ⟨t2, a1, b1⟩ := kk T' (by rw [e1, hh]) (Stand.forget X' (fun q h => (hL q h).elim))
  exact ⟨t2, st t2 a1, b1⟩
/-- any other call -/
theorem k_call {Rr : Option Value → Heap → Prop} (hr : CallRun p l e R s m args below meth c H locs cells slots mc ms (F0 m pc ls st0) rest (kQc Rr a) free) (hL : ∀ q ∈ locs, A q.base) (hf : ∀ q, free q → A q)
    (kk : ∀ (v : Option Value) (H1 : Heap) (locs1 : List Loc), Rr v H1 → (∀ q ∈ locs1, A q.base) → W p l e R s m args below meth c H1 locs1 (cells + mc) (slots + ms) Q (F0 m (pc + 3) ls (v.toList ++ rest))) : W p l e R s m args below meth c H locs cells slots Q (F0 m pc ls st0) := by
  intro T hT X
  obtain ⟨v, st₀, t, T', L, h0, X', hL', e1, ⟨v', hv, hp⟩, st⟩ := hr T hT X
  cases hv
  obtain ⟨t2, a1, b1⟩ := kk v T'.heap (locs ++ L) (by rw [e1]; exact hp) (t_lL hL (fun q hq => hf _ (hL' q hq))) T' rfl X'
  exact ⟨t2, st t2 a1, b1⟩
/-- a constructor called over a deeper stack -/
theorem k_runI {y : MethodName} {bytes cc : ByteArray} {maxL nL n index : Nat} {ws : List Cond} {rm : Room} {Pc : Array Value → State → Prop} {Qc : Array Value → State → Outcome → State → Prop} {Ts : List Cond} {own : String} {b : Addr} {As : List Value} {g : JFrame}
    (S : CallFix p m c cc nL s args Ts own) (hM : Met l y ws rm Pc Qc mc ms free) (cw : CallB R s args own index y bytes maxL none ws rm mc ms n ∧ y.name = "<init>" ∧ (Cond.instanceMethod y).before args s = true) (hlo : 16 + (maxL + 11) + rm.locals ≤ R.locals) (hp : PreS s H Pc (.ref b :: As))
    (hg : g.method = m) (hn : As.length = n) (hsize : g.locals.size = nL) (hstack : g.stack = As.reverse ++ .ref b :: rest) (hW : 2 * g.monitorRoom + (rest.map fun v => v.category).sum ≤ 16) (hdg : decode cc g.pc = .ok (.invokespecial index, 3)) (hf : cells + mc ≤ R.cells ∧ slots + ms ≤ R.slots) :
    CallRun p l e R s m args below meth c H locs cells slots mc ms g rest (Qc (Value.ref b :: As).toArray) (free) := by
  obtain ⟨⟨hrc, hrs, hfr, -, hws, hcw, hcode, hini, hy, hlen, hl⟩, hy1, hin⟩ := cw
  have hK : Back l R p e below s args y 3 16 (PreOf R mc ms Pc) (PostOf Qc mc ms free) := back_of (bytes := bytes) (maxL := maxL) (ret := none) hM hp.1 hrc hrs hfr hlo hws hcw (fun a' U hW => word_at hW (Or.inl (by first | rfl | simp [Cond.onTables, Cond.keeps, Cond.steady])) hini)
  obtain ⟨hx, hb, hml, ho, -⟩ := S
  intro T hT X
  obtain ⟨v, vm₁, ⟨U', l2, c2, s2⟩, hW₁, X', ⟨g', mk, t, L, e1, e2, hq, h1, hL, h2, h3⟩, st⟩ := callI X hx (bytes := bytes) (maxL := maxL) ho hy1 hl hin hcode hy hK hg (hsize.trans hml.symm) (a := b) (argsL := As) (rest := rest) (fun sig h => hn.trans (hlen sig h)) hstack hW (by rw [hb]; exact hdg)
    (fun vm₁ hW₁ => ⟨hf.1, hf.2, hp.2 (T.setVm vm₁) hT hW₁⟩)
  dsimp only [Pt.U, Pt.locs, Pt.cells, Pt.slots] at X' e1 e2 h1 h2 h3 st
  subst h1; subst h2; subst h3
  exact ⟨v, (T.setVm vm₁).calling g' mk (Value.ref b :: As).toArray, t, U', L, hT, X', hL, e1, hq, st⟩
theorem k_room {st : List Value} (h : (st.map fun v => v.category).sum ≤ 16) : 2 * (F0 m pc ls rest).monitorRoom + (st.map fun v => v.category).sum ≤ 16 := by
  show 2 * 0 + _ ≤ 16
  omega
/-- a new object: it lies behind all cells, and these stay -/
theorem k_new {cc : ByteArray} {D : va_G} {cl : List vw_C} {tys : List (ClassId × FieldType)} (hexec : p.tables.exec = Jvm.exec) (hb : c.code = cc) {own C : String} {T : u_T} {N ci index : Nat} {Ts : List Cond} (hts : ∀ w ∈ Ts, w.before args s = true) (hin : ∀ w ∈ u_ws C T N, w ∈ Ts) (ty : Nat → FieldType) (hty : ∀ k, k < N → parseFieldDescriptor (T k).2.2.1 = some (ty k)) (hown : s.vm.findClass own = some m.cls) (hcl : (Cond.classLink own index C).before args s = true) (hinst : (Cond.instantiable C N).before args s = true) (hini : (Cond.initialized C).before args s = true)
    (hK : va_K D cl tys s) (hc : cl[ci]? = some (C, T, N)) {fs : List Value} (hfs : ∀ j, j < N → defaultValue (ty j) = vp_V fs j) (hcells : cells + 1 ≤ R.cells) (hslots : slots + N ≤ R.slots) (hdg : decode cc pc = .ok (.new index, 3))
    (kk : ∀ (q : Nat) (H1 : Heap), q = H.size → va_at D cl (q, .inr (ci, fs)) H1 → kE (fun _ => False) H H1 → W p l e R s m args below meth c H1 locs (cells + 1) (slots + N) Q (F0 m (pc + 3) ls (.ref q :: rest))) : W p l e R s m args below meth c H locs cells slots Q (F0 m pc ls rest) := by
  have hKn := hK.1 ci _ hc
  refine W.newcK hexec hb hown hcl hinst hini rfl hdg hcells hslots hKn.2.1 rfl fun H1 kC hkC e1 z1 o1 => ?_
  exact kk H.size H1 rfl ⟨_, hc, (u_born ty hts hin hKn hkC e1 hty).to hfs⟩ ⟨by omega, fun q hq _ => o1 q hq⟩
end KB

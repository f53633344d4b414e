/-! THE CLAIM OUT OF ONE WALK OF THE LAW'S BODY. Your part is whole_start (and what it stands on); all else here is the same for every law, but numbers. -/
def R_law : String := "BoxGlueLaw"
def lw_P (b : Addr) (xs : List Int32) (args : Array Value) (s : State) : Prop := args = #[.ref b] ∧ s.IntsAt b xs ∧ xs.length ≤ 3072 ∧ (Jvm.Cond.and given_1 narrow_1).before args s = true
def lw_Q (_ : Array Value) (s : State) (o : Outcome) (t : State) : Prop := o = .returned (some (.int 1)) ∧ Framed s o t [] 600000 7302250
def lw_Z (below : List Frame) (a : Array Value) (s : State) : State → Prop := fun t => ∃ o, t.status = .running ∧ Ended t below o ∧ lw_Q a s o t
/-- the law's own end, with 1 on the stack, nothing written that was there before, its room as the claim has it -/
theorem lw_ret {p : Program} {l : Launch} {e : Env} {s : State} {m : MethodId} {below : List Frame} {meth : Method} {c : Code} {b : Nat} (hx : p.tables.exec = Jvm.exec) (hb : c.code = code) (hr : meth.sig.returnType = ret) (hlocks : meth.locks = false) {pc : Nat} {H : Heap} {ls : Array Slot} (hdg : decode code pc = .ok (.ireturn, 1)) : W p l e room_1 s m #[Value.ref b] below meth c H [] 600000 7302250 (lw_Z below #[Value.ref b] s) (F0 m pc ls [.int 1]) := by
  intro T hT X
  obtain ⟨fs, hret, hrun, hended, hW, hframe⟩ := X.leave (v := some (.int 1)) (hlocks := hlocks) (fun h => by rw [hr] at h; cases h)
  have hmeth' : T.vm.method? m = some meth := X.method'
  refine ⟨T.setFrames fs, ?_, .returned (some (.int 1)), hrun, hended, rfl, ⟨_, rfl⟩, hW, hframe⟩
  jvm_step X.here [X.here.top, hx, hb, hdg, hmeth', hr, ret, narrow_b1]
  (try refine ⟨rfl, ?_⟩); (try refine ⟨rfl, ?_⟩)
  first | (intro acts; rw [hret _ acts rfl rfl rfl]) | rw [hret _ _ rfl rfl rfl]
  exact Steps.refl _
/-- what holds at the law's entry: the machine, the code, the tables' words (any of lw_tbl by 'hts w (by decide +kernel)'), the script of L ints xs at the cell b, what the Statement gives of the start (any of its parts by flat_of_before) -/
def lw_At (p : Program) (s : State) (m : MethodId) (meth : Method) (c : Code) (b L : Nat) (xs : Nat → Int32) : Prop :=
  p.tables.exec = Jvm.exec ∧ c.code = code ∧ meth.sig.returnType = ret ∧ c.maxLocals = 4 ∧ s.vm.findClass R_law = some m.cls ∧ (∀ w ∈ lw_tbl, w.before #[Value.ref b] s = true) ∧ va_X b L xs s s.heap ∧ b < s.heap.size ∧ meth.locks = false ∧ (Jvm.Cond.and given_1 narrow_1).before #[Value.ref b] s = true
/-! the state of the law's loop -/
theorem kInv.ext {g : KGt} {I M A : Nat → Prop} {x n nb ib : Nat} {its : Nat → Nat → Int32} {bs : Nat → BxT} {H H1 : Heap} (h : kInv g I M x n its nb bs ib H) (hE : kE A H H1) (hA : ∀ q, A q → ¬ M q ∧ ¬ I q ∧ g.2.2.1.size ≤ q) : kInv g I M x n its nb bs ib H1 := by
  obtain ⟨la, larr, lcap, ma, marr, mcap, el, bel, xo, al, am, hit, hbx, hM, hne, hMI, hMg, hIl, hB, hn, hnb⟩ := h
  have aM : ∀ q, M q → ¬ A q := fun q hm ha => (hA q ha).1 hm
  have aI : ∀ q, I q → ¬ A q := fun q hm ha => (hA q ha).2.1 hm
  exact ⟨la, larr, lcap, ma, marr, mcap, el, bel, hE.at xo (aM _ hM.1), al.ext hE (aM _ hM.2.1) (fun hc => aM _ (hM.2.2.2.1 hc)), am.ext hE (aM _ hM.2.2.1) (fun hc => aM _ (hM.2.2.2.2 hc)), fun i hi => (hit i hi).kept (fun _ h => h) (fun q hq hl => hE.2 q hl (aI q hq)), fun i hi => (hbx i hi).kept (fun _ h => h) (fun q hq hl => hE.2 q hl (aI q hq)), hM, hne, hMI, fun q hm => ⟨(hMg q hm).1, Nat.lt_of_lt_of_le (hMg q hm).2 hE.1⟩, fun q hj => Nat.lt_of_lt_of_le (hIl q hj) hE.1, ⟨Nat.le_trans hB.1 hE.1, fun q hq h9 => (hE.2 q (Nat.lt_of_lt_of_le hq hB.1) (fun ha => by have := (hA q ha).2.2; omega)).trans (hB.2 q hq h9)⟩, hn, hnb⟩
theorem kInv.recv {g : KGt} {I M : Nat → Prop} {x n nb ib : Nat} {its : Nat → Nat → Int32} {bs : Nat → BxT} {H : Heap} {s : State} (h : kInv g I M x n its nb bs ib H) (hK : va_K g.1 kcl (kTy g) s) : ∃ cell : Cell, H[x]? = some cell ∧ cell.vm.isStatics = false ∧ s.vm.findClass "BoxGlue" = some cell.cls := by
  obtain ⟨la, larr, lcap, ma, marr, mcap, el, bel, xo, -⟩ := h
  exact va_recv hK (k_one xo) (ci := 0) (q0 := 0) rfl rfl
/-- class's cells and the reference's are apart, and behind the law's start -/
def lw_sep (s : State) (m0 : Nat) (ad : Nat → Nat) (I M : Nat → Prop) (H : Heap) : Prop := ∀ q, mA m0 ad q → ¬ M q ∧ ¬ I q ∧ s.heap.size ≤ q ∧ q < H.size
def lw_I (g : KGt) (s : State) (x m0 : Nat) (ad : Nat → Nat) (I M : Nat → Prop) (n : Nat) (its : Nat → Nat → Int32) (nb : Nat) (bs : Nat → BxT) (ib : Nat) (F : Nat → Nat → Int32) (G : Nat → Nat → Int64) (H : Heap) (locs : List Loc) : Prop :=
  kInv g I M x n its nb bs ib H ∧ kMod g m0 ad n ib nb F G H ∧ kRel n its nb bs ib F G ∧ lw_sep s m0 ad I M H ∧ ∀ q ∈ locs, s.heap.size ≤ q.base
theorem lw_S {g : KGt} {s : State} {I M : Nat → Prop} {x n nb ib : Nat} {its : Nat → Nat → Int32} {bs : Nat → BxT} {H : Heap} {locs : List Loc} (hg : g.2.2.1 = s.heap) (h : kInv g I M x n its nb bs ib H) (hL : ∀ q ∈ locs, s.heap.size ≤ q.base) : va_S (fun q : Nat => s.heap.size ≤ q) s.heap H locs := by
  obtain ⟨la, larr, lcap, ma, marr, mcap, el, bel, -, -, -, -, -, -, -, -, -, -, hB, -⟩ := h
  unfold kB at hB
  rw [hg] at hB
  exact ⟨hB.1, fun q hq _ => hB.2 q hq (fun h => h), hL⟩
theorem lw_fM {g : KGt} {s : State} {I M : Nat → Prop} {x n nb ib : Nat} {its : Nat → Nat → Int32} {bs : Nat → BxT} {H : Heap} (hg : g.2.2.1 = s.heap) (h : kInv g I M x n its nb bs ib H) : ∀ q : Nat, (M q ∨ H.size ≤ q) → s.heap.size ≤ q := by
  obtain ⟨la, larr, lcap, ma, marr, mcap, el, bel, -, -, -, -, -, -, -, -, hMg, -, hB, -⟩ := h
  unfold kB at hB
  rw [hg] at hB hMg
  intro q hq
  rcases hq with hq | hq
  · exact (hMg q hq).1
  · exact Nat.le_trans hB.1 hq
theorem lw_cls {g : KGt} {s : State} {m0 : Nat} {ad : Nat → Nat} {I M J N : Nat → Prop} {sz us bx : Nat} {F : Nat → Nat → Int32} {G : Nat → Nat → Int64} {H H1 : Heap} (hMd : kMod g m0 ad sz us bx F G H) (sep : lw_sep s m0 ad I M H) (hE : kE M H H1) (hN : ∀ q, N q → M q ∨ H.size ≤ q) (hJ : ∀ q, J q → I q ∨ H.size ≤ q) : kMod g m0 ad sz us bx F G H1 ∧ lw_sep s m0 ad J N H1 := by
  refine ⟨hMd.ext hE (fun q hq => (sep q hq).1), fun q hq => ?_⟩
  have w := sep q hq
  exact ⟨fun h => (hN q h).elim w.1 (fun h => by omega), fun h => (hJ q h).elim w.2.1 (fun h => by omega), w.2.2.1, Nat.lt_of_lt_of_le w.2.2.2 hE.1⟩
theorem lw_ref {g : KGt} {s : State} {I M : Nat → Prop} {x n nb ib m0 : Nat} {ad : Nat → Nat} {its : Nat → Nat → Int32} {bs : Nat → BxT} {H H1 : Heap} (hg : g.2.2.1 = s.heap) (inv : kInv g I M x n its nb bs ib H) (sep : lw_sep s m0 ad I M H) (hE : kE (mA m0 ad) H H1) : kInv g I M x n its nb bs ib H1 ∧ lw_sep s m0 ad I M H1 :=
  ⟨inv.ext hE (fun q hq => ⟨(sep q hq).1, (sep q hq).2.1, by rw [hg]; exact (sep q hq).2.2.1⟩), fun q hq => ⟨(sep q hq).1, (sep q hq).2.1, (sep q hq).2.2.1, Nat.lt_of_lt_of_le (sep q hq).2.2.2 hE.1⟩⟩
/-- a number is a box's, or none -/
theorem lw_ix {nb : Nat} (h : nb ≤ 60) (a : Int32) : (a < 0 ∨ nI nb ≤ a) ∨ ∃ k, k < nb ∧ a = nI k := by
  by_cases h0 : a < 0
  · exact Or.inl (Or.inl h0)
  · obtain ⟨j, hj, rfl⟩ := nI_of h0
    rcases Nat.lt_or_ge j nb with q | q
    · exact Or.inr ⟨j, q, rfl⟩
    · exact Or.inl (Or.inr (nI_le q hj))
theorem lw_n (n : Nat) : n = 0 ∨ ∃ k, n = k + 1 := by
  cases n with
  | zero => exact Or.inl rfl
  | succ k => exact Or.inr ⟨k, rfl⟩
theorem lw_nle {a b : Int32} (h : ¬ a ≤ b) : b < a := by
  rw [Int32.le_iff_toInt_le] at h
  rw [Int32.lt_iff_toInt_lt]
  omega
theorem lw_le {a b : Int32} (h : ¬ b < a) : a ≤ b := by
  rw [Int32.lt_iff_toInt_lt] at h
  rw [Int32.le_iff_toInt_le]
  omega
theorem lw_nlt {a b : Int32} (h : a ≤ b) : ¬ b < a := by
  rw [Int32.le_iff_toInt_le] at h
  rw [Int32.lt_iff_toInt_lt]
  omega
theorem lw_glb {a b c d e : Int32} (h : f_BG_isLength a = 0 ∨ f_BG_isGiving b c = 0 ∨ f_BG_isGiving d e = 0) : f_Mod_isIn a (-100000) 100000 = 0 ∨ f_Mod_isIn b 0 1000 = 0 ∨ f_Mod_isIn c 0 3 = 0 ∨ f_Mod_isIn d 0 1000 = 0 ∨ f_Mod_isIn e 0 3 = 0 := by
  rcases h with h | h | h
  · exact Or.inl h
  · rcases a_giv0 h with h | h
    · exact Or.inr (Or.inl h)
    · exact Or.inr (Or.inr (Or.inl h))
  · rcases a_giv0 h with h | h
    · exact Or.inr (Or.inr (Or.inr (Or.inl h)))
    · exact Or.inr (Or.inr (Or.inr (Or.inr h)))

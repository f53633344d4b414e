/-! what all methods use of a state's tables -/
def kCast : List Cond := [.castable "BoxGlue$Box" "BoxGlue$Box", .castable "BoxGlue$Glue" "BoxGlue$Glue", .castable "BoxGlue$Glue" "BoxGlue$Item", .castable "BoxGlue$Kern" "BoxGlue$Item", .castable "BoxGlue$Put" "BoxGlue$Item", .castable "BoxGlue$Rule" "BoxGlue$Item", .castable "BoxGlue$Placed" "BoxGlue$Placed", .castable "BoxGlue$Box" "java/lang/Object", .castable "BoxGlue$Put" "java/lang/Object", .castable "BoxGlue$Glue" "java/lang/Object", .castable "BoxGlue$Kern" "java/lang/Object", .castable "BoxGlue$Rule" "java/lang/Object", .castable "BoxGlue$Placed" "java/lang/Object"]
/-- numbers of classes and slots; the array classes; the heap at the law's start; the shared empty array; the mirror of Object[] -/
abbrev KGt : Type := va_G × (ClassId × ClassId × ClassId) × Heap × Nat × Nat
abbrev kTy (g : KGt) : List (ClassId × FieldType) := [(g.2.1.1, .object "java/lang/Object"), (g.2.1.2.1, .int), (g.2.1.2.2, .long)]
def kCastAt (U : State) : Prop := ∀ w ∈ kCast, va_Nw w U
def kNoGlue (U : State) : Prop := va_Nc "BoxGlue$Put" "BoxGlue$Glue" U ∧ va_Nc "BoxGlue$Kern" "BoxGlue$Glue" U ∧ va_Nc "BoxGlue$Rule" "BoxGlue$Glue" U
def KK (g : KGt) (U : State) : Prop := va_K g.1 kcl (kTy g) U ∧ kCastAt U ∧ kNoGlue U ∧ va_AO "java/lang/Object" U ∧ va_Mi "[Ljava/lang/Object;" g.2.2.2.2 U ∧ va_Dc U ∧ va_Z "java/util/ArrayList" "DEFAULTCAPACITY_EMPTY_ELEMENTDATA" "[Ljava/lang/Object;" (.ref g.2.2.2.1) (fun _ => False) U g.2.2.1 ∧ va_T (.object "java/lang/Object") g.2.2.2.1 0 (fun _ => .null) (fun _ => False) U g.2.2.1
theorem kNw_moved {C T : String} {u U : State} (hvm : u.vm.Alike U.vm) (h : va_Nw (.castable C T) u) : va_Nw (.castable C T) U := va_tabs rfl (rfl : (u.setVm U.vm).vm = U.vm) (by rw [Cond.castable_setVm hvm]; exact h)
theorem kCast_moved {u U : State} (hvm : u.vm.Alike U.vm) (h : kCastAt u) : kCastAt U := by
  intro w hw
  have hc : ∃ C T, w = .castable C T := by
    simp only [kCast, List.mem_cons, List.not_mem_nil, or_false] at hw
    rcases hw with h | h | h | h | h | h | h | h | h | h | h | h | h <;> exact ⟨_, _, h⟩
  obtain ⟨C, T, rfl⟩ := hc
  exact kNw_moved hvm (h _ hw)
theorem KK_st (g : KGt) : kSt (KK g) := fun u U hvm h => ⟨h.1.moved hvm, kCast_moved hvm h.2.1, ⟨h.2.2.1.1.moved hvm, h.2.2.1.2.1.moved hvm, h.2.2.1.2.2.moved hvm⟩, h.2.2.2.1.moved hvm, h.2.2.2.2.1.moved hvm, h.2.2.2.2.2.1.moved hvm, h.2.2.2.2.2.2.1.moved hvm, h.2.2.2.2.2.2.2.moved hvm⟩
/-- a method's words: its own code, and the tables' -/
abbrev kW (y : MethodName) (b : ByteArray) (n : Nat) (r : Option FieldType) : List Cond := .code y b n r :: kG
theorem kW_ts {y : MethodName} {b : ByteArray} {n : Nat} {r : Option FieldType} {args : Array Value} {s : State} (h : ∀ w ∈ kW y b n r, w.before args s = true) : ∀ w ∈ kG, w.before args s = true := fun w hw => h w (List.mem_cons_of_mem _ hw)
theorem kW_good {y : MethodName} {b : ByteArray} {n : Nat} {r : Option FieldType} (h : Cond.code y b n r ∈ kG) : GoodIn kG (kW y b n r) := fun w hw => (List.mem_cons.mp hw).elim (fun e => e ▸ kG_good _ h) (fun q => kG_good _ q)
theorem kV_good {own : String} {idx : Nat} {y : MethodName} {b : ByteArray} {n : Nat} {r : Option FieldType} (h : Cond.code y b n r ∈ kG) (h1 : Cond.methodLink own idx y ∈ kG) (h2 : Cond.instanceMethod y ∈ kG) (h3 : Cond.selects y.cls y y ∈ kG) (h4 : Cond.initialized y.cls ∈ kG) : GoodIn kG (wsV own idx y.cls y (kW y b n r)) := by
  intro w hw
  unfold wsV at hw
  rcases List.mem_append.mp hw with hw | hw
  · simp only [List.mem_cons, List.not_mem_nil, or_false] at hw
    rcases hw with rfl | rfl | rfl | rfl
    · exact kG_good _ h1
    · exact kG_good _ h2
    · exact kG_good _ h3
    · exact kG_good _ h4
  · exact kW_good h w hw
theorem kS_good {own : String} {idx : Nat} {y : MethodName} {b : ByteArray} {n : Nat} {r : Option FieldType} (h : Cond.code y b n r ∈ kG) (h1 : Cond.methodLink own idx y ∈ kG) (h2 : Cond.static y ∈ kG) (h4 : Cond.initialized y.cls ∈ kG) : GoodIn kG (va_wsS own idx y (kW y b n r)) := by
  intro w hw
  unfold va_wsS at hw
  rcases List.mem_append.mp hw with hw | hw
  · simp only [List.mem_cons, List.not_mem_nil, or_false] at hw
    rcases hw with rfl | rfl | rfl
    · exact kG_good _ h1
    · exact kG_good _ h2
    · exact kG_good _ h4
  · exact kW_good h w hw
/-- out of a table of eight -/
theorem k_sw {x : Int32} (h0 : ¬ x = 0) (h1 : ¬ x = 1) (h2 : ¬ x = 2) (h3 : ¬ x = 3) (h4 : ¬ x = 4) (h5 : ¬ x = 5) (h6 : ¬ x = 6) (h7 : ¬ x = 7) : x.toInt < 0 ∨ 7 < x.toInt := by
  have g : ∀ n : Nat, n < 8 → ¬ x = Int32.ofNat n → ¬ x.toInt = (n : Int) := fun n hn h e => h (Int32.toInt_inj.mp (by rw [e]; exact (Int32.toInt_ofNat_of_lt (by omega)).symm))
  have a0 := g 0 (by omega) h0
  have a1 := g 1 (by omega) h1
  have a2 := g 2 (by omega) h2
  have a3 := g 3 (by omega) h3
  have a4 := g 4 (by omega) h4
  have a5 := g 5 (by omega) h5
  have a6 := g 6 (by omega) h6
  have a7 := g 7 (by omega) h7
  omega

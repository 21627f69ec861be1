/-! THE LAYER: a fixed layout of places, contents by a function of the place, one judgement VL over it -/
/-- the links of nest mates that the methods need -/
def nestT : List (String × Nat × MethodName × String) := [
  (RX3, 9, yX0_init, RX3),
  (RX3, 21, yX1_init, RX3),
  (RX1, 17, yX0_init, RX3),
  (RX3, 28, yX2_init, RX3),
  (RX3, 61, yX1_save, RX3),
  (RX1, 29, yX0_copyFrom, RX3),
  (RX0, 34, yX3_at, RX3),
  (RX0, 38, yX3_put, RX3),
  (RX3, 89, yX0_answered, RX3),
  (RX3, 54, yX0_size, RX3),
  (RX3, 80, yX0_give, RX3),
  (RX3, 9, yX0_init, RX3),
  (RX3, 9, yX0_init, RX3),
  (RX3, 9, yX0_init, RX3),
  (RX3, 9, yX0_init, RX3),
  (RX3, 9, yX0_init, RX3),
  (RX3, 129, yX0_canComeTo, RX3),
  (RX0, 70, yX3_isInMask, RX3),
  (RX3, 86, yX0_wanting, RX3),
  (RX3, 137, yX0_totalsOver, RX3),
  (RX3, 83, yX0_openParts, RX3),
  (RX3, 140, yX0_openToAnswer, RX3),
  (RX3, 237, yX0_openBoxes, RX3),
  (RX3, 240, yX0_firstWanting, RX3),
  (RX3, 111, yX1_size, RX3),
  (RX3, 65, yX0_kindOf, RX3),
  (RX3, 201, yX0_partOf, RX3),
  (RX3, 204, yX0_settingOf, RX3),
  (RX3, 207, yX0_limitOf, RX3),
  (RX3, 210, yX0_answerOf, RX3),
  (RX3, 213, yX0_valueOf, RX3),
  (RX3, 216, yX0_isOpen, RX3),
  (RX3, 219, yX0_wants, RX3),
  (RX3, 248, yX0_copyFrom, RX3),
  (RX3, 251, yX0_lastTotal, RX3),
  (RX3, 225, yX0_boxesIn, RX3),
  (RX3, 228, yX0_wantingIn, RX3),
  (RX3, 231, yX0_boxesFor, RX3),
  (RX3, 234, yX0_isSkipped, RX3),
  (RX3, 9, yX0_init, RX3),
  (RX3, 198, yX0_add, RX3),
  (RX3, 50, yX0_canCarry, RX3),
  (RX3, 69, yX0_removeLast, RX3),
  (RX3, 183, yX0_has, RX3),
  (RX3, 76, yX0_fits, RX3),
  (RX0, 46, yX3_isWithin, RX3),
  (RX3, 9, yX0_init, RX3),
  (RX3, 9, yX0_init, RX3),
  (RX3, 9, yX0_init, RX3),
  (RX3, 9, yX0_init, RX3)]
def NW (U : State) : Prop := ∀ q ∈ nestT, va_Nw (.methodLinkNest q.1 q.2.1 q.2.2.1 q.2.2.2) U
theorem NW.warm {s U : State} (hW : s.WarmedH U.vm) (h : NW s) : NW U := fun q hq => va_Nw.warmM hW (h q hq)
theorem NW.same {u U : State} (hvm : u.vm = U.vm) (h : NW u) : NW U := fun q hq => va_Nw.same rfl hvm (h q hq)
def xI : String := "java/lang/IndexOutOfBoundsException"
def xA : String := "java/lang/IllegalArgumentException"
def xS : String := "java/lang/IllegalStateException"
/-- what a throw needs beyond good words -/
def EX (U : State) : Prop := (∃ a, vk_R RX3 178 "no such part" a U) ∧ (∃ a, vk_R RX3 186 "no such box" a U) ∧ (∃ a, vk_R RX3 190 "an argument does not fit" a U) ∧ (∃ a, vk_R RX3 195 "not possible now" a U) ∧ va_Nw (.castable xI xI) U ∧ va_Nw (.castable xA xA) U ∧ va_Nw (.castable xS xS) U ∧ va_Nw (.declares (Bundle.initS "java/lang/RuntimeException")) U ∧ va_Nw (.declares (Bundle.initS "java/lang/Exception")) U ∧ va_Nw (.declares (Bundle.initS Bundle.tN)) U
theorem EX.warm {s U : State} (hW : s.WarmedH U.vm) (h : EX s) : EX U := by
  obtain ⟨⟨a1, h1⟩, ⟨a2, h2⟩, ⟨a3, h3⟩, ⟨a4, h4⟩, h5, h6, h7, h8, h9, h10⟩ := h
  exact ⟨⟨a1, h1.warm hW⟩, ⟨a2, h2.warm hW⟩, ⟨a3, h3.warm hW⟩, ⟨a4, h4.warm hW⟩, va_Nw.warmC hW h5, va_Nw.warmC hW h6, va_Nw.warmC hW h7, va_Nw.warmD hW h8, va_Nw.warmD hW h9, va_Nw.warmD hW h10⟩
theorem EX.same {u U : State} (hvm : u.vm = U.vm) (h : EX u) : EX U := by
  obtain ⟨⟨a1, h1⟩, ⟨a2, h2⟩, ⟨a3, h3⟩, ⟨a4, h4⟩, h5, h6, h7, h8, h9, h10⟩ := h
  exact ⟨⟨a1, h1.same hvm.symm⟩, ⟨a2, h2.same hvm.symm⟩, ⟨a3, h3.same hvm.symm⟩, ⟨a4, h4.same hvm.symm⟩, va_Nw.same rfl hvm h5, va_Nw.same rfl hvm h6, va_Nw.same rfl hvm h7, va_Nw.same rfl hvm h8, va_Nw.same rfl hvm h9, va_Nw.same rfl hvm h10⟩
/-- the classes' tables; the places' addresses; the arrays' classes (int, boolean, Form, long); where the old heap ends -/
abbrev kG : Type := va_G × (Nat → Nat) × (Nat → ClassId) × Nat × Nat
abbrev kN : Nat := 66
def kM (g : kG) : Nat := kN + g.2.2.2.2
theorem kL {g : kG} {i : Nat} (h : i < kN) : i < kM g := Nat.lt_of_lt_of_le h (Nat.le_add_right _ _)
def kw (g : kG) (u : Nat → va_E) : va_W := (List.range (kM g)).map (fun i => (g.2.1 i, u i))
theorem kw_getM {g : kG} {u : Nat → va_E} {i : Nat} (h : i < kM g) : (kw g u)[i]? = some (g.2.1 i, u i) := by simp [kw, h]
theorem kw_get {g : kG} {u : Nat → va_E} {i : Nat} (h : i < kN) : (kw g u)[i]? = some (g.2.1 i, u i) := kw_getM (kL h)
theorem kw_of {g : kG} {u : Nat → va_E} {i : Nat} {q : Nat × va_E} (h : (kw g u)[i]? = some q) : i < kM g ∧ q = (g.2.1 i, u i) := by
  have hl : i < (kw g u).length := (List.getElem?_eq_some_iff.mp h).1
  have hi : i < kM g := by simpa [kw] using hl
  rw [kw_getM hi] at h
  exact ⟨hi, (Option.some.inj h).symm⟩
theorem kw_set {g : kG} {u : Nat → va_E} {i : Nat} {c : va_E} : (kw g u).set i (g.2.1 i, c) = kw g (va_up u i c) := by
  apply List.ext_getElem?
  intro j
  rw [List.getElem?_set]
  by_cases hj : j < kM g
  · by_cases hij : i = j
    · subst hij
      have : i < (kw g u).length := by simpa [kw] using hj
      simp [this, kw_getM hj, va_up]
    · simp [hij, kw_getM hj, va_up, Ne.symm hij]
  · have h1 : (kw g (va_up u i c))[j]? = none := by simp [kw]; omega
    have h2 : (kw g u)[j]? = none := by simp [kw]; omega
    have h3 : ¬ j < (kw g u).length := by simp [kw]; omega
    rw [h1, h2]
    by_cases hij : i = j
    · subst hij; simp [h3]
    · simp [hij]
def gOK (g : kG) : Prop := (∀ i j : Nat, i < kM g → j < kM g → g.2.1 i = g.2.1 j → i = j) ∧ ∀ i : Nat, i < kM g → g.2.2.2.1 ≤ g.2.1 i
def GA (g : kG) : Nat → Prop := fun q => g.2.2.2.1 ≤ q
theorem kw_D {g : kG} (h : gOK g) (u : Nat → va_E) : va_D (GA g) (kw g u) := by
  refine ⟨fun i j p q hp hq e => ?_, fun k q hq => ?_⟩
  · obtain ⟨hi, rfl⟩ := kw_of hp
    obtain ⟨hj, rfl⟩ := kw_of hq
    exact h.1 i j hi hj e
  · obtain ⟨hi, rfl⟩ := kw_of hq
    exact h.2 k hi
def tys (g : kG) : List (ClassId × FieldType) := [(g.2.2.1 0, .int), (g.2.2.1 0, .int), (g.2.2.1 2, .object RX0)]
def KT (g : kG) (U : State) : Prop := va_K g.1 vwCl (tys g) U ∧ NW U ∧ gOK g ∧ EX U
def ZX (g : kG) (U : State) (H : Heap) : Prop := vx_Zq Bundle.tN "UNASSIGNED_STACK" Bundle.steD (GA g) U H ∧ vx_Zq Bundle.tN "SUPPRESSED_SENTINEL" Bundle.listD (GA g) U H
/-- the contents u stand in the heap -/
def PT (g : kG) (u : Nat → va_E) (t : State) : Prop := va_P g.1 vwCl (kw g u) t.heap
/-- a method's start -/
def WB (g : kG) (u : Nat → va_E) (U : State) : Prop := g.2.2.2.1 ≤ U.heap.size ∧ PT g u U ∧ KT g U ∧ ZX g U U.heap
theorem KT.warm {g : kG} {s U : State} (hW : s.WarmedH U.vm) (h : KT g s) : KT g U := ⟨va_K.moved hW.alike h.1, h.2.1.warm hW, h.2.2.1, h.2.2.2.warm hW⟩
theorem KT.same {g : kG} {u U : State} (hvm : u.vm = U.vm) (h : KT g u) : KT g U := ⟨va_K.moved (by rw [hvm]; exact Vm.Alike.refl _) h.1, h.2.1.same hvm, h.2.2.1, h.2.2.2.same hvm⟩
theorem WB.blind {g : kG} {u : Nat → va_E} {av : List Value} : FrameBlind (va_Pc av (WB g u)) := by
  intro a U fr mk h
  obtain ⟨h0, h1, h2, h3, h4⟩ := h
  exact ⟨h0, h1, h2, h3.same rfl, ⟨h4.1.moved (Vm.Alike.refl _), h4.2.moved (Vm.Alike.refl _)⟩⟩
theorem WB.at {g : kG} {u : Nat → va_E} {s : State} {H : Heap} {locs : List Loc} (hs : g.2.2.2.1 ≤ s.heap.size) (hK : KT g s) (hZ : ZX g s s.heap) (hP : va_P g.1 vwCl (kw g u) H) (hS : va_S (GA g) s.heap H locs) {U : State} (hU : U.heap = H) (hW : s.WarmedH U.vm) : WB g u U := by
  refine ⟨by rw [hU]; exact Nat.le_trans hs hS.1, by unfold PT; rw [hU]; exact hP, hK.warm hW, ?_⟩
  rw [hU]
  exact ⟨(hZ.1.kept hS.2.1).moved hW.alike, (hZ.2.kept hS.2.1).moved hW.alike⟩
/-- contracts: answers of a kind, contents u behind -/
def CI (g : kG) (l : Launch) (y : MethodName) (ws : List Cond) (rm : Room) (av : List Value) (u : Nat → va_E) (post : Int32 → (Nat → va_E) → Prop) : Prop :=
  Met l y ws rm (va_Pc av (WB g u)) (va_Qi post (PT g) (GA g)) rm.cells rm.slots (GA g)
def CL (g : kG) (l : Launch) (y : MethodName) (ws : List Cond) (rm : Room) (av : List Value) (u : Nat → va_E) (post : Int64 → (Nat → va_E) → Prop) : Prop :=
  Met l y ws rm (va_Pc av (WB g u)) (va_Ql post (PT g) (GA g)) rm.cells rm.slots (GA g)
def CD (g : kG) (l : Launch) (y : MethodName) (ws : List Cond) (rm : Room) (av : List Value) (u : Nat → va_E) (post : UInt64 → (Nat → va_E) → Prop) : Prop :=
  Met l y ws rm (va_Pc av (WB g u)) (va_Qd post (PT g) (GA g)) rm.cells rm.slots (GA g)
def CQ (g : kG) (l : Launch) (y : MethodName) (ws : List Cond) (rm : Room) (av : List Value) (u : Nat → va_E) (post : Option Nat → (Nat → va_E) → Prop) : Prop :=
  Met l y ws rm (va_Pc av (WB g u)) (va_Qq post (PT g) (GA g)) rm.cells rm.slots (GA g)
def CV (g : kG) (l : Launch) (y : MethodName) (ws : List Cond) (rm : Room) (av : List Value) (u : Nat → va_E) (post : (Nat → va_E) → Prop) : Prop :=
  Met l y ws rm (va_Pc av (WB g u)) (va_Qv post (PT g) (GA g)) rm.cells rm.slots (GA g)
/-- where a walk stands: program, launch, environment, room, the start's state, the method, its arguments, the frames below, its tables, the end -/
abbrev kX : Type := Program × Launch × Env × Room × State × MethodId × Array Value × List Frame × Method × Code × (State → Prop)
def VL (g : kG) (X : kX) (k n : Nat) (u : Nat → va_E) (pc : Nat) (lv : List (Nat × Value)) (st : List Value) : Prop :=
  match X with
  | (p, l, e, R, s, m, args, below, meth, c, Q) => ∀ (H : Heap) (locs : List Loc) (ls : Array Slot), va_P g.1 vwCl (kw g u) H → va_S (GA g) s.heap H locs → lv_has ls c.maxLocals lv → W p l e R s m args below meth c H locs k n Q (F0 m pc ls st)
/-- what is fixed through a method's walk -/
def Fx (g : kG) (X : kX) (cc : ByteArray) (nL : Nat) (ret : Option FieldType) (ws : List Cond) (own : String) (rm : Room) : Prop :=
  match X with
  | (p, l, e, R, s, m, args, below, meth, c, Q) => p.tables.exec = Jvm.exec ∧ c.code = cc ∧ c.maxLocals = nL ∧ s.vm.findClass own = some m.cls ∧ (∀ w ∈ ws, w.before args s = true) ∧ meth.sig.returnType = ret ∧ meth.locks = false ∧ KT g s ∧ ZX g s s.heap ∧ g.2.2.2.1 ≤ s.heap.size ∧ R = rm

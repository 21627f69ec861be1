/-! THE LAW'S CATCHERS: rows for a body with handlers -/
/-- no exception of the class is one that stands before it -/
def EC (U : State) : Prop := va_Nc xA xI U ∧ va_Nc xS xI U ∧ va_Nc xS xA U
theorem EC.moved {u U : State} (hvm : u.vm.Alike U.vm) (h : EC u) : EC U := ⟨h.1.moved hvm, h.2.1.moved hvm, h.2.2.moved hvm⟩
def CC (g : kG) (l : Launch) (y : MethodName) (ws : List Cond) (rm : Room) (av : List Value) (u : Nat → va_E) (post : Int32 → (Nat → va_E) → Prop) : Prop :=
  Met l y ws rm (va_Pc av (fun U => WB g u U ∧ EC U)) (va_Qi post (PT g) (GA g)) rm.cells rm.slots (GA g)
theorem Met.of_vx {l : Launch} {y : MethodName} {ws : List Cond} {rm : Room} {Pc : Array Value → State → Prop} {Qc : Array Value → State → Outcome → State → Prop} {mc ms : Nat} {free : Addr → Prop} (h : vx_Met l y ws rm Pc Qc (fun _ _ _ => False) mc ms free) : Met l y ws rm Pc Qc mc ms free := by
  intro p e ha hc hk s m args below hf happ hP hK
  obtain ⟨n, o, h1, h2, h3, h4⟩ := h p e ha hc hk s m args below hf happ hP hK
  refine ⟨n, o, h1, h2, h3, ?_⟩
  rcases h4 with h4 | ⟨q, -, E, ce, L, h5, -⟩
  · exact h4
  · exact h5.elim
/-- the state at a body's start, its table of handlers -/
def xs (X : kX) : State := X.2.2.2.2.1
def Tx (X : kX) (hh : List (Nat × Nat × Nat × Nat)) : Prop :=
  match X with
  | (p, l, e, R, s, m, args, below, meth, c, Q) => c.exceptionTable.toList = tableOf hh ∧ EC s
section CROWS
variable {g : kG} {X : kX} {k n : Nat} {u : Nat → va_E} {pc : Nat} {lv lv' : List (Nat × Value)} {st : List Value} {cc : ByteArray} {nL : Nat} {ret : Option FieldType} {ws : List Cond} {own : String} {rm : Room} {px px0 : String → (Nat → va_E) → Prop}
variable {st0 rest : List Value} {mc ms : Nat} {a : Array Value} {hh : List (Nat × Nat × Nat × Nat)}
/-- where an exception of the class E goes: the table's first entry that fits -/
def Go (ws : List Cond) (own : String) (hh : List (Nat × Nat × Nat × Nat)) (pc : Nat) (E : String) (s : State) (h : Nat) : Prop :=
  ∃ pre x suf name, tableOf hh = pre ++ x :: suf ∧ (∀ z ∈ pre, covers z pc = false ∨ (z.catchType ≠ 0 ∧ ∃ nm : String, Cond.classLink own z.catchType nm ∈ ws ∧ va_Nc E nm s)) ∧ covers x pc = true ∧ x.catchType ≠ 0 ∧ Cond.classLink own x.catchType name ∈ ws ∧ va_Nw (.castable E name) s ∧ x.handlerPc = h
theorem r_ccalli (F : Fx g X cc nL ret ws own rm) (T : Tx X hh) {post : Int32 → (Nat → va_E) → Prop} (hr : XRG g X k n u pc lv st0 rest mc ms (va_Qi post (PT g) (GA g) a) (XP g px0)) (kx : ∀ E u', px0 E u' → ∃ h, Go ws own hh pc E (xs X) h ∧ ∀ q : Nat, VL g X (k + mc) (n + ms) u' h lv [.ref q]) (kk : ∀ (r : Int32) (u' : Nat → va_E), post r u' → VL g X (k + mc) (n + ms) u' (pc + 3) lv (.int r :: rest)) : VL g X k n u pc lv st0 := by
  obtain ⟨p, l, e, R, s, m, args, below, meth, c, Q⟩ := X
  obtain ⟨hx, hb, hml, hown, hts, hret, hlk, hK, hZ, hs, hrm⟩ := F
  obtain ⟨htab, hec⟩ := T
  intro H locs ls hP hS h
  refine vx_calli (hr H locs ls hP hS h) hS (fun _ _ h => h) (fun _ h => h) (fun _ _ h => h) (fun E ce q9 u' t H1 locs1 ht hal _ hB _ _ hS1 hq hv hcl => ?_) (fun r u' t H1 locs1 ht _ hp hB _ _ hS1 => ?_)
  · obtain ⟨hpc, ⟨pre, x, suf, name, e1, e2, e3, e4, e5, e6, rfl⟩, hk⟩ := kx E u' hB.1
    refine vx_catch hown pre x suf (htab.trans e1) (fun z hz => ?_) e3 e4 (hts _ e5) (va_Nw.use rfl e6) hq hv hcl ?_
    · rcases e2 z hz with h1 | ⟨h1, nm, h2, h3⟩
      · exact Or.inl h1
      · exact Or.inr ⟨h1, nm, hts _ h2, h3⟩
    · have hP1 := hB.2
      unfold PT at hP1
      rw [ht] at hP1
      exact hk q9 H1 locs1 ls hP1 hS1 h
  · exact kk r u' hp H1 locs1 ls (by unfold PT at hB; rw [ht] at hB; exact hB) hS1 h
theorem CC.of {l : Launch} {y : MethodName} {ws ws' : List Cond} {rm : Room} {av : List Value} {u : Nat → va_E} {cc : ByteArray} {nL : Nat} {ty : FieldType} {post : Int32 → (Nat → va_E) → Prop} (hy : plainName y.cls = true) (hw : ws = .codeWith y cc nL (some ty) hh :: ws') (hn : ∀ v u', post v u' → narrow ty (.int v) = .int v) (hlen : (lg_sl av).length ≤ nL)
    (body : ∀ X : kX, X.2.1 = l → Fx g X cc nL (some ty) ws y.cls rm → Tx X hh → (∀ (k n : Nat) (u' : Nat → va_E) (pc : Nat) (lv : List (Nat × Value)) (v : Int32), k ≤ rm.cells → n ≤ rm.slots → post v u' → decode cc pc = .ok (.ireturn, 1) → VL g X k n u' pc lv [.int v]) → VL g X 0 0 u 0 (lv_args 0 av) []) : CC g l y ws rm av u post := by
  refine Met.of_vx (vx_ofWH (cc := cc) (maxL := nL) (ret := some ty) (hh := hh) hy hw ?_)
  intro p e s m args below meth c s₁ B hml hv
  obtain ⟨rfl, ⟨hs, hP, hK, hZ⟩, hec⟩ := hv
  have hl := lv_entry av (n := nL) hlen
  rw [lg_entry_eq]
  generalize (lg_sl av ++ List.replicate (nL - (lg_sl av).length) Slot.unset).toArray = ls at hl ⊢
  have hts := atoms_spec (ws := ws) B.pre
  refine body (p, l, e, (headSpec ws rm).room, s, m, av.toArray, below, meth, c, _) rfl ⟨B.exec, B.bytes, hml, findClass_of_methodNamed B.named, hts, B.returns, B.notSynchronized, hK, hZ, hs, rfl⟩ ⟨vx_table (x := y) B (hts _ (by rw [hw]; exact List.mem_cons_self)), hec⟩ ?_ s.heap [] ls hP va_S.rf (by rw [hml]; exact hl)
  intro k n u' pc lv v hk hn2 hp hdg H locs ls2 hP2 hS2 _
  refine W.widen hk hn2 (vx_ret ?_)
  exact W.zret B.exec B.bytes B.returns (hn v u' hp) (fun t ht _ => ⟨⟨v, u', rfl, hp, by unfold PT; rw [ht]; exact hP2⟩, hS2.F ht⟩) hS2.base hdg B.notSynchronized
end CROWS
/-- the world beside the class and the reference: the law's row -/
def OutR (g : kG) (u : Nat → va_E) : Prop := ∃ f : Nat → Int64, u 69 = .inl (g.2.2.1 3, 1, .inr (.inl f))
def OutV (g : kG) (u : Nat → va_E) (v : Int32) : Prop := ∃ f : Nat → Int64, u 69 = .inl (g.2.2.1 3, 1, .inr (.inl f)) ∧ f 0 = v.toInt64
theorem CsB.keep {g : kG} {u u' : Nat → va_E} {n m t : Nat} {B : kB} {S : Nat → kS} {C : Nat → Int32} (h : CsB g u n B m S t C) (hk : ∀ j, j < 61 → u' j = u j) : CsB g u' n B m S t C := by
  obtain ⟨h0, h1, ⟨sz, G, V, h2⟩, h3, h4⟩ := h
  exact ⟨(hk 0 (by omega)).trans h0, h1.keep (fun j h1 h2 => hk j (by omega)), ⟨sz, G, V, h2.keep (fun j h1 h2 => hk j (by omega))⟩, h3.keep (fun j h1 h2 => hk j (by omega)), h4.keep (hk 59 (by omega)) (hk 60 (by omega))⟩
theorem Fx.ex {g : kG} {X : kX} {cc : ByteArray} {nL : Nat} {ret : Option FieldType} {ws : List Cond} {own : String} {rm : Room} (F : Fx g X cc nL ret ws own rm) : EX (xs X) := by
  obtain ⟨p, l, e, R, s, m, args, below, meth, c, Q⟩ := X
  obtain ⟨hx, hb, hml, hown, hts, hret, hlk, hK, hZ, hs, hrm⟩ := F
  exact hK.2.2.2
theorem Tx.ec {X : kX} {hh : List (Nat × Nat × Nat × Nat)} (T : Tx X hh) : EC (xs X) := by
  obtain ⟨p, l, e, R, s, m, args, below, meth, c, Q⟩ := X
  exact T.2

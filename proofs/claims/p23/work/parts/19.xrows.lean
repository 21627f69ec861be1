/-! CALLS THAT MAY THROW, over VL -/
def XP (g : kG) (px : String → (Nat → va_E) → Prop) : String → State → State → Prop := vx_X (fun _ : Nat → va_E => True) (fun E u' t => px E u' ∧ PT g u' t) (GA g)
def XCI (g : kG) (l : Launch) (y : MethodName) (ws : List Cond) (rm : Room) (av : List Value) (u : Nat → va_E) (post : Int32 → (Nat → va_E) → Prop) (px : String → (Nat → va_E) → Prop) : Prop :=
  vx_Met l y ws rm (va_Pc av (WB g u)) (va_Qi post (PT g) (GA g)) (XP g px) rm.cells rm.slots (GA g)
def XCV (g : kG) (l : Launch) (y : MethodName) (ws : List Cond) (rm : Room) (av : List Value) (u : Nat → va_E) (post : (Nat → va_E) → Prop) (px : String → (Nat → va_E) → Prop) : Prop :=
  vx_Met l y ws rm (va_Pc av (WB g u)) (va_Qv post (PT g) (GA g)) (XP g px) rm.cells rm.slots (GA g)
/-- a method that may throw: its end; no handlers; a launch without stack traces -/
def Gx (g : kG) (X : kX) (rm : Room) (px : String → (Nat → va_E) → Prop) : Prop :=
  match X with
  | (p, l, e, R, s, m, args, below, meth, c, Q) => (∃ Qc : Array Value → State → Outcome → State → Prop, Q = vx_MQ below Qc (XP g px) args s rm.cells rm.slots (GA g)) ∧ (∀ x ∈ c.exceptionTable.toList, False) ∧ l.stackTraces = false
section XROWS
variable {g : kG} {X : kX} {k n : Nat} {u : Nat → va_E} {pc : Nat} {lv lv' : List (Nat × Value)} {st : List Value} {cc : ByteArray} {nL : Nat} {ret : Option FieldType} {ws : List Cond} {own : String} {rm : Room} {px px0 : String → (Nat → va_E) → Prop}
def XRG (g : kG) (X : kX) (k n : Nat) (u : Nat → va_E) (pc : Nat) (lv : List (Nat × Value)) (st rest : List Value) (mc ms : Nat) (Qa : State → Outcome → State → Prop) (XC : String → State → State → Prop) : Prop :=
  match X with
  | (p, l, e, R, s, m, args, below, meth, c, Q) => ∀ (H : Heap) (locs : List Loc) (ls : Array Slot), va_P g.1 vwCl (kw g u) H → va_S (GA g) s.heap H locs → lv_has ls c.maxLocals lv → vx_Run p l e R s m args below meth c H locs k n mc ms (F0 m pc ls st) rest Qa XC (GA g)
variable {st0 rest : List Value} {mc ms : Nat} {a : Array Value}
theorem r_widen {k' n' : Nat} (h1 : k ≤ k') (h2 : n ≤ n') (kk : VL g X k' n' u pc lv st) : VL g X k n u pc lv st := by
  obtain ⟨p, l, e, R, s, m, args, below, meth, c, Q⟩ := X
  intro H locs ls hP hS h
  exact W.widen h1 h2 (kk H locs ls hP hS h)
theorem r_xcallv (F : Fx g X cc nL ret ws own rm) (G : Gx g X rm px) {post : (Nat → va_E) → Prop} (hr : XRG g X k n u pc lv st0 rest mc ms (va_Qv post (PT g) (GA g) a) (XP g px0)) (hk : k + mc ≤ rm.cells ∧ n + ms ≤ rm.slots) (hx : ∀ E u', px0 E u' → px E u') (kk : ∀ (u' : Nat → va_E), post u' → VL g X (k + mc) (n + ms) u' (pc + 3) lv rest) : VL g X k n u pc lv st0 := by
  obtain ⟨p, l, e, R, s, m, args, below, meth, c, Q⟩ := X
  obtain ⟨-, -, -, -, -, -, hlk, -⟩ := F
  obtain ⟨⟨Qc, rfl⟩, htab, -⟩ := G
  intro H locs ls hP hS h
  refine vx_callv (hr H locs ls hP hS h) hS (fun _ _ h => h) (fun _ h => h) (fun _ _ h => h) (fun E ce q9 u' t H1 locs1 ht hal _ hB _ _ hS1 hq hv hcl => ?_) (fun u' t H1 locs1 ht _ hp hB _ _ hS1 => ?_)
  · refine vx_out (fun x hx => (htab x hx).elim) hlk hq hv hcl (fun t2 ht2 _ => ⟨u', trivial, ⟨hx E u' hB.1, ?_⟩, hS1.F ht2⟩) hS1.base hk.1 hk.2
    unfold PT
    rw [ht2, ← ht]
    exact hB.2
  · exact kk u' hp H1 locs1 ls (by unfold PT at hB; rw [ht] at hB; exact hB) hS1 h
theorem r_xcalli (F : Fx g X cc nL ret ws own rm) (G : Gx g X rm px) {post : Int32 → (Nat → va_E) → Prop} (hr : XRG g X k n u pc lv st0 rest mc ms (va_Qi post (PT g) (GA g) a) (XP g px0)) (hk : k + mc ≤ rm.cells ∧ n + ms ≤ rm.slots) (hx : ∀ E u', px0 E u' → px E u') (kk : ∀ (r : Int32) (u' : Nat → va_E), post r u' → VL g X (k + mc) (n + ms) u' (pc + 3) lv (.int r :: rest)) : VL g X k n u pc lv st0 := by
  obtain ⟨p, l, e, R, s, m, args, below, meth, c, Q⟩ := X
  obtain ⟨-, -, -, -, -, -, hlk, -⟩ := F
  obtain ⟨⟨Qc, rfl⟩, htab, -⟩ := G
  intro H locs ls hP hS h
  refine vx_calli (hr H locs ls hP hS h) hS (fun _ _ h => h) (fun _ h => h) (fun _ _ h => h) (fun E ce q9 u' t H1 locs1 ht hal _ hB _ _ hS1 hq hv hcl => ?_) (fun r u' t H1 locs1 ht _ hp hB _ _ hS1 => ?_)
  · refine vx_out (fun x hx => (htab x hx).elim) hlk hq hv hcl (fun t2 ht2 _ => ⟨u', trivial, ⟨hx E u' hB.1, ?_⟩, hS1.F ht2⟩) hS1.base hk.1 hk.2
    unfold PT
    rw [ht2, ← ht]
    exact hB.2
  · exact kk r u' hp H1 locs1 ls (by unfold PT at hB; rw [ht] at hB; exact hB) hS1 h
theorem g_XV (F : Fx g X cc nL ret ws own rm) {y : MethodName} {cy : ByteArray} {maxL index nA : Nat} {ret' : Option FieldType} {ws' ws'' : List Cond} {rm' : Room} {Qc : Array Value → State → Outcome → State → Prop} {XC : String → State → State → Prop} {C : String} {As : List Value} (q0 : Nat) {ci : Nat} {fs : List Value} (he : u q0 = .inr (ci, fs)) (hq : q0 < kN) {T : u_T} {N : Nat} (hc : vwCl[ci]? = some (C, T, N)) (hM : vx_Met X.2.1 y ws' rm' (va_Pc (.ref (g.2.1 q0) :: As) (WB g u)) Qc XC rm'.cells rm'.slots (GA g)) (hG : GoodIn ws (wsV own index C y ws')) (hw : ws' = Cond.code y cy maxL ret' :: ws'') (hd : y.cls = C ∧ y.cls ≠ "java/lang/invoke/MethodHandle" ∧ y.cls ≠ "java/lang/invoke/VarHandle" ∧ (parseMethodDescriptor y.desc).map (fun d => d.parameters.length) = some nA) (hn : As.length = nA) (hR : rm'.frames + 1 ≤ rm.frames ∧ 8 + (maxL + 11) + rm'.locals ≤ rm.locals) (hf : k + rm'.cells ≤ rm.cells ∧ n + rm'.slots ≤ rm.slots) (hst : st0 = As.reverse ++ .ref (g.2.1 q0) :: rest) (hcat : (rest.map fun v => v.category).sum ≤ 8) (hdg : decode cc pc = .ok (.invokevirtual index, 3)) : XRG g X k n u pc lv st0 rest rm'.cells rm'.slots (Qc (.ref (g.2.1 q0) :: As).toArray) XC := by
  obtain ⟨p, l, e, R, s, m, args, below, meth, c, Q⟩ := X
  obtain ⟨hx, hb, hml, hown, hts, hret, hlk, hK, hZ, hs, hrm⟩ := F
  intro H locs ls hP hS h
  subst hrm
  exact vx_runV (C := C) ⟨hx, hb, hml, hown, hts⟩ hM (cwV nA hts hG hw rfl rfl hd hR) ⟨WB.blind, va_recv hK.1 hP hc ((kw_get hq).trans (by rw [he])), fun U hU hW => ⟨rfl, WB.at hs hK hZ hP hS hU hW⟩⟩ rfl hn (h.1.trans hml) hst (lv_room hcat) hdg hf
theorem g_XS (F : Fx g X cc nL ret ws own rm) {y : MethodName} {cy : ByteArray} {maxL index nA : Nat} {ret' : Option FieldType} {ws' ws'' : List Cond} {rm' : Room} {Qc : Array Value → State → Outcome → State → Prop} {XC : String → State → State → Prop} {As : List Value} (hM : vx_Met X.2.1 y ws' rm' (va_Pc As (WB g u)) Qc XC rm'.cells rm'.slots (GA g)) (hG : GoodIn ws (va_wsS own index y ws')) (hw : ws' = Cond.code y cy maxL ret' :: ws'') (hd : y.cls ≠ "java/lang/invoke/MethodHandle" ∧ y.cls ≠ "java/lang/invoke/VarHandle" ∧ (parseMethodDescriptor y.desc).map (fun d => d.parameters.length) = some nA) (hn : As.length = nA) (hR : rm'.frames + 1 ≤ rm.frames ∧ 8 + (maxL + 11) + rm'.locals ≤ rm.locals) (hf : k + rm'.cells ≤ rm.cells ∧ n + rm'.slots ≤ rm.slots) (hst : st0 = As.reverse ++ rest) (hcat : (rest.map fun v => v.category).sum ≤ 8) (hdg : decode cc pc = .ok (.invokestatic index, 3)) : XRG g X k n u pc lv st0 rest rm'.cells rm'.slots (Qc As.toArray) XC := by
  obtain ⟨p, l, e, R, s, m, args, below, meth, c, Q⟩ := X
  obtain ⟨hx, hb, hml, hown, hts, hret, hlk, hK, hZ, hs, hrm⟩ := F
  intro H locs ls hP hS h
  subst hrm
  exact vx_runS ⟨hx, hb, hml, hown, hts⟩ hM (va_cwS nA hts hG hw rfl rfl hd hR) ⟨WB.blind, fun U hU hW => ⟨rfl, WB.at hs hK hZ hP hS hU hW⟩⟩ rfl hn (h.1.trans hml) hst (lv_room hcat) hdg hf
/-- new X(text), thrown -/
theorem r_throw (F : Fx g X cc nL ret ws own rm) (G : Gx g X rm px) (cls text : String) {ik is ic : Nat} (hst : ∀ U, EX U → (∃ sa, vk_R own is text sa U) ∧ va_Nw (.castable cls cls) U ∧ va_Nw (.declares (Bundle.initS "java/lang/RuntimeException")) U ∧ va_Nw (.declares (Bundle.initS "java/lang/Exception")) U ∧ va_Nw (.declares (Bundle.initS Bundle.tN)) U) (hcls : Bundle.fit cls = true) (hnm : ∀ n ∈ (["java/lang/RuntimeException", "java/lang/Exception"] : List String), Bundle.fit n = true) (hk : Cond.classLink own ik cls ∈ ws) (hini : Cond.initialized cls ∈ ws) (hat1 : ∀ w ∈ (vx_atS own ic cls ["java/lang/RuntimeException", "java/lang/Exception"]).filter goodWord, w ∈ ws) (hat2 : ∀ w ∈ (vx_atS own ic cls ["java/lang/RuntimeException", "java/lang/Exception"]).filter (fun w => !goodWord w), w ∈ ([.castable cls cls, .declares (Bundle.initS "java/lang/RuntimeException"), .declares (Bundle.initS "java/lang/Exception"), .declares (Bundle.initS Bundle.tN)] : List Cond)) (hgood : ∀ w ∈ Cond.classLink own ik cls :: Cond.initialized cls :: vx_atS own ic cls ["java/lang/RuntimeException", "java/lang/Exception"], vx_ot w = true)
    (d0 : decode cc pc = .ok (.new ik, 3)) (d3 : decode cc (pc + 3) = .ok (.dup, 1)) (d4 : decode cc (pc + 4) = .ok (.ldc is, 2)) (d6 : decode cc (pc + 6) = .ok (.invokespecial ic, 3)) (d9 : decode cc (pc + 9) = .ok (.athrow, 1))
    (hR : 5 < rm.frames ∧ 90 ≤ rm.locals ∧ k + 1 ≤ rm.cells ∧ n + 6 ≤ rm.slots) (hcat : (st.map fun v => v.category).sum ≤ 8) (hpx : px cls u) : VL g X k n u pc lv st := by
  obtain ⟨p, l, e, R, s, m, args, below, meth, c, Q⟩ := X
  obtain ⟨hx, hb, hml, hown, hts, hret, hlk, hK, hZ, hs, hrm⟩ := F
  obtain ⟨⟨Qc, rfl⟩, htab, hl⟩ := G
  subst hrm
  intro H locs ls hP hS h
  obtain ⟨⟨sa, hstr⟩, hcast, hd1, hd2, hd3⟩ := hst s hK.2.2.2
  refine vx_throwS (names := ["java/lang/RuntimeException", "java/lang/Exception"]) (A := GA g) (text := text) (sa := sa) (ik := ik) (is := is) (ic := ic) hx hb hl hown hcls hnm (hts _ hk) (hts _ hini) hstr (vx_hat (fun w hw => hts w (hat1 w hw)) hat2 (vx_c (va_Nw.use rfl hcast) (vx_c (va_Nw.use rfl hd1) (vx_c (va_Nw.use rfl hd2) (vx_c (va_Nw.use rfl hd3) vx_n))))) hgood hZ.1 hZ.2 hS h.1 d0 d3 d4 d6 d9 (fun x hx => (htab x hx).elim) hR.1 (by have := hR.2.1; simp only [List.length_cons, List.length_nil]; omega) hR.2.2.1 hR.2.2.2 hlk (fun t hal hz hh => ⟨u, trivial, ⟨hpx, ?_⟩, Nat.le_trans hS.1 hz, fun q h1 h2 => (hh q (Nat.lt_of_lt_of_le h1 hS.1)).trans (hS.2.1 q h1 h2)⟩) hS.base hR.2.2.1 hR.2.2.2
  intro j q hq
  have hlt := (hP j q hq).lt
  exact (hP j q hq).kept (hh q.1 hlt)
end XROWS
section XENT
variable {g : kG} {l : Launch} {y : MethodName} {ws ws' : List Cond} {rm : Room} {av : List Value} {u : Nat → va_E} {cc : ByteArray} {nL : Nat} {px : String → (Nat → va_E) → Prop}
theorem XCI.of {ty : FieldType} {post : Int32 → (Nat → va_E) → Prop} (hfl : l.stackTraces = false) (hy : plainName y.cls = true) (hw : ws = .code y cc nL (some ty) :: ws') (hn : ∀ v u', post v u' → narrow ty (.int v) = .int v) (hlen : (lg_sl av).length ≤ nL)
    (body : ∀ X : kX, X.2.1 = l → Fx g X cc nL (some ty) ws y.cls rm → Gx g X rm px → (∀ (k n : Nat) (u' : Nat → va_E) (pc : Nat) (lv : List (Nat × Value)) (v : Int32), k ≤ rm.cells → n ≤ rm.slots → post v u' → decode cc pc = .ok (.ireturn, 1) → VL g X k n u' pc lv [.int v]) → VL g X 0 0 u 0 (lv_args 0 av) []) : XCI g l y ws rm av u post px := by
  refine vx_ofW (cc := cc) (maxL := nL) (ret := some ty) hy hw ?_
  intro p e s m args below meth c s₁ B hml htab hv
  obtain ⟨rfl, hs, hP, hK, hZ⟩ := hv
  have hl := lv_entry av (n := nL) hlen
  rw [lg_entry_eq]
  generalize (lg_sl av ++ List.replicate (nL - (lg_sl av).length) Slot.unset).toArray = ls at hl ⊢
  refine body (p, l, e, (headSpec ws rm).room, s, m, av.toArray, below, meth, c, _) rfl ⟨B.exec, B.bytes, hml, findClass_of_methodNamed B.named, atoms_spec (ws := ws) B.pre, B.returns, B.notSynchronized, hK, hZ, hs, rfl⟩ ⟨⟨_, rfl⟩, htab, hfl⟩ ?_ s.heap [] ls hP va_S.rf (by rw [hml]; exact hl)
  intro k n u' pc lv v hk hn2 hp hdg H locs ls2 hP2 hS2 _
  refine W.widen hk hn2 (vx_ret ?_)
  exact W.zret B.exec B.bytes B.returns (hn v u' hp) (fun t ht _ => ⟨⟨v, u', rfl, hp, by unfold PT; rw [ht]; exact hP2⟩, hS2.F ht⟩) hS2.base hdg B.notSynchronized
theorem XCV.of {post : (Nat → va_E) → Prop} (hfl : l.stackTraces = false) (hy : plainName y.cls = true) (hw : ws = .code y cc nL none :: ws') (hlen : (lg_sl av).length ≤ nL)
    (body : ∀ X : kX, X.2.1 = l → Fx g X cc nL none ws y.cls rm → Gx g X rm px → (∀ (k n : Nat) (u' : Nat → va_E) (pc : Nat) (lv : List (Nat × Value)), k ≤ rm.cells → n ≤ rm.slots → post u' → decode cc pc = .ok (.return_, 1) → VL g X k n u' pc lv []) → VL g X 0 0 u 0 (lv_args 0 av) []) : XCV g l y ws rm av u post px := by
  refine vx_ofW (cc := cc) (maxL := nL) (ret := none) hy hw ?_
  intro p e s m args below meth c s₁ B hml htab hv
  obtain ⟨rfl, hs, hP, hK, hZ⟩ := hv
  have hl := lv_entry av (n := nL) hlen
  rw [lg_entry_eq]
  generalize (lg_sl av ++ List.replicate (nL - (lg_sl av).length) Slot.unset).toArray = ls at hl ⊢
  refine body (p, l, e, (headSpec ws rm).room, s, m, av.toArray, below, meth, c, _) rfl ⟨B.exec, B.bytes, hml, findClass_of_methodNamed B.named, atoms_spec (ws := ws) B.pre, B.returns, B.notSynchronized, hK, hZ, hs, rfl⟩ ⟨⟨_, rfl⟩, htab, hfl⟩ ?_ s.heap [] ls hP va_S.rf (by rw [hml]; exact hl)
  intro k n u' pc lv hk hn2 hp hdg H locs ls2 hP2 hS2 _
  refine W.widen hk hn2 (vx_ret ?_)
  exact W.vret B.exec B.bytes B.returns (fun t ht _ => ⟨⟨u', rfl, hp, by unfold PT; rw [ht]; exact hP2⟩, hS2.F ht⟩) hS2.base hdg B.notSynchronized
end XENT

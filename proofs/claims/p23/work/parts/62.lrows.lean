/-! THE LAW'S ROWS: rows by their addresses, a row more in the world, its script -/
/-- an int row in the world: its place, its address, its length, its numbers -/
def AR (g : kG) (u : Nat → va_E) (q a len : Nat) (f : Nat → Int32) : Prop := q < kM g ∧ g.2.1 q = a ∧ u q = .inl (g.2.2.1 0, len, .inl f)
/-- a world with a cell more -/
def kU (g : kG) (h : Nat) : kG := (g.1, fun i => if i = kM g then h else g.2.1 i, g.2.2.1, g.2.2.2.1, g.2.2.2.2 + 1)
theorem kM_U {g : kG} {h : Nat} : kM (kU g h) = kM g + 1 := rfl
theorem kU_old {g : kG} {h i : Nat} (hi : i < kM g) : (kU g h).2.1 i = g.2.1 i := if_neg (by omega)
theorem kU_new {g : kG} {h : Nat} : (kU g h).2.1 (kM g) = h := if_pos rfl
theorem kw_U {g : kG} {h : Nat} {u : Nat → va_E} : kw (kU g h) u = kw g u ++ [(h, u (kM g))] := by
  unfold kw
  rw [kM_U, List.range_succ, List.map_append, List.map_cons, List.map_nil, kU_new]
  congr 1
  refine List.map_congr_left (fun i hi => ?_)
  rw [kU_old (List.mem_range.mp hi)]
theorem kw_same {g : kG} {u u2 : Nat → va_E} (h : ∀ i, i < kM g → u2 i = u i) : kw g u2 = kw g u := by
  unfold kw
  refine List.map_congr_left (fun i hi => ?_)
  rw [h i (List.mem_range.mp hi)]
theorem AR.U {g : kG} {u : Nat → va_E} {q a len h : Nat} {f : Nat → Int32} {c : va_E} (H : AR g u q a len f) : AR (kU g h) (va_up u (kM g) c) q a len f := by
  obtain ⟨h1, h2, h3⟩ := H
  exact ⟨Nat.lt_of_lt_of_le h1 (Nat.le_succ _), (kU_old h1).trans h2, (vne (by omega)).trans h3⟩
theorem AR.new {g : kG} {u : Nat → va_E} {len h : Nat} {f : Nat → Int32} : AR (kU g h) (va_up u (kM g) (.inl (g.2.2.1 0, len, .inl f))) (kM g) h len f := ⟨Nat.lt_succ_self _, kU_new, veq⟩
theorem AR.keep {g : kG} {u u' : Nat → va_E} {q a len : Nat} {f : Nat → Int32} (H : AR g u q a len f) (h : u' q = u q) : AR g u' q a len f := ⟨H.1, H.2.1, h.trans H.2.2⟩
theorem AR.up {g : kG} {u : Nat → va_E} {q q' a len : Nat} {f : Nat → Int32} {c : va_E} (H : AR g u q a len f) (h : q ≠ q') : AR g (va_up u q' c) q a len f := H.keep (vne h)
theorem AR.set {g : kG} {u : Nat → va_E} {q a len : Nat} {f f' : Nat → Int32} (H : AR g u q a len f) : AR g (va_up u q (.inl (g.2.2.1 0, len, .inl f'))) q a len f' := ⟨H.1, H.2.1, veq⟩
theorem gOK_D {g : kG} {u : Nat → va_E} (h : va_D (GA g) (kw g u)) : gOK g :=
  ⟨fun i j hi hj e => h.1 i j _ _ (kw_getM (u := u) hi) (kw_getM hj) e, fun i hi => h.2 i _ (kw_getM (u := u) hi)⟩
theorem XCI.ci {g : kG} {l : Launch} {y : MethodName} {ws : List Cond} {rm : Room} {av : List Value} {u : Nat → va_E} {post : Int32 → (Nat → va_E) → Prop} {px : String → (Nat → va_E) → Prop} (h : XCI g l y ws rm av u post px) (hx : ∀ E u', ¬ px E u') : CI g l y ws rm av u post := by
  intro p e ha hc hk s m args below hf happ hP hK
  obtain ⟨n, o, h1, h2, h3, h4⟩ := h p e ha hc hk s m args below hf happ hP hK
  refine ⟨n, o, h1, h2, h3, ?_⟩
  rcases h4 with h4 | ⟨q, -, E, ce, L, h5, -⟩
  · exact h4
  · obtain ⟨u', -, ⟨h6, -⟩, -⟩ := h5
    exact (hx E u' h6).elim
section AROWS
variable {g : kG} {X : kX} {k n : Nat} {u : Nat → va_E} {pc : Nat} {lv lv' : List (Nat × Value)} {st : List Value} {cc : ByteArray} {nL : Nat} {ret : Option FieldType} {ws : List Cond} {own : String} {rm : Room}
theorem r_ialdA (F : Fx g X cc nL ret ws own rm) {q0 a len : Nat} {f : Nat → Int32} (h : AR g u q0 a len f) {i : Int32} (hin : vp_in i len) (hdg : decode cc pc = .ok (.iaload, 1)) (kk : VL g X k n u (pc + 1) lv (.int (f i.toNatClampNeg) :: st)) : VL g X k n u pc lv (.int i :: .ref a :: st) := by
  obtain ⟨hq, rfl, he⟩ := h
  obtain ⟨p, l, e, R, s, m, args, below, meth, c, Q⟩ := X
  obtain ⟨hx, hb, hml, hown, hts, hret, hlk, hK, hZ, hs, hrm⟩ := F
  intro H locs ls hP hS h
  exact va_iald hx hb hK.1 hP q0 0 ((kw_getM hq).trans (by rw [he])) rfl hin hdg (kk H locs ls hP hS h)
theorem r_iastA (F : Fx g X cc nL ret ws own rm) {q0 a len : Nat} {f : Nat → Int32} (h : AR g u q0 a len f) {i x : Int32} (hin : vp_in i len) (hdg : decode cc pc = .ok (.iastore, 1)) (kk : ∀ u' : Nat → va_E, u' = va_up u q0 (.inl (g.2.2.1 0, len, .inl (upd f i.toNatClampNeg x))) → VL g X k n u' (pc + 1) lv st) : VL g X k n u pc lv (.int x :: .int i :: .ref a :: st) := by
  obtain ⟨hq, rfl, he⟩ := h
  obtain ⟨p, l, e, R, s, m, args, below, meth, c, Q⟩ := X
  obtain ⟨hx, hb, hml, hown, hts, hret, hlk, hK, hZ, hs, hrm⟩ := F
  intro H locs ls hP hS h
  refine va_iast hx hb hK.1 hP (kw_D hK.2.2.1 u) hS q0 0 ((kw_getM hq).trans (by rw [he])) rfl hin hdg (fun H1 locs1 hP1 _ hS1 => ?_)
  rw [kw_set] at hP1
  exact kk _ rfl H1 locs1 ls hP1 hS1 h
/-- a row is made -/
theorem r_newA (F : Fx g X cc nL ret ws own rm) {N : Nat} {x : Int32} (harr : Cond.arrayClass .int ∈ ws) (hx0 : ¬ x < 0) (hxN : x.toNatClampNeg = N) (hbytes : N * componentBytes .int ≤ 536870912) (hk : k + 1 ≤ rm.cells ∧ n + N ≤ rm.slots) (hdg : decode cc pc = .ok (.newarray .int, 2)) (kk : ∀ h : Nat, Fx (kU g h) X cc nL ret ws own rm → VL (kU g h) X (k + 1) (n + N) (va_up u (kM g) (.inl (g.2.2.1 0, N, .inl (fun _ => 0)))) (pc + 2) lv (.ref h :: st)) : VL g X k n u pc lv (.int x :: st) := by
  obtain ⟨p, l, e, R, s, m, args, below, meth, c, Q⟩ := X
  obtain ⟨hx, hb, hml, hown, hts, hret, hlk, hK, hZ, hs, hrm⟩ := id F
  intro H locs ls hP hS h
  subst hrm
  refine va_newa (atype := .int) (ty := .int) (N' := N) (a0 := (N, .inl (fun _ => 0))) hx hb (hts (.arrayClass .int) harr) rfl hK.1 hP (kw_D hK.2.2.1 u) hS (fun q hq => Nat.le_trans hs hq) (fun _ => rfl) hx0 hxN hbytes hk.1 hk.2 hdg (fun q cA H1 hK1 hP1 hD1 hS1 => ?_)
  have e0 : cA = g.2.2.1 0 := va_RA.one (hK1.2 3 _ rfl).2 (hK.1.2 0 _ rfl).2
  subst e0
  have ew : kw (kU g q) (va_up u (kM g) (.inl (g.2.2.1 0, N, .inl (fun _ => 0)))) = kw g u ++ [(q, .inl (g.2.2.1 0, N, .inl (fun _ => 0)))] := by
    rw [kw_U, veq, kw_same (u := u) (fun i hi => vne (by omega))]
  refine kk q ⟨hx, hb, hml, hown, hts, hret, hlk, ⟨hK.1, hK.2.1, gOK_D (u := va_up u (kM g) (.inl (g.2.2.1 0, N, .inl (fun _ => 0)))) ?_, hK.2.2.2⟩, hZ, hs, rfl⟩ H1 locs ls ?_ hS1 h
  · rw [ew]; exact hD1
  · rw [ew]; exact hP1
/-- the made row is left behind -/
theorem r_down {h : Nat} {u2 : Nat → va_E} (hu : ∀ i, i < kM g → u2 i = u i) (kk : VL g X k n u pc lv st) : VL (kU g h) X k n u2 pc lv st := by
  obtain ⟨p, l, e, R, s, m, args, below, meth, c, Q⟩ := X
  intro H locs ls hP hS hl
  refine kk H locs ls (fun j q hq => hP j q ?_) hS hl
  rw [kw_U, kw_same hu, List.getElem?_append_left (List.getElem?_eq_some_iff.mp hq).1]
  exact hq
theorem r_irem (F : Fx g X cc nL ret ws own rm) {x y v : Int32} (hne : ¬ y = 0) (hv : x - x / y * y = v) (hdg : decode cc pc = .ok (.irem, 1)) (kk : VL g X k n u (pc + 1) lv (.int v :: st)) : VL g X k n u pc lv (.int y :: .int x :: st) := by
  obtain ⟨p, l, e, R, s, m, args, below, meth, c, Q⟩ := X
  obtain ⟨hx, hb, -⟩ := F
  intro H locs ls hP hS h
  subst hv
  exact lv_irem hx hb hdg hne (kk H locs ls hP hS h)
end AROWS
/-! the script -/
def Sx (g : kG) (X : kX) (b L : Nat) (xs : Nat → Int32) : Prop :=
  match X with
  | (p, l, e, R, s, m, args, below, meth, c, Q) => va_X b L xs s s.heap ∧ b < s.heap.size ∧ ¬ GA g b
def SK (g : kG) (b L : Nat) (xs : Nat → Int32) (U : State) : Prop := va_X b L xs U U.heap ∧ b < U.heap.size ∧ ¬ GA g b
theorem WS.blind {g : kG} {u : Nat → va_E} {av : List Value} {b L : Nat} {xs : Nat → Int32} : FrameBlind (va_Pc av (fun U => WB g u U ∧ SK g b L xs U)) := by
  intro a U fr mk h
  obtain ⟨h0, h1, h2⟩ := h
  obtain ⟨q0, q1⟩ := WB.blind (g := g) (u := u) (av := av) a U fr mk ⟨h0, h1⟩
  exact ⟨q0, q1, h2.1.moved (Vm.Alike.refl _), h2.2⟩
/-- a method that reads the script and makes nothing -/
def CS (g : kG) (l : Launch) (y : MethodName) (ws : List Cond) (rm : Room) (av : List Value) (u : Nat → va_E) (b L : Nat) (xs : Nat → Int32) (post : Int32 → (Nat → va_E) → Prop) : Prop :=
  Met l y ws rm (va_Pc av (fun U => WB g u U ∧ SK g b L xs U)) (va_Qi post (PT g) (GA g)) rm.cells rm.slots (GA g)
section SROWS
variable {g : kG} {X : kX} {k n : Nat} {u : Nat → va_E} {pc : Nat} {lv lv' : List (Nat × Value)} {st : List Value} {cc : ByteArray} {nL : Nat} {ret : Option FieldType} {ws : List Cond} {own : String} {rm : Room}
variable {st0 rest : List Value} {b L : Nat} {xs : Nat → Int32}
theorem r_sld (F : Fx g X cc nL ret ws own rm) (T : Sx g X b L xs) {i : Int32} (hin : vp_in i L) (hdg : decode cc pc = .ok (.iaload, 1)) (kk : VL g X k n u (pc + 1) lv (.int (xs i.toNatClampNeg) :: st)) : VL g X k n u pc lv (.int i :: .ref b :: st) := by
  obtain ⟨p, l, e, R, s, m, args, below, meth, c, Q⟩ := X
  obtain ⟨hx, hb, -⟩ := F
  obtain ⟨t1, t2, t3⟩ := T
  intro H locs ls hP hS h
  exact va_sld hx hb t1 t2 t3 hS hin hdg (kk H locs ls hP hS h)
theorem r_slen (F : Fx g X cc nL ret ws own rm) (T : Sx g X b L xs) (hdg : decode cc pc = .ok (.arraylength, 1)) (kk : VL g X k n u (pc + 1) lv (.int (nI L) :: st)) : VL g X k n u pc lv (.ref b :: st) := by
  obtain ⟨p, l, e, R, s, m, args, below, meth, c, Q⟩ := X
  obtain ⟨hx, hb, -⟩ := F
  obtain ⟨t1, t2, t3⟩ := T
  intro H locs ls hP hS h
  exact va_slen hx hb t1 t2 t3 hS hdg (kk H locs ls hP hS h)
theorem g_SS (F : Fx g X cc nL ret ws own rm) (T : Sx g X b L xs) {y : MethodName} {cy : ByteArray} {maxL index nA : Nat} {ret' : Option FieldType} {ws' ws'' : List Cond} {rm' : Room} {Qc : Array Value → State → Outcome → State → Prop} {As : List Value} (hM : Met X.2.1 y ws' rm' (va_Pc As (fun U => WB g u U ∧ SK g b L xs U)) Qc rm'.cells rm'.slots (GA g)) (hG : GoodIn ws (va_wsS own index y ws')) (hw : ws' = Cond.code y cy maxL ret' :: ws'') (hd : y.cls ≠ "java/lang/invoke/MethodHandle" ∧ y.cls ≠ "java/lang/invoke/VarHandle" ∧ (parseMethodDescriptor y.desc).map (fun d => d.parameters.length) = some nA) (hn : As.length = nA) (hR : rm'.frames + 1 ≤ rm.frames ∧ 8 + (maxL + 11) + rm'.locals ≤ rm.locals) (hf : k + rm'.cells ≤ rm.cells ∧ n + rm'.slots ≤ rm.slots) (hst : st0 = As.reverse ++ rest) (hcat : (rest.map fun v => v.category).sum ≤ 8) (hdg : decode cc pc = .ok (.invokestatic index, 3)) : RG g X k n u pc lv st0 rest rm'.cells rm'.slots (Qc As.toArray) := by
  obtain ⟨p, l, e, R, s, m, args, below, meth, c, Q⟩ := X
  obtain ⟨hx, hb, hml, hown, hts, hret, hlk, hK, hZ, hs, hrm⟩ := F
  obtain ⟨t1, t2, t3⟩ := T
  intro H locs ls hP hS h
  subst hrm
  refine va_runS ⟨hx, hb, hml, hown, hts⟩ hM (va_cwS nA hts hG hw rfl rfl hd hR) ⟨WS.blind, fun U hU hW => ⟨rfl, WB.at hs hK hZ hP hS hU hW, ?_⟩⟩ rfl hn (h.1.trans hml) hst (lv_room hcat) hdg hf
  refine ⟨?_, ?_, t3⟩
  · rw [hU]
    exact (t1.kept (hS.2.1 b t2 t3)).moved hW.alike
  · rw [hU]
    exact Nat.lt_of_lt_of_le t2 hS.1
theorem CS.of {l : Launch} {y : MethodName} {ws' : List Cond} {av : List Value} {ty : FieldType} {post : Int32 → (Nat → va_E) → Prop} (hy : plainName y.cls = true) (hw : ws = .code y cc nL (some ty) :: ws') (hn : ∀ v u', post v u' → narrow ty (.int v) = .int v) (hlen : (lg_sl av).length ≤ nL)
    (body : ∀ X : kX, X.2.1 = l → Fx g X cc nL (some ty) ws y.cls rm → Sx g X b L xs → (∀ (k n : Nat) (u' : Nat → va_E) (pc : Nat) (lv : List (Nat × Value)) (v : Int32), k ≤ rm.cells → n ≤ rm.slots → post v u' → decode cc pc = .ok (.ireturn, 1) → VL g X k n u' pc lv [.int v]) → VL g X 0 0 u 0 (lv_args 0 av) []) : CS g l y ws rm av u b L xs post := by
  refine Met.ofW (cc := cc) (maxL := nL) (ret := some ty) hy hw ?_
  intro p e s m args below meth c s₁ B hml hv
  obtain ⟨rfl, ⟨hs, hP, hK, hZ⟩, hT⟩ := hv
  have hl := lv_entry av (n := nL) hlen
  rw [lg_entry_eq]
  generalize (lg_sl av ++ List.replicate (nL - (lg_sl av).length) Slot.unset).toArray = ls at hl ⊢
  refine body (p, l, e, (headSpec ws rm).room, s, m, av.toArray, below, meth, c, _) rfl ⟨B.exec, B.bytes, hml, findClass_of_methodNamed B.named, atoms_spec (ws := ws) B.pre, B.returns, B.notSynchronized, hK, hZ, hs, rfl⟩ hT ?_ s.heap [] ls hP va_S.rf (by rw [hml]; exact hl)
  intro k n u' pc lv v hk hn2 hp hdg H locs ls2 hP2 hS2 _
  refine W.widen hk hn2 ?_
  exact W.zret B.exec B.bytes B.returns (hn v u' hp) (fun t ht _ => ⟨⟨v, u', rfl, hp, by unfold PT; rw [ht]; exact hP2⟩, hS2.F ht⟩) hS2.base hdg B.notSynchronized
end SROWS
theorem r_lvq {g : kG} {X : kX} {k n : Nat} {u : Nat → va_E} {pc : Nat} {lv lv2 : List (Nat × Value)} {st : List Value} (h : lv = lv2) (kk : VL g X k n u pc lv2 st) : VL g X k n u pc lv st := by subst h; exact kk

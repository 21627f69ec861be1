/-! THE LAW'S ROWS: its script, its catchers -/
def Sx (g : kG) (X : kX) (b L : Nat) (xs : Nat → Int32) : Prop :=
  match X with
  | (p, l, e, R, s, m, args, below, meth, c, Q) => va_X b L xs s s.heap ∧ b < s.heap.size ∧ ¬ GA g b ∧ EC s
theorem WE.blind {g : kG} {u : Nat → va_E} {av : List Value} : FrameBlind (va_Pc av (fun U => WB g u U ∧ EC U)) := by
  intro a U fr mk h
  obtain ⟨h0, h1, h2⟩ := h
  obtain ⟨q0, q1⟩ := WB.blind (g := g) (u := u) (av := av) a U fr mk ⟨h0, h1⟩
  exact ⟨q0, q1, h2.moved (Vm.Alike.refl _)⟩
section LROWS
variable {g : kG} {X : kX} {k n : Nat} {u : Nat → va_E} {pc : Nat} {lv lv' : List (Nat × Value)} {st : List Value} {cc : ByteArray} {nL : Nat} {ret : Option FieldType} {ws : List Cond} {own : String} {rm : Room}
variable {st0 rest : List Value} {b L : Nat} {xs : Nat → Int32}
theorem r_sld (F : Fx g X cc nL ret ws own rm) (T : Sx g X b L xs) {i : Int32} (hin : vp_in i L) (hdg : decode cc pc = .ok (.iaload, 1)) (kk : VL g X k n u (pc + 1) lv (.int (xs i.toNatClampNeg) :: st)) : VL g X k n u pc lv (.int i :: .ref b :: st) := by
  obtain ⟨p, l, e, R, s, m, args, below, meth, c, Q⟩ := X
  obtain ⟨hx, hb, -⟩ := F
  obtain ⟨t1, t2, t3, -⟩ := T
  intro H locs ls hP hS h
  exact va_sld hx hb t1 t2 t3 hS hin hdg (kk H locs ls hP hS h)
theorem r_slen (F : Fx g X cc nL ret ws own rm) (T : Sx g X b L xs) (hdg : decode cc pc = .ok (.arraylength, 1)) (kk : VL g X k n u (pc + 1) lv (.int (nI L) :: st)) : VL g X k n u pc lv (.ref b :: st) := by
  obtain ⟨p, l, e, R, s, m, args, below, meth, c, Q⟩ := X
  obtain ⟨hx, hb, -⟩ := F
  obtain ⟨t1, t2, t3, -⟩ := T
  intro H locs ls hP hS h
  exact va_slen hx hb t1 t2 t3 hS hdg (kk H locs ls hP hS h)
theorem g_CS (F : Fx g X cc nL ret ws own rm) (T : Sx g X b L xs) {y : MethodName} {cy : ByteArray} {maxL index nA : Nat} {ret' : Option FieldType} {hh : List (Nat × Nat × Nat × Nat)} {ws' ws'' : List Cond} {rm' : Room} {Qc : Array Value → State → Outcome → State → Prop} {As : List Value} (hM : Met X.2.1 y ws' rm' (va_Pc As (fun U => WB g u U ∧ EC U)) Qc rm'.cells rm'.slots (GA g)) (hG : GoodIn ws (va_wsS own index y ws')) (hw : ws' = Cond.codeWith y cy maxL ret' hh :: ws'') (hd : y.cls ≠ "java/lang/invoke/MethodHandle" ∧ y.cls ≠ "java/lang/invoke/VarHandle" ∧ (parseMethodDescriptor y.desc).map (fun d => d.parameters.length) = some nA) (hn : As.length = nA) (hR : rm'.frames + 1 ≤ rm.frames ∧ 8 + (maxL + 11) + rm'.locals ≤ rm.locals) (hf : k + rm'.cells ≤ rm.cells ∧ n + rm'.slots ≤ rm.slots) (hst : st0 = As.reverse ++ rest) (hcat : (rest.map fun v => v.category).sum ≤ 8) (hdg : decode cc pc = .ok (.invokestatic index, 3)) : RG g X k n u pc lv st0 rest rm'.cells rm'.slots (Qc As.toArray) := by
  obtain ⟨p, l, e, R, s, m, args, below, meth, c, Q⟩ := X
  obtain ⟨hx, hb, hml, hown, hts, hret, hlk, hK, hZ, hs, hrm⟩ := F
  obtain ⟨-, -, -, hec⟩ := T
  intro H locs ls hP hS h
  subst hrm
  exact vx_runSW ⟨hx, hb, hml, hown, hts⟩ hM (vx_cwSW nA hts hG hw rfl rfl hd hR) ⟨WE.blind, fun U hU hW => ⟨rfl, WB.at hs hK hZ hP hS hU hW, hec.moved hW.alike⟩⟩ rfl hn (h.1.trans hml) hst (lv_room hcat) hdg hf
end LROWS
theorem lg_cmp0 (x : Int64) : lg_cmp x x = 0 := by
  unfold lg_cmp
  simp

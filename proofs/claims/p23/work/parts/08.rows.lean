/-! THE ROWS over VL -/
/-- Math.min -/
def minI (a b : Int32) : Int32 := if b < a then b else a
/-- the locals, by their slots in order -/
def lvins (lv : List (Nat × Value)) (i : Nat) (v : Value) : List (Nat × Value) :=
  lv.filter (fun q => decide (q.1 < i) && !(q.1 + 1 == i && q.2.category == 2)) ++ (i, v) :: lv.filter (fun q => decide (i < q.1) && !(q.1 == i + 1 && v.category == 2))
theorem lvins_mem {lv : List (Nat × Value)} {i : Nat} {v : Value} {q : Nat × Value} (h : q ∈ lvins lv i v) : q = (i, v) ∨ (q ∈ lv ∧ (q.1 == i) = false ∧ (q.1 + 1 == i && q.2.category == 2) = false ∧ (q.1 == i + 1 && v.category == 2) = false) := by
  unfold lvins at h
  rcases List.mem_append.mp h with h | h
  · obtain ⟨h1, h2⟩ := List.mem_filter.mp h
    simp only [Bool.and_eq_true, decide_eq_true_eq, Bool.not_eq_true'] at h2
    refine Or.inr ⟨h1, beq_eq_false_iff_ne.mpr (by omega), h2.2, ?_⟩
    rw [show (q.1 == i + 1) = false from beq_eq_false_iff_ne.mpr (by omega)]; rfl
  · rcases List.mem_cons.mp h with h | h
    · exact Or.inl h
    · obtain ⟨h1, h2⟩ := List.mem_filter.mp h
      simp only [Bool.and_eq_true, decide_eq_true_eq, Bool.not_eq_true'] at h2
      refine Or.inr ⟨h1, beq_eq_false_iff_ne.mpr (by omega), ?_, h2.2⟩
      rw [show (q.1 + 1 == i) = false from beq_eq_false_iff_ne.mpr (by omega)]; rfl
theorem lvins_has1 {ls : Array Slot} {nL : Nat} {lv : List (Nat × Value)} {i : Nat} {v : Value} (hc : v.category = 1) (h : lv_has ls nL ((i, v) :: lv.filter (fun q => !(q.1 == i) && !(q.1 + 1 == i && q.2.category == 2)))) : lv_has ls nL (lvins lv i v) := by
  refine ⟨h.1, h.2.1, fun q hq => h.2.2 q ?_⟩
  rcases lvins_mem hq with rfl | ⟨h1, h2, h3, h4⟩
  · exact List.mem_cons_self
  · exact List.mem_cons_of_mem _ (List.mem_filter.mpr ⟨h1, by rw [h2, h3]; rfl⟩)
theorem lvins_has2 {ls : Array Slot} {nL : Nat} {lv : List (Nat × Value)} {i : Nat} {v : Value} (hc : v.category = 2) (h : lv_has ls nL ((i, v) :: lv.filter (fun q => !(q.1 == i) && (!(q.1 == i + 1) && !(q.1 + 1 == i && q.2.category == 2))))) : lv_has ls nL (lvins lv i v) := by
  refine ⟨h.1, h.2.1, fun q hq => h.2.2 q ?_⟩
  rcases lvins_mem hq with rfl | ⟨h1, h2, h3, h4⟩
  · exact List.mem_cons_self
  · have h5 : (q.1 == i + 1) = false := by
      rw [hc] at h4
      simpa using h4
    exact List.mem_cons_of_mem _ (List.mem_filter.mpr ⟨h1, by rw [h2, h3, h5]; rfl⟩)
section ROWS
variable {g : kG} {X : kX} {k n : Nat} {u : Nat → va_E} {pc : Nat} {lv lv' : List (Nat × Value)} {st : List Value} {cc : ByteArray} {nL : Nat} {ret : Option FieldType} {ws : List Cond} {own : String} {rm : Room}
theorem r_eq {st2 : List Value} {pc2 : Nat} (h : st = st2) (hp : pc = pc2) (kk : VL g X k n u pc2 lv st2) : VL g X k n u pc lv st := by subst h; subst hp; exact kk
theorem r_lv {lv2 : List (Nat × Value)} (h : ∀ q ∈ lv2, q ∈ lv) (kk : VL g X k n u pc lv2 st) : VL g X k n u pc lv st := by
  obtain ⟨p, l, e, R, s, m, args, below, meth, c, Q⟩ := X
  intro H locs ls hP hS hl
  exact kk H locs ls hP hS ⟨hl.1, hl.2.1, fun q hq => hl.2.2 q (h q hq)⟩
theorem r_iload_n (F : Fx g X cc nL ret ws own rm) {j : Fin 4} {x : Int32} (q : Nat) (hl : lv[q]? = some ((j : Nat), .int x)) (hdg : decode cc pc = .ok (.iload_n j, 1)) (kk : VL g X k n u (pc + 1) lv (.int x :: st)) : VL g X k n u pc lv st := by
  obtain ⟨p, l, e, R, s, m, args, below, meth, c, Q⟩ := X
  obtain ⟨hx, hb, -⟩ := F
  intro H locs ls hP hS h
  exact lv_iload_n hx hb hdg rfl (lv_at h q hl) (kk H locs ls hP hS h)
theorem r_iload (F : Fx g X cc nL ret ws own rm) {i : Nat} {x : Int32} (q : Nat) (hl : lv[q]? = some (i, .int x)) (hdg : decode cc pc = .ok (.iload i, 2)) (kk : VL g X k n u (pc + 2) lv (.int x :: st)) : VL g X k n u pc lv st := by
  obtain ⟨p, l, e, R, s, m, args, below, meth, c, Q⟩ := X
  obtain ⟨hx, hb, -⟩ := F
  intro H locs ls hP hS h
  exact lv_iload hx hb hdg (lv_at h q hl) (kk H locs ls hP hS h)
theorem r_lload_n (F : Fx g X cc nL ret ws own rm) {j : Fin 4} {x : Int64} (q : Nat) (hl : lv[q]? = some ((j : Nat), .long x)) (hdg : decode cc pc = .ok (.lload_n j, 1)) (kk : VL g X k n u (pc + 1) lv (.long x :: st)) : VL g X k n u pc lv st := by
  obtain ⟨p, l, e, R, s, m, args, below, meth, c, Q⟩ := X
  obtain ⟨hx, hb, -⟩ := F
  intro H locs ls hP hS h
  exact lv_lload_n hx hb hdg rfl (lv_at h q hl) (kk H locs ls hP hS h)
theorem r_lload (F : Fx g X cc nL ret ws own rm) {i : Nat} {x : Int64} (q : Nat) (hl : lv[q]? = some (i, .long x)) (hdg : decode cc pc = .ok (.lload i, 2)) (kk : VL g X k n u (pc + 2) lv (.long x :: st)) : VL g X k n u pc lv st := by
  obtain ⟨p, l, e, R, s, m, args, below, meth, c, Q⟩ := X
  obtain ⟨hx, hb, -⟩ := F
  intro H locs ls hP hS h
  exact lv_lload hx hb hdg (lv_at h q hl) (kk H locs ls hP hS h)
theorem r_dload_n (F : Fx g X cc nL ret ws own rm) {j : Fin 4} {x : UInt64} (q : Nat) (hl : lv[q]? = some ((j : Nat), .double x)) (hdg : decode cc pc = .ok (.dload_n j, 1)) (kk : VL g X k n u (pc + 1) lv (.double x :: st)) : VL g X k n u pc lv st := by
  obtain ⟨p, l, e, R, s, m, args, below, meth, c, Q⟩ := X
  obtain ⟨hx, hb, -⟩ := F
  intro H locs ls hP hS h
  exact lv_dload_n hx hb hdg rfl (lv_at h q hl) (kk H locs ls hP hS h)
theorem r_dload (F : Fx g X cc nL ret ws own rm) {i : Nat} {x : UInt64} (q : Nat) (hl : lv[q]? = some (i, .double x)) (hdg : decode cc pc = .ok (.dload i, 2)) (kk : VL g X k n u (pc + 2) lv (.double x :: st)) : VL g X k n u pc lv st := by
  obtain ⟨p, l, e, R, s, m, args, below, meth, c, Q⟩ := X
  obtain ⟨hx, hb, -⟩ := F
  intro H locs ls hP hS h
  exact lv_dload hx hb hdg (lv_at h q hl) (kk H locs ls hP hS h)
theorem r_aload_n (F : Fx g X cc nL ret ws own rm) {j : Fin 4} {x : Nat} (q : Nat) (hl : lv[q]? = some ((j : Nat), .ref x)) (hdg : decode cc pc = .ok (.aload_n j, 1)) (kk : VL g X k n u (pc + 1) lv (.ref x :: st)) : VL g X k n u pc lv st := by
  obtain ⟨p, l, e, R, s, m, args, below, meth, c, Q⟩ := X
  obtain ⟨hx, hb, -⟩ := F
  intro H locs ls hP hS h
  exact lv_aload_n hx hb hdg rfl (lv_at h q hl) (kk H locs ls hP hS h)
theorem r_aload (F : Fx g X cc nL ret ws own rm) {i : Nat} {x : Nat} (q : Nat) (hl : lv[q]? = some (i, .ref x)) (hdg : decode cc pc = .ok (.aload i, 2)) (kk : VL g X k n u (pc + 2) lv (.ref x :: st)) : VL g X k n u pc lv st := by
  obtain ⟨p, l, e, R, s, m, args, below, meth, c, Q⟩ := X
  obtain ⟨hx, hb, -⟩ := F
  intro H locs ls hP hS h
  exact lv_aload hx hb hdg (lv_at h q hl) (kk H locs ls hP hS h)
theorem r_istore_n (F : Fx g X cc nL ret ws own rm) {j : Fin 4} {x : Int32} (hn : (j : Nat) < nL) (hl : lvins lv j (.int x) = lv') (hdg : decode cc pc = .ok (.istore_n j, 1)) (kk : VL g X k n u (pc + 1) lv' st) : VL g X k n u pc lv (.int x :: st) := by
  obtain ⟨p, l, e, R, s, m, args, below, meth, c, Q⟩ := X
  obtain ⟨hx, hb, hml, -⟩ := F
  intro H locs ls hP hS h
  exact lv_istore_n hx hb hdg rfl h (hml ▸ hn) rfl (fun ls' h' => kk H locs ls' hP hS (hl ▸ lvins_has1 rfl h'))
theorem r_istore (F : Fx g X cc nL ret ws own rm) {i : Nat} {x : Int32} (hn : i < nL) (hl : lvins lv i (.int x) = lv') (hdg : decode cc pc = .ok (.istore i, 2)) (kk : VL g X k n u (pc + 2) lv' st) : VL g X k n u pc lv (.int x :: st) := by
  obtain ⟨p, l, e, R, s, m, args, below, meth, c, Q⟩ := X
  obtain ⟨hx, hb, hml, -⟩ := F
  intro H locs ls hP hS h
  exact lv_istore hx hb hdg h (hml ▸ hn) rfl (fun ls' h' => kk H locs ls' hP hS (hl ▸ lvins_has1 rfl h'))
theorem r_astore_n (F : Fx g X cc nL ret ws own rm) {j : Fin 4} {x : Nat} (hn : (j : Nat) < nL) (hl : lvins lv j (.ref x) = lv') (hdg : decode cc pc = .ok (.astore_n j, 1)) (kk : VL g X k n u (pc + 1) lv' st) : VL g X k n u pc lv (.ref x :: st) := by
  obtain ⟨p, l, e, R, s, m, args, below, meth, c, Q⟩ := X
  obtain ⟨hx, hb, hml, -⟩ := F
  intro H locs ls hP hS h
  exact lv_astore_n hx hb hdg rfl h (hml ▸ hn) rfl (fun ls' h' => kk H locs ls' hP hS (hl ▸ lvins_has1 rfl h'))
theorem r_astore (F : Fx g X cc nL ret ws own rm) {i : Nat} {x : Nat} (hn : i < nL) (hl : lvins lv i (.ref x) = lv') (hdg : decode cc pc = .ok (.astore i, 2)) (kk : VL g X k n u (pc + 2) lv' st) : VL g X k n u pc lv (.ref x :: st) := by
  obtain ⟨p, l, e, R, s, m, args, below, meth, c, Q⟩ := X
  obtain ⟨hx, hb, hml, -⟩ := F
  intro H locs ls hP hS h
  exact lv_astore hx hb hdg h (hml ▸ hn) rfl (fun ls' h' => kk H locs ls' hP hS (hl ▸ lvins_has1 rfl h'))
theorem r_lstore_n (F : Fx g X cc nL ret ws own rm) {j : Fin 4} {x : Int64} (hn : (j : Nat) + 1 < nL) (hl : lvins lv j (.long x) = lv') (hdg : decode cc pc = .ok (.lstore_n j, 1)) (kk : VL g X k n u (pc + 1) lv' st) : VL g X k n u pc lv (.long x :: st) := by
  obtain ⟨p, l, e, R, s, m, args, below, meth, c, Q⟩ := X
  obtain ⟨hx, hb, hml, -⟩ := F
  intro H locs ls hP hS h
  exact lv_lstore_n hx hb hdg rfl h (hml ▸ hn) rfl (fun ls' h' => kk H locs ls' hP hS (hl ▸ lvins_has2 rfl h'))
theorem r_lstore (F : Fx g X cc nL ret ws own rm) {i : Nat} {x : Int64} (hn : i + 1 < nL) (hl : lvins lv i (.long x) = lv') (hdg : decode cc pc = .ok (.lstore i, 2)) (kk : VL g X k n u (pc + 2) lv' st) : VL g X k n u pc lv (.long x :: st) := by
  obtain ⟨p, l, e, R, s, m, args, below, meth, c, Q⟩ := X
  obtain ⟨hx, hb, hml, -⟩ := F
  intro H locs ls hP hS h
  exact lv_lstore hx hb hdg h (hml ▸ hn) rfl (fun ls' h' => kk H locs ls' hP hS (hl ▸ lvins_has2 rfl h'))
theorem r_dstore_n (F : Fx g X cc nL ret ws own rm) {j : Fin 4} {x : UInt64} (hn : (j : Nat) + 1 < nL) (hl : lvins lv j (.double x) = lv') (hdg : decode cc pc = .ok (.dstore_n j, 1)) (kk : VL g X k n u (pc + 1) lv' st) : VL g X k n u pc lv (.double x :: st) := by
  obtain ⟨p, l, e, R, s, m, args, below, meth, c, Q⟩ := X
  obtain ⟨hx, hb, hml, -⟩ := F
  intro H locs ls hP hS h
  exact lv_dstore_n hx hb hdg rfl h (hml ▸ hn) rfl (fun ls' h' => kk H locs ls' hP hS (hl ▸ lvins_has2 rfl h'))
theorem r_dstore (F : Fx g X cc nL ret ws own rm) {i : Nat} {x : UInt64} (hn : i + 1 < nL) (hl : lvins lv i (.double x) = lv') (hdg : decode cc pc = .ok (.dstore i, 2)) (kk : VL g X k n u (pc + 2) lv' st) : VL g X k n u pc lv (.double x :: st) := by
  obtain ⟨p, l, e, R, s, m, args, below, meth, c, Q⟩ := X
  obtain ⟨hx, hb, hml, -⟩ := F
  intro H locs ls hP hS h
  exact lv_dstore hx hb hdg h (hml ▸ hn) rfl (fun ls' h' => kk H locs ls' hP hS (hl ▸ lvins_has2 rfl h'))
theorem r_iinc (F : Fx g X cc nL ret ws own rm) {i : Nat} {a : Int} {x v : Int32} (q : Nat) (hq : lv[q]? = some (i, .int x)) (hv : x + Int32.ofInt a = v) (hn : i < nL) (hl : lvins lv i (.int v) = lv') (hdg : decode cc pc = .ok (.iinc i a, 3)) (kk : VL g X k n u (pc + 3) lv' st) : VL g X k n u pc lv st := by
  obtain ⟨p, l, e, R, s, m, args, below, meth, c, Q⟩ := X
  obtain ⟨hx, hb, hml, -⟩ := F
  intro H locs ls hP hS h
  exact lv_iinc hx hb hdg h hq hv (hml ▸ hn) rfl (fun ls' h' => kk H locs ls' hP hS (hl ▸ lvins_has1 rfl h'))

theorem r_iconst (F : Fx g X cc nL ret ws own rm) {a : Int} {v : Int32} (hv : Int32.ofInt a = v) (hdg : decode cc pc = .ok (.iconst a, 1)) (kk : VL g X k n u (pc + 1) lv (.int v :: st)) : VL g X k n u pc lv (st) := by
  obtain ⟨p, l, e, R, s, m, args, below, meth, c, Q⟩ := X
  obtain ⟨hx, hb, hml, hown, hts, -⟩ := F
  intro H locs ls hP hS h
  exact lv_iconst hx hb hdg hv (kk H locs ls hP hS h)

theorem r_bipush (F : Fx g X cc nL ret ws own rm) {a : Int} {v : Int32} (hv : (Int8.ofInt a).toInt32 = v) (hdg : decode cc pc = .ok (.bipush a, 2)) (kk : VL g X k n u (pc + 2) lv (.int v :: st)) : VL g X k n u pc lv (st) := by
  obtain ⟨p, l, e, R, s, m, args, below, meth, c, Q⟩ := X
  obtain ⟨hx, hb, hml, hown, hts, -⟩ := F
  intro H locs ls hP hS h
  exact lv_bipush hx hb hdg hv (kk H locs ls hP hS h)

theorem r_sipush (F : Fx g X cc nL ret ws own rm) {a : Int} {v : Int32} (hv : (Int16.ofInt a).toInt32 = v) (hdg : decode cc pc = .ok (.sipush a, 3)) (kk : VL g X k n u (pc + 3) lv (.int v :: st)) : VL g X k n u pc lv (st) := by
  obtain ⟨p, l, e, R, s, m, args, below, meth, c, Q⟩ := X
  obtain ⟨hx, hb, hml, hown, hts, -⟩ := F
  intro H locs ls hP hS h
  exact lv_sipush hx hb hdg hv (kk H locs ls hP hS h)

theorem r_lconst (F : Fx g X cc nL ret ws own rm) {a : Fin 2} {v : Int64} (hv : Int64.ofNat (a : Nat) = v) (hdg : decode cc pc = .ok (.lconst a, 1)) (kk : VL g X k n u (pc + 1) lv (.long v :: st)) : VL g X k n u pc lv (st) := by
  obtain ⟨p, l, e, R, s, m, args, below, meth, c, Q⟩ := X
  obtain ⟨hx, hb, hml, hown, hts, -⟩ := F
  intro H locs ls hP hS h
  exact lv_lconst hx hb hdg hv (kk H locs ls hP hS h)

theorem r_dconst0 (F : Fx g X cc nL ret ws own rm)   (hdg : decode cc pc = .ok (.dconst 0, 1)) (kk : VL g X k n u (pc + 1) lv (.double FP.dconst0 :: st)) : VL g X k n u pc lv (st) := by
  obtain ⟨p, l, e, R, s, m, args, below, meth, c, Q⟩ := X
  obtain ⟨hx, hb, hml, hown, hts, -⟩ := F
  intro H locs ls hP hS h
  exact lv_dconst0 hx hb hdg (kk H locs ls hP hS h)

theorem r_dconst1 (F : Fx g X cc nL ret ws own rm)   (hdg : decode cc pc = .ok (.dconst 1, 1)) (kk : VL g X k n u (pc + 1) lv (.double FP.dconst1 :: st)) : VL g X k n u pc lv (st) := by
  obtain ⟨p, l, e, R, s, m, args, below, meth, c, Q⟩ := X
  obtain ⟨hx, hb, hml, hown, hts, -⟩ := F
  intro H locs ls hP hS h
  exact lv_dconst1 hx hb hdg (kk H locs ls hP hS h)

theorem r_iadd (F : Fx g X cc nL ret ws own rm) {x y : Int32}  (hdg : decode cc pc = .ok (.iadd, 1)) (kk : VL g X k n u (pc + 1) lv (.int (x + y) :: st)) : VL g X k n u pc lv (.int y :: .int x :: st) := by
  obtain ⟨p, l, e, R, s, m, args, below, meth, c, Q⟩ := X
  obtain ⟨hx, hb, hml, hown, hts, -⟩ := F
  intro H locs ls hP hS h
  exact lv_iadd hx hb hdg (kk H locs ls hP hS h)

theorem r_isub (F : Fx g X cc nL ret ws own rm) {x y : Int32}  (hdg : decode cc pc = .ok (.isub, 1)) (kk : VL g X k n u (pc + 1) lv (.int (x - y) :: st)) : VL g X k n u pc lv (.int y :: .int x :: st) := by
  obtain ⟨p, l, e, R, s, m, args, below, meth, c, Q⟩ := X
  obtain ⟨hx, hb, hml, hown, hts, -⟩ := F
  intro H locs ls hP hS h
  exact lv_isub hx hb hdg (kk H locs ls hP hS h)

theorem r_imul (F : Fx g X cc nL ret ws own rm) {x y : Int32}  (hdg : decode cc pc = .ok (.imul, 1)) (kk : VL g X k n u (pc + 1) lv (.int (x * y) :: st)) : VL g X k n u pc lv (.int y :: .int x :: st) := by
  obtain ⟨p, l, e, R, s, m, args, below, meth, c, Q⟩ := X
  obtain ⟨hx, hb, hml, hown, hts, -⟩ := F
  intro H locs ls hP hS h
  exact lv_imul hx hb hdg (kk H locs ls hP hS h)

theorem r_iand (F : Fx g X cc nL ret ws own rm) {x y : Int32}  (hdg : decode cc pc = .ok (.iand, 1)) (kk : VL g X k n u (pc + 1) lv (.int (x &&& y) :: st)) : VL g X k n u pc lv (.int y :: .int x :: st) := by
  obtain ⟨p, l, e, R, s, m, args, below, meth, c, Q⟩ := X
  obtain ⟨hx, hb, hml, hown, hts, -⟩ := F
  intro H locs ls hP hS h
  exact lv_iand hx hb hdg (kk H locs ls hP hS h)

theorem r_ior (F : Fx g X cc nL ret ws own rm) {x y : Int32}  (hdg : decode cc pc = .ok (.ior, 1)) (kk : VL g X k n u (pc + 1) lv (.int (x ||| y) :: st)) : VL g X k n u pc lv (.int y :: .int x :: st) := by
  obtain ⟨p, l, e, R, s, m, args, below, meth, c, Q⟩ := X
  obtain ⟨hx, hb, hml, hown, hts, -⟩ := F
  intro H locs ls hP hS h
  exact lv_ior hx hb hdg (kk H locs ls hP hS h)

theorem r_ladd (F : Fx g X cc nL ret ws own rm) {x y : Int64}  (hdg : decode cc pc = .ok (.ladd, 1)) (kk : VL g X k n u (pc + 1) lv (.long (x + y) :: st)) : VL g X k n u pc lv (.long y :: .long x :: st) := by
  obtain ⟨p, l, e, R, s, m, args, below, meth, c, Q⟩ := X
  obtain ⟨hx, hb, hml, hown, hts, -⟩ := F
  intro H locs ls hP hS h
  exact lv_ladd hx hb hdg (kk H locs ls hP hS h)

theorem r_lsub (F : Fx g X cc nL ret ws own rm) {x y : Int64}  (hdg : decode cc pc = .ok (.lsub, 1)) (kk : VL g X k n u (pc + 1) lv (.long (x - y) :: st)) : VL g X k n u pc lv (.long y :: .long x :: st) := by
  obtain ⟨p, l, e, R, s, m, args, below, meth, c, Q⟩ := X
  obtain ⟨hx, hb, hml, hown, hts, -⟩ := F
  intro H locs ls hP hS h
  exact lv_lsub hx hb hdg (kk H locs ls hP hS h)

theorem r_lmul (F : Fx g X cc nL ret ws own rm) {x y : Int64}  (hdg : decode cc pc = .ok (.lmul, 1)) (kk : VL g X k n u (pc + 1) lv (.long (x * y) :: st)) : VL g X k n u pc lv (.long y :: .long x :: st) := by
  obtain ⟨p, l, e, R, s, m, args, below, meth, c, Q⟩ := X
  obtain ⟨hx, hb, hml, hown, hts, -⟩ := F
  intro H locs ls hP hS h
  exact lv_lmul hx hb hdg (kk H locs ls hP hS h)

theorem r_ishl (F : Fx g X cc nL ret ws own rm) {x y : Int32}  (hdg : decode cc pc = .ok (.ishl, 1)) (kk : VL g X k n u (pc + 1) lv (.int (x <<< (y &&& 31)) :: st)) : VL g X k n u pc lv (.int y :: .int x :: st) := by
  obtain ⟨p, l, e, R, s, m, args, below, meth, c, Q⟩ := X
  obtain ⟨hx, hb, hml, hown, hts, -⟩ := F
  intro H locs ls hP hS h
  exact lv_ishl hx hb hdg (kk H locs ls hP hS h)

theorem r_ishr (F : Fx g X cc nL ret ws own rm) {x y : Int32}  (hdg : decode cc pc = .ok (.ishr, 1)) (kk : VL g X k n u (pc + 1) lv (.int (x >>> (y &&& 31)) :: st)) : VL g X k n u pc lv (.int y :: .int x :: st) := by
  obtain ⟨p, l, e, R, s, m, args, below, meth, c, Q⟩ := X
  obtain ⟨hx, hb, hml, hown, hts, -⟩ := F
  intro H locs ls hP hS h
  exact lv_ishr hx hb hdg (kk H locs ls hP hS h)

theorem r_iushr (F : Fx g X cc nL ret ws own rm) {x y v : Int32} (hv : (x.toUInt32 >>> (y.toUInt32 &&& Int32.toUInt32 31)).toInt32 = v) (hdg : decode cc pc = .ok (.iushr, 1)) (kk : VL g X k n u (pc + 1) lv (.int v :: st)) : VL g X k n u pc lv (.int y :: .int x :: st) := by
  obtain ⟨p, l, e, R, s, m, args, below, meth, c, Q⟩ := X
  obtain ⟨hx, hb, hml, hown, hts, -⟩ := F
  intro H locs ls hP hS h
  exact lv_iushr hx hb hdg hv (kk H locs ls hP hS h)

theorem r_lshl (F : Fx g X cc nL ret ws own rm) {x v : Int64} {y : Int32} (hv : x <<< (y.toInt64 &&& 63) = v) (hdg : decode cc pc = .ok (.lshl, 1)) (kk : VL g X k n u (pc + 1) lv (.long v :: st)) : VL g X k n u pc lv (.int y :: .long x :: st) := by
  obtain ⟨p, l, e, R, s, m, args, below, meth, c, Q⟩ := X
  obtain ⟨hx, hb, hml, hown, hts, -⟩ := F
  intro H locs ls hP hS h
  exact lv_lshl hx hb hdg hv (kk H locs ls hP hS h)

theorem r_i2l (F : Fx g X cc nL ret ws own rm) {x : Int32} {v : Int64} (hv : x.toInt64 = v) (hdg : decode cc pc = .ok (.i2l, 1)) (kk : VL g X k n u (pc + 1) lv (.long v :: st)) : VL g X k n u pc lv (.int x :: st) := by
  obtain ⟨p, l, e, R, s, m, args, below, meth, c, Q⟩ := X
  obtain ⟨hx, hb, hml, hown, hts, -⟩ := F
  intro H locs ls hP hS h
  exact lv_i2l hx hb hdg hv (kk H locs ls hP hS h)

theorem r_l2i (F : Fx g X cc nL ret ws own rm) {x : Int64} {v : Int32} (hv : x.toInt32 = v) (hdg : decode cc pc = .ok (.l2i, 1)) (kk : VL g X k n u (pc + 1) lv (.int v :: st)) : VL g X k n u pc lv (.long x :: st) := by
  obtain ⟨p, l, e, R, s, m, args, below, meth, c, Q⟩ := X
  obtain ⟨hx, hb, hml, hown, hts, -⟩ := F
  intro H locs ls hP hS h
  exact lv_l2i hx hb hdg hv (kk H locs ls hP hS h)

theorem r_dup (F : Fx g X cc nL ret ws own rm) {a : Value} (hc : a.category = 1) (hdg : decode cc pc = .ok (.dup, 1)) (kk : VL g X k n u (pc + 1) lv (a :: a :: st)) : VL g X k n u pc lv (a :: st) := by
  obtain ⟨p, l, e, R, s, m, args, below, meth, c, Q⟩ := X
  obtain ⟨hx, hb, hml, hown, hts, -⟩ := F
  intro H locs ls hP hS h
  exact lv_dup hx hb hdg hc (kk H locs ls hP hS h)

theorem r_pop (F : Fx g X cc nL ret ws own rm) {a : Value} (hc : a.category = 1) (hdg : decode cc pc = .ok (.pop, 1)) (kk : VL g X k n u (pc + 1) lv (st)) : VL g X k n u pc lv (a :: st) := by
  obtain ⟨p, l, e, R, s, m, args, below, meth, c, Q⟩ := X
  obtain ⟨hx, hb, hml, hown, hts, -⟩ := F
  intro H locs ls hP hS h
  exact lv_pop hx hb hdg hc (kk H locs ls hP hS h)

theorem r_dup2_11 (F : Fx g X cc nL ret ws own rm) {a b : Value} (hc : a.category = 1) (hd : b.category = 1) (hdg : decode cc pc = .ok (.dup2, 1)) (kk : VL g X k n u (pc + 1) lv (a :: b :: a :: b :: st)) : VL g X k n u pc lv (a :: b :: st) := by
  obtain ⟨p, l, e, R, s, m, args, below, meth, c, Q⟩ := X
  obtain ⟨hx, hb, hml, hown, hts, -⟩ := F
  intro H locs ls hP hS h
  exact lv_dup2_11 hx hb hdg hc hd (kk H locs ls hP hS h)

theorem r_lcmp (F : Fx g X cc nL ret ws own rm) {x y : Int64}  (hdg : decode cc pc = .ok (.lcmp, 1)) (kk : VL g X k n u (pc + 1) lv (.int (lg_cmp x y) :: st)) : VL g X k n u pc lv (.long y :: .long x :: st) := by
  obtain ⟨p, l, e, R, s, m, args, below, meth, c, Q⟩ := X
  obtain ⟨hx, hb, hml, hown, hts, -⟩ := F
  intro H locs ls hP hS h
  exact W.lcmp hx hb hdg (kk H locs ls hP hS h)

theorem r_i2d (F : Fx g X cc nL ret ws own rm) {x : Int32}  (hdg : decode cc pc = .ok (.i2d, 1)) (kk : VL g X k n u (pc + 1) lv (.double (FP.i2d x) :: st)) : VL g X k n u pc lv (.int x :: st) := by
  obtain ⟨p, l, e, R, s, m, args, below, meth, c, Q⟩ := X
  obtain ⟨hx, hb, hml, hown, hts, -⟩ := F
  intro H locs ls hP hS h
  exact lv_i2d hx hb hdg (kk H locs ls hP hS h)

theorem r_l2d (F : Fx g X cc nL ret ws own rm) {x : Int64}  (hdg : decode cc pc = .ok (.l2d, 1)) (kk : VL g X k n u (pc + 1) lv (.double (FP.l2d x) :: st)) : VL g X k n u pc lv (.long x :: st) := by
  obtain ⟨p, l, e, R, s, m, args, below, meth, c, Q⟩ := X
  obtain ⟨hx, hb, hml, hown, hts, -⟩ := F
  intro H locs ls hP hS h
  exact lv_l2d hx hb hdg (kk H locs ls hP hS h)

theorem r_d2l (F : Fx g X cc nL ret ws own rm) {x : UInt64}  (hdg : decode cc pc = .ok (.d2l, 1)) (kk : VL g X k n u (pc + 1) lv (.long (FP.d2l x) :: st)) : VL g X k n u pc lv (.double x :: st) := by
  obtain ⟨p, l, e, R, s, m, args, below, meth, c, Q⟩ := X
  obtain ⟨hx, hb, hml, hown, hts, -⟩ := F
  intro H locs ls hP hS h
  exact lv_d2l hx hb hdg (kk H locs ls hP hS h)

theorem r_dmul (F : Fx g X cc nL ret ws own rm) {x y : UInt64} (hne : vf_n64 (FP.dmul x y)) (hdg : decode cc pc = .ok (.dmul, 1)) (kk : VL g X k n u (pc + 1) lv (.double (FP.dmul x y) :: st)) : VL g X k n u pc lv (.double y :: .double x :: st) := by
  obtain ⟨p, l, e, R, s, m, args, below, meth, c, Q⟩ := X
  obtain ⟨hx, hb, hml, hown, hts, -⟩ := F
  intro H locs ls hP hS h
  exact lv_dmul hx hb hdg hne (kk H locs ls hP hS h)

theorem r_ddiv (F : Fx g X cc nL ret ws own rm) {x y : UInt64} (hne : vf_n64 (FP.ddiv x y)) (hdg : decode cc pc = .ok (.ddiv, 1)) (kk : VL g X k n u (pc + 1) lv (.double (FP.ddiv x y) :: st)) : VL g X k n u pc lv (.double y :: .double x :: st) := by
  obtain ⟨p, l, e, R, s, m, args, below, meth, c, Q⟩ := X
  obtain ⟨hx, hb, hml, hown, hts, -⟩ := F
  intro H locs ls hP hS h
  exact lv_ddiv hx hb hdg hne (kk H locs ls hP hS h)

theorem r_dcmp (F : Fx g X cc nL ret ws own rm) {x y : UInt64} {op : CmpOp}  (hdg : decode cc pc = .ok (.dcmp op, 1)) (kk : VL g X k n u (pc + 1) lv (.int (Op.cmpValue (FP.dcmp x y) op) :: st)) : VL g X k n u pc lv (.double y :: .double x :: st) := by
  obtain ⟨p, l, e, R, s, m, args, below, meth, c, Q⟩ := X
  obtain ⟨hx, hb, hml, hown, hts, -⟩ := F
  intro H locs ls hP hS h
  exact lv_dcmp hx hb hdg (kk H locs ls hP hS h)

theorem r_null (F : Fx g X cc nL ret ws own rm)   (hdg : decode cc pc = .ok (.aconst_null, 1)) (kk : VL g X k n u (pc + 1) lv (.null :: st)) : VL g X k n u pc lv (st) := by
  obtain ⟨p, l, e, R, s, m, args, below, meth, c, Q⟩ := X
  obtain ⟨hx, hb, hml, hown, hts, -⟩ := F
  intro H locs ls hP hS h
  exact lv_null hx hb hdg (kk H locs ls hP hS h)

theorem r_ldc (F : Fx g X cc nL ret ws own rm) {index : Nat} {v : Int32} (hc : Cond.constant own index v ∈ ws) (hdg : decode cc pc = .ok (.ldc index, 2)) (kk : VL g X k n u (pc + 2) lv (.int v :: st)) : VL g X k n u pc lv (st) := by
  obtain ⟨p, l, e, R, s, m, args, below, meth, c, Q⟩ := X
  obtain ⟨hx, hb, hml, hown, hts, -⟩ := F
  intro H locs ls hP hS h
  exact lv_ldc hx hb hown (hts _ hc) hdg (kk H locs ls hP hS h)

theorem r_ldcw (F : Fx g X cc nL ret ws own rm) {index : Nat} {v : Int32} (hc : Cond.constant own index v ∈ ws) (hdg : decode cc pc = .ok (.ldc_w index, 3)) (kk : VL g X k n u (pc + 3) lv (.int v :: st)) : VL g X k n u pc lv (st) := by
  obtain ⟨p, l, e, R, s, m, args, below, meth, c, Q⟩ := X
  obtain ⟨hx, hb, hml, hown, hts, -⟩ := F
  intro H locs ls hP hS h
  exact lv_ldcw hx hb hown (hts _ hc) hdg (kk H locs ls hP hS h)

theorem r_ldc2 (F : Fx g X cc nL ret ws own rm) {index : Nat} {v : Int64} (hc : Cond.constantLong own index v ∈ ws) (hdg : decode cc pc = .ok (.ldc2_w index, 3)) (kk : VL g X k n u (pc + 3) lv (.long v :: st)) : VL g X k n u pc lv (st) := by
  obtain ⟨p, l, e, R, s, m, args, below, meth, c, Q⟩ := X
  obtain ⟨hx, hb, hml, hown, hts, -⟩ := F
  intro H locs ls hP hS h
  exact lv_ldc2 hx hb hown (hts _ hc) hdg (kk H locs ls hP hS h)

theorem r_ldc2d (F : Fx g X cc nL ret ws own rm) {index : Nat} {v : UInt64} (hc : Cond.constantDouble own index v ∈ ws) (hdg : decode cc pc = .ok (.ldc2_w index, 3)) (kk : VL g X k n u (pc + 3) lv (.double v :: st)) : VL g X k n u pc lv (st) := by
  obtain ⟨p, l, e, R, s, m, args, below, meth, c, Q⟩ := X
  obtain ⟨hx, hb, hml, hown, hts, -⟩ := F
  intro H locs ls hP hS h
  exact lv_ldc2d hx hb hown (hts _ hc) hdg (kk H locs ls hP hS h)

theorem r_goto (F : Fx g X cc nL ret ws own rm) {off : Int} (tgt : Nat) (ht : (pc : Int) + off = (tgt : Int)) (hdg : decode cc pc = .ok (.goto off, 3)) (kk : VL g X k n u tgt lv st) : VL g X k n u pc lv st := by
  obtain ⟨p, l, e, R, s, m, args, below, meth, c, Q⟩ := X
  obtain ⟨hx, hb, hml, hown, hts, -⟩ := F
  intro H locs ls hP hS h
  exact lv_goto hx hb hdg ht (kk H locs ls hP hS h)

theorem r_if_eq (F : Fx g X cc nL ret ws own rm) {x : Int32} {off : Int} (tgt : Nat) (ht : (pc : Int) + off = (tgt : Int)) (hdg : decode cc pc = .ok (.ifCond .eq off, 3)) (kt : x = 0 → VL g X k n u tgt lv st) (kf : ¬ x = 0 → VL g X k n u (pc + 3) lv st) : VL g X k n u pc lv (.int x :: st) := by
  obtain ⟨p, l, e, R, s, m, args, below, meth, c, Q⟩ := X
  obtain ⟨hx, hb, hml, hown, hts, -⟩ := F
  intro H locs ls hP hS h
  exact lv_if_eq hx hb hdg ht (fun q => kt q H locs ls hP hS h) (fun q => kf q H locs ls hP hS h)

theorem r_icmp_eq (F : Fx g X cc nL ret ws own rm) {x y : Int32} {off : Int} (tgt : Nat) (ht : (pc : Int) + off = (tgt : Int)) (hdg : decode cc pc = .ok (.if_icmp .eq off, 3)) (kt : x = y → VL g X k n u tgt lv st) (kf : ¬ x = y → VL g X k n u (pc + 3) lv st) : VL g X k n u pc lv (.int y :: .int x :: st) := by
  obtain ⟨p, l, e, R, s, m, args, below, meth, c, Q⟩ := X
  obtain ⟨hx, hb, hml, hown, hts, -⟩ := F
  intro H locs ls hP hS h
  exact lv_icmp_eq hx hb hdg ht (fun q => kt q H locs ls hP hS h) (fun q => kf q H locs ls hP hS h)

theorem r_if_ne (F : Fx g X cc nL ret ws own rm) {x : Int32} {off : Int} (tgt : Nat) (ht : (pc : Int) + off = (tgt : Int)) (hdg : decode cc pc = .ok (.ifCond .ne off, 3)) (kt : ¬ x = 0 → VL g X k n u tgt lv st) (kf : x = 0 → VL g X k n u (pc + 3) lv st) : VL g X k n u pc lv (.int x :: st) := by
  obtain ⟨p, l, e, R, s, m, args, below, meth, c, Q⟩ := X
  obtain ⟨hx, hb, hml, hown, hts, -⟩ := F
  intro H locs ls hP hS h
  exact lv_if_ne hx hb hdg ht (fun q => kt q H locs ls hP hS h) (fun q => kf q H locs ls hP hS h)

theorem r_icmp_ne (F : Fx g X cc nL ret ws own rm) {x y : Int32} {off : Int} (tgt : Nat) (ht : (pc : Int) + off = (tgt : Int)) (hdg : decode cc pc = .ok (.if_icmp .ne off, 3)) (kt : ¬ x = y → VL g X k n u tgt lv st) (kf : x = y → VL g X k n u (pc + 3) lv st) : VL g X k n u pc lv (.int y :: .int x :: st) := by
  obtain ⟨p, l, e, R, s, m, args, below, meth, c, Q⟩ := X
  obtain ⟨hx, hb, hml, hown, hts, -⟩ := F
  intro H locs ls hP hS h
  exact lv_icmp_ne hx hb hdg ht (fun q => kt q H locs ls hP hS h) (fun q => kf q H locs ls hP hS h)

theorem r_if_lt (F : Fx g X cc nL ret ws own rm) {x : Int32} {off : Int} (tgt : Nat) (ht : (pc : Int) + off = (tgt : Int)) (hdg : decode cc pc = .ok (.ifCond .lt off, 3)) (kt : x < 0 → VL g X k n u tgt lv st) (kf : ¬ x < 0 → VL g X k n u (pc + 3) lv st) : VL g X k n u pc lv (.int x :: st) := by
  obtain ⟨p, l, e, R, s, m, args, below, meth, c, Q⟩ := X
  obtain ⟨hx, hb, hml, hown, hts, -⟩ := F
  intro H locs ls hP hS h
  exact lv_if_lt hx hb hdg ht (fun q => kt q H locs ls hP hS h) (fun q => kf q H locs ls hP hS h)

theorem r_icmp_lt (F : Fx g X cc nL ret ws own rm) {x y : Int32} {off : Int} (tgt : Nat) (ht : (pc : Int) + off = (tgt : Int)) (hdg : decode cc pc = .ok (.if_icmp .lt off, 3)) (kt : x < y → VL g X k n u tgt lv st) (kf : ¬ x < y → VL g X k n u (pc + 3) lv st) : VL g X k n u pc lv (.int y :: .int x :: st) := by
  obtain ⟨p, l, e, R, s, m, args, below, meth, c, Q⟩ := X
  obtain ⟨hx, hb, hml, hown, hts, -⟩ := F
  intro H locs ls hP hS h
  exact lv_icmp_lt hx hb hdg ht (fun q => kt q H locs ls hP hS h) (fun q => kf q H locs ls hP hS h)

theorem r_if_ge (F : Fx g X cc nL ret ws own rm) {x : Int32} {off : Int} (tgt : Nat) (ht : (pc : Int) + off = (tgt : Int)) (hdg : decode cc pc = .ok (.ifCond .ge off, 3)) (kt : 0 ≤ x → VL g X k n u tgt lv st) (kf : ¬ 0 ≤ x → VL g X k n u (pc + 3) lv st) : VL g X k n u pc lv (.int x :: st) := by
  obtain ⟨p, l, e, R, s, m, args, below, meth, c, Q⟩ := X
  obtain ⟨hx, hb, hml, hown, hts, -⟩ := F
  intro H locs ls hP hS h
  exact lv_if_ge hx hb hdg ht (fun q => kt q H locs ls hP hS h) (fun q => kf q H locs ls hP hS h)

theorem r_icmp_ge (F : Fx g X cc nL ret ws own rm) {x y : Int32} {off : Int} (tgt : Nat) (ht : (pc : Int) + off = (tgt : Int)) (hdg : decode cc pc = .ok (.if_icmp .ge off, 3)) (kt : y ≤ x → VL g X k n u tgt lv st) (kf : ¬ y ≤ x → VL g X k n u (pc + 3) lv st) : VL g X k n u pc lv (.int y :: .int x :: st) := by
  obtain ⟨p, l, e, R, s, m, args, below, meth, c, Q⟩ := X
  obtain ⟨hx, hb, hml, hown, hts, -⟩ := F
  intro H locs ls hP hS h
  exact lv_icmp_ge hx hb hdg ht (fun q => kt q H locs ls hP hS h) (fun q => kf q H locs ls hP hS h)

theorem r_if_gt (F : Fx g X cc nL ret ws own rm) {x : Int32} {off : Int} (tgt : Nat) (ht : (pc : Int) + off = (tgt : Int)) (hdg : decode cc pc = .ok (.ifCond .gt off, 3)) (kt : 0 < x → VL g X k n u tgt lv st) (kf : ¬ 0 < x → VL g X k n u (pc + 3) lv st) : VL g X k n u pc lv (.int x :: st) := by
  obtain ⟨p, l, e, R, s, m, args, below, meth, c, Q⟩ := X
  obtain ⟨hx, hb, hml, hown, hts, -⟩ := F
  intro H locs ls hP hS h
  exact lv_if_gt hx hb hdg ht (fun q => kt q H locs ls hP hS h) (fun q => kf q H locs ls hP hS h)

theorem r_icmp_gt (F : Fx g X cc nL ret ws own rm) {x y : Int32} {off : Int} (tgt : Nat) (ht : (pc : Int) + off = (tgt : Int)) (hdg : decode cc pc = .ok (.if_icmp .gt off, 3)) (kt : y < x → VL g X k n u tgt lv st) (kf : ¬ y < x → VL g X k n u (pc + 3) lv st) : VL g X k n u pc lv (.int y :: .int x :: st) := by
  obtain ⟨p, l, e, R, s, m, args, below, meth, c, Q⟩ := X
  obtain ⟨hx, hb, hml, hown, hts, -⟩ := F
  intro H locs ls hP hS h
  exact lv_icmp_gt hx hb hdg ht (fun q => kt q H locs ls hP hS h) (fun q => kf q H locs ls hP hS h)

theorem r_if_le (F : Fx g X cc nL ret ws own rm) {x : Int32} {off : Int} (tgt : Nat) (ht : (pc : Int) + off = (tgt : Int)) (hdg : decode cc pc = .ok (.ifCond .le off, 3)) (kt : x ≤ 0 → VL g X k n u tgt lv st) (kf : ¬ x ≤ 0 → VL g X k n u (pc + 3) lv st) : VL g X k n u pc lv (.int x :: st) := by
  obtain ⟨p, l, e, R, s, m, args, below, meth, c, Q⟩ := X
  obtain ⟨hx, hb, hml, hown, hts, -⟩ := F
  intro H locs ls hP hS h
  exact lv_if_le hx hb hdg ht (fun q => kt q H locs ls hP hS h) (fun q => kf q H locs ls hP hS h)

theorem r_icmp_le (F : Fx g X cc nL ret ws own rm) {x y : Int32} {off : Int} (tgt : Nat) (ht : (pc : Int) + off = (tgt : Int)) (hdg : decode cc pc = .ok (.if_icmp .le off, 3)) (kt : x ≤ y → VL g X k n u tgt lv st) (kf : ¬ x ≤ y → VL g X k n u (pc + 3) lv st) : VL g X k n u pc lv (.int y :: .int x :: st) := by
  obtain ⟨p, l, e, R, s, m, args, below, meth, c, Q⟩ := X
  obtain ⟨hx, hb, hml, hown, hts, -⟩ := F
  intro H locs ls hP hS h
  exact lv_icmp_le hx hb hdg ht (fun q => kt q H locs ls hP hS h) (fun q => kf q H locs ls hP hS h)

theorem r_tabOut (F : Fx g X cc nL ret ws own rm) {dflt lo hi : Int} {offs : Array Int} {len : Nat} {x : Int32} (tgt : Nat) (hq : x.toInt < lo ∨ hi < x.toInt) (ht : (pc : Int) + dflt = (tgt : Int)) (hdg : decode cc pc = .ok (.tableswitch dflt lo hi offs, len)) (kk : VL g X k n u tgt lv st) : VL g X k n u pc lv (.int x :: st) := by
  obtain ⟨p, l, e, R, s, m, args, below, meth, c, Q⟩ := X
  obtain ⟨hx, hb, -⟩ := F
  intro H locs ls hP hS h
  exact lv_tableOut hx hb hdg hq ht (kk H locs ls hP hS h)
theorem r_tabIn (F : Fx g X cc nL ret ws own rm) {dflt lo hi : Int} {offs : Array Int} {len : Nat} {x : Int32} {off : Int} (tgt : Nat) (h1 : ¬ x.toInt < lo) (h2 : ¬ hi < x.toInt) (ho : offs[(x.toInt - lo).toNat]? = some off) (ht : (pc : Int) + off = (tgt : Int)) (hdg : decode cc pc = .ok (.tableswitch dflt lo hi offs, len)) (kk : VL g X k n u tgt lv st) : VL g X k n u pc lv (.int x :: st) := by
  obtain ⟨p, l, e, R, s, m, args, below, meth, c, Q⟩ := X
  obtain ⟨hx, hb, -⟩ := F
  intro H locs ls hP hS h
  exact lv_tableIn hx hb hdg h1 h2 ho ht (kk H locs ls hP hS h)
/-- a number that a written number is -/
theorem r_named {x : Int32} (kk : ∀ y : Int32, y = x → VL g X k n u pc lv (.int y :: st)) : VL g X k n u pc lv (.int x :: st) := kk x rfl
theorem r_get (F : Fx g X cc nL ret ws own rm) (q0 : Nat) {index ci N : Nat} {C : String} {T : u_T} {fs : List Value} (he : u q0 = .inr (ci, fs)) (hq : q0 < kN) (hin : ∀ w ∈ u_ws C T N, w ∈ ws) (hc : vwCl[ci]? = some (C, T, N)) (kf : Nat) (hk : kf < N) (hlink : Cond.fieldLink own index (T kf).1 (T kf).2.1 (T kf).2.2.1 ∈ ws) {v : Value} (hv : fs[kf]? = some v) (hdg : decode cc pc = .ok (.getfield index, 3)) (kk : VL g X k n u (pc + 3) lv (v :: st)) : VL g X k n u pc lv (.ref (g.2.1 q0) :: st) := by
  obtain ⟨p, l, e, R, s, m, args, below, meth, c, Q⟩ := X
  obtain ⟨hx, hb, hml, hown, hts, -, -, hK, -⟩ := F
  intro H locs ls hP hS h
  exact va_get hx hb hts hin hown hK.1 hP q0 ((kw_get hq).trans (by rw [he])) hc kf hk (hts _ hlink) (fun _ h9 => h9) hv hdg (kk H locs ls hP hS h)
theorem r_put (F : Fx g X cc nL ret ws own rm) (q0 : Nat) {index ci N : Nat} {C : String} {T : u_T} {fs : List Value} (he : u q0 = .inr (ci, fs)) (hq : q0 < kN) (hin : ∀ w ∈ u_ws C T N, w ∈ ws) (ty0 : Nat → FieldType) (hty : ∀ k, k < N → parseFieldDescriptor (T k).2.2.1 = some (ty0 k)) (hnm : ∀ a, a < N → ∀ b, b < N → a ≠ b → (T a).2.1 ≠ (T b).2.1) (hc : vwCl[ci]? = some (C, T, N)) (kf : Nat) (hk : kf < N) (hlink : Cond.fieldLink own index (T kf).1 (T kf).2.1 (T kf).2.2.1 ∈ ws) (hfin : (T kf).2.2.2 = false) {ty : FieldType} {v : Value} (hd : parseFieldDescriptor (T kf).2.2.1 = some ty) (hn : narrow ty v = v) (hfit : fits ty v = true) (hl : kf < fs.length) (hdg : decode cc pc = .ok (.putfield index, 3)) (kk : ∀ u' : Nat → va_E, u' = va_up u q0 (.inr (ci, fs.set kf v)) → VL g X k n u' (pc + 3) lv st) : VL g X k n u pc lv (v :: .ref (g.2.1 q0) :: st) := by
  obtain ⟨p, l, e, R, s, m, args, below, meth, c, Q⟩ := X
  obtain ⟨hx, hb, hml, hown, hts, -, -, hK, -⟩ := F
  intro H locs ls hP hS h
  refine va_put hx hb hts hin ty0 hty hnm hown hK.1 hP (kw_D hK.2.2.1 u) hS q0 ((kw_get hq).trans (by rw [he])) hc kf hk (hts _ hlink) (fun _ h9 => h9) hfin hd hn hfit hl hdg (fun H1 locs1 hP1 _ hS1 => ?_)
  rw [kw_set] at hP1
  exact kk _ rfl H1 locs1 ls hP1 hS1 h
theorem r_iald (F : Fx g X cc nL ret ws own rm) (q0 : Nat) {len : Nat} {f : Nat → Int32} (he : u q0 = .inl (g.2.2.1 0, len, .inl f)) (hq : q0 < kN) {i : Int32} (hin : vp_in i len) (hdg : decode cc pc = .ok (.iaload, 1)) (kk : VL g X k n u (pc + 1) lv (.int (f i.toNatClampNeg) :: st)) : VL g X k n u pc lv (.int i :: .ref (g.2.1 q0) :: st) := by
  obtain ⟨p, l, e, R, s, m, args, below, meth, c, Q⟩ := X
  obtain ⟨hx, hb, hml, hown, hts, -, -, hK, -⟩ := F
  intro H locs ls hP hS h
  exact va_iald hx hb hK.1 hP q0 0 ((kw_get hq).trans (by rw [he])) rfl hin hdg (kk H locs ls hP hS h)
theorem r_qald (F : Fx g X cc nL ret ws own rm) (q0 : Nat) {len : Nat} {f : Nat → Option Nat} (he : u q0 = .inl (g.2.2.1 2, len, .inr (.inr (.inr (.inr f))))) (hq : q0 < kN) {i : Int32} (hin : vp_in i len) (hdg : decode cc pc = .ok (.aaload, 1)) (kk : VL g X k n u (pc + 1) lv (va_rf (f i.toNatClampNeg) :: st)) : VL g X k n u pc lv (.int i :: .ref (g.2.1 q0) :: st) := by
  obtain ⟨p, l, e, R, s, m, args, below, meth, c, Q⟩ := X
  obtain ⟨hx, hb, hml, hown, hts, -, -, hK, -⟩ := F
  intro H locs ls hP hS h
  exact va_aldq hx hb hK.1 hP q0 2 ((kw_get hq).trans (by rw [he])) rfl hin hdg (kk H locs ls hP hS h)
theorem r_alen (F : Fx g X cc nL ret ws own rm) (q0 : Nat) {x : vp_A} {j : Nat} {ty : FieldType} (hj : (tys g)[j]? = some (g.2.2.1 j, ty)) (he : u q0 = .inl (g.2.2.1 j, x)) (hq : q0 < kN) {v : Int32} (hv : Int32.ofNat x.1 = v) (hdg : decode cc pc = .ok (.arraylength, 1)) (kk : VL g X k n u (pc + 1) lv (.int v :: st)) : VL g X k n u pc lv (.ref (g.2.1 q0) :: st) := by
  obtain ⟨p, l, e, R, s, m, args, below, meth, c, Q⟩ := X
  obtain ⟨hx, hb, hml, hown, hts, -, -, hK, -⟩ := F
  intro H locs ls hP hS h
  exact va_alen hx hb hK.1 hP q0 j ((kw_get hq).trans (by rw [he])) hj hv hdg (kk H locs ls hP hS h)
theorem r_iast (F : Fx g X cc nL ret ws own rm) (q0 : Nat) {len : Nat} {f : Nat → Int32} (he : u q0 = .inl (g.2.2.1 0, len, .inl f)) (hq : q0 < kN) {i x : Int32} (hin : vp_in i len) (hdg : decode cc pc = .ok (.iastore, 1)) (kk : ∀ u' : Nat → va_E, u' = va_up u q0 (.inl (g.2.2.1 0, len, .inl (upd f i.toNatClampNeg x))) → VL g X k n u' (pc + 1) lv st) : VL g X k n u pc lv (.int x :: .int i :: .ref (g.2.1 q0) :: st) := by
  obtain ⟨p, l, e, R, s, m, args, below, meth, c, Q⟩ := X
  obtain ⟨hx, hb, hml, hown, hts, -, -, hK, -⟩ := F
  intro H locs ls hP hS h
  refine va_iast hx hb hK.1 hP (kw_D hK.2.2.1 u) hS q0 0 ((kw_get hq).trans (by rw [he])) rfl hin hdg (fun H1 locs1 hP1 _ hS1 => ?_)
  rw [kw_set] at hP1
  exact kk _ rfl H1 locs1 ls hP1 hS1 h
theorem r_ifnullN (F : Fx g X cc nL ret ws own rm) {off : Int} (tgt : Nat) (ht : (pc : Int) + off = (tgt : Int)) (hdg : decode cc pc = .ok (.ifnull off, 3)) (kk : VL g X k n u tgt lv st) : VL g X k n u pc lv (.null :: st) := by
  obtain ⟨p, l, e, R, s, m, args, below, meth, c, Q⟩ := X
  obtain ⟨hx, hb, -⟩ := F
  intro H locs ls hP hS h
  exact lv_ifnullN hx hb hdg ht (kk H locs ls hP hS h)
theorem r_ifnull (F : Fx g X cc nL ret ws own rm) {x : Nat} {off : Int} (hdg : decode cc pc = .ok (.ifnull off, 3)) (kk : VL g X k n u (pc + 3) lv st) : VL g X k n u pc lv (.ref x :: st) := by
  obtain ⟨p, l, e, R, s, m, args, below, meth, c, Q⟩ := X
  obtain ⟨hx, hb, -⟩ := F
  intro H locs ls hP hS h
  exact lv_ifnull hx hb hdg (kk H locs ls hP hS h)
theorem r_min (F : Fx g X cc nL ret ws own rm) {index : Nat} {rest : List Value} (hl : Cond.methodLink own index Lib.Math.min.name ∈ ws) (h1 : Cond.static Lib.Math.min.name ∈ ws) (h2 : Cond.initialized "java/lang/Math" ∈ ws) (h3 : Cond.code Lib.Math.min.name Lib.Math.min.code 2 (some .int) ∈ ws) (hR : 1 ≤ rm.frames ∧ (rest.map fun v => v.category).sum + 13 ≤ rm.locals ∧ k ≤ rm.cells ∧ n ≤ rm.slots) {x y : Int32} (hdg : decode cc pc = .ok (.invokestatic index, 3)) (kk : VL g X k n u (pc + 3) lv (.int (minI x y) :: rest)) : VL g X k n u pc lv (.int y :: .int x :: rest) := by
  obtain ⟨p, l, e, R, s, m, args, below, meth, c, Q⟩ := X
  obtain ⟨hx, hb, hml, hown, hts, -, -, -, -, -, hrm⟩ := F
  intro H locs ls hP hS h
  subst hrm
  exact va_mmin hx hb h.1.symm hown (hts _ hl) (hts _ h1) (hts _ h2) (hts _ h3) hR.1 hR.2.1 hR.2.2.1 hR.2.2.2 hdg (kk H locs ls hP hS h)
/-- a call that is under way -/
def RG (g : kG) (X : kX) (k n : Nat) (u : Nat → va_E) (pc : Nat) (lv : List (Nat × Value)) (st rest : List Value) (mc ms : Nat) (Qa : State → Outcome → State → Prop) : Prop :=
  match X with
  | (p, l, e, R, s, m, args, below, meth, c, Q) => ∀ (H : Heap) (locs : List Loc) (ls : Array Slot), va_P g.1 vwCl (kw g u) H → va_S (GA g) s.heap H locs → lv_has ls c.maxLocals lv → va_Run p l e R s m args below meth c H locs k n mc ms (F0 m pc ls st) rest Qa (GA g)
variable {st0 rest : List Value} {mc ms : Nat} {a : Array Value}
theorem r_calli {post : Int32 → (Nat → va_E) → Prop} (hr : RG g X k n u pc lv st0 rest mc ms (va_Qi post (PT g) (GA g) a)) (kk : ∀ (r : Int32) (u' : Nat → va_E), post r u' → VL g X (k + mc) (n + ms) u' (pc + 3) lv (.int r :: rest)) : VL g X k n u pc lv st0 := by
  obtain ⟨p, l, e, R, s, m, args, below, meth, c, Q⟩ := X
  intro H locs ls hP hS h
  refine va_calli (hr H locs ls hP hS h) hS (fun _ _ h => h) (fun _ h => h) (fun r u' t H1 locs1 ht _ hp hB _ _ hS1 => ?_)
  exact kk r u' hp H1 locs1 ls (by unfold PT at hB; rw [ht] at hB; exact hB) hS1 h
theorem r_calll {post : Int64 → (Nat → va_E) → Prop} (hr : RG g X k n u pc lv st0 rest mc ms (va_Ql post (PT g) (GA g) a)) (kk : ∀ (r : Int64) (u' : Nat → va_E), post r u' → VL g X (k + mc) (n + ms) u' (pc + 3) lv (.long r :: rest)) : VL g X k n u pc lv st0 := by
  obtain ⟨p, l, e, R, s, m, args, below, meth, c, Q⟩ := X
  intro H locs ls hP hS h
  refine va_calll (hr H locs ls hP hS h) hS (fun _ _ h => h) (fun _ h => h) (fun r u' t H1 locs1 ht _ hp hB _ _ hS1 => ?_)
  exact kk r u' hp H1 locs1 ls (by unfold PT at hB; rw [ht] at hB; exact hB) hS1 h
theorem r_calld {post : UInt64 → (Nat → va_E) → Prop} (hr : RG g X k n u pc lv st0 rest mc ms (va_Qd post (PT g) (GA g) a)) (kk : ∀ (r : UInt64) (u' : Nat → va_E), post r u' → VL g X (k + mc) (n + ms) u' (pc + 3) lv (.double r :: rest)) : VL g X k n u pc lv st0 := by
  obtain ⟨p, l, e, R, s, m, args, below, meth, c, Q⟩ := X
  intro H locs ls hP hS h
  refine va_calld (hr H locs ls hP hS h) hS (fun _ _ h => h) (fun _ h => h) (fun r u' t H1 locs1 ht _ hp hB _ _ hS1 => ?_)
  exact kk r u' hp H1 locs1 ls (by unfold PT at hB; rw [ht] at hB; exact hB) hS1 h
theorem r_callq {post : Option Nat → (Nat → va_E) → Prop} (hr : RG g X k n u pc lv st0 rest mc ms (va_Qq post (PT g) (GA g) a)) (kk : ∀ (r : Option Nat) (u' : Nat → va_E), post r u' → VL g X (k + mc) (n + ms) u' (pc + 3) lv (va_rf r :: rest)) : VL g X k n u pc lv st0 := by
  obtain ⟨p, l, e, R, s, m, args, below, meth, c, Q⟩ := X
  intro H locs ls hP hS h
  refine va_callq (hr H locs ls hP hS h) hS (fun _ _ h => h) (fun _ h => h) (fun r u' t H1 locs1 ht _ hp hB _ _ hS1 => ?_)
  exact kk r u' hp H1 locs1 ls (by unfold PT at hB; rw [ht] at hB; exact hB) hS1 h
theorem r_callv {post : (Nat → va_E) → Prop} (hr : RG g X k n u pc lv st0 rest mc ms (va_Qv post (PT g) (GA g) a)) (kk : ∀ (u' : Nat → va_E), post u' → VL g X (k + mc) (n + ms) u' (pc + 3) lv rest) : VL g X k n u pc lv st0 := by
  obtain ⟨p, l, e, R, s, m, args, below, meth, c, Q⟩ := X
  intro H locs ls hP hS h
  refine va_callv (hr H locs ls hP hS h) hS (fun _ _ h => h) (fun _ h => h) (fun u' t H1 locs1 ht _ hp hB _ _ hS1 => ?_)
  exact kk u' hp H1 locs1 ls (by unfold PT at hB; rw [ht] at hB; exact hB) hS1 h
/-- calls: of an object of the world; of a class; each plain or of a nest mate -/
theorem g_V (F : Fx g X cc nL ret ws own rm) {y : MethodName} {cy : ByteArray} {maxL index nA : Nat} {ret' : Option FieldType} {ws' ws'' : List Cond} {rm' : Room} {Qc : Array Value → State → Outcome → State → Prop} {C : String} {As : List Value} (q0 : Nat) {ci : Nat} {fs : List Value} (he : u q0 = .inr (ci, fs)) (hq : q0 < kN) {T : u_T} {N : Nat} (hc : vwCl[ci]? = some (C, T, N)) (hM : Met X.2.1 y ws' rm' (va_Pc (.ref (g.2.1 q0) :: As) (WB g u)) Qc rm'.cells rm'.slots (GA g)) (hG : GoodIn ws (wsV own index C y ws')) (hw : ws' = Cond.code y cy maxL ret' :: ws'') (hd : y.cls = C ∧ y.cls ≠ "java/lang/invoke/MethodHandle" ∧ y.cls ≠ "java/lang/invoke/VarHandle" ∧ (parseMethodDescriptor y.desc).map (fun d => d.parameters.length) = some nA) (hn : As.length = nA) (hR : rm'.frames + 1 ≤ rm.frames ∧ 8 + (maxL + 11) + rm'.locals ≤ rm.locals) (hf : k + rm'.cells ≤ rm.cells ∧ n + rm'.slots ≤ rm.slots) (hst : st0 = As.reverse ++ .ref (g.2.1 q0) :: rest) (hcat : (rest.map fun v => v.category).sum ≤ 8) (hdg : decode cc pc = .ok (.invokevirtual index, 3)) : RG g X k n u pc lv st0 rest rm'.cells rm'.slots (Qc (.ref (g.2.1 q0) :: As).toArray) := by
  obtain ⟨p, l, e, R, s, m, args, below, meth, c, Q⟩ := X
  obtain ⟨hx, hb, hml, hown, hts, hret, hlk, hK, hZ, hs, hrm⟩ := F
  intro H locs ls hP hS h
  subst hrm
  exact va_runV (C := C) ⟨hx, hb, hml, hown, hts⟩ hM (cwV nA hts hG hw rfl rfl hd hR) ⟨WB.blind, va_recv hK.1 hP hc ((kw_get hq).trans (by rw [he])), fun U hU hW => ⟨rfl, WB.at hs hK hZ hP hS hU hW⟩⟩ rfl hn (h.1.trans hml) hst (lv_room hcat) hdg hf
theorem g_S (F : Fx g X cc nL ret ws own rm) {y : MethodName} {cy : ByteArray} {maxL index nA : Nat} {ret' : Option FieldType} {ws' ws'' : List Cond} {rm' : Room} {Qc : Array Value → State → Outcome → State → Prop} {As : List Value} (hM : Met X.2.1 y ws' rm' (va_Pc As (WB g u)) Qc rm'.cells rm'.slots (GA g)) (hG : GoodIn ws (va_wsS own index y ws')) (hw : ws' = Cond.code y cy maxL ret' :: ws'') (hd : y.cls ≠ "java/lang/invoke/MethodHandle" ∧ y.cls ≠ "java/lang/invoke/VarHandle" ∧ (parseMethodDescriptor y.desc).map (fun d => d.parameters.length) = some nA) (hn : As.length = nA) (hR : rm'.frames + 1 ≤ rm.frames ∧ 8 + (maxL + 11) + rm'.locals ≤ rm.locals) (hf : k + rm'.cells ≤ rm.cells ∧ n + rm'.slots ≤ rm.slots) (hst : st0 = As.reverse ++ rest) (hcat : (rest.map fun v => v.category).sum ≤ 8) (hdg : decode cc pc = .ok (.invokestatic index, 3)) : RG g X k n u pc lv st0 rest rm'.cells rm'.slots (Qc As.toArray) := by
  obtain ⟨p, l, e, R, s, m, args, below, meth, c, Q⟩ := X
  obtain ⟨hx, hb, hml, hown, hts, hret, hlk, hK, hZ, hs, hrm⟩ := F
  intro H locs ls hP hS h
  subst hrm
  exact va_runS ⟨hx, hb, hml, hown, hts⟩ hM (va_cwS nA hts hG hw rfl rfl hd hR) ⟨WB.blind, fun U hU hW => ⟨rfl, WB.at hs hK hZ hP hS hU hW⟩⟩ rfl hn (h.1.trans hml) hst (lv_room hcat) hdg hf
theorem g_VN (F : Fx g X cc nL ret ws own rm) {y : MethodName} {cy : ByteArray} {maxL index nA : Nat} {ret' : Option FieldType} {ws' ws'' : List Cond} {rm' : Room} {Qc : Array Value → State → Outcome → State → Prop} {C host : String} {As : List Value} (q0 : Nat) {ci : Nat} {fs : List Value} (he : u q0 = .inr (ci, fs)) (hq : q0 < kN) {T : u_T} {N : Nat} (hc : vwCl[ci]? = some (C, T, N)) (hM : Met X.2.1 y ws' rm' (va_Pc (.ref (g.2.1 q0) :: As) (WB g u)) Qc rm'.cells rm'.slots (GA g)) (hG : GoodIn ws ws') (hw : ws' = Cond.code y cy maxL ret' :: ws'') (jn : Nat) (hj : nestT[jn]? = some (own, index, y, host)) (hini : Cond.initialized y.cls ∈ ws) (hinst : Cond.instanceMethod y ∈ ws) (hsel : Cond.selects C y y ∈ ws) (hd : y.cls ≠ "java/lang/invoke/MethodHandle" ∧ y.cls ≠ "java/lang/invoke/VarHandle" ∧ (parseMethodDescriptor y.desc).map (fun d => d.parameters.length) = some nA) (hn : As.length = nA) (hR : rm'.frames + 1 ≤ rm.frames ∧ 8 + (maxL + 11) + rm'.locals ≤ rm.locals) (hf : k + rm'.cells ≤ rm.cells ∧ n + rm'.slots ≤ rm.slots) (hst : st0 = As.reverse ++ .ref (g.2.1 q0) :: rest) (hcat : (rest.map fun v => v.category).sum ≤ 8) (hdg : decode cc pc = .ok (.invokevirtual index, 3)) : RG g X k n u pc lv st0 rest rm'.cells rm'.slots (Qc (.ref (g.2.1 q0) :: As).toArray) := by
  obtain ⟨p, l, e, R, s, m, args, below, meth, c, Q⟩ := X
  obtain ⟨hx, hb, hml, hown, hts, hret, hlk, hK, hZ, hs, hrm⟩ := F
  intro H locs ls hP hS h
  subst hrm
  exact va_runVN (C := C) ⟨hx, hb, hml, hown, hts⟩ hM ⟨va_cnB nA hts hG hw rfl rfl (hK.2.1 _ (List.mem_of_getElem? hj)) (hts _ hini) hd hR, hts _ hinst, hts _ hsel⟩ ⟨WB.blind, va_recv hK.1 hP hc ((kw_get hq).trans (by rw [he])), fun U hU hW => ⟨rfl, WB.at hs hK hZ hP hS hU hW⟩⟩ rfl hn (h.1.trans hml) hst (lv_room hcat) hdg hf
theorem g_SN (F : Fx g X cc nL ret ws own rm) {y : MethodName} {cy : ByteArray} {maxL index nA : Nat} {ret' : Option FieldType} {ws' ws'' : List Cond} {rm' : Room} {Qc : Array Value → State → Outcome → State → Prop} {host : String} {As : List Value} (hM : Met X.2.1 y ws' rm' (va_Pc As (WB g u)) Qc rm'.cells rm'.slots (GA g)) (hG : GoodIn ws ws') (hw : ws' = Cond.code y cy maxL ret' :: ws'') (jn : Nat) (hj : nestT[jn]? = some (own, index, y, host)) (hini : Cond.initialized y.cls ∈ ws) (hstat : Cond.static y ∈ ws) (hd : y.cls ≠ "java/lang/invoke/MethodHandle" ∧ y.cls ≠ "java/lang/invoke/VarHandle" ∧ (parseMethodDescriptor y.desc).map (fun d => d.parameters.length) = some nA) (hn : As.length = nA) (hR : rm'.frames + 1 ≤ rm.frames ∧ 8 + (maxL + 11) + rm'.locals ≤ rm.locals) (hf : k + rm'.cells ≤ rm.cells ∧ n + rm'.slots ≤ rm.slots) (hst : st0 = As.reverse ++ rest) (hcat : (rest.map fun v => v.category).sum ≤ 8) (hdg : decode cc pc = .ok (.invokestatic index, 3)) : RG g X k n u pc lv st0 rest rm'.cells rm'.slots (Qc As.toArray) := by
  obtain ⟨p, l, e, R, s, m, args, below, meth, c, Q⟩ := X
  obtain ⟨hx, hb, hml, hown, hts, hret, hlk, hK, hZ, hs, hrm⟩ := F
  intro H locs ls hP hS h
  subst hrm
  exact va_runSN ⟨hx, hb, hml, hown, hts⟩ hM ⟨va_cnB nA hts hG hw rfl rfl (hK.2.1 _ (List.mem_of_getElem? hj)) (hts _ hini) hd hR, hts _ hstat, trivial⟩ ⟨WB.blind, fun U hU hW => ⟨rfl, WB.at hs hK hZ hP hS hU hW⟩⟩ rfl hn (h.1.trans hml) hst (lv_room hcat) hdg hf
end ROWS
/-! THE ENTRIES -/
section ENT
variable {g : kG} {l : Launch} {y : MethodName} {ws ws' : List Cond} {rm : Room} {av : List Value} {u : Nat → va_E} {cc : ByteArray} {nL : Nat}
theorem va_S.base {A : Nat → Prop} {H0 H : Heap} {locs : List Loc} (h : va_S A H0 H locs) : ∀ q ∈ locs, A q.base := h.2.2
theorem CI.of {ty : FieldType} {post : Int32 → (Nat → va_E) → Prop} (hy : plainName y.cls = true) (hw : ws = .code y cc nL (some ty) :: ws') (hn : ∀ v u', post v u' → narrow ty (.int v) = .int v) (hlen : (lg_sl av).length ≤ nL)
    (body : ∀ X : kX, X.2.1 = l → Fx g X cc nL (some ty) ws y.cls rm → (∀ (k n : Nat) (u' : Nat → va_E) (pc : Nat) (lv : List (Nat × Value)) (v : Int32), k ≤ rm.cells → n ≤ rm.slots → post v u' → decode cc pc = .ok (.ireturn, 1) → VL g X k n u' pc lv [.int v]) → VL g X 0 0 u 0 (lv_args 0 av) []) : CI g l y ws rm av u post := by
  refine Met.ofW (cc := cc) (maxL := nL) (ret := some ty) hy hw ?_
  intro p e s m args below meth c s₁ B hml hv
  obtain ⟨rfl, hs, hP, hK, hZ⟩ := hv
  have hl := lv_entry av (n := nL) hlen
  rw [lg_entry_eq]
  generalize (lg_sl av ++ List.replicate (nL - (lg_sl av).length) Slot.unset).toArray = ls at hl ⊢
  refine body (p, l, e, (headSpec ws rm).room, s, m, av.toArray, below, meth, c, _) rfl ⟨B.exec, B.bytes, hml, findClass_of_methodNamed B.named, atoms_spec (ws := ws) B.pre, B.returns, B.notSynchronized, hK, hZ, hs, rfl⟩ ?_ s.heap [] ls hP va_S.rf (by rw [hml]; exact hl)
  intro k n u' pc lv v hk hn2 hp hdg H locs ls2 hP2 hS2 _
  refine W.widen hk hn2 ?_
  exact W.zret B.exec B.bytes B.returns (hn v u' hp) (fun t ht _ => ⟨⟨v, u', rfl, hp, by unfold PT; rw [ht]; exact hP2⟩, hS2.F ht⟩) hS2.base hdg B.notSynchronized
theorem CL.of {post : Int64 → (Nat → va_E) → Prop} (hy : plainName y.cls = true) (hw : ws = .code y cc nL (some .long) :: ws') (hlen : (lg_sl av).length ≤ nL)
    (body : ∀ X : kX, X.2.1 = l → Fx g X cc nL (some .long) ws y.cls rm → (∀ (k n : Nat) (u' : Nat → va_E) (pc : Nat) (lv : List (Nat × Value)) (v : Int64), k ≤ rm.cells → n ≤ rm.slots → post v u' → decode cc pc = .ok (.lreturn, 1) → VL g X k n u' pc lv [.long v]) → VL g X 0 0 u 0 (lv_args 0 av) []) : CL g l y ws rm av u post := by
  refine Met.ofW (cc := cc) (maxL := nL) (ret := some .long) hy hw ?_
  intro p e s m args below meth c s₁ B hml hv
  obtain ⟨rfl, hs, hP, hK, hZ⟩ := hv
  have hl := lv_entry av (n := nL) hlen
  rw [lg_entry_eq]
  generalize (lg_sl av ++ List.replicate (nL - (lg_sl av).length) Slot.unset).toArray = ls at hl ⊢
  refine body (p, l, e, (headSpec ws rm).room, s, m, av.toArray, below, meth, c, _) rfl ⟨B.exec, B.bytes, hml, findClass_of_methodNamed B.named, atoms_spec (ws := ws) B.pre, B.returns, B.notSynchronized, hK, hZ, hs, rfl⟩ ?_ s.heap [] ls hP va_S.rf (by rw [hml]; exact hl)
  intro k n u' pc lv v hk hn2 hp hdg H locs ls2 hP2 hS2 _
  refine W.widen hk hn2 ?_
  exact W.lret B.exec B.bytes B.returns (fun t ht _ => ⟨⟨v, u', rfl, hp, by unfold PT; rw [ht]; exact hP2⟩, hS2.F ht⟩) hS2.base hdg B.notSynchronized
theorem CD.of {post : UInt64 → (Nat → va_E) → Prop} (hy : plainName y.cls = true) (hw : ws = .code y cc nL (some .double) :: ws') (hlen : (lg_sl av).length ≤ nL)
    (body : ∀ X : kX, X.2.1 = l → Fx g X cc nL (some .double) ws y.cls rm → (∀ (k n : Nat) (u' : Nat → va_E) (pc : Nat) (lv : List (Nat × Value)) (v : UInt64), k ≤ rm.cells → n ≤ rm.slots → post v u' → decode cc pc = .ok (.dreturn, 1) → VL g X k n u' pc lv [.double v]) → VL g X 0 0 u 0 (lv_args 0 av) []) : CD g l y ws rm av u post := by
  refine Met.ofW (cc := cc) (maxL := nL) (ret := some .double) hy hw ?_
  intro p e s m args below meth c s₁ B hml hv
  obtain ⟨rfl, hs, hP, hK, hZ⟩ := hv
  have hl := lv_entry av (n := nL) hlen
  rw [lg_entry_eq]
  generalize (lg_sl av ++ List.replicate (nL - (lg_sl av).length) Slot.unset).toArray = ls at hl ⊢
  refine body (p, l, e, (headSpec ws rm).room, s, m, av.toArray, below, meth, c, _) rfl ⟨B.exec, B.bytes, hml, findClass_of_methodNamed B.named, atoms_spec (ws := ws) B.pre, B.returns, B.notSynchronized, hK, hZ, hs, rfl⟩ ?_ s.heap [] ls hP va_S.rf (by rw [hml]; exact hl)
  intro k n u' pc lv v hk hn2 hp hdg H locs ls2 hP2 hS2 _
  refine W.widen hk hn2 ?_
  exact W.dret B.exec B.bytes B.returns (fun t ht _ => ⟨⟨v, u', rfl, hp, by unfold PT; rw [ht]; exact hP2⟩, hS2.F ht⟩) hS2.base hdg B.notSynchronized
theorem CQ.of {rt : FieldType} {post : Option Nat → (Nat → va_E) → Prop} (hy : plainName y.cls = true) (hw : ws = .code y cc nL (some rt) :: ws') (hrt : (∃ n, rt = .object n) ∨ ∃ t, rt = .array t) (hlen : (lg_sl av).length ≤ nL)
    (body : ∀ X : kX, X.2.1 = l → Fx g X cc nL (some rt) ws y.cls rm → (∀ (k n : Nat) (u' : Nat → va_E) (pc : Nat) (lv : List (Nat × Value)) (v : Option Nat), k ≤ rm.cells → n ≤ rm.slots → post v u' → decode cc pc = .ok (.areturn, 1) → VL g X k n u' pc lv [va_rf v]) → VL g X 0 0 u 0 (lv_args 0 av) []) : CQ g l y ws rm av u post := by
  refine Met.ofW (cc := cc) (maxL := nL) (ret := some rt) hy hw ?_
  intro p e s m args below meth c s₁ B hml hv
  obtain ⟨rfl, hs, hP, hK, hZ⟩ := hv
  have hl := lv_entry av (n := nL) hlen
  rw [lg_entry_eq]
  generalize (lg_sl av ++ List.replicate (nL - (lg_sl av).length) Slot.unset).toArray = ls at hl ⊢
  refine body (p, l, e, (headSpec ws rm).room, s, m, av.toArray, below, meth, c, _) rfl ⟨B.exec, B.bytes, hml, findClass_of_methodNamed B.named, atoms_spec (ws := ws) B.pre, B.returns, B.notSynchronized, hK, hZ, hs, rfl⟩ ?_ s.heap [] ls hP va_S.rf (by rw [hml]; exact hl)
  intro k n u' pc lv v hk hn2 hp hdg H locs ls2 hP2 hS2 _
  refine W.widen hk hn2 ?_
  exact W.aret B.exec B.bytes B.returns hrt (by cases v with | none => exact Or.inl rfl | some a => exact Or.inr ⟨a, rfl⟩) (fun t ht _ => ⟨⟨v, u', rfl, hp, by unfold PT; rw [ht]; exact hP2⟩, hS2.F ht⟩) hS2.base hdg B.notSynchronized
theorem CV.of {post : (Nat → va_E) → Prop} (hy : plainName y.cls = true) (hw : ws = .code y cc nL none :: ws') (hlen : (lg_sl av).length ≤ nL)
    (body : ∀ X : kX, X.2.1 = l → Fx g X cc nL none ws y.cls rm → (∀ (k n : Nat) (u' : Nat → va_E) (pc : Nat) (lv : List (Nat × Value)), k ≤ rm.cells → n ≤ rm.slots → post u' → decode cc pc = .ok (.return_, 1) → VL g X k n u' pc lv []) → VL g X 0 0 u 0 (lv_args 0 av) []) : CV g l y ws rm av u post := by
  refine Met.ofW (cc := cc) (maxL := nL) (ret := none) hy hw ?_
  intro p e s m args below meth c s₁ B hml hv
  obtain ⟨rfl, hs, hP, hK, hZ⟩ := hv
  have hl := lv_entry av (n := nL) hlen
  rw [lg_entry_eq]
  generalize (lg_sl av ++ List.replicate (nL - (lg_sl av).length) Slot.unset).toArray = ls at hl ⊢
  refine body (p, l, e, (headSpec ws rm).room, s, m, av.toArray, below, meth, c, _) rfl ⟨B.exec, B.bytes, hml, findClass_of_methodNamed B.named, atoms_spec (ws := ws) B.pre, B.returns, B.notSynchronized, hK, hZ, hs, rfl⟩ ?_ s.heap [] ls hP va_S.rf (by rw [hml]; exact hl)
  intro k n u' pc lv hk hn2 hp hdg H locs ls2 hP2 hS2 _
  refine W.widen hk hn2 ?_
  exact W.vret B.exec B.bytes B.returns (fun t ht _ => ⟨⟨u', rfl, hp, by unfold PT; rw [ht]; exact hP2⟩, hS2.F ht⟩) hS2.base hdg B.notSynchronized
end ENT

/-! THE START: what the Statement gives, in the words of the layer (the defs from R_law to lw_At begin with the skeleton) -/
/-! THE CLAIM OUT OF ONE WALK OF THE LAW'S BODY. Your part is whole_start (and what it stands on); all else here is the same for every law, but numbers. -/
def R_law : String := "TickFormsLaw"
def lw_P (b : Addr) (xs : List Int32) (args : Array Value) (s : State) : Prop := args = #[.ref b] ∧ s.IntsAt b xs ∧ xs.length ≤ 260 ∧ (Jvm.Cond.and given_1 narrow_1).before args s = true
/-- what a walk over the start with the record d0 says of its end, said of the start itself -/
theorem lw_closed {s t : State} {o : Outcome} {d0 : Drawn} {L : List Loc} {k n : Nat} (hd0 : s.drawn.sameBut d0 lw_cs) (hv : ∃ v, o = .returned v) (hW : (s.setDrawn d0).WarmedH t.vm) (hs : (s.setDrawn d0).sameButNew ({ t with vm := s.vm } : State) L k n) : State.butDraws s t lw_cs (fun t1 => Framed s o t1 L k n) := by
  have h2 : t.drawn = d0 := congrArg State.drawn hs.1
  refine ⟨⟨hv, hW, State.sameButNew.setDrawn hs s.drawn⟩, ?_, by decide⟩
  rw [h2]
  exact hd0
def lw_Q (_ : Array Value) (s : State) (o : Outcome) (t : State) : Prop := o = .returned (some (.int 1)) ∧ State.butDraws s t lw_cs (fun t1 => Framed s o t1 [] 1200130 5501080)
def lw_Z (below : List Frame) (a : Array Value) (s : State) : State → Prop := fun t => ∃ o, t.status = .running ∧ Ended t below o ∧ lw_Q a s o t
/-- the law's own end, with 1 on the stack, nothing written that was there before, its room as the claim has it; d0: the record of draws at this point (at the entry s.drawn: begin with 'refine W.base ?_' and 'have hd0 := Drawn.sameBut.refl s.drawn lw_cs') -/
theorem lw_ret {p : Program} {l : Launch} {e : Env} {s : State} {m : MethodId} {below : List Frame} {meth : Method} {c : Code} {b : Nat} {d0 : Drawn} (hd0 : s.drawn.sameBut d0 lw_cs) (hx : p.tables.exec = Jvm.exec) (hb : c.code = code) (hr : meth.sig.returnType = ret) (hlocks : meth.locks = false) {pc : Nat} {H : Heap} {ls : Array Slot} (hdg : decode code pc = .ok (.ireturn, 1)) : W p l e room_1 (s.setDrawn d0) m #[Value.ref b] below meth c H [] 1200130 5501080 (lw_Z below #[Value.ref b] s) (F0 m pc ls [.int 1]) := by
  intro T hT X
  obtain ⟨fs, hret, hrun, hended, hW, hframe⟩ := X.leave (v := some (.int 1)) (hlocks := hlocks) (fun h => by rw [hr] at h; cases h)
  have hmeth' : T.vm.method? m = some meth := X.method'
  refine ⟨T.setFrames fs, ?_, .returned (some (.int 1)), hrun, hended, rfl, lw_closed hd0 ⟨_, rfl⟩ hW hframe⟩
  jvm_step X.here [X.here.top, hx, hb, hdg, hmeth', hr, ret, narrow_b1]
  (try refine ⟨rfl, ?_⟩); (try refine ⟨rfl, ?_⟩)
  first | (intro acts; rw [hret _ acts rfl rfl rfl]) | rw [hret _ _ rfl rfl rfl]
  exact Steps.refl _
/-- what holds at the law's entry: the machine, the code, the tables' words (any of lw_tbl by 'hts w (by decide +kernel)'), the script of L ints xs at the cell b, what the Statement gives of the start (any of its parts by flat_of_before) -/
def lw_At (p : Program) (s : State) (m : MethodId) (meth : Method) (c : Code) (b L : Nat) (xs : Nat → Int32) : Prop :=
  p.tables.exec = Jvm.exec ∧ c.code = code ∧ meth.sig.returnType = ret ∧ c.maxLocals = 16 ∧ s.vm.findClass R_law = some m.cls ∧ (∀ w ∈ lw_tbl, w.before #[Value.ref b] s = true) ∧ va_X b L xs s s.heap ∧ b < s.heap.size ∧ meth.locks = false ∧ (Jvm.Cond.and given_1 narrow_1).before #[Value.ref b] s = true
theorem tb_mem {i : Nat} {w : Cond} (h : tables_1[i]? = some w) : w ∈ lw_tbl := List.mem_append_right _ (List.mem_of_getElem? h)
theorem idx_mem {α β : Type} {I : List Nat} {T : List β} {L : List α} {f : α → β} (h : I.map (fun i => T[i]?) = L.map (fun q => some (f q))) : ∀ q ∈ L, f q ∈ T := by
  intro q hq
  have h1 : some (f q) ∈ L.map (fun q => some (f q)) := List.mem_map.mpr ⟨q, hq, rfl⟩
  rw [← h] at h1
  obtain ⟨i, _, hi⟩ := List.mem_map.mp h1
  exact List.mem_of_getElem? hi
set_option maxRecDepth 100000 in
theorem nest_in : ∀ q ∈ nestT, Cond.methodLinkNest q.1 q.2.1 q.2.2.1 q.2.2.2 ∈ tables_1 :=
  idx_mem (I := [23, 52, 58, 71, 218, 226, 230, 233, 341, 195, 301, 23, 23, 23, 23, 23, 349, 260, 329, 486, 305, 495, 464, 468, 478, 271, 395, 399, 403, 407, 411, 425, 426, 510, 511, 443, 447, 451, 455, 23, 239, 256, 275, 287, 289, 300, 23, 23, 23, 23]) (T := tables_1) (L := nestT) (f := fun q => Cond.methodLinkNest q.1 q.2.1 q.2.2.1 q.2.2.2) (by decide +kernel)
theorem st_NW {s : State} {av : Array Value} (hts : ∀ w ∈ lw_tbl, w.before av s = true) : NW s := fun q hq => va_Nw.of rfl (hts _ (List.mem_append_right _ (nest_in q hq)))
theorem st_AO {s : State} {av : Array Value} (hts : ∀ w ∈ lw_tbl, w.before av s = true) : va_AO RX0 s := va_AO.of (hts (.arrayOver (.object RX0)) (tb_mem (i := 57) (by decide +kernel)))
theorem st_str {s : State} {av : Array Value} {k : Nat} {tx : String} (h1 : (Cond.stringRef RX3 k tx).before av s = true) (h2 : (Cond.exactly (.string RX3 k) "java/lang/String").before av s = true) : ∃ a, vk_R RX3 k tx a s := by
  obtain ⟨a, c, cell, k', h3, -⟩ := Cond.exactly_spec h2
  exact ⟨a, vk_R.of h1 h3⟩
set_option maxRecDepth 100000 in
theorem st_EX {s : State} {av : Array Value} (hts : ∀ w ∈ lw_tbl, w.before av s = true) (hgs : ∀ w ∈ flatC (Jvm.Cond.and given_1 narrow_1), w.before av s = true) : EX s :=
  ⟨st_str (hts (.stringRef RX3 178 "no such part") (tb_mem (i := 145) (by decide +kernel))) (hgs (.exactly (.string RX3 178) "java/lang/String") (by decide +kernel)),
   st_str (hts (.stringRef RX3 186 "no such box") (tb_mem (i := 288) (by decide +kernel))) (hgs (.exactly (.string RX3 186) "java/lang/String") (by decide +kernel)),
   st_str (hts (.stringRef RX3 190 "an argument does not fit") (tb_mem (i := 184) (by decide +kernel))) (hgs (.exactly (.string RX3 190) "java/lang/String") (by decide +kernel)),
   st_str (hts (.stringRef RX3 195 "not possible now") (tb_mem (i := 211) (by decide +kernel))) (hgs (.exactly (.string RX3 195) "java/lang/String") (by decide +kernel)),
   va_Nw.of rfl (hts (.castable xI xI) (tb_mem (i := 106) (by decide +kernel))),
   va_Nw.of rfl (hts (.castable xA xA) (tb_mem (i := 177) (by decide +kernel))),
   va_Nw.of rfl (hts (.castable xS xS) (tb_mem (i := 204) (by decide +kernel))),
   va_Nw.of rfl (hts (.declares (Bundle.initS "java/lang/RuntimeException")) (tb_mem (i := 108) (by decide +kernel))),
   va_Nw.of rfl (hts (.declares (Bundle.initS "java/lang/Exception")) (tb_mem (i := 110) (by decide +kernel))),
   va_Nw.of rfl (hts (.declares (Bundle.initS Bundle.tN)) (tb_mem (i := 112) (by decide +kernel)))⟩
set_option maxRecDepth 100000 in
theorem st_ZX {s : State} {av : Array Value} (hts : ∀ w ∈ lw_tbl, w.before av s = true) (hgs : ∀ w ∈ flatC (Jvm.Cond.and given_1 narrow_1), w.before av s = true) : vx_Zq Bundle.tN "UNASSIGNED_STACK" Bundle.steD (fun q => s.heap.size ≤ q) s s.heap ∧ vx_Zq Bundle.tN "SUPPRESSED_SENTINEL" Bundle.listD (fun q => s.heap.size ≤ q) s s.heap :=
  ⟨vx_Zqof (hts (.laysStatic Bundle.tN "UNASSIGNED_STACK" Bundle.steD) (tb_mem (i := 131) (by decide +kernel))) (hts (.initialized Bundle.tN) (tb_mem (i := 5) (by decide +kernel))) (hgs (.isRef (.static Bundle.tN "UNASSIGNED_STACK" Bundle.steD)) (by decide +kernel)) (fun a h => Nat.not_le.mpr h),
   vx_Zqof (hts (.laysStatic Bundle.tN "SUPPRESSED_SENTINEL" Bundle.listD) (tb_mem (i := 133) (by decide +kernel))) (hts (.initialized Bundle.tN) (tb_mem (i := 5) (by decide +kernel))) (hgs (.isRef (.static Bundle.tN "SUPPRESSED_SENTINEL" Bundle.listD)) (by decide +kernel)) (fun a h => Nat.not_le.mpr h)⟩
theorem st_ac {s : State} {av : Array Value} {ty : FieldType} (h : (Cond.arrayClass ty).before av s = true) : ∃ c, ArrOfT s c ty ∧ s.vm.findClass ("[" ++ ty.toString) = some c := by
  obtain ⟨c, k, comp, h1, h2, h3⟩ := Cond.arrayClass_spec h
  exact ⟨c, fun n z => ⟨fun q hq => (by cases hq), k, h2, comp, h3⟩, h1⟩
theorem st_ao {s : State} {av : Array Value} (h : (Cond.arrayOver (.object RX0)).before av s = true) : ∃ c, ArrOfT s c (.object RX0) ∧ va_RA s c (.object RX0) := by
  obtain ⟨comp, c, k, h1, h2, h3, h4, h5⟩ := Cond.arrayOver_spec h
  exact ⟨c, fun n z => ⟨fun q hq => (by cases hq), k, h3, comp, h4⟩, k, comp, h3, h4, h1, h5⟩
set_option maxRecDepth 100000 in
theorem st_K {s : State} {av : Array Value} (hts : ∀ w ∈ lw_tbl, w.before av s = true) : ∃ (dC : Nat → ClassId) (dI : Nat → Nat → Nat) (ca : Nat → ClassId), va_K (dC, dI) vwCl (tq ca) s := by
  obtain ⟨c0, i0, k0⟩ := u_known (C := RX0) (T := TX0) (N := 7) (n := 7) hts inX0 (hts (.instantiable RX0 7) (tb_mem (i := 22) (by decide +kernel)))
  obtain ⟨c1, i1, k1⟩ := u_known (C := RX1) (T := TX1) (N := 3) (n := 3) hts inX1 (hts (.instantiable RX1 3) (tb_mem (i := 51) (by decide +kernel)))
  obtain ⟨c2, i2, k2⟩ := u_known (C := RX2) (T := TX2) (N := 2) (n := 2) hts inX2 (hts (.instantiable RX2 2) (tb_mem (i := 70) (by decide +kernel)))
  obtain ⟨c3, i3, k3⟩ := u_known (C := RX3) (T := TX3) (N := 4) (n := 4) hts inX3 (hts (.instantiable RX3 4) (tb_mem (i := 14) (by decide +kernel)))
  obtain ⟨a0, f0, g0⟩ := st_ac (ty := .int) (hts (.arrayClass .int) (tb_mem (i := 49) (by decide +kernel)))
  obtain ⟨a2, f2, g2⟩ := st_ao (hts (.arrayOver (.object RX0)) (tb_mem (i := 57) (by decide +kernel)))
  refine ⟨fun k => if k = 0 then c0 else if k = 1 then c1 else if k = 2 then c2 else c3, fun k => if k = 0 then i0 else if k = 1 then i1 else if k = 2 then i2 else i3, fun k => if k = 0 then a0 else a2, ?_, ?_⟩
  · intro k q hq
    match k, hq with
    | 0, hq => cases hq; exact k0
    | 1, hq => cases hq; exact k1
    | 2, hq => cases hq; exact k2
    | 3, hq => cases hq; exact k3
    | k + 4, hq => simp [vwCl] at hq
  · intro k q hq
    match k, hq with
    | 0, hq => cases hq; exact ⟨f0, g0⟩
    | 1, hq => cases hq; exact ⟨f0, g0⟩
    | 2, hq => cases hq; exact ⟨f2, g2⟩
    | k + 3, hq => simp [tq] at hq
theorem st_fl {l : Launch} (h : l.flags = flags0) : l.stackTraces = false := by
  unfold Launch.stackTraces
  rw [h]
  decide +kernel
/-! a world as a list, in the words of the layer -/
def lA (L : va_W) : Nat → Nat := fun i => ((L[i]?).map Prod.fst).getD 0
def lU (L : va_W) : Nat → va_E := fun i => ((L[i]?).map Prod.snd).getD (.inr (0, []))
theorem kw_L {L : va_W} (hL : L.length = kN) (D : va_G) (ca : Nat → ClassId) (hz : Nat) : kw (D, lA L, ca, hz, 0) (lU L) = L := by
  apply List.ext_getElem?
  intro i
  by_cases h : i < kN
  · rw [kw_get h]
    have hl : i < L.length := by rw [hL]; exact h
    have e : L[i]? = some L[i] := List.getElem?_eq_getElem hl
    show some (((L[i]?).map Prod.fst).getD 0, ((L[i]?).map Prod.snd).getD (.inr (0, []))) = L[i]?
    rw [e]
    rfl
  · have e1 : (kw (D, lA L, ca, hz, 0) (lU L))[i]? = none := by simp [kw, kM]; omega
    have e2 : L[i]? = none := List.getElem?_eq_none (by omega)
    rw [e1, e2]
theorem gOK_L {L : va_W} (hL : L.length = kN) (D : va_G) (ca : Nat → ClassId) (hz : Nat) (h : va_D (fun q => hz ≤ q) L) : gOK (D, lA L, ca, hz, 0) := by
  refine gOK_D (u := lU L) ?_
  rw [kw_L hL D ca hz]
  exact h
/-- all cells at the law's loop -/
def cW (h0 : Nat) (a b : Nat → Nat) (h r : Nat) (qs : Nat → Nat → Nat) (t cd z1 z2 z3 z4 z5 : Nat) (ca : Nat → ClassId) : va_W := cC h0 a b h r qs t cd ca ++ [(z1, .inl (ca 0, 16, .inl (fun _ => 0))), (z2, .inl (ca 0, 16, .inl (fun _ => 0))), (z3, .inl (ca 0, 16, .inl (fun _ => 0))), (z4, .inl (ca 0, 16, .inl (fun _ => 0))), (z5, .inl (ca 0, 16, .inl (fun _ => 0)))]
set_option maxRecDepth 100000 in
theorem cW_len {h0 : Nat} {a b : Nat → Nat} {h r : Nat} {qs : Nat → Nat → Nat} {t cd z1 z2 z3 z4 z5 : Nat} {ca : Nat → ClassId} : (cW h0 a b h r qs t cd z1 z2 z3 z4 z5 ca).length = kN := rfl
set_option maxHeartbeats 32000000 in
set_option maxRecDepth 100000 in
/-- what holds at the law's loop the first time -/
theorem inv0 {h0 : Nat} {a b : Nat → Nat} {h r : Nat} {qs : Nat → Nat → Nat} {t cd z1 z2 z3 z4 z5 : Nat} {ca : Nat → ClassId} {D : va_G} {hz : Nat} : TW (D, lA (cW h0 a b h r qs t cd z1 z2 z3 z4 z5 ca), ca, hz, 0) (lU (cW h0 a b h r qs t cd z1 z2 z3 z4 z5 ca)) z1 z2 z3 z4 z5 0 (fun _ _ => 0) 0 (fun _ => (0, fun _ _ => 0)) 0 (fun _ => 0) (fun _ => 0) (fun _ => 0) (fun _ => 0) (fun _ => 0) (fun _ => 0) := by
  refine ⟨⟨rfl, ?_, ?_, ?_, ?_⟩, ⟨kL (by decide), rfl, rfl⟩, ⟨kL (by decide), rfl, rfl⟩, ⟨kL (by decide), rfl, rfl⟩, ⟨kL (by decide), rfl, rfl⟩, ⟨kL (by decide), rfl, rfl⟩⟩
  · refine ⟨fun _ _ => 0, fun _ => 0, ?_, by omega, fun b hb => absurd hb (Nat.not_lt_zero b)⟩
    rw [nI_0]
    exact ⟨rfl, rfl, rfl, rfl, rfl, rfl, rfl⟩
  · exact ⟨0, fun _ _ => 0, fun _ => 0, rfl, rfl, rfl, rfl, rfl, rfl, rfl⟩
  · refine ⟨0, by omega, ?_, ⟨fun j => if j < 6 then some (qs j 0) else none, rfl, ?_⟩, by omega, ?_, fun k hk => absurd hk (Nat.not_lt_zero k)⟩
    · rw [nI_0]
      rfl
    · intro j hj
      rcases (show j = 0 ∨ j = 1 ∨ j = 2 ∨ j = 3 ∨ j = 4 ∨ j = 5 by omega) with rfl | rfl | rfl | rfl | rfl | rfl <;> rfl
    · intro j hj
      refine ⟨0, fun _ _ => 0, fun _ => 0, ?_⟩
      rcases (show j = 0 ∨ j = 1 ∨ j = 2 ∨ j = 3 ∨ j = 4 ∨ j = 5 by omega) with rfl | rfl | rfl | rfl | rfl | rfl <;> exact ⟨rfl, rfl, rfl, rfl, rfl, rfl, rfl⟩
  · refine ⟨fun _ => 0, ?_, rfl, by omega, fun j hj => absurd hj (Nat.not_lt_zero j)⟩
    rw [nI_0]
    rfl
theorem ok0 : okB 0 (fun _ _ => 0) (fun _ => 0) (fun _ => 0) (fun _ => 0) (fun _ => 0) (fun _ => 0) :=
  ⟨fun b hb => absurd hb (Nat.not_lt_zero b), fun b hb => absurd hb (Nat.not_lt_zero b), fun b hb => absurd hb (Nat.not_lt_zero b), fun b hb => absurd hb (Nat.not_lt_zero b)⟩

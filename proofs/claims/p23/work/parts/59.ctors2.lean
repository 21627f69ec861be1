/-! THE OTHER CONSTRUCTORS: History (a row, six forms in a loop), TickForms (two forms, a history, a text) -/
theorem va_RA.one {U : State} {c0 c1 : ClassId} {ty : FieldType} (h0 : va_RA U c0 ty) (h1 : va_RA U c1 ty) : c0 = c1 := by
  cases ty with
  | object C =>
    obtain ⟨_, _, _, _, _, a⟩ := h0
    obtain ⟨_, _, _, _, _, b⟩ := h1
    exact Option.some.inj (a.symm.trans b)
  | _ =>
    have a : U.vm.findClass _ = some c0 := h0
    have b : U.vm.findClass _ = some c1 := h1
    exact Option.some.inj (a.symm.trans b)
theorem nd_of : ∀ {l : List Nat}, l.Nodup → va_nd l = true
  | [], _ => rfl
  | a :: l, h => by
    have h1 := List.nodup_cons.mp h
    simp [va_nd, h1.1, nd_of h1.2]
theorem rg_map {α : Type} (w x : List α) : (List.range w.length).map (fun i => (w ++ x)[i]?) = w.map some := by
  apply List.ext_getElem?
  intro i
  by_cases h : i < w.length
  · have e1 : (w ++ x)[i]? = some w[i] := by rw [List.getElem?_append_left h, List.getElem?_eq_getElem h]
    simp [h, e1]
  · have e1 : ((List.range w.length).map (fun i => (w ++ x)[i]?))[i]? = none := by
      apply List.getElem?_eq_none
      simp
      omega
    have e2 : (w.map some)[i]? = none := by
      apply List.getElem?_eq_none
      simp
      omega
    rw [e1, e2]
/-- a world and one cell more: the cell's own part, and what stands behind a call on it -/
theorem va_P.last {D : va_G} {cl : List vw_C} {ws : va_W} {x : Nat × va_E} {H : Heap} (h : va_P D cl (ws ++ [x]) H) : va_P D cl [x] H := h.sub [ws.length] (by simp)
theorem va_D.last {A : Nat → Prop} {ws : va_W} {x : Nat × va_E} (h : va_D A (ws ++ [x])) : va_D A [x] := h.sub [ws.length] (by simp [va_nd]) (by simp)
theorem va_freeL {A0 : Nat → Prop} {ws : va_W} {x : Nat × va_E} {H0 H : Heap} {locs : List Loc} (hD : va_D A0 (ws ++ [x])) (hS : va_S A0 H0 H locs) (hA : ∀ q, H0.size ≤ q → A0 q) : ∀ q, va_A [x] H.size q → A0 q := va_free hD hS hA [ws.length] (by simp)
theorem va_joinL {A0 : Nat → Prop} {D : va_G} {cl : List vw_C} {ws w1 : va_W} {x : Nat × va_E} {H H1 : Heap} (hP : va_P D cl (ws ++ [x]) H) (hD : va_D A0 (ws ++ [x])) (hk : ∀ q : Nat, q < H.size → ¬ va_A [x] H.size q → H1[q]? = H[q]?) (hF : ∀ q, va_A [x] H.size q → A0 q) (hP1 : va_P D cl w1 H1) (hD1 : va_D (va_A [x] H.size) w1) : va_P D cl (ws ++ w1) H1 ∧ va_D A0 (ws ++ w1) :=
  va_join hP hD [ws.length] (List.range ws.length) (by simp) (rg_map ws [x]) (nd_of List.nodup_range) (fun i hi h => by
    rw [List.mem_singleton] at h
    rw [List.mem_range] at hi
    omega) hk hF hP1 hD1
abbrev tq (ca : Nat → ClassId) : List (ClassId × FieldType) := [(ca 0, .int), (ca 0, .int), (ca 2, .object RX0)]
/-- a new form's cells -/
def cF (q : Nat → Nat) (ci : ClassId) : va_W := [(q 0, .inr (0, [.ref (q 1), .ref (q 2), .ref (q 3), .ref (q 4), .ref (q 5), .ref (q 6), .int 0])), (q 1, .inl (ci, 16, .inl (fun _ => 0))), (q 2, .inl (ci, 16, .inl (fun _ => 0))), (q 3, .inl (ci, 16, .inl (fun _ => 0))), (q 4, .inl (ci, 16, .inl (fun _ => 0))), (q 5, .inl (ci, 16, .inl (fun _ => 0))), (q 6, .inl (ci, 16, .inl (fun _ => 0)))]
def cFs : Nat → (Nat → Nat → Nat) → ClassId → va_W
  | 0, _, _ => []
  | i + 1, qs, ci => cFs i qs ci ++ cF (qs i) ci
theorem cFs_c {qs qs' : Nat → Nat → Nat} {ci : ClassId} : ∀ {i : Nat}, (∀ j, j < i → qs' j = qs j) → cFs i qs' ci = cFs i qs ci
  | 0, _ => rfl
  | i + 1, h => by
    show cFs i qs' ci ++ cF (qs' i) ci = cFs i qs ci ++ cF (qs i) ci
    rw [cFs_c (fun j hj => h j (by omega)), h i (by omega)]
def q7 (a b c d e f g : Nat) : Nat → Nat := fun k => match k with
  | 0 => a
  | 1 => b
  | 2 => c
  | 3 => d
  | 4 => e
  | 5 => f
  | _ => g
/-- a new history's cells -/
def cH (h r : Nat) (qs : Nat → Nat → Nat) (ci cq : ClassId) : va_W := (h, .inr (1, [.ref r, .int 0, .int 0])) :: (r, .inl (cq, 6, .inr (.inr (.inr (.inr (fun j => if j < 6 then some (qs j 0) else none)))))) :: cFs 6 qs ci
set_option maxHeartbeats 4000000 in
set_option maxRecDepth 100000 in
/-- new Form(), by a nest mate: the form's seven cells more -/
theorem w_form {p : Program} (l : Launch) {e : Env} {R : Room} {s : State} {m : MethodId} {args : Array Value} {below : List Frame} {meth : Method} {c : Code} {H : Heap} {locs : List Loc} {cells slots : Nat} {Q : State → Prop} {cc : ByteArray} {nL pc : Nat} {ls : Array Slot} {rest : List Value} {dC : Nat → ClassId} {dI : Nat → Nat → Nat} {tys : List (ClassId × FieldType)} {A : Nat → Prop} {H0 : Heap} {ws : va_W} {Ts : List Cond} {own : String} {i1 i2 : Nat} {cI : ClassId}
    (hx : p.tables.exec = Jvm.exec) (hb : c.code = cc) (hml : c.maxLocals = nL) (hown : s.vm.findClass own = some m.cls) (hts : ∀ w ∈ Ts, w.before args s = true) (hin : ∀ w ∈ u_ws RX0 TX0 7, w ∈ Ts) (hcl : Cond.classLink own i1 RX0 ∈ Ts) (hinst : Cond.instantiable RX0 7 ∈ Ts) (hini : Cond.initialized RX0 ∈ Ts) (him : Cond.instanceMethod yX0_init ∈ Ts) (hG : GoodIn Ts wsX0_init) (hnl : va_Nw (.methodLinkNest own i2 yX0_init RX3) s)
    (hR : 2 ≤ R.frames ∧ 41 ≤ R.locals) (hcells : cells + 7 ≤ R.cells) (hslots : slots + 103 ≤ R.slots) (hK : va_K (dC, dI) vwCl tys s) (htI : tys[0]? = some (cI, .int)) (hP : va_P (dC, dI) vwCl ws H) (hD : va_D A ws) (hS : va_S A H0 H locs) (hA : ∀ q, H0.size ≤ q → A q) (hls : ls.size = nL) (hcat : ∀ q : Nat, (((.ref q :: rest : List Value)).map fun v => v.category).sum ≤ 8)
    (d1 : decode cc pc = .ok (.new i1, 3)) (d2 : decode cc (pc + 3) = .ok (.dup, 1)) (d3 : decode cc (pc + 3 + 1) = .ok (.invokespecial i2, 3))
    (kk : ∀ (q : Nat → Nat) (H1 : Heap) (locs1 : List Loc), va_P (dC, dI) vwCl (ws ++ cF q cI) H1 → va_D A (ws ++ cF q cI) → va_S A H0 H1 locs1 → W p l e R s m args below meth c H1 locs1 (cells + 7) (slots + 103) Q (F0 m (pc + 3 + 1 + 3) ls (.ref (q 0) :: rest))) : W p l e R s m args below meth c H locs cells slots Q (F0 m pc ls rest) := by
  refine va_new (ci := 0) (fs := [.null, .null, .null, .null, .null, .null, .int 0]) (C := RX0) (T := TX0) (N := 7) hx hb hts hin tyX0 tyX0_ok hown (hts _ hcl) (hts _ hinst) (hts _ hini) hK hP hD hS hA rfl (fun j hj => by rcases (show j = 0 ∨ j = 1 ∨ j = 2 ∨ j = 3 ∨ j = 4 ∨ j = 5 ∨ j = 6 by omega) with rfl | rfl | rfl | rfl | rfl | rfl | rfl <;> rfl) (by omega) (by omega) d1 (fun q H hP hD hS => ?_)
  refine lv_dup hx hb d2 rfl ?_
  have hPc := hP.last
  have hDc := hD.last
  have hKc := hK.sub (tys' := []) [] rfl
  have hFc := va_freeL hD hS hA
  refine va_callv (va_runIN (As := []) (rest := .ref q :: rest) ⟨hx, hb, hml, hown, hts⟩ (c_X0_init l dC dI q H.size) ⟨va_cnB 0 hts hG rfl rfl rfl hnl (hts _ hini) (by decide +kernel) ⟨hR.1, hR.2⟩, rfl, hts _ him⟩ ⟨fun a U g mk q => by obtain ⟨q0, q1, qP, qK, qD⟩ := q; exact ⟨q0, q1, qP, va_K.moved (u := U) (U := U.calling g mk a) (Vm.Alike.refl U.vm) qK, qD⟩, fun U hU hW => ⟨rfl, by rw [hU], by rw [hU]; exact hPc, va_K.moved hW.alike hKc, hDc.weaken (fun _ _ _ _ => trivial)⟩⟩ rfl rfl hls rfl (lv_room (hcat q)) d3 ⟨by omega, by omega⟩) hS (fun q _ h => hFc q h) hFc (fun u t H1 locs ht hvm hw hB hz1 hk1 hS => ?_)
  obtain ⟨q0, q1, q2, q3, q4, q5, c0, c1, c2, c3, c4, c5, hP1, hK1, hD1⟩ := hB
  rw [ht] at hP1
  have hK1 := va_K.moved hvm.symm hK1
  have hi := (hK.2 0 _ htI).2
  have e0 : c0 = cI := va_RA.one (hK1.2 0 _ rfl).2 hi
  have e1 : c1 = cI := va_RA.one (hK1.2 1 _ rfl).2 hi
  have e2 : c2 = cI := va_RA.one (hK1.2 2 _ rfl).2 hi
  have e3 : c3 = cI := va_RA.one (hK1.2 3 _ rfl).2 hi
  have e4 : c4 = cI := va_RA.one (hK1.2 4 _ rfl).2 hi
  have e5 : c5 = cI := va_RA.one (hK1.2 5 _ rfl).2 hi
  rw [e0, e1, e2, e3, e4, e5] at hP1 hD1
  obtain ⟨hP, hD⟩ := va_joinL (w1 := cF (q7 q q0 q1 q2 q3 q4 q5) cI) hP hD hk1 hFc hP1 hD1
  exact W.widen (by omega) (by omega) (kk (q7 q q0 q1 q2 q3 q4 q5) H1 locs hP hD hS)
set_option maxHeartbeats 4000000 in
set_option maxRecDepth 100000 in
/-- the loop of new History(): n forms are left to make -/
theorem w_X1loop {p : Program} {l : Launch} {e : Env} {R : Room} {s : State} {m : MethodId} {args : Array Value} {below : List Frame} {meth : Method} {c : Code} {Q : State → Prop} {dC : Nat → ClassId} {dI : Nat → Nat → Nat} {ca : Nat → ClassId} {A : Nat → Prop} {h0 r : Nat}
    (hx : p.tables.exec = Jvm.exec) (hb : c.code = cX1_init) (hml : c.maxLocals = 2) (hown : s.vm.findClass RX1 = some m.cls) (hts : ∀ w ∈ wsX1_init, w.before args s = true) (hN : NW s) (hK : va_K (dC, dI) vwCl (tq ca) s) (hA : ∀ q, s.heap.size ≤ q → A q) (hR : 2 ≤ R.frames ∧ 41 ≤ R.locals) (hcells : 43 ≤ R.cells) (hslots : 624 ≤ R.slots)
    (kend : ∀ (qs : Nat → Nat → Nat) (H : Heap) (locs : List Loc) (ls : Array Slot), va_P (dC, dI) vwCl (cH h0 r qs (ca 0) (ca 2)) H → va_D A (cH h0 r qs (ca 0) (ca 2)) → va_S A s.heap H locs → W p l e R s m args below meth c H locs 43 624 Q (F0 m 43 ls [])) :
    ∀ (n i : Nat) (f : Nat → Option Nat) (qs : Nat → Nat → Nat) (H : Heap) (locs : List Loc) (ls : Array Slot), i + n = 6 → (∀ j, f j = if j < i then some (qs j 0) else none) → va_P (dC, dI) vwCl ((h0, .inr (1, [.ref r, .int 0, .int 0])) :: (r, .inl (ca 2, 6, .inr (.inr (.inr (.inr f))))) :: cFs i qs (ca 0)) H → va_D A ((h0, .inr (1, [.ref r, .int 0, .int 0])) :: (r, .inl (ca 2, 6, .inr (.inr (.inr (.inr f))))) :: cFs i qs (ca 0)) → va_S A s.heap H locs → lv_has ls 2 [(1, .int (nI i)), (0, .ref h0)] → W p l e R s m args below meth c H locs (1 + 7 * i) (6 + 103 * i) Q (F0 m 15 ls []) := by
  intro n
  induction n with
  | zero =>
    intro i f qs H locs ls hi hf hP hD hS hl
    obtain rfl : i = 6 := by omega
    refine lv_iload_n hx hb dX1_init_15 rfl (lv_at hl 0 rfl) ?_
    refine lv_aload_n hx hb dX1_init_16 rfl (lv_at hl 1 rfl) ?_
    refine va_get (D := (dC, dI)) (ci := 1) (v := .ref r) (C := RX1) (T := TX1) (N := 3) hx hb hts (by decide +kernel) hown hK hP 0 rfl rfl 0 (by decide) (hts (.fieldLink RX1 11 "TickForms$History" "states" "[LTickForms$Form;") (by decide +kernel)) (fun _ h9 => h9) rfl dX1_init_17 ?_
    refine va_alen hx hb hK hP 1 2 rfl rfl (v := nI 6) rfl dX1_init_20 ?_
    refine lv_icmp_ge (tgt := 43) hx hb dX1_init_21 (by decide) (fun _ => ?_) (fun q => absurd (nI_le (Nat.le_refl 6) (by decide)) q)
    have e : f = fun j => if j < 6 then some (qs j 0) else none := funext hf
    rw [e] at hP hD
    exact W.widen (by omega) (by omega) (kend qs H locs ls hP hD hS)
  | succ n ih =>
    intro i f qs H locs ls hi hf hP hD hS hl
    have hi6 : i < 6 := by omega
    refine lv_iload_n hx hb dX1_init_15 rfl (lv_at hl 0 rfl) ?_
    refine lv_aload_n hx hb dX1_init_16 rfl (lv_at hl 1 rfl) ?_
    refine va_get (D := (dC, dI)) (ci := 1) (v := .ref r) (C := RX1) (T := TX1) (N := 3) hx hb hts (by decide +kernel) hown hK hP 0 rfl rfl 0 (by decide) (hts (.fieldLink RX1 11 "TickForms$History" "states" "[LTickForms$Form;") (by decide +kernel)) (fun _ h9 => h9) rfl dX1_init_17 ?_
    refine va_alen hx hb hK hP 1 2 rfl rfl (v := nI 6) rfl dX1_init_20 ?_
    refine lv_icmp_ge (tgt := 43) hx hb dX1_init_21 (by decide) (fun q => absurd q (nI_ge hi6 (by decide))) (fun _ => ?_)
    refine lv_aload_n hx hb dX1_init_24 rfl (lv_at hl 1 rfl) ?_
    refine va_get (D := (dC, dI)) (ci := 1) (v := .ref r) (C := RX1) (T := TX1) (N := 3) hx hb hts (by decide +kernel) hown hK hP 0 rfl rfl 0 (by decide) (hts (.fieldLink RX1 11 "TickForms$History" "states" "[LTickForms$Form;") (by decide +kernel)) (fun _ h9 => h9) rfl dX1_init_25 ?_
    refine lv_iload_n hx hb dX1_init_28 rfl (lv_at hl 0 rfl) ?_
    refine w_form (own := RX1) (i1 := 9) (i2 := 17) (cI := ca 0) l hx hb hml hown hts (by decide +kernel) (by decide +kernel) (by decide +kernel) (by decide +kernel) (by decide +kernel) gX1_init_X0_init_n17 (hN (RX1, 17, yX0_init, RX3) (List.mem_of_getElem? (i := 2) rfl)) hR (by omega) (by omega) hK rfl hP hD hS hA hl.1 (fun _ => Nat.le_of_ble_eq_true rfl) dX1_init_29 dX1_init_32 dX1_init_33 (fun q H locs hP hD hS => ?_)
    have hv : (((h0, .inr (1, [.ref r, .int 0, .int 0])) :: (r, .inl (ca 2, 6, .inr (.inr (.inr (.inr f))))) :: cFs i qs (ca 0) : va_W) ++ cF q (ca 0))[(cFs i qs (ca 0)).length + 2]? = some (q 0, .inr (0, [.ref (q 1), .ref (q 2), .ref (q 3), .ref (q 4), .ref (q 5), .ref (q 6), .int 0])) := by
      show ((h0, .inr (1, [.ref r, .int 0, .int 0])) :: (r, .inl (ca 2, 6, .inr (.inr (.inr (.inr f))))) :: (cFs i qs (ca 0) ++ cF q (ca 0)) : va_W)[(cFs i qs (ca 0)).length + 2]? = _
      rw [List.getElem?_cons_succ, List.getElem?_cons_succ, List.getElem?_append_right (Nat.le_refl _), Nat.sub_self]
      rfl
    refine va_astq (r := (RX0, TX0, 7)) hx hb hK hP hD hS 1 2 ((cFs i qs (ca 0)).length + 2) 0 rfl rfl hv rfl (vp_in_nI hi6 (by decide)) dX1_init_36 (fun H locs hP hD hS => ?_)
    rw [nI_clamp (by omega)] at hP hD
    refine lv_iinc (v := nI (i + 1)) (lv' := [(1, .int (nI (i + 1))), (0, .ref h0)]) hx hb dX1_init_37 hl (k := 0) rfl (nI_inc _) (by decide) rfl (fun ls hl => ?_)
    refine lv_goto (tgt := 15) hx hb dX1_init_40 (by decide) ?_
    have e : cFs (i + 1) (fun j => if j = i then q else qs j) (ca 0) = cFs i qs (ca 0) ++ cF q (ca 0) := by
      show cFs i (fun j => if j = i then q else qs j) (ca 0) ++ cF (if i = i then q else qs i) (ca 0) = _
      have ec : cFs i (fun j => if j = i then q else qs j) (ca 0) = cFs i qs (ca 0) := cFs_c (fun j hj => if_neg (by omega))
      rw [ec, if_pos rfl]
    have hf' : ∀ j, va_up f i (some (q 0)) j = if j < i + 1 then some ((if j = i then q else qs j) 0) else none := by
      intro j
      unfold va_up
      by_cases e1 : j = i
      · subst e1
        simp
      · by_cases e2 : j < i
        · have e3 : j < i + 1 := by omega
          simp [e1, hf j, e2, e3]
        · have e3 : ¬ j < i + 1 := by omega
          simp [e1, hf j, e2, e3]
    refine W.widen (k := 1 + 7 * (i + 1)) (n := 6 + 103 * (i + 1)) (by omega) (by omega) ?_
    exact ih (i + 1) (va_up f i (some (q 0))) (fun j => if j = i then q else qs j) H locs ls (by omega) hf' (by rw [e]; exact hP) (by rw [e]; exact hD) hS hl
set_option maxHeartbeats 4000000 in
set_option maxRecDepth 100000 in
/-- new History() -/
theorem c_X1_init (l : Launch) (dC : Nat → ClassId) (dI : Nat → Nat → Nat) (ca : Nat → ClassId) (h0 : Nat) (sz : Nat) : Met l yX1_init wsX1_init ({ frames := 2, cells := 43, slots := 624, locals := 41 }) (va_Pc [.ref h0] (fun U => U.heap.size = sz ∧ va_P (dC, dI) vwCl [(h0, .inr (1, [.null, .int 0, .int 0]))] U.heap ∧ va_K (dC, dI) vwCl (tq ca) U ∧ va_D (fun _ => True) [(h0, .inr (1, [.null, .int 0, .int 0]))] ∧ NW U ∧ va_AO RX0 U)) (va_Qv (fun _ : Unit => True) (fun _ t => ∃ (r : Nat) (qs : Nat → Nat → Nat), va_P (dC, dI) vwCl (cH h0 r qs (ca 0) (ca 2)) t.heap ∧ va_D (va_A [(h0, .inr (1, [.null, .int 0, .int 0]))] sz) (cH h0 r qs (ca 0) (ca 2))) (va_A [(h0, .inr (1, [.null, .int 0, .int 0]))] sz)) 43 624 (va_A [(h0, .inr (1, [.null, .int 0, .int 0]))] sz) := by
  refine Met.ofW (cc := cX1_init) (maxL := 2) (ret := none) (by decide) rfl ?_
  intro p e s m args below meth c s₁ B hml hv
  obtain ⟨rfl, hsz, hP, hK, hD0, hN, hO⟩ := hv
  have hx := B.exec
  have hb := B.bytes
  have hr := B.returns
  have hts := atoms_spec (ws := wsX1_init) B.pre
  have hown : s.vm.findClass RX1 = some m.cls := findClass_of_methodNamed B.named
  have hlocks := B.notSynchronized
  have hin : meth.name = "<init>" := (name_of_methodNamed B.named B.method).1
  subst hsz
  have hD := hD0.self (sz := s.heap.size)
  generalize hAe : va_A [(h0, .inr (1, [.null, .int 0, .int 0]))] s.heap.size = A at hD ⊢
  have hA : ∀ q : Nat, s.heap.size ≤ q → A q := fun q h => by rw [← hAe]; exact Or.inr h
  have hS : va_S A s.heap s.heap [] := va_S.rf
  have hP : va_P (dC, dI) vwCl [(h0, .inr (1, [.null, .int 0, .int 0]))] s.heap := hP
  have hl := lv_entry ([.ref h0]) (n := 2) (Nat.le_of_ble_eq_true rfl)
  rw [lg_entry_eq]
  generalize (lg_sl ([.ref h0]) ++ List.replicate (2 - (lg_sl ([.ref h0])).length) Slot.unset).toArray = ls at hl ⊢
  have hl : lv_has ls 2 [(0, .ref h0)] := hl
  refine lv_aload_n hx hb dX1_init_0 rfl (lv_at hl 0 rfl) ?_
  refine W.objInit hx hb hown (hts (.methodLink RX1 3 objectInit) (by decide +kernel)) (hts (.instanceMethod objectInit) (by decide +kernel)) (hts _ (show Cond.code objectInit ⟨#[0xb1]⟩ 1 none ∈ wsX1_init from List.mem_of_getElem? (i := 3) rfl)) rfl (by rw [hml]; exact hl.1) rfl dX1_init_1 (Nat.le_of_ble_eq_true rfl) (Nat.le_of_ble_eq_true rfl) ?_
  refine W.eq (g2 := F0 m 4 ls []) rfl ?_
  refine lv_aload_n hx hb dX1_init_4 rfl (lv_at hl 0 rfl) ?_
  refine lv_bipush (v := 6) hx hb dX1_init_5 (by decide) ?_
  refine va_newq (C := RX0) (N' := 6) hx hb hown (hts (.classLink RX1 9 RX0) (by decide +kernel)) hO hK hP hD hS hA (by decide) rfl (Nat.le_of_ble_eq_true rfl) (Nat.le_of_ble_eq_true rfl) (Nat.le_of_ble_eq_true rfl) dX1_init_7 (fun r cQ H hK2 hP hD hS => ?_)
  have eQ : cQ = ca 2 := va_RA.one (hK2.2 3 _ rfl).2 (hK.2 2 _ rfl).2
  rw [eQ] at hP hD
  have hP : va_P (dC, dI) vwCl [(h0, .inr (1, [.null, .int 0, .int 0])), (r, .inl (ca 2, 6, .inr (.inr (.inr (.inr (fun _ => none))))))] H := hP
  have hD : va_D A [(h0, .inr (1, [.null, .int 0, .int 0])), (r, .inl (ca 2, 6, .inr (.inr (.inr (.inr (fun _ => none))))))] := hD
  refine va_putF (D := (dC, dI)) (ci := 1) (v := .ref r) (C := RX1) (T := TX1) (N := 3) (ty := .array (.object RX0)) hx hb hts (by decide +kernel) tyX1 tyX1_ok nmX1 hown hK hP hD hS 0 rfl rfl 0 (by decide) (hts (.fieldLink RX1 11 "TickForms$History" "states" "[LTickForms$Form;") (by decide +kernel)) (fun _ h9 => h9) rfl hin rfl (by decide +kernel) rfl rfl (Nat.le_of_ble_eq_true rfl) dX1_init_10 (fun H locs hP hD hS => ?_)
  have hP : va_P (dC, dI) vwCl [(h0, .inr (1, [.ref r, .int 0, .int 0])), (r, .inl (ca 2, 6, .inr (.inr (.inr (.inr (fun _ => none))))))] H := hP
  have hD : va_D A [(h0, .inr (1, [.ref r, .int 0, .int 0])), (r, .inl (ca 2, 6, .inr (.inr (.inr (.inr (fun _ => none))))))] := hD
  refine lv_iconst (v := 0) hx hb dX1_init_13 (by decide) ?_
  refine lv_istore_n (lv' := [(1, .int 0), (0, .ref h0)]) hx hb dX1_init_14 rfl hl (by decide) rfl (fun ls hl => ?_)
  rw [← nI_0] at hl
  refine W.widen (k := 1 + 7 * 0) (n := 6 + 103 * 0) (Nat.le_of_ble_eq_true rfl) (Nat.le_of_ble_eq_true rfl) ?_
  refine w_X1loop hx hb hml hown hts hN hK hA ⟨Nat.le_of_ble_eq_true rfl, Nat.le_of_ble_eq_true rfl⟩ (Nat.le_of_ble_eq_true rfl) (Nat.le_of_ble_eq_true rfl) (fun qs H locs ls hP hD hS => ?_) 6 0 (fun _ => none) (fun _ _ => 0) H locs ls rfl (fun j => by simp) hP hD hS hl
  exact W.vret hx hb hr (fun t ht hW => ⟨⟨(), rfl, trivial, r, qs, by rw [ht]; exact hP, hD⟩, hS.F ht⟩) hS.2.2 dX1_init_43

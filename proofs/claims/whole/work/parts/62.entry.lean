/-! THE LAW FROM ITS ENTRY (the head of whole_start is the skeleton's) -/
set_option maxHeartbeats 4000000 in
set_option maxRecDepth 100000 in
/-- from the loop on -/
theorem law_end {p : Program} {e : Env} {s : State} {m : MethodId} {below : List Frame} {meth : Method} {c : Code} {l : Launch} (hflags : l.flags = flags0) {b L : Nat} {xs : Nat → Int32} (hL : L ≤ 2048) (C0 : lw_At p s m meth c b L xs) {g : kG} {u : Nat → va_E} (hg : g.2.2.2 = s.heap.size) (hKT : KT g s) (hZ : ZX g s s.heap) (I : Inv g u) {H : Heap} {locs : List Loc} {ls : Array Slot} (hP : va_P g.1 vwCl (kw g u) H) (hS : va_S (GA g) s.heap H locs) (hl : lv_has ls 9 [(0, .ref b), (1, .ref (g.2.1 0)), (2, .ref (g.2.1 61)), (3, .ref (g.2.1 69)), (4, .int (nI 0))]) : W p l e room_1 s m #[Value.ref b] below meth c H locs 70 1623 (lw_Z below #[Value.ref b] s) (F0 m 23 ls []) := by
  obtain ⟨hx, hb, hr, hml, hown, hts, hX, hbl, hlocks, hgv⟩ := id C0
  have hw : ∀ w ∈ wsL_law, w.before #[Value.ref b] s = true := fun w h => hts w (wsL_law_in w h)
  have F : Fx g (p, l, e, room_1, s, m, #[Value.ref b], below, meth, c, lw_Z below #[Value.ref b] s) cL_law 9 ret wsL_law RL room_1 := ⟨hx, hb, hml, hown, hw, hr, hlocks, hKT, hZ, Nat.le_of_eq hg, rfl⟩
  have T : Sx g (p, l, e, room_1, s, m, #[Value.ref b], below, meth, c, lw_Z below #[Value.ref b] s) b L xs := ⟨hX, hbl, fun h => by
    have h : g.2.2.2 ≤ b := h
    omega, st_EC (flat_of_before _ hgv)⟩
  have hk : 70 + 4 * (L / 4) ≤ room_1.cells := by
    show 70 + 4 * (L / 4) ≤ 601024
    omega
  have hn : 1623 + 24 * (L / 4) ≤ room_1.slots := by
    show 1623 + 24 * (L / 4) ≤ 7293034
    omega
  refine law_loop (X := (p, l, e, room_1, s, m, #[Value.ref b], below, meth, c, lw_Z below #[Value.ref b] s)) (st_fl hflags) F T hL (Nat.le_of_ble_eq_true rfl) (Nat.le_of_ble_eq_true rfl) hk hn ?_ (L / 4) 0 70 1623 u (by omega) (by omega) (Nat.le_refl _) (Nat.le_refl _) I H locs ls hP hS (by rw [hml]; exact hl)
  intro k n u lv hk2 hn2 H locs ls hP hS h
  refine lv_iconst (v := 1) hx hb dL_law_1070 (by decide) ?_
  refine va_forget (fun q hq => by
    have z : g.2.2.2 ≤ q.base := hS.2.2 q hq
    omega) ?_
  have hk3 : k ≤ 601024 := by omega
  have hn3 : n ≤ 7293034 := by omega
  refine W.widen (k := 601024) (n := 7293034) hk3 hn3 ?_
  refine W.base ?_
  exact lw_ret (Drawn.sameBut.refl s.drawn lw_cs) hx hb hr hlocks dL_law_1071
set_option maxHeartbeats 4000000 in
set_option maxRecDepth 100000 in
/-- from the entry, for every script of at most 2048 ints, the law comes to its end with true -/
theorem whole_start {p : Program} {e : Env} {s : State} {m : MethodId} {below : List Frame} {meth : Method} {c : Code} (l : Launch) (hflags : l.flags = flags0) {b L : Nat} {xs : Nat → Int32} (hL : L ≤ 2048) (C0 : lw_At p s m meth c b L xs) : W p l e room_1 s m #[Value.ref b] below meth c s.heap [] 0 0 (lw_Z below #[Value.ref b] s) (entryFrame m ([Value.ref b] : List Value).toArray 9) := by
  obtain ⟨hx, hb, hr, hml, hown, hts, hX, hbl, hlocks, hgv⟩ := id C0
  have hb : c.code = cL_law := hb
  have hown : s.vm.findClass RL = some m.cls := hown
  have hgs := flat_of_before _ hgv
  have hw : ∀ w ∈ wsL_law, w.before #[Value.ref b] s = true := fun w h => hts w (wsL_law_in w h)
  have hN := st_NW hts
  have hO := st_AO hts
  have hE := st_EX hts hgs
  have hZX := st_ZX hts hgs
  obtain ⟨dC, dI, ca, hK⟩ := st_K hts
  have hA : ∀ q : Nat, s.heap.size ≤ q → (fun q : Nat => s.heap.size ≤ q) q := fun _ h => h
  have hS : va_S (fun q : Nat => s.heap.size ≤ q) s.heap s.heap [] := va_S.rf
  have hP : va_P (dC, dI) vwCl [] s.heap := fun k q h => by simp at h
  have hD : va_D (fun q : Nat => s.heap.size ≤ q) [] := ⟨fun i j p q h => by simp at h, fun k q h => by simp at h⟩
  have hl := lv_entry ([.ref b]) (n := 9) (Nat.le_of_ble_eq_true rfl)
  rw [lg_entry_eq]
  generalize (lg_sl ([.ref b]) ++ List.replicate (9 - (lg_sl ([.ref b])).length) Slot.unset).toArray = ls at hl ⊢
  have hl : lv_has ls 9 [(0, .ref b)] := hl
  refine va_new (ci := 3) (fs := [.null, .null, .null, .null]) (C := RX3) (T := TX3) (N := 4) hx hb hw inlX3 tyX3 tyX3_ok hown (hw (.classLink RL 8 RX3) (List.mem_of_getElem? (i := 0) (by decide +kernel))) (hw (.instantiable RX3 4) (List.mem_of_getElem? (i := 1) (by decide +kernel))) (hw (.initialized RX3) (List.mem_of_getElem? (i := 2) (by decide +kernel))) hK hP hD hS hA rfl (fun j hj => by rcases (show j = 0 ∨ j = 1 ∨ j = 2 ∨ j = 3 by omega) with rfl | rfl | rfl | rfl <;> rfl) (Nat.le_of_ble_eq_true rfl) (Nat.le_of_ble_eq_true rfl) dL_law_0 (fun h0 H hP hD hS => ?_)
  refine lv_dup hx hb dL_law_3 rfl ?_
  have hPc := hP.last
  have hDc := hD.last
  have hFc := va_freeL hD hS hA
  refine va_callv (va_runI (As := []) (rest := [.ref h0]) ⟨hx, hb, hml, hown, hw⟩ (c_X3_init l dC dI ca h0 H.size) (cwI 0 hw gL_law_X3_init rfl rfl rfl (hw (.initialized RX3) (List.mem_of_getElem? (i := 2) (by decide +kernel))) (hw (.methodLink RL 58 yX3_init) (List.mem_of_getElem? (i := 7) (by decide +kernel))) (hw (.instanceMethod yX3_init) (List.mem_of_getElem? (i := 8) (by decide +kernel))) rfl (by decide +kernel) ⟨Nat.le_of_ble_eq_true rfl, Nat.le_of_ble_eq_true rfl⟩) ⟨fun a U g mk q => by obtain ⟨q0, q1, qP, qK, qD, qN, qO⟩ := q; exact ⟨q0, q1, qP, va_K.moved (u := U) (U := U.calling g mk a) (Vm.Alike.refl U.vm) qK, qD, NW.same (u := U) (U := U.calling g mk a) rfl qN, va_AO.moved (u := U) (U := U.calling g mk a) (Vm.Alike.refl U.vm) qO⟩, fun U hU hW => ⟨rfl, by rw [hU], by rw [hU]; exact hPc, va_K.moved hW.alike hK, hDc.weaken (fun _ _ _ _ => trivial), hN.warm hW, va_AO.moved hW.alike hO⟩⟩ rfl rfl hl.1 rfl (lv_room (Nat.le_of_ble_eq_true rfl)) dL_law_4 ⟨Nat.le_of_ble_eq_true rfl, Nat.le_of_ble_eq_true rfl⟩) hS (fun q _ h => hFc q h) hFc (fun u t H1 locs ht hvm hw0 hB hz1 hk1 hS => ?_)
  obtain ⟨a, b2, h, r, qs, tx, cd, hP1, hD1⟩ := hB
  rw [ht] at hP1
  obtain ⟨hP, hD⟩ := va_joinL hP hD hk1 hFc hP1 hD1
  have hP : va_P (dC, dI) vwCl (cC h0 a b2 h r qs tx cd ca) H1 := hP
  have hD : va_D (fun q : Nat => s.heap.size ≤ q) (cC h0 a b2 h r qs tx cd ca) := hD
  refine lv_astore_n (lv' := [(1, .ref h0), (0, .ref b)]) hx hb dL_law_7 rfl hl (by decide) rfl (fun ls hl => ?_)
  refine va_new (ci := 4) (fs := [.int 0, .null, .null, .int 0, .null, .int 0, .null, .null, .int 0, .int 0, .int 0, .null, .null, .long 0]) (C := RX4) (T := TX4) (N := 14) hx hb hw inlX4 tyX4 tyX4_ok hown (hw (.classLink RL 59 RX4) (List.mem_of_getElem? (i := 3) (by decide +kernel))) (hw (.instantiable RX4 14) (List.mem_of_getElem? (i := 4) (by decide +kernel))) (hw (.initialized RX4) (List.mem_of_getElem? (i := 5) (by decide +kernel))) hK hP hD hS hA rfl (fun j hj => by rcases (show j = 0 ∨ j = 1 ∨ j = 2 ∨ j = 3 ∨ j = 4 ∨ j = 5 ∨ j = 6 ∨ j = 7 ∨ j = 8 ∨ j = 9 ∨ j = 10 ∨ j = 11 ∨ j = 12 ∨ j = 13 by omega) with rfl | rfl | rfl | rfl | rfl | rfl | rfl | rfl | rfl | rfl | rfl | rfl | rfl | rfl <;> rfl) (Nat.le_of_ble_eq_true rfl) (Nat.le_of_ble_eq_true rfl) dL_law_8 (fun z H hP hD hS => ?_)
  refine lv_dup hx hb dL_law_11 rfl ?_
  have hPc := hP.last
  have hDc := hD.last
  have hKc := hK.sub (tys' := []) [] rfl
  have hFc := va_freeL hD hS hA
  refine va_callv (va_runI (As := []) (rest := [.ref z]) ⟨hx, hb, hml, hown, hw⟩ (c_X4_init l dC dI z H.size) (cwI 0 hw gL_law_X4_init rfl rfl rfl (hw (.initialized RX4) (List.mem_of_getElem? (i := 5) (by decide +kernel))) (hw (.methodLink RL 61 yX4_init) (List.mem_of_getElem? (i := 45) (by decide +kernel))) (hw (.instanceMethod yX4_init) (List.mem_of_getElem? (i := 46) (by decide +kernel))) rfl (by decide +kernel) ⟨Nat.le_of_ble_eq_true rfl, Nat.le_of_ble_eq_true rfl⟩) ⟨fun a U g mk q => by obtain ⟨q0, q1, qP, qK, qD⟩ := q; exact ⟨q0, q1, qP, va_K.moved (u := U) (U := U.calling g mk a) (Vm.Alike.refl U.vm) qK, qD⟩, fun U hU hW => ⟨rfl, by rw [hU], by rw [hU]; exact hPc, va_K.moved hW.alike hKc, hDc.weaken (fun _ _ _ _ => trivial)⟩⟩ rfl rfl hl.1 rfl (lv_room (Nat.le_of_ble_eq_true rfl)) dL_law_12 ⟨Nat.le_of_ble_eq_true rfl, Nat.le_of_ble_eq_true rfl⟩) hS (fun q _ h => hFc q h) hFc (fun u t H1 locs ht hvm hw0 hB hz1 hk1 hS => ?_)
  obtain ⟨z1, z2, z3, z4, z5, z6, z7, c0, c1, c2, c3, c4, c5, c6, hP1, hK1, hD1⟩ := hB
  rw [ht] at hP1
  have hK1 := va_K.moved hvm.symm hK1
  have hi := (hK.2 0 _ rfl).2
  have e0 : c0 = ca 0 := va_RA.one (hK1.2 0 _ rfl).2 hi
  have e1 : c1 = ca 0 := va_RA.one (hK1.2 1 _ rfl).2 hi
  have e2 : c2 = ca 0 := va_RA.one (hK1.2 2 _ rfl).2 hi
  have e3 : c3 = ca 0 := va_RA.one (hK1.2 3 _ rfl).2 hi
  have e4 : c4 = ca 0 := va_RA.one (hK1.2 4 _ rfl).2 hi
  have e5 : c5 = ca 0 := va_RA.one (hK1.2 5 _ rfl).2 hi
  have e6 : c6 = ca 1 := va_RA.one (hK1.2 6 _ rfl).2 (hK.2 1 _ rfl).2
  rw [e0, e1, e2, e3, e4, e5, e6] at hP1 hD1
  obtain ⟨hP, hD⟩ := va_joinL (w1 := cM z z1 z2 z3 z4 z5 z6 z7 ca) hP hD hk1 hFc hP1 hD1
  refine lv_astore_n (lv' := [(2, .ref z), (1, .ref h0), (0, .ref b)]) hx hb dL_law_15 rfl hl (by decide) rfl (fun ls hl => ?_)
  refine lv_iconst (v := 1) hx hb dL_law_16 (by decide) ?_
  refine va_newa (atype := .long) (ty := .long) (N' := 1) (a0 := (1, .inr (.inl (fun _ => 0)))) hx hb (hw (.arrayClass .long) (List.mem_of_getElem? (i := 6) (by decide +kernel))) rfl hK hP hD hS hA (fun _ => rfl) (by decide) rfl (Nat.le_of_ble_eq_true rfl) (Nat.le_of_ble_eq_true rfl) (Nat.le_of_ble_eq_true rfl) dL_law_17 (fun o cJ H hK2 hP hD hS => ?_)
  have eJ : cJ = ca 3 := va_RA.one (hK2.2 4 _ rfl).2 (hK.2 3 _ rfl).2
  rw [eJ] at hP hD
  have hP : va_P (dC, dI) vwCl (cW h0 a b2 h r qs tx cd z z1 z2 z3 z4 z5 z6 z7 o ca) H := hP
  have hD : va_D (fun q : Nat => s.heap.size ≤ q) (cW h0 a b2 h r qs tx cd z z1 z2 z3 z4 z5 z6 z7 o ca) := hD
  refine lv_astore_n (lv' := [(3, .ref o), (2, .ref z), (1, .ref h0), (0, .ref b)]) hx hb dL_law_19 rfl hl (by decide) rfl (fun ls hl => ?_)
  refine lv_iconst (v := 0) hx hb dL_law_20 (by decide) ?_
  refine lv_istore (lv' := [(4, .int 0), (3, .ref o), (2, .ref z), (1, .ref h0), (0, .ref b)]) hx hb dL_law_21 hl (by decide) rfl (fun ls hl => ?_)
  rw [← nI_0] at hl
  have hl : lv_has ls 9 [(0, .ref b), (1, .ref h0), (2, .ref z), (3, .ref o), (4, .int (nI 0))] := lv_sub hl [4, 3, 2, 1, 0] rfl
  refine W.widen (k := 70) (n := 1623) (Nat.le_of_ble_eq_true rfl) (Nat.le_of_ble_eq_true rfl) ?_
  refine law_end (g := ((dC, dI), lA (cW h0 a b2 h r qs tx cd z z1 z2 z3 z4 z5 z6 z7 o ca), ca, s.heap.size)) (u := lU (cW h0 a b2 h r qs tx cd z z1 z2 z3 z4 z5 z6 z7 o ca)) hflags hL C0 rfl ⟨hK, hN, gOK_L cW_len (dC, dI) ca s.heap.size hD, hE⟩ hZX inv0 ?_ hS hl
  rw [kw_L cW_len (dC, dI) ca s.heap.size]
  exact hP

/-! THE LAW FROM ITS ENTRY (the head of whole_start is the skeleton's) -/
set_option maxHeartbeats 4000000 in
set_option maxRecDepth 100000 in
/-- from the loop on -/
theorem law_end {p : Program} {e : Env} {s : State} {m : MethodId} {below : List Frame} {meth : Method} {c : Code} {l : Launch} (hflags : l.flags = flags0) {b L : Nat} {xs : Nat → Int32} (hL : L ≤ 260) (C0 : lw_At p s m meth c b L xs) {g : kG} {u : Nat → va_E} {ak ap am al aa : Nat} (hg : g.2.2.2.1 = s.heap.size) (hKT : KT g s) (hZ : ZX g s s.heap) (hT : TW g u ak ap am al aa 0 (fun _ _ => 0) 0 (fun _ => (0, fun _ _ => 0)) 0 (fun _ => 0) (fun _ => 0) (fun _ => 0) (fun _ => 0) (fun _ => 0) (fun _ => 0)) {H : Heap} {locs : List Loc} {ls : Array Slot} (hP : va_P g.1 vwCl (kw g u) H) (hS : va_S (GA g) s.heap H locs) (hl : lv_has ls 16 [(0, .ref b), (1, .ref (g.2.1 0)), (2, .ref ak), (3, .ref ap), (4, .ref am), (5, .ref al), (6, .ref aa), (7, .int (nI 0)), (8, .int (nI 0))]) : W p l e room_1 s m #[Value.ref b] below meth c H locs 100 2000 (lw_Z below #[Value.ref b] s) (F0 m 42 ls []) := by
  obtain ⟨hx, hb, hr, hml, hown, hts, hX, hbl, hlocks, hgv⟩ := id C0
  have hw : ∀ w ∈ wsL_law, w.before #[Value.ref b] s = true := fun w h => hts w (wsL_law_in w h)
  have F : Fx g (p, l, e, room_1, s, m, #[Value.ref b], below, meth, c, lw_Z below #[Value.ref b] s) cL_law 16 (some .boolean) wsL_law RL ({ frames := 11, cells := 1200130, slots := 5501080, locals := 428 }) := ⟨hx, hb, hml, hown, hw, hr, hlocks, hKT, hZ, Nat.le_of_eq hg, rfl⟩
  have T : Sx g (p, l, e, room_1, s, m, #[Value.ref b], below, meth, c, lw_Z below #[Value.ref b] s) b L xs := ⟨hX, hbl, fun h => by
    have h : g.2.2.2.1 ≤ b := h
    omega⟩
  refine law_loop (X := (p, l, e, room_1, s, m, #[Value.ref b], below, meth, c, lw_Z below #[Value.ref b] s)) (st_fl hflags) F T hL ?_ 60 0 100 2000 u 0 0 0 _ _ _ _ _ _ _ _ (by omega) (by omega) (by omega) hT ok0 H locs ls hP hS (by rw [hml]; exact hl)
  intro k n u lv hk2 hn2 H locs ls hP hS h
  refine lv_iconst (v := 1) hx hb dL_law_754 (by decide) ?_
  refine va_forget (fun q hq => by
    have z : g.2.2.2.1 ≤ q.base := hS.2.2 q hq
    omega) ?_
  refine W.widen (k := 1200130) (n := 5501080) hk2 hn2 ?_
  refine W.base ?_
  exact lw_ret (Drawn.sameBut.refl s.drawn lw_cs) hx hb hr hlocks dL_law_755
set_option maxHeartbeats 4000000 in
set_option maxRecDepth 100000 in
/-- from the entry, for every script of at most 260 ints, the law comes to its end with true -/
theorem whole_start {p : Program} {e : Env} {s : State} {m : MethodId} {below : List Frame} {meth : Method} {c : Code} (l : Launch) (hflags : l.flags = flags0) {b L : Nat} {xs : Nat → Int32} (hL : L ≤ 260) (C0 : lw_At p s m meth c b L xs) : W p l e room_1 s m #[Value.ref b] below meth c s.heap [] 0 0 (lw_Z below #[Value.ref b] s) (entryFrame m ([Value.ref b] : List Value).toArray 16) := by
  obtain ⟨hx, hb, hr, hml, hown, hts, hX, hbl, hlocks, hgv⟩ := id C0
  have hb : c.code = cL_law := hb
  have hown : s.vm.findClass RL = some m.cls := hown
  have hgs := flat_of_before _ hgv
  have hw : ∀ w ∈ wsL_law, w.before #[Value.ref b] s = true := fun w h => hts w (wsL_law_in w h)
  have hN := st_NW hts
  have hO := st_AO hts
  have hE := st_EX hts hgs
  have hZX := st_ZX hts hgs
  obtain ⟨dC, dI, ca, hK⟩ := st_K hts
  have hA : ∀ q : Nat, s.heap.size ≤ q → (fun q : Nat => s.heap.size ≤ q) q := fun _ h => h
  have hS : va_S (fun q : Nat => s.heap.size ≤ q) s.heap s.heap [] := va_S.rf
  have hP : va_P (dC, dI) vwCl [] s.heap := fun k q h => by simp at h
  have hD : va_D (fun q : Nat => s.heap.size ≤ q) [] := ⟨fun i j p q h => by simp at h, fun k q h => by simp at h⟩
  have hl := lv_entry ([.ref b]) (n := 16) (Nat.le_of_ble_eq_true rfl)
  rw [lg_entry_eq]
  generalize (lg_sl ([.ref b]) ++ List.replicate (16 - (lg_sl ([.ref b])).length) Slot.unset).toArray = ls at hl ⊢
  have hl : lv_has ls 16 [(0, .ref b)] := hl
  refine va_new (ci := 3) (fs := [.null, .null, .null, .null]) (C := RX3) (T := TX3) (N := 4) hx hb hw inlX3 tyX3 tyX3_ok hown (hw (.classLink RL 21 RX3) (List.mem_of_getElem? (i := 0) (by decide +kernel))) (hw (.instantiable RX3 4) (List.mem_of_getElem? (i := 1) (by decide +kernel))) (hw (.initialized RX3) (List.mem_of_getElem? (i := 2) (by decide +kernel))) hK hP hD hS hA rfl (fun j hj => by rcases (show j = 0 ∨ j = 1 ∨ j = 2 ∨ j = 3 by omega) with rfl | rfl | rfl | rfl <;> rfl) (Nat.le_of_ble_eq_true rfl) (Nat.le_of_ble_eq_true rfl) dL_law_0 (fun h0 H hP hD hS => ?_)
  refine lv_dup hx hb dL_law_3 rfl ?_
  have hPc := hP.last
  have hDc := hD.last
  have hFc := va_freeL hD hS hA
  refine va_callv (va_runI (As := []) (rest := [.ref h0]) ⟨hx, hb, hml, hown, hw⟩ (c_X3_init l dC dI ca h0 H.size) (cwI 0 hw gL_law_X3_init rfl rfl rfl (hw (.initialized RX3) (List.mem_of_getElem? (i := 2) (by decide +kernel))) (hw (.methodLink RL 60 yX3_init) (List.mem_of_getElem? (i := 4) (by decide +kernel))) (hw (.instanceMethod yX3_init) (List.mem_of_getElem? (i := 5) (by decide +kernel))) rfl (by decide +kernel) ⟨Nat.le_of_ble_eq_true rfl, Nat.le_of_ble_eq_true rfl⟩) ⟨fun a U g mk q => by obtain ⟨q0, q1, qP, qK, qD, qN, qO⟩ := q; exact ⟨q0, q1, qP, va_K.moved (u := U) (U := U.calling g mk a) (Vm.Alike.refl U.vm) qK, qD, NW.same (u := U) (U := U.calling g mk a) rfl qN, va_AO.moved (u := U) (U := U.calling g mk a) (Vm.Alike.refl U.vm) qO⟩, fun U hU hW => ⟨rfl, by rw [hU], by rw [hU]; exact hPc, va_K.moved hW.alike hK, hDc.weaken (fun _ _ _ _ => trivial), hN.warm hW, va_AO.moved hW.alike hO⟩⟩ rfl rfl hl.1 rfl (lv_room (Nat.le_of_ble_eq_true rfl)) dL_law_4 ⟨Nat.le_of_ble_eq_true rfl, Nat.le_of_ble_eq_true rfl⟩) hS (fun q _ h => hFc q h) hFc (fun u t H1 locs ht hvm hw0 hB hz1 hk1 hS => ?_)
  obtain ⟨a, b2, h, r, qs, tx, cd, hP1, hD1⟩ := hB
  rw [ht] at hP1
  obtain ⟨hP, hD⟩ := va_joinL hP hD hk1 hFc hP1 hD1
  have hP : va_P (dC, dI) vwCl (cC h0 a b2 h r qs tx cd ca) H1 := hP
  have hD : va_D (fun q : Nat => s.heap.size ≤ q) (cC h0 a b2 h r qs tx cd ca) := hD
  refine lv_astore_n (lv' := [(1, .ref h0), (0, .ref b)]) hx hb dL_law_7 rfl hl (by decide) rfl (fun ls hl => ?_)
  refine lv_bipush (v := 16) hx hb dL_law_8 (by decide) ?_
  refine va_newa (atype := .int) (ty := .int) (N' := 16) (a0 := (16, .inl (fun _ => 0))) hx hb (hw (.arrayClass .int) (List.mem_of_getElem? (i := 3) (by decide +kernel))) rfl hK hP hD hS hA (fun _ => rfl) (by decide) rfl (Nat.le_of_ble_eq_true rfl) (Nat.le_of_ble_eq_true rfl) (Nat.le_of_ble_eq_true rfl) dL_law_10 (fun z1 cJ H hK2 hP hD hS => ?_)
  have eJ : cJ = ca 0 := va_RA.one (hK2.2 3 _ rfl).2 (hK.2 0 _ rfl).2
  rw [eJ] at hP hD
  clear hK2 eJ
  have hP : va_P (dC, dI) vwCl (cC h0 a b2 h r qs tx cd ca ++ [(z1, .inl (ca 0, 16, .inl (fun _ => 0)))]) H := hP
  have hD : va_D (fun q : Nat => s.heap.size ≤ q) (cC h0 a b2 h r qs tx cd ca ++ [(z1, .inl (ca 0, 16, .inl (fun _ => 0)))]) := hD
  refine lv_astore_n (lv' := [(2, .ref z1), (1, .ref h0), (0, .ref b)]) hx hb dL_law_12 rfl hl (by decide) rfl (fun ls hl => ?_)
  refine lv_bipush (v := 16) hx hb dL_law_13 (by decide) ?_
  refine va_newa (atype := .int) (ty := .int) (N' := 16) (a0 := (16, .inl (fun _ => 0))) hx hb (hw (.arrayClass .int) (List.mem_of_getElem? (i := 3) (by decide +kernel))) rfl hK hP hD hS hA (fun _ => rfl) (by decide) rfl (Nat.le_of_ble_eq_true rfl) (Nat.le_of_ble_eq_true rfl) (Nat.le_of_ble_eq_true rfl) dL_law_15 (fun z2 cJ H hK2 hP hD hS => ?_)
  have eJ : cJ = ca 0 := va_RA.one (hK2.2 3 _ rfl).2 (hK.2 0 _ rfl).2
  rw [eJ] at hP hD
  clear hK2 eJ
  have hP : va_P (dC, dI) vwCl ((cC h0 a b2 h r qs tx cd ca ++ [(z1, .inl (ca 0, 16, .inl (fun _ => 0)))]) ++ [(z2, .inl (ca 0, 16, .inl (fun _ => 0)))]) H := hP
  have hD : va_D (fun q : Nat => s.heap.size ≤ q) ((cC h0 a b2 h r qs tx cd ca ++ [(z1, .inl (ca 0, 16, .inl (fun _ => 0)))]) ++ [(z2, .inl (ca 0, 16, .inl (fun _ => 0)))]) := hD
  refine lv_astore_n (lv' := [(3, .ref z2), (2, .ref z1), (1, .ref h0), (0, .ref b)]) hx hb dL_law_17 rfl hl (by decide) rfl (fun ls hl => ?_)
  refine lv_bipush (v := 16) hx hb dL_law_18 (by decide) ?_
  refine va_newa (atype := .int) (ty := .int) (N' := 16) (a0 := (16, .inl (fun _ => 0))) hx hb (hw (.arrayClass .int) (List.mem_of_getElem? (i := 3) (by decide +kernel))) rfl hK hP hD hS hA (fun _ => rfl) (by decide) rfl (Nat.le_of_ble_eq_true rfl) (Nat.le_of_ble_eq_true rfl) (Nat.le_of_ble_eq_true rfl) dL_law_20 (fun z3 cJ H hK2 hP hD hS => ?_)
  have eJ : cJ = ca 0 := va_RA.one (hK2.2 3 _ rfl).2 (hK.2 0 _ rfl).2
  rw [eJ] at hP hD
  clear hK2 eJ
  have hP : va_P (dC, dI) vwCl (((cC h0 a b2 h r qs tx cd ca ++ [(z1, .inl (ca 0, 16, .inl (fun _ => 0)))]) ++ [(z2, .inl (ca 0, 16, .inl (fun _ => 0)))]) ++ [(z3, .inl (ca 0, 16, .inl (fun _ => 0)))]) H := hP
  have hD : va_D (fun q : Nat => s.heap.size ≤ q) (((cC h0 a b2 h r qs tx cd ca ++ [(z1, .inl (ca 0, 16, .inl (fun _ => 0)))]) ++ [(z2, .inl (ca 0, 16, .inl (fun _ => 0)))]) ++ [(z3, .inl (ca 0, 16, .inl (fun _ => 0)))]) := hD
  refine lv_astore (lv' := [(4, .ref z3), (3, .ref z2), (2, .ref z1), (1, .ref h0), (0, .ref b)]) hx hb dL_law_22 hl (by decide) rfl (fun ls hl => ?_)
  refine lv_bipush (v := 16) hx hb dL_law_24 (by decide) ?_
  refine va_newa (atype := .int) (ty := .int) (N' := 16) (a0 := (16, .inl (fun _ => 0))) hx hb (hw (.arrayClass .int) (List.mem_of_getElem? (i := 3) (by decide +kernel))) rfl hK hP hD hS hA (fun _ => rfl) (by decide) rfl (Nat.le_of_ble_eq_true rfl) (Nat.le_of_ble_eq_true rfl) (Nat.le_of_ble_eq_true rfl) dL_law_26 (fun z4 cJ H hK2 hP hD hS => ?_)
  have eJ : cJ = ca 0 := va_RA.one (hK2.2 3 _ rfl).2 (hK.2 0 _ rfl).2
  rw [eJ] at hP hD
  clear hK2 eJ
  have hP : va_P (dC, dI) vwCl ((((cC h0 a b2 h r qs tx cd ca ++ [(z1, .inl (ca 0, 16, .inl (fun _ => 0)))]) ++ [(z2, .inl (ca 0, 16, .inl (fun _ => 0)))]) ++ [(z3, .inl (ca 0, 16, .inl (fun _ => 0)))]) ++ [(z4, .inl (ca 0, 16, .inl (fun _ => 0)))]) H := hP
  have hD : va_D (fun q : Nat => s.heap.size ≤ q) ((((cC h0 a b2 h r qs tx cd ca ++ [(z1, .inl (ca 0, 16, .inl (fun _ => 0)))]) ++ [(z2, .inl (ca 0, 16, .inl (fun _ => 0)))]) ++ [(z3, .inl (ca 0, 16, .inl (fun _ => 0)))]) ++ [(z4, .inl (ca 0, 16, .inl (fun _ => 0)))]) := hD
  refine lv_astore (lv' := [(5, .ref z4), (4, .ref z3), (3, .ref z2), (2, .ref z1), (1, .ref h0), (0, .ref b)]) hx hb dL_law_28 hl (by decide) rfl (fun ls hl => ?_)
  refine lv_bipush (v := 16) hx hb dL_law_30 (by decide) ?_
  refine va_newa (atype := .int) (ty := .int) (N' := 16) (a0 := (16, .inl (fun _ => 0))) hx hb (hw (.arrayClass .int) (List.mem_of_getElem? (i := 3) (by decide +kernel))) rfl hK hP hD hS hA (fun _ => rfl) (by decide) rfl (Nat.le_of_ble_eq_true rfl) (Nat.le_of_ble_eq_true rfl) (Nat.le_of_ble_eq_true rfl) dL_law_32 (fun z5 cJ H hK2 hP hD hS => ?_)
  have eJ : cJ = ca 0 := va_RA.one (hK2.2 3 _ rfl).2 (hK.2 0 _ rfl).2
  rw [eJ] at hP hD
  clear hK2 eJ
  have hP : va_P (dC, dI) vwCl (((((cC h0 a b2 h r qs tx cd ca ++ [(z1, .inl (ca 0, 16, .inl (fun _ => 0)))]) ++ [(z2, .inl (ca 0, 16, .inl (fun _ => 0)))]) ++ [(z3, .inl (ca 0, 16, .inl (fun _ => 0)))]) ++ [(z4, .inl (ca 0, 16, .inl (fun _ => 0)))]) ++ [(z5, .inl (ca 0, 16, .inl (fun _ => 0)))]) H := hP
  have hD : va_D (fun q : Nat => s.heap.size ≤ q) (((((cC h0 a b2 h r qs tx cd ca ++ [(z1, .inl (ca 0, 16, .inl (fun _ => 0)))]) ++ [(z2, .inl (ca 0, 16, .inl (fun _ => 0)))]) ++ [(z3, .inl (ca 0, 16, .inl (fun _ => 0)))]) ++ [(z4, .inl (ca 0, 16, .inl (fun _ => 0)))]) ++ [(z5, .inl (ca 0, 16, .inl (fun _ => 0)))]) := hD
  refine lv_astore (lv' := [(6, .ref z5), (5, .ref z4), (4, .ref z3), (3, .ref z2), (2, .ref z1), (1, .ref h0), (0, .ref b)]) hx hb dL_law_34 hl (by decide) rfl (fun ls hl => ?_)
  have eW : (((((cC h0 a b2 h r qs tx cd ca ++ [(z1, .inl (ca 0, 16, .inl (fun _ => 0)))]) ++ [(z2, .inl (ca 0, 16, .inl (fun _ => 0)))]) ++ [(z3, .inl (ca 0, 16, .inl (fun _ => 0)))]) ++ [(z4, .inl (ca 0, 16, .inl (fun _ => 0)))]) ++ [(z5, .inl (ca 0, 16, .inl (fun _ => 0)))]) = cW h0 a b2 h r qs tx cd z1 z2 z3 z4 z5 ca := by
    unfold cW
    simp only [List.append_assoc, List.cons_append, List.nil_append]
  rw [eW] at hP hD
  refine lv_iconst (v := 0) hx hb dL_law_36 (by decide) ?_
  refine lv_istore (lv' := [(7, .int 0), (6, .ref z5), (5, .ref z4), (4, .ref z3), (3, .ref z2), (2, .ref z1), (1, .ref h0), (0, .ref b)]) hx hb dL_law_37 hl (by decide) rfl (fun ls hl => ?_)
  refine lv_iconst (v := 0) hx hb dL_law_39 (by decide) ?_
  refine lv_istore (lv' := [(8, .int 0), (7, .int 0), (6, .ref z5), (5, .ref z4), (4, .ref z3), (3, .ref z2), (2, .ref z1), (1, .ref h0), (0, .ref b)]) hx hb dL_law_40 hl (by decide) rfl (fun ls hl => ?_)
  rw [← nI_0] at hl
  have hl : lv_has ls 16 [(0, .ref b), (1, .ref h0), (2, .ref z1), (3, .ref z2), (4, .ref z3), (5, .ref z4), (6, .ref z5), (7, .int (nI 0)), (8, .int (nI 0))] := lv_sub hl [8, 7, 6, 5, 4, 3, 2, 1, 0] rfl
  refine W.widen (k := 100) (n := 2000) (Nat.le_of_ble_eq_true rfl) (Nat.le_of_ble_eq_true rfl) ?_
  refine law_end (g := ((dC, dI), lA (cW h0 a b2 h r qs tx cd z1 z2 z3 z4 z5 ca), ca, s.heap.size, 0)) (u := lU (cW h0 a b2 h r qs tx cd z1 z2 z3 z4 z5 ca)) hflags hL C0 rfl ⟨hK, hN, gOK_L cW_len (dC, dI) ca s.heap.size hD, hE⟩ hZX inv0 ?_ hS hl
  rw [kw_L cW_len (dC, dI) ca s.heap.size]
  exact hP

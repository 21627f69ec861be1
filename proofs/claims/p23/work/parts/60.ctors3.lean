/-! new TickForms() -/
def cT (t cd : Nat) (ci : ClassId) : va_W := [(t, .inr (2, [.ref cd, .int 0])), (cd, .inl (ci, 60, .inl (fun _ => 0)))]
def cC (h0 : Nat) (a b : Nat → Nat) (h r : Nat) (qs : Nat → Nat → Nat) (t cd : Nat) (ca : Nat → ClassId) : va_W := ((([(h0, .inr (3, [.ref (a 0), .ref (b 0), .ref h, .ref t]))] ++ cF a (ca 0)) ++ cF b (ca 0)) ++ cH h r qs (ca 0) (ca 2)) ++ cT t cd (ca 0)
set_option maxHeartbeats 4000000 in
set_option maxRecDepth 100000 in
theorem c_X3_init (l : Launch) (dC : Nat → ClassId) (dI : Nat → Nat → Nat) (ca : Nat → ClassId) (h0 : Nat) (sz : Nat) : Met l yX3_init wsX3_init ({ frames := 3, cells := 60, slots := 895, locals := 62 }) (va_Pc [.ref h0] (fun U => U.heap.size = sz ∧ va_P (dC, dI) vwCl [(h0, .inr (3, [.null, .null, .null, .null]))] U.heap ∧ va_K (dC, dI) vwCl (tq ca) U ∧ va_D (fun _ => True) [(h0, .inr (3, [.null, .null, .null, .null]))] ∧ NW U ∧ va_AO RX0 U)) (va_Qv (fun _ : Unit => True) (fun _ t => ∃ (a b : Nat → Nat) (h r : Nat) (qs : Nat → Nat → Nat) (tx cd : Nat), va_P (dC, dI) vwCl (cC h0 a b h r qs tx cd ca) t.heap ∧ va_D (va_A [(h0, .inr (3, [.null, .null, .null, .null]))] sz) (cC h0 a b h r qs tx cd ca)) (va_A [(h0, .inr (3, [.null, .null, .null, .null]))] sz)) 60 895 (va_A [(h0, .inr (3, [.null, .null, .null, .null]))] sz) := by
  refine Met.ofW (cc := cX3_init) (maxL := 1) (ret := none) (by decide) rfl ?_
  intro p e s m args below meth c s₁ B hml hv
  obtain ⟨rfl, hsz, hP, hK, hD0, hN, hO⟩ := hv
  have hx := B.exec
  have hb := B.bytes
  have hr := B.returns
  have hts := atoms_spec (ws := wsX3_init) B.pre
  have hown : s.vm.findClass RX3 = some m.cls := findClass_of_methodNamed B.named
  have hlocks := B.notSynchronized
  have hin : meth.name = "<init>" := (name_of_methodNamed B.named B.method).1
  subst hsz
  have hD := hD0.self (sz := s.heap.size)
  generalize hAe : va_A [(h0, .inr (3, [.null, .null, .null, .null]))] s.heap.size = A at hD ⊢
  have hA : ∀ q : Nat, s.heap.size ≤ q → A q := fun q h => by rw [← hAe]; exact Or.inr h
  have hS : va_S A s.heap s.heap [] := va_S.rf
  have hP : va_P (dC, dI) vwCl [(h0, .inr (3, [.null, .null, .null, .null]))] s.heap := hP
  have hl := lv_entry ([.ref h0]) (n := 1) (Nat.le_of_ble_eq_true rfl)
  rw [lg_entry_eq]
  generalize (lg_sl ([.ref h0]) ++ List.replicate (1 - (lg_sl ([.ref h0])).length) Slot.unset).toArray = ls at hl ⊢
  have hl : lv_has ls 1 [(0, .ref h0)] := hl
  refine lv_aload_n hx hb dX3_init_0 rfl (lv_at hl 0 rfl) ?_
  refine W.objInit hx hb hown (hts (.methodLink RX3 1 objectInit) (by decide +kernel)) (hts (.instanceMethod objectInit) (by decide +kernel)) (hts _ (show Cond.code objectInit ⟨#[0xb1]⟩ 1 none ∈ wsX3_init from List.mem_of_getElem? (i := 3) rfl)) rfl (by rw [hml]; exact hl.1) rfl dX3_init_1 (Nat.le_of_ble_eq_true rfl) (Nat.le_of_ble_eq_true rfl) ?_
  refine W.eq (g2 := F0 m 4 ls []) rfl ?_
  refine lv_aload_n hx hb dX3_init_4 rfl (lv_at hl 0 rfl) ?_
  refine w_form (own := RX3) (i1 := 7) (i2 := 9) (cI := ca 0) l hx hb hml hown hts (by decide +kernel) (by decide +kernel) (by decide +kernel) (by decide +kernel) (by decide +kernel) gX3_init_X0_init_n9 (hN (RX3, 9, yX0_init, RX3) (List.mem_of_getElem? (i := 0) rfl)) ⟨Nat.le_of_ble_eq_true rfl, Nat.le_of_ble_eq_true rfl⟩ (Nat.le_of_ble_eq_true rfl) (Nat.le_of_ble_eq_true rfl) hK rfl hP hD hS hA hl.1 (fun _ => Nat.le_of_ble_eq_true rfl) dX3_init_5 dX3_init_8 dX3_init_9 (fun a H locs hP hD hS => ?_)
  refine va_putF (D := (dC, dI)) (ci := 3) (v := .ref (a 0)) (C := RX3) (T := TX3) (N := 4) (ty := .object RX0) hx hb hts (by decide +kernel) tyX3 tyX3_ok nmX3 hown hK hP hD hS 0 rfl rfl 0 (by decide) (hts (.fieldLink RX3 10 "TickForms" "form" "LTickForms$Form;") (by decide +kernel)) (fun _ h9 => h9) rfl hin rfl (by decide +kernel) rfl rfl (Nat.le_of_ble_eq_true rfl) dX3_init_12 (fun H locs hP hD hS => ?_)
  have hP : va_P (dC, dI) vwCl ([(h0, .inr (3, [.ref (a 0), .null, .null, .null]))] ++ cF a (ca 0)) H := hP
  have hD : va_D A ([(h0, .inr (3, [.ref (a 0), .null, .null, .null]))] ++ cF a (ca 0)) := hD
  refine lv_aload_n hx hb dX3_init_15 rfl (lv_at hl 0 rfl) ?_
  refine w_form (own := RX3) (i1 := 7) (i2 := 9) (cI := ca 0) l hx hb hml hown hts (by decide +kernel) (by decide +kernel) (by decide +kernel) (by decide +kernel) (by decide +kernel) gX3_init_X0_init_n9 (hN (RX3, 9, yX0_init, RX3) (List.mem_of_getElem? (i := 0) rfl)) ⟨Nat.le_of_ble_eq_true rfl, Nat.le_of_ble_eq_true rfl⟩ (Nat.le_of_ble_eq_true rfl) (Nat.le_of_ble_eq_true rfl) hK rfl hP hD hS hA hl.1 (fun _ => Nat.le_of_ble_eq_true rfl) dX3_init_16 dX3_init_19 dX3_init_20 (fun b H locs hP hD hS => ?_)
  refine va_putF (D := (dC, dI)) (ci := 3) (v := .ref (b 0)) (C := RX3) (T := TX3) (N := 4) (ty := .object RX0) hx hb hts (by decide +kernel) tyX3 tyX3_ok nmX3 hown hK hP hD hS 0 rfl rfl 1 (by decide) (hts (.fieldLink RX3 16 "TickForms" "trial" "LTickForms$Form;") (by decide +kernel)) (fun _ h9 => h9) rfl hin rfl (by decide +kernel) rfl rfl (Nat.le_of_ble_eq_true rfl) dX3_init_23 (fun H locs hP hD hS => ?_)
  have hP : va_P (dC, dI) vwCl (([(h0, .inr (3, [.ref (a 0), .ref (b 0), .null, .null]))] ++ cF a (ca 0)) ++ cF b (ca 0)) H := hP
  have hD : va_D A (([(h0, .inr (3, [.ref (a 0), .ref (b 0), .null, .null]))] ++ cF a (ca 0)) ++ cF b (ca 0)) := hD
  refine lv_aload_n hx hb dX3_init_26 rfl (lv_at hl 0 rfl) ?_
  refine va_new (ci := 1) (fs := [.null, .int 0, .int 0]) (C := RX1) (T := TX1) (N := 3) hx hb hts (by decide +kernel) tyX1 tyX1_ok hown (hts (.classLink RX3 19 RX1) (by decide +kernel)) (hts (.instantiable RX1 3) (by decide +kernel)) (hts (.initialized RX1) (by decide +kernel)) hK hP hD hS hA rfl (fun j hj => by rcases (show j = 0 ∨ j = 1 ∨ j = 2 by omega) with rfl | rfl | rfl <;> rfl) (Nat.le_of_ble_eq_true rfl) (Nat.le_of_ble_eq_true rfl) dX3_init_27 (fun h H hP hD hS => ?_)
  refine lv_dup hx hb dX3_init_30 rfl ?_
  have hPc := hP.last
  have hDc := hD.last
  have hFc := va_freeL hD hS hA
  refine va_callv (va_runIN (As := []) (rest := [.ref h, .ref h0]) ⟨hx, hb, hml, hown, hts⟩ (c_X1_init l dC dI ca h H.size) ⟨va_cnB 0 hts gX3_init_X1_init_n21 rfl rfl rfl (hN (RX3, 21, yX1_init, RX3) (List.mem_of_getElem? (i := 1) rfl)) (hts (.initialized RX1) (by decide +kernel)) (by decide +kernel) ⟨Nat.le_of_ble_eq_true rfl, Nat.le_of_ble_eq_true rfl⟩, rfl, hts (.instanceMethod yX1_init) (by decide +kernel)⟩ ⟨fun a U g mk q => by obtain ⟨q0, q1, qP, qK, qD, qN, qO⟩ := q; exact ⟨q0, q1, qP, va_K.moved (u := U) (U := U.calling g mk a) (Vm.Alike.refl U.vm) qK, qD, NW.same (u := U) (U := U.calling g mk a) rfl qN, va_AO.moved (u := U) (U := U.calling g mk a) (Vm.Alike.refl U.vm) qO⟩, fun U hU hW => ⟨rfl, by rw [hU], by rw [hU]; exact hPc, va_K.moved hW.alike hK, hDc.weaken (fun _ _ _ _ => trivial), hN.warm hW, va_AO.moved hW.alike hO⟩⟩ rfl rfl hl.1 rfl (lv_room (Nat.le_of_ble_eq_true rfl)) dX3_init_31 ⟨Nat.le_of_ble_eq_true rfl, Nat.le_of_ble_eq_true rfl⟩) hS (fun q _ h => hFc q h) hFc (fun u t H1 locs ht hvm hw hB hz1 hk1 hS => ?_)
  obtain ⟨r, qs, hP1, hD1⟩ := hB
  rw [ht] at hP1
  obtain ⟨hP, hD⟩ := va_joinL hP hD hk1 hFc hP1 hD1
  refine va_putF (D := (dC, dI)) (ci := 3) (v := .ref h) (C := RX3) (T := TX3) (N := 4) (ty := .object RX1) hx hb hts (by decide +kernel) tyX3 tyX3_ok nmX3 hown hK hP hD hS 0 rfl rfl 2 (by decide) (hts (.fieldLink RX3 22 "TickForms" "history" "LTickForms$History;") (by decide +kernel)) (fun _ h9 => h9) rfl hin rfl (by decide +kernel) rfl rfl (Nat.le_of_ble_eq_true rfl) dX3_init_34 (fun H locs hP hD hS => ?_)
  have hP : va_P (dC, dI) vwCl ((([(h0, .inr (3, [.ref (a 0), .ref (b 0), .ref h, .null]))] ++ cF a (ca 0)) ++ cF b (ca 0)) ++ cH h r qs (ca 0) (ca 2)) H := hP
  have hD : va_D A ((([(h0, .inr (3, [.ref (a 0), .ref (b 0), .ref h, .null]))] ++ cF a (ca 0)) ++ cF b (ca 0)) ++ cH h r qs (ca 0) (ca 2)) := hD
  refine lv_aload_n hx hb dX3_init_37 rfl (lv_at hl 0 rfl) ?_
  refine va_new (ci := 2) (fs := [.null, .int 0]) (C := RX2) (T := TX2) (N := 2) hx hb hts (by decide +kernel) tyX2 tyX2_ok hown (hts (.classLink RX3 26 RX2) (by decide +kernel)) (hts (.instantiable RX2 2) (by decide +kernel)) (hts (.initialized RX2) (by decide +kernel)) hK hP hD hS hA rfl (fun j hj => by rcases (show j = 0 ∨ j = 1 by omega) with rfl | rfl <;> rfl) (Nat.le_of_ble_eq_true rfl) (Nat.le_of_ble_eq_true rfl) dX3_init_38 (fun tx H hP hD hS => ?_)
  refine lv_dup hx hb dX3_init_41 rfl ?_
  have hPc := hP.last
  have hDc := hD.last
  have hKc := hK.sub (tys' := []) [] rfl
  have hFc := va_freeL hD hS hA
  refine va_callv (va_runIN (As := []) (rest := [.ref tx, .ref h0]) ⟨hx, hb, hml, hown, hts⟩ (c_X2_init l dC dI tx H.size) ⟨va_cnB 0 hts gX3_init_X2_init_n28 rfl rfl rfl (hN (RX3, 28, yX2_init, RX3) (List.mem_of_getElem? (i := 3) rfl)) (hts (.initialized RX2) (by decide +kernel)) (by decide +kernel) ⟨Nat.le_of_ble_eq_true rfl, Nat.le_of_ble_eq_true rfl⟩, rfl, hts (.instanceMethod yX2_init) (by decide +kernel)⟩ ⟨fun a U g mk q => by obtain ⟨q0, q1, qP, qK, qD⟩ := q; exact ⟨q0, q1, qP, va_K.moved (u := U) (U := U.calling g mk a) (Vm.Alike.refl U.vm) qK, qD⟩, fun U hU hW => ⟨rfl, by rw [hU], by rw [hU]; exact hPc, va_K.moved hW.alike hKc, hDc.weaken (fun _ _ _ _ => trivial)⟩⟩ rfl rfl hl.1 rfl (lv_room (Nat.le_of_ble_eq_true rfl)) dX3_init_42 ⟨Nat.le_of_ble_eq_true rfl, Nat.le_of_ble_eq_true rfl⟩) hS (fun q _ h => hFc q h) hFc (fun u t H1 locs ht hvm hw hB hz1 hk1 hS => ?_)
  obtain ⟨cd, c0, hP1, hK1, hD1⟩ := hB
  rw [ht] at hP1
  have hK1 := va_K.moved hvm.symm hK1
  have e0 : c0 = ca 0 := va_RA.one (hK1.2 0 _ rfl).2 (hK.2 0 _ rfl).2
  rw [e0] at hP1 hD1
  obtain ⟨hP, hD⟩ := va_joinL (w1 := cT tx cd (ca 0)) hP hD hk1 hFc hP1 hD1
  refine va_putF (D := (dC, dI)) (ci := 3) (v := .ref tx) (C := RX3) (T := TX3) (N := 4) (ty := .object RX2) hx hb hts (by decide +kernel) tyX3 tyX3_ok nmX3 hown hK hP hD hS 0 rfl rfl 3 (by decide) (hts (.fieldLink RX3 29 "TickForms" "text" "LTickForms$Text;") (by decide +kernel)) (fun _ h9 => h9) rfl hin rfl (by decide +kernel) rfl rfl (Nat.le_of_ble_eq_true rfl) dX3_init_45 (fun H locs hP hD hS => ?_)
  have hP : va_P (dC, dI) vwCl (cC h0 a b h r qs tx cd ca) H := hP
  have hD : va_D A (cC h0 a b h r qs tx cd ca) := hD
  refine W.widen (k := 60) (n := 895) (Nat.le_of_ble_eq_true rfl) (Nat.le_of_ble_eq_true rfl) ?_
  exact W.vret hx hb hr (fun t ht hW => ⟨⟨(), rfl, trivial, a, b, h, r, qs, tx, cd, by rw [ht]; exact hP, hD⟩, hS.F ht⟩) hS.2.2 dX3_init_48

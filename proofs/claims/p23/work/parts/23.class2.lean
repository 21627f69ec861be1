set_option maxHeartbeats 4000000 in
set_option maxRecDepth 100000 in
theorem c_X3_needPart {g : kG} {l : Launch} (hfl : l.stackTraces = false) {u : Nat → va_E} {p q : Int32}  : XCV g l yX3_needPart wsX3_needPart ({ frames := 6, cells := 1, slots := 6, locals := 90 }) [.int p, .int q] u (fun u' => u = u' ∧ wi p 0 q = true) (fun E u' => E = xI ∧ u' = u ∧ wi p 0 q = false) := by
  refine XCV.of (cc := cX3_needPart) (nL := 2) hfl (by decide +kernel) rfl (Nat.le_of_ble_eq_true rfl) ?_
  intro X hXl F Gq hret
  subst hXl
  show VL g X 0 0 u 0 [(0, .int p), (1, .int q)] []
  refine r_iload_n F 0 rfl dX3_needPart_0 ?_
  refine r_iconst (v := 0) F (by decide) dX3_needPart_1 ?_
  refine r_iload_n F 1 rfl dX3_needPart_2 ?_
  refine r_calli (g_S (nA := 3) (As := [.int p, .int 0, .int q]) (rest := []) F (c_X3_isWithin) gX3_needPart_X3_isWithin rfl (by decide +kernel) rfl ⟨Nat.le_of_ble_eq_true rfl, Nat.le_of_ble_eq_true rfl⟩ ⟨Nat.le_of_ble_eq_true rfl, Nat.le_of_ble_eq_true rfl⟩ rfl (Nat.le_of_ble_eq_true rfl) dX3_needPart_3) (fun r_1 u_1 hp_1 => ?_)
  obtain ⟨rfl, rfl⟩ := hp_1
  refine r_if_ne F 19 (by decide) dX3_needPart_6 (fun c_6_2 => ?_) (fun c_6_2 => ?_)
  · skip
    replace c_6_2 := bI1 c_6_2
    exact hret _ _ _ _ _ (Nat.le_of_ble_eq_true rfl) (Nat.le_of_ble_eq_true rfl) ⟨rfl, c_6_2⟩ dX3_needPart_19
  · skip
    replace c_6_2 := bI0 c_6_2
    exact r_throw F Gq xI "no such part" (ik := 176) (is := 178) (ic := 180) (fun U h => ⟨h.1, h.2.2.2.2.1, h.2.2.2.2.2.2.2⟩) (by decide +kernel) (by decide +kernel) (by decide +kernel) (by decide +kernel) (by decide +kernel) (by decide +kernel) (by decide +kernel) dX3_needPart_9 dX3_needPart_12 dX3_needPart_13 dX3_needPart_15 dX3_needPart_18 ⟨Nat.le_of_ble_eq_true rfl, Nat.le_of_ble_eq_true rfl, Nat.le_of_ble_eq_true rfl, Nat.le_of_ble_eq_true rfl⟩ (Nat.le_of_ble_eq_true rfl) ⟨rfl, rfl, c_6_2⟩
set_option maxHeartbeats 4000000 in
set_option maxRecDepth 100000 in
theorem c_X3_needArgument {g : kG} {l : Launch} (hfl : l.stackTraces = false) {u : Nat → va_E} {b : Bool}  : XCV g l yX3_needArgument wsX3_needArgument ({ frames := 6, cells := 1, slots := 6, locals := 90 }) [.int (bI b)] u (fun u' => u = u' ∧ b = true) (fun E u' => E = xA ∧ u' = u ∧ b = false) := by
  refine XCV.of (cc := cX3_needArgument) (nL := 1) hfl (by decide +kernel) rfl (Nat.le_of_ble_eq_true rfl) ?_
  intro X hXl F Gq hret
  subst hXl
  show VL g X 0 0 u 0 [(0, .int (bI b))] []
  refine r_iload_n F 0 rfl dX3_needArgument_0 ?_
  refine r_if_ne F 14 (by decide) dX3_needArgument_1 (fun c_1_1 => ?_) (fun c_1_1 => ?_)
  · skip
    replace c_1_1 := bI1 c_1_1
    exact hret _ _ _ _ _ (Nat.le_of_ble_eq_true rfl) (Nat.le_of_ble_eq_true rfl) ⟨rfl, c_1_1⟩ dX3_needArgument_14
  · skip
    replace c_1_1 := bI0 c_1_1
    exact r_throw F Gq xA "an argument does not fit" (ik := 188) (is := 190) (ic := 192) (fun U h => ⟨h.2.2.1, h.2.2.2.2.2.1, h.2.2.2.2.2.2.2⟩) (by decide +kernel) (by decide +kernel) (by decide +kernel) (by decide +kernel) (by decide +kernel) (by decide +kernel) (by decide +kernel) dX3_needArgument_4 dX3_needArgument_7 dX3_needArgument_8 dX3_needArgument_10 dX3_needArgument_13 ⟨Nat.le_of_ble_eq_true rfl, Nat.le_of_ble_eq_true rfl, Nat.le_of_ble_eq_true rfl, Nat.le_of_ble_eq_true rfl⟩ (Nat.le_of_ble_eq_true rfl) ⟨rfl, rfl, c_1_1⟩
set_option maxHeartbeats 4000000 in
set_option maxRecDepth 100000 in
theorem c_X3_needState {g : kG} {l : Launch} (hfl : l.stackTraces = false) {u : Nat → va_E} {b : Bool}  : XCV g l yX3_needState wsX3_needState ({ frames := 6, cells := 1, slots := 6, locals := 90 }) [.int (bI b)] u (fun u' => u = u' ∧ b = true) (fun E u' => E = xS ∧ u' = u ∧ b = false) := by
  refine XCV.of (cc := cX3_needState) (nL := 1) hfl (by decide +kernel) rfl (Nat.le_of_ble_eq_true rfl) ?_
  intro X hXl F Gq hret
  subst hXl
  show VL g X 0 0 u 0 [(0, .int (bI b))] []
  refine r_iload_n F 0 rfl dX3_needState_0 ?_
  refine r_if_ne F 14 (by decide) dX3_needState_1 (fun c_1_1 => ?_) (fun c_1_1 => ?_)
  · skip
    replace c_1_1 := bI1 c_1_1
    exact hret _ _ _ _ _ (Nat.le_of_ble_eq_true rfl) (Nat.le_of_ble_eq_true rfl) ⟨rfl, c_1_1⟩ dX3_needState_14
  · skip
    replace c_1_1 := bI0 c_1_1
    exact r_throw F Gq xS "not possible now" (ik := 193) (is := 195) (ic := 197) (fun U h => ⟨h.2.2.2.1, h.2.2.2.2.2.2.1, h.2.2.2.2.2.2.2⟩) (by decide +kernel) (by decide +kernel) (by decide +kernel) (by decide +kernel) (by decide +kernel) (by decide +kernel) (by decide +kernel) dX3_needState_4 dX3_needState_7 dX3_needState_8 dX3_needState_10 dX3_needState_13 ⟨Nat.le_of_ble_eq_true rfl, Nat.le_of_ble_eq_true rfl, Nat.le_of_ble_eq_true rfl, Nat.le_of_ble_eq_true rfl⟩ (Nat.le_of_ble_eq_true rfl) ⟨rfl, rfl, c_1_1⟩
set_option maxHeartbeats 4000000 in
set_option maxRecDepth 100000 in
theorem c_X3_needBox {g : kG} {l : Launch} (hfl : l.stackTraces = false) {u : Nat → va_E} {n m t : Nat} {B : kB} {S : Nat → kS} {C : Nat → Int32} {x : Int32} (hc : CsB g u n B m S t C) : XCV g l yX3_needBox wsX3_needBox ({ frames := 6, cells := 1, slots := 6, locals := 90 }) [.ref (g.2.1 0), .int x] u (fun u' => u = u' ∧ hasB n x = true) (fun E u' => E = xI ∧ u' = u ∧ hasB n x = false) := by
  refine XCV.of (cc := cX3_needBox) (nL := 2) hfl (by decide +kernel) rfl (Nat.le_of_ble_eq_true rfl) ?_
  intro X hXl F Gq hret
  subst hXl
  have hinX3 : ∀ w ∈ wsX30, w ∈ wsX3_needBox := by decide +kernel
  show VL g X 0 0 u 0 [(0, .ref (g.2.1 0)), (1, .int x)] []
  refine r_aload_n F 0 rfl dX3_needBox_0 ?_
  refine r_get (C := RX3) (T := TX3) (N := 4) F 0 hc.1 (by decide) hinX3 rfl 0 (by decide) (by decide +kernel) rfl dX3_needBox_1 ?_
  refine r_iload_n F 1 rfl dX3_needBox_4 ?_
  refine r_calli (g_VN (C := RX0) (T := TX0) (N := 7) (nA := 1) (As := [.int x]) (rest := []) F 1 hc.2.1.obj (by decide) rfl (c_X0_has hc.2.1 (by decide) ) gX3_needBox_X0_has_n183 rfl 43 rfl (by decide +kernel) (by decide +kernel) (by decide +kernel) (by decide +kernel) rfl ⟨Nat.le_of_ble_eq_true rfl, Nat.le_of_ble_eq_true rfl⟩ ⟨Nat.le_of_ble_eq_true rfl, Nat.le_of_ble_eq_true rfl⟩ rfl (Nat.le_of_ble_eq_true rfl) dX3_needBox_5) (fun r_1 u_1 hp_1 => ?_)
  obtain ⟨rfl, rfl⟩ := hp_1
  refine r_if_ne F 21 (by decide) dX3_needBox_8 (fun c_8_2 => ?_) (fun c_8_2 => ?_)
  · skip
    replace c_8_2 := bI1 c_8_2
    exact hret _ _ _ _ _ (Nat.le_of_ble_eq_true rfl) (Nat.le_of_ble_eq_true rfl) ⟨rfl, c_8_2⟩ dX3_needBox_21
  · skip
    replace c_8_2 := bI0 c_8_2
    exact r_throw F Gq xI "no such box" (ik := 176) (is := 186) (ic := 180) (fun U h => ⟨h.2.1, h.2.2.2.2.1, h.2.2.2.2.2.2.2⟩) (by decide +kernel) (by decide +kernel) (by decide +kernel) (by decide +kernel) (by decide +kernel) (by decide +kernel) (by decide +kernel) dX3_needBox_11 dX3_needBox_14 dX3_needBox_15 dX3_needBox_17 dX3_needBox_20 ⟨Nat.le_of_ble_eq_true rfl, Nat.le_of_ble_eq_true rfl, Nat.le_of_ble_eq_true rfl, Nat.le_of_ble_eq_true rfl⟩ (Nat.le_of_ble_eq_true rfl) ⟨rfl, rfl, c_8_2⟩

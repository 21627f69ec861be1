set_option maxHeartbeats 4000000 in
set_option maxRecDepth 100000 in
theorem c_X3_drop {g : kG} {l : Launch} (hfl : l.stackTraces = false) {u : Nat → va_E} {n m t : Nat} {B : kB} {S : Nat → kS} {C : Nat → Int32}  (hc : CsB g u n B m S t C)  : XCI g l yX3_drop wsX3_drop ({ frames := 7, cells := 1, slots := 6, locals := 110 }) [.ref (g.2.1 0)] u (fun r u' => 0 < n ∧ r = B (n - 1) 0 ∧ CsB g u' (n - 1) B (pushM m) (pushS m S (n, B)) t C ∧ ∀ j, 61 ≤ j → u' j = u j) (fun E u' => E = xS ∧ u' = u ∧ n = 0) := by
  refine XCI.of (cc := cX3_drop) (nL := 3) (ty := .int) hfl (by decide +kernel) rfl (fun _ _ _ => rfl) (Nat.le_of_ble_eq_true rfl) ?_
  intro X hXl F Gq hret
  subst hXl
  have hinX3 : ∀ w ∈ wsX30, w ∈ wsX3_drop := by decide +kernel
  obtain ⟨nx, hN⟩ := hc.2.2.2.1
  show VL g X 0 0 u 0 [(0, .ref (g.2.1 0))] []
  refine r_aload_n F 0 rfl dX3_drop_0 ?_
  refine r_get (C := RX3) (T := TX3) (N := 4) F 0 hc.1 (by decide) hinX3 rfl 0 (by decide) (by decide +kernel) rfl dX3_drop_1 ?_
  refine r_calli (g_VN (C := RX0) (T := TX0) (N := 7) (nA := 0) (As := []) (rest := []) F 1 hc.2.1.obj (by decide) rfl (c_X0_size hc.2.1 (by decide) ) gX3_drop_X0_size_n54 rfl 9 rfl (by decide +kernel) (by decide +kernel) (by decide +kernel) (by decide +kernel) rfl ⟨Nat.le_of_ble_eq_true rfl, Nat.le_of_ble_eq_true rfl⟩ ⟨Nat.le_of_ble_eq_true rfl, Nat.le_of_ble_eq_true rfl⟩ rfl (Nat.le_of_ble_eq_true rfl) dX3_drop_4) (fun r_1 u_1 hp_1 => ?_)
  obtain ⟨rfl, rfl⟩ := hp_1
  refine r_iconst (v := 1) F (by decide) dX3_drop_7 ?_
  refine r_isub F dX3_drop_8 ?_
  refine r_istore_n (lv' := [(0, .ref (g.2.1 0)), (1, .int ((nI n) - 1))]) F (by decide) rfl dX3_drop_9 ?_
  refine r_iload_n F 1 rfl dX3_drop_10 ?_
  refine r_if_lt F 18 (by decide) dX3_drop_11 (fun c_11_2 => ?_) (fun c_11_2 => ?_)
  · skip
    refine r_iconst (v := 0) F (by decide) dX3_drop_18 ?_
    refine r_eq (st2 := [.int (bI (decide (0 < n)))]) (by rw [show (bI (decide (0 < n))) = 0 from (by rw [decide_eq_false (dr0 (by have := hc.2.1.le; omega) c_11_2)]; rfl)]) rfl ?_
    refine r_xcallv F Gq (g_XS (nA := 1) (As := [.int (bI (decide (0 < n)))]) (rest := []) F (c_X3_needState hfl (b := decide (0 < n))) gX3_drop_X3_needState rfl (by decide +kernel) rfl ⟨Nat.le_of_ble_eq_true rfl, Nat.le_of_ble_eq_true rfl⟩ ⟨Nat.le_of_ble_eq_true rfl, Nat.le_of_ble_eq_true rfl⟩ rfl (Nat.le_of_ble_eq_true rfl) dX3_drop_19) ⟨Nat.le_of_ble_eq_true rfl, Nat.le_of_ble_eq_true rfl⟩ (fun E u9 h9 => ⟨h9.1, h9.2.1, by have := of_decide_eq_false h9.2.2; omega⟩) (fun u_3 hp_3 => ?_)
    obtain ⟨rfl, hq_3⟩ := hp_3
    obtain ⟨n1, rfl⟩ : ∃ n1, n = n1 + 1 := ⟨n - 1, by have := of_decide_eq_true hq_3; omega⟩
    rw [nI_pred n1]
    refine r_aload_n F 0 rfl dX3_drop_22 ?_
    refine r_get (C := RX3) (T := TX3) (N := 4) F 0 hc.1 (by decide) hinX3 rfl 2 (by decide) (by decide +kernel) rfl dX3_drop_23 ?_
    refine r_aload_n F 0 rfl dX3_drop_26 ?_
    refine r_get (C := RX3) (T := TX3) (N := 4) F 0 hc.1 (by decide) hinX3 rfl 0 (by decide) (by decide +kernel) rfl dX3_drop_27 ?_
    refine r_callv (g_VN (C := RX1) (T := TX1) (N := 3) (nA := 1) (As := [.ref (g.2.1 1)]) (rest := []) F 15 hN.obj (by decide) rfl (c_X1_save hN hc.2.1 (by decide)) gX3_drop_X1_save_n61 rfl 4 rfl (by decide +kernel) (by decide +kernel) (by decide +kernel) (by decide +kernel) rfl ⟨Nat.le_of_ble_eq_true rfl, Nat.le_of_ble_eq_true rfl⟩ ⟨Nat.le_of_ble_eq_true rfl, Nat.le_of_ble_eq_true rfl⟩ rfl (Nat.le_of_ble_eq_true rfl) dX3_drop_30) (fun u_4 hp_4 => ?_)
    obtain ⟨hH_4, hk_4⟩ := hp_4
    have hc_4 := hc.hist hH_4 hk_4
    obtain ⟨nx_5, hN_5⟩ := hc_4.2.2.2.1
    refine r_aload_n F 0 rfl dX3_drop_33 ?_
    refine r_get (C := RX3) (T := TX3) (N := 4) F 0 hc_4.1 (by decide) hinX3 rfl 0 (by decide) (by decide +kernel) rfl dX3_drop_34 ?_
    refine r_iload_n F 1 rfl dX3_drop_37 ?_
    refine r_calli (g_VN (C := RX0) (T := TX0) (N := 7) (nA := 1) (As := [.int (nI n1)]) (rest := []) F 1 hc_4.2.1.obj (by decide) rfl (c_X0_kindOf hc_4.2.1 (by decide) (Nat.lt_succ_self n1)) gX3_drop_X0_kindOf_n65 rfl 25 rfl (by decide +kernel) (by decide +kernel) (by decide +kernel) (by decide +kernel) rfl ⟨Nat.le_of_ble_eq_true rfl, Nat.le_of_ble_eq_true rfl⟩ ⟨Nat.le_of_ble_eq_true rfl, Nat.le_of_ble_eq_true rfl⟩ rfl (Nat.le_of_ble_eq_true rfl) dX3_drop_38) (fun r_6 u_6 hp_6 => ?_)
    obtain ⟨rfl, rfl⟩ := hp_6
    refine r_istore_n (lv' := [(0, .ref (g.2.1 0)), (1, .int (nI n1)), (2, .int (B n1 0))]) F (by decide) rfl dX3_drop_41 ?_
    refine r_aload_n F 0 rfl dX3_drop_42 ?_
    refine r_get (C := RX3) (T := TX3) (N := 4) F 0 hc_4.1 (by decide) hinX3 rfl 0 (by decide) (by decide +kernel) rfl dX3_drop_43 ?_
    refine r_callv (g_VN (C := RX0) (T := TX0) (N := 7) (nA := 0) (As := []) (rest := []) F 1 hc_4.2.1.obj (by decide) rfl (c_X0_removeLast hc_4.2.1 (by decide)) gX3_drop_X0_removeLast_n69 rfl 42 rfl (by decide +kernel) (by decide +kernel) (by decide +kernel) (by decide +kernel) rfl ⟨Nat.le_of_ble_eq_true rfl, Nat.le_of_ble_eq_true rfl⟩ ⟨Nat.le_of_ble_eq_true rfl, Nat.le_of_ble_eq_true rfl⟩ rfl (Nat.le_of_ble_eq_true rfl) dX3_drop_46) (fun u_7 hp_7 => ?_)
    obtain ⟨hB_7, hk_7⟩ := hp_7
    have hc_7 := hc_4.form hB_7 hk_7
    obtain ⟨nx_8, hN_8⟩ := hc_7.2.2.2.1
    refine r_iload_n F 2 rfl dX3_drop_49 ?_
    exact hret _ _ _ _ _ _ (Nat.le_of_ble_eq_true rfl) (Nat.le_of_ble_eq_true rfl) ⟨Nat.succ_pos n1, rfl, hc_7, fun j hj => (hk_7 j (by omega)).trans (hk_4 j (by omega))⟩ dX3_drop_50
  · skip
    refine r_iconst (v := 1) F (by decide) dX3_drop_14 ?_
    refine r_goto F 19 (by decide) dX3_drop_15 ?_
    refine r_eq (st2 := [.int (bI (decide (0 < n)))]) (by rw [show (bI (decide (0 < n))) = 1 from (by rw [decide_eq_true (dr1 c_11_2)]; rfl)]) rfl ?_
    refine r_xcallv F Gq (g_XS (nA := 1) (As := [.int (bI (decide (0 < n)))]) (rest := []) F (c_X3_needState hfl (b := decide (0 < n))) gX3_drop_X3_needState rfl (by decide +kernel) rfl ⟨Nat.le_of_ble_eq_true rfl, Nat.le_of_ble_eq_true rfl⟩ ⟨Nat.le_of_ble_eq_true rfl, Nat.le_of_ble_eq_true rfl⟩ rfl (Nat.le_of_ble_eq_true rfl) dX3_drop_19) ⟨Nat.le_of_ble_eq_true rfl, Nat.le_of_ble_eq_true rfl⟩ (fun E u9 h9 => ⟨h9.1, h9.2.1, by have := of_decide_eq_false h9.2.2; omega⟩) (fun u_9 hp_9 => ?_)
    obtain ⟨rfl, hq_9⟩ := hp_9
    obtain ⟨n1, rfl⟩ : ∃ n1, n = n1 + 1 := ⟨n - 1, by have := of_decide_eq_true hq_9; omega⟩
    rw [nI_pred n1]
    refine r_aload_n F 0 rfl dX3_drop_22 ?_
    refine r_get (C := RX3) (T := TX3) (N := 4) F 0 hc.1 (by decide) hinX3 rfl 2 (by decide) (by decide +kernel) rfl dX3_drop_23 ?_
    refine r_aload_n F 0 rfl dX3_drop_26 ?_
    refine r_get (C := RX3) (T := TX3) (N := 4) F 0 hc.1 (by decide) hinX3 rfl 0 (by decide) (by decide +kernel) rfl dX3_drop_27 ?_
    refine r_callv (g_VN (C := RX1) (T := TX1) (N := 3) (nA := 1) (As := [.ref (g.2.1 1)]) (rest := []) F 15 hN.obj (by decide) rfl (c_X1_save hN hc.2.1 (by decide)) gX3_drop_X1_save_n61 rfl 4 rfl (by decide +kernel) (by decide +kernel) (by decide +kernel) (by decide +kernel) rfl ⟨Nat.le_of_ble_eq_true rfl, Nat.le_of_ble_eq_true rfl⟩ ⟨Nat.le_of_ble_eq_true rfl, Nat.le_of_ble_eq_true rfl⟩ rfl (Nat.le_of_ble_eq_true rfl) dX3_drop_30) (fun u_10 hp_10 => ?_)
    obtain ⟨hH_10, hk_10⟩ := hp_10
    have hc_10 := hc.hist hH_10 hk_10
    obtain ⟨nx_11, hN_11⟩ := hc_10.2.2.2.1
    refine r_aload_n F 0 rfl dX3_drop_33 ?_
    refine r_get (C := RX3) (T := TX3) (N := 4) F 0 hc_10.1 (by decide) hinX3 rfl 0 (by decide) (by decide +kernel) rfl dX3_drop_34 ?_
    refine r_iload_n F 1 rfl dX3_drop_37 ?_
    refine r_calli (g_VN (C := RX0) (T := TX0) (N := 7) (nA := 1) (As := [.int (nI n1)]) (rest := []) F 1 hc_10.2.1.obj (by decide) rfl (c_X0_kindOf hc_10.2.1 (by decide) (Nat.lt_succ_self n1)) gX3_drop_X0_kindOf_n65 rfl 25 rfl (by decide +kernel) (by decide +kernel) (by decide +kernel) (by decide +kernel) rfl ⟨Nat.le_of_ble_eq_true rfl, Nat.le_of_ble_eq_true rfl⟩ ⟨Nat.le_of_ble_eq_true rfl, Nat.le_of_ble_eq_true rfl⟩ rfl (Nat.le_of_ble_eq_true rfl) dX3_drop_38) (fun r_12 u_12 hp_12 => ?_)
    obtain ⟨rfl, rfl⟩ := hp_12
    refine r_istore_n (lv' := [(0, .ref (g.2.1 0)), (1, .int (nI n1)), (2, .int (B n1 0))]) F (by decide) rfl dX3_drop_41 ?_
    refine r_aload_n F 0 rfl dX3_drop_42 ?_
    refine r_get (C := RX3) (T := TX3) (N := 4) F 0 hc_10.1 (by decide) hinX3 rfl 0 (by decide) (by decide +kernel) rfl dX3_drop_43 ?_
    refine r_callv (g_VN (C := RX0) (T := TX0) (N := 7) (nA := 0) (As := []) (rest := []) F 1 hc_10.2.1.obj (by decide) rfl (c_X0_removeLast hc_10.2.1 (by decide)) gX3_drop_X0_removeLast_n69 rfl 42 rfl (by decide +kernel) (by decide +kernel) (by decide +kernel) (by decide +kernel) rfl ⟨Nat.le_of_ble_eq_true rfl, Nat.le_of_ble_eq_true rfl⟩ ⟨Nat.le_of_ble_eq_true rfl, Nat.le_of_ble_eq_true rfl⟩ rfl (Nat.le_of_ble_eq_true rfl) dX3_drop_46) (fun u_13 hp_13 => ?_)
    obtain ⟨hB_13, hk_13⟩ := hp_13
    have hc_13 := hc_10.form hB_13 hk_13
    obtain ⟨nx_14, hN_14⟩ := hc_13.2.2.2.1
    refine r_iload_n F 2 rfl dX3_drop_49 ?_
    exact hret _ _ _ _ _ _ (Nat.le_of_ble_eq_true rfl) (Nat.le_of_ble_eq_true rfl) ⟨Nat.succ_pos n1, rfl, hc_13, fun j hj => (hk_13 j (by omega)).trans (hk_10 j (by omega))⟩ dX3_drop_50
set_option maxHeartbeats 4000000 in
set_option maxRecDepth 100000 in
theorem c_X3_answer {g : kG} {l : Launch} (hfl : l.stackTraces = false) {u : Nat → va_E} {n m t : Nat} {B : kB} {S : Nat → kS} {C : Nat → Int32} {x v : Int32} (hc : CsB g u n B m S t C) (hw : Wt n B) : XCI g l yX3_answer wsX3_answer ({ frames := 7, cells := 2, slots := 12, locals := 111 }) [.ref (g.2.1 0), .int x, .int v] u (fun r u' => cdAnswer B n x v = 0 ∧ r = cntN n (qWts (bUp B x.toNatClampNeg 4 v) (opm (bUp B x.toNatClampNeg 4 v) n)) ∧ CsB g u' n (bUp B x.toNatClampNeg 4 v) (pushM m) (pushS m S (n, B)) t C ∧ ∀ j, 61 ≤ j → u' j = u j) (fun E u' => exIA (cdAnswer B n x v) E ∧ u' = u) := by
  refine XCI.of (cc := cX3_answer) (nL := 3) (ty := .int) hfl (by decide +kernel) rfl (fun _ _ _ => rfl) (Nat.le_of_ble_eq_true rfl) ?_
  intro X hXl F Gq hret
  subst hXl
  have hinX3 : ∀ w ∈ wsX30, w ∈ wsX3_answer := by decide +kernel
  obtain ⟨nx, hN⟩ := hc.2.2.2.1
  show VL g X 0 0 u 0 [(0, .ref (g.2.1 0)), (1, .int x), (2, .int v)] []
  refine r_aload_n F 0 rfl dX3_answer_0 ?_
  refine r_iload_n F 1 rfl dX3_answer_1 ?_
  refine r_xcallv F Gq (g_XV (C := RX3) (T := TX3) (N := 4) (nA := 1) (As := [.int x]) (rest := []) F 0 hc.1 (by decide) rfl (c_X3_needBox hfl hc) gX3_answer_X3_needBox rfl (by decide +kernel) rfl ⟨Nat.le_of_ble_eq_true rfl, Nat.le_of_ble_eq_true rfl⟩ ⟨Nat.le_of_ble_eq_true rfl, Nat.le_of_ble_eq_true rfl⟩ rfl (Nat.le_of_ble_eq_true rfl) dX3_answer_2) ⟨Nat.le_of_ble_eq_true rfl, Nat.le_of_ble_eq_true rfl⟩ (fun E u9 h9 => ⟨Or.inl ⟨by simp [cdAnswer, h9.2.2], h9.1⟩, h9.2.1⟩) (fun u_1 hp_1 => ?_)
  obtain ⟨rfl, hq_1⟩ := hp_1
  obtain ⟨b, hb, eb⟩ := hasB_of (by have := hc.2.1.le; omega) hq_1
  subst eb
  have hbc : (nI b).toNatClampNeg = b := nI_clamp (by have := hc.2.1.le; omega)
  refine r_aload_n F 0 rfl dX3_answer_5 ?_
  refine r_get (C := RX3) (T := TX3) (N := 4) F 0 hc.1 (by decide) hinX3 rfl 0 (by decide) (by decide +kernel) rfl dX3_answer_6 ?_
  refine r_iload_n F 1 rfl dX3_answer_9 ?_
  refine r_iload_n F 2 rfl dX3_answer_10 ?_
  refine r_calli (g_VN (C := RX0) (T := TX0) (N := 7) (nA := 2) (As := [.int (nI b), .int v]) (rest := []) F 1 hc.2.1.obj (by decide) rfl (c_X0_fits hc.2.1 (by decide) hb (hw b hb)) gX3_answer_X0_fits_n76 rfl 44 rfl (by decide +kernel) (by decide +kernel) (by decide +kernel) (by decide +kernel) rfl ⟨Nat.le_of_ble_eq_true rfl, Nat.le_of_ble_eq_true rfl⟩ ⟨Nat.le_of_ble_eq_true rfl, Nat.le_of_ble_eq_true rfl⟩ rfl (Nat.le_of_ble_eq_true rfl) dX3_answer_11) (fun r_2 u_2 hp_2 => ?_)
  obtain ⟨rfl, rfl⟩ := hp_2
  refine r_xcallv F Gq (g_XS (nA := 1) (As := [.int (bI (fitA B b v))]) (rest := []) F (c_X3_needArgument hfl (b := (fitA B b v))) gX3_answer_X3_needArgument rfl (by decide +kernel) rfl ⟨Nat.le_of_ble_eq_true rfl, Nat.le_of_ble_eq_true rfl⟩ ⟨Nat.le_of_ble_eq_true rfl, Nat.le_of_ble_eq_true rfl⟩ rfl (Nat.le_of_ble_eq_true rfl) dX3_answer_14) ⟨Nat.le_of_ble_eq_true rfl, Nat.le_of_ble_eq_true rfl⟩ (fun E u9 h9 => ⟨Or.inr (⟨by simp [cdAnswer, hq_1, h9.2.2, hbc], h9.1⟩), h9.2.1⟩) (fun u_3 hp_3 => ?_)
  obtain ⟨rfl, hq_3⟩ := hp_3
  refine r_aload_n F 0 rfl dX3_answer_17 ?_
  refine r_get (C := RX3) (T := TX3) (N := 4) F 0 hc.1 (by decide) hinX3 rfl 2 (by decide) (by decide +kernel) rfl dX3_answer_18 ?_
  refine r_aload_n F 0 rfl dX3_answer_21 ?_
  refine r_get (C := RX3) (T := TX3) (N := 4) F 0 hc.1 (by decide) hinX3 rfl 0 (by decide) (by decide +kernel) rfl dX3_answer_22 ?_
  refine r_callv (g_VN (C := RX1) (T := TX1) (N := 3) (nA := 1) (As := [.ref (g.2.1 1)]) (rest := []) F 15 hN.obj (by decide) rfl (c_X1_save hN hc.2.1 (by decide)) gX3_answer_X1_save_n61 rfl 4 rfl (by decide +kernel) (by decide +kernel) (by decide +kernel) (by decide +kernel) rfl ⟨Nat.le_of_ble_eq_true rfl, Nat.le_of_ble_eq_true rfl⟩ ⟨Nat.le_of_ble_eq_true rfl, Nat.le_of_ble_eq_true rfl⟩ rfl (Nat.le_of_ble_eq_true rfl) dX3_answer_25) (fun u_4 hp_4 => ?_)
  obtain ⟨hH_4, hk_4⟩ := hp_4
  have hc_4 := hc.hist hH_4 hk_4
  obtain ⟨nx_5, hN_5⟩ := hc_4.2.2.2.1
  refine r_aload_n F 0 rfl dX3_answer_28 ?_
  refine r_get (C := RX3) (T := TX3) (N := 4) F 0 hc_4.1 (by decide) hinX3 rfl 0 (by decide) (by decide +kernel) rfl dX3_answer_29 ?_
  refine r_iload_n F 1 rfl dX3_answer_32 ?_
  refine r_iload_n F 2 rfl dX3_answer_33 ?_
  refine r_callv (g_VN (C := RX0) (T := TX0) (N := 7) (nA := 2) (As := [.int (nI b), .int v]) (rest := []) F 1 hc_4.2.1.obj (by decide) rfl (c_X0_give hc_4.2.1 (by decide) hb) gX3_answer_X0_give_n80 rfl 10 rfl (by decide +kernel) (by decide +kernel) (by decide +kernel) (by decide +kernel) rfl ⟨Nat.le_of_ble_eq_true rfl, Nat.le_of_ble_eq_true rfl⟩ ⟨Nat.le_of_ble_eq_true rfl, Nat.le_of_ble_eq_true rfl⟩ rfl (Nat.le_of_ble_eq_true rfl) dX3_answer_34) (fun u_6 hp_6 => ?_)
  obtain ⟨hB_6, hk_6⟩ := hp_6
  have hc_6 := hc_4.form hB_6 hk_6
  obtain ⟨nx_7, hN_7⟩ := hc_6.2.2.2.1
  refine r_aload_n F 0 rfl dX3_answer_37 ?_
  refine r_get (C := RX3) (T := TX3) (N := 4) F 0 hc_6.1 (by decide) hinX3 rfl 0 (by decide) (by decide +kernel) rfl dX3_answer_38 ?_
  refine r_aload_n F 0 rfl dX3_answer_41 ?_
  refine r_get (C := RX3) (T := TX3) (N := 4) F 0 hc_6.1 (by decide) hinX3 rfl 0 (by decide) (by decide +kernel) rfl dX3_answer_42 ?_
  refine r_calli (g_VN (C := RX0) (T := TX0) (N := 7) (nA := 0) (As := []) (rest := [.ref (g.2.1 1)]) F 1 hc_6.2.1.obj (by decide) rfl (c_X0_openParts hc_6.2.1 (by decide) ) gX3_answer_X0_openParts_n83 rfl 20 rfl (by decide +kernel) (by decide +kernel) (by decide +kernel) (by decide +kernel) rfl ⟨Nat.le_of_ble_eq_true rfl, Nat.le_of_ble_eq_true rfl⟩ ⟨Nat.le_of_ble_eq_true rfl, Nat.le_of_ble_eq_true rfl⟩ rfl (Nat.le_of_ble_eq_true rfl) dX3_answer_45) (fun r_8 u_8 hp_8 => ?_)
  obtain ⟨rfl, rfl⟩ := hp_8
  refine r_calli (g_VN (C := RX0) (T := TX0) (N := 7) (nA := 1) (As := [.int (opm (bUp B b 4 v) n)]) (rest := []) F 1 hc_6.2.1.obj (by decide) rfl (c_X0_wanting hc_6.2.1 (by decide) ) gX3_answer_X0_wanting_n86 rfl 18 rfl (by decide +kernel) (by decide +kernel) (by decide +kernel) (by decide +kernel) rfl ⟨Nat.le_of_ble_eq_true rfl, Nat.le_of_ble_eq_true rfl⟩ ⟨Nat.le_of_ble_eq_true rfl, Nat.le_of_ble_eq_true rfl⟩ rfl (Nat.le_of_ble_eq_true rfl) dX3_answer_48) (fun r_9 u_9 hp_9 => ?_)
  obtain ⟨rfl, rfl⟩ := hp_9
  exact hret _ _ _ _ _ _ (Nat.le_of_ble_eq_true rfl) (Nat.le_of_ble_eq_true rfl) (by rw [hbc]; exact ⟨by simp [cdAnswer, hbc, hq_1, hq_3], rfl, hc_6, fun j hj => (hk_6 j (by omega)).trans (hk_4 j (by omega))⟩) dX3_answer_51
set_option maxHeartbeats 4000000 in
set_option maxRecDepth 100000 in
theorem c_X3_clear {g : kG} {l : Launch} {u : Nat → va_E} {n m t : Nat} {B : kB} {S : Nat → kS} {C : Nat → Int32}  (hc : CsB g u n B m S t C)  : CI g l yX3_clear wsX3_clear ({ frames := 3, cells := 0, slots := 0, locals := 66 }) [.ref (g.2.1 0)] u (fun r u' => r = cntN n (fun b => !decide (B b 4 = -1)) ∧ CsB g u' n (clrB B n) (pushM m) (pushS m S (n, B)) t C ∧ ∀ j, 61 ≤ j → u' j = u j) := by
  refine CI.of (cc := cX3_clear) (nL := 4) (ty := .int) (by decide +kernel) rfl (fun _ _ _ => rfl) (Nat.le_of_ble_eq_true rfl) ?_
  intro X hXl F hret
  subst hXl
  have hinX3 : ∀ w ∈ wsX30, w ∈ wsX3_clear := by decide +kernel
  obtain ⟨nx, hN⟩ := hc.2.2.2.1
  show VL g X 0 0 u 0 [(0, .ref (g.2.1 0))] []
  refine r_aload_n F 0 rfl dX3_clear_0 ?_
  refine r_get (C := RX3) (T := TX3) (N := 4) F 0 hc.1 (by decide) hinX3 rfl 2 (by decide) (by decide +kernel) rfl dX3_clear_1 ?_
  refine r_aload_n F 0 rfl dX3_clear_4 ?_
  refine r_get (C := RX3) (T := TX3) (N := 4) F 0 hc.1 (by decide) hinX3 rfl 0 (by decide) (by decide +kernel) rfl dX3_clear_5 ?_
  refine r_callv (g_VN (C := RX1) (T := TX1) (N := 3) (nA := 1) (As := [.ref (g.2.1 1)]) (rest := []) F 15 hN.obj (by decide) rfl (c_X1_save hN hc.2.1 (by decide)) gX3_clear_X1_save_n61 rfl 4 rfl (by decide +kernel) (by decide +kernel) (by decide +kernel) (by decide +kernel) rfl ⟨Nat.le_of_ble_eq_true rfl, Nat.le_of_ble_eq_true rfl⟩ ⟨Nat.le_of_ble_eq_true rfl, Nat.le_of_ble_eq_true rfl⟩ rfl (Nat.le_of_ble_eq_true rfl) dX3_clear_8) (fun u_1 hp_1 => ?_)
  obtain ⟨hH_1, hk_1⟩ := hp_1
  have hc_1 := hc.hist hH_1 hk_1
  obtain ⟨nx_2, hN_2⟩ := hc_1.2.2.2.1
  refine r_aload_n F 0 rfl dX3_clear_11 ?_
  refine r_get (C := RX3) (T := TX3) (N := 4) F 0 hc_1.1 (by decide) hinX3 rfl 0 (by decide) (by decide +kernel) rfl dX3_clear_12 ?_
  refine r_calli (g_VN (C := RX0) (T := TX0) (N := 7) (nA := 0) (As := []) (rest := []) F 1 hc_1.2.1.obj (by decide) rfl (c_X0_answered hc_1.2.1 (by decide) ) gX3_clear_X0_answered_n89 rfl 8 rfl (by decide +kernel) (by decide +kernel) (by decide +kernel) (by decide +kernel) rfl ⟨Nat.le_of_ble_eq_true rfl, Nat.le_of_ble_eq_true rfl⟩ ⟨Nat.le_of_ble_eq_true rfl, Nat.le_of_ble_eq_true rfl⟩ rfl (Nat.le_of_ble_eq_true rfl) dX3_clear_15) (fun r_3 u_3 hp_3 => ?_)
  obtain ⟨rfl, rfl⟩ := hp_3
  refine r_istore_n (lv' := [(0, .ref (g.2.1 0)), (1, .int (cntN n (fun b => !decide (B b 4 = -1))))]) F (by decide) rfl dX3_clear_18 ?_
  refine r_aload_n F 0 rfl dX3_clear_19 ?_
  refine r_get (C := RX3) (T := TX3) (N := 4) F 0 hc_1.1 (by decide) hinX3 rfl 0 (by decide) (by decide +kernel) rfl dX3_clear_20 ?_
  refine r_calli (g_VN (C := RX0) (T := TX0) (N := 7) (nA := 0) (As := []) (rest := []) F 1 hc_1.2.1.obj (by decide) rfl (c_X0_size hc_1.2.1 (by decide) ) gX3_clear_X0_size_n54 rfl 9 rfl (by decide +kernel) (by decide +kernel) (by decide +kernel) (by decide +kernel) rfl ⟨Nat.le_of_ble_eq_true rfl, Nat.le_of_ble_eq_true rfl⟩ ⟨Nat.le_of_ble_eq_true rfl, Nat.le_of_ble_eq_true rfl⟩ rfl (Nat.le_of_ble_eq_true rfl) dX3_clear_23) (fun r_4 u_4 hp_4 => ?_)
  obtain ⟨rfl, rfl⟩ := hp_4
  refine r_istore_n (lv' := [(0, .ref (g.2.1 0)), (1, .int (cntN n (fun b => !decide (B b 4 = -1)))), (2, .int (nI n))]) F (by decide) rfl dX3_clear_26 ?_
  refine r_iconst (v := 0) F (by decide) dX3_clear_27 ?_
  refine r_istore_n (lv' := [(0, .ref (g.2.1 0)), (1, .int (cntN n (fun b => !decide (B b 4 = -1)))), (2, .int (nI n)), (3, .int 0)]) F (by decide) rfl dX3_clear_28 ?_
  have loop_29 : ∀ (k : Nat) (j : Nat) (w : Nat → va_E) (x3_29 : Int32), j + k = n → CsB g w n (clrB B j) (pushM m) (pushS m S (n, B)) t C → (∀ j, 61 ≤ j → w j = u j) → x3_29 = nI j → VL g X 0 0 w 29 [(0, .ref (g.2.1 0)), (1, .int (cntN n (fun b => !decide (B b 4 = -1)))), (2, .int (nI n)), (3, .int x3_29)] [] := by
    intro k
    induction k with
    | zero =>
      rintro j w x3_29 hk hcw hfw rfl
      obtain ⟨nx_6, hN_6⟩ := hcw.2.2.2.1
      have hjn : n = j := by omega
      subst hjn
      refine r_iload_n F 3 rfl dX3_clear_29 ?_
      refine r_iload_n F 2 rfl dX3_clear_30 ?_
      refine r_icmp_ge F 49 (by decide) dX3_clear_31 (fun c_31_7 => ?_) (fun c_31_7 => absurd (Int32.le_refl _) c_31_7)
      clear c_31_7
      refine r_iload_n F 1 rfl dX3_clear_49 ?_
      exact hret _ _ _ _ _ _ (Nat.le_of_ble_eq_true rfl) (Nat.le_of_ble_eq_true rfl) ⟨rfl, hcw, hfw⟩ dX3_clear_50
    | succ k ih_29 =>
      rintro j w x3_29 hk hcw hfw rfl
      obtain ⟨nx_8, hN_8⟩ := hcw.2.2.2.1
      have hb : j < n := by omega
      refine r_iload_n F 3 rfl dX3_clear_29 ?_
      refine r_iload_n F 2 rfl dX3_clear_30 ?_
      refine r_icmp_ge F 49 (by decide) dX3_clear_31 (fun c_31_9 => absurd c_31_9 (nI_ge (b := n) hb (by have := hc.2.1.le; omega))) (fun c_31_9 => ?_)
      clear c_31_9
      refine r_aload_n F 0 rfl dX3_clear_34 ?_
      refine r_get (C := RX3) (T := TX3) (N := 4) F 0 hcw.1 (by decide) hinX3 rfl 0 (by decide) (by decide +kernel) rfl dX3_clear_35 ?_
      refine r_iload_n F 3 rfl dX3_clear_38 ?_
      refine r_iconst (v := -1) F (by decide) dX3_clear_39 ?_
      refine r_callv (g_VN (C := RX0) (T := TX0) (N := 7) (nA := 2) (As := [.int (nI j), .int (-1)]) (rest := []) F 1 hcw.2.1.obj (by decide) rfl (c_X0_give hcw.2.1 (by decide) hb) gX3_clear_X0_give_n80 rfl 10 rfl (by decide +kernel) (by decide +kernel) (by decide +kernel) (by decide +kernel) rfl ⟨Nat.le_of_ble_eq_true rfl, Nat.le_of_ble_eq_true rfl⟩ ⟨Nat.le_of_ble_eq_true rfl, Nat.le_of_ble_eq_true rfl⟩ rfl (Nat.le_of_ble_eq_true rfl) dX3_clear_40) (fun u_10 hp_10 => ?_)
      obtain ⟨hB_10, hk_10⟩ := hp_10
      have hc_10 := hcw.form hB_10 hk_10
      obtain ⟨nx_11, hN_11⟩ := hc_10.2.2.2.1
      refine r_iinc (lv' := [(0, .ref (g.2.1 0)), (1, .int (cntN n (fun b => !decide (B b 4 = -1)))), (2, .int (nI n)), (3, .int (nI (j + 1)))]) F 3 rfl (nI_inc _) (by decide) rfl dX3_clear_43 ?_
      refine r_goto F 29 (by decide) dX3_clear_46 ?_
      exact ih_29 (j + 1) _ _ (by omega) (clrB_s ▸ hc_10) (fun j hj => (hk_10 j (by omega)).trans (hfw j (by omega))) rfl
  exact loop_29 n 0 u_1 _ (by omega) (clrB_0.symm ▸ hc_1) (fun j hj => hk_1 j (by omega)) rfl
set_option maxHeartbeats 4000000 in
set_option maxRecDepth 100000 in
theorem c_X3_box {g : kG} {l : Launch} (hfl : l.stackTraces = false) {u : Nat → va_E} {n m t : Nat} {B : kB} {S : Nat → kS} {C : Nat → Int32} {x w : Int32} (hc : CsB g u n B m S t C)  : XCI g l yX3_box wsX3_box ({ frames := 7, cells := 2, slots := 12, locals := 113 }) [.ref (g.2.1 0), .int x, .int w] u (fun r u' => cdBox n x w = 0 ∧ r = tB B (opm B n) x.toNatClampNeg w ∧ CsB g u' n B m S t C ∧ ∀ j, 61 ≤ j → u' j = u j) (fun E u' => exIA (cdBox n x w) E ∧ u' = u) := by
  refine XCI.of (cc := cX3_box) (nL := 3) (ty := .int) hfl (by decide +kernel) rfl (fun _ _ _ => rfl) (Nat.le_of_ble_eq_true rfl) ?_
  intro X hXl F Gq hret
  subst hXl
  have hinX3 : ∀ w ∈ wsX30, w ∈ wsX3_box := by decide +kernel
  obtain ⟨nx, hN⟩ := hc.2.2.2.1
  show VL g X 0 0 u 0 [(0, .ref (g.2.1 0)), (1, .int x), (2, .int w)] []
  refine r_aload_n F 0 rfl dX3_box_0 ?_
  refine r_iload_n F 1 rfl dX3_box_1 ?_
  refine r_xcallv F Gq (g_XV (C := RX3) (T := TX3) (N := 4) (nA := 1) (As := [.int x]) (rest := []) F 0 hc.1 (by decide) rfl (c_X3_needBox hfl hc) gX3_box_X3_needBox rfl (by decide +kernel) rfl ⟨Nat.le_of_ble_eq_true rfl, Nat.le_of_ble_eq_true rfl⟩ ⟨Nat.le_of_ble_eq_true rfl, Nat.le_of_ble_eq_true rfl⟩ rfl (Nat.le_of_ble_eq_true rfl) dX3_box_2) ⟨Nat.le_of_ble_eq_true rfl, Nat.le_of_ble_eq_true rfl⟩ (fun E u9 h9 => ⟨Or.inl ⟨by simp [cdBox, h9.2.2], h9.1⟩, h9.2.1⟩) (fun u_1 hp_1 => ?_)
  obtain ⟨rfl, hq_1⟩ := hp_1
  obtain ⟨b, hb, eb⟩ := hasB_of (by have := hc.2.1.le; omega) hq_1
  subst eb
  have hbc : (nI b).toNatClampNeg = b := nI_clamp (by have := hc.2.1.le; omega)
  refine r_iload_n F 2 rfl dX3_box_5 ?_
  refine r_iconst (v := 0) F (by decide) dX3_box_6 ?_
  refine r_bipush (v := 7) F (by decide) dX3_box_7 ?_
  refine r_calli (g_S (nA := 3) (As := [.int w, .int 0, .int 7]) (rest := []) F (c_X3_isWithin) gX3_box_X3_isWithin rfl (by decide +kernel) rfl ⟨Nat.le_of_ble_eq_true rfl, Nat.le_of_ble_eq_true rfl⟩ ⟨Nat.le_of_ble_eq_true rfl, Nat.le_of_ble_eq_true rfl⟩ rfl (Nat.le_of_ble_eq_true rfl) dX3_box_9) (fun r_2 u_2 hp_2 => ?_)
  obtain ⟨rfl, rfl⟩ := hp_2
  refine r_xcallv F Gq (g_XS (nA := 1) (As := [.int (bI (wi w 0 7))]) (rest := []) F (c_X3_needArgument hfl (b := (wi w 0 7))) gX3_box_X3_needArgument rfl (by decide +kernel) rfl ⟨Nat.le_of_ble_eq_true rfl, Nat.le_of_ble_eq_true rfl⟩ ⟨Nat.le_of_ble_eq_true rfl, Nat.le_of_ble_eq_true rfl⟩ rfl (Nat.le_of_ble_eq_true rfl) dX3_box_12) ⟨Nat.le_of_ble_eq_true rfl, Nat.le_of_ble_eq_true rfl⟩ (fun E u9 h9 => ⟨Or.inr (⟨by simp [cdBox, hq_1, h9.2.2, hbc], h9.1⟩), h9.2.1⟩) (fun u_3 hp_3 => ?_)
  obtain ⟨rfl, hq_3⟩ := hp_3
  refine r_aload_n F 0 rfl dX3_box_15 ?_
  refine r_iload_n F 1 rfl dX3_box_16 ?_
  refine r_iload_n F 2 rfl dX3_box_17 ?_
  refine r_aload_n F 0 rfl dX3_box_18 ?_
  refine r_get (C := RX3) (T := TX3) (N := 4) F 0 hc.1 (by decide) hinX3 rfl 0 (by decide) (by decide +kernel) rfl dX3_box_19 ?_
  refine r_calli (g_VN (C := RX0) (T := TX0) (N := 7) (nA := 0) (As := []) (rest := [.int w, .int (nI b), .ref (g.2.1 0)]) F 1 hc.2.1.obj (by decide) rfl (c_X0_openParts hc.2.1 (by decide) ) gX3_box_X0_openParts_n83 rfl 20 rfl (by decide +kernel) (by decide +kernel) (by decide +kernel) (by decide +kernel) rfl ⟨Nat.le_of_ble_eq_true rfl, Nat.le_of_ble_eq_true rfl⟩ ⟨Nat.le_of_ble_eq_true rfl, Nat.le_of_ble_eq_true rfl⟩ rfl (Nat.le_of_ble_eq_true rfl) dX3_box_22) (fun r_4 u_4 hp_4 => ?_)
  obtain ⟨rfl, rfl⟩ := hp_4
  refine r_calli (g_V (C := RX3) (T := TX3) (N := 4) (nA := 3) (As := [.int (nI b), .int w, .int (opm B n)]) (rest := []) F 0 hc.1 (by decide) rfl (c_X3_ofBox hc hb) gX3_box_X3_ofBox rfl (by decide +kernel) rfl ⟨Nat.le_of_ble_eq_true rfl, Nat.le_of_ble_eq_true rfl⟩ ⟨Nat.le_of_ble_eq_true rfl, Nat.le_of_ble_eq_true rfl⟩ rfl (Nat.le_of_ble_eq_true rfl) dX3_box_25) (fun r_5 u_5 hp_5 => ?_)
  obtain ⟨er_5, hc_5, hk_5⟩ := hp_5
  subst er_5
  obtain ⟨nx_6, hN_6⟩ := hc_5.2.2.2.1
  exact hret _ _ _ _ _ _ (Nat.le_of_ble_eq_true rfl) (Nat.le_of_ble_eq_true rfl) (by rw [hbc]; exact ⟨by simp [cdBox, hq_1, hq_3], rfl, hc_5, fun j hj => hk_5 j (by omega)⟩) dX3_box_28
set_option maxHeartbeats 4000000 in
set_option maxRecDepth 100000 in
theorem c_X3_part {g : kG} {l : Launch} (hfl : l.stackTraces = false) {u : Nat → va_E} {n m t : Nat} {B : kB} {S : Nat → kS} {C : Nat → Int32} {p w : Int32} (hc : CsB g u n B m S t C)  : XCI g l yX3_part wsX3_part ({ frames := 7, cells := 2, slots := 12, locals := 112 }) [.ref (g.2.1 0), .int p, .int w] u (fun r u' => cdPart p w = 0 ∧ r = tP B n (opm B n) p w ∧ CsB g u' n B m S t C ∧ ∀ j, 61 ≤ j → u' j = u j) (fun E u' => exIA (cdPart p w) E ∧ u' = u) := by
  refine XCI.of (cc := cX3_part) (nL := 3) (ty := .int) hfl (by decide +kernel) rfl (fun _ _ _ => rfl) (Nat.le_of_ble_eq_true rfl) ?_
  intro X hXl F Gq hret
  subst hXl
  have hinX3 : ∀ w ∈ wsX30, w ∈ wsX3_part := by decide +kernel
  obtain ⟨nx, hN⟩ := hc.2.2.2.1
  show VL g X 0 0 u 0 [(0, .ref (g.2.1 0)), (1, .int p), (2, .int w)] []
  refine r_iload_n F 1 rfl dX3_part_0 ?_
  refine r_iconst (v := 4) F (by decide) dX3_part_1 ?_
  refine r_xcallv F Gq (g_XS (nA := 2) (As := [.int p, .int 4]) (rest := []) F (c_X3_needPart hfl) gX3_part_X3_needPart rfl (by decide +kernel) rfl ⟨Nat.le_of_ble_eq_true rfl, Nat.le_of_ble_eq_true rfl⟩ ⟨Nat.le_of_ble_eq_true rfl, Nat.le_of_ble_eq_true rfl⟩ rfl (Nat.le_of_ble_eq_true rfl) dX3_part_2) ⟨Nat.le_of_ble_eq_true rfl, Nat.le_of_ble_eq_true rfl⟩ (fun E u9 h9 => ⟨Or.inl ⟨by simp [cdPart, h9.2.2], h9.1⟩, h9.2.1⟩) (fun u_1 hp_1 => ?_)
  obtain ⟨rfl, hq_1⟩ := hp_1
  refine r_iload_n F 2 rfl dX3_part_5 ?_
  refine r_iconst (v := 0) F (by decide) dX3_part_6 ?_
  refine r_iconst (v := 5) F (by decide) dX3_part_7 ?_
  refine r_calli (g_S (nA := 3) (As := [.int w, .int 0, .int 5]) (rest := []) F (c_X3_isWithin) gX3_part_X3_isWithin rfl (by decide +kernel) rfl ⟨Nat.le_of_ble_eq_true rfl, Nat.le_of_ble_eq_true rfl⟩ ⟨Nat.le_of_ble_eq_true rfl, Nat.le_of_ble_eq_true rfl⟩ rfl (Nat.le_of_ble_eq_true rfl) dX3_part_8) (fun r_2 u_2 hp_2 => ?_)
  obtain ⟨rfl, rfl⟩ := hp_2
  refine r_xcallv F Gq (g_XS (nA := 1) (As := [.int (bI (wi w 0 5))]) (rest := []) F (c_X3_needArgument hfl (b := (wi w 0 5))) gX3_part_X3_needArgument rfl (by decide +kernel) rfl ⟨Nat.le_of_ble_eq_true rfl, Nat.le_of_ble_eq_true rfl⟩ ⟨Nat.le_of_ble_eq_true rfl, Nat.le_of_ble_eq_true rfl⟩ rfl (Nat.le_of_ble_eq_true rfl) dX3_part_11) ⟨Nat.le_of_ble_eq_true rfl, Nat.le_of_ble_eq_true rfl⟩ (fun E u9 h9 => ⟨Or.inr (⟨by simp [cdPart, hq_1, h9.2.2], h9.1⟩), h9.2.1⟩) (fun u_3 hp_3 => ?_)
  obtain ⟨rfl, hq_3⟩ := hp_3
  refine r_aload_n F 0 rfl dX3_part_14 ?_
  refine r_iload_n F 1 rfl dX3_part_15 ?_
  refine r_iload_n F 2 rfl dX3_part_16 ?_
  refine r_aload_n F 0 rfl dX3_part_17 ?_
  refine r_get (C := RX3) (T := TX3) (N := 4) F 0 hc.1 (by decide) hinX3 rfl 0 (by decide) (by decide +kernel) rfl dX3_part_18 ?_
  refine r_calli (g_VN (C := RX0) (T := TX0) (N := 7) (nA := 0) (As := []) (rest := [.int w, .int p, .ref (g.2.1 0)]) F 1 hc.2.1.obj (by decide) rfl (c_X0_openParts hc.2.1 (by decide) ) gX3_part_X0_openParts_n83 rfl 20 rfl (by decide +kernel) (by decide +kernel) (by decide +kernel) (by decide +kernel) rfl ⟨Nat.le_of_ble_eq_true rfl, Nat.le_of_ble_eq_true rfl⟩ ⟨Nat.le_of_ble_eq_true rfl, Nat.le_of_ble_eq_true rfl⟩ rfl (Nat.le_of_ble_eq_true rfl) dX3_part_21) (fun r_4 u_4 hp_4 => ?_)
  obtain ⟨rfl, rfl⟩ := hp_4
  refine r_calli (g_V (C := RX3) (T := TX3) (N := 4) (nA := 3) (As := [.int p, .int w, .int (opm B n)]) (rest := []) F 0 hc.1 (by decide) rfl (c_X3_ofPart hc ) gX3_part_X3_ofPart rfl (by decide +kernel) rfl ⟨Nat.le_of_ble_eq_true rfl, Nat.le_of_ble_eq_true rfl⟩ ⟨Nat.le_of_ble_eq_true rfl, Nat.le_of_ble_eq_true rfl⟩ rfl (Nat.le_of_ble_eq_true rfl) dX3_part_24) (fun r_5 u_5 hp_5 => ?_)
  obtain ⟨rfl, rfl⟩ := hp_5
  exact hret _ _ _ _ _ _ (Nat.le_of_ble_eq_true rfl) (Nat.le_of_ble_eq_true rfl) ⟨by simp [cdPart, hq_1, hq_3], rfl, hc, fun j hj => rfl⟩ dX3_part_27
set_option maxHeartbeats 4000000 in
set_option maxRecDepth 100000 in
theorem c_X3_count {g : kG} {l : Launch} (hfl : l.stackTraces = false) {u : Nat → va_E} {n m t : Nat} {B : kB} {S : Nat → kS} {C : Nat → Int32} {w : Int32} (hc : CsB g u n B m S t C)  : XCI g l yX3_count wsX3_count ({ frames := 7, cells := 1, slots := 6, locals := 110 }) [.ref (g.2.1 0), .int w] u (fun r u' => cdCount w = 0 ∧ r = tF B n m (opm B n) w ∧ CsB g u' n B m S t C ∧ ∀ j, 61 ≤ j → u' j = u j) (fun E u' => (cdCount w = 1 ∧ E = xA) ∧ u' = u) := by
  refine XCI.of (cc := cX3_count) (nL := 2) (ty := .int) hfl (by decide +kernel) rfl (fun _ _ _ => rfl) (Nat.le_of_ble_eq_true rfl) ?_
  intro X hXl F Gq hret
  subst hXl
  have hinX3 : ∀ w ∈ wsX30, w ∈ wsX3_count := by decide +kernel
  obtain ⟨nx, hN⟩ := hc.2.2.2.1
  show VL g X 0 0 u 0 [(0, .ref (g.2.1 0)), (1, .int w)] []
  refine r_iload_n F 1 rfl dX3_count_0 ?_
  refine r_iconst (v := 0) F (by decide) dX3_count_1 ?_
  refine r_bipush (v := 8) F (by decide) dX3_count_2 ?_
  refine r_calli (g_S (nA := 3) (As := [.int w, .int 0, .int 8]) (rest := []) F (c_X3_isWithin) gX3_count_X3_isWithin rfl (by decide +kernel) rfl ⟨Nat.le_of_ble_eq_true rfl, Nat.le_of_ble_eq_true rfl⟩ ⟨Nat.le_of_ble_eq_true rfl, Nat.le_of_ble_eq_true rfl⟩ rfl (Nat.le_of_ble_eq_true rfl) dX3_count_4) (fun r_1 u_1 hp_1 => ?_)
  obtain ⟨rfl, rfl⟩ := hp_1
  refine r_xcallv F Gq (g_XS (nA := 1) (As := [.int (bI (wi w 0 8))]) (rest := []) F (c_X3_needArgument hfl (b := (wi w 0 8))) gX3_count_X3_needArgument rfl (by decide +kernel) rfl ⟨Nat.le_of_ble_eq_true rfl, Nat.le_of_ble_eq_true rfl⟩ ⟨Nat.le_of_ble_eq_true rfl, Nat.le_of_ble_eq_true rfl⟩ rfl (Nat.le_of_ble_eq_true rfl) dX3_count_7) ⟨Nat.le_of_ble_eq_true rfl, Nat.le_of_ble_eq_true rfl⟩ (fun E u9 h9 => ⟨⟨by simp [cdCount, h9.2.2], h9.1⟩, h9.2.1⟩) (fun u_2 hp_2 => ?_)
  obtain ⟨rfl, hq_2⟩ := hp_2
  refine r_aload_n F 0 rfl dX3_count_10 ?_
  refine r_iload_n F 1 rfl dX3_count_11 ?_
  refine r_aload_n F 0 rfl dX3_count_12 ?_
  refine r_get (C := RX3) (T := TX3) (N := 4) F 0 hc.1 (by decide) hinX3 rfl 0 (by decide) (by decide +kernel) rfl dX3_count_13 ?_
  refine r_calli (g_VN (C := RX0) (T := TX0) (N := 7) (nA := 0) (As := []) (rest := [.int w, .ref (g.2.1 0)]) F 1 hc.2.1.obj (by decide) rfl (c_X0_openParts hc.2.1 (by decide) ) gX3_count_X0_openParts_n83 rfl 20 rfl (by decide +kernel) (by decide +kernel) (by decide +kernel) (by decide +kernel) rfl ⟨Nat.le_of_ble_eq_true rfl, Nat.le_of_ble_eq_true rfl⟩ ⟨Nat.le_of_ble_eq_true rfl, Nat.le_of_ble_eq_true rfl⟩ rfl (Nat.le_of_ble_eq_true rfl) dX3_count_16) (fun r_3 u_3 hp_3 => ?_)
  obtain ⟨rfl, rfl⟩ := hp_3
  refine r_calli (g_V (C := RX3) (T := TX3) (N := 4) (nA := 2) (As := [.int w, .int (opm B n)]) (rest := []) F 0 hc.1 (by decide) rfl (c_X3_ofForm hc ) gX3_count_X3_ofForm rfl (by decide +kernel) rfl ⟨Nat.le_of_ble_eq_true rfl, Nat.le_of_ble_eq_true rfl⟩ ⟨Nat.le_of_ble_eq_true rfl, Nat.le_of_ble_eq_true rfl⟩ rfl (Nat.le_of_ble_eq_true rfl) dX3_count_19) (fun r_4 u_4 hp_4 => ?_)
  obtain ⟨rfl, rfl⟩ := hp_4
  exact hret _ _ _ _ _ _ (Nat.le_of_ble_eq_true rfl) (Nat.le_of_ble_eq_true rfl) ⟨by simp [cdCount, hq_2], rfl, hc, fun j hj => rfl⟩ dX3_count_22
set_option maxHeartbeats 4000000 in
set_option maxRecDepth 100000 in
theorem c_X3_ifAnswered {g : kG} {l : Launch} (hfl : l.stackTraces = false) {u : Nat → va_E} {n m t : Nat} {B : kB} {S : Nat → kS} {C : Nat → Int32} {x v w : Int32} (hc : CsB g u n B m S t C) (hw : Wt n B) : XCI g l yX3_ifAnswered wsX3_ifAnswered ({ frames := 7, cells := 2, slots := 12, locals := 114 }) [.ref (g.2.1 0), .int x, .int v, .int w] u (fun r u' => cdIf B n x v w = 0 ∧ r = tT B n x.toNatClampNeg v w ∧ CsB g u' n B m S t C ∧ ∀ j, 61 ≤ j → u' j = u j) (fun E u' => exIA (cdIf B n x v w) E ∧ u' = u) := by
  refine XCI.of (cc := cX3_ifAnswered) (nL := 4) (ty := .int) hfl (by decide +kernel) rfl (fun _ _ _ => rfl) (Nat.le_of_ble_eq_true rfl) ?_
  intro X hXl F Gq hret
  subst hXl
  have hinX3 : ∀ w ∈ wsX30, w ∈ wsX3_ifAnswered := by decide +kernel
  obtain ⟨nx, hN⟩ := hc.2.2.2.1
  show VL g X 0 0 u 0 [(0, .ref (g.2.1 0)), (1, .int x), (2, .int v), (3, .int w)] []
  refine r_aload_n F 0 rfl dX3_ifAnswered_0 ?_
  refine r_iload_n F 1 rfl dX3_ifAnswered_1 ?_
  refine r_xcallv F Gq (g_XV (C := RX3) (T := TX3) (N := 4) (nA := 1) (As := [.int x]) (rest := []) F 0 hc.1 (by decide) rfl (c_X3_needBox hfl hc) gX3_ifAnswered_X3_needBox rfl (by decide +kernel) rfl ⟨Nat.le_of_ble_eq_true rfl, Nat.le_of_ble_eq_true rfl⟩ ⟨Nat.le_of_ble_eq_true rfl, Nat.le_of_ble_eq_true rfl⟩ rfl (Nat.le_of_ble_eq_true rfl) dX3_ifAnswered_2) ⟨Nat.le_of_ble_eq_true rfl, Nat.le_of_ble_eq_true rfl⟩ (fun E u9 h9 => ⟨Or.inl ⟨by simp [cdIf, h9.2.2], h9.1⟩, h9.2.1⟩) (fun u_1 hp_1 => ?_)
  obtain ⟨rfl, hq_1⟩ := hp_1
  obtain ⟨b, hb, eb⟩ := hasB_of (by have := hc.2.1.le; omega) hq_1
  subst eb
  have hbc : (nI b).toNatClampNeg = b := nI_clamp (by have := hc.2.1.le; omega)
  refine r_aload_n F 0 rfl dX3_ifAnswered_5 ?_
  refine r_get (C := RX3) (T := TX3) (N := 4) F 0 hc.1 (by decide) hinX3 rfl 0 (by decide) (by decide +kernel) rfl dX3_ifAnswered_6 ?_
  refine r_iload_n F 1 rfl dX3_ifAnswered_9 ?_
  refine r_iload_n F 2 rfl dX3_ifAnswered_10 ?_
  refine r_calli (g_VN (C := RX0) (T := TX0) (N := 7) (nA := 2) (As := [.int (nI b), .int v]) (rest := []) F 1 hc.2.1.obj (by decide) rfl (c_X0_fits hc.2.1 (by decide) hb (hw b hb)) gX3_ifAnswered_X0_fits_n76 rfl 44 rfl (by decide +kernel) (by decide +kernel) (by decide +kernel) (by decide +kernel) rfl ⟨Nat.le_of_ble_eq_true rfl, Nat.le_of_ble_eq_true rfl⟩ ⟨Nat.le_of_ble_eq_true rfl, Nat.le_of_ble_eq_true rfl⟩ rfl (Nat.le_of_ble_eq_true rfl) dX3_ifAnswered_11) (fun r_2 u_2 hp_2 => ?_)
  obtain ⟨rfl, rfl⟩ := hp_2
  refine r_if_eq F 30 (by decide) dX3_ifAnswered_14 (fun c_14_3 => ?_) (fun c_14_3 => ?_)
  · skip
    replace c_14_3 := bI0 c_14_3
    refine r_iconst (v := 0) F (by decide) dX3_ifAnswered_30 ?_
    refine r_eq (st2 := [.int (bI (ifOk B b v w))]) (by rw [show (bI (ifOk B b v w)) = 0 from (by simp [ifOk, bI, hq_1, c_14_3])]) rfl ?_
    refine r_xcallv F Gq (g_XS (nA := 1) (As := [.int (bI (ifOk B b v w))]) (rest := []) F (c_X3_needArgument hfl (b := ifOk B b v w)) gX3_ifAnswered_X3_needArgument rfl (by decide +kernel) rfl ⟨Nat.le_of_ble_eq_true rfl, Nat.le_of_ble_eq_true rfl⟩ ⟨Nat.le_of_ble_eq_true rfl, Nat.le_of_ble_eq_true rfl⟩ rfl (Nat.le_of_ble_eq_true rfl) dX3_ifAnswered_31) ⟨Nat.le_of_ble_eq_true rfl, Nat.le_of_ble_eq_true rfl⟩ (fun E u9 h9 => ⟨Or.inr (⟨by simp [cdIf, hq_1, h9.2.2, hbc], h9.1⟩), h9.2.1⟩) (fun u_4 hp_4 => ?_)
    obtain ⟨rfl, hq_4⟩ := hp_4
    refine r_aload_n F 0 rfl dX3_ifAnswered_34 ?_
    refine r_iload_n F 1 rfl dX3_ifAnswered_35 ?_
    refine r_iload_n F 2 rfl dX3_ifAnswered_36 ?_
    refine r_iload_n F 3 rfl dX3_ifAnswered_37 ?_
    refine r_calli (g_V (C := RX3) (T := TX3) (N := 4) (nA := 3) (As := [.int (nI b), .int v, .int w]) (rest := []) F 0 hc.1 (by decide) rfl (c_X3_ofTrial hc hb) gX3_ifAnswered_X3_ofTrial rfl (by decide +kernel) rfl ⟨Nat.le_of_ble_eq_true rfl, Nat.le_of_ble_eq_true rfl⟩ ⟨Nat.le_of_ble_eq_true rfl, Nat.le_of_ble_eq_true rfl⟩ rfl (Nat.le_of_ble_eq_true rfl) dX3_ifAnswered_38) (fun r_5 u_5 hp_5 => ?_)
    obtain ⟨er_5, hc_5, hk_5⟩ := hp_5
    subst er_5
    obtain ⟨nx_6, hN_6⟩ := hc_5.2.2.2.1
    exact hret _ _ _ _ _ _ (Nat.le_of_ble_eq_true rfl) (Nat.le_of_ble_eq_true rfl) (by rw [hbc]; exact ⟨by simp [cdIf, hbc, hq_1, hq_4], rfl, hc_5, fun j hj => hk_5 j (by omega)⟩) dX3_ifAnswered_41
  · skip
    replace c_14_3 := bI1 c_14_3
    refine r_iload_n F 3 rfl dX3_ifAnswered_17 ?_
    refine r_iconst (v := 0) F (by decide) dX3_ifAnswered_18 ?_
    refine r_iconst (v := 2) F (by decide) dX3_ifAnswered_19 ?_
    refine r_calli (g_S (nA := 3) (As := [.int w, .int 0, .int 2]) (rest := []) F (c_X3_isWithin) gX3_ifAnswered_X3_isWithin rfl (by decide +kernel) rfl ⟨Nat.le_of_ble_eq_true rfl, Nat.le_of_ble_eq_true rfl⟩ ⟨Nat.le_of_ble_eq_true rfl, Nat.le_of_ble_eq_true rfl⟩ rfl (Nat.le_of_ble_eq_true rfl) dX3_ifAnswered_20) (fun r_7 u_7 hp_7 => ?_)
    obtain ⟨rfl, rfl⟩ := hp_7
    refine r_if_eq F 30 (by decide) dX3_ifAnswered_23 (fun c_23_8 => ?_) (fun c_23_8 => ?_)
    · skip
      replace c_23_8 := bI0 c_23_8
      refine r_iconst (v := 0) F (by decide) dX3_ifAnswered_30 ?_
      refine r_eq (st2 := [.int (bI (ifOk B b v w))]) (by rw [show (bI (ifOk B b v w)) = 0 from (by simp [ifOk, bI, hq_1, c_14_3, c_23_8])]) rfl ?_
      refine r_xcallv F Gq (g_XS (nA := 1) (As := [.int (bI (ifOk B b v w))]) (rest := []) F (c_X3_needArgument hfl (b := ifOk B b v w)) gX3_ifAnswered_X3_needArgument rfl (by decide +kernel) rfl ⟨Nat.le_of_ble_eq_true rfl, Nat.le_of_ble_eq_true rfl⟩ ⟨Nat.le_of_ble_eq_true rfl, Nat.le_of_ble_eq_true rfl⟩ rfl (Nat.le_of_ble_eq_true rfl) dX3_ifAnswered_31) ⟨Nat.le_of_ble_eq_true rfl, Nat.le_of_ble_eq_true rfl⟩ (fun E u9 h9 => ⟨Or.inr (⟨by simp [cdIf, hq_1, h9.2.2, hbc], h9.1⟩), h9.2.1⟩) (fun u_9 hp_9 => ?_)
      obtain ⟨rfl, hq_9⟩ := hp_9
      refine r_aload_n F 0 rfl dX3_ifAnswered_34 ?_
      refine r_iload_n F 1 rfl dX3_ifAnswered_35 ?_
      refine r_iload_n F 2 rfl dX3_ifAnswered_36 ?_
      refine r_iload_n F 3 rfl dX3_ifAnswered_37 ?_
      refine r_calli (g_V (C := RX3) (T := TX3) (N := 4) (nA := 3) (As := [.int (nI b), .int v, .int w]) (rest := []) F 0 hc.1 (by decide) rfl (c_X3_ofTrial hc hb) gX3_ifAnswered_X3_ofTrial rfl (by decide +kernel) rfl ⟨Nat.le_of_ble_eq_true rfl, Nat.le_of_ble_eq_true rfl⟩ ⟨Nat.le_of_ble_eq_true rfl, Nat.le_of_ble_eq_true rfl⟩ rfl (Nat.le_of_ble_eq_true rfl) dX3_ifAnswered_38) (fun r_10 u_10 hp_10 => ?_)
      obtain ⟨er_10, hc_10, hk_10⟩ := hp_10
      subst er_10
      obtain ⟨nx_11, hN_11⟩ := hc_10.2.2.2.1
      exact hret _ _ _ _ _ _ (Nat.le_of_ble_eq_true rfl) (Nat.le_of_ble_eq_true rfl) (by rw [hbc]; exact ⟨by simp [cdIf, hbc, hq_1, hq_9], rfl, hc_10, fun j hj => hk_10 j (by omega)⟩) dX3_ifAnswered_41
    · skip
      replace c_23_8 := bI1 c_23_8
      refine r_iconst (v := 1) F (by decide) dX3_ifAnswered_26 ?_
      refine r_goto F 31 (by decide) dX3_ifAnswered_27 ?_
      refine r_eq (st2 := [.int (bI (ifOk B b v w))]) (by rw [show (bI (ifOk B b v w)) = 1 from (by simp [ifOk, bI, hq_1, c_14_3, c_23_8])]) rfl ?_
      refine r_xcallv F Gq (g_XS (nA := 1) (As := [.int (bI (ifOk B b v w))]) (rest := []) F (c_X3_needArgument hfl (b := ifOk B b v w)) gX3_ifAnswered_X3_needArgument rfl (by decide +kernel) rfl ⟨Nat.le_of_ble_eq_true rfl, Nat.le_of_ble_eq_true rfl⟩ ⟨Nat.le_of_ble_eq_true rfl, Nat.le_of_ble_eq_true rfl⟩ rfl (Nat.le_of_ble_eq_true rfl) dX3_ifAnswered_31) ⟨Nat.le_of_ble_eq_true rfl, Nat.le_of_ble_eq_true rfl⟩ (fun E u9 h9 => ⟨Or.inr (⟨by simp [cdIf, hq_1, h9.2.2, hbc], h9.1⟩), h9.2.1⟩) (fun u_12 hp_12 => ?_)
      obtain ⟨rfl, hq_12⟩ := hp_12
      refine r_aload_n F 0 rfl dX3_ifAnswered_34 ?_
      refine r_iload_n F 1 rfl dX3_ifAnswered_35 ?_
      refine r_iload_n F 2 rfl dX3_ifAnswered_36 ?_
      refine r_iload_n F 3 rfl dX3_ifAnswered_37 ?_
      refine r_calli (g_V (C := RX3) (T := TX3) (N := 4) (nA := 3) (As := [.int (nI b), .int v, .int w]) (rest := []) F 0 hc.1 (by decide) rfl (c_X3_ofTrial hc hb) gX3_ifAnswered_X3_ofTrial rfl (by decide +kernel) rfl ⟨Nat.le_of_ble_eq_true rfl, Nat.le_of_ble_eq_true rfl⟩ ⟨Nat.le_of_ble_eq_true rfl, Nat.le_of_ble_eq_true rfl⟩ rfl (Nat.le_of_ble_eq_true rfl) dX3_ifAnswered_38) (fun r_13 u_13 hp_13 => ?_)
      obtain ⟨er_13, hc_13, hk_13⟩ := hp_13
      subst er_13
      obtain ⟨nx_14, hN_14⟩ := hc_13.2.2.2.1
      exact hret _ _ _ _ _ _ (Nat.le_of_ble_eq_true rfl) (Nat.le_of_ble_eq_true rfl) (by rw [hbc]; exact ⟨by simp [cdIf, hbc, hq_1, hq_12], rfl, hc_13, fun j hj => hk_13 j (by omega)⟩) dX3_ifAnswered_41

set_option maxHeartbeats 4000000 in
set_option maxRecDepth 100000 in
theorem c_X3_comb {g : kG} {l : Launch} (hfl : l.stackTraces = false) {u : Nat → va_E} {n m t : Nat} {B : kB} {S : Nat → kS} {C : Nat → Int32} {p a : Int32} (hc : CsB g u n B m S t C)  : XCI g l yX3_comb wsX3_comb ({ frames := 8, cells := 3, slots := 18, locals := 134 }) [.ref (g.2.1 0), .int p, .int a] u (fun r u' => cdComb n p a = 0 ∧ r = nI n ∧ CsB g u' (n + 1) (bAdd B n 0 p a (-1)) (pushM m) (pushS m S (n, B)) t C ∧ ∀ j, 61 ≤ j → u' j = u j) (fun E u' => exIAS (cdComb n p a) E ∧ u' = u) := by
  refine XCI.of (cc := cX3_comb) (nL := 3) (ty := .int) hfl (by decide +kernel) rfl (fun _ _ _ => rfl) (Nat.le_of_ble_eq_true rfl) ?_
  intro X hXl F Gq hret
  subst hXl
  obtain ⟨nx, hN⟩ := hc.2.2.2.1
  show VL g X 0 0 u 0 [(0, .ref (g.2.1 0)), (1, .int p), (2, .int a)] []
  refine r_iload_n F 1 rfl dX3_comb_0 ?_
  refine r_iconst (v := 4) F (by decide) dX3_comb_1 ?_
  refine r_xcallv F Gq (g_XS (nA := 2) (As := [.int p, .int 4]) (rest := []) F (c_X3_needPart hfl) gX3_comb_X3_needPart rfl (by decide +kernel) rfl ⟨Nat.le_of_ble_eq_true rfl, Nat.le_of_ble_eq_true rfl⟩ ⟨Nat.le_of_ble_eq_true rfl, Nat.le_of_ble_eq_true rfl⟩ rfl (Nat.le_of_ble_eq_true rfl) dX3_comb_2) ⟨Nat.le_of_ble_eq_true rfl, Nat.le_of_ble_eq_true rfl⟩ (fun E u9 h9 => ⟨Or.inl ⟨by simp [cdComb, h9.2.2], h9.1⟩, h9.2.1⟩) (fun u_1 hp_1 => ?_)
  obtain ⟨rfl, hq_1⟩ := hp_1
  refine r_iload_n F 2 rfl dX3_comb_5 ?_
  refine r_iconst (v := 1) F (by decide) dX3_comb_6 ?_
  refine r_iconst (v := 5) F (by decide) dX3_comb_7 ?_
  refine r_calli (g_S (nA := 3) (As := [.int a, .int 1, .int 5]) (rest := []) F (c_X3_isWithin) gX3_comb_X3_isWithin rfl (by decide +kernel) rfl ⟨Nat.le_of_ble_eq_true rfl, Nat.le_of_ble_eq_true rfl⟩ ⟨Nat.le_of_ble_eq_true rfl, Nat.le_of_ble_eq_true rfl⟩ rfl (Nat.le_of_ble_eq_true rfl) dX3_comb_8) (fun r_2 u_2 hp_2 => ?_)
  obtain ⟨rfl, rfl⟩ := hp_2
  refine r_xcallv F Gq (g_XS (nA := 1) (As := [.int (bI (wi a 1 5))]) (rest := []) F (c_X3_needArgument hfl (b := (wi a 1 5))) gX3_comb_X3_needArgument rfl (by decide +kernel) rfl ⟨Nat.le_of_ble_eq_true rfl, Nat.le_of_ble_eq_true rfl⟩ ⟨Nat.le_of_ble_eq_true rfl, Nat.le_of_ble_eq_true rfl⟩ rfl (Nat.le_of_ble_eq_true rfl) dX3_comb_11) ⟨Nat.le_of_ble_eq_true rfl, Nat.le_of_ble_eq_true rfl⟩ (fun E u9 h9 => ⟨Or.inr (Or.inl ⟨by simp [cdComb, hq_1, h9.2.2], h9.1⟩), h9.2.1⟩) (fun u_3 hp_3 => ?_)
  obtain ⟨rfl, hq_3⟩ := hp_3
  refine r_aload_n F 0 rfl dX3_comb_14 ?_
  refine r_iconst (v := 0) F (by decide) dX3_comb_15 ?_
  refine r_iload_n F 1 rfl dX3_comb_16 ?_
  refine r_iload_n F 2 rfl dX3_comb_17 ?_
  refine r_iconst (v := -1) F (by decide) dX3_comb_18 ?_
  refine r_xcalli F Gq (g_XV (C := RX3) (T := TX3) (N := 4) (nA := 4) (As := [.int 0, .int p, .int a, .int (-1)]) (rest := []) F 0 hc.1 (by decide) rfl (c_X3_addNew hfl hc) gX3_comb_X3_addNew rfl (by decide +kernel) rfl ⟨Nat.le_of_ble_eq_true rfl, Nat.le_of_ble_eq_true rfl⟩ ⟨Nat.le_of_ble_eq_true rfl, Nat.le_of_ble_eq_true rfl⟩ rfl (Nat.le_of_ble_eq_true rfl) dX3_comb_19) ⟨Nat.le_of_ble_eq_true rfl, Nat.le_of_ble_eq_true rfl⟩ (fun E u9 h9 => ⟨Or.inr (Or.inr (⟨by simp [cdComb, hq_1, hq_3, h9.2.2], h9.1⟩)), h9.2.1⟩) (fun r_4 u_4 hp_4 => ?_)
  obtain ⟨er_4, hc_4, hk_4, hn16⟩ := hp_4
  subst er_4
  obtain ⟨nx_5, hN_5⟩ := hc_4.2.2.2.1
  exact hret _ _ _ _ _ _ (Nat.le_of_ble_eq_true rfl) (Nat.le_of_ble_eq_true rfl) ⟨by simp [cdComb, hq_1, hq_3, hn16], rfl, hc_4, fun j hj => hk_4 j (by omega)⟩ dX3_comb_22
set_option maxHeartbeats 4000000 in
set_option maxRecDepth 100000 in
theorem c_X3_tick {g : kG} {l : Launch} (hfl : l.stackTraces = false) {u : Nat → va_E} {n m t : Nat} {B : kB} {S : Nat → kS} {C : Nat → Int32} {p o : Int32} (hc : CsB g u n B m S t C)  : XCI g l yX3_tick wsX3_tick ({ frames := 8, cells := 3, slots := 18, locals := 134 }) [.ref (g.2.1 0), .int p, .int o] u (fun r u' => cdTick n p o = 0 ∧ r = nI n ∧ CsB g u' (n + 1) (bAdd B n 1 p o (-1)) (pushM m) (pushS m S (n, B)) t C ∧ ∀ j, 61 ≤ j → u' j = u j) (fun E u' => exIAS (cdTick n p o) E ∧ u' = u) := by
  refine XCI.of (cc := cX3_tick) (nL := 3) (ty := .int) hfl (by decide +kernel) rfl (fun _ _ _ => rfl) (Nat.le_of_ble_eq_true rfl) ?_
  intro X hXl F Gq hret
  subst hXl
  obtain ⟨nx, hN⟩ := hc.2.2.2.1
  show VL g X 0 0 u 0 [(0, .ref (g.2.1 0)), (1, .int p), (2, .int o)] []
  refine r_iload_n F 1 rfl dX3_tick_0 ?_
  refine r_iconst (v := 4) F (by decide) dX3_tick_1 ?_
  refine r_xcallv F Gq (g_XS (nA := 2) (As := [.int p, .int 4]) (rest := []) F (c_X3_needPart hfl) gX3_tick_X3_needPart rfl (by decide +kernel) rfl ⟨Nat.le_of_ble_eq_true rfl, Nat.le_of_ble_eq_true rfl⟩ ⟨Nat.le_of_ble_eq_true rfl, Nat.le_of_ble_eq_true rfl⟩ rfl (Nat.le_of_ble_eq_true rfl) dX3_tick_2) ⟨Nat.le_of_ble_eq_true rfl, Nat.le_of_ble_eq_true rfl⟩ (fun E u9 h9 => ⟨Or.inl ⟨by simp [cdTick, h9.2.2], h9.1⟩, h9.2.1⟩) (fun u_1 hp_1 => ?_)
  obtain ⟨rfl, hq_1⟩ := hp_1
  refine r_iload_n F 2 rfl dX3_tick_5 ?_
  refine r_iconst (v := -1) F (by decide) dX3_tick_6 ?_
  refine r_icmp_eq F 21 (by decide) dX3_tick_7 (fun c_7_2 => ?_) (fun c_7_2 => ?_)
  · skip
    refine r_iconst (v := 1) F (by decide) dX3_tick_21 ?_
    refine r_goto F 26 (by decide) dX3_tick_22 ?_
    refine r_eq (st2 := [.int (bI (opnOk p o))]) (by rw [show (bI (opnOk p o)) = 1 from (by simp [opnOk, bI, hq_1, c_7_2])]) rfl ?_
    refine r_xcallv F Gq (g_XS (nA := 1) (As := [.int (bI (opnOk p o))]) (rest := []) F (c_X3_needArgument hfl (b := opnOk p o)) gX3_tick_X3_needArgument rfl (by decide +kernel) rfl ⟨Nat.le_of_ble_eq_true rfl, Nat.le_of_ble_eq_true rfl⟩ ⟨Nat.le_of_ble_eq_true rfl, Nat.le_of_ble_eq_true rfl⟩ rfl (Nat.le_of_ble_eq_true rfl) dX3_tick_26) ⟨Nat.le_of_ble_eq_true rfl, Nat.le_of_ble_eq_true rfl⟩ (fun E u9 h9 => ⟨Or.inr (Or.inl ⟨by simp [cdTick, hq_1, h9.2.2], h9.1⟩), h9.2.1⟩) (fun u_3 hp_3 => ?_)
    obtain ⟨rfl, hq_3⟩ := hp_3
    refine r_aload_n F 0 rfl dX3_tick_29 ?_
    refine r_iconst (v := 1) F (by decide) dX3_tick_30 ?_
    refine r_iload_n F 1 rfl dX3_tick_31 ?_
    refine r_iload_n F 2 rfl dX3_tick_32 ?_
    refine r_iconst (v := -1) F (by decide) dX3_tick_33 ?_
    refine r_xcalli F Gq (g_XV (C := RX3) (T := TX3) (N := 4) (nA := 4) (As := [.int 1, .int p, .int o, .int (-1)]) (rest := []) F 0 hc.1 (by decide) rfl (c_X3_addNew hfl hc) gX3_tick_X3_addNew rfl (by decide +kernel) rfl ⟨Nat.le_of_ble_eq_true rfl, Nat.le_of_ble_eq_true rfl⟩ ⟨Nat.le_of_ble_eq_true rfl, Nat.le_of_ble_eq_true rfl⟩ rfl (Nat.le_of_ble_eq_true rfl) dX3_tick_34) ⟨Nat.le_of_ble_eq_true rfl, Nat.le_of_ble_eq_true rfl⟩ (fun E u9 h9 => ⟨Or.inr (Or.inr (⟨by simp [cdTick, hq_1, hq_3, h9.2.2], h9.1⟩)), h9.2.1⟩) (fun r_4 u_4 hp_4 => ?_)
    obtain ⟨er_4, hc_4, hk_4, hn16⟩ := hp_4
    subst er_4
    obtain ⟨nx_5, hN_5⟩ := hc_4.2.2.2.1
    exact hret _ _ _ _ _ _ (Nat.le_of_ble_eq_true rfl) (Nat.le_of_ble_eq_true rfl) ⟨by simp [cdTick, hq_1, hq_3, hn16], rfl, hc_4, fun j hj => hk_4 j (by omega)⟩ dX3_tick_37
  · skip
    refine r_iload_n F 2 rfl dX3_tick_10 ?_
    refine r_iload_n F 1 rfl dX3_tick_11 ?_
    refine r_iconst (v := 1) F (by decide) dX3_tick_12 ?_
    refine r_iadd F dX3_tick_13 ?_
    refine r_iconst (v := 4) F (by decide) dX3_tick_14 ?_
    refine r_calli (g_S (nA := 3) (As := [.int o, .int (p + 1), .int 4]) (rest := []) F (c_X3_isWithin) gX3_tick_X3_isWithin rfl (by decide +kernel) rfl ⟨Nat.le_of_ble_eq_true rfl, Nat.le_of_ble_eq_true rfl⟩ ⟨Nat.le_of_ble_eq_true rfl, Nat.le_of_ble_eq_true rfl⟩ rfl (Nat.le_of_ble_eq_true rfl) dX3_tick_15) (fun r_6 u_6 hp_6 => ?_)
    obtain ⟨rfl, rfl⟩ := hp_6
    refine r_if_eq F 25 (by decide) dX3_tick_18 (fun c_18_7 => ?_) (fun c_18_7 => ?_)
    · skip
      replace c_18_7 := bI0 c_18_7
      refine r_iconst (v := 0) F (by decide) dX3_tick_25 ?_
      refine r_eq (st2 := [.int (bI (opnOk p o))]) (by rw [show (bI (opnOk p o)) = 0 from (by simp [opnOk, bI, hq_1, c_7_2, c_18_7])]) rfl ?_
      refine r_xcallv F Gq (g_XS (nA := 1) (As := [.int (bI (opnOk p o))]) (rest := []) F (c_X3_needArgument hfl (b := opnOk p o)) gX3_tick_X3_needArgument rfl (by decide +kernel) rfl ⟨Nat.le_of_ble_eq_true rfl, Nat.le_of_ble_eq_true rfl⟩ ⟨Nat.le_of_ble_eq_true rfl, Nat.le_of_ble_eq_true rfl⟩ rfl (Nat.le_of_ble_eq_true rfl) dX3_tick_26) ⟨Nat.le_of_ble_eq_true rfl, Nat.le_of_ble_eq_true rfl⟩ (fun E u9 h9 => ⟨Or.inr (Or.inl ⟨by simp [cdTick, hq_1, h9.2.2], h9.1⟩), h9.2.1⟩) (fun u_8 hp_8 => ?_)
      obtain ⟨rfl, hq_8⟩ := hp_8
      refine r_aload_n F 0 rfl dX3_tick_29 ?_
      refine r_iconst (v := 1) F (by decide) dX3_tick_30 ?_
      refine r_iload_n F 1 rfl dX3_tick_31 ?_
      refine r_iload_n F 2 rfl dX3_tick_32 ?_
      refine r_iconst (v := -1) F (by decide) dX3_tick_33 ?_
      refine r_xcalli F Gq (g_XV (C := RX3) (T := TX3) (N := 4) (nA := 4) (As := [.int 1, .int p, .int o, .int (-1)]) (rest := []) F 0 hc.1 (by decide) rfl (c_X3_addNew hfl hc) gX3_tick_X3_addNew rfl (by decide +kernel) rfl ⟨Nat.le_of_ble_eq_true rfl, Nat.le_of_ble_eq_true rfl⟩ ⟨Nat.le_of_ble_eq_true rfl, Nat.le_of_ble_eq_true rfl⟩ rfl (Nat.le_of_ble_eq_true rfl) dX3_tick_34) ⟨Nat.le_of_ble_eq_true rfl, Nat.le_of_ble_eq_true rfl⟩ (fun E u9 h9 => ⟨Or.inr (Or.inr (⟨by simp [cdTick, hq_1, hq_8, h9.2.2], h9.1⟩)), h9.2.1⟩) (fun r_9 u_9 hp_9 => ?_)
      obtain ⟨er_9, hc_9, hk_9, hn16⟩ := hp_9
      subst er_9
      obtain ⟨nx_10, hN_10⟩ := hc_9.2.2.2.1
      exact hret _ _ _ _ _ _ (Nat.le_of_ble_eq_true rfl) (Nat.le_of_ble_eq_true rfl) ⟨by simp [cdTick, hq_1, hq_8, hn16], rfl, hc_9, fun j hj => hk_9 j (by omega)⟩ dX3_tick_37
    · skip
      replace c_18_7 := bI1 c_18_7
      refine r_iconst (v := 1) F (by decide) dX3_tick_21 ?_
      refine r_goto F 26 (by decide) dX3_tick_22 ?_
      refine r_eq (st2 := [.int (bI (opnOk p o))]) (by rw [show (bI (opnOk p o)) = 1 from (by simp [opnOk, bI, hq_1, c_7_2, c_18_7])]) rfl ?_
      refine r_xcallv F Gq (g_XS (nA := 1) (As := [.int (bI (opnOk p o))]) (rest := []) F (c_X3_needArgument hfl (b := opnOk p o)) gX3_tick_X3_needArgument rfl (by decide +kernel) rfl ⟨Nat.le_of_ble_eq_true rfl, Nat.le_of_ble_eq_true rfl⟩ ⟨Nat.le_of_ble_eq_true rfl, Nat.le_of_ble_eq_true rfl⟩ rfl (Nat.le_of_ble_eq_true rfl) dX3_tick_26) ⟨Nat.le_of_ble_eq_true rfl, Nat.le_of_ble_eq_true rfl⟩ (fun E u9 h9 => ⟨Or.inr (Or.inl ⟨by simp [cdTick, hq_1, h9.2.2], h9.1⟩), h9.2.1⟩) (fun u_11 hp_11 => ?_)
      obtain ⟨rfl, hq_11⟩ := hp_11
      refine r_aload_n F 0 rfl dX3_tick_29 ?_
      refine r_iconst (v := 1) F (by decide) dX3_tick_30 ?_
      refine r_iload_n F 1 rfl dX3_tick_31 ?_
      refine r_iload_n F 2 rfl dX3_tick_32 ?_
      refine r_iconst (v := -1) F (by decide) dX3_tick_33 ?_
      refine r_xcalli F Gq (g_XV (C := RX3) (T := TX3) (N := 4) (nA := 4) (As := [.int 1, .int p, .int o, .int (-1)]) (rest := []) F 0 hc.1 (by decide) rfl (c_X3_addNew hfl hc) gX3_tick_X3_addNew rfl (by decide +kernel) rfl ⟨Nat.le_of_ble_eq_true rfl, Nat.le_of_ble_eq_true rfl⟩ ⟨Nat.le_of_ble_eq_true rfl, Nat.le_of_ble_eq_true rfl⟩ rfl (Nat.le_of_ble_eq_true rfl) dX3_tick_34) ⟨Nat.le_of_ble_eq_true rfl, Nat.le_of_ble_eq_true rfl⟩ (fun E u9 h9 => ⟨Or.inr (Or.inr (⟨by simp [cdTick, hq_1, hq_11, h9.2.2], h9.1⟩)), h9.2.1⟩) (fun r_12 u_12 hp_12 => ?_)
      obtain ⟨er_12, hc_12, hk_12, hn16⟩ := hp_12
      subst er_12
      obtain ⟨nx_13, hN_13⟩ := hc_12.2.2.2.1
      exact hret _ _ _ _ _ _ (Nat.le_of_ble_eq_true rfl) (Nat.le_of_ble_eq_true rfl) ⟨by simp [cdTick, hq_1, hq_11, hn16], rfl, hc_12, fun j hj => hk_12 j (by omega)⟩ dX3_tick_37
set_option maxHeartbeats 4000000 in
set_option maxRecDepth 100000 in
theorem c_X3_skip {g : kG} {l : Launch} (hfl : l.stackTraces = false) {u : Nat → va_E} {n m t : Nat} {B : kB} {S : Nat → kS} {C : Nat → Int32} {p o q : Int32} (hc : CsB g u n B m S t C)  : XCI g l yX3_skip wsX3_skip ({ frames := 8, cells := 3, slots := 18, locals := 134 }) [.ref (g.2.1 0), .int p, .int o, .int q] u (fun r u' => cdSkip n p o q = 0 ∧ r = nI n ∧ CsB g u' (n + 1) (bAdd B n 2 p o q) (pushM m) (pushS m S (n, B)) t C ∧ ∀ j, 61 ≤ j → u' j = u j) (fun E u' => exIAS (cdSkip n p o q) E ∧ u' = u) := by
  refine XCI.of (cc := cX3_skip) (nL := 4) (ty := .int) hfl (by decide +kernel) rfl (fun _ _ _ => rfl) (Nat.le_of_ble_eq_true rfl) ?_
  intro X hXl F Gq hret
  subst hXl
  obtain ⟨nx, hN⟩ := hc.2.2.2.1
  show VL g X 0 0 u 0 [(0, .ref (g.2.1 0)), (1, .int p), (2, .int o), (3, .int q)] []
  refine r_iload_n F 1 rfl dX3_skip_0 ?_
  refine r_iconst (v := 3) F (by decide) dX3_skip_1 ?_
  refine r_xcallv F Gq (g_XS (nA := 2) (As := [.int p, .int 3]) (rest := []) F (c_X3_needPart hfl) gX3_skip_X3_needPart rfl (by decide +kernel) rfl ⟨Nat.le_of_ble_eq_true rfl, Nat.le_of_ble_eq_true rfl⟩ ⟨Nat.le_of_ble_eq_true rfl, Nat.le_of_ble_eq_true rfl⟩ rfl (Nat.le_of_ble_eq_true rfl) dX3_skip_2) ⟨Nat.le_of_ble_eq_true rfl, Nat.le_of_ble_eq_true rfl⟩ (fun E u9 h9 => ⟨Or.inl ⟨by simp [cdSkip, h9.2.2], h9.1⟩, h9.2.1⟩) (fun u_1 hp_1 => ?_)
  obtain ⟨rfl, hq_1⟩ := hp_1
  refine r_iload_n F 2 rfl dX3_skip_5 ?_
  refine r_iload_n F 1 rfl dX3_skip_6 ?_
  refine r_iconst (v := 1) F (by decide) dX3_skip_7 ?_
  refine r_iadd F dX3_skip_8 ?_
  refine r_iconst (v := 4) F (by decide) dX3_skip_9 ?_
  refine r_calli (g_S (nA := 3) (As := [.int o, .int (p + 1), .int 4]) (rest := []) F (c_X3_isWithin) gX3_skip_X3_isWithin rfl (by decide +kernel) rfl ⟨Nat.le_of_ble_eq_true rfl, Nat.le_of_ble_eq_true rfl⟩ ⟨Nat.le_of_ble_eq_true rfl, Nat.le_of_ble_eq_true rfl⟩ rfl (Nat.le_of_ble_eq_true rfl) dX3_skip_10) (fun r_2 u_2 hp_2 => ?_)
  obtain ⟨rfl, rfl⟩ := hp_2
  refine r_if_eq F 30 (by decide) dX3_skip_13 (fun c_13_3 => ?_) (fun c_13_3 => ?_)
  · skip
    replace c_13_3 := bI0 c_13_3
    refine r_iconst (v := 0) F (by decide) dX3_skip_30 ?_
    refine r_eq (st2 := [.int (bI (skpOk p o q))]) (by rw [show (bI (skpOk p o q)) = 0 from (by simp [skpOk, bI, hq_1, c_13_3])]) rfl ?_
    refine r_xcallv F Gq (g_XS (nA := 1) (As := [.int (bI (skpOk p o q))]) (rest := []) F (c_X3_needArgument hfl (b := skpOk p o q)) gX3_skip_X3_needArgument rfl (by decide +kernel) rfl ⟨Nat.le_of_ble_eq_true rfl, Nat.le_of_ble_eq_true rfl⟩ ⟨Nat.le_of_ble_eq_true rfl, Nat.le_of_ble_eq_true rfl⟩ rfl (Nat.le_of_ble_eq_true rfl) dX3_skip_31) ⟨Nat.le_of_ble_eq_true rfl, Nat.le_of_ble_eq_true rfl⟩ (fun E u9 h9 => ⟨Or.inr (Or.inl ⟨by simp [cdSkip, hq_1, h9.2.2], h9.1⟩), h9.2.1⟩) (fun u_4 hp_4 => ?_)
    obtain ⟨rfl, hq_4⟩ := hp_4
    refine r_aload_n F 0 rfl dX3_skip_34 ?_
    refine r_iconst (v := 2) F (by decide) dX3_skip_35 ?_
    refine r_iload_n F 1 rfl dX3_skip_36 ?_
    refine r_iload_n F 2 rfl dX3_skip_37 ?_
    refine r_iload_n F 3 rfl dX3_skip_38 ?_
    refine r_xcalli F Gq (g_XV (C := RX3) (T := TX3) (N := 4) (nA := 4) (As := [.int 2, .int p, .int o, .int q]) (rest := []) F 0 hc.1 (by decide) rfl (c_X3_addNew hfl hc) gX3_skip_X3_addNew rfl (by decide +kernel) rfl ⟨Nat.le_of_ble_eq_true rfl, Nat.le_of_ble_eq_true rfl⟩ ⟨Nat.le_of_ble_eq_true rfl, Nat.le_of_ble_eq_true rfl⟩ rfl (Nat.le_of_ble_eq_true rfl) dX3_skip_39) ⟨Nat.le_of_ble_eq_true rfl, Nat.le_of_ble_eq_true rfl⟩ (fun E u9 h9 => ⟨Or.inr (Or.inr (⟨by simp [cdSkip, hq_1, hq_4, h9.2.2], h9.1⟩)), h9.2.1⟩) (fun r_5 u_5 hp_5 => ?_)
    obtain ⟨er_5, hc_5, hk_5, hn16⟩ := hp_5
    subst er_5
    obtain ⟨nx_6, hN_6⟩ := hc_5.2.2.2.1
    exact hret _ _ _ _ _ _ (Nat.le_of_ble_eq_true rfl) (Nat.le_of_ble_eq_true rfl) ⟨by simp [cdSkip, hq_1, hq_4, hn16], rfl, hc_5, fun j hj => hk_5 j (by omega)⟩ dX3_skip_42
  · skip
    replace c_13_3 := bI1 c_13_3
    refine r_iload_n F 3 rfl dX3_skip_16 ?_
    refine r_iconst (v := 0) F (by decide) dX3_skip_17 ?_
    refine r_bipush (v := 99) F (by decide) dX3_skip_18 ?_
    refine r_calli (g_S (nA := 3) (As := [.int q, .int 0, .int 99]) (rest := []) F (c_X3_isWithin) gX3_skip_X3_isWithin rfl (by decide +kernel) rfl ⟨Nat.le_of_ble_eq_true rfl, Nat.le_of_ble_eq_true rfl⟩ ⟨Nat.le_of_ble_eq_true rfl, Nat.le_of_ble_eq_true rfl⟩ rfl (Nat.le_of_ble_eq_true rfl) dX3_skip_20) (fun r_7 u_7 hp_7 => ?_)
    obtain ⟨rfl, rfl⟩ := hp_7
    refine r_if_eq F 30 (by decide) dX3_skip_23 (fun c_23_8 => ?_) (fun c_23_8 => ?_)
    · skip
      replace c_23_8 := bI0 c_23_8
      refine r_iconst (v := 0) F (by decide) dX3_skip_30 ?_
      refine r_eq (st2 := [.int (bI (skpOk p o q))]) (by rw [show (bI (skpOk p o q)) = 0 from (by simp [skpOk, bI, hq_1, c_13_3, c_23_8])]) rfl ?_
      refine r_xcallv F Gq (g_XS (nA := 1) (As := [.int (bI (skpOk p o q))]) (rest := []) F (c_X3_needArgument hfl (b := skpOk p o q)) gX3_skip_X3_needArgument rfl (by decide +kernel) rfl ⟨Nat.le_of_ble_eq_true rfl, Nat.le_of_ble_eq_true rfl⟩ ⟨Nat.le_of_ble_eq_true rfl, Nat.le_of_ble_eq_true rfl⟩ rfl (Nat.le_of_ble_eq_true rfl) dX3_skip_31) ⟨Nat.le_of_ble_eq_true rfl, Nat.le_of_ble_eq_true rfl⟩ (fun E u9 h9 => ⟨Or.inr (Or.inl ⟨by simp [cdSkip, hq_1, h9.2.2], h9.1⟩), h9.2.1⟩) (fun u_9 hp_9 => ?_)
      obtain ⟨rfl, hq_9⟩ := hp_9
      refine r_aload_n F 0 rfl dX3_skip_34 ?_
      refine r_iconst (v := 2) F (by decide) dX3_skip_35 ?_
      refine r_iload_n F 1 rfl dX3_skip_36 ?_
      refine r_iload_n F 2 rfl dX3_skip_37 ?_
      refine r_iload_n F 3 rfl dX3_skip_38 ?_
      refine r_xcalli F Gq (g_XV (C := RX3) (T := TX3) (N := 4) (nA := 4) (As := [.int 2, .int p, .int o, .int q]) (rest := []) F 0 hc.1 (by decide) rfl (c_X3_addNew hfl hc) gX3_skip_X3_addNew rfl (by decide +kernel) rfl ⟨Nat.le_of_ble_eq_true rfl, Nat.le_of_ble_eq_true rfl⟩ ⟨Nat.le_of_ble_eq_true rfl, Nat.le_of_ble_eq_true rfl⟩ rfl (Nat.le_of_ble_eq_true rfl) dX3_skip_39) ⟨Nat.le_of_ble_eq_true rfl, Nat.le_of_ble_eq_true rfl⟩ (fun E u9 h9 => ⟨Or.inr (Or.inr (⟨by simp [cdSkip, hq_1, hq_9, h9.2.2], h9.1⟩)), h9.2.1⟩) (fun r_10 u_10 hp_10 => ?_)
      obtain ⟨er_10, hc_10, hk_10, hn16⟩ := hp_10
      subst er_10
      obtain ⟨nx_11, hN_11⟩ := hc_10.2.2.2.1
      exact hret _ _ _ _ _ _ (Nat.le_of_ble_eq_true rfl) (Nat.le_of_ble_eq_true rfl) ⟨by simp [cdSkip, hq_1, hq_9, hn16], rfl, hc_10, fun j hj => hk_10 j (by omega)⟩ dX3_skip_42
    · skip
      replace c_23_8 := bI1 c_23_8
      refine r_iconst (v := 1) F (by decide) dX3_skip_26 ?_
      refine r_goto F 31 (by decide) dX3_skip_27 ?_
      refine r_eq (st2 := [.int (bI (skpOk p o q))]) (by rw [show (bI (skpOk p o q)) = 1 from (by simp [skpOk, bI, hq_1, c_13_3, c_23_8])]) rfl ?_
      refine r_xcallv F Gq (g_XS (nA := 1) (As := [.int (bI (skpOk p o q))]) (rest := []) F (c_X3_needArgument hfl (b := skpOk p o q)) gX3_skip_X3_needArgument rfl (by decide +kernel) rfl ⟨Nat.le_of_ble_eq_true rfl, Nat.le_of_ble_eq_true rfl⟩ ⟨Nat.le_of_ble_eq_true rfl, Nat.le_of_ble_eq_true rfl⟩ rfl (Nat.le_of_ble_eq_true rfl) dX3_skip_31) ⟨Nat.le_of_ble_eq_true rfl, Nat.le_of_ble_eq_true rfl⟩ (fun E u9 h9 => ⟨Or.inr (Or.inl ⟨by simp [cdSkip, hq_1, h9.2.2], h9.1⟩), h9.2.1⟩) (fun u_12 hp_12 => ?_)
      obtain ⟨rfl, hq_12⟩ := hp_12
      refine r_aload_n F 0 rfl dX3_skip_34 ?_
      refine r_iconst (v := 2) F (by decide) dX3_skip_35 ?_
      refine r_iload_n F 1 rfl dX3_skip_36 ?_
      refine r_iload_n F 2 rfl dX3_skip_37 ?_
      refine r_iload_n F 3 rfl dX3_skip_38 ?_
      refine r_xcalli F Gq (g_XV (C := RX3) (T := TX3) (N := 4) (nA := 4) (As := [.int 2, .int p, .int o, .int q]) (rest := []) F 0 hc.1 (by decide) rfl (c_X3_addNew hfl hc) gX3_skip_X3_addNew rfl (by decide +kernel) rfl ⟨Nat.le_of_ble_eq_true rfl, Nat.le_of_ble_eq_true rfl⟩ ⟨Nat.le_of_ble_eq_true rfl, Nat.le_of_ble_eq_true rfl⟩ rfl (Nat.le_of_ble_eq_true rfl) dX3_skip_39) ⟨Nat.le_of_ble_eq_true rfl, Nat.le_of_ble_eq_true rfl⟩ (fun E u9 h9 => ⟨Or.inr (Or.inr (⟨by simp [cdSkip, hq_1, hq_12, h9.2.2], h9.1⟩)), h9.2.1⟩) (fun r_13 u_13 hp_13 => ?_)
      obtain ⟨er_13, hc_13, hk_13, hn16⟩ := hp_13
      subst er_13
      obtain ⟨nx_14, hN_14⟩ := hc_13.2.2.2.1
      exact hret _ _ _ _ _ _ (Nat.le_of_ble_eq_true rfl) (Nat.le_of_ble_eq_true rfl) ⟨by simp [cdSkip, hq_1, hq_12, hn16], rfl, hc_13, fun j hj => hk_13 j (by omega)⟩ dX3_skip_42
set_option maxHeartbeats 4000000 in
set_option maxRecDepth 100000 in
theorem c_X3_total {g : kG} {l : Launch} (hfl : l.stackTraces = false) {u : Nat → va_E} {n m t : Nat} {B : kB} {S : Nat → kS} {C : Nat → Int32} {p x : Int32} (hc : CsB g u n B m S t C)  : XCI g l yX3_total wsX3_total ({ frames := 8, cells := 3, slots := 18, locals := 134 }) [.ref (g.2.1 0), .int p, .int x] u (fun r u' => cdTotal B n p x = 0 ∧ r = nI n ∧ CsB g u' (n + 1) (bAdd B n 3 p x (-1)) (pushM m) (pushS m S (n, B)) t C ∧ ∀ j, 61 ≤ j → u' j = u j) (fun E u' => exIAS (cdTotal B n p x) E ∧ u' = u) := by
  refine XCI.of (cc := cX3_total) (nL := 3) (ty := .int) hfl (by decide +kernel) rfl (fun _ _ _ => rfl) (Nat.le_of_ble_eq_true rfl) ?_
  intro X hXl F Gq hret
  subst hXl
  have hinX3 : ∀ w ∈ wsX30, w ∈ wsX3_total := by decide +kernel
  obtain ⟨nx, hN⟩ := hc.2.2.2.1
  show VL g X 0 0 u 0 [(0, .ref (g.2.1 0)), (1, .int p), (2, .int x)] []
  refine r_iload_n F 1 rfl dX3_total_0 ?_
  refine r_iconst (v := 4) F (by decide) dX3_total_1 ?_
  refine r_xcallv F Gq (g_XS (nA := 2) (As := [.int p, .int 4]) (rest := []) F (c_X3_needPart hfl) gX3_total_X3_needPart rfl (by decide +kernel) rfl ⟨Nat.le_of_ble_eq_true rfl, Nat.le_of_ble_eq_true rfl⟩ ⟨Nat.le_of_ble_eq_true rfl, Nat.le_of_ble_eq_true rfl⟩ rfl (Nat.le_of_ble_eq_true rfl) dX3_total_2) ⟨Nat.le_of_ble_eq_true rfl, Nat.le_of_ble_eq_true rfl⟩ (fun E u9 h9 => ⟨Or.inl ⟨by simp [cdTotal, h9.2.2], h9.1⟩, h9.2.1⟩) (fun u_1 hp_1 => ?_)
  obtain ⟨rfl, hq_1⟩ := hp_1
  refine r_iload_n F 2 rfl dX3_total_5 ?_
  refine r_iconst (v := 0) F (by decide) dX3_total_6 ?_
  refine r_ldc (v := 65535) F (by decide +kernel) dX3_total_7 ?_
  refine r_calli (g_S (nA := 3) (As := [.int x, .int 0, .int 65535]) (rest := []) F (c_X3_isWithin) gX3_total_X3_isWithin rfl (by decide +kernel) rfl ⟨Nat.le_of_ble_eq_true rfl, Nat.le_of_ble_eq_true rfl⟩ ⟨Nat.le_of_ble_eq_true rfl, Nat.le_of_ble_eq_true rfl⟩ rfl (Nat.le_of_ble_eq_true rfl) dX3_total_9) (fun r_2 u_2 hp_2 => ?_)
  obtain ⟨rfl, rfl⟩ := hp_2
  refine r_if_eq F 30 (by decide) dX3_total_12 (fun c_12_3 => ?_) (fun c_12_3 => ?_)
  · skip
    replace c_12_3 := bI0 c_12_3
    refine r_iconst (v := 0) F (by decide) dX3_total_30 ?_
    refine r_eq (st2 := [.int (bI (totOk B n x))]) (by rw [show (bI (totOk B n x)) = 0 from (by simp [totOk, bI, hq_1, c_12_3])]) rfl ?_
    refine r_xcallv F Gq (g_XS (nA := 1) (As := [.int (bI (totOk B n x))]) (rest := []) F (c_X3_needArgument hfl (b := totOk B n x)) gX3_total_X3_needArgument rfl (by decide +kernel) rfl ⟨Nat.le_of_ble_eq_true rfl, Nat.le_of_ble_eq_true rfl⟩ ⟨Nat.le_of_ble_eq_true rfl, Nat.le_of_ble_eq_true rfl⟩ rfl (Nat.le_of_ble_eq_true rfl) dX3_total_31) ⟨Nat.le_of_ble_eq_true rfl, Nat.le_of_ble_eq_true rfl⟩ (fun E u9 h9 => ⟨Or.inr (Or.inl ⟨by simp [cdTotal, hq_1, h9.2.2], h9.1⟩), h9.2.1⟩) (fun u_4 hp_4 => ?_)
    obtain ⟨rfl, hq_4⟩ := hp_4
    refine r_aload_n F 0 rfl dX3_total_34 ?_
    refine r_iconst (v := 3) F (by decide) dX3_total_35 ?_
    refine r_iload_n F 1 rfl dX3_total_36 ?_
    refine r_iload_n F 2 rfl dX3_total_37 ?_
    refine r_iconst (v := -1) F (by decide) dX3_total_38 ?_
    refine r_xcalli F Gq (g_XV (C := RX3) (T := TX3) (N := 4) (nA := 4) (As := [.int 3, .int p, .int x, .int (-1)]) (rest := []) F 0 hc.1 (by decide) rfl (c_X3_addNew hfl hc) gX3_total_X3_addNew rfl (by decide +kernel) rfl ⟨Nat.le_of_ble_eq_true rfl, Nat.le_of_ble_eq_true rfl⟩ ⟨Nat.le_of_ble_eq_true rfl, Nat.le_of_ble_eq_true rfl⟩ rfl (Nat.le_of_ble_eq_true rfl) dX3_total_39) ⟨Nat.le_of_ble_eq_true rfl, Nat.le_of_ble_eq_true rfl⟩ (fun E u9 h9 => ⟨Or.inr (Or.inr (⟨by simp [cdTotal, hq_1, hq_4, h9.2.2], h9.1⟩)), h9.2.1⟩) (fun r_5 u_5 hp_5 => ?_)
    obtain ⟨er_5, hc_5, hk_5, hn16⟩ := hp_5
    subst er_5
    obtain ⟨nx_6, hN_6⟩ := hc_5.2.2.2.1
    exact hret _ _ _ _ _ _ (Nat.le_of_ble_eq_true rfl) (Nat.le_of_ble_eq_true rfl) ⟨by simp [cdTotal, hq_1, hq_4, hn16], rfl, hc_5, fun j hj => hk_5 j (by omega)⟩ dX3_total_42
  · skip
    replace c_12_3 := bI1 c_12_3
    refine r_aload_n F 0 rfl dX3_total_15 ?_
    refine r_get (C := RX3) (T := TX3) (N := 4) F 0 hc.1 (by decide) hinX3 rfl 0 (by decide) (by decide +kernel) rfl dX3_total_16 ?_
    refine r_iload_n F 2 rfl dX3_total_19 ?_
    refine r_calli (g_VN (C := RX0) (T := TX0) (N := 7) (nA := 1) (As := [.int x]) (rest := []) F 1 hc.2.1.obj (by decide) rfl (c_X0_canCarry hc.2.1 (by decide) ) gX3_total_X0_canCarry_n50 rfl 41 rfl (by decide +kernel) (by decide +kernel) (by decide +kernel) (by decide +kernel) rfl ⟨Nat.le_of_ble_eq_true rfl, Nat.le_of_ble_eq_true rfl⟩ ⟨Nat.le_of_ble_eq_true rfl, Nat.le_of_ble_eq_true rfl⟩ rfl (Nat.le_of_ble_eq_true rfl) dX3_total_20) (fun r_7 u_7 hp_7 => ?_)
    obtain ⟨rfl, rfl⟩ := hp_7
    refine r_if_eq F 30 (by decide) dX3_total_23 (fun c_23_8 => ?_) (fun c_23_8 => ?_)
    · skip
      replace c_23_8 := bI0 c_23_8
      refine r_iconst (v := 0) F (by decide) dX3_total_30 ?_
      refine r_eq (st2 := [.int (bI (totOk B n x))]) (by rw [show (bI (totOk B n x)) = 0 from (by simp [totOk, bI, hq_1, c_12_3, c_23_8])]) rfl ?_
      refine r_xcallv F Gq (g_XS (nA := 1) (As := [.int (bI (totOk B n x))]) (rest := []) F (c_X3_needArgument hfl (b := totOk B n x)) gX3_total_X3_needArgument rfl (by decide +kernel) rfl ⟨Nat.le_of_ble_eq_true rfl, Nat.le_of_ble_eq_true rfl⟩ ⟨Nat.le_of_ble_eq_true rfl, Nat.le_of_ble_eq_true rfl⟩ rfl (Nat.le_of_ble_eq_true rfl) dX3_total_31) ⟨Nat.le_of_ble_eq_true rfl, Nat.le_of_ble_eq_true rfl⟩ (fun E u9 h9 => ⟨Or.inr (Or.inl ⟨by simp [cdTotal, hq_1, h9.2.2], h9.1⟩), h9.2.1⟩) (fun u_9 hp_9 => ?_)
      obtain ⟨rfl, hq_9⟩ := hp_9
      refine r_aload_n F 0 rfl dX3_total_34 ?_
      refine r_iconst (v := 3) F (by decide) dX3_total_35 ?_
      refine r_iload_n F 1 rfl dX3_total_36 ?_
      refine r_iload_n F 2 rfl dX3_total_37 ?_
      refine r_iconst (v := -1) F (by decide) dX3_total_38 ?_
      refine r_xcalli F Gq (g_XV (C := RX3) (T := TX3) (N := 4) (nA := 4) (As := [.int 3, .int p, .int x, .int (-1)]) (rest := []) F 0 hc.1 (by decide) rfl (c_X3_addNew hfl hc) gX3_total_X3_addNew rfl (by decide +kernel) rfl ⟨Nat.le_of_ble_eq_true rfl, Nat.le_of_ble_eq_true rfl⟩ ⟨Nat.le_of_ble_eq_true rfl, Nat.le_of_ble_eq_true rfl⟩ rfl (Nat.le_of_ble_eq_true rfl) dX3_total_39) ⟨Nat.le_of_ble_eq_true rfl, Nat.le_of_ble_eq_true rfl⟩ (fun E u9 h9 => ⟨Or.inr (Or.inr (⟨by simp [cdTotal, hq_1, hq_9, h9.2.2], h9.1⟩)), h9.2.1⟩) (fun r_10 u_10 hp_10 => ?_)
      obtain ⟨er_10, hc_10, hk_10, hn16⟩ := hp_10
      subst er_10
      obtain ⟨nx_11, hN_11⟩ := hc_10.2.2.2.1
      exact hret _ _ _ _ _ _ (Nat.le_of_ble_eq_true rfl) (Nat.le_of_ble_eq_true rfl) ⟨by simp [cdTotal, hq_1, hq_9, hn16], rfl, hc_10, fun j hj => hk_10 j (by omega)⟩ dX3_total_42
    · skip
      replace c_23_8 := bI1 c_23_8
      refine r_iconst (v := 1) F (by decide) dX3_total_26 ?_
      refine r_goto F 31 (by decide) dX3_total_27 ?_
      refine r_eq (st2 := [.int (bI (totOk B n x))]) (by rw [show (bI (totOk B n x)) = 1 from (by simp [totOk, bI, hq_1, c_12_3, c_23_8])]) rfl ?_
      refine r_xcallv F Gq (g_XS (nA := 1) (As := [.int (bI (totOk B n x))]) (rest := []) F (c_X3_needArgument hfl (b := totOk B n x)) gX3_total_X3_needArgument rfl (by decide +kernel) rfl ⟨Nat.le_of_ble_eq_true rfl, Nat.le_of_ble_eq_true rfl⟩ ⟨Nat.le_of_ble_eq_true rfl, Nat.le_of_ble_eq_true rfl⟩ rfl (Nat.le_of_ble_eq_true rfl) dX3_total_31) ⟨Nat.le_of_ble_eq_true rfl, Nat.le_of_ble_eq_true rfl⟩ (fun E u9 h9 => ⟨Or.inr (Or.inl ⟨by simp [cdTotal, hq_1, h9.2.2], h9.1⟩), h9.2.1⟩) (fun u_12 hp_12 => ?_)
      obtain ⟨rfl, hq_12⟩ := hp_12
      refine r_aload_n F 0 rfl dX3_total_34 ?_
      refine r_iconst (v := 3) F (by decide) dX3_total_35 ?_
      refine r_iload_n F 1 rfl dX3_total_36 ?_
      refine r_iload_n F 2 rfl dX3_total_37 ?_
      refine r_iconst (v := -1) F (by decide) dX3_total_38 ?_
      refine r_xcalli F Gq (g_XV (C := RX3) (T := TX3) (N := 4) (nA := 4) (As := [.int 3, .int p, .int x, .int (-1)]) (rest := []) F 0 hc.1 (by decide) rfl (c_X3_addNew hfl hc) gX3_total_X3_addNew rfl (by decide +kernel) rfl ⟨Nat.le_of_ble_eq_true rfl, Nat.le_of_ble_eq_true rfl⟩ ⟨Nat.le_of_ble_eq_true rfl, Nat.le_of_ble_eq_true rfl⟩ rfl (Nat.le_of_ble_eq_true rfl) dX3_total_39) ⟨Nat.le_of_ble_eq_true rfl, Nat.le_of_ble_eq_true rfl⟩ (fun E u9 h9 => ⟨Or.inr (Or.inr (⟨by simp [cdTotal, hq_1, hq_12, h9.2.2], h9.1⟩)), h9.2.1⟩) (fun r_13 u_13 hp_13 => ?_)
      obtain ⟨er_13, hc_13, hk_13, hn16⟩ := hp_13
      subst er_13
      obtain ⟨nx_14, hN_14⟩ := hc_13.2.2.2.1
      exact hret _ _ _ _ _ _ (Nat.le_of_ble_eq_true rfl) (Nat.le_of_ble_eq_true rfl) ⟨by simp [cdTotal, hq_1, hq_12, hn16], rfl, hc_13, fun j hj => hk_13 j (by omega)⟩ dX3_total_42

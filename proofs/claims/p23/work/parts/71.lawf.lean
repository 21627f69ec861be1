set_option maxHeartbeats 8000000 in
set_option maxRecDepth 100000 in
theorem op_drop {g : kG} {X : kX} {bs Ls : Nat} {xs : Nat → Int32} {u : Nat → va_E} {ak ap am al aa n1 m t e k0 n0 : Nat} {B : kB} {S : Nat → kS} {C K P M L A : Nat → Int32} {h : Int32} {kd : Nat} (hfl : X.2.1.stackTraces = false) (F : Fx g X cL_law 16 (some .boolean) wsL_law RL ({ frames := 11, cells := 1200130, slots := 5501080, locals := 428 })) (T : Sx g X bs Ls xs) (hLs : Ls ≤ 260) (he : e < 60) (hk0 : k0 + 500 ≤ 1200130) (hn0 : n0 + 3000 ≤ 5501080) (hT : TW g u ak ap am al aa (n1 + 1) B m S t C K P M L A) (ho : okB (n1 + 1) B K P M L A) (kk : ∀ (u' : Nat → va_E) (n' m' t' : Nat) (B' : kB) (S' : Nat → kS) (C' K' P' M' L' A' : Nat → Int32), TW g u' ak ap am al aa n' B' m' S' t' C' K' P' M' L' A' → okB n' B' K' P' M' L' A' → VL g X (k0 + 20) (n0 + 200) u' 627 [(0, .ref bs), (1, .ref (g.2.1 0)), (2, .ref ak), (3, .ref ap), (4, .ref am), (5, .ref al), (6, .ref aa), (7, .int (nI n')), (8, .int (nI e)), (11, .int 1)] []) : VL g X k0 n0 u 434 [(0, .ref bs), (1, .ref (g.2.1 0)), (2, .ref ak), (3, .ref ap), (4, .ref am), (5, .ref al), (6, .ref aa), (7, .int (nI (n1 + 1))), (8, .int (nI e)), (9, .int h), (10, .int (nI kd)), (11, .int 1)] [] := by
  have hn : n1 + 1 ≤ 16 := hT.1.2.1.le
  refine r_iinc (lv' := [(0, .ref bs), (1, .ref (g.2.1 0)), (2, .ref ak), (3, .ref ap), (4, .ref am), (5, .ref al), (6, .ref aa), (7, .int (nI n1)), (8, .int (nI e)), (9, .int h), (10, .int (nI kd)), (11, .int 1)]) F 7 rfl ((nI_dec _).trans (nI_pred _)) (by decide) rfl dL_law_434 ?_
  refine r_aload_n F 1 rfl dL_law_437 ?_
  refine r_calli (g_V (C := RX3) (T := TX3) (N := 4) (nA := 0) (As := []) (rest := []) F 0 hT.1.1 (by decide) rfl ((c_X3_drop hfl hT.1).ci (fun _ _ q => absurd q.2.2 (by omega))) gL_law_X3_drop rfl (by decide +kernel) rfl ⟨Nat.le_of_ble_eq_true rfl, Nat.le_of_ble_eq_true rfl⟩ ⟨by (try dsimp only); omega, by (try dsimp only); omega⟩ rfl (Nat.le_of_ble_eq_true rfl) dL_law_438) (fun r_1 u_1 hp_1 => ?_)
  refine r_widen (k' := k0 + 1) (n' := n0 + 6) (by (try dsimp only); omega) (by (try dsimp only); omega) ?_
  obtain ⟨-, er_1, hC_1, hk_1⟩ := hp_1
  simp only [Nat.add_sub_cancel] at er_1 hC_1
  subst er_1
  have hT_1 := hT.keep hC_1 hk_1
  refine r_aload_n F 2 rfl dL_law_441 ?_
  refine r_iload F 7 rfl dL_law_442 ?_
  refine r_ialdA F hT_1.2.1 (vp_in_nI (by omega) (by decide)) dL_law_444 ?_
  refine r_eq (st2 := [.int (B n1 0), .int (B n1 0)]) (by rw [nI_clamp (by omega), (ho.1 n1 (by omega)).1]) rfl ?_
  refine r_icmp_ne F 452 (by decide) dL_law_445 (fun c_445_2 => absurd c_445_2 (fun q => q rfl)) (fun _ => ?_)
  refine r_iconst (v := 1) F (by decide) dL_law_448 ?_
  refine r_goto F 453 (by decide) dL_law_449 ?_
  refine r_istore (lv' := [(0, .ref bs), (1, .ref (g.2.1 0)), (2, .ref ak), (3, .ref ap), (4, .ref am), (5, .ref al), (6, .ref aa), (7, .int (nI n1)), (8, .int (nI e)), (9, .int h), (10, .int (nI kd)), (11, .int 1)]) F (by decide) rfl dL_law_453 ?_
  refine r_goto F 627 (by decide) dL_law_455 ?_
  refine r_lv (lv2 := [(0, .ref bs), (1, .ref (g.2.1 0)), (2, .ref ak), (3, .ref ap), (4, .ref am), (5, .ref al), (6, .ref aa), (7, .int (nI n1)), (8, .int (nI e)), (11, .int 1)]) (by simp) ?_
  refine r_widen (k' := k0 + 20) (n' := n0 + 200) (by omega) (by omega) ?_
  exact kk _ _ _ _ _ _ _ _ _ _ _ _ hT_1 ho.drop
set_option maxHeartbeats 8000000 in
set_option maxRecDepth 100000 in
theorem op_clear {g : kG} {X : kX} {bs Ls : Nat} {xs : Nat → Int32} {u : Nat → va_E} {ak ap am al aa n m t e k0 n0 : Nat} {B : kB} {S : Nat → kS} {C K P M L A : Nat → Int32} {h : Int32} {kd : Nat} (hfl : X.2.1.stackTraces = false) (F : Fx g X cL_law 16 (some .boolean) wsL_law RL ({ frames := 11, cells := 1200130, slots := 5501080, locals := 428 })) (T : Sx g X bs Ls xs) (hLs : Ls ≤ 260) (he : e < 60) (hk0 : k0 + 500 ≤ 1200130) (hn0 : n0 + 3000 ≤ 5501080) (hT : TW g u ak ap am al aa n B m S t C K P M L A) (ho : okB n B K P M L A) (kk : ∀ (u' : Nat → va_E) (n' m' t' : Nat) (B' : kB) (S' : Nat → kS) (C' K' P' M' L' A' : Nat → Int32), TW g u' ak ap am al aa n' B' m' S' t' C' K' P' M' L' A' → okB n' B' K' P' M' L' A' → VL g X (k0 + 20) (n0 + 200) u' 627 [(0, .ref bs), (1, .ref (g.2.1 0)), (2, .ref ak), (3, .ref ap), (4, .ref am), (5, .ref al), (6, .ref aa), (7, .int (nI n')), (8, .int (nI e)), (11, .int 1)] []) : VL g X k0 n0 u 477 [(0, .ref bs), (1, .ref (g.2.1 0)), (2, .ref ak), (3, .ref ap), (4, .ref am), (5, .ref al), (6, .ref aa), (7, .int (nI n)), (8, .int (nI e)), (9, .int h), (10, .int (nI kd)), (11, .int 1)] [] := by
  have hn : n ≤ 16 := hT.1.2.1.le
  refine r_iconst (v := 0) F (by decide) dL_law_477 ?_
  refine r_istore (lv' := [(0, .ref bs), (1, .ref (g.2.1 0)), (2, .ref ak), (3, .ref ap), (4, .ref am), (5, .ref al), (6, .ref aa), (7, .int (nI n)), (8, .int (nI e)), (9, .int h), (10, .int (nI kd)), (11, .int 1), (12, .int 0)]) F (by decide) rfl dL_law_478 ?_
  refine r_iconst (v := 0) F (by decide) dL_law_480 ?_
  refine r_istore (lv' := [(0, .ref bs), (1, .ref (g.2.1 0)), (2, .ref ak), (3, .ref ap), (4, .ref am), (5, .ref al), (6, .ref aa), (7, .int (nI n)), (8, .int (nI e)), (9, .int h), (10, .int (nI kd)), (11, .int 1), (12, .int 0), (13, .int 0)]) F (by decide) rfl dL_law_481 ?_
  have loop_483 : ∀ (k : Nat) (j : Nat) (w1 : Nat → va_E) (x12_483 : Int32) (x13_483 : Int32), (j + k = n) → (TW g w1 ak ap am al aa n B m S t C K P M L (clA A j)) → x12_483 = cntN j (fun b => !decide (B b 4 = -1)) → x13_483 = nI j → VL g X k0 n0 w1 483 [(0, .ref bs), (1, .ref (g.2.1 0)), (2, .ref ak), (3, .ref ap), (4, .ref am), (5, .ref al), (6, .ref aa), (7, .int (nI n)), (8, .int (nI e)), (9, .int h), (10, .int (nI kd)), (11, .int 1), (12, .int x12_483), (13, .int x13_483)] [] := by
    intro k
    induction k with
    | zero =>
      rintro j w1 x12_483 x13_483 hkj hT1 rfl rfl
      have hjn : n = j := by omega
      subst hjn
      refine r_iload F 13 rfl dL_law_483 ?_
      refine r_iload F 7 rfl dL_law_485 ?_
      refine r_icmp_ge F 520 (by decide) dL_law_487 (fun _ => ?_) (fun c_487_1 => absurd (Int32.le_refl _) c_487_1)
      refine r_aload_n F 1 rfl dL_law_520 ?_
      refine r_calli (g_V (C := RX3) (T := TX3) (N := 4) (nA := 0) (As := []) (rest := []) F 0 hT1.1.1 (by decide) rfl (c_X3_clear hT1.1) gL_law_X3_clear rfl (by decide +kernel) rfl ⟨Nat.le_of_ble_eq_true rfl, Nat.le_of_ble_eq_true rfl⟩ ⟨by (try dsimp only); omega, by (try dsimp only); omega⟩ rfl (Nat.le_of_ble_eq_true rfl) dL_law_521) (fun r_2 u_2 hp_2 => ?_)
      refine r_widen (k' := k0) (n' := n0) (by (try dsimp only); omega) (by (try dsimp only); omega) ?_
      obtain ⟨er_2, hC_2, hk_2⟩ := hp_2
      subst er_2
      have hT_2 := hT1.keep hC_2 hk_2
      refine r_iload F 12 rfl dL_law_524 ?_
      refine r_icmp_ne F 533 (by decide) dL_law_526 (fun c_526_3 => absurd c_526_3 (fun q => q rfl)) (fun _ => ?_)
      refine r_iconst (v := 1) F (by decide) dL_law_529 ?_
      refine r_goto F 534 (by decide) dL_law_530 ?_
      refine r_istore (lv' := [(0, .ref bs), (1, .ref (g.2.1 0)), (2, .ref ak), (3, .ref ap), (4, .ref am), (5, .ref al), (6, .ref aa), (7, .int (nI n)), (8, .int (nI e)), (9, .int h), (10, .int (nI kd)), (11, .int 1), (12, .int (cntN n (fun b => !decide (B b 4 = -1)))), (13, .int (nI n))]) F (by decide) rfl dL_law_534 ?_
      refine r_goto F 627 (by decide) dL_law_536 ?_
      refine r_lv (lv2 := [(0, .ref bs), (1, .ref (g.2.1 0)), (2, .ref ak), (3, .ref ap), (4, .ref am), (5, .ref al), (6, .ref aa), (7, .int (nI n)), (8, .int (nI e)), (11, .int 1)]) (by simp) ?_
      refine r_widen (k' := k0 + 20) (n' := n0 + 200) (by omega) (by omega) ?_
      exact kk _ _ _ _ _ _ _ _ _ _ _ _ hT_2 ho.clr
    | succ k ih_483 =>
      rintro j w1 x12_483 x13_483 hkj hT1 rfl rfl
      have hj : j < n := by omega
      obtain ⟨eK, eP, eM, eL, eA⟩ := ho.1 j hj
      refine r_iload F 13 rfl dL_law_483 ?_
      refine r_iload F 7 rfl dL_law_485 ?_
      refine r_icmp_ge F 520 (by decide) dL_law_487 (fun c_487_4 => absurd c_487_4 (nI_ge (b := n) hj (by omega))) (fun _ => ?_)
      refine r_iload F 12 rfl dL_law_490 ?_
      have j_505_5 : VL g X k0 n0 w1 505 [(0, .ref bs), (1, .ref (g.2.1 0)), (2, .ref ak), (3, .ref ap), (4, .ref am), (5, .ref al), (6, .ref aa), (7, .int (nI n)), (8, .int (nI e)), (9, .int h), (10, .int (nI kd)), (11, .int 1), (12, .int (cntN j (fun b => !decide (B b 4 = -1)))), (13, .int (nI j))] [.int (bI (!decide (B j 4 = -1))), .int (cntN j (fun b => !decide (B b 4 = -1)))] := by
        refine r_iadd F dL_law_505 ?_
        refine r_istore (lv' := [(0, .ref bs), (1, .ref (g.2.1 0)), (2, .ref ak), (3, .ref ap), (4, .ref am), (5, .ref al), (6, .ref aa), (7, .int (nI n)), (8, .int (nI e)), (9, .int h), (10, .int (nI kd)), (11, .int 1), (12, .int ((cntN j (fun b => !decide (B b 4 = -1))) + (bI (!decide (B j 4 = -1))))), (13, .int (nI j))]) F (by decide) rfl dL_law_506 ?_
        refine r_aload F 6 rfl dL_law_508 ?_
        refine r_iload F 13 rfl dL_law_510 ?_
        refine r_iconst (v := -1) F (by decide) dL_law_512 ?_
        refine r_iastA F hT1.2.2.2.2.2 (vp_in_nI (by omega) (by decide)) dL_law_513 (fun u_6 hu_6 => ?_)
        rw [show upd (clA A j) (nI j).toNatClampNeg (-1) = (clA A (j + 1)) from by rw [nI_clamp (by omega)]; exact clA_s] at hu_6
        have hT_7 : TW g u_6 ak ap am al aa n B m S t C K P M L (clA A (j + 1)) := by rw [hu_6]; exact hT1.upA
        refine r_iinc (lv' := [(0, .ref bs), (1, .ref (g.2.1 0)), (2, .ref ak), (3, .ref ap), (4, .ref am), (5, .ref al), (6, .ref aa), (7, .int (nI n)), (8, .int (nI e)), (9, .int h), (10, .int (nI kd)), (11, .int 1), (12, .int ((cntN j (fun b => !decide (B b 4 = -1))) + (bI (!decide (B j 4 = -1))))), (13, .int (nI (j + 1)))]) F 13 rfl (nI_inc _) (by decide) rfl dL_law_514 ?_
        refine r_goto F 483 (by decide) dL_law_517 ?_
        exact ih_483 (j + 1) _ _ _ (by omega) hT_7 rfl rfl
      refine r_aload F 6 rfl dL_law_492 ?_
      refine r_iload F 13 rfl dL_law_494 ?_
      refine r_ialdA F hT1.2.2.2.2.2 (vp_in_nI (by omega) (by decide)) dL_law_496 ?_
      refine r_eq (st2 := [.int (B j 4), .int (cntN j (fun b => !decide (B b 4 = -1)))]) (by rw [nI_clamp (by omega), clA_j, eA]) rfl ?_
      refine r_if_ge F 504 (by decide) dL_law_497 (fun c_497_8 => ?_) (fun c_497_8 => ?_)
      · skip
        have e497_8 : ¬ B j 4 = -1 := an_ge c_497_8
        refine r_iconst (v := 1) F (by decide) dL_law_504 ?_
        refine r_eq (st2 := [.int (bI (!decide (B j 4 = -1))), .int (cntN j (fun b => !decide (B b 4 = -1)))]) (congrArg (fun z_ : Int32 => ([.int z_, .int (cntN j (fun b => !decide (B b 4 = -1)))] : List Value)) (show (1 : Int32) = bI (!decide (B j 4 = -1)) from by simp [bI, c_497_8, e497_8])) rfl ?_
        exact j_505_5
      · skip
        have e497_8 : B j 4 = -1 := an_nge (ho.2.1 j hj) c_497_8
        refine r_iconst (v := 0) F (by decide) dL_law_500 ?_
        refine r_goto F 505 (by decide) dL_law_501 ?_
        refine r_eq (st2 := [.int (bI (!decide (B j 4 = -1))), .int (cntN j (fun b => !decide (B b 4 = -1)))]) (congrArg (fun z_ : Int32 => ([.int z_, .int (cntN j (fun b => !decide (B b 4 = -1)))] : List Value)) (show (0 : Int32) = bI (!decide (B j 4 = -1)) from by simp [bI, c_497_8, e497_8])) rfl ?_
        exact j_505_5
  exact loop_483 n 0 _ _ _ (by omega) (by rw [clA_0]; exact hT) rfl rfl
set_option maxHeartbeats 8000000 in
set_option maxRecDepth 100000 in
theorem op_answer {g : kG} {X : kX} {bs Ls : Nat} {xs : Nat → Int32} {u : Nat → va_E} {ak ap am al aa n m t e k0 n0 : Nat} {B : kB} {S : Nat → kS} {C K P M L A : Nat → Int32} {h : Int32} {kd : Nat} (hnp : 0 < n) (hfl : X.2.1.stackTraces = false) (F : Fx g X cL_law 16 (some .boolean) wsL_law RL ({ frames := 11, cells := 1200130, slots := 5501080, locals := 428 })) (T : Sx g X bs Ls xs) (hLs : Ls ≤ 260) (he : e < 60) (hk0 : k0 + 500 ≤ 1200130) (hn0 : n0 + 3000 ≤ 5501080) (hT : TW g u ak ap am al aa n B m S t C K P M L A) (ho : okB n B K P M L A) (kk : ∀ (u' : Nat → va_E) (n' m' t' : Nat) (B' : kB) (S' : Nat → kS) (C' K' P' M' L' A' : Nat → Int32), TW g u' ak ap am al aa n' B' m' S' t' C' K' P' M' L' A' → okB n' B' K' P' M' L' A' → VL g X (k0 + 20) (n0 + 200) u' 627 [(0, .ref bs), (1, .ref (g.2.1 0)), (2, .ref ak), (3, .ref ap), (4, .ref am), (5, .ref al), (6, .ref aa), (7, .int (nI n')), (8, .int (nI e)), (11, .int 1)] []) : VL g X k0 n0 u 539 [(0, .ref bs), (1, .ref (g.2.1 0)), (2, .ref ak), (3, .ref ap), (4, .ref am), (5, .ref al), (6, .ref aa), (7, .int (nI n)), (8, .int (nI e)), (9, .int h), (10, .int (nI kd)), (11, .int 1)] [] := by
  have hn : n ≤ 16 := hT.1.2.1.le
  refine r_iload F 9 rfl dL_law_539 ?_
  refine r_iconst (v := 4) F (by decide) dL_law_541 ?_
  refine r_ishr F dL_law_542 ?_
  refine r_iload F 7 rfl dL_law_543 ?_
  refine r_calli (g_S (nA := 2) (As := [.int (h >>> (4 &&& 31)), .int (nI n)]) (rest := []) F (c_L_low (v := (h >>> (4 &&& 31))) (w := n) hnp (by omega)) gL_law_L_low rfl (by decide +kernel) rfl ⟨Nat.le_of_ble_eq_true rfl, Nat.le_of_ble_eq_true rfl⟩ ⟨by (try dsimp only); omega, by (try dsimp only); omega⟩ rfl (Nat.le_of_ble_eq_true rfl) dL_law_545) (fun r_1 u_1 hp_1 => ?_)
  refine r_widen (k' := k0) (n' := n0) (by (try dsimp only); omega) (by (try dsimp only); omega) ?_
  obtain ⟨⟨bx, hbx, rfl⟩, rfl⟩ := hp_1
  refine r_istore (lv' := [(0, .ref bs), (1, .ref (g.2.1 0)), (2, .ref ak), (3, .ref ap), (4, .ref am), (5, .ref al), (6, .ref aa), (7, .int (nI n)), (8, .int (nI e)), (9, .int h), (10, .int (nI kd)), (11, .int 1), (12, .int (nI bx))]) F (by decide) rfl dL_law_548 ?_
  refine r_aload F 6 rfl dL_law_550 ?_
  refine r_iload F 12 rfl dL_law_552 ?_
  refine r_aload_n F 2 rfl dL_law_554 ?_
  refine r_aload F 4 rfl dL_law_555 ?_
  refine r_iload F 12 rfl dL_law_557 ?_
  refine r_iload F 9 rfl dL_law_559 ?_
  refine r_bipush (v := 8) F (by decide) dL_law_561 ?_
  refine r_ishr F dL_law_563 ?_
  refine r_calli (g_S (nA := 4) (As := [.ref ak, .ref am, .int (nI bx), .int (h >>> (8 &&& 31))]) (rest := [.int (nI bx), .ref aa]) F (c_L_some (h := h >>> (8 &&& 31)) hT.2.1 hT.2.2.2.1 hn hbx (ho.1 bx hbx).1 (ho.1 bx hbx).2.2.1 ho.2.2.1) gL_law_L_some rfl (by decide +kernel) rfl ⟨Nat.le_of_ble_eq_true rfl, Nat.le_of_ble_eq_true rfl⟩ ⟨by (try dsimp only); omega, by (try dsimp only); omega⟩ rfl (Nat.le_of_ble_eq_true rfl) dL_law_564) (fun r_2 u_2 hp_2 => ?_)
  refine r_widen (k' := k0) (n' := n0) (by (try dsimp only); omega) (by (try dsimp only); omega) ?_
  obtain ⟨⟨hfit, hv⟩, rfl⟩ := hp_2
  refine r_iastA F hT.2.2.2.2.2 (vp_in_nI (by omega) (by decide)) dL_law_567 (fun u_3 hu_3 => ?_)
  rw [show upd A (nI bx).toNatClampNeg r_2 = (upd A bx r_2) from by rw [nI_clamp (by omega)]] at hu_3
  have hT_4 : TW g u_3 ak ap am al aa n B m S t C K P M L (upd A bx r_2) := by rw [hu_3]; exact hT.upA
  refine r_aload_n F 2 rfl dL_law_568 ?_
  refine r_aload_n F 3 rfl dL_law_569 ?_
  refine r_aload F 4 rfl dL_law_570 ?_
  refine r_aload F 5 rfl dL_law_572 ?_
  refine r_aload F 6 rfl dL_law_574 ?_
  refine r_iload F 7 rfl dL_law_576 ?_
  have hok := ho.ans hfit hv
  refine r_calli (g_S (nA := 6) (As := [.ref ak, .ref ap, .ref am, .ref al, .ref aa, .int (nI n)]) (rest := []) F (c_L_open hT_4.2.1 hT_4.2.2.1 hT_4.2.2.2.1 hT_4.2.2.2.2.1 hT_4.2.2.2.2.2 hn hok.1 hok.2.1) gL_law_L_open rfl (by decide +kernel) rfl ⟨Nat.le_of_ble_eq_true rfl, Nat.le_of_ble_eq_true rfl⟩ ⟨by (try dsimp only); omega, by (try dsimp only); omega⟩ rfl (Nat.le_of_ble_eq_true rfl) dL_law_578) (fun r_5 u_5 hp_5 => ?_)
  refine r_widen (k' := k0) (n' := n0) (by (try dsimp only); omega) (by (try dsimp only); omega) ?_
  obtain ⟨rfl, rfl⟩ := hp_5
  refine r_istore (lv' := [(0, .ref bs), (1, .ref (g.2.1 0)), (2, .ref ak), (3, .ref ap), (4, .ref am), (5, .ref al), (6, .ref aa), (7, .int (nI n)), (8, .int (nI e)), (9, .int h), (10, .int (nI kd)), (11, .int 1), (12, .int (nI bx)), (13, .int (opm (bUp B bx 4 r_2) n))]) F (by decide) rfl dL_law_581 ?_
  refine r_aload_n F 1 rfl dL_law_583 ?_
  refine r_iload F 12 rfl dL_law_584 ?_
  have j_603_6 : VL g X k0 n0 u_3 603 [(0, .ref bs), (1, .ref (g.2.1 0)), (2, .ref ak), (3, .ref ap), (4, .ref am), (5, .ref al), (6, .ref aa), (7, .int (nI n)), (8, .int (nI e)), (9, .int h), (10, .int (nI kd)), (11, .int 1), (12, .int (nI bx)), (13, .int (opm (bUp B bx 4 r_2) n))] [.int r_2, .int (nI bx), .ref (g.2.1 0)] := by
    refine r_calli (g_V (C := RX3) (T := TX3) (N := 4) (nA := 2) (As := [.int (nI bx), .int r_2]) (rest := []) F 0 hT_4.1.1 (by decide) rfl ((c_X3_answer hfl hT_4.1 ho.2.2.1.t (x := nI bx) (v := r_2)).ci (fun _ _ q => exIA_n (cdAnswer_0 hn hbx hfit) q.1)) gL_law_X3_answer rfl (by decide +kernel) rfl ⟨Nat.le_of_ble_eq_true rfl, Nat.le_of_ble_eq_true rfl⟩ ⟨by (try dsimp only); omega, by (try dsimp only); omega⟩ rfl (Nat.le_of_ble_eq_true rfl) dL_law_603) (fun r_7 u_7 hp_7 => ?_)
    refine r_widen (k' := k0 + 2) (n' := n0 + 12) (by (try dsimp only); omega) (by (try dsimp only); omega) ?_
    obtain ⟨-, er_7, hC_7, hk_7⟩ := hp_7
    rw [nI_clamp (by omega)] at er_7 hC_7
    subst er_7
    have hT_7 := hT_4.keep hC_7 hk_7
    refine r_aload_n F 2 rfl dL_law_606 ?_
    refine r_aload_n F 3 rfl dL_law_607 ?_
    refine r_aload F 6 rfl dL_law_608 ?_
    refine r_iload F 7 rfl dL_law_610 ?_
    refine r_iload F 13 rfl dL_law_612 ?_
    refine r_calli (g_S (nA := 5) (As := [.ref ak, .ref ap, .ref aa, .int (nI n), .int (opm (bUp B bx 4 r_2) n)]) (rest := [.int (cntN n (qWts (bUp B bx 4 r_2) (opm (bUp B bx 4 r_2) n)))]) F (c_L_wanting (mask := opm (bUp B bx 4 r_2) n) hT_7.2.1 hT_7.2.2.1 hT_7.2.2.2.2.2 hn hok.1 hok.2.1 hok.2.2.1) gL_law_L_wanting rfl (by decide +kernel) rfl ⟨Nat.le_of_ble_eq_true rfl, Nat.le_of_ble_eq_true rfl⟩ ⟨by (try dsimp only); omega, by (try dsimp only); omega⟩ rfl (Nat.le_of_ble_eq_true rfl) dL_law_614) (fun r_8 u_8 hp_8 => ?_)
    refine r_widen (k' := k0 + 2) (n' := n0 + 12) (by (try dsimp only); omega) (by (try dsimp only); omega) ?_
    obtain ⟨rfl, rfl⟩ := hp_8
    refine r_icmp_ne F 624 (by decide) dL_law_617 (fun c_617_9 => absurd c_617_9 (fun q => q rfl)) (fun _ => ?_)
    refine r_iconst (v := 1) F (by decide) dL_law_620 ?_
    refine r_goto F 625 (by decide) dL_law_621 ?_
    refine r_istore (lv' := [(0, .ref bs), (1, .ref (g.2.1 0)), (2, .ref ak), (3, .ref ap), (4, .ref am), (5, .ref al), (6, .ref aa), (7, .int (nI n)), (8, .int (nI e)), (9, .int h), (10, .int (nI kd)), (11, .int 1), (12, .int (nI bx)), (13, .int (opm (bUp B bx 4 r_2) n))]) F (by decide) rfl dL_law_625 ?_
    refine r_lv (lv2 := [(0, .ref bs), (1, .ref (g.2.1 0)), (2, .ref ak), (3, .ref ap), (4, .ref am), (5, .ref al), (6, .ref aa), (7, .int (nI n)), (8, .int (nI e)), (11, .int 1)]) (by simp) ?_
    refine r_widen (k' := k0 + 20) (n' := n0 + 200) (by omega) (by omega) ?_
    exact kk _ _ _ _ _ _ _ _ _ _ _ _ hT_7 hok
  refine r_aload F 6 rfl dL_law_586 ?_
  refine r_iload F 12 rfl dL_law_588 ?_
  refine r_ialdA F hT_4.2.2.2.2.2 (vp_in_nI (by omega) (by decide)) dL_law_590 ?_
  refine r_eq (st2 := [.int r_2, .int (nI bx), .ref (g.2.1 0)]) (by rw [nI_clamp (by omega), upd_eq]) rfl ?_
  refine r_if_ge F 598 (by decide) dL_law_591 (fun c_591_10 => ?_) (fun c_591_10 => ?_)
  · skip
    refine r_aload F 6 rfl dL_law_598 ?_
    refine r_iload F 12 rfl dL_law_600 ?_
    refine r_ialdA F hT_4.2.2.2.2.2 (vp_in_nI (by omega) (by decide)) dL_law_602 ?_
    refine r_eq (st2 := [.int r_2, .int (nI bx), .ref (g.2.1 0)]) (by rw [nI_clamp (by omega), upd_eq]) rfl ?_
    exact j_603_6
  · skip
    refine r_iconst (v := -1) F (by decide) dL_law_594 ?_
    refine r_goto F 603 (by decide) dL_law_595 ?_
    refine r_eq (st2 := [.int r_2, .int (nI bx), .ref (g.2.1 0)]) (congrArg (fun z_ : Int32 => ([.int z_, .int (nI bx), .ref (g.2.1 0)] : List Value)) (show ((-1) : Int32) = r_2 from by exact (an_nge hv c_591_10).symm)) rfl ?_
    exact j_603_6

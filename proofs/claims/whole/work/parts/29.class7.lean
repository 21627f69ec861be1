set_option maxHeartbeats 4000000 in
set_option maxRecDepth 100000 in
theorem c_X3_hashCounts {g : kG} {l : Launch} {u : Nat → va_E} {n m t : Nat} {B : kB} {S : Nat → kS} {C : Nat → Int32} {h : Int64} {mask : Int32} (hc : CsB g u n B m S t C)  : CL g l yX3_hashCounts wsX3_hashCounts ({ frames := 5, cells := 0, slots := 0, locals := 110 }) [.ref (g.2.1 0), .long h, .int mask] u (fun r u' => r = hCnt B n m mask h ∧ u = u') := by
  refine CL.of (cc := cX3_hashCounts) (nL := 7) (by decide +kernel) rfl (Nat.le_of_ble_eq_true rfl) ?_
  intro X hXl F hret
  subst hXl
  obtain ⟨nx, hN⟩ := hc.2.2.2.1
  show VL g X 0 0 u 0 [(0, .ref (g.2.1 0)), (1, .long h), (3, .int mask)] []
  refine r_lload_n F 1 rfl dX3_hashCounts_0 ?_
  refine r_lstore (lv' := [(0, .ref (g.2.1 0)), (1, .long h), (3, .int mask), (4, .long h)]) F (by decide) rfl dX3_hashCounts_1 ?_
  refine r_iconst (v := 0) F (by decide) dX3_hashCounts_3 ?_
  refine r_istore (lv' := [(0, .ref (g.2.1 0)), (1, .long h), (3, .int mask), (4, .long h), (6, .int 0)]) F (by decide) rfl dX3_hashCounts_4 ?_
  have loop_6 : ∀ (k : Nat) (q : Nat) (x4_6 : Int64) (x6_6 : Int32), q + k = 9 → x4_6 = hfN (fun w => tF B n m mask (nI w)) q h → x6_6 = nI q → VL g X 0 0 u 6 [(0, .ref (g.2.1 0)), (1, .long h), (3, .int mask), (4, .long x4_6), (6, .int x6_6)] [] := by
    intro k
    induction k with
    | zero =>
      rintro q x4_6 x6_6 hkq rfl rfl
      have hjnq : q = 9 := by omega
      subst hjnq
      refine r_iload F 4 rfl dX3_hashCounts_6 ?_
      refine r_bipush (v := 8) F (by decide) dX3_hashCounts_8 ?_
      refine r_icmp_gt F 34 (by decide) dX3_hashCounts_10 (fun c_10_2 => ?_) (fun c_10_2 => absurd (by decide) c_10_2)
      clear c_10_2
      refine r_lload F 3 rfl dX3_hashCounts_34 ?_
      exact hret _ _ _ _ _ _ (Nat.le_of_ble_eq_true rfl) (Nat.le_of_ble_eq_true rfl) ⟨rfl, rfl⟩ dX3_hashCounts_36
    | succ k ih_6 =>
      rintro q x4_6 x6_6 hkq rfl rfl
      have hbq : q < 9 := by omega
      refine r_iload F 4 rfl dX3_hashCounts_6 ?_
      refine r_bipush (v := 8) F (by decide) dX3_hashCounts_8 ?_
      refine r_icmp_gt F 34 (by decide) dX3_hashCounts_10 (fun c_10_3 => absurd c_10_3 (nI_nlt (a := 8) (by omega) (by decide))) (fun c_10_3 => ?_)
      clear c_10_3
      refine r_lload F 3 rfl dX3_hashCounts_13 ?_
      refine r_aload_n F 0 rfl dX3_hashCounts_15 ?_
      refine r_iload F 4 rfl dX3_hashCounts_16 ?_
      refine r_iload_n F 2 rfl dX3_hashCounts_18 ?_
      refine r_calli (g_V (C := RX3) (T := TX3) (N := 4) (nA := 2) (As := [.int (nI q), .int mask]) (rest := [.long (hfN (fun w => tF B n m mask (nI w)) q h)]) F 0 hc.1 (by decide) rfl (c_X3_ofForm hc ) gX3_hashCounts_X3_ofForm rfl (by decide +kernel) rfl ⟨Nat.le_of_ble_eq_true rfl, Nat.le_of_ble_eq_true rfl⟩ ⟨Nat.le_of_ble_eq_true rfl, Nat.le_of_ble_eq_true rfl⟩ rfl (Nat.le_of_ble_eq_true rfl) dX3_hashCounts_19) (fun r_4 u_4 hp_4 => ?_)
      obtain ⟨rfl, rfl⟩ := hp_4
      refine r_i2l F rfl dX3_hashCounts_22 ?_
      refine r_calll (g_S (nA := 2) (As := [.long (hfN (fun w => tF B n m mask (nI w)) q h), .long ((tF B n m mask (nI q)).toInt64)]) (rest := []) F (c_X3_mix) gX3_hashCounts_X3_mix rfl (by decide +kernel) rfl ⟨Nat.le_of_ble_eq_true rfl, Nat.le_of_ble_eq_true rfl⟩ ⟨Nat.le_of_ble_eq_true rfl, Nat.le_of_ble_eq_true rfl⟩ rfl (Nat.le_of_ble_eq_true rfl) dX3_hashCounts_23) (fun r_5 u_5 hp_5 => ?_)
      obtain ⟨rfl, rfl⟩ := hp_5
      refine r_lstore (lv' := [(0, .ref (g.2.1 0)), (1, .long h), (3, .int mask), (4, .long (mixL (hfN (fun w => tF B n m mask (nI w)) q h) ((tF B n m mask (nI q)).toInt64))), (6, .int (nI q))]) F (by decide) rfl dX3_hashCounts_26 ?_
      refine r_iinc (lv' := [(0, .ref (g.2.1 0)), (1, .long h), (3, .int mask), (4, .long (mixL (hfN (fun w => tF B n m mask (nI w)) q h) ((tF B n m mask (nI q)).toInt64))), (6, .int (nI (q + 1)))]) F 4 rfl (nI_inc _) (by decide) rfl dX3_hashCounts_28 ?_
      refine r_goto F 6 (by decide) dX3_hashCounts_31 ?_
      exact ih_6 (q + 1) _ _ (by omega)  rfl rfl
  exact loop_6 9 0 _ _ (by omega)  rfl rfl
set_option maxHeartbeats 4000000 in
set_option maxRecDepth 100000 in
theorem c_X3_hashParts {g : kG} {l : Launch} {u : Nat → va_E} {n m t : Nat} {B : kB} {S : Nat → kS} {C : Nat → Int32} {h : Int64} {mask : Int32} (hc : CsB g u n B m S t C)  : CL g l yX3_hashParts wsX3_hashParts ({ frames := 5, cells := 0, slots := 0, locals := 112 }) [.ref (g.2.1 0), .long h, .int mask] u (fun r u' => r = hPrt B n mask h ∧ u = u') := by
  refine CL.of (cc := cX3_hashParts) (nL := 8) (by decide +kernel) rfl (Nat.le_of_ble_eq_true rfl) ?_
  intro X hXl F hret
  subst hXl
  obtain ⟨nx, hN⟩ := hc.2.2.2.1
  show VL g X 0 0 u 0 [(0, .ref (g.2.1 0)), (1, .long h), (3, .int mask)] []
  refine r_lload_n F 1 rfl dX3_hashParts_0 ?_
  refine r_lstore (lv' := [(0, .ref (g.2.1 0)), (1, .long h), (3, .int mask), (4, .long h)]) F (by decide) rfl dX3_hashParts_1 ?_
  refine r_iconst (v := 0) F (by decide) dX3_hashParts_3 ?_
  refine r_istore (lv' := [(0, .ref (g.2.1 0)), (1, .long h), (3, .int mask), (4, .long h), (6, .int 0)]) F (by decide) rfl dX3_hashParts_4 ?_
  have loop_6 : ∀ (k : Nat) (j : Nat) (x4_6 : Int64) (x6_6 : Int32), j + k = 5 → x4_6 = hoN (fun p h => hfN (fun w => tP B n mask (nI p) (nI w)) 6 h) j h → x6_6 = nI j → VL g X 0 0 u 6 [(0, .ref (g.2.1 0)), (1, .long h), (3, .int mask), (4, .long x4_6), (6, .int x6_6)] [] := by
    intro k
    induction k with
    | zero =>
      rintro j x4_6 x6_6 hkj rfl rfl
      have hjn : j = 5 := by omega
      subst hjn
      refine r_iload F 4 rfl dX3_hashParts_6 ?_
      refine r_iconst (v := 5) F (by decide) dX3_hashParts_8 ?_
      refine r_icmp_ge F 50 (by decide) dX3_hashParts_9 (fun c_9_2 => ?_) (fun c_9_2 => absurd (by decide) c_9_2)
      clear c_9_2
      refine r_lload F 3 rfl dX3_hashParts_50 ?_
      exact hret _ _ _ _ _ _ (Nat.le_of_ble_eq_true rfl) (Nat.le_of_ble_eq_true rfl) ⟨rfl, rfl⟩ dX3_hashParts_52
    | succ k ih_6 =>
      rintro j x4_6 x6_6 hkj rfl rfl
      have hbj : j < 5 := by omega
      refine r_iload F 4 rfl dX3_hashParts_6 ?_
      refine r_iconst (v := 5) F (by decide) dX3_hashParts_8 ?_
      refine r_icmp_ge F 50 (by decide) dX3_hashParts_9 (fun c_9_3 => absurd c_9_3 (nI_ge (b := 5) hbj (by decide))) (fun c_9_3 => ?_)
      clear c_9_3
      refine r_iconst (v := 0) F (by decide) dX3_hashParts_12 ?_
      refine r_istore (lv' := [(0, .ref (g.2.1 0)), (1, .long h), (3, .int mask), (4, .long (hoN (fun p h => hfN (fun w => tP B n mask (nI p) (nI w)) 6 h) j h)), (6, .int (nI j)), (7, .int 0)]) F (by decide) rfl dX3_hashParts_13 ?_
      have loop_15 : ∀ (k : Nat) (q : Nat) (x4_15 : Int64) (x7_15 : Int32), q + k = 6 → x4_15 = hfN (fun w => tP B n mask (nI j) (nI w)) q (hoN (fun p h => hfN (fun w => tP B n mask (nI p) (nI w)) 6 h) j h) → x7_15 = nI q → VL g X 0 0 u 15 [(0, .ref (g.2.1 0)), (1, .long h), (3, .int mask), (4, .long x4_15), (6, .int (nI j)), (7, .int x7_15)] [] := by
        intro k
        induction k with
        | zero =>
          rintro q x4_15 x7_15 hkq rfl rfl
          have hjnq : q = 6 := by omega
          subst hjnq
          refine r_iload F 5 rfl dX3_hashParts_15 ?_
          refine r_iconst (v := 5) F (by decide) dX3_hashParts_17 ?_
          refine r_icmp_gt F 44 (by decide) dX3_hashParts_18 (fun c_18_5 => ?_) (fun c_18_5 => absurd (by decide) c_18_5)
          clear c_18_5
          refine r_iinc (lv' := [(0, .ref (g.2.1 0)), (1, .long h), (3, .int mask), (4, .long (hfN (fun w => tP B n mask (nI j) (nI w)) 6 (hoN (fun p h => hfN (fun w => tP B n mask (nI p) (nI w)) 6 h) j h))), (6, .int (nI (j + 1))), (7, .int (nI 6))]) F 4 rfl (nI_inc _) (by decide) rfl dX3_hashParts_44 ?_
          refine r_goto F 6 (by decide) dX3_hashParts_47 ?_
          refine r_lv (lv2 := [(0, .ref (g.2.1 0)), (1, .long h), (3, .int mask), (4, .long (hfN (fun w => tP B n mask (nI j) (nI w)) 6 (hoN (fun p h => hfN (fun w => tP B n mask (nI p) (nI w)) 6 h) j h))), (6, .int (nI (j + 1)))]) (by simp) ?_
          exact ih_6 (j + 1) _ _ (by omega) rfl rfl
        | succ k ih_15 =>
          rintro q x4_15 x7_15 hkq rfl rfl
          have hbq : q < 6 := by omega
          refine r_iload F 5 rfl dX3_hashParts_15 ?_
          refine r_iconst (v := 5) F (by decide) dX3_hashParts_17 ?_
          refine r_icmp_gt F 44 (by decide) dX3_hashParts_18 (fun c_18_6 => absurd c_18_6 (nI_nlt (a := 5) (by omega) (by decide))) (fun c_18_6 => ?_)
          clear c_18_6
          refine r_lload F 3 rfl dX3_hashParts_21 ?_
          refine r_aload_n F 0 rfl dX3_hashParts_23 ?_
          refine r_iload F 4 rfl dX3_hashParts_24 ?_
          refine r_iload F 5 rfl dX3_hashParts_26 ?_
          refine r_iload_n F 2 rfl dX3_hashParts_28 ?_
          refine r_calli (g_V (C := RX3) (T := TX3) (N := 4) (nA := 3) (As := [.int (nI j), .int (nI q), .int mask]) (rest := [.long (hfN (fun w => tP B n mask (nI j) (nI w)) q (hoN (fun p h => hfN (fun w => tP B n mask (nI p) (nI w)) 6 h) j h))]) F 0 hc.1 (by decide) rfl (c_X3_ofPart hc ) gX3_hashParts_X3_ofPart rfl (by decide +kernel) rfl ⟨Nat.le_of_ble_eq_true rfl, Nat.le_of_ble_eq_true rfl⟩ ⟨Nat.le_of_ble_eq_true rfl, Nat.le_of_ble_eq_true rfl⟩ rfl (Nat.le_of_ble_eq_true rfl) dX3_hashParts_29) (fun r_7 u_7 hp_7 => ?_)
          obtain ⟨rfl, rfl⟩ := hp_7
          refine r_i2l F rfl dX3_hashParts_32 ?_
          refine r_calll (g_S (nA := 2) (As := [.long (hfN (fun w => tP B n mask (nI j) (nI w)) q (hoN (fun p h => hfN (fun w => tP B n mask (nI p) (nI w)) 6 h) j h)), .long ((tP B n mask (nI j) (nI q)).toInt64)]) (rest := []) F (c_X3_mix) gX3_hashParts_X3_mix rfl (by decide +kernel) rfl ⟨Nat.le_of_ble_eq_true rfl, Nat.le_of_ble_eq_true rfl⟩ ⟨Nat.le_of_ble_eq_true rfl, Nat.le_of_ble_eq_true rfl⟩ rfl (Nat.le_of_ble_eq_true rfl) dX3_hashParts_33) (fun r_8 u_8 hp_8 => ?_)
          obtain ⟨rfl, rfl⟩ := hp_8
          refine r_lstore (lv' := [(0, .ref (g.2.1 0)), (1, .long h), (3, .int mask), (4, .long (mixL (hfN (fun w => tP B n mask (nI j) (nI w)) q (hoN (fun p h => hfN (fun w => tP B n mask (nI p) (nI w)) 6 h) j h)) ((tP B n mask (nI j) (nI q)).toInt64))), (6, .int (nI j)), (7, .int (nI q))]) F (by decide) rfl dX3_hashParts_36 ?_
          refine r_iinc (lv' := [(0, .ref (g.2.1 0)), (1, .long h), (3, .int mask), (4, .long (mixL (hfN (fun w => tP B n mask (nI j) (nI w)) q (hoN (fun p h => hfN (fun w => tP B n mask (nI p) (nI w)) 6 h) j h)) ((tP B n mask (nI j) (nI q)).toInt64))), (6, .int (nI j)), (7, .int (nI (q + 1)))]) F 5 rfl (nI_inc _) (by decide) rfl dX3_hashParts_38 ?_
          refine r_goto F 15 (by decide) dX3_hashParts_41 ?_
          exact ih_15 (q + 1) _ _ (by omega)  rfl rfl
      exact loop_15 6 0 _ _ (by omega)  rfl rfl
  exact loop_6 5 0 _ _ (by omega) rfl rfl
set_option maxHeartbeats 4000000 in
set_option maxRecDepth 100000 in
theorem c_X3_hashBoxes {g : kG} {l : Launch} {u : Nat → va_E} {n m t : Nat} {B : kB} {S : Nat → kS} {C : Nat → Int32} {h : Int64} {mask : Int32} (hc : CsB g u n B m S t C)  : CL g l yX3_hashBoxes wsX3_hashBoxes ({ frames := 5, cells := 0, slots := 0, locals := 114 }) [.ref (g.2.1 0), .long h, .int mask] u (fun r u' => r = hBox B n mask h ∧ CsB g u' n B m S t C ∧ ∀ j, 61 ≤ j → u' j = u j) := by
  refine CL.of (cc := cX3_hashBoxes) (nL := 9) (by decide +kernel) rfl (Nat.le_of_ble_eq_true rfl) ?_
  intro X hXl F hret
  subst hXl
  have hinX3 : ∀ w ∈ wsX30, w ∈ wsX3_hashBoxes := by decide +kernel
  obtain ⟨nx, hN⟩ := hc.2.2.2.1
  show VL g X 0 0 u 0 [(0, .ref (g.2.1 0)), (1, .long h), (3, .int mask)] []
  refine r_lload_n F 1 rfl dX3_hashBoxes_0 ?_
  refine r_lstore (lv' := [(0, .ref (g.2.1 0)), (1, .long h), (3, .int mask), (4, .long h)]) F (by decide) rfl dX3_hashBoxes_1 ?_
  refine r_aload_n F 0 rfl dX3_hashBoxes_3 ?_
  refine r_get (C := RX3) (T := TX3) (N := 4) F 0 hc.1 (by decide) hinX3 rfl 0 (by decide) (by decide +kernel) rfl dX3_hashBoxes_4 ?_
  refine r_calli (g_VN (C := RX0) (T := TX0) (N := 7) (nA := 0) (As := []) (rest := []) F 1 hc.2.1.obj (by decide) rfl (c_X0_size hc.2.1 (by decide) ) gX3_hashBoxes_X0_size_n54 rfl 9 rfl (by decide +kernel) (by decide +kernel) (by decide +kernel) (by decide +kernel) rfl ⟨Nat.le_of_ble_eq_true rfl, Nat.le_of_ble_eq_true rfl⟩ ⟨Nat.le_of_ble_eq_true rfl, Nat.le_of_ble_eq_true rfl⟩ rfl (Nat.le_of_ble_eq_true rfl) dX3_hashBoxes_7) (fun r_1 u_1 hp_1 => ?_)
  obtain ⟨rfl, rfl⟩ := hp_1
  refine r_istore (lv' := [(0, .ref (g.2.1 0)), (1, .long h), (3, .int mask), (4, .long h), (6, .int (nI n))]) F (by decide) rfl dX3_hashBoxes_10 ?_
  refine r_iconst (v := 0) F (by decide) dX3_hashBoxes_12 ?_
  refine r_istore (lv' := [(0, .ref (g.2.1 0)), (1, .long h), (3, .int mask), (4, .long h), (6, .int (nI n)), (7, .int 0)]) F (by decide) rfl dX3_hashBoxes_13 ?_
  have loop_15 : ∀ (k : Nat) (j : Nat) (w : Nat → va_E) (x4_15 : Int64) (x7_15 : Int32), j + k = n → CsB g w n B m S t C → (∀ j, 61 ≤ j → w j = u j) → x4_15 = hoN (hBox1 B n mask) j h → x7_15 = nI j → VL g X 0 0 w 15 [(0, .ref (g.2.1 0)), (1, .long h), (3, .int mask), (4, .long x4_15), (6, .int (nI n)), (7, .int x7_15)] [] := by
    intro k
    induction k with
    | zero =>
      rintro j w x4_15 x7_15 hkj hcw hfw rfl rfl
      obtain ⟨nx_3, hN_3⟩ := hcw.2.2.2.1
      have hjn : n = j := by omega
      subst hjn
      refine r_iload F 5 rfl dX3_hashBoxes_15 ?_
      refine r_iload F 4 rfl dX3_hashBoxes_17 ?_
      refine r_icmp_ge F 106 (by decide) dX3_hashBoxes_19 (fun c_19_4 => ?_) (fun c_19_4 => absurd (Int32.le_refl _) c_19_4)
      clear c_19_4
      refine r_lload F 3 rfl dX3_hashBoxes_106 ?_
      exact hret _ _ _ _ _ _ (Nat.le_of_ble_eq_true rfl) (Nat.le_of_ble_eq_true rfl) ⟨rfl, hcw, hfw⟩ dX3_hashBoxes_108
    | succ k ih_15 =>
      rintro j w x4_15 x7_15 hkj hcw hfw rfl rfl
      obtain ⟨nx_5, hN_5⟩ := hcw.2.2.2.1
      have hbj : j < n := by omega
      refine r_iload F 5 rfl dX3_hashBoxes_15 ?_
      refine r_iload F 4 rfl dX3_hashBoxes_17 ?_
      refine r_icmp_ge F 106 (by decide) dX3_hashBoxes_19 (fun c_19_6 => absurd c_19_6 (nI_ge (b := n) hbj (by have := hc.2.1.le; omega))) (fun c_19_6 => ?_)
      clear c_19_6
      refine r_iconst (v := 0) F (by decide) dX3_hashBoxes_22 ?_
      refine r_istore (lv' := [(0, .ref (g.2.1 0)), (1, .long h), (3, .int mask), (4, .long (hoN (hBox1 B n mask) j h)), (6, .int (nI n)), (7, .int (nI j)), (8, .int 0)]) F (by decide) rfl dX3_hashBoxes_23 ?_
      have loop_25 : ∀ (k : Nat) (q : Nat) (w2 : Nat → va_E) (x4_25 : Int64) (x8_25 : Int32), q + k = 8 → CsB g w2 n B m S t C → (∀ j, 61 ≤ j → w2 j = u j) → x4_25 = hfN (fun w => tB B mask j (nI w)) q (hoN (hBox1 B n mask) j h) → x8_25 = nI q → VL g X 0 0 w2 25 [(0, .ref (g.2.1 0)), (1, .long h), (3, .int mask), (4, .long x4_25), (6, .int (nI n)), (7, .int (nI j)), (8, .int x8_25)] [] := by
        intro k
        induction k with
        | zero =>
          rintro q w2 x4_25 x8_25 hkq hcw2 hfw2 rfl rfl
          obtain ⟨nx_8, hN_8⟩ := hcw2.2.2.2.1
          have hjnq : q = 8 := by omega
          subst hjnq
          refine r_iload F 6 rfl dX3_hashBoxes_25 ?_
          refine r_bipush (v := 7) F (by decide) dX3_hashBoxes_27 ?_
          refine r_icmp_gt F 55 (by decide) dX3_hashBoxes_29 (fun c_29_9 => ?_) (fun c_29_9 => absurd (by decide) c_29_9)
          clear c_29_9
          refine r_aload_n F 0 rfl dX3_hashBoxes_55 ?_
          refine r_get (C := RX3) (T := TX3) (N := 4) F 0 hcw2.1 (by decide) hinX3 rfl 0 (by decide) (by decide +kernel) rfl dX3_hashBoxes_56 ?_
          refine r_iload F 5 rfl dX3_hashBoxes_59 ?_
          refine r_calli (g_VN (C := RX0) (T := TX0) (N := 7) (nA := 1) (As := [.int (nI j)]) (rest := []) F 1 hcw2.2.1.obj (by decide) rfl (c_X0_kindOf hcw2.2.1 (by decide) hbj) gX3_hashBoxes_X0_kindOf_n65 rfl 25 rfl (by decide +kernel) (by decide +kernel) (by decide +kernel) (by decide +kernel) rfl ⟨Nat.le_of_ble_eq_true rfl, Nat.le_of_ble_eq_true rfl⟩ ⟨Nat.le_of_ble_eq_true rfl, Nat.le_of_ble_eq_true rfl⟩ rfl (Nat.le_of_ble_eq_true rfl) dX3_hashBoxes_61) (fun r_10 u_10 hp_10 => ?_)
          obtain ⟨rfl, rfl⟩ := hp_10
          refine r_iconst (v := 3) F (by decide) dX3_hashBoxes_64 ?_
          refine r_icmp_eq F 100 (by decide) dX3_hashBoxes_65 (fun c_65_11 => ?_) (fun c_65_11 => ?_)
          · skip
            refine r_iinc (lv' := [(0, .ref (g.2.1 0)), (1, .long h), (3, .int mask), (4, .long (hfN (fun w => tB B mask j (nI w)) 8 (hoN (hBox1 B n mask) j h))), (6, .int (nI n)), (7, .int (nI (j + 1))), (8, .int (nI 8))]) F 5 rfl (nI_inc _) (by decide) rfl dX3_hashBoxes_100 ?_
            refine r_goto F 15 (by decide) dX3_hashBoxes_103 ?_
            refine r_lv (lv2 := [(0, .ref (g.2.1 0)), (1, .long h), (3, .int mask), (4, .long (hfN (fun w => tB B mask j (nI w)) 8 (hoN (hBox1 B n mask) j h))), (6, .int (nI n)), (7, .int (nI (j + 1)))]) (by simp) ?_
            exact ih_15 (j + 1) _ _ _ (by omega) hcw2 (fun j hj => hfw2 j (by omega)) (by simp [hoN, hBox1, c_65_11]) rfl
          · skip
            refine r_iconst (v := 0) F (by decide) dX3_hashBoxes_68 ?_
            refine r_istore (lv' := [(0, .ref (g.2.1 0)), (1, .long h), (3, .int mask), (4, .long (hfN (fun w => tB B mask j (nI w)) 8 (hoN (hBox1 B n mask) j h))), (6, .int (nI n)), (7, .int (nI j)), (8, .int 0)]) F (by decide) rfl dX3_hashBoxes_69 ?_
            have loop_71 : ∀ (k : Nat) (q : Nat) (w3 : Nat → va_E) (x4_71 : Int64) (x8_71 : Int32), q + k = 3 → CsB g w3 n B m S t C → (∀ j, 61 ≤ j → w3 j = u j) → x4_71 = hfN (fun w => tT B n j (-1) (nI w)) q (hfN (fun w => tB B mask j (nI w)) 8 (hoN (hBox1 B n mask) j h)) → x8_71 = nI q → VL g X 0 0 w3 71 [(0, .ref (g.2.1 0)), (1, .long h), (3, .int mask), (4, .long x4_71), (6, .int (nI n)), (7, .int (nI j)), (8, .int x8_71)] [] := by
              intro k
              induction k with
              | zero =>
                rintro q w3 x4_71 x8_71 hkq hcw3 hfw3 rfl rfl
                obtain ⟨nx_13, hN_13⟩ := hcw3.2.2.2.1
                have hjnq : q = 3 := by omega
                subst hjnq
                refine r_iload F 6 rfl dX3_hashBoxes_71 ?_
                refine r_iconst (v := 2) F (by decide) dX3_hashBoxes_73 ?_
                refine r_icmp_gt F 100 (by decide) dX3_hashBoxes_74 (fun c_74_14 => ?_) (fun c_74_14 => absurd (by decide) c_74_14)
                clear c_74_14
                refine r_iinc (lv' := [(0, .ref (g.2.1 0)), (1, .long h), (3, .int mask), (4, .long (hfN (fun w => tT B n j (-1) (nI w)) 3 (hfN (fun w => tB B mask j (nI w)) 8 (hoN (hBox1 B n mask) j h)))), (6, .int (nI n)), (7, .int (nI (j + 1))), (8, .int (nI 3))]) F 5 rfl (nI_inc _) (by decide) rfl dX3_hashBoxes_100 ?_
                refine r_goto F 15 (by decide) dX3_hashBoxes_103 ?_
                refine r_lv (lv2 := [(0, .ref (g.2.1 0)), (1, .long h), (3, .int mask), (4, .long (hfN (fun w => tT B n j (-1) (nI w)) 3 (hfN (fun w => tB B mask j (nI w)) 8 (hoN (hBox1 B n mask) j h)))), (6, .int (nI n)), (7, .int (nI (j + 1)))]) (by simp) ?_
                exact ih_15 (j + 1) _ _ _ (by omega) hcw3 (fun j hj => hfw3 j (by omega)) (by simp [hoN, hBox1, c_65_11]) rfl
              | succ k ih_71 =>
                rintro q w3 x4_71 x8_71 hkq hcw3 hfw3 rfl rfl
                obtain ⟨nx_15, hN_15⟩ := hcw3.2.2.2.1
                have hbq : q < 3 := by omega
                refine r_iload F 6 rfl dX3_hashBoxes_71 ?_
                refine r_iconst (v := 2) F (by decide) dX3_hashBoxes_73 ?_
                refine r_icmp_gt F 100 (by decide) dX3_hashBoxes_74 (fun c_74_16 => absurd c_74_16 (nI_nlt (a := 2) (by omega) (by decide))) (fun c_74_16 => ?_)
                clear c_74_16
                refine r_lload F 3 rfl dX3_hashBoxes_77 ?_
                refine r_aload_n F 0 rfl dX3_hashBoxes_79 ?_
                refine r_iload F 5 rfl dX3_hashBoxes_80 ?_
                refine r_iconst (v := -1) F (by decide) dX3_hashBoxes_82 ?_
                refine r_iload F 6 rfl dX3_hashBoxes_83 ?_
                refine r_calli (g_V (C := RX3) (T := TX3) (N := 4) (nA := 3) (As := [.int (nI j), .int (-1), .int (nI q)]) (rest := [.long (hfN (fun w => tT B n j (-1) (nI w)) q (hfN (fun w => tB B mask j (nI w)) 8 (hoN (hBox1 B n mask) j h)))]) F 0 hcw3.1 (by decide) rfl (c_X3_ofTrial hcw3 hbj) gX3_hashBoxes_X3_ofTrial rfl (by decide +kernel) rfl ⟨Nat.le_of_ble_eq_true rfl, Nat.le_of_ble_eq_true rfl⟩ ⟨Nat.le_of_ble_eq_true rfl, Nat.le_of_ble_eq_true rfl⟩ rfl (Nat.le_of_ble_eq_true rfl) dX3_hashBoxes_85) (fun r_17 u_17 hp_17 => ?_)
                obtain ⟨er_17, hc_17, hk_17⟩ := hp_17
                subst er_17
                obtain ⟨nx_18, hN_18⟩ := hc_17.2.2.2.1
                refine r_i2l F rfl dX3_hashBoxes_88 ?_
                refine r_calll (g_S (nA := 2) (As := [.long (hfN (fun w => tT B n j (-1) (nI w)) q (hfN (fun w => tB B mask j (nI w)) 8 (hoN (hBox1 B n mask) j h))), .long ((tT B n j (-1) (nI q)).toInt64)]) (rest := []) F (c_X3_mix) gX3_hashBoxes_X3_mix rfl (by decide +kernel) rfl ⟨Nat.le_of_ble_eq_true rfl, Nat.le_of_ble_eq_true rfl⟩ ⟨Nat.le_of_ble_eq_true rfl, Nat.le_of_ble_eq_true rfl⟩ rfl (Nat.le_of_ble_eq_true rfl) dX3_hashBoxes_89) (fun r_19 u_19 hp_19 => ?_)
                obtain ⟨rfl, rfl⟩ := hp_19
                refine r_lstore (lv' := [(0, .ref (g.2.1 0)), (1, .long h), (3, .int mask), (4, .long (mixL (hfN (fun w => tT B n j (-1) (nI w)) q (hfN (fun w => tB B mask j (nI w)) 8 (hoN (hBox1 B n mask) j h))) ((tT B n j (-1) (nI q)).toInt64))), (6, .int (nI n)), (7, .int (nI j)), (8, .int (nI q))]) F (by decide) rfl dX3_hashBoxes_92 ?_
                refine r_iinc (lv' := [(0, .ref (g.2.1 0)), (1, .long h), (3, .int mask), (4, .long (mixL (hfN (fun w => tT B n j (-1) (nI w)) q (hfN (fun w => tB B mask j (nI w)) 8 (hoN (hBox1 B n mask) j h))) ((tT B n j (-1) (nI q)).toInt64))), (6, .int (nI n)), (7, .int (nI j)), (8, .int (nI (q + 1)))]) F 6 rfl (nI_inc _) (by decide) rfl dX3_hashBoxes_94 ?_
                refine r_goto F 71 (by decide) dX3_hashBoxes_97 ?_
                exact ih_71 (q + 1) _ _ _ (by omega) hc_17 (fun j hj => (hk_17 j (by omega)).trans (hfw3 j (by omega))) rfl rfl
            exact loop_71 3 0 _ _ _ (by omega) hcw2 (fun j hj => hfw2 j (by omega)) rfl rfl
        | succ k ih_25 =>
          rintro q w2 x4_25 x8_25 hkq hcw2 hfw2 rfl rfl
          obtain ⟨nx_20, hN_20⟩ := hcw2.2.2.2.1
          have hbq : q < 8 := by omega
          refine r_iload F 6 rfl dX3_hashBoxes_25 ?_
          refine r_bipush (v := 7) F (by decide) dX3_hashBoxes_27 ?_
          refine r_icmp_gt F 55 (by decide) dX3_hashBoxes_29 (fun c_29_21 => absurd c_29_21 (nI_nlt (a := 7) (by omega) (by decide))) (fun c_29_21 => ?_)
          clear c_29_21
          refine r_lload F 3 rfl dX3_hashBoxes_32 ?_
          refine r_aload_n F 0 rfl dX3_hashBoxes_34 ?_
          refine r_iload F 5 rfl dX3_hashBoxes_35 ?_
          refine r_iload F 6 rfl dX3_hashBoxes_37 ?_
          refine r_iload_n F 2 rfl dX3_hashBoxes_39 ?_
          refine r_calli (g_V (C := RX3) (T := TX3) (N := 4) (nA := 3) (As := [.int (nI j), .int (nI q), .int mask]) (rest := [.long (hfN (fun w => tB B mask j (nI w)) q (hoN (hBox1 B n mask) j h))]) F 0 hcw2.1 (by decide) rfl (c_X3_ofBox hcw2 hbj) gX3_hashBoxes_X3_ofBox rfl (by decide +kernel) rfl ⟨Nat.le_of_ble_eq_true rfl, Nat.le_of_ble_eq_true rfl⟩ ⟨Nat.le_of_ble_eq_true rfl, Nat.le_of_ble_eq_true rfl⟩ rfl (Nat.le_of_ble_eq_true rfl) dX3_hashBoxes_40) (fun r_22 u_22 hp_22 => ?_)
          obtain ⟨er_22, hc_22, hk_22⟩ := hp_22
          subst er_22
          obtain ⟨nx_23, hN_23⟩ := hc_22.2.2.2.1
          refine r_i2l F rfl dX3_hashBoxes_43 ?_
          refine r_calll (g_S (nA := 2) (As := [.long (hfN (fun w => tB B mask j (nI w)) q (hoN (hBox1 B n mask) j h)), .long ((tB B mask j (nI q)).toInt64)]) (rest := []) F (c_X3_mix) gX3_hashBoxes_X3_mix rfl (by decide +kernel) rfl ⟨Nat.le_of_ble_eq_true rfl, Nat.le_of_ble_eq_true rfl⟩ ⟨Nat.le_of_ble_eq_true rfl, Nat.le_of_ble_eq_true rfl⟩ rfl (Nat.le_of_ble_eq_true rfl) dX3_hashBoxes_44) (fun r_24 u_24 hp_24 => ?_)
          obtain ⟨rfl, rfl⟩ := hp_24
          refine r_lstore (lv' := [(0, .ref (g.2.1 0)), (1, .long h), (3, .int mask), (4, .long (mixL (hfN (fun w => tB B mask j (nI w)) q (hoN (hBox1 B n mask) j h)) ((tB B mask j (nI q)).toInt64))), (6, .int (nI n)), (7, .int (nI j)), (8, .int (nI q))]) F (by decide) rfl dX3_hashBoxes_47 ?_
          refine r_iinc (lv' := [(0, .ref (g.2.1 0)), (1, .long h), (3, .int mask), (4, .long (mixL (hfN (fun w => tB B mask j (nI w)) q (hoN (hBox1 B n mask) j h)) ((tB B mask j (nI q)).toInt64))), (6, .int (nI n)), (7, .int (nI j)), (8, .int (nI (q + 1)))]) F 6 rfl (nI_inc _) (by decide) rfl dX3_hashBoxes_49 ?_
          refine r_goto F 25 (by decide) dX3_hashBoxes_52 ?_
          exact ih_25 (q + 1) _ _ _ (by omega) hc_22 (fun j hj => (hk_22 j (by omega)).trans (hfw2 j (by omega))) rfl rfl
      exact loop_25 8 0 _ _ _ (by omega) hcw (fun j hj => hfw j (by omega)) rfl rfl
  exact loop_15 n 0 u _ _ (by omega) hc (fun j _ => rfl) rfl rfl

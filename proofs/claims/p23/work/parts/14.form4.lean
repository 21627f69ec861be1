set_option maxHeartbeats 4000000 in
set_option maxRecDepth 100000 in
theorem c_J6_bitCount_0f7a4 {g : kG} {l : Launch} {u : Nat → va_E} {x : Int32}  : CI g l yJ6_bitCount_0f7a4 wsJ6_bitCount_0f7a4 ({ frames := 0, cells := 0, slots := 0, locals := 0 }) [.int x] u (fun r u' => r = bitC x ∧ u = u') := by
  refine CI.of (cc := cJ6_bitCount_0f7a4) (nL := 1) (ty := .int) (by decide +kernel) rfl (fun _ _ _ => rfl) (Nat.le_of_ble_eq_true rfl) ?_
  intro X hXl F hret
  subst hXl
  show VL g X 0 0 u 0 [(0, .int x)] []
  refine r_iload_n F 0 rfl dJ6_bitCount_0f7a4_0 ?_
  refine r_iload_n F 0 rfl dJ6_bitCount_0f7a4_1 ?_
  refine r_iconst (v := 1) F (by decide) dJ6_bitCount_0f7a4_2 ?_
  refine r_iushr F rfl dJ6_bitCount_0f7a4_3 ?_
  refine r_ldcw (v := 1431655765) F (by decide +kernel) dJ6_bitCount_0f7a4_4 ?_
  refine r_iand F dJ6_bitCount_0f7a4_7 ?_
  refine r_isub F dJ6_bitCount_0f7a4_8 ?_
  refine r_named (fun y_1 ey_1 => ?_)
  refine r_istore_n (lv' := [(0, .int y_1)]) F (by decide) rfl dJ6_bitCount_0f7a4_9 ?_
  refine r_iload_n F 0 rfl dJ6_bitCount_0f7a4_10 ?_
  refine r_ldcw (v := 858993459) F (by decide +kernel) dJ6_bitCount_0f7a4_11 ?_
  refine r_iand F dJ6_bitCount_0f7a4_14 ?_
  refine r_iload_n F 0 rfl dJ6_bitCount_0f7a4_15 ?_
  refine r_iconst (v := 2) F (by decide) dJ6_bitCount_0f7a4_16 ?_
  refine r_iushr F rfl dJ6_bitCount_0f7a4_17 ?_
  refine r_ldcw (v := 858993459) F (by decide +kernel) dJ6_bitCount_0f7a4_18 ?_
  refine r_iand F dJ6_bitCount_0f7a4_21 ?_
  refine r_iadd F dJ6_bitCount_0f7a4_22 ?_
  refine r_named (fun y_2 ey_2 => ?_)
  refine r_istore_n (lv' := [(0, .int y_2)]) F (by decide) rfl dJ6_bitCount_0f7a4_23 ?_
  refine r_iload_n F 0 rfl dJ6_bitCount_0f7a4_24 ?_
  refine r_iload_n F 0 rfl dJ6_bitCount_0f7a4_25 ?_
  refine r_iconst (v := 4) F (by decide) dJ6_bitCount_0f7a4_26 ?_
  refine r_iushr F rfl dJ6_bitCount_0f7a4_27 ?_
  refine r_iadd F dJ6_bitCount_0f7a4_28 ?_
  refine r_ldcw (v := 252645135) F (by decide +kernel) dJ6_bitCount_0f7a4_29 ?_
  refine r_iand F dJ6_bitCount_0f7a4_32 ?_
  refine r_named (fun y_3 ey_3 => ?_)
  refine r_istore_n (lv' := [(0, .int y_3)]) F (by decide) rfl dJ6_bitCount_0f7a4_33 ?_
  refine r_iload_n F 0 rfl dJ6_bitCount_0f7a4_34 ?_
  refine r_iload_n F 0 rfl dJ6_bitCount_0f7a4_35 ?_
  refine r_bipush (v := 8) F (by decide) dJ6_bitCount_0f7a4_36 ?_
  refine r_iushr F rfl dJ6_bitCount_0f7a4_38 ?_
  refine r_iadd F dJ6_bitCount_0f7a4_39 ?_
  refine r_named (fun y_4 ey_4 => ?_)
  refine r_istore_n (lv' := [(0, .int y_4)]) F (by decide) rfl dJ6_bitCount_0f7a4_40 ?_
  refine r_iload_n F 0 rfl dJ6_bitCount_0f7a4_41 ?_
  refine r_iload_n F 0 rfl dJ6_bitCount_0f7a4_42 ?_
  refine r_bipush (v := 16) F (by decide) dJ6_bitCount_0f7a4_43 ?_
  refine r_iushr F rfl dJ6_bitCount_0f7a4_45 ?_
  refine r_iadd F dJ6_bitCount_0f7a4_46 ?_
  refine r_named (fun y_5 ey_5 => ?_)
  refine r_istore_n (lv' := [(0, .int y_5)]) F (by decide) rfl dJ6_bitCount_0f7a4_47 ?_
  refine r_iload_n F 0 rfl dJ6_bitCount_0f7a4_48 ?_
  refine r_bipush (v := 63) F (by decide) dJ6_bitCount_0f7a4_49 ?_
  refine r_iand F dJ6_bitCount_0f7a4_51 ?_
  exact hret _ _ _ _ _ _ (Nat.le_of_ble_eq_true rfl) (Nat.le_of_ble_eq_true rfl) ⟨by subst ey_1; subst ey_2; subst ey_3; subst ey_4; subst ey_5; rfl, rfl⟩ dJ6_bitCount_0f7a4_52
set_option maxHeartbeats 4000000 in
set_option maxRecDepth 100000 in
theorem c_X0_totalsOver {g : kG} {l : Launch} {u : Nat → va_E} {i n : Nat} {B : kB} {b : Nat} (h : FmB g u i n B) (hi : i + 7 ≤ kN) (hb : b < n) : CI g l yX0_totalsOver wsX0_totalsOver ({ frames := 1, cells := 0, slots := 0, locals := 21 }) [.ref (g.2.1 i), .int (nI b)] u (fun r u' => r = bitC (carN B b n) ∧ u = u') := by
  refine CI.of (cc := cX0_totalsOver) (nL := 6) (ty := .int) (by decide +kernel) rfl (fun _ _ _ => rfl) (Nat.le_of_ble_eq_true rfl) ?_
  intro X hXl F hret
  subst hXl
  have hinX0 : ∀ w ∈ wsX00, w ∈ wsX0_totalsOver := by decide +kernel
  show VL g X 0 0 u 0 [(0, .ref (g.2.1 i)), (1, .int (nI b))] []
  refine r_iconst (v := 0) F (by decide) dX0_totalsOver_0 ?_
  refine r_istore_n (lv' := [(0, .ref (g.2.1 i)), (1, .int (nI b)), (2, .int 0)]) F (by decide) rfl dX0_totalsOver_1 ?_
  refine r_iload_n F 1 rfl dX0_totalsOver_2 ?_
  refine r_iconst (v := 1) F (by decide) dX0_totalsOver_3 ?_
  refine r_iadd F dX0_totalsOver_4 ?_
  refine r_istore_n (lv' := [(0, .ref (g.2.1 i)), (1, .int (nI b)), (2, .int 0), (3, .int ((nI b) + 1))]) F (by decide) rfl dX0_totalsOver_5 ?_
  have loop_6 : ∀ (k : Nat) (j : Nat) (x2_6 : Int32) (x3_6 : Int32), j + k = n → b < j → x2_6 = carN B b j → x3_6 = nI j → VL g X 0 0 u 6 [(0, .ref (g.2.1 i)), (1, .int (nI b)), (2, .int x2_6), (3, .int x3_6)] [] := by
    intro k
    induction k with
    | zero =>
      rintro j x2_6 x3_6 hk hbj rfl rfl
      have hjn : n = j := by omega
      subst hjn
      refine r_iload_n F 3 rfl dX0_totalsOver_6 ?_
      refine r_aload_n F 0 rfl dX0_totalsOver_7 ?_
      refine r_get (C := RX0) (T := TX0) (N := 7) F i h.obj (by omega) hinX0 rfl 6 (by decide) (by decide +kernel) rfl dX0_totalsOver_8 ?_
      refine r_icmp_ge F 76 (by decide) dX0_totalsOver_11 (fun c_11_2 => ?_) (fun c_11_2 => absurd (Int32.le_refl _) c_11_2)
      clear c_11_2
      refine r_iload_n F 2 rfl dX0_totalsOver_76 ?_
      refine r_calli (g_S (nA := 1) (As := [.int (carN B b n)]) (rest := []) F (c_J6_bitCount_0f7a4) gX0_totalsOver_J6_bitCount_0f7a4 rfl (by decide +kernel) rfl ⟨Nat.le_of_ble_eq_true rfl, Nat.le_of_ble_eq_true rfl⟩ ⟨Nat.le_of_ble_eq_true rfl, Nat.le_of_ble_eq_true rfl⟩ rfl (Nat.le_of_ble_eq_true rfl) dX0_totalsOver_77) (fun r_3 u_3 hp_3 => ?_)
      obtain ⟨rfl, rfl⟩ := hp_3
      exact hret _ _ _ _ _ _ (Nat.le_of_ble_eq_true rfl) (Nat.le_of_ble_eq_true rfl) ⟨by rfl, rfl⟩ dX0_totalsOver_80
    | succ k ih_6 =>
      rintro j x2_6 x3_6 hk hbj rfl rfl
      have hjn : j < n := by omega
      refine r_iload_n F 3 rfl dX0_totalsOver_6 ?_
      refine r_aload_n F 0 rfl dX0_totalsOver_7 ?_
      refine r_get (C := RX0) (T := TX0) (N := 7) F i h.obj (by omega) hinX0 rfl 6 (by decide) (by decide +kernel) rfl dX0_totalsOver_8 ?_
      refine r_icmp_ge F 76 (by decide) dX0_totalsOver_11 (fun c_11_4 => absurd c_11_4 (nI_ge (b := n) hjn (by have := h.le; omega))) (fun c_11_4 => ?_)
      clear c_11_4
      refine r_aload_n F 0 rfl dX0_totalsOver_14 ?_
      refine r_get (C := RX0) (T := TX0) (N := 7) F i h.obj (by omega) hinX0 rfl 2 (by decide) (by decide +kernel) rfl dX0_totalsOver_15 ?_
      refine r_iload_n F 3 rfl dX0_totalsOver_18 ?_
      refine r_calli (g_SN (nA := 2) (As := [.ref (g.2.1 (i + 3)), .int (nI j)]) (rest := []) F (c_atB2 h hi hjn) gX0_totalsOver_X3_at_n34 rfl 6 rfl (by decide +kernel) (by decide +kernel) (by decide +kernel) rfl ⟨Nat.le_of_ble_eq_true rfl, Nat.le_of_ble_eq_true rfl⟩ ⟨Nat.le_of_ble_eq_true rfl, Nat.le_of_ble_eq_true rfl⟩ rfl (Nat.le_of_ble_eq_true rfl) dX0_totalsOver_19) (fun r_5 u_5 hp_5 => ?_)
      obtain ⟨rfl, rfl⟩ := hp_5
      refine r_istore (lv' := [(0, .ref (g.2.1 i)), (1, .int (nI b)), (2, .int (carN B b j)), (3, .int (nI j)), (4, .int (B j 2))]) F (by decide) rfl dX0_totalsOver_22 ?_
      refine r_iload_n F 1 rfl dX0_totalsOver_24 ?_
      refine r_iload F 4 rfl dX0_totalsOver_25 ?_
      refine r_calli (g_SN (nA := 2) (As := [.int (nI b), .int (B j 2)]) (rest := []) F (c_X3_isInMask) gX0_totalsOver_X3_isInMask_n70 rfl 17 rfl (by decide +kernel) (by decide +kernel) (by decide +kernel) rfl ⟨Nat.le_of_ble_eq_true rfl, Nat.le_of_ble_eq_true rfl⟩ ⟨Nat.le_of_ble_eq_true rfl, Nat.le_of_ble_eq_true rfl⟩ rfl (Nat.le_of_ble_eq_true rfl) dX0_totalsOver_27) (fun r_6 u_6 hp_6 => ?_)
      obtain ⟨rfl, rfl⟩ := hp_6
      refine r_if_ne F 40 (by decide) dX0_totalsOver_30 (fun c_30_7 => ?_) (fun c_30_7 => ?_)
      · skip
        replace c_30_7 := bI1 c_30_7
        refine r_iconst (v := 1) F (by decide) dX0_totalsOver_40 ?_
        refine r_goto F 45 (by decide) dX0_totalsOver_41 ?_
        refine r_istore (lv' := [(0, .ref (g.2.1 i)), (1, .int (nI b)), (2, .int (carN B b j)), (3, .int (nI j)), (4, .int (B j 2)), (5, .int 1)]) F (by decide) rfl dX0_totalsOver_45 ?_
        refine r_aload_n F 0 rfl dX0_totalsOver_47 ?_
        refine r_get (C := RX0) (T := TX0) (N := 7) F i h.obj (by omega) hinX0 rfl 0 (by decide) (by decide +kernel) rfl dX0_totalsOver_48 ?_
        refine r_iload_n F 3 rfl dX0_totalsOver_51 ?_
        refine r_calli (g_SN (nA := 2) (As := [.ref (g.2.1 (i + 1)), .int (nI j)]) (rest := []) F (c_atB0 h hi hjn) gX0_totalsOver_X3_at_n34 rfl 6 rfl (by decide +kernel) (by decide +kernel) (by decide +kernel) rfl ⟨Nat.le_of_ble_eq_true rfl, Nat.le_of_ble_eq_true rfl⟩ ⟨Nat.le_of_ble_eq_true rfl, Nat.le_of_ble_eq_true rfl⟩ rfl (Nat.le_of_ble_eq_true rfl) dX0_totalsOver_52) (fun r_8 u_8 hp_8 => ?_)
        obtain ⟨rfl, rfl⟩ := hp_8
        refine r_iconst (v := 3) F (by decide) dX0_totalsOver_55 ?_
        refine r_icmp_ne F 70 (by decide) dX0_totalsOver_56 (fun c_56_9 => ?_) (fun c_56_9 => ?_)
        · skip
          refine r_iinc (lv' := [(0, .ref (g.2.1 i)), (1, .int (nI b)), (2, .int (carN B b j)), (3, .int (nI (j + 1))), (4, .int (B j 2)), (5, .int 1)]) F 3 rfl (nI_inc _) (by decide) rfl dX0_totalsOver_70 ?_
          refine r_goto F 6 (by decide) dX0_totalsOver_73 ?_
          refine r_lv (lv2 := [(0, .ref (g.2.1 i)), (1, .int (nI b)), (2, .int (carN B b j)), (3, .int (nI (j + 1)))]) (by simp) ?_
          exact ih_6 (j + 1) _ _ (by omega) (by omega) (by simp [carN, qCar, show ¬ j ≤ b by omega, c_30_7, c_56_9]) rfl
        · skip
          refine r_iload F 5 rfl dX0_totalsOver_59 ?_
          refine r_if_eq F 70 (by decide) dX0_totalsOver_61 (fun c_61_10 => absurd c_61_10 (by decide)) (fun c_61_10 => ?_)
          clear c_61_10
          refine r_iload_n F 2 rfl dX0_totalsOver_64 ?_
          refine r_iconst (v := 1) F (by decide) dX0_totalsOver_65 ?_
          refine r_iload_n F 3 rfl dX0_totalsOver_66 ?_
          refine r_ishl F dX0_totalsOver_67 ?_
          refine r_ior F dX0_totalsOver_68 ?_
          refine r_istore_n (lv' := [(0, .ref (g.2.1 i)), (1, .int (nI b)), (2, .int ((carN B b j) ||| ((1 : Int32) <<< ((nI j) &&& 31)))), (3, .int (nI j)), (4, .int (B j 2)), (5, .int 1)]) F (by decide) rfl dX0_totalsOver_69 ?_
          refine r_iinc (lv' := [(0, .ref (g.2.1 i)), (1, .int (nI b)), (2, .int ((carN B b j) ||| ((1 : Int32) <<< ((nI j) &&& 31)))), (3, .int (nI (j + 1))), (4, .int (B j 2)), (5, .int 1)]) F 3 rfl (nI_inc _) (by decide) rfl dX0_totalsOver_70 ?_
          refine r_goto F 6 (by decide) dX0_totalsOver_73 ?_
          refine r_lv (lv2 := [(0, .ref (g.2.1 i)), (1, .int (nI b)), (2, .int ((carN B b j) ||| ((1 : Int32) <<< ((nI j) &&& 31)))), (3, .int (nI (j + 1)))]) (by simp) ?_
          exact ih_6 (j + 1) _ _ (by omega) (by omega) (by simp [carN, qCar, show ¬ j ≤ b by omega, c_30_7, c_56_9]) rfl
      · skip
        replace c_30_7 := bI0 c_30_7
        refine r_iload F 4 rfl dX0_totalsOver_33 ?_
        refine r_iload_n F 2 rfl dX0_totalsOver_35 ?_
        refine r_iand F dX0_totalsOver_36 ?_
        refine r_if_eq F 44 (by decide) dX0_totalsOver_37 (fun c_37_11 => ?_) (fun c_37_11 => ?_)
        · skip
          refine r_iconst (v := 0) F (by decide) dX0_totalsOver_44 ?_
          refine r_istore (lv' := [(0, .ref (g.2.1 i)), (1, .int (nI b)), (2, .int (carN B b j)), (3, .int (nI j)), (4, .int (B j 2)), (5, .int 0)]) F (by decide) rfl dX0_totalsOver_45 ?_
          refine r_aload_n F 0 rfl dX0_totalsOver_47 ?_
          refine r_get (C := RX0) (T := TX0) (N := 7) F i h.obj (by omega) hinX0 rfl 0 (by decide) (by decide +kernel) rfl dX0_totalsOver_48 ?_
          refine r_iload_n F 3 rfl dX0_totalsOver_51 ?_
          refine r_calli (g_SN (nA := 2) (As := [.ref (g.2.1 (i + 1)), .int (nI j)]) (rest := []) F (c_atB0 h hi hjn) gX0_totalsOver_X3_at_n34 rfl 6 rfl (by decide +kernel) (by decide +kernel) (by decide +kernel) rfl ⟨Nat.le_of_ble_eq_true rfl, Nat.le_of_ble_eq_true rfl⟩ ⟨Nat.le_of_ble_eq_true rfl, Nat.le_of_ble_eq_true rfl⟩ rfl (Nat.le_of_ble_eq_true rfl) dX0_totalsOver_52) (fun r_12 u_12 hp_12 => ?_)
          obtain ⟨rfl, rfl⟩ := hp_12
          refine r_iconst (v := 3) F (by decide) dX0_totalsOver_55 ?_
          refine r_icmp_ne F 70 (by decide) dX0_totalsOver_56 (fun c_56_13 => ?_) (fun c_56_13 => ?_)
          · skip
            refine r_iinc (lv' := [(0, .ref (g.2.1 i)), (1, .int (nI b)), (2, .int (carN B b j)), (3, .int (nI (j + 1))), (4, .int (B j 2)), (5, .int 0)]) F 3 rfl (nI_inc _) (by decide) rfl dX0_totalsOver_70 ?_
            refine r_goto F 6 (by decide) dX0_totalsOver_73 ?_
            refine r_lv (lv2 := [(0, .ref (g.2.1 i)), (1, .int (nI b)), (2, .int (carN B b j)), (3, .int (nI (j + 1)))]) (by simp) ?_
            exact ih_6 (j + 1) _ _ (by omega) (by omega) (by simp [carN, qCar, show ¬ j ≤ b by omega, c_30_7, c_37_11, c_56_13]) rfl
          · skip
            refine r_iload F 5 rfl dX0_totalsOver_59 ?_
            refine r_if_eq F 70 (by decide) dX0_totalsOver_61 (fun c_61_14 => ?_) (fun c_61_14 => absurd c_61_14 (by decide))
            clear c_61_14
            refine r_iinc (lv' := [(0, .ref (g.2.1 i)), (1, .int (nI b)), (2, .int (carN B b j)), (3, .int (nI (j + 1))), (4, .int (B j 2)), (5, .int 0)]) F 3 rfl (nI_inc _) (by decide) rfl dX0_totalsOver_70 ?_
            refine r_goto F 6 (by decide) dX0_totalsOver_73 ?_
            refine r_lv (lv2 := [(0, .ref (g.2.1 i)), (1, .int (nI b)), (2, .int (carN B b j)), (3, .int (nI (j + 1)))]) (by simp) ?_
            exact ih_6 (j + 1) _ _ (by omega) (by omega) (by simp [carN, qCar, show ¬ j ≤ b by omega, c_30_7, c_37_11, c_56_13]) rfl
        · skip
          refine r_iconst (v := 1) F (by decide) dX0_totalsOver_40 ?_
          refine r_goto F 45 (by decide) dX0_totalsOver_41 ?_
          refine r_istore (lv' := [(0, .ref (g.2.1 i)), (1, .int (nI b)), (2, .int (carN B b j)), (3, .int (nI j)), (4, .int (B j 2)), (5, .int 1)]) F (by decide) rfl dX0_totalsOver_45 ?_
          refine r_aload_n F 0 rfl dX0_totalsOver_47 ?_
          refine r_get (C := RX0) (T := TX0) (N := 7) F i h.obj (by omega) hinX0 rfl 0 (by decide) (by decide +kernel) rfl dX0_totalsOver_48 ?_
          refine r_iload_n F 3 rfl dX0_totalsOver_51 ?_
          refine r_calli (g_SN (nA := 2) (As := [.ref (g.2.1 (i + 1)), .int (nI j)]) (rest := []) F (c_atB0 h hi hjn) gX0_totalsOver_X3_at_n34 rfl 6 rfl (by decide +kernel) (by decide +kernel) (by decide +kernel) rfl ⟨Nat.le_of_ble_eq_true rfl, Nat.le_of_ble_eq_true rfl⟩ ⟨Nat.le_of_ble_eq_true rfl, Nat.le_of_ble_eq_true rfl⟩ rfl (Nat.le_of_ble_eq_true rfl) dX0_totalsOver_52) (fun r_15 u_15 hp_15 => ?_)
          obtain ⟨rfl, rfl⟩ := hp_15
          refine r_iconst (v := 3) F (by decide) dX0_totalsOver_55 ?_
          refine r_icmp_ne F 70 (by decide) dX0_totalsOver_56 (fun c_56_16 => ?_) (fun c_56_16 => ?_)
          · skip
            refine r_iinc (lv' := [(0, .ref (g.2.1 i)), (1, .int (nI b)), (2, .int (carN B b j)), (3, .int (nI (j + 1))), (4, .int (B j 2)), (5, .int 1)]) F 3 rfl (nI_inc _) (by decide) rfl dX0_totalsOver_70 ?_
            refine r_goto F 6 (by decide) dX0_totalsOver_73 ?_
            refine r_lv (lv2 := [(0, .ref (g.2.1 i)), (1, .int (nI b)), (2, .int (carN B b j)), (3, .int (nI (j + 1)))]) (by simp) ?_
            exact ih_6 (j + 1) _ _ (by omega) (by omega) (by simp [carN, qCar, show ¬ j ≤ b by omega, c_30_7, c_37_11, c_56_16]) rfl
          · skip
            refine r_iload F 5 rfl dX0_totalsOver_59 ?_
            refine r_if_eq F 70 (by decide) dX0_totalsOver_61 (fun c_61_17 => absurd c_61_17 (by decide)) (fun c_61_17 => ?_)
            clear c_61_17
            refine r_iload_n F 2 rfl dX0_totalsOver_64 ?_
            refine r_iconst (v := 1) F (by decide) dX0_totalsOver_65 ?_
            refine r_iload_n F 3 rfl dX0_totalsOver_66 ?_
            refine r_ishl F dX0_totalsOver_67 ?_
            refine r_ior F dX0_totalsOver_68 ?_
            refine r_istore_n (lv' := [(0, .ref (g.2.1 i)), (1, .int (nI b)), (2, .int ((carN B b j) ||| ((1 : Int32) <<< ((nI j) &&& 31)))), (3, .int (nI j)), (4, .int (B j 2)), (5, .int 1)]) F (by decide) rfl dX0_totalsOver_69 ?_
            refine r_iinc (lv' := [(0, .ref (g.2.1 i)), (1, .int (nI b)), (2, .int ((carN B b j) ||| ((1 : Int32) <<< ((nI j) &&& 31)))), (3, .int (nI (j + 1))), (4, .int (B j 2)), (5, .int 1)]) F 3 rfl (nI_inc _) (by decide) rfl dX0_totalsOver_70 ?_
            refine r_goto F 6 (by decide) dX0_totalsOver_73 ?_
            refine r_lv (lv2 := [(0, .ref (g.2.1 i)), (1, .int (nI b)), (2, .int ((carN B b j) ||| ((1 : Int32) <<< ((nI j) &&& 31)))), (3, .int (nI (j + 1)))]) (by simp) ?_
            exact ih_6 (j + 1) _ _ (by omega) (by omega) (by simp [carN, qCar, show ¬ j ≤ b by omega, c_30_7, c_37_11, c_56_16]) rfl
  exact loop_6 (n - (b + 1)) (b + 1) _ _ (by omega) (by omega) (by simp [carN]) (nI_1 _)
theorem c_atV {g : kG} {l : Launch} {u : Nat → va_E} {i n b : Nat} {B : kB} {V : Nat → Int32} (h : FmV g u i n B V) (hi : i + 7 ≤ kN) (hb : b < 16) : CI g l yX3_at wsX3_at ({ frames := 0, cells := 0, slots := 0, locals := 0 }) [.ref (g.2.1 (i + 6)), .int (nI b)] u (fun r u' => r = V b ∧ u = u') := by
  refine (c_X3_at (i := nI b) h.val (by omega) (by omega)).mono (fun r u' hp => ⟨?_, hp.2⟩)
  rw [hp.1, atF_nI hb (by omega)]
theorem c_putV {g : kG} {l : Launch} {u : Nat → va_E} {i n b : Nat} {B : kB} {V : Nat → Int32} {v : Int32} (h : FmV g u i n B V) (hi : i + 7 ≤ kN) (hb : b < 16) : CV g l yX3_put wsX3_put ({ frames := 0, cells := 0, slots := 0, locals := 0 }) [.ref (g.2.1 (i + 6)), .int (nI b), .int v] u (fun u' => FmV g u' i n B (upd V b v) ∧ ∀ j, j ≠ i + 6 → u' j = u j) := by
  refine (c_X3_put (i := nI b) (x := v) h.val (by omega) (by omega)).mono (fun u' hp => ?_)
  rw [putF_nI hb (by omega)] at hp
  subst hp
  exact ⟨h.put, fun j hj => vne hj⟩
set_option maxHeartbeats 4000000 in
set_option maxRecDepth 100000 in
theorem c_X0_sumOf {g : kG} {l : Launch} {u : Nat → va_E} {i n t : Nat} {B : kB} {V : Nat → Int32} {mask : Int32} (h : FmV g u i n B V) (hi : i + 7 ≤ kN) (ht : t < n) : CI g l yX0_sumOf wsX0_sumOf ({ frames := 2, cells := 0, slots := 0, locals := 43 }) [.ref (g.2.1 i), .int (nI t), .int mask] u (fun r u' => r = minI (sumN B V t mask t) 999999 ∧ u = u') := by
  refine CI.of (cc := cX0_sumOf) (nL := 5) (ty := .int) (by decide +kernel) rfl (fun _ _ _ => rfl) (Nat.le_of_ble_eq_true rfl) ?_
  intro X hXl F hret
  subst hXl
  have hinX0 : ∀ w ∈ wsX00, w ∈ wsX0_sumOf := by decide +kernel
  show VL g X 0 0 u 0 [(0, .ref (g.2.1 i)), (1, .int (nI t)), (2, .int mask)] []
  refine r_iconst (v := 0) F (by decide) dX0_sumOf_0 ?_
  refine r_istore_n (lv' := [(0, .ref (g.2.1 i)), (1, .int (nI t)), (2, .int mask), (3, .int 0)]) F (by decide) rfl dX0_sumOf_1 ?_
  refine r_iconst (v := 0) F (by decide) dX0_sumOf_2 ?_
  refine r_istore (lv' := [(0, .ref (g.2.1 i)), (1, .int (nI t)), (2, .int mask), (3, .int 0), (4, .int 0)]) F (by decide) rfl dX0_sumOf_3 ?_
  have loop_5 : ∀ (k : Nat) (j : Nat) (x3_5 : Int32) (x4_5 : Int32), j + k = t → x3_5 = sumN B V t mask j → x4_5 = nI j → VL g X 0 0 u 5 [(0, .ref (g.2.1 i)), (1, .int (nI t)), (2, .int mask), (3, .int x3_5), (4, .int x4_5)] [] := by
    intro k
    induction k with
    | zero =>
      rintro j x3_5 x4_5 hk rfl rfl
      have hjn : t = j := by omega
      subst hjn
      refine r_iload F 4 rfl dX0_sumOf_5 ?_
      refine r_iload_n F 1 rfl dX0_sumOf_7 ?_
      refine r_icmp_ge F 55 (by decide) dX0_sumOf_8 (fun c_8_2 => ?_) (fun c_8_2 => absurd (Int32.le_refl _) c_8_2)
      clear c_8_2
      refine r_iload_n F 3 rfl dX0_sumOf_55 ?_
      refine r_ldc (v := 999999) F (by decide +kernel) dX0_sumOf_56 ?_
      refine r_min (rest := []) F (by decide +kernel) (by decide +kernel) (by decide +kernel) (by decide +kernel) ⟨Nat.le_of_ble_eq_true rfl, Nat.le_of_ble_eq_true rfl, Nat.le_of_ble_eq_true rfl, Nat.le_of_ble_eq_true rfl⟩ dX0_sumOf_58 ?_
      exact hret _ _ _ _ _ _ (Nat.le_of_ble_eq_true rfl) (Nat.le_of_ble_eq_true rfl) ⟨by rfl, rfl⟩ dX0_sumOf_61
    | succ k ih_5 =>
      rintro j x3_5 x4_5 hk rfl rfl
      have hj : j < t := by omega
      refine r_iload F 4 rfl dX0_sumOf_5 ?_
      refine r_iload_n F 1 rfl dX0_sumOf_7 ?_
      refine r_icmp_ge F 55 (by decide) dX0_sumOf_8 (fun c_8_3 => absurd c_8_3 (nI_ge (b := t) hj (by have := (Nat.le_trans (Nat.le_of_lt ht) h.le); omega))) (fun c_8_3 => ?_)
      clear c_8_3
      refine r_iload F 4 rfl dX0_sumOf_11 ?_
      refine r_aload_n F 0 rfl dX0_sumOf_13 ?_
      refine r_get (C := RX0) (T := TX0) (N := 7) F i h.B.obj (by omega) hinX0 rfl 2 (by decide) (by decide +kernel) rfl dX0_sumOf_14 ?_
      refine r_iload_n F 1 rfl dX0_sumOf_17 ?_
      refine r_calli (g_SN (nA := 2) (As := [.ref (g.2.1 (i + 3)), .int (nI t)]) (rest := [.int (nI j)]) F (c_atB2 h.B hi ht) gX0_sumOf_X3_at_n34 rfl 6 rfl (by decide +kernel) (by decide +kernel) (by decide +kernel) rfl ⟨Nat.le_of_ble_eq_true rfl, Nat.le_of_ble_eq_true rfl⟩ ⟨Nat.le_of_ble_eq_true rfl, Nat.le_of_ble_eq_true rfl⟩ rfl (Nat.le_of_ble_eq_true rfl) dX0_sumOf_18) (fun r_4 u_4 hp_4 => ?_)
      obtain ⟨rfl, rfl⟩ := hp_4
      refine r_calli (g_SN (nA := 2) (As := [.int (nI j), .int (B t 2)]) (rest := []) F (c_X3_isInMask) gX0_sumOf_X3_isInMask_n70 rfl 17 rfl (by decide +kernel) (by decide +kernel) (by decide +kernel) rfl ⟨Nat.le_of_ble_eq_true rfl, Nat.le_of_ble_eq_true rfl⟩ ⟨Nat.le_of_ble_eq_true rfl, Nat.le_of_ble_eq_true rfl⟩ rfl (Nat.le_of_ble_eq_true rfl) dX0_sumOf_21) (fun r_5 u_5 hp_5 => ?_)
      obtain ⟨rfl, rfl⟩ := hp_5
      refine r_if_eq F 49 (by decide) dX0_sumOf_24 (fun c_24_6 => ?_) (fun c_24_6 => ?_)
      · skip
        replace c_24_6 := bI0 c_24_6
        refine r_iinc (lv' := [(0, .ref (g.2.1 i)), (1, .int (nI t)), (2, .int mask), (3, .int (sumN B V t mask j)), (4, .int (nI (j + 1)))]) F 4 rfl (nI_inc _) (by decide) rfl dX0_sumOf_49 ?_
        refine r_goto F 5 (by decide) dX0_sumOf_52 ?_
        exact ih_5 (j + 1) _ _ (by omega)  (by simp [sumN, c_24_6]) rfl
      · skip
        replace c_24_6 := bI1 c_24_6
        refine r_aload_n F 0 rfl dX0_sumOf_27 ?_
        refine r_iload F 4 rfl dX0_sumOf_28 ?_
        refine r_iload_n F 2 rfl dX0_sumOf_30 ?_
        refine r_calli (g_V (C := RX0) (T := TX0) (N := 7) (nA := 2) (As := [.int (nI j), .int mask]) (rest := []) F i h.B.obj (by omega) rfl (c_X0_isOpen h.B hi (Nat.lt_trans hj ht)) gX0_sumOf_X0_isOpen rfl (by decide +kernel) rfl ⟨Nat.le_of_ble_eq_true rfl, Nat.le_of_ble_eq_true rfl⟩ ⟨Nat.le_of_ble_eq_true rfl, Nat.le_of_ble_eq_true rfl⟩ rfl (Nat.le_of_ble_eq_true rfl) dX0_sumOf_31) (fun r_7 u_7 hp_7 => ?_)
        obtain ⟨rfl, rfl⟩ := hp_7
        refine r_if_eq F 49 (by decide) dX0_sumOf_34 (fun c_34_8 => ?_) (fun c_34_8 => ?_)
        · skip
          replace c_34_8 := bI0 c_34_8
          refine r_iinc (lv' := [(0, .ref (g.2.1 i)), (1, .int (nI t)), (2, .int mask), (3, .int (sumN B V t mask j)), (4, .int (nI (j + 1)))]) F 4 rfl (nI_inc _) (by decide) rfl dX0_sumOf_49 ?_
          refine r_goto F 5 (by decide) dX0_sumOf_52 ?_
          exact ih_5 (j + 1) _ _ (by omega)  (by simp [sumN, c_24_6, c_34_8]) rfl
        · skip
          replace c_34_8 := bI1 c_34_8
          refine r_iload_n F 3 rfl dX0_sumOf_37 ?_
          refine r_aload_n F 0 rfl dX0_sumOf_38 ?_
          refine r_get (C := RX0) (T := TX0) (N := 7) F i h.B.obj (by omega) hinX0 rfl 5 (by decide) (by decide +kernel) rfl dX0_sumOf_39 ?_
          refine r_iload F 4 rfl dX0_sumOf_42 ?_
          refine r_calli (g_SN (nA := 2) (As := [.ref (g.2.1 (i + 6)), .int (nI j)]) (rest := [.int (sumN B V t mask j)]) F (c_atV h hi (by have := h.le; omega)) gX0_sumOf_X3_at_n34 rfl 6 rfl (by decide +kernel) (by decide +kernel) (by decide +kernel) rfl ⟨Nat.le_of_ble_eq_true rfl, Nat.le_of_ble_eq_true rfl⟩ ⟨Nat.le_of_ble_eq_true rfl, Nat.le_of_ble_eq_true rfl⟩ rfl (Nat.le_of_ble_eq_true rfl) dX0_sumOf_44) (fun r_9 u_9 hp_9 => ?_)
          obtain ⟨rfl, rfl⟩ := hp_9
          refine r_iadd F dX0_sumOf_47 ?_
          refine r_istore_n (lv' := [(0, .ref (g.2.1 i)), (1, .int (nI t)), (2, .int mask), (3, .int ((sumN B V t mask j) + (V j))), (4, .int (nI j))]) F (by decide) rfl dX0_sumOf_48 ?_
          refine r_iinc (lv' := [(0, .ref (g.2.1 i)), (1, .int (nI t)), (2, .int mask), (3, .int ((sumN B V t mask j) + (V j))), (4, .int (nI (j + 1)))]) F 4 rfl (nI_inc _) (by decide) rfl dX0_sumOf_49 ?_
          refine r_goto F 5 (by decide) dX0_sumOf_52 ?_
          exact ih_5 (j + 1) _ _ (by omega)  (by simp [sumN, c_24_6, c_34_8]) rfl
  exact loop_5 t 0 _ _ (by omega)  rfl rfl
set_option maxHeartbeats 4000000 in
set_option maxRecDepth 100000 in
theorem c_X0_valueOf {g : kG} {l : Launch} {u : Nat → va_E} {i n m : Nat} {B : kB} {V : Nat → Int32} {mask : Int32} (h : FmV g u i n B V) (hi : i + 7 ≤ kN) (hm : m ≤ n) : CI g l yX0_valueOf wsX0_valueOf ({ frames := 3, cells := 0, slots := 0, locals := 67 }) [.ref (g.2.1 i), .int (nI m - 1), .int mask] u (fun r u' => r = valR B mask V m ∧ FmV g u' i n B (valN B mask V m) ∧ ∀ j, j ≠ i + 6 → u' j = u j) := by
  refine CI.of (cc := cX0_valueOf) (nL := 4) (ty := .int) (by decide +kernel) rfl (fun _ _ _ => rfl) (Nat.le_of_ble_eq_true rfl) ?_
  intro X hXl F hret
  subst hXl
  have hinX0 : ∀ w ∈ wsX00, w ∈ wsX0_valueOf := by decide +kernel
  show VL g X 0 0 u 0 [(0, .ref (g.2.1 i)), (1, .int (nI m - 1)), (2, .int mask)] []
  refine r_iconst (v := 0) F (by decide) dX0_valueOf_0 ?_
  refine r_istore_n (lv' := [(0, .ref (g.2.1 i)), (1, .int (nI m - 1)), (2, .int mask), (3, .int 0)]) F (by decide) rfl dX0_valueOf_1 ?_
  have loop_2 : ∀ (k : Nat) (j : Nat) (w : Nat → va_E) (x3_2 : Int32), j + k = m → FmV g w i n B (valN B mask V j) → (∀ j, j ≠ i + 6 → w j = u j) → x3_2 = nI j → VL g X 0 0 w 2 [(0, .ref (g.2.1 i)), (1, .int (nI m - 1)), (2, .int mask), (3, .int x3_2)] [] := by
    intro k
    induction k with
    | zero =>
      rintro j w x3_2 hk hV hf2 rfl
      have hjn : m = j := by omega
      subst hjn
      refine r_iload_n F 3 rfl dX0_valueOf_2 ?_
      refine r_iload_n F 1 rfl dX0_valueOf_3 ?_
      refine r_icmp_gt F 55 (by decide) dX0_valueOf_4 (fun c_4_2 => ?_) (fun c_4_2 => absurd (gtm0 (by have := hV.le; omega)) c_4_2)
      clear c_4_2
      refine r_aload_n F 0 rfl dX0_valueOf_55 ?_
      refine r_get (C := RX0) (T := TX0) (N := 7) F i hV.B.obj (by omega) hinX0 rfl 5 (by decide) (by decide +kernel) rfl dX0_valueOf_56 ?_
      refine r_iload_n F 1 rfl dX0_valueOf_59 ?_
      refine r_calli (g_SN (nA := 2) (As := [.ref (g.2.1 (i + 6)), .int (nI m - 1)]) (rest := []) F (c_X3_at hV.val (by omega) (by omega)) gX0_valueOf_X3_at_n34 rfl 6 rfl (by decide +kernel) (by decide +kernel) (by decide +kernel) rfl ⟨Nat.le_of_ble_eq_true rfl, Nat.le_of_ble_eq_true rfl⟩ ⟨Nat.le_of_ble_eq_true rfl, Nat.le_of_ble_eq_true rfl⟩ rfl (Nat.le_of_ble_eq_true rfl) dX0_valueOf_60) (fun r_3 u_3 hp_3 => ?_)
      obtain ⟨rfl, rfl⟩ := hp_3
      exact hret _ _ _ _ _ _ (Nat.le_of_ble_eq_true rfl) (Nat.le_of_ble_eq_true rfl) ⟨rfl, hV, hf2⟩ dX0_valueOf_63
    | succ k ih_2 =>
      rintro j w x3_2 hk hV hf2 rfl
      have hj : j < m := by omega
      refine r_iload_n F 3 rfl dX0_valueOf_2 ?_
      refine r_iload_n F 1 rfl dX0_valueOf_3 ?_
      refine r_icmp_gt F 55 (by decide) dX0_valueOf_4 (fun c_4_4 => absurd c_4_4 (gtm1 hj (by have := hV.le; omega))) (fun c_4_4 => ?_)
      clear c_4_4
      refine r_iload_n F 3 rfl dX0_valueOf_7 ?_
      refine r_aload_n F 0 rfl dX0_valueOf_8 ?_
      refine r_get (C := RX0) (T := TX0) (N := 7) F i hV.B.obj (by omega) hinX0 rfl 6 (by decide) (by decide +kernel) rfl dX0_valueOf_9 ?_
      refine r_icmp_ge F 55 (by decide) dX0_valueOf_12 (fun c_12_5 => absurd c_12_5 (nI_ge (b := n) (Nat.lt_of_lt_of_le hj hm) (by have := hV.le; omega))) (fun c_12_5 => ?_)
      clear c_12_5
      refine r_aload_n F 0 rfl dX0_valueOf_15 ?_
      refine r_get (C := RX0) (T := TX0) (N := 7) F i hV.B.obj (by omega) hinX0 rfl 5 (by decide) (by decide +kernel) rfl dX0_valueOf_16 ?_
      refine r_iload_n F 3 rfl dX0_valueOf_19 ?_
      refine r_aload_n F 0 rfl dX0_valueOf_20 ?_
      refine r_get (C := RX0) (T := TX0) (N := 7) F i hV.B.obj (by omega) hinX0 rfl 0 (by decide) (by decide +kernel) rfl dX0_valueOf_21 ?_
      refine r_iload_n F 3 rfl dX0_valueOf_24 ?_
      refine r_calli (g_SN (nA := 2) (As := [.ref (g.2.1 (i + 1)), .int (nI j)]) (rest := [.int (nI j), .ref (g.2.1 (i + 6))]) F (c_atB0 hV.B hi (Nat.lt_of_lt_of_le hj hm)) gX0_valueOf_X3_at_n34 rfl 6 rfl (by decide +kernel) (by decide +kernel) (by decide +kernel) rfl ⟨Nat.le_of_ble_eq_true rfl, Nat.le_of_ble_eq_true rfl⟩ ⟨Nat.le_of_ble_eq_true rfl, Nat.le_of_ble_eq_true rfl⟩ rfl (Nat.le_of_ble_eq_true rfl) dX0_valueOf_25) (fun r_6 u_6 hp_6 => ?_)
      obtain ⟨rfl, rfl⟩ := hp_6
      refine r_iconst (v := 3) F (by decide) dX0_valueOf_28 ?_
      refine r_icmp_ne F 41 (by decide) dX0_valueOf_29 (fun c_29_7 => ?_) (fun c_29_7 => ?_)
      · skip
        refine r_aload_n F 0 rfl dX0_valueOf_41 ?_
        refine r_iload_n F 3 rfl dX0_valueOf_42 ?_
        refine r_calli (g_V (C := RX0) (T := TX0) (N := 7) (nA := 1) (As := [.int (nI j)]) (rest := [.int (nI j), .ref (g.2.1 (i + 6))]) F i hV.B.obj (by omega) rfl (c_X0_ownValue hV.B hi (Nat.lt_of_lt_of_le hj hm)) gX0_valueOf_X0_ownValue rfl (by decide +kernel) rfl ⟨Nat.le_of_ble_eq_true rfl, Nat.le_of_ble_eq_true rfl⟩ ⟨Nat.le_of_ble_eq_true rfl, Nat.le_of_ble_eq_true rfl⟩ rfl (Nat.le_of_ble_eq_true rfl) dX0_valueOf_43) (fun r_8 u_8 hp_8 => ?_)
        obtain ⟨rfl, rfl⟩ := hp_8
        refine r_callv (g_SN (nA := 3) (As := [.ref (g.2.1 (i + 6)), .int (nI j), .int (ownV B j)]) (rest := []) F (c_putV hV hi (by have := hV.le; omega)) gX0_valueOf_X3_put_n38 rfl 7 rfl (by decide +kernel) (by decide +kernel) (by decide +kernel) rfl ⟨Nat.le_of_ble_eq_true rfl, Nat.le_of_ble_eq_true rfl⟩ ⟨Nat.le_of_ble_eq_true rfl, Nat.le_of_ble_eq_true rfl⟩ rfl (Nat.le_of_ble_eq_true rfl) dX0_valueOf_46) (fun u_9 hp_9 => ?_)
        obtain ⟨hV_9, hk_9⟩ := hp_9
        have hf_9 : ∀ j, j ≠ i + 6 → u_9 j = u j := fun j hj => (hk_9 j hj).trans (hf2 j hj)
        have hW_9 : FmV g u_9 i n B (valN B mask V (j + 1)) := by have q := hV_9; simpa [valN, c_29_7] using q
        refine r_iinc (lv' := [(0, .ref (g.2.1 i)), (1, .int (nI m - 1)), (2, .int mask), (3, .int (nI (j + 1)))]) F 3 rfl (nI_inc _) (by decide) rfl dX0_valueOf_49 ?_
        refine r_goto F 2 (by decide) dX0_valueOf_52 ?_
        exact ih_2 (j + 1) _ _ (by omega) hW_9 hf_9 rfl
      · skip
        refine r_aload_n F 0 rfl dX0_valueOf_32 ?_
        refine r_iload_n F 3 rfl dX0_valueOf_33 ?_
        refine r_iload_n F 2 rfl dX0_valueOf_34 ?_
        refine r_calli (g_V (C := RX0) (T := TX0) (N := 7) (nA := 2) (As := [.int (nI j), .int mask]) (rest := [.int (nI j), .ref (g.2.1 (i + 6))]) F i hV.B.obj (by omega) rfl (c_X0_sumOf hV hi (Nat.lt_of_lt_of_le hj hm)) gX0_valueOf_X0_sumOf rfl (by decide +kernel) rfl ⟨Nat.le_of_ble_eq_true rfl, Nat.le_of_ble_eq_true rfl⟩ ⟨Nat.le_of_ble_eq_true rfl, Nat.le_of_ble_eq_true rfl⟩ rfl (Nat.le_of_ble_eq_true rfl) dX0_valueOf_35) (fun r_10 u_10 hp_10 => ?_)
        obtain ⟨rfl, rfl⟩ := hp_10
        refine r_goto F 46 (by decide) dX0_valueOf_38 ?_
        refine r_callv (g_SN (nA := 3) (As := [.ref (g.2.1 (i + 6)), .int (nI j), .int (minI (sumN B (valN B mask V j) j mask j) 999999)]) (rest := []) F (c_putV hV hi (by have := hV.le; omega)) gX0_valueOf_X3_put_n38 rfl 7 rfl (by decide +kernel) (by decide +kernel) (by decide +kernel) rfl ⟨Nat.le_of_ble_eq_true rfl, Nat.le_of_ble_eq_true rfl⟩ ⟨Nat.le_of_ble_eq_true rfl, Nat.le_of_ble_eq_true rfl⟩ rfl (Nat.le_of_ble_eq_true rfl) dX0_valueOf_46) (fun u_11 hp_11 => ?_)
        obtain ⟨hV_11, hk_11⟩ := hp_11
        have hf_11 : ∀ j, j ≠ i + 6 → u_11 j = u j := fun j hj => (hk_11 j hj).trans (hf2 j hj)
        have hW_11 : FmV g u_11 i n B (valN B mask V (j + 1)) := by have q := hV_11; simpa [valN, c_29_7] using q
        refine r_iinc (lv' := [(0, .ref (g.2.1 i)), (1, .int (nI m - 1)), (2, .int mask), (3, .int (nI (j + 1)))]) F 3 rfl (nI_inc _) (by decide) rfl dX0_valueOf_49 ?_
        refine r_goto F 2 (by decide) dX0_valueOf_52 ?_
        exact ih_2 (j + 1) _ _ (by omega) hW_11 hf_11 rfl
  exact loop_2 m 0 u _ (by omega) h (fun j _ => rfl) rfl

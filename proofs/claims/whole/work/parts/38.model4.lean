set_option maxHeartbeats 4000000 in
set_option maxRecDepth 100000 in
theorem c_X4_isMask {g : kG} {l : Launch} {u : Nat → va_E} {th rm sp wr : Int32} {hs : Int64} {VA RD CH WE : Nat → Int32} {n m t : Nat} {B : kB} {S : Nat → kS} {C : Nat → Int32} {x : Int32} (h : MdX g u th rm sp wr hs VA RD CH WE n B m S t C)  : CI g l yX4_isMask wsX4_isMask ({ frames := 1, cells := 0, slots := 0, locals := 22 }) [.ref (g.2.1 61), .int x] u (fun r u' => r = bI (totOk B n x) ∧ u = u') := by
  refine CI.of (cc := cX4_isMask) (nL := 4) (ty := .boolean) (by decide +kernel) rfl (fun v u' h => by obtain ⟨h, -⟩ := h; rw [h]; exact bI_n _) (Nat.le_of_ble_eq_true rfl) ?_
  intro X hXl F hret
  subst hXl
  obtain ⟨Z, SV, BF, hL, hZ, hSV, hBF, hn16, hm6, ht60⟩ := id h
  show VL g X 0 0 u 0 [(0, .ref (g.2.1 61)), (1, .int x)] []
  refine r_iload_n F 1 rfl dX4_isMask_0 ?_
  refine r_iconst (v := 0) F (by decide) dX4_isMask_1 ?_
  refine r_ldc (v := 65535) F (by decide +kernel) dX4_isMask_2 ?_
  refine r_calli (g_S (nA := 3) (As := [.int x, .int 0, .int 65535]) (rest := []) F (c_X4_in) gX4_isMask_X4_in rfl (by decide +kernel) rfl ⟨Nat.le_of_ble_eq_true rfl, Nat.le_of_ble_eq_true rfl⟩ ⟨Nat.le_of_ble_eq_true rfl, Nat.le_of_ble_eq_true rfl⟩ rfl (Nat.le_of_ble_eq_true rfl) dX4_isMask_4) (fun r_1 u_1 hp_1 => ?_)
  obtain ⟨rfl, rfl⟩ := hp_1
  refine r_istore_n (lv' := [(0, .ref (g.2.1 61)), (1, .int x), (2, .int (bI (wi x 0 65535)))]) F (by decide) rfl dX4_isMask_7 ?_
  refine r_iconst (v := 0) F (by decide) dX4_isMask_8 ?_
  refine r_istore_n (lv' := [(0, .ref (g.2.1 61)), (1, .int x), (2, .int (bI (wi x 0 65535))), (3, .int 0)]) F (by decide) rfl dX4_isMask_9 ?_
  have loop_10 : ∀ (k : Nat) (j : Nat) (x2_10 : Int32) (x3_10 : Int32), j + k = 16 → x2_10 = bI (wi x 0 65535 && !anyN j (canK B n x)) → x3_10 = nI j → VL g X 0 0 u 10 [(0, .ref (g.2.1 61)), (1, .int x), (2, .int x2_10), (3, .int x3_10)] [] := by
    intro k
    induction k with
    | zero =>
      rintro j x2_10 x3_10 hk rfl rfl
      have hjn : 16 = j := by omega
      subst hjn
      refine r_iload_n F 3 rfl dX4_isMask_10 ?_
      refine r_bipush (v := 16) F (by decide) dX4_isMask_11 ?_
      refine r_icmp_ge F 67 (by decide) dX4_isMask_13 (fun c_13_3 => ?_) (fun c_13_3 => absurd (Int32.le_refl _) c_13_3)
      clear c_13_3
      refine r_iload_n F 2 rfl dX4_isMask_67 ?_
      exact hret _ _ _ _ _ _ (Nat.le_of_ble_eq_true rfl) (Nat.le_of_ble_eq_true rfl) ⟨by rfl, rfl⟩ dX4_isMask_68
    | succ k ih_10 =>
      rintro j x2_10 x3_10 hk rfl rfl
      have hb : j < 16 := by omega
      refine r_iload_n F 3 rfl dX4_isMask_10 ?_
      refine r_bipush (v := 16) F (by decide) dX4_isMask_11 ?_
      refine r_icmp_ge F 67 (by decide) dX4_isMask_13 (fun c_13_4 => absurd c_13_4 (nI_ge (b := 16) hb (by decide))) (fun c_13_4 => ?_)
      clear c_13_4
      refine r_iload_n F 2 rfl dX4_isMask_16 ?_
      refine r_if_eq F 67 (by decide) dX4_isMask_17 (fun c_17_5 => ?_) (fun c_17_5 => ?_)
      · skip
        replace c_17_5 := bI0 c_17_5
        have hw2 := c_17_5
        refine r_iload_n F 2 rfl dX4_isMask_67 ?_
        exact hret _ _ _ _ _ _ (Nat.le_of_ble_eq_true rfl) (Nat.le_of_ble_eq_true rfl) ⟨by have z : anyN 16 (canK B n x) = true ∨ wi x 0 65535 = false := (by cases hz : wi x 0 65535 with | false => exact Or.inr rfl | true => (simp [hz] at hw2; exact Or.inl (anyN_m hw2 (by omega)))); rcases z with z | z <;> simp [totOk, canM, z, bI, hw2], rfl⟩ dX4_isMask_68
      · skip
        replace c_17_5 := bI1 c_17_5
        have hw2 := c_17_5
        refine r_iload_n F 1 rfl dX4_isMask_20 ?_
        refine r_iload_n F 3 rfl dX4_isMask_21 ?_
        refine r_ishr F dX4_isMask_22 ?_
        refine r_iconst (v := 1) F (by decide) dX4_isMask_23 ?_
        refine r_iand F dX4_isMask_24 ?_
        refine r_if_eq F 55 (by decide) dX4_isMask_25 (fun c_25_6 => ?_) (fun c_25_6 => ?_)
        · skip
          have ht_c_25_6 := tld0 c_25_6
          refine r_iconst (v := 1) F (by decide) dX4_isMask_55 ?_
          refine r_goto F 60 (by decide) dX4_isMask_56 ?_
          refine r_istore_n (lv' := [(0, .ref (g.2.1 61)), (1, .int x), (2, .int 1), (3, .int (nI j))]) F (by decide) rfl dX4_isMask_60 ?_
          refine r_iinc (lv' := [(0, .ref (g.2.1 61)), (1, .int x), (2, .int 1), (3, .int (nI (j + 1)))]) F 3 rfl (nI_inc _) (by decide) rfl dX4_isMask_61 ?_
          refine r_goto F 10 (by decide) dX4_isMask_64 ?_
          exact ih_10 (j + 1) _ _ (by omega)  (by simp [anyN, canK, bI, Bool.and_assoc, c_17_5, ht_c_25_6]) rfl
        · skip
          have ht_c_25_6 := tld1 c_25_6
          refine r_aload_n F 0 rfl dX4_isMask_28 ?_
          refine r_iload_n F 3 rfl dX4_isMask_29 ?_
          refine r_calli (g_V (C := RX4) (T := TX4) (N := 14) (nA := 1) (As := [.int (nI j)]) (rest := []) F 61 hL.1 (by decide) rfl (c_X4_isBox h ) gX4_isMask_X4_isBox rfl (by decide +kernel) rfl ⟨Nat.le_of_ble_eq_true rfl, Nat.le_of_ble_eq_true rfl⟩ ⟨Nat.le_of_ble_eq_true rfl, Nat.le_of_ble_eq_true rfl⟩ rfl (Nat.le_of_ble_eq_true rfl) dX4_isMask_30) (fun r_7 u_7 hp_7 => ?_)
          obtain ⟨rfl, rfl⟩ := hp_7
          refine r_if_eq F 59 (by decide) dX4_isMask_33 (fun c_33_8 => ?_) (fun c_33_8 => ?_)
          · skip
            replace c_33_8 := bI0 c_33_8
            have hj_c_33_8 : (decide (j < n)) = false := by rw [← hasB_nI (by omega) (by omega)]; exact c_33_8
            have hjl_c_33_8 : ¬ j < n := of_decide_eq_false hj_c_33_8
            refine r_iconst (v := 0) F (by decide) dX4_isMask_59 ?_
            refine r_istore_n (lv' := [(0, .ref (g.2.1 61)), (1, .int x), (2, .int 0), (3, .int (nI j))]) F (by decide) rfl dX4_isMask_60 ?_
            refine r_iinc (lv' := [(0, .ref (g.2.1 61)), (1, .int x), (2, .int 0), (3, .int (nI (j + 1)))]) F 3 rfl (nI_inc _) (by decide) rfl dX4_isMask_61 ?_
            refine r_goto F 10 (by decide) dX4_isMask_64 ?_
            exact ih_10 (j + 1) _ _ (by omega)  (by simp [anyN, canK, bI, Bool.and_assoc, c_17_5, ht_c_25_6, hj_c_33_8, hjl_c_33_8]) rfl
          · skip
            replace c_33_8 := bI1 c_33_8
            have hj_c_33_8 : (decide (j < n)) = true := by rw [← hasB_nI (by omega) (by omega)]; exact c_33_8
            have hjl_c_33_8 : j < n := of_decide_eq_true hj_c_33_8
            refine r_aload_n F 0 rfl dX4_isMask_36 ?_
            refine r_iload_n F 3 rfl dX4_isMask_37 ?_
            refine r_iconst (v := 0) F (by decide) dX4_isMask_38 ?_
            refine r_calli (g_V (C := RX4) (T := TX4) (N := 14) (nA := 2) (As := [.int (nI j), .int 0]) (rest := []) F 61 hL.1 (by decide) rfl (c_X4_of h hjl_c_33_8 (w := 0) (by decide)) gX4_isMask_X4_of rfl (by decide +kernel) rfl ⟨Nat.le_of_ble_eq_true rfl, Nat.le_of_ble_eq_true rfl⟩ ⟨Nat.le_of_ble_eq_true rfl, Nat.le_of_ble_eq_true rfl⟩ rfl (Nat.le_of_ble_eq_true rfl) dX4_isMask_39) (fun r_9 u_9 hp_9 => ?_)
            obtain ⟨rfl, rfl⟩ := hp_9
            refine r_if_eq F 55 (by decide) dX4_isMask_42 (fun c_42_10 => ?_) (fun c_42_10 => ?_)
            · skip
              refine r_iconst (v := 1) F (by decide) dX4_isMask_55 ?_
              refine r_goto F 60 (by decide) dX4_isMask_56 ?_
              refine r_istore_n (lv' := [(0, .ref (g.2.1 61)), (1, .int x), (2, .int 1), (3, .int (nI j))]) F (by decide) rfl dX4_isMask_60 ?_
              refine r_iinc (lv' := [(0, .ref (g.2.1 61)), (1, .int x), (2, .int 1), (3, .int (nI (j + 1)))]) F 3 rfl (nI_inc _) (by decide) rfl dX4_isMask_61 ?_
              refine r_goto F 10 (by decide) dX4_isMask_64 ?_
              exact ih_10 (j + 1) _ _ (by omega)  (by simp [anyN, canK, bI, Bool.and_assoc, c_17_5, ht_c_25_6, hj_c_33_8, hjl_c_33_8, c_42_10]) rfl
            · skip
              refine r_aload_n F 0 rfl dX4_isMask_45 ?_
              refine r_iload_n F 3 rfl dX4_isMask_46 ?_
              refine r_iconst (v := 0) F (by decide) dX4_isMask_47 ?_
              refine r_calli (g_V (C := RX4) (T := TX4) (N := 14) (nA := 2) (As := [.int (nI j), .int 0]) (rest := []) F 61 hL.1 (by decide) rfl (c_X4_of h hjl_c_33_8 (w := 0) (by decide)) gX4_isMask_X4_of rfl (by decide +kernel) rfl ⟨Nat.le_of_ble_eq_true rfl, Nat.le_of_ble_eq_true rfl⟩ ⟨Nat.le_of_ble_eq_true rfl, Nat.le_of_ble_eq_true rfl⟩ rfl (Nat.le_of_ble_eq_true rfl) dX4_isMask_48) (fun r_11 u_11 hp_11 => ?_)
              obtain ⟨rfl, rfl⟩ := hp_11
              refine r_iconst (v := 3) F (by decide) dX4_isMask_51 ?_
              refine r_icmp_ne F 59 (by decide) dX4_isMask_52 (fun c_52_12 => ?_) (fun c_52_12 => ?_)
              · skip
                refine r_iconst (v := 0) F (by decide) dX4_isMask_59 ?_
                refine r_istore_n (lv' := [(0, .ref (g.2.1 61)), (1, .int x), (2, .int 0), (3, .int (nI j))]) F (by decide) rfl dX4_isMask_60 ?_
                refine r_iinc (lv' := [(0, .ref (g.2.1 61)), (1, .int x), (2, .int 0), (3, .int (nI (j + 1)))]) F 3 rfl (nI_inc _) (by decide) rfl dX4_isMask_61 ?_
                refine r_goto F 10 (by decide) dX4_isMask_64 ?_
                exact ih_10 (j + 1) _ _ (by omega)  (by simp [anyN, canK, bI, Bool.and_assoc, c_17_5, ht_c_25_6, hj_c_33_8, hjl_c_33_8, c_42_10, c_52_12]) rfl
              · skip
                refine r_iconst (v := 1) F (by decide) dX4_isMask_55 ?_
                refine r_goto F 60 (by decide) dX4_isMask_56 ?_
                refine r_istore_n (lv' := [(0, .ref (g.2.1 61)), (1, .int x), (2, .int 1), (3, .int (nI j))]) F (by decide) rfl dX4_isMask_60 ?_
                refine r_iinc (lv' := [(0, .ref (g.2.1 61)), (1, .int x), (2, .int 1), (3, .int (nI (j + 1)))]) F 3 rfl (nI_inc _) (by decide) rfl dX4_isMask_61 ?_
                refine r_goto F 10 (by decide) dX4_isMask_64 ?_
                exact ih_10 (j + 1) _ _ (by omega)  (by simp [anyN, canK, bI, Bool.and_assoc, c_17_5, ht_c_25_6, hj_c_33_8, hjl_c_33_8, c_42_10, c_52_12]) rfl
  exact loop_10 16 0 _ _ (by omega)  (by simp [anyN]) rfl
set_option maxHeartbeats 4000000 in
set_option maxRecDepth 100000 in
theorem c_X4_total {g : kG} {l : Launch} {u : Nat → va_E} {th rm sp wr : Int32} {hs : Int64} {VA RD CH WE : Nat → Int32} {n m t : Nat} {B : kB} {S : Nat → kS} {C : Nat → Int32} {p x : Int32} (h : MdX g u th rm sp wr hs VA RD CH WE n B m S t C)  : CI g l yX4_total wsX4_total ({ frames := 2, cells := 0, slots := 0, locals := 48 }) [.ref (g.2.1 61), .int p, .int x] u (fun r u' => ((cdTotal B n p x = 0 ∧ r = nI n ∧ MdX g u' 0 rm sp wr hs VA RD CH WE (n + 1) (bAdd B n 3 p x (-1)) (pushM m) (pushS m S (n, B)) t C) ∨ (∃ c, 0 < c ∧ cdTotal B n p x = c ∧ MdX g u' (nI c) rm sp wr hs VA RD CH WE n B m S t C)) ∧ ∀ j, ¬ (61 ≤ j ∧ j < 69) → u' j = u j) := by
  refine CI.of (cc := cX4_total) (nL := 3) (ty := .int) (by decide +kernel) rfl (fun _ _ _ => rfl) (Nat.le_of_ble_eq_true rfl) ?_
  intro X hXl F hret
  subst hXl
  have hinX4 : ∀ w ∈ wsX40, w ∈ wsX4_total := by decide +kernel
  obtain ⟨Z, SV, BF, hL, hZ, hSV, hBF, hn16, hm6, ht60⟩ := id h
  show VL g X 0 0 u 0 [(0, .ref (g.2.1 61)), (1, .int p), (2, .int x)] []
  refine r_aload_n F 0 rfl dX4_total_0 ?_
  refine r_iload_n F 1 rfl dX4_total_1 ?_
  refine r_calli (g_S (nA := 1) (As := [.int p]) (rest := [.ref (g.2.1 61)]) F (c_X4_isPart) gX4_total_X4_isPart rfl (by decide +kernel) rfl ⟨Nat.le_of_ble_eq_true rfl, Nat.le_of_ble_eq_true rfl⟩ ⟨Nat.le_of_ble_eq_true rfl, Nat.le_of_ble_eq_true rfl⟩ rfl (Nat.le_of_ble_eq_true rfl) dX4_total_2) (fun r_1 u_1 hp_1 => ?_)
  obtain ⟨rfl, rfl⟩ := hp_1
  refine r_if_ne F 12 (by decide) dX4_total_5 (fun c_5_2 => ?_) (fun c_5_2 => ?_)
  · skip
    replace c_5_2 := bI1 c_5_2
    refine r_aload_n F 0 rfl dX4_total_12 ?_
    refine r_iload_n F 2 rfl dX4_total_13 ?_
    refine r_calli (g_V (C := RX4) (T := TX4) (N := 14) (nA := 1) (As := [.int x]) (rest := [.ref (g.2.1 61)]) F 61 hL.1 (by decide) rfl (c_X4_isMask h ) gX4_total_X4_isMask rfl (by decide +kernel) rfl ⟨Nat.le_of_ble_eq_true rfl, Nat.le_of_ble_eq_true rfl⟩ ⟨Nat.le_of_ble_eq_true rfl, Nat.le_of_ble_eq_true rfl⟩ rfl (Nat.le_of_ble_eq_true rfl) dX4_total_14) (fun r_3 u_3 hp_3 => ?_)
    obtain ⟨rfl, rfl⟩ := hp_3
    refine r_if_ne F 24 (by decide) dX4_total_17 (fun c_17_4 => ?_) (fun c_17_4 => ?_)
    · skip
      replace c_17_4 := bI1 c_17_4
      refine r_aload_n F 0 rfl dX4_total_24 ?_
      refine r_get (C := RX4) (T := TX4) (N := 14) F 61 hL.1 (by decide) hinX4 rfl 1 (by decide) (by decide +kernel) rfl dX4_total_25 ?_
      refine r_iconst (v := 0) F (by decide) dX4_total_28 ?_
      refine r_iald F 62 hL.2.1 (by decide) (vp_in_nI (n := 0) (by decide) (by decide)) dX4_total_29 ?_
      refine r_eq (st2 := [.int (nI n), .ref (g.2.1 61)]) (by rw [show Z (0 : Int32).toNatClampNeg = nI n from hZ.1]) rfl ?_
      refine r_bipush (v := 16) F (by decide) dX4_total_30 ?_
      refine r_icmp_ne F 39 (by decide) dX4_total_32 (fun c_32_5 => ?_) (fun c_32_5 => ?_)
      · skip
        have hn16b : n < 16 := by have z : ¬ n = 16 := fun q => c_32_5 (by rw [q]; rfl); omega
        refine r_iconst (v := 0) F (by decide) dX4_total_39 ?_
        refine r_put (C := RX4) (T := TX4) (N := 14) (ty := .int) F 61 hL.1 (by decide) hinX4 tyX4 tyX4_ok nmX4 rfl 0 (by decide) (by decide +kernel) rfl (by decide +kernel) rfl rfl (Nat.le_of_ble_eq_true rfl) dX4_total_40 (fun u_6 hu_6 => ?_)
        have hL_7 := hL.num (th' := 0) (sm' := nI m) (ty' := nI t) (rm' := rm) (sp' := sp) (wr' := wr) (hs' := hs)
        replace hL_7 : MdL g u_6 0 (nI m) (nI t) rm sp wr hs Z SV BF VA RD CH WE := by rw [hu_6]; exact hL_7
        have hf_8 : ∀ j, ¬ (61 ≤ j ∧ j < 69) → u_6 j = u j := (fun j hj => by rw [hu_6]; exact vne (by omega))
        have hX_9 : MdX g u_6 0 rm sp wr hs VA RD CH WE n B m S t C := ⟨_, _, _, hL_7, hZ, hSV, hBF, hn16, hm6, ht60⟩
        refine r_aload_n F 0 rfl dX4_total_43 ?_
        refine r_get (C := RX4) (T := TX4) (N := 14) F 61 hL_7.1 (by decide) hinX4 rfl 0 (by decide) (by decide +kernel) rfl dX4_total_44 ?_
        refine r_if_le F 54 (by decide) dX4_total_47 (fun c_47_10 => ?_) (fun c_47_10 => absurd c_47_10 (by decide))
        clear c_47_10
        refine r_aload_n F 0 rfl dX4_total_54 ?_
        refine r_iconst (v := 3) F (by decide) dX4_total_55 ?_
        refine r_iload_n F 1 rfl dX4_total_56 ?_
        refine r_iload_n F 2 rfl dX4_total_57 ?_
        refine r_iconst (v := -1) F (by decide) dX4_total_58 ?_
        refine r_calli (g_V (C := RX4) (T := TX4) (N := 14) (nA := 4) (As := [.int 3, .int p, .int x, .int (-1)]) (rest := []) F 61 hL_7.1 (by decide) rfl (c_X4_add hX_9 hn16b) gX4_total_X4_add rfl (by decide +kernel) rfl ⟨Nat.le_of_ble_eq_true rfl, Nat.le_of_ble_eq_true rfl⟩ ⟨Nat.le_of_ble_eq_true rfl, Nat.le_of_ble_eq_true rfl⟩ rfl (Nat.le_of_ble_eq_true rfl) dX4_total_59) (fun r_11 u_11 hp_11 => ?_)
        obtain ⟨er_11, hX_11, hk_11⟩ := hp_11
        subst er_11
        have hf_12 : ∀ j, ¬ (61 ≤ j ∧ j < 69) → u_11 j = u j := fun j hj => (show u_11 j = u_6 j from hk_11 j hj).trans (hf_8 j hj)
        exact hret _ _ _ _ _ _ (Nat.le_of_ble_eq_true rfl) (Nat.le_of_ble_eq_true rfl) ⟨Or.inl ⟨by simp [cdTotal, c_5_2, c_17_4, c_32_5, hn16b], rfl, hX_11⟩, hf_12⟩ dX4_total_62
      · skip
        have hn16b : ¬ n < 16 := fun q => by have z := (nI_eq (b := 16) (by omega) (by decide)).mp c_32_5; omega
        refine r_iconst (v := 3) F (by decide) dX4_total_35 ?_
        refine r_goto F 40 (by decide) dX4_total_36 ?_
        refine r_put (C := RX4) (T := TX4) (N := 14) (ty := .int) F 61 hL.1 (by decide) hinX4 tyX4 tyX4_ok nmX4 rfl 0 (by decide) (by decide +kernel) rfl (by decide +kernel) rfl rfl (Nat.le_of_ble_eq_true rfl) dX4_total_40 (fun u_13 hu_13 => ?_)
        have hL_14 := hL.num (th' := 3) (sm' := nI m) (ty' := nI t) (rm' := rm) (sp' := sp) (wr' := wr) (hs' := hs)
        replace hL_14 : MdL g u_13 3 (nI m) (nI t) rm sp wr hs Z SV BF VA RD CH WE := by rw [hu_13]; exact hL_14
        have hf_15 : ∀ j, ¬ (61 ≤ j ∧ j < 69) → u_13 j = u j := (fun j hj => by rw [hu_13]; exact vne (by omega))
        have hX_16 : MdX g u_13 3 rm sp wr hs VA RD CH WE n B m S t C := ⟨_, _, _, hL_14, hZ, hSV, hBF, hn16, hm6, ht60⟩
        refine r_aload_n F 0 rfl dX4_total_43 ?_
        refine r_get (C := RX4) (T := TX4) (N := 14) F 61 hL_14.1 (by decide) hinX4 rfl 0 (by decide) (by decide +kernel) rfl dX4_total_44 ?_
        refine r_if_le F 54 (by decide) dX4_total_47 (fun c_47_17 => absurd c_47_17 (by decide)) (fun c_47_17 => ?_)
        clear c_47_17
        refine r_iconst (v := 0) F (by decide) dX4_total_50 ?_
        refine r_goto F 62 (by decide) dX4_total_51 ?_
        exact hret _ _ _ _ _ _ (Nat.le_of_ble_eq_true rfl) (Nat.le_of_ble_eq_true rfl) ⟨Or.inr ⟨3, by decide, by simp [cdTotal, c_5_2, c_17_4, c_32_5, hn16b], hX_16⟩, hf_15⟩ dX4_total_62
    · skip
      replace c_17_4 := bI0 c_17_4
      refine r_iconst (v := 2) F (by decide) dX4_total_20 ?_
      refine r_goto F 40 (by decide) dX4_total_21 ?_
      refine r_put (C := RX4) (T := TX4) (N := 14) (ty := .int) F 61 hL.1 (by decide) hinX4 tyX4 tyX4_ok nmX4 rfl 0 (by decide) (by decide +kernel) rfl (by decide +kernel) rfl rfl (Nat.le_of_ble_eq_true rfl) dX4_total_40 (fun u_18 hu_18 => ?_)
      have hL_19 := hL.num (th' := 2) (sm' := nI m) (ty' := nI t) (rm' := rm) (sp' := sp) (wr' := wr) (hs' := hs)
      replace hL_19 : MdL g u_18 2 (nI m) (nI t) rm sp wr hs Z SV BF VA RD CH WE := by rw [hu_18]; exact hL_19
      have hf_20 : ∀ j, ¬ (61 ≤ j ∧ j < 69) → u_18 j = u j := (fun j hj => by rw [hu_18]; exact vne (by omega))
      have hX_21 : MdX g u_18 2 rm sp wr hs VA RD CH WE n B m S t C := ⟨_, _, _, hL_19, hZ, hSV, hBF, hn16, hm6, ht60⟩
      refine r_aload_n F 0 rfl dX4_total_43 ?_
      refine r_get (C := RX4) (T := TX4) (N := 14) F 61 hL_19.1 (by decide) hinX4 rfl 0 (by decide) (by decide +kernel) rfl dX4_total_44 ?_
      refine r_if_le F 54 (by decide) dX4_total_47 (fun c_47_22 => absurd c_47_22 (by decide)) (fun c_47_22 => ?_)
      clear c_47_22
      refine r_iconst (v := 0) F (by decide) dX4_total_50 ?_
      refine r_goto F 62 (by decide) dX4_total_51 ?_
      exact hret _ _ _ _ _ _ (Nat.le_of_ble_eq_true rfl) (Nat.le_of_ble_eq_true rfl) ⟨Or.inr ⟨2, by decide, by simp [cdTotal, c_5_2, c_17_4], hX_21⟩, hf_20⟩ dX4_total_62
  · skip
    replace c_5_2 := bI0 c_5_2
    refine r_iconst (v := 1) F (by decide) dX4_total_8 ?_
    refine r_goto F 40 (by decide) dX4_total_9 ?_
    refine r_put (C := RX4) (T := TX4) (N := 14) (ty := .int) F 61 hL.1 (by decide) hinX4 tyX4 tyX4_ok nmX4 rfl 0 (by decide) (by decide +kernel) rfl (by decide +kernel) rfl rfl (Nat.le_of_ble_eq_true rfl) dX4_total_40 (fun u_23 hu_23 => ?_)
    have hL_24 := hL.num (th' := 1) (sm' := nI m) (ty' := nI t) (rm' := rm) (sp' := sp) (wr' := wr) (hs' := hs)
    replace hL_24 : MdL g u_23 1 (nI m) (nI t) rm sp wr hs Z SV BF VA RD CH WE := by rw [hu_23]; exact hL_24
    have hf_25 : ∀ j, ¬ (61 ≤ j ∧ j < 69) → u_23 j = u j := (fun j hj => by rw [hu_23]; exact vne (by omega))
    have hX_26 : MdX g u_23 1 rm sp wr hs VA RD CH WE n B m S t C := ⟨_, _, _, hL_24, hZ, hSV, hBF, hn16, hm6, ht60⟩
    refine r_aload_n F 0 rfl dX4_total_43 ?_
    refine r_get (C := RX4) (T := TX4) (N := 14) F 61 hL_24.1 (by decide) hinX4 rfl 0 (by decide) (by decide +kernel) rfl dX4_total_44 ?_
    refine r_if_le F 54 (by decide) dX4_total_47 (fun c_47_27 => absurd c_47_27 (by decide)) (fun c_47_27 => ?_)
    clear c_47_27
    refine r_iconst (v := 0) F (by decide) dX4_total_50 ?_
    refine r_goto F 62 (by decide) dX4_total_51 ?_
    exact hret _ _ _ _ _ _ (Nat.le_of_ble_eq_true rfl) (Nat.le_of_ble_eq_true rfl) ⟨Or.inr ⟨1, by decide, by simp [cdTotal, c_5_2], hX_26⟩, hf_25⟩ dX4_total_62
set_option maxHeartbeats 4000000 in
set_option maxRecDepth 100000 in
theorem c_X4_power {g : kG} {l : Launch} {u : Nat → va_E} {t : Nat} (ht : t ≤ 5) : CI g l yX4_power wsX4_power ({ frames := 0, cells := 0, slots := 0, locals := 0 }) [.int (nI t)] u (fun r u' => r = pwT t ∧ u = u') := by
  refine CI.of (cc := cX4_power) (nL := 3) (ty := .int) (by decide +kernel) rfl (fun _ _ _ => rfl) (Nat.le_of_ble_eq_true rfl) ?_
  intro X hXl F hret
  subst hXl
  show VL g X 0 0 u 0 [(0, .int (nI t))] []
  refine r_iconst (v := 1) F (by decide) dX4_power_0 ?_
  refine r_istore_n (lv' := [(0, .int (nI t)), (1, .int 1)]) F (by decide) rfl dX4_power_1 ?_
  refine r_iconst (v := 0) F (by decide) dX4_power_2 ?_
  refine r_istore_n (lv' := [(0, .int (nI t)), (1, .int 1), (2, .int 0)]) F (by decide) rfl dX4_power_3 ?_
  have loop_4 : ∀ (k : Nat) (j : Nat) (x1_4 : Int32) (x2_4 : Int32), j + k = t → x1_4 = pwT j → x2_4 = nI j → VL g X 0 0 u 4 [(0, .int (nI t)), (1, .int x1_4), (2, .int x2_4)] [] := by
    intro k
    induction k with
    | zero =>
      rintro j x1_4 x2_4 hk rfl rfl
      have hjn : t = j := by omega
      subst hjn
      refine r_iload_n F 2 rfl dX4_power_4 ?_
      refine r_iload_n F 0 rfl dX4_power_5 ?_
      refine r_icmp_ge F 20 (by decide) dX4_power_6 (fun c_6_2 => ?_) (fun c_6_2 => absurd (Int32.le_refl _) c_6_2)
      clear c_6_2
      refine r_iload_n F 1 rfl dX4_power_20 ?_
      exact hret _ _ _ _ _ _ (Nat.le_of_ble_eq_true rfl) (Nat.le_of_ble_eq_true rfl) ⟨by rfl, rfl⟩ dX4_power_21
    | succ k ih_4 =>
      rintro j x1_4 x2_4 hk rfl rfl
      have hb : j < t := by omega
      refine r_iload_n F 2 rfl dX4_power_4 ?_
      refine r_iload_n F 0 rfl dX4_power_5 ?_
      refine r_icmp_ge F 20 (by decide) dX4_power_6 (fun c_6_3 => absurd c_6_3 (nI_ge (b := t) hb (by have := ht; omega))) (fun c_6_3 => ?_)
      clear c_6_3
      refine r_iload_n F 1 rfl dX4_power_9 ?_
      refine r_bipush (v := 10) F (by decide) dX4_power_10 ?_
      refine r_imul F dX4_power_12 ?_
      refine r_istore_n (lv' := [(0, .int (nI t)), (1, .int ((pwT j) * 10)), (2, .int (nI j))]) F (by decide) rfl dX4_power_13 ?_
      refine r_iinc (lv' := [(0, .int (nI t)), (1, .int ((pwT j) * 10)), (2, .int (nI (j + 1)))]) F 2 rfl (nI_inc _) (by decide) rfl dX4_power_14 ?_
      refine r_goto F 4 (by decide) dX4_power_17 ?_
      exact ih_4 (j + 1) _ _ (by omega)  rfl rfl
  exact loop_4 t 0 _ _ (by omega)  rfl rfl
theorem wi_none {v : Int32} : wi v 0 (-1) = false := by
  unfold wi
  cases h1 : decide (v < 0) with
  | true => rfl
  | false =>
    have q1 := of_decide_eq_false h1
    have q2 : -1 < v := by
      rw [Int32.lt_iff_toInt_lt] at q1 ⊢
      have e1 : (-1 : Int32).toInt = -1 := by decide
      have e0 : (0 : Int32).toInt = 0 := by decide
      rw [e0] at q1
      rw [e1]
      omega
    simp [q2]
set_option maxHeartbeats 4000000 in
set_option maxRecDepth 100000 in
theorem c_X4_canHave {g : kG} {l : Launch} {u : Nat → va_E} {th rm sp wr : Int32} {hs : Int64} {VA RD CH WE : Nat → Int32} {n m t : Nat} {B : kB} {S : Nat → kS} {C : Nat → Int32} {b : Nat} {v : Int32} (h : MdX g u th rm sp wr hs VA RD CH WE n B m S t C) (hw : wfB n B) (hb : b < n) : CI g l yX4_canHave wsX4_canHave ({ frames := 1, cells := 0, slots := 0, locals := 22 }) [.ref (g.2.1 61), .int (nI b), .int v] u (fun r u' => r = bI (fitA B b v) ∧ u = u') := by
  refine CI.of (cc := cX4_canHave) (nL := 3) (ty := .boolean) (by decide +kernel) rfl (fun v u' h => by obtain ⟨h, -⟩ := h; rw [h]; exact bI_n _) (Nat.le_of_ble_eq_true rfl) ?_
  intro X hXl F hret
  subst hXl
  obtain ⟨Z, SV, BF, hL, hZ, hSV, hBF, hn16, hm6, ht60⟩ := id h
  show VL g X 0 0 u 0 [(0, .ref (g.2.1 61)), (1, .int (nI b)), (2, .int v)] []
  refine r_aload_n F 0 rfl dX4_canHave_0 ?_
  refine r_iload_n F 1 rfl dX4_canHave_1 ?_
  refine r_iconst (v := 0) F (by decide) dX4_canHave_2 ?_
  refine r_calli (g_V (C := RX4) (T := TX4) (N := 14) (nA := 2) (As := [.int (nI b), .int 0]) (rest := []) F 61 hL.1 (by decide) rfl (c_X4_of h hb (w := 0) (by decide)) gX4_canHave_X4_of rfl (by decide +kernel) rfl ⟨Nat.le_of_ble_eq_true rfl, Nat.le_of_ble_eq_true rfl⟩ ⟨Nat.le_of_ble_eq_true rfl, Nat.le_of_ble_eq_true rfl⟩ rfl (Nat.le_of_ble_eq_true rfl) dX4_canHave_3) (fun r_1 u_1 hp_1 => ?_)
  obtain ⟨rfl, rfl⟩ := hp_1
  by_cases h0 : B b 0 = 0
  · refine r_eq (st2 := [.int 0]) (by rw [h0]) rfl ?_
    refine r_tabIn F 32 (by decide) (by decide) rfl (by decide) dX4_canHave_6 ?_
    refine r_iload_n F 2 rfl dX4_canHave_32 ?_
    refine r_iconst (v := -1) F (by decide) dX4_canHave_33 ?_
    refine r_icmp_eq F 56 (by decide) dX4_canHave_34 (fun c_34_2 => ?_) (fun c_34_2 => ?_)
    · skip
      refine r_iconst (v := 1) F (by decide) dX4_canHave_56 ?_
      refine r_goto F 61 (by decide) dX4_canHave_57 ?_
      exact hret _ _ _ _ _ _ (Nat.le_of_ble_eq_true rfl) (Nat.le_of_ble_eq_true rfl) ⟨by have eT : topA B b = pwT 0 ∨ True := Or.inr trivial; clear eT; obtain ⟨t0, ht0, et⟩ := hw.t b hb h0; have e2 : topA B b = pwT t0 - 1 := (by rw [topA, if_pos h0, et, nI_clamp (by omega), pwT_top ht0]); simp [fitA, e2, bI, c_34_2], rfl⟩ dX4_canHave_61
    · skip
      refine r_iload_n F 2 rfl dX4_canHave_37 ?_
      refine r_iconst (v := 0) F (by decide) dX4_canHave_38 ?_
      refine r_aload_n F 0 rfl dX4_canHave_39 ?_
      refine r_iload_n F 1 rfl dX4_canHave_40 ?_
      refine r_iconst (v := 2) F (by decide) dX4_canHave_41 ?_
      refine r_calli (g_V (C := RX4) (T := TX4) (N := 14) (nA := 2) (As := [.int (nI b), .int 2]) (rest := [.int 0, .int v]) F 61 hL.1 (by decide) rfl (c_X4_of h hb (w := 2) (by decide)) gX4_canHave_X4_of rfl (by decide +kernel) rfl ⟨Nat.le_of_ble_eq_true rfl, Nat.le_of_ble_eq_true rfl⟩ ⟨Nat.le_of_ble_eq_true rfl, Nat.le_of_ble_eq_true rfl⟩ rfl (Nat.le_of_ble_eq_true rfl) dX4_canHave_42) (fun r_3 u_3 hp_3 => ?_)
      obtain ⟨rfl, rfl⟩ := hp_3
      obtain ⟨t0, ht0, et⟩ := hw.t b hb h0
      refine r_eq (st2 := [.int (nI t0), .int 0, .int v]) (by rw [et]) rfl ?_
      refine r_calli (g_S (nA := 1) (As := [.int (nI t0)]) (rest := [.int 0, .int v]) F (c_X4_power ht0) gX4_canHave_X4_power rfl (by decide +kernel) rfl ⟨Nat.le_of_ble_eq_true rfl, Nat.le_of_ble_eq_true rfl⟩ ⟨Nat.le_of_ble_eq_true rfl, Nat.le_of_ble_eq_true rfl⟩ rfl (Nat.le_of_ble_eq_true rfl) dX4_canHave_45) (fun r_4 u_4 hp_4 => ?_)
      obtain ⟨rfl, rfl⟩ := hp_4
      refine r_iconst (v := 1) F (by decide) dX4_canHave_48 ?_
      refine r_isub F dX4_canHave_49 ?_
      refine r_calli (g_S (nA := 3) (As := [.int v, .int 0, .int ((pwT t0) - 1)]) (rest := []) F (c_X4_in) gX4_canHave_X4_in rfl (by decide +kernel) rfl ⟨Nat.le_of_ble_eq_true rfl, Nat.le_of_ble_eq_true rfl⟩ ⟨Nat.le_of_ble_eq_true rfl, Nat.le_of_ble_eq_true rfl⟩ rfl (Nat.le_of_ble_eq_true rfl) dX4_canHave_50) (fun r_5 u_5 hp_5 => ?_)
      obtain ⟨rfl, rfl⟩ := hp_5
      refine r_if_eq F 60 (by decide) dX4_canHave_53 (fun c_53_6 => ?_) (fun c_53_6 => ?_)
      · skip
        replace c_53_6 := bI0 c_53_6
        refine r_iconst (v := 0) F (by decide) dX4_canHave_60 ?_
        exact hret _ _ _ _ _ _ (Nat.le_of_ble_eq_true rfl) (Nat.le_of_ble_eq_true rfl) ⟨by have eT : topA B b = pwT 0 ∨ True := Or.inr trivial; clear eT; have e2 : topA B b = pwT t0 - 1 := (by rw [topA, if_pos h0, et, nI_clamp (by omega), pwT_top ht0]); simp [fitA, e2, bI, c_34_2, c_53_6], rfl⟩ dX4_canHave_61
      · skip
        replace c_53_6 := bI1 c_53_6
        refine r_iconst (v := 1) F (by decide) dX4_canHave_56 ?_
        refine r_goto F 61 (by decide) dX4_canHave_57 ?_
        exact hret _ _ _ _ _ _ (Nat.le_of_ble_eq_true rfl) (Nat.le_of_ble_eq_true rfl) ⟨by have eT : topA B b = pwT 0 ∨ True := Or.inr trivial; clear eT; have e2 : topA B b = pwT t0 - 1 := (by rw [topA, if_pos h0, et, nI_clamp (by omega), pwT_top ht0]); simp [fitA, e2, bI, c_34_2, c_53_6], rfl⟩ dX4_canHave_61
  · skip
    by_cases h1 : B b 0 = 1
    · refine r_eq (st2 := [.int 1]) (by rw [h1]) rfl ?_
      refine r_tabIn F 62 (by decide) (by decide) rfl (by decide) dX4_canHave_6 ?_
      refine r_iload_n F 2 rfl dX4_canHave_62 ?_
      refine r_iconst (v := -1) F (by decide) dX4_canHave_63 ?_
      refine r_iconst (v := 1) F (by decide) dX4_canHave_64 ?_
      refine r_calli (g_S (nA := 3) (As := [.int v, .int (-1), .int 1]) (rest := []) F (c_X4_in) gX4_canHave_X4_in rfl (by decide +kernel) rfl ⟨Nat.le_of_ble_eq_true rfl, Nat.le_of_ble_eq_true rfl⟩ ⟨Nat.le_of_ble_eq_true rfl, Nat.le_of_ble_eq_true rfl⟩ rfl (Nat.le_of_ble_eq_true rfl) dX4_canHave_65) (fun r_7 u_7 hp_7 => ?_)
      obtain ⟨rfl, rfl⟩ := hp_7
      exact hret _ _ _ _ _ _ (Nat.le_of_ble_eq_true rfl) (Nat.le_of_ble_eq_true rfl) ⟨by rw [wi_neg (by decide)]; simp [fitA, topA, h1], rfl⟩ dX4_canHave_68
    · skip
      by_cases h2 : B b 0 = 2
      · refine r_eq (st2 := [.int 2]) (by rw [h2]) rfl ?_
        refine r_tabIn F 69 (by decide) (by decide) rfl (by decide) dX4_canHave_6 ?_
        refine r_iload_n F 2 rfl dX4_canHave_69 ?_
        refine r_iconst (v := -1) F (by decide) dX4_canHave_70 ?_
        refine r_bipush (v := 99) F (by decide) dX4_canHave_71 ?_
        refine r_calli (g_S (nA := 3) (As := [.int v, .int (-1), .int 99]) (rest := []) F (c_X4_in) gX4_canHave_X4_in rfl (by decide +kernel) rfl ⟨Nat.le_of_ble_eq_true rfl, Nat.le_of_ble_eq_true rfl⟩ ⟨Nat.le_of_ble_eq_true rfl, Nat.le_of_ble_eq_true rfl⟩ rfl (Nat.le_of_ble_eq_true rfl) dX4_canHave_73) (fun r_8 u_8 hp_8 => ?_)
        obtain ⟨rfl, rfl⟩ := hp_8
        exact hret _ _ _ _ _ _ (Nat.le_of_ble_eq_true rfl) (Nat.le_of_ble_eq_true rfl) ⟨by rw [wi_neg (by decide)]; simp [fitA, topA, h2], rfl⟩ dX4_canHave_76
      · skip
        refine r_tabOut F 77 (tabO2 h0 h1 h2) (by decide) dX4_canHave_6 ?_
        refine r_iload_n F 2 rfl dX4_canHave_77 ?_
        refine r_iconst (v := -1) F (by decide) dX4_canHave_78 ?_
        refine r_icmp_ne F 86 (by decide) dX4_canHave_79 (fun c_79_9 => ?_) (fun c_79_9 => ?_)
        · skip
          refine r_iconst (v := 0) F (by decide) dX4_canHave_86 ?_
          exact hret _ _ _ _ _ _ (Nat.le_of_ble_eq_true rfl) (Nat.le_of_ble_eq_true rfl) ⟨by have e2 : wi v 0 (-1) = false := wi_none; simp [fitA, topA, bI, e2, h0, h1, h2, c_79_9], rfl⟩ dX4_canHave_87
        · skip
          refine r_iconst (v := 1) F (by decide) dX4_canHave_82 ?_
          refine r_goto F 87 (by decide) dX4_canHave_83 ?_
          exact hret _ _ _ _ _ _ (Nat.le_of_ble_eq_true rfl) (Nat.le_of_ble_eq_true rfl) ⟨by have e2 : wi v 0 (-1) = false := wi_none; simp [fitA, topA, bI, e2, h0, h1, h2, c_79_9], rfl⟩ dX4_canHave_87
set_option maxHeartbeats 4000000 in
set_option maxRecDepth 100000 in
theorem c_X4_answer {g : kG} {l : Launch} {u : Nat → va_E} {th rm sp wr : Int32} {hs : Int64} {VA RD CH WE : Nat → Int32} {n m t : Nat} {B : kB} {S : Nat → kS} {C : Nat → Int32} {x v : Int32} (h : MdX g u th rm sp wr hs VA RD CH WE n B m S t C) (hw : wfB n B) : CI g l yX4_answer wsX4_answer ({ frames := 4, cells := 0, slots := 0, locals := 91 }) [.ref (g.2.1 61), .int x, .int v] u (fun r u' => ((cdAnswer B n x v = 0 ∧ r = cntN n (qWts (bUp B x.toNatClampNeg 4 v) (opm (bUp B x.toNatClampNeg 4 v) n)) ∧ MdX g u' 0 rm sp wr hs VA RD CH WE n (bUp B x.toNatClampNeg 4 v) (pushM m) (pushS m S (n, B)) t C) ∨ (∃ c, 0 < c ∧ cdAnswer B n x v = c ∧ MdX g u' (nI c) rm sp wr hs VA RD CH WE n B m S t C)) ∧ ∀ j, ¬ (61 ≤ j ∧ j < 69) → u' j = u j) := by
  refine CI.of (cc := cX4_answer) (nL := 3) (ty := .int) (by decide +kernel) rfl (fun _ _ _ => rfl) (Nat.le_of_ble_eq_true rfl) ?_
  intro X hXl F hret
  subst hXl
  have hinX4 : ∀ w ∈ wsX40, w ∈ wsX4_answer := by decide +kernel
  obtain ⟨Z, SV, BF, hL, hZ, hSV, hBF, hn16, hm6, ht60⟩ := id h
  show VL g X 0 0 u 0 [(0, .ref (g.2.1 61)), (1, .int x), (2, .int v)] []
  refine r_aload_n F 0 rfl dX4_answer_0 ?_
  refine r_aload_n F 0 rfl dX4_answer_1 ?_
  refine r_iload_n F 1 rfl dX4_answer_2 ?_
  refine r_calli (g_V (C := RX4) (T := TX4) (N := 14) (nA := 1) (As := [.int x]) (rest := [.ref (g.2.1 61)]) F 61 hL.1 (by decide) rfl (c_X4_isBox h ) gX4_answer_X4_isBox rfl (by decide +kernel) rfl ⟨Nat.le_of_ble_eq_true rfl, Nat.le_of_ble_eq_true rfl⟩ ⟨Nat.le_of_ble_eq_true rfl, Nat.le_of_ble_eq_true rfl⟩ rfl (Nat.le_of_ble_eq_true rfl) dX4_answer_3) (fun r_1 u_1 hp_1 => ?_)
  obtain ⟨rfl, rfl⟩ := hp_1
  refine r_if_ne F 13 (by decide) dX4_answer_6 (fun c_6_2 => ?_) (fun c_6_2 => ?_)
  · skip
    replace c_6_2 := bI1 c_6_2
    obtain ⟨b, hb, eb⟩ := hasB_of (by omega) c_6_2
    subst eb
    have hbc : (nI b).toNatClampNeg = b := nI_clamp (by omega)
    refine r_aload_n F 0 rfl dX4_answer_13 ?_
    refine r_iload_n F 1 rfl dX4_answer_14 ?_
    refine r_iload_n F 2 rfl dX4_answer_15 ?_
    refine r_calli (g_V (C := RX4) (T := TX4) (N := 14) (nA := 2) (As := [.int (nI b), .int v]) (rest := [.ref (g.2.1 61)]) F 61 hL.1 (by decide) rfl (c_X4_canHave h hw hb) gX4_answer_X4_canHave rfl (by decide +kernel) rfl ⟨Nat.le_of_ble_eq_true rfl, Nat.le_of_ble_eq_true rfl⟩ ⟨Nat.le_of_ble_eq_true rfl, Nat.le_of_ble_eq_true rfl⟩ rfl (Nat.le_of_ble_eq_true rfl) dX4_answer_16) (fun r_3 u_3 hp_3 => ?_)
    obtain ⟨rfl, rfl⟩ := hp_3
    refine r_if_eq F 26 (by decide) dX4_answer_19 (fun c_19_4 => ?_) (fun c_19_4 => ?_)
    · skip
      replace c_19_4 := bI0 c_19_4
      refine r_iconst (v := 2) F (by decide) dX4_answer_26 ?_
      refine r_put (C := RX4) (T := TX4) (N := 14) (ty := .int) F 61 hL.1 (by decide) hinX4 tyX4 tyX4_ok nmX4 rfl 0 (by decide) (by decide +kernel) rfl (by decide +kernel) rfl rfl (Nat.le_of_ble_eq_true rfl) dX4_answer_27 (fun u_5 hu_5 => ?_)
      have hL_6 := hL.num (th' := 2) (sm' := nI m) (ty' := nI t) (rm' := rm) (sp' := sp) (wr' := wr) (hs' := hs)
      replace hL_6 : MdL g u_5 2 (nI m) (nI t) rm sp wr hs Z SV BF VA RD CH WE := by rw [hu_5]; exact hL_6
      have hf_7 : ∀ j, ¬ (61 ≤ j ∧ j < 69) → u_5 j = u j := (fun j hj => by rw [hu_5]; exact vne (by omega))
      have hX_8 : MdX g u_5 2 rm sp wr hs VA RD CH WE n B m S t C := ⟨_, _, _, hL_6, hZ, hSV, hBF, hn16, hm6, ht60⟩
      refine r_aload_n F 0 rfl dX4_answer_30 ?_
      refine r_get (C := RX4) (T := TX4) (N := 14) F 61 hL_6.1 (by decide) hinX4 rfl 0 (by decide) (by decide +kernel) rfl dX4_answer_31 ?_
      refine r_if_le F 39 (by decide) dX4_answer_34 (fun c_34_9 => absurd c_34_9 (by decide)) (fun c_34_9 => ?_)
      clear c_34_9
      refine r_iconst (v := 0) F (by decide) dX4_answer_37 ?_
      exact hret _ _ _ _ _ _ (Nat.le_of_ble_eq_true rfl) (Nat.le_of_ble_eq_true rfl) (by rw [hbc]; exact ⟨Or.inr ⟨2, by decide, by simp [cdAnswer, c_6_2, c_19_4, hbc], hX_8⟩, hf_7⟩) dX4_answer_38
    · skip
      replace c_19_4 := bI1 c_19_4
      refine r_iconst (v := 0) F (by decide) dX4_answer_22 ?_
      refine r_goto F 27 (by decide) dX4_answer_23 ?_
      refine r_put (C := RX4) (T := TX4) (N := 14) (ty := .int) F 61 hL.1 (by decide) hinX4 tyX4 tyX4_ok nmX4 rfl 0 (by decide) (by decide +kernel) rfl (by decide +kernel) rfl rfl (Nat.le_of_ble_eq_true rfl) dX4_answer_27 (fun u_10 hu_10 => ?_)
      have hL_11 := hL.num (th' := 0) (sm' := nI m) (ty' := nI t) (rm' := rm) (sp' := sp) (wr' := wr) (hs' := hs)
      replace hL_11 : MdL g u_10 0 (nI m) (nI t) rm sp wr hs Z SV BF VA RD CH WE := by rw [hu_10]; exact hL_11
      have hf_12 : ∀ j, ¬ (61 ≤ j ∧ j < 69) → u_10 j = u j := (fun j hj => by rw [hu_10]; exact vne (by omega))
      have hX_13 : MdX g u_10 0 rm sp wr hs VA RD CH WE n B m S t C := ⟨_, _, _, hL_11, hZ, hSV, hBF, hn16, hm6, ht60⟩
      refine r_aload_n F 0 rfl dX4_answer_30 ?_
      refine r_get (C := RX4) (T := TX4) (N := 14) F 61 hL_11.1 (by decide) hinX4 rfl 0 (by decide) (by decide +kernel) rfl dX4_answer_31 ?_
      refine r_if_le F 39 (by decide) dX4_answer_34 (fun c_34_14 => ?_) (fun c_34_14 => absurd c_34_14 (by decide))
      clear c_34_14
      refine r_aload_n F 0 rfl dX4_answer_39 ?_
      refine r_callv (g_V (C := RX4) (T := TX4) (N := 14) (nA := 0) (As := []) (rest := []) F 61 hL_11.1 (by decide) rfl (c_X4_save hX_13) gX4_answer_X4_save rfl (by decide +kernel) rfl ⟨Nat.le_of_ble_eq_true rfl, Nat.le_of_ble_eq_true rfl⟩ ⟨Nat.le_of_ble_eq_true rfl, Nat.le_of_ble_eq_true rfl⟩ rfl (Nat.le_of_ble_eq_true rfl) dX4_answer_40) (fun u_15 hp_15 => ?_)
      obtain ⟨hX_15, hk_15⟩ := hp_15
      obtain ⟨Z_15, SV_15, BF_15, hL_15, hZ_15, hSV_15, hBF_15, hn_15, hm_15, ht_15⟩ := id hX_15
      have hf_16 : ∀ j, ¬ (61 ≤ j ∧ j < 69) → u_15 j = u j := fun j hj => (show u_15 j = u_10 j from hk_15 j hj).trans (hf_12 j hj)
      refine r_aload_n F 0 rfl dX4_answer_43 ?_
      refine r_iload_n F 1 rfl dX4_answer_44 ?_
      refine r_iconst (v := 4) F (by decide) dX4_answer_45 ?_
      refine r_iload_n F 2 rfl dX4_answer_46 ?_
      refine r_callv (g_V (C := RX4) (T := TX4) (N := 14) (nA := 3) (As := [.int (nI b), .int 4, .int v]) (rest := []) F 61 hL_15.1 (by decide) rfl (c_X4_lay hL_15 (by omega) (w := 4) (by decide)) gX4_answer_X4_lay rfl (by decide +kernel) rfl ⟨Nat.le_of_ble_eq_true rfl, Nat.le_of_ble_eq_true rfl⟩ ⟨Nat.le_of_ble_eq_true rfl, Nat.le_of_ble_eq_true rfl⟩ rfl (Nat.le_of_ble_eq_true rfl) dX4_answer_47) (fun u_17 hp_17 => ?_)
      obtain ⟨hL_17, hk_17⟩ := hp_17
      have hf_18 : ∀ j, ¬ (61 ≤ j ∧ j < 69) → u_17 j = u j := fun j hj => (show u_17 j = u_15 j from hk_17 j hj).trans (hf_16 j hj)
      have hX_19 : MdX g u_17 0 rm sp wr hs VA RD CH WE n (bUp B b 4 v) (pushM m) (pushS m S (n, B)) t C := ⟨_, _, _, hL_17, hZ_15.up, hSV_15, hBF_15, hn_15, hm_15, ht_15⟩
      refine r_aload_n F 0 rfl dX4_answer_50 ?_
      refine r_aload_n F 0 rfl dX4_answer_51 ?_
      refine r_calli (g_V (C := RX4) (T := TX4) (N := 14) (nA := 0) (As := []) (rest := [.ref (g.2.1 61)]) F 61 hL_17.1 (by decide) rfl (c_X4_open hX_19 ) gX4_answer_X4_open rfl (by decide +kernel) rfl ⟨Nat.le_of_ble_eq_true rfl, Nat.le_of_ble_eq_true rfl⟩ ⟨Nat.le_of_ble_eq_true rfl, Nat.le_of_ble_eq_true rfl⟩ rfl (Nat.le_of_ble_eq_true rfl) dX4_answer_52) (fun r_20 u_20 hp_20 => ?_)
      obtain ⟨rfl, rfl⟩ := hp_20
      refine r_calli (g_V (C := RX4) (T := TX4) (N := 14) (nA := 1) (As := [.int (opm (bUp B b 4 v) n)]) (rest := []) F 61 hL_17.1 (by decide) rfl (c_X4_wanting hX_19 ) gX4_answer_X4_wanting rfl (by decide +kernel) rfl ⟨Nat.le_of_ble_eq_true rfl, Nat.le_of_ble_eq_true rfl⟩ ⟨Nat.le_of_ble_eq_true rfl, Nat.le_of_ble_eq_true rfl⟩ rfl (Nat.le_of_ble_eq_true rfl) dX4_answer_55) (fun r_21 u_21 hp_21 => ?_)
      obtain ⟨rfl, rfl⟩ := hp_21
      exact hret _ _ _ _ _ _ (Nat.le_of_ble_eq_true rfl) (Nat.le_of_ble_eq_true rfl) (by rw [hbc]; exact ⟨Or.inl ⟨by simp [cdAnswer, c_6_2, c_19_4, hbc], rfl, hX_19⟩, hf_18⟩) dX4_answer_58
  · skip
    replace c_6_2 := bI0 c_6_2
    refine r_iconst (v := 1) F (by decide) dX4_answer_9 ?_
    refine r_goto F 27 (by decide) dX4_answer_10 ?_
    refine r_put (C := RX4) (T := TX4) (N := 14) (ty := .int) F 61 hL.1 (by decide) hinX4 tyX4 tyX4_ok nmX4 rfl 0 (by decide) (by decide +kernel) rfl (by decide +kernel) rfl rfl (Nat.le_of_ble_eq_true rfl) dX4_answer_27 (fun u_22 hu_22 => ?_)
    have hL_23 := hL.num (th' := 1) (sm' := nI m) (ty' := nI t) (rm' := rm) (sp' := sp) (wr' := wr) (hs' := hs)
    replace hL_23 : MdL g u_22 1 (nI m) (nI t) rm sp wr hs Z SV BF VA RD CH WE := by rw [hu_22]; exact hL_23
    have hf_24 : ∀ j, ¬ (61 ≤ j ∧ j < 69) → u_22 j = u j := (fun j hj => by rw [hu_22]; exact vne (by omega))
    have hX_25 : MdX g u_22 1 rm sp wr hs VA RD CH WE n B m S t C := ⟨_, _, _, hL_23, hZ, hSV, hBF, hn16, hm6, ht60⟩
    refine r_aload_n F 0 rfl dX4_answer_30 ?_
    refine r_get (C := RX4) (T := TX4) (N := 14) F 61 hL_23.1 (by decide) hinX4 rfl 0 (by decide) (by decide +kernel) rfl dX4_answer_31 ?_
    refine r_if_le F 39 (by decide) dX4_answer_34 (fun c_34_26 => absurd c_34_26 (by decide)) (fun c_34_26 => ?_)
    clear c_34_26
    refine r_iconst (v := 0) F (by decide) dX4_answer_37 ?_
    exact hret _ _ _ _ _ _ (Nat.le_of_ble_eq_true rfl) (Nat.le_of_ble_eq_true rfl) ⟨Or.inr ⟨1, by decide, by simp [cdAnswer, c_6_2], hX_25⟩, hf_24⟩ dX4_answer_38
set_option maxHeartbeats 4000000 in
set_option maxRecDepth 100000 in
theorem c_X4_clear {g : kG} {l : Launch} {u : Nat → va_E} {th rm sp wr : Int32} {hs : Int64} {VA RD CH WE : Nat → Int32} {n m t : Nat} {B : kB} {S : Nat → kS} {C : Nat → Int32}  (h : MdX g u th rm sp wr hs VA RD CH WE n B m S t C)  : CI g l yX4_clear wsX4_clear ({ frames := 2, cells := 0, slots := 0, locals := 44 }) [.ref (g.2.1 61)] u (fun r u' => r = cntN n (fun b => !decide (B b 4 = -1)) ∧ MdX g u' 0 rm sp wr hs VA RD CH WE n (clrB B n) (pushM m) (pushS m S (n, B)) t C ∧ ∀ j, ¬ (61 ≤ j ∧ j < 69) → u' j = u j) := by
  refine CI.of (cc := cX4_clear) (nL := 3) (ty := .int) (by decide +kernel) rfl (fun _ _ _ => rfl) (Nat.le_of_ble_eq_true rfl) ?_
  intro X hXl F hret
  subst hXl
  have hinX4 : ∀ w ∈ wsX40, w ∈ wsX4_clear := by decide +kernel
  obtain ⟨Z, SV, BF, hL, hZ, hSV, hBF, hn16, hm6, ht60⟩ := id h
  show VL g X 0 0 u 0 [(0, .ref (g.2.1 61))] []
  refine r_aload_n F 0 rfl dX4_clear_0 ?_
  refine r_iconst (v := 0) F (by decide) dX4_clear_1 ?_
  refine r_put (C := RX4) (T := TX4) (N := 14) (ty := .int) F 61 hL.1 (by decide) hinX4 tyX4 tyX4_ok nmX4 rfl 0 (by decide) (by decide +kernel) rfl (by decide +kernel) rfl rfl (Nat.le_of_ble_eq_true rfl) dX4_clear_2 (fun u_1 hu_1 => ?_)
  have hL_2 := hL.num (th' := 0) (sm' := nI m) (ty' := nI t) (rm' := rm) (sp' := sp) (wr' := wr) (hs' := hs)
  replace hL_2 : MdL g u_1 0 (nI m) (nI t) rm sp wr hs Z SV BF VA RD CH WE := by rw [hu_1]; exact hL_2
  have hf_3 : ∀ j, ¬ (61 ≤ j ∧ j < 69) → u_1 j = u j := (fun j hj => by rw [hu_1]; exact vne (by omega))
  have hX_4 : MdX g u_1 0 rm sp wr hs VA RD CH WE n B m S t C := ⟨_, _, _, hL_2, hZ, hSV, hBF, hn16, hm6, ht60⟩
  refine r_aload_n F 0 rfl dX4_clear_5 ?_
  refine r_callv (g_V (C := RX4) (T := TX4) (N := 14) (nA := 0) (As := []) (rest := []) F 61 hL_2.1 (by decide) rfl (c_X4_save hX_4) gX4_clear_X4_save rfl (by decide +kernel) rfl ⟨Nat.le_of_ble_eq_true rfl, Nat.le_of_ble_eq_true rfl⟩ ⟨Nat.le_of_ble_eq_true rfl, Nat.le_of_ble_eq_true rfl⟩ rfl (Nat.le_of_ble_eq_true rfl) dX4_clear_6) (fun u_5 hp_5 => ?_)
  obtain ⟨hX_5, hk_5⟩ := hp_5
  obtain ⟨Z_5, SV_5, BF_5, hL_5, hZ_5, hSV_5, hBF_5, hn_5, hm_5, ht_5⟩ := id hX_5
  have hf_6 : ∀ j, ¬ (61 ≤ j ∧ j < 69) → u_5 j = u j := fun j hj => (show u_5 j = u_1 j from hk_5 j hj).trans (hf_3 j hj)
  refine r_aload_n F 0 rfl dX4_clear_9 ?_
  refine r_calli (g_V (C := RX4) (T := TX4) (N := 14) (nA := 0) (As := []) (rest := []) F 61 hL_5.1 (by decide) rfl (c_X4_answered hX_5 ) gX4_clear_X4_answered rfl (by decide +kernel) rfl ⟨Nat.le_of_ble_eq_true rfl, Nat.le_of_ble_eq_true rfl⟩ ⟨Nat.le_of_ble_eq_true rfl, Nat.le_of_ble_eq_true rfl⟩ rfl (Nat.le_of_ble_eq_true rfl) dX4_clear_10) (fun r_7 u_7 hp_7 => ?_)
  obtain ⟨rfl, rfl⟩ := hp_7
  refine r_istore_n (lv' := [(0, .ref (g.2.1 61)), (1, .int (cntN n (fun b => !decide (B b 4 = -1))))]) F (by decide) rfl dX4_clear_13 ?_
  refine r_iconst (v := 0) F (by decide) dX4_clear_14 ?_
  refine r_istore_n (lv' := [(0, .ref (g.2.1 61)), (1, .int (cntN n (fun b => !decide (B b 4 = -1)))), (2, .int 0)]) F (by decide) rfl dX4_clear_15 ?_
  have loop_16 : ∀ (k : Nat) (j : Nat) (w : Nat → va_E) (x2_16 : Int32), j + k = n → MdX g w 0 rm sp wr hs VA RD CH WE n (clrB B j) (pushM m) (pushS m S (n, B)) t C → (∀ j, ¬ (61 ≤ j ∧ j < 69) → w j = u j) → x2_16 = nI j → VL g X 0 0 w 16 [(0, .ref (g.2.1 61)), (1, .int (cntN n (fun b => !decide (B b 4 = -1)))), (2, .int x2_16)] [] := by
    intro k
    induction k with
    | zero =>
      rintro j w x2_16 hk hXw hfw rfl
      obtain ⟨Z_99, SV_99, BF_99, hL_99, hZ_99, hSV_99, hBF_99, hn_99, hm_99, ht_99⟩ := id hXw
      have hjn : n = j := by omega
      subst hjn
      refine r_iload_n F 2 rfl dX4_clear_16 ?_
      refine r_aload_n F 0 rfl dX4_clear_17 ?_
      refine r_get (C := RX4) (T := TX4) (N := 14) F 61 hL_99.1 (by decide) hinX4 rfl 1 (by decide) (by decide +kernel) rfl dX4_clear_18 ?_
      refine r_iconst (v := 0) F (by decide) dX4_clear_21 ?_
      refine r_iald F 62 hL_99.2.1 (by decide) (vp_in_nI (n := 0) (by decide) (by decide)) dX4_clear_22 ?_
      refine r_eq (st2 := [.int (nI n), .int (nI n)]) (by rw [show Z_99 (0 : Int32).toNatClampNeg = nI n from hZ_99.1]) rfl ?_
      refine r_icmp_ge F 39 (by decide) dX4_clear_23 (fun c_23_9 => ?_) (fun c_23_9 => absurd (Int32.le_refl _) c_23_9)
      clear c_23_9
      refine r_iload_n F 1 rfl dX4_clear_39 ?_
      exact hret _ _ _ _ _ _ (Nat.le_of_ble_eq_true rfl) (Nat.le_of_ble_eq_true rfl) ⟨rfl, hXw, hfw⟩ dX4_clear_40
    | succ k ih_16 =>
      rintro j w x2_16 hk hXw hfw rfl
      obtain ⟨Z_99, SV_99, BF_99, hL_99, hZ_99, hSV_99, hBF_99, hn_99, hm_99, ht_99⟩ := id hXw
      have hb : j < n := by omega
      refine r_iload_n F 2 rfl dX4_clear_16 ?_
      refine r_aload_n F 0 rfl dX4_clear_17 ?_
      refine r_get (C := RX4) (T := TX4) (N := 14) F 61 hL_99.1 (by decide) hinX4 rfl 1 (by decide) (by decide +kernel) rfl dX4_clear_18 ?_
      refine r_iconst (v := 0) F (by decide) dX4_clear_21 ?_
      refine r_iald F 62 hL_99.2.1 (by decide) (vp_in_nI (n := 0) (by decide) (by decide)) dX4_clear_22 ?_
      refine r_eq (st2 := [.int (nI n), .int (nI j)]) (by rw [show Z_99 (0 : Int32).toNatClampNeg = nI n from hZ_99.1]) rfl ?_
      refine r_icmp_ge F 39 (by decide) dX4_clear_23 (fun c_23_10 => absurd c_23_10 (nI_ge (b := n) hb (by omega))) (fun c_23_10 => ?_)
      clear c_23_10
      refine r_aload_n F 0 rfl dX4_clear_26 ?_
      refine r_iload_n F 2 rfl dX4_clear_27 ?_
      refine r_iconst (v := 4) F (by decide) dX4_clear_28 ?_
      refine r_iconst (v := -1) F (by decide) dX4_clear_29 ?_
      refine r_callv (g_V (C := RX4) (T := TX4) (N := 14) (nA := 3) (As := [.int (nI j), .int 4, .int (-1)]) (rest := []) F 61 hL_99.1 (by decide) rfl (c_X4_lay hL_99 (by omega) (w := 4) (by decide)) gX4_clear_X4_lay rfl (by decide +kernel) rfl ⟨Nat.le_of_ble_eq_true rfl, Nat.le_of_ble_eq_true rfl⟩ ⟨Nat.le_of_ble_eq_true rfl, Nat.le_of_ble_eq_true rfl⟩ rfl (Nat.le_of_ble_eq_true rfl) dX4_clear_30) (fun u_11 hp_11 => ?_)
      obtain ⟨hL_11, hk_11⟩ := hp_11
      have hf_12 : ∀ j, ¬ (61 ≤ j ∧ j < 69) → u_11 j = u j := fun j hj => (show u_11 j = w j from hk_11 j hj).trans (hfw j hj)
      have hX_13 : MdX g u_11 0 rm sp wr hs VA RD CH WE n (bUp (clrB B j) j 4 (-1)) (pushM m) (pushS m S (n, B)) t C := ⟨_, _, _, hL_11, hZ_99.up, hSV_99, hBF_99, hn_99, hm_99, ht_99⟩
      refine r_iinc (lv' := [(0, .ref (g.2.1 61)), (1, .int (cntN n (fun b => !decide (B b 4 = -1)))), (2, .int (nI (j + 1)))]) F 2 rfl (nI_inc _) (by decide) rfl dX4_clear_33 ?_
      refine r_goto F 16 (by decide) dX4_clear_36 ?_
      exact ih_16 (j + 1) _ _ (by omega) (clrB_s ▸ hX_13) hf_12 rfl
  exact loop_16 n 0 u_5 _ (by omega) (clrB_0.symm ▸ hX_5) hf_6 rfl

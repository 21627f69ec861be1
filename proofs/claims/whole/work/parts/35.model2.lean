set_option maxHeartbeats 4000000 in
set_option maxRecDepth 100000 in
theorem c_X4_firstWanting {g : kG} {l : Launch} {u : Nat → va_E} {th rm sp wr : Int32} {hs : Int64} {VA RD CH WE : Nat → Int32} {n m t : Nat} {B : kB} {S : Nat → kS} {C : Nat → Int32} {mask : Int32} (h : MdX g u th rm sp wr hs VA RD CH WE n B m S t C)  : CI g l yX4_firstWanting wsX4_firstWanting ({ frames := 3, cells := 0, slots := 0, locals := 66 }) [.ref (g.2.1 61), .int mask] u (fun r u' => r = fstN n (qWts B mask) ∧ u = u') := by
  refine CI.of (cc := cX4_firstWanting) (nL := 4) (ty := .int) (by decide +kernel) rfl (fun _ _ _ => rfl) (Nat.le_of_ble_eq_true rfl) ?_
  intro X hXl F hret
  subst hXl
  have hinX4 : ∀ w ∈ wsX40, w ∈ wsX4_firstWanting := by decide +kernel
  obtain ⟨Z, SV, BF, hL, hZ, hSV, hBF, hn16, hm6, ht60⟩ := id h
  show VL g X 0 0 u 0 [(0, .ref (g.2.1 61)), (1, .int mask)] []
  refine r_iconst (v := -1) F (by decide) dX4_firstWanting_0 ?_
  refine r_istore_n (lv' := [(0, .ref (g.2.1 61)), (1, .int mask), (2, .int (-1))]) F (by decide) rfl dX4_firstWanting_1 ?_
  refine r_aload_n F 0 rfl dX4_firstWanting_2 ?_
  refine r_get (C := RX4) (T := TX4) (N := 14) F 61 hL.1 (by decide) hinX4 rfl 1 (by decide) (by decide +kernel) rfl dX4_firstWanting_3 ?_
  refine r_iconst (v := 0) F (by decide) dX4_firstWanting_6 ?_
  refine r_iald F 62 hL.2.1 (by decide) (vp_in_nI (n := 0) (by decide) (by decide)) dX4_firstWanting_7 ?_
  refine r_eq (st2 := [.int (nI n)]) (by rw [show Z (0 : Int32).toNatClampNeg = nI n from hZ.1]) rfl ?_
  refine r_iconst (v := 1) F (by decide) dX4_firstWanting_8 ?_
  refine r_isub F dX4_firstWanting_9 ?_
  refine r_istore_n (lv' := [(0, .ref (g.2.1 61)), (1, .int mask), (2, .int (-1)), (3, .int ((nI n) - 1))]) F (by decide) rfl dX4_firstWanting_10 ?_
  have loop_11 : ∀ (k : Nat) (x0 : Int32) (x2_11 : Int32) (x3_11 : Int32), k ≤ n → (fstN n (qWts B mask) = if anyN k (qWts B mask) then fstN k (qWts B mask) else x0) → x0 = x2_11 → x3_11 = nI k - 1 → VL g X 0 0 u 11 [(0, .ref (g.2.1 61)), (1, .int mask), (2, .int x2_11), (3, .int x3_11)] [] := by
    intro k
    induction k with
    | zero =>
      rintro x0 x2_11 x3_11 hk hf rfl rfl
      refine r_iload_n F 3 rfl dX4_firstWanting_11 ?_
      refine r_if_lt F 36 (by decide) dX4_firstWanting_12 (fun c_12_2 => ?_) (fun c_12_2 => absurd (by decide) c_12_2)
      clear c_12_2
      refine r_iload_n F 2 rfl dX4_firstWanting_36 ?_
      exact hret _ _ _ _ _ _ (Nat.le_of_ble_eq_true rfl) (Nat.le_of_ble_eq_true rfl) ⟨by simpa [anyN] using hf.symm, rfl⟩ dX4_firstWanting_37
    | succ k ih_11 =>
      rintro x0 x2_11 x3_11 hk hf rfl rfl
      have hb : k < n := by omega
      rw [nI_pred k]
      refine r_iload_n F 3 rfl dX4_firstWanting_11 ?_
      refine r_if_lt F 36 (by decide) dX4_firstWanting_12 (fun c_12_3 => absurd c_12_3 (nI_pos (by omega))) (fun c_12_3 => ?_)
      clear c_12_3
      refine r_aload_n F 0 rfl dX4_firstWanting_15 ?_
      refine r_iload_n F 3 rfl dX4_firstWanting_16 ?_
      refine r_iload_n F 1 rfl dX4_firstWanting_17 ?_
      refine r_calli (g_V (C := RX4) (T := TX4) (N := 14) (nA := 2) (As := [.int (nI k), .int mask]) (rest := []) F 61 hL.1 (by decide) rfl (c_X4_wants h hb) gX4_firstWanting_X4_wants rfl (by decide +kernel) rfl ⟨Nat.le_of_ble_eq_true rfl, Nat.le_of_ble_eq_true rfl⟩ ⟨Nat.le_of_ble_eq_true rfl, Nat.le_of_ble_eq_true rfl⟩ rfl (Nat.le_of_ble_eq_true rfl) dX4_firstWanting_18) (fun r_4 u_4 hp_4 => ?_)
      obtain ⟨rfl, rfl⟩ := hp_4
      refine r_if_eq F 28 (by decide) dX4_firstWanting_21 (fun c_21_5 => ?_) (fun c_21_5 => ?_)
      · skip
        replace c_21_5 := bI0 c_21_5
        refine r_iload_n F 2 rfl dX4_firstWanting_28 ?_
        refine r_istore_n (lv' := [(0, .ref (g.2.1 61)), (1, .int mask), (2, .int x0), (3, .int (nI k))]) F (by decide) rfl dX4_firstWanting_29 ?_
        refine r_iinc (lv' := [(0, .ref (g.2.1 61)), (1, .int mask), (2, .int x0), (3, .int (nI k - 1))]) F 3 rfl (nI_dec _) (by decide) rfl dX4_firstWanting_30 ?_
        refine r_goto F 11 (by decide) dX4_firstWanting_33 ?_
        exact ih_11 x0 _ _ (by omega) (fst_skip hf c_21_5) rfl rfl
      · skip
        replace c_21_5 := bI1 c_21_5
        refine r_iload_n F 3 rfl dX4_firstWanting_24 ?_
        refine r_goto F 29 (by decide) dX4_firstWanting_25 ?_
        refine r_istore_n (lv' := [(0, .ref (g.2.1 61)), (1, .int mask), (2, .int (nI k)), (3, .int (nI k))]) F (by decide) rfl dX4_firstWanting_29 ?_
        refine r_iinc (lv' := [(0, .ref (g.2.1 61)), (1, .int mask), (2, .int (nI k)), (3, .int (nI k - 1))]) F 3 rfl (nI_dec _) (by decide) rfl dX4_firstWanting_30 ?_
        refine r_goto F 11 (by decide) dX4_firstWanting_33 ?_
        exact ih_11 (nI k) _ _ (by omega) (fst_step hf c_21_5) rfl rfl
  exact loop_11 n (-1) _ _ (Nat.le_refl _) fst_end rfl rfl
set_option maxHeartbeats 4000000 in
set_option maxRecDepth 100000 in
theorem c_X4_lay {g : kG} {l : Launch} {u : Nat → va_E} {th sm ty rm sp wr : Int32} {hs : Int64} {Z SV BF VA RD CH WE : Nat → Int32} {b w : Nat} {v : Int32} (hL : MdL g u th sm ty rm sp wr hs Z SV BF VA RD CH WE) (hb : b < 16) (hw : w < 5) : CV g l yX4_lay wsX4_lay ({ frames := 0, cells := 0, slots := 0, locals := 0 }) [.ref (g.2.1 61), .int (nI b), .int (nI w), .int v] u (fun u' => MdL g u' th sm ty rm sp wr hs (upd Z (1 + 5 * b + w) v) SV BF VA RD CH WE ∧ ∀ j, ¬ (61 ≤ j ∧ j < 69) → u' j = u j) := by
  refine CV.of (cc := cX4_lay) (nL := 4) (by decide +kernel) rfl (Nat.le_of_ble_eq_true rfl) ?_
  intro X hXl F hret
  subst hXl
  have hinX4 : ∀ w ∈ wsX40, w ∈ wsX4_lay := by decide +kernel
  show VL g X 0 0 u 0 [(0, .ref (g.2.1 61)), (1, .int (nI b)), (2, .int (nI w)), (3, .int v)] []
  refine r_aload_n F 0 rfl dX4_lay_0 ?_
  refine r_get (C := RX4) (T := TX4) (N := 14) F 61 hL.1 (by decide) hinX4 rfl 1 (by decide) (by decide +kernel) rfl dX4_lay_1 ?_
  refine r_iconst (v := 1) F (by decide) dX4_lay_4 ?_
  refine r_iconst (v := 5) F (by decide) dX4_lay_5 ?_
  refine r_iload_n F 1 rfl dX4_lay_6 ?_
  refine r_imul F dX4_lay_7 ?_
  refine r_iadd F dX4_lay_8 ?_
  refine r_iload_n F 2 rfl dX4_lay_9 ?_
  refine r_iadd F dX4_lay_10 ?_
  refine r_iload_n F 3 rfl dX4_lay_11 ?_
  refine r_iast F 62 hL.2.1 (by decide) (by rw [ixz]; exact vp_in_nI (by omega) (by decide)) dX4_lay_12 (fun u_1 hu_1 => ?_)
  have hL_2 := hL.upZ (Z' := upd Z (1 + 5 * b + w) v)
  rw [ixz, nI_clamp (by omega)] at hu_1
  rw [← hu_1] at hL_2
  have hf_3 : ∀ j, ¬ (61 ≤ j ∧ j < 69) → u_1 j = u j := (fun j hj => by rw [hu_1]; exact vne (by omega))
  exact hret _ _ _ _ _ (Nat.le_of_ble_eq_true rfl) (Nat.le_of_ble_eq_true rfl) ⟨hL_2, hf_3⟩ dX4_lay_13
set_option maxHeartbeats 4000000 in
set_option maxRecDepth 100000 in
theorem c_X4_save {g : kG} {l : Launch} {u : Nat → va_E} {th rm sp wr : Int32} {hs : Int64} {VA RD CH WE : Nat → Int32} {n m t : Nat} {B : kB} {S : Nat → kS} {C : Nat → Int32}  (h : MdX g u th rm sp wr hs VA RD CH WE n B m S t C)  : CV g l yX4_save wsX4_save ({ frames := 0, cells := 0, slots := 0, locals := 0 }) [.ref (g.2.1 61)] u (fun u' => MdX g u' th rm sp wr hs VA RD CH WE n B (pushM m) (pushS m S (n, B)) t C ∧ ∀ j, ¬ (61 ≤ j ∧ j < 69) → u' j = u j) := by
  refine CV.of (cc := cX4_save) (nL := 2) (by decide +kernel) rfl (Nat.le_of_ble_eq_true rfl) ?_
  intro X hXl F hret
  subst hXl
  have hinX4 : ∀ w ∈ wsX40, w ∈ wsX4_save := by decide +kernel
  obtain ⟨Z, SV, BF, hL, hZ, hSV, hBF, hn16, hm6, ht60⟩ := id h
  show VL g X 0 0 u 0 [(0, .ref (g.2.1 61))] []
  refine r_aload_n F 0 rfl dX4_save_0 ?_
  refine r_get (C := RX4) (T := TX4) (N := 14) F 61 hL.1 (by decide) hinX4 rfl 3 (by decide) (by decide +kernel) rfl dX4_save_1 ?_
  refine r_bipush (v := 6) F (by decide) dX4_save_4 ?_
  refine r_icmp_ne F 49 (by decide) dX4_save_6 (fun c_6_1 => ?_) (fun c_6_1 => ?_)
  · skip
    have hm : ¬ m = 6 := fun q => c_6_1 (by rw [q]; rfl)
    refine r_iconst (v := 0) F (by decide) dX4_save_49 ?_
    refine r_istore_n (lv' := [(0, .ref (g.2.1 61)), (1, .int 0)]) F (by decide) rfl dX4_save_50 ?_
    have loop_51 : ∀ (k : Nat) (j : Nat) (w2 : Nat → va_E) (x1_51 : Int32), j + k = 81 → MdL g w2 th (nI m) (nI t) rm sp wr hs Z (svC SV m Z j) BF VA RD CH WE → (∀ j, ¬ (61 ≤ j ∧ j < 69) → w2 j = u j) → x1_51 = nI j → VL g X 0 0 w2 51 [(0, .ref (g.2.1 61)), (1, .int x1_51)] [] := by
      intro k
      induction k with
      | zero =>
        rintro j w2 x1_51 hkj hw2 hf2 rfl
        have hjn : j = 81 := by omega
        subst hjn
        refine r_iload_n F 1 rfl dX4_save_51 ?_
        refine r_bipush (v := 81) F (by decide) dX4_save_52 ?_
        refine r_icmp_ge F 83 (by decide) dX4_save_54 (fun c_54_3 => ?_) (fun c_54_3 => absurd (by decide) c_54_3)
        clear c_54_3
        refine r_aload_n F 0 rfl dX4_save_83 ?_
        refine r_dup F rfl dX4_save_84 ?_
        refine r_get (C := RX4) (T := TX4) (N := 14) F 61 hw2.1 (by decide) hinX4 rfl 3 (by decide) (by decide +kernel) rfl dX4_save_85 ?_
        refine r_iconst (v := 1) F (by decide) dX4_save_88 ?_
        refine r_iadd F dX4_save_89 ?_
        refine r_put (C := RX4) (T := TX4) (N := 14) (ty := .int) F 61 hw2.1 (by decide) hinX4 tyX4 tyX4_ok nmX4 rfl 3 (by decide) (by decide +kernel) rfl (by decide +kernel) rfl rfl (Nat.le_of_ble_eq_true rfl) dX4_save_90 (fun u_4 hu_4 => ?_)
        rw [nI_1] at hu_4
        have hL_5 := hw2.num (th' := th) (sm' := nI (m + 1)) (ty' := nI t) (rm' := rm) (sp' := sp) (wr' := wr) (hs' := hs)
        replace hL_5 : MdL g u_4 th (nI (m + 1)) (nI t) rm sp wr hs Z (svC SV m Z 81) BF VA RD CH WE := by rw [hu_4]; exact hL_5
        have hf_6 : ∀ j, ¬ (61 ≤ j ∧ j < 69) → u_4 j = u j := fun j hj => (show u_4 j = w2 j from (fun j hj => by rw [hu_4]; exact vne (by omega)) j hj).trans (hf2 j hj)
        exact hret _ _ _ _ _ (Nat.le_of_ble_eq_true rfl) (Nat.le_of_ble_eq_true rfl) ⟨(by rw [show pushM m = m + 1 from if_neg hm]; exact ⟨Z, _, BF, hL_5, hZ, hSV.push hZ hn16 hm, hBF, hn16, by omega, ht60⟩), hf_6⟩ dX4_save_93
      | succ k ih_51 =>
        rintro j w2 x1_51 hkj hw2 hf2 rfl
        have hbj : j < 81 := by omega
        refine r_iload_n F 1 rfl dX4_save_51 ?_
        refine r_bipush (v := 81) F (by decide) dX4_save_52 ?_
        refine r_icmp_ge F 83 (by decide) dX4_save_54 (fun c_54_7 => absurd c_54_7 (nI_ge (b := 81) hbj (by decide))) (fun c_54_7 => ?_)
        clear c_54_7
        refine r_aload_n F 0 rfl dX4_save_57 ?_
        refine r_get (C := RX4) (T := TX4) (N := 14) F 61 hw2.1 (by decide) hinX4 rfl 2 (by decide) (by decide +kernel) rfl dX4_save_58 ?_
        refine r_aload_n F 0 rfl dX4_save_61 ?_
        refine r_get (C := RX4) (T := TX4) (N := 14) F 61 hw2.1 (by decide) hinX4 rfl 3 (by decide) (by decide +kernel) rfl dX4_save_62 ?_
        refine r_bipush (v := 81) F (by decide) dX4_save_65 ?_
        refine r_imul F dX4_save_67 ?_
        refine r_iload_n F 1 rfl dX4_save_68 ?_
        refine r_iadd F dX4_save_69 ?_
        refine r_aload_n F 0 rfl dX4_save_70 ?_
        refine r_get (C := RX4) (T := TX4) (N := 14) F 61 hw2.1 (by decide) hinX4 rfl 1 (by decide) (by decide +kernel) rfl dX4_save_71 ?_
        refine r_iload_n F 1 rfl dX4_save_74 ?_
        refine r_iald F 62 hw2.2.1 (by decide) (vp_in_nI (by omega) (by decide)) dX4_save_75 ?_
        refine r_eq (st2 := [.int (Z j), .int (((nI m) * 81) + (nI j)), .ref (g.2.1 63)]) (by rw [nI_clamp (by omega)]) rfl ?_
        refine r_iast F 63 hw2.2.2.1 (by decide) (by rw [ixs]; exact vp_in_nI (by omega) (by decide)) dX4_save_76 (fun u_8 hu_8 => ?_)
        have hL_9 := hw2.upS (Z' := svC SV m Z (j + 1))
        rw [ixs, nI_clamp (by omega), svC_s] at hu_8
        rw [← hu_8] at hL_9
        have hf_10 : ∀ j, ¬ (61 ≤ j ∧ j < 69) → u_8 j = u j := fun j hj => (show u_8 j = w2 j from (fun j hj => by rw [hu_8]; exact vne (by omega)) j hj).trans (hf2 j hj)
        refine r_iinc (lv' := [(0, .ref (g.2.1 61)), (1, .int (nI (j + 1)))]) F 1 rfl (nI_inc _) (by decide) rfl dX4_save_77 ?_
        refine r_goto F 51 (by decide) dX4_save_80 ?_
        exact ih_51 (j + 1) _ _ (by omega) hL_9 hf_10 rfl
    exact loop_51 81 0 u _ (by omega) (svC_0.symm ▸ hL) (fun j _ => rfl) rfl
  · skip
    have hm : m = 6 := (nI_eq (b := 6) (by omega) (by decide)).mp c_6_1
    subst hm
    refine r_iconst (v := 0) F (by decide) dX4_save_9 ?_
    refine r_istore_n (lv' := [(0, .ref (g.2.1 61)), (1, .int 0)]) F (by decide) rfl dX4_save_10 ?_
    have loop_11 : ∀ (k : Nat) (j : Nat) (w1 : Nat → va_E) (x1_11 : Int32), j + k = 405 → MdL g w1 th (nI 6) (nI t) rm sp wr hs Z (svS SV j) BF VA RD CH WE → (∀ j, ¬ (61 ≤ j ∧ j < 69) → w1 j = u j) → x1_11 = nI j → VL g X 0 0 w1 11 [(0, .ref (g.2.1 61)), (1, .int x1_11)] [] := by
      intro k
      induction k with
      | zero =>
        rintro j w1 x1_11 hkj hw1 hf1 rfl
        have hjn : j = 405 := by omega
        subst hjn
        refine r_iload_n F 1 rfl dX4_save_11 ?_
        refine r_sipush (v := 405) F (by decide) dX4_save_12 ?_
        refine r_icmp_ge F 39 (by decide) dX4_save_15 (fun c_15_12 => ?_) (fun c_15_12 => absurd (by decide) c_15_12)
        clear c_15_12
        refine r_aload_n F 0 rfl dX4_save_39 ?_
        refine r_dup F rfl dX4_save_40 ?_
        refine r_get (C := RX4) (T := TX4) (N := 14) F 61 hw1.1 (by decide) hinX4 rfl 3 (by decide) (by decide +kernel) rfl dX4_save_41 ?_
        refine r_iconst (v := 1) F (by decide) dX4_save_44 ?_
        refine r_isub F dX4_save_45 ?_
        refine r_put (C := RX4) (T := TX4) (N := 14) (ty := .int) F 61 hw1.1 (by decide) hinX4 tyX4 tyX4_ok nmX4 rfl 3 (by decide) (by decide +kernel) rfl (by decide +kernel) rfl rfl (Nat.le_of_ble_eq_true rfl) dX4_save_46 (fun u_13 hu_13 => ?_)
        rw [show nI 6 - 1 = nI 5 from rfl] at hu_13
        have hL_14 := hw1.num (th' := th) (sm' := nI 5) (ty' := nI t) (rm' := rm) (sp' := sp) (wr' := wr) (hs' := hs)
        replace hL_14 : MdL g u_13 th (nI 5) (nI t) rm sp wr hs Z (svS SV 405) BF VA RD CH WE := by rw [hu_13]; exact hL_14
        have hf_15 : ∀ j, ¬ (61 ≤ j ∧ j < 69) → u_13 j = u j := fun j hj => (show u_13 j = w1 j from (fun j hj => by rw [hu_13]; exact vne (by omega)) j hj).trans (hf1 j hj)
        refine r_iconst (v := 0) F (by decide) dX4_save_49 ?_
        refine r_istore_n (lv' := [(0, .ref (g.2.1 61)), (1, .int 0)]) F (by decide) rfl dX4_save_50 ?_
        have loop_51 : ∀ (k : Nat) (j : Nat) (w2 : Nat → va_E) (x1_51 : Int32), j + k = 81 → MdL g w2 th (nI 5) (nI t) rm sp wr hs Z (svC (svS SV 405) 5 Z j) BF VA RD CH WE → (∀ j, ¬ (61 ≤ j ∧ j < 69) → w2 j = u j) → x1_51 = nI j → VL g X 0 0 w2 51 [(0, .ref (g.2.1 61)), (1, .int x1_51)] [] := by
          intro k
          induction k with
          | zero =>
            rintro j w2 x1_51 hkj hw2 hf2 rfl
            have hjn : j = 81 := by omega
            subst hjn
            refine r_iload_n F 1 rfl dX4_save_51 ?_
            refine r_bipush (v := 81) F (by decide) dX4_save_52 ?_
            refine r_icmp_ge F 83 (by decide) dX4_save_54 (fun c_54_17 => ?_) (fun c_54_17 => absurd (by decide) c_54_17)
            clear c_54_17
            refine r_aload_n F 0 rfl dX4_save_83 ?_
            refine r_dup F rfl dX4_save_84 ?_
            refine r_get (C := RX4) (T := TX4) (N := 14) F 61 hw2.1 (by decide) hinX4 rfl 3 (by decide) (by decide +kernel) rfl dX4_save_85 ?_
            refine r_iconst (v := 1) F (by decide) dX4_save_88 ?_
            refine r_iadd F dX4_save_89 ?_
            refine r_put (C := RX4) (T := TX4) (N := 14) (ty := .int) F 61 hw2.1 (by decide) hinX4 tyX4 tyX4_ok nmX4 rfl 3 (by decide) (by decide +kernel) rfl (by decide +kernel) rfl rfl (Nat.le_of_ble_eq_true rfl) dX4_save_90 (fun u_18 hu_18 => ?_)
            rw [nI_1] at hu_18
            have hL_19 := hw2.num (th' := th) (sm' := nI 6) (ty' := nI t) (rm' := rm) (sp' := sp) (wr' := wr) (hs' := hs)
            replace hL_19 : MdL g u_18 th (nI 6) (nI t) rm sp wr hs Z (svC (svS SV 405) 5 Z 81) BF VA RD CH WE := by rw [hu_18]; exact hL_19
            have hf_20 : ∀ j, ¬ (61 ≤ j ∧ j < 69) → u_18 j = u j := fun j hj => (show u_18 j = w2 j from (fun j hj => by rw [hu_18]; exact vne (by omega)) j hj).trans (hf2 j hj)
            exact hret _ _ _ _ _ (Nat.le_of_ble_eq_true rfl) (Nat.le_of_ble_eq_true rfl) ⟨⟨Z, _, BF, hL_19, hZ, hSV.push6 hZ hn16, hBF, hn16, by decide, ht60⟩, hf_20⟩ dX4_save_93
          | succ k ih_51 =>
            rintro j w2 x1_51 hkj hw2 hf2 rfl
            have hbj : j < 81 := by omega
            refine r_iload_n F 1 rfl dX4_save_51 ?_
            refine r_bipush (v := 81) F (by decide) dX4_save_52 ?_
            refine r_icmp_ge F 83 (by decide) dX4_save_54 (fun c_54_21 => absurd c_54_21 (nI_ge (b := 81) hbj (by decide))) (fun c_54_21 => ?_)
            clear c_54_21
            refine r_aload_n F 0 rfl dX4_save_57 ?_
            refine r_get (C := RX4) (T := TX4) (N := 14) F 61 hw2.1 (by decide) hinX4 rfl 2 (by decide) (by decide +kernel) rfl dX4_save_58 ?_
            refine r_aload_n F 0 rfl dX4_save_61 ?_
            refine r_get (C := RX4) (T := TX4) (N := 14) F 61 hw2.1 (by decide) hinX4 rfl 3 (by decide) (by decide +kernel) rfl dX4_save_62 ?_
            refine r_bipush (v := 81) F (by decide) dX4_save_65 ?_
            refine r_imul F dX4_save_67 ?_
            refine r_iload_n F 1 rfl dX4_save_68 ?_
            refine r_iadd F dX4_save_69 ?_
            refine r_aload_n F 0 rfl dX4_save_70 ?_
            refine r_get (C := RX4) (T := TX4) (N := 14) F 61 hw2.1 (by decide) hinX4 rfl 1 (by decide) (by decide +kernel) rfl dX4_save_71 ?_
            refine r_iload_n F 1 rfl dX4_save_74 ?_
            refine r_iald F 62 hw2.2.1 (by decide) (vp_in_nI (by omega) (by decide)) dX4_save_75 ?_
            refine r_eq (st2 := [.int (Z j), .int (((nI 5) * 81) + (nI j)), .ref (g.2.1 63)]) (by rw [nI_clamp (by omega)]) rfl ?_
            refine r_iast F 63 hw2.2.2.1 (by decide) (by rw [ixs]; exact vp_in_nI (by omega) (by decide)) dX4_save_76 (fun u_22 hu_22 => ?_)
            have hL_23 := hw2.upS (Z' := svC (svS SV 405) 5 Z (j + 1))
            rw [ixs, nI_clamp (by omega), svC_s] at hu_22
            rw [← hu_22] at hL_23
            have hf_24 : ∀ j, ¬ (61 ≤ j ∧ j < 69) → u_22 j = u j := fun j hj => (show u_22 j = w2 j from (fun j hj => by rw [hu_22]; exact vne (by omega)) j hj).trans (hf2 j hj)
            refine r_iinc (lv' := [(0, .ref (g.2.1 61)), (1, .int (nI (j + 1)))]) F 1 rfl (nI_inc _) (by decide) rfl dX4_save_77 ?_
            refine r_goto F 51 (by decide) dX4_save_80 ?_
            exact ih_51 (j + 1) _ _ (by omega) hL_23 hf_24 rfl
        exact loop_51 81 0 u_13 _ (by omega) (svC_0.symm ▸ hL_14) hf_15 rfl
      | succ k ih_11 =>
        rintro j w1 x1_11 hkj hw1 hf1 rfl
        have hbj : j < 405 := by omega
        refine r_iload_n F 1 rfl dX4_save_11 ?_
        refine r_sipush (v := 405) F (by decide) dX4_save_12 ?_
        refine r_icmp_ge F 39 (by decide) dX4_save_15 (fun c_15_25 => absurd c_15_25 (nI_ge (b := 405) hbj (by decide))) (fun c_15_25 => ?_)
        clear c_15_25
        refine r_aload_n F 0 rfl dX4_save_18 ?_
        refine r_get (C := RX4) (T := TX4) (N := 14) F 61 hw1.1 (by decide) hinX4 rfl 2 (by decide) (by decide +kernel) rfl dX4_save_19 ?_
        refine r_iload_n F 1 rfl dX4_save_22 ?_
        refine r_aload_n F 0 rfl dX4_save_23 ?_
        refine r_get (C := RX4) (T := TX4) (N := 14) F 61 hw1.1 (by decide) hinX4 rfl 2 (by decide) (by decide +kernel) rfl dX4_save_24 ?_
        refine r_iload_n F 1 rfl dX4_save_27 ?_
        refine r_bipush (v := 81) F (by decide) dX4_save_28 ?_
        refine r_iadd F dX4_save_30 ?_
        refine r_iald F 63 hw1.2.2.1 (by decide) (by rw [ix81]; exact vp_in_nI (by omega) (by decide)) dX4_save_31 ?_
        refine r_eq (st2 := [.int (svS SV j (j + 81)), .int (nI j), .ref (g.2.1 63)]) (by rw [ix81, nI_clamp (by omega)]) rfl ?_
        refine r_iast F 63 hw1.2.2.1 (by decide) (vp_in_nI (by omega) (by decide)) dX4_save_32 (fun u_26 hu_26 => ?_)
        have hL_27 := hw1.upS (Z' := svS SV (j + 1))
        rw [nI_clamp (by omega), svS_s] at hu_26
        rw [← hu_26] at hL_27
        have hf_28 : ∀ j, ¬ (61 ≤ j ∧ j < 69) → u_26 j = u j := fun j hj => (show u_26 j = w1 j from (fun j hj => by rw [hu_26]; exact vne (by omega)) j hj).trans (hf1 j hj)
        refine r_iinc (lv' := [(0, .ref (g.2.1 61)), (1, .int (nI (j + 1)))]) F 1 rfl (nI_inc _) (by decide) rfl dX4_save_33 ?_
        refine r_goto F 11 (by decide) dX4_save_36 ?_
        exact ih_11 (j + 1) _ _ (by omega) hL_27 hf_28 rfl
    exact loop_11 405 0 u _ (by omega) (svS_0.symm ▸ hL) (fun j _ => rfl) rfl
set_option maxHeartbeats 4000000 in
set_option maxRecDepth 100000 in
theorem c_X4_add {g : kG} {l : Launch} {u : Nat → va_E} {th rm sp wr : Int32} {hs : Int64} {VA RD CH WE : Nat → Int32} {n m t : Nat} {B : kB} {S : Nat → kS} {C : Nat → Int32} {kd p a lm : Int32} (h : MdX g u th rm sp wr hs VA RD CH WE n B m S t C) (hn : n < 16) : CI g l yX4_add wsX4_add ({ frames := 1, cells := 0, slots := 0, locals := 23 }) [.ref (g.2.1 61), .int kd, .int p, .int a, .int lm] u (fun r u' => r = nI n ∧ MdX g u' th rm sp wr hs VA RD CH WE (n + 1) (bAdd B n kd p a lm) (pushM m) (pushS m S (n, B)) t C ∧ ∀ j, ¬ (61 ≤ j ∧ j < 69) → u' j = u j) := by
  refine CI.of (cc := cX4_add) (nL := 6) (ty := .int) (by decide +kernel) rfl (fun _ _ _ => rfl) (Nat.le_of_ble_eq_true rfl) ?_
  intro X hXl F hret
  subst hXl
  have hinX4 : ∀ w ∈ wsX40, w ∈ wsX4_add := by decide +kernel
  obtain ⟨Z, SV, BF, hL, hZ, hSV, hBF, hn16, hm6, ht60⟩ := id h
  show VL g X 0 0 u 0 [(0, .ref (g.2.1 61)), (1, .int kd), (2, .int p), (3, .int a), (4, .int lm)] []
  refine r_aload_n F 0 rfl dX4_add_0 ?_
  refine r_callv (g_V (C := RX4) (T := TX4) (N := 14) (nA := 0) (As := []) (rest := []) F 61 hL.1 (by decide) rfl (c_X4_save h) gX4_add_X4_save rfl (by decide +kernel) rfl ⟨Nat.le_of_ble_eq_true rfl, Nat.le_of_ble_eq_true rfl⟩ ⟨Nat.le_of_ble_eq_true rfl, Nat.le_of_ble_eq_true rfl⟩ rfl (Nat.le_of_ble_eq_true rfl) dX4_add_1) (fun u_1 hp_1 => ?_)
  obtain ⟨hX_1, hk_1⟩ := hp_1
  obtain ⟨Z_1, SV_1, BF_1, hL_1, hZ_1, hSV_1, hBF_1, hn_1, hm_1, ht_1⟩ := id hX_1
  have hf_2 : ∀ j, ¬ (61 ≤ j ∧ j < 69) → u_1 j = u j := hk_1
  refine r_aload_n F 0 rfl dX4_add_4 ?_
  refine r_get (C := RX4) (T := TX4) (N := 14) F 61 hL_1.1 (by decide) hinX4 rfl 1 (by decide) (by decide +kernel) rfl dX4_add_5 ?_
  refine r_iconst (v := 0) F (by decide) dX4_add_8 ?_
  refine r_iald F 62 hL_1.2.1 (by decide) (vp_in_nI (n := 0) (by decide) (by decide)) dX4_add_9 ?_
  refine r_eq (st2 := [.int (nI n)]) (by rw [show Z_1 (0 : Int32).toNatClampNeg = nI n from hZ_1.1]) rfl ?_
  refine r_istore (lv' := [(0, .ref (g.2.1 61)), (1, .int kd), (2, .int p), (3, .int a), (4, .int lm), (5, .int (nI n))]) F (by decide) rfl dX4_add_10 ?_
  refine r_aload_n F 0 rfl dX4_add_12 ?_
  refine r_iload F 5 rfl dX4_add_13 ?_
  refine r_iconst (v := 0) F (by decide) dX4_add_15 ?_
  refine r_iload_n F 1 rfl dX4_add_16 ?_
  refine r_callv (g_V (C := RX4) (T := TX4) (N := 14) (nA := 3) (As := [.int (nI n), .int 0, .int kd]) (rest := []) F 61 hL_1.1 (by decide) rfl (c_X4_lay hL_1 hn (w := 0) (by decide)) gX4_add_X4_lay rfl (by decide +kernel) rfl ⟨Nat.le_of_ble_eq_true rfl, Nat.le_of_ble_eq_true rfl⟩ ⟨Nat.le_of_ble_eq_true rfl, Nat.le_of_ble_eq_true rfl⟩ rfl (Nat.le_of_ble_eq_true rfl) dX4_add_17) (fun u_3 hp_3 => ?_)
  obtain ⟨hL_3, hk_3⟩ := hp_3
  have hf_4 : ∀ j, ¬ (61 ≤ j ∧ j < 69) → u_3 j = u j := fun j hj => (show u_3 j = u_1 j from hk_3 j hj).trans (hf_2 j hj)
  refine r_aload_n F 0 rfl dX4_add_20 ?_
  refine r_iload F 5 rfl dX4_add_21 ?_
  refine r_iconst (v := 1) F (by decide) dX4_add_23 ?_
  refine r_iload_n F 2 rfl dX4_add_24 ?_
  refine r_callv (g_V (C := RX4) (T := TX4) (N := 14) (nA := 3) (As := [.int (nI n), .int 1, .int p]) (rest := []) F 61 hL_3.1 (by decide) rfl (c_X4_lay hL_3 hn (w := 1) (by decide)) gX4_add_X4_lay rfl (by decide +kernel) rfl ⟨Nat.le_of_ble_eq_true rfl, Nat.le_of_ble_eq_true rfl⟩ ⟨Nat.le_of_ble_eq_true rfl, Nat.le_of_ble_eq_true rfl⟩ rfl (Nat.le_of_ble_eq_true rfl) dX4_add_25) (fun u_5 hp_5 => ?_)
  obtain ⟨hL_5, hk_5⟩ := hp_5
  have hf_6 : ∀ j, ¬ (61 ≤ j ∧ j < 69) → u_5 j = u j := fun j hj => (show u_5 j = u_3 j from hk_5 j hj).trans (hf_4 j hj)
  refine r_aload_n F 0 rfl dX4_add_28 ?_
  refine r_iload F 5 rfl dX4_add_29 ?_
  refine r_iconst (v := 2) F (by decide) dX4_add_31 ?_
  refine r_iload_n F 3 rfl dX4_add_32 ?_
  refine r_callv (g_V (C := RX4) (T := TX4) (N := 14) (nA := 3) (As := [.int (nI n), .int 2, .int a]) (rest := []) F 61 hL_5.1 (by decide) rfl (c_X4_lay hL_5 hn (w := 2) (by decide)) gX4_add_X4_lay rfl (by decide +kernel) rfl ⟨Nat.le_of_ble_eq_true rfl, Nat.le_of_ble_eq_true rfl⟩ ⟨Nat.le_of_ble_eq_true rfl, Nat.le_of_ble_eq_true rfl⟩ rfl (Nat.le_of_ble_eq_true rfl) dX4_add_33) (fun u_7 hp_7 => ?_)
  obtain ⟨hL_7, hk_7⟩ := hp_7
  have hf_8 : ∀ j, ¬ (61 ≤ j ∧ j < 69) → u_7 j = u j := fun j hj => (show u_7 j = u_5 j from hk_7 j hj).trans (hf_6 j hj)
  refine r_aload_n F 0 rfl dX4_add_36 ?_
  refine r_iload F 5 rfl dX4_add_37 ?_
  refine r_iconst (v := 3) F (by decide) dX4_add_39 ?_
  refine r_iload F 4 rfl dX4_add_40 ?_
  refine r_callv (g_V (C := RX4) (T := TX4) (N := 14) (nA := 3) (As := [.int (nI n), .int 3, .int lm]) (rest := []) F 61 hL_7.1 (by decide) rfl (c_X4_lay hL_7 hn (w := 3) (by decide)) gX4_add_X4_lay rfl (by decide +kernel) rfl ⟨Nat.le_of_ble_eq_true rfl, Nat.le_of_ble_eq_true rfl⟩ ⟨Nat.le_of_ble_eq_true rfl, Nat.le_of_ble_eq_true rfl⟩ rfl (Nat.le_of_ble_eq_true rfl) dX4_add_42) (fun u_9 hp_9 => ?_)
  obtain ⟨hL_9, hk_9⟩ := hp_9
  have hf_10 : ∀ j, ¬ (61 ≤ j ∧ j < 69) → u_9 j = u j := fun j hj => (show u_9 j = u_7 j from hk_9 j hj).trans (hf_8 j hj)
  refine r_aload_n F 0 rfl dX4_add_45 ?_
  refine r_iload F 5 rfl dX4_add_46 ?_
  refine r_iconst (v := 4) F (by decide) dX4_add_48 ?_
  refine r_iconst (v := -1) F (by decide) dX4_add_49 ?_
  refine r_callv (g_V (C := RX4) (T := TX4) (N := 14) (nA := 3) (As := [.int (nI n), .int 4, .int (-1)]) (rest := []) F 61 hL_9.1 (by decide) rfl (c_X4_lay hL_9 hn (w := 4) (by decide)) gX4_add_X4_lay rfl (by decide +kernel) rfl ⟨Nat.le_of_ble_eq_true rfl, Nat.le_of_ble_eq_true rfl⟩ ⟨Nat.le_of_ble_eq_true rfl, Nat.le_of_ble_eq_true rfl⟩ rfl (Nat.le_of_ble_eq_true rfl) dX4_add_50) (fun u_11 hp_11 => ?_)
  obtain ⟨hL_11, hk_11⟩ := hp_11
  have hf_12 : ∀ j, ¬ (61 ≤ j ∧ j < 69) → u_11 j = u j := fun j hj => (show u_11 j = u_9 j from hk_11 j hj).trans (hf_10 j hj)
  replace hL_11 : MdL g u_11 th (nI (pushM m)) (nI t) rm sp wr hs (addZ Z_1 n kd p a lm) SV_1 BF_1 VA RD CH WE := hL_11
  refine r_aload_n F 0 rfl dX4_add_53 ?_
  refine r_get (C := RX4) (T := TX4) (N := 14) F 61 hL_11.1 (by decide) hinX4 rfl 1 (by decide) (by decide +kernel) rfl dX4_add_54 ?_
  refine r_iconst (v := 0) F (by decide) dX4_add_57 ?_
  refine r_dup2_11 F rfl rfl dX4_add_58 ?_
  refine r_iald F 62 hL_11.2.1 (by decide) (vp_in_nI (n := 0) (by decide) (by decide)) dX4_add_59 ?_
  refine r_eq (st2 := [.int (nI n), .int 0, .ref (g.2.1 62)]) (by rw [show addZ Z_1 n kd p a lm (0 : Int32).toNatClampNeg = nI n from addZ_0.trans hZ_1.1]) rfl ?_
  refine r_iconst (v := 1) F (by decide) dX4_add_60 ?_
  refine r_iadd F dX4_add_61 ?_
  refine r_iast F 62 hL_11.2.1 (by decide) (vp_in_nI (n := 0) (by decide) (by decide)) dX4_add_62 (fun u_13 hu_13 => ?_)
  have hL_14 := hL_11.upZ (Z' := upd (addZ Z_1 n kd p a lm) 0 (nI (n + 1)))
  rw [show upd (addZ Z_1 n kd p a lm) (0 : Int32).toNatClampNeg (nI n + 1) = upd (addZ Z_1 n kd p a lm) 0 (nI (n + 1)) from by rw [nI_1]; rfl] at hu_13
  rw [← hu_13] at hL_14
  have hf_15 : ∀ j, ¬ (61 ≤ j ∧ j < 69) → u_13 j = u j := fun j hj => (show u_13 j = u_11 j from (fun j hj => by rw [hu_13]; exact vne (by omega)) j hj).trans (hf_12 j hj)
  refine r_iload F 5 rfl dX4_add_63 ?_
  exact hret _ _ _ _ _ _ (Nat.le_of_ble_eq_true rfl) (Nat.le_of_ble_eq_true rfl) ⟨rfl, ⟨_, _, _, hL_14, hZ_1.add, hSV_1, hBF_1, by omega, hm_1, ht_1⟩, hf_15⟩ dX4_add_65

set_option maxHeartbeats 4000000 in
set_option maxRecDepth 100000 in
theorem c_X4_reckon {g : kG} {l : Launch} {u : Nat → va_E} {th rm sp wr : Int32} {hs : Int64} {VA RD CH WE : Nat → Int32} {n m t : Nat} {B : kB} {S : Nat → kS} {C : Nat → Int32} {mask : Int32} (h : MdX g u th rm sp wr hs VA RD CH WE n B m S t C)  : CV g l yX4_reckon wsX4_reckon ({ frames := 2, cells := 0, slots := 0, locals := 44 }) [.ref (g.2.1 61), .int mask] u (fun u' => MdX g u' th rm sp wr hs (valM B mask VA n) RD CH WE n B m S t C ∧ ∀ j, ¬ (61 ≤ j ∧ j < 69) → u' j = u j) := by
  refine CV.of (cc := cX4_reckon) (nL := 5) (by decide +kernel) rfl (Nat.le_of_ble_eq_true rfl) ?_
  intro X hXl F hret
  subst hXl
  have hinX4 : ∀ w ∈ wsX40, w ∈ wsX4_reckon := by decide +kernel
  obtain ⟨Z, SV, BF, hL, hZ, hSV, hBF, hn16, hm6, ht60⟩ := id h
  show VL g X 0 0 u 0 [(0, .ref (g.2.1 61)), (1, .int mask)] []
  refine r_iconst (v := 0) F (by decide) dX4_reckon_0 ?_
  refine r_istore_n (lv' := [(0, .ref (g.2.1 61)), (1, .int mask), (2, .int 0)]) F (by decide) rfl dX4_reckon_1 ?_
  have loop_2 : ∀ (k : Nat) (j : Nat) (w : Nat → va_E) (x2_2 : Int32), j + k = n → MdX g w th rm sp wr hs (valM B mask VA j) RD CH WE n B m S t C → (∀ j, ¬ (61 ≤ j ∧ j < 69) → w j = u j) → x2_2 = nI j → VL g X 0 0 w 2 [(0, .ref (g.2.1 61)), (1, .int mask), (2, .int x2_2)] [] := by
    intro k
    induction k with
    | zero =>
      rintro j w x2_2 hk hXw hfw rfl
      obtain ⟨Z_99, SV_99, BF_99, hL_99, hZ_99, hSV_99, hBF_99, hn_99, hm_99, ht_99⟩ := id hXw
      have hjn : n = j := by omega
      subst hjn
      refine r_iload_n F 2 rfl dX4_reckon_2 ?_
      refine r_aload_n F 0 rfl dX4_reckon_3 ?_
      refine r_get (C := RX4) (T := TX4) (N := 14) F 61 hL_99.1 (by decide) hinX4 rfl 1 (by decide) (by decide +kernel) rfl dX4_reckon_4 ?_
      refine r_iconst (v := 0) F (by decide) dX4_reckon_7 ?_
      refine r_iald F 62 hL_99.2.1 (by decide) (vp_in_nI (n := 0) (by decide) (by decide)) dX4_reckon_8 ?_
      refine r_eq (st2 := [.int (nI n), .int (nI n)]) (by rw [show Z_99 (0 : Int32).toNatClampNeg = nI n from hZ_99.1]) rfl ?_
      refine r_icmp_ge F 137 (by decide) dX4_reckon_9 (fun c_9_2 => ?_) (fun c_9_2 => absurd (Int32.le_refl _) c_9_2)
      clear c_9_2
      exact hret _ _ _ _ _ (Nat.le_of_ble_eq_true rfl) (Nat.le_of_ble_eq_true rfl) ⟨hXw, hfw⟩ dX4_reckon_137
    | succ k ih_2 =>
      rintro j w x2_2 hk hXw hfw rfl
      obtain ⟨Z_99, SV_99, BF_99, hL_99, hZ_99, hSV_99, hBF_99, hn_99, hm_99, ht_99⟩ := id hXw
      have hb : j < n := by omega
      refine r_iload_n F 2 rfl dX4_reckon_2 ?_
      refine r_aload_n F 0 rfl dX4_reckon_3 ?_
      refine r_get (C := RX4) (T := TX4) (N := 14) F 61 hL_99.1 (by decide) hinX4 rfl 1 (by decide) (by decide +kernel) rfl dX4_reckon_4 ?_
      refine r_iconst (v := 0) F (by decide) dX4_reckon_7 ?_
      refine r_iald F 62 hL_99.2.1 (by decide) (vp_in_nI (n := 0) (by decide) (by decide)) dX4_reckon_8 ?_
      refine r_eq (st2 := [.int (nI n), .int (nI j)]) (by rw [show Z_99 (0 : Int32).toNatClampNeg = nI n from hZ_99.1]) rfl ?_
      refine r_icmp_ge F 137 (by decide) dX4_reckon_9 (fun c_9_3 => absurd c_9_3 (nI_ge (b := n) hb (by omega))) (fun c_9_3 => ?_)
      clear c_9_3
      refine r_aload_n F 0 rfl dX4_reckon_12 ?_
      refine r_get (C := RX4) (T := TX4) (N := 14) F 61 hL_99.1 (by decide) hinX4 rfl 6 (by decide) (by decide +kernel) rfl dX4_reckon_13 ?_
      refine r_iload_n F 2 rfl dX4_reckon_16 ?_
      refine r_aload_n F 0 rfl dX4_reckon_17 ?_
      refine r_iload_n F 2 rfl dX4_reckon_18 ?_
      refine r_iconst (v := 0) F (by decide) dX4_reckon_19 ?_
      refine r_calli (g_V (C := RX4) (T := TX4) (N := 14) (nA := 2) (As := [.int (nI j), .int 0]) (rest := [.int (nI j), .ref (g.2.1 65)]) F 61 hL_99.1 (by decide) rfl (c_X4_of hXw hb (w := 0) (by decide)) gX4_reckon_X4_of rfl (by decide +kernel) rfl ⟨Nat.le_of_ble_eq_true rfl, Nat.le_of_ble_eq_true rfl⟩ ⟨Nat.le_of_ble_eq_true rfl, Nat.le_of_ble_eq_true rfl⟩ rfl (Nat.le_of_ble_eq_true rfl) dX4_reckon_20) (fun r_4 u_4 hp_4 => ?_)
      obtain ⟨rfl, rfl⟩ := hp_4
      refine r_if_ne F 45 (by decide) dX4_reckon_23 (fun c_23_5 => ?_) (fun c_23_5 => ?_)
      · skip
        refine r_iconst (v := 0) F (by decide) dX4_reckon_45 ?_
        refine r_iast F 65 hL_99.2.2.2.2.1 (by decide) (vp_in_nI (by omega) (by decide)) dX4_reckon_46 (fun u_6 hu_6 => ?_)
        have hL_7 := hL_99.upV (Z' := upd (valM B mask VA j) j 0)
        rw [nI_clamp (by omega)] at hu_6
        rw [← hu_6] at hL_7
        have hf_8 : ∀ j, ¬ (61 ≤ j ∧ j < 69) → u_6 j = u j := fun j hj => (show u_6 j = w j from (fun j hj => by rw [hu_6]; exact vne (by omega)) j hj).trans (hfw j hj)
        have hX_9 : MdX g u_6 th rm sp wr hs (upd (valM B mask VA j) j 0) RD CH WE n B m S t C := ⟨_, _, _, hL_7, hZ_99, hSV_99, hBF_99, hn_99, hm_99, ht_99⟩
        refine r_aload_n F 0 rfl dX4_reckon_47 ?_
        refine r_iload_n F 2 rfl dX4_reckon_48 ?_
        refine r_iconst (v := 0) F (by decide) dX4_reckon_49 ?_
        refine r_calli (g_V (C := RX4) (T := TX4) (N := 14) (nA := 2) (As := [.int (nI j), .int 0]) (rest := []) F 61 hL_7.1 (by decide) rfl (c_X4_of hX_9 hb (w := 0) (by decide)) gX4_reckon_X4_of rfl (by decide +kernel) rfl ⟨Nat.le_of_ble_eq_true rfl, Nat.le_of_ble_eq_true rfl⟩ ⟨Nat.le_of_ble_eq_true rfl, Nat.le_of_ble_eq_true rfl⟩ rfl (Nat.le_of_ble_eq_true rfl) dX4_reckon_50) (fun r_10 u_10 hp_10 => ?_)
        obtain ⟨rfl, rfl⟩ := hp_10
        refine r_iconst (v := 3) F (by decide) dX4_reckon_53 ?_
        refine r_icmp_ne F 131 (by decide) dX4_reckon_54 (fun c_54_11 => ?_) (fun c_54_11 => ?_)
        · skip
          refine r_iinc (lv' := [(0, .ref (g.2.1 61)), (1, .int mask), (2, .int (nI (j + 1)))]) F 2 rfl (nI_inc _) (by decide) rfl dX4_reckon_131 ?_
          refine r_goto F 2 (by decide) dX4_reckon_134 ?_
          exact ih_2 (j + 1) _ _ (by omega) (by rw [valM, if_neg c_54_11, ownM, if_neg c_23_5]; exact hX_9) hf_8 rfl
        · skip
          refine r_iconst (v := 0) F (by decide) dX4_reckon_57 ?_
          refine r_istore_n (lv' := [(0, .ref (g.2.1 61)), (1, .int mask), (2, .int (nI j)), (3, .int 0)]) F (by decide) rfl dX4_reckon_58 ?_
          refine r_iconst (v := 0) F (by decide) dX4_reckon_59 ?_
          refine r_istore (lv' := [(0, .ref (g.2.1 61)), (1, .int mask), (2, .int (nI j)), (3, .int 0), (4, .int 0)]) F (by decide) rfl dX4_reckon_60 ?_
          have loop_62 : ∀ (k : Nat) (i : Nat) (x3_62 : Int32) (x4_62 : Int32), i + k = j → x3_62 = sumN B (valM B mask VA j) j mask i → x4_62 = nI i → VL g X 0 0 u_6 62 [(0, .ref (g.2.1 61)), (1, .int mask), (2, .int (nI j)), (3, .int x3_62), (4, .int x4_62)] [] := by
            intro k
            induction k with
            | zero =>
              rintro i x3_62 x4_62 hk rfl rfl
              have hjn : j = i := by omega
              subst hjn
              refine r_iload F 4 rfl dX4_reckon_62 ?_
              refine r_iload_n F 2 rfl dX4_reckon_64 ?_
              refine r_icmp_ge F 113 (by decide) dX4_reckon_65 (fun c_65_13 => ?_) (fun c_65_13 => absurd (Int32.le_refl _) c_65_13)
              clear c_65_13
              refine r_aload_n F 0 rfl dX4_reckon_113 ?_
              refine r_get (C := RX4) (T := TX4) (N := 14) F 61 hL_7.1 (by decide) hinX4 rfl 6 (by decide) (by decide +kernel) rfl dX4_reckon_114 ?_
              refine r_iload_n F 2 rfl dX4_reckon_117 ?_
              refine r_iload_n F 3 rfl dX4_reckon_118 ?_
              refine r_ldc (v := 999999) F (by decide +kernel) dX4_reckon_119 ?_
              refine r_icmp_le F 129 (by decide) dX4_reckon_121 (fun c_121_14 => ?_) (fun c_121_14 => ?_)
              · skip
                have hq_c_121_14 : ¬ (999999 : Int32) < sumN B (valM B mask VA j) j mask j := Int32.not_lt.mpr c_121_14
                refine r_iload_n F 3 rfl dX4_reckon_129 ?_
                refine r_iast F 65 hL_7.2.2.2.2.1 (by decide) (vp_in_nI (by omega) (by decide)) dX4_reckon_130 (fun u_15 hu_15 => ?_)
                have hL_16 := hL_7.upV (Z' := upd (valM B mask VA j) j (sumN B (valM B mask VA j) j mask j))
                rw [nI_clamp (by omega), upd_upd] at hu_15
                rw [← hu_15] at hL_16
                have hf_17 : ∀ j, ¬ (61 ≤ j ∧ j < 69) → u_15 j = u j := fun j hj => (show u_15 j = u_6 j from (fun j hj => by rw [hu_15]; exact vne (by omega)) j hj).trans (hf_8 j hj)
                have hX_18 : MdX g u_15 th rm sp wr hs (upd (valM B mask VA j) j (sumN B (valM B mask VA j) j mask j)) RD CH WE n B m S t C := ⟨_, _, _, hL_16, hZ_99, hSV_99, hBF_99, hn_99, hm_99, ht_99⟩
                refine r_iinc (lv' := [(0, .ref (g.2.1 61)), (1, .int mask), (2, .int (nI (j + 1))), (3, .int (sumN B (valM B mask VA j) j mask j)), (4, .int (nI j))]) F 2 rfl (nI_inc _) (by decide) rfl dX4_reckon_131 ?_
                refine r_goto F 2 (by decide) dX4_reckon_134 ?_
                refine r_lv (lv2 := [(0, .ref (g.2.1 61)), (1, .int mask), (2, .int (nI (j + 1)))]) (by simp) ?_
                exact ih_2 (j + 1) _ _ (by omega) (by rw [valM, if_pos c_54_11, minI, if_neg hq_c_121_14]; exact hX_18) hf_17 rfl
              · skip
                have hq_c_121_14 : (999999 : Int32) < sumN B (valM B mask VA j) j mask j := Int32.not_le.mp c_121_14
                refine r_ldc (v := 999999) F (by decide +kernel) dX4_reckon_124 ?_
                refine r_goto F 130 (by decide) dX4_reckon_126 ?_
                refine r_iast F 65 hL_7.2.2.2.2.1 (by decide) (vp_in_nI (by omega) (by decide)) dX4_reckon_130 (fun u_19 hu_19 => ?_)
                have hL_20 := hL_7.upV (Z' := upd (valM B mask VA j) j 999999)
                rw [nI_clamp (by omega), upd_upd] at hu_19
                rw [← hu_19] at hL_20
                have hf_21 : ∀ j, ¬ (61 ≤ j ∧ j < 69) → u_19 j = u j := fun j hj => (show u_19 j = u_6 j from (fun j hj => by rw [hu_19]; exact vne (by omega)) j hj).trans (hf_8 j hj)
                have hX_22 : MdX g u_19 th rm sp wr hs (upd (valM B mask VA j) j 999999) RD CH WE n B m S t C := ⟨_, _, _, hL_20, hZ_99, hSV_99, hBF_99, hn_99, hm_99, ht_99⟩
                refine r_iinc (lv' := [(0, .ref (g.2.1 61)), (1, .int mask), (2, .int (nI (j + 1))), (3, .int (sumN B (valM B mask VA j) j mask j)), (4, .int (nI j))]) F 2 rfl (nI_inc _) (by decide) rfl dX4_reckon_131 ?_
                refine r_goto F 2 (by decide) dX4_reckon_134 ?_
                refine r_lv (lv2 := [(0, .ref (g.2.1 61)), (1, .int mask), (2, .int (nI (j + 1)))]) (by simp) ?_
                exact ih_2 (j + 1) _ _ (by omega) (by rw [valM, if_pos c_54_11, minI, if_pos hq_c_121_14]; exact hX_22) hf_21 rfl
            | succ k ih_62 =>
              rintro i x3_62 x4_62 hk rfl rfl
              have hi : i < j := by omega
              refine r_iload F 4 rfl dX4_reckon_62 ?_
              refine r_iload_n F 2 rfl dX4_reckon_64 ?_
              refine r_icmp_ge F 113 (by decide) dX4_reckon_65 (fun c_65_23 => absurd c_65_23 (nI_ge (b := j) hi (by have := hn16; omega))) (fun c_65_23 => ?_)
              clear c_65_23
              refine r_iload_n F 3 rfl dX4_reckon_68 ?_
              refine r_aload_n F 0 rfl dX4_reckon_69 ?_
              refine r_iload_n F 2 rfl dX4_reckon_70 ?_
              refine r_iconst (v := 2) F (by decide) dX4_reckon_71 ?_
              refine r_calli (g_V (C := RX4) (T := TX4) (N := 14) (nA := 2) (As := [.int (nI j), .int 2]) (rest := [.int (sumN B (valM B mask VA j) j mask i)]) F 61 hL_7.1 (by decide) rfl (c_X4_of hX_9 hb (w := 2) (by decide)) gX4_reckon_X4_of rfl (by decide +kernel) rfl ⟨Nat.le_of_ble_eq_true rfl, Nat.le_of_ble_eq_true rfl⟩ ⟨Nat.le_of_ble_eq_true rfl, Nat.le_of_ble_eq_true rfl⟩ rfl (Nat.le_of_ble_eq_true rfl) dX4_reckon_72) (fun r_24 u_24 hp_24 => ?_)
              obtain ⟨rfl, rfl⟩ := hp_24
              refine r_iload F 4 rfl dX4_reckon_75 ?_
              refine r_ishr F dX4_reckon_77 ?_
              refine r_iconst (v := 1) F (by decide) dX4_reckon_78 ?_
              refine r_iand F dX4_reckon_79 ?_
              refine r_iconst (v := 1) F (by decide) dX4_reckon_80 ?_
              refine r_icmp_ne F 104 (by decide) dX4_reckon_81 (fun c_81_25 => ?_) (fun c_81_25 => ?_)
              · skip
                refine r_iconst (v := 0) F (by decide) dX4_reckon_104 ?_
                refine r_iadd F dX4_reckon_105 ?_
                refine r_istore_n (lv' := [(0, .ref (g.2.1 61)), (1, .int mask), (2, .int (nI j)), (3, .int ((sumN B (valM B mask VA j) j mask i) + 0)), (4, .int (nI i))]) F (by decide) rfl dX4_reckon_106 ?_
                refine r_iinc (lv' := [(0, .ref (g.2.1 61)), (1, .int mask), (2, .int (nI j)), (3, .int ((sumN B (valM B mask VA j) j mask i) + 0)), (4, .int (nI (i + 1)))]) F 4 rfl (nI_inc _) (by decide) rfl dX4_reckon_107 ?_
                refine r_goto F 62 (by decide) dX4_reckon_110 ?_
                exact ih_62 (i + 1) _ _ (by omega)  (by simp [sumN, tld, c_81_25]) rfl
              · skip
                refine r_aload_n F 0 rfl dX4_reckon_84 ?_
                refine r_iload F 4 rfl dX4_reckon_85 ?_
                refine r_iload_n F 1 rfl dX4_reckon_87 ?_
                refine r_calli (g_V (C := RX4) (T := TX4) (N := 14) (nA := 2) (As := [.int (nI i), .int mask]) (rest := [.int (sumN B (valM B mask VA j) j mask i)]) F 61 hL_7.1 (by decide) rfl (c_X4_isTold hX_9 (by omega)) gX4_reckon_X4_isTold rfl (by decide +kernel) rfl ⟨Nat.le_of_ble_eq_true rfl, Nat.le_of_ble_eq_true rfl⟩ ⟨Nat.le_of_ble_eq_true rfl, Nat.le_of_ble_eq_true rfl⟩ rfl (Nat.le_of_ble_eq_true rfl) dX4_reckon_88) (fun r_26 u_26 hp_26 => ?_)
                obtain ⟨rfl, rfl⟩ := hp_26
                refine r_if_eq F 104 (by decide) dX4_reckon_91 (fun c_91_27 => ?_) (fun c_91_27 => ?_)
                · skip
                  replace c_91_27 := bI0 c_91_27
                  refine r_iconst (v := 0) F (by decide) dX4_reckon_104 ?_
                  refine r_iadd F dX4_reckon_105 ?_
                  refine r_istore_n (lv' := [(0, .ref (g.2.1 61)), (1, .int mask), (2, .int (nI j)), (3, .int ((sumN B (valM B mask VA j) j mask i) + 0)), (4, .int (nI i))]) F (by decide) rfl dX4_reckon_106 ?_
                  refine r_iinc (lv' := [(0, .ref (g.2.1 61)), (1, .int mask), (2, .int (nI j)), (3, .int ((sumN B (valM B mask VA j) j mask i) + 0)), (4, .int (nI (i + 1)))]) F 4 rfl (nI_inc _) (by decide) rfl dX4_reckon_107 ?_
                  refine r_goto F 62 (by decide) dX4_reckon_110 ?_
                  exact ih_62 (i + 1) _ _ (by omega)  (by simp [sumN, tld, c_81_25, c_91_27]) rfl
                · skip
                  replace c_91_27 := bI1 c_91_27
                  refine r_aload_n F 0 rfl dX4_reckon_94 ?_
                  refine r_get (C := RX4) (T := TX4) (N := 14) F 61 hL_7.1 (by decide) hinX4 rfl 6 (by decide) (by decide +kernel) rfl dX4_reckon_95 ?_
                  refine r_iload F 4 rfl dX4_reckon_98 ?_
                  refine r_iald F 65 hL_7.2.2.2.2.1 (by decide) (vp_in_nI (by omega) (by decide)) dX4_reckon_100 ?_
                  refine r_eq (st2 := [.int ((valM B mask VA j) i), .int (sumN B (valM B mask VA j) j mask i)]) (by rw [nI_clamp (by omega), upd_ne (by omega)]) rfl ?_
                  refine r_goto F 105 (by decide) dX4_reckon_101 ?_
                  refine r_iadd F dX4_reckon_105 ?_
                  refine r_istore_n (lv' := [(0, .ref (g.2.1 61)), (1, .int mask), (2, .int (nI j)), (3, .int ((sumN B (valM B mask VA j) j mask i) + ((valM B mask VA j) i))), (4, .int (nI i))]) F (by decide) rfl dX4_reckon_106 ?_
                  refine r_iinc (lv' := [(0, .ref (g.2.1 61)), (1, .int mask), (2, .int (nI j)), (3, .int ((sumN B (valM B mask VA j) j mask i) + ((valM B mask VA j) i))), (4, .int (nI (i + 1)))]) F 4 rfl (nI_inc _) (by decide) rfl dX4_reckon_107 ?_
                  refine r_goto F 62 (by decide) dX4_reckon_110 ?_
                  exact ih_62 (i + 1) _ _ (by omega)  (by simp [sumN, tld, c_81_25, c_91_27]) rfl
          exact loop_62 j 0 _ _ (by omega) rfl rfl
      · skip
        refine r_aload_n F 0 rfl dX4_reckon_26 ?_
        refine r_iload_n F 2 rfl dX4_reckon_27 ?_
        refine r_iconst (v := 4) F (by decide) dX4_reckon_28 ?_
        refine r_calli (g_V (C := RX4) (T := TX4) (N := 14) (nA := 2) (As := [.int (nI j), .int 4]) (rest := [.int (nI j), .ref (g.2.1 65)]) F 61 hL_99.1 (by decide) rfl (c_X4_of hXw hb (w := 4) (by decide)) gX4_reckon_X4_of rfl (by decide +kernel) rfl ⟨Nat.le_of_ble_eq_true rfl, Nat.le_of_ble_eq_true rfl⟩ ⟨Nat.le_of_ble_eq_true rfl, Nat.le_of_ble_eq_true rfl⟩ rfl (Nat.le_of_ble_eq_true rfl) dX4_reckon_29) (fun r_28 u_28 hp_28 => ?_)
        obtain ⟨rfl, rfl⟩ := hp_28
        refine r_iconst (v := -1) F (by decide) dX4_reckon_32 ?_
        refine r_icmp_eq F 45 (by decide) dX4_reckon_33 (fun c_33_29 => ?_) (fun c_33_29 => ?_)
        · skip
          refine r_iconst (v := 0) F (by decide) dX4_reckon_45 ?_
          refine r_iast F 65 hL_99.2.2.2.2.1 (by decide) (vp_in_nI (by omega) (by decide)) dX4_reckon_46 (fun u_30 hu_30 => ?_)
          have hL_31 := hL_99.upV (Z' := upd (valM B mask VA j) j 0)
          rw [nI_clamp (by omega)] at hu_30
          rw [← hu_30] at hL_31
          have hf_32 : ∀ j, ¬ (61 ≤ j ∧ j < 69) → u_30 j = u j := fun j hj => (show u_30 j = w j from (fun j hj => by rw [hu_30]; exact vne (by omega)) j hj).trans (hfw j hj)
          have hX_33 : MdX g u_30 th rm sp wr hs (upd (valM B mask VA j) j 0) RD CH WE n B m S t C := ⟨_, _, _, hL_31, hZ_99, hSV_99, hBF_99, hn_99, hm_99, ht_99⟩
          refine r_aload_n F 0 rfl dX4_reckon_47 ?_
          refine r_iload_n F 2 rfl dX4_reckon_48 ?_
          refine r_iconst (v := 0) F (by decide) dX4_reckon_49 ?_
          refine r_calli (g_V (C := RX4) (T := TX4) (N := 14) (nA := 2) (As := [.int (nI j), .int 0]) (rest := []) F 61 hL_31.1 (by decide) rfl (c_X4_of hX_33 hb (w := 0) (by decide)) gX4_reckon_X4_of rfl (by decide +kernel) rfl ⟨Nat.le_of_ble_eq_true rfl, Nat.le_of_ble_eq_true rfl⟩ ⟨Nat.le_of_ble_eq_true rfl, Nat.le_of_ble_eq_true rfl⟩ rfl (Nat.le_of_ble_eq_true rfl) dX4_reckon_50) (fun r_34 u_34 hp_34 => ?_)
          obtain ⟨rfl, rfl⟩ := hp_34
          refine r_iconst (v := 3) F (by decide) dX4_reckon_53 ?_
          refine r_icmp_ne F 131 (by decide) dX4_reckon_54 (fun c_54_35 => ?_) (fun c_54_35 => absurd c_54_35 (by rw [c_23_5]; decide))
          clear c_54_35
          refine r_iinc (lv' := [(0, .ref (g.2.1 61)), (1, .int mask), (2, .int (nI (j + 1)))]) F 2 rfl (nI_inc _) (by decide) rfl dX4_reckon_131 ?_
          refine r_goto F 2 (by decide) dX4_reckon_134 ?_
          exact ih_2 (j + 1) _ _ (by omega) (by rw [valM, if_neg (by rw [c_23_5]; decide), ownM, if_pos c_23_5, if_pos c_33_29]; exact hX_33) hf_32 rfl
        · skip
          refine r_aload_n F 0 rfl dX4_reckon_36 ?_
          refine r_iload_n F 2 rfl dX4_reckon_37 ?_
          refine r_iconst (v := 4) F (by decide) dX4_reckon_38 ?_
          refine r_calli (g_V (C := RX4) (T := TX4) (N := 14) (nA := 2) (As := [.int (nI j), .int 4]) (rest := [.int (nI j), .ref (g.2.1 65)]) F 61 hL_99.1 (by decide) rfl (c_X4_of hXw hb (w := 4) (by decide)) gX4_reckon_X4_of rfl (by decide +kernel) rfl ⟨Nat.le_of_ble_eq_true rfl, Nat.le_of_ble_eq_true rfl⟩ ⟨Nat.le_of_ble_eq_true rfl, Nat.le_of_ble_eq_true rfl⟩ rfl (Nat.le_of_ble_eq_true rfl) dX4_reckon_39) (fun r_36 u_36 hp_36 => ?_)
          obtain ⟨rfl, rfl⟩ := hp_36
          refine r_goto F 46 (by decide) dX4_reckon_42 ?_
          refine r_iast F 65 hL_99.2.2.2.2.1 (by decide) (vp_in_nI (by omega) (by decide)) dX4_reckon_46 (fun u_37 hu_37 => ?_)
          have hL_38 := hL_99.upV (Z' := upd (valM B mask VA j) j (B j 4))
          rw [nI_clamp (by omega)] at hu_37
          rw [← hu_37] at hL_38
          have hf_39 : ∀ j, ¬ (61 ≤ j ∧ j < 69) → u_37 j = u j := fun j hj => (show u_37 j = w j from (fun j hj => by rw [hu_37]; exact vne (by omega)) j hj).trans (hfw j hj)
          have hX_40 : MdX g u_37 th rm sp wr hs (upd (valM B mask VA j) j (B j 4)) RD CH WE n B m S t C := ⟨_, _, _, hL_38, hZ_99, hSV_99, hBF_99, hn_99, hm_99, ht_99⟩
          refine r_aload_n F 0 rfl dX4_reckon_47 ?_
          refine r_iload_n F 2 rfl dX4_reckon_48 ?_
          refine r_iconst (v := 0) F (by decide) dX4_reckon_49 ?_
          refine r_calli (g_V (C := RX4) (T := TX4) (N := 14) (nA := 2) (As := [.int (nI j), .int 0]) (rest := []) F 61 hL_38.1 (by decide) rfl (c_X4_of hX_40 hb (w := 0) (by decide)) gX4_reckon_X4_of rfl (by decide +kernel) rfl ⟨Nat.le_of_ble_eq_true rfl, Nat.le_of_ble_eq_true rfl⟩ ⟨Nat.le_of_ble_eq_true rfl, Nat.le_of_ble_eq_true rfl⟩ rfl (Nat.le_of_ble_eq_true rfl) dX4_reckon_50) (fun r_41 u_41 hp_41 => ?_)
          obtain ⟨rfl, rfl⟩ := hp_41
          refine r_iconst (v := 3) F (by decide) dX4_reckon_53 ?_
          refine r_icmp_ne F 131 (by decide) dX4_reckon_54 (fun c_54_42 => ?_) (fun c_54_42 => absurd c_54_42 (by rw [c_23_5]; decide))
          clear c_54_42
          refine r_iinc (lv' := [(0, .ref (g.2.1 61)), (1, .int mask), (2, .int (nI (j + 1)))]) F 2 rfl (nI_inc _) (by decide) rfl dX4_reckon_131 ?_
          refine r_goto F 2 (by decide) dX4_reckon_134 ?_
          exact ih_2 (j + 1) _ _ (by omega) (by rw [valM, if_neg (by rw [c_23_5]; decide), ownM, if_pos c_23_5, if_neg c_33_29]; exact hX_40) hf_39 rfl
  exact loop_2 n 0 u _ (by omega) h (fun j _ => rfl) rfl
set_option maxHeartbeats 4000000 in
set_option maxRecDepth 100000 in
theorem c_X4_lastTotal {g : kG} {l : Launch} {u : Nat → va_E} {th rm sp wr : Int32} {hs : Int64} {VA RD CH WE : Nat → Int32} {n m t : Nat} {B : kB} {S : Nat → kS} {C : Nat → Int32} {mask : Int32} (h : MdX g u th rm sp wr hs VA RD CH WE n B m S t C)  : CI g l yX4_lastTotal wsX4_lastTotal ({ frames := 3, cells := 0, slots := 0, locals := 68 }) [.ref (g.2.1 61), .int mask] u (fun r u' => r = lvM B (valM B mask VA n) n ∧ MdX g u' th rm sp wr hs (valM B mask VA n) RD CH WE n B m S t C ∧ ∀ j, ¬ (61 ≤ j ∧ j < 69) → u' j = u j) := by
  refine CI.of (cc := cX4_lastTotal) (nL := 4) (ty := .int) (by decide +kernel) rfl (fun _ _ _ => rfl) (Nat.le_of_ble_eq_true rfl) ?_
  intro X hXl F hret
  subst hXl
  have hinX4 : ∀ w ∈ wsX40, w ∈ wsX4_lastTotal := by decide +kernel
  obtain ⟨Z, SV, BF, hL, hZ, hSV, hBF, hn16, hm6, ht60⟩ := id h
  show VL g X 0 0 u 0 [(0, .ref (g.2.1 61)), (1, .int mask)] []
  refine r_aload_n F 0 rfl dX4_lastTotal_0 ?_
  refine r_iload_n F 1 rfl dX4_lastTotal_1 ?_
  refine r_callv (g_V (C := RX4) (T := TX4) (N := 14) (nA := 1) (As := [.int mask]) (rest := []) F 61 hL.1 (by decide) rfl (c_X4_reckon h) gX4_lastTotal_X4_reckon rfl (by decide +kernel) rfl ⟨Nat.le_of_ble_eq_true rfl, Nat.le_of_ble_eq_true rfl⟩ ⟨Nat.le_of_ble_eq_true rfl, Nat.le_of_ble_eq_true rfl⟩ rfl (Nat.le_of_ble_eq_true rfl) dX4_lastTotal_2) (fun u_1 hp_1 => ?_)
  obtain ⟨hX_1, hk_1⟩ := hp_1
  obtain ⟨Z_1, SV_1, BF_1, hL_1, hZ_1, hSV_1, hBF_1, hn_1, hm_1, ht_1⟩ := id hX_1
  have hf_2 : ∀ j, ¬ (61 ≤ j ∧ j < 69) → u_1 j = u j := hk_1
  refine r_iconst (v := -1) F (by decide) dX4_lastTotal_5 ?_
  refine r_istore_n (lv' := [(0, .ref (g.2.1 61)), (1, .int mask), (2, .int (-1))]) F (by decide) rfl dX4_lastTotal_6 ?_
  refine r_iconst (v := 0) F (by decide) dX4_lastTotal_7 ?_
  refine r_istore_n (lv' := [(0, .ref (g.2.1 61)), (1, .int mask), (2, .int (-1)), (3, .int 0)]) F (by decide) rfl dX4_lastTotal_8 ?_
  have loop_9 : ∀ (k : Nat) (j : Nat) (x2_9 : Int32) (x3_9 : Int32), j + k = n → x2_9 = lvM B (valM B mask VA n) j → x3_9 = nI j → VL g X 0 0 u_1 9 [(0, .ref (g.2.1 61)), (1, .int mask), (2, .int x2_9), (3, .int x3_9)] [] := by
    intro k
    induction k with
    | zero =>
      rintro j x2_9 x3_9 hk rfl rfl
      have hjn : n = j := by omega
      subst hjn
      refine r_iload_n F 3 rfl dX4_lastTotal_9 ?_
      refine r_aload_n F 0 rfl dX4_lastTotal_10 ?_
      refine r_get (C := RX4) (T := TX4) (N := 14) F 61 hL_1.1 (by decide) hinX4 rfl 1 (by decide) (by decide +kernel) rfl dX4_lastTotal_11 ?_
      refine r_iconst (v := 0) F (by decide) dX4_lastTotal_14 ?_
      refine r_iald F 62 hL_1.2.1 (by decide) (vp_in_nI (n := 0) (by decide) (by decide)) dX4_lastTotal_15 ?_
      refine r_eq (st2 := [.int (nI n), .int (nI n)]) (by rw [show Z_1 (0 : Int32).toNatClampNeg = nI n from hZ_1.1]) rfl ?_
      refine r_icmp_ge F 46 (by decide) dX4_lastTotal_16 (fun c_16_4 => ?_) (fun c_16_4 => absurd (Int32.le_refl _) c_16_4)
      clear c_16_4
      refine r_iload_n F 2 rfl dX4_lastTotal_46 ?_
      exact hret _ _ _ _ _ _ (Nat.le_of_ble_eq_true rfl) (Nat.le_of_ble_eq_true rfl) ⟨rfl, hX_1, hf_2⟩ dX4_lastTotal_47
    | succ k ih_9 =>
      rintro j x2_9 x3_9 hk rfl rfl
      have hb : j < n := by omega
      refine r_iload_n F 3 rfl dX4_lastTotal_9 ?_
      refine r_aload_n F 0 rfl dX4_lastTotal_10 ?_
      refine r_get (C := RX4) (T := TX4) (N := 14) F 61 hL_1.1 (by decide) hinX4 rfl 1 (by decide) (by decide +kernel) rfl dX4_lastTotal_11 ?_
      refine r_iconst (v := 0) F (by decide) dX4_lastTotal_14 ?_
      refine r_iald F 62 hL_1.2.1 (by decide) (vp_in_nI (n := 0) (by decide) (by decide)) dX4_lastTotal_15 ?_
      refine r_eq (st2 := [.int (nI n), .int (nI j)]) (by rw [show Z_1 (0 : Int32).toNatClampNeg = nI n from hZ_1.1]) rfl ?_
      refine r_icmp_ge F 46 (by decide) dX4_lastTotal_16 (fun c_16_5 => absurd c_16_5 (nI_ge (b := n) hb (by have := hn16; omega))) (fun c_16_5 => ?_)
      clear c_16_5
      refine r_aload_n F 0 rfl dX4_lastTotal_19 ?_
      refine r_iload_n F 3 rfl dX4_lastTotal_20 ?_
      refine r_iconst (v := 0) F (by decide) dX4_lastTotal_21 ?_
      refine r_calli (g_V (C := RX4) (T := TX4) (N := 14) (nA := 2) (As := [.int (nI j), .int 0]) (rest := []) F 61 hL_1.1 (by decide) rfl (c_X4_of hX_1 hb (w := 0) (by decide)) gX4_lastTotal_X4_of rfl (by decide +kernel) rfl ⟨Nat.le_of_ble_eq_true rfl, Nat.le_of_ble_eq_true rfl⟩ ⟨Nat.le_of_ble_eq_true rfl, Nat.le_of_ble_eq_true rfl⟩ rfl (Nat.le_of_ble_eq_true rfl) dX4_lastTotal_22) (fun r_6 u_6 hp_6 => ?_)
      obtain ⟨rfl, rfl⟩ := hp_6
      refine r_iconst (v := 3) F (by decide) dX4_lastTotal_25 ?_
      refine r_icmp_ne F 38 (by decide) dX4_lastTotal_26 (fun c_26_7 => ?_) (fun c_26_7 => ?_)
      · skip
        refine r_iload_n F 2 rfl dX4_lastTotal_38 ?_
        refine r_istore_n (lv' := [(0, .ref (g.2.1 61)), (1, .int mask), (2, .int (lvM B (valM B mask VA n) j)), (3, .int (nI j))]) F (by decide) rfl dX4_lastTotal_39 ?_
        refine r_iinc (lv' := [(0, .ref (g.2.1 61)), (1, .int mask), (2, .int (lvM B (valM B mask VA n) j)), (3, .int (nI (j + 1)))]) F 3 rfl (nI_inc _) (by decide) rfl dX4_lastTotal_40 ?_
        refine r_goto F 9 (by decide) dX4_lastTotal_43 ?_
        exact ih_9 (j + 1) _ _ (by omega)  (by simp [lvM, c_26_7]) rfl
      · skip
        refine r_aload_n F 0 rfl dX4_lastTotal_29 ?_
        refine r_get (C := RX4) (T := TX4) (N := 14) F 61 hL_1.1 (by decide) hinX4 rfl 6 (by decide) (by decide +kernel) rfl dX4_lastTotal_30 ?_
        refine r_iload_n F 3 rfl dX4_lastTotal_33 ?_
        refine r_iald F 65 hL_1.2.2.2.2.1 (by decide) (vp_in_nI (by omega) (by decide)) dX4_lastTotal_34 ?_
        refine r_eq (st2 := [.int ((valM B mask VA n) j)]) (by rw [nI_clamp (by omega)]) rfl ?_
        refine r_goto F 39 (by decide) dX4_lastTotal_35 ?_
        refine r_istore_n (lv' := [(0, .ref (g.2.1 61)), (1, .int mask), (2, .int ((valM B mask VA n) j)), (3, .int (nI j))]) F (by decide) rfl dX4_lastTotal_39 ?_
        refine r_iinc (lv' := [(0, .ref (g.2.1 61)), (1, .int mask), (2, .int ((valM B mask VA n) j)), (3, .int (nI (j + 1)))]) F 3 rfl (nI_inc _) (by decide) rfl dX4_lastTotal_40 ?_
        refine r_goto F 9 (by decide) dX4_lastTotal_43 ?_
        exact ih_9 (j + 1) _ _ (by omega)  (by simp [lvM, c_26_7]) rfl
  exact loop_9 n 0 _ _ (by omega)  rfl rfl
set_option maxHeartbeats 4000000 in
set_option maxRecDepth 100000 in
theorem c_X4_toldBox {g : kG} {l : Launch} {u : Nat → va_E} {th rm sp wr : Int32} {hs : Int64} {VA RD CH WE : Nat → Int32} {n m t : Nat} {B : kB} {S : Nat → kS} {C : Nat → Int32} {b w : Nat} (h : MdX g u th rm sp wr hs VA RD CH WE n B m S t C) (hw : wfB n B) (hb : b < n) (hw8 : w < 8) : CI g l yX4_toldBox wsX4_toldBox ({ frames := 4, cells := 0, slots := 0, locals := 91 }) [.ref (g.2.1 61), .int (nI b), .int (nI w)] u (fun r u' => r = tB B (opm B n) b (nI w) ∧ (∃ VA', MdX g u' th rm sp wr hs VA' RD CH WE n B m S t C) ∧ ∀ j, ¬ (61 ≤ j ∧ j < 69) → u' j = u j) := by
  refine CI.of (cc := cX4_toldBox) (nL := 4) (ty := .int) (by decide +kernel) rfl (fun _ _ _ => rfl) (Nat.le_of_ble_eq_true rfl) ?_
  intro X hXl F hret
  subst hXl
  have hinX4 : ∀ w ∈ wsX40, w ∈ wsX4_toldBox := by decide +kernel
  obtain ⟨Z, SV, BF, hL, hZ, hSV, hBF, hn16, hm6, ht60⟩ := id h
  show VL g X 0 0 u 0 [(0, .ref (g.2.1 61)), (1, .int (nI b)), (2, .int (nI w))] []
  rcases (by omega : w = 0 ∨ w = 1 ∨ w = 2 ∨ w = 3 ∨ w = 4 ∨ w = 5 ∨ w = 6 ∨ w = 7) with rfl | rfl | rfl | rfl | rfl | rfl | rfl | rfl
  · skip
    refine r_aload_n F 0 rfl dX4_toldBox_0 ?_
    refine r_calli (g_V (C := RX4) (T := TX4) (N := 14) (nA := 0) (As := []) (rest := []) F 61 hL.1 (by decide) rfl (c_X4_open h ) gX4_toldBox_X4_open rfl (by decide +kernel) rfl ⟨Nat.le_of_ble_eq_true rfl, Nat.le_of_ble_eq_true rfl⟩ ⟨Nat.le_of_ble_eq_true rfl, Nat.le_of_ble_eq_true rfl⟩ rfl (Nat.le_of_ble_eq_true rfl) dX4_toldBox_1) (fun r_1 u_1 hp_1 => ?_)
    obtain ⟨rfl, rfl⟩ := hp_1
    refine r_istore_n (lv' := [(0, .ref (g.2.1 61)), (1, .int (nI b)), (2, .int 0), (3, .int (opm B n))]) F (by decide) rfl dX4_toldBox_4 ?_
    refine r_iload_n F 2 rfl dX4_toldBox_5 ?_
    refine r_tabOut F 113 (by decide) (by decide) dX4_toldBox_6 ?_
    refine r_aload_n F 0 rfl dX4_toldBox_113 ?_
    refine r_iload_n F 1 rfl dX4_toldBox_114 ?_
    refine r_iload_n F 2 rfl dX4_toldBox_115 ?_
    refine r_calli (g_V (C := RX4) (T := TX4) (N := 14) (nA := 2) (As := [.int (nI b), .int 0]) (rest := []) F 61 hL.1 (by decide) rfl (c_X4_of h hb (w := 0) (by decide)) gX4_toldBox_X4_of rfl (by decide +kernel) rfl ⟨Nat.le_of_ble_eq_true rfl, Nat.le_of_ble_eq_true rfl⟩ ⟨Nat.le_of_ble_eq_true rfl, Nat.le_of_ble_eq_true rfl⟩ rfl (Nat.le_of_ble_eq_true rfl) dX4_toldBox_116) (fun r_2 u_2 hp_2 => ?_)
    obtain ⟨rfl, rfl⟩ := hp_2
    exact hret _ _ _ _ _ _ (Nat.le_of_ble_eq_true rfl) (Nat.le_of_ble_eq_true rfl) ⟨rfl, ⟨_, h⟩, (fun j _ => rfl)⟩ dX4_toldBox_119
  · skip
    refine r_aload_n F 0 rfl dX4_toldBox_0 ?_
    refine r_calli (g_V (C := RX4) (T := TX4) (N := 14) (nA := 0) (As := []) (rest := []) F 61 hL.1 (by decide) rfl (c_X4_open h ) gX4_toldBox_X4_open rfl (by decide +kernel) rfl ⟨Nat.le_of_ble_eq_true rfl, Nat.le_of_ble_eq_true rfl⟩ ⟨Nat.le_of_ble_eq_true rfl, Nat.le_of_ble_eq_true rfl⟩ rfl (Nat.le_of_ble_eq_true rfl) dX4_toldBox_1) (fun r_3 u_3 hp_3 => ?_)
    obtain ⟨rfl, rfl⟩ := hp_3
    refine r_istore_n (lv' := [(0, .ref (g.2.1 61)), (1, .int (nI b)), (2, .int 1), (3, .int (opm B n))]) F (by decide) rfl dX4_toldBox_4 ?_
    refine r_iload_n F 2 rfl dX4_toldBox_5 ?_
    refine r_tabOut F 113 (by decide) (by decide) dX4_toldBox_6 ?_
    refine r_aload_n F 0 rfl dX4_toldBox_113 ?_
    refine r_iload_n F 1 rfl dX4_toldBox_114 ?_
    refine r_iload_n F 2 rfl dX4_toldBox_115 ?_
    refine r_calli (g_V (C := RX4) (T := TX4) (N := 14) (nA := 2) (As := [.int (nI b), .int 1]) (rest := []) F 61 hL.1 (by decide) rfl (c_X4_of h hb (w := 1) (by decide)) gX4_toldBox_X4_of rfl (by decide +kernel) rfl ⟨Nat.le_of_ble_eq_true rfl, Nat.le_of_ble_eq_true rfl⟩ ⟨Nat.le_of_ble_eq_true rfl, Nat.le_of_ble_eq_true rfl⟩ rfl (Nat.le_of_ble_eq_true rfl) dX4_toldBox_116) (fun r_4 u_4 hp_4 => ?_)
    obtain ⟨rfl, rfl⟩ := hp_4
    exact hret _ _ _ _ _ _ (Nat.le_of_ble_eq_true rfl) (Nat.le_of_ble_eq_true rfl) ⟨rfl, ⟨_, h⟩, (fun j _ => rfl)⟩ dX4_toldBox_119
  · skip
    refine r_aload_n F 0 rfl dX4_toldBox_0 ?_
    refine r_calli (g_V (C := RX4) (T := TX4) (N := 14) (nA := 0) (As := []) (rest := []) F 61 hL.1 (by decide) rfl (c_X4_open h ) gX4_toldBox_X4_open rfl (by decide +kernel) rfl ⟨Nat.le_of_ble_eq_true rfl, Nat.le_of_ble_eq_true rfl⟩ ⟨Nat.le_of_ble_eq_true rfl, Nat.le_of_ble_eq_true rfl⟩ rfl (Nat.le_of_ble_eq_true rfl) dX4_toldBox_1) (fun r_5 u_5 hp_5 => ?_)
    obtain ⟨rfl, rfl⟩ := hp_5
    refine r_istore_n (lv' := [(0, .ref (g.2.1 61)), (1, .int (nI b)), (2, .int 2), (3, .int (opm B n))]) F (by decide) rfl dX4_toldBox_4 ?_
    refine r_iload_n F 2 rfl dX4_toldBox_5 ?_
    refine r_tabOut F 113 (by decide) (by decide) dX4_toldBox_6 ?_
    refine r_aload_n F 0 rfl dX4_toldBox_113 ?_
    refine r_iload_n F 1 rfl dX4_toldBox_114 ?_
    refine r_iload_n F 2 rfl dX4_toldBox_115 ?_
    refine r_calli (g_V (C := RX4) (T := TX4) (N := 14) (nA := 2) (As := [.int (nI b), .int 2]) (rest := []) F 61 hL.1 (by decide) rfl (c_X4_of h hb (w := 2) (by decide)) gX4_toldBox_X4_of rfl (by decide +kernel) rfl ⟨Nat.le_of_ble_eq_true rfl, Nat.le_of_ble_eq_true rfl⟩ ⟨Nat.le_of_ble_eq_true rfl, Nat.le_of_ble_eq_true rfl⟩ rfl (Nat.le_of_ble_eq_true rfl) dX4_toldBox_116) (fun r_6 u_6 hp_6 => ?_)
    obtain ⟨rfl, rfl⟩ := hp_6
    exact hret _ _ _ _ _ _ (Nat.le_of_ble_eq_true rfl) (Nat.le_of_ble_eq_true rfl) ⟨rfl, ⟨_, h⟩, (fun j _ => rfl)⟩ dX4_toldBox_119
  · skip
    refine r_aload_n F 0 rfl dX4_toldBox_0 ?_
    refine r_calli (g_V (C := RX4) (T := TX4) (N := 14) (nA := 0) (As := []) (rest := []) F 61 hL.1 (by decide) rfl (c_X4_open h ) gX4_toldBox_X4_open rfl (by decide +kernel) rfl ⟨Nat.le_of_ble_eq_true rfl, Nat.le_of_ble_eq_true rfl⟩ ⟨Nat.le_of_ble_eq_true rfl, Nat.le_of_ble_eq_true rfl⟩ rfl (Nat.le_of_ble_eq_true rfl) dX4_toldBox_1) (fun r_7 u_7 hp_7 => ?_)
    obtain ⟨rfl, rfl⟩ := hp_7
    refine r_istore_n (lv' := [(0, .ref (g.2.1 61)), (1, .int (nI b)), (2, .int 3), (3, .int (opm B n))]) F (by decide) rfl dX4_toldBox_4 ?_
    refine r_iload_n F 2 rfl dX4_toldBox_5 ?_
    refine r_tabIn F 40 (by decide) (by decide) rfl (by decide) dX4_toldBox_6 ?_
    refine r_aload_n F 0 rfl dX4_toldBox_40 ?_
    refine r_iload_n F 1 rfl dX4_toldBox_41 ?_
    refine r_iload_n F 2 rfl dX4_toldBox_42 ?_
    refine r_calli (g_V (C := RX4) (T := TX4) (N := 14) (nA := 2) (As := [.int (nI b), .int 3]) (rest := []) F 61 hL.1 (by decide) rfl (c_X4_of h hb (w := 3) (by decide)) gX4_toldBox_X4_of rfl (by decide +kernel) rfl ⟨Nat.le_of_ble_eq_true rfl, Nat.le_of_ble_eq_true rfl⟩ ⟨Nat.le_of_ble_eq_true rfl, Nat.le_of_ble_eq_true rfl⟩ rfl (Nat.le_of_ble_eq_true rfl) dX4_toldBox_43) (fun r_8 u_8 hp_8 => ?_)
    obtain ⟨rfl, rfl⟩ := hp_8
    exact hret _ _ _ _ _ _ (Nat.le_of_ble_eq_true rfl) (Nat.le_of_ble_eq_true rfl) ⟨rfl, ⟨_, h⟩, (fun j _ => rfl)⟩ dX4_toldBox_46
  · skip
    refine r_aload_n F 0 rfl dX4_toldBox_0 ?_
    refine r_calli (g_V (C := RX4) (T := TX4) (N := 14) (nA := 0) (As := []) (rest := []) F 61 hL.1 (by decide) rfl (c_X4_open h ) gX4_toldBox_X4_open rfl (by decide +kernel) rfl ⟨Nat.le_of_ble_eq_true rfl, Nat.le_of_ble_eq_true rfl⟩ ⟨Nat.le_of_ble_eq_true rfl, Nat.le_of_ble_eq_true rfl⟩ rfl (Nat.le_of_ble_eq_true rfl) dX4_toldBox_1) (fun r_9 u_9 hp_9 => ?_)
    obtain ⟨rfl, rfl⟩ := hp_9
    refine r_istore_n (lv' := [(0, .ref (g.2.1 61)), (1, .int (nI b)), (2, .int 4), (3, .int (opm B n))]) F (by decide) rfl dX4_toldBox_4 ?_
    refine r_iload_n F 2 rfl dX4_toldBox_5 ?_
    refine r_tabIn F 40 (by decide) (by decide) rfl (by decide) dX4_toldBox_6 ?_
    refine r_aload_n F 0 rfl dX4_toldBox_40 ?_
    refine r_iload_n F 1 rfl dX4_toldBox_41 ?_
    refine r_iload_n F 2 rfl dX4_toldBox_42 ?_
    refine r_calli (g_V (C := RX4) (T := TX4) (N := 14) (nA := 2) (As := [.int (nI b), .int 4]) (rest := []) F 61 hL.1 (by decide) rfl (c_X4_of h hb (w := 4) (by decide)) gX4_toldBox_X4_of rfl (by decide +kernel) rfl ⟨Nat.le_of_ble_eq_true rfl, Nat.le_of_ble_eq_true rfl⟩ ⟨Nat.le_of_ble_eq_true rfl, Nat.le_of_ble_eq_true rfl⟩ rfl (Nat.le_of_ble_eq_true rfl) dX4_toldBox_43) (fun r_10 u_10 hp_10 => ?_)
    obtain ⟨rfl, rfl⟩ := hp_10
    exact hret _ _ _ _ _ _ (Nat.le_of_ble_eq_true rfl) (Nat.le_of_ble_eq_true rfl) ⟨rfl, ⟨_, h⟩, (fun j _ => rfl)⟩ dX4_toldBox_46
  · skip
    refine r_aload_n F 0 rfl dX4_toldBox_0 ?_
    refine r_calli (g_V (C := RX4) (T := TX4) (N := 14) (nA := 0) (As := []) (rest := []) F 61 hL.1 (by decide) rfl (c_X4_open h ) gX4_toldBox_X4_open rfl (by decide +kernel) rfl ⟨Nat.le_of_ble_eq_true rfl, Nat.le_of_ble_eq_true rfl⟩ ⟨Nat.le_of_ble_eq_true rfl, Nat.le_of_ble_eq_true rfl⟩ rfl (Nat.le_of_ble_eq_true rfl) dX4_toldBox_1) (fun r_11 u_11 hp_11 => ?_)
    obtain ⟨rfl, rfl⟩ := hp_11
    refine r_istore_n (lv' := [(0, .ref (g.2.1 61)), (1, .int (nI b)), (2, .int 5), (3, .int (opm B n))]) F (by decide) rfl dX4_toldBox_4 ?_
    refine r_iload_n F 2 rfl dX4_toldBox_5 ?_
    refine r_tabIn F 47 (by decide) (by decide) rfl (by decide) dX4_toldBox_6 ?_
    refine r_aload_n F 0 rfl dX4_toldBox_47 ?_
    refine r_iload_n F 3 rfl dX4_toldBox_48 ?_
    refine r_callv (g_V (C := RX4) (T := TX4) (N := 14) (nA := 1) (As := [.int (opm B n)]) (rest := []) F 61 hL.1 (by decide) rfl (c_X4_reckon h) gX4_toldBox_X4_reckon rfl (by decide +kernel) rfl ⟨Nat.le_of_ble_eq_true rfl, Nat.le_of_ble_eq_true rfl⟩ ⟨Nat.le_of_ble_eq_true rfl, Nat.le_of_ble_eq_true rfl⟩ rfl (Nat.le_of_ble_eq_true rfl) dX4_toldBox_49) (fun u_12 hp_12 => ?_)
    obtain ⟨hX_12, hk_12⟩ := hp_12
    obtain ⟨Z_12, SV_12, BF_12, hL_12, hZ_12, hSV_12, hBF_12, hn_12, hm_12, ht_12⟩ := id hX_12
    have hf_13 : ∀ j, ¬ (61 ≤ j ∧ j < 69) → u_12 j = u j := hk_12
    refine r_aload_n F 0 rfl dX4_toldBox_52 ?_
    refine r_iload_n F 1 rfl dX4_toldBox_53 ?_
    refine r_iconst (v := 0) F (by decide) dX4_toldBox_54 ?_
    refine r_calli (g_V (C := RX4) (T := TX4) (N := 14) (nA := 2) (As := [.int (nI b), .int 0]) (rest := []) F 61 hL_12.1 (by decide) rfl (c_X4_of hX_12 hb (w := 0) (by decide)) gX4_toldBox_X4_of rfl (by decide +kernel) rfl ⟨Nat.le_of_ble_eq_true rfl, Nat.le_of_ble_eq_true rfl⟩ ⟨Nat.le_of_ble_eq_true rfl, Nat.le_of_ble_eq_true rfl⟩ rfl (Nat.le_of_ble_eq_true rfl) dX4_toldBox_55) (fun r_14 u_14 hp_14 => ?_)
    obtain ⟨rfl, rfl⟩ := hp_14
    refine r_iconst (v := 1) F (by decide) dX4_toldBox_58 ?_
    refine r_icmp_eq F 72 (by decide) dX4_toldBox_59 (fun c_59_15 => ?_) (fun c_59_15 => ?_)
    · skip
      refine r_iconst (v := -1) F (by decide) dX4_toldBox_72 ?_
      refine r_goto F 82 (by decide) dX4_toldBox_73 ?_
      exact hret _ _ _ _ _ _ (Nat.le_of_ble_eq_true rfl) (Nat.le_of_ble_eq_true rfl) ⟨(show ((-1) : Int32) = valX B (opm B n) b from (valX_t (Or.inl c_59_15)).symm), ⟨_, hX_12⟩, hf_13⟩ dX4_toldBox_82
    · skip
      refine r_aload_n F 0 rfl dX4_toldBox_62 ?_
      refine r_iload_n F 1 rfl dX4_toldBox_63 ?_
      refine r_iconst (v := 0) F (by decide) dX4_toldBox_64 ?_
      refine r_calli (g_V (C := RX4) (T := TX4) (N := 14) (nA := 2) (As := [.int (nI b), .int 0]) (rest := []) F 61 hL_12.1 (by decide) rfl (c_X4_of hX_12 hb (w := 0) (by decide)) gX4_toldBox_X4_of rfl (by decide +kernel) rfl ⟨Nat.le_of_ble_eq_true rfl, Nat.le_of_ble_eq_true rfl⟩ ⟨Nat.le_of_ble_eq_true rfl, Nat.le_of_ble_eq_true rfl⟩ rfl (Nat.le_of_ble_eq_true rfl) dX4_toldBox_65) (fun r_16 u_16 hp_16 => ?_)
      obtain ⟨rfl, rfl⟩ := hp_16
      refine r_iconst (v := 2) F (by decide) dX4_toldBox_68 ?_
      refine r_icmp_ne F 76 (by decide) dX4_toldBox_69 (fun c_69_17 => ?_) (fun c_69_17 => ?_)
      · skip
        refine r_aload_n F 0 rfl dX4_toldBox_76 ?_
        refine r_get (C := RX4) (T := TX4) (N := 14) F 61 hL_12.1 (by decide) hinX4 rfl 6 (by decide) (by decide +kernel) rfl dX4_toldBox_77 ?_
        refine r_iload_n F 1 rfl dX4_toldBox_80 ?_
        refine r_iald F 65 hL_12.2.2.2.2.1 (by decide) (vp_in_nI (by omega) (by decide)) dX4_toldBox_81 ?_
        refine r_eq (st2 := [.int (valM B (opm B n) VA n b)]) (by rw [nI_clamp (by omega)]) rfl ?_
        exact hret _ _ _ _ _ _ (Nat.le_of_ble_eq_true rfl) (Nat.le_of_ble_eq_true rfl) ⟨(show (valM B (opm B n) VA n b : Int32) = valX B (opm B n) b from valM_X hw hn16 hb (by rcases hw.k hb with q | q | q | q <;> simp_all)), ⟨_, hX_12⟩, hf_13⟩ dX4_toldBox_82
      · skip
        refine r_iconst (v := -1) F (by decide) dX4_toldBox_72 ?_
        refine r_goto F 82 (by decide) dX4_toldBox_73 ?_
        exact hret _ _ _ _ _ _ (Nat.le_of_ble_eq_true rfl) (Nat.le_of_ble_eq_true rfl) ⟨(show ((-1) : Int32) = valX B (opm B n) b from (valX_t (Or.inr c_69_17)).symm), ⟨_, hX_12⟩, hf_13⟩ dX4_toldBox_82
  · skip
    refine r_aload_n F 0 rfl dX4_toldBox_0 ?_
    refine r_calli (g_V (C := RX4) (T := TX4) (N := 14) (nA := 0) (As := []) (rest := []) F 61 hL.1 (by decide) rfl (c_X4_open h ) gX4_toldBox_X4_open rfl (by decide +kernel) rfl ⟨Nat.le_of_ble_eq_true rfl, Nat.le_of_ble_eq_true rfl⟩ ⟨Nat.le_of_ble_eq_true rfl, Nat.le_of_ble_eq_true rfl⟩ rfl (Nat.le_of_ble_eq_true rfl) dX4_toldBox_1) (fun r_18 u_18 hp_18 => ?_)
    obtain ⟨rfl, rfl⟩ := hp_18
    refine r_istore_n (lv' := [(0, .ref (g.2.1 61)), (1, .int (nI b)), (2, .int 6), (3, .int (opm B n))]) F (by decide) rfl dX4_toldBox_4 ?_
    refine r_iload_n F 2 rfl dX4_toldBox_5 ?_
    refine r_tabIn F 83 (by decide) (by decide) rfl (by decide) dX4_toldBox_6 ?_
    refine r_aload_n F 0 rfl dX4_toldBox_83 ?_
    refine r_iload_n F 1 rfl dX4_toldBox_84 ?_
    refine r_iload_n F 3 rfl dX4_toldBox_85 ?_
    refine r_calli (g_V (C := RX4) (T := TX4) (N := 14) (nA := 2) (As := [.int (nI b), .int (opm B n)]) (rest := []) F 61 hL.1 (by decide) rfl (c_X4_isTold h hb) gX4_toldBox_X4_isTold rfl (by decide +kernel) rfl ⟨Nat.le_of_ble_eq_true rfl, Nat.le_of_ble_eq_true rfl⟩ ⟨Nat.le_of_ble_eq_true rfl, Nat.le_of_ble_eq_true rfl⟩ rfl (Nat.le_of_ble_eq_true rfl) dX4_toldBox_86) (fun r_19 u_19 hp_19 => ?_)
    obtain ⟨rfl, rfl⟩ := hp_19
    refine r_if_eq F 96 (by decide) dX4_toldBox_89 (fun c_89_20 => ?_) (fun c_89_20 => ?_)
    · skip
      replace c_89_20 := bI0 c_89_20
      refine r_iconst (v := 0) F (by decide) dX4_toldBox_96 ?_
      exact hret _ _ _ _ _ _ (Nat.le_of_ble_eq_true rfl) (Nat.le_of_ble_eq_true rfl) ⟨(by show _ = bI _; simp [bI, c_89_20]), ⟨_, h⟩, (fun j _ => rfl)⟩ dX4_toldBox_97
    · skip
      replace c_89_20 := bI1 c_89_20
      refine r_iconst (v := 1) F (by decide) dX4_toldBox_92 ?_
      refine r_goto F 97 (by decide) dX4_toldBox_93 ?_
      exact hret _ _ _ _ _ _ (Nat.le_of_ble_eq_true rfl) (Nat.le_of_ble_eq_true rfl) ⟨(by show _ = bI _; simp [bI, c_89_20]), ⟨_, h⟩, (fun j _ => rfl)⟩ dX4_toldBox_97
  · skip
    refine r_aload_n F 0 rfl dX4_toldBox_0 ?_
    refine r_calli (g_V (C := RX4) (T := TX4) (N := 14) (nA := 0) (As := []) (rest := []) F 61 hL.1 (by decide) rfl (c_X4_open h ) gX4_toldBox_X4_open rfl (by decide +kernel) rfl ⟨Nat.le_of_ble_eq_true rfl, Nat.le_of_ble_eq_true rfl⟩ ⟨Nat.le_of_ble_eq_true rfl, Nat.le_of_ble_eq_true rfl⟩ rfl (Nat.le_of_ble_eq_true rfl) dX4_toldBox_1) (fun r_21 u_21 hp_21 => ?_)
    obtain ⟨rfl, rfl⟩ := hp_21
    refine r_istore_n (lv' := [(0, .ref (g.2.1 61)), (1, .int (nI b)), (2, .int 7), (3, .int (opm B n))]) F (by decide) rfl dX4_toldBox_4 ?_
    refine r_iload_n F 2 rfl dX4_toldBox_5 ?_
    refine r_tabIn F 98 (by decide) (by decide) rfl (by decide) dX4_toldBox_6 ?_
    refine r_aload_n F 0 rfl dX4_toldBox_98 ?_
    refine r_iload_n F 1 rfl dX4_toldBox_99 ?_
    refine r_iload_n F 3 rfl dX4_toldBox_100 ?_
    refine r_calli (g_V (C := RX4) (T := TX4) (N := 14) (nA := 2) (As := [.int (nI b), .int (opm B n)]) (rest := []) F 61 hL.1 (by decide) rfl (c_X4_wants h hb) gX4_toldBox_X4_wants rfl (by decide +kernel) rfl ⟨Nat.le_of_ble_eq_true rfl, Nat.le_of_ble_eq_true rfl⟩ ⟨Nat.le_of_ble_eq_true rfl, Nat.le_of_ble_eq_true rfl⟩ rfl (Nat.le_of_ble_eq_true rfl) dX4_toldBox_101) (fun r_22 u_22 hp_22 => ?_)
    obtain ⟨rfl, rfl⟩ := hp_22
    refine r_if_eq F 111 (by decide) dX4_toldBox_104 (fun c_104_23 => ?_) (fun c_104_23 => ?_)
    · skip
      replace c_104_23 := bI0 c_104_23
      refine r_iconst (v := 0) F (by decide) dX4_toldBox_111 ?_
      exact hret _ _ _ _ _ _ (Nat.le_of_ble_eq_true rfl) (Nat.le_of_ble_eq_true rfl) ⟨(by show _ = bI _; simp [bI, c_104_23]), ⟨_, h⟩, (fun j _ => rfl)⟩ dX4_toldBox_112
    · skip
      replace c_104_23 := bI1 c_104_23
      refine r_iconst (v := 1) F (by decide) dX4_toldBox_107 ?_
      refine r_goto F 112 (by decide) dX4_toldBox_108 ?_
      exact hret _ _ _ _ _ _ (Nat.le_of_ble_eq_true rfl) (Nat.le_of_ble_eq_true rfl) ⟨(by show _ = bI _; simp [bI, c_104_23]), ⟨_, h⟩, (fun j _ => rfl)⟩ dX4_toldBox_112
set_option maxHeartbeats 4000000 in
set_option maxRecDepth 100000 in
theorem c_X4_box {g : kG} {l : Launch} {u : Nat → va_E} {th rm sp wr : Int32} {hs : Int64} {VA RD CH WE : Nat → Int32} {n m t : Nat} {B : kB} {S : Nat → kS} {C : Nat → Int32} {x w : Int32} (h : MdX g u th rm sp wr hs VA RD CH WE n B m S t C) (hw : wfB n B) : CI g l yX4_box wsX4_box ({ frames := 5, cells := 0, slots := 0, locals := 114 }) [.ref (g.2.1 61), .int x, .int w] u (fun r u' => ((cdBox n x w = 0 ∧ r = tB B (opm B n) x.toNatClampNeg w ∧ (∃ VA', MdX g u' 0 rm sp wr hs VA' RD CH WE n B m S t C)) ∨ (∃ c, 0 < c ∧ cdBox n x w = c ∧ MdX g u' (nI c) rm sp wr hs VA RD CH WE n B m S t C)) ∧ ∀ j, ¬ (61 ≤ j ∧ j < 69) → u' j = u j) := by
  refine CI.of (cc := cX4_box) (nL := 3) (ty := .int) (by decide +kernel) rfl (fun _ _ _ => rfl) (Nat.le_of_ble_eq_true rfl) ?_
  intro X hXl F hret
  subst hXl
  have hinX4 : ∀ w ∈ wsX40, w ∈ wsX4_box := by decide +kernel
  obtain ⟨Z, SV, BF, hL, hZ, hSV, hBF, hn16, hm6, ht60⟩ := id h
  show VL g X 0 0 u 0 [(0, .ref (g.2.1 61)), (1, .int x), (2, .int w)] []
  refine r_aload_n F 0 rfl dX4_box_0 ?_
  refine r_aload_n F 0 rfl dX4_box_1 ?_
  refine r_iload_n F 1 rfl dX4_box_2 ?_
  refine r_calli (g_V (C := RX4) (T := TX4) (N := 14) (nA := 1) (As := [.int x]) (rest := [.ref (g.2.1 61)]) F 61 hL.1 (by decide) rfl (c_X4_isBox h ) gX4_box_X4_isBox rfl (by decide +kernel) rfl ⟨Nat.le_of_ble_eq_true rfl, Nat.le_of_ble_eq_true rfl⟩ ⟨Nat.le_of_ble_eq_true rfl, Nat.le_of_ble_eq_true rfl⟩ rfl (Nat.le_of_ble_eq_true rfl) dX4_box_3) (fun r_1 u_1 hp_1 => ?_)
  obtain ⟨rfl, rfl⟩ := hp_1
  refine r_if_ne F 13 (by decide) dX4_box_6 (fun c_6_2 => ?_) (fun c_6_2 => ?_)
  · skip
    replace c_6_2 := bI1 c_6_2
    obtain ⟨b, hb, eb⟩ := hasB_of (by omega) c_6_2
    subst eb
    have hbc : (nI b).toNatClampNeg = b := nI_clamp (by omega)
    refine r_iload_n F 2 rfl dX4_box_13 ?_
    refine r_iconst (v := 0) F (by decide) dX4_box_14 ?_
    refine r_bipush (v := 7) F (by decide) dX4_box_15 ?_
    refine r_calli (g_S (nA := 3) (As := [.int w, .int 0, .int 7]) (rest := [.ref (g.2.1 61)]) F (c_X4_in) gX4_box_X4_in rfl (by decide +kernel) rfl ⟨Nat.le_of_ble_eq_true rfl, Nat.le_of_ble_eq_true rfl⟩ ⟨Nat.le_of_ble_eq_true rfl, Nat.le_of_ble_eq_true rfl⟩ rfl (Nat.le_of_ble_eq_true rfl) dX4_box_17) (fun r_3 u_3 hp_3 => ?_)
    obtain ⟨rfl, rfl⟩ := hp_3
    refine r_if_eq F 27 (by decide) dX4_box_20 (fun c_20_4 => ?_) (fun c_20_4 => ?_)
    · skip
      replace c_20_4 := bI0 c_20_4
      refine r_iconst (v := 2) F (by decide) dX4_box_27 ?_
      refine r_put (C := RX4) (T := TX4) (N := 14) (ty := .int) F 61 hL.1 (by decide) hinX4 tyX4 tyX4_ok nmX4 rfl 0 (by decide) (by decide +kernel) rfl (by decide +kernel) rfl rfl (Nat.le_of_ble_eq_true rfl) dX4_box_28 (fun u_5 hu_5 => ?_)
      have hL_6 := hL.num (th' := 2) (sm' := nI m) (ty' := nI t) (rm' := rm) (sp' := sp) (wr' := wr) (hs' := hs)
      replace hL_6 : MdL g u_5 2 (nI m) (nI t) rm sp wr hs Z SV BF VA RD CH WE := by rw [hu_5]; exact hL_6
      have hf_7 : ∀ j, ¬ (61 ≤ j ∧ j < 69) → u_5 j = u j := (fun j hj => by rw [hu_5]; exact vne (by omega))
      have hX_8 : MdX g u_5 2 rm sp wr hs VA RD CH WE n B m S t C := ⟨_, _, _, hL_6, hZ, hSV, hBF, hn16, hm6, ht60⟩
      refine r_aload_n F 0 rfl dX4_box_31 ?_
      refine r_get (C := RX4) (T := TX4) (N := 14) F 61 hL_6.1 (by decide) hinX4 rfl 0 (by decide) (by decide +kernel) rfl dX4_box_32 ?_
      refine r_if_le F 42 (by decide) dX4_box_35 (fun c_35_9 => absurd c_35_9 (by decide)) (fun c_35_9 => ?_)
      clear c_35_9
      refine r_iconst (v := 0) F (by decide) dX4_box_38 ?_
      refine r_goto F 48 (by decide) dX4_box_39 ?_
      exact hret _ _ _ _ _ _ (Nat.le_of_ble_eq_true rfl) (Nat.le_of_ble_eq_true rfl) (by rw [hbc]; exact ⟨Or.inr ⟨2, by decide, by simp [cdBox, c_6_2, c_20_4, hbc], hX_8⟩, hf_7⟩) dX4_box_48
    · skip
      replace c_20_4 := bI1 c_20_4
      obtain ⟨w1, hw8, ew⟩ := wi_N (k := 7) (by decide) c_20_4
      subst ew
      refine r_iconst (v := 0) F (by decide) dX4_box_23 ?_
      refine r_goto F 28 (by decide) dX4_box_24 ?_
      refine r_put (C := RX4) (T := TX4) (N := 14) (ty := .int) F 61 hL.1 (by decide) hinX4 tyX4 tyX4_ok nmX4 rfl 0 (by decide) (by decide +kernel) rfl (by decide +kernel) rfl rfl (Nat.le_of_ble_eq_true rfl) dX4_box_28 (fun u_10 hu_10 => ?_)
      have hL_11 := hL.num (th' := 0) (sm' := nI m) (ty' := nI t) (rm' := rm) (sp' := sp) (wr' := wr) (hs' := hs)
      replace hL_11 : MdL g u_10 0 (nI m) (nI t) rm sp wr hs Z SV BF VA RD CH WE := by rw [hu_10]; exact hL_11
      have hf_12 : ∀ j, ¬ (61 ≤ j ∧ j < 69) → u_10 j = u j := (fun j hj => by rw [hu_10]; exact vne (by omega))
      have hX_13 : MdX g u_10 0 rm sp wr hs VA RD CH WE n B m S t C := ⟨_, _, _, hL_11, hZ, hSV, hBF, hn16, hm6, ht60⟩
      refine r_aload_n F 0 rfl dX4_box_31 ?_
      refine r_get (C := RX4) (T := TX4) (N := 14) F 61 hL_11.1 (by decide) hinX4 rfl 0 (by decide) (by decide +kernel) rfl dX4_box_32 ?_
      refine r_if_le F 42 (by decide) dX4_box_35 (fun c_35_14 => ?_) (fun c_35_14 => absurd c_35_14 (by decide))
      clear c_35_14
      refine r_aload_n F 0 rfl dX4_box_42 ?_
      refine r_iload_n F 1 rfl dX4_box_43 ?_
      refine r_iload_n F 2 rfl dX4_box_44 ?_
      refine r_calli (g_V (C := RX4) (T := TX4) (N := 14) (nA := 2) (As := [.int (nI b), .int (nI w1)]) (rest := []) F 61 hL_11.1 (by decide) rfl (c_X4_toldBox hX_13 hw hb hw8) gX4_box_X4_toldBox rfl (by decide +kernel) rfl ⟨Nat.le_of_ble_eq_true rfl, Nat.le_of_ble_eq_true rfl⟩ ⟨Nat.le_of_ble_eq_true rfl, Nat.le_of_ble_eq_true rfl⟩ rfl (Nat.le_of_ble_eq_true rfl) dX4_box_45) (fun r_15 u_15 hp_15 => ?_)
      obtain ⟨rfl, ⟨VA_15, hX_15⟩, hk_15⟩ := hp_15
      obtain ⟨Z_15, SV_15, BF_15, hL_15, hZ_15, hSV_15, hBF_15, hn_15, hm_15, ht_15⟩ := id hX_15
      have hf_16 : ∀ j, ¬ (61 ≤ j ∧ j < 69) → u_15 j = u j := fun j hj => (show u_15 j = u_10 j from hk_15 j hj).trans (hf_12 j hj)
      exact hret _ _ _ _ _ _ (Nat.le_of_ble_eq_true rfl) (Nat.le_of_ble_eq_true rfl) (by rw [hbc]; exact ⟨Or.inl ⟨by simp [cdBox, c_6_2, c_20_4, hbc], rfl, ⟨_, hX_15⟩⟩, hf_16⟩) dX4_box_48
  · skip
    replace c_6_2 := bI0 c_6_2
    refine r_iconst (v := 1) F (by decide) dX4_box_9 ?_
    refine r_goto F 28 (by decide) dX4_box_10 ?_
    refine r_put (C := RX4) (T := TX4) (N := 14) (ty := .int) F 61 hL.1 (by decide) hinX4 tyX4 tyX4_ok nmX4 rfl 0 (by decide) (by decide +kernel) rfl (by decide +kernel) rfl rfl (Nat.le_of_ble_eq_true rfl) dX4_box_28 (fun u_17 hu_17 => ?_)
    have hL_18 := hL.num (th' := 1) (sm' := nI m) (ty' := nI t) (rm' := rm) (sp' := sp) (wr' := wr) (hs' := hs)
    replace hL_18 : MdL g u_17 1 (nI m) (nI t) rm sp wr hs Z SV BF VA RD CH WE := by rw [hu_17]; exact hL_18
    have hf_19 : ∀ j, ¬ (61 ≤ j ∧ j < 69) → u_17 j = u j := (fun j hj => by rw [hu_17]; exact vne (by omega))
    have hX_20 : MdX g u_17 1 rm sp wr hs VA RD CH WE n B m S t C := ⟨_, _, _, hL_18, hZ, hSV, hBF, hn16, hm6, ht60⟩
    refine r_aload_n F 0 rfl dX4_box_31 ?_
    refine r_get (C := RX4) (T := TX4) (N := 14) F 61 hL_18.1 (by decide) hinX4 rfl 0 (by decide) (by decide +kernel) rfl dX4_box_32 ?_
    refine r_if_le F 42 (by decide) dX4_box_35 (fun c_35_21 => absurd c_35_21 (by decide)) (fun c_35_21 => ?_)
    clear c_35_21
    refine r_iconst (v := 0) F (by decide) dX4_box_38 ?_
    refine r_goto F 48 (by decide) dX4_box_39 ?_
    exact hret _ _ _ _ _ _ (Nat.le_of_ble_eq_true rfl) (Nat.le_of_ble_eq_true rfl) ⟨Or.inr ⟨1, by decide, by simp [cdBox, c_6_2], hX_20⟩, hf_19⟩ dX4_box_48
theorem tP_0 {B : kB} {n : Nat} {mask p : Int32} : (mask >>> (p &&& 31)) &&& 1 = tP B n mask p (nI 0) := tld_i
set_option maxHeartbeats 4000000 in
set_option maxRecDepth 100000 in
theorem c_X4_toldPart {g : kG} {l : Launch} {u : Nat → va_E} {th rm sp wr : Int32} {hs : Int64} {VA RD CH WE : Nat → Int32} {n m t : Nat} {B : kB} {S : Nat → kS} {C : Nat → Int32} {p : Int32} {w : Nat} (h : MdX g u th rm sp wr hs VA RD CH WE n B m S t C) (hw8 : w < 6) : CI g l yX4_toldPart wsX4_toldPart ({ frames := 4, cells := 0, slots := 0, locals := 91 }) [.ref (g.2.1 61), .int p, .int (nI w)] u (fun r u' => r = tP B n (opm B n) p (nI w) ∧ u = u') := by
  refine CI.of (cc := cX4_toldPart) (nL := 9) (ty := .int) (by decide +kernel) rfl (fun _ _ _ => rfl) (Nat.le_of_ble_eq_true rfl) ?_
  intro X hXl F hret
  subst hXl
  have hinX4 : ∀ w ∈ wsX40, w ∈ wsX4_toldPart := by decide +kernel
  obtain ⟨Z, SV, BF, hL, hZ, hSV, hBF, hn16, hm6, ht60⟩ := id h
  show VL g X 0 0 u 0 [(0, .ref (g.2.1 61)), (1, .int p), (2, .int (nI w))] []
  rcases (by omega : w = 0 ∨ w = 1 ∨ w = 2 ∨ w = 3 ∨ w = 4 ∨ w = 5) with rfl | rfl | rfl | rfl | rfl | rfl
  · skip
    refine r_aload_n F 0 rfl dX4_toldPart_0 ?_
    refine r_calli (g_V (C := RX4) (T := TX4) (N := 14) (nA := 0) (As := []) (rest := []) F 61 hL.1 (by decide) rfl (c_X4_open h ) gX4_toldPart_X4_open rfl (by decide +kernel) rfl ⟨Nat.le_of_ble_eq_true rfl, Nat.le_of_ble_eq_true rfl⟩ ⟨Nat.le_of_ble_eq_true rfl, Nat.le_of_ble_eq_true rfl⟩ rfl (Nat.le_of_ble_eq_true rfl) dX4_toldPart_1) (fun r_1 u_1 hp_1 => ?_)
    obtain ⟨rfl, rfl⟩ := hp_1
    refine r_istore_n (lv' := [(0, .ref (g.2.1 61)), (1, .int p), (2, .int 0), (3, .int (opm B n))]) F (by decide) rfl dX4_toldPart_4 ?_
    refine r_iconst (v := 0) F (by decide) dX4_toldPart_5 ?_
    refine r_istore (lv' := [(0, .ref (g.2.1 61)), (1, .int p), (2, .int 0), (3, .int (opm B n)), (4, .int 0)]) F (by decide) rfl dX4_toldPart_6 ?_
    refine r_iload_n F 2 rfl dX4_toldPart_8 ?_
    refine r_lookup (dflt := 48) (ps := #[(0, 27), (5, 33)]) (off := 27) F 36 (by decide) (by decide) (by decide) dX4_toldPart_9 ?_
    refine r_iload_n F 3 rfl dX4_toldPart_36 ?_
    refine r_iload_n F 1 rfl dX4_toldPart_37 ?_
    refine r_ishr F dX4_toldPart_38 ?_
    refine r_iconst (v := 1) F (by decide) dX4_toldPart_39 ?_
    refine r_iand F dX4_toldPart_40 ?_
    exact hret _ _ _ _ _ _ (Nat.le_of_ble_eq_true rfl) (Nat.le_of_ble_eq_true rfl) ⟨by exact tP_0, rfl⟩ dX4_toldPart_41
  · skip
    refine r_aload_n F 0 rfl dX4_toldPart_0 ?_
    refine r_calli (g_V (C := RX4) (T := TX4) (N := 14) (nA := 0) (As := []) (rest := []) F 61 hL.1 (by decide) rfl (c_X4_open h ) gX4_toldPart_X4_open rfl (by decide +kernel) rfl ⟨Nat.le_of_ble_eq_true rfl, Nat.le_of_ble_eq_true rfl⟩ ⟨Nat.le_of_ble_eq_true rfl, Nat.le_of_ble_eq_true rfl⟩ rfl (Nat.le_of_ble_eq_true rfl) dX4_toldPart_1) (fun r_2 u_2 hp_2 => ?_)
    obtain ⟨rfl, rfl⟩ := hp_2
    refine r_istore_n (lv' := [(0, .ref (g.2.1 61)), (1, .int p), (2, .int 1), (3, .int (opm B n))]) F (by decide) rfl dX4_toldPart_4 ?_
    refine r_iconst (v := 0) F (by decide) dX4_toldPart_5 ?_
    refine r_istore (lv' := [(0, .ref (g.2.1 61)), (1, .int p), (2, .int 1), (3, .int (opm B n)), (4, .int 0)]) F (by decide) rfl dX4_toldPart_6 ?_
    refine r_iload_n F 2 rfl dX4_toldPart_8 ?_
    refine r_lookup (dflt := 48) (ps := #[(0, 27), (5, 33)]) (off := 48) F 57 (by decide) (by decide) (by decide) dX4_toldPart_9 ?_
    refine r_iconst (v := 0) F (by decide) dX4_toldPart_57 ?_
    refine r_istore (lv' := [(0, .ref (g.2.1 61)), (1, .int p), (2, .int 1), (3, .int (opm B n)), (4, .int 0), (5, .int 0)]) F (by decide) rfl dX4_toldPart_58 ?_
    have loop_60 : ∀ (k : Nat) (j : Nat) (x4_60 : Int32) (x5_60 : Int32), j + k = n → x4_60 = cntN j (fun b => decide (B b 1 = p)) → x5_60 = nI j → VL g X 0 0 u 60 [(0, .ref (g.2.1 61)), (1, .int p), (2, .int 1), (3, .int (opm B n)), (4, .int x4_60), (5, .int x5_60)] [] := by
      intro k
      induction k with
      | zero =>
        rintro j x4_60 x5_60 hk rfl rfl
        have hjn : n = j := by omega
        subst hjn
        refine r_iload F 5 rfl dX4_toldPart_60 ?_
        refine r_aload_n F 0 rfl dX4_toldPart_62 ?_
        refine r_get (C := RX4) (T := TX4) (N := 14) F 61 hL.1 (by decide) hinX4 rfl 1 (by decide) (by decide +kernel) rfl dX4_toldPart_63 ?_
        refine r_iconst (v := 0) F (by decide) dX4_toldPart_66 ?_
        refine r_iald F 62 hL.2.1 (by decide) (vp_in_nI (n := 0) (by decide) (by decide)) dX4_toldPart_67 ?_
        refine r_eq (st2 := [.int (nI n), .int (nI n)]) (by rw [show Z (0 : Int32).toNatClampNeg = nI n from hZ.1]) rfl ?_
        refine r_icmp_ge F 198 (by decide) dX4_toldPart_68 (fun c_68_4 => ?_) (fun c_68_4 => absurd (Int32.le_refl _) c_68_4)
        clear c_68_4
        refine r_iload F 4 rfl dX4_toldPart_198 ?_
        exact hret _ _ _ _ _ _ (Nat.le_of_ble_eq_true rfl) (Nat.le_of_ble_eq_true rfl) ⟨by rfl, rfl⟩ dX4_toldPart_200
      | succ k ih_60 =>
        rintro j x4_60 x5_60 hk rfl rfl
        have hb : j < n := by omega
        refine r_iload F 5 rfl dX4_toldPart_60 ?_
        refine r_aload_n F 0 rfl dX4_toldPart_62 ?_
        refine r_get (C := RX4) (T := TX4) (N := 14) F 61 hL.1 (by decide) hinX4 rfl 1 (by decide) (by decide +kernel) rfl dX4_toldPart_63 ?_
        refine r_iconst (v := 0) F (by decide) dX4_toldPart_66 ?_
        refine r_iald F 62 hL.2.1 (by decide) (vp_in_nI (n := 0) (by decide) (by decide)) dX4_toldPart_67 ?_
        refine r_eq (st2 := [.int (nI n), .int (nI j)]) (by rw [show Z (0 : Int32).toNatClampNeg = nI n from hZ.1]) rfl ?_
        refine r_icmp_ge F 198 (by decide) dX4_toldPart_68 (fun c_68_5 => absurd c_68_5 (nI_ge (b := n) hb (by have := hn16; omega))) (fun c_68_5 => ?_)
        clear c_68_5
        refine r_aload_n F 0 rfl dX4_toldPart_71 ?_
        refine r_iload F 5 rfl dX4_toldPart_72 ?_
        refine r_iconst (v := 1) F (by decide) dX4_toldPart_74 ?_
        refine r_calli (g_V (C := RX4) (T := TX4) (N := 14) (nA := 2) (As := [.int (nI j), .int 1]) (rest := []) F 61 hL.1 (by decide) rfl (c_X4_of h hb (w := 1) (by decide)) gX4_toldPart_X4_of rfl (by decide +kernel) rfl ⟨Nat.le_of_ble_eq_true rfl, Nat.le_of_ble_eq_true rfl⟩ ⟨Nat.le_of_ble_eq_true rfl, Nat.le_of_ble_eq_true rfl⟩ rfl (Nat.le_of_ble_eq_true rfl) dX4_toldPart_75) (fun r_6 u_6 hp_6 => ?_)
        obtain ⟨rfl, rfl⟩ := hp_6
        refine r_iload_n F 1 rfl dX4_toldPart_78 ?_
        refine r_icmp_ne F 86 (by decide) dX4_toldPart_79 (fun c_79_7 => ?_) (fun c_79_7 => ?_)
        · skip
          refine r_iconst (v := 0) F (by decide) dX4_toldPart_86 ?_
          refine r_istore (lv' := [(0, .ref (g.2.1 61)), (1, .int p), (2, .int 1), (3, .int (opm B n)), (4, .int (cntN j (fun b => decide (B b 1 = p)))), (5, .int (nI j)), (6, .int 0)]) F (by decide) rfl dX4_toldPart_87 ?_
          refine r_aload_n F 0 rfl dX4_toldPart_89 ?_
          refine r_iload F 5 rfl dX4_toldPart_90 ?_
          refine r_iconst (v := 2) F (by decide) dX4_toldPart_92 ?_
          refine r_calli (g_V (C := RX4) (T := TX4) (N := 14) (nA := 2) (As := [.int (nI j), .int 2]) (rest := []) F 61 hL.1 (by decide) rfl (c_X4_of h hb (w := 2) (by decide)) gX4_toldPart_X4_of rfl (by decide +kernel) rfl ⟨Nat.le_of_ble_eq_true rfl, Nat.le_of_ble_eq_true rfl⟩ ⟨Nat.le_of_ble_eq_true rfl, Nat.le_of_ble_eq_true rfl⟩ rfl (Nat.le_of_ble_eq_true rfl) dX4_toldPart_93) (fun r_8 u_8 hp_8 => ?_)
          obtain ⟨rfl, rfl⟩ := hp_8
          refine r_iload_n F 1 rfl dX4_toldPart_96 ?_
          refine r_icmp_ne F 104 (by decide) dX4_toldPart_97 (fun c_97_9 => ?_) (fun c_97_9 => ?_)
          · skip
            refine r_iconst (v := 0) F (by decide) dX4_toldPart_104 ?_
            refine r_istore (lv' := [(0, .ref (g.2.1 61)), (1, .int p), (2, .int 1), (3, .int (opm B n)), (4, .int (cntN j (fun b => decide (B b 1 = p)))), (5, .int (nI j)), (6, .int 0), (7, .int 0)]) F (by decide) rfl dX4_toldPart_105 ?_
            refine r_iload_n F 2 rfl dX4_toldPart_107 ?_
            refine r_iconst (v := 1) F (by decide) dX4_toldPart_108 ?_
            refine r_icmp_ne F 117 (by decide) dX4_toldPart_109 (fun c_109_10 => absurd c_109_10 (by decide)) (fun c_109_10 => ?_)
            clear c_109_10
            refine r_iload F 6 rfl dX4_toldPart_112 ?_
            refine r_goto F 175 (by decide) dX4_toldPart_114 ?_
            refine r_istore (lv' := [(0, .ref (g.2.1 61)), (1, .int p), (2, .int 1), (3, .int (opm B n)), (4, .int (cntN j (fun b => decide (B b 1 = p)))), (5, .int (nI j)), (6, .int 0), (7, .int 0), (8, .int 0)]) F (by decide) rfl dX4_toldPart_175 ?_
            refine r_iload F 4 rfl dX4_toldPart_177 ?_
            refine r_iload F 8 rfl dX4_toldPart_179 ?_
            refine r_if_eq F 188 (by decide) dX4_toldPart_181 (fun c_181_11 => ?_) (fun c_181_11 => absurd c_181_11 (by decide))
            clear c_181_11
            refine r_iconst (v := 0) F (by decide) dX4_toldPart_188 ?_
            refine r_iadd F dX4_toldPart_189 ?_
            refine r_istore (lv' := [(0, .ref (g.2.1 61)), (1, .int p), (2, .int 1), (3, .int (opm B n)), (4, .int ((cntN j (fun b => decide (B b 1 = p))) + 0)), (5, .int (nI j)), (6, .int 0), (7, .int 0), (8, .int 0)]) F (by decide) rfl dX4_toldPart_190 ?_
            refine r_iinc (lv' := [(0, .ref (g.2.1 61)), (1, .int p), (2, .int 1), (3, .int (opm B n)), (4, .int ((cntN j (fun b => decide (B b 1 = p))) + 0)), (5, .int (nI (j + 1))), (6, .int 0), (7, .int 0), (8, .int 0)]) F 5 rfl (nI_inc _) (by decide) rfl dX4_toldPart_192 ?_
            refine r_goto F 60 (by decide) dX4_toldPart_195 ?_
            refine r_lv (lv2 := [(0, .ref (g.2.1 61)), (1, .int p), (2, .int 1), (3, .int (opm B n)), (4, .int ((cntN j (fun b => decide (B b 1 = p))) + 0)), (5, .int (nI (j + 1)))]) (by simp) ?_
            exact ih_60 (j + 1) _ _ (by omega)  (by simp [cntN, bI, qFor, c_79_7, c_97_9]) rfl
          · skip
            refine r_iconst (v := 1) F (by decide) dX4_toldPart_100 ?_
            refine r_goto F 105 (by decide) dX4_toldPart_101 ?_
            refine r_istore (lv' := [(0, .ref (g.2.1 61)), (1, .int p), (2, .int 1), (3, .int (opm B n)), (4, .int (cntN j (fun b => decide (B b 1 = p)))), (5, .int (nI j)), (6, .int 0), (7, .int 1)]) F (by decide) rfl dX4_toldPart_105 ?_
            refine r_iload_n F 2 rfl dX4_toldPart_107 ?_
            refine r_iconst (v := 1) F (by decide) dX4_toldPart_108 ?_
            refine r_icmp_ne F 117 (by decide) dX4_toldPart_109 (fun c_109_12 => absurd c_109_12 (by decide)) (fun c_109_12 => ?_)
            clear c_109_12
            refine r_iload F 6 rfl dX4_toldPart_112 ?_
            refine r_goto F 175 (by decide) dX4_toldPart_114 ?_
            refine r_istore (lv' := [(0, .ref (g.2.1 61)), (1, .int p), (2, .int 1), (3, .int (opm B n)), (4, .int (cntN j (fun b => decide (B b 1 = p)))), (5, .int (nI j)), (6, .int 0), (7, .int 1), (8, .int 0)]) F (by decide) rfl dX4_toldPart_175 ?_
            refine r_iload F 4 rfl dX4_toldPart_177 ?_
            refine r_iload F 8 rfl dX4_toldPart_179 ?_
            refine r_if_eq F 188 (by decide) dX4_toldPart_181 (fun c_181_13 => ?_) (fun c_181_13 => absurd c_181_13 (by decide))
            clear c_181_13
            refine r_iconst (v := 0) F (by decide) dX4_toldPart_188 ?_
            refine r_iadd F dX4_toldPart_189 ?_
            refine r_istore (lv' := [(0, .ref (g.2.1 61)), (1, .int p), (2, .int 1), (3, .int (opm B n)), (4, .int ((cntN j (fun b => decide (B b 1 = p))) + 0)), (5, .int (nI j)), (6, .int 0), (7, .int 1), (8, .int 0)]) F (by decide) rfl dX4_toldPart_190 ?_
            refine r_iinc (lv' := [(0, .ref (g.2.1 61)), (1, .int p), (2, .int 1), (3, .int (opm B n)), (4, .int ((cntN j (fun b => decide (B b 1 = p))) + 0)), (5, .int (nI (j + 1))), (6, .int 0), (7, .int 1), (8, .int 0)]) F 5 rfl (nI_inc _) (by decide) rfl dX4_toldPart_192 ?_
            refine r_goto F 60 (by decide) dX4_toldPart_195 ?_
            refine r_lv (lv2 := [(0, .ref (g.2.1 61)), (1, .int p), (2, .int 1), (3, .int (opm B n)), (4, .int ((cntN j (fun b => decide (B b 1 = p))) + 0)), (5, .int (nI (j + 1)))]) (by simp) ?_
            exact ih_60 (j + 1) _ _ (by omega)  (by simp [cntN, bI, qFor, c_79_7, c_97_9]) rfl
        · skip
          refine r_iconst (v := 1) F (by decide) dX4_toldPart_82 ?_
          refine r_goto F 87 (by decide) dX4_toldPart_83 ?_
          refine r_istore (lv' := [(0, .ref (g.2.1 61)), (1, .int p), (2, .int 1), (3, .int (opm B n)), (4, .int (cntN j (fun b => decide (B b 1 = p)))), (5, .int (nI j)), (6, .int 1)]) F (by decide) rfl dX4_toldPart_87 ?_
          refine r_aload_n F 0 rfl dX4_toldPart_89 ?_
          refine r_iload F 5 rfl dX4_toldPart_90 ?_
          refine r_iconst (v := 2) F (by decide) dX4_toldPart_92 ?_
          refine r_calli (g_V (C := RX4) (T := TX4) (N := 14) (nA := 2) (As := [.int (nI j), .int 2]) (rest := []) F 61 hL.1 (by decide) rfl (c_X4_of h hb (w := 2) (by decide)) gX4_toldPart_X4_of rfl (by decide +kernel) rfl ⟨Nat.le_of_ble_eq_true rfl, Nat.le_of_ble_eq_true rfl⟩ ⟨Nat.le_of_ble_eq_true rfl, Nat.le_of_ble_eq_true rfl⟩ rfl (Nat.le_of_ble_eq_true rfl) dX4_toldPart_93) (fun r_14 u_14 hp_14 => ?_)
          obtain ⟨rfl, rfl⟩ := hp_14
          refine r_iload_n F 1 rfl dX4_toldPart_96 ?_
          refine r_icmp_ne F 104 (by decide) dX4_toldPart_97 (fun c_97_15 => ?_) (fun c_97_15 => ?_)
          · skip
            refine r_iconst (v := 0) F (by decide) dX4_toldPart_104 ?_
            refine r_istore (lv' := [(0, .ref (g.2.1 61)), (1, .int p), (2, .int 1), (3, .int (opm B n)), (4, .int (cntN j (fun b => decide (B b 1 = p)))), (5, .int (nI j)), (6, .int 1), (7, .int 0)]) F (by decide) rfl dX4_toldPart_105 ?_
            refine r_iload_n F 2 rfl dX4_toldPart_107 ?_
            refine r_iconst (v := 1) F (by decide) dX4_toldPart_108 ?_
            refine r_icmp_ne F 117 (by decide) dX4_toldPart_109 (fun c_109_16 => absurd c_109_16 (by decide)) (fun c_109_16 => ?_)
            clear c_109_16
            refine r_iload F 6 rfl dX4_toldPart_112 ?_
            refine r_goto F 175 (by decide) dX4_toldPart_114 ?_
            refine r_istore (lv' := [(0, .ref (g.2.1 61)), (1, .int p), (2, .int 1), (3, .int (opm B n)), (4, .int (cntN j (fun b => decide (B b 1 = p)))), (5, .int (nI j)), (6, .int 1), (7, .int 0), (8, .int 1)]) F (by decide) rfl dX4_toldPart_175 ?_
            refine r_iload F 4 rfl dX4_toldPart_177 ?_
            refine r_iload F 8 rfl dX4_toldPart_179 ?_
            refine r_if_eq F 188 (by decide) dX4_toldPart_181 (fun c_181_17 => absurd c_181_17 (by decide)) (fun c_181_17 => ?_)
            clear c_181_17
            refine r_iconst (v := 1) F (by decide) dX4_toldPart_184 ?_
            refine r_goto F 189 (by decide) dX4_toldPart_185 ?_
            refine r_iadd F dX4_toldPart_189 ?_
            refine r_istore (lv' := [(0, .ref (g.2.1 61)), (1, .int p), (2, .int 1), (3, .int (opm B n)), (4, .int ((cntN j (fun b => decide (B b 1 = p))) + 1)), (5, .int (nI j)), (6, .int 1), (7, .int 0), (8, .int 1)]) F (by decide) rfl dX4_toldPart_190 ?_
            refine r_iinc (lv' := [(0, .ref (g.2.1 61)), (1, .int p), (2, .int 1), (3, .int (opm B n)), (4, .int ((cntN j (fun b => decide (B b 1 = p))) + 1)), (5, .int (nI (j + 1))), (6, .int 1), (7, .int 0), (8, .int 1)]) F 5 rfl (nI_inc _) (by decide) rfl dX4_toldPart_192 ?_
            refine r_goto F 60 (by decide) dX4_toldPart_195 ?_
            refine r_lv (lv2 := [(0, .ref (g.2.1 61)), (1, .int p), (2, .int 1), (3, .int (opm B n)), (4, .int ((cntN j (fun b => decide (B b 1 = p))) + 1)), (5, .int (nI (j + 1)))]) (by simp) ?_
            exact ih_60 (j + 1) _ _ (by omega)  (by simp [cntN, bI, qFor, c_79_7, c_97_15]) rfl
          · skip
            refine r_iconst (v := 1) F (by decide) dX4_toldPart_100 ?_
            refine r_goto F 105 (by decide) dX4_toldPart_101 ?_
            refine r_istore (lv' := [(0, .ref (g.2.1 61)), (1, .int p), (2, .int 1), (3, .int (opm B n)), (4, .int (cntN j (fun b => decide (B b 1 = p)))), (5, .int (nI j)), (6, .int 1), (7, .int 1)]) F (by decide) rfl dX4_toldPart_105 ?_
            refine r_iload_n F 2 rfl dX4_toldPart_107 ?_
            refine r_iconst (v := 1) F (by decide) dX4_toldPart_108 ?_
            refine r_icmp_ne F 117 (by decide) dX4_toldPart_109 (fun c_109_18 => absurd c_109_18 (by decide)) (fun c_109_18 => ?_)
            clear c_109_18
            refine r_iload F 6 rfl dX4_toldPart_112 ?_
            refine r_goto F 175 (by decide) dX4_toldPart_114 ?_
            refine r_istore (lv' := [(0, .ref (g.2.1 61)), (1, .int p), (2, .int 1), (3, .int (opm B n)), (4, .int (cntN j (fun b => decide (B b 1 = p)))), (5, .int (nI j)), (6, .int 1), (7, .int 1), (8, .int 1)]) F (by decide) rfl dX4_toldPart_175 ?_
            refine r_iload F 4 rfl dX4_toldPart_177 ?_
            refine r_iload F 8 rfl dX4_toldPart_179 ?_
            refine r_if_eq F 188 (by decide) dX4_toldPart_181 (fun c_181_19 => absurd c_181_19 (by decide)) (fun c_181_19 => ?_)
            clear c_181_19
            refine r_iconst (v := 1) F (by decide) dX4_toldPart_184 ?_
            refine r_goto F 189 (by decide) dX4_toldPart_185 ?_
            refine r_iadd F dX4_toldPart_189 ?_
            refine r_istore (lv' := [(0, .ref (g.2.1 61)), (1, .int p), (2, .int 1), (3, .int (opm B n)), (4, .int ((cntN j (fun b => decide (B b 1 = p))) + 1)), (5, .int (nI j)), (6, .int 1), (7, .int 1), (8, .int 1)]) F (by decide) rfl dX4_toldPart_190 ?_
            refine r_iinc (lv' := [(0, .ref (g.2.1 61)), (1, .int p), (2, .int 1), (3, .int (opm B n)), (4, .int ((cntN j (fun b => decide (B b 1 = p))) + 1)), (5, .int (nI (j + 1))), (6, .int 1), (7, .int 1), (8, .int 1)]) F 5 rfl (nI_inc _) (by decide) rfl dX4_toldPart_192 ?_
            refine r_goto F 60 (by decide) dX4_toldPart_195 ?_
            refine r_lv (lv2 := [(0, .ref (g.2.1 61)), (1, .int p), (2, .int 1), (3, .int (opm B n)), (4, .int ((cntN j (fun b => decide (B b 1 = p))) + 1)), (5, .int (nI (j + 1)))]) (by simp) ?_
            exact ih_60 (j + 1) _ _ (by omega)  (by simp [cntN, bI, qFor, c_79_7, c_97_15]) rfl
    exact loop_60 n 0 _ _ (by omega)  rfl rfl
  · skip
    refine r_aload_n F 0 rfl dX4_toldPart_0 ?_
    refine r_calli (g_V (C := RX4) (T := TX4) (N := 14) (nA := 0) (As := []) (rest := []) F 61 hL.1 (by decide) rfl (c_X4_open h ) gX4_toldPart_X4_open rfl (by decide +kernel) rfl ⟨Nat.le_of_ble_eq_true rfl, Nat.le_of_ble_eq_true rfl⟩ ⟨Nat.le_of_ble_eq_true rfl, Nat.le_of_ble_eq_true rfl⟩ rfl (Nat.le_of_ble_eq_true rfl) dX4_toldPart_1) (fun r_20 u_20 hp_20 => ?_)
    obtain ⟨rfl, rfl⟩ := hp_20
    refine r_istore_n (lv' := [(0, .ref (g.2.1 61)), (1, .int p), (2, .int 2), (3, .int (opm B n))]) F (by decide) rfl dX4_toldPart_4 ?_
    refine r_iconst (v := 0) F (by decide) dX4_toldPart_5 ?_
    refine r_istore (lv' := [(0, .ref (g.2.1 61)), (1, .int p), (2, .int 2), (3, .int (opm B n)), (4, .int 0)]) F (by decide) rfl dX4_toldPart_6 ?_
    refine r_iload_n F 2 rfl dX4_toldPart_8 ?_
    refine r_lookup (dflt := 48) (ps := #[(0, 27), (5, 33)]) (off := 48) F 57 (by decide) (by decide) (by decide) dX4_toldPart_9 ?_
    refine r_iconst (v := 0) F (by decide) dX4_toldPart_57 ?_
    refine r_istore (lv' := [(0, .ref (g.2.1 61)), (1, .int p), (2, .int 2), (3, .int (opm B n)), (4, .int 0), (5, .int 0)]) F (by decide) rfl dX4_toldPart_58 ?_
    have loop_60 : ∀ (k : Nat) (j : Nat) (x4_60 : Int32) (x5_60 : Int32), j + k = n → x4_60 = cntN j (fun b => decide (B b 1 = p) && qWts B (opm B n) b) → x5_60 = nI j → VL g X 0 0 u 60 [(0, .ref (g.2.1 61)), (1, .int p), (2, .int 2), (3, .int (opm B n)), (4, .int x4_60), (5, .int x5_60)] [] := by
      intro k
      induction k with
      | zero =>
        rintro j x4_60 x5_60 hk rfl rfl
        have hjn : n = j := by omega
        subst hjn
        refine r_iload F 5 rfl dX4_toldPart_60 ?_
        refine r_aload_n F 0 rfl dX4_toldPart_62 ?_
        refine r_get (C := RX4) (T := TX4) (N := 14) F 61 hL.1 (by decide) hinX4 rfl 1 (by decide) (by decide +kernel) rfl dX4_toldPart_63 ?_
        refine r_iconst (v := 0) F (by decide) dX4_toldPart_66 ?_
        refine r_iald F 62 hL.2.1 (by decide) (vp_in_nI (n := 0) (by decide) (by decide)) dX4_toldPart_67 ?_
        refine r_eq (st2 := [.int (nI n), .int (nI n)]) (by rw [show Z (0 : Int32).toNatClampNeg = nI n from hZ.1]) rfl ?_
        refine r_icmp_ge F 198 (by decide) dX4_toldPart_68 (fun c_68_22 => ?_) (fun c_68_22 => absurd (Int32.le_refl _) c_68_22)
        clear c_68_22
        refine r_iload F 4 rfl dX4_toldPart_198 ?_
        exact hret _ _ _ _ _ _ (Nat.le_of_ble_eq_true rfl) (Nat.le_of_ble_eq_true rfl) ⟨by rfl, rfl⟩ dX4_toldPart_200
      | succ k ih_60 =>
        rintro j x4_60 x5_60 hk rfl rfl
        have hb : j < n := by omega
        refine r_iload F 5 rfl dX4_toldPart_60 ?_
        refine r_aload_n F 0 rfl dX4_toldPart_62 ?_
        refine r_get (C := RX4) (T := TX4) (N := 14) F 61 hL.1 (by decide) hinX4 rfl 1 (by decide) (by decide +kernel) rfl dX4_toldPart_63 ?_
        refine r_iconst (v := 0) F (by decide) dX4_toldPart_66 ?_
        refine r_iald F 62 hL.2.1 (by decide) (vp_in_nI (n := 0) (by decide) (by decide)) dX4_toldPart_67 ?_
        refine r_eq (st2 := [.int (nI n), .int (nI j)]) (by rw [show Z (0 : Int32).toNatClampNeg = nI n from hZ.1]) rfl ?_
        refine r_icmp_ge F 198 (by decide) dX4_toldPart_68 (fun c_68_23 => absurd c_68_23 (nI_ge (b := n) hb (by have := hn16; omega))) (fun c_68_23 => ?_)
        clear c_68_23
        refine r_aload_n F 0 rfl dX4_toldPart_71 ?_
        refine r_iload F 5 rfl dX4_toldPart_72 ?_
        refine r_iconst (v := 1) F (by decide) dX4_toldPart_74 ?_
        refine r_calli (g_V (C := RX4) (T := TX4) (N := 14) (nA := 2) (As := [.int (nI j), .int 1]) (rest := []) F 61 hL.1 (by decide) rfl (c_X4_of h hb (w := 1) (by decide)) gX4_toldPart_X4_of rfl (by decide +kernel) rfl ⟨Nat.le_of_ble_eq_true rfl, Nat.le_of_ble_eq_true rfl⟩ ⟨Nat.le_of_ble_eq_true rfl, Nat.le_of_ble_eq_true rfl⟩ rfl (Nat.le_of_ble_eq_true rfl) dX4_toldPart_75) (fun r_24 u_24 hp_24 => ?_)
        obtain ⟨rfl, rfl⟩ := hp_24
        refine r_iload_n F 1 rfl dX4_toldPart_78 ?_
        refine r_icmp_ne F 86 (by decide) dX4_toldPart_79 (fun c_79_25 => ?_) (fun c_79_25 => ?_)
        · skip
          refine r_iconst (v := 0) F (by decide) dX4_toldPart_86 ?_
          refine r_istore (lv' := [(0, .ref (g.2.1 61)), (1, .int p), (2, .int 2), (3, .int (opm B n)), (4, .int (cntN j (fun b => decide (B b 1 = p) && qWts B (opm B n) b))), (5, .int (nI j)), (6, .int 0)]) F (by decide) rfl dX4_toldPart_87 ?_
          refine r_aload_n F 0 rfl dX4_toldPart_89 ?_
          refine r_iload F 5 rfl dX4_toldPart_90 ?_
          refine r_iconst (v := 2) F (by decide) dX4_toldPart_92 ?_
          refine r_calli (g_V (C := RX4) (T := TX4) (N := 14) (nA := 2) (As := [.int (nI j), .int 2]) (rest := []) F 61 hL.1 (by decide) rfl (c_X4_of h hb (w := 2) (by decide)) gX4_toldPart_X4_of rfl (by decide +kernel) rfl ⟨Nat.le_of_ble_eq_true rfl, Nat.le_of_ble_eq_true rfl⟩ ⟨Nat.le_of_ble_eq_true rfl, Nat.le_of_ble_eq_true rfl⟩ rfl (Nat.le_of_ble_eq_true rfl) dX4_toldPart_93) (fun r_26 u_26 hp_26 => ?_)
          obtain ⟨rfl, rfl⟩ := hp_26
          refine r_iload_n F 1 rfl dX4_toldPart_96 ?_
          refine r_icmp_ne F 104 (by decide) dX4_toldPart_97 (fun c_97_27 => ?_) (fun c_97_27 => ?_)
          · skip
            refine r_iconst (v := 0) F (by decide) dX4_toldPart_104 ?_
            refine r_istore (lv' := [(0, .ref (g.2.1 61)), (1, .int p), (2, .int 2), (3, .int (opm B n)), (4, .int (cntN j (fun b => decide (B b 1 = p) && qWts B (opm B n) b))), (5, .int (nI j)), (6, .int 0), (7, .int 0)]) F (by decide) rfl dX4_toldPart_105 ?_
            refine r_iload_n F 2 rfl dX4_toldPart_107 ?_
            refine r_iconst (v := 1) F (by decide) dX4_toldPart_108 ?_
            refine r_icmp_ne F 117 (by decide) dX4_toldPart_109 (fun c_109_28 => ?_) (fun c_109_28 => absurd c_109_28 (by decide))
            clear c_109_28
            refine r_iload_n F 2 rfl dX4_toldPart_117 ?_
            refine r_iconst (v := 2) F (by decide) dX4_toldPart_118 ?_
            refine r_icmp_ne F 145 (by decide) dX4_toldPart_119 (fun c_119_29 => absurd c_119_29 (by decide)) (fun c_119_29 => ?_)
            clear c_119_29
            refine r_iload F 6 rfl dX4_toldPart_122 ?_
            refine r_if_eq F 141 (by decide) dX4_toldPart_124 (fun c_124_30 => ?_) (fun c_124_30 => absurd c_124_30 (by decide))
            clear c_124_30
            refine r_iconst (v := 0) F (by decide) dX4_toldPart_141 ?_
            refine r_goto F 175 (by decide) dX4_toldPart_142 ?_
            refine r_istore (lv' := [(0, .ref (g.2.1 61)), (1, .int p), (2, .int 2), (3, .int (opm B n)), (4, .int (cntN j (fun b => decide (B b 1 = p) && qWts B (opm B n) b))), (5, .int (nI j)), (6, .int 0), (7, .int 0), (8, .int 0)]) F (by decide) rfl dX4_toldPart_175 ?_
            refine r_iload F 4 rfl dX4_toldPart_177 ?_
            refine r_iload F 8 rfl dX4_toldPart_179 ?_
            refine r_if_eq F 188 (by decide) dX4_toldPart_181 (fun c_181_31 => ?_) (fun c_181_31 => absurd c_181_31 (by decide))
            clear c_181_31
            refine r_iconst (v := 0) F (by decide) dX4_toldPart_188 ?_
            refine r_iadd F dX4_toldPart_189 ?_
            refine r_istore (lv' := [(0, .ref (g.2.1 61)), (1, .int p), (2, .int 2), (3, .int (opm B n)), (4, .int ((cntN j (fun b => decide (B b 1 = p) && qWts B (opm B n) b)) + 0)), (5, .int (nI j)), (6, .int 0), (7, .int 0), (8, .int 0)]) F (by decide) rfl dX4_toldPart_190 ?_
            refine r_iinc (lv' := [(0, .ref (g.2.1 61)), (1, .int p), (2, .int 2), (3, .int (opm B n)), (4, .int ((cntN j (fun b => decide (B b 1 = p) && qWts B (opm B n) b)) + 0)), (5, .int (nI (j + 1))), (6, .int 0), (7, .int 0), (8, .int 0)]) F 5 rfl (nI_inc _) (by decide) rfl dX4_toldPart_192 ?_
            refine r_goto F 60 (by decide) dX4_toldPart_195 ?_
            refine r_lv (lv2 := [(0, .ref (g.2.1 61)), (1, .int p), (2, .int 2), (3, .int (opm B n)), (4, .int ((cntN j (fun b => decide (B b 1 = p) && qWts B (opm B n) b)) + 0)), (5, .int (nI (j + 1)))]) (by simp) ?_
            exact ih_60 (j + 1) _ _ (by omega)  (by simp [cntN, bI, qFor, c_79_25, c_97_27]) rfl
          · skip
            refine r_iconst (v := 1) F (by decide) dX4_toldPart_100 ?_
            refine r_goto F 105 (by decide) dX4_toldPart_101 ?_
            refine r_istore (lv' := [(0, .ref (g.2.1 61)), (1, .int p), (2, .int 2), (3, .int (opm B n)), (4, .int (cntN j (fun b => decide (B b 1 = p) && qWts B (opm B n) b))), (5, .int (nI j)), (6, .int 0), (7, .int 1)]) F (by decide) rfl dX4_toldPart_105 ?_
            refine r_iload_n F 2 rfl dX4_toldPart_107 ?_
            refine r_iconst (v := 1) F (by decide) dX4_toldPart_108 ?_
            refine r_icmp_ne F 117 (by decide) dX4_toldPart_109 (fun c_109_32 => ?_) (fun c_109_32 => absurd c_109_32 (by decide))
            clear c_109_32
            refine r_iload_n F 2 rfl dX4_toldPart_117 ?_
            refine r_iconst (v := 2) F (by decide) dX4_toldPart_118 ?_
            refine r_icmp_ne F 145 (by decide) dX4_toldPart_119 (fun c_119_33 => absurd c_119_33 (by decide)) (fun c_119_33 => ?_)
            clear c_119_33
            refine r_iload F 6 rfl dX4_toldPart_122 ?_
            refine r_if_eq F 141 (by decide) dX4_toldPart_124 (fun c_124_34 => ?_) (fun c_124_34 => absurd c_124_34 (by decide))
            clear c_124_34
            refine r_iconst (v := 0) F (by decide) dX4_toldPart_141 ?_
            refine r_goto F 175 (by decide) dX4_toldPart_142 ?_
            refine r_istore (lv' := [(0, .ref (g.2.1 61)), (1, .int p), (2, .int 2), (3, .int (opm B n)), (4, .int (cntN j (fun b => decide (B b 1 = p) && qWts B (opm B n) b))), (5, .int (nI j)), (6, .int 0), (7, .int 1), (8, .int 0)]) F (by decide) rfl dX4_toldPart_175 ?_
            refine r_iload F 4 rfl dX4_toldPart_177 ?_
            refine r_iload F 8 rfl dX4_toldPart_179 ?_
            refine r_if_eq F 188 (by decide) dX4_toldPart_181 (fun c_181_35 => ?_) (fun c_181_35 => absurd c_181_35 (by decide))
            clear c_181_35
            refine r_iconst (v := 0) F (by decide) dX4_toldPart_188 ?_
            refine r_iadd F dX4_toldPart_189 ?_
            refine r_istore (lv' := [(0, .ref (g.2.1 61)), (1, .int p), (2, .int 2), (3, .int (opm B n)), (4, .int ((cntN j (fun b => decide (B b 1 = p) && qWts B (opm B n) b)) + 0)), (5, .int (nI j)), (6, .int 0), (7, .int 1), (8, .int 0)]) F (by decide) rfl dX4_toldPart_190 ?_
            refine r_iinc (lv' := [(0, .ref (g.2.1 61)), (1, .int p), (2, .int 2), (3, .int (opm B n)), (4, .int ((cntN j (fun b => decide (B b 1 = p) && qWts B (opm B n) b)) + 0)), (5, .int (nI (j + 1))), (6, .int 0), (7, .int 1), (8, .int 0)]) F 5 rfl (nI_inc _) (by decide) rfl dX4_toldPart_192 ?_
            refine r_goto F 60 (by decide) dX4_toldPart_195 ?_
            refine r_lv (lv2 := [(0, .ref (g.2.1 61)), (1, .int p), (2, .int 2), (3, .int (opm B n)), (4, .int ((cntN j (fun b => decide (B b 1 = p) && qWts B (opm B n) b)) + 0)), (5, .int (nI (j + 1)))]) (by simp) ?_
            exact ih_60 (j + 1) _ _ (by omega)  (by simp [cntN, bI, qFor, c_79_25, c_97_27]) rfl
        · skip
          refine r_iconst (v := 1) F (by decide) dX4_toldPart_82 ?_
          refine r_goto F 87 (by decide) dX4_toldPart_83 ?_
          refine r_istore (lv' := [(0, .ref (g.2.1 61)), (1, .int p), (2, .int 2), (3, .int (opm B n)), (4, .int (cntN j (fun b => decide (B b 1 = p) && qWts B (opm B n) b))), (5, .int (nI j)), (6, .int 1)]) F (by decide) rfl dX4_toldPart_87 ?_
          refine r_aload_n F 0 rfl dX4_toldPart_89 ?_
          refine r_iload F 5 rfl dX4_toldPart_90 ?_
          refine r_iconst (v := 2) F (by decide) dX4_toldPart_92 ?_
          refine r_calli (g_V (C := RX4) (T := TX4) (N := 14) (nA := 2) (As := [.int (nI j), .int 2]) (rest := []) F 61 hL.1 (by decide) rfl (c_X4_of h hb (w := 2) (by decide)) gX4_toldPart_X4_of rfl (by decide +kernel) rfl ⟨Nat.le_of_ble_eq_true rfl, Nat.le_of_ble_eq_true rfl⟩ ⟨Nat.le_of_ble_eq_true rfl, Nat.le_of_ble_eq_true rfl⟩ rfl (Nat.le_of_ble_eq_true rfl) dX4_toldPart_93) (fun r_36 u_36 hp_36 => ?_)
          obtain ⟨rfl, rfl⟩ := hp_36
          refine r_iload_n F 1 rfl dX4_toldPart_96 ?_
          refine r_icmp_ne F 104 (by decide) dX4_toldPart_97 (fun c_97_37 => ?_) (fun c_97_37 => ?_)
          · skip
            refine r_iconst (v := 0) F (by decide) dX4_toldPart_104 ?_
            refine r_istore (lv' := [(0, .ref (g.2.1 61)), (1, .int p), (2, .int 2), (3, .int (opm B n)), (4, .int (cntN j (fun b => decide (B b 1 = p) && qWts B (opm B n) b))), (5, .int (nI j)), (6, .int 1), (7, .int 0)]) F (by decide) rfl dX4_toldPart_105 ?_
            refine r_iload_n F 2 rfl dX4_toldPart_107 ?_
            refine r_iconst (v := 1) F (by decide) dX4_toldPart_108 ?_
            refine r_icmp_ne F 117 (by decide) dX4_toldPart_109 (fun c_109_38 => ?_) (fun c_109_38 => absurd c_109_38 (by decide))
            clear c_109_38
            refine r_iload_n F 2 rfl dX4_toldPart_117 ?_
            refine r_iconst (v := 2) F (by decide) dX4_toldPart_118 ?_
            refine r_icmp_ne F 145 (by decide) dX4_toldPart_119 (fun c_119_39 => absurd c_119_39 (by decide)) (fun c_119_39 => ?_)
            clear c_119_39
            refine r_iload F 6 rfl dX4_toldPart_122 ?_
            refine r_if_eq F 141 (by decide) dX4_toldPart_124 (fun c_124_40 => absurd c_124_40 (by decide)) (fun c_124_40 => ?_)
            clear c_124_40
            refine r_aload_n F 0 rfl dX4_toldPart_127 ?_
            refine r_iload F 5 rfl dX4_toldPart_128 ?_
            refine r_iload_n F 3 rfl dX4_toldPart_130 ?_
            refine r_calli (g_V (C := RX4) (T := TX4) (N := 14) (nA := 2) (As := [.int (nI j), .int (opm B n)]) (rest := []) F 61 hL.1 (by decide) rfl (c_X4_wants h hb) gX4_toldPart_X4_wants rfl (by decide +kernel) rfl ⟨Nat.le_of_ble_eq_true rfl, Nat.le_of_ble_eq_true rfl⟩ ⟨Nat.le_of_ble_eq_true rfl, Nat.le_of_ble_eq_true rfl⟩ rfl (Nat.le_of_ble_eq_true rfl) dX4_toldPart_131) (fun r_41 u_41 hp_41 => ?_)
            obtain ⟨rfl, rfl⟩ := hp_41
            refine r_if_eq F 141 (by decide) dX4_toldPart_134 (fun c_134_42 => ?_) (fun c_134_42 => ?_)
            · skip
              replace c_134_42 := bI0 c_134_42
              refine r_iconst (v := 0) F (by decide) dX4_toldPart_141 ?_
              refine r_goto F 175 (by decide) dX4_toldPart_142 ?_
              refine r_istore (lv' := [(0, .ref (g.2.1 61)), (1, .int p), (2, .int 2), (3, .int (opm B n)), (4, .int (cntN j (fun b => decide (B b 1 = p) && qWts B (opm B n) b))), (5, .int (nI j)), (6, .int 1), (7, .int 0), (8, .int 0)]) F (by decide) rfl dX4_toldPart_175 ?_
              refine r_iload F 4 rfl dX4_toldPart_177 ?_
              refine r_iload F 8 rfl dX4_toldPart_179 ?_
              refine r_if_eq F 188 (by decide) dX4_toldPart_181 (fun c_181_43 => ?_) (fun c_181_43 => absurd c_181_43 (by decide))
              clear c_181_43
              refine r_iconst (v := 0) F (by decide) dX4_toldPart_188 ?_
              refine r_iadd F dX4_toldPart_189 ?_
              refine r_istore (lv' := [(0, .ref (g.2.1 61)), (1, .int p), (2, .int 2), (3, .int (opm B n)), (4, .int ((cntN j (fun b => decide (B b 1 = p) && qWts B (opm B n) b)) + 0)), (5, .int (nI j)), (6, .int 1), (7, .int 0), (8, .int 0)]) F (by decide) rfl dX4_toldPart_190 ?_
              refine r_iinc (lv' := [(0, .ref (g.2.1 61)), (1, .int p), (2, .int 2), (3, .int (opm B n)), (4, .int ((cntN j (fun b => decide (B b 1 = p) && qWts B (opm B n) b)) + 0)), (5, .int (nI (j + 1))), (6, .int 1), (7, .int 0), (8, .int 0)]) F 5 rfl (nI_inc _) (by decide) rfl dX4_toldPart_192 ?_
              refine r_goto F 60 (by decide) dX4_toldPart_195 ?_
              refine r_lv (lv2 := [(0, .ref (g.2.1 61)), (1, .int p), (2, .int 2), (3, .int (opm B n)), (4, .int ((cntN j (fun b => decide (B b 1 = p) && qWts B (opm B n) b)) + 0)), (5, .int (nI (j + 1)))]) (by simp) ?_
              exact ih_60 (j + 1) _ _ (by omega)  (by simp [cntN, bI, qFor, c_79_25, c_97_37, c_134_42]) rfl
            · skip
              replace c_134_42 := bI1 c_134_42
              refine r_iconst (v := 1) F (by decide) dX4_toldPart_137 ?_
              refine r_goto F 175 (by decide) dX4_toldPart_138 ?_
              refine r_istore (lv' := [(0, .ref (g.2.1 61)), (1, .int p), (2, .int 2), (3, .int (opm B n)), (4, .int (cntN j (fun b => decide (B b 1 = p) && qWts B (opm B n) b))), (5, .int (nI j)), (6, .int 1), (7, .int 0), (8, .int 1)]) F (by decide) rfl dX4_toldPart_175 ?_
              refine r_iload F 4 rfl dX4_toldPart_177 ?_
              refine r_iload F 8 rfl dX4_toldPart_179 ?_
              refine r_if_eq F 188 (by decide) dX4_toldPart_181 (fun c_181_44 => absurd c_181_44 (by decide)) (fun c_181_44 => ?_)
              clear c_181_44
              refine r_iconst (v := 1) F (by decide) dX4_toldPart_184 ?_
              refine r_goto F 189 (by decide) dX4_toldPart_185 ?_
              refine r_iadd F dX4_toldPart_189 ?_
              refine r_istore (lv' := [(0, .ref (g.2.1 61)), (1, .int p), (2, .int 2), (3, .int (opm B n)), (4, .int ((cntN j (fun b => decide (B b 1 = p) && qWts B (opm B n) b)) + 1)), (5, .int (nI j)), (6, .int 1), (7, .int 0), (8, .int 1)]) F (by decide) rfl dX4_toldPart_190 ?_
              refine r_iinc (lv' := [(0, .ref (g.2.1 61)), (1, .int p), (2, .int 2), (3, .int (opm B n)), (4, .int ((cntN j (fun b => decide (B b 1 = p) && qWts B (opm B n) b)) + 1)), (5, .int (nI (j + 1))), (6, .int 1), (7, .int 0), (8, .int 1)]) F 5 rfl (nI_inc _) (by decide) rfl dX4_toldPart_192 ?_
              refine r_goto F 60 (by decide) dX4_toldPart_195 ?_
              refine r_lv (lv2 := [(0, .ref (g.2.1 61)), (1, .int p), (2, .int 2), (3, .int (opm B n)), (4, .int ((cntN j (fun b => decide (B b 1 = p) && qWts B (opm B n) b)) + 1)), (5, .int (nI (j + 1)))]) (by simp) ?_
              exact ih_60 (j + 1) _ _ (by omega)  (by simp [cntN, bI, qFor, c_79_25, c_97_37, c_134_42]) rfl
          · skip
            refine r_iconst (v := 1) F (by decide) dX4_toldPart_100 ?_
            refine r_goto F 105 (by decide) dX4_toldPart_101 ?_
            refine r_istore (lv' := [(0, .ref (g.2.1 61)), (1, .int p), (2, .int 2), (3, .int (opm B n)), (4, .int (cntN j (fun b => decide (B b 1 = p) && qWts B (opm B n) b))), (5, .int (nI j)), (6, .int 1), (7, .int 1)]) F (by decide) rfl dX4_toldPart_105 ?_
            refine r_iload_n F 2 rfl dX4_toldPart_107 ?_
            refine r_iconst (v := 1) F (by decide) dX4_toldPart_108 ?_
            refine r_icmp_ne F 117 (by decide) dX4_toldPart_109 (fun c_109_45 => ?_) (fun c_109_45 => absurd c_109_45 (by decide))
            clear c_109_45
            refine r_iload_n F 2 rfl dX4_toldPart_117 ?_
            refine r_iconst (v := 2) F (by decide) dX4_toldPart_118 ?_
            refine r_icmp_ne F 145 (by decide) dX4_toldPart_119 (fun c_119_46 => absurd c_119_46 (by decide)) (fun c_119_46 => ?_)
            clear c_119_46
            refine r_iload F 6 rfl dX4_toldPart_122 ?_
            refine r_if_eq F 141 (by decide) dX4_toldPart_124 (fun c_124_47 => absurd c_124_47 (by decide)) (fun c_124_47 => ?_)
            clear c_124_47
            refine r_aload_n F 0 rfl dX4_toldPart_127 ?_
            refine r_iload F 5 rfl dX4_toldPart_128 ?_
            refine r_iload_n F 3 rfl dX4_toldPart_130 ?_
            refine r_calli (g_V (C := RX4) (T := TX4) (N := 14) (nA := 2) (As := [.int (nI j), .int (opm B n)]) (rest := []) F 61 hL.1 (by decide) rfl (c_X4_wants h hb) gX4_toldPart_X4_wants rfl (by decide +kernel) rfl ⟨Nat.le_of_ble_eq_true rfl, Nat.le_of_ble_eq_true rfl⟩ ⟨Nat.le_of_ble_eq_true rfl, Nat.le_of_ble_eq_true rfl⟩ rfl (Nat.le_of_ble_eq_true rfl) dX4_toldPart_131) (fun r_48 u_48 hp_48 => ?_)
            obtain ⟨rfl, rfl⟩ := hp_48
            refine r_if_eq F 141 (by decide) dX4_toldPart_134 (fun c_134_49 => ?_) (fun c_134_49 => ?_)
            · skip
              replace c_134_49 := bI0 c_134_49
              refine r_iconst (v := 0) F (by decide) dX4_toldPart_141 ?_
              refine r_goto F 175 (by decide) dX4_toldPart_142 ?_
              refine r_istore (lv' := [(0, .ref (g.2.1 61)), (1, .int p), (2, .int 2), (3, .int (opm B n)), (4, .int (cntN j (fun b => decide (B b 1 = p) && qWts B (opm B n) b))), (5, .int (nI j)), (6, .int 1), (7, .int 1), (8, .int 0)]) F (by decide) rfl dX4_toldPart_175 ?_
              refine r_iload F 4 rfl dX4_toldPart_177 ?_
              refine r_iload F 8 rfl dX4_toldPart_179 ?_
              refine r_if_eq F 188 (by decide) dX4_toldPart_181 (fun c_181_50 => ?_) (fun c_181_50 => absurd c_181_50 (by decide))
              clear c_181_50
              refine r_iconst (v := 0) F (by decide) dX4_toldPart_188 ?_
              refine r_iadd F dX4_toldPart_189 ?_
              refine r_istore (lv' := [(0, .ref (g.2.1 61)), (1, .int p), (2, .int 2), (3, .int (opm B n)), (4, .int ((cntN j (fun b => decide (B b 1 = p) && qWts B (opm B n) b)) + 0)), (5, .int (nI j)), (6, .int 1), (7, .int 1), (8, .int 0)]) F (by decide) rfl dX4_toldPart_190 ?_
              refine r_iinc (lv' := [(0, .ref (g.2.1 61)), (1, .int p), (2, .int 2), (3, .int (opm B n)), (4, .int ((cntN j (fun b => decide (B b 1 = p) && qWts B (opm B n) b)) + 0)), (5, .int (nI (j + 1))), (6, .int 1), (7, .int 1), (8, .int 0)]) F 5 rfl (nI_inc _) (by decide) rfl dX4_toldPart_192 ?_
              refine r_goto F 60 (by decide) dX4_toldPart_195 ?_
              refine r_lv (lv2 := [(0, .ref (g.2.1 61)), (1, .int p), (2, .int 2), (3, .int (opm B n)), (4, .int ((cntN j (fun b => decide (B b 1 = p) && qWts B (opm B n) b)) + 0)), (5, .int (nI (j + 1)))]) (by simp) ?_
              exact ih_60 (j + 1) _ _ (by omega)  (by simp [cntN, bI, qFor, c_79_25, c_97_37, c_134_49]) rfl
            · skip
              replace c_134_49 := bI1 c_134_49
              refine r_iconst (v := 1) F (by decide) dX4_toldPart_137 ?_
              refine r_goto F 175 (by decide) dX4_toldPart_138 ?_
              refine r_istore (lv' := [(0, .ref (g.2.1 61)), (1, .int p), (2, .int 2), (3, .int (opm B n)), (4, .int (cntN j (fun b => decide (B b 1 = p) && qWts B (opm B n) b))), (5, .int (nI j)), (6, .int 1), (7, .int 1), (8, .int 1)]) F (by decide) rfl dX4_toldPart_175 ?_
              refine r_iload F 4 rfl dX4_toldPart_177 ?_
              refine r_iload F 8 rfl dX4_toldPart_179 ?_
              refine r_if_eq F 188 (by decide) dX4_toldPart_181 (fun c_181_51 => absurd c_181_51 (by decide)) (fun c_181_51 => ?_)
              clear c_181_51
              refine r_iconst (v := 1) F (by decide) dX4_toldPart_184 ?_
              refine r_goto F 189 (by decide) dX4_toldPart_185 ?_
              refine r_iadd F dX4_toldPart_189 ?_
              refine r_istore (lv' := [(0, .ref (g.2.1 61)), (1, .int p), (2, .int 2), (3, .int (opm B n)), (4, .int ((cntN j (fun b => decide (B b 1 = p) && qWts B (opm B n) b)) + 1)), (5, .int (nI j)), (6, .int 1), (7, .int 1), (8, .int 1)]) F (by decide) rfl dX4_toldPart_190 ?_
              refine r_iinc (lv' := [(0, .ref (g.2.1 61)), (1, .int p), (2, .int 2), (3, .int (opm B n)), (4, .int ((cntN j (fun b => decide (B b 1 = p) && qWts B (opm B n) b)) + 1)), (5, .int (nI (j + 1))), (6, .int 1), (7, .int 1), (8, .int 1)]) F 5 rfl (nI_inc _) (by decide) rfl dX4_toldPart_192 ?_
              refine r_goto F 60 (by decide) dX4_toldPart_195 ?_
              refine r_lv (lv2 := [(0, .ref (g.2.1 61)), (1, .int p), (2, .int 2), (3, .int (opm B n)), (4, .int ((cntN j (fun b => decide (B b 1 = p) && qWts B (opm B n) b)) + 1)), (5, .int (nI (j + 1)))]) (by simp) ?_
              exact ih_60 (j + 1) _ _ (by omega)  (by simp [cntN, bI, qFor, c_79_25, c_97_37, c_134_49]) rfl
    exact loop_60 n 0 _ _ (by omega)  rfl rfl
  · skip
    refine r_aload_n F 0 rfl dX4_toldPart_0 ?_
    refine r_calli (g_V (C := RX4) (T := TX4) (N := 14) (nA := 0) (As := []) (rest := []) F 61 hL.1 (by decide) rfl (c_X4_open h ) gX4_toldPart_X4_open rfl (by decide +kernel) rfl ⟨Nat.le_of_ble_eq_true rfl, Nat.le_of_ble_eq_true rfl⟩ ⟨Nat.le_of_ble_eq_true rfl, Nat.le_of_ble_eq_true rfl⟩ rfl (Nat.le_of_ble_eq_true rfl) dX4_toldPart_1) (fun r_52 u_52 hp_52 => ?_)
    obtain ⟨rfl, rfl⟩ := hp_52
    refine r_istore_n (lv' := [(0, .ref (g.2.1 61)), (1, .int p), (2, .int 3), (3, .int (opm B n))]) F (by decide) rfl dX4_toldPart_4 ?_
    refine r_iconst (v := 0) F (by decide) dX4_toldPart_5 ?_
    refine r_istore (lv' := [(0, .ref (g.2.1 61)), (1, .int p), (2, .int 3), (3, .int (opm B n)), (4, .int 0)]) F (by decide) rfl dX4_toldPart_6 ?_
    refine r_iload_n F 2 rfl dX4_toldPart_8 ?_
    refine r_lookup (dflt := 48) (ps := #[(0, 27), (5, 33)]) (off := 48) F 57 (by decide) (by decide) (by decide) dX4_toldPart_9 ?_
    refine r_iconst (v := 0) F (by decide) dX4_toldPart_57 ?_
    refine r_istore (lv' := [(0, .ref (g.2.1 61)), (1, .int p), (2, .int 3), (3, .int (opm B n)), (4, .int 0), (5, .int 0)]) F (by decide) rfl dX4_toldPart_58 ?_
    have loop_60 : ∀ (k : Nat) (j : Nat) (x4_60 : Int32) (x5_60 : Int32), j + k = n → x4_60 = cntN j (qFor B 1 p) → x5_60 = nI j → VL g X 0 0 u 60 [(0, .ref (g.2.1 61)), (1, .int p), (2, .int 3), (3, .int (opm B n)), (4, .int x4_60), (5, .int x5_60)] [] := by
      intro k
      induction k with
      | zero =>
        rintro j x4_60 x5_60 hk rfl rfl
        have hjn : n = j := by omega
        subst hjn
        refine r_iload F 5 rfl dX4_toldPart_60 ?_
        refine r_aload_n F 0 rfl dX4_toldPart_62 ?_
        refine r_get (C := RX4) (T := TX4) (N := 14) F 61 hL.1 (by decide) hinX4 rfl 1 (by decide) (by decide +kernel) rfl dX4_toldPart_63 ?_
        refine r_iconst (v := 0) F (by decide) dX4_toldPart_66 ?_
        refine r_iald F 62 hL.2.1 (by decide) (vp_in_nI (n := 0) (by decide) (by decide)) dX4_toldPart_67 ?_
        refine r_eq (st2 := [.int (nI n), .int (nI n)]) (by rw [show Z (0 : Int32).toNatClampNeg = nI n from hZ.1]) rfl ?_
        refine r_icmp_ge F 198 (by decide) dX4_toldPart_68 (fun c_68_54 => ?_) (fun c_68_54 => absurd (Int32.le_refl _) c_68_54)
        clear c_68_54
        refine r_iload F 4 rfl dX4_toldPart_198 ?_
        exact hret _ _ _ _ _ _ (Nat.le_of_ble_eq_true rfl) (Nat.le_of_ble_eq_true rfl) ⟨by rfl, rfl⟩ dX4_toldPart_200
      | succ k ih_60 =>
        rintro j x4_60 x5_60 hk rfl rfl
        have hb : j < n := by omega
        refine r_iload F 5 rfl dX4_toldPart_60 ?_
        refine r_aload_n F 0 rfl dX4_toldPart_62 ?_
        refine r_get (C := RX4) (T := TX4) (N := 14) F 61 hL.1 (by decide) hinX4 rfl 1 (by decide) (by decide +kernel) rfl dX4_toldPart_63 ?_
        refine r_iconst (v := 0) F (by decide) dX4_toldPart_66 ?_
        refine r_iald F 62 hL.2.1 (by decide) (vp_in_nI (n := 0) (by decide) (by decide)) dX4_toldPart_67 ?_
        refine r_eq (st2 := [.int (nI n), .int (nI j)]) (by rw [show Z (0 : Int32).toNatClampNeg = nI n from hZ.1]) rfl ?_
        refine r_icmp_ge F 198 (by decide) dX4_toldPart_68 (fun c_68_55 => absurd c_68_55 (nI_ge (b := n) hb (by have := hn16; omega))) (fun c_68_55 => ?_)
        clear c_68_55
        refine r_aload_n F 0 rfl dX4_toldPart_71 ?_
        refine r_iload F 5 rfl dX4_toldPart_72 ?_
        refine r_iconst (v := 1) F (by decide) dX4_toldPart_74 ?_
        refine r_calli (g_V (C := RX4) (T := TX4) (N := 14) (nA := 2) (As := [.int (nI j), .int 1]) (rest := []) F 61 hL.1 (by decide) rfl (c_X4_of h hb (w := 1) (by decide)) gX4_toldPart_X4_of rfl (by decide +kernel) rfl ⟨Nat.le_of_ble_eq_true rfl, Nat.le_of_ble_eq_true rfl⟩ ⟨Nat.le_of_ble_eq_true rfl, Nat.le_of_ble_eq_true rfl⟩ rfl (Nat.le_of_ble_eq_true rfl) dX4_toldPart_75) (fun r_56 u_56 hp_56 => ?_)
        obtain ⟨rfl, rfl⟩ := hp_56
        refine r_iload_n F 1 rfl dX4_toldPart_78 ?_
        refine r_icmp_ne F 86 (by decide) dX4_toldPart_79 (fun c_79_57 => ?_) (fun c_79_57 => ?_)
        · skip
          refine r_iconst (v := 0) F (by decide) dX4_toldPart_86 ?_
          refine r_istore (lv' := [(0, .ref (g.2.1 61)), (1, .int p), (2, .int 3), (3, .int (opm B n)), (4, .int (cntN j (qFor B 1 p))), (5, .int (nI j)), (6, .int 0)]) F (by decide) rfl dX4_toldPart_87 ?_
          refine r_aload_n F 0 rfl dX4_toldPart_89 ?_
          refine r_iload F 5 rfl dX4_toldPart_90 ?_
          refine r_iconst (v := 2) F (by decide) dX4_toldPart_92 ?_
          refine r_calli (g_V (C := RX4) (T := TX4) (N := 14) (nA := 2) (As := [.int (nI j), .int 2]) (rest := []) F 61 hL.1 (by decide) rfl (c_X4_of h hb (w := 2) (by decide)) gX4_toldPart_X4_of rfl (by decide +kernel) rfl ⟨Nat.le_of_ble_eq_true rfl, Nat.le_of_ble_eq_true rfl⟩ ⟨Nat.le_of_ble_eq_true rfl, Nat.le_of_ble_eq_true rfl⟩ rfl (Nat.le_of_ble_eq_true rfl) dX4_toldPart_93) (fun r_58 u_58 hp_58 => ?_)
          obtain ⟨rfl, rfl⟩ := hp_58
          refine r_iload_n F 1 rfl dX4_toldPart_96 ?_
          refine r_icmp_ne F 104 (by decide) dX4_toldPart_97 (fun c_97_59 => ?_) (fun c_97_59 => ?_)
          · skip
            refine r_iconst (v := 0) F (by decide) dX4_toldPart_104 ?_
            refine r_istore (lv' := [(0, .ref (g.2.1 61)), (1, .int p), (2, .int 3), (3, .int (opm B n)), (4, .int (cntN j (qFor B 1 p))), (5, .int (nI j)), (6, .int 0), (7, .int 0)]) F (by decide) rfl dX4_toldPart_105 ?_
            refine r_iload_n F 2 rfl dX4_toldPart_107 ?_
            refine r_iconst (v := 1) F (by decide) dX4_toldPart_108 ?_
            refine r_icmp_ne F 117 (by decide) dX4_toldPart_109 (fun c_109_60 => ?_) (fun c_109_60 => absurd c_109_60 (by decide))
            clear c_109_60
            refine r_iload_n F 2 rfl dX4_toldPart_117 ?_
            refine r_iconst (v := 2) F (by decide) dX4_toldPart_118 ?_
            refine r_icmp_ne F 145 (by decide) dX4_toldPart_119 (fun c_119_61 => ?_) (fun c_119_61 => absurd c_119_61 (by decide))
            clear c_119_61
            refine r_iload F 7 rfl dX4_toldPart_145 ?_
            refine r_if_eq F 174 (by decide) dX4_toldPart_147 (fun c_147_62 => ?_) (fun c_147_62 => absurd c_147_62 (by decide))
            clear c_147_62
            refine r_iconst (v := 0) F (by decide) dX4_toldPart_174 ?_
            refine r_istore (lv' := [(0, .ref (g.2.1 61)), (1, .int p), (2, .int 3), (3, .int (opm B n)), (4, .int (cntN j (qFor B 1 p))), (5, .int (nI j)), (6, .int 0), (7, .int 0), (8, .int 0)]) F (by decide) rfl dX4_toldPart_175 ?_
            refine r_iload F 4 rfl dX4_toldPart_177 ?_
            refine r_iload F 8 rfl dX4_toldPart_179 ?_
            refine r_if_eq F 188 (by decide) dX4_toldPart_181 (fun c_181_63 => ?_) (fun c_181_63 => absurd c_181_63 (by decide))
            clear c_181_63
            refine r_iconst (v := 0) F (by decide) dX4_toldPart_188 ?_
            refine r_iadd F dX4_toldPart_189 ?_
            refine r_istore (lv' := [(0, .ref (g.2.1 61)), (1, .int p), (2, .int 3), (3, .int (opm B n)), (4, .int ((cntN j (qFor B 1 p)) + 0)), (5, .int (nI j)), (6, .int 0), (7, .int 0), (8, .int 0)]) F (by decide) rfl dX4_toldPart_190 ?_
            refine r_iinc (lv' := [(0, .ref (g.2.1 61)), (1, .int p), (2, .int 3), (3, .int (opm B n)), (4, .int ((cntN j (qFor B 1 p)) + 0)), (5, .int (nI (j + 1))), (6, .int 0), (7, .int 0), (8, .int 0)]) F 5 rfl (nI_inc _) (by decide) rfl dX4_toldPart_192 ?_
            refine r_goto F 60 (by decide) dX4_toldPart_195 ?_
            refine r_lv (lv2 := [(0, .ref (g.2.1 61)), (1, .int p), (2, .int 3), (3, .int (opm B n)), (4, .int ((cntN j (qFor B 1 p)) + 0)), (5, .int (nI (j + 1)))]) (by simp) ?_
            exact ih_60 (j + 1) _ _ (by omega)  (by simp [cntN, bI, qFor, c_79_57, c_97_59]) rfl
          · skip
            refine r_iconst (v := 1) F (by decide) dX4_toldPart_100 ?_
            refine r_goto F 105 (by decide) dX4_toldPart_101 ?_
            refine r_istore (lv' := [(0, .ref (g.2.1 61)), (1, .int p), (2, .int 3), (3, .int (opm B n)), (4, .int (cntN j (qFor B 1 p))), (5, .int (nI j)), (6, .int 0), (7, .int 1)]) F (by decide) rfl dX4_toldPart_105 ?_
            refine r_iload_n F 2 rfl dX4_toldPart_107 ?_
            refine r_iconst (v := 1) F (by decide) dX4_toldPart_108 ?_
            refine r_icmp_ne F 117 (by decide) dX4_toldPart_109 (fun c_109_64 => ?_) (fun c_109_64 => absurd c_109_64 (by decide))
            clear c_109_64
            refine r_iload_n F 2 rfl dX4_toldPart_117 ?_
            refine r_iconst (v := 2) F (by decide) dX4_toldPart_118 ?_
            refine r_icmp_ne F 145 (by decide) dX4_toldPart_119 (fun c_119_65 => ?_) (fun c_119_65 => absurd c_119_65 (by decide))
            clear c_119_65
            refine r_iload F 7 rfl dX4_toldPart_145 ?_
            refine r_if_eq F 174 (by decide) dX4_toldPart_147 (fun c_147_66 => absurd c_147_66 (by decide)) (fun c_147_66 => ?_)
            clear c_147_66
            refine r_aload_n F 0 rfl dX4_toldPart_150 ?_
            refine r_iload F 5 rfl dX4_toldPart_151 ?_
            refine r_iconst (v := 0) F (by decide) dX4_toldPart_153 ?_
            refine r_calli (g_V (C := RX4) (T := TX4) (N := 14) (nA := 2) (As := [.int (nI j), .int 0]) (rest := []) F 61 hL.1 (by decide) rfl (c_X4_of h hb (w := 0) (by decide)) gX4_toldPart_X4_of rfl (by decide +kernel) rfl ⟨Nat.le_of_ble_eq_true rfl, Nat.le_of_ble_eq_true rfl⟩ ⟨Nat.le_of_ble_eq_true rfl, Nat.le_of_ble_eq_true rfl⟩ rfl (Nat.le_of_ble_eq_true rfl) dX4_toldPart_154) (fun r_67 u_67 hp_67 => ?_)
            obtain ⟨rfl, rfl⟩ := hp_67
            refine r_iload_n F 2 rfl dX4_toldPart_157 ?_
            refine r_iconst (v := 3) F (by decide) dX4_toldPart_158 ?_
            refine r_icmp_ne F 166 (by decide) dX4_toldPart_159 (fun c_159_68 => absurd c_159_68 (by decide)) (fun c_159_68 => ?_)
            clear c_159_68
            refine r_iconst (v := 1) F (by decide) dX4_toldPart_162 ?_
            refine r_goto F 167 (by decide) dX4_toldPart_163 ?_
            refine r_icmp_ne F 174 (by decide) dX4_toldPart_167 (fun c_167_69 => ?_) (fun c_167_69 => ?_)
            · skip
              refine r_iconst (v := 0) F (by decide) dX4_toldPart_174 ?_
              refine r_istore (lv' := [(0, .ref (g.2.1 61)), (1, .int p), (2, .int 3), (3, .int (opm B n)), (4, .int (cntN j (qFor B 1 p))), (5, .int (nI j)), (6, .int 0), (7, .int 1), (8, .int 0)]) F (by decide) rfl dX4_toldPart_175 ?_
              refine r_iload F 4 rfl dX4_toldPart_177 ?_
              refine r_iload F 8 rfl dX4_toldPart_179 ?_
              refine r_if_eq F 188 (by decide) dX4_toldPart_181 (fun c_181_70 => ?_) (fun c_181_70 => absurd c_181_70 (by decide))
              clear c_181_70
              refine r_iconst (v := 0) F (by decide) dX4_toldPart_188 ?_
              refine r_iadd F dX4_toldPart_189 ?_
              refine r_istore (lv' := [(0, .ref (g.2.1 61)), (1, .int p), (2, .int 3), (3, .int (opm B n)), (4, .int ((cntN j (qFor B 1 p)) + 0)), (5, .int (nI j)), (6, .int 0), (7, .int 1), (8, .int 0)]) F (by decide) rfl dX4_toldPart_190 ?_
              refine r_iinc (lv' := [(0, .ref (g.2.1 61)), (1, .int p), (2, .int 3), (3, .int (opm B n)), (4, .int ((cntN j (qFor B 1 p)) + 0)), (5, .int (nI (j + 1))), (6, .int 0), (7, .int 1), (8, .int 0)]) F 5 rfl (nI_inc _) (by decide) rfl dX4_toldPart_192 ?_
              refine r_goto F 60 (by decide) dX4_toldPart_195 ?_
              refine r_lv (lv2 := [(0, .ref (g.2.1 61)), (1, .int p), (2, .int 3), (3, .int (opm B n)), (4, .int ((cntN j (qFor B 1 p)) + 0)), (5, .int (nI (j + 1)))]) (by simp) ?_
              exact ih_60 (j + 1) _ _ (by omega)  (by simp [cntN, bI, qFor, c_79_57, c_97_59, c_167_69]) rfl
            · skip
              refine r_iconst (v := 1) F (by decide) dX4_toldPart_170 ?_
              refine r_goto F 175 (by decide) dX4_toldPart_171 ?_
              refine r_istore (lv' := [(0, .ref (g.2.1 61)), (1, .int p), (2, .int 3), (3, .int (opm B n)), (4, .int (cntN j (qFor B 1 p))), (5, .int (nI j)), (6, .int 0), (7, .int 1), (8, .int 1)]) F (by decide) rfl dX4_toldPart_175 ?_
              refine r_iload F 4 rfl dX4_toldPart_177 ?_
              refine r_iload F 8 rfl dX4_toldPart_179 ?_
              refine r_if_eq F 188 (by decide) dX4_toldPart_181 (fun c_181_71 => absurd c_181_71 (by decide)) (fun c_181_71 => ?_)
              clear c_181_71
              refine r_iconst (v := 1) F (by decide) dX4_toldPart_184 ?_
              refine r_goto F 189 (by decide) dX4_toldPart_185 ?_
              refine r_iadd F dX4_toldPart_189 ?_
              refine r_istore (lv' := [(0, .ref (g.2.1 61)), (1, .int p), (2, .int 3), (3, .int (opm B n)), (4, .int ((cntN j (qFor B 1 p)) + 1)), (5, .int (nI j)), (6, .int 0), (7, .int 1), (8, .int 1)]) F (by decide) rfl dX4_toldPart_190 ?_
              refine r_iinc (lv' := [(0, .ref (g.2.1 61)), (1, .int p), (2, .int 3), (3, .int (opm B n)), (4, .int ((cntN j (qFor B 1 p)) + 1)), (5, .int (nI (j + 1))), (6, .int 0), (7, .int 1), (8, .int 1)]) F 5 rfl (nI_inc _) (by decide) rfl dX4_toldPart_192 ?_
              refine r_goto F 60 (by decide) dX4_toldPart_195 ?_
              refine r_lv (lv2 := [(0, .ref (g.2.1 61)), (1, .int p), (2, .int 3), (3, .int (opm B n)), (4, .int ((cntN j (qFor B 1 p)) + 1)), (5, .int (nI (j + 1)))]) (by simp) ?_
              exact ih_60 (j + 1) _ _ (by omega)  (by simp [cntN, bI, qFor, c_79_57, c_97_59, c_167_69]) rfl
        · skip
          refine r_iconst (v := 1) F (by decide) dX4_toldPart_82 ?_
          refine r_goto F 87 (by decide) dX4_toldPart_83 ?_
          refine r_istore (lv' := [(0, .ref (g.2.1 61)), (1, .int p), (2, .int 3), (3, .int (opm B n)), (4, .int (cntN j (qFor B 1 p))), (5, .int (nI j)), (6, .int 1)]) F (by decide) rfl dX4_toldPart_87 ?_
          refine r_aload_n F 0 rfl dX4_toldPart_89 ?_
          refine r_iload F 5 rfl dX4_toldPart_90 ?_
          refine r_iconst (v := 2) F (by decide) dX4_toldPart_92 ?_
          refine r_calli (g_V (C := RX4) (T := TX4) (N := 14) (nA := 2) (As := [.int (nI j), .int 2]) (rest := []) F 61 hL.1 (by decide) rfl (c_X4_of h hb (w := 2) (by decide)) gX4_toldPart_X4_of rfl (by decide +kernel) rfl ⟨Nat.le_of_ble_eq_true rfl, Nat.le_of_ble_eq_true rfl⟩ ⟨Nat.le_of_ble_eq_true rfl, Nat.le_of_ble_eq_true rfl⟩ rfl (Nat.le_of_ble_eq_true rfl) dX4_toldPart_93) (fun r_72 u_72 hp_72 => ?_)
          obtain ⟨rfl, rfl⟩ := hp_72
          refine r_iload_n F 1 rfl dX4_toldPart_96 ?_
          refine r_icmp_ne F 104 (by decide) dX4_toldPart_97 (fun c_97_73 => ?_) (fun c_97_73 => ?_)
          · skip
            refine r_iconst (v := 0) F (by decide) dX4_toldPart_104 ?_
            refine r_istore (lv' := [(0, .ref (g.2.1 61)), (1, .int p), (2, .int 3), (3, .int (opm B n)), (4, .int (cntN j (qFor B 1 p))), (5, .int (nI j)), (6, .int 1), (7, .int 0)]) F (by decide) rfl dX4_toldPart_105 ?_
            refine r_iload_n F 2 rfl dX4_toldPart_107 ?_
            refine r_iconst (v := 1) F (by decide) dX4_toldPart_108 ?_
            refine r_icmp_ne F 117 (by decide) dX4_toldPart_109 (fun c_109_74 => ?_) (fun c_109_74 => absurd c_109_74 (by decide))
            clear c_109_74
            refine r_iload_n F 2 rfl dX4_toldPart_117 ?_
            refine r_iconst (v := 2) F (by decide) dX4_toldPart_118 ?_
            refine r_icmp_ne F 145 (by decide) dX4_toldPart_119 (fun c_119_75 => ?_) (fun c_119_75 => absurd c_119_75 (by decide))
            clear c_119_75
            refine r_iload F 7 rfl dX4_toldPart_145 ?_
            refine r_if_eq F 174 (by decide) dX4_toldPart_147 (fun c_147_76 => ?_) (fun c_147_76 => absurd c_147_76 (by decide))
            clear c_147_76
            refine r_iconst (v := 0) F (by decide) dX4_toldPart_174 ?_
            refine r_istore (lv' := [(0, .ref (g.2.1 61)), (1, .int p), (2, .int 3), (3, .int (opm B n)), (4, .int (cntN j (qFor B 1 p))), (5, .int (nI j)), (6, .int 1), (7, .int 0), (8, .int 0)]) F (by decide) rfl dX4_toldPart_175 ?_
            refine r_iload F 4 rfl dX4_toldPart_177 ?_
            refine r_iload F 8 rfl dX4_toldPart_179 ?_
            refine r_if_eq F 188 (by decide) dX4_toldPart_181 (fun c_181_77 => ?_) (fun c_181_77 => absurd c_181_77 (by decide))
            clear c_181_77
            refine r_iconst (v := 0) F (by decide) dX4_toldPart_188 ?_
            refine r_iadd F dX4_toldPart_189 ?_
            refine r_istore (lv' := [(0, .ref (g.2.1 61)), (1, .int p), (2, .int 3), (3, .int (opm B n)), (4, .int ((cntN j (qFor B 1 p)) + 0)), (5, .int (nI j)), (6, .int 1), (7, .int 0), (8, .int 0)]) F (by decide) rfl dX4_toldPart_190 ?_
            refine r_iinc (lv' := [(0, .ref (g.2.1 61)), (1, .int p), (2, .int 3), (3, .int (opm B n)), (4, .int ((cntN j (qFor B 1 p)) + 0)), (5, .int (nI (j + 1))), (6, .int 1), (7, .int 0), (8, .int 0)]) F 5 rfl (nI_inc _) (by decide) rfl dX4_toldPart_192 ?_
            refine r_goto F 60 (by decide) dX4_toldPart_195 ?_
            refine r_lv (lv2 := [(0, .ref (g.2.1 61)), (1, .int p), (2, .int 3), (3, .int (opm B n)), (4, .int ((cntN j (qFor B 1 p)) + 0)), (5, .int (nI (j + 1)))]) (by simp) ?_
            exact ih_60 (j + 1) _ _ (by omega)  (by simp [cntN, bI, qFor, c_79_57, c_97_73]) rfl
          · skip
            refine r_iconst (v := 1) F (by decide) dX4_toldPart_100 ?_
            refine r_goto F 105 (by decide) dX4_toldPart_101 ?_
            refine r_istore (lv' := [(0, .ref (g.2.1 61)), (1, .int p), (2, .int 3), (3, .int (opm B n)), (4, .int (cntN j (qFor B 1 p))), (5, .int (nI j)), (6, .int 1), (7, .int 1)]) F (by decide) rfl dX4_toldPart_105 ?_
            refine r_iload_n F 2 rfl dX4_toldPart_107 ?_
            refine r_iconst (v := 1) F (by decide) dX4_toldPart_108 ?_
            refine r_icmp_ne F 117 (by decide) dX4_toldPart_109 (fun c_109_78 => ?_) (fun c_109_78 => absurd c_109_78 (by decide))
            clear c_109_78
            refine r_iload_n F 2 rfl dX4_toldPart_117 ?_
            refine r_iconst (v := 2) F (by decide) dX4_toldPart_118 ?_
            refine r_icmp_ne F 145 (by decide) dX4_toldPart_119 (fun c_119_79 => ?_) (fun c_119_79 => absurd c_119_79 (by decide))
            clear c_119_79
            refine r_iload F 7 rfl dX4_toldPart_145 ?_
            refine r_if_eq F 174 (by decide) dX4_toldPart_147 (fun c_147_80 => absurd c_147_80 (by decide)) (fun c_147_80 => ?_)
            clear c_147_80
            refine r_aload_n F 0 rfl dX4_toldPart_150 ?_
            refine r_iload F 5 rfl dX4_toldPart_151 ?_
            refine r_iconst (v := 0) F (by decide) dX4_toldPart_153 ?_
            refine r_calli (g_V (C := RX4) (T := TX4) (N := 14) (nA := 2) (As := [.int (nI j), .int 0]) (rest := []) F 61 hL.1 (by decide) rfl (c_X4_of h hb (w := 0) (by decide)) gX4_toldPart_X4_of rfl (by decide +kernel) rfl ⟨Nat.le_of_ble_eq_true rfl, Nat.le_of_ble_eq_true rfl⟩ ⟨Nat.le_of_ble_eq_true rfl, Nat.le_of_ble_eq_true rfl⟩ rfl (Nat.le_of_ble_eq_true rfl) dX4_toldPart_154) (fun r_81 u_81 hp_81 => ?_)
            obtain ⟨rfl, rfl⟩ := hp_81
            refine r_iload_n F 2 rfl dX4_toldPart_157 ?_
            refine r_iconst (v := 3) F (by decide) dX4_toldPart_158 ?_
            refine r_icmp_ne F 166 (by decide) dX4_toldPart_159 (fun c_159_82 => absurd c_159_82 (by decide)) (fun c_159_82 => ?_)
            clear c_159_82
            refine r_iconst (v := 1) F (by decide) dX4_toldPart_162 ?_
            refine r_goto F 167 (by decide) dX4_toldPart_163 ?_
            refine r_icmp_ne F 174 (by decide) dX4_toldPart_167 (fun c_167_83 => ?_) (fun c_167_83 => ?_)
            · skip
              refine r_iconst (v := 0) F (by decide) dX4_toldPart_174 ?_
              refine r_istore (lv' := [(0, .ref (g.2.1 61)), (1, .int p), (2, .int 3), (3, .int (opm B n)), (4, .int (cntN j (qFor B 1 p))), (5, .int (nI j)), (6, .int 1), (7, .int 1), (8, .int 0)]) F (by decide) rfl dX4_toldPart_175 ?_
              refine r_iload F 4 rfl dX4_toldPart_177 ?_
              refine r_iload F 8 rfl dX4_toldPart_179 ?_
              refine r_if_eq F 188 (by decide) dX4_toldPart_181 (fun c_181_84 => ?_) (fun c_181_84 => absurd c_181_84 (by decide))
              clear c_181_84
              refine r_iconst (v := 0) F (by decide) dX4_toldPart_188 ?_
              refine r_iadd F dX4_toldPart_189 ?_
              refine r_istore (lv' := [(0, .ref (g.2.1 61)), (1, .int p), (2, .int 3), (3, .int (opm B n)), (4, .int ((cntN j (qFor B 1 p)) + 0)), (5, .int (nI j)), (6, .int 1), (7, .int 1), (8, .int 0)]) F (by decide) rfl dX4_toldPart_190 ?_
              refine r_iinc (lv' := [(0, .ref (g.2.1 61)), (1, .int p), (2, .int 3), (3, .int (opm B n)), (4, .int ((cntN j (qFor B 1 p)) + 0)), (5, .int (nI (j + 1))), (6, .int 1), (7, .int 1), (8, .int 0)]) F 5 rfl (nI_inc _) (by decide) rfl dX4_toldPart_192 ?_
              refine r_goto F 60 (by decide) dX4_toldPart_195 ?_
              refine r_lv (lv2 := [(0, .ref (g.2.1 61)), (1, .int p), (2, .int 3), (3, .int (opm B n)), (4, .int ((cntN j (qFor B 1 p)) + 0)), (5, .int (nI (j + 1)))]) (by simp) ?_
              exact ih_60 (j + 1) _ _ (by omega)  (by simp [cntN, bI, qFor, c_79_57, c_97_73, c_167_83]) rfl
            · skip
              refine r_iconst (v := 1) F (by decide) dX4_toldPart_170 ?_
              refine r_goto F 175 (by decide) dX4_toldPart_171 ?_
              refine r_istore (lv' := [(0, .ref (g.2.1 61)), (1, .int p), (2, .int 3), (3, .int (opm B n)), (4, .int (cntN j (qFor B 1 p))), (5, .int (nI j)), (6, .int 1), (7, .int 1), (8, .int 1)]) F (by decide) rfl dX4_toldPart_175 ?_
              refine r_iload F 4 rfl dX4_toldPart_177 ?_
              refine r_iload F 8 rfl dX4_toldPart_179 ?_
              refine r_if_eq F 188 (by decide) dX4_toldPart_181 (fun c_181_85 => absurd c_181_85 (by decide)) (fun c_181_85 => ?_)
              clear c_181_85
              refine r_iconst (v := 1) F (by decide) dX4_toldPart_184 ?_
              refine r_goto F 189 (by decide) dX4_toldPart_185 ?_
              refine r_iadd F dX4_toldPart_189 ?_
              refine r_istore (lv' := [(0, .ref (g.2.1 61)), (1, .int p), (2, .int 3), (3, .int (opm B n)), (4, .int ((cntN j (qFor B 1 p)) + 1)), (5, .int (nI j)), (6, .int 1), (7, .int 1), (8, .int 1)]) F (by decide) rfl dX4_toldPart_190 ?_
              refine r_iinc (lv' := [(0, .ref (g.2.1 61)), (1, .int p), (2, .int 3), (3, .int (opm B n)), (4, .int ((cntN j (qFor B 1 p)) + 1)), (5, .int (nI (j + 1))), (6, .int 1), (7, .int 1), (8, .int 1)]) F 5 rfl (nI_inc _) (by decide) rfl dX4_toldPart_192 ?_
              refine r_goto F 60 (by decide) dX4_toldPart_195 ?_
              refine r_lv (lv2 := [(0, .ref (g.2.1 61)), (1, .int p), (2, .int 3), (3, .int (opm B n)), (4, .int ((cntN j (qFor B 1 p)) + 1)), (5, .int (nI (j + 1)))]) (by simp) ?_
              exact ih_60 (j + 1) _ _ (by omega)  (by simp [cntN, bI, qFor, c_79_57, c_97_73, c_167_83]) rfl
    exact loop_60 n 0 _ _ (by omega)  rfl rfl
  · skip
    refine r_aload_n F 0 rfl dX4_toldPart_0 ?_
    refine r_calli (g_V (C := RX4) (T := TX4) (N := 14) (nA := 0) (As := []) (rest := []) F 61 hL.1 (by decide) rfl (c_X4_open h ) gX4_toldPart_X4_open rfl (by decide +kernel) rfl ⟨Nat.le_of_ble_eq_true rfl, Nat.le_of_ble_eq_true rfl⟩ ⟨Nat.le_of_ble_eq_true rfl, Nat.le_of_ble_eq_true rfl⟩ rfl (Nat.le_of_ble_eq_true rfl) dX4_toldPart_1) (fun r_86 u_86 hp_86 => ?_)
    obtain ⟨rfl, rfl⟩ := hp_86
    refine r_istore_n (lv' := [(0, .ref (g.2.1 61)), (1, .int p), (2, .int 4), (3, .int (opm B n))]) F (by decide) rfl dX4_toldPart_4 ?_
    refine r_iconst (v := 0) F (by decide) dX4_toldPart_5 ?_
    refine r_istore (lv' := [(0, .ref (g.2.1 61)), (1, .int p), (2, .int 4), (3, .int (opm B n)), (4, .int 0)]) F (by decide) rfl dX4_toldPart_6 ?_
    refine r_iload_n F 2 rfl dX4_toldPart_8 ?_
    refine r_lookup (dflt := 48) (ps := #[(0, 27), (5, 33)]) (off := 48) F 57 (by decide) (by decide) (by decide) dX4_toldPart_9 ?_
    refine r_iconst (v := 0) F (by decide) dX4_toldPart_57 ?_
    refine r_istore (lv' := [(0, .ref (g.2.1 61)), (1, .int p), (2, .int 4), (3, .int (opm B n)), (4, .int 0), (5, .int 0)]) F (by decide) rfl dX4_toldPart_58 ?_
    have loop_60 : ∀ (k : Nat) (j : Nat) (x4_60 : Int32) (x5_60 : Int32), j + k = n → x4_60 = cntN j (qFor B 2 p) → x5_60 = nI j → VL g X 0 0 u 60 [(0, .ref (g.2.1 61)), (1, .int p), (2, .int 4), (3, .int (opm B n)), (4, .int x4_60), (5, .int x5_60)] [] := by
      intro k
      induction k with
      | zero =>
        rintro j x4_60 x5_60 hk rfl rfl
        have hjn : n = j := by omega
        subst hjn
        refine r_iload F 5 rfl dX4_toldPart_60 ?_
        refine r_aload_n F 0 rfl dX4_toldPart_62 ?_
        refine r_get (C := RX4) (T := TX4) (N := 14) F 61 hL.1 (by decide) hinX4 rfl 1 (by decide) (by decide +kernel) rfl dX4_toldPart_63 ?_
        refine r_iconst (v := 0) F (by decide) dX4_toldPart_66 ?_
        refine r_iald F 62 hL.2.1 (by decide) (vp_in_nI (n := 0) (by decide) (by decide)) dX4_toldPart_67 ?_
        refine r_eq (st2 := [.int (nI n), .int (nI n)]) (by rw [show Z (0 : Int32).toNatClampNeg = nI n from hZ.1]) rfl ?_
        refine r_icmp_ge F 198 (by decide) dX4_toldPart_68 (fun c_68_88 => ?_) (fun c_68_88 => absurd (Int32.le_refl _) c_68_88)
        clear c_68_88
        refine r_iload F 4 rfl dX4_toldPart_198 ?_
        exact hret _ _ _ _ _ _ (Nat.le_of_ble_eq_true rfl) (Nat.le_of_ble_eq_true rfl) ⟨by rfl, rfl⟩ dX4_toldPart_200
      | succ k ih_60 =>
        rintro j x4_60 x5_60 hk rfl rfl
        have hb : j < n := by omega
        refine r_iload F 5 rfl dX4_toldPart_60 ?_
        refine r_aload_n F 0 rfl dX4_toldPart_62 ?_
        refine r_get (C := RX4) (T := TX4) (N := 14) F 61 hL.1 (by decide) hinX4 rfl 1 (by decide) (by decide +kernel) rfl dX4_toldPart_63 ?_
        refine r_iconst (v := 0) F (by decide) dX4_toldPart_66 ?_
        refine r_iald F 62 hL.2.1 (by decide) (vp_in_nI (n := 0) (by decide) (by decide)) dX4_toldPart_67 ?_
        refine r_eq (st2 := [.int (nI n), .int (nI j)]) (by rw [show Z (0 : Int32).toNatClampNeg = nI n from hZ.1]) rfl ?_
        refine r_icmp_ge F 198 (by decide) dX4_toldPart_68 (fun c_68_89 => absurd c_68_89 (nI_ge (b := n) hb (by have := hn16; omega))) (fun c_68_89 => ?_)
        clear c_68_89
        refine r_aload_n F 0 rfl dX4_toldPart_71 ?_
        refine r_iload F 5 rfl dX4_toldPart_72 ?_
        refine r_iconst (v := 1) F (by decide) dX4_toldPart_74 ?_
        refine r_calli (g_V (C := RX4) (T := TX4) (N := 14) (nA := 2) (As := [.int (nI j), .int 1]) (rest := []) F 61 hL.1 (by decide) rfl (c_X4_of h hb (w := 1) (by decide)) gX4_toldPart_X4_of rfl (by decide +kernel) rfl ⟨Nat.le_of_ble_eq_true rfl, Nat.le_of_ble_eq_true rfl⟩ ⟨Nat.le_of_ble_eq_true rfl, Nat.le_of_ble_eq_true rfl⟩ rfl (Nat.le_of_ble_eq_true rfl) dX4_toldPart_75) (fun r_90 u_90 hp_90 => ?_)
        obtain ⟨rfl, rfl⟩ := hp_90
        refine r_iload_n F 1 rfl dX4_toldPart_78 ?_
        refine r_icmp_ne F 86 (by decide) dX4_toldPart_79 (fun c_79_91 => ?_) (fun c_79_91 => ?_)
        · skip
          refine r_iconst (v := 0) F (by decide) dX4_toldPart_86 ?_
          refine r_istore (lv' := [(0, .ref (g.2.1 61)), (1, .int p), (2, .int 4), (3, .int (opm B n)), (4, .int (cntN j (qFor B 2 p))), (5, .int (nI j)), (6, .int 0)]) F (by decide) rfl dX4_toldPart_87 ?_
          refine r_aload_n F 0 rfl dX4_toldPart_89 ?_
          refine r_iload F 5 rfl dX4_toldPart_90 ?_
          refine r_iconst (v := 2) F (by decide) dX4_toldPart_92 ?_
          refine r_calli (g_V (C := RX4) (T := TX4) (N := 14) (nA := 2) (As := [.int (nI j), .int 2]) (rest := []) F 61 hL.1 (by decide) rfl (c_X4_of h hb (w := 2) (by decide)) gX4_toldPart_X4_of rfl (by decide +kernel) rfl ⟨Nat.le_of_ble_eq_true rfl, Nat.le_of_ble_eq_true rfl⟩ ⟨Nat.le_of_ble_eq_true rfl, Nat.le_of_ble_eq_true rfl⟩ rfl (Nat.le_of_ble_eq_true rfl) dX4_toldPart_93) (fun r_92 u_92 hp_92 => ?_)
          obtain ⟨rfl, rfl⟩ := hp_92
          refine r_iload_n F 1 rfl dX4_toldPart_96 ?_
          refine r_icmp_ne F 104 (by decide) dX4_toldPart_97 (fun c_97_93 => ?_) (fun c_97_93 => ?_)
          · skip
            refine r_iconst (v := 0) F (by decide) dX4_toldPart_104 ?_
            refine r_istore (lv' := [(0, .ref (g.2.1 61)), (1, .int p), (2, .int 4), (3, .int (opm B n)), (4, .int (cntN j (qFor B 2 p))), (5, .int (nI j)), (6, .int 0), (7, .int 0)]) F (by decide) rfl dX4_toldPart_105 ?_
            refine r_iload_n F 2 rfl dX4_toldPart_107 ?_
            refine r_iconst (v := 1) F (by decide) dX4_toldPart_108 ?_
            refine r_icmp_ne F 117 (by decide) dX4_toldPart_109 (fun c_109_94 => ?_) (fun c_109_94 => absurd c_109_94 (by decide))
            clear c_109_94
            refine r_iload_n F 2 rfl dX4_toldPart_117 ?_
            refine r_iconst (v := 2) F (by decide) dX4_toldPart_118 ?_
            refine r_icmp_ne F 145 (by decide) dX4_toldPart_119 (fun c_119_95 => ?_) (fun c_119_95 => absurd c_119_95 (by decide))
            clear c_119_95
            refine r_iload F 7 rfl dX4_toldPart_145 ?_
            refine r_if_eq F 174 (by decide) dX4_toldPart_147 (fun c_147_96 => ?_) (fun c_147_96 => absurd c_147_96 (by decide))
            clear c_147_96
            refine r_iconst (v := 0) F (by decide) dX4_toldPart_174 ?_
            refine r_istore (lv' := [(0, .ref (g.2.1 61)), (1, .int p), (2, .int 4), (3, .int (opm B n)), (4, .int (cntN j (qFor B 2 p))), (5, .int (nI j)), (6, .int 0), (7, .int 0), (8, .int 0)]) F (by decide) rfl dX4_toldPart_175 ?_
            refine r_iload F 4 rfl dX4_toldPart_177 ?_
            refine r_iload F 8 rfl dX4_toldPart_179 ?_
            refine r_if_eq F 188 (by decide) dX4_toldPart_181 (fun c_181_97 => ?_) (fun c_181_97 => absurd c_181_97 (by decide))
            clear c_181_97
            refine r_iconst (v := 0) F (by decide) dX4_toldPart_188 ?_
            refine r_iadd F dX4_toldPart_189 ?_
            refine r_istore (lv' := [(0, .ref (g.2.1 61)), (1, .int p), (2, .int 4), (3, .int (opm B n)), (4, .int ((cntN j (qFor B 2 p)) + 0)), (5, .int (nI j)), (6, .int 0), (7, .int 0), (8, .int 0)]) F (by decide) rfl dX4_toldPart_190 ?_
            refine r_iinc (lv' := [(0, .ref (g.2.1 61)), (1, .int p), (2, .int 4), (3, .int (opm B n)), (4, .int ((cntN j (qFor B 2 p)) + 0)), (5, .int (nI (j + 1))), (6, .int 0), (7, .int 0), (8, .int 0)]) F 5 rfl (nI_inc _) (by decide) rfl dX4_toldPart_192 ?_
            refine r_goto F 60 (by decide) dX4_toldPart_195 ?_
            refine r_lv (lv2 := [(0, .ref (g.2.1 61)), (1, .int p), (2, .int 4), (3, .int (opm B n)), (4, .int ((cntN j (qFor B 2 p)) + 0)), (5, .int (nI (j + 1)))]) (by simp) ?_
            exact ih_60 (j + 1) _ _ (by omega)  (by simp [cntN, bI, qFor, c_79_91, c_97_93]) rfl
          · skip
            refine r_iconst (v := 1) F (by decide) dX4_toldPart_100 ?_
            refine r_goto F 105 (by decide) dX4_toldPart_101 ?_
            refine r_istore (lv' := [(0, .ref (g.2.1 61)), (1, .int p), (2, .int 4), (3, .int (opm B n)), (4, .int (cntN j (qFor B 2 p))), (5, .int (nI j)), (6, .int 0), (7, .int 1)]) F (by decide) rfl dX4_toldPart_105 ?_
            refine r_iload_n F 2 rfl dX4_toldPart_107 ?_
            refine r_iconst (v := 1) F (by decide) dX4_toldPart_108 ?_
            refine r_icmp_ne F 117 (by decide) dX4_toldPart_109 (fun c_109_98 => ?_) (fun c_109_98 => absurd c_109_98 (by decide))
            clear c_109_98
            refine r_iload_n F 2 rfl dX4_toldPart_117 ?_
            refine r_iconst (v := 2) F (by decide) dX4_toldPart_118 ?_
            refine r_icmp_ne F 145 (by decide) dX4_toldPart_119 (fun c_119_99 => ?_) (fun c_119_99 => absurd c_119_99 (by decide))
            clear c_119_99
            refine r_iload F 7 rfl dX4_toldPart_145 ?_
            refine r_if_eq F 174 (by decide) dX4_toldPart_147 (fun c_147_100 => absurd c_147_100 (by decide)) (fun c_147_100 => ?_)
            clear c_147_100
            refine r_aload_n F 0 rfl dX4_toldPart_150 ?_
            refine r_iload F 5 rfl dX4_toldPart_151 ?_
            refine r_iconst (v := 0) F (by decide) dX4_toldPart_153 ?_
            refine r_calli (g_V (C := RX4) (T := TX4) (N := 14) (nA := 2) (As := [.int (nI j), .int 0]) (rest := []) F 61 hL.1 (by decide) rfl (c_X4_of h hb (w := 0) (by decide)) gX4_toldPart_X4_of rfl (by decide +kernel) rfl ⟨Nat.le_of_ble_eq_true rfl, Nat.le_of_ble_eq_true rfl⟩ ⟨Nat.le_of_ble_eq_true rfl, Nat.le_of_ble_eq_true rfl⟩ rfl (Nat.le_of_ble_eq_true rfl) dX4_toldPart_154) (fun r_101 u_101 hp_101 => ?_)
            obtain ⟨rfl, rfl⟩ := hp_101
            refine r_iload_n F 2 rfl dX4_toldPart_157 ?_
            refine r_iconst (v := 3) F (by decide) dX4_toldPart_158 ?_
            refine r_icmp_ne F 166 (by decide) dX4_toldPart_159 (fun c_159_102 => ?_) (fun c_159_102 => absurd c_159_102 (by decide))
            clear c_159_102
            refine r_iconst (v := 2) F (by decide) dX4_toldPart_166 ?_
            refine r_icmp_ne F 174 (by decide) dX4_toldPart_167 (fun c_167_103 => ?_) (fun c_167_103 => ?_)
            · skip
              refine r_iconst (v := 0) F (by decide) dX4_toldPart_174 ?_
              refine r_istore (lv' := [(0, .ref (g.2.1 61)), (1, .int p), (2, .int 4), (3, .int (opm B n)), (4, .int (cntN j (qFor B 2 p))), (5, .int (nI j)), (6, .int 0), (7, .int 1), (8, .int 0)]) F (by decide) rfl dX4_toldPart_175 ?_
              refine r_iload F 4 rfl dX4_toldPart_177 ?_
              refine r_iload F 8 rfl dX4_toldPart_179 ?_
              refine r_if_eq F 188 (by decide) dX4_toldPart_181 (fun c_181_104 => ?_) (fun c_181_104 => absurd c_181_104 (by decide))
              clear c_181_104
              refine r_iconst (v := 0) F (by decide) dX4_toldPart_188 ?_
              refine r_iadd F dX4_toldPart_189 ?_
              refine r_istore (lv' := [(0, .ref (g.2.1 61)), (1, .int p), (2, .int 4), (3, .int (opm B n)), (4, .int ((cntN j (qFor B 2 p)) + 0)), (5, .int (nI j)), (6, .int 0), (7, .int 1), (8, .int 0)]) F (by decide) rfl dX4_toldPart_190 ?_
              refine r_iinc (lv' := [(0, .ref (g.2.1 61)), (1, .int p), (2, .int 4), (3, .int (opm B n)), (4, .int ((cntN j (qFor B 2 p)) + 0)), (5, .int (nI (j + 1))), (6, .int 0), (7, .int 1), (8, .int 0)]) F 5 rfl (nI_inc _) (by decide) rfl dX4_toldPart_192 ?_
              refine r_goto F 60 (by decide) dX4_toldPart_195 ?_
              refine r_lv (lv2 := [(0, .ref (g.2.1 61)), (1, .int p), (2, .int 4), (3, .int (opm B n)), (4, .int ((cntN j (qFor B 2 p)) + 0)), (5, .int (nI (j + 1)))]) (by simp) ?_
              exact ih_60 (j + 1) _ _ (by omega)  (by simp [cntN, bI, qFor, c_79_91, c_97_93, c_167_103]) rfl
            · skip
              refine r_iconst (v := 1) F (by decide) dX4_toldPart_170 ?_
              refine r_goto F 175 (by decide) dX4_toldPart_171 ?_
              refine r_istore (lv' := [(0, .ref (g.2.1 61)), (1, .int p), (2, .int 4), (3, .int (opm B n)), (4, .int (cntN j (qFor B 2 p))), (5, .int (nI j)), (6, .int 0), (7, .int 1), (8, .int 1)]) F (by decide) rfl dX4_toldPart_175 ?_
              refine r_iload F 4 rfl dX4_toldPart_177 ?_
              refine r_iload F 8 rfl dX4_toldPart_179 ?_
              refine r_if_eq F 188 (by decide) dX4_toldPart_181 (fun c_181_105 => absurd c_181_105 (by decide)) (fun c_181_105 => ?_)
              clear c_181_105
              refine r_iconst (v := 1) F (by decide) dX4_toldPart_184 ?_
              refine r_goto F 189 (by decide) dX4_toldPart_185 ?_
              refine r_iadd F dX4_toldPart_189 ?_
              refine r_istore (lv' := [(0, .ref (g.2.1 61)), (1, .int p), (2, .int 4), (3, .int (opm B n)), (4, .int ((cntN j (qFor B 2 p)) + 1)), (5, .int (nI j)), (6, .int 0), (7, .int 1), (8, .int 1)]) F (by decide) rfl dX4_toldPart_190 ?_
              refine r_iinc (lv' := [(0, .ref (g.2.1 61)), (1, .int p), (2, .int 4), (3, .int (opm B n)), (4, .int ((cntN j (qFor B 2 p)) + 1)), (5, .int (nI (j + 1))), (6, .int 0), (7, .int 1), (8, .int 1)]) F 5 rfl (nI_inc _) (by decide) rfl dX4_toldPart_192 ?_
              refine r_goto F 60 (by decide) dX4_toldPart_195 ?_
              refine r_lv (lv2 := [(0, .ref (g.2.1 61)), (1, .int p), (2, .int 4), (3, .int (opm B n)), (4, .int ((cntN j (qFor B 2 p)) + 1)), (5, .int (nI (j + 1)))]) (by simp) ?_
              exact ih_60 (j + 1) _ _ (by omega)  (by simp [cntN, bI, qFor, c_79_91, c_97_93, c_167_103]) rfl
        · skip
          refine r_iconst (v := 1) F (by decide) dX4_toldPart_82 ?_
          refine r_goto F 87 (by decide) dX4_toldPart_83 ?_
          refine r_istore (lv' := [(0, .ref (g.2.1 61)), (1, .int p), (2, .int 4), (3, .int (opm B n)), (4, .int (cntN j (qFor B 2 p))), (5, .int (nI j)), (6, .int 1)]) F (by decide) rfl dX4_toldPart_87 ?_
          refine r_aload_n F 0 rfl dX4_toldPart_89 ?_
          refine r_iload F 5 rfl dX4_toldPart_90 ?_
          refine r_iconst (v := 2) F (by decide) dX4_toldPart_92 ?_
          refine r_calli (g_V (C := RX4) (T := TX4) (N := 14) (nA := 2) (As := [.int (nI j), .int 2]) (rest := []) F 61 hL.1 (by decide) rfl (c_X4_of h hb (w := 2) (by decide)) gX4_toldPart_X4_of rfl (by decide +kernel) rfl ⟨Nat.le_of_ble_eq_true rfl, Nat.le_of_ble_eq_true rfl⟩ ⟨Nat.le_of_ble_eq_true rfl, Nat.le_of_ble_eq_true rfl⟩ rfl (Nat.le_of_ble_eq_true rfl) dX4_toldPart_93) (fun r_106 u_106 hp_106 => ?_)
          obtain ⟨rfl, rfl⟩ := hp_106
          refine r_iload_n F 1 rfl dX4_toldPart_96 ?_
          refine r_icmp_ne F 104 (by decide) dX4_toldPart_97 (fun c_97_107 => ?_) (fun c_97_107 => ?_)
          · skip
            refine r_iconst (v := 0) F (by decide) dX4_toldPart_104 ?_
            refine r_istore (lv' := [(0, .ref (g.2.1 61)), (1, .int p), (2, .int 4), (3, .int (opm B n)), (4, .int (cntN j (qFor B 2 p))), (5, .int (nI j)), (6, .int 1), (7, .int 0)]) F (by decide) rfl dX4_toldPart_105 ?_
            refine r_iload_n F 2 rfl dX4_toldPart_107 ?_
            refine r_iconst (v := 1) F (by decide) dX4_toldPart_108 ?_
            refine r_icmp_ne F 117 (by decide) dX4_toldPart_109 (fun c_109_108 => ?_) (fun c_109_108 => absurd c_109_108 (by decide))
            clear c_109_108
            refine r_iload_n F 2 rfl dX4_toldPart_117 ?_
            refine r_iconst (v := 2) F (by decide) dX4_toldPart_118 ?_
            refine r_icmp_ne F 145 (by decide) dX4_toldPart_119 (fun c_119_109 => ?_) (fun c_119_109 => absurd c_119_109 (by decide))
            clear c_119_109
            refine r_iload F 7 rfl dX4_toldPart_145 ?_
            refine r_if_eq F 174 (by decide) dX4_toldPart_147 (fun c_147_110 => ?_) (fun c_147_110 => absurd c_147_110 (by decide))
            clear c_147_110
            refine r_iconst (v := 0) F (by decide) dX4_toldPart_174 ?_
            refine r_istore (lv' := [(0, .ref (g.2.1 61)), (1, .int p), (2, .int 4), (3, .int (opm B n)), (4, .int (cntN j (qFor B 2 p))), (5, .int (nI j)), (6, .int 1), (7, .int 0), (8, .int 0)]) F (by decide) rfl dX4_toldPart_175 ?_
            refine r_iload F 4 rfl dX4_toldPart_177 ?_
            refine r_iload F 8 rfl dX4_toldPart_179 ?_
            refine r_if_eq F 188 (by decide) dX4_toldPart_181 (fun c_181_111 => ?_) (fun c_181_111 => absurd c_181_111 (by decide))
            clear c_181_111
            refine r_iconst (v := 0) F (by decide) dX4_toldPart_188 ?_
            refine r_iadd F dX4_toldPart_189 ?_
            refine r_istore (lv' := [(0, .ref (g.2.1 61)), (1, .int p), (2, .int 4), (3, .int (opm B n)), (4, .int ((cntN j (qFor B 2 p)) + 0)), (5, .int (nI j)), (6, .int 1), (7, .int 0), (8, .int 0)]) F (by decide) rfl dX4_toldPart_190 ?_
            refine r_iinc (lv' := [(0, .ref (g.2.1 61)), (1, .int p), (2, .int 4), (3, .int (opm B n)), (4, .int ((cntN j (qFor B 2 p)) + 0)), (5, .int (nI (j + 1))), (6, .int 1), (7, .int 0), (8, .int 0)]) F 5 rfl (nI_inc _) (by decide) rfl dX4_toldPart_192 ?_
            refine r_goto F 60 (by decide) dX4_toldPart_195 ?_
            refine r_lv (lv2 := [(0, .ref (g.2.1 61)), (1, .int p), (2, .int 4), (3, .int (opm B n)), (4, .int ((cntN j (qFor B 2 p)) + 0)), (5, .int (nI (j + 1)))]) (by simp) ?_
            exact ih_60 (j + 1) _ _ (by omega)  (by simp [cntN, bI, qFor, c_79_91, c_97_107]) rfl
          · skip
            refine r_iconst (v := 1) F (by decide) dX4_toldPart_100 ?_
            refine r_goto F 105 (by decide) dX4_toldPart_101 ?_
            refine r_istore (lv' := [(0, .ref (g.2.1 61)), (1, .int p), (2, .int 4), (3, .int (opm B n)), (4, .int (cntN j (qFor B 2 p))), (5, .int (nI j)), (6, .int 1), (7, .int 1)]) F (by decide) rfl dX4_toldPart_105 ?_
            refine r_iload_n F 2 rfl dX4_toldPart_107 ?_
            refine r_iconst (v := 1) F (by decide) dX4_toldPart_108 ?_
            refine r_icmp_ne F 117 (by decide) dX4_toldPart_109 (fun c_109_112 => ?_) (fun c_109_112 => absurd c_109_112 (by decide))
            clear c_109_112
            refine r_iload_n F 2 rfl dX4_toldPart_117 ?_
            refine r_iconst (v := 2) F (by decide) dX4_toldPart_118 ?_
            refine r_icmp_ne F 145 (by decide) dX4_toldPart_119 (fun c_119_113 => ?_) (fun c_119_113 => absurd c_119_113 (by decide))
            clear c_119_113
            refine r_iload F 7 rfl dX4_toldPart_145 ?_
            refine r_if_eq F 174 (by decide) dX4_toldPart_147 (fun c_147_114 => absurd c_147_114 (by decide)) (fun c_147_114 => ?_)
            clear c_147_114
            refine r_aload_n F 0 rfl dX4_toldPart_150 ?_
            refine r_iload F 5 rfl dX4_toldPart_151 ?_
            refine r_iconst (v := 0) F (by decide) dX4_toldPart_153 ?_
            refine r_calli (g_V (C := RX4) (T := TX4) (N := 14) (nA := 2) (As := [.int (nI j), .int 0]) (rest := []) F 61 hL.1 (by decide) rfl (c_X4_of h hb (w := 0) (by decide)) gX4_toldPart_X4_of rfl (by decide +kernel) rfl ⟨Nat.le_of_ble_eq_true rfl, Nat.le_of_ble_eq_true rfl⟩ ⟨Nat.le_of_ble_eq_true rfl, Nat.le_of_ble_eq_true rfl⟩ rfl (Nat.le_of_ble_eq_true rfl) dX4_toldPart_154) (fun r_115 u_115 hp_115 => ?_)
            obtain ⟨rfl, rfl⟩ := hp_115
            refine r_iload_n F 2 rfl dX4_toldPart_157 ?_
            refine r_iconst (v := 3) F (by decide) dX4_toldPart_158 ?_
            refine r_icmp_ne F 166 (by decide) dX4_toldPart_159 (fun c_159_116 => ?_) (fun c_159_116 => absurd c_159_116 (by decide))
            clear c_159_116
            refine r_iconst (v := 2) F (by decide) dX4_toldPart_166 ?_
            refine r_icmp_ne F 174 (by decide) dX4_toldPart_167 (fun c_167_117 => ?_) (fun c_167_117 => ?_)
            · skip
              refine r_iconst (v := 0) F (by decide) dX4_toldPart_174 ?_
              refine r_istore (lv' := [(0, .ref (g.2.1 61)), (1, .int p), (2, .int 4), (3, .int (opm B n)), (4, .int (cntN j (qFor B 2 p))), (5, .int (nI j)), (6, .int 1), (7, .int 1), (8, .int 0)]) F (by decide) rfl dX4_toldPart_175 ?_
              refine r_iload F 4 rfl dX4_toldPart_177 ?_
              refine r_iload F 8 rfl dX4_toldPart_179 ?_
              refine r_if_eq F 188 (by decide) dX4_toldPart_181 (fun c_181_118 => ?_) (fun c_181_118 => absurd c_181_118 (by decide))
              clear c_181_118
              refine r_iconst (v := 0) F (by decide) dX4_toldPart_188 ?_
              refine r_iadd F dX4_toldPart_189 ?_
              refine r_istore (lv' := [(0, .ref (g.2.1 61)), (1, .int p), (2, .int 4), (3, .int (opm B n)), (4, .int ((cntN j (qFor B 2 p)) + 0)), (5, .int (nI j)), (6, .int 1), (7, .int 1), (8, .int 0)]) F (by decide) rfl dX4_toldPart_190 ?_
              refine r_iinc (lv' := [(0, .ref (g.2.1 61)), (1, .int p), (2, .int 4), (3, .int (opm B n)), (4, .int ((cntN j (qFor B 2 p)) + 0)), (5, .int (nI (j + 1))), (6, .int 1), (7, .int 1), (8, .int 0)]) F 5 rfl (nI_inc _) (by decide) rfl dX4_toldPart_192 ?_
              refine r_goto F 60 (by decide) dX4_toldPart_195 ?_
              refine r_lv (lv2 := [(0, .ref (g.2.1 61)), (1, .int p), (2, .int 4), (3, .int (opm B n)), (4, .int ((cntN j (qFor B 2 p)) + 0)), (5, .int (nI (j + 1)))]) (by simp) ?_
              exact ih_60 (j + 1) _ _ (by omega)  (by simp [cntN, bI, qFor, c_79_91, c_97_107, c_167_117]) rfl
            · skip
              refine r_iconst (v := 1) F (by decide) dX4_toldPart_170 ?_
              refine r_goto F 175 (by decide) dX4_toldPart_171 ?_
              refine r_istore (lv' := [(0, .ref (g.2.1 61)), (1, .int p), (2, .int 4), (3, .int (opm B n)), (4, .int (cntN j (qFor B 2 p))), (5, .int (nI j)), (6, .int 1), (7, .int 1), (8, .int 1)]) F (by decide) rfl dX4_toldPart_175 ?_
              refine r_iload F 4 rfl dX4_toldPart_177 ?_
              refine r_iload F 8 rfl dX4_toldPart_179 ?_
              refine r_if_eq F 188 (by decide) dX4_toldPart_181 (fun c_181_119 => absurd c_181_119 (by decide)) (fun c_181_119 => ?_)
              clear c_181_119
              refine r_iconst (v := 1) F (by decide) dX4_toldPart_184 ?_
              refine r_goto F 189 (by decide) dX4_toldPart_185 ?_
              refine r_iadd F dX4_toldPart_189 ?_
              refine r_istore (lv' := [(0, .ref (g.2.1 61)), (1, .int p), (2, .int 4), (3, .int (opm B n)), (4, .int ((cntN j (qFor B 2 p)) + 1)), (5, .int (nI j)), (6, .int 1), (7, .int 1), (8, .int 1)]) F (by decide) rfl dX4_toldPart_190 ?_
              refine r_iinc (lv' := [(0, .ref (g.2.1 61)), (1, .int p), (2, .int 4), (3, .int (opm B n)), (4, .int ((cntN j (qFor B 2 p)) + 1)), (5, .int (nI (j + 1))), (6, .int 1), (7, .int 1), (8, .int 1)]) F 5 rfl (nI_inc _) (by decide) rfl dX4_toldPart_192 ?_
              refine r_goto F 60 (by decide) dX4_toldPart_195 ?_
              refine r_lv (lv2 := [(0, .ref (g.2.1 61)), (1, .int p), (2, .int 4), (3, .int (opm B n)), (4, .int ((cntN j (qFor B 2 p)) + 1)), (5, .int (nI (j + 1)))]) (by simp) ?_
              exact ih_60 (j + 1) _ _ (by omega)  (by simp [cntN, bI, qFor, c_79_91, c_97_107, c_167_117]) rfl
    exact loop_60 n 0 _ _ (by omega)  rfl rfl
  · skip
    refine r_aload_n F 0 rfl dX4_toldPart_0 ?_
    refine r_calli (g_V (C := RX4) (T := TX4) (N := 14) (nA := 0) (As := []) (rest := []) F 61 hL.1 (by decide) rfl (c_X4_open h ) gX4_toldPart_X4_open rfl (by decide +kernel) rfl ⟨Nat.le_of_ble_eq_true rfl, Nat.le_of_ble_eq_true rfl⟩ ⟨Nat.le_of_ble_eq_true rfl, Nat.le_of_ble_eq_true rfl⟩ rfl (Nat.le_of_ble_eq_true rfl) dX4_toldPart_1) (fun r_120 u_120 hp_120 => ?_)
    obtain ⟨rfl, rfl⟩ := hp_120
    refine r_istore_n (lv' := [(0, .ref (g.2.1 61)), (1, .int p), (2, .int 5), (3, .int (opm B n))]) F (by decide) rfl dX4_toldPart_4 ?_
    refine r_iconst (v := 0) F (by decide) dX4_toldPart_5 ?_
    refine r_istore (lv' := [(0, .ref (g.2.1 61)), (1, .int p), (2, .int 5), (3, .int (opm B n)), (4, .int 0)]) F (by decide) rfl dX4_toldPart_6 ?_
    refine r_iload_n F 2 rfl dX4_toldPart_8 ?_
    refine r_lookup (dflt := 48) (ps := #[(0, 27), (5, 33)]) (off := 33) F 42 (by decide) (by decide) (by decide) dX4_toldPart_9 ?_
    refine r_aload_n F 0 rfl dX4_toldPart_42 ?_
    refine r_iload_n F 1 rfl dX4_toldPart_43 ?_
    refine r_iload_n F 3 rfl dX4_toldPart_44 ?_
    refine r_calli (g_V (C := RX4) (T := TX4) (N := 14) (nA := 2) (As := [.int p, .int (opm B n)]) (rest := []) F 61 hL.1 (by decide) rfl (c_X4_isClosed h ) gX4_toldPart_X4_isClosed rfl (by decide +kernel) rfl ⟨Nat.le_of_ble_eq_true rfl, Nat.le_of_ble_eq_true rfl⟩ ⟨Nat.le_of_ble_eq_true rfl, Nat.le_of_ble_eq_true rfl⟩ rfl (Nat.le_of_ble_eq_true rfl) dX4_toldPart_45) (fun r_121 u_121 hp_121 => ?_)
    obtain ⟨rfl, rfl⟩ := hp_121
    refine r_if_eq F 55 (by decide) dX4_toldPart_48 (fun c_48_122 => ?_) (fun c_48_122 => ?_)
    · skip
      replace c_48_122 := bI0 c_48_122
      refine r_iconst (v := 0) F (by decide) dX4_toldPart_55 ?_
      exact hret _ _ _ _ _ _ (Nat.le_of_ble_eq_true rfl) (Nat.le_of_ble_eq_true rfl) ⟨by show _ = bI _; simp [bI, c_48_122], rfl⟩ dX4_toldPart_56
    · skip
      replace c_48_122 := bI1 c_48_122
      refine r_iconst (v := 1) F (by decide) dX4_toldPart_51 ?_
      refine r_goto F 56 (by decide) dX4_toldPart_52 ?_
      exact hret _ _ _ _ _ _ (Nat.le_of_ble_eq_true rfl) (Nat.le_of_ble_eq_true rfl) ⟨by show _ = bI _; simp [bI, c_48_122], rfl⟩ dX4_toldPart_56
set_option maxHeartbeats 4000000 in
set_option maxRecDepth 100000 in
theorem c_X4_part {g : kG} {l : Launch} {u : Nat → va_E} {th rm sp wr : Int32} {hs : Int64} {VA RD CH WE : Nat → Int32} {n m t : Nat} {B : kB} {S : Nat → kS} {C : Nat → Int32} {p w : Int32} (h : MdX g u th rm sp wr hs VA RD CH WE n B m S t C)  : CI g l yX4_part wsX4_part ({ frames := 5, cells := 0, slots := 0, locals := 119 }) [.ref (g.2.1 61), .int p, .int w] u (fun r u' => ((cdPart p w = 0 ∧ r = tP B n (opm B n) p w ∧ MdX g u' 0 rm sp wr hs VA RD CH WE n B m S t C) ∨ (∃ c, 0 < c ∧ cdPart p w = c ∧ MdX g u' (nI c) rm sp wr hs VA RD CH WE n B m S t C)) ∧ ∀ j, ¬ (61 ≤ j ∧ j < 69) → u' j = u j) := by
  refine CI.of (cc := cX4_part) (nL := 3) (ty := .int) (by decide +kernel) rfl (fun _ _ _ => rfl) (Nat.le_of_ble_eq_true rfl) ?_
  intro X hXl F hret
  subst hXl
  have hinX4 : ∀ w ∈ wsX40, w ∈ wsX4_part := by decide +kernel
  obtain ⟨Z, SV, BF, hL, hZ, hSV, hBF, hn16, hm6, ht60⟩ := id h
  show VL g X 0 0 u 0 [(0, .ref (g.2.1 61)), (1, .int p), (2, .int w)] []
  refine r_aload_n F 0 rfl dX4_part_0 ?_
  refine r_iload_n F 1 rfl dX4_part_1 ?_
  refine r_calli (g_S (nA := 1) (As := [.int p]) (rest := [.ref (g.2.1 61)]) F (c_X4_isPart) gX4_part_X4_isPart rfl (by decide +kernel) rfl ⟨Nat.le_of_ble_eq_true rfl, Nat.le_of_ble_eq_true rfl⟩ ⟨Nat.le_of_ble_eq_true rfl, Nat.le_of_ble_eq_true rfl⟩ rfl (Nat.le_of_ble_eq_true rfl) dX4_part_2) (fun r_1 u_1 hp_1 => ?_)
  obtain ⟨rfl, rfl⟩ := hp_1
  refine r_if_ne F 12 (by decide) dX4_part_5 (fun c_5_2 => ?_) (fun c_5_2 => ?_)
  · skip
    replace c_5_2 := bI1 c_5_2
    refine r_iload_n F 2 rfl dX4_part_12 ?_
    refine r_iconst (v := 0) F (by decide) dX4_part_13 ?_
    refine r_iconst (v := 5) F (by decide) dX4_part_14 ?_
    refine r_calli (g_S (nA := 3) (As := [.int w, .int 0, .int 5]) (rest := [.ref (g.2.1 61)]) F (c_X4_in) gX4_part_X4_in rfl (by decide +kernel) rfl ⟨Nat.le_of_ble_eq_true rfl, Nat.le_of_ble_eq_true rfl⟩ ⟨Nat.le_of_ble_eq_true rfl, Nat.le_of_ble_eq_true rfl⟩ rfl (Nat.le_of_ble_eq_true rfl) dX4_part_15) (fun r_3 u_3 hp_3 => ?_)
    obtain ⟨rfl, rfl⟩ := hp_3
    refine r_if_eq F 25 (by decide) dX4_part_18 (fun c_18_4 => ?_) (fun c_18_4 => ?_)
    · skip
      replace c_18_4 := bI0 c_18_4
      refine r_iconst (v := 2) F (by decide) dX4_part_25 ?_
      refine r_put (C := RX4) (T := TX4) (N := 14) (ty := .int) F 61 hL.1 (by decide) hinX4 tyX4 tyX4_ok nmX4 rfl 0 (by decide) (by decide +kernel) rfl (by decide +kernel) rfl rfl (Nat.le_of_ble_eq_true rfl) dX4_part_26 (fun u_5 hu_5 => ?_)
      have hL_6 := hL.num (th' := 2) (sm' := nI m) (ty' := nI t) (rm' := rm) (sp' := sp) (wr' := wr) (hs' := hs)
      replace hL_6 : MdL g u_5 2 (nI m) (nI t) rm sp wr hs Z SV BF VA RD CH WE := by rw [hu_5]; exact hL_6
      have hf_7 : ∀ j, ¬ (61 ≤ j ∧ j < 69) → u_5 j = u j := (fun j hj => by rw [hu_5]; exact vne (by omega))
      have hX_8 : MdX g u_5 2 rm sp wr hs VA RD CH WE n B m S t C := ⟨_, _, _, hL_6, hZ, hSV, hBF, hn16, hm6, ht60⟩
      refine r_aload_n F 0 rfl dX4_part_29 ?_
      refine r_get (C := RX4) (T := TX4) (N := 14) F 61 hL_6.1 (by decide) hinX4 rfl 0 (by decide) (by decide +kernel) rfl dX4_part_30 ?_
      refine r_if_le F 40 (by decide) dX4_part_33 (fun c_33_9 => absurd c_33_9 (by decide)) (fun c_33_9 => ?_)
      clear c_33_9
      refine r_iconst (v := 0) F (by decide) dX4_part_36 ?_
      refine r_goto F 46 (by decide) dX4_part_37 ?_
      exact hret _ _ _ _ _ _ (Nat.le_of_ble_eq_true rfl) (Nat.le_of_ble_eq_true rfl) ⟨Or.inr ⟨2, by decide, by simp [cdPart, c_5_2, c_18_4], hX_8⟩, hf_7⟩ dX4_part_46
    · skip
      replace c_18_4 := bI1 c_18_4
      obtain ⟨w1, hw8, ew⟩ := wi_N (k := 5) (by decide) c_18_4
      subst ew
      refine r_iconst (v := 0) F (by decide) dX4_part_21 ?_
      refine r_goto F 26 (by decide) dX4_part_22 ?_
      refine r_put (C := RX4) (T := TX4) (N := 14) (ty := .int) F 61 hL.1 (by decide) hinX4 tyX4 tyX4_ok nmX4 rfl 0 (by decide) (by decide +kernel) rfl (by decide +kernel) rfl rfl (Nat.le_of_ble_eq_true rfl) dX4_part_26 (fun u_10 hu_10 => ?_)
      have hL_11 := hL.num (th' := 0) (sm' := nI m) (ty' := nI t) (rm' := rm) (sp' := sp) (wr' := wr) (hs' := hs)
      replace hL_11 : MdL g u_10 0 (nI m) (nI t) rm sp wr hs Z SV BF VA RD CH WE := by rw [hu_10]; exact hL_11
      have hf_12 : ∀ j, ¬ (61 ≤ j ∧ j < 69) → u_10 j = u j := (fun j hj => by rw [hu_10]; exact vne (by omega))
      have hX_13 : MdX g u_10 0 rm sp wr hs VA RD CH WE n B m S t C := ⟨_, _, _, hL_11, hZ, hSV, hBF, hn16, hm6, ht60⟩
      refine r_aload_n F 0 rfl dX4_part_29 ?_
      refine r_get (C := RX4) (T := TX4) (N := 14) F 61 hL_11.1 (by decide) hinX4 rfl 0 (by decide) (by decide +kernel) rfl dX4_part_30 ?_
      refine r_if_le F 40 (by decide) dX4_part_33 (fun c_33_14 => ?_) (fun c_33_14 => absurd c_33_14 (by decide))
      clear c_33_14
      refine r_aload_n F 0 rfl dX4_part_40 ?_
      refine r_iload_n F 1 rfl dX4_part_41 ?_
      refine r_iload_n F 2 rfl dX4_part_42 ?_
      refine r_calli (g_V (C := RX4) (T := TX4) (N := 14) (nA := 2) (As := [.int p, .int (nI w1)]) (rest := []) F 61 hL_11.1 (by decide) rfl (c_X4_toldPart hX_13 hw8) gX4_part_X4_toldPart rfl (by decide +kernel) rfl ⟨Nat.le_of_ble_eq_true rfl, Nat.le_of_ble_eq_true rfl⟩ ⟨Nat.le_of_ble_eq_true rfl, Nat.le_of_ble_eq_true rfl⟩ rfl (Nat.le_of_ble_eq_true rfl) dX4_part_43) (fun r_15 u_15 hp_15 => ?_)
      obtain ⟨rfl, rfl⟩ := hp_15
      exact hret _ _ _ _ _ _ (Nat.le_of_ble_eq_true rfl) (Nat.le_of_ble_eq_true rfl) ⟨Or.inl ⟨by simp [cdPart, c_5_2, c_18_4], rfl, hX_13⟩, hf_12⟩ dX4_part_46
  · skip
    replace c_5_2 := bI0 c_5_2
    refine r_iconst (v := 1) F (by decide) dX4_part_8 ?_
    refine r_goto F 26 (by decide) dX4_part_9 ?_
    refine r_put (C := RX4) (T := TX4) (N := 14) (ty := .int) F 61 hL.1 (by decide) hinX4 tyX4 tyX4_ok nmX4 rfl 0 (by decide) (by decide +kernel) rfl (by decide +kernel) rfl rfl (Nat.le_of_ble_eq_true rfl) dX4_part_26 (fun u_16 hu_16 => ?_)
    have hL_17 := hL.num (th' := 1) (sm' := nI m) (ty' := nI t) (rm' := rm) (sp' := sp) (wr' := wr) (hs' := hs)
    replace hL_17 : MdL g u_16 1 (nI m) (nI t) rm sp wr hs Z SV BF VA RD CH WE := by rw [hu_16]; exact hL_17
    have hf_18 : ∀ j, ¬ (61 ≤ j ∧ j < 69) → u_16 j = u j := (fun j hj => by rw [hu_16]; exact vne (by omega))
    have hX_19 : MdX g u_16 1 rm sp wr hs VA RD CH WE n B m S t C := ⟨_, _, _, hL_17, hZ, hSV, hBF, hn16, hm6, ht60⟩
    refine r_aload_n F 0 rfl dX4_part_29 ?_
    refine r_get (C := RX4) (T := TX4) (N := 14) F 61 hL_17.1 (by decide) hinX4 rfl 0 (by decide) (by decide +kernel) rfl dX4_part_30 ?_
    refine r_if_le F 40 (by decide) dX4_part_33 (fun c_33_20 => absurd c_33_20 (by decide)) (fun c_33_20 => ?_)
    clear c_33_20
    refine r_iconst (v := 0) F (by decide) dX4_part_36 ?_
    refine r_goto F 46 (by decide) dX4_part_37 ?_
    exact hret _ _ _ _ _ _ (Nat.le_of_ble_eq_true rfl) (Nat.le_of_ble_eq_true rfl) ⟨Or.inr ⟨1, by decide, by simp [cdPart, c_5_2], hX_19⟩, hf_18⟩ dX4_part_46
theorem tF_0 {B : kB} {n m : Nat} {mask : Int32} : nI n = tF B n m mask (nI 0) := rfl
theorem tF_1 {B : kB} {n m : Nat} {mask : Int32} : cntN n (qOpn B mask) = tF B n m mask (nI 1) := rfl
theorem tF_2 {B : kB} {n m : Nat} {mask : Int32} : cntN n (qWts B mask) = tF B n m mask (nI 2) := rfl
theorem tF_3 {B : kB} {n m : Nat} {mask : Int32} : fstN n (qWts B mask) = tF B n m mask (nI 3) := rfl
theorem tF_4 {B : kB} {n m : Nat} {mask : Int32} : bI (decide (cntN n (qWts B mask) = 0)) = tF B n m mask (nI 4) := rfl
theorem tF_5 {B : kB} {n m : Nat} {mask : Int32} : bitC mask = tF B n m mask (nI 5) := rfl
theorem tF_6 {B : kB} {n m : Nat} {mask : Int32} : mask = tF B n m mask (nI 6) := rfl
theorem tF_7 {B : kB} {n m : Nat} {mask : Int32} : cntN n (fun b => !decide (B b 4 = -1)) = tF B n m mask (nI 7) := rfl
theorem tF_8 {B : kB} {n m : Nat} {mask : Int32} : nI m = tF B n m mask (nI 8) := rfl
set_option maxHeartbeats 4000000 in
set_option maxRecDepth 100000 in
theorem c_X4_counted {g : kG} {l : Launch} {u : Nat → va_E} {th rm sp wr : Int32} {hs : Int64} {VA RD CH WE : Nat → Int32} {n m t : Nat} {B : kB} {S : Nat → kS} {C : Nat → Int32} {w : Nat} (h : MdX g u th rm sp wr hs VA RD CH WE n B m S t C) (hw8 : w < 9) : CI g l yX4_counted wsX4_counted ({ frames := 4, cells := 0, slots := 0, locals := 91 }) [.ref (g.2.1 61), .int (nI w)] u (fun r u' => r = tF B n m (opm B n) (nI w) ∧ u = u') := by
  refine CI.of (cc := cX4_counted) (nL := 3) (ty := .int) (by decide +kernel) rfl (fun _ _ _ => rfl) (Nat.le_of_ble_eq_true rfl) ?_
  intro X hXl F hret
  subst hXl
  have hinX4 : ∀ w ∈ wsX40, w ∈ wsX4_counted := by decide +kernel
  obtain ⟨Z, SV, BF, hL, hZ, hSV, hBF, hn16, hm6, ht60⟩ := id h
  show VL g X 0 0 u 0 [(0, .ref (g.2.1 61)), (1, .int (nI w))] []
  rcases (by omega : w = 0 ∨ w = 1 ∨ w = 2 ∨ w = 3 ∨ w = 4 ∨ w = 5 ∨ w = 6 ∨ w = 7 ∨ w = 8) with rfl | rfl | rfl | rfl | rfl | rfl | rfl | rfl | rfl
  · skip
    refine r_aload_n F 0 rfl dX4_counted_0 ?_
    refine r_calli (g_V (C := RX4) (T := TX4) (N := 14) (nA := 0) (As := []) (rest := []) F 61 hL.1 (by decide) rfl (c_X4_open h ) gX4_counted_X4_open rfl (by decide +kernel) rfl ⟨Nat.le_of_ble_eq_true rfl, Nat.le_of_ble_eq_true rfl⟩ ⟨Nat.le_of_ble_eq_true rfl, Nat.le_of_ble_eq_true rfl⟩ rfl (Nat.le_of_ble_eq_true rfl) dX4_counted_1) (fun r_1 u_1 hp_1 => ?_)
    obtain ⟨rfl, rfl⟩ := hp_1
    refine r_istore_n (lv' := [(0, .ref (g.2.1 61)), (1, .int 0), (2, .int (opm B n))]) F (by decide) rfl dX4_counted_4 ?_
    refine r_iload_n F 1 rfl dX4_counted_5 ?_
    refine r_tabIn F 52 (by decide) (by decide) rfl (by decide) dX4_counted_6 ?_
    refine r_aload_n F 0 rfl dX4_counted_52 ?_
    refine r_get (C := RX4) (T := TX4) (N := 14) F 61 hL.1 (by decide) hinX4 rfl 1 (by decide) (by decide +kernel) rfl dX4_counted_53 ?_
    refine r_iconst (v := 0) F (by decide) dX4_counted_56 ?_
    refine r_iald F 62 hL.2.1 (by decide) (vp_in_nI (n := 0) (by decide) (by decide)) dX4_counted_57 ?_
    refine r_eq (st2 := [.int (nI n)]) (by rw [show Z (0 : Int32).toNatClampNeg = nI n from hZ.1]) rfl ?_
    exact hret _ _ _ _ _ _ (Nat.le_of_ble_eq_true rfl) (Nat.le_of_ble_eq_true rfl) ⟨by exact tF_0, rfl⟩ dX4_counted_58
  · skip
    refine r_aload_n F 0 rfl dX4_counted_0 ?_
    refine r_calli (g_V (C := RX4) (T := TX4) (N := 14) (nA := 0) (As := []) (rest := []) F 61 hL.1 (by decide) rfl (c_X4_open h ) gX4_counted_X4_open rfl (by decide +kernel) rfl ⟨Nat.le_of_ble_eq_true rfl, Nat.le_of_ble_eq_true rfl⟩ ⟨Nat.le_of_ble_eq_true rfl, Nat.le_of_ble_eq_true rfl⟩ rfl (Nat.le_of_ble_eq_true rfl) dX4_counted_1) (fun r_2 u_2 hp_2 => ?_)
    obtain ⟨rfl, rfl⟩ := hp_2
    refine r_istore_n (lv' := [(0, .ref (g.2.1 61)), (1, .int 1), (2, .int (opm B n))]) F (by decide) rfl dX4_counted_4 ?_
    refine r_iload_n F 1 rfl dX4_counted_5 ?_
    refine r_tabIn F 59 (by decide) (by decide) rfl (by decide) dX4_counted_6 ?_
    refine r_aload_n F 0 rfl dX4_counted_59 ?_
    refine r_iload_n F 2 rfl dX4_counted_60 ?_
    refine r_calli (g_V (C := RX4) (T := TX4) (N := 14) (nA := 1) (As := [.int (opm B n)]) (rest := []) F 61 hL.1 (by decide) rfl (c_X4_openBoxes h ) gX4_counted_X4_openBoxes rfl (by decide +kernel) rfl ⟨Nat.le_of_ble_eq_true rfl, Nat.le_of_ble_eq_true rfl⟩ ⟨Nat.le_of_ble_eq_true rfl, Nat.le_of_ble_eq_true rfl⟩ rfl (Nat.le_of_ble_eq_true rfl) dX4_counted_61) (fun r_3 u_3 hp_3 => ?_)
    obtain ⟨rfl, rfl⟩ := hp_3
    exact hret _ _ _ _ _ _ (Nat.le_of_ble_eq_true rfl) (Nat.le_of_ble_eq_true rfl) ⟨by exact tF_1, rfl⟩ dX4_counted_64
  · skip
    refine r_aload_n F 0 rfl dX4_counted_0 ?_
    refine r_calli (g_V (C := RX4) (T := TX4) (N := 14) (nA := 0) (As := []) (rest := []) F 61 hL.1 (by decide) rfl (c_X4_open h ) gX4_counted_X4_open rfl (by decide +kernel) rfl ⟨Nat.le_of_ble_eq_true rfl, Nat.le_of_ble_eq_true rfl⟩ ⟨Nat.le_of_ble_eq_true rfl, Nat.le_of_ble_eq_true rfl⟩ rfl (Nat.le_of_ble_eq_true rfl) dX4_counted_1) (fun r_4 u_4 hp_4 => ?_)
    obtain ⟨rfl, rfl⟩ := hp_4
    refine r_istore_n (lv' := [(0, .ref (g.2.1 61)), (1, .int 2), (2, .int (opm B n))]) F (by decide) rfl dX4_counted_4 ?_
    refine r_iload_n F 1 rfl dX4_counted_5 ?_
    refine r_tabIn F 65 (by decide) (by decide) rfl (by decide) dX4_counted_6 ?_
    refine r_aload_n F 0 rfl dX4_counted_65 ?_
    refine r_iload_n F 2 rfl dX4_counted_66 ?_
    refine r_calli (g_V (C := RX4) (T := TX4) (N := 14) (nA := 1) (As := [.int (opm B n)]) (rest := []) F 61 hL.1 (by decide) rfl (c_X4_wanting h ) gX4_counted_X4_wanting rfl (by decide +kernel) rfl ⟨Nat.le_of_ble_eq_true rfl, Nat.le_of_ble_eq_true rfl⟩ ⟨Nat.le_of_ble_eq_true rfl, Nat.le_of_ble_eq_true rfl⟩ rfl (Nat.le_of_ble_eq_true rfl) dX4_counted_67) (fun r_5 u_5 hp_5 => ?_)
    obtain ⟨rfl, rfl⟩ := hp_5
    exact hret _ _ _ _ _ _ (Nat.le_of_ble_eq_true rfl) (Nat.le_of_ble_eq_true rfl) ⟨by exact tF_2, rfl⟩ dX4_counted_70
  · skip
    refine r_aload_n F 0 rfl dX4_counted_0 ?_
    refine r_calli (g_V (C := RX4) (T := TX4) (N := 14) (nA := 0) (As := []) (rest := []) F 61 hL.1 (by decide) rfl (c_X4_open h ) gX4_counted_X4_open rfl (by decide +kernel) rfl ⟨Nat.le_of_ble_eq_true rfl, Nat.le_of_ble_eq_true rfl⟩ ⟨Nat.le_of_ble_eq_true rfl, Nat.le_of_ble_eq_true rfl⟩ rfl (Nat.le_of_ble_eq_true rfl) dX4_counted_1) (fun r_6 u_6 hp_6 => ?_)
    obtain ⟨rfl, rfl⟩ := hp_6
    refine r_istore_n (lv' := [(0, .ref (g.2.1 61)), (1, .int 3), (2, .int (opm B n))]) F (by decide) rfl dX4_counted_4 ?_
    refine r_iload_n F 1 rfl dX4_counted_5 ?_
    refine r_tabIn F 71 (by decide) (by decide) rfl (by decide) dX4_counted_6 ?_
    refine r_aload_n F 0 rfl dX4_counted_71 ?_
    refine r_iload_n F 2 rfl dX4_counted_72 ?_
    refine r_calli (g_V (C := RX4) (T := TX4) (N := 14) (nA := 1) (As := [.int (opm B n)]) (rest := []) F 61 hL.1 (by decide) rfl (c_X4_firstWanting h ) gX4_counted_X4_firstWanting rfl (by decide +kernel) rfl ⟨Nat.le_of_ble_eq_true rfl, Nat.le_of_ble_eq_true rfl⟩ ⟨Nat.le_of_ble_eq_true rfl, Nat.le_of_ble_eq_true rfl⟩ rfl (Nat.le_of_ble_eq_true rfl) dX4_counted_73) (fun r_7 u_7 hp_7 => ?_)
    obtain ⟨rfl, rfl⟩ := hp_7
    exact hret _ _ _ _ _ _ (Nat.le_of_ble_eq_true rfl) (Nat.le_of_ble_eq_true rfl) ⟨by exact tF_3, rfl⟩ dX4_counted_76
  · skip
    refine r_aload_n F 0 rfl dX4_counted_0 ?_
    refine r_calli (g_V (C := RX4) (T := TX4) (N := 14) (nA := 0) (As := []) (rest := []) F 61 hL.1 (by decide) rfl (c_X4_open h ) gX4_counted_X4_open rfl (by decide +kernel) rfl ⟨Nat.le_of_ble_eq_true rfl, Nat.le_of_ble_eq_true rfl⟩ ⟨Nat.le_of_ble_eq_true rfl, Nat.le_of_ble_eq_true rfl⟩ rfl (Nat.le_of_ble_eq_true rfl) dX4_counted_1) (fun r_8 u_8 hp_8 => ?_)
    obtain ⟨rfl, rfl⟩ := hp_8
    refine r_istore_n (lv' := [(0, .ref (g.2.1 61)), (1, .int 4), (2, .int (opm B n))]) F (by decide) rfl dX4_counted_4 ?_
    refine r_iload_n F 1 rfl dX4_counted_5 ?_
    refine r_tabIn F 77 (by decide) (by decide) rfl (by decide) dX4_counted_6 ?_
    refine r_aload_n F 0 rfl dX4_counted_77 ?_
    refine r_iload_n F 2 rfl dX4_counted_78 ?_
    refine r_calli (g_V (C := RX4) (T := TX4) (N := 14) (nA := 1) (As := [.int (opm B n)]) (rest := []) F 61 hL.1 (by decide) rfl (c_X4_wanting h ) gX4_counted_X4_wanting rfl (by decide +kernel) rfl ⟨Nat.le_of_ble_eq_true rfl, Nat.le_of_ble_eq_true rfl⟩ ⟨Nat.le_of_ble_eq_true rfl, Nat.le_of_ble_eq_true rfl⟩ rfl (Nat.le_of_ble_eq_true rfl) dX4_counted_79) (fun r_9 u_9 hp_9 => ?_)
    obtain ⟨rfl, rfl⟩ := hp_9
    refine r_if_ne F 89 (by decide) dX4_counted_82 (fun c_82_10 => ?_) (fun c_82_10 => ?_)
    · skip
      refine r_iconst (v := 0) F (by decide) dX4_counted_89 ?_
      exact hret _ _ _ _ _ _ (Nat.le_of_ble_eq_true rfl) (Nat.le_of_ble_eq_true rfl) ⟨by rw [← tF_4]; simp [bI, c_82_10], rfl⟩ dX4_counted_90
    · skip
      refine r_iconst (v := 1) F (by decide) dX4_counted_85 ?_
      refine r_goto F 90 (by decide) dX4_counted_86 ?_
      exact hret _ _ _ _ _ _ (Nat.le_of_ble_eq_true rfl) (Nat.le_of_ble_eq_true rfl) ⟨by rw [← tF_4]; simp [bI, c_82_10], rfl⟩ dX4_counted_90
  · skip
    refine r_aload_n F 0 rfl dX4_counted_0 ?_
    refine r_calli (g_V (C := RX4) (T := TX4) (N := 14) (nA := 0) (As := []) (rest := []) F 61 hL.1 (by decide) rfl (c_X4_open h ) gX4_counted_X4_open rfl (by decide +kernel) rfl ⟨Nat.le_of_ble_eq_true rfl, Nat.le_of_ble_eq_true rfl⟩ ⟨Nat.le_of_ble_eq_true rfl, Nat.le_of_ble_eq_true rfl⟩ rfl (Nat.le_of_ble_eq_true rfl) dX4_counted_1) (fun r_11 u_11 hp_11 => ?_)
    obtain ⟨rfl, rfl⟩ := hp_11
    refine r_istore_n (lv' := [(0, .ref (g.2.1 61)), (1, .int 5), (2, .int (opm B n))]) F (by decide) rfl dX4_counted_4 ?_
    refine r_iload_n F 1 rfl dX4_counted_5 ?_
    refine r_tabIn F 91 (by decide) (by decide) rfl (by decide) dX4_counted_6 ?_
    refine r_iload_n F 2 rfl dX4_counted_91 ?_
    refine r_calli (g_S (nA := 1) (As := [.int (opm B n)]) (rest := []) F (c_X4_bits) gX4_counted_X4_bits rfl (by decide +kernel) rfl ⟨Nat.le_of_ble_eq_true rfl, Nat.le_of_ble_eq_true rfl⟩ ⟨Nat.le_of_ble_eq_true rfl, Nat.le_of_ble_eq_true rfl⟩ rfl (Nat.le_of_ble_eq_true rfl) dX4_counted_92) (fun r_12 u_12 hp_12 => ?_)
    obtain ⟨rfl, rfl⟩ := hp_12
    exact hret _ _ _ _ _ _ (Nat.le_of_ble_eq_true rfl) (Nat.le_of_ble_eq_true rfl) ⟨by rw [← tF_5]; exact bits_opm, rfl⟩ dX4_counted_95
  · skip
    refine r_aload_n F 0 rfl dX4_counted_0 ?_
    refine r_calli (g_V (C := RX4) (T := TX4) (N := 14) (nA := 0) (As := []) (rest := []) F 61 hL.1 (by decide) rfl (c_X4_open h ) gX4_counted_X4_open rfl (by decide +kernel) rfl ⟨Nat.le_of_ble_eq_true rfl, Nat.le_of_ble_eq_true rfl⟩ ⟨Nat.le_of_ble_eq_true rfl, Nat.le_of_ble_eq_true rfl⟩ rfl (Nat.le_of_ble_eq_true rfl) dX4_counted_1) (fun r_13 u_13 hp_13 => ?_)
    obtain ⟨rfl, rfl⟩ := hp_13
    refine r_istore_n (lv' := [(0, .ref (g.2.1 61)), (1, .int 6), (2, .int (opm B n))]) F (by decide) rfl dX4_counted_4 ?_
    refine r_iload_n F 1 rfl dX4_counted_5 ?_
    refine r_tabIn F 96 (by decide) (by decide) rfl (by decide) dX4_counted_6 ?_
    refine r_iload_n F 2 rfl dX4_counted_96 ?_
    exact hret _ _ _ _ _ _ (Nat.le_of_ble_eq_true rfl) (Nat.le_of_ble_eq_true rfl) ⟨by exact tF_6, rfl⟩ dX4_counted_97
  · skip
    refine r_aload_n F 0 rfl dX4_counted_0 ?_
    refine r_calli (g_V (C := RX4) (T := TX4) (N := 14) (nA := 0) (As := []) (rest := []) F 61 hL.1 (by decide) rfl (c_X4_open h ) gX4_counted_X4_open rfl (by decide +kernel) rfl ⟨Nat.le_of_ble_eq_true rfl, Nat.le_of_ble_eq_true rfl⟩ ⟨Nat.le_of_ble_eq_true rfl, Nat.le_of_ble_eq_true rfl⟩ rfl (Nat.le_of_ble_eq_true rfl) dX4_counted_1) (fun r_14 u_14 hp_14 => ?_)
    obtain ⟨rfl, rfl⟩ := hp_14
    refine r_istore_n (lv' := [(0, .ref (g.2.1 61)), (1, .int 7), (2, .int (opm B n))]) F (by decide) rfl dX4_counted_4 ?_
    refine r_iload_n F 1 rfl dX4_counted_5 ?_
    refine r_tabIn F 98 (by decide) (by decide) rfl (by decide) dX4_counted_6 ?_
    refine r_aload_n F 0 rfl dX4_counted_98 ?_
    refine r_calli (g_V (C := RX4) (T := TX4) (N := 14) (nA := 0) (As := []) (rest := []) F 61 hL.1 (by decide) rfl (c_X4_answered h ) gX4_counted_X4_answered rfl (by decide +kernel) rfl ⟨Nat.le_of_ble_eq_true rfl, Nat.le_of_ble_eq_true rfl⟩ ⟨Nat.le_of_ble_eq_true rfl, Nat.le_of_ble_eq_true rfl⟩ rfl (Nat.le_of_ble_eq_true rfl) dX4_counted_99) (fun r_15 u_15 hp_15 => ?_)
    obtain ⟨rfl, rfl⟩ := hp_15
    exact hret _ _ _ _ _ _ (Nat.le_of_ble_eq_true rfl) (Nat.le_of_ble_eq_true rfl) ⟨by exact tF_7, rfl⟩ dX4_counted_102
  · skip
    refine r_aload_n F 0 rfl dX4_counted_0 ?_
    refine r_calli (g_V (C := RX4) (T := TX4) (N := 14) (nA := 0) (As := []) (rest := []) F 61 hL.1 (by decide) rfl (c_X4_open h ) gX4_counted_X4_open rfl (by decide +kernel) rfl ⟨Nat.le_of_ble_eq_true rfl, Nat.le_of_ble_eq_true rfl⟩ ⟨Nat.le_of_ble_eq_true rfl, Nat.le_of_ble_eq_true rfl⟩ rfl (Nat.le_of_ble_eq_true rfl) dX4_counted_1) (fun r_16 u_16 hp_16 => ?_)
    obtain ⟨rfl, rfl⟩ := hp_16
    refine r_istore_n (lv' := [(0, .ref (g.2.1 61)), (1, .int 8), (2, .int (opm B n))]) F (by decide) rfl dX4_counted_4 ?_
    refine r_iload_n F 1 rfl dX4_counted_5 ?_
    refine r_tabOut F 103 (by decide) (by decide) dX4_counted_6 ?_
    refine r_aload_n F 0 rfl dX4_counted_103 ?_
    refine r_get (C := RX4) (T := TX4) (N := 14) F 61 hL.1 (by decide) hinX4 rfl 3 (by decide) (by decide +kernel) rfl dX4_counted_104 ?_
    exact hret _ _ _ _ _ _ (Nat.le_of_ble_eq_true rfl) (Nat.le_of_ble_eq_true rfl) ⟨by exact tF_8, rfl⟩ dX4_counted_107
set_option maxHeartbeats 4000000 in
set_option maxRecDepth 100000 in
theorem c_X4_count {g : kG} {l : Launch} {u : Nat → va_E} {th rm sp wr : Int32} {hs : Int64} {VA RD CH WE : Nat → Int32} {n m t : Nat} {B : kB} {S : Nat → kS} {C : Nat → Int32} {w : Int32} (h : MdX g u th rm sp wr hs VA RD CH WE n B m S t C)  : CI g l yX4_count wsX4_count ({ frames := 5, cells := 0, slots := 0, locals := 113 }) [.ref (g.2.1 61), .int w] u (fun r u' => ((cdCount w = 0 ∧ r = tF B n m (opm B n) w ∧ MdX g u' 0 rm sp wr hs VA RD CH WE n B m S t C) ∨ (∃ c, 0 < c ∧ cdCount w = c ∧ MdX g u' (nI c) rm sp wr hs VA RD CH WE n B m S t C)) ∧ ∀ j, ¬ (61 ≤ j ∧ j < 69) → u' j = u j) := by
  refine CI.of (cc := cX4_count) (nL := 2) (ty := .int) (by decide +kernel) rfl (fun _ _ _ => rfl) (Nat.le_of_ble_eq_true rfl) ?_
  intro X hXl F hret
  subst hXl
  have hinX4 : ∀ w ∈ wsX40, w ∈ wsX4_count := by decide +kernel
  obtain ⟨Z, SV, BF, hL, hZ, hSV, hBF, hn16, hm6, ht60⟩ := id h
  show VL g X 0 0 u 0 [(0, .ref (g.2.1 61)), (1, .int w)] []
  refine r_aload_n F 0 rfl dX4_count_0 ?_
  refine r_iload_n F 1 rfl dX4_count_1 ?_
  refine r_iconst (v := 0) F (by decide) dX4_count_2 ?_
  refine r_bipush (v := 8) F (by decide) dX4_count_3 ?_
  refine r_calli (g_S (nA := 3) (As := [.int w, .int 0, .int 8]) (rest := [.ref (g.2.1 61)]) F (c_X4_in) gX4_count_X4_in rfl (by decide +kernel) rfl ⟨Nat.le_of_ble_eq_true rfl, Nat.le_of_ble_eq_true rfl⟩ ⟨Nat.le_of_ble_eq_true rfl, Nat.le_of_ble_eq_true rfl⟩ rfl (Nat.le_of_ble_eq_true rfl) dX4_count_5) (fun r_1 u_1 hp_1 => ?_)
  obtain ⟨rfl, rfl⟩ := hp_1
  refine r_if_eq F 15 (by decide) dX4_count_8 (fun c_8_2 => ?_) (fun c_8_2 => ?_)
  · skip
    replace c_8_2 := bI0 c_8_2
    refine r_iconst (v := 1) F (by decide) dX4_count_15 ?_
    refine r_put (C := RX4) (T := TX4) (N := 14) (ty := .int) F 61 hL.1 (by decide) hinX4 tyX4 tyX4_ok nmX4 rfl 0 (by decide) (by decide +kernel) rfl (by decide +kernel) rfl rfl (Nat.le_of_ble_eq_true rfl) dX4_count_16 (fun u_3 hu_3 => ?_)
    have hL_4 := hL.num (th' := 1) (sm' := nI m) (ty' := nI t) (rm' := rm) (sp' := sp) (wr' := wr) (hs' := hs)
    replace hL_4 : MdL g u_3 1 (nI m) (nI t) rm sp wr hs Z SV BF VA RD CH WE := by rw [hu_3]; exact hL_4
    have hf_5 : ∀ j, ¬ (61 ≤ j ∧ j < 69) → u_3 j = u j := (fun j hj => by rw [hu_3]; exact vne (by omega))
    have hX_6 : MdX g u_3 1 rm sp wr hs VA RD CH WE n B m S t C := ⟨_, _, _, hL_4, hZ, hSV, hBF, hn16, hm6, ht60⟩
    refine r_aload_n F 0 rfl dX4_count_19 ?_
    refine r_get (C := RX4) (T := TX4) (N := 14) F 61 hL_4.1 (by decide) hinX4 rfl 0 (by decide) (by decide +kernel) rfl dX4_count_20 ?_
    refine r_if_le F 30 (by decide) dX4_count_23 (fun c_23_7 => absurd c_23_7 (by decide)) (fun c_23_7 => ?_)
    clear c_23_7
    refine r_iconst (v := 0) F (by decide) dX4_count_26 ?_
    refine r_goto F 35 (by decide) dX4_count_27 ?_
    exact hret _ _ _ _ _ _ (Nat.le_of_ble_eq_true rfl) (Nat.le_of_ble_eq_true rfl) ⟨Or.inr ⟨1, by decide, by simp [cdCount, c_8_2], hX_6⟩, hf_5⟩ dX4_count_35
  · skip
    replace c_8_2 := bI1 c_8_2
    obtain ⟨w1, hw8, ew⟩ := wi_N (k := 8) (by decide) c_8_2
    subst ew
    refine r_iconst (v := 0) F (by decide) dX4_count_11 ?_
    refine r_goto F 16 (by decide) dX4_count_12 ?_
    refine r_put (C := RX4) (T := TX4) (N := 14) (ty := .int) F 61 hL.1 (by decide) hinX4 tyX4 tyX4_ok nmX4 rfl 0 (by decide) (by decide +kernel) rfl (by decide +kernel) rfl rfl (Nat.le_of_ble_eq_true rfl) dX4_count_16 (fun u_8 hu_8 => ?_)
    have hL_9 := hL.num (th' := 0) (sm' := nI m) (ty' := nI t) (rm' := rm) (sp' := sp) (wr' := wr) (hs' := hs)
    replace hL_9 : MdL g u_8 0 (nI m) (nI t) rm sp wr hs Z SV BF VA RD CH WE := by rw [hu_8]; exact hL_9
    have hf_10 : ∀ j, ¬ (61 ≤ j ∧ j < 69) → u_8 j = u j := (fun j hj => by rw [hu_8]; exact vne (by omega))
    have hX_11 : MdX g u_8 0 rm sp wr hs VA RD CH WE n B m S t C := ⟨_, _, _, hL_9, hZ, hSV, hBF, hn16, hm6, ht60⟩
    refine r_aload_n F 0 rfl dX4_count_19 ?_
    refine r_get (C := RX4) (T := TX4) (N := 14) F 61 hL_9.1 (by decide) hinX4 rfl 0 (by decide) (by decide +kernel) rfl dX4_count_20 ?_
    refine r_if_le F 30 (by decide) dX4_count_23 (fun c_23_12 => ?_) (fun c_23_12 => absurd c_23_12 (by decide))
    clear c_23_12
    refine r_aload_n F 0 rfl dX4_count_30 ?_
    refine r_iload_n F 1 rfl dX4_count_31 ?_
    refine r_calli (g_V (C := RX4) (T := TX4) (N := 14) (nA := 1) (As := [.int (nI w1)]) (rest := []) F 61 hL_9.1 (by decide) rfl (c_X4_counted hX_11 hw8) gX4_count_X4_counted rfl (by decide +kernel) rfl ⟨Nat.le_of_ble_eq_true rfl, Nat.le_of_ble_eq_true rfl⟩ ⟨Nat.le_of_ble_eq_true rfl, Nat.le_of_ble_eq_true rfl⟩ rfl (Nat.le_of_ble_eq_true rfl) dX4_count_32) (fun r_13 u_13 hp_13 => ?_)
    obtain ⟨rfl, rfl⟩ := hp_13
    exact hret _ _ _ _ _ _ (Nat.le_of_ble_eq_true rfl) (Nat.le_of_ble_eq_true rfl) ⟨Or.inl ⟨by simp [cdCount, c_8_2], rfl, hX_11⟩, hf_10⟩ dX4_count_35
set_option maxHeartbeats 4000000 in
set_option maxRecDepth 100000 in
theorem c_X4_withAnswer {g : kG} {l : Launch} {u : Nat → va_E} {th rm sp wr : Int32} {hs : Int64} {VA RD CH WE : Nat → Int32} {n m t : Nat} {B : kB} {S : Nat → kS} {C : Nat → Int32} {b w : Nat} {v : Int32} (h : MdX g u th rm sp wr hs VA RD CH WE n B m S t C) (hw : wfB n B) (hb : b < n) (hv : B b 0 = 3 → v = -1) (hw8 : w < 3) : CI g l yX4_withAnswer wsX4_withAnswer ({ frames := 4, cells := 0, slots := 0, locals := 91 }) [.ref (g.2.1 61), .int (nI b), .int v, .int (nI w)] u (fun r u' => r = tT B n b v (nI w) ∧ (∃ VA', MdX g u' th rm sp wr hs VA' RD CH WE n B m S t C) ∧ ∀ j, ¬ (61 ≤ j ∧ j < 69) → u' j = u j) := by
  refine CI.of (cc := cX4_withAnswer) (nL := 7) (ty := .int) (by decide +kernel) rfl (fun _ _ _ => rfl) (Nat.le_of_ble_eq_true rfl) ?_
  intro X hXl F hret
  subst hXl
  obtain ⟨Z, SV, BF, hL, hZ, hSV, hBF, hn16, hm6, ht60⟩ := id h
  show VL g X 0 0 u 0 [(0, .ref (g.2.1 61)), (1, .int (nI b)), (2, .int v), (3, .int (nI w))] []
  rcases (by omega : w = 0 ∨ w = 1 ∨ w = 2) with rfl | rfl | rfl
  · skip
    refine r_aload_n F 0 rfl dX4_withAnswer_0 ?_
    refine r_iload_n F 1 rfl dX4_withAnswer_1 ?_
    refine r_iconst (v := 4) F (by decide) dX4_withAnswer_2 ?_
    refine r_calli (g_V (C := RX4) (T := TX4) (N := 14) (nA := 2) (As := [.int (nI b), .int 4]) (rest := []) F 61 hL.1 (by decide) rfl (c_X4_of h hb (w := 4) (by decide)) gX4_withAnswer_X4_of rfl (by decide +kernel) rfl ⟨Nat.le_of_ble_eq_true rfl, Nat.le_of_ble_eq_true rfl⟩ ⟨Nat.le_of_ble_eq_true rfl, Nat.le_of_ble_eq_true rfl⟩ rfl (Nat.le_of_ble_eq_true rfl) dX4_withAnswer_3) (fun r_1 u_1 hp_1 => ?_)
    obtain ⟨rfl, rfl⟩ := hp_1
    refine r_istore (lv' := [(0, .ref (g.2.1 61)), (1, .int (nI b)), (2, .int v), (3, .int 0), (4, .int (B b 4))]) F (by decide) rfl dX4_withAnswer_6 ?_
    refine r_aload_n F 0 rfl dX4_withAnswer_8 ?_
    refine r_iload_n F 1 rfl dX4_withAnswer_9 ?_
    refine r_iconst (v := 4) F (by decide) dX4_withAnswer_10 ?_
    refine r_iload_n F 2 rfl dX4_withAnswer_11 ?_
    refine r_callv (g_V (C := RX4) (T := TX4) (N := 14) (nA := 3) (As := [.int (nI b), .int 4, .int v]) (rest := []) F 61 hL.1 (by decide) rfl (c_X4_lay hL (by omega) (w := 4) (by decide)) gX4_withAnswer_X4_lay rfl (by decide +kernel) rfl ⟨Nat.le_of_ble_eq_true rfl, Nat.le_of_ble_eq_true rfl⟩ ⟨Nat.le_of_ble_eq_true rfl, Nat.le_of_ble_eq_true rfl⟩ rfl (Nat.le_of_ble_eq_true rfl) dX4_withAnswer_12) (fun u_2 hp_2 => ?_)
    obtain ⟨hL_2, hk_2⟩ := hp_2
    have hf_3 : ∀ j, ¬ (61 ≤ j ∧ j < 69) → u_2 j = u j := hk_2
    have hX_4 : MdX g u_2 th rm sp wr hs VA RD CH WE n (bUp B b 4 v) m S t C := ⟨_, _, _, hL_2, hZ.up, hSV, hBF, hn16, hm6, ht60⟩
    refine r_aload_n F 0 rfl dX4_withAnswer_15 ?_
    refine r_calli (g_V (C := RX4) (T := TX4) (N := 14) (nA := 0) (As := []) (rest := []) F 61 hL_2.1 (by decide) rfl (c_X4_open hX_4 ) gX4_withAnswer_X4_open rfl (by decide +kernel) rfl ⟨Nat.le_of_ble_eq_true rfl, Nat.le_of_ble_eq_true rfl⟩ ⟨Nat.le_of_ble_eq_true rfl, Nat.le_of_ble_eq_true rfl⟩ rfl (Nat.le_of_ble_eq_true rfl) dX4_withAnswer_16) (fun r_5 u_5 hp_5 => ?_)
    obtain ⟨rfl, rfl⟩ := hp_5
    refine r_istore (lv' := [(0, .ref (g.2.1 61)), (1, .int (nI b)), (2, .int v), (3, .int 0), (4, .int (B b 4)), (5, .int (opm (bUp B b 4 v) n))]) F (by decide) rfl dX4_withAnswer_19 ?_
    refine r_iload_n F 3 rfl dX4_withAnswer_21 ?_
    refine r_if_ne F 34 (by decide) dX4_withAnswer_22 (fun c_22_6 => absurd c_22_6 (by decide)) (fun c_22_6 => ?_)
    clear c_22_6
    refine r_aload_n F 0 rfl dX4_withAnswer_25 ?_
    refine r_iload F 5 rfl dX4_withAnswer_26 ?_
    refine r_calli (g_V (C := RX4) (T := TX4) (N := 14) (nA := 1) (As := [.int (opm (bUp B b 4 v) n)]) (rest := []) F 61 hL_2.1 (by decide) rfl (c_X4_wanting hX_4 ) gX4_withAnswer_X4_wanting rfl (by decide +kernel) rfl ⟨Nat.le_of_ble_eq_true rfl, Nat.le_of_ble_eq_true rfl⟩ ⟨Nat.le_of_ble_eq_true rfl, Nat.le_of_ble_eq_true rfl⟩ rfl (Nat.le_of_ble_eq_true rfl) dX4_withAnswer_28) (fun r_7 u_7 hp_7 => ?_)
    obtain ⟨rfl, rfl⟩ := hp_7
    refine r_goto F 50 (by decide) dX4_withAnswer_31 ?_
    refine r_istore (lv' := [(0, .ref (g.2.1 61)), (1, .int (nI b)), (2, .int v), (3, .int 0), (4, .int (B b 4)), (5, .int (opm (bUp B b 4 v) n)), (6, .int (cntN n (qWts (bUp B b 4 v) (opm (bUp B b 4 v) n))))]) F (by decide) rfl dX4_withAnswer_50 ?_
    refine r_aload_n F 0 rfl dX4_withAnswer_52 ?_
    refine r_iload_n F 1 rfl dX4_withAnswer_53 ?_
    refine r_iconst (v := 4) F (by decide) dX4_withAnswer_54 ?_
    refine r_iload F 4 rfl dX4_withAnswer_55 ?_
    refine r_callv (g_V (C := RX4) (T := TX4) (N := 14) (nA := 3) (As := [.int (nI b), .int 4, .int (B b 4)]) (rest := []) F 61 hL_2.1 (by decide) rfl (c_X4_lay hL_2 (by omega) (w := 4) (by decide)) gX4_withAnswer_X4_lay rfl (by decide +kernel) rfl ⟨Nat.le_of_ble_eq_true rfl, Nat.le_of_ble_eq_true rfl⟩ ⟨Nat.le_of_ble_eq_true rfl, Nat.le_of_ble_eq_true rfl⟩ rfl (Nat.le_of_ble_eq_true rfl) dX4_withAnswer_57) (fun u_8 hp_8 => ?_)
    obtain ⟨hL_8, hk_8⟩ := hp_8
    have hf_9 : ∀ j, ¬ (61 ≤ j ∧ j < 69) → u_8 j = u j := fun j hj => (show u_8 j = u_2 j from hk_8 j hj).trans (hf_3 j hj)
    have hX_10 : MdX g u_8 th rm sp wr hs VA RD CH WE n (bUp (bUp B b 4 v) b 4 (B b 4)) m S t C := ⟨_, _, _, hL_8, hZ.up.up, hSV, hBF, hn16, hm6, ht60⟩
    refine r_iload F 6 rfl dX4_withAnswer_60 ?_
    exact hret _ _ _ _ _ _ (Nat.le_of_ble_eq_true rfl) (Nat.le_of_ble_eq_true rfl) ⟨rfl, ⟨_, bUp_bUp ▸ hX_10⟩, hf_9⟩ dX4_withAnswer_62
  · skip
    refine r_aload_n F 0 rfl dX4_withAnswer_0 ?_
    refine r_iload_n F 1 rfl dX4_withAnswer_1 ?_
    refine r_iconst (v := 4) F (by decide) dX4_withAnswer_2 ?_
    refine r_calli (g_V (C := RX4) (T := TX4) (N := 14) (nA := 2) (As := [.int (nI b), .int 4]) (rest := []) F 61 hL.1 (by decide) rfl (c_X4_of h hb (w := 4) (by decide)) gX4_withAnswer_X4_of rfl (by decide +kernel) rfl ⟨Nat.le_of_ble_eq_true rfl, Nat.le_of_ble_eq_true rfl⟩ ⟨Nat.le_of_ble_eq_true rfl, Nat.le_of_ble_eq_true rfl⟩ rfl (Nat.le_of_ble_eq_true rfl) dX4_withAnswer_3) (fun r_11 u_11 hp_11 => ?_)
    obtain ⟨rfl, rfl⟩ := hp_11
    refine r_istore (lv' := [(0, .ref (g.2.1 61)), (1, .int (nI b)), (2, .int v), (3, .int 1), (4, .int (B b 4))]) F (by decide) rfl dX4_withAnswer_6 ?_
    refine r_aload_n F 0 rfl dX4_withAnswer_8 ?_
    refine r_iload_n F 1 rfl dX4_withAnswer_9 ?_
    refine r_iconst (v := 4) F (by decide) dX4_withAnswer_10 ?_
    refine r_iload_n F 2 rfl dX4_withAnswer_11 ?_
    refine r_callv (g_V (C := RX4) (T := TX4) (N := 14) (nA := 3) (As := [.int (nI b), .int 4, .int v]) (rest := []) F 61 hL.1 (by decide) rfl (c_X4_lay hL (by omega) (w := 4) (by decide)) gX4_withAnswer_X4_lay rfl (by decide +kernel) rfl ⟨Nat.le_of_ble_eq_true rfl, Nat.le_of_ble_eq_true rfl⟩ ⟨Nat.le_of_ble_eq_true rfl, Nat.le_of_ble_eq_true rfl⟩ rfl (Nat.le_of_ble_eq_true rfl) dX4_withAnswer_12) (fun u_12 hp_12 => ?_)
    obtain ⟨hL_12, hk_12⟩ := hp_12
    have hf_13 : ∀ j, ¬ (61 ≤ j ∧ j < 69) → u_12 j = u j := hk_12
    have hX_14 : MdX g u_12 th rm sp wr hs VA RD CH WE n (bUp B b 4 v) m S t C := ⟨_, _, _, hL_12, hZ.up, hSV, hBF, hn16, hm6, ht60⟩
    refine r_aload_n F 0 rfl dX4_withAnswer_15 ?_
    refine r_calli (g_V (C := RX4) (T := TX4) (N := 14) (nA := 0) (As := []) (rest := []) F 61 hL_12.1 (by decide) rfl (c_X4_open hX_14 ) gX4_withAnswer_X4_open rfl (by decide +kernel) rfl ⟨Nat.le_of_ble_eq_true rfl, Nat.le_of_ble_eq_true rfl⟩ ⟨Nat.le_of_ble_eq_true rfl, Nat.le_of_ble_eq_true rfl⟩ rfl (Nat.le_of_ble_eq_true rfl) dX4_withAnswer_16) (fun r_15 u_15 hp_15 => ?_)
    obtain ⟨rfl, rfl⟩ := hp_15
    refine r_istore (lv' := [(0, .ref (g.2.1 61)), (1, .int (nI b)), (2, .int v), (3, .int 1), (4, .int (B b 4)), (5, .int (opm (bUp B b 4 v) n))]) F (by decide) rfl dX4_withAnswer_19 ?_
    refine r_iload_n F 3 rfl dX4_withAnswer_21 ?_
    refine r_if_ne F 34 (by decide) dX4_withAnswer_22 (fun c_22_16 => ?_) (fun c_22_16 => absurd c_22_16 (by decide))
    clear c_22_16
    refine r_iload_n F 3 rfl dX4_withAnswer_34 ?_
    refine r_iconst (v := 1) F (by decide) dX4_withAnswer_35 ?_
    refine r_icmp_ne F 44 (by decide) dX4_withAnswer_36 (fun c_36_17 => absurd c_36_17 (by decide)) (fun c_36_17 => ?_)
    clear c_36_17
    refine r_iload F 5 rfl dX4_withAnswer_39 ?_
    refine r_goto F 50 (by decide) dX4_withAnswer_41 ?_
    refine r_istore (lv' := [(0, .ref (g.2.1 61)), (1, .int (nI b)), (2, .int v), (3, .int 1), (4, .int (B b 4)), (5, .int (opm (bUp B b 4 v) n)), (6, .int (opm (bUp B b 4 v) n))]) F (by decide) rfl dX4_withAnswer_50 ?_
    refine r_aload_n F 0 rfl dX4_withAnswer_52 ?_
    refine r_iload_n F 1 rfl dX4_withAnswer_53 ?_
    refine r_iconst (v := 4) F (by decide) dX4_withAnswer_54 ?_
    refine r_iload F 4 rfl dX4_withAnswer_55 ?_
    refine r_callv (g_V (C := RX4) (T := TX4) (N := 14) (nA := 3) (As := [.int (nI b), .int 4, .int (B b 4)]) (rest := []) F 61 hL_12.1 (by decide) rfl (c_X4_lay hL_12 (by omega) (w := 4) (by decide)) gX4_withAnswer_X4_lay rfl (by decide +kernel) rfl ⟨Nat.le_of_ble_eq_true rfl, Nat.le_of_ble_eq_true rfl⟩ ⟨Nat.le_of_ble_eq_true rfl, Nat.le_of_ble_eq_true rfl⟩ rfl (Nat.le_of_ble_eq_true rfl) dX4_withAnswer_57) (fun u_18 hp_18 => ?_)
    obtain ⟨hL_18, hk_18⟩ := hp_18
    have hf_19 : ∀ j, ¬ (61 ≤ j ∧ j < 69) → u_18 j = u j := fun j hj => (show u_18 j = u_12 j from hk_18 j hj).trans (hf_13 j hj)
    have hX_20 : MdX g u_18 th rm sp wr hs VA RD CH WE n (bUp (bUp B b 4 v) b 4 (B b 4)) m S t C := ⟨_, _, _, hL_18, hZ.up.up, hSV, hBF, hn16, hm6, ht60⟩
    refine r_iload F 6 rfl dX4_withAnswer_60 ?_
    exact hret _ _ _ _ _ _ (Nat.le_of_ble_eq_true rfl) (Nat.le_of_ble_eq_true rfl) ⟨rfl, ⟨_, bUp_bUp ▸ hX_20⟩, hf_19⟩ dX4_withAnswer_62
  · skip
    refine r_aload_n F 0 rfl dX4_withAnswer_0 ?_
    refine r_iload_n F 1 rfl dX4_withAnswer_1 ?_
    refine r_iconst (v := 4) F (by decide) dX4_withAnswer_2 ?_
    refine r_calli (g_V (C := RX4) (T := TX4) (N := 14) (nA := 2) (As := [.int (nI b), .int 4]) (rest := []) F 61 hL.1 (by decide) rfl (c_X4_of h hb (w := 4) (by decide)) gX4_withAnswer_X4_of rfl (by decide +kernel) rfl ⟨Nat.le_of_ble_eq_true rfl, Nat.le_of_ble_eq_true rfl⟩ ⟨Nat.le_of_ble_eq_true rfl, Nat.le_of_ble_eq_true rfl⟩ rfl (Nat.le_of_ble_eq_true rfl) dX4_withAnswer_3) (fun r_21 u_21 hp_21 => ?_)
    obtain ⟨rfl, rfl⟩ := hp_21
    refine r_istore (lv' := [(0, .ref (g.2.1 61)), (1, .int (nI b)), (2, .int v), (3, .int 2), (4, .int (B b 4))]) F (by decide) rfl dX4_withAnswer_6 ?_
    refine r_aload_n F 0 rfl dX4_withAnswer_8 ?_
    refine r_iload_n F 1 rfl dX4_withAnswer_9 ?_
    refine r_iconst (v := 4) F (by decide) dX4_withAnswer_10 ?_
    refine r_iload_n F 2 rfl dX4_withAnswer_11 ?_
    refine r_callv (g_V (C := RX4) (T := TX4) (N := 14) (nA := 3) (As := [.int (nI b), .int 4, .int v]) (rest := []) F 61 hL.1 (by decide) rfl (c_X4_lay hL (by omega) (w := 4) (by decide)) gX4_withAnswer_X4_lay rfl (by decide +kernel) rfl ⟨Nat.le_of_ble_eq_true rfl, Nat.le_of_ble_eq_true rfl⟩ ⟨Nat.le_of_ble_eq_true rfl, Nat.le_of_ble_eq_true rfl⟩ rfl (Nat.le_of_ble_eq_true rfl) dX4_withAnswer_12) (fun u_22 hp_22 => ?_)
    obtain ⟨hL_22, hk_22⟩ := hp_22
    have hf_23 : ∀ j, ¬ (61 ≤ j ∧ j < 69) → u_22 j = u j := hk_22
    have hX_24 : MdX g u_22 th rm sp wr hs VA RD CH WE n (bUp B b 4 v) m S t C := ⟨_, _, _, hL_22, hZ.up, hSV, hBF, hn16, hm6, ht60⟩
    refine r_aload_n F 0 rfl dX4_withAnswer_15 ?_
    refine r_calli (g_V (C := RX4) (T := TX4) (N := 14) (nA := 0) (As := []) (rest := []) F 61 hL_22.1 (by decide) rfl (c_X4_open hX_24 ) gX4_withAnswer_X4_open rfl (by decide +kernel) rfl ⟨Nat.le_of_ble_eq_true rfl, Nat.le_of_ble_eq_true rfl⟩ ⟨Nat.le_of_ble_eq_true rfl, Nat.le_of_ble_eq_true rfl⟩ rfl (Nat.le_of_ble_eq_true rfl) dX4_withAnswer_16) (fun r_25 u_25 hp_25 => ?_)
    obtain ⟨rfl, rfl⟩ := hp_25
    refine r_istore (lv' := [(0, .ref (g.2.1 61)), (1, .int (nI b)), (2, .int v), (3, .int 2), (4, .int (B b 4)), (5, .int (opm (bUp B b 4 v) n))]) F (by decide) rfl dX4_withAnswer_19 ?_
    refine r_iload_n F 3 rfl dX4_withAnswer_21 ?_
    refine r_if_ne F 34 (by decide) dX4_withAnswer_22 (fun c_22_26 => ?_) (fun c_22_26 => absurd c_22_26 (by decide))
    clear c_22_26
    refine r_iload_n F 3 rfl dX4_withAnswer_34 ?_
    refine r_iconst (v := 1) F (by decide) dX4_withAnswer_35 ?_
    refine r_icmp_ne F 44 (by decide) dX4_withAnswer_36 (fun c_36_27 => ?_) (fun c_36_27 => absurd c_36_27 (by decide))
    clear c_36_27
    refine r_aload_n F 0 rfl dX4_withAnswer_44 ?_
    refine r_iload F 5 rfl dX4_withAnswer_45 ?_
    refine r_calli (g_V (C := RX4) (T := TX4) (N := 14) (nA := 1) (As := [.int (opm (bUp B b 4 v) n)]) (rest := []) F 61 hL_22.1 (by decide) rfl (c_X4_lastTotal hX_24) gX4_withAnswer_X4_lastTotal rfl (by decide +kernel) rfl ⟨Nat.le_of_ble_eq_true rfl, Nat.le_of_ble_eq_true rfl⟩ ⟨Nat.le_of_ble_eq_true rfl, Nat.le_of_ble_eq_true rfl⟩ rfl (Nat.le_of_ble_eq_true rfl) dX4_withAnswer_47) (fun r_28 u_28 hp_28 => ?_)
    obtain ⟨rfl, hX_28, hk_28⟩ := hp_28
    obtain ⟨Z_28, SV_28, BF_28, hL_28, hZ_28, hSV_28, hBF_28, hn_28, hm_28, ht_28⟩ := id hX_28
    have hf_29 : ∀ j, ¬ (61 ≤ j ∧ j < 69) → u_28 j = u j := fun j hj => (show u_28 j = u_22 j from hk_28 j hj).trans (hf_23 j hj)
    refine r_istore (lv' := [(0, .ref (g.2.1 61)), (1, .int (nI b)), (2, .int v), (3, .int 2), (4, .int (B b 4)), (5, .int (opm (bUp B b 4 v) n)), (6, .int (lvM (bUp B b 4 v) (valM (bUp B b 4 v) (opm (bUp B b 4 v) n) VA n) n))]) F (by decide) rfl dX4_withAnswer_50 ?_
    refine r_aload_n F 0 rfl dX4_withAnswer_52 ?_
    refine r_iload_n F 1 rfl dX4_withAnswer_53 ?_
    refine r_iconst (v := 4) F (by decide) dX4_withAnswer_54 ?_
    refine r_iload F 4 rfl dX4_withAnswer_55 ?_
    refine r_callv (g_V (C := RX4) (T := TX4) (N := 14) (nA := 3) (As := [.int (nI b), .int 4, .int (B b 4)]) (rest := []) F 61 hL_28.1 (by decide) rfl (c_X4_lay hL_28 (by omega) (w := 4) (by decide)) gX4_withAnswer_X4_lay rfl (by decide +kernel) rfl ⟨Nat.le_of_ble_eq_true rfl, Nat.le_of_ble_eq_true rfl⟩ ⟨Nat.le_of_ble_eq_true rfl, Nat.le_of_ble_eq_true rfl⟩ rfl (Nat.le_of_ble_eq_true rfl) dX4_withAnswer_57) (fun u_30 hp_30 => ?_)
    obtain ⟨hL_30, hk_30⟩ := hp_30
    have hf_31 : ∀ j, ¬ (61 ≤ j ∧ j < 69) → u_30 j = u j := fun j hj => (show u_30 j = u_28 j from hk_30 j hj).trans (hf_29 j hj)
    have hX_32 : MdX g u_30 th rm sp wr hs (valM (bUp B b 4 v) (opm (bUp B b 4 v) n) VA n) RD CH WE n (bUp (bUp B b 4 v) b 4 (B b 4)) m S t C := ⟨_, _, _, hL_30, hZ_28.up, hSV_28, hBF_28, hn_28, hm_28, ht_28⟩
    refine r_iload F 6 rfl dX4_withAnswer_60 ?_
    exact hret _ _ _ _ _ _ (Nat.le_of_ble_eq_true rfl) (Nat.le_of_ble_eq_true rfl) ⟨(by show lvM (bUp B b 4 v) _ n = valZ _ _ _; exact lvM_Z (hw.up hv) hn16 n (Nat.le_refl _)), ⟨_, bUp_bUp ▸ hX_32⟩, hf_31⟩ dX4_withAnswer_62
set_option maxHeartbeats 4000000 in
set_option maxRecDepth 100000 in
theorem c_X4_ifAnswered {g : kG} {l : Launch} {u : Nat → va_E} {th rm sp wr : Int32} {hs : Int64} {VA RD CH WE : Nat → Int32} {n m t : Nat} {B : kB} {S : Nat → kS} {C : Nat → Int32} {x v w : Int32} (h : MdX g u th rm sp wr hs VA RD CH WE n B m S t C) (hw : wfB n B) : CI g l yX4_ifAnswered wsX4_ifAnswered ({ frames := 5, cells := 0, slots := 0, locals := 117 }) [.ref (g.2.1 61), .int x, .int v, .int w] u (fun r u' => ((cdIf B n x v w = 0 ∧ r = tT B n x.toNatClampNeg v w ∧ (∃ VA', MdX g u' 0 rm sp wr hs VA' RD CH WE n B m S t C)) ∨ (∃ c, 0 < c ∧ cdIf B n x v w = c ∧ MdX g u' (nI c) rm sp wr hs VA RD CH WE n B m S t C)) ∧ ∀ j, ¬ (61 ≤ j ∧ j < 69) → u' j = u j) := by
  refine CI.of (cc := cX4_ifAnswered) (nL := 4) (ty := .int) (by decide +kernel) rfl (fun _ _ _ => rfl) (Nat.le_of_ble_eq_true rfl) ?_
  intro X hXl F hret
  subst hXl
  have hinX4 : ∀ w ∈ wsX40, w ∈ wsX4_ifAnswered := by decide +kernel
  obtain ⟨Z, SV, BF, hL, hZ, hSV, hBF, hn16, hm6, ht60⟩ := id h
  show VL g X 0 0 u 0 [(0, .ref (g.2.1 61)), (1, .int x), (2, .int v), (3, .int w)] []
  refine r_aload_n F 0 rfl dX4_ifAnswered_0 ?_
  refine r_aload_n F 0 rfl dX4_ifAnswered_1 ?_
  refine r_iload_n F 1 rfl dX4_ifAnswered_2 ?_
  refine r_calli (g_V (C := RX4) (T := TX4) (N := 14) (nA := 1) (As := [.int x]) (rest := [.ref (g.2.1 61)]) F 61 hL.1 (by decide) rfl (c_X4_isBox h ) gX4_ifAnswered_X4_isBox rfl (by decide +kernel) rfl ⟨Nat.le_of_ble_eq_true rfl, Nat.le_of_ble_eq_true rfl⟩ ⟨Nat.le_of_ble_eq_true rfl, Nat.le_of_ble_eq_true rfl⟩ rfl (Nat.le_of_ble_eq_true rfl) dX4_ifAnswered_3) (fun r_1 u_1 hp_1 => ?_)
  obtain ⟨rfl, rfl⟩ := hp_1
  refine r_if_ne F 13 (by decide) dX4_ifAnswered_6 (fun c_6_2 => ?_) (fun c_6_2 => ?_)
  · skip
    replace c_6_2 := bI1 c_6_2
    obtain ⟨b, hb, eb⟩ := hasB_of (by omega) c_6_2
    subst eb
    have hbc : (nI b).toNatClampNeg = b := nI_clamp (by omega)
    refine r_aload_n F 0 rfl dX4_ifAnswered_13 ?_
    refine r_iload_n F 1 rfl dX4_ifAnswered_14 ?_
    refine r_iload_n F 2 rfl dX4_ifAnswered_15 ?_
    refine r_calli (g_V (C := RX4) (T := TX4) (N := 14) (nA := 2) (As := [.int (nI b), .int v]) (rest := [.ref (g.2.1 61)]) F 61 hL.1 (by decide) rfl (c_X4_canHave h hw hb) gX4_ifAnswered_X4_canHave rfl (by decide +kernel) rfl ⟨Nat.le_of_ble_eq_true rfl, Nat.le_of_ble_eq_true rfl⟩ ⟨Nat.le_of_ble_eq_true rfl, Nat.le_of_ble_eq_true rfl⟩ rfl (Nat.le_of_ble_eq_true rfl) dX4_ifAnswered_16) (fun r_3 u_3 hp_3 => ?_)
    obtain ⟨rfl, rfl⟩ := hp_3
    refine r_if_eq F 35 (by decide) dX4_ifAnswered_19 (fun c_19_4 => ?_) (fun c_19_4 => ?_)
    · skip
      replace c_19_4 := bI0 c_19_4
      refine r_iconst (v := 2) F (by decide) dX4_ifAnswered_35 ?_
      refine r_put (C := RX4) (T := TX4) (N := 14) (ty := .int) F 61 hL.1 (by decide) hinX4 tyX4 tyX4_ok nmX4 rfl 0 (by decide) (by decide +kernel) rfl (by decide +kernel) rfl rfl (Nat.le_of_ble_eq_true rfl) dX4_ifAnswered_36 (fun u_5 hu_5 => ?_)
      have hL_6 := hL.num (th' := 2) (sm' := nI m) (ty' := nI t) (rm' := rm) (sp' := sp) (wr' := wr) (hs' := hs)
      replace hL_6 : MdL g u_5 2 (nI m) (nI t) rm sp wr hs Z SV BF VA RD CH WE := by rw [hu_5]; exact hL_6
      have hf_7 : ∀ j, ¬ (61 ≤ j ∧ j < 69) → u_5 j = u j := (fun j hj => by rw [hu_5]; exact vne (by omega))
      have hX_8 : MdX g u_5 2 rm sp wr hs VA RD CH WE n B m S t C := ⟨_, _, _, hL_6, hZ, hSV, hBF, hn16, hm6, ht60⟩
      refine r_aload_n F 0 rfl dX4_ifAnswered_39 ?_
      refine r_get (C := RX4) (T := TX4) (N := 14) F 61 hL_6.1 (by decide) hinX4 rfl 0 (by decide) (by decide +kernel) rfl dX4_ifAnswered_40 ?_
      refine r_if_le F 50 (by decide) dX4_ifAnswered_43 (fun c_43_9 => absurd c_43_9 (by decide)) (fun c_43_9 => ?_)
      clear c_43_9
      refine r_iconst (v := 0) F (by decide) dX4_ifAnswered_46 ?_
      refine r_goto F 57 (by decide) dX4_ifAnswered_47 ?_
      exact hret _ _ _ _ _ _ (Nat.le_of_ble_eq_true rfl) (Nat.le_of_ble_eq_true rfl) (by rw [hbc]; exact ⟨Or.inr ⟨2, by decide, by simp [cdIf, ifOk, c_6_2, c_19_4, hbc], hX_8⟩, hf_7⟩) dX4_ifAnswered_57
    · skip
      replace c_19_4 := bI1 c_19_4
      have hfit := c_19_4
      refine r_iload_n F 3 rfl dX4_ifAnswered_22 ?_
      refine r_iconst (v := 0) F (by decide) dX4_ifAnswered_23 ?_
      refine r_iconst (v := 2) F (by decide) dX4_ifAnswered_24 ?_
      refine r_calli (g_S (nA := 3) (As := [.int w, .int 0, .int 2]) (rest := [.ref (g.2.1 61)]) F (c_X4_in) gX4_ifAnswered_X4_in rfl (by decide +kernel) rfl ⟨Nat.le_of_ble_eq_true rfl, Nat.le_of_ble_eq_true rfl⟩ ⟨Nat.le_of_ble_eq_true rfl, Nat.le_of_ble_eq_true rfl⟩ rfl (Nat.le_of_ble_eq_true rfl) dX4_ifAnswered_25) (fun r_10 u_10 hp_10 => ?_)
      obtain ⟨rfl, rfl⟩ := hp_10
      refine r_if_eq F 35 (by decide) dX4_ifAnswered_28 (fun c_28_11 => ?_) (fun c_28_11 => ?_)
      · skip
        replace c_28_11 := bI0 c_28_11
        refine r_iconst (v := 2) F (by decide) dX4_ifAnswered_35 ?_
        refine r_put (C := RX4) (T := TX4) (N := 14) (ty := .int) F 61 hL.1 (by decide) hinX4 tyX4 tyX4_ok nmX4 rfl 0 (by decide) (by decide +kernel) rfl (by decide +kernel) rfl rfl (Nat.le_of_ble_eq_true rfl) dX4_ifAnswered_36 (fun u_12 hu_12 => ?_)
        have hL_13 := hL.num (th' := 2) (sm' := nI m) (ty' := nI t) (rm' := rm) (sp' := sp) (wr' := wr) (hs' := hs)
        replace hL_13 : MdL g u_12 2 (nI m) (nI t) rm sp wr hs Z SV BF VA RD CH WE := by rw [hu_12]; exact hL_13
        have hf_14 : ∀ j, ¬ (61 ≤ j ∧ j < 69) → u_12 j = u j := (fun j hj => by rw [hu_12]; exact vne (by omega))
        have hX_15 : MdX g u_12 2 rm sp wr hs VA RD CH WE n B m S t C := ⟨_, _, _, hL_13, hZ, hSV, hBF, hn16, hm6, ht60⟩
        refine r_aload_n F 0 rfl dX4_ifAnswered_39 ?_
        refine r_get (C := RX4) (T := TX4) (N := 14) F 61 hL_13.1 (by decide) hinX4 rfl 0 (by decide) (by decide +kernel) rfl dX4_ifAnswered_40 ?_
        refine r_if_le F 50 (by decide) dX4_ifAnswered_43 (fun c_43_16 => absurd c_43_16 (by decide)) (fun c_43_16 => ?_)
        clear c_43_16
        refine r_iconst (v := 0) F (by decide) dX4_ifAnswered_46 ?_
        refine r_goto F 57 (by decide) dX4_ifAnswered_47 ?_
        exact hret _ _ _ _ _ _ (Nat.le_of_ble_eq_true rfl) (Nat.le_of_ble_eq_true rfl) (by rw [hbc]; exact ⟨Or.inr ⟨2, by decide, by simp [cdIf, ifOk, c_6_2, c_19_4, c_28_11, hbc], hX_15⟩, hf_14⟩) dX4_ifAnswered_57
      · skip
        replace c_28_11 := bI1 c_28_11
        obtain ⟨w1, hw8, ew⟩ := wi_N (k := 2) (by decide) c_28_11
        subst ew
        refine r_iconst (v := 0) F (by decide) dX4_ifAnswered_31 ?_
        refine r_goto F 36 (by decide) dX4_ifAnswered_32 ?_
        refine r_put (C := RX4) (T := TX4) (N := 14) (ty := .int) F 61 hL.1 (by decide) hinX4 tyX4 tyX4_ok nmX4 rfl 0 (by decide) (by decide +kernel) rfl (by decide +kernel) rfl rfl (Nat.le_of_ble_eq_true rfl) dX4_ifAnswered_36 (fun u_17 hu_17 => ?_)
        have hL_18 := hL.num (th' := 0) (sm' := nI m) (ty' := nI t) (rm' := rm) (sp' := sp) (wr' := wr) (hs' := hs)
        replace hL_18 : MdL g u_17 0 (nI m) (nI t) rm sp wr hs Z SV BF VA RD CH WE := by rw [hu_17]; exact hL_18
        have hf_19 : ∀ j, ¬ (61 ≤ j ∧ j < 69) → u_17 j = u j := (fun j hj => by rw [hu_17]; exact vne (by omega))
        have hX_20 : MdX g u_17 0 rm sp wr hs VA RD CH WE n B m S t C := ⟨_, _, _, hL_18, hZ, hSV, hBF, hn16, hm6, ht60⟩
        refine r_aload_n F 0 rfl dX4_ifAnswered_39 ?_
        refine r_get (C := RX4) (T := TX4) (N := 14) F 61 hL_18.1 (by decide) hinX4 rfl 0 (by decide) (by decide +kernel) rfl dX4_ifAnswered_40 ?_
        refine r_if_le F 50 (by decide) dX4_ifAnswered_43 (fun c_43_21 => ?_) (fun c_43_21 => absurd c_43_21 (by decide))
        clear c_43_21
        refine r_aload_n F 0 rfl dX4_ifAnswered_50 ?_
        refine r_iload_n F 1 rfl dX4_ifAnswered_51 ?_
        refine r_iload_n F 2 rfl dX4_ifAnswered_52 ?_
        refine r_iload_n F 3 rfl dX4_ifAnswered_53 ?_
        refine r_calli (g_V (C := RX4) (T := TX4) (N := 14) (nA := 3) (As := [.int (nI b), .int v, .int (nI w1)]) (rest := []) F 61 hL_18.1 (by decide) rfl (c_X4_withAnswer hX_20 hw hb (fitA_3 hfit) hw8) gX4_ifAnswered_X4_withAnswer rfl (by decide +kernel) rfl ⟨Nat.le_of_ble_eq_true rfl, Nat.le_of_ble_eq_true rfl⟩ ⟨Nat.le_of_ble_eq_true rfl, Nat.le_of_ble_eq_true rfl⟩ rfl (Nat.le_of_ble_eq_true rfl) dX4_ifAnswered_54) (fun r_22 u_22 hp_22 => ?_)
        obtain ⟨rfl, ⟨VA_22, hX_22⟩, hk_22⟩ := hp_22
        obtain ⟨Z_22, SV_22, BF_22, hL_22, hZ_22, hSV_22, hBF_22, hn_22, hm_22, ht_22⟩ := id hX_22
        have hf_23 : ∀ j, ¬ (61 ≤ j ∧ j < 69) → u_22 j = u j := fun j hj => (show u_22 j = u_17 j from hk_22 j hj).trans (hf_19 j hj)
        exact hret _ _ _ _ _ _ (Nat.le_of_ble_eq_true rfl) (Nat.le_of_ble_eq_true rfl) (by rw [hbc]; exact ⟨Or.inl ⟨by simp [cdIf, ifOk, c_6_2, c_19_4, c_28_11, hbc], rfl, ⟨_, hX_22⟩⟩, hf_23⟩) dX4_ifAnswered_57
  · skip
    replace c_6_2 := bI0 c_6_2
    refine r_iconst (v := 1) F (by decide) dX4_ifAnswered_9 ?_
    refine r_goto F 36 (by decide) dX4_ifAnswered_10 ?_
    refine r_put (C := RX4) (T := TX4) (N := 14) (ty := .int) F 61 hL.1 (by decide) hinX4 tyX4 tyX4_ok nmX4 rfl 0 (by decide) (by decide +kernel) rfl (by decide +kernel) rfl rfl (Nat.le_of_ble_eq_true rfl) dX4_ifAnswered_36 (fun u_24 hu_24 => ?_)
    have hL_25 := hL.num (th' := 1) (sm' := nI m) (ty' := nI t) (rm' := rm) (sp' := sp) (wr' := wr) (hs' := hs)
    replace hL_25 : MdL g u_24 1 (nI m) (nI t) rm sp wr hs Z SV BF VA RD CH WE := by rw [hu_24]; exact hL_25
    have hf_26 : ∀ j, ¬ (61 ≤ j ∧ j < 69) → u_24 j = u j := (fun j hj => by rw [hu_24]; exact vne (by omega))
    have hX_27 : MdX g u_24 1 rm sp wr hs VA RD CH WE n B m S t C := ⟨_, _, _, hL_25, hZ, hSV, hBF, hn16, hm6, ht60⟩
    refine r_aload_n F 0 rfl dX4_ifAnswered_39 ?_
    refine r_get (C := RX4) (T := TX4) (N := 14) F 61 hL_25.1 (by decide) hinX4 rfl 0 (by decide) (by decide +kernel) rfl dX4_ifAnswered_40 ?_
    refine r_if_le F 50 (by decide) dX4_ifAnswered_43 (fun c_43_28 => absurd c_43_28 (by decide)) (fun c_43_28 => ?_)
    clear c_43_28
    refine r_iconst (v := 0) F (by decide) dX4_ifAnswered_46 ?_
    refine r_goto F 57 (by decide) dX4_ifAnswered_47 ?_
    exact hret _ _ _ _ _ _ (Nat.le_of_ble_eq_true rfl) (Nat.le_of_ble_eq_true rfl) ⟨Or.inr ⟨1, by decide, by simp [cdIf, ifOk, c_6_2], hX_27⟩, hf_26⟩ dX4_ifAnswered_57

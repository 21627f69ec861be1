set_option maxHeartbeats 4000000 in
set_option maxRecDepth 100000 in
theorem c_X4_readPart {g : kG} {l : Launch} {u : Nat → va_E} {th  : Int32} {hs : Int64} {VA RD CH WE : Nat → Int32} {n m t : Nat} {B : kB} {S : Nat → kS} {C : Nat → Int32} {k p : Nat} (h : MdX g u th (nI k) (nI p) (-1) hs VA RD CH WE n B m S t C) (hk2 : 2 * k + 1 < 34) (hp : p ≤ t) (h0 : stN C p = 0) (he : anyN p (qErr C) = false) : CV g l yX4_readPart wsX4_readPart ({ frames := 2, cells := 0, slots := 0, locals := 45 }) [.ref (g.2.1 61)] u (fun u' => ((∃ e RD', ErrAt C t e ∧ MdX g u' th (nI (k + 1)) (nI (e + 1)) (nI e) hs VA RD' CH WE n B m S t C) ∨ (∃ q bx vl, PartR C t p q bx vl ∧ MdX g u' th (nI (k + 1)) (nI q) (-1) hs VA (upd (upd RD (2 * k) bx) (2 * k + 1) vl) CH WE n B m S t C)) ∧ ∀ j, ¬ (61 ≤ j ∧ j < 69) → u' j = u j) := by
  refine CV.of (cc := cX4_readPart) (nL := 2) (by decide +kernel) rfl (Nat.le_of_ble_eq_true rfl) ?_
  intro X hXl F hret
  subst hXl
  have hinX4 : ∀ w ∈ wsX40, w ∈ wsX4_readPart := by decide +kernel
  obtain ⟨Z, SV, BF, hL, hZ, hSV, hBF, hn16, hm6, ht60⟩ := id h
  show VL g X 0 0 u 0 [(0, .ref (g.2.1 61))] []
  refine r_iconst (v := 2) F (by decide) dX4_readPart_0 ?_
  refine r_aload_n F 0 rfl dX4_readPart_1 ?_
  refine r_get (C := RX4) (T := TX4) (N := 14) F 61 hL.1 (by decide) hinX4 rfl 8 (by decide) (by decide +kernel) rfl dX4_readPart_2 ?_
  refine r_imul F dX4_readPart_5 ?_
  refine r_eq (st2 := [.int (nI (2 * k))]) (by rw [show (2 : Int32) = nI 2 from rfl, pk_mul]) rfl ?_
  refine r_istore_n (lv' := [(0, .ref (g.2.1 61)), (1, .int (nI (2 * k)))]) F (by decide) rfl dX4_readPart_6 ?_
  refine r_aload_n F 0 rfl dX4_readPart_7 ?_
  refine r_get (C := RX4) (T := TX4) (N := 14) F 61 hL.1 (by decide) hinX4 rfl 7 (by decide) (by decide +kernel) rfl dX4_readPart_8 ?_
  refine r_iload_n F 1 rfl dX4_readPart_11 ?_
  refine r_aload_n F 0 rfl dX4_readPart_12 ?_
  refine r_bipush (v := 15) F (by decide) dX4_readPart_13 ?_
  refine r_calli (g_V (C := RX4) (T := TX4) (N := 14) (nA := 1) (As := [.int 15]) (rest := [.int (nI (2 * k)), .ref (g.2.1 66)]) F 61 hL.1 (by decide) rfl (c_X4_number (most := 15) h (by omega)) gX4_readPart_X4_number rfl (by decide +kernel) rfl ⟨Nat.le_of_ble_eq_true rfl, Nat.le_of_ble_eq_true rfl⟩ ⟨Nat.le_of_ble_eq_true rfl, Nat.le_of_ble_eq_true rfl⟩ rfl (Nat.le_of_ble_eq_true rfl) dX4_readPart_15) (fun r_1 u_1 hp_1 => ?_)
  obtain ⟨hd_1, hk_1⟩ := hp_1
  have hf_2 : ∀ j, ¬ (61 ≤ j ∧ j < 69) → u_1 j = u j := hk_1
  rcases hd_1 with ⟨hdd, hX_3⟩ | ⟨hdd, er, hX_3⟩
  · skip
    have hErr : ErrAt C t p := err_0 hp h0 he hdd
    obtain ⟨Z_4, SV_4, BF_4, hL_4, hZ_4, hSV_4, hBF_4, hn_4, hm_4, ht_4⟩ := id hX_3
    refine r_iast F 66 hL_4.2.2.2.2.2.1 (by decide) (vp_in_nI (by omega) (by decide)) dX4_readPart_18 (fun u_5 hu_5 => ?_)
    have hL_6 := hL_4.upR (Z' := (upd RD (2 * k) r_1))
    rw [nI_clamp (by omega)] at hu_5
    rw [← hu_5] at hL_6
    have hf_7 : ∀ j, ¬ (61 ≤ j ∧ j < 69) → u_5 j = u j := fun j hj => (show u_5 j = u_1 j from (fun j hj => by rw [hu_5]; exact vne (by omega)) j hj).trans (hf_2 j hj)
    have hX_8 : MdX g u_5 th (nI k) (nI (p + 1)) (nI p) hs VA (upd RD (2 * k) r_1) CH WE n B m S t C := ⟨_, _, _, hL_6, hZ_4, hSV_4, hBF_4, hn_4, hm_4, ht_4⟩
    refine r_aload_n F 0 rfl dX4_readPart_19 ?_
    refine r_aload_n F 0 rfl dX4_readPart_20 ?_
    refine r_calli (g_V (C := RX4) (T := TX4) (N := 14) (nA := 0) (As := []) (rest := [.ref (g.2.1 61)]) F 61 hL_6.1 (by decide) rfl (c_X4_letter hX_8 (by omega)) gX4_readPart_X4_letter rfl (by decide +kernel) rfl ⟨Nat.le_of_ble_eq_true rfl, Nat.le_of_ble_eq_true rfl⟩ ⟨Nat.le_of_ble_eq_true rfl, Nat.le_of_ble_eq_true rfl⟩ rfl (Nat.le_of_ble_eq_true rfl) dX4_readPart_21) (fun r_9 u_9 hp_9 => ?_)
    obtain ⟨rfl, rfl⟩ := hp_9
    refine r_bipush (v := 61) F (by decide) dX4_readPart_24 ?_
    refine r_icmp_ne F 33 (by decide) dX4_readPart_26 (fun c_26_10 => ?_) (fun c_26_10 => ?_)
    · skip
      refine r_iconst (v := 0) F (by decide) dX4_readPart_33 ?_
      refine r_callv (g_V (C := RX4) (T := TX4) (N := 14) (nA := 1) (As := [.int 0]) (rest := []) F 61 hL_6.1 (by decide) rfl (c_X4_needsW hX_8 (nI_ne1 (by omega))) gX4_readPart_X4_needs rfl (by decide +kernel) rfl ⟨Nat.le_of_ble_eq_true rfl, Nat.le_of_ble_eq_true rfl⟩ ⟨Nat.le_of_ble_eq_true rfl, Nat.le_of_ble_eq_true rfl⟩ rfl (Nat.le_of_ble_eq_true rfl) dX4_readPart_34) (fun u_11 hp_11 => ?_)
      obtain rfl := hp_11
      refine r_aload_n F 0 rfl dX4_readPart_37 ?_
      refine r_get (C := RX4) (T := TX4) (N := 14) F 61 hL_6.1 (by decide) hinX4 rfl 10 (by decide) (by decide +kernel) rfl dX4_readPart_38 ?_
      refine r_iconst (v := -1) F (by decide) dX4_readPart_41 ?_
      refine r_icmp_ne F 76 (by decide) dX4_readPart_42 (fun c_42_12 => ?_) (fun c_42_12 => absurd c_42_12 (nI_ne1 (by omega)))
      clear c_42_12
      refine r_aload_n F 0 rfl dX4_readPart_76 ?_
      refine r_get (C := RX4) (T := TX4) (N := 14) F 61 hL_6.1 (by decide) hinX4 rfl 7 (by decide) (by decide +kernel) rfl dX4_readPart_77 ?_
      refine r_iload_n F 1 rfl dX4_readPart_80 ?_
      refine r_iconst (v := 1) F (by decide) dX4_readPart_81 ?_
      refine r_iadd F dX4_readPart_82 ?_
      refine r_aload_n F 0 rfl dX4_readPart_83 ?_
      refine r_ldc (v := 99999) F (by decide +kernel) dX4_readPart_84 ?_
      refine r_calli (g_V (C := RX4) (T := TX4) (N := 14) (nA := 1) (As := [.int 99999]) (rest := [.int ((nI (2 * k)) + 1), .ref (g.2.1 66)]) F 61 hL_6.1 (by decide) rfl (c_X4_numberW (most := 99999) hX_8 (by omega) (nI_ne1 (by omega))) gX4_readPart_X4_number rfl (by decide +kernel) rfl ⟨Nat.le_of_ble_eq_true rfl, Nat.le_of_ble_eq_true rfl⟩ ⟨Nat.le_of_ble_eq_true rfl, Nat.le_of_ble_eq_true rfl⟩ rfl (Nat.le_of_ble_eq_true rfl) dX4_readPart_86) (fun r_13 u_13 hp_13 => ?_)
      obtain rfl := hp_13
      refine r_iast F 66 hL_6.2.2.2.2.2.1 (by decide) (by rw [nI_1]; exact vp_in_nI (by omega) (by decide)) dX4_readPart_89 (fun u_14 hu_14 => ?_)
      have hL_15 := hL_6.upR (Z' := (upd (upd RD (2 * k) r_1) (2 * k + 1) r_13))
      rw [nI_1, nI_clamp (by omega)] at hu_14
      rw [← hu_14] at hL_15
      have hf_16 : ∀ j, ¬ (61 ≤ j ∧ j < 69) → u_14 j = u j := fun j hj => (show u_14 j = u_5 j from (fun j hj => by rw [hu_14]; exact vne (by omega)) j hj).trans (hf_7 j hj)
      have hX_17 : MdX g u_14 th (nI k) (nI (p + 1)) (nI p) hs VA (upd (upd RD (2 * k) r_1) (2 * k + 1) r_13) CH WE n B m S t C := ⟨_, _, _, hL_15, hZ_4, hSV_4, hBF_4, hn_4, hm_4, ht_4⟩
      refine r_aload_n F 0 rfl dX4_readPart_90 ?_
      refine r_dup F rfl dX4_readPart_91 ?_
      refine r_get (C := RX4) (T := TX4) (N := 14) F 61 hL_15.1 (by decide) hinX4 rfl 8 (by decide) (by decide +kernel) rfl dX4_readPart_92 ?_
      refine r_iconst (v := 1) F (by decide) dX4_readPart_95 ?_
      refine r_iadd F dX4_readPart_96 ?_
      refine r_put (C := RX4) (T := TX4) (N := 14) (ty := .int) F 61 hL_15.1 (by decide) hinX4 tyX4 tyX4_ok nmX4 rfl 8 (by decide) (by decide +kernel) rfl (by decide +kernel) rfl rfl (Nat.le_of_ble_eq_true rfl) dX4_readPart_97 (fun u_18 hu_18 => ?_)
      rw [nI_1] at hu_18
      have hL_19 := hL_15.num (th' := th) (sm' := nI m) (ty' := nI t) (rm' := (nI (k + 1))) (sp' := (nI (p + 1))) (wr' := (nI p)) (hs' := hs)
      replace hL_19 : MdL g u_18 th (nI m) (nI t) (nI (k + 1)) (nI (p + 1)) (nI p) hs Z_4 SV_4 BF_4 VA (upd (upd RD (2 * k) r_1) (2 * k + 1) r_13) CH WE := by rw [hu_18]; exact hL_19
      have hf_20 : ∀ j, ¬ (61 ≤ j ∧ j < 69) → u_18 j = u j := fun j hj => (show u_18 j = u_14 j from (fun j hj => by rw [hu_18]; exact vne (by omega)) j hj).trans (hf_16 j hj)
      have hX_21 : MdX g u_18 th (nI (k + 1)) (nI (p + 1)) (nI p) hs VA (upd (upd RD (2 * k) r_1) (2 * k + 1) r_13) CH WE n B m S t C := ⟨_, _, _, hL_19, hZ_4, hSV_4, hBF_4, hn_4, hm_4, ht_4⟩
      exact hret _ _ _ _ _ (Nat.le_of_ble_eq_true rfl) (Nat.le_of_ble_eq_true rfl) ⟨Or.inl ⟨_, _, hErr, hX_21⟩, hf_20⟩ dX4_readPart_100
    · skip
      refine r_iconst (v := 1) F (by decide) dX4_readPart_29 ?_
      refine r_goto F 34 (by decide) dX4_readPart_30 ?_
      refine r_callv (g_V (C := RX4) (T := TX4) (N := 14) (nA := 1) (As := [.int 1]) (rest := []) F 61 hL_6.1 (by decide) rfl (c_X4_needsW hX_8 (nI_ne1 (by omega))) gX4_readPart_X4_needs rfl (by decide +kernel) rfl ⟨Nat.le_of_ble_eq_true rfl, Nat.le_of_ble_eq_true rfl⟩ ⟨Nat.le_of_ble_eq_true rfl, Nat.le_of_ble_eq_true rfl⟩ rfl (Nat.le_of_ble_eq_true rfl) dX4_readPart_34) (fun u_22 hp_22 => ?_)
      obtain rfl := hp_22
      refine r_aload_n F 0 rfl dX4_readPart_37 ?_
      refine r_get (C := RX4) (T := TX4) (N := 14) F 61 hL_6.1 (by decide) hinX4 rfl 10 (by decide) (by decide +kernel) rfl dX4_readPart_38 ?_
      refine r_iconst (v := -1) F (by decide) dX4_readPart_41 ?_
      refine r_icmp_ne F 76 (by decide) dX4_readPart_42 (fun c_42_23 => ?_) (fun c_42_23 => absurd c_42_23 (nI_ne1 (by omega)))
      clear c_42_23
      refine r_aload_n F 0 rfl dX4_readPart_76 ?_
      refine r_get (C := RX4) (T := TX4) (N := 14) F 61 hL_6.1 (by decide) hinX4 rfl 7 (by decide) (by decide +kernel) rfl dX4_readPart_77 ?_
      refine r_iload_n F 1 rfl dX4_readPart_80 ?_
      refine r_iconst (v := 1) F (by decide) dX4_readPart_81 ?_
      refine r_iadd F dX4_readPart_82 ?_
      refine r_aload_n F 0 rfl dX4_readPart_83 ?_
      refine r_ldc (v := 99999) F (by decide +kernel) dX4_readPart_84 ?_
      refine r_calli (g_V (C := RX4) (T := TX4) (N := 14) (nA := 1) (As := [.int 99999]) (rest := [.int ((nI (2 * k)) + 1), .ref (g.2.1 66)]) F 61 hL_6.1 (by decide) rfl (c_X4_numberW (most := 99999) hX_8 (by omega) (nI_ne1 (by omega))) gX4_readPart_X4_number rfl (by decide +kernel) rfl ⟨Nat.le_of_ble_eq_true rfl, Nat.le_of_ble_eq_true rfl⟩ ⟨Nat.le_of_ble_eq_true rfl, Nat.le_of_ble_eq_true rfl⟩ rfl (Nat.le_of_ble_eq_true rfl) dX4_readPart_86) (fun r_24 u_24 hp_24 => ?_)
      obtain rfl := hp_24
      refine r_iast F 66 hL_6.2.2.2.2.2.1 (by decide) (by rw [nI_1]; exact vp_in_nI (by omega) (by decide)) dX4_readPart_89 (fun u_25 hu_25 => ?_)
      have hL_26 := hL_6.upR (Z' := (upd (upd RD (2 * k) r_1) (2 * k + 1) r_24))
      rw [nI_1, nI_clamp (by omega)] at hu_25
      rw [← hu_25] at hL_26
      have hf_27 : ∀ j, ¬ (61 ≤ j ∧ j < 69) → u_25 j = u j := fun j hj => (show u_25 j = u_5 j from (fun j hj => by rw [hu_25]; exact vne (by omega)) j hj).trans (hf_7 j hj)
      have hX_28 : MdX g u_25 th (nI k) (nI (p + 1)) (nI p) hs VA (upd (upd RD (2 * k) r_1) (2 * k + 1) r_24) CH WE n B m S t C := ⟨_, _, _, hL_26, hZ_4, hSV_4, hBF_4, hn_4, hm_4, ht_4⟩
      refine r_aload_n F 0 rfl dX4_readPart_90 ?_
      refine r_dup F rfl dX4_readPart_91 ?_
      refine r_get (C := RX4) (T := TX4) (N := 14) F 61 hL_26.1 (by decide) hinX4 rfl 8 (by decide) (by decide +kernel) rfl dX4_readPart_92 ?_
      refine r_iconst (v := 1) F (by decide) dX4_readPart_95 ?_
      refine r_iadd F dX4_readPart_96 ?_
      refine r_put (C := RX4) (T := TX4) (N := 14) (ty := .int) F 61 hL_26.1 (by decide) hinX4 tyX4 tyX4_ok nmX4 rfl 8 (by decide) (by decide +kernel) rfl (by decide +kernel) rfl rfl (Nat.le_of_ble_eq_true rfl) dX4_readPart_97 (fun u_29 hu_29 => ?_)
      rw [nI_1] at hu_29
      have hL_30 := hL_26.num (th' := th) (sm' := nI m) (ty' := nI t) (rm' := (nI (k + 1))) (sp' := (nI (p + 1))) (wr' := (nI p)) (hs' := hs)
      replace hL_30 : MdL g u_29 th (nI m) (nI t) (nI (k + 1)) (nI (p + 1)) (nI p) hs Z_4 SV_4 BF_4 VA (upd (upd RD (2 * k) r_1) (2 * k + 1) r_24) CH WE := by rw [hu_29]; exact hL_30
      have hf_31 : ∀ j, ¬ (61 ≤ j ∧ j < 69) → u_29 j = u j := fun j hj => (show u_29 j = u_25 j from (fun j hj => by rw [hu_29]; exact vne (by omega)) j hj).trans (hf_27 j hj)
      have hX_32 : MdX g u_29 th (nI (k + 1)) (nI (p + 1)) (nI p) hs VA (upd (upd RD (2 * k) r_1) (2 * k + 1) r_24) CH WE n B m S t C := ⟨_, _, _, hL_30, hZ_4, hSV_4, hBF_4, hn_4, hm_4, ht_4⟩
      exact hret _ _ _ _ _ (Nat.le_of_ble_eq_true rfl) (Nat.le_of_ble_eq_true rfl) ⟨Or.inl ⟨_, _, hErr, hX_32⟩, hf_31⟩ dX4_readPart_100
  · skip
    have hB := box_r hdd h0 he
    obtain ⟨⟨q, rb⟩, hNG⟩ : ∃ z, z = numG 15 C t (t - (p + 1)) (p + 1) (codC C t p - 48) := ⟨_, rfl⟩
    rw [← hNG] at hB er hX_3
    replace hB : BoxR C t p q rb := hB
    replace er : r_1 = rb := er
    subst er
    have hqt : q ≤ t := hB.2.1
    have hpq : p < q := hB.1
    replace hX_3 : MdX g u_1 th (nI k) (nI q) (-1) hs VA RD CH WE n B m S t C := hX_3
    obtain ⟨Z_33, SV_33, BF_33, hL_33, hZ_33, hSV_33, hBF_33, hn_33, hm_33, ht_33⟩ := id hX_3
    refine r_iast F 66 hL_33.2.2.2.2.2.1 (by decide) (vp_in_nI (by omega) (by decide)) dX4_readPart_18 (fun u_34 hu_34 => ?_)
    have hL_35 := hL_33.upR (Z' := (upd RD (2 * k) r_1))
    rw [nI_clamp (by omega)] at hu_34
    rw [← hu_34] at hL_35
    have hf_36 : ∀ j, ¬ (61 ≤ j ∧ j < 69) → u_34 j = u j := fun j hj => (show u_34 j = u_1 j from (fun j hj => by rw [hu_34]; exact vne (by omega)) j hj).trans (hf_2 j hj)
    have hX_37 : MdX g u_34 th (nI k) (nI q) (-1) hs VA (upd RD (2 * k) r_1) CH WE n B m S t C := ⟨_, _, _, hL_35, hZ_33, hSV_33, hBF_33, hn_33, hm_33, ht_33⟩
    refine r_aload_n F 0 rfl dX4_readPart_19 ?_
    refine r_aload_n F 0 rfl dX4_readPart_20 ?_
    refine r_calli (g_V (C := RX4) (T := TX4) (N := 14) (nA := 0) (As := []) (rest := [.ref (g.2.1 61)]) F 61 hL_35.1 (by decide) rfl (c_X4_letter hX_37 (by omega)) gX4_readPart_X4_letter rfl (by decide +kernel) rfl ⟨Nat.le_of_ble_eq_true rfl, Nat.le_of_ble_eq_true rfl⟩ ⟨Nat.le_of_ble_eq_true rfl, Nat.le_of_ble_eq_true rfl⟩ rfl (Nat.le_of_ble_eq_true rfl) dX4_readPart_21) (fun r_38 u_38 hp_38 => ?_)
    obtain ⟨rfl, rfl⟩ := hp_38
    refine r_bipush (v := 61) F (by decide) dX4_readPart_24 ?_
    refine r_icmp_ne F 33 (by decide) dX4_readPart_26 (fun c_26_39 => ?_) (fun c_26_39 => ?_)
    · skip
      have hErr : ErrAt C t q := err_1 hB c_26_39
      refine r_iconst (v := 0) F (by decide) dX4_readPart_33 ?_
      refine r_callv (g_V (C := RX4) (T := TX4) (N := 14) (nA := 1) (As := [.int 0]) (rest := []) F 61 hL_35.1 (by decide) rfl (c_X4_needs (f := false) hX_37) gX4_readPart_X4_needs rfl (by decide +kernel) rfl ⟨Nat.le_of_ble_eq_true rfl, Nat.le_of_ble_eq_true rfl⟩ ⟨Nat.le_of_ble_eq_true rfl, Nat.le_of_ble_eq_true rfl⟩ rfl (Nat.le_of_ble_eq_true rfl) dX4_readPart_34) (fun u_40 hp_40 => ?_)
      obtain ⟨hX_40, hk_40⟩ := hp_40
      rw [if_neg (by decide)] at hX_40
      obtain ⟨Z_40, SV_40, BF_40, hL_40, hZ_40, hSV_40, hBF_40, hn_40, hm_40, ht_40⟩ := id hX_40
      have hf_41 : ∀ j, ¬ (61 ≤ j ∧ j < 69) → u_40 j = u j := fun j hj => (show u_40 j = u_34 j from hk_40 j hj).trans (hf_36 j hj)
      refine r_aload_n F 0 rfl dX4_readPart_37 ?_
      refine r_get (C := RX4) (T := TX4) (N := 14) F 61 hL_40.1 (by decide) hinX4 rfl 10 (by decide) (by decide +kernel) rfl dX4_readPart_38 ?_
      refine r_iconst (v := -1) F (by decide) dX4_readPart_41 ?_
      refine r_icmp_ne F 76 (by decide) dX4_readPart_42 (fun c_42_42 => ?_) (fun c_42_42 => absurd c_42_42 (nI_ne1 (by omega)))
      clear c_42_42
      refine r_aload_n F 0 rfl dX4_readPart_76 ?_
      refine r_get (C := RX4) (T := TX4) (N := 14) F 61 hL_40.1 (by decide) hinX4 rfl 7 (by decide) (by decide +kernel) rfl dX4_readPart_77 ?_
      refine r_iload_n F 1 rfl dX4_readPart_80 ?_
      refine r_iconst (v := 1) F (by decide) dX4_readPart_81 ?_
      refine r_iadd F dX4_readPart_82 ?_
      refine r_aload_n F 0 rfl dX4_readPart_83 ?_
      refine r_ldc (v := 99999) F (by decide +kernel) dX4_readPart_84 ?_
      refine r_calli (g_V (C := RX4) (T := TX4) (N := 14) (nA := 1) (As := [.int 99999]) (rest := [.int ((nI (2 * k)) + 1), .ref (g.2.1 66)]) F 61 hL_40.1 (by decide) rfl (c_X4_numberW (most := 99999) hX_40 (by omega) (nI_ne1 (by omega))) gX4_readPart_X4_number rfl (by decide +kernel) rfl ⟨Nat.le_of_ble_eq_true rfl, Nat.le_of_ble_eq_true rfl⟩ ⟨Nat.le_of_ble_eq_true rfl, Nat.le_of_ble_eq_true rfl⟩ rfl (Nat.le_of_ble_eq_true rfl) dX4_readPart_86) (fun r_43 u_43 hp_43 => ?_)
      obtain rfl := hp_43
      refine r_iast F 66 hL_40.2.2.2.2.2.1 (by decide) (by rw [nI_1]; exact vp_in_nI (by omega) (by decide)) dX4_readPart_89 (fun u_44 hu_44 => ?_)
      have hL_45 := hL_40.upR (Z' := (upd (upd RD (2 * k) r_1) (2 * k + 1) r_43))
      rw [nI_1, nI_clamp (by omega)] at hu_44
      rw [← hu_44] at hL_45
      have hf_46 : ∀ j, ¬ (61 ≤ j ∧ j < 69) → u_44 j = u j := fun j hj => (show u_44 j = u_40 j from (fun j hj => by rw [hu_44]; exact vne (by omega)) j hj).trans (hf_41 j hj)
      have hX_47 : MdX g u_44 th (nI k) (nI (q + 1)) (nI q) hs VA (upd (upd RD (2 * k) r_1) (2 * k + 1) r_43) CH WE n B m S t C := ⟨_, _, _, hL_45, hZ_40, hSV_40, hBF_40, hn_40, hm_40, ht_40⟩
      refine r_aload_n F 0 rfl dX4_readPart_90 ?_
      refine r_dup F rfl dX4_readPart_91 ?_
      refine r_get (C := RX4) (T := TX4) (N := 14) F 61 hL_45.1 (by decide) hinX4 rfl 8 (by decide) (by decide +kernel) rfl dX4_readPart_92 ?_
      refine r_iconst (v := 1) F (by decide) dX4_readPart_95 ?_
      refine r_iadd F dX4_readPart_96 ?_
      refine r_put (C := RX4) (T := TX4) (N := 14) (ty := .int) F 61 hL_45.1 (by decide) hinX4 tyX4 tyX4_ok nmX4 rfl 8 (by decide) (by decide +kernel) rfl (by decide +kernel) rfl rfl (Nat.le_of_ble_eq_true rfl) dX4_readPart_97 (fun u_48 hu_48 => ?_)
      rw [nI_1] at hu_48
      have hL_49 := hL_45.num (th' := th) (sm' := nI m) (ty' := nI t) (rm' := (nI (k + 1))) (sp' := (nI (q + 1))) (wr' := (nI q)) (hs' := hs)
      replace hL_49 : MdL g u_48 th (nI m) (nI t) (nI (k + 1)) (nI (q + 1)) (nI q) hs Z_40 SV_40 BF_40 VA (upd (upd RD (2 * k) r_1) (2 * k + 1) r_43) CH WE := by rw [hu_48]; exact hL_49
      have hf_50 : ∀ j, ¬ (61 ≤ j ∧ j < 69) → u_48 j = u j := fun j hj => (show u_48 j = u_44 j from (fun j hj => by rw [hu_48]; exact vne (by omega)) j hj).trans (hf_46 j hj)
      have hX_51 : MdX g u_48 th (nI (k + 1)) (nI (q + 1)) (nI q) hs VA (upd (upd RD (2 * k) r_1) (2 * k + 1) r_43) CH WE n B m S t C := ⟨_, _, _, hL_49, hZ_40, hSV_40, hBF_40, hn_40, hm_40, ht_40⟩
      exact hret _ _ _ _ _ (Nat.le_of_ble_eq_true rfl) (Nat.le_of_ble_eq_true rfl) ⟨Or.inl ⟨_, _, hErr, hX_51⟩, hf_50⟩ dX4_readPart_100
    · skip
      obtain ⟨hE1, hE2, hE3, hE4⟩ := box_eq hB c_26_39
      refine r_iconst (v := 1) F (by decide) dX4_readPart_29 ?_
      refine r_goto F 34 (by decide) dX4_readPart_30 ?_
      refine r_callv (g_V (C := RX4) (T := TX4) (N := 14) (nA := 1) (As := [.int 1]) (rest := []) F 61 hL_35.1 (by decide) rfl (c_X4_needs (f := true) hX_37) gX4_readPart_X4_needs rfl (by decide +kernel) rfl ⟨Nat.le_of_ble_eq_true rfl, Nat.le_of_ble_eq_true rfl⟩ ⟨Nat.le_of_ble_eq_true rfl, Nat.le_of_ble_eq_true rfl⟩ rfl (Nat.le_of_ble_eq_true rfl) dX4_readPart_34) (fun u_52 hp_52 => ?_)
      obtain ⟨hX_52, hk_52⟩ := hp_52
      rw [if_pos rfl] at hX_52
      obtain ⟨Z_52, SV_52, BF_52, hL_52, hZ_52, hSV_52, hBF_52, hn_52, hm_52, ht_52⟩ := id hX_52
      have hf_53 : ∀ j, ¬ (61 ≤ j ∧ j < 69) → u_52 j = u j := fun j hj => (show u_52 j = u_34 j from hk_52 j hj).trans (hf_36 j hj)
      refine r_aload_n F 0 rfl dX4_readPart_37 ?_
      refine r_get (C := RX4) (T := TX4) (N := 14) F 61 hL_52.1 (by decide) hinX4 rfl 10 (by decide) (by decide +kernel) rfl dX4_readPart_38 ?_
      refine r_iconst (v := -1) F (by decide) dX4_readPart_41 ?_
      refine r_icmp_ne F 76 (by decide) dX4_readPart_42 (fun c_42_54 => absurd c_42_54 (by decide)) (fun c_42_54 => ?_)
      clear c_42_54
      refine r_aload_n F 0 rfl dX4_readPart_45 ?_
      refine r_calli (g_V (C := RX4) (T := TX4) (N := 14) (nA := 0) (As := []) (rest := []) F 61 hL_52.1 (by decide) rfl (c_X4_letter hX_52 (by omega)) gX4_readPart_X4_letter rfl (by decide +kernel) rfl ⟨Nat.le_of_ble_eq_true rfl, Nat.le_of_ble_eq_true rfl⟩ ⟨Nat.le_of_ble_eq_true rfl, Nat.le_of_ble_eq_true rfl⟩ rfl (Nat.le_of_ble_eq_true rfl) dX4_readPart_46) (fun r_55 u_55 hp_55 => ?_)
      obtain ⟨rfl, rfl⟩ := hp_55
      refine r_bipush (v := 45) F (by decide) dX4_readPart_49 ?_
      refine r_icmp_ne F 76 (by decide) dX4_readPart_51 (fun c_51_56 => ?_) (fun c_51_56 => ?_)
      · skip
        refine r_aload_n F 0 rfl dX4_readPart_76 ?_
        refine r_get (C := RX4) (T := TX4) (N := 14) F 61 hL_52.1 (by decide) hinX4 rfl 7 (by decide) (by decide +kernel) rfl dX4_readPart_77 ?_
        refine r_iload_n F 1 rfl dX4_readPart_80 ?_
        refine r_iconst (v := 1) F (by decide) dX4_readPart_81 ?_
        refine r_iadd F dX4_readPart_82 ?_
        refine r_aload_n F 0 rfl dX4_readPart_83 ?_
        refine r_ldc (v := 99999) F (by decide +kernel) dX4_readPart_84 ?_
        refine r_calli (g_V (C := RX4) (T := TX4) (N := 14) (nA := 1) (As := [.int 99999]) (rest := [.int ((nI (2 * k)) + 1), .ref (g.2.1 66)]) F 61 hL_52.1 (by decide) rfl (c_X4_number (most := 99999) hX_52 (by omega)) gX4_readPart_X4_number rfl (by decide +kernel) rfl ⟨Nat.le_of_ble_eq_true rfl, Nat.le_of_ble_eq_true rfl⟩ ⟨Nat.le_of_ble_eq_true rfl, Nat.le_of_ble_eq_true rfl⟩ rfl (Nat.le_of_ble_eq_true rfl) dX4_readPart_86) (fun r_57 u_57 hp_57 => ?_)
        obtain ⟨hd_57, hk_57⟩ := hp_57
        have hf_58 : ∀ j, ¬ (61 ≤ j ∧ j < 69) → u_57 j = u j := fun j hj => (show u_57 j = u_52 j from hk_57 j hj).trans (hf_53 j hj)
        rcases hd_57 with ⟨hdd2, hX_59⟩ | ⟨hdd, er2, hX_59⟩
        · skip
          have hErr : ErrAt C t (q + 1) := err_3 (by omega) hE3 hE4 c_51_56 hdd2
          obtain ⟨Z_60, SV_60, BF_60, hL_60, hZ_60, hSV_60, hBF_60, hn_60, hm_60, ht_60⟩ := id hX_59
          refine r_iast F 66 hL_60.2.2.2.2.2.1 (by decide) (by rw [nI_1]; exact vp_in_nI (by omega) (by decide)) dX4_readPart_89 (fun u_61 hu_61 => ?_)
          have hL_62 := hL_60.upR (Z' := (upd (upd RD (2 * k) r_1) (2 * k + 1) r_57))
          rw [nI_1, nI_clamp (by omega)] at hu_61
          rw [← hu_61] at hL_62
          have hf_63 : ∀ j, ¬ (61 ≤ j ∧ j < 69) → u_61 j = u j := fun j hj => (show u_61 j = u_57 j from (fun j hj => by rw [hu_61]; exact vne (by omega)) j hj).trans (hf_58 j hj)
          have hX_64 : MdX g u_61 th (nI k) (nI ((q + 1) + 1)) (nI (q + 1)) hs VA (upd (upd RD (2 * k) r_1) (2 * k + 1) r_57) CH WE n B m S t C := ⟨_, _, _, hL_62, hZ_60, hSV_60, hBF_60, hn_60, hm_60, ht_60⟩
          refine r_aload_n F 0 rfl dX4_readPart_90 ?_
          refine r_dup F rfl dX4_readPart_91 ?_
          refine r_get (C := RX4) (T := TX4) (N := 14) F 61 hL_62.1 (by decide) hinX4 rfl 8 (by decide) (by decide +kernel) rfl dX4_readPart_92 ?_
          refine r_iconst (v := 1) F (by decide) dX4_readPart_95 ?_
          refine r_iadd F dX4_readPart_96 ?_
          refine r_put (C := RX4) (T := TX4) (N := 14) (ty := .int) F 61 hL_62.1 (by decide) hinX4 tyX4 tyX4_ok nmX4 rfl 8 (by decide) (by decide +kernel) rfl (by decide +kernel) rfl rfl (Nat.le_of_ble_eq_true rfl) dX4_readPart_97 (fun u_65 hu_65 => ?_)
          rw [nI_1] at hu_65
          have hL_66 := hL_62.num (th' := th) (sm' := nI m) (ty' := nI t) (rm' := (nI (k + 1))) (sp' := (nI ((q + 1) + 1))) (wr' := (nI (q + 1))) (hs' := hs)
          replace hL_66 : MdL g u_65 th (nI m) (nI t) (nI (k + 1)) (nI ((q + 1) + 1)) (nI (q + 1)) hs Z_60 SV_60 BF_60 VA (upd (upd RD (2 * k) r_1) (2 * k + 1) r_57) CH WE := by rw [hu_65]; exact hL_66
          have hf_67 : ∀ j, ¬ (61 ≤ j ∧ j < 69) → u_65 j = u j := fun j hj => (show u_65 j = u_61 j from (fun j hj => by rw [hu_65]; exact vne (by omega)) j hj).trans (hf_63 j hj)
          have hX_68 : MdX g u_65 th (nI (k + 1)) (nI ((q + 1) + 1)) (nI (q + 1)) hs VA (upd (upd RD (2 * k) r_1) (2 * k + 1) r_57) CH WE n B m S t C := ⟨_, _, _, hL_66, hZ_60, hSV_60, hBF_60, hn_60, hm_60, ht_60⟩
          exact hret _ _ _ _ _ (Nat.le_of_ble_eq_true rfl) (Nat.le_of_ble_eq_true rfl) ⟨Or.inl ⟨_, _, hErr, hX_68⟩, hf_67⟩ dX4_readPart_100
        · skip
          obtain ⟨hlt2, hA⟩ := ans_r hdd hE3 hE4
          obtain ⟨⟨q2, ra⟩, hNG2⟩ : ∃ z, z = numG 99999 C t (t - (q + 1 + 1)) (q + 1 + 1) (codC C t (q + 1) - 48) := ⟨_, rfl⟩
          rw [← hNG2] at hlt2 hA er2 hX_59
          replace hA : AnsR C t (q + 1) q2 (-1) ra := hA
          replace er2 : r_57 = ra := er2
          subst er2
          have hP := part_n hB c_26_39 hlt2 hA
          replace hX_59 : MdX g u_57 th (nI k) (nI q2) (-1) hs VA (upd RD (2 * k) r_1) CH WE n B m S t C := hX_59
          obtain ⟨Z_69, SV_69, BF_69, hL_69, hZ_69, hSV_69, hBF_69, hn_69, hm_69, ht_69⟩ := id hX_59
          refine r_iast F 66 hL_69.2.2.2.2.2.1 (by decide) (by rw [nI_1]; exact vp_in_nI (by omega) (by decide)) dX4_readPart_89 (fun u_70 hu_70 => ?_)
          have hL_71 := hL_69.upR (Z' := (upd (upd RD (2 * k) r_1) (2 * k + 1) r_57))
          rw [nI_1, nI_clamp (by omega)] at hu_70
          rw [← hu_70] at hL_71
          have hf_72 : ∀ j, ¬ (61 ≤ j ∧ j < 69) → u_70 j = u j := fun j hj => (show u_70 j = u_57 j from (fun j hj => by rw [hu_70]; exact vne (by omega)) j hj).trans (hf_58 j hj)
          have hX_73 : MdX g u_70 th (nI k) (nI q2) (-1) hs VA (upd (upd RD (2 * k) r_1) (2 * k + 1) r_57) CH WE n B m S t C := ⟨_, _, _, hL_71, hZ_69, hSV_69, hBF_69, hn_69, hm_69, ht_69⟩
          refine r_aload_n F 0 rfl dX4_readPart_90 ?_
          refine r_dup F rfl dX4_readPart_91 ?_
          refine r_get (C := RX4) (T := TX4) (N := 14) F 61 hL_71.1 (by decide) hinX4 rfl 8 (by decide) (by decide +kernel) rfl dX4_readPart_92 ?_
          refine r_iconst (v := 1) F (by decide) dX4_readPart_95 ?_
          refine r_iadd F dX4_readPart_96 ?_
          refine r_put (C := RX4) (T := TX4) (N := 14) (ty := .int) F 61 hL_71.1 (by decide) hinX4 tyX4 tyX4_ok nmX4 rfl 8 (by decide) (by decide +kernel) rfl (by decide +kernel) rfl rfl (Nat.le_of_ble_eq_true rfl) dX4_readPart_97 (fun u_74 hu_74 => ?_)
          rw [nI_1] at hu_74
          have hL_75 := hL_71.num (th' := th) (sm' := nI m) (ty' := nI t) (rm' := (nI (k + 1))) (sp' := (nI q2)) (wr' := (-1)) (hs' := hs)
          replace hL_75 : MdL g u_74 th (nI m) (nI t) (nI (k + 1)) (nI q2) (-1) hs Z_69 SV_69 BF_69 VA (upd (upd RD (2 * k) r_1) (2 * k + 1) r_57) CH WE := by rw [hu_74]; exact hL_75
          have hf_76 : ∀ j, ¬ (61 ≤ j ∧ j < 69) → u_74 j = u j := fun j hj => (show u_74 j = u_70 j from (fun j hj => by rw [hu_74]; exact vne (by omega)) j hj).trans (hf_72 j hj)
          have hX_77 : MdX g u_74 th (nI (k + 1)) (nI q2) (-1) hs VA (upd (upd RD (2 * k) r_1) (2 * k + 1) r_57) CH WE n B m S t C := ⟨_, _, _, hL_75, hZ_69, hSV_69, hBF_69, hn_69, hm_69, ht_69⟩
          exact hret _ _ _ _ _ (Nat.le_of_ble_eq_true rfl) (Nat.le_of_ble_eq_true rfl) ⟨Or.inr ⟨_, _, _, hP, hX_77⟩, hf_76⟩ dX4_readPart_100
      · skip
        have hP := part_m hB c_26_39 c_51_56
        refine r_aload_n F 0 rfl dX4_readPart_54 ?_
        refine r_dup F rfl dX4_readPart_55 ?_
        refine r_get (C := RX4) (T := TX4) (N := 14) F 61 hL_52.1 (by decide) hinX4 rfl 9 (by decide) (by decide +kernel) rfl dX4_readPart_56 ?_
        refine r_iconst (v := 1) F (by decide) dX4_readPart_59 ?_
        refine r_iadd F dX4_readPart_60 ?_
        refine r_put (C := RX4) (T := TX4) (N := 14) (ty := .int) F 61 hL_52.1 (by decide) hinX4 tyX4 tyX4_ok nmX4 rfl 9 (by decide) (by decide +kernel) rfl (by decide +kernel) rfl rfl (Nat.le_of_ble_eq_true rfl) dX4_readPart_61 (fun u_78 hu_78 => ?_)
        rw [nI_1] at hu_78
        have hL_79 := hL_52.num (th' := th) (sm' := nI m) (ty' := nI t) (rm' := (nI k)) (sp' := (nI (q + 1 + 1))) (wr' := (-1)) (hs' := hs)
        replace hL_79 : MdL g u_78 th (nI m) (nI t) (nI k) (nI (q + 1 + 1)) (-1) hs Z_52 SV_52 BF_52 VA (upd RD (2 * k) r_1) CH WE := by rw [hu_78]; exact hL_79
        have hf_80 : ∀ j, ¬ (61 ≤ j ∧ j < 69) → u_78 j = u j := fun j hj => (show u_78 j = u_52 j from (fun j hj => by rw [hu_78]; exact vne (by omega)) j hj).trans (hf_53 j hj)
        have hX_81 : MdX g u_78 th (nI k) (nI (q + 1 + 1)) (-1) hs VA (upd RD (2 * k) r_1) CH WE n B m S t C := ⟨_, _, _, hL_79, hZ_52, hSV_52, hBF_52, hn_52, hm_52, ht_52⟩
        refine r_aload_n F 0 rfl dX4_readPart_64 ?_
        refine r_get (C := RX4) (T := TX4) (N := 14) F 61 hL_79.1 (by decide) hinX4 rfl 7 (by decide) (by decide +kernel) rfl dX4_readPart_65 ?_
        refine r_iload_n F 1 rfl dX4_readPart_68 ?_
        refine r_iconst (v := 1) F (by decide) dX4_readPart_69 ?_
        refine r_iadd F dX4_readPart_70 ?_
        refine r_iconst (v := -1) F (by decide) dX4_readPart_71 ?_
        refine r_iast F 66 hL_79.2.2.2.2.2.1 (by decide) (by rw [nI_1]; exact vp_in_nI (by omega) (by decide)) dX4_readPart_72 (fun u_82 hu_82 => ?_)
        have hL_83 := hL_79.upR (Z' := (upd (upd RD (2 * k) r_1) (2 * k + 1) (-1)))
        rw [nI_1, nI_clamp (by omega)] at hu_82
        rw [← hu_82] at hL_83
        have hf_84 : ∀ j, ¬ (61 ≤ j ∧ j < 69) → u_82 j = u j := fun j hj => (show u_82 j = u_78 j from (fun j hj => by rw [hu_82]; exact vne (by omega)) j hj).trans (hf_80 j hj)
        have hX_85 : MdX g u_82 th (nI k) (nI (q + 1 + 1)) (-1) hs VA (upd (upd RD (2 * k) r_1) (2 * k + 1) (-1)) CH WE n B m S t C := ⟨_, _, _, hL_83, hZ_52, hSV_52, hBF_52, hn_52, hm_52, ht_52⟩
        refine r_goto F 90 (by decide) dX4_readPart_73 ?_
        refine r_aload_n F 0 rfl dX4_readPart_90 ?_
        refine r_dup F rfl dX4_readPart_91 ?_
        refine r_get (C := RX4) (T := TX4) (N := 14) F 61 hL_83.1 (by decide) hinX4 rfl 8 (by decide) (by decide +kernel) rfl dX4_readPart_92 ?_
        refine r_iconst (v := 1) F (by decide) dX4_readPart_95 ?_
        refine r_iadd F dX4_readPart_96 ?_
        refine r_put (C := RX4) (T := TX4) (N := 14) (ty := .int) F 61 hL_83.1 (by decide) hinX4 tyX4 tyX4_ok nmX4 rfl 8 (by decide) (by decide +kernel) rfl (by decide +kernel) rfl rfl (Nat.le_of_ble_eq_true rfl) dX4_readPart_97 (fun u_86 hu_86 => ?_)
        rw [nI_1] at hu_86
        have hL_87 := hL_83.num (th' := th) (sm' := nI m) (ty' := nI t) (rm' := (nI (k + 1))) (sp' := (nI (q + 1 + 1))) (wr' := (-1)) (hs' := hs)
        replace hL_87 : MdL g u_86 th (nI m) (nI t) (nI (k + 1)) (nI (q + 1 + 1)) (-1) hs Z_52 SV_52 BF_52 VA (upd (upd RD (2 * k) r_1) (2 * k + 1) (-1)) CH WE := by rw [hu_86]; exact hL_87
        have hf_88 : ∀ j, ¬ (61 ≤ j ∧ j < 69) → u_86 j = u j := fun j hj => (show u_86 j = u_82 j from (fun j hj => by rw [hu_86]; exact vne (by omega)) j hj).trans (hf_84 j hj)
        have hX_89 : MdX g u_86 th (nI (k + 1)) (nI (q + 1 + 1)) (-1) hs VA (upd (upd RD (2 * k) r_1) (2 * k + 1) (-1)) CH WE n B m S t C := ⟨_, _, _, hL_87, hZ_52, hSV_52, hBF_52, hn_52, hm_52, ht_52⟩
        exact hret _ _ _ _ _ (Nat.le_of_ble_eq_true rfl) (Nat.le_of_ble_eq_true rfl) ⟨Or.inr ⟨_, _, _, hP, hX_89⟩, hf_88⟩ dX4_readPart_100

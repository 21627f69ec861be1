theorem rdI (i : Nat) : (2 : Int32) * nI i = nI (2 * i) := by rw [show (2 : Int32) = nI 2 from rfl, pk_mul]
set_option maxHeartbeats 4000000 in
set_option maxRecDepth 100000 in
theorem c_X4_readBuffer {g : kG} {l : Launch} {u : Nat → va_E} {th rm sp wr : Int32} {hs : Int64} {VA RD CH WE : Nat → Int32} {n m t : Nat} {B : kB} {S : Nat → kS} {C : Nat → Int32}  (h : MdX g u th rm sp wr hs VA RD CH WE n B m S t C)  : CI g l yX4_readBuffer wsX4_readBuffer ({ frames := 3, cells := 0, slots := 0, locals := 66 }) [.ref (g.2.1 61)] u (fun r u' => ((∃ e, r = nI e ∧ ErrAt C t e ∧ ∃ rm' sp' RD', MdX g u' th rm' sp' (nI e) hs VA RD' CH WE n B m S t C) ∨ (∃ K, r = -1 ∧ ∃ RD', DoneR C t RD' K ∧ ∃ sp', MdX g u' th (nI K) sp' (-1) hs VA RD' CH WE n B m S t C)) ∧ ∀ j, ¬ (61 ≤ j ∧ j < 69) → u' j = u j) := by
  refine CI.of (cc := cX4_readBuffer) (nL := 2) (ty := .int) (by decide +kernel) rfl (fun _ _ _ => rfl) (Nat.le_of_ble_eq_true rfl) ?_
  intro X hXl F hret
  subst hXl
  have hinX4 : ∀ w ∈ wsX40, w ∈ wsX4_readBuffer := by decide +kernel
  obtain ⟨Z, SV, BF, hL, hZ, hSV, hBF, hn16, hm6, ht60⟩ := id h
  show VL g X 0 0 u 0 [(0, .ref (g.2.1 61))] []
  refine r_aload_n F 0 rfl dX4_readBuffer_0 ?_
  refine r_iconst (v := 0) F (by decide) dX4_readBuffer_1 ?_
  refine r_put (C := RX4) (T := TX4) (N := 14) (ty := .int) F 61 hL.1 (by decide) hinX4 tyX4 tyX4_ok nmX4 rfl 8 (by decide) (by decide +kernel) rfl (by decide +kernel) rfl rfl (Nat.le_of_ble_eq_true rfl) dX4_readBuffer_2 (fun u_1 hu_1 => ?_)
  have hL_2 := hL.num (th' := th) (sm' := nI m) (ty' := nI t) (rm' := 0) (sp' := sp) (wr' := wr) (hs' := hs)
  replace hL_2 : MdL g u_1 th (nI m) (nI t) 0 sp wr hs Z SV BF VA RD CH WE := by rw [hu_1]; exact hL_2
  have hf_3 : ∀ j, ¬ (61 ≤ j ∧ j < 69) → u_1 j = u j := (fun j hj => by rw [hu_1]; exact vne (by omega))
  have hX_4 : MdX g u_1 th 0 sp wr hs VA RD CH WE n B m S t C := ⟨_, _, _, hL_2, hZ, hSV, hBF, hn16, hm6, ht60⟩
  refine r_aload_n F 0 rfl dX4_readBuffer_5 ?_
  refine r_iconst (v := 0) F (by decide) dX4_readBuffer_6 ?_
  refine r_put (C := RX4) (T := TX4) (N := 14) (ty := .int) F 61 hL_2.1 (by decide) hinX4 tyX4 tyX4_ok nmX4 rfl 9 (by decide) (by decide +kernel) rfl (by decide +kernel) rfl rfl (Nat.le_of_ble_eq_true rfl) dX4_readBuffer_7 (fun u_5 hu_5 => ?_)
  have hL_6 := hL_2.num (th' := th) (sm' := nI m) (ty' := nI t) (rm' := 0) (sp' := 0) (wr' := wr) (hs' := hs)
  replace hL_6 : MdL g u_5 th (nI m) (nI t) 0 0 wr hs Z SV BF VA RD CH WE := by rw [hu_5]; exact hL_6
  have hf_7 : ∀ j, ¬ (61 ≤ j ∧ j < 69) → u_5 j = u j := fun j hj => (show u_5 j = u_1 j from (fun j hj => by rw [hu_5]; exact vne (by omega)) j hj).trans (hf_3 j hj)
  have hX_8 : MdX g u_5 th 0 0 wr hs VA RD CH WE n B m S t C := ⟨_, _, _, hL_6, hZ, hSV, hBF, hn16, hm6, ht60⟩
  refine r_aload_n F 0 rfl dX4_readBuffer_10 ?_
  refine r_iconst (v := -1) F (by decide) dX4_readBuffer_11 ?_
  refine r_put (C := RX4) (T := TX4) (N := 14) (ty := .int) F 61 hL_6.1 (by decide) hinX4 tyX4 tyX4_ok nmX4 rfl 10 (by decide) (by decide +kernel) rfl (by decide +kernel) rfl rfl (Nat.le_of_ble_eq_true rfl) dX4_readBuffer_12 (fun u_9 hu_9 => ?_)
  have hL_10 := hL_6.num (th' := th) (sm' := nI m) (ty' := nI t) (rm' := 0) (sp' := 0) (wr' := (-1)) (hs' := hs)
  replace hL_10 : MdL g u_9 th (nI m) (nI t) 0 0 (-1) hs Z SV BF VA RD CH WE := by rw [hu_9]; exact hL_10
  have hf_11 : ∀ j, ¬ (61 ≤ j ∧ j < 69) → u_9 j = u j := fun j hj => (show u_9 j = u_5 j from (fun j hj => by rw [hu_9]; exact vne (by omega)) j hj).trans (hf_7 j hj)
  have hX_12 : MdX g u_9 th 0 0 (-1) hs VA RD CH WE n B m S t C := ⟨_, _, _, hL_10, hZ, hSV, hBF, hn16, hm6, ht60⟩
  refine r_iconst (v := 1) F (by decide) dX4_readBuffer_15 ?_
  refine r_istore_n (lv' := [(0, .ref (g.2.1 61)), (1, .int 1)]) F (by decide) rfl dX4_readBuffer_16 ?_
  have loop_17 : ∀ (k : Nat) (kk p : Nat) (RDx : Nat → Int32) (w1 : Nat → va_E) (x1_17 : Int32), t < p + k → PtsR C t RDx kk p → 4 * kk ≤ p → p ≤ t → stN C p = 0 → anyN p (qErr C) = false → MdX g w1 th (nI kk) (nI p) (-1) hs VA RDx CH WE n B m S t C → (∀ j, ¬ (61 ≤ j ∧ j < 69) → w1 j = u j) → x1_17 = 1 → VL g X 0 0 w1 17 [(0, .ref (g.2.1 61)), (1, .int x1_17)] [] := by
    intro k
    induction k with
    | zero =>
      rintro kk p RDx w1 x1_17 hfu hPt h4 hpt h0 he hX1 hf1 rfl
      obtain ⟨Z_90, SV_90, BF_90, hL_90, hZ_90, hSV_90, hBF_90, hn_90, hm_90, ht_90⟩ := id hX1
      exact absurd hfu (by omega)
    | succ k ih_17 =>
      rintro kk p RDx w1 x1_17 hfu hPt h4 hpt h0 he hX1 hf1 rfl
      obtain ⟨Z_90, SV_90, BF_90, hL_90, hZ_90, hSV_90, hBF_90, hn_90, hm_90, ht_90⟩ := id hX1
      refine r_iload_n F 1 rfl dX4_readBuffer_17 ?_
      refine r_if_eq F 89 (by decide) dX4_readBuffer_18 (fun c_18_14 => absurd c_18_14 (by decide)) (fun c_18_14 => ?_)
      clear c_18_14
      refine r_aload_n F 0 rfl dX4_readBuffer_21 ?_
      refine r_callv (g_V (C := RX4) (T := TX4) (N := 14) (nA := 0) (As := []) (rest := []) F 61 hL_90.1 (by decide) rfl (c_X4_readPart hX1 (by omega) hpt h0 he) gX4_readBuffer_X4_readPart rfl (by decide +kernel) rfl ⟨Nat.le_of_ble_eq_true rfl, Nat.le_of_ble_eq_true rfl⟩ ⟨Nat.le_of_ble_eq_true rfl, Nat.le_of_ble_eq_true rfl⟩ rfl (Nat.le_of_ble_eq_true rfl) dX4_readBuffer_22) (fun u_15 hp_15 => ?_)
      obtain ⟨hd_15, hk_15⟩ := hp_15
      have hf_16 : ∀ j, ¬ (61 ≤ j ∧ j < 69) → u_15 j = u j := fun j hj => (show u_15 j = w1 j from hk_15 j hj).trans (hf1 j hj)
      rcases hd_15 with ⟨e, RD1, hErr, hX_17⟩ | ⟨q, bx, vl, hP, hX_17⟩
      · skip
        have het : e ≤ t := hErr.1
        obtain ⟨Z_18, SV_18, BF_18, hL_18, hZ_18, hSV_18, hBF_18, hn_18, hm_18, ht_18⟩ := id hX_17
        refine r_aload_n F 0 rfl dX4_readBuffer_25 ?_
        refine r_get (C := RX4) (T := TX4) (N := 14) F 61 hL_18.1 (by decide) hinX4 rfl 10 (by decide) (by decide +kernel) rfl dX4_readBuffer_26 ?_
        refine r_iconst (v := -1) F (by decide) dX4_readBuffer_29 ?_
        refine r_icmp_ne F 48 (by decide) dX4_readBuffer_30 (fun c_30_19 => ?_) (fun c_30_19 => absurd c_30_19 (nI_ne1 (by omega)))
        clear c_30_19
        refine r_iconst (v := 0) F (by decide) dX4_readBuffer_48 ?_
        refine r_istore_n (lv' := [(0, .ref (g.2.1 61)), (1, .int 0)]) F (by decide) rfl dX4_readBuffer_49 ?_
        refine r_iload_n F 1 rfl dX4_readBuffer_50 ?_
        refine r_if_eq F 17 (by decide) dX4_readBuffer_51 (fun c_51_20 => ?_) (fun c_51_20 => absurd c_51_20 (by decide))
        clear c_51_20
        refine r_iload_n F 1 rfl dX4_readBuffer_17 ?_
        refine r_if_eq F 89 (by decide) dX4_readBuffer_18 (fun c_18_21 => ?_) (fun c_18_21 => absurd c_18_21 (by decide))
        clear c_18_21
        refine r_aload_n F 0 rfl dX4_readBuffer_89 ?_
        refine r_get (C := RX4) (T := TX4) (N := 14) F 61 hL_18.1 (by decide) hinX4 rfl 10 (by decide) (by decide +kernel) rfl dX4_readBuffer_90 ?_
        exact hret _ _ _ _ _ _ (Nat.le_of_ble_eq_true rfl) (Nat.le_of_ble_eq_true rfl) ⟨Or.inl ⟨_, rfl, hErr, _, _, _, hX_17⟩, hf_16⟩ dX4_readBuffer_93
      · skip
        have hqt : q ≤ t := hP.2.1
        have hpq : p + 3 ≤ q := hP.1
        obtain ⟨Z_22, SV_22, BF_22, hL_22, hZ_22, hSV_22, hBF_22, hn_22, hm_22, ht_22⟩ := id hX_17
        refine r_aload_n F 0 rfl dX4_readBuffer_25 ?_
        refine r_get (C := RX4) (T := TX4) (N := 14) F 61 hL_22.1 (by decide) hinX4 rfl 10 (by decide) (by decide +kernel) rfl dX4_readBuffer_26 ?_
        refine r_iconst (v := -1) F (by decide) dX4_readBuffer_29 ?_
        refine r_icmp_ne F 48 (by decide) dX4_readBuffer_30 (fun c_30_23 => absurd c_30_23 (by decide)) (fun c_30_23 => ?_)
        clear c_30_23
        refine r_aload_n F 0 rfl dX4_readBuffer_33 ?_
        refine r_get (C := RX4) (T := TX4) (N := 14) F 61 hL_22.1 (by decide) hinX4 rfl 9 (by decide) (by decide +kernel) rfl dX4_readBuffer_34 ?_
        refine r_aload_n F 0 rfl dX4_readBuffer_37 ?_
        refine r_get (C := RX4) (T := TX4) (N := 14) F 61 hL_22.1 (by decide) hinX4 rfl 5 (by decide) (by decide +kernel) rfl dX4_readBuffer_38 ?_
        refine r_icmp_ge F 48 (by decide) dX4_readBuffer_41 (fun c_41_24 => ?_) (fun c_41_24 => ?_)
        · skip
          have hqq : q = t := by have z := c_41_24; rw [nI_leI (by omega) (by omega)] at z; omega
          refine r_iconst (v := 0) F (by decide) dX4_readBuffer_48 ?_
          refine r_istore_n (lv' := [(0, .ref (g.2.1 61)), (1, .int 0)]) F (by decide) rfl dX4_readBuffer_49 ?_
          refine r_iload_n F 1 rfl dX4_readBuffer_50 ?_
          refine r_if_eq F 17 (by decide) dX4_readBuffer_51 (fun c_51_25 => ?_) (fun c_51_25 => absurd c_51_25 (by decide))
          clear c_51_25
          refine r_iload_n F 1 rfl dX4_readBuffer_17 ?_
          refine r_if_eq F 89 (by decide) dX4_readBuffer_18 (fun c_18_26 => ?_) (fun c_18_26 => absurd c_18_26 (by decide))
          clear c_18_26
          refine r_aload_n F 0 rfl dX4_readBuffer_89 ?_
          refine r_get (C := RX4) (T := TX4) (N := 14) F 61 hL_22.1 (by decide) hinX4 rfl 10 (by decide) (by decide +kernel) rfl dX4_readBuffer_90 ?_
          exact hret _ _ _ _ _ _ (Nat.le_of_ble_eq_true rfl) (Nat.le_of_ble_eq_true rfl) ⟨Or.inr ⟨_, rfl, _, DoneR.mk hPt (by omega) (hqq ▸ hP), _, hX_17⟩, hf_16⟩ dX4_readBuffer_93
        · skip
          have hqq : q < t := by have z : ¬ nI t ≤ nI q := c_41_24; rw [nI_leI (by omega) (by omega)] at z; omega
          refine r_iconst (v := 1) F (by decide) dX4_readBuffer_44 ?_
          refine r_goto F 49 (by decide) dX4_readBuffer_45 ?_
          refine r_istore_n (lv' := [(0, .ref (g.2.1 61)), (1, .int 1)]) F (by decide) rfl dX4_readBuffer_49 ?_
          refine r_iload_n F 1 rfl dX4_readBuffer_50 ?_
          refine r_if_eq F 17 (by decide) dX4_readBuffer_51 (fun c_51_27 => absurd c_51_27 (by decide)) (fun c_51_27 => ?_)
          clear c_51_27
          refine r_aload_n F 0 rfl dX4_readBuffer_54 ?_
          refine r_aload_n F 0 rfl dX4_readBuffer_55 ?_
          refine r_calli (g_V (C := RX4) (T := TX4) (N := 14) (nA := 0) (As := []) (rest := [.ref (g.2.1 61)]) F 61 hL_22.1 (by decide) rfl (c_X4_letter hX_17 (by omega)) gX4_readBuffer_X4_letter rfl (by decide +kernel) rfl ⟨Nat.le_of_ble_eq_true rfl, Nat.le_of_ble_eq_true rfl⟩ ⟨Nat.le_of_ble_eq_true rfl, Nat.le_of_ble_eq_true rfl⟩ rfl (Nat.le_of_ble_eq_true rfl) dX4_readBuffer_56) (fun r_28 u_28 hp_28 => ?_)
          obtain ⟨rfl, rfl⟩ := hp_28
          refine r_bipush (v := 44) F (by decide) dX4_readBuffer_59 ?_
          refine r_icmp_ne F 68 (by decide) dX4_readBuffer_61 (fun c_61_29 => ?_) (fun c_61_29 => ?_)
          · skip
            have hErr : ErrAt C t q := err_4 hP hqq c_61_29
            refine r_iconst (v := 0) F (by decide) dX4_readBuffer_68 ?_
            refine r_callv (g_V (C := RX4) (T := TX4) (N := 14) (nA := 1) (As := [.int 0]) (rest := []) F 61 hL_22.1 (by decide) rfl (c_X4_needs (f := false) hX_17) gX4_readBuffer_X4_needs rfl (by decide +kernel) rfl ⟨Nat.le_of_ble_eq_true rfl, Nat.le_of_ble_eq_true rfl⟩ ⟨Nat.le_of_ble_eq_true rfl, Nat.le_of_ble_eq_true rfl⟩ rfl (Nat.le_of_ble_eq_true rfl) dX4_readBuffer_69) (fun u_30 hp_30 => ?_)
            obtain ⟨hX_30, hk_30⟩ := hp_30
            rw [if_neg (by decide)] at hX_30
            obtain ⟨Z_30, SV_30, BF_30, hL_30, hZ_30, hSV_30, hBF_30, hn_30, hm_30, ht_30⟩ := id hX_30
            have hf_31 : ∀ j, ¬ (61 ≤ j ∧ j < 69) → u_30 j = u j := fun j hj => (show u_30 j = u_15 j from hk_30 j hj).trans (hf_16 j hj)
            refine r_aload_n F 0 rfl dX4_readBuffer_72 ?_
            refine r_get (C := RX4) (T := TX4) (N := 14) F 61 hL_30.1 (by decide) hinX4 rfl 10 (by decide) (by decide +kernel) rfl dX4_readBuffer_73 ?_
            refine r_iconst (v := -1) F (by decide) dX4_readBuffer_76 ?_
            refine r_icmp_ne F 84 (by decide) dX4_readBuffer_77 (fun c_77_32 => ?_) (fun c_77_32 => absurd c_77_32 (nI_ne1 (by omega)))
            clear c_77_32
            refine r_iconst (v := 0) F (by decide) dX4_readBuffer_84 ?_
            refine r_istore_n (lv' := [(0, .ref (g.2.1 61)), (1, .int 0)]) F (by decide) rfl dX4_readBuffer_85 ?_
            refine r_goto F 17 (by decide) dX4_readBuffer_86 ?_
            refine r_iload_n F 1 rfl dX4_readBuffer_17 ?_
            refine r_if_eq F 89 (by decide) dX4_readBuffer_18 (fun c_18_33 => ?_) (fun c_18_33 => absurd c_18_33 (by decide))
            clear c_18_33
            refine r_aload_n F 0 rfl dX4_readBuffer_89 ?_
            refine r_get (C := RX4) (T := TX4) (N := 14) F 61 hL_30.1 (by decide) hinX4 rfl 10 (by decide) (by decide +kernel) rfl dX4_readBuffer_90 ?_
            exact hret _ _ _ _ _ _ (Nat.le_of_ble_eq_true rfl) (Nat.le_of_ble_eq_true rfl) ⟨Or.inl ⟨_, rfl, hErr, _, _, _, hX_30⟩, hf_31⟩ dX4_readBuffer_93
          · skip
            obtain ⟨hE1, hE2, hE3⟩ := part_c hP hqq c_61_29
            refine r_iconst (v := 1) F (by decide) dX4_readBuffer_64 ?_
            refine r_goto F 69 (by decide) dX4_readBuffer_65 ?_
            refine r_callv (g_V (C := RX4) (T := TX4) (N := 14) (nA := 1) (As := [.int 1]) (rest := []) F 61 hL_22.1 (by decide) rfl (c_X4_needs (f := true) hX_17) gX4_readBuffer_X4_needs rfl (by decide +kernel) rfl ⟨Nat.le_of_ble_eq_true rfl, Nat.le_of_ble_eq_true rfl⟩ ⟨Nat.le_of_ble_eq_true rfl, Nat.le_of_ble_eq_true rfl⟩ rfl (Nat.le_of_ble_eq_true rfl) dX4_readBuffer_69) (fun u_34 hp_34 => ?_)
            obtain ⟨hX_34, hk_34⟩ := hp_34
            rw [if_pos rfl] at hX_34
            obtain ⟨Z_34, SV_34, BF_34, hL_34, hZ_34, hSV_34, hBF_34, hn_34, hm_34, ht_34⟩ := id hX_34
            have hf_35 : ∀ j, ¬ (61 ≤ j ∧ j < 69) → u_34 j = u j := fun j hj => (show u_34 j = u_15 j from hk_34 j hj).trans (hf_16 j hj)
            refine r_aload_n F 0 rfl dX4_readBuffer_72 ?_
            refine r_get (C := RX4) (T := TX4) (N := 14) F 61 hL_34.1 (by decide) hinX4 rfl 10 (by decide) (by decide +kernel) rfl dX4_readBuffer_73 ?_
            refine r_iconst (v := -1) F (by decide) dX4_readBuffer_76 ?_
            refine r_icmp_ne F 84 (by decide) dX4_readBuffer_77 (fun c_77_36 => absurd c_77_36 (by decide)) (fun c_77_36 => ?_)
            clear c_77_36
            refine r_iconst (v := 1) F (by decide) dX4_readBuffer_80 ?_
            refine r_goto F 85 (by decide) dX4_readBuffer_81 ?_
            refine r_istore_n (lv' := [(0, .ref (g.2.1 61)), (1, .int 1)]) F (by decide) rfl dX4_readBuffer_85 ?_
            refine r_goto F 17 (by decide) dX4_readBuffer_86 ?_
            exact ih_17 (kk + 1) (q + 1) _ _ _ (by omega) (hPt.next hP hqq hE1) (by omega) (by omega) hE2 hE3 hX_34 hf_35 rfl
  exact loop_17 (t + 1) 0 0 RD u_9 _ (by omega) PtsR.zero (by omega) (by omega) rfl rfl hX_12 hf_11 rfl
set_option maxHeartbeats 4000000 in
set_option maxRecDepth 100000 in
theorem c_X4_firstError {g : kG} {l : Launch} {u : Nat → va_E} {th rm sp wr : Int32} {hs : Int64} {VA RD CH WE : Nat → Int32} {n m t : Nat} {B : kB} {S : Nat → kS} {C : Nat → Int32}  (h : MdX g u th rm sp wr hs VA RD CH WE n B m S t C)  : CI g l yX4_firstError wsX4_firstError ({ frames := 4, cells := 0, slots := 0, locals := 87 }) [.ref (g.2.1 61)] u (fun r u' => r = errC C t ∧ (∃ rm' sp' wr' RD', MdX g u' 0 rm' sp' wr' hs VA RD' CH WE n B m S t C) ∧ ∀ j, ¬ (61 ≤ j ∧ j < 69) → u' j = u j) := by
  refine CI.of (cc := cX4_firstError) (nL := 2) (ty := .int) (by decide +kernel) rfl (fun _ _ _ => rfl) (Nat.le_of_ble_eq_true rfl) ?_
  intro X hXl F hret
  subst hXl
  have hinX4 : ∀ w ∈ wsX40, w ∈ wsX4_firstError := by decide +kernel
  obtain ⟨Z, SV, BF, hL, hZ, hSV, hBF, hn16, hm6, ht60⟩ := id h
  show VL g X 0 0 u 0 [(0, .ref (g.2.1 61))] []
  refine r_aload_n F 0 rfl dX4_firstError_0 ?_
  refine r_iconst (v := 0) F (by decide) dX4_firstError_1 ?_
  refine r_put (C := RX4) (T := TX4) (N := 14) (ty := .int) F 61 hL.1 (by decide) hinX4 tyX4 tyX4_ok nmX4 rfl 0 (by decide) (by decide +kernel) rfl (by decide +kernel) rfl rfl (Nat.le_of_ble_eq_true rfl) dX4_firstError_2 (fun u_1 hu_1 => ?_)
  have hL_2 := hL.num (th' := 0) (sm' := nI m) (ty' := nI t) (rm' := rm) (sp' := sp) (wr' := wr) (hs' := hs)
  replace hL_2 : MdL g u_1 0 (nI m) (nI t) rm sp wr hs Z SV BF VA RD CH WE := by rw [hu_1]; exact hL_2
  have hf_3 : ∀ j, ¬ (61 ≤ j ∧ j < 69) → u_1 j = u j := (fun j hj => by rw [hu_1]; exact vne (by omega))
  have hX_4 : MdX g u_1 0 rm sp wr hs VA RD CH WE n B m S t C := ⟨_, _, _, hL_2, hZ, hSV, hBF, hn16, hm6, ht60⟩
  refine r_aload_n F 0 rfl dX4_firstError_5 ?_
  refine r_calli (g_V (C := RX4) (T := TX4) (N := 14) (nA := 0) (As := []) (rest := []) F 61 hL_2.1 (by decide) rfl (c_X4_readBuffer hX_4) gX4_firstError_X4_readBuffer rfl (by decide +kernel) rfl ⟨Nat.le_of_ble_eq_true rfl, Nat.le_of_ble_eq_true rfl⟩ ⟨Nat.le_of_ble_eq_true rfl, Nat.le_of_ble_eq_true rfl⟩ rfl (Nat.le_of_ble_eq_true rfl) dX4_firstError_6) (fun r_5 u_5 hp_5 => ?_)
  obtain ⟨hd_5, hk_5⟩ := hp_5
  have hf_6 : ∀ j, ¬ (61 ≤ j ∧ j < 69) → u_5 j = u j := fun j hj => (show u_5 j = u_1 j from hk_5 j hj).trans (hf_3 j hj)
  rcases hd_5 with ⟨e, rfl, hErr, rm1, sp1, RD1, hX_7⟩ | ⟨K, rfl, RD1, hD, sp1, hX_7⟩
  · skip
    have het : e ≤ t := hErr.1
    obtain ⟨hc1, hc2⟩ := hErr.c
    obtain ⟨Z_8, SV_8, BF_8, hL_8, hZ_8, hSV_8, hBF_8, hn_8, hm_8, ht_8⟩ := id hX_7
    refine r_istore_n (lv' := [(0, .ref (g.2.1 61)), (1, .int (nI e))]) F (by decide) rfl dX4_firstError_9 ?_
    refine r_iload_n F 1 rfl dX4_firstError_10 ?_
    refine r_iconst (v := -1) F (by decide) dX4_firstError_11 ?_
    refine r_icmp_ne F 22 (by decide) dX4_firstError_12 (fun c_12_9 => ?_) (fun c_12_9 => absurd c_12_9 (nI_ne1 (by omega)))
    clear c_12_9
    refine r_iload_n F 1 rfl dX4_firstError_22 ?_
    exact hret _ _ _ _ _ _ (Nat.le_of_ble_eq_true rfl) (Nat.le_of_ble_eq_true rfl) ⟨hc1.symm, ⟨_, _, _, _, hX_7⟩, hf_6⟩ dX4_firstError_23
  · skip
    obtain ⟨hc2, hc1⟩ := hD.c
    obtain ⟨Z_10, SV_10, BF_10, hL_10, hZ_10, hSV_10, hBF_10, hn_10, hm_10, ht_10⟩ := id hX_7
    refine r_istore_n (lv' := [(0, .ref (g.2.1 61)), (1, .int (-1))]) F (by decide) rfl dX4_firstError_9 ?_
    refine r_iload_n F 1 rfl dX4_firstError_10 ?_
    refine r_iconst (v := -1) F (by decide) dX4_firstError_11 ?_
    refine r_icmp_ne F 22 (by decide) dX4_firstError_12 (fun c_12_11 => absurd c_12_11 (by decide)) (fun c_12_11 => ?_)
    clear c_12_11
    refine r_aload_n F 0 rfl dX4_firstError_15 ?_
    refine r_get (C := RX4) (T := TX4) (N := 14) F 61 hL_10.1 (by decide) hinX4 rfl 5 (by decide) (by decide +kernel) rfl dX4_firstError_16 ?_
    refine r_goto F 23 (by decide) dX4_firstError_19 ?_
    exact hret _ _ _ _ _ _ (Nat.le_of_ble_eq_true rfl) (Nat.le_of_ble_eq_true rfl) ⟨hc1.symm, ⟨_, _, _, _, hX_7⟩, hf_6⟩ dX4_firstError_23
set_option maxHeartbeats 4000000 in
set_option maxRecDepth 100000 in
theorem c_X4_fill {g : kG} {l : Launch} {u : Nat → va_E} {th rm sp wr : Int32} {hs : Int64} {VA RD CH WE : Nat → Int32} {n m t : Nat} {B : kB} {S : Nat → kS} {C : Nat → Int32}  (h : MdX g u th rm sp wr hs VA RD CH WE n B m S t C) (hw : wfB n B) : CI g l yX4_fill wsX4_fill ({ frames := 4, cells := 0, slots := 0, locals := 87 }) [.ref (g.2.1 61)] u (fun r u' => ((cmpC C t = true ∧ r = (filG n C t B).1 ∧ (∃ rm' sp' wr' RD', MdX g u' 0 rm' sp' wr' hs VA RD' CH WE n (filG n C t B).2 (pushM m) (pushS m S (n, B)) 0 C)) ∨ (cmpC C t = false ∧ (∃ rm' sp' wr' RD', MdX g u' 1 rm' sp' wr' hs VA RD' CH WE n B m S t C))) ∧ ∀ j, ¬ (61 ≤ j ∧ j < 69) → u' j = u j) := by
  refine CI.of (cc := cX4_fill) (nL := 2) (ty := .int) (by decide +kernel) rfl (fun _ _ _ => rfl) (Nat.le_of_ble_eq_true rfl) ?_
  intro X hXl F hret
  subst hXl
  have hinX4 : ∀ w ∈ wsX40, w ∈ wsX4_fill := by decide +kernel
  obtain ⟨Z, SV, BF, hL, hZ, hSV, hBF, hn16, hm6, ht60⟩ := id h
  show VL g X 0 0 u 0 [(0, .ref (g.2.1 61))] []
  refine r_aload_n F 0 rfl dX4_fill_0 ?_
  refine r_aload_n F 0 rfl dX4_fill_1 ?_
  refine r_calli (g_V (C := RX4) (T := TX4) (N := 14) (nA := 0) (As := []) (rest := [.ref (g.2.1 61)]) F 61 hL.1 (by decide) rfl (c_X4_readBuffer h) gX4_fill_X4_readBuffer rfl (by decide +kernel) rfl ⟨Nat.le_of_ble_eq_true rfl, Nat.le_of_ble_eq_true rfl⟩ ⟨Nat.le_of_ble_eq_true rfl, Nat.le_of_ble_eq_true rfl⟩ rfl (Nat.le_of_ble_eq_true rfl) dX4_fill_2) (fun r_1 u_1 hp_1 => ?_)
  obtain ⟨hd_1, hk_1⟩ := hp_1
  have hf_2 : ∀ j, ¬ (61 ≤ j ∧ j < 69) → u_1 j = u j := hk_1
  rcases hd_1 with ⟨e, rfl, hErr, rm1, sp1, RD1, hX_3⟩ | ⟨K, rfl, RD1, hD, sp1, hX_3⟩
  · skip
    have het : e ≤ t := hErr.1
    obtain ⟨hc1, hc2⟩ := hErr.c
    obtain ⟨Z_4, SV_4, BF_4, hL_4, hZ_4, hSV_4, hBF_4, hn_4, hm_4, ht_4⟩ := id hX_3
    refine r_iconst (v := -1) F (by decide) dX4_fill_5 ?_
    refine r_icmp_ne F 13 (by decide) dX4_fill_6 (fun c_6_5 => ?_) (fun c_6_5 => absurd c_6_5 (nI_ne1 (by omega)))
    clear c_6_5
    refine r_iconst (v := 1) F (by decide) dX4_fill_13 ?_
    refine r_put (C := RX4) (T := TX4) (N := 14) (ty := .int) F 61 hL_4.1 (by decide) hinX4 tyX4 tyX4_ok nmX4 rfl 0 (by decide) (by decide +kernel) rfl (by decide +kernel) rfl rfl (Nat.le_of_ble_eq_true rfl) dX4_fill_14 (fun u_6 hu_6 => ?_)
    have hL_7 := hL_4.num (th' := 1) (sm' := nI m) (ty' := nI t) (rm' := rm1) (sp' := sp1) (wr' := (nI e)) (hs' := hs)
    replace hL_7 : MdL g u_6 1 (nI m) (nI t) rm1 sp1 (nI e) hs Z_4 SV_4 BF_4 VA RD1 CH WE := by rw [hu_6]; exact hL_7
    have hf_8 : ∀ j, ¬ (61 ≤ j ∧ j < 69) → u_6 j = u j := fun j hj => (show u_6 j = u_1 j from (fun j hj => by rw [hu_6]; exact vne (by omega)) j hj).trans (hf_2 j hj)
    have hX_9 : MdX g u_6 1 rm1 sp1 (nI e) hs VA RD1 CH WE n B m S t C := ⟨_, _, _, hL_7, hZ_4, hSV_4, hBF_4, hn_4, hm_4, ht_4⟩
    refine r_aload_n F 0 rfl dX4_fill_17 ?_
    refine r_get (C := RX4) (T := TX4) (N := 14) F 61 hL_7.1 (by decide) hinX4 rfl 0 (by decide) (by decide +kernel) rfl dX4_fill_18 ?_
    refine r_if_le F 26 (by decide) dX4_fill_21 (fun c_21_10 => absurd c_21_10 (by decide)) (fun c_21_10 => ?_)
    clear c_21_10
    refine r_iconst (v := 0) F (by decide) dX4_fill_24 ?_
    exact hret _ _ _ _ _ _ (Nat.le_of_ble_eq_true rfl) (Nat.le_of_ble_eq_true rfl) ⟨Or.inr ⟨hc2, _, _, _, _, hX_9⟩, hf_8⟩ dX4_fill_25
  · skip
    obtain ⟨hc2, hc1⟩ := hD.c
    obtain ⟨Z_11, SV_11, BF_11, hL_11, hZ_11, hSV_11, hBF_11, hn_11, hm_11, ht_11⟩ := id hX_3
    refine r_iconst (v := -1) F (by decide) dX4_fill_5 ?_
    refine r_icmp_ne F 13 (by decide) dX4_fill_6 (fun c_6_12 => absurd c_6_12 (by decide)) (fun c_6_12 => ?_)
    clear c_6_12
    refine r_iconst (v := 0) F (by decide) dX4_fill_9 ?_
    refine r_goto F 14 (by decide) dX4_fill_10 ?_
    refine r_put (C := RX4) (T := TX4) (N := 14) (ty := .int) F 61 hL_11.1 (by decide) hinX4 tyX4 tyX4_ok nmX4 rfl 0 (by decide) (by decide +kernel) rfl (by decide +kernel) rfl rfl (Nat.le_of_ble_eq_true rfl) dX4_fill_14 (fun u_13 hu_13 => ?_)
    have hL_14 := hL_11.num (th' := 0) (sm' := nI m) (ty' := nI t) (rm' := (nI K)) (sp' := sp1) (wr' := (-1)) (hs' := hs)
    replace hL_14 : MdL g u_13 0 (nI m) (nI t) (nI K) sp1 (-1) hs Z_11 SV_11 BF_11 VA RD1 CH WE := by rw [hu_13]; exact hL_14
    have hf_15 : ∀ j, ¬ (61 ≤ j ∧ j < 69) → u_13 j = u j := fun j hj => (show u_13 j = u_1 j from (fun j hj => by rw [hu_13]; exact vne (by omega)) j hj).trans (hf_2 j hj)
    have hX_16 : MdX g u_13 0 (nI K) sp1 (-1) hs VA RD1 CH WE n B m S t C := ⟨_, _, _, hL_14, hZ_11, hSV_11, hBF_11, hn_11, hm_11, ht_11⟩
    refine r_aload_n F 0 rfl dX4_fill_17 ?_
    refine r_get (C := RX4) (T := TX4) (N := 14) F 61 hL_14.1 (by decide) hinX4 rfl 0 (by decide) (by decide +kernel) rfl dX4_fill_18 ?_
    refine r_if_le F 26 (by decide) dX4_fill_21 (fun c_21_17 => ?_) (fun c_21_17 => absurd c_21_17 (by decide))
    clear c_21_17
    refine r_aload_n F 0 rfl dX4_fill_26 ?_
    refine r_callv (g_V (C := RX4) (T := TX4) (N := 14) (nA := 0) (As := []) (rest := []) F 61 hL_14.1 (by decide) rfl (c_X4_save hX_16) gX4_fill_X4_save rfl (by decide +kernel) rfl ⟨Nat.le_of_ble_eq_true rfl, Nat.le_of_ble_eq_true rfl⟩ ⟨Nat.le_of_ble_eq_true rfl, Nat.le_of_ble_eq_true rfl⟩ rfl (Nat.le_of_ble_eq_true rfl) dX4_fill_27) (fun u_18 hp_18 => ?_)
    obtain ⟨hX_18, hk_18⟩ := hp_18
    obtain ⟨Z_18, SV_18, BF_18, hL_18, hZ_18, hSV_18, hBF_18, hn_18, hm_18, ht_18⟩ := id hX_18
    have hf_19 : ∀ j, ¬ (61 ≤ j ∧ j < 69) → u_18 j = u j := fun j hj => (show u_18 j = u_13 j from hk_18 j hj).trans (hf_15 j hj)
    refine r_iconst (v := 0) F (by decide) dX4_fill_30 ?_
    refine r_istore_n (lv' := [(0, .ref (g.2.1 61)), (1, .int 0)]) F (by decide) rfl dX4_fill_31 ?_
    obtain ⟨P, hP0, hPK, hPs⟩ := hD.at
    have hK16 : K ≤ 16 := by obtain ⟨k1, p1, -, z, -⟩ := hD; exact z
    have loop_32 : ∀ (k : Nat) (i : Nat) (Bx : kB) (w1 : Nat → va_E) (x1_32 : Int32), i + k = K → MdX g w1 0 (nI K) sp1 (-1) hs VA RD1 CH WE n Bx (pushM m) (pushS m S (n, B)) t C → wfB n Bx → runG n C t (t + 1 - P i) (P i) (nI i) 0 (-1) false Bx = (filG n C t B) → (∀ j, ¬ (61 ≤ j ∧ j < 69) → w1 j = u j) → x1_32 = nI i → VL g X 0 0 w1 32 [(0, .ref (g.2.1 61)), (1, .int x1_32)] [] := by
      intro k
      induction k with
      | zero =>
        rintro i Bx w1 x1_32 hik hX1 hwx hG hf1 rfl
        obtain ⟨Z_90, SV_90, BF_90, hL_90, hZ_90, hSV_90, hBF_90, hn_90, hm_90, ht_90⟩ := id hX1
        have hjn : K = i := by omega
        subst hjn
        refine r_iload_n F 1 rfl dX4_fill_32 ?_
        refine r_aload_n F 0 rfl dX4_fill_33 ?_
        refine r_get (C := RX4) (T := TX4) (N := 14) F 61 hL_90.1 (by decide) hinX4 rfl 8 (by decide) (by decide +kernel) rfl dX4_fill_34 ?_
        refine r_icmp_ge F 109 (by decide) dX4_fill_37 (fun c_37_21 => ?_) (fun c_37_21 => absurd (Int32.le_refl _) c_37_21)
        clear c_37_21
        refine r_aload_n F 0 rfl dX4_fill_109 ?_
        refine r_iconst (v := 0) F (by decide) dX4_fill_110 ?_
        refine r_put (C := RX4) (T := TX4) (N := 14) (ty := .int) F 61 hL_90.1 (by decide) hinX4 tyX4 tyX4_ok nmX4 rfl 5 (by decide) (by decide +kernel) rfl (by decide +kernel) rfl rfl (Nat.le_of_ble_eq_true rfl) dX4_fill_111 (fun u_22 hu_22 => ?_)
        have hL_23 := hL_90.num (th' := 0) (sm' := nI (pushM m)) (ty' := 0) (rm' := (nI K)) (sp' := sp1) (wr' := (-1)) (hs' := hs)
        replace hL_23 : MdL g u_22 0 (nI (pushM m)) 0 (nI K) sp1 (-1) hs Z_90 SV_90 BF_90 VA RD1 CH WE := by rw [hu_22]; exact hL_23
        have hf_24 : ∀ j, ¬ (61 ≤ j ∧ j < 69) → u_22 j = u j := fun j hj => (show u_22 j = w1 j from (fun j hj => by rw [hu_22]; exact vne (by omega)) j hj).trans (hf1 j hj)
        refine r_iload_n F 1 rfl dX4_fill_114 ?_
        have hE : (filG n C t B) = (nI K, Bx) := by rw [← hG, hPK, Nat.sub_self]; rfl
        exact hret _ _ _ _ _ _ (Nat.le_of_ble_eq_true rfl) (Nat.le_of_ble_eq_true rfl) ⟨Or.inl ⟨hc2, by rw [hE], _, _, _, _, (by rw [hE]; exact ⟨_, _, _, hL_23, hZ_90, hSV_90, fun j hj => absurd hj (by omega), hn_90, hm_90, by omega⟩)⟩, hf_24⟩ dX4_fill_115
      | succ k ih_32 =>
        rintro i Bx w1 x1_32 hik hX1 hwx hG hf1 rfl
        obtain ⟨Z_90, SV_90, BF_90, hL_90, hZ_90, hSV_90, hBF_90, hn_90, hm_90, ht_90⟩ := id hX1
        have hbi : i < K := by omega
        obtain ⟨e, hPr, hce, hPe⟩ := hPs i hbi
        refine r_iload_n F 1 rfl dX4_fill_32 ?_
        refine r_aload_n F 0 rfl dX4_fill_33 ?_
        refine r_get (C := RX4) (T := TX4) (N := 14) F 61 hL_90.1 (by decide) hinX4 rfl 8 (by decide) (by decide +kernel) rfl dX4_fill_34 ?_
        refine r_icmp_ge F 109 (by decide) dX4_fill_37 (fun c_37_25 => absurd c_37_25 (nI_ge (b := K) hbi (by omega))) (fun c_37_25 => ?_)
        clear c_37_25
        refine r_aload_n F 0 rfl dX4_fill_40 ?_
        refine r_aload_n F 0 rfl dX4_fill_41 ?_
        refine r_get (C := RX4) (T := TX4) (N := 14) F 61 hL_90.1 (by decide) hinX4 rfl 7 (by decide) (by decide +kernel) rfl dX4_fill_42 ?_
        refine r_iconst (v := 2) F (by decide) dX4_fill_45 ?_
        refine r_iload_n F 1 rfl dX4_fill_46 ?_
        refine r_imul F dX4_fill_47 ?_
        refine r_iald F 66 hL_90.2.2.2.2.2.1 (by decide) (by rw [rdI]; exact vp_in_nI (by omega) (by decide)) dX4_fill_48 ?_
        refine r_eq (st2 := [.int (RD1 (2 * i)), .ref (g.2.1 61)]) (by rw [rdI, nI_clamp (by omega)]) rfl ?_
        refine r_calli (g_V (C := RX4) (T := TX4) (N := 14) (nA := 1) (As := [.int (RD1 (2 * i))]) (rest := []) F 61 hL_90.1 (by decide) rfl (c_X4_isBox hX1 ) gX4_fill_X4_isBox rfl (by decide +kernel) rfl ⟨Nat.le_of_ble_eq_true rfl, Nat.le_of_ble_eq_true rfl⟩ ⟨Nat.le_of_ble_eq_true rfl, Nat.le_of_ble_eq_true rfl⟩ rfl (Nat.le_of_ble_eq_true rfl) dX4_fill_49) (fun r_26 u_26 hp_26 => ?_)
        obtain ⟨rfl, rfl⟩ := hp_26
        refine r_if_eq F 109 (by decide) dX4_fill_52 (fun c_52_27 => ?_) (fun c_52_27 => ?_)
        · skip
          replace c_52_27 := bI0 c_52_27
          refine r_aload_n F 0 rfl dX4_fill_109 ?_
          refine r_iconst (v := 0) F (by decide) dX4_fill_110 ?_
          refine r_put (C := RX4) (T := TX4) (N := 14) (ty := .int) F 61 hL_90.1 (by decide) hinX4 tyX4 tyX4_ok nmX4 rfl 5 (by decide) (by decide +kernel) rfl (by decide +kernel) rfl rfl (Nat.le_of_ble_eq_true rfl) dX4_fill_111 (fun u_28 hu_28 => ?_)
          have hL_29 := hL_90.num (th' := 0) (sm' := nI (pushM m)) (ty' := 0) (rm' := (nI K)) (sp' := sp1) (wr' := (-1)) (hs' := hs)
          replace hL_29 : MdL g u_28 0 (nI (pushM m)) 0 (nI K) sp1 (-1) hs Z_90 SV_90 BF_90 VA RD1 CH WE := by rw [hu_28]; exact hL_29
          have hf_30 : ∀ j, ¬ (61 ≤ j ∧ j < 69) → u_28 j = u j := fun j hj => (show u_28 j = w1 j from (fun j hj => by rw [hu_28]; exact vne (by omega)) j hj).trans (hf1 j hj)
          refine r_iload_n F 1 rfl dX4_fill_114 ?_
          have hno : ¬ (hasB n (RD1 (2 * i)) && fitA Bx (RD1 (2 * i)).toNatClampNeg (RD1 (2 * i + 1))) = true := by rw [c_52_27]; simp
          have hE : (filG n C t B) = (nI i, Bx) := by rw [← hG, runG_part hPr hce, if_neg hno]
          exact hret _ _ _ _ _ _ (Nat.le_of_ble_eq_true rfl) (Nat.le_of_ble_eq_true rfl) ⟨Or.inl ⟨hc2, by rw [hE], _, _, _, _, (by rw [hE]; exact ⟨_, _, _, hL_29, hZ_90, hSV_90, fun j hj => absurd hj (by omega), hn_90, hm_90, by omega⟩)⟩, hf_30⟩ dX4_fill_115
        · skip
          replace c_52_27 := bI1 c_52_27
          obtain ⟨b, hbn, hbe⟩ := hasB_of (by omega) c_52_27
          refine r_aload_n F 0 rfl dX4_fill_55 ?_
          refine r_aload_n F 0 rfl dX4_fill_56 ?_
          refine r_get (C := RX4) (T := TX4) (N := 14) F 61 hL_90.1 (by decide) hinX4 rfl 7 (by decide) (by decide +kernel) rfl dX4_fill_57 ?_
          refine r_iconst (v := 2) F (by decide) dX4_fill_60 ?_
          refine r_iload_n F 1 rfl dX4_fill_61 ?_
          refine r_imul F dX4_fill_62 ?_
          refine r_iald F 66 hL_90.2.2.2.2.2.1 (by decide) (by rw [rdI]; exact vp_in_nI (by omega) (by decide)) dX4_fill_63 ?_
          refine r_eq (st2 := [.int (nI b), .ref (g.2.1 61)]) (by rw [rdI, nI_clamp (by omega), hbe]) rfl ?_
          refine r_aload_n F 0 rfl dX4_fill_64 ?_
          refine r_get (C := RX4) (T := TX4) (N := 14) F 61 hL_90.1 (by decide) hinX4 rfl 7 (by decide) (by decide +kernel) rfl dX4_fill_65 ?_
          refine r_iconst (v := 2) F (by decide) dX4_fill_68 ?_
          refine r_iload_n F 1 rfl dX4_fill_69 ?_
          refine r_imul F dX4_fill_70 ?_
          refine r_iconst (v := 1) F (by decide) dX4_fill_71 ?_
          refine r_iadd F dX4_fill_72 ?_
          refine r_iald F 66 hL_90.2.2.2.2.2.1 (by decide) (by rw [rdI, nI_1]; exact vp_in_nI (by omega) (by decide)) dX4_fill_73 ?_
          refine r_eq (st2 := [.int (RD1 (2 * i + 1)), .int (nI b), .ref (g.2.1 61)]) (by rw [rdI, nI_1, nI_clamp (by omega)]) rfl ?_
          refine r_calli (g_V (C := RX4) (T := TX4) (N := 14) (nA := 2) (As := [.int (nI b), .int (RD1 (2 * i + 1))]) (rest := []) F 61 hL_90.1 (by decide) rfl (c_X4_canHave hX1 hwx hbn) gX4_fill_X4_canHave rfl (by decide +kernel) rfl ⟨Nat.le_of_ble_eq_true rfl, Nat.le_of_ble_eq_true rfl⟩ ⟨Nat.le_of_ble_eq_true rfl, Nat.le_of_ble_eq_true rfl⟩ rfl (Nat.le_of_ble_eq_true rfl) dX4_fill_74) (fun r_31 u_31 hp_31 => ?_)
          obtain ⟨rfl, rfl⟩ := hp_31
          refine r_if_eq F 109 (by decide) dX4_fill_77 (fun c_77_32 => ?_) (fun c_77_32 => ?_)
          · skip
            replace c_77_32 := bI0 c_77_32
            refine r_aload_n F 0 rfl dX4_fill_109 ?_
            refine r_iconst (v := 0) F (by decide) dX4_fill_110 ?_
            refine r_put (C := RX4) (T := TX4) (N := 14) (ty := .int) F 61 hL_90.1 (by decide) hinX4 tyX4 tyX4_ok nmX4 rfl 5 (by decide) (by decide +kernel) rfl (by decide +kernel) rfl rfl (Nat.le_of_ble_eq_true rfl) dX4_fill_111 (fun u_33 hu_33 => ?_)
            have hL_34 := hL_90.num (th' := 0) (sm' := nI (pushM m)) (ty' := 0) (rm' := (nI K)) (sp' := sp1) (wr' := (-1)) (hs' := hs)
            replace hL_34 : MdL g u_33 0 (nI (pushM m)) 0 (nI K) sp1 (-1) hs Z_90 SV_90 BF_90 VA RD1 CH WE := by rw [hu_33]; exact hL_34
            have hf_35 : ∀ j, ¬ (61 ≤ j ∧ j < 69) → u_33 j = u j := fun j hj => (show u_33 j = w1 j from (fun j hj => by rw [hu_33]; exact vne (by omega)) j hj).trans (hf1 j hj)
            refine r_iload_n F 1 rfl dX4_fill_114 ?_
            have hno : ¬ (hasB n (RD1 (2 * i)) && fitA Bx (RD1 (2 * i)).toNatClampNeg (RD1 (2 * i + 1))) = true := by rw [hbe, nI_clamp (by omega), c_77_32]; simp
            have hE : (filG n C t B) = (nI i, Bx) := by rw [← hG, runG_part hPr hce, if_neg hno]
            exact hret _ _ _ _ _ _ (Nat.le_of_ble_eq_true rfl) (Nat.le_of_ble_eq_true rfl) ⟨Or.inl ⟨hc2, by rw [hE], _, _, _, _, (by rw [hE]; exact ⟨_, _, _, hL_34, hZ_90, hSV_90, fun j hj => absurd hj (by omega), hn_90, hm_90, by omega⟩)⟩, hf_35⟩ dX4_fill_115
          · skip
            replace c_77_32 := bI1 c_77_32
            refine r_aload_n F 0 rfl dX4_fill_80 ?_
            refine r_aload_n F 0 rfl dX4_fill_81 ?_
            refine r_get (C := RX4) (T := TX4) (N := 14) F 61 hL_90.1 (by decide) hinX4 rfl 7 (by decide) (by decide +kernel) rfl dX4_fill_82 ?_
            refine r_iconst (v := 2) F (by decide) dX4_fill_85 ?_
            refine r_iload_n F 1 rfl dX4_fill_86 ?_
            refine r_imul F dX4_fill_87 ?_
            refine r_iald F 66 hL_90.2.2.2.2.2.1 (by decide) (by rw [rdI]; exact vp_in_nI (by omega) (by decide)) dX4_fill_88 ?_
            refine r_eq (st2 := [.int (nI b), .ref (g.2.1 61)]) (by rw [rdI, nI_clamp (by omega), hbe]) rfl ?_
            refine r_iconst (v := 4) F (by decide) dX4_fill_89 ?_
            refine r_aload_n F 0 rfl dX4_fill_90 ?_
            refine r_get (C := RX4) (T := TX4) (N := 14) F 61 hL_90.1 (by decide) hinX4 rfl 7 (by decide) (by decide +kernel) rfl dX4_fill_91 ?_
            refine r_iconst (v := 2) F (by decide) dX4_fill_94 ?_
            refine r_iload_n F 1 rfl dX4_fill_95 ?_
            refine r_imul F dX4_fill_96 ?_
            refine r_iconst (v := 1) F (by decide) dX4_fill_97 ?_
            refine r_iadd F dX4_fill_98 ?_
            refine r_iald F 66 hL_90.2.2.2.2.2.1 (by decide) (by rw [rdI, nI_1]; exact vp_in_nI (by omega) (by decide)) dX4_fill_99 ?_
            refine r_eq (st2 := [.int (RD1 (2 * i + 1)), .int 4, .int (nI b), .ref (g.2.1 61)]) (by rw [rdI, nI_1, nI_clamp (by omega)]) rfl ?_
            refine r_callv (g_V (C := RX4) (T := TX4) (N := 14) (nA := 3) (As := [.int (nI b), .int 4, .int (RD1 (2 * i + 1))]) (rest := []) F 61 hL_90.1 (by decide) rfl (c_X4_lay hL_90 (by omega) (w := 4) (by decide)) gX4_fill_X4_lay rfl (by decide +kernel) rfl ⟨Nat.le_of_ble_eq_true rfl, Nat.le_of_ble_eq_true rfl⟩ ⟨Nat.le_of_ble_eq_true rfl, Nat.le_of_ble_eq_true rfl⟩ rfl (Nat.le_of_ble_eq_true rfl) dX4_fill_100) (fun u_36 hp_36 => ?_)
            obtain ⟨hL_36, hk_36⟩ := hp_36
            have hf_37 : ∀ j, ¬ (61 ≤ j ∧ j < 69) → u_36 j = u j := fun j hj => (show u_36 j = w1 j from hk_36 j hj).trans (hf1 j hj)
            have hX_38 : MdX g u_36 0 (nI K) sp1 (-1) hs VA RD1 CH WE n (bUp Bx b 4 (RD1 (2 * i + 1))) (pushM m) (pushS m S (n, B)) t C := ⟨_, _, _, hL_36, hZ_90.up, hSV_90, hBF_90, hn_90, hm_90, ht_90⟩
            have hyes : (hasB n (RD1 (2 * i)) && fitA Bx (RD1 (2 * i)).toNatClampNeg (RD1 (2 * i + 1))) = true := by rw [c_52_27, Bool.true_and, hbe, nI_clamp (by omega)]; exact c_77_32
            refine r_iinc (lv' := [(0, .ref (g.2.1 61)), (1, .int (nI (i + 1)))]) F 1 rfl (nI_inc _) (by decide) rfl dX4_fill_103 ?_
            refine r_goto F 32 (by decide) dX4_fill_106 ?_
            exact ih_32 (i + 1) _ _ _ (by omega) hX_38 (hwx.up (fitA_3 c_77_32)) (by rw [hPe, ← hG, runG_part hPr hce, if_pos hyes, hbe, nI_clamp (by omega), nI_1]) hf_37 rfl
    exact loop_32 K 0 B u_18 _ (by omega) hX_18 hw (by rw [hP0]; rfl) hf_19 rfl

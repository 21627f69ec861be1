set_option maxHeartbeats 4000000 in
set_option maxRecDepth 100000 in
theorem c_X4_mix {g : kG} {l : Launch} {u : Nat → va_E} {th rm sp wr : Int32} {hs : Int64} {VA RD CH WE : Nat → Int32} {n m t : Nat} {B : kB} {S : Nat → kS} {C : Nat → Int32} {v : Int64} (h : MdX g u th rm sp wr hs VA RD CH WE n B m S t C)  : CV g l yX4_mix wsX4_mix ({ frames := 0, cells := 0, slots := 0, locals := 0 }) [.ref (g.2.1 61), .long v] u (fun u' => MdX g u' th rm sp wr (mixL hs v) VA RD CH WE n B m S t C ∧ ∀ j, ¬ (61 ≤ j ∧ j < 69) → u' j = u j) := by
  refine CV.of (cc := cX4_mix) (nL := 3) (by decide +kernel) rfl (Nat.le_of_ble_eq_true rfl) ?_
  intro X hXl F hret
  subst hXl
  have hinX4 : ∀ w ∈ wsX40, w ∈ wsX4_mix := by decide +kernel
  obtain ⟨Z, SV, BF, hL, hZ, hSV, hBF, hn16, hm6, ht60⟩ := id h
  show VL g X 0 0 u 0 [(0, .ref (g.2.1 61)), (1, .long v)] []
  refine r_aload_n F 0 rfl dX4_mix_0 ?_
  refine r_ldc2 (v := 31) F (by decide +kernel) dX4_mix_1 ?_
  refine r_aload_n F 0 rfl dX4_mix_4 ?_
  refine r_get (C := RX4) (T := TX4) (N := 14) F 61 hL.1 (by decide) hinX4 rfl 13 (by decide) (by decide +kernel) rfl dX4_mix_5 ?_
  refine r_lmul F dX4_mix_8 ?_
  refine r_lload_n F 1 rfl dX4_mix_9 ?_
  refine r_ladd F dX4_mix_10 ?_
  refine r_put (C := RX4) (T := TX4) (N := 14) (ty := .long) F 61 hL.1 (by decide) hinX4 tyX4 tyX4_ok nmX4 rfl 13 (by decide) (by decide +kernel) rfl (by decide +kernel) rfl rfl (Nat.le_of_ble_eq_true rfl) dX4_mix_11 (fun u_1 hu_1 => ?_)
  have hL_2 := hL.num (th' := th) (sm' := nI m) (ty' := nI t) (rm' := rm) (sp' := sp) (wr' := wr) (hs' := (31 * hs) + v)
  replace hL_2 : MdL g u_1 th (nI m) (nI t) rm sp wr ((31 * hs) + v) Z SV BF VA RD CH WE := by rw [hu_1]; exact hL_2
  have hf_3 : ∀ j, ¬ (61 ≤ j ∧ j < 69) → u_1 j = u j := (fun j hj => by rw [hu_1]; exact vne (by omega))
  have hX_4 : MdX g u_1 th rm sp wr ((31 * hs) + v) VA RD CH WE n B m S t C := ⟨_, _, _, hL_2, hZ, hSV, hBF, hn16, hm6, ht60⟩
  exact hret _ _ _ _ _ (Nat.le_of_ble_eq_true rfl) (Nat.le_of_ble_eq_true rfl) ⟨hX_4, hf_3⟩ dX4_mix_14
set_option maxHeartbeats 4000000 in
set_option maxRecDepth 100000 in
theorem c_X4_digest {g : kG} {l : Launch} {u : Nat → va_E} {th rm sp wr : Int32} {hs : Int64} {VA RD CH WE : Nat → Int32} {n m t : Nat} {B : kB} {S : Nat → kS} {C : Nat → Int32}  (h : MdX g u th rm sp wr hs VA RD CH WE n B m S t C) (hw : wfB n B) : CL g l yX4_digest wsX4_digest ({ frames := 5, cells := 0, slots := 0, locals := 119 }) [.ref (g.2.1 61)] u (fun r u' => r = digL B n m t C ∧ (∃ hs' VA' CH' WE', MdX g u' 0 rm sp wr hs' VA' RD CH' WE' n B m S t C) ∧ ∀ j, ¬ (61 ≤ j ∧ j < 69) → u' j = u j) := by
  refine CL.of (cc := cX4_digest) (nL := 3) (by decide +kernel) rfl (Nat.le_of_ble_eq_true rfl) ?_
  intro X hXl F hret
  subst hXl
  have hinX4 : ∀ w ∈ wsX40, w ∈ wsX4_digest := by decide +kernel
  obtain ⟨Z, SV, BF, hL, hZ, hSV, hBF, hn16, hm6, ht60⟩ := id h
  show VL g X 0 0 u 0 [(0, .ref (g.2.1 61))] []
  refine r_aload_n F 0 rfl dX4_digest_0 ?_
  refine r_iconst (v := 0) F (by decide) dX4_digest_1 ?_
  refine r_put (C := RX4) (T := TX4) (N := 14) (ty := .int) F 61 hL.1 (by decide) hinX4 tyX4 tyX4_ok nmX4 rfl 0 (by decide) (by decide +kernel) rfl (by decide +kernel) rfl rfl (Nat.le_of_ble_eq_true rfl) dX4_digest_2 (fun u_1 hu_1 => ?_)
  have hL_2 := hL.num (th' := 0) (sm' := nI m) (ty' := nI t) (rm' := rm) (sp' := sp) (wr' := wr) (hs' := hs)
  replace hL_2 : MdL g u_1 0 (nI m) (nI t) rm sp wr hs Z SV BF VA RD CH WE := by rw [hu_1]; exact hL_2
  have hf_3 : ∀ j, ¬ (61 ≤ j ∧ j < 69) → u_1 j = u j := (fun j hj => by rw [hu_1]; exact vne (by omega))
  have hX_4 : MdX g u_1 0 rm sp wr hs VA RD CH WE n B m S t C := ⟨_, _, _, hL_2, hZ, hSV, hBF, hn16, hm6, ht60⟩
  refine r_aload_n F 0 rfl dX4_digest_5 ?_
  refine r_ldc2 (v := 3389) F (by decide +kernel) dX4_digest_6 ?_
  refine r_put (C := RX4) (T := TX4) (N := 14) (ty := .long) F 61 hL_2.1 (by decide) hinX4 tyX4 tyX4_ok nmX4 rfl 13 (by decide) (by decide +kernel) rfl (by decide +kernel) rfl rfl (Nat.le_of_ble_eq_true rfl) dX4_digest_9 (fun u_5 hu_5 => ?_)
  have hL_6 := hL_2.num (th' := 0) (sm' := nI m) (ty' := nI t) (rm' := rm) (sp' := sp) (wr' := wr) (hs' := 3389)
  replace hL_6 : MdL g u_5 0 (nI m) (nI t) rm sp wr 3389 Z SV BF VA RD CH WE := by rw [hu_5]; exact hL_6
  have hf_7 : ∀ j, ¬ (61 ≤ j ∧ j < 69) → u_5 j = u j := fun j hj => (show u_5 j = u_1 j from (fun j hj => by rw [hu_5]; exact vne (by omega)) j hj).trans (hf_3 j hj)
  have hX_8 : MdX g u_5 0 rm sp wr 3389 VA RD CH WE n B m S t C := ⟨_, _, _, hL_6, hZ, hSV, hBF, hn16, hm6, ht60⟩
  refine r_iconst (v := 0) F (by decide) dX4_digest_12 ?_
  refine r_istore_n (lv' := [(0, .ref (g.2.1 61)), (1, .int 0)]) F (by decide) rfl dX4_digest_13 ?_
  have loop_14 : ∀ (k : Nat) (i : Nat) (w1 : Nat → va_E) (x1_14 : Int32), i + k = 9 → MdX g w1 0 rm sp wr (hfN (fun w => tF B n m (opm B n) (nI w)) i 3389) VA RD CH WE n B m S t C → (∀ j, ¬ (61 ≤ j ∧ j < 69) → w1 j = u j) → x1_14 = nI i → VL g X 0 0 w1 14 [(0, .ref (g.2.1 61)), (1, .int x1_14)] [] := by
    intro k
    induction k with
    | zero =>
      rintro i w1 x1_14 hk_i hX1 hf1 rfl
      obtain ⟨Z_81, SV_81, BF_81, hL_81, hZ_81, hSV_81, hBF_81, hn_81, hm_81, ht_81⟩ := id hX1
      have hjn : i = 9 := by omega
      subst hjn
      refine r_iload_n F 1 rfl dX4_digest_14 ?_
      refine r_bipush (v := 8) F (by decide) dX4_digest_15 ?_
      refine r_icmp_gt F 36 (by decide) dX4_digest_17 (fun c_17_10 => ?_) (fun c_17_10 => absurd (by decide) c_17_10)
      clear c_17_10
      refine r_iconst (v := 0) F (by decide) dX4_digest_36 ?_
      refine r_istore_n (lv' := [(0, .ref (g.2.1 61)), (1, .int 0)]) F (by decide) rfl dX4_digest_37 ?_
      have loop_38 : ∀ (k : Nat) (j : Nat) (VAx : Nat → Int32) (w2 : Nat → va_E) (x1_38 : Int32), j + k = n → MdX g w2 0 rm sp wr (hoN (hBox1 B n (opm B n)) j (hCnt B n m (opm B n) 3389)) VAx RD CH WE n B m S t C → (∀ j, ¬ (61 ≤ j ∧ j < 69) → w2 j = u j) → x1_38 = nI j → VL g X 0 0 w2 38 [(0, .ref (g.2.1 61)), (1, .int x1_38)] [] := by
        intro k
        induction k with
        | zero =>
          rintro j VAx w2 x1_38 hk_j hX2 hf2 rfl
          obtain ⟨Z_82, SV_82, BF_82, hL_82, hZ_82, hSV_82, hBF_82, hn_82, hm_82, ht_82⟩ := id hX2
          have hjn : n = j := by omega
          subst hjn
          refine r_iload_n F 1 rfl dX4_digest_38 ?_
          refine r_aload_n F 0 rfl dX4_digest_39 ?_
          refine r_get (C := RX4) (T := TX4) (N := 14) F 61 hL_82.1 (by decide) hinX4 rfl 1 (by decide) (by decide +kernel) rfl dX4_digest_40 ?_
          refine r_iconst (v := 0) F (by decide) dX4_digest_43 ?_
          refine r_iald F 62 hL_82.2.1 (by decide) (vp_in_nI (n := 0) (by decide) (by decide)) dX4_digest_44 ?_
          refine r_eq (st2 := [.int (nI n), .int (nI n)]) (by rw [show Z_82 (0 : Int32).toNatClampNeg = nI n from hZ_82.1]) rfl ?_
          refine r_icmp_ge F 114 (by decide) dX4_digest_45 (fun c_45_12 => ?_) (fun c_45_12 => absurd (Int32.le_refl _) c_45_12)
          clear c_45_12
          refine r_iconst (v := 0) F (by decide) dX4_digest_114 ?_
          refine r_istore_n (lv' := [(0, .ref (g.2.1 61)), (1, .int 0)]) F (by decide) rfl dX4_digest_115 ?_
          have loop_116 : ∀ (k : Nat) (j : Nat) (w5 : Nat → va_E) (x1_116 : Int32), j + k = 5 → MdX g w5 0 rm sp wr (hoN (fun p h => hfN (fun w => tP B n (opm B n) (nI p) (nI w)) 6 h) j (hBox B n (opm B n) (hCnt B n m (opm B n) 3389))) VAx RD CH WE n B m S t C → (∀ j, ¬ (61 ≤ j ∧ j < 69) → w5 j = u j) → x1_116 = nI j → VL g X 0 0 w5 116 [(0, .ref (g.2.1 61)), (1, .int x1_116)] [] := by
            intro k
            induction k with
            | zero =>
              rintro j w5 x1_116 hk_j hX5 hf5 rfl
              obtain ⟨Z_85, SV_85, BF_85, hL_85, hZ_85, hSV_85, hBF_85, hn_85, hm_85, ht_85⟩ := id hX5
              have hjn : j = 5 := by omega
              subst hjn
              refine r_iload_n F 1 rfl dX4_digest_116 ?_
              refine r_iconst (v := 5) F (by decide) dX4_digest_117 ?_
              refine r_icmp_ge F 151 (by decide) dX4_digest_118 (fun c_118_14 => ?_) (fun c_118_14 => absurd (by decide) c_118_14)
              clear c_118_14
              refine r_aload_n F 0 rfl dX4_digest_151 ?_
              refine r_aload_n F 0 rfl dX4_digest_152 ?_
              refine r_calli (g_V (C := RX4) (T := TX4) (N := 14) (nA := 0) (As := []) (rest := [.ref (g.2.1 61)]) F 61 hL_85.1 (by decide) rfl (c_X4_fewest hX5 hw) gX4_digest_X4_fewest rfl (by decide +kernel) rfl ⟨Nat.le_of_ble_eq_true rfl, Nat.le_of_ble_eq_true rfl⟩ ⟨Nat.le_of_ble_eq_true rfl, Nat.le_of_ble_eq_true rfl⟩ rfl (Nat.le_of_ble_eq_true rfl) dX4_digest_153) (fun r_15 u_15 hp_15 => ?_)
              obtain ⟨rfl, ⟨CH_15, WE_15, hX_15⟩, hk_15⟩ := hp_15
              obtain ⟨Z_15, SV_15, BF_15, hL_15, hZ_15, hSV_15, hBF_15, hn_15, hm_15, ht_15⟩ := id hX_15
              have hf_16 : ∀ j, ¬ (61 ≤ j ∧ j < 69) → u_15 j = u j := fun j hj => (show u_15 j = w5 j from hk_15 j hj).trans (hf5 j hj)
              refine r_i2l F rfl dX4_digest_156 ?_
              refine r_callv (g_V (C := RX4) (T := TX4) (N := 14) (nA := 1) (As := [.long ((sho B n).toInt64)]) (rest := []) F 61 hL_15.1 (by decide) rfl (c_X4_mix (v := ((sho B n).toInt64)) hX_15) gX4_digest_X4_mix rfl (by decide +kernel) rfl ⟨Nat.le_of_ble_eq_true rfl, Nat.le_of_ble_eq_true rfl⟩ ⟨Nat.le_of_ble_eq_true rfl, Nat.le_of_ble_eq_true rfl⟩ rfl (Nat.le_of_ble_eq_true rfl) dX4_digest_157) (fun u_17 hp_17 => ?_)
              obtain ⟨hX_17, hk_17⟩ := hp_17
              obtain ⟨Z_17, SV_17, BF_17, hL_17, hZ_17, hSV_17, hBF_17, hn_17, hm_17, ht_17⟩ := id hX_17
              have hf_18 : ∀ j, ¬ (61 ≤ j ∧ j < 69) → u_17 j = u j := fun j hj => (show u_17 j = u_15 j from hk_17 j hj).trans (hf_16 j hj)
              refine r_aload_n F 0 rfl dX4_digest_160 ?_
              refine r_aload_n F 0 rfl dX4_digest_161 ?_
              refine r_calli (g_V (C := RX4) (T := TX4) (N := 14) (nA := 0) (As := []) (rest := [.ref (g.2.1 61)]) F 61 hL_17.1 (by decide) rfl (c_X4_carriedMost hX_17 ) gX4_digest_X4_carriedMost rfl (by decide +kernel) rfl ⟨Nat.le_of_ble_eq_true rfl, Nat.le_of_ble_eq_true rfl⟩ ⟨Nat.le_of_ble_eq_true rfl, Nat.le_of_ble_eq_true rfl⟩ rfl (Nat.le_of_ble_eq_true rfl) dX4_digest_162) (fun r_19 u_19 hp_19 => ?_)
              obtain ⟨rfl, rfl⟩ := hp_19
              refine r_i2l F rfl dX4_digest_165 ?_
              refine r_callv (g_V (C := RX4) (T := TX4) (N := 14) (nA := 1) (As := [.long ((mcB B n n).toInt64)]) (rest := []) F 61 hL_17.1 (by decide) rfl (c_X4_mix (v := ((mcB B n n).toInt64)) hX_17) gX4_digest_X4_mix rfl (by decide +kernel) rfl ⟨Nat.le_of_ble_eq_true rfl, Nat.le_of_ble_eq_true rfl⟩ ⟨Nat.le_of_ble_eq_true rfl, Nat.le_of_ble_eq_true rfl⟩ rfl (Nat.le_of_ble_eq_true rfl) dX4_digest_166) (fun u_20 hp_20 => ?_)
              obtain ⟨hX_20, hk_20⟩ := hp_20
              obtain ⟨Z_20, SV_20, BF_20, hL_20, hZ_20, hSV_20, hBF_20, hn_20, hm_20, ht_20⟩ := id hX_20
              have hf_21 : ∀ j, ¬ (61 ≤ j ∧ j < 69) → u_20 j = u j := fun j hj => (show u_20 j = u_17 j from hk_20 j hj).trans (hf_18 j hj)
              refine r_aload_n F 0 rfl dX4_digest_169 ?_
              refine r_aload_n F 0 rfl dX4_digest_170 ?_
              refine r_calld (g_V (C := RX4) (T := TX4) (N := 14) (nA := 0) (As := []) (rest := [.ref (g.2.1 61)]) F 61 hL_20.1 (by decide) rfl (c_X4_share hX_20 ) gX4_digest_X4_share rfl (by decide +kernel) rfl ⟨Nat.le_of_ble_eq_true rfl, Nat.le_of_ble_eq_true rfl⟩ ⟨Nat.le_of_ble_eq_true rfl, Nat.le_of_ble_eq_true rfl⟩ rfl (Nat.le_of_ble_eq_true rfl) dX4_digest_171) (fun r_22 u_22 hp_22 => ?_)
              obtain ⟨rfl, rfl⟩ := hp_22
              refine r_calll (g_S (nA := 1) (As := [.double (filD B n)]) (rest := [.ref (g.2.1 61)]) F (c_X4_bitsOf (filD_ok hn_20) (zr_fil hn_20)) gX4_digest_X4_bitsOf rfl (by decide +kernel) rfl ⟨Nat.le_of_ble_eq_true rfl, Nat.le_of_ble_eq_true rfl⟩ ⟨Nat.le_of_ble_eq_true rfl, Nat.le_of_ble_eq_true rfl⟩ rfl (Nat.le_of_ble_eq_true rfl) dX4_digest_174) (fun r_23 u_23 hp_23 => ?_)
              obtain ⟨rfl, rfl⟩ := hp_23
              refine r_callv (g_V (C := RX4) (T := TX4) (N := 14) (nA := 1) (As := [.long (bitD (filD B n))]) (rest := []) F 61 hL_20.1 (by decide) rfl (c_X4_mix (v := (bitD (filD B n))) hX_20) gX4_digest_X4_mix rfl (by decide +kernel) rfl ⟨Nat.le_of_ble_eq_true rfl, Nat.le_of_ble_eq_true rfl⟩ ⟨Nat.le_of_ble_eq_true rfl, Nat.le_of_ble_eq_true rfl⟩ rfl (Nat.le_of_ble_eq_true rfl) dX4_digest_177) (fun u_24 hp_24 => ?_)
              obtain ⟨hX_24, hk_24⟩ := hp_24
              obtain ⟨Z_24, SV_24, BF_24, hL_24, hZ_24, hSV_24, hBF_24, hn_24, hm_24, ht_24⟩ := id hX_24
              have hf_25 : ∀ j, ¬ (61 ≤ j ∧ j < 69) → u_24 j = u j := fun j hj => (show u_24 j = u_20 j from hk_24 j hj).trans (hf_21 j hj)
              refine r_aload_n F 0 rfl dX4_digest_180 ?_
              refine r_aload_n F 0 rfl dX4_digest_181 ?_
              refine r_get (C := RX4) (T := TX4) (N := 14) F 61 hL_24.1 (by decide) hinX4 rfl 5 (by decide) (by decide +kernel) rfl dX4_digest_182 ?_
              refine r_i2l F rfl dX4_digest_185 ?_
              refine r_callv (g_V (C := RX4) (T := TX4) (N := 14) (nA := 1) (As := [.long ((nI t).toInt64)]) (rest := []) F 61 hL_24.1 (by decide) rfl (c_X4_mix (v := ((nI t).toInt64)) hX_24) gX4_digest_X4_mix rfl (by decide +kernel) rfl ⟨Nat.le_of_ble_eq_true rfl, Nat.le_of_ble_eq_true rfl⟩ ⟨Nat.le_of_ble_eq_true rfl, Nat.le_of_ble_eq_true rfl⟩ rfl (Nat.le_of_ble_eq_true rfl) dX4_digest_186) (fun u_26 hp_26 => ?_)
              obtain ⟨hX_26, hk_26⟩ := hp_26
              obtain ⟨Z_26, SV_26, BF_26, hL_26, hZ_26, hSV_26, hBF_26, hn_26, hm_26, ht_26⟩ := id hX_26
              have hf_27 : ∀ j, ¬ (61 ≤ j ∧ j < 69) → u_26 j = u j := fun j hj => (show u_26 j = u_24 j from hk_26 j hj).trans (hf_25 j hj)
              refine r_iconst (v := 0) F (by decide) dX4_digest_189 ?_
              refine r_istore_n (lv' := [(0, .ref (g.2.1 61)), (1, .int 0)]) F (by decide) rfl dX4_digest_190 ?_
              have loop_191 : ∀ (k : Nat) (j : Nat) (w7 : Nat → va_E) (x1_191 : Int32), j + k = t → MdX g w7 0 rm sp wr (hfN C j (mixL (mixL (mixL (mixL (hPrt B n (opm B n) (hBox B n (opm B n) (hCnt B n m (opm B n) 3389))) (sho B n).toInt64) (mcB B n n).toInt64) (bitD (filD B n))) (nI t).toInt64)) VAx RD CH_15 WE_15 n B m S t C → (∀ j, ¬ (61 ≤ j ∧ j < 69) → w7 j = u j) → x1_191 = nI j → VL g X 0 0 w7 191 [(0, .ref (g.2.1 61)), (1, .int x1_191)] [] := by
                intro k
                induction k with
                | zero =>
                  rintro j w7 x1_191 hk_j hX7 hf7 rfl
                  obtain ⟨Z_87, SV_87, BF_87, hL_87, hZ_87, hSV_87, hBF_87, hn_87, hm_87, ht_87⟩ := id hX7
                  have hjn : t = j := by omega
                  subst hjn
                  refine r_iload_n F 1 rfl dX4_digest_191 ?_
                  refine r_aload_n F 0 rfl dX4_digest_192 ?_
                  refine r_get (C := RX4) (T := TX4) (N := 14) F 61 hL_87.1 (by decide) hinX4 rfl 5 (by decide) (by decide +kernel) rfl dX4_digest_193 ?_
                  refine r_icmp_ge F 216 (by decide) dX4_digest_196 (fun c_196_29 => ?_) (fun c_196_29 => absurd (Int32.le_refl _) c_196_29)
                  clear c_196_29
                  refine r_aload_n F 0 rfl dX4_digest_216 ?_
                  refine r_get (C := RX4) (T := TX4) (N := 14) F 61 hL_87.1 (by decide) hinX4 rfl 13 (by decide) (by decide +kernel) rfl dX4_digest_217 ?_
                  exact hret _ _ _ _ _ _ (Nat.le_of_ble_eq_true rfl) (Nat.le_of_ble_eq_true rfl) ⟨rfl, ⟨_, _, _, _, hX7⟩, hf7⟩ dX4_digest_220
                | succ k ih_191 =>
                  rintro j w7 x1_191 hk_j hX7 hf7 rfl
                  obtain ⟨Z_87, SV_87, BF_87, hL_87, hZ_87, hSV_87, hBF_87, hn_87, hm_87, ht_87⟩ := id hX7
                  have hbj : j < t := by omega
                  refine r_iload_n F 1 rfl dX4_digest_191 ?_
                  refine r_aload_n F 0 rfl dX4_digest_192 ?_
                  refine r_get (C := RX4) (T := TX4) (N := 14) F 61 hL_87.1 (by decide) hinX4 rfl 5 (by decide) (by decide +kernel) rfl dX4_digest_193 ?_
                  refine r_icmp_ge F 216 (by decide) dX4_digest_196 (fun c_196_30 => absurd c_196_30 (nI_ge (b := t) hbj (by omega))) (fun c_196_30 => ?_)
                  clear c_196_30
                  refine r_aload_n F 0 rfl dX4_digest_199 ?_
                  refine r_aload_n F 0 rfl dX4_digest_200 ?_
                  refine r_get (C := RX4) (T := TX4) (N := 14) F 61 hL_87.1 (by decide) hinX4 rfl 4 (by decide) (by decide +kernel) rfl dX4_digest_201 ?_
                  refine r_iload_n F 1 rfl dX4_digest_204 ?_
                  refine r_iald F 64 hL_87.2.2.2.1 (by decide) (vp_in_nI (by omega) (by decide)) dX4_digest_205 ?_
                  refine r_eq (st2 := [.int (C j), .ref (g.2.1 61)]) (by rw [nI_clamp (by omega), hBF_87 j hbj]) rfl ?_
                  refine r_i2l F rfl dX4_digest_206 ?_
                  refine r_callv (g_V (C := RX4) (T := TX4) (N := 14) (nA := 1) (As := [.long ((C j).toInt64)]) (rest := []) F 61 hL_87.1 (by decide) rfl (c_X4_mix (v := ((C j).toInt64)) hX7) gX4_digest_X4_mix rfl (by decide +kernel) rfl ⟨Nat.le_of_ble_eq_true rfl, Nat.le_of_ble_eq_true rfl⟩ ⟨Nat.le_of_ble_eq_true rfl, Nat.le_of_ble_eq_true rfl⟩ rfl (Nat.le_of_ble_eq_true rfl) dX4_digest_207) (fun u_31 hp_31 => ?_)
                  obtain ⟨hX_31, hk_31⟩ := hp_31
                  obtain ⟨Z_31, SV_31, BF_31, hL_31, hZ_31, hSV_31, hBF_31, hn_31, hm_31, ht_31⟩ := id hX_31
                  have hf_32 : ∀ j, ¬ (61 ≤ j ∧ j < 69) → u_31 j = u j := fun j hj => (show u_31 j = w7 j from hk_31 j hj).trans (hf7 j hj)
                  refine r_iinc (lv' := [(0, .ref (g.2.1 61)), (1, .int (nI (j + 1)))]) F 1 rfl (nI_inc _) (by decide) rfl dX4_digest_210 ?_
                  refine r_goto F 191 (by decide) dX4_digest_213 ?_
                  exact ih_191 (j + 1) u_31 _ (by omega) hX_31 hf_32 rfl
              exact loop_191 t 0 u_26 _ (by omega) hX_26 hf_27 rfl
            | succ k ih_116 =>
              rintro j w5 x1_116 hk_j hX5 hf5 rfl
              obtain ⟨Z_85, SV_85, BF_85, hL_85, hZ_85, hSV_85, hBF_85, hn_85, hm_85, ht_85⟩ := id hX5
              have hbj : j < 5 := by omega
              refine r_iload_n F 1 rfl dX4_digest_116 ?_
              refine r_iconst (v := 5) F (by decide) dX4_digest_117 ?_
              refine r_icmp_ge F 151 (by decide) dX4_digest_118 (fun c_118_33 => absurd c_118_33 (nI_ge (b := 5) hbj (by decide))) (fun c_118_33 => ?_)
              clear c_118_33
              refine r_iconst (v := 0) F (by decide) dX4_digest_121 ?_
              refine r_istore_n (lv' := [(0, .ref (g.2.1 61)), (1, .int (nI j)), (2, .int 0)]) F (by decide) rfl dX4_digest_122 ?_
              have loop_123 : ∀ (k : Nat) (i : Nat) (w6 : Nat → va_E) (x2_123 : Int32), i + k = 6 → MdX g w6 0 rm sp wr (hfN (fun w => tP B n (opm B n) (nI j) (nI w)) i (hoN (fun p h => hfN (fun w => tP B n (opm B n) (nI p) (nI w)) 6 h) j (hBox B n (opm B n) (hCnt B n m (opm B n) 3389)))) VAx RD CH WE n B m S t C → (∀ j, ¬ (61 ≤ j ∧ j < 69) → w6 j = u j) → x2_123 = nI i → VL g X 0 0 w6 123 [(0, .ref (g.2.1 61)), (1, .int (nI j)), (2, .int x2_123)] [] := by
                intro k
                induction k with
                | zero =>
                  rintro i w6 x2_123 hk_i hX6 hf6 rfl
                  obtain ⟨Z_86, SV_86, BF_86, hL_86, hZ_86, hSV_86, hBF_86, hn_86, hm_86, ht_86⟩ := id hX6
                  have hjn : i = 6 := by omega
                  subst hjn
                  refine r_iload_n F 2 rfl dX4_digest_123 ?_
                  refine r_iconst (v := 5) F (by decide) dX4_digest_124 ?_
                  refine r_icmp_gt F 145 (by decide) dX4_digest_125 (fun c_125_35 => ?_) (fun c_125_35 => absurd (by decide) c_125_35)
                  clear c_125_35
                  refine r_iinc (lv' := [(0, .ref (g.2.1 61)), (1, .int (nI (j + 1))), (2, .int (nI 6))]) F 1 rfl (nI_inc _) (by decide) rfl dX4_digest_145 ?_
                  refine r_goto F 116 (by decide) dX4_digest_148 ?_
                  refine r_lv (lv2 := [(0, .ref (g.2.1 61)), (1, .int (nI (j + 1)))]) (by simp) ?_
                  exact ih_116 (j + 1) w6 _ (by omega) hX6 hf6 rfl
                | succ k ih_123 =>
                  rintro i w6 x2_123 hk_i hX6 hf6 rfl
                  obtain ⟨Z_86, SV_86, BF_86, hL_86, hZ_86, hSV_86, hBF_86, hn_86, hm_86, ht_86⟩ := id hX6
                  have hbi : i < 6 := by omega
                  have hw8 : i < 6 := hbi
                  refine r_iload_n F 2 rfl dX4_digest_123 ?_
                  refine r_iconst (v := 5) F (by decide) dX4_digest_124 ?_
                  refine r_icmp_gt F 145 (by decide) dX4_digest_125 (fun c_125_36 => absurd c_125_36 (nI_nlt (a := 5) (by omega) (by decide))) (fun c_125_36 => ?_)
                  clear c_125_36
                  refine r_aload_n F 0 rfl dX4_digest_128 ?_
                  refine r_aload_n F 0 rfl dX4_digest_129 ?_
                  refine r_iload_n F 1 rfl dX4_digest_130 ?_
                  refine r_iload_n F 2 rfl dX4_digest_131 ?_
                  refine r_calli (g_V (C := RX4) (T := TX4) (N := 14) (nA := 2) (As := [.int (nI j), .int (nI i)]) (rest := [.ref (g.2.1 61)]) F 61 hL_86.1 (by decide) rfl (c_X4_toldPart hX6 hw8) gX4_digest_X4_toldPart rfl (by decide +kernel) rfl ⟨Nat.le_of_ble_eq_true rfl, Nat.le_of_ble_eq_true rfl⟩ ⟨Nat.le_of_ble_eq_true rfl, Nat.le_of_ble_eq_true rfl⟩ rfl (Nat.le_of_ble_eq_true rfl) dX4_digest_132) (fun r_37 u_37 hp_37 => ?_)
                  obtain ⟨rfl, rfl⟩ := hp_37
                  refine r_i2l F rfl dX4_digest_135 ?_
                  refine r_callv (g_V (C := RX4) (T := TX4) (N := 14) (nA := 1) (As := [.long ((tP B n (opm B n) (nI j) (nI i)).toInt64)]) (rest := []) F 61 hL_86.1 (by decide) rfl (c_X4_mix (v := ((tP B n (opm B n) (nI j) (nI i)).toInt64)) hX6) gX4_digest_X4_mix rfl (by decide +kernel) rfl ⟨Nat.le_of_ble_eq_true rfl, Nat.le_of_ble_eq_true rfl⟩ ⟨Nat.le_of_ble_eq_true rfl, Nat.le_of_ble_eq_true rfl⟩ rfl (Nat.le_of_ble_eq_true rfl) dX4_digest_136) (fun u_38 hp_38 => ?_)
                  obtain ⟨hX_38, hk_38⟩ := hp_38
                  obtain ⟨Z_38, SV_38, BF_38, hL_38, hZ_38, hSV_38, hBF_38, hn_38, hm_38, ht_38⟩ := id hX_38
                  have hf_39 : ∀ j, ¬ (61 ≤ j ∧ j < 69) → u_38 j = u j := fun j hj => (show u_38 j = w6 j from hk_38 j hj).trans (hf6 j hj)
                  refine r_iinc (lv' := [(0, .ref (g.2.1 61)), (1, .int (nI j)), (2, .int (nI (i + 1)))]) F 2 rfl (nI_inc _) (by decide) rfl dX4_digest_139 ?_
                  refine r_goto F 123 (by decide) dX4_digest_142 ?_
                  exact ih_123 (i + 1) u_38 _ (by omega) hX_38 hf_39 rfl
              exact loop_123 6 0 w5 _ (by omega) hX5 hf5 rfl
          exact loop_116 5 0 w2 _ (by omega) hX2 hf2 rfl
        | succ k ih_38 =>
          rintro j VAx w2 x1_38 hk_j hX2 hf2 rfl
          obtain ⟨Z_82, SV_82, BF_82, hL_82, hZ_82, hSV_82, hBF_82, hn_82, hm_82, ht_82⟩ := id hX2
          have hbj : j < n := by omega
          refine r_iload_n F 1 rfl dX4_digest_38 ?_
          refine r_aload_n F 0 rfl dX4_digest_39 ?_
          refine r_get (C := RX4) (T := TX4) (N := 14) F 61 hL_82.1 (by decide) hinX4 rfl 1 (by decide) (by decide +kernel) rfl dX4_digest_40 ?_
          refine r_iconst (v := 0) F (by decide) dX4_digest_43 ?_
          refine r_iald F 62 hL_82.2.1 (by decide) (vp_in_nI (n := 0) (by decide) (by decide)) dX4_digest_44 ?_
          refine r_eq (st2 := [.int (nI n), .int (nI j)]) (by rw [show Z_82 (0 : Int32).toNatClampNeg = nI n from hZ_82.1]) rfl ?_
          refine r_icmp_ge F 114 (by decide) dX4_digest_45 (fun c_45_40 => absurd c_45_40 (nI_ge (b := n) hbj (by omega))) (fun c_45_40 => ?_)
          clear c_45_40
          refine r_iconst (v := 0) F (by decide) dX4_digest_48 ?_
          refine r_istore_n (lv' := [(0, .ref (g.2.1 61)), (1, .int (nI j)), (2, .int 0)]) F (by decide) rfl dX4_digest_49 ?_
          have loop_50 : ∀ (k : Nat) (i : Nat) (VAx : Nat → Int32) (w3 : Nat → va_E) (x2_50 : Int32), i + k = 8 → MdX g w3 0 rm sp wr (hfN (fun w => tB B (opm B n) j (nI w)) i (hoN (hBox1 B n (opm B n)) j (hCnt B n m (opm B n) 3389))) VAx RD CH WE n B m S t C → (∀ j, ¬ (61 ≤ j ∧ j < 69) → w3 j = u j) → x2_50 = nI i → VL g X 0 0 w3 50 [(0, .ref (g.2.1 61)), (1, .int (nI j)), (2, .int x2_50)] [] := by
            intro k
            induction k with
            | zero =>
              rintro i VAx w3 x2_50 hk_i hX3 hf3 rfl
              obtain ⟨Z_83, SV_83, BF_83, hL_83, hZ_83, hSV_83, hBF_83, hn_83, hm_83, ht_83⟩ := id hX3
              have hjn : i = 8 := by omega
              subst hjn
              refine r_iload_n F 2 rfl dX4_digest_50 ?_
              refine r_bipush (v := 7) F (by decide) dX4_digest_51 ?_
              refine r_icmp_gt F 73 (by decide) dX4_digest_53 (fun c_53_42 => ?_) (fun c_53_42 => absurd (by decide) c_53_42)
              clear c_53_42
              refine r_aload_n F 0 rfl dX4_digest_73 ?_
              refine r_iload_n F 1 rfl dX4_digest_74 ?_
              refine r_iconst (v := 0) F (by decide) dX4_digest_75 ?_
              refine r_calli (g_V (C := RX4) (T := TX4) (N := 14) (nA := 2) (As := [.int (nI j), .int 0]) (rest := []) F 61 hL_83.1 (by decide) rfl (c_X4_of hX3 hbj (w := 0) (by decide)) gX4_digest_X4_of rfl (by decide +kernel) rfl ⟨Nat.le_of_ble_eq_true rfl, Nat.le_of_ble_eq_true rfl⟩ ⟨Nat.le_of_ble_eq_true rfl, Nat.le_of_ble_eq_true rfl⟩ rfl (Nat.le_of_ble_eq_true rfl) dX4_digest_76) (fun r_43 u_43 hp_43 => ?_)
              obtain ⟨rfl, rfl⟩ := hp_43
              refine r_iconst (v := 3) F (by decide) dX4_digest_79 ?_
              refine r_icmp_eq F 108 (by decide) dX4_digest_80 (fun c_80_44 => ?_) (fun c_80_44 => ?_)
              · skip
                refine r_iinc (lv' := [(0, .ref (g.2.1 61)), (1, .int (nI (j + 1))), (2, .int (nI 8))]) F 1 rfl (nI_inc _) (by decide) rfl dX4_digest_108 ?_
                refine r_goto F 38 (by decide) dX4_digest_111 ?_
                refine r_lv (lv2 := [(0, .ref (g.2.1 61)), (1, .int (nI (j + 1)))]) (by simp) ?_
                exact ih_38 (j + 1) VAx w3 _ (by omega) (by rw [hoN, hBox1, if_pos c_80_44]; exact hX3) hf3 rfl
              · skip
                refine r_iconst (v := 0) F (by decide) dX4_digest_83 ?_
                refine r_istore_n (lv' := [(0, .ref (g.2.1 61)), (1, .int (nI j)), (2, .int 0)]) F (by decide) rfl dX4_digest_84 ?_
                have loop_85 : ∀ (k : Nat) (i : Nat) (VAx : Nat → Int32) (w4 : Nat → va_E) (x2_85 : Int32), i + k = 3 → MdX g w4 0 rm sp wr (hfN (fun w => tT B n j (-1) (nI w)) i (hfN (fun w => tB B (opm B n) j (nI w)) 8 (hoN (hBox1 B n (opm B n)) j (hCnt B n m (opm B n) 3389)))) VAx RD CH WE n B m S t C → (∀ j, ¬ (61 ≤ j ∧ j < 69) → w4 j = u j) → x2_85 = nI i → VL g X 0 0 w4 85 [(0, .ref (g.2.1 61)), (1, .int (nI j)), (2, .int x2_85)] [] := by
                  intro k
                  induction k with
                  | zero =>
                    rintro i VAx w4 x2_85 hk_i hX4 hf4 rfl
                    obtain ⟨Z_84, SV_84, BF_84, hL_84, hZ_84, hSV_84, hBF_84, hn_84, hm_84, ht_84⟩ := id hX4
                    have hjn : i = 3 := by omega
                    subst hjn
                    refine r_iload_n F 2 rfl dX4_digest_85 ?_
                    refine r_iconst (v := 2) F (by decide) dX4_digest_86 ?_
                    refine r_icmp_gt F 108 (by decide) dX4_digest_87 (fun c_87_46 => ?_) (fun c_87_46 => absurd (by decide) c_87_46)
                    clear c_87_46
                    refine r_iinc (lv' := [(0, .ref (g.2.1 61)), (1, .int (nI (j + 1))), (2, .int (nI 3))]) F 1 rfl (nI_inc _) (by decide) rfl dX4_digest_108 ?_
                    refine r_goto F 38 (by decide) dX4_digest_111 ?_
                    refine r_lv (lv2 := [(0, .ref (g.2.1 61)), (1, .int (nI (j + 1)))]) (by simp) ?_
                    exact ih_38 (j + 1) VAx w4 _ (by omega) (by rw [hoN, hBox1, if_neg c_80_44]; exact hX4) hf4 rfl
                  | succ k ih_85 =>
                    rintro i VAx w4 x2_85 hk_i hX4 hf4 rfl
                    obtain ⟨Z_84, SV_84, BF_84, hL_84, hZ_84, hSV_84, hBF_84, hn_84, hm_84, ht_84⟩ := id hX4
                    have hbi : i < 3 := by omega
                    have hw8 : i < 3 := hbi
                    refine r_iload_n F 2 rfl dX4_digest_85 ?_
                    refine r_iconst (v := 2) F (by decide) dX4_digest_86 ?_
                    refine r_icmp_gt F 108 (by decide) dX4_digest_87 (fun c_87_47 => absurd c_87_47 (nI_nlt (a := 2) (by omega) (by decide))) (fun c_87_47 => ?_)
                    clear c_87_47
                    refine r_aload_n F 0 rfl dX4_digest_90 ?_
                    refine r_aload_n F 0 rfl dX4_digest_91 ?_
                    refine r_iload_n F 1 rfl dX4_digest_92 ?_
                    refine r_iconst (v := -1) F (by decide) dX4_digest_93 ?_
                    refine r_iload_n F 2 rfl dX4_digest_94 ?_
                    refine r_calli (g_V (C := RX4) (T := TX4) (N := 14) (nA := 3) (As := [.int (nI j), .int (-1), .int (nI i)]) (rest := [.ref (g.2.1 61)]) F 61 hL_84.1 (by decide) rfl (c_X4_withAnswer hX4 hw hbj (fun _ => rfl) hw8) gX4_digest_X4_withAnswer rfl (by decide +kernel) rfl ⟨Nat.le_of_ble_eq_true rfl, Nat.le_of_ble_eq_true rfl⟩ ⟨Nat.le_of_ble_eq_true rfl, Nat.le_of_ble_eq_true rfl⟩ rfl (Nat.le_of_ble_eq_true rfl) dX4_digest_95) (fun r_48 u_48 hp_48 => ?_)
                    obtain ⟨rfl, ⟨VA_48, hX_48⟩, hk_48⟩ := hp_48
                    obtain ⟨Z_48, SV_48, BF_48, hL_48, hZ_48, hSV_48, hBF_48, hn_48, hm_48, ht_48⟩ := id hX_48
                    have hf_49 : ∀ j, ¬ (61 ≤ j ∧ j < 69) → u_48 j = u j := fun j hj => (show u_48 j = w4 j from hk_48 j hj).trans (hf4 j hj)
                    refine r_i2l F rfl dX4_digest_98 ?_
                    refine r_callv (g_V (C := RX4) (T := TX4) (N := 14) (nA := 1) (As := [.long ((tT B n j (-1) (nI i)).toInt64)]) (rest := []) F 61 hL_48.1 (by decide) rfl (c_X4_mix (v := ((tT B n j (-1) (nI i)).toInt64)) hX_48) gX4_digest_X4_mix rfl (by decide +kernel) rfl ⟨Nat.le_of_ble_eq_true rfl, Nat.le_of_ble_eq_true rfl⟩ ⟨Nat.le_of_ble_eq_true rfl, Nat.le_of_ble_eq_true rfl⟩ rfl (Nat.le_of_ble_eq_true rfl) dX4_digest_99) (fun u_50 hp_50 => ?_)
                    obtain ⟨hX_50, hk_50⟩ := hp_50
                    obtain ⟨Z_50, SV_50, BF_50, hL_50, hZ_50, hSV_50, hBF_50, hn_50, hm_50, ht_50⟩ := id hX_50
                    have hf_51 : ∀ j, ¬ (61 ≤ j ∧ j < 69) → u_50 j = u j := fun j hj => (show u_50 j = u_48 j from hk_50 j hj).trans (hf_49 j hj)
                    refine r_iinc (lv' := [(0, .ref (g.2.1 61)), (1, .int (nI j)), (2, .int (nI (i + 1)))]) F 2 rfl (nI_inc _) (by decide) rfl dX4_digest_102 ?_
                    refine r_goto F 85 (by decide) dX4_digest_105 ?_
                    exact ih_85 (i + 1) VA_48 u_50 _ (by omega) hX_50 hf_51 rfl
                exact loop_85 3 0 VAx w3 _ (by omega) hX3 hf3 rfl
            | succ k ih_50 =>
              rintro i VAx w3 x2_50 hk_i hX3 hf3 rfl
              obtain ⟨Z_83, SV_83, BF_83, hL_83, hZ_83, hSV_83, hBF_83, hn_83, hm_83, ht_83⟩ := id hX3
              have hbi : i < 8 := by omega
              have hw8 : i < 8 := hbi
              refine r_iload_n F 2 rfl dX4_digest_50 ?_
              refine r_bipush (v := 7) F (by decide) dX4_digest_51 ?_
              refine r_icmp_gt F 73 (by decide) dX4_digest_53 (fun c_53_52 => absurd c_53_52 (nI_nlt (a := 7) (by omega) (by decide))) (fun c_53_52 => ?_)
              clear c_53_52
              refine r_aload_n F 0 rfl dX4_digest_56 ?_
              refine r_aload_n F 0 rfl dX4_digest_57 ?_
              refine r_iload_n F 1 rfl dX4_digest_58 ?_
              refine r_iload_n F 2 rfl dX4_digest_59 ?_
              refine r_calli (g_V (C := RX4) (T := TX4) (N := 14) (nA := 2) (As := [.int (nI j), .int (nI i)]) (rest := [.ref (g.2.1 61)]) F 61 hL_83.1 (by decide) rfl (c_X4_toldBox hX3 hw hbj hw8) gX4_digest_X4_toldBox rfl (by decide +kernel) rfl ⟨Nat.le_of_ble_eq_true rfl, Nat.le_of_ble_eq_true rfl⟩ ⟨Nat.le_of_ble_eq_true rfl, Nat.le_of_ble_eq_true rfl⟩ rfl (Nat.le_of_ble_eq_true rfl) dX4_digest_60) (fun r_53 u_53 hp_53 => ?_)
              obtain ⟨rfl, ⟨VA_53, hX_53⟩, hk_53⟩ := hp_53
              obtain ⟨Z_53, SV_53, BF_53, hL_53, hZ_53, hSV_53, hBF_53, hn_53, hm_53, ht_53⟩ := id hX_53
              have hf_54 : ∀ j, ¬ (61 ≤ j ∧ j < 69) → u_53 j = u j := fun j hj => (show u_53 j = w3 j from hk_53 j hj).trans (hf3 j hj)
              refine r_i2l F rfl dX4_digest_63 ?_
              refine r_callv (g_V (C := RX4) (T := TX4) (N := 14) (nA := 1) (As := [.long ((tB B (opm B n) j (nI i)).toInt64)]) (rest := []) F 61 hL_53.1 (by decide) rfl (c_X4_mix (v := ((tB B (opm B n) j (nI i)).toInt64)) hX_53) gX4_digest_X4_mix rfl (by decide +kernel) rfl ⟨Nat.le_of_ble_eq_true rfl, Nat.le_of_ble_eq_true rfl⟩ ⟨Nat.le_of_ble_eq_true rfl, Nat.le_of_ble_eq_true rfl⟩ rfl (Nat.le_of_ble_eq_true rfl) dX4_digest_64) (fun u_55 hp_55 => ?_)
              obtain ⟨hX_55, hk_55⟩ := hp_55
              obtain ⟨Z_55, SV_55, BF_55, hL_55, hZ_55, hSV_55, hBF_55, hn_55, hm_55, ht_55⟩ := id hX_55
              have hf_56 : ∀ j, ¬ (61 ≤ j ∧ j < 69) → u_55 j = u j := fun j hj => (show u_55 j = u_53 j from hk_55 j hj).trans (hf_54 j hj)
              refine r_iinc (lv' := [(0, .ref (g.2.1 61)), (1, .int (nI j)), (2, .int (nI (i + 1)))]) F 2 rfl (nI_inc _) (by decide) rfl dX4_digest_67 ?_
              refine r_goto F 50 (by decide) dX4_digest_70 ?_
              exact ih_50 (i + 1) VA_53 u_55 _ (by omega) hX_55 hf_56 rfl
          exact loop_50 8 0 VAx w2 _ (by omega) hX2 hf2 rfl
      exact loop_38 n 0 VA w1 _ (by omega) hX1 hf1 rfl
    | succ k ih_14 =>
      rintro i w1 x1_14 hk_i hX1 hf1 rfl
      obtain ⟨Z_81, SV_81, BF_81, hL_81, hZ_81, hSV_81, hBF_81, hn_81, hm_81, ht_81⟩ := id hX1
      have hbi : i < 9 := by omega
      have hw8 : i < 9 := hbi
      refine r_iload_n F 1 rfl dX4_digest_14 ?_
      refine r_bipush (v := 8) F (by decide) dX4_digest_15 ?_
      refine r_icmp_gt F 36 (by decide) dX4_digest_17 (fun c_17_57 => absurd c_17_57 (nI_nlt (a := 8) (by omega) (by decide))) (fun c_17_57 => ?_)
      clear c_17_57
      refine r_aload_n F 0 rfl dX4_digest_20 ?_
      refine r_aload_n F 0 rfl dX4_digest_21 ?_
      refine r_iload_n F 1 rfl dX4_digest_22 ?_
      refine r_calli (g_V (C := RX4) (T := TX4) (N := 14) (nA := 1) (As := [.int (nI i)]) (rest := [.ref (g.2.1 61)]) F 61 hL_81.1 (by decide) rfl (c_X4_counted hX1 hw8) gX4_digest_X4_counted rfl (by decide +kernel) rfl ⟨Nat.le_of_ble_eq_true rfl, Nat.le_of_ble_eq_true rfl⟩ ⟨Nat.le_of_ble_eq_true rfl, Nat.le_of_ble_eq_true rfl⟩ rfl (Nat.le_of_ble_eq_true rfl) dX4_digest_23) (fun r_58 u_58 hp_58 => ?_)
      obtain ⟨rfl, rfl⟩ := hp_58
      refine r_i2l F rfl dX4_digest_26 ?_
      refine r_callv (g_V (C := RX4) (T := TX4) (N := 14) (nA := 1) (As := [.long ((tF B n m (opm B n) (nI i)).toInt64)]) (rest := []) F 61 hL_81.1 (by decide) rfl (c_X4_mix (v := ((tF B n m (opm B n) (nI i)).toInt64)) hX1) gX4_digest_X4_mix rfl (by decide +kernel) rfl ⟨Nat.le_of_ble_eq_true rfl, Nat.le_of_ble_eq_true rfl⟩ ⟨Nat.le_of_ble_eq_true rfl, Nat.le_of_ble_eq_true rfl⟩ rfl (Nat.le_of_ble_eq_true rfl) dX4_digest_27) (fun u_59 hp_59 => ?_)
      obtain ⟨hX_59, hk_59⟩ := hp_59
      obtain ⟨Z_59, SV_59, BF_59, hL_59, hZ_59, hSV_59, hBF_59, hn_59, hm_59, ht_59⟩ := id hX_59
      have hf_60 : ∀ j, ¬ (61 ≤ j ∧ j < 69) → u_59 j = u j := fun j hj => (show u_59 j = w1 j from hk_59 j hj).trans (hf1 j hj)
      refine r_iinc (lv' := [(0, .ref (g.2.1 61)), (1, .int (nI (i + 1)))]) F 1 rfl (nI_inc _) (by decide) rfl dX4_digest_30 ?_
      refine r_goto F 14 (by decide) dX4_digest_33 ?_
      exact ih_14 (i + 1) u_59 _ (by omega) hX_59 hf_60 rfl
  exact loop_14 9 0 u_5 _ (by omega) hX_8 hf_7 rfl

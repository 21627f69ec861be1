set_option maxHeartbeats 4000000 in
set_option maxRecDepth 100000 in
theorem c_X3_bitsOfShare {g : kG} {l : Launch} {u : Nat → va_E} {d : UInt64} (hd : okD d = true) : CL g l yX3_bitsOfShare wsX3_bitsOfShare ({ frames := 0, cells := 0, slots := 0, locals := 0 }) [.double d] u (fun r u' => r = bitD d ∧ u = u') := by
  refine CL.of (cc := cX3_bitsOfShare) (nL := 9) (by decide +kernel) rfl (Nat.le_of_ble_eq_true rfl) ?_
  intro X hXl F hret
  subst hXl
  show VL g X 0 0 u 0 [(0, .double d)] []
  refine r_dload_n F 0 rfl dX3_bitsOfShare_0 ?_
  refine r_dconst0 F dX3_bitsOfShare_1 ?_
  refine r_dcmp F dX3_bitsOfShare_2 ?_
  refine r_if_gt F 8 (by decide) dX3_bitsOfShare_3 (fun c_3_1 => ?_) (fun c_3_1 => ?_)
  · skip
    have hg : gt0 d = true := decide_eq_true c_3_1
    refine r_sipush (v := 1023) F (by decide) dX3_bitsOfShare_8 ?_
    refine r_istore_n (lv' := [(0, .double d), (2, .int 1023)]) F (by decide) rfl dX3_bitsOfShare_11 ?_
    refine r_dload_n F 0 rfl dX3_bitsOfShare_12 ?_
    refine r_dstore_n (lv' := [(0, .double d), (2, .int 1023), (3, .double d)]) F (by decide) rfl dX3_bitsOfShare_13 ?_
    refine r_iconst (v := 0) F (by decide) dX3_bitsOfShare_14 ?_
    refine r_istore (lv' := [(0, .double d), (2, .int 1023), (3, .double d), (5, .int 0)]) F (by decide) rfl dX3_bitsOfShare_15 ?_
    have loop_17 : ∀ (k : Nat) (j : Nat) (x2_17 : Int32) (x3_17 : UInt64) (x5_17 : Int32), j + k = 5 → dKn k j d = dK d → x2_17 = 1023 - nI j → x3_17 = dblN j d → x5_17 = nI j → VL g X 0 0 u 17 [(0, .double d), (2, .int x2_17), (3, .double x3_17), (5, .int x5_17)] [] := by
      intro k
      induction k with
      | zero =>
        rintro j x2_17 x3_17 x5_17 hkj hK rfl rfl rfl
        have hjn : j = 5 := by omega
        subst hjn
        refine r_iload F 3 rfl dX3_bitsOfShare_17 ?_
        refine r_sipush (v := 1023) F (by decide) dX3_bitsOfShare_19 ?_
        refine r_icmp_ge F 46 (by decide) dX3_bitsOfShare_22 (fun c_22_3 => absurd c_22_3 (nI_ge (b := 1023) (by omega) (by decide))) (fun c_22_3 => ?_)
        clear c_22_3
        refine r_dload_n F 2 rfl dX3_bitsOfShare_25 ?_
        refine r_dconst1 F dX3_bitsOfShare_26 ?_
        refine r_dcmp F dX3_bitsOfShare_27 ?_
        refine r_if_ge F 46 (by decide) dX3_bitsOfShare_28 (fun c_28_4 => ?_) (fun c_28_4 => absurd (by have q := okD_5 hd hg; simpa [lt1] using q) c_28_4)
        clear c_28_4
        refine r_ldc2 (v := 4503599627370496) F (by decide +kernel) dX3_bitsOfShare_46 ?_
        refine r_lstore (lv' := [(0, .double d), (2, .int (1023 - nI 5)), (3, .double (dblN 5 d)), (5, .long 4503599627370496)]) F (by decide) rfl dX3_bitsOfShare_49 ?_
        refine r_dload_n F 2 rfl dX3_bitsOfShare_51 ?_
        refine r_lload F 3 rfl dX3_bitsOfShare_52 ?_
        refine r_l2d F dX3_bitsOfShare_54 ?_
        refine r_dmul F (okD_52 hd (by omega)) dX3_bitsOfShare_55 ?_
        refine r_d2l F dX3_bitsOfShare_56 ?_
        refine r_lload F 3 rfl dX3_bitsOfShare_57 ?_
        refine r_lsub F dX3_bitsOfShare_59 ?_
        refine r_lstore (lv' := [(0, .double d), (2, .int (1023 - nI 5)), (3, .double (dblN 5 d)), (5, .long 4503599627370496), (7, .long ((FP.d2l (FP.dmul (dblN 5 d) (FP.l2d 4503599627370496))) - 4503599627370496))]) F (by decide) rfl dX3_bitsOfShare_60 ?_
        refine r_iload_n F 1 rfl dX3_bitsOfShare_62 ?_
        refine r_i2l F rfl dX3_bitsOfShare_63 ?_
        refine r_bipush (v := 52) F (by decide) dX3_bitsOfShare_64 ?_
        refine r_lshl F rfl dX3_bitsOfShare_66 ?_
        refine r_lload F 4 rfl dX3_bitsOfShare_67 ?_
        refine r_ladd F dX3_bitsOfShare_69 ?_
        have hK2 : dK d = 5 := hK.symm
        exact hret _ _ _ _ _ _ (Nat.le_of_ble_eq_true rfl) (Nat.le_of_ble_eq_true rfl) ⟨by simp only [bitD, hg, if_true, hK2], rfl⟩ dX3_bitsOfShare_70
      | succ k ih_17 =>
        rintro j x2_17 x3_17 x5_17 hkj hK rfl rfl rfl
        refine r_iload F 3 rfl dX3_bitsOfShare_17 ?_
        refine r_sipush (v := 1023) F (by decide) dX3_bitsOfShare_19 ?_
        refine r_icmp_ge F 46 (by decide) dX3_bitsOfShare_22 (fun c_22_5 => absurd c_22_5 (nI_ge (b := 1023) (by omega) (by decide))) (fun c_22_5 => ?_)
        clear c_22_5
        refine r_dload_n F 2 rfl dX3_bitsOfShare_25 ?_
        refine r_dconst1 F dX3_bitsOfShare_26 ?_
        refine r_dcmp F dX3_bitsOfShare_27 ?_
        refine r_if_ge F 46 (by decide) dX3_bitsOfShare_28 (fun c_28_6 => ?_) (fun c_28_6 => ?_)
        · skip
          have hl_c_28_6 : lt1 (dblN j d) = false := by simp [lt1, c_28_6]
          refine r_ldc2 (v := 4503599627370496) F (by decide +kernel) dX3_bitsOfShare_46 ?_
          refine r_lstore (lv' := [(0, .double d), (2, .int (1023 - nI j)), (3, .double (dblN j d)), (5, .long 4503599627370496)]) F (by decide) rfl dX3_bitsOfShare_49 ?_
          refine r_dload_n F 2 rfl dX3_bitsOfShare_51 ?_
          refine r_lload F 3 rfl dX3_bitsOfShare_52 ?_
          refine r_l2d F dX3_bitsOfShare_54 ?_
          refine r_dmul F (okD_52 hd (by omega)) dX3_bitsOfShare_55 ?_
          refine r_d2l F dX3_bitsOfShare_56 ?_
          refine r_lload F 3 rfl dX3_bitsOfShare_57 ?_
          refine r_lsub F dX3_bitsOfShare_59 ?_
          refine r_lstore (lv' := [(0, .double d), (2, .int (1023 - nI j)), (3, .double (dblN j d)), (5, .long 4503599627370496), (7, .long ((FP.d2l (FP.dmul (dblN j d) (FP.l2d 4503599627370496))) - 4503599627370496))]) F (by decide) rfl dX3_bitsOfShare_60 ?_
          refine r_iload_n F 1 rfl dX3_bitsOfShare_62 ?_
          refine r_i2l F rfl dX3_bitsOfShare_63 ?_
          refine r_bipush (v := 52) F (by decide) dX3_bitsOfShare_64 ?_
          refine r_lshl F rfl dX3_bitsOfShare_66 ?_
          refine r_lload F 4 rfl dX3_bitsOfShare_67 ?_
          refine r_ladd F dX3_bitsOfShare_69 ?_
          have hK2 : dK d = j := by rw [← hK]; simp [dKn, hl_c_28_6]
          exact hret _ _ _ _ _ _ (Nat.le_of_ble_eq_true rfl) (Nat.le_of_ble_eq_true rfl) ⟨by simp only [bitD, hg, if_true, hK2], rfl⟩ dX3_bitsOfShare_70
        · skip
          have hl_c_28_6 : lt1 (dblN j d) = true := by simp [lt1, c_28_6]
          refine r_dload_n F 2 rfl dX3_bitsOfShare_31 ?_
          refine r_ldc2d (v := 4611686018427387904) F (by decide +kernel) dX3_bitsOfShare_32 ?_
          refine r_dmul F (okD_2 hd (by omega)) dX3_bitsOfShare_35 ?_
          refine r_dstore_n (lv' := [(0, .double d), (2, .int (1023 - nI j)), (3, .double (FP.dmul (dblN j d) 4611686018427387904)), (5, .int (nI j))]) F (by decide) rfl dX3_bitsOfShare_36 ?_
          refine r_iinc (lv' := [(0, .double d), (2, .int (1023 - nI (j + 1))), (3, .double (FP.dmul (dblN j d) 4611686018427387904)), (5, .int (nI j))]) F 1 rfl (ex_dec _) (by decide) rfl dX3_bitsOfShare_37 ?_
          refine r_iinc (lv' := [(0, .double d), (2, .int (1023 - nI (j + 1))), (3, .double (FP.dmul (dblN j d) 4611686018427387904)), (5, .int (nI (j + 1)))]) F 3 rfl (nI_inc _) (by decide) rfl dX3_bitsOfShare_40 ?_
          refine r_goto F 17 (by decide) dX3_bitsOfShare_43 ?_
          exact ih_17 (j + 1) _ _ _ (by omega) (by rw [← hK]; simp [dKn, hl_c_28_6]) rfl rfl rfl
    exact loop_17 5 0 _ _ _ (by omega) rfl (by decide) rfl rfl
  · skip
    have hg : gt0 d = false := decide_eq_false c_3_1
    refine r_lconst (v := 0) F (by decide) dX3_bitsOfShare_6 ?_
    exact hret _ _ _ _ _ _ (Nat.le_of_ble_eq_true rfl) (Nat.le_of_ble_eq_true rfl) ⟨by simp [bitD, hg], rfl⟩ dX3_bitsOfShare_7
set_option maxHeartbeats 4000000 in
set_option maxRecDepth 100000 in
theorem c_X3_filled {g : kG} {l : Launch} {u : Nat → va_E} {n m t : Nat} {B : kB} {S : Nat → kS} {C : Nat → Int32}  (hc : CsB g u n B m S t C)  : CD g l yX3_filled wsX3_filled ({ frames := 4, cells := 0, slots := 0, locals := 90 }) [.ref (g.2.1 0)] u (fun r u' => r = filD B n ∧ u = u') := by
  refine CD.of (cc := cX3_filled) (nL := 3) (by decide +kernel) rfl (Nat.le_of_ble_eq_true rfl) ?_
  intro X hXl F hret
  subst hXl
  have hinX3 : ∀ w ∈ wsX30, w ∈ wsX3_filled := by decide +kernel
  obtain ⟨nx, hN⟩ := hc.2.2.2.1
  show VL g X 0 0 u 0 [(0, .ref (g.2.1 0))] []
  refine r_aload_n F 0 rfl dX3_filled_0 ?_
  refine r_get (C := RX3) (T := TX3) (N := 4) F 0 hc.1 (by decide) hinX3 rfl 0 (by decide) (by decide +kernel) rfl dX3_filled_1 ?_
  refine r_calli (g_VN (C := RX0) (T := TX0) (N := 7) (nA := 0) (As := []) (rest := []) F 1 hc.2.1.obj (by decide) rfl (c_X0_openParts hc.2.1 (by decide) ) gX3_filled_X0_openParts_n83 rfl 20 rfl (by decide +kernel) (by decide +kernel) (by decide +kernel) (by decide +kernel) rfl ⟨Nat.le_of_ble_eq_true rfl, Nat.le_of_ble_eq_true rfl⟩ ⟨Nat.le_of_ble_eq_true rfl, Nat.le_of_ble_eq_true rfl⟩ rfl (Nat.le_of_ble_eq_true rfl) dX3_filled_4) (fun r_1 u_1 hp_1 => ?_)
  obtain ⟨rfl, rfl⟩ := hp_1
  refine r_istore_n (lv' := [(0, .ref (g.2.1 0)), (1, .int (opm B n))]) F (by decide) rfl dX3_filled_7 ?_
  refine r_aload_n F 0 rfl dX3_filled_8 ?_
  refine r_get (C := RX3) (T := TX3) (N := 4) F 0 hc.1 (by decide) hinX3 rfl 0 (by decide) (by decide +kernel) rfl dX3_filled_9 ?_
  refine r_iload_n F 1 rfl dX3_filled_12 ?_
  refine r_calli (g_VN (C := RX0) (T := TX0) (N := 7) (nA := 1) (As := [.int (opm B n)]) (rest := []) F 1 hc.2.1.obj (by decide) rfl (c_X0_openToAnswer hc.2.1 (by decide) ) gX3_filled_X0_openToAnswer_n140 rfl 21 rfl (by decide +kernel) (by decide +kernel) (by decide +kernel) (by decide +kernel) rfl ⟨Nat.le_of_ble_eq_true rfl, Nat.le_of_ble_eq_true rfl⟩ ⟨Nat.le_of_ble_eq_true rfl, Nat.le_of_ble_eq_true rfl⟩ rfl (Nat.le_of_ble_eq_true rfl) dX3_filled_13) (fun r_2 u_2 hp_2 => ?_)
  obtain ⟨rfl, rfl⟩ := hp_2
  refine r_istore_n (lv' := [(0, .ref (g.2.1 0)), (1, .int (opm B n)), (2, .int (cntN n (fun b => qOpn B (opm B n) b && !decide (B b 0 = 3))))]) F (by decide) rfl dX3_filled_16 ?_
  refine r_iload_n F 2 rfl dX3_filled_17 ?_
  refine r_if_gt F 23 (by decide) dX3_filled_18 (fun c_18_3 => ?_) (fun c_18_3 => ?_)
  · skip
    have h16 := hc.2.1.le
    have hA : cntN n (fun b => qOpn B (opm B n) b && !decide (B b 0 = 3)) = nI (filA B n) := cntN_K
    have hAl : filA B n ≤ 16 := Nat.le_trans cnK_le h16
    have hA0 : 0 < filA B n := (nI_ltI (a := 0) (by decide) (by omega)).mp (show nI 0 < nI (filA B n) from hA ▸ c_18_3)
    have hAW : cntN n (fun b => qOpn B (opm B n) b && !decide (B b 0 = 3)) - cntN n (qWts B (opm B n)) = nI (filA B n - filW B n) := by rw [hA, cntN_K]; exact pk_sub filW_le
    refine r_iload_n F 2 rfl dX3_filled_23 ?_
    refine r_aload_n F 0 rfl dX3_filled_24 ?_
    refine r_get (C := RX3) (T := TX3) (N := 4) F 0 hc.1 (by decide) hinX3 rfl 0 (by decide) (by decide +kernel) rfl dX3_filled_25 ?_
    refine r_iload_n F 1 rfl dX3_filled_28 ?_
    refine r_calli (g_VN (C := RX0) (T := TX0) (N := 7) (nA := 1) (As := [.int (opm B n)]) (rest := [.int (cntN n (fun b => qOpn B (opm B n) b && !decide (B b 0 = 3)))]) F 1 hc.2.1.obj (by decide) rfl (c_X0_wanting hc.2.1 (by decide) ) gX3_filled_X0_wanting_n86 rfl 18 rfl (by decide +kernel) (by decide +kernel) (by decide +kernel) (by decide +kernel) rfl ⟨Nat.le_of_ble_eq_true rfl, Nat.le_of_ble_eq_true rfl⟩ ⟨Nat.le_of_ble_eq_true rfl, Nat.le_of_ble_eq_true rfl⟩ rfl (Nat.le_of_ble_eq_true rfl) dX3_filled_29) (fun r_4 u_4 hp_4 => ?_)
    obtain ⟨rfl, rfl⟩ := hp_4
    refine r_isub F dX3_filled_32 ?_
    refine r_i2d F dX3_filled_33 ?_
    refine r_iload_n F 2 rfl dX3_filled_34 ?_
    refine r_i2d F dX3_filled_35 ?_
    refine r_ddiv F (by rw [hAW, hA]; exact vfB_n (ok_share (Nat.sub_le _ _) hA0 hAl).1) dX3_filled_36 ?_
    exact hret _ _ _ _ _ _ (Nat.le_of_ble_eq_true rfl) (Nat.le_of_ble_eq_true rfl) ⟨by rw [filD, if_pos hA0, shD, ← hAW, ← hA], rfl⟩ dX3_filled_37
  · skip
    have h16 := hc.2.1.le
    have hA : cntN n (fun b => qOpn B (opm B n) b && !decide (B b 0 = 3)) = nI (filA B n) := cntN_K
    have hAl : filA B n ≤ 16 := Nat.le_trans cnK_le h16
    have hA0 : ¬ 0 < filA B n := fun z => c_18_3 (hA ▸ (nI_ltI (a := 0) (by decide) (by omega)).mpr z)
    refine r_dconst1 F dX3_filled_21 ?_
    exact hret _ _ _ _ _ _ (Nat.le_of_ble_eq_true rfl) (Nat.le_of_ble_eq_true rfl) ⟨by simp [filD, hA0], rfl⟩ dX3_filled_22
def digL (B : kB) (n m t : Nat) (C : Nat → Int32) : Int64 := hfN C t (mixL (mixL (mixL (mixL (hPrt B n (opm B n) (hBox B n (opm B n) (hCnt B n m (opm B n) 3389))) (sho B n).toInt64) (mcB B n n).toInt64) (bitD (filD B n))) (nI t).toInt64)
set_option maxHeartbeats 4000000 in
set_option maxRecDepth 100000 in
theorem c_X3_digest {g : kG} {l : Launch} {u : Nat → va_E} {n m t : Nat} {B : kB} {S : Nat → kS} {C : Nat → Int32}  (hc : CsB g u n B m S t C)  : CL g l yX3_digest wsX3_digest ({ frames := 6, cells := 0, slots := 0, locals := 142 }) [.ref (g.2.1 0)] u (fun r u' => r = digL B n m t C ∧ CsB g u' n B m S t C ∧ ∀ j, 61 ≤ j → u' j = u j) := by
  refine CL.of (cc := cX3_digest) (nL := 6) (by decide +kernel) rfl (Nat.le_of_ble_eq_true rfl) ?_
  intro X hXl F hret
  subst hXl
  have hinX3 : ∀ w ∈ wsX30, w ∈ wsX3_digest := by decide +kernel
  obtain ⟨nx, hN⟩ := hc.2.2.2.1
  show VL g X 0 0 u 0 [(0, .ref (g.2.1 0))] []
  refine r_aload_n F 0 rfl dX3_digest_0 ?_
  refine r_get (C := RX3) (T := TX3) (N := 4) F 0 hc.1 (by decide) hinX3 rfl 0 (by decide) (by decide +kernel) rfl dX3_digest_1 ?_
  refine r_calli (g_VN (C := RX0) (T := TX0) (N := 7) (nA := 0) (As := []) (rest := []) F 1 hc.2.1.obj (by decide) rfl (c_X0_openParts hc.2.1 (by decide) ) gX3_digest_X0_openParts_n83 rfl 20 rfl (by decide +kernel) (by decide +kernel) (by decide +kernel) (by decide +kernel) rfl ⟨Nat.le_of_ble_eq_true rfl, Nat.le_of_ble_eq_true rfl⟩ ⟨Nat.le_of_ble_eq_true rfl, Nat.le_of_ble_eq_true rfl⟩ rfl (Nat.le_of_ble_eq_true rfl) dX3_digest_4) (fun r_1 u_1 hp_1 => ?_)
  obtain ⟨rfl, rfl⟩ := hp_1
  refine r_istore_n (lv' := [(0, .ref (g.2.1 0)), (1, .int (opm B n))]) F (by decide) rfl dX3_digest_7 ?_
  refine r_aload_n F 0 rfl dX3_digest_8 ?_
  refine r_aload_n F 0 rfl dX3_digest_9 ?_
  refine r_aload_n F 0 rfl dX3_digest_10 ?_
  refine r_ldc2 (v := 3389) F (by decide +kernel) dX3_digest_11 ?_
  refine r_iload_n F 1 rfl dX3_digest_14 ?_
  refine r_calll (g_V (C := RX3) (T := TX3) (N := 4) (nA := 2) (As := [.long 3389, .int (opm B n)]) (rest := [.ref (g.2.1 0), .ref (g.2.1 0)]) F 0 hc.1 (by decide) rfl (c_X3_hashCounts hc) gX3_digest_X3_hashCounts rfl (by decide +kernel) rfl ⟨Nat.le_of_ble_eq_true rfl, Nat.le_of_ble_eq_true rfl⟩ ⟨Nat.le_of_ble_eq_true rfl, Nat.le_of_ble_eq_true rfl⟩ rfl (Nat.le_of_ble_eq_true rfl) dX3_digest_15) (fun r_2 u_2 hp_2 => ?_)
  obtain ⟨rfl, rfl⟩ := hp_2
  refine r_iload_n F 1 rfl dX3_digest_18 ?_
  refine r_calll (g_V (C := RX3) (T := TX3) (N := 4) (nA := 2) (As := [.long (hCnt B n m (opm B n) 3389), .int (opm B n)]) (rest := [.ref (g.2.1 0)]) F 0 hc.1 (by decide) rfl (c_X3_hashBoxes hc) gX3_digest_X3_hashBoxes rfl (by decide +kernel) rfl ⟨Nat.le_of_ble_eq_true rfl, Nat.le_of_ble_eq_true rfl⟩ ⟨Nat.le_of_ble_eq_true rfl, Nat.le_of_ble_eq_true rfl⟩ rfl (Nat.le_of_ble_eq_true rfl) dX3_digest_19) (fun r_3 u_3 hp_3 => ?_)
  obtain ⟨er_3, hc_3, hk_3⟩ := hp_3
  subst er_3
  obtain ⟨nx_4, hN_4⟩ := hc_3.2.2.2.1
  refine r_iload_n F 1 rfl dX3_digest_22 ?_
  refine r_calll (g_V (C := RX3) (T := TX3) (N := 4) (nA := 2) (As := [.long (hBox B n (opm B n) (hCnt B n m (opm B n) 3389)), .int (opm B n)]) (rest := []) F 0 hc_3.1 (by decide) rfl (c_X3_hashParts hc_3) gX3_digest_X3_hashParts rfl (by decide +kernel) rfl ⟨Nat.le_of_ble_eq_true rfl, Nat.le_of_ble_eq_true rfl⟩ ⟨Nat.le_of_ble_eq_true rfl, Nat.le_of_ble_eq_true rfl⟩ rfl (Nat.le_of_ble_eq_true rfl) dX3_digest_23) (fun r_5 u_5 hp_5 => ?_)
  obtain ⟨rfl, rfl⟩ := hp_5
  refine r_lstore_n (lv' := [(0, .ref (g.2.1 0)), (1, .int (opm B n)), (2, .long (hPrt B n (opm B n) (hBox B n (opm B n) (hCnt B n m (opm B n) 3389))))]) F (by decide) rfl dX3_digest_26 ?_
  refine r_lload_n F 2 rfl dX3_digest_27 ?_
  refine r_aload_n F 0 rfl dX3_digest_28 ?_
  refine r_calli (g_V (C := RX3) (T := TX3) (N := 4) (nA := 0) (As := []) (rest := [.long (hPrt B n (opm B n) (hBox B n (opm B n) (hCnt B n m (opm B n) 3389)))]) F 0 hc_3.1 (by decide) rfl (c_X3_shortest hc_3 ) gX3_digest_X3_shortest rfl (by decide +kernel) rfl ⟨Nat.le_of_ble_eq_true rfl, Nat.le_of_ble_eq_true rfl⟩ ⟨Nat.le_of_ble_eq_true rfl, Nat.le_of_ble_eq_true rfl⟩ rfl (Nat.le_of_ble_eq_true rfl) dX3_digest_29) (fun r_6 u_6 hp_6 => ?_)
  obtain ⟨rfl, rfl⟩ := hp_6
  refine r_i2l F rfl dX3_digest_32 ?_
  refine r_calll (g_S (nA := 2) (As := [.long (hPrt B n (opm B n) (hBox B n (opm B n) (hCnt B n m (opm B n) 3389))), .long ((sho B n).toInt64)]) (rest := []) F (c_X3_mix) gX3_digest_X3_mix rfl (by decide +kernel) rfl ⟨Nat.le_of_ble_eq_true rfl, Nat.le_of_ble_eq_true rfl⟩ ⟨Nat.le_of_ble_eq_true rfl, Nat.le_of_ble_eq_true rfl⟩ rfl (Nat.le_of_ble_eq_true rfl) dX3_digest_33) (fun r_7 u_7 hp_7 => ?_)
  obtain ⟨rfl, rfl⟩ := hp_7
  refine r_lstore_n (lv' := [(0, .ref (g.2.1 0)), (1, .int (opm B n)), (2, .long (mixL (hPrt B n (opm B n) (hBox B n (opm B n) (hCnt B n m (opm B n) 3389))) ((sho B n).toInt64)))]) F (by decide) rfl dX3_digest_36 ?_
  refine r_lload_n F 2 rfl dX3_digest_37 ?_
  refine r_aload_n F 0 rfl dX3_digest_38 ?_
  refine r_calli (g_V (C := RX3) (T := TX3) (N := 4) (nA := 0) (As := []) (rest := [.long (mixL (hPrt B n (opm B n) (hBox B n (opm B n) (hCnt B n m (opm B n) 3389))) ((sho B n).toInt64))]) F 0 hc_3.1 (by decide) rfl (c_X3_mostCarried hc_3 ) gX3_digest_X3_mostCarried rfl (by decide +kernel) rfl ⟨Nat.le_of_ble_eq_true rfl, Nat.le_of_ble_eq_true rfl⟩ ⟨Nat.le_of_ble_eq_true rfl, Nat.le_of_ble_eq_true rfl⟩ rfl (Nat.le_of_ble_eq_true rfl) dX3_digest_39) (fun r_8 u_8 hp_8 => ?_)
  obtain ⟨rfl, rfl⟩ := hp_8
  refine r_i2l F rfl dX3_digest_42 ?_
  refine r_calll (g_S (nA := 2) (As := [.long (mixL (hPrt B n (opm B n) (hBox B n (opm B n) (hCnt B n m (opm B n) 3389))) ((sho B n).toInt64)), .long ((mcB B n n).toInt64)]) (rest := []) F (c_X3_mix) gX3_digest_X3_mix rfl (by decide +kernel) rfl ⟨Nat.le_of_ble_eq_true rfl, Nat.le_of_ble_eq_true rfl⟩ ⟨Nat.le_of_ble_eq_true rfl, Nat.le_of_ble_eq_true rfl⟩ rfl (Nat.le_of_ble_eq_true rfl) dX3_digest_43) (fun r_9 u_9 hp_9 => ?_)
  obtain ⟨rfl, rfl⟩ := hp_9
  refine r_lstore_n (lv' := [(0, .ref (g.2.1 0)), (1, .int (opm B n)), (2, .long (mixL (mixL (hPrt B n (opm B n) (hBox B n (opm B n) (hCnt B n m (opm B n) 3389))) ((sho B n).toInt64)) ((mcB B n n).toInt64)))]) F (by decide) rfl dX3_digest_46 ?_
  refine r_lload_n F 2 rfl dX3_digest_47 ?_
  refine r_aload_n F 0 rfl dX3_digest_48 ?_
  refine r_calld (g_V (C := RX3) (T := TX3) (N := 4) (nA := 0) (As := []) (rest := [.long (mixL (mixL (hPrt B n (opm B n) (hBox B n (opm B n) (hCnt B n m (opm B n) 3389))) ((sho B n).toInt64)) ((mcB B n n).toInt64))]) F 0 hc_3.1 (by decide) rfl (c_X3_filled hc_3 ) gX3_digest_X3_filled rfl (by decide +kernel) rfl ⟨Nat.le_of_ble_eq_true rfl, Nat.le_of_ble_eq_true rfl⟩ ⟨Nat.le_of_ble_eq_true rfl, Nat.le_of_ble_eq_true rfl⟩ rfl (Nat.le_of_ble_eq_true rfl) dX3_digest_49) (fun r_10 u_10 hp_10 => ?_)
  obtain ⟨rfl, rfl⟩ := hp_10
  refine r_calll (g_S (nA := 1) (As := [.double (filD B n)]) (rest := [.long (mixL (mixL (hPrt B n (opm B n) (hBox B n (opm B n) (hCnt B n m (opm B n) 3389))) ((sho B n).toInt64)) ((mcB B n n).toInt64))]) F (c_X3_bitsOfShare (filD_ok hc_3.2.1.le)) gX3_digest_X3_bitsOfShare rfl (by decide +kernel) rfl ⟨Nat.le_of_ble_eq_true rfl, Nat.le_of_ble_eq_true rfl⟩ ⟨Nat.le_of_ble_eq_true rfl, Nat.le_of_ble_eq_true rfl⟩ rfl (Nat.le_of_ble_eq_true rfl) dX3_digest_52) (fun r_11 u_11 hp_11 => ?_)
  obtain ⟨rfl, rfl⟩ := hp_11
  refine r_calll (g_S (nA := 2) (As := [.long (mixL (mixL (hPrt B n (opm B n) (hBox B n (opm B n) (hCnt B n m (opm B n) 3389))) ((sho B n).toInt64)) ((mcB B n n).toInt64)), .long (bitD (filD B n))]) (rest := []) F (c_X3_mix) gX3_digest_X3_mix rfl (by decide +kernel) rfl ⟨Nat.le_of_ble_eq_true rfl, Nat.le_of_ble_eq_true rfl⟩ ⟨Nat.le_of_ble_eq_true rfl, Nat.le_of_ble_eq_true rfl⟩ rfl (Nat.le_of_ble_eq_true rfl) dX3_digest_55) (fun r_12 u_12 hp_12 => ?_)
  obtain ⟨rfl, rfl⟩ := hp_12
  refine r_lstore_n (lv' := [(0, .ref (g.2.1 0)), (1, .int (opm B n)), (2, .long (mixL (mixL (mixL (hPrt B n (opm B n) (hBox B n (opm B n) (hCnt B n m (opm B n) 3389))) ((sho B n).toInt64)) ((mcB B n n).toInt64)) (bitD (filD B n))))]) F (by decide) rfl dX3_digest_58 ?_
  refine r_aload_n F 0 rfl dX3_digest_59 ?_
  refine r_get (C := RX3) (T := TX3) (N := 4) F 0 hc_3.1 (by decide) hinX3 rfl 3 (by decide) (by decide +kernel) rfl dX3_digest_60 ?_
  refine r_calli (g_VN (C := RX2) (T := TX2) (N := 2) (nA := 0) (As := []) (rest := []) F 59 hc_3.2.2.2.2.obj (by decide) rfl (c_X2_length hc_3.2.2.2.2 (by decide) ) gX3_digest_X2_length_n92 rfl 11 rfl (by decide +kernel) (by decide +kernel) (by decide +kernel) (by decide +kernel) rfl ⟨Nat.le_of_ble_eq_true rfl, Nat.le_of_ble_eq_true rfl⟩ ⟨Nat.le_of_ble_eq_true rfl, Nat.le_of_ble_eq_true rfl⟩ rfl (Nat.le_of_ble_eq_true rfl) dX3_digest_63) (fun r_13 u_13 hp_13 => ?_)
  obtain ⟨rfl, rfl⟩ := hp_13
  refine r_istore (lv' := [(0, .ref (g.2.1 0)), (1, .int (opm B n)), (2, .long (mixL (mixL (mixL (hPrt B n (opm B n) (hBox B n (opm B n) (hCnt B n m (opm B n) 3389))) ((sho B n).toInt64)) ((mcB B n n).toInt64)) (bitD (filD B n)))), (4, .int (nI t))]) F (by decide) rfl dX3_digest_66 ?_
  refine r_lload_n F 2 rfl dX3_digest_68 ?_
  refine r_iload F 3 rfl dX3_digest_69 ?_
  refine r_i2l F rfl dX3_digest_71 ?_
  refine r_calll (g_S (nA := 2) (As := [.long (mixL (mixL (mixL (hPrt B n (opm B n) (hBox B n (opm B n) (hCnt B n m (opm B n) 3389))) ((sho B n).toInt64)) ((mcB B n n).toInt64)) (bitD (filD B n))), .long ((nI t).toInt64)]) (rest := []) F (c_X3_mix) gX3_digest_X3_mix rfl (by decide +kernel) rfl ⟨Nat.le_of_ble_eq_true rfl, Nat.le_of_ble_eq_true rfl⟩ ⟨Nat.le_of_ble_eq_true rfl, Nat.le_of_ble_eq_true rfl⟩ rfl (Nat.le_of_ble_eq_true rfl) dX3_digest_72) (fun r_14 u_14 hp_14 => ?_)
  obtain ⟨rfl, rfl⟩ := hp_14
  refine r_lstore_n (lv' := [(0, .ref (g.2.1 0)), (1, .int (opm B n)), (2, .long (mixL (mixL (mixL (mixL (hPrt B n (opm B n) (hBox B n (opm B n) (hCnt B n m (opm B n) 3389))) ((sho B n).toInt64)) ((mcB B n n).toInt64)) (bitD (filD B n))) ((nI t).toInt64))), (4, .int (nI t))]) F (by decide) rfl dX3_digest_75 ?_
  refine r_iconst (v := 0) F (by decide) dX3_digest_76 ?_
  refine r_istore (lv' := [(0, .ref (g.2.1 0)), (1, .int (opm B n)), (2, .long (mixL (mixL (mixL (mixL (hPrt B n (opm B n) (hBox B n (opm B n) (hCnt B n m (opm B n) 3389))) ((sho B n).toInt64)) ((mcB B n n).toInt64)) (bitD (filD B n))) ((nI t).toInt64))), (4, .int (nI t)), (5, .int 0)]) F (by decide) rfl dX3_digest_77 ?_
  have loop_79 : ∀ (k : Nat) (j : Nat) (x2_79 : Int64) (x5_79 : Int32), j + k = t → x2_79 = hfN C j (mixL (mixL (mixL (mixL (hPrt B n (opm B n) (hBox B n (opm B n) (hCnt B n m (opm B n) 3389))) (sho B n).toInt64) (mcB B n n).toInt64) (bitD (filD B n))) (nI t).toInt64) → x5_79 = nI j → VL g X 0 0 u_3 79 [(0, .ref (g.2.1 0)), (1, .int (opm B n)), (2, .long x2_79), (4, .int (nI t)), (5, .int x5_79)] [] := by
    intro k
    induction k with
    | zero =>
      rintro j x2_79 x5_79 hkj rfl rfl
      have hjn : t = j := by omega
      subst hjn
      refine r_iload F 4 rfl dX3_digest_79 ?_
      refine r_iload F 3 rfl dX3_digest_81 ?_
      refine r_icmp_ge F 107 (by decide) dX3_digest_83 (fun c_83_16 => ?_) (fun c_83_16 => absurd (Int32.le_refl _) c_83_16)
      clear c_83_16
      refine r_lload_n F 2 rfl dX3_digest_107 ?_
      exact hret _ _ _ _ _ _ (Nat.le_of_ble_eq_true rfl) (Nat.le_of_ble_eq_true rfl) ⟨rfl, hc_3, fun j hj => hk_3 j (by omega)⟩ dX3_digest_108
    | succ k ih_79 =>
      rintro j x2_79 x5_79 hkj rfl rfl
      have hbj : j < t := by omega
      refine r_iload F 4 rfl dX3_digest_79 ?_
      refine r_iload F 3 rfl dX3_digest_81 ?_
      refine r_icmp_ge F 107 (by decide) dX3_digest_83 (fun c_83_17 => absurd c_83_17 (nI_ge (b := t) hbj (by have := hc.2.2.2.2.le; omega))) (fun c_83_17 => ?_)
      clear c_83_17
      refine r_lload_n F 2 rfl dX3_digest_86 ?_
      refine r_aload_n F 0 rfl dX3_digest_87 ?_
      refine r_get (C := RX3) (T := TX3) (N := 4) F 0 hc_3.1 (by decide) hinX3 rfl 3 (by decide) (by decide +kernel) rfl dX3_digest_88 ?_
      refine r_iload F 4 rfl dX3_digest_91 ?_
      refine r_calli (g_VN (C := RX2) (T := TX2) (N := 2) (nA := 1) (As := [.int (nI j)]) (rest := [.long (hfN C j (mixL (mixL (mixL (mixL (hPrt B n (opm B n) (hBox B n (opm B n) (hCnt B n m (opm B n) 3389))) (sho B n).toInt64) (mcB B n n).toInt64) (bitD (filD B n))) (nI t).toInt64))]) F 59 hc_3.2.2.2.2.obj (by decide) rfl (c_X2_codeAt hc_3.2.2.2.2 (by decide) (by have := hc.2.2.2.2.le; omega)) gX3_digest_X2_codeAt_n173 rfl 39 rfl (by decide +kernel) (by decide +kernel) (by decide +kernel) (by decide +kernel) rfl ⟨Nat.le_of_ble_eq_true rfl, Nat.le_of_ble_eq_true rfl⟩ ⟨Nat.le_of_ble_eq_true rfl, Nat.le_of_ble_eq_true rfl⟩ rfl (Nat.le_of_ble_eq_true rfl) dX3_digest_93) (fun r_18 u_18 hp_18 => ?_)
      obtain ⟨rfl, rfl⟩ := hp_18
      refine r_i2l F rfl dX3_digest_96 ?_
      refine r_calll (g_S (nA := 2) (As := [.long (hfN C j (mixL (mixL (mixL (mixL (hPrt B n (opm B n) (hBox B n (opm B n) (hCnt B n m (opm B n) 3389))) (sho B n).toInt64) (mcB B n n).toInt64) (bitD (filD B n))) (nI t).toInt64)), .long ((codC C t j).toInt64)]) (rest := []) F (c_X3_mix) gX3_digest_X3_mix rfl (by decide +kernel) rfl ⟨Nat.le_of_ble_eq_true rfl, Nat.le_of_ble_eq_true rfl⟩ ⟨Nat.le_of_ble_eq_true rfl, Nat.le_of_ble_eq_true rfl⟩ rfl (Nat.le_of_ble_eq_true rfl) dX3_digest_97) (fun r_19 u_19 hp_19 => ?_)
      obtain ⟨rfl, rfl⟩ := hp_19
      refine r_lstore_n (lv' := [(0, .ref (g.2.1 0)), (1, .int (opm B n)), (2, .long (mixL (hfN C j (mixL (mixL (mixL (mixL (hPrt B n (opm B n) (hBox B n (opm B n) (hCnt B n m (opm B n) 3389))) (sho B n).toInt64) (mcB B n n).toInt64) (bitD (filD B n))) (nI t).toInt64)) ((codC C t j).toInt64))), (4, .int (nI t)), (5, .int (nI j))]) F (by decide) rfl dX3_digest_100 ?_
      refine r_iinc (lv' := [(0, .ref (g.2.1 0)), (1, .int (opm B n)), (2, .long (mixL (hfN C j (mixL (mixL (mixL (mixL (hPrt B n (opm B n) (hBox B n (opm B n) (hCnt B n m (opm B n) 3389))) (sho B n).toInt64) (mcB B n n).toInt64) (bitD (filD B n))) (nI t).toInt64)) ((codC C t j).toInt64))), (4, .int (nI t)), (5, .int (nI (j + 1)))]) F 4 rfl (nI_inc _) (by decide) rfl dX3_digest_101 ?_
      refine r_goto F 79 (by decide) dX3_digest_104 ?_
      exact ih_79 (j + 1) _ _ (by omega) (by simp [hfN, codC_lt hbj]) rfl
  exact loop_79 t 0 _ _ (by omega) rfl rfl

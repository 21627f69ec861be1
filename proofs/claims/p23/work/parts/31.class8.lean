set_option maxHeartbeats 4000000 in
set_option maxRecDepth 100000 in
theorem c_X3_filled {g : kG} {l : Launch} {u : Nat → va_E} {n m t : Nat} {B : kB} {S : Nat → kS} {C : Nat → Int32}  (hc : CsB g u n B m S t C)  : CD g l yX3_filled wsX3_filled ({ frames := 4, cells := 0, slots := 0, locals := 90 }) [.ref (g.2.1 0)] u (fun r u' => r = filD B n ∧ u = u') := by
  refine CD.of (cc := cX3_filled) (nL := 3) (by decide +kernel) rfl (Nat.le_of_ble_eq_true rfl) ?_
  intro X hXl F hret
  subst hXl
  have hinX3 : ∀ w ∈ wsX30, w ∈ wsX3_filled := by decide +kernel
  obtain ⟨nx, hN⟩ := hc.2.2.2.1
  show VL g X 0 0 u 0 [(0, .ref (g.2.1 0))] []
  refine r_aload_n F 0 rfl dX3_filled_0 ?_
  refine r_get (C := RX3) (T := TX3) (N := 4) F 0 hc.1 (by decide) hinX3 rfl 0 (by decide) (by decide +kernel) rfl dX3_filled_1 ?_
  refine r_calli (g_VN (C := RX0) (T := TX0) (N := 7) (nA := 0) (As := []) (rest := []) F 1 hc.2.1.obj (by decide) rfl (c_X0_openParts hc.2.1 (by decide) ) gX3_filled_X0_openParts_n83 rfl 20 rfl (by decide +kernel) (by decide +kernel) (by decide +kernel) (by decide +kernel) rfl ⟨Nat.le_of_ble_eq_true rfl, Nat.le_of_ble_eq_true rfl⟩ ⟨Nat.le_of_ble_eq_true rfl, Nat.le_of_ble_eq_true rfl⟩ rfl (Nat.le_of_ble_eq_true rfl) dX3_filled_4) (fun r_1 u_1 hp_1 => ?_)
  obtain ⟨rfl, rfl⟩ := hp_1
  refine r_istore_n (lv' := [(0, .ref (g.2.1 0)), (1, .int (opm B n))]) F (by decide) rfl dX3_filled_7 ?_
  refine r_aload_n F 0 rfl dX3_filled_8 ?_
  refine r_get (C := RX3) (T := TX3) (N := 4) F 0 hc.1 (by decide) hinX3 rfl 0 (by decide) (by decide +kernel) rfl dX3_filled_9 ?_
  refine r_iload_n F 1 rfl dX3_filled_12 ?_
  refine r_calli (g_VN (C := RX0) (T := TX0) (N := 7) (nA := 1) (As := [.int (opm B n)]) (rest := []) F 1 hc.2.1.obj (by decide) rfl (c_X0_openToAnswer hc.2.1 (by decide) ) gX3_filled_X0_openToAnswer_n140 rfl 21 rfl (by decide +kernel) (by decide +kernel) (by decide +kernel) (by decide +kernel) rfl ⟨Nat.le_of_ble_eq_true rfl, Nat.le_of_ble_eq_true rfl⟩ ⟨Nat.le_of_ble_eq_true rfl, Nat.le_of_ble_eq_true rfl⟩ rfl (Nat.le_of_ble_eq_true rfl) dX3_filled_13) (fun r_2 u_2 hp_2 => ?_)
  obtain ⟨rfl, rfl⟩ := hp_2
  refine r_istore_n (lv' := [(0, .ref (g.2.1 0)), (1, .int (opm B n)), (2, .int (cntN n (fun b => qOpn B (opm B n) b && !decide (B b 0 = 3))))]) F (by decide) rfl dX3_filled_16 ?_
  refine r_iload_n F 2 rfl dX3_filled_17 ?_
  refine r_if_gt F 23 (by decide) dX3_filled_18 (fun c_18_3 => ?_) (fun c_18_3 => ?_)
  · skip
    have h16 := hc.2.1.le
    have hA : cntN n (fun b => qOpn B (opm B n) b && !decide (B b 0 = 3)) = nI (filA B n) := cntN_K
    have hAl : filA B n ≤ 16 := Nat.le_trans cnK_le h16
    have hA0 : 0 < filA B n := (nI_ltI (a := 0) (by decide) (by omega)).mp (show nI 0 < nI (filA B n) from hA ▸ c_18_3)
    have hAW : cntN n (fun b => qOpn B (opm B n) b && !decide (B b 0 = 3)) - cntN n (qWts B (opm B n)) = nI (filA B n - filW B n) := by rw [hA, cntN_K]; exact pk_sub filW_le
    refine r_iload_n F 2 rfl dX3_filled_23 ?_
    refine r_aload_n F 0 rfl dX3_filled_24 ?_
    refine r_get (C := RX3) (T := TX3) (N := 4) F 0 hc.1 (by decide) hinX3 rfl 0 (by decide) (by decide +kernel) rfl dX3_filled_25 ?_
    refine r_iload_n F 1 rfl dX3_filled_28 ?_
    refine r_calli (g_VN (C := RX0) (T := TX0) (N := 7) (nA := 1) (As := [.int (opm B n)]) (rest := [.int (cntN n (fun b => qOpn B (opm B n) b && !decide (B b 0 = 3)))]) F 1 hc.2.1.obj (by decide) rfl (c_X0_wanting hc.2.1 (by decide) ) gX3_filled_X0_wanting_n86 rfl 18 rfl (by decide +kernel) (by decide +kernel) (by decide +kernel) (by decide +kernel) rfl ⟨Nat.le_of_ble_eq_true rfl, Nat.le_of_ble_eq_true rfl⟩ ⟨Nat.le_of_ble_eq_true rfl, Nat.le_of_ble_eq_true rfl⟩ rfl (Nat.le_of_ble_eq_true rfl) dX3_filled_29) (fun r_4 u_4 hp_4 => ?_)
    obtain ⟨rfl, rfl⟩ := hp_4
    refine r_isub F dX3_filled_32 ?_
    refine r_i2d F dX3_filled_33 ?_
    refine r_iload_n F 2 rfl dX3_filled_34 ?_
    refine r_i2d F dX3_filled_35 ?_
    refine r_ddiv F (by rw [hAW, hA]; exact vfB_n (ok_share (Nat.sub_le _ _) hA0 hAl).1) dX3_filled_36 ?_
    exact hret _ _ _ _ _ _ (Nat.le_of_ble_eq_true rfl) (Nat.le_of_ble_eq_true rfl) ⟨by rw [filD, if_pos hA0, shD, ← hAW, ← hA], rfl⟩ dX3_filled_37
  · skip
    have h16 := hc.2.1.le
    have hA : cntN n (fun b => qOpn B (opm B n) b && !decide (B b 0 = 3)) = nI (filA B n) := cntN_K
    have hAl : filA B n ≤ 16 := Nat.le_trans cnK_le h16
    have hA0 : ¬ 0 < filA B n := fun z => c_18_3 (hA ▸ (nI_ltI (a := 0) (by decide) (by omega)).mpr z)
    refine r_dconst1 F dX3_filled_21 ?_
    exact hret _ _ _ _ _ _ (Nat.le_of_ble_eq_true rfl) (Nat.le_of_ble_eq_true rfl) ⟨by simp [filD, hA0], rfl⟩ dX3_filled_22
def digL (B : kB) (n m t : Nat) (C : Nat → Int32) : Int64 := hfN C t (mixL (mixL (mixL (mixL (hPrt B n (opm B n) (hBox B n (opm B n) (hCnt B n m (opm B n) 3389))) (sho B n).toInt64) (mcB B n n).toInt64) (bitD (filD B n))) (nI t).toInt64)
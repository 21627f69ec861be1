set_option maxHeartbeats 4000000 in
set_option maxRecDepth 100000 in
theorem c_X3_addNew {g : kG} {l : Launch} (hfl : l.stackTraces = false) {u : Nat → va_E} {n m t : Nat} {B : kB} {S : Nat → kS} {C : Nat → Int32} {kd p a lim : Int32} (hc : CsB g u n B m S t C)  : XCI g l yX3_addNew wsX3_addNew ({ frames := 7, cells := 1, slots := 6, locals := 110 }) [.ref (g.2.1 0), .int kd, .int p, .int a, .int lim] u (fun r u' => r = nI n ∧ CsB g u' (n + 1) (bAdd B n kd p a lim) (pushM m) (pushS m S (n, B)) t C ∧ (∀ j, 61 ≤ j → u' j = u j) ∧ n < 16) (fun E u' => E = xS ∧ u' = u ∧ ¬ n < 16) := by
  refine XCI.of (cc := cX3_addNew) (nL := 5) (ty := .int) hfl (by decide +kernel) rfl (fun _ _ _ => rfl) (Nat.le_of_ble_eq_true rfl) ?_
  intro X hXl F Gq hret
  subst hXl
  have hinX3 : ∀ w ∈ wsX30, w ∈ wsX3_addNew := by decide +kernel
  obtain ⟨nx, hN⟩ := hc.2.2.2.1
  show VL g X 0 0 u 0 [(0, .ref (g.2.1 0)), (1, .int kd), (2, .int p), (3, .int a), (4, .int lim)] []
  refine r_aload_n F 0 rfl dX3_addNew_0 ?_
  refine r_get (C := RX3) (T := TX3) (N := 4) F 0 hc.1 (by decide) hinX3 rfl 0 (by decide) (by decide +kernel) rfl dX3_addNew_1 ?_
  refine r_calli (g_VN (C := RX0) (T := TX0) (N := 7) (nA := 0) (As := []) (rest := []) F 1 hc.2.1.obj (by decide) rfl (c_X0_size hc.2.1 (by decide) ) gX3_addNew_X0_size_n54 rfl 9 rfl (by decide +kernel) (by decide +kernel) (by decide +kernel) (by decide +kernel) rfl ⟨Nat.le_of_ble_eq_true rfl, Nat.le_of_ble_eq_true rfl⟩ ⟨Nat.le_of_ble_eq_true rfl, Nat.le_of_ble_eq_true rfl⟩ rfl (Nat.le_of_ble_eq_true rfl) dX3_addNew_4) (fun r_1 u_1 hp_1 => ?_)
  obtain ⟨rfl, rfl⟩ := hp_1
  refine r_bipush (v := 16) F (by decide) dX3_addNew_7 ?_
  refine r_icmp_ge F 16 (by decide) dX3_addNew_9 (fun c_9_2 => ?_) (fun c_9_2 => ?_)
  · skip
    refine r_iconst (v := 0) F (by decide) dX3_addNew_16 ?_
    refine r_eq (st2 := [.int (bI (decide (n < 16)))]) (by rw [show (bI (decide (n < 16))) = 0 from (by rw [decide_eq_false (Nat.not_lt.mpr ((nI_leI (a := 16) (by decide) (by have := hc.2.1.le; omega)).mp c_9_2))]; rfl)]) rfl ?_
    refine r_xcallv F Gq (g_XS (nA := 1) (As := [.int (bI (decide (n < 16)))]) (rest := []) F (c_X3_needState hfl (b := decide (n < 16))) gX3_addNew_X3_needState rfl (by decide +kernel) rfl ⟨Nat.le_of_ble_eq_true rfl, Nat.le_of_ble_eq_true rfl⟩ ⟨Nat.le_of_ble_eq_true rfl, Nat.le_of_ble_eq_true rfl⟩ rfl (Nat.le_of_ble_eq_true rfl) dX3_addNew_17) ⟨Nat.le_of_ble_eq_true rfl, Nat.le_of_ble_eq_true rfl⟩ (fun E u9 h9 => ⟨h9.1, h9.2.1, of_decide_eq_false h9.2.2⟩) (fun u_3 hp_3 => ?_)
    obtain ⟨rfl, hq_3⟩ := hp_3
    have hn16 : n < 16 := of_decide_eq_true hq_3
    refine r_aload_n F 0 rfl dX3_addNew_20 ?_
    refine r_get (C := RX3) (T := TX3) (N := 4) F 0 hc.1 (by decide) hinX3 rfl 2 (by decide) (by decide +kernel) rfl dX3_addNew_21 ?_
    refine r_aload_n F 0 rfl dX3_addNew_24 ?_
    refine r_get (C := RX3) (T := TX3) (N := 4) F 0 hc.1 (by decide) hinX3 rfl 0 (by decide) (by decide +kernel) rfl dX3_addNew_25 ?_
    refine r_callv (g_VN (C := RX1) (T := TX1) (N := 3) (nA := 1) (As := [.ref (g.2.1 1)]) (rest := []) F 15 hN.obj (by decide) rfl (c_X1_save hN hc.2.1 (by decide)) gX3_addNew_X1_save_n61 rfl 4 rfl (by decide +kernel) (by decide +kernel) (by decide +kernel) (by decide +kernel) rfl ⟨Nat.le_of_ble_eq_true rfl, Nat.le_of_ble_eq_true rfl⟩ ⟨Nat.le_of_ble_eq_true rfl, Nat.le_of_ble_eq_true rfl⟩ rfl (Nat.le_of_ble_eq_true rfl) dX3_addNew_28) (fun u_4 hp_4 => ?_)
    obtain ⟨hH_4, hk_4⟩ := hp_4
    have hc_4 := hc.hist hH_4 hk_4
    obtain ⟨nx_5, hN_5⟩ := hc_4.2.2.2.1
    refine r_aload_n F 0 rfl dX3_addNew_31 ?_
    refine r_get (C := RX3) (T := TX3) (N := 4) F 0 hc_4.1 (by decide) hinX3 rfl 0 (by decide) (by decide +kernel) rfl dX3_addNew_32 ?_
    refine r_iload_n F 1 rfl dX3_addNew_35 ?_
    refine r_iload_n F 2 rfl dX3_addNew_36 ?_
    refine r_iload_n F 3 rfl dX3_addNew_37 ?_
    refine r_iload F 4 rfl dX3_addNew_38 ?_
    refine r_callv (g_VN (C := RX0) (T := TX0) (N := 7) (nA := 4) (As := [.int kd, .int p, .int a, .int lim]) (rest := []) F 1 hc_4.2.1.obj (by decide) rfl (c_X0_add hc_4.2.1 (by decide) hn16) gX3_addNew_X0_add_n198 rfl 40 rfl (by decide +kernel) (by decide +kernel) (by decide +kernel) (by decide +kernel) rfl ⟨Nat.le_of_ble_eq_true rfl, Nat.le_of_ble_eq_true rfl⟩ ⟨Nat.le_of_ble_eq_true rfl, Nat.le_of_ble_eq_true rfl⟩ rfl (Nat.le_of_ble_eq_true rfl) dX3_addNew_40) (fun u_6 hp_6 => ?_)
    obtain ⟨hB_6, hk_6⟩ := hp_6
    have hc_6 := hc_4.form hB_6 hk_6
    obtain ⟨nx_7, hN_7⟩ := hc_6.2.2.2.1
    refine r_aload_n F 0 rfl dX3_addNew_43 ?_
    refine r_get (C := RX3) (T := TX3) (N := 4) F 0 hc_6.1 (by decide) hinX3 rfl 0 (by decide) (by decide +kernel) rfl dX3_addNew_44 ?_
    refine r_calli (g_VN (C := RX0) (T := TX0) (N := 7) (nA := 0) (As := []) (rest := []) F 1 hc_6.2.1.obj (by decide) rfl (c_X0_size hc_6.2.1 (by decide) ) gX3_addNew_X0_size_n54 rfl 9 rfl (by decide +kernel) (by decide +kernel) (by decide +kernel) (by decide +kernel) rfl ⟨Nat.le_of_ble_eq_true rfl, Nat.le_of_ble_eq_true rfl⟩ ⟨Nat.le_of_ble_eq_true rfl, Nat.le_of_ble_eq_true rfl⟩ rfl (Nat.le_of_ble_eq_true rfl) dX3_addNew_47) (fun r_8 u_8 hp_8 => ?_)
    obtain ⟨rfl, rfl⟩ := hp_8
    refine r_iconst (v := 1) F (by decide) dX3_addNew_50 ?_
    refine r_isub F dX3_addNew_51 ?_
    exact hret _ _ _ _ _ _ (Nat.le_of_ble_eq_true rfl) (Nat.le_of_ble_eq_true rfl) ⟨nI_pred n, hc_6, fun j hj => (hk_6 j (by omega)).trans (hk_4 j (by omega)), hn16⟩ dX3_addNew_52
  · skip
    refine r_iconst (v := 1) F (by decide) dX3_addNew_12 ?_
    refine r_goto F 17 (by decide) dX3_addNew_13 ?_
    refine r_eq (st2 := [.int (bI (decide (n < 16)))]) (by rw [show (bI (decide (n < 16))) = 1 from (by rw [decide_eq_true (Nat.not_le.mp (fun z => c_9_2 ((nI_leI (a := 16) (by decide) (by have := hc.2.1.le; omega)).mpr z)))]; rfl)]) rfl ?_
    refine r_xcallv F Gq (g_XS (nA := 1) (As := [.int (bI (decide (n < 16)))]) (rest := []) F (c_X3_needState hfl (b := decide (n < 16))) gX3_addNew_X3_needState rfl (by decide +kernel) rfl ⟨Nat.le_of_ble_eq_true rfl, Nat.le_of_ble_eq_true rfl⟩ ⟨Nat.le_of_ble_eq_true rfl, Nat.le_of_ble_eq_true rfl⟩ rfl (Nat.le_of_ble_eq_true rfl) dX3_addNew_17) ⟨Nat.le_of_ble_eq_true rfl, Nat.le_of_ble_eq_true rfl⟩ (fun E u9 h9 => ⟨h9.1, h9.2.1, of_decide_eq_false h9.2.2⟩) (fun u_9 hp_9 => ?_)
    obtain ⟨rfl, hq_9⟩ := hp_9
    have hn16 : n < 16 := of_decide_eq_true hq_9
    refine r_aload_n F 0 rfl dX3_addNew_20 ?_
    refine r_get (C := RX3) (T := TX3) (N := 4) F 0 hc.1 (by decide) hinX3 rfl 2 (by decide) (by decide +kernel) rfl dX3_addNew_21 ?_
    refine r_aload_n F 0 rfl dX3_addNew_24 ?_
    refine r_get (C := RX3) (T := TX3) (N := 4) F 0 hc.1 (by decide) hinX3 rfl 0 (by decide) (by decide +kernel) rfl dX3_addNew_25 ?_
    refine r_callv (g_VN (C := RX1) (T := TX1) (N := 3) (nA := 1) (As := [.ref (g.2.1 1)]) (rest := []) F 15 hN.obj (by decide) rfl (c_X1_save hN hc.2.1 (by decide)) gX3_addNew_X1_save_n61 rfl 4 rfl (by decide +kernel) (by decide +kernel) (by decide +kernel) (by decide +kernel) rfl ⟨Nat.le_of_ble_eq_true rfl, Nat.le_of_ble_eq_true rfl⟩ ⟨Nat.le_of_ble_eq_true rfl, Nat.le_of_ble_eq_true rfl⟩ rfl (Nat.le_of_ble_eq_true rfl) dX3_addNew_28) (fun u_10 hp_10 => ?_)
    obtain ⟨hH_10, hk_10⟩ := hp_10
    have hc_10 := hc.hist hH_10 hk_10
    obtain ⟨nx_11, hN_11⟩ := hc_10.2.2.2.1
    refine r_aload_n F 0 rfl dX3_addNew_31 ?_
    refine r_get (C := RX3) (T := TX3) (N := 4) F 0 hc_10.1 (by decide) hinX3 rfl 0 (by decide) (by decide +kernel) rfl dX3_addNew_32 ?_
    refine r_iload_n F 1 rfl dX3_addNew_35 ?_
    refine r_iload_n F 2 rfl dX3_addNew_36 ?_
    refine r_iload_n F 3 rfl dX3_addNew_37 ?_
    refine r_iload F 4 rfl dX3_addNew_38 ?_
    refine r_callv (g_VN (C := RX0) (T := TX0) (N := 7) (nA := 4) (As := [.int kd, .int p, .int a, .int lim]) (rest := []) F 1 hc_10.2.1.obj (by decide) rfl (c_X0_add hc_10.2.1 (by decide) hn16) gX3_addNew_X0_add_n198 rfl 40 rfl (by decide +kernel) (by decide +kernel) (by decide +kernel) (by decide +kernel) rfl ⟨Nat.le_of_ble_eq_true rfl, Nat.le_of_ble_eq_true rfl⟩ ⟨Nat.le_of_ble_eq_true rfl, Nat.le_of_ble_eq_true rfl⟩ rfl (Nat.le_of_ble_eq_true rfl) dX3_addNew_40) (fun u_12 hp_12 => ?_)
    obtain ⟨hB_12, hk_12⟩ := hp_12
    have hc_12 := hc_10.form hB_12 hk_12
    obtain ⟨nx_13, hN_13⟩ := hc_12.2.2.2.1
    refine r_aload_n F 0 rfl dX3_addNew_43 ?_
    refine r_get (C := RX3) (T := TX3) (N := 4) F 0 hc_12.1 (by decide) hinX3 rfl 0 (by decide) (by decide +kernel) rfl dX3_addNew_44 ?_
    refine r_calli (g_VN (C := RX0) (T := TX0) (N := 7) (nA := 0) (As := []) (rest := []) F 1 hc_12.2.1.obj (by decide) rfl (c_X0_size hc_12.2.1 (by decide) ) gX3_addNew_X0_size_n54 rfl 9 rfl (by decide +kernel) (by decide +kernel) (by decide +kernel) (by decide +kernel) rfl ⟨Nat.le_of_ble_eq_true rfl, Nat.le_of_ble_eq_true rfl⟩ ⟨Nat.le_of_ble_eq_true rfl, Nat.le_of_ble_eq_true rfl⟩ rfl (Nat.le_of_ble_eq_true rfl) dX3_addNew_47) (fun r_14 u_14 hp_14 => ?_)
    obtain ⟨rfl, rfl⟩ := hp_14
    refine r_iconst (v := 1) F (by decide) dX3_addNew_50 ?_
    refine r_isub F dX3_addNew_51 ?_
    exact hret _ _ _ _ _ _ (Nat.le_of_ble_eq_true rfl) (Nat.le_of_ble_eq_true rfl) ⟨nI_pred n, hc_12, fun j hj => (hk_12 j (by omega)).trans (hk_10 j (by omega)), hn16⟩ dX3_addNew_52

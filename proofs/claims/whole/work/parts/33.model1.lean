set_option maxHeartbeats 4000000 in
set_option maxRecDepth 100000 in
theorem c_X4_in {g : kG} {l : Launch} {u : Nat → va_E} {x a b : Int32}  : CI g l yX4_in wsX4_in ({ frames := 0, cells := 0, slots := 0, locals := 0 }) [.int x, .int a, .int b] u (fun r u' => r = bI (wi x a b) ∧ u = u') := by
  refine CI.of (cc := cX4_in) (nL := 3) (ty := .boolean) (by decide +kernel) rfl (fun v u' h => by obtain ⟨h, -⟩ := h; rw [h]; exact bI_n _) (Nat.le_of_ble_eq_true rfl) ?_
  intro X hXl F hret
  subst hXl
  show VL g X 0 0 u 0 [(0, .int x), (1, .int a), (2, .int b)] []
  refine r_iload_n F 0 rfl dX4_in_0 ?_
  refine r_iload_n F 1 rfl dX4_in_1 ?_
  refine r_icmp_lt F 14 (by decide) dX4_in_2 (fun c_2_1 => ?_) (fun c_2_1 => ?_)
  · skip
    refine r_iconst (v := 0) F (by decide) dX4_in_14 ?_
    exact hret _ _ _ _ _ _ (Nat.le_of_ble_eq_true rfl) (Nat.le_of_ble_eq_true rfl) ⟨by simp [wi, bI, c_2_1], rfl⟩ dX4_in_15
  · skip
    refine r_iload_n F 0 rfl dX4_in_5 ?_
    refine r_iload_n F 2 rfl dX4_in_6 ?_
    refine r_icmp_gt F 14 (by decide) dX4_in_7 (fun c_7_2 => ?_) (fun c_7_2 => ?_)
    · skip
      refine r_iconst (v := 0) F (by decide) dX4_in_14 ?_
      exact hret _ _ _ _ _ _ (Nat.le_of_ble_eq_true rfl) (Nat.le_of_ble_eq_true rfl) ⟨by simp [wi, bI, c_2_1, c_7_2], rfl⟩ dX4_in_15
    · skip
      refine r_iconst (v := 1) F (by decide) dX4_in_10 ?_
      refine r_goto F 15 (by decide) dX4_in_11 ?_
      exact hret _ _ _ _ _ _ (Nat.le_of_ble_eq_true rfl) (Nat.le_of_ble_eq_true rfl) ⟨by simp [wi, bI, c_2_1, c_7_2], rfl⟩ dX4_in_15
set_option maxHeartbeats 4000000 in
set_option maxRecDepth 100000 in
theorem c_X4_isPart {g : kG} {l : Launch} {u : Nat → va_E} {x : Int32}  : CI g l yX4_isPart wsX4_isPart ({ frames := 1, cells := 0, slots := 0, locals := 22 }) [.int x] u (fun r u' => r = bI (wi x 0 4) ∧ u = u') := by
  refine CI.of (cc := cX4_isPart) (nL := 1) (ty := .boolean) (by decide +kernel) rfl (fun v u' h => by obtain ⟨h, -⟩ := h; rw [h]; exact bI_n _) (Nat.le_of_ble_eq_true rfl) ?_
  intro X hXl F hret
  subst hXl
  show VL g X 0 0 u 0 [(0, .int x)] []
  refine r_iload_n F 0 rfl dX4_isPart_0 ?_
  refine r_iconst (v := 0) F (by decide) dX4_isPart_1 ?_
  refine r_iconst (v := 4) F (by decide) dX4_isPart_2 ?_
  refine r_calli (g_S (nA := 3) (As := [.int x, .int 0, .int 4]) (rest := []) F (c_X4_in) gX4_isPart_X4_in rfl (by decide +kernel) rfl ⟨Nat.le_of_ble_eq_true rfl, Nat.le_of_ble_eq_true rfl⟩ ⟨Nat.le_of_ble_eq_true rfl, Nat.le_of_ble_eq_true rfl⟩ rfl (Nat.le_of_ble_eq_true rfl) dX4_isPart_3) (fun r_1 u_1 hp_1 => ?_)
  obtain ⟨rfl, rfl⟩ := hp_1
  exact hret _ _ _ _ _ _ (Nat.le_of_ble_eq_true rfl) (Nat.le_of_ble_eq_true rfl) ⟨by rfl, rfl⟩ dX4_isPart_6
set_option maxHeartbeats 4000000 in
set_option maxRecDepth 100000 in
theorem c_X4_thrown {g : kG} {l : Launch} {u : Nat → va_E} {th rm sp wr : Int32} {hs : Int64} {VA RD CH WE : Nat → Int32} {n m t : Nat} {B : kB} {S : Nat → kS} {C : Nat → Int32}  (h : MdX g u th rm sp wr hs VA RD CH WE n B m S t C)  : CI g l yX4_thrown wsX4_thrown ({ frames := 0, cells := 0, slots := 0, locals := 0 }) [.ref (g.2.1 61)] u (fun r u' => r = th ∧ u = u') := by
  refine CI.of (cc := cX4_thrown) (nL := 1) (ty := .int) (by decide +kernel) rfl (fun _ _ _ => rfl) (Nat.le_of_ble_eq_true rfl) ?_
  intro X hXl F hret
  subst hXl
  have hinX4 : ∀ w ∈ wsX40, w ∈ wsX4_thrown := by decide +kernel
  obtain ⟨Z, SV, BF, hL, hZ, hSV, hBF, hn16, hm6, ht60⟩ := id h
  show VL g X 0 0 u 0 [(0, .ref (g.2.1 61))] []
  refine r_aload_n F 0 rfl dX4_thrown_0 ?_
  refine r_get (C := RX4) (T := TX4) (N := 14) F 61 hL.1 (by decide) hinX4 rfl 0 (by decide) (by decide +kernel) rfl dX4_thrown_1 ?_
  exact hret _ _ _ _ _ _ (Nat.le_of_ble_eq_true rfl) (Nat.le_of_ble_eq_true rfl) ⟨by rfl, rfl⟩ dX4_thrown_4
set_option maxHeartbeats 4000000 in
set_option maxRecDepth 100000 in
theorem c_X4_isBox {g : kG} {l : Launch} {u : Nat → va_E} {th rm sp wr : Int32} {hs : Int64} {VA RD CH WE : Nat → Int32} {n m t : Nat} {B : kB} {S : Nat → kS} {C : Nat → Int32} {x : Int32} (h : MdX g u th rm sp wr hs VA RD CH WE n B m S t C)  : CI g l yX4_isBox wsX4_isBox ({ frames := 0, cells := 0, slots := 0, locals := 0 }) [.ref (g.2.1 61), .int x] u (fun r u' => r = bI (hasB n x) ∧ u = u') := by
  refine CI.of (cc := cX4_isBox) (nL := 2) (ty := .boolean) (by decide +kernel) rfl (fun v u' h => by obtain ⟨h, -⟩ := h; rw [h]; exact bI_n _) (Nat.le_of_ble_eq_true rfl) ?_
  intro X hXl F hret
  subst hXl
  have hinX4 : ∀ w ∈ wsX40, w ∈ wsX4_isBox := by decide +kernel
  obtain ⟨Z, SV, BF, hL, hZ, hSV, hBF, hn16, hm6, ht60⟩ := id h
  show VL g X 0 0 u 0 [(0, .ref (g.2.1 61)), (1, .int x)] []
  refine r_iload_n F 1 rfl dX4_isBox_0 ?_
  refine r_if_lt F 18 (by decide) dX4_isBox_1 (fun c_1_1 => ?_) (fun c_1_1 => ?_)
  · skip
    refine r_iconst (v := 0) F (by decide) dX4_isBox_18 ?_
    exact hret _ _ _ _ _ _ (Nat.le_of_ble_eq_true rfl) (Nat.le_of_ble_eq_true rfl) ⟨by simp [hasB, bI, c_1_1], rfl⟩ dX4_isBox_19
  · skip
    refine r_iload_n F 1 rfl dX4_isBox_4 ?_
    refine r_aload_n F 0 rfl dX4_isBox_5 ?_
    refine r_get (C := RX4) (T := TX4) (N := 14) F 61 hL.1 (by decide) hinX4 rfl 1 (by decide) (by decide +kernel) rfl dX4_isBox_6 ?_
    refine r_iconst (v := 0) F (by decide) dX4_isBox_9 ?_
    refine r_iald F 62 hL.2.1 (by decide) (vp_in_nI (n := 0) (by decide) (by decide)) dX4_isBox_10 ?_
    refine r_eq (st2 := [.int (nI n), .int x]) (by rw [show Z (0 : Int32).toNatClampNeg = nI n from hZ.1]) rfl ?_
    refine r_icmp_ge F 18 (by decide) dX4_isBox_11 (fun c_11_2 => ?_) (fun c_11_2 => ?_)
    · skip
      refine r_iconst (v := 0) F (by decide) dX4_isBox_18 ?_
      exact hret _ _ _ _ _ _ (Nat.le_of_ble_eq_true rfl) (Nat.le_of_ble_eq_true rfl) ⟨by simp [hasB, bI, c_1_1, c_11_2], rfl⟩ dX4_isBox_19
    · skip
      refine r_iconst (v := 1) F (by decide) dX4_isBox_14 ?_
      refine r_goto F 19 (by decide) dX4_isBox_15 ?_
      exact hret _ _ _ _ _ _ (Nat.le_of_ble_eq_true rfl) (Nat.le_of_ble_eq_true rfl) ⟨by simp [hasB, bI, c_1_1, c_11_2], rfl⟩ dX4_isBox_19
set_option maxHeartbeats 4000000 in
set_option maxRecDepth 100000 in
theorem c_X4_of {g : kG} {l : Launch} {u : Nat → va_E} {th rm sp wr : Int32} {hs : Int64} {VA RD CH WE : Nat → Int32} {n m t : Nat} {B : kB} {S : Nat → kS} {C : Nat → Int32} {b w : Nat} (h : MdX g u th rm sp wr hs VA RD CH WE n B m S t C) (hb : b < n) (hw : w < 5) : CI g l yX4_of wsX4_of ({ frames := 0, cells := 0, slots := 0, locals := 0 }) [.ref (g.2.1 61), .int (nI b), .int (nI w)] u (fun r u' => r = B b w ∧ u = u') := by
  refine CI.of (cc := cX4_of) (nL := 3) (ty := .int) (by decide +kernel) rfl (fun _ _ _ => rfl) (Nat.le_of_ble_eq_true rfl) ?_
  intro X hXl F hret
  subst hXl
  have hinX4 : ∀ w ∈ wsX40, w ∈ wsX4_of := by decide +kernel
  obtain ⟨Z, SV, BF, hL, hZ, hSV, hBF, hn16, hm6, ht60⟩ := id h
  show VL g X 0 0 u 0 [(0, .ref (g.2.1 61)), (1, .int (nI b)), (2, .int (nI w))] []
  refine r_aload_n F 0 rfl dX4_of_0 ?_
  refine r_get (C := RX4) (T := TX4) (N := 14) F 61 hL.1 (by decide) hinX4 rfl 1 (by decide) (by decide +kernel) rfl dX4_of_1 ?_
  refine r_iconst (v := 1) F (by decide) dX4_of_4 ?_
  refine r_iconst (v := 5) F (by decide) dX4_of_5 ?_
  refine r_iload_n F 1 rfl dX4_of_6 ?_
  refine r_imul F dX4_of_7 ?_
  refine r_iadd F dX4_of_8 ?_
  refine r_iload_n F 2 rfl dX4_of_9 ?_
  refine r_iadd F dX4_of_10 ?_
  refine r_iald F 62 hL.2.1 (by decide) (by rw [ixz]; exact vp_in_nI (by omega) (by decide)) dX4_of_11 ?_
  refine r_eq (st2 := [.int (B b w)]) (by rw [ixz, nI_clamp (by omega), hZ.2 b hb w hw]) rfl ?_
  exact hret _ _ _ _ _ _ (Nat.le_of_ble_eq_true rfl) (Nat.le_of_ble_eq_true rfl) ⟨by rfl, rfl⟩ dX4_of_12
set_option maxHeartbeats 4000000 in
set_option maxRecDepth 100000 in
theorem c_X4_isTold {g : kG} {l : Launch} {u : Nat → va_E} {th rm sp wr : Int32} {hs : Int64} {VA RD CH WE : Nat → Int32} {n m t : Nat} {B : kB} {S : Nat → kS} {C : Nat → Int32} {b : Nat} {mask : Int32} (h : MdX g u th rm sp wr hs VA RD CH WE n B m S t C) (hb : b < n) : CI g l yX4_isTold wsX4_isTold ({ frames := 1, cells := 0, slots := 0, locals := 22 }) [.ref (g.2.1 61), .int (nI b), .int mask] u (fun r u' => r = bI (qOpn B mask b) ∧ u = u') := by
  refine CI.of (cc := cX4_isTold) (nL := 3) (ty := .boolean) (by decide +kernel) rfl (fun v u' h => by obtain ⟨h, -⟩ := h; rw [h]; exact bI_n _) (Nat.le_of_ble_eq_true rfl) ?_
  intro X hXl F hret
  subst hXl
  obtain ⟨Z, SV, BF, hL, hZ, hSV, hBF, hn16, hm6, ht60⟩ := id h
  show VL g X 0 0 u 0 [(0, .ref (g.2.1 61)), (1, .int (nI b)), (2, .int mask)] []
  refine r_iload_n F 2 rfl dX4_isTold_0 ?_
  refine r_aload_n F 0 rfl dX4_isTold_1 ?_
  refine r_iload_n F 1 rfl dX4_isTold_2 ?_
  refine r_iconst (v := 1) F (by decide) dX4_isTold_3 ?_
  refine r_calli (g_V (C := RX4) (T := TX4) (N := 14) (nA := 2) (As := [.int (nI b), .int 1]) (rest := [.int mask]) F 61 hL.1 (by decide) rfl (c_X4_of h hb (w := 1) (by decide)) gX4_isTold_X4_of rfl (by decide +kernel) rfl ⟨Nat.le_of_ble_eq_true rfl, Nat.le_of_ble_eq_true rfl⟩ ⟨Nat.le_of_ble_eq_true rfl, Nat.le_of_ble_eq_true rfl⟩ rfl (Nat.le_of_ble_eq_true rfl) dX4_isTold_4) (fun r_1 u_1 hp_1 => ?_)
  obtain ⟨rfl, rfl⟩ := hp_1
  refine r_ishr F dX4_isTold_7 ?_
  refine r_iconst (v := 1) F (by decide) dX4_isTold_8 ?_
  refine r_iand F dX4_isTold_9 ?_
  refine r_iconst (v := 1) F (by decide) dX4_isTold_10 ?_
  refine r_icmp_ne F 18 (by decide) dX4_isTold_11 (fun c_11_2 => ?_) (fun c_11_2 => ?_)
  · skip
    refine r_iconst (v := 0) F (by decide) dX4_isTold_18 ?_
    exact hret _ _ _ _ _ _ (Nat.le_of_ble_eq_true rfl) (Nat.le_of_ble_eq_true rfl) ⟨by simp [qOpn, tld, bI, c_11_2], rfl⟩ dX4_isTold_19
  · skip
    refine r_iconst (v := 1) F (by decide) dX4_isTold_14 ?_
    refine r_goto F 19 (by decide) dX4_isTold_15 ?_
    exact hret _ _ _ _ _ _ (Nat.le_of_ble_eq_true rfl) (Nat.le_of_ble_eq_true rfl) ⟨by simp [qOpn, tld, bI, c_11_2], rfl⟩ dX4_isTold_19
set_option maxHeartbeats 4000000 in
set_option maxRecDepth 100000 in
theorem c_X4_closesNow {g : kG} {l : Launch} {u : Nat → va_E} {th rm sp wr : Int32} {hs : Int64} {VA RD CH WE : Nat → Int32} {n m t : Nat} {B : kB} {S : Nat → kS} {C : Nat → Int32} {b : Nat} (h : MdX g u th rm sp wr hs VA RD CH WE n B m S t C) (hb : b < n) : CI g l yX4_closesNow wsX4_closesNow ({ frames := 1, cells := 0, slots := 0, locals := 22 }) [.ref (g.2.1 61), .int (nI b)] u (fun r u' => r = bI (qCN B b) ∧ u = u') := by
  refine CI.of (cc := cX4_closesNow) (nL := 2) (ty := .boolean) (by decide +kernel) rfl (fun v u' h => by obtain ⟨h, -⟩ := h; rw [h]; exact bI_n _) (Nat.le_of_ble_eq_true rfl) ?_
  intro X hXl F hret
  subst hXl
  obtain ⟨Z, SV, BF, hL, hZ, hSV, hBF, hn16, hm6, ht60⟩ := id h
  show VL g X 0 0 u 0 [(0, .ref (g.2.1 61)), (1, .int (nI b))] []
  refine r_aload_n F 0 rfl dX4_closesNow_0 ?_
  refine r_iload_n F 1 rfl dX4_closesNow_1 ?_
  refine r_iconst (v := 0) F (by decide) dX4_closesNow_2 ?_
  refine r_calli (g_V (C := RX4) (T := TX4) (N := 14) (nA := 2) (As := [.int (nI b), .int 0]) (rest := []) F 61 hL.1 (by decide) rfl (c_X4_of h hb (w := 0) (by decide)) gX4_closesNow_X4_of rfl (by decide +kernel) rfl ⟨Nat.le_of_ble_eq_true rfl, Nat.le_of_ble_eq_true rfl⟩ ⟨Nat.le_of_ble_eq_true rfl, Nat.le_of_ble_eq_true rfl⟩ rfl (Nat.le_of_ble_eq_true rfl) dX4_closesNow_3) (fun r_1 u_1 hp_1 => ?_)
  obtain ⟨rfl, rfl⟩ := hp_1
  refine r_iconst (v := 2) F (by decide) dX4_closesNow_6 ?_
  refine r_icmp_ne F 39 (by decide) dX4_closesNow_7 (fun c_7_2 => ?_) (fun c_7_2 => ?_)
  · skip
    refine r_iconst (v := 0) F (by decide) dX4_closesNow_39 ?_
    exact hret _ _ _ _ _ _ (Nat.le_of_ble_eq_true rfl) (Nat.le_of_ble_eq_true rfl) ⟨by simp [qCN, bI, c_7_2], rfl⟩ dX4_closesNow_40
  · skip
    refine r_aload_n F 0 rfl dX4_closesNow_10 ?_
    refine r_iload_n F 1 rfl dX4_closesNow_11 ?_
    refine r_iconst (v := 4) F (by decide) dX4_closesNow_12 ?_
    refine r_calli (g_V (C := RX4) (T := TX4) (N := 14) (nA := 2) (As := [.int (nI b), .int 4]) (rest := []) F 61 hL.1 (by decide) rfl (c_X4_of h hb (w := 4) (by decide)) gX4_closesNow_X4_of rfl (by decide +kernel) rfl ⟨Nat.le_of_ble_eq_true rfl, Nat.le_of_ble_eq_true rfl⟩ ⟨Nat.le_of_ble_eq_true rfl, Nat.le_of_ble_eq_true rfl⟩ rfl (Nat.le_of_ble_eq_true rfl) dX4_closesNow_13) (fun r_3 u_3 hp_3 => ?_)
    obtain ⟨rfl, rfl⟩ := hp_3
    refine r_aload_n F 0 rfl dX4_closesNow_16 ?_
    refine r_iload_n F 1 rfl dX4_closesNow_17 ?_
    refine r_iconst (v := 3) F (by decide) dX4_closesNow_18 ?_
    refine r_calli (g_V (C := RX4) (T := TX4) (N := 14) (nA := 2) (As := [.int (nI b), .int 3]) (rest := [.int (B b 4)]) F 61 hL.1 (by decide) rfl (c_X4_of h hb (w := 3) (by decide)) gX4_closesNow_X4_of rfl (by decide +kernel) rfl ⟨Nat.le_of_ble_eq_true rfl, Nat.le_of_ble_eq_true rfl⟩ ⟨Nat.le_of_ble_eq_true rfl, Nat.le_of_ble_eq_true rfl⟩ rfl (Nat.le_of_ble_eq_true rfl) dX4_closesNow_19) (fun r_4 u_4 hp_4 => ?_)
    obtain ⟨rfl, rfl⟩ := hp_4
    refine r_icmp_lt F 39 (by decide) dX4_closesNow_22 (fun c_22_5 => ?_) (fun c_22_5 => ?_)
    · skip
      refine r_iconst (v := 0) F (by decide) dX4_closesNow_39 ?_
      exact hret _ _ _ _ _ _ (Nat.le_of_ble_eq_true rfl) (Nat.le_of_ble_eq_true rfl) ⟨by simp [qCN, bI, c_7_2, c_22_5], rfl⟩ dX4_closesNow_40
    · skip
      refine r_aload_n F 0 rfl dX4_closesNow_25 ?_
      refine r_iload_n F 1 rfl dX4_closesNow_26 ?_
      refine r_iconst (v := 4) F (by decide) dX4_closesNow_27 ?_
      refine r_calli (g_V (C := RX4) (T := TX4) (N := 14) (nA := 2) (As := [.int (nI b), .int 4]) (rest := []) F 61 hL.1 (by decide) rfl (c_X4_of h hb (w := 4) (by decide)) gX4_closesNow_X4_of rfl (by decide +kernel) rfl ⟨Nat.le_of_ble_eq_true rfl, Nat.le_of_ble_eq_true rfl⟩ ⟨Nat.le_of_ble_eq_true rfl, Nat.le_of_ble_eq_true rfl⟩ rfl (Nat.le_of_ble_eq_true rfl) dX4_closesNow_28) (fun r_6 u_6 hp_6 => ?_)
      obtain ⟨rfl, rfl⟩ := hp_6
      refine r_iconst (v := -1) F (by decide) dX4_closesNow_31 ?_
      refine r_icmp_eq F 39 (by decide) dX4_closesNow_32 (fun c_32_7 => ?_) (fun c_32_7 => ?_)
      · skip
        refine r_iconst (v := 0) F (by decide) dX4_closesNow_39 ?_
        exact hret _ _ _ _ _ _ (Nat.le_of_ble_eq_true rfl) (Nat.le_of_ble_eq_true rfl) ⟨by simp [qCN, bI, c_7_2, c_22_5, c_32_7], rfl⟩ dX4_closesNow_40
      · skip
        refine r_iconst (v := 1) F (by decide) dX4_closesNow_35 ?_
        refine r_goto F 40 (by decide) dX4_closesNow_36 ?_
        exact hret _ _ _ _ _ _ (Nat.le_of_ble_eq_true rfl) (Nat.le_of_ble_eq_true rfl) ⟨by simp [qCN, bI, c_7_2, c_22_5, c_32_7], rfl⟩ dX4_closesNow_40
set_option maxHeartbeats 4000000 in
set_option maxRecDepth 100000 in
theorem c_X4_wants {g : kG} {l : Launch} {u : Nat → va_E} {th rm sp wr : Int32} {hs : Int64} {VA RD CH WE : Nat → Int32} {n m t : Nat} {B : kB} {S : Nat → kS} {C : Nat → Int32} {b : Nat} {mask : Int32} (h : MdX g u th rm sp wr hs VA RD CH WE n B m S t C) (hb : b < n) : CI g l yX4_wants wsX4_wants ({ frames := 2, cells := 0, slots := 0, locals := 44 }) [.ref (g.2.1 61), .int (nI b), .int mask] u (fun r u' => r = bI (qWts B mask b) ∧ u = u') := by
  refine CI.of (cc := cX4_wants) (nL := 3) (ty := .boolean) (by decide +kernel) rfl (fun v u' h => by obtain ⟨h, -⟩ := h; rw [h]; exact bI_n _) (Nat.le_of_ble_eq_true rfl) ?_
  intro X hXl F hret
  subst hXl
  obtain ⟨Z, SV, BF, hL, hZ, hSV, hBF, hn16, hm6, ht60⟩ := id h
  show VL g X 0 0 u 0 [(0, .ref (g.2.1 61)), (1, .int (nI b)), (2, .int mask)] []
  refine r_aload_n F 0 rfl dX4_wants_0 ?_
  refine r_iload_n F 1 rfl dX4_wants_1 ?_
  refine r_iconst (v := 0) F (by decide) dX4_wants_2 ?_
  refine r_calli (g_V (C := RX4) (T := TX4) (N := 14) (nA := 2) (As := [.int (nI b), .int 0]) (rest := []) F 61 hL.1 (by decide) rfl (c_X4_of h hb (w := 0) (by decide)) gX4_wants_X4_of rfl (by decide +kernel) rfl ⟨Nat.le_of_ble_eq_true rfl, Nat.le_of_ble_eq_true rfl⟩ ⟨Nat.le_of_ble_eq_true rfl, Nat.le_of_ble_eq_true rfl⟩ rfl (Nat.le_of_ble_eq_true rfl) dX4_wants_3) (fun r_1 u_1 hp_1 => ?_)
  obtain ⟨rfl, rfl⟩ := hp_1
  refine r_iconst (v := 3) F (by decide) dX4_wants_6 ?_
  refine r_icmp_eq F 33 (by decide) dX4_wants_7 (fun c_7_2 => ?_) (fun c_7_2 => ?_)
  · skip
    refine r_iconst (v := 0) F (by decide) dX4_wants_33 ?_
    exact hret _ _ _ _ _ _ (Nat.le_of_ble_eq_true rfl) (Nat.le_of_ble_eq_true rfl) ⟨by simp [qWts, qEmp, bI, c_7_2], rfl⟩ dX4_wants_34
  · skip
    refine r_aload_n F 0 rfl dX4_wants_10 ?_
    refine r_iload_n F 1 rfl dX4_wants_11 ?_
    refine r_iconst (v := 4) F (by decide) dX4_wants_12 ?_
    refine r_calli (g_V (C := RX4) (T := TX4) (N := 14) (nA := 2) (As := [.int (nI b), .int 4]) (rest := []) F 61 hL.1 (by decide) rfl (c_X4_of h hb (w := 4) (by decide)) gX4_wants_X4_of rfl (by decide +kernel) rfl ⟨Nat.le_of_ble_eq_true rfl, Nat.le_of_ble_eq_true rfl⟩ ⟨Nat.le_of_ble_eq_true rfl, Nat.le_of_ble_eq_true rfl⟩ rfl (Nat.le_of_ble_eq_true rfl) dX4_wants_13) (fun r_3 u_3 hp_3 => ?_)
    obtain ⟨rfl, rfl⟩ := hp_3
    refine r_iconst (v := -1) F (by decide) dX4_wants_16 ?_
    refine r_icmp_ne F 33 (by decide) dX4_wants_17 (fun c_17_4 => ?_) (fun c_17_4 => ?_)
    · skip
      refine r_iconst (v := 0) F (by decide) dX4_wants_33 ?_
      exact hret _ _ _ _ _ _ (Nat.le_of_ble_eq_true rfl) (Nat.le_of_ble_eq_true rfl) ⟨by simp [qWts, qEmp, bI, c_7_2, c_17_4], rfl⟩ dX4_wants_34
    · skip
      refine r_aload_n F 0 rfl dX4_wants_20 ?_
      refine r_iload_n F 1 rfl dX4_wants_21 ?_
      refine r_iload_n F 2 rfl dX4_wants_22 ?_
      refine r_calli (g_V (C := RX4) (T := TX4) (N := 14) (nA := 2) (As := [.int (nI b), .int mask]) (rest := []) F 61 hL.1 (by decide) rfl (c_X4_isTold h hb) gX4_wants_X4_isTold rfl (by decide +kernel) rfl ⟨Nat.le_of_ble_eq_true rfl, Nat.le_of_ble_eq_true rfl⟩ ⟨Nat.le_of_ble_eq_true rfl, Nat.le_of_ble_eq_true rfl⟩ rfl (Nat.le_of_ble_eq_true rfl) dX4_wants_23) (fun r_5 u_5 hp_5 => ?_)
      obtain ⟨rfl, rfl⟩ := hp_5
      refine r_if_eq F 33 (by decide) dX4_wants_26 (fun c_26_6 => ?_) (fun c_26_6 => ?_)
      · skip
        replace c_26_6 := bI0 c_26_6
        refine r_iconst (v := 0) F (by decide) dX4_wants_33 ?_
        exact hret _ _ _ _ _ _ (Nat.le_of_ble_eq_true rfl) (Nat.le_of_ble_eq_true rfl) ⟨by simp [qWts, qEmp, bI, c_7_2, c_17_4, c_26_6], rfl⟩ dX4_wants_34
      · skip
        replace c_26_6 := bI1 c_26_6
        refine r_iconst (v := 1) F (by decide) dX4_wants_29 ?_
        refine r_goto F 34 (by decide) dX4_wants_30 ?_
        exact hret _ _ _ _ _ _ (Nat.le_of_ble_eq_true rfl) (Nat.le_of_ble_eq_true rfl) ⟨by simp [qWts, qEmp, bI, c_7_2, c_17_4, c_26_6], rfl⟩ dX4_wants_34
set_option maxHeartbeats 4000000 in
set_option maxRecDepth 100000 in
theorem c_X4_isClosed {g : kG} {l : Launch} {u : Nat → va_E} {th rm sp wr : Int32} {hs : Int64} {VA RD CH WE : Nat → Int32} {n m t : Nat} {B : kB} {S : Nat → kS} {C : Nat → Int32} {p mask : Int32} (h : MdX g u th rm sp wr hs VA RD CH WE n B m S t C)  : CI g l yX4_isClosed wsX4_isClosed ({ frames := 2, cells := 0, slots := 0, locals := 44 }) [.ref (g.2.1 61), .int p, .int mask] u (fun r u' => r = bI (skpd B n p mask) ∧ u = u') := by
  refine CI.of (cc := cX4_isClosed) (nL := 5) (ty := .boolean) (by decide +kernel) rfl (fun v u' h => by obtain ⟨h, -⟩ := h; rw [h]; exact bI_n _) (Nat.le_of_ble_eq_true rfl) ?_
  intro X hXl F hret
  subst hXl
  have hinX4 : ∀ w ∈ wsX40, w ∈ wsX4_isClosed := by decide +kernel
  obtain ⟨Z, SV, BF, hL, hZ, hSV, hBF, hn16, hm6, ht60⟩ := id h
  show VL g X 0 0 u 0 [(0, .ref (g.2.1 61)), (1, .int p), (2, .int mask)] []
  refine r_iconst (v := 0) F (by decide) dX4_isClosed_0 ?_
  refine r_istore_n (lv' := [(0, .ref (g.2.1 61)), (1, .int p), (2, .int mask), (3, .int 0)]) F (by decide) rfl dX4_isClosed_1 ?_
  refine r_iconst (v := 0) F (by decide) dX4_isClosed_2 ?_
  refine r_istore (lv' := [(0, .ref (g.2.1 61)), (1, .int p), (2, .int mask), (3, .int 0), (4, .int 0)]) F (by decide) rfl dX4_isClosed_3 ?_
  have loop_5 : ∀ (k : Nat) (j : Nat) (x3_5 : Int32) (x4_5 : Int32), j + k = n → x3_5 = bI (anyN j (qCls B p mask)) → x4_5 = nI j → VL g X 0 0 u 5 [(0, .ref (g.2.1 61)), (1, .int p), (2, .int mask), (3, .int x3_5), (4, .int x4_5)] [] := by
    intro k
    induction k with
    | zero =>
      rintro j x3_5 x4_5 hk rfl rfl
      have hjn : n = j := by omega
      subst hjn
      refine r_iload F 4 rfl dX4_isClosed_5 ?_
      refine r_aload_n F 0 rfl dX4_isClosed_7 ?_
      refine r_get (C := RX4) (T := TX4) (N := 14) F 61 hL.1 (by decide) hinX4 rfl 1 (by decide) (by decide +kernel) rfl dX4_isClosed_8 ?_
      refine r_iconst (v := 0) F (by decide) dX4_isClosed_11 ?_
      refine r_iald F 62 hL.2.1 (by decide) (vp_in_nI (n := 0) (by decide) (by decide)) dX4_isClosed_12 ?_
      refine r_eq (st2 := [.int (nI n), .int (nI n)]) (by rw [show Z (0 : Int32).toNatClampNeg = nI n from hZ.1]) rfl ?_
      refine r_icmp_ge F 62 (by decide) dX4_isClosed_13 (fun c_13_2 => ?_) (fun c_13_2 => absurd (Int32.le_refl _) c_13_2)
      clear c_13_2
      refine r_iload_n F 3 rfl dX4_isClosed_62 ?_
      exact hret _ _ _ _ _ _ (Nat.le_of_ble_eq_true rfl) (Nat.le_of_ble_eq_true rfl) ⟨by rfl, rfl⟩ dX4_isClosed_63
    | succ k ih_5 =>
      rintro j x3_5 x4_5 hk rfl rfl
      have hb : j < n := by omega
      refine r_iload F 4 rfl dX4_isClosed_5 ?_
      refine r_aload_n F 0 rfl dX4_isClosed_7 ?_
      refine r_get (C := RX4) (T := TX4) (N := 14) F 61 hL.1 (by decide) hinX4 rfl 1 (by decide) (by decide +kernel) rfl dX4_isClosed_8 ?_
      refine r_iconst (v := 0) F (by decide) dX4_isClosed_11 ?_
      refine r_iald F 62 hL.2.1 (by decide) (vp_in_nI (n := 0) (by decide) (by decide)) dX4_isClosed_12 ?_
      refine r_eq (st2 := [.int (nI n), .int (nI j)]) (by rw [show Z (0 : Int32).toNatClampNeg = nI n from hZ.1]) rfl ?_
      refine r_icmp_ge F 62 (by decide) dX4_isClosed_13 (fun c_13_3 => absurd c_13_3 (nI_ge (b := n) hb (by have := hn16; omega))) (fun c_13_3 => ?_)
      clear c_13_3
      refine r_iload_n F 3 rfl dX4_isClosed_16 ?_
      refine r_if_ne F 50 (by decide) dX4_isClosed_17 (fun c_17_4 => ?_) (fun c_17_4 => ?_)
      · skip
        replace c_17_4 := bI1 c_17_4
        refine r_iconst (v := 1) F (by decide) dX4_isClosed_50 ?_
        refine r_goto F 55 (by decide) dX4_isClosed_51 ?_
        refine r_istore_n (lv' := [(0, .ref (g.2.1 61)), (1, .int p), (2, .int mask), (3, .int 1), (4, .int (nI j))]) F (by decide) rfl dX4_isClosed_55 ?_
        refine r_iinc (lv' := [(0, .ref (g.2.1 61)), (1, .int p), (2, .int mask), (3, .int 1), (4, .int (nI (j + 1)))]) F 4 rfl (nI_inc _) (by decide) rfl dX4_isClosed_56 ?_
        refine r_goto F 5 (by decide) dX4_isClosed_59 ?_
        exact ih_5 (j + 1) _ _ (by omega)  (by simp [anyN, qCls_m, bI, c_17_4]) rfl
      · skip
        replace c_17_4 := bI0 c_17_4
        refine r_aload_n F 0 rfl dX4_isClosed_20 ?_
        refine r_iload F 4 rfl dX4_isClosed_21 ?_
        refine r_calli (g_V (C := RX4) (T := TX4) (N := 14) (nA := 1) (As := [.int (nI j)]) (rest := []) F 61 hL.1 (by decide) rfl (c_X4_closesNow h hb) gX4_isClosed_X4_closesNow rfl (by decide +kernel) rfl ⟨Nat.le_of_ble_eq_true rfl, Nat.le_of_ble_eq_true rfl⟩ ⟨Nat.le_of_ble_eq_true rfl, Nat.le_of_ble_eq_true rfl⟩ rfl (Nat.le_of_ble_eq_true rfl) dX4_isClosed_23) (fun r_5 u_5 hp_5 => ?_)
        obtain ⟨rfl, rfl⟩ := hp_5
        refine r_if_eq F 54 (by decide) dX4_isClosed_26 (fun c_26_6 => ?_) (fun c_26_6 => ?_)
        · skip
          replace c_26_6 := bI0 c_26_6
          refine r_iconst (v := 0) F (by decide) dX4_isClosed_54 ?_
          refine r_istore_n (lv' := [(0, .ref (g.2.1 61)), (1, .int p), (2, .int mask), (3, .int 0), (4, .int (nI j))]) F (by decide) rfl dX4_isClosed_55 ?_
          refine r_iinc (lv' := [(0, .ref (g.2.1 61)), (1, .int p), (2, .int mask), (3, .int 0), (4, .int (nI (j + 1)))]) F 4 rfl (nI_inc _) (by decide) rfl dX4_isClosed_56 ?_
          refine r_goto F 5 (by decide) dX4_isClosed_59 ?_
          exact ih_5 (j + 1) _ _ (by omega)  (by simp [anyN, qCls_m, bI, c_17_4, c_26_6]) rfl
        · skip
          replace c_26_6 := bI1 c_26_6
          refine r_aload_n F 0 rfl dX4_isClosed_29 ?_
          refine r_iload F 4 rfl dX4_isClosed_30 ?_
          refine r_iconst (v := 2) F (by decide) dX4_isClosed_32 ?_
          refine r_calli (g_V (C := RX4) (T := TX4) (N := 14) (nA := 2) (As := [.int (nI j), .int 2]) (rest := []) F 61 hL.1 (by decide) rfl (c_X4_of h hb (w := 2) (by decide)) gX4_isClosed_X4_of rfl (by decide +kernel) rfl ⟨Nat.le_of_ble_eq_true rfl, Nat.le_of_ble_eq_true rfl⟩ ⟨Nat.le_of_ble_eq_true rfl, Nat.le_of_ble_eq_true rfl⟩ rfl (Nat.le_of_ble_eq_true rfl) dX4_isClosed_33) (fun r_7 u_7 hp_7 => ?_)
          obtain ⟨rfl, rfl⟩ := hp_7
          refine r_iload_n F 1 rfl dX4_isClosed_36 ?_
          refine r_icmp_ne F 54 (by decide) dX4_isClosed_37 (fun c_37_8 => ?_) (fun c_37_8 => ?_)
          · skip
            refine r_iconst (v := 0) F (by decide) dX4_isClosed_54 ?_
            refine r_istore_n (lv' := [(0, .ref (g.2.1 61)), (1, .int p), (2, .int mask), (3, .int 0), (4, .int (nI j))]) F (by decide) rfl dX4_isClosed_55 ?_
            refine r_iinc (lv' := [(0, .ref (g.2.1 61)), (1, .int p), (2, .int mask), (3, .int 0), (4, .int (nI (j + 1)))]) F 4 rfl (nI_inc _) (by decide) rfl dX4_isClosed_56 ?_
            refine r_goto F 5 (by decide) dX4_isClosed_59 ?_
            exact ih_5 (j + 1) _ _ (by omega)  (by simp [anyN, qCls_m, bI, c_17_4, c_26_6, c_37_8]) rfl
          · skip
            refine r_aload_n F 0 rfl dX4_isClosed_40 ?_
            refine r_iload F 4 rfl dX4_isClosed_41 ?_
            refine r_iload_n F 2 rfl dX4_isClosed_43 ?_
            refine r_calli (g_V (C := RX4) (T := TX4) (N := 14) (nA := 2) (As := [.int (nI j), .int mask]) (rest := []) F 61 hL.1 (by decide) rfl (c_X4_isTold h hb) gX4_isClosed_X4_isTold rfl (by decide +kernel) rfl ⟨Nat.le_of_ble_eq_true rfl, Nat.le_of_ble_eq_true rfl⟩ ⟨Nat.le_of_ble_eq_true rfl, Nat.le_of_ble_eq_true rfl⟩ rfl (Nat.le_of_ble_eq_true rfl) dX4_isClosed_44) (fun r_9 u_9 hp_9 => ?_)
            obtain ⟨rfl, rfl⟩ := hp_9
            refine r_if_eq F 54 (by decide) dX4_isClosed_47 (fun c_47_10 => ?_) (fun c_47_10 => ?_)
            · skip
              replace c_47_10 := bI0 c_47_10
              refine r_iconst (v := 0) F (by decide) dX4_isClosed_54 ?_
              refine r_istore_n (lv' := [(0, .ref (g.2.1 61)), (1, .int p), (2, .int mask), (3, .int 0), (4, .int (nI j))]) F (by decide) rfl dX4_isClosed_55 ?_
              refine r_iinc (lv' := [(0, .ref (g.2.1 61)), (1, .int p), (2, .int mask), (3, .int 0), (4, .int (nI (j + 1)))]) F 4 rfl (nI_inc _) (by decide) rfl dX4_isClosed_56 ?_
              refine r_goto F 5 (by decide) dX4_isClosed_59 ?_
              exact ih_5 (j + 1) _ _ (by omega)  (by simp [anyN, qCls_m, bI, c_17_4, c_26_6, c_37_8, c_47_10]) rfl
            · skip
              replace c_47_10 := bI1 c_47_10
              refine r_iconst (v := 1) F (by decide) dX4_isClosed_50 ?_
              refine r_goto F 55 (by decide) dX4_isClosed_51 ?_
              refine r_istore_n (lv' := [(0, .ref (g.2.1 61)), (1, .int p), (2, .int mask), (3, .int 1), (4, .int (nI j))]) F (by decide) rfl dX4_isClosed_55 ?_
              refine r_iinc (lv' := [(0, .ref (g.2.1 61)), (1, .int p), (2, .int mask), (3, .int 1), (4, .int (nI (j + 1)))]) F 4 rfl (nI_inc _) (by decide) rfl dX4_isClosed_56 ?_
              refine r_goto F 5 (by decide) dX4_isClosed_59 ?_
              exact ih_5 (j + 1) _ _ (by omega)  (by simp [anyN, qCls_m, bI, c_17_4, c_26_6, c_37_8, c_47_10]) rfl
  exact loop_5 n 0 _ _ (by omega)  rfl rfl
set_option maxHeartbeats 4000000 in
set_option maxRecDepth 100000 in
theorem c_X4_isOpened {g : kG} {l : Launch} {u : Nat → va_E} {th rm sp wr : Int32} {hs : Int64} {VA RD CH WE : Nat → Int32} {n m t : Nat} {B : kB} {S : Nat → kS} {C : Nat → Int32} {p mask : Int32} (h : MdX g u th rm sp wr hs VA RD CH WE n B m S t C)  : CI g l yX4_isOpened wsX4_isOpened ({ frames := 2, cells := 0, slots := 0, locals := 44 }) [.ref (g.2.1 61), .int p, .int mask] u (fun r u' => r = bI (tikd B n p mask) ∧ u = u') := by
  refine CI.of (cc := cX4_isOpened) (nL := 6) (ty := .boolean) (by decide +kernel) rfl (fun v u' h => by obtain ⟨h, -⟩ := h; rw [h]; exact bI_n _) (Nat.le_of_ble_eq_true rfl) ?_
  intro X hXl F hret
  subst hXl
  have hinX4 : ∀ w ∈ wsX40, w ∈ wsX4_isOpened := by decide +kernel
  obtain ⟨Z, SV, BF, hL, hZ, hSV, hBF, hn16, hm6, ht60⟩ := id h
  show VL g X 0 0 u 0 [(0, .ref (g.2.1 61)), (1, .int p), (2, .int mask)] []
  refine r_iconst (v := 0) F (by decide) dX4_isOpened_0 ?_
  refine r_istore_n (lv' := [(0, .ref (g.2.1 61)), (1, .int p), (2, .int mask), (3, .int 0)]) F (by decide) rfl dX4_isOpened_1 ?_
  refine r_iconst (v := 0) F (by decide) dX4_isOpened_2 ?_
  refine r_istore (lv' := [(0, .ref (g.2.1 61)), (1, .int p), (2, .int mask), (3, .int 0), (4, .int 0)]) F (by decide) rfl dX4_isOpened_3 ?_
  refine r_iconst (v := 0) F (by decide) dX4_isOpened_5 ?_
  refine r_istore (lv' := [(0, .ref (g.2.1 61)), (1, .int p), (2, .int mask), (3, .int 0), (4, .int 0), (5, .int 0)]) F (by decide) rfl dX4_isOpened_6 ?_
  have loop_8 : ∀ (k : Nat) (j : Nat) (x3_8 : Int32) (x4_8 : Int32) (x5_8 : Int32), j + k = n → x3_8 = bI (anyN j (qTik B p mask)) → x4_8 = bI (anyN j (qFor B 1 p)) → x5_8 = nI j → VL g X 0 0 u 8 [(0, .ref (g.2.1 61)), (1, .int p), (2, .int mask), (3, .int x3_8), (4, .int x4_8), (5, .int x5_8)] [] := by
    intro k
    induction k with
    | zero =>
      rintro j x3_8 x4_8 x5_8 hk rfl rfl rfl
      have hjn : n = j := by omega
      subst hjn
      refine r_iload F 5 rfl dX4_isOpened_8 ?_
      refine r_aload_n F 0 rfl dX4_isOpened_10 ?_
      refine r_get (C := RX4) (T := TX4) (N := 14) F 61 hL.1 (by decide) hinX4 rfl 1 (by decide) (by decide +kernel) rfl dX4_isOpened_11 ?_
      refine r_iconst (v := 0) F (by decide) dX4_isOpened_14 ?_
      refine r_iald F 62 hL.2.1 (by decide) (vp_in_nI (n := 0) (by decide) (by decide)) dX4_isOpened_15 ?_
      refine r_eq (st2 := [.int (nI n), .int (nI n)]) (by rw [show Z (0 : Int32).toNatClampNeg = nI n from hZ.1]) rfl ?_
      refine r_icmp_ge F 81 (by decide) dX4_isOpened_16 (fun c_16_2 => ?_) (fun c_16_2 => absurd (Int32.le_refl _) c_16_2)
      clear c_16_2
      refine r_iload_n F 3 rfl dX4_isOpened_81 ?_
      refine r_if_ne F 90 (by decide) dX4_isOpened_82 (fun c_82_3 => ?_) (fun c_82_3 => ?_)
      · skip
        replace c_82_3 := bI1 c_82_3
        refine r_iconst (v := 1) F (by decide) dX4_isOpened_90 ?_
        refine r_goto F 95 (by decide) dX4_isOpened_91 ?_
        exact hret _ _ _ _ _ _ (Nat.le_of_ble_eq_true rfl) (Nat.le_of_ble_eq_true rfl) ⟨by simp [tikd, bI, c_82_3], rfl⟩ dX4_isOpened_95
      · skip
        replace c_82_3 := bI0 c_82_3
        refine r_iload F 4 rfl dX4_isOpened_85 ?_
        refine r_if_ne F 94 (by decide) dX4_isOpened_87 (fun c_87_4 => ?_) (fun c_87_4 => ?_)
        · skip
          replace c_87_4 := bI1 c_87_4
          refine r_iconst (v := 0) F (by decide) dX4_isOpened_94 ?_
          exact hret _ _ _ _ _ _ (Nat.le_of_ble_eq_true rfl) (Nat.le_of_ble_eq_true rfl) ⟨by simp [tikd, bI, c_82_3, c_87_4], rfl⟩ dX4_isOpened_95
        · skip
          replace c_87_4 := bI0 c_87_4
          refine r_iconst (v := 1) F (by decide) dX4_isOpened_90 ?_
          refine r_goto F 95 (by decide) dX4_isOpened_91 ?_
          exact hret _ _ _ _ _ _ (Nat.le_of_ble_eq_true rfl) (Nat.le_of_ble_eq_true rfl) ⟨by simp [tikd, bI, c_82_3, c_87_4], rfl⟩ dX4_isOpened_95
    | succ k ih_8 =>
      rintro j x3_8 x4_8 x5_8 hk rfl rfl rfl
      have hb : j < n := by omega
      refine r_iload F 5 rfl dX4_isOpened_8 ?_
      refine r_aload_n F 0 rfl dX4_isOpened_10 ?_
      refine r_get (C := RX4) (T := TX4) (N := 14) F 61 hL.1 (by decide) hinX4 rfl 1 (by decide) (by decide +kernel) rfl dX4_isOpened_11 ?_
      refine r_iconst (v := 0) F (by decide) dX4_isOpened_14 ?_
      refine r_iald F 62 hL.2.1 (by decide) (vp_in_nI (n := 0) (by decide) (by decide)) dX4_isOpened_15 ?_
      refine r_eq (st2 := [.int (nI n), .int (nI j)]) (by rw [show Z (0 : Int32).toNatClampNeg = nI n from hZ.1]) rfl ?_
      refine r_icmp_ge F 81 (by decide) dX4_isOpened_16 (fun c_16_5 => absurd c_16_5 (nI_ge (b := n) hb (by have := hn16; omega))) (fun c_16_5 => ?_)
      clear c_16_5
      refine r_aload_n F 0 rfl dX4_isOpened_19 ?_
      refine r_iload F 5 rfl dX4_isOpened_20 ?_
      refine r_iconst (v := 0) F (by decide) dX4_isOpened_22 ?_
      refine r_calli (g_V (C := RX4) (T := TX4) (N := 14) (nA := 2) (As := [.int (nI j), .int 0]) (rest := []) F 61 hL.1 (by decide) rfl (c_X4_of h hb (w := 0) (by decide)) gX4_isOpened_X4_of rfl (by decide +kernel) rfl ⟨Nat.le_of_ble_eq_true rfl, Nat.le_of_ble_eq_true rfl⟩ ⟨Nat.le_of_ble_eq_true rfl, Nat.le_of_ble_eq_true rfl⟩ rfl (Nat.le_of_ble_eq_true rfl) dX4_isOpened_23) (fun r_6 u_6 hp_6 => ?_)
      obtain ⟨rfl, rfl⟩ := hp_6
      refine r_iconst (v := 1) F (by decide) dX4_isOpened_26 ?_
      refine r_icmp_ne F 75 (by decide) dX4_isOpened_27 (fun c_27_7 => ?_) (fun c_27_7 => ?_)
      · skip
        refine r_iinc (lv' := [(0, .ref (g.2.1 61)), (1, .int p), (2, .int mask), (3, .int (bI (anyN j (qTik B p mask)))), (4, .int (bI (anyN j (qFor B 1 p)))), (5, .int (nI (j + 1)))]) F 5 rfl (nI_inc _) (by decide) rfl dX4_isOpened_75 ?_
        refine r_goto F 8 (by decide) dX4_isOpened_78 ?_
        exact ih_8 (j + 1) _ _ _ (by omega)  (by simp [anyN, qTik, qFor, bI, c_27_7]) (by simp [anyN, qFor, bI, c_27_7]) rfl
      · skip
        refine r_aload_n F 0 rfl dX4_isOpened_30 ?_
        refine r_iload F 5 rfl dX4_isOpened_31 ?_
        refine r_iconst (v := 2) F (by decide) dX4_isOpened_33 ?_
        refine r_calli (g_V (C := RX4) (T := TX4) (N := 14) (nA := 2) (As := [.int (nI j), .int 2]) (rest := []) F 61 hL.1 (by decide) rfl (c_X4_of h hb (w := 2) (by decide)) gX4_isOpened_X4_of rfl (by decide +kernel) rfl ⟨Nat.le_of_ble_eq_true rfl, Nat.le_of_ble_eq_true rfl⟩ ⟨Nat.le_of_ble_eq_true rfl, Nat.le_of_ble_eq_true rfl⟩ rfl (Nat.le_of_ble_eq_true rfl) dX4_isOpened_34) (fun r_8 u_8 hp_8 => ?_)
        obtain ⟨rfl, rfl⟩ := hp_8
        refine r_iload_n F 1 rfl dX4_isOpened_37 ?_
        refine r_icmp_ne F 75 (by decide) dX4_isOpened_38 (fun c_38_9 => ?_) (fun c_38_9 => ?_)
        · skip
          refine r_iinc (lv' := [(0, .ref (g.2.1 61)), (1, .int p), (2, .int mask), (3, .int (bI (anyN j (qTik B p mask)))), (4, .int (bI (anyN j (qFor B 1 p)))), (5, .int (nI (j + 1)))]) F 5 rfl (nI_inc _) (by decide) rfl dX4_isOpened_75 ?_
          refine r_goto F 8 (by decide) dX4_isOpened_78 ?_
          exact ih_8 (j + 1) _ _ _ (by omega)  (by simp [anyN, qTik, qFor, bI, c_27_7, c_38_9]) (by simp [anyN, qFor, bI, c_27_7, c_38_9]) rfl
        · skip
          refine r_iconst (v := 1) F (by decide) dX4_isOpened_41 ?_
          refine r_istore (lv' := [(0, .ref (g.2.1 61)), (1, .int p), (2, .int mask), (3, .int (bI (anyN j (qTik B p mask)))), (4, .int 1), (5, .int (nI j))]) F (by decide) rfl dX4_isOpened_42 ?_
          refine r_iload_n F 3 rfl dX4_isOpened_44 ?_
          refine r_if_ne F 69 (by decide) dX4_isOpened_45 (fun c_45_10 => ?_) (fun c_45_10 => ?_)
          · skip
            replace c_45_10 := bI1 c_45_10
            refine r_iconst (v := 1) F (by decide) dX4_isOpened_69 ?_
            refine r_goto F 74 (by decide) dX4_isOpened_70 ?_
            refine r_istore_n (lv' := [(0, .ref (g.2.1 61)), (1, .int p), (2, .int mask), (3, .int 1), (4, .int 1), (5, .int (nI j))]) F (by decide) rfl dX4_isOpened_74 ?_
            refine r_iinc (lv' := [(0, .ref (g.2.1 61)), (1, .int p), (2, .int mask), (3, .int 1), (4, .int 1), (5, .int (nI (j + 1)))]) F 5 rfl (nI_inc _) (by decide) rfl dX4_isOpened_75 ?_
            refine r_goto F 8 (by decide) dX4_isOpened_78 ?_
            exact ih_8 (j + 1) _ _ _ (by omega)  (by simp [anyN, qTik, qFor, bI, c_27_7, c_38_9, c_45_10]) (by simp [anyN, qFor, bI, c_27_7, c_38_9, c_45_10]) rfl
          · skip
            replace c_45_10 := bI0 c_45_10
            refine r_aload_n F 0 rfl dX4_isOpened_48 ?_
            refine r_iload F 5 rfl dX4_isOpened_49 ?_
            refine r_iconst (v := 4) F (by decide) dX4_isOpened_51 ?_
            refine r_calli (g_V (C := RX4) (T := TX4) (N := 14) (nA := 2) (As := [.int (nI j), .int 4]) (rest := []) F 61 hL.1 (by decide) rfl (c_X4_of h hb (w := 4) (by decide)) gX4_isOpened_X4_of rfl (by decide +kernel) rfl ⟨Nat.le_of_ble_eq_true rfl, Nat.le_of_ble_eq_true rfl⟩ ⟨Nat.le_of_ble_eq_true rfl, Nat.le_of_ble_eq_true rfl⟩ rfl (Nat.le_of_ble_eq_true rfl) dX4_isOpened_52) (fun r_11 u_11 hp_11 => ?_)
            obtain ⟨rfl, rfl⟩ := hp_11
            refine r_iconst (v := 1) F (by decide) dX4_isOpened_55 ?_
            refine r_icmp_ne F 73 (by decide) dX4_isOpened_56 (fun c_56_12 => ?_) (fun c_56_12 => ?_)
            · skip
              refine r_iconst (v := 0) F (by decide) dX4_isOpened_73 ?_
              refine r_istore_n (lv' := [(0, .ref (g.2.1 61)), (1, .int p), (2, .int mask), (3, .int 0), (4, .int 1), (5, .int (nI j))]) F (by decide) rfl dX4_isOpened_74 ?_
              refine r_iinc (lv' := [(0, .ref (g.2.1 61)), (1, .int p), (2, .int mask), (3, .int 0), (4, .int 1), (5, .int (nI (j + 1)))]) F 5 rfl (nI_inc _) (by decide) rfl dX4_isOpened_75 ?_
              refine r_goto F 8 (by decide) dX4_isOpened_78 ?_
              exact ih_8 (j + 1) _ _ _ (by omega)  (by simp [anyN, qTik, qFor, bI, c_27_7, c_38_9, c_45_10, c_56_12]) (by simp [anyN, qFor, bI, c_27_7, c_38_9, c_45_10, c_56_12]) rfl
            · skip
              refine r_aload_n F 0 rfl dX4_isOpened_59 ?_
              refine r_iload F 5 rfl dX4_isOpened_60 ?_
              refine r_iload_n F 2 rfl dX4_isOpened_62 ?_
              refine r_calli (g_V (C := RX4) (T := TX4) (N := 14) (nA := 2) (As := [.int (nI j), .int mask]) (rest := []) F 61 hL.1 (by decide) rfl (c_X4_isTold h hb) gX4_isOpened_X4_isTold rfl (by decide +kernel) rfl ⟨Nat.le_of_ble_eq_true rfl, Nat.le_of_ble_eq_true rfl⟩ ⟨Nat.le_of_ble_eq_true rfl, Nat.le_of_ble_eq_true rfl⟩ rfl (Nat.le_of_ble_eq_true rfl) dX4_isOpened_63) (fun r_13 u_13 hp_13 => ?_)
              obtain ⟨rfl, rfl⟩ := hp_13
              refine r_if_eq F 73 (by decide) dX4_isOpened_66 (fun c_66_14 => ?_) (fun c_66_14 => ?_)
              · skip
                replace c_66_14 := bI0 c_66_14
                refine r_iconst (v := 0) F (by decide) dX4_isOpened_73 ?_
                refine r_istore_n (lv' := [(0, .ref (g.2.1 61)), (1, .int p), (2, .int mask), (3, .int 0), (4, .int 1), (5, .int (nI j))]) F (by decide) rfl dX4_isOpened_74 ?_
                refine r_iinc (lv' := [(0, .ref (g.2.1 61)), (1, .int p), (2, .int mask), (3, .int 0), (4, .int 1), (5, .int (nI (j + 1)))]) F 5 rfl (nI_inc _) (by decide) rfl dX4_isOpened_75 ?_
                refine r_goto F 8 (by decide) dX4_isOpened_78 ?_
                exact ih_8 (j + 1) _ _ _ (by omega)  (by simp [anyN, qTik, qFor, bI, c_27_7, c_38_9, c_45_10, c_56_12, c_66_14]) (by simp [anyN, qFor, bI, c_27_7, c_38_9, c_45_10, c_56_12, c_66_14]) rfl
              · skip
                replace c_66_14 := bI1 c_66_14
                refine r_iconst (v := 1) F (by decide) dX4_isOpened_69 ?_
                refine r_goto F 74 (by decide) dX4_isOpened_70 ?_
                refine r_istore_n (lv' := [(0, .ref (g.2.1 61)), (1, .int p), (2, .int mask), (3, .int 1), (4, .int 1), (5, .int (nI j))]) F (by decide) rfl dX4_isOpened_74 ?_
                refine r_iinc (lv' := [(0, .ref (g.2.1 61)), (1, .int p), (2, .int mask), (3, .int 1), (4, .int 1), (5, .int (nI (j + 1)))]) F 5 rfl (nI_inc _) (by decide) rfl dX4_isOpened_75 ?_
                refine r_goto F 8 (by decide) dX4_isOpened_78 ?_
                exact ih_8 (j + 1) _ _ _ (by omega)  (by simp [anyN, qTik, qFor, bI, c_27_7, c_38_9, c_45_10, c_56_12, c_66_14]) (by simp [anyN, qFor, bI, c_27_7, c_38_9, c_45_10, c_56_12, c_66_14]) rfl
  exact loop_8 n 0 _ _ _ (by omega)  rfl rfl rfl
set_option maxHeartbeats 4000000 in
set_option maxRecDepth 100000 in
theorem c_X4_open {g : kG} {l : Launch} {u : Nat → va_E} {th rm sp wr : Int32} {hs : Int64} {VA RD CH WE : Nat → Int32} {n m t : Nat} {B : kB} {S : Nat → kS} {C : Nat → Int32}  (h : MdX g u th rm sp wr hs VA RD CH WE n B m S t C)  : CI g l yX4_open wsX4_open ({ frames := 3, cells := 0, slots := 0, locals := 69 }) [.ref (g.2.1 61)] u (fun r u' => r = opm B n ∧ u = u') := by
  refine CI.of (cc := cX4_open) (nL := 3) (ty := .int) (by decide +kernel) rfl (fun _ _ _ => rfl) (Nat.le_of_ble_eq_true rfl) ?_
  intro X hXl F hret
  subst hXl
  obtain ⟨Z, SV, BF, hL, hZ, hSV, hBF, hn16, hm6, ht60⟩ := id h
  show VL g X 0 0 u 0 [(0, .ref (g.2.1 61))] []
  refine r_iconst (v := 1) F (by decide) dX4_open_0 ?_
  refine r_istore_n (lv' := [(0, .ref (g.2.1 61)), (1, .int 1)]) F (by decide) rfl dX4_open_1 ?_
  refine r_iconst (v := 1) F (by decide) dX4_open_2 ?_
  refine r_istore_n (lv' := [(0, .ref (g.2.1 61)), (1, .int 1), (2, .int 1)]) F (by decide) rfl dX4_open_3 ?_
  have loop_4 : ∀ (k : Nat) (j : Nat) (x1_4 : Int32) (x2_4 : Int32), j + k = 5 → 1 ≤ j → x1_4 = opmN B n j → x2_4 = nI j → VL g X 0 0 u 4 [(0, .ref (g.2.1 61)), (1, .int x1_4), (2, .int x2_4)] [] := by
    intro k
    induction k with
    | zero =>
      rintro j x1_4 x2_4 hk hj1 rfl rfl
      have hjn : 5 = j := by omega
      subst hjn
      refine r_iload_n F 2 rfl dX4_open_4 ?_
      refine r_iconst (v := 5) F (by decide) dX4_open_5 ?_
      refine r_icmp_ge F 43 (by decide) dX4_open_6 (fun c_6_2 => ?_) (fun c_6_2 => absurd (Int32.le_refl _) c_6_2)
      clear c_6_2
      refine r_iload_n F 1 rfl dX4_open_43 ?_
      exact hret _ _ _ _ _ _ (Nat.le_of_ble_eq_true rfl) (Nat.le_of_ble_eq_true rfl) ⟨by rfl, rfl⟩ dX4_open_44
    | succ k ih_4 =>
      rintro j x1_4 x2_4 hk hj1 rfl rfl
      have hb : j < 5 := by omega
      refine r_iload_n F 2 rfl dX4_open_4 ?_
      refine r_iconst (v := 5) F (by decide) dX4_open_5 ?_
      refine r_icmp_ge F 43 (by decide) dX4_open_6 (fun c_6_3 => absurd c_6_3 (nI_ge (b := 5) hb (by decide))) (fun c_6_3 => ?_)
      clear c_6_3
      refine r_iload_n F 1 rfl dX4_open_9 ?_
      refine r_aload_n F 0 rfl dX4_open_10 ?_
      refine r_iload_n F 2 rfl dX4_open_11 ?_
      refine r_iload_n F 1 rfl dX4_open_12 ?_
      refine r_calli (g_V (C := RX4) (T := TX4) (N := 14) (nA := 2) (As := [.int (nI j), .int (opmN B n j)]) (rest := [.int (opmN B n j)]) F 61 hL.1 (by decide) rfl (c_X4_isOpened h ) gX4_open_X4_isOpened rfl (by decide +kernel) rfl ⟨Nat.le_of_ble_eq_true rfl, Nat.le_of_ble_eq_true rfl⟩ ⟨Nat.le_of_ble_eq_true rfl, Nat.le_of_ble_eq_true rfl⟩ rfl (Nat.le_of_ble_eq_true rfl) dX4_open_13) (fun r_4 u_4 hp_4 => ?_)
      obtain ⟨rfl, rfl⟩ := hp_4
      refine r_if_eq F 34 (by decide) dX4_open_16 (fun c_16_5 => ?_) (fun c_16_5 => ?_)
      · skip
        replace c_16_5 := bI0 c_16_5
        refine r_iconst (v := 0) F (by decide) dX4_open_34 ?_
        refine r_ior F dX4_open_35 ?_
        refine r_istore_n (lv' := [(0, .ref (g.2.1 61)), (1, .int ((opmN B n j) ||| 0)), (2, .int (nI j))]) F (by decide) rfl dX4_open_36 ?_
        refine r_iinc (lv' := [(0, .ref (g.2.1 61)), (1, .int ((opmN B n j) ||| 0)), (2, .int (nI (j + 1)))]) F 2 rfl (nI_inc _) (by decide) rfl dX4_open_37 ?_
        refine r_goto F 4 (by decide) dX4_open_40 ?_
        exact ih_4 (j + 1) _ _ (by omega) (by omega) (by simp [opmN, Int32.or_zero, show ¬ j = 0 by omega, c_16_5]) rfl
      · skip
        replace c_16_5 := bI1 c_16_5
        refine r_aload_n F 0 rfl dX4_open_19 ?_
        refine r_iload_n F 2 rfl dX4_open_20 ?_
        refine r_iload_n F 1 rfl dX4_open_21 ?_
        refine r_calli (g_V (C := RX4) (T := TX4) (N := 14) (nA := 2) (As := [.int (nI j), .int (opmN B n j)]) (rest := [.int (opmN B n j)]) F 61 hL.1 (by decide) rfl (c_X4_isClosed h ) gX4_open_X4_isClosed rfl (by decide +kernel) rfl ⟨Nat.le_of_ble_eq_true rfl, Nat.le_of_ble_eq_true rfl⟩ ⟨Nat.le_of_ble_eq_true rfl, Nat.le_of_ble_eq_true rfl⟩ rfl (Nat.le_of_ble_eq_true rfl) dX4_open_22) (fun r_6 u_6 hp_6 => ?_)
        obtain ⟨rfl, rfl⟩ := hp_6
        refine r_if_ne F 34 (by decide) dX4_open_25 (fun c_25_7 => ?_) (fun c_25_7 => ?_)
        · skip
          replace c_25_7 := bI1 c_25_7
          refine r_iconst (v := 0) F (by decide) dX4_open_34 ?_
          refine r_ior F dX4_open_35 ?_
          refine r_istore_n (lv' := [(0, .ref (g.2.1 61)), (1, .int ((opmN B n j) ||| 0)), (2, .int (nI j))]) F (by decide) rfl dX4_open_36 ?_
          refine r_iinc (lv' := [(0, .ref (g.2.1 61)), (1, .int ((opmN B n j) ||| 0)), (2, .int (nI (j + 1)))]) F 2 rfl (nI_inc _) (by decide) rfl dX4_open_37 ?_
          refine r_goto F 4 (by decide) dX4_open_40 ?_
          exact ih_4 (j + 1) _ _ (by omega) (by omega) (by simp [opmN, Int32.or_zero, show ¬ j = 0 by omega, c_16_5, c_25_7]) rfl
        · skip
          replace c_25_7 := bI0 c_25_7
          refine r_iconst (v := 1) F (by decide) dX4_open_28 ?_
          refine r_iload_n F 2 rfl dX4_open_29 ?_
          refine r_ishl F dX4_open_30 ?_
          refine r_goto F 35 (by decide) dX4_open_31 ?_
          refine r_ior F dX4_open_35 ?_
          refine r_istore_n (lv' := [(0, .ref (g.2.1 61)), (1, .int ((opmN B n j) ||| ((1 : Int32) <<< ((nI j) &&& 31)))), (2, .int (nI j))]) F (by decide) rfl dX4_open_36 ?_
          refine r_iinc (lv' := [(0, .ref (g.2.1 61)), (1, .int ((opmN B n j) ||| ((1 : Int32) <<< ((nI j) &&& 31)))), (2, .int (nI (j + 1)))]) F 2 rfl (nI_inc _) (by decide) rfl dX4_open_37 ?_
          refine r_goto F 4 (by decide) dX4_open_40 ?_
          exact ih_4 (j + 1) _ _ (by omega) (by omega) (by simp [opmN, Int32.or_zero, show ¬ j = 0 by omega, c_16_5, c_25_7]) rfl
  exact loop_4 (5 - (1)) 1 _ _ (by omega) (by omega) rfl rfl
set_option maxHeartbeats 4000000 in
set_option maxRecDepth 100000 in
theorem c_X4_wanting {g : kG} {l : Launch} {u : Nat → va_E} {th rm sp wr : Int32} {hs : Int64} {VA RD CH WE : Nat → Int32} {n m t : Nat} {B : kB} {S : Nat → kS} {C : Nat → Int32} {mask : Int32} (h : MdX g u th rm sp wr hs VA RD CH WE n B m S t C)  : CI g l yX4_wanting wsX4_wanting ({ frames := 3, cells := 0, slots := 0, locals := 66 }) [.ref (g.2.1 61), .int mask] u (fun r u' => r = cntN n (qWts B mask) ∧ u = u') := by
  refine CI.of (cc := cX4_wanting) (nL := 4) (ty := .int) (by decide +kernel) rfl (fun _ _ _ => rfl) (Nat.le_of_ble_eq_true rfl) ?_
  intro X hXl F hret
  subst hXl
  have hinX4 : ∀ w ∈ wsX40, w ∈ wsX4_wanting := by decide +kernel
  obtain ⟨Z, SV, BF, hL, hZ, hSV, hBF, hn16, hm6, ht60⟩ := id h
  show VL g X 0 0 u 0 [(0, .ref (g.2.1 61)), (1, .int mask)] []
  refine r_iconst (v := 0) F (by decide) dX4_wanting_0 ?_
  refine r_istore_n (lv' := [(0, .ref (g.2.1 61)), (1, .int mask), (2, .int 0)]) F (by decide) rfl dX4_wanting_1 ?_
  refine r_iconst (v := 0) F (by decide) dX4_wanting_2 ?_
  refine r_istore_n (lv' := [(0, .ref (g.2.1 61)), (1, .int mask), (2, .int 0), (3, .int 0)]) F (by decide) rfl dX4_wanting_3 ?_
  have loop_4 : ∀ (k : Nat) (j : Nat) (x2_4 : Int32) (x3_4 : Int32), j + k = n → x2_4 = cntN j (qWts B mask) → x3_4 = nI j → VL g X 0 0 u 4 [(0, .ref (g.2.1 61)), (1, .int mask), (2, .int x2_4), (3, .int x3_4)] [] := by
    intro k
    induction k with
    | zero =>
      rintro j x2_4 x3_4 hk rfl rfl
      have hjn : n = j := by omega
      subst hjn
      refine r_iload_n F 3 rfl dX4_wanting_4 ?_
      refine r_aload_n F 0 rfl dX4_wanting_5 ?_
      refine r_get (C := RX4) (T := TX4) (N := 14) F 61 hL.1 (by decide) hinX4 rfl 1 (by decide) (by decide +kernel) rfl dX4_wanting_6 ?_
      refine r_iconst (v := 0) F (by decide) dX4_wanting_9 ?_
      refine r_iald F 62 hL.2.1 (by decide) (vp_in_nI (n := 0) (by decide) (by decide)) dX4_wanting_10 ?_
      refine r_eq (st2 := [.int (nI n), .int (nI n)]) (by rw [show Z (0 : Int32).toNatClampNeg = nI n from hZ.1]) rfl ?_
      refine r_icmp_ge F 37 (by decide) dX4_wanting_11 (fun c_11_2 => ?_) (fun c_11_2 => absurd (Int32.le_refl _) c_11_2)
      clear c_11_2
      refine r_iload_n F 2 rfl dX4_wanting_37 ?_
      exact hret _ _ _ _ _ _ (Nat.le_of_ble_eq_true rfl) (Nat.le_of_ble_eq_true rfl) ⟨by rfl, rfl⟩ dX4_wanting_38
    | succ k ih_4 =>
      rintro j x2_4 x3_4 hk rfl rfl
      have hb : j < n := by omega
      refine r_iload_n F 3 rfl dX4_wanting_4 ?_
      refine r_aload_n F 0 rfl dX4_wanting_5 ?_
      refine r_get (C := RX4) (T := TX4) (N := 14) F 61 hL.1 (by decide) hinX4 rfl 1 (by decide) (by decide +kernel) rfl dX4_wanting_6 ?_
      refine r_iconst (v := 0) F (by decide) dX4_wanting_9 ?_
      refine r_iald F 62 hL.2.1 (by decide) (vp_in_nI (n := 0) (by decide) (by decide)) dX4_wanting_10 ?_
      refine r_eq (st2 := [.int (nI n), .int (nI j)]) (by rw [show Z (0 : Int32).toNatClampNeg = nI n from hZ.1]) rfl ?_
      refine r_icmp_ge F 37 (by decide) dX4_wanting_11 (fun c_11_3 => absurd c_11_3 (nI_ge (b := n) hb (by have := hn16; omega))) (fun c_11_3 => ?_)
      clear c_11_3
      refine r_iload_n F 2 rfl dX4_wanting_14 ?_
      refine r_aload_n F 0 rfl dX4_wanting_15 ?_
      refine r_iload_n F 3 rfl dX4_wanting_16 ?_
      refine r_iload_n F 1 rfl dX4_wanting_17 ?_
      refine r_calli (g_V (C := RX4) (T := TX4) (N := 14) (nA := 2) (As := [.int (nI j), .int mask]) (rest := [.int (cntN j (qWts B mask))]) F 61 hL.1 (by decide) rfl (c_X4_wants h hb) gX4_wanting_X4_wants rfl (by decide +kernel) rfl ⟨Nat.le_of_ble_eq_true rfl, Nat.le_of_ble_eq_true rfl⟩ ⟨Nat.le_of_ble_eq_true rfl, Nat.le_of_ble_eq_true rfl⟩ rfl (Nat.le_of_ble_eq_true rfl) dX4_wanting_18) (fun r_4 u_4 hp_4 => ?_)
      obtain ⟨rfl, rfl⟩ := hp_4
      refine r_if_eq F 28 (by decide) dX4_wanting_21 (fun c_21_5 => ?_) (fun c_21_5 => ?_)
      · skip
        replace c_21_5 := bI0 c_21_5
        refine r_iconst (v := 0) F (by decide) dX4_wanting_28 ?_
        refine r_iadd F dX4_wanting_29 ?_
        refine r_istore_n (lv' := [(0, .ref (g.2.1 61)), (1, .int mask), (2, .int ((cntN j (qWts B mask)) + 0)), (3, .int (nI j))]) F (by decide) rfl dX4_wanting_30 ?_
        refine r_iinc (lv' := [(0, .ref (g.2.1 61)), (1, .int mask), (2, .int ((cntN j (qWts B mask)) + 0)), (3, .int (nI (j + 1)))]) F 3 rfl (nI_inc _) (by decide) rfl dX4_wanting_31 ?_
        refine r_goto F 4 (by decide) dX4_wanting_34 ?_
        exact ih_4 (j + 1) _ _ (by omega)  (by simp [cntN, bI, c_21_5]) rfl
      · skip
        replace c_21_5 := bI1 c_21_5
        refine r_iconst (v := 1) F (by decide) dX4_wanting_24 ?_
        refine r_goto F 29 (by decide) dX4_wanting_25 ?_
        refine r_iadd F dX4_wanting_29 ?_
        refine r_istore_n (lv' := [(0, .ref (g.2.1 61)), (1, .int mask), (2, .int ((cntN j (qWts B mask)) + 1)), (3, .int (nI j))]) F (by decide) rfl dX4_wanting_30 ?_
        refine r_iinc (lv' := [(0, .ref (g.2.1 61)), (1, .int mask), (2, .int ((cntN j (qWts B mask)) + 1)), (3, .int (nI (j + 1)))]) F 3 rfl (nI_inc _) (by decide) rfl dX4_wanting_31 ?_
        refine r_goto F 4 (by decide) dX4_wanting_34 ?_
        exact ih_4 (j + 1) _ _ (by omega)  (by simp [cntN, bI, c_21_5]) rfl
  exact loop_4 n 0 _ _ (by omega)  rfl rfl
set_option maxHeartbeats 4000000 in
set_option maxRecDepth 100000 in
theorem c_X4_answered {g : kG} {l : Launch} {u : Nat → va_E} {th rm sp wr : Int32} {hs : Int64} {VA RD CH WE : Nat → Int32} {n m t : Nat} {B : kB} {S : Nat → kS} {C : Nat → Int32}  (h : MdX g u th rm sp wr hs VA RD CH WE n B m S t C)  : CI g l yX4_answered wsX4_answered ({ frames := 1, cells := 0, slots := 0, locals := 22 }) [.ref (g.2.1 61)] u (fun r u' => r = cntN n (fun b => !decide (B b 4 = -1)) ∧ u = u') := by
  refine CI.of (cc := cX4_answered) (nL := 3) (ty := .int) (by decide +kernel) rfl (fun _ _ _ => rfl) (Nat.le_of_ble_eq_true rfl) ?_
  intro X hXl F hret
  subst hXl
  have hinX4 : ∀ w ∈ wsX40, w ∈ wsX4_answered := by decide +kernel
  obtain ⟨Z, SV, BF, hL, hZ, hSV, hBF, hn16, hm6, ht60⟩ := id h
  show VL g X 0 0 u 0 [(0, .ref (g.2.1 61))] []
  refine r_iconst (v := 0) F (by decide) dX4_answered_0 ?_
  refine r_istore_n (lv' := [(0, .ref (g.2.1 61)), (1, .int 0)]) F (by decide) rfl dX4_answered_1 ?_
  refine r_iconst (v := 0) F (by decide) dX4_answered_2 ?_
  refine r_istore_n (lv' := [(0, .ref (g.2.1 61)), (1, .int 0), (2, .int 0)]) F (by decide) rfl dX4_answered_3 ?_
  have loop_4 : ∀ (k : Nat) (j : Nat) (x1_4 : Int32) (x2_4 : Int32), j + k = n → x1_4 = cntN j (fun b => !decide (B b 4 = -1)) → x2_4 = nI j → VL g X 0 0 u 4 [(0, .ref (g.2.1 61)), (1, .int x1_4), (2, .int x2_4)] [] := by
    intro k
    induction k with
    | zero =>
      rintro j x1_4 x2_4 hk rfl rfl
      have hjn : n = j := by omega
      subst hjn
      refine r_iload_n F 2 rfl dX4_answered_4 ?_
      refine r_aload_n F 0 rfl dX4_answered_5 ?_
      refine r_get (C := RX4) (T := TX4) (N := 14) F 61 hL.1 (by decide) hinX4 rfl 1 (by decide) (by decide +kernel) rfl dX4_answered_6 ?_
      refine r_iconst (v := 0) F (by decide) dX4_answered_9 ?_
      refine r_iald F 62 hL.2.1 (by decide) (vp_in_nI (n := 0) (by decide) (by decide)) dX4_answered_10 ?_
      refine r_eq (st2 := [.int (nI n), .int (nI n)]) (by rw [show Z (0 : Int32).toNatClampNeg = nI n from hZ.1]) rfl ?_
      refine r_icmp_ge F 38 (by decide) dX4_answered_11 (fun c_11_2 => ?_) (fun c_11_2 => absurd (Int32.le_refl _) c_11_2)
      clear c_11_2
      refine r_iload_n F 1 rfl dX4_answered_38 ?_
      exact hret _ _ _ _ _ _ (Nat.le_of_ble_eq_true rfl) (Nat.le_of_ble_eq_true rfl) ⟨by rfl, rfl⟩ dX4_answered_39
    | succ k ih_4 =>
      rintro j x1_4 x2_4 hk rfl rfl
      have hb : j < n := by omega
      refine r_iload_n F 2 rfl dX4_answered_4 ?_
      refine r_aload_n F 0 rfl dX4_answered_5 ?_
      refine r_get (C := RX4) (T := TX4) (N := 14) F 61 hL.1 (by decide) hinX4 rfl 1 (by decide) (by decide +kernel) rfl dX4_answered_6 ?_
      refine r_iconst (v := 0) F (by decide) dX4_answered_9 ?_
      refine r_iald F 62 hL.2.1 (by decide) (vp_in_nI (n := 0) (by decide) (by decide)) dX4_answered_10 ?_
      refine r_eq (st2 := [.int (nI n), .int (nI j)]) (by rw [show Z (0 : Int32).toNatClampNeg = nI n from hZ.1]) rfl ?_
      refine r_icmp_ge F 38 (by decide) dX4_answered_11 (fun c_11_3 => absurd c_11_3 (nI_ge (b := n) hb (by have := hn16; omega))) (fun c_11_3 => ?_)
      clear c_11_3
      refine r_iload_n F 1 rfl dX4_answered_14 ?_
      refine r_aload_n F 0 rfl dX4_answered_15 ?_
      refine r_iload_n F 2 rfl dX4_answered_16 ?_
      refine r_iconst (v := 4) F (by decide) dX4_answered_17 ?_
      refine r_calli (g_V (C := RX4) (T := TX4) (N := 14) (nA := 2) (As := [.int (nI j), .int 4]) (rest := [.int (cntN j (fun b => !decide (B b 4 = -1)))]) F 61 hL.1 (by decide) rfl (c_X4_of h hb (w := 4) (by decide)) gX4_answered_X4_of rfl (by decide +kernel) rfl ⟨Nat.le_of_ble_eq_true rfl, Nat.le_of_ble_eq_true rfl⟩ ⟨Nat.le_of_ble_eq_true rfl, Nat.le_of_ble_eq_true rfl⟩ rfl (Nat.le_of_ble_eq_true rfl) dX4_answered_18) (fun r_4 u_4 hp_4 => ?_)
      obtain ⟨rfl, rfl⟩ := hp_4
      refine r_iconst (v := -1) F (by decide) dX4_answered_21 ?_
      refine r_icmp_eq F 29 (by decide) dX4_answered_22 (fun c_22_5 => ?_) (fun c_22_5 => ?_)
      · skip
        refine r_iconst (v := 0) F (by decide) dX4_answered_29 ?_
        refine r_iadd F dX4_answered_30 ?_
        refine r_istore_n (lv' := [(0, .ref (g.2.1 61)), (1, .int ((cntN j (fun b => !decide (B b 4 = -1))) + 0)), (2, .int (nI j))]) F (by decide) rfl dX4_answered_31 ?_
        refine r_iinc (lv' := [(0, .ref (g.2.1 61)), (1, .int ((cntN j (fun b => !decide (B b 4 = -1))) + 0)), (2, .int (nI (j + 1)))]) F 2 rfl (nI_inc _) (by decide) rfl dX4_answered_32 ?_
        refine r_goto F 4 (by decide) dX4_answered_35 ?_
        exact ih_4 (j + 1) _ _ (by omega)  (by simp [cntN, bI, c_22_5]) rfl
      · skip
        refine r_iconst (v := 1) F (by decide) dX4_answered_25 ?_
        refine r_goto F 30 (by decide) dX4_answered_26 ?_
        refine r_iadd F dX4_answered_30 ?_
        refine r_istore_n (lv' := [(0, .ref (g.2.1 61)), (1, .int ((cntN j (fun b => !decide (B b 4 = -1))) + 1)), (2, .int (nI j))]) F (by decide) rfl dX4_answered_31 ?_
        refine r_iinc (lv' := [(0, .ref (g.2.1 61)), (1, .int ((cntN j (fun b => !decide (B b 4 = -1))) + 1)), (2, .int (nI (j + 1)))]) F 2 rfl (nI_inc _) (by decide) rfl dX4_answered_32 ?_
        refine r_goto F 4 (by decide) dX4_answered_35 ?_
        exact ih_4 (j + 1) _ _ (by omega)  (by simp [cntN, bI, c_22_5]) rfl
  exact loop_4 n 0 _ _ (by omega)  rfl rfl
set_option maxHeartbeats 4000000 in
set_option maxRecDepth 100000 in
theorem c_X4_openBoxes {g : kG} {l : Launch} {u : Nat → va_E} {th rm sp wr : Int32} {hs : Int64} {VA RD CH WE : Nat → Int32} {n m t : Nat} {B : kB} {S : Nat → kS} {C : Nat → Int32} {mask : Int32} (h : MdX g u th rm sp wr hs VA RD CH WE n B m S t C)  : CI g l yX4_openBoxes wsX4_openBoxes ({ frames := 2, cells := 0, slots := 0, locals := 44 }) [.ref (g.2.1 61), .int mask] u (fun r u' => r = cntN n (qOpn B mask) ∧ u = u') := by
  refine CI.of (cc := cX4_openBoxes) (nL := 4) (ty := .int) (by decide +kernel) rfl (fun _ _ _ => rfl) (Nat.le_of_ble_eq_true rfl) ?_
  intro X hXl F hret
  subst hXl
  have hinX4 : ∀ w ∈ wsX40, w ∈ wsX4_openBoxes := by decide +kernel
  obtain ⟨Z, SV, BF, hL, hZ, hSV, hBF, hn16, hm6, ht60⟩ := id h
  show VL g X 0 0 u 0 [(0, .ref (g.2.1 61)), (1, .int mask)] []
  refine r_iconst (v := 0) F (by decide) dX4_openBoxes_0 ?_
  refine r_istore_n (lv' := [(0, .ref (g.2.1 61)), (1, .int mask), (2, .int 0)]) F (by decide) rfl dX4_openBoxes_1 ?_
  refine r_iconst (v := 0) F (by decide) dX4_openBoxes_2 ?_
  refine r_istore_n (lv' := [(0, .ref (g.2.1 61)), (1, .int mask), (2, .int 0), (3, .int 0)]) F (by decide) rfl dX4_openBoxes_3 ?_
  have loop_4 : ∀ (k : Nat) (j : Nat) (x2_4 : Int32) (x3_4 : Int32), j + k = n → x2_4 = cntN j (qOpn B mask) → x3_4 = nI j → VL g X 0 0 u 4 [(0, .ref (g.2.1 61)), (1, .int mask), (2, .int x2_4), (3, .int x3_4)] [] := by
    intro k
    induction k with
    | zero =>
      rintro j x2_4 x3_4 hk rfl rfl
      have hjn : n = j := by omega
      subst hjn
      refine r_iload_n F 3 rfl dX4_openBoxes_4 ?_
      refine r_aload_n F 0 rfl dX4_openBoxes_5 ?_
      refine r_get (C := RX4) (T := TX4) (N := 14) F 61 hL.1 (by decide) hinX4 rfl 1 (by decide) (by decide +kernel) rfl dX4_openBoxes_6 ?_
      refine r_iconst (v := 0) F (by decide) dX4_openBoxes_9 ?_
      refine r_iald F 62 hL.2.1 (by decide) (vp_in_nI (n := 0) (by decide) (by decide)) dX4_openBoxes_10 ?_
      refine r_eq (st2 := [.int (nI n), .int (nI n)]) (by rw [show Z (0 : Int32).toNatClampNeg = nI n from hZ.1]) rfl ?_
      refine r_icmp_ge F 37 (by decide) dX4_openBoxes_11 (fun c_11_2 => ?_) (fun c_11_2 => absurd (Int32.le_refl _) c_11_2)
      clear c_11_2
      refine r_iload_n F 2 rfl dX4_openBoxes_37 ?_
      exact hret _ _ _ _ _ _ (Nat.le_of_ble_eq_true rfl) (Nat.le_of_ble_eq_true rfl) ⟨by rfl, rfl⟩ dX4_openBoxes_38
    | succ k ih_4 =>
      rintro j x2_4 x3_4 hk rfl rfl
      have hb : j < n := by omega
      refine r_iload_n F 3 rfl dX4_openBoxes_4 ?_
      refine r_aload_n F 0 rfl dX4_openBoxes_5 ?_
      refine r_get (C := RX4) (T := TX4) (N := 14) F 61 hL.1 (by decide) hinX4 rfl 1 (by decide) (by decide +kernel) rfl dX4_openBoxes_6 ?_
      refine r_iconst (v := 0) F (by decide) dX4_openBoxes_9 ?_
      refine r_iald F 62 hL.2.1 (by decide) (vp_in_nI (n := 0) (by decide) (by decide)) dX4_openBoxes_10 ?_
      refine r_eq (st2 := [.int (nI n), .int (nI j)]) (by rw [show Z (0 : Int32).toNatClampNeg = nI n from hZ.1]) rfl ?_
      refine r_icmp_ge F 37 (by decide) dX4_openBoxes_11 (fun c_11_3 => absurd c_11_3 (nI_ge (b := n) hb (by have := hn16; omega))) (fun c_11_3 => ?_)
      clear c_11_3
      refine r_iload_n F 2 rfl dX4_openBoxes_14 ?_
      refine r_aload_n F 0 rfl dX4_openBoxes_15 ?_
      refine r_iload_n F 3 rfl dX4_openBoxes_16 ?_
      refine r_iload_n F 1 rfl dX4_openBoxes_17 ?_
      refine r_calli (g_V (C := RX4) (T := TX4) (N := 14) (nA := 2) (As := [.int (nI j), .int mask]) (rest := [.int (cntN j (qOpn B mask))]) F 61 hL.1 (by decide) rfl (c_X4_isTold h hb) gX4_openBoxes_X4_isTold rfl (by decide +kernel) rfl ⟨Nat.le_of_ble_eq_true rfl, Nat.le_of_ble_eq_true rfl⟩ ⟨Nat.le_of_ble_eq_true rfl, Nat.le_of_ble_eq_true rfl⟩ rfl (Nat.le_of_ble_eq_true rfl) dX4_openBoxes_18) (fun r_4 u_4 hp_4 => ?_)
      obtain ⟨rfl, rfl⟩ := hp_4
      refine r_if_eq F 28 (by decide) dX4_openBoxes_21 (fun c_21_5 => ?_) (fun c_21_5 => ?_)
      · skip
        replace c_21_5 := bI0 c_21_5
        refine r_iconst (v := 0) F (by decide) dX4_openBoxes_28 ?_
        refine r_iadd F dX4_openBoxes_29 ?_
        refine r_istore_n (lv' := [(0, .ref (g.2.1 61)), (1, .int mask), (2, .int ((cntN j (qOpn B mask)) + 0)), (3, .int (nI j))]) F (by decide) rfl dX4_openBoxes_30 ?_
        refine r_iinc (lv' := [(0, .ref (g.2.1 61)), (1, .int mask), (2, .int ((cntN j (qOpn B mask)) + 0)), (3, .int (nI (j + 1)))]) F 3 rfl (nI_inc _) (by decide) rfl dX4_openBoxes_31 ?_
        refine r_goto F 4 (by decide) dX4_openBoxes_34 ?_
        exact ih_4 (j + 1) _ _ (by omega)  (by simp [cntN, bI, c_21_5]) rfl
      · skip
        replace c_21_5 := bI1 c_21_5
        refine r_iconst (v := 1) F (by decide) dX4_openBoxes_24 ?_
        refine r_goto F 29 (by decide) dX4_openBoxes_25 ?_
        refine r_iadd F dX4_openBoxes_29 ?_
        refine r_istore_n (lv' := [(0, .ref (g.2.1 61)), (1, .int mask), (2, .int ((cntN j (qOpn B mask)) + 1)), (3, .int (nI j))]) F (by decide) rfl dX4_openBoxes_30 ?_
        refine r_iinc (lv' := [(0, .ref (g.2.1 61)), (1, .int mask), (2, .int ((cntN j (qOpn B mask)) + 1)), (3, .int (nI (j + 1)))]) F 3 rfl (nI_inc _) (by decide) rfl dX4_openBoxes_31 ?_
        refine r_goto F 4 (by decide) dX4_openBoxes_34 ?_
        exact ih_4 (j + 1) _ _ (by omega)  (by simp [cntN, bI, c_21_5]) rfl
  exact loop_4 n 0 _ _ (by omega)  rfl rfl

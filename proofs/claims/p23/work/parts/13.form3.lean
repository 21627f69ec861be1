set_option maxHeartbeats 4000000 in
set_option maxRecDepth 100000 in
theorem c_X0_give {g : kG} {l : Launch} {u : Nat → va_E} {i n : Nat} {B : kB} {b : Nat} {v : Int32} (h : FmB g u i n B) (hi : i + 7 ≤ kN) (hb : b < n) : CV g l yX0_give wsX0_give ({ frames := 1, cells := 0, slots := 0, locals := 22 }) [.ref (g.2.1 i), .int (nI b), .int v] u (fun u' => FmB g u' i n (bUp B b 4 v) ∧ ∀ j, ¬ (i ≤ j ∧ j < i + 7) → u' j = u j) := by
  refine CV.of (cc := cX0_give) (nL := 3) (by decide +kernel) rfl (Nat.le_of_ble_eq_true rfl) ?_
  intro X hXl F hret
  subst hXl
  have hinX0 : ∀ w ∈ wsX00, w ∈ wsX0_give := by decide +kernel
  obtain ⟨G, V, hL, hn, hG⟩ := id h
  show VL g X 0 0 u 0 [(0, .ref (g.2.1 i)), (1, .int (nI b)), (2, .int v)] []
  refine r_aload_n F 0 rfl dX0_give_0 ?_
  refine r_get (C := RX0) (T := TX0) (N := 7) F i hL.1 (by omega) hinX0 rfl 4 (by decide) (by decide +kernel) rfl dX0_give_1 ?_
  refine r_iload_n F 1 rfl dX0_give_4 ?_
  refine r_iload_n F 2 rfl dX0_give_5 ?_
  refine r_callv (g_SN (nA := 3) (As := [.ref (g.2.1 (i + 5)), .int (nI b), .int v]) (rest := []) F (c_putL4 hL hi (by omega)) gX0_give_X3_put_n38 rfl 7 rfl (by decide +kernel) (by decide +kernel) (by decide +kernel) rfl ⟨Nat.le_of_ble_eq_true rfl, Nat.le_of_ble_eq_true rfl⟩ ⟨Nat.le_of_ble_eq_true rfl, Nat.le_of_ble_eq_true rfl⟩ rfl (Nat.le_of_ble_eq_true rfl) dX0_give_6) (fun u_1 hp_1 => ?_)
  obtain ⟨hL_1, hk_1⟩ := hp_1
  have hf_2 : ∀ j, ¬ (i ≤ j ∧ j < i + 7) → u_1 j = u j := fun j hj => (hk_1 j hj).trans ((fun j _ => rfl) j hj)
  exact hret _ _ _ _ _ (Nat.le_of_ble_eq_true rfl) (Nat.le_of_ble_eq_true rfl) (⟨⟨_, _, hL_1, hn, bUp_ag hG⟩, hf_2⟩) dX0_give_9
set_option maxHeartbeats 4000000 in
set_option maxRecDepth 100000 in
theorem c_X0_add {g : kG} {l : Launch} {u : Nat → va_E} {i n : Nat} {B : kB} {kd p s lim : Int32} (h : FmB g u i n B) (hi : i + 7 ≤ kN) (hn16 : n < 16) : CV g l yX0_add wsX0_add ({ frames := 1, cells := 0, slots := 0, locals := 22 }) [.ref (g.2.1 i), .int kd, .int p, .int s, .int lim] u (fun u' => FmB g u' i (n + 1) (bAdd B n kd p s lim) ∧ ∀ j, ¬ (i ≤ j ∧ j < i + 7) → u' j = u j) := by
  refine CV.of (cc := cX0_add) (nL := 5) (by decide +kernel) rfl (Nat.le_of_ble_eq_true rfl) ?_
  intro X hXl F hret
  subst hXl
  have hinX0 : ∀ w ∈ wsX00, w ∈ wsX0_add := by decide +kernel
  obtain ⟨G, V, hL, hn, hG⟩ := id h
  show VL g X 0 0 u 0 [(0, .ref (g.2.1 i)), (1, .int kd), (2, .int p), (3, .int s), (4, .int lim)] []
  refine r_aload_n F 0 rfl dX0_add_0 ?_
  refine r_get (C := RX0) (T := TX0) (N := 7) F i hL.1 (by omega) hinX0 rfl 0 (by decide) (by decide +kernel) rfl dX0_add_1 ?_
  refine r_aload_n F 0 rfl dX0_add_4 ?_
  refine r_get (C := RX0) (T := TX0) (N := 7) F i hL.1 (by omega) hinX0 rfl 6 (by decide) (by decide +kernel) rfl dX0_add_5 ?_
  refine r_iload_n F 1 rfl dX0_add_8 ?_
  refine r_callv (g_SN (nA := 3) (As := [.ref (g.2.1 (i + 1)), .int (nI n), .int kd]) (rest := []) F (c_putL0 hL hi hn16) gX0_add_X3_put_n38 rfl 7 rfl (by decide +kernel) (by decide +kernel) (by decide +kernel) rfl ⟨Nat.le_of_ble_eq_true rfl, Nat.le_of_ble_eq_true rfl⟩ ⟨Nat.le_of_ble_eq_true rfl, Nat.le_of_ble_eq_true rfl⟩ rfl (Nat.le_of_ble_eq_true rfl) dX0_add_9) (fun u_1 hp_1 => ?_)
  obtain ⟨hL_1, hk_1⟩ := hp_1
  have hf_2 : ∀ j, ¬ (i ≤ j ∧ j < i + 7) → u_1 j = u j := fun j hj => (hk_1 j hj).trans ((fun j _ => rfl) j hj)
  refine r_aload_n F 0 rfl dX0_add_12 ?_
  refine r_get (C := RX0) (T := TX0) (N := 7) F i hL_1.1 (by omega) hinX0 rfl 1 (by decide) (by decide +kernel) rfl dX0_add_13 ?_
  refine r_aload_n F 0 rfl dX0_add_16 ?_
  refine r_get (C := RX0) (T := TX0) (N := 7) F i hL_1.1 (by omega) hinX0 rfl 6 (by decide) (by decide +kernel) rfl dX0_add_17 ?_
  refine r_iload_n F 2 rfl dX0_add_20 ?_
  refine r_callv (g_SN (nA := 3) (As := [.ref (g.2.1 (i + 2)), .int (nI n), .int p]) (rest := []) F (c_putL1 hL_1 hi hn16) gX0_add_X3_put_n38 rfl 7 rfl (by decide +kernel) (by decide +kernel) (by decide +kernel) rfl ⟨Nat.le_of_ble_eq_true rfl, Nat.le_of_ble_eq_true rfl⟩ ⟨Nat.le_of_ble_eq_true rfl, Nat.le_of_ble_eq_true rfl⟩ rfl (Nat.le_of_ble_eq_true rfl) dX0_add_21) (fun u_3 hp_3 => ?_)
  obtain ⟨hL_3, hk_3⟩ := hp_3
  have hf_4 : ∀ j, ¬ (i ≤ j ∧ j < i + 7) → u_3 j = u j := fun j hj => (hk_3 j hj).trans (hf_2 j hj)
  refine r_aload_n F 0 rfl dX0_add_24 ?_
  refine r_get (C := RX0) (T := TX0) (N := 7) F i hL_3.1 (by omega) hinX0 rfl 2 (by decide) (by decide +kernel) rfl dX0_add_25 ?_
  refine r_aload_n F 0 rfl dX0_add_28 ?_
  refine r_get (C := RX0) (T := TX0) (N := 7) F i hL_3.1 (by omega) hinX0 rfl 6 (by decide) (by decide +kernel) rfl dX0_add_29 ?_
  refine r_iload_n F 3 rfl dX0_add_32 ?_
  refine r_callv (g_SN (nA := 3) (As := [.ref (g.2.1 (i + 3)), .int (nI n), .int s]) (rest := []) F (c_putL2 hL_3 hi hn16) gX0_add_X3_put_n38 rfl 7 rfl (by decide +kernel) (by decide +kernel) (by decide +kernel) rfl ⟨Nat.le_of_ble_eq_true rfl, Nat.le_of_ble_eq_true rfl⟩ ⟨Nat.le_of_ble_eq_true rfl, Nat.le_of_ble_eq_true rfl⟩ rfl (Nat.le_of_ble_eq_true rfl) dX0_add_33) (fun u_5 hp_5 => ?_)
  obtain ⟨hL_5, hk_5⟩ := hp_5
  have hf_6 : ∀ j, ¬ (i ≤ j ∧ j < i + 7) → u_5 j = u j := fun j hj => (hk_5 j hj).trans (hf_4 j hj)
  refine r_aload_n F 0 rfl dX0_add_36 ?_
  refine r_get (C := RX0) (T := TX0) (N := 7) F i hL_5.1 (by omega) hinX0 rfl 3 (by decide) (by decide +kernel) rfl dX0_add_37 ?_
  refine r_aload_n F 0 rfl dX0_add_40 ?_
  refine r_get (C := RX0) (T := TX0) (N := 7) F i hL_5.1 (by omega) hinX0 rfl 6 (by decide) (by decide +kernel) rfl dX0_add_41 ?_
  refine r_iload F 4 rfl dX0_add_44 ?_
  refine r_callv (g_SN (nA := 3) (As := [.ref (g.2.1 (i + 4)), .int (nI n), .int lim]) (rest := []) F (c_putL3 hL_5 hi hn16) gX0_add_X3_put_n38 rfl 7 rfl (by decide +kernel) (by decide +kernel) (by decide +kernel) rfl ⟨Nat.le_of_ble_eq_true rfl, Nat.le_of_ble_eq_true rfl⟩ ⟨Nat.le_of_ble_eq_true rfl, Nat.le_of_ble_eq_true rfl⟩ rfl (Nat.le_of_ble_eq_true rfl) dX0_add_46) (fun u_7 hp_7 => ?_)
  obtain ⟨hL_7, hk_7⟩ := hp_7
  have hf_8 : ∀ j, ¬ (i ≤ j ∧ j < i + 7) → u_7 j = u j := fun j hj => (hk_7 j hj).trans (hf_6 j hj)
  refine r_aload_n F 0 rfl dX0_add_49 ?_
  refine r_get (C := RX0) (T := TX0) (N := 7) F i hL_7.1 (by omega) hinX0 rfl 4 (by decide) (by decide +kernel) rfl dX0_add_50 ?_
  refine r_aload_n F 0 rfl dX0_add_53 ?_
  refine r_get (C := RX0) (T := TX0) (N := 7) F i hL_7.1 (by omega) hinX0 rfl 6 (by decide) (by decide +kernel) rfl dX0_add_54 ?_
  refine r_iconst (v := -1) F (by decide) dX0_add_57 ?_
  refine r_callv (g_SN (nA := 3) (As := [.ref (g.2.1 (i + 5)), .int (nI n), .int (-1)]) (rest := []) F (c_putL4 hL_7 hi hn16) gX0_add_X3_put_n38 rfl 7 rfl (by decide +kernel) (by decide +kernel) (by decide +kernel) rfl ⟨Nat.le_of_ble_eq_true rfl, Nat.le_of_ble_eq_true rfl⟩ ⟨Nat.le_of_ble_eq_true rfl, Nat.le_of_ble_eq_true rfl⟩ rfl (Nat.le_of_ble_eq_true rfl) dX0_add_58) (fun u_9 hp_9 => ?_)
  obtain ⟨hL_9, hk_9⟩ := hp_9
  have hf_10 : ∀ j, ¬ (i ≤ j ∧ j < i + 7) → u_9 j = u j := fun j hj => (hk_9 j hj).trans (hf_8 j hj)
  refine r_aload_n F 0 rfl dX0_add_61 ?_
  refine r_dup F rfl dX0_add_62 ?_
  refine r_get (C := RX0) (T := TX0) (N := 7) F i hL_9.1 (by omega) hinX0 rfl 6 (by decide) (by decide +kernel) rfl dX0_add_63 ?_
  refine r_iconst (v := 1) F (by decide) dX0_add_66 ?_
  refine r_iadd F dX0_add_67 ?_
  refine r_put (C := RX0) (T := TX0) (N := 7) (ty := .int) F i hL_9.1 (by omega) hinX0 tyX0 tyX0_ok nmX0 rfl 6 (by decide) (by decide +kernel) rfl (by decide +kernel) rfl rfl (Nat.le_of_ble_eq_true rfl) dX0_add_68 (fun u_11 hu_11 => ?_)
  rw [nI_1] at hu_11
  obtain ⟨hL_12, hk_12⟩ := hL_9.size (sz' := nI (n + 1)) hu_11
  have hf_13 : ∀ j, ¬ (i ≤ j ∧ j < i + 7) → u_11 j = u j := fun j hj => (hk_12 j hj).trans (hf_10 j hj)
  exact hret _ _ _ _ _ (Nat.le_of_ble_eq_true rfl) (Nat.le_of_ble_eq_true rfl) (⟨⟨_, _, hL_12, by omega, bAdd_ag hG⟩, hf_13⟩) dX0_add_71
set_option maxHeartbeats 4000000 in
set_option maxRecDepth 100000 in
theorem c_X0_removeLast {g : kG} {l : Launch} {u : Nat → va_E} {i m : Nat} {B : kB} (h : FmB g u i (m + 1) B) (hi : i + 7 ≤ kN) : CV g l yX0_removeLast wsX0_removeLast ({ frames := 0, cells := 0, slots := 0, locals := 0 }) [.ref (g.2.1 i)] u (fun u' => FmB g u' i m B ∧ ∀ j, ¬ (i ≤ j ∧ j < i + 7) → u' j = u j) := by
  refine CV.of (cc := cX0_removeLast) (nL := 1) (by decide +kernel) rfl (Nat.le_of_ble_eq_true rfl) ?_
  intro X hXl F hret
  subst hXl
  have hinX0 : ∀ w ∈ wsX00, w ∈ wsX0_removeLast := by decide +kernel
  obtain ⟨G, V, hL, hn, hG⟩ := id h
  show VL g X 0 0 u 0 [(0, .ref (g.2.1 i))] []
  refine r_aload_n F 0 rfl dX0_removeLast_0 ?_
  refine r_dup F rfl dX0_removeLast_1 ?_
  refine r_get (C := RX0) (T := TX0) (N := 7) F i hL.1 (by omega) hinX0 rfl 6 (by decide) (by decide +kernel) rfl dX0_removeLast_2 ?_
  refine r_iconst (v := 1) F (by decide) dX0_removeLast_5 ?_
  refine r_isub F dX0_removeLast_6 ?_
  refine r_put (C := RX0) (T := TX0) (N := 7) (ty := .int) F i hL.1 (by omega) hinX0 tyX0 tyX0_ok nmX0 rfl 6 (by decide) (by decide +kernel) rfl (by decide +kernel) rfl rfl (Nat.le_of_ble_eq_true rfl) dX0_removeLast_7 (fun u_1 hu_1 => ?_)
  rw [nI_pred] at hu_1
  obtain ⟨hL_2, hk_2⟩ := hL.size (sz' := nI m) hu_1
  have hf_3 : ∀ j, ¬ (i ≤ j ∧ j < i + 7) → u_1 j = u j := fun j hj => (hk_2 j hj).trans ((fun j _ => rfl) j hj)
  exact hret _ _ _ _ _ (Nat.le_of_ble_eq_true rfl) (Nat.le_of_ble_eq_true rfl) (⟨⟨_, _, hL_2, by omega, fun b hb => hG b (by omega)⟩, hf_3⟩) dX0_removeLast_10
set_option maxHeartbeats 4000000 in
set_option maxRecDepth 100000 in
theorem c_X0_copyFrom {g : kG} {l : Launch} {u : Nat → va_E} {i i2 n : Nat} {sz : Int32} {G B : kB} {V : Nat → Int32} (hL : FmL g u i sz G V) (hi : i + 7 ≤ kN) (ho : FmB g u i2 n B) (hi2 : i2 + 7 ≤ kN) (hd : i + 7 ≤ i2 ∨ i2 + 7 ≤ i) : CV g l yX0_copyFrom wsX0_copyFrom ({ frames := 1, cells := 0, slots := 0, locals := 22 }) [.ref (g.2.1 i), .ref (g.2.1 i2)] u (fun u' => FmB g u' i n B ∧ ∀ j, ¬ (i ≤ j ∧ j < i + 7) → u' j = u j) := by
  refine CV.of (cc := cX0_copyFrom) (nL := 3) (by decide +kernel) rfl (Nat.le_of_ble_eq_true rfl) ?_
  intro X hXl F hret
  subst hXl
  have hinX0 : ∀ w ∈ wsX00, w ∈ wsX0_copyFrom := by decide +kernel
  show VL g X 0 0 u 0 [(0, .ref (g.2.1 i)), (1, .ref (g.2.1 i2))] []
  refine r_iconst (v := 0) F (by decide) dX0_copyFrom_0 ?_
  refine r_istore_n (lv' := [(0, .ref (g.2.1 i)), (1, .ref (g.2.1 i2)), (2, .int 0)]) F (by decide) rfl dX0_copyFrom_1 ?_
  have loop_2 : ∀ (k : Nat) (j : Nat) (G2 : kB) (w : Nat → va_E) (x2_2 : Int32), j + k = n → FmL g w i sz G2 V → (∀ b, b < j → ∀ q, q < 5 → G2 b q = B b q) → (∀ j, ¬ (i ≤ j ∧ j < i + 7) → w j = u j) → x2_2 = nI j → VL g X 0 0 w 2 [(0, .ref (g.2.1 i)), (1, .ref (g.2.1 i2)), (2, .int x2_2)] [] := by
    intro k
    induction k with
    | zero =>
      rintro j G2 w x2_2 hk hL2 hG2 hf2 rfl
      have ho2 := ho.keep (u' := w) (fun j h1 h2 => hf2 j (by omega))
      have hjn : n = j := by omega
      subst hjn
      refine r_iload_n F 2 rfl dX0_copyFrom_2 ?_
      refine r_aload_n F 1 rfl dX0_copyFrom_3 ?_
      refine r_get (C := RX0) (T := TX0) (N := 7) F i2 ho2.obj (by omega) hinX0 rfl 6 (by decide) (by decide +kernel) rfl dX0_copyFrom_4 ?_
      refine r_icmp_ge F 96 (by decide) dX0_copyFrom_7 (fun c_7_2 => ?_) (fun c_7_2 => absurd (Int32.le_refl _) c_7_2)
      clear c_7_2
      refine r_aload_n F 0 rfl dX0_copyFrom_96 ?_
      refine r_aload_n F 1 rfl dX0_copyFrom_97 ?_
      refine r_get (C := RX0) (T := TX0) (N := 7) F i2 ho2.obj (by omega) hinX0 rfl 6 (by decide) (by decide +kernel) rfl dX0_copyFrom_98 ?_
      refine r_put (C := RX0) (T := TX0) (N := 7) (ty := .int) F i hL2.1 (by omega) hinX0 tyX0 tyX0_ok nmX0 rfl 6 (by decide) (by decide +kernel) rfl (by decide +kernel) rfl rfl (Nat.le_of_ble_eq_true rfl) dX0_copyFrom_101 (fun u_3 hu_3 => ?_)
      obtain ⟨hL_4, hk_4⟩ := hL2.size (sz' := nI n) hu_3
      have ho_5 := ho2.keep (u' := u_3) (fun j h1 h2 => hk_4 j (by omega))
      have hf_6 : ∀ j, ¬ (i ≤ j ∧ j < i + 7) → u_3 j = u j := fun j hj => (hk_4 j hj).trans (hf2 j hj)
      exact hret _ _ _ _ _ (Nat.le_of_ble_eq_true rfl) (Nat.le_of_ble_eq_true rfl) (⟨⟨_, _, hL_4, ho.le, hG2⟩, hf_6⟩) dX0_copyFrom_104
    | succ k ih_2 =>
      rintro j G2 w x2_2 hk hL2 hG2 hf2 rfl
      have ho2 := ho.keep (u' := w) (fun j h1 h2 => hf2 j (by omega))
      have hb : j < n := by omega
      refine r_iload_n F 2 rfl dX0_copyFrom_2 ?_
      refine r_aload_n F 1 rfl dX0_copyFrom_3 ?_
      refine r_get (C := RX0) (T := TX0) (N := 7) F i2 ho2.obj (by omega) hinX0 rfl 6 (by decide) (by decide +kernel) rfl dX0_copyFrom_4 ?_
      refine r_icmp_ge F 96 (by decide) dX0_copyFrom_7 (fun c_7_7 => absurd c_7_7 (nI_ge (b := n) hb (by have := ho.le; omega))) (fun c_7_7 => ?_)
      clear c_7_7
      refine r_aload_n F 0 rfl dX0_copyFrom_10 ?_
      refine r_get (C := RX0) (T := TX0) (N := 7) F i hL2.1 (by omega) hinX0 rfl 0 (by decide) (by decide +kernel) rfl dX0_copyFrom_11 ?_
      refine r_iload_n F 2 rfl dX0_copyFrom_14 ?_
      refine r_aload_n F 1 rfl dX0_copyFrom_15 ?_
      refine r_get (C := RX0) (T := TX0) (N := 7) F i2 ho2.obj (by omega) hinX0 rfl 0 (by decide) (by decide +kernel) rfl dX0_copyFrom_16 ?_
      refine r_iload_n F 2 rfl dX0_copyFrom_19 ?_
      refine r_calli (g_SN (nA := 2) (As := [.ref (g.2.1 (i2 + 1)), .int (nI j)]) (rest := [.int (nI j), .ref (g.2.1 (i + 1))]) F (c_atB0 ho2 hi2 hb) gX0_copyFrom_X3_at_n34 rfl 6 rfl (by decide +kernel) (by decide +kernel) (by decide +kernel) rfl ⟨Nat.le_of_ble_eq_true rfl, Nat.le_of_ble_eq_true rfl⟩ ⟨Nat.le_of_ble_eq_true rfl, Nat.le_of_ble_eq_true rfl⟩ rfl (Nat.le_of_ble_eq_true rfl) dX0_copyFrom_20) (fun r_8 u_8 hp_8 => ?_)
      obtain ⟨rfl, rfl⟩ := hp_8
      refine r_callv (g_SN (nA := 3) (As := [.ref (g.2.1 (i + 1)), .int (nI j), .int (B j 0)]) (rest := []) F (c_putL0 hL2 hi (by have := ho.le; omega)) gX0_copyFrom_X3_put_n38 rfl 7 rfl (by decide +kernel) (by decide +kernel) (by decide +kernel) rfl ⟨Nat.le_of_ble_eq_true rfl, Nat.le_of_ble_eq_true rfl⟩ ⟨Nat.le_of_ble_eq_true rfl, Nat.le_of_ble_eq_true rfl⟩ rfl (Nat.le_of_ble_eq_true rfl) dX0_copyFrom_23) (fun u_9 hp_9 => ?_)
      obtain ⟨hL_9, hk_9⟩ := hp_9
      have ho_10 := ho2.keep (u' := u_9) (fun j h1 h2 => hk_9 j (by omega))
      have hf_11 : ∀ j, ¬ (i ≤ j ∧ j < i + 7) → u_9 j = u j := fun j hj => (hk_9 j hj).trans (hf2 j hj)
      refine r_aload_n F 0 rfl dX0_copyFrom_26 ?_
      refine r_get (C := RX0) (T := TX0) (N := 7) F i hL_9.1 (by omega) hinX0 rfl 1 (by decide) (by decide +kernel) rfl dX0_copyFrom_27 ?_
      refine r_iload_n F 2 rfl dX0_copyFrom_30 ?_
      refine r_aload_n F 1 rfl dX0_copyFrom_31 ?_
      refine r_get (C := RX0) (T := TX0) (N := 7) F i2 ho_10.obj (by omega) hinX0 rfl 1 (by decide) (by decide +kernel) rfl dX0_copyFrom_32 ?_
      refine r_iload_n F 2 rfl dX0_copyFrom_35 ?_
      refine r_calli (g_SN (nA := 2) (As := [.ref (g.2.1 (i2 + 2)), .int (nI j)]) (rest := [.int (nI j), .ref (g.2.1 (i + 2))]) F (c_atB1 ho_10 hi2 hb) gX0_copyFrom_X3_at_n34 rfl 6 rfl (by decide +kernel) (by decide +kernel) (by decide +kernel) rfl ⟨Nat.le_of_ble_eq_true rfl, Nat.le_of_ble_eq_true rfl⟩ ⟨Nat.le_of_ble_eq_true rfl, Nat.le_of_ble_eq_true rfl⟩ rfl (Nat.le_of_ble_eq_true rfl) dX0_copyFrom_36) (fun r_12 u_12 hp_12 => ?_)
      obtain ⟨rfl, rfl⟩ := hp_12
      refine r_callv (g_SN (nA := 3) (As := [.ref (g.2.1 (i + 2)), .int (nI j), .int (B j 1)]) (rest := []) F (c_putL1 hL_9 hi (by have := ho.le; omega)) gX0_copyFrom_X3_put_n38 rfl 7 rfl (by decide +kernel) (by decide +kernel) (by decide +kernel) rfl ⟨Nat.le_of_ble_eq_true rfl, Nat.le_of_ble_eq_true rfl⟩ ⟨Nat.le_of_ble_eq_true rfl, Nat.le_of_ble_eq_true rfl⟩ rfl (Nat.le_of_ble_eq_true rfl) dX0_copyFrom_39) (fun u_13 hp_13 => ?_)
      obtain ⟨hL_13, hk_13⟩ := hp_13
      have ho_14 := ho_10.keep (u' := u_13) (fun j h1 h2 => hk_13 j (by omega))
      have hf_15 : ∀ j, ¬ (i ≤ j ∧ j < i + 7) → u_13 j = u j := fun j hj => (hk_13 j hj).trans (hf_11 j hj)
      refine r_aload_n F 0 rfl dX0_copyFrom_42 ?_
      refine r_get (C := RX0) (T := TX0) (N := 7) F i hL_13.1 (by omega) hinX0 rfl 2 (by decide) (by decide +kernel) rfl dX0_copyFrom_43 ?_
      refine r_iload_n F 2 rfl dX0_copyFrom_46 ?_
      refine r_aload_n F 1 rfl dX0_copyFrom_47 ?_
      refine r_get (C := RX0) (T := TX0) (N := 7) F i2 ho_14.obj (by omega) hinX0 rfl 2 (by decide) (by decide +kernel) rfl dX0_copyFrom_48 ?_
      refine r_iload_n F 2 rfl dX0_copyFrom_51 ?_
      refine r_calli (g_SN (nA := 2) (As := [.ref (g.2.1 (i2 + 3)), .int (nI j)]) (rest := [.int (nI j), .ref (g.2.1 (i + 3))]) F (c_atB2 ho_14 hi2 hb) gX0_copyFrom_X3_at_n34 rfl 6 rfl (by decide +kernel) (by decide +kernel) (by decide +kernel) rfl ⟨Nat.le_of_ble_eq_true rfl, Nat.le_of_ble_eq_true rfl⟩ ⟨Nat.le_of_ble_eq_true rfl, Nat.le_of_ble_eq_true rfl⟩ rfl (Nat.le_of_ble_eq_true rfl) dX0_copyFrom_52) (fun r_16 u_16 hp_16 => ?_)
      obtain ⟨rfl, rfl⟩ := hp_16
      refine r_callv (g_SN (nA := 3) (As := [.ref (g.2.1 (i + 3)), .int (nI j), .int (B j 2)]) (rest := []) F (c_putL2 hL_13 hi (by have := ho.le; omega)) gX0_copyFrom_X3_put_n38 rfl 7 rfl (by decide +kernel) (by decide +kernel) (by decide +kernel) rfl ⟨Nat.le_of_ble_eq_true rfl, Nat.le_of_ble_eq_true rfl⟩ ⟨Nat.le_of_ble_eq_true rfl, Nat.le_of_ble_eq_true rfl⟩ rfl (Nat.le_of_ble_eq_true rfl) dX0_copyFrom_55) (fun u_17 hp_17 => ?_)
      obtain ⟨hL_17, hk_17⟩ := hp_17
      have ho_18 := ho_14.keep (u' := u_17) (fun j h1 h2 => hk_17 j (by omega))
      have hf_19 : ∀ j, ¬ (i ≤ j ∧ j < i + 7) → u_17 j = u j := fun j hj => (hk_17 j hj).trans (hf_15 j hj)
      refine r_aload_n F 0 rfl dX0_copyFrom_58 ?_
      refine r_get (C := RX0) (T := TX0) (N := 7) F i hL_17.1 (by omega) hinX0 rfl 3 (by decide) (by decide +kernel) rfl dX0_copyFrom_59 ?_
      refine r_iload_n F 2 rfl dX0_copyFrom_62 ?_
      refine r_aload_n F 1 rfl dX0_copyFrom_63 ?_
      refine r_get (C := RX0) (T := TX0) (N := 7) F i2 ho_18.obj (by omega) hinX0 rfl 3 (by decide) (by decide +kernel) rfl dX0_copyFrom_64 ?_
      refine r_iload_n F 2 rfl dX0_copyFrom_67 ?_
      refine r_calli (g_SN (nA := 2) (As := [.ref (g.2.1 (i2 + 4)), .int (nI j)]) (rest := [.int (nI j), .ref (g.2.1 (i + 4))]) F (c_atB3 ho_18 hi2 hb) gX0_copyFrom_X3_at_n34 rfl 6 rfl (by decide +kernel) (by decide +kernel) (by decide +kernel) rfl ⟨Nat.le_of_ble_eq_true rfl, Nat.le_of_ble_eq_true rfl⟩ ⟨Nat.le_of_ble_eq_true rfl, Nat.le_of_ble_eq_true rfl⟩ rfl (Nat.le_of_ble_eq_true rfl) dX0_copyFrom_68) (fun r_20 u_20 hp_20 => ?_)
      obtain ⟨rfl, rfl⟩ := hp_20
      refine r_callv (g_SN (nA := 3) (As := [.ref (g.2.1 (i + 4)), .int (nI j), .int (B j 3)]) (rest := []) F (c_putL3 hL_17 hi (by have := ho.le; omega)) gX0_copyFrom_X3_put_n38 rfl 7 rfl (by decide +kernel) (by decide +kernel) (by decide +kernel) rfl ⟨Nat.le_of_ble_eq_true rfl, Nat.le_of_ble_eq_true rfl⟩ ⟨Nat.le_of_ble_eq_true rfl, Nat.le_of_ble_eq_true rfl⟩ rfl (Nat.le_of_ble_eq_true rfl) dX0_copyFrom_71) (fun u_21 hp_21 => ?_)
      obtain ⟨hL_21, hk_21⟩ := hp_21
      have ho_22 := ho_18.keep (u' := u_21) (fun j h1 h2 => hk_21 j (by omega))
      have hf_23 : ∀ j, ¬ (i ≤ j ∧ j < i + 7) → u_21 j = u j := fun j hj => (hk_21 j hj).trans (hf_19 j hj)
      refine r_aload_n F 0 rfl dX0_copyFrom_74 ?_
      refine r_get (C := RX0) (T := TX0) (N := 7) F i hL_21.1 (by omega) hinX0 rfl 4 (by decide) (by decide +kernel) rfl dX0_copyFrom_75 ?_
      refine r_iload_n F 2 rfl dX0_copyFrom_78 ?_
      refine r_aload_n F 1 rfl dX0_copyFrom_79 ?_
      refine r_get (C := RX0) (T := TX0) (N := 7) F i2 ho_22.obj (by omega) hinX0 rfl 4 (by decide) (by decide +kernel) rfl dX0_copyFrom_80 ?_
      refine r_iload_n F 2 rfl dX0_copyFrom_83 ?_
      refine r_calli (g_SN (nA := 2) (As := [.ref (g.2.1 (i2 + 5)), .int (nI j)]) (rest := [.int (nI j), .ref (g.2.1 (i + 5))]) F (c_atB4 ho_22 hi2 hb) gX0_copyFrom_X3_at_n34 rfl 6 rfl (by decide +kernel) (by decide +kernel) (by decide +kernel) rfl ⟨Nat.le_of_ble_eq_true rfl, Nat.le_of_ble_eq_true rfl⟩ ⟨Nat.le_of_ble_eq_true rfl, Nat.le_of_ble_eq_true rfl⟩ rfl (Nat.le_of_ble_eq_true rfl) dX0_copyFrom_84) (fun r_24 u_24 hp_24 => ?_)
      obtain ⟨rfl, rfl⟩ := hp_24
      refine r_callv (g_SN (nA := 3) (As := [.ref (g.2.1 (i + 5)), .int (nI j), .int (B j 4)]) (rest := []) F (c_putL4 hL_21 hi (by have := ho.le; omega)) gX0_copyFrom_X3_put_n38 rfl 7 rfl (by decide +kernel) (by decide +kernel) (by decide +kernel) rfl ⟨Nat.le_of_ble_eq_true rfl, Nat.le_of_ble_eq_true rfl⟩ ⟨Nat.le_of_ble_eq_true rfl, Nat.le_of_ble_eq_true rfl⟩ rfl (Nat.le_of_ble_eq_true rfl) dX0_copyFrom_87) (fun u_25 hp_25 => ?_)
      obtain ⟨hL_25, hk_25⟩ := hp_25
      have ho_26 := ho_22.keep (u' := u_25) (fun j h1 h2 => hk_25 j (by omega))
      have hf_27 : ∀ j, ¬ (i ≤ j ∧ j < i + 7) → u_25 j = u j := fun j hj => (hk_25 j hj).trans (hf_23 j hj)
      refine r_iinc (lv' := [(0, .ref (g.2.1 i)), (1, .ref (g.2.1 i2)), (2, .int (nI (j + 1)))]) F 2 rfl (nI_inc _) (by decide) rfl dX0_copyFrom_90 ?_
      refine r_goto F 2 (by decide) dX0_copyFrom_93 ?_
      exact ih_2 (j + 1) _ _ _ (by omega) hL_25 (bCpy_ag hG2) hf_27 rfl
  exact loop_2 n 0 G u _ (by omega) hL (fun b hb => absurd hb (by omega)) (fun j _ => rfl) rfl
set_option maxHeartbeats 4000000 in
set_option maxRecDepth 100000 in
theorem c_X0_canCarry {g : kG} {l : Launch} {u : Nat → va_E} {i n : Nat} {B : kB} {mask : Int32} (h : FmB g u i n B) (hi : i + 7 ≤ kN) : CI g l yX0_canCarry wsX0_canCarry ({ frames := 1, cells := 0, slots := 0, locals := 21 }) [.ref (g.2.1 i), .int mask] u (fun r u' => r = bI (canM B n mask) ∧ u = u') := by
  refine CI.of (cc := cX0_canCarry) (nL := 4) (ty := .boolean) (by decide +kernel) rfl (fun v u' h => by obtain ⟨h, -⟩ := h; rw [h]; exact bI_n _) (Nat.le_of_ble_eq_true rfl) ?_
  intro X hXl F hret
  subst hXl
  have hinX0 : ∀ w ∈ wsX00, w ∈ wsX0_canCarry := by decide +kernel
  obtain ⟨G, V, hL, hn, hG⟩ := id h
  show VL g X 0 0 u 0 [(0, .ref (g.2.1 i)), (1, .int mask)] []
  refine r_iconst (v := 0) F (by decide) dX0_canCarry_0 ?_
  refine r_istore_n (lv' := [(0, .ref (g.2.1 i)), (1, .int mask), (2, .int 0)]) F (by decide) rfl dX0_canCarry_1 ?_
  have loop_2 : ∀ (k : Nat) (j : Nat) (x2_2 : Int32), j + k = 16 → anyN j (canK B n mask) = false → x2_2 = nI j → VL g X 0 0 u 2 [(0, .ref (g.2.1 i)), (1, .int mask), (2, .int x2_2)] [] := by
    intro k
    induction k with
    | zero =>
      rintro j x2_2 hk hno rfl
      have hjn : 16 = j := by omega
      subst hjn
      refine r_iload_n F 2 rfl dX0_canCarry_2 ?_
      refine r_bipush (v := 16) F (by decide) dX0_canCarry_3 ?_
      refine r_icmp_ge F 65 (by decide) dX0_canCarry_5 (fun c_5_2 => ?_) (fun c_5_2 => absurd (Int32.le_refl _) c_5_2)
      clear c_5_2
      refine r_iconst (v := 1) F (by decide) dX0_canCarry_65 ?_
      exact hret _ _ _ _ _ _ (Nat.le_of_ble_eq_true rfl) (Nat.le_of_ble_eq_true rfl) ⟨by rw [canM, hno]; rfl, rfl⟩ dX0_canCarry_66
    | succ k ih_2 =>
      rintro j x2_2 hk hno rfl
      have hb : j < 16 := by omega
      refine r_iload_n F 2 rfl dX0_canCarry_2 ?_
      refine r_bipush (v := 16) F (by decide) dX0_canCarry_3 ?_
      refine r_icmp_ge F 65 (by decide) dX0_canCarry_5 (fun c_5_3 => absurd c_5_3 (nI_ge (b := 16) hb (by decide))) (fun c_5_3 => ?_)
      clear c_5_3
      refine r_aload_n F 0 rfl dX0_canCarry_8 ?_
      refine r_get (C := RX0) (T := TX0) (N := 7) F i hL.1 (by omega) hinX0 rfl 0 (by decide) (by decide +kernel) rfl dX0_canCarry_9 ?_
      refine r_iload_n F 2 rfl dX0_canCarry_12 ?_
      refine r_calli (g_SN (nA := 2) (As := [.ref (g.2.1 (i + 1)), .int (nI j)]) (rest := []) F (c_atL0 hL hi hb) gX0_canCarry_X3_at_n34 rfl 6 rfl (by decide +kernel) (by decide +kernel) (by decide +kernel) rfl ⟨Nat.le_of_ble_eq_true rfl, Nat.le_of_ble_eq_true rfl⟩ ⟨Nat.le_of_ble_eq_true rfl, Nat.le_of_ble_eq_true rfl⟩ rfl (Nat.le_of_ble_eq_true rfl) dX0_canCarry_13) (fun r_4 u_4 hp_4 => ?_)
      obtain ⟨rfl, rfl⟩ := hp_4
      refine r_if_eq F 31 (by decide) dX0_canCarry_16 (fun c_16_5 => ?_) (fun c_16_5 => ?_)
      · skip
        refine r_iconst (v := 1) F (by decide) dX0_canCarry_31 ?_
        refine r_goto F 36 (by decide) dX0_canCarry_32 ?_
        refine r_istore_n (lv' := [(0, .ref (g.2.1 i)), (1, .int mask), (2, .int (nI j)), (3, .int 1)]) F (by decide) rfl dX0_canCarry_36 ?_
        refine r_iload_n F 2 rfl dX0_canCarry_37 ?_
        refine r_iload_n F 1 rfl dX0_canCarry_38 ?_
        refine r_calli (g_SN (nA := 2) (As := [.int (nI j), .int mask]) (rest := []) F (c_X3_isInMask) gX0_canCarry_X3_isInMask_n70 rfl 17 rfl (by decide +kernel) (by decide +kernel) (by decide +kernel) rfl ⟨Nat.le_of_ble_eq_true rfl, Nat.le_of_ble_eq_true rfl⟩ ⟨Nat.le_of_ble_eq_true rfl, Nat.le_of_ble_eq_true rfl⟩ rfl (Nat.le_of_ble_eq_true rfl) dX0_canCarry_39) (fun r_6 u_6 hp_6 => ?_)
        obtain ⟨rfl, rfl⟩ := hp_6
        refine r_if_eq F 59 (by decide) dX0_canCarry_42 (fun c_42_7 => ?_) (fun c_42_7 => ?_)
        · skip
          replace c_42_7 := bI0 c_42_7
          refine r_iinc (lv' := [(0, .ref (g.2.1 i)), (1, .int mask), (2, .int (nI (j + 1))), (3, .int 1)]) F 2 rfl (nI_inc _) (by decide) rfl dX0_canCarry_59 ?_
          refine r_goto F 2 (by decide) dX0_canCarry_62 ?_
          refine r_lv (lv2 := [(0, .ref (g.2.1 i)), (1, .int mask), (2, .int (nI (j + 1)))]) (by simp) ?_
          exact ih_2 (j + 1) _ (by omega) (by simp [anyN, hno, canK_eq hn hG hb, c_16_5, c_42_7]) rfl
        · skip
          replace c_42_7 := bI1 c_42_7
          refine r_aload_n F 0 rfl dX0_canCarry_45 ?_
          refine r_iload_n F 2 rfl dX0_canCarry_46 ?_
          refine r_calli (g_V (C := RX0) (T := TX0) (N := 7) (nA := 1) (As := [.int (nI j)]) (rest := []) F i hL.1 (by omega) rfl (c_X0_has h hi) gX0_canCarry_X0_has rfl (by decide +kernel) rfl ⟨Nat.le_of_ble_eq_true rfl, Nat.le_of_ble_eq_true rfl⟩ ⟨Nat.le_of_ble_eq_true rfl, Nat.le_of_ble_eq_true rfl⟩ rfl (Nat.le_of_ble_eq_true rfl) dX0_canCarry_47) (fun r_8 u_8 hp_8 => ?_)
          obtain ⟨rfl, rfl⟩ := hp_8
          refine r_if_eq F 57 (by decide) dX0_canCarry_50 (fun c_50_9 => ?_) (fun c_50_9 => ?_)
          · skip
            replace c_50_9 := bI0 c_50_9
            refine r_iconst (v := 0) F (by decide) dX0_canCarry_57 ?_
            exact hret _ _ _ _ _ _ (Nat.le_of_ble_eq_true rfl) (Nat.le_of_ble_eq_true rfl) ⟨by rw [canM, anyN_t hb (show canK B n mask j = true by simp [canK_eq hn hG hb, c_16_5, c_42_7, c_50_9])]; rfl, rfl⟩ dX0_canCarry_58
          · skip
            replace c_50_9 := bI1 c_50_9
            refine r_iload_n F 3 rfl dX0_canCarry_53 ?_
            refine r_if_ne F 59 (by decide) dX0_canCarry_54 (fun c_54_10 => ?_) (fun c_54_10 => absurd c_54_10 (by decide))
            clear c_54_10
            refine r_iinc (lv' := [(0, .ref (g.2.1 i)), (1, .int mask), (2, .int (nI (j + 1))), (3, .int 1)]) F 2 rfl (nI_inc _) (by decide) rfl dX0_canCarry_59 ?_
            refine r_goto F 2 (by decide) dX0_canCarry_62 ?_
            refine r_lv (lv2 := [(0, .ref (g.2.1 i)), (1, .int mask), (2, .int (nI (j + 1)))]) (by simp) ?_
            exact ih_2 (j + 1) _ (by omega) (by simp [anyN, hno, canK_eq hn hG hb, c_16_5, c_42_7, c_50_9]) rfl
      · skip
        refine r_aload_n F 0 rfl dX0_canCarry_19 ?_
        refine r_get (C := RX0) (T := TX0) (N := 7) F i hL.1 (by omega) hinX0 rfl 0 (by decide) (by decide +kernel) rfl dX0_canCarry_20 ?_
        refine r_iload_n F 2 rfl dX0_canCarry_23 ?_
        refine r_calli (g_SN (nA := 2) (As := [.ref (g.2.1 (i + 1)), .int (nI j)]) (rest := []) F (c_atL0 hL hi hb) gX0_canCarry_X3_at_n34 rfl 6 rfl (by decide +kernel) (by decide +kernel) (by decide +kernel) rfl ⟨Nat.le_of_ble_eq_true rfl, Nat.le_of_ble_eq_true rfl⟩ ⟨Nat.le_of_ble_eq_true rfl, Nat.le_of_ble_eq_true rfl⟩ rfl (Nat.le_of_ble_eq_true rfl) dX0_canCarry_24) (fun r_11 u_11 hp_11 => ?_)
        obtain ⟨rfl, rfl⟩ := hp_11
        refine r_iconst (v := 3) F (by decide) dX0_canCarry_27 ?_
        refine r_icmp_ne F 35 (by decide) dX0_canCarry_28 (fun c_28_12 => ?_) (fun c_28_12 => ?_)
        · skip
          refine r_iconst (v := 0) F (by decide) dX0_canCarry_35 ?_
          refine r_istore_n (lv' := [(0, .ref (g.2.1 i)), (1, .int mask), (2, .int (nI j)), (3, .int 0)]) F (by decide) rfl dX0_canCarry_36 ?_
          refine r_iload_n F 2 rfl dX0_canCarry_37 ?_
          refine r_iload_n F 1 rfl dX0_canCarry_38 ?_
          refine r_calli (g_SN (nA := 2) (As := [.int (nI j), .int mask]) (rest := []) F (c_X3_isInMask) gX0_canCarry_X3_isInMask_n70 rfl 17 rfl (by decide +kernel) (by decide +kernel) (by decide +kernel) rfl ⟨Nat.le_of_ble_eq_true rfl, Nat.le_of_ble_eq_true rfl⟩ ⟨Nat.le_of_ble_eq_true rfl, Nat.le_of_ble_eq_true rfl⟩ rfl (Nat.le_of_ble_eq_true rfl) dX0_canCarry_39) (fun r_13 u_13 hp_13 => ?_)
          obtain ⟨rfl, rfl⟩ := hp_13
          refine r_if_eq F 59 (by decide) dX0_canCarry_42 (fun c_42_14 => ?_) (fun c_42_14 => ?_)
          · skip
            replace c_42_14 := bI0 c_42_14
            refine r_iinc (lv' := [(0, .ref (g.2.1 i)), (1, .int mask), (2, .int (nI (j + 1))), (3, .int 0)]) F 2 rfl (nI_inc _) (by decide) rfl dX0_canCarry_59 ?_
            refine r_goto F 2 (by decide) dX0_canCarry_62 ?_
            refine r_lv (lv2 := [(0, .ref (g.2.1 i)), (1, .int mask), (2, .int (nI (j + 1)))]) (by simp) ?_
            exact ih_2 (j + 1) _ (by omega) (by simp [anyN, hno, canK_eq hn hG hb, c_16_5, c_28_12, c_42_14]) rfl
          · skip
            replace c_42_14 := bI1 c_42_14
            refine r_aload_n F 0 rfl dX0_canCarry_45 ?_
            refine r_iload_n F 2 rfl dX0_canCarry_46 ?_
            refine r_calli (g_V (C := RX0) (T := TX0) (N := 7) (nA := 1) (As := [.int (nI j)]) (rest := []) F i hL.1 (by omega) rfl (c_X0_has h hi) gX0_canCarry_X0_has rfl (by decide +kernel) rfl ⟨Nat.le_of_ble_eq_true rfl, Nat.le_of_ble_eq_true rfl⟩ ⟨Nat.le_of_ble_eq_true rfl, Nat.le_of_ble_eq_true rfl⟩ rfl (Nat.le_of_ble_eq_true rfl) dX0_canCarry_47) (fun r_15 u_15 hp_15 => ?_)
            obtain ⟨rfl, rfl⟩ := hp_15
            refine r_if_eq F 57 (by decide) dX0_canCarry_50 (fun c_50_16 => ?_) (fun c_50_16 => ?_)
            · skip
              replace c_50_16 := bI0 c_50_16
              refine r_iconst (v := 0) F (by decide) dX0_canCarry_57 ?_
              exact hret _ _ _ _ _ _ (Nat.le_of_ble_eq_true rfl) (Nat.le_of_ble_eq_true rfl) ⟨by rw [canM, anyN_t hb (show canK B n mask j = true by simp [canK_eq hn hG hb, c_16_5, c_28_12, c_42_14, c_50_16])]; rfl, rfl⟩ dX0_canCarry_58
            · skip
              replace c_50_16 := bI1 c_50_16
              refine r_iload_n F 3 rfl dX0_canCarry_53 ?_
              refine r_if_ne F 59 (by decide) dX0_canCarry_54 (fun c_54_17 => absurd c_54_17 (by decide)) (fun c_54_17 => ?_)
              clear c_54_17
              refine r_iconst (v := 0) F (by decide) dX0_canCarry_57 ?_
              exact hret _ _ _ _ _ _ (Nat.le_of_ble_eq_true rfl) (Nat.le_of_ble_eq_true rfl) ⟨by rw [canM, anyN_t hb (show canK B n mask j = true by simp [canK_eq hn hG hb, c_16_5, c_28_12, c_42_14, c_50_16])]; rfl, rfl⟩ dX0_canCarry_58
        · skip
          refine r_iconst (v := 1) F (by decide) dX0_canCarry_31 ?_
          refine r_goto F 36 (by decide) dX0_canCarry_32 ?_
          refine r_istore_n (lv' := [(0, .ref (g.2.1 i)), (1, .int mask), (2, .int (nI j)), (3, .int 1)]) F (by decide) rfl dX0_canCarry_36 ?_
          refine r_iload_n F 2 rfl dX0_canCarry_37 ?_
          refine r_iload_n F 1 rfl dX0_canCarry_38 ?_
          refine r_calli (g_SN (nA := 2) (As := [.int (nI j), .int mask]) (rest := []) F (c_X3_isInMask) gX0_canCarry_X3_isInMask_n70 rfl 17 rfl (by decide +kernel) (by decide +kernel) (by decide +kernel) rfl ⟨Nat.le_of_ble_eq_true rfl, Nat.le_of_ble_eq_true rfl⟩ ⟨Nat.le_of_ble_eq_true rfl, Nat.le_of_ble_eq_true rfl⟩ rfl (Nat.le_of_ble_eq_true rfl) dX0_canCarry_39) (fun r_18 u_18 hp_18 => ?_)
          obtain ⟨rfl, rfl⟩ := hp_18
          refine r_if_eq F 59 (by decide) dX0_canCarry_42 (fun c_42_19 => ?_) (fun c_42_19 => ?_)
          · skip
            replace c_42_19 := bI0 c_42_19
            refine r_iinc (lv' := [(0, .ref (g.2.1 i)), (1, .int mask), (2, .int (nI (j + 1))), (3, .int 1)]) F 2 rfl (nI_inc _) (by decide) rfl dX0_canCarry_59 ?_
            refine r_goto F 2 (by decide) dX0_canCarry_62 ?_
            refine r_lv (lv2 := [(0, .ref (g.2.1 i)), (1, .int mask), (2, .int (nI (j + 1)))]) (by simp) ?_
            exact ih_2 (j + 1) _ (by omega) (by simp [anyN, hno, canK_eq hn hG hb, c_16_5, c_28_12, c_42_19]) rfl
          · skip
            replace c_42_19 := bI1 c_42_19
            refine r_aload_n F 0 rfl dX0_canCarry_45 ?_
            refine r_iload_n F 2 rfl dX0_canCarry_46 ?_
            refine r_calli (g_V (C := RX0) (T := TX0) (N := 7) (nA := 1) (As := [.int (nI j)]) (rest := []) F i hL.1 (by omega) rfl (c_X0_has h hi) gX0_canCarry_X0_has rfl (by decide +kernel) rfl ⟨Nat.le_of_ble_eq_true rfl, Nat.le_of_ble_eq_true rfl⟩ ⟨Nat.le_of_ble_eq_true rfl, Nat.le_of_ble_eq_true rfl⟩ rfl (Nat.le_of_ble_eq_true rfl) dX0_canCarry_47) (fun r_20 u_20 hp_20 => ?_)
            obtain ⟨rfl, rfl⟩ := hp_20
            refine r_if_eq F 57 (by decide) dX0_canCarry_50 (fun c_50_21 => ?_) (fun c_50_21 => ?_)
            · skip
              replace c_50_21 := bI0 c_50_21
              refine r_iconst (v := 0) F (by decide) dX0_canCarry_57 ?_
              exact hret _ _ _ _ _ _ (Nat.le_of_ble_eq_true rfl) (Nat.le_of_ble_eq_true rfl) ⟨by rw [canM, anyN_t hb (show canK B n mask j = true by simp [canK_eq hn hG hb, c_16_5, c_28_12, c_42_19, c_50_21])]; rfl, rfl⟩ dX0_canCarry_58
            · skip
              replace c_50_21 := bI1 c_50_21
              refine r_iload_n F 3 rfl dX0_canCarry_53 ?_
              refine r_if_ne F 59 (by decide) dX0_canCarry_54 (fun c_54_22 => ?_) (fun c_54_22 => absurd c_54_22 (by decide))
              clear c_54_22
              refine r_iinc (lv' := [(0, .ref (g.2.1 i)), (1, .int mask), (2, .int (nI (j + 1))), (3, .int 1)]) F 2 rfl (nI_inc _) (by decide) rfl dX0_canCarry_59 ?_
              refine r_goto F 2 (by decide) dX0_canCarry_62 ?_
              refine r_lv (lv2 := [(0, .ref (g.2.1 i)), (1, .int mask), (2, .int (nI (j + 1)))]) (by simp) ?_
              exact ih_2 (j + 1) _ (by omega) (by simp [anyN, hno, canK_eq hn hG hb, c_16_5, c_28_12, c_42_19, c_50_21]) rfl
  exact loop_2 16 0 _ (by omega) rfl rfl

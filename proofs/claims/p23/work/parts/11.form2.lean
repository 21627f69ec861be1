set_option maxHeartbeats 4000000 in
set_option maxRecDepth 100000 in
theorem c_X0_has {g : kG} {l : Launch} {u : Nat → va_E} {i n : Nat} {B : kB} {x : Int32} (h : FmB g u i n B) (hi : i + 7 ≤ kN)  : CI g l yX0_has wsX0_has ({ frames := 0, cells := 0, slots := 0, locals := 0 }) [.ref (g.2.1 i), .int x] u (fun r u' => r = bI (hasB n x) ∧ u = u') := by
  refine CI.of (cc := cX0_has) (nL := 2) (ty := .boolean) (by decide +kernel) rfl (fun v u' h => by obtain ⟨h, -⟩ := h; rw [h]; exact bI_n _) (Nat.le_of_ble_eq_true rfl) ?_
  intro X hXl F hret
  subst hXl
  have hinX0 : ∀ w ∈ wsX00, w ∈ wsX0_has := by decide +kernel
  show VL g X 0 0 u 0 [(0, .ref (g.2.1 i)), (1, .int x)] []
  refine r_iload_n F 1 rfl dX0_has_0 ?_
  refine r_if_lt F 16 (by decide) dX0_has_1 (fun c_1_1 => ?_) (fun c_1_1 => ?_)
  · skip
    refine r_iconst (v := 0) F (by decide) dX0_has_16 ?_
    exact hret _ _ _ _ _ _ (Nat.le_of_ble_eq_true rfl) (Nat.le_of_ble_eq_true rfl) ⟨by simp [hasB, bI, c_1_1], rfl⟩ dX0_has_17
  · skip
    refine r_iload_n F 1 rfl dX0_has_4 ?_
    refine r_aload_n F 0 rfl dX0_has_5 ?_
    refine r_get (C := RX0) (T := TX0) (N := 7) F i h.obj (by omega) hinX0 rfl 6 (by decide) (by decide +kernel) rfl dX0_has_6 ?_
    refine r_icmp_ge F 16 (by decide) dX0_has_9 (fun c_9_2 => ?_) (fun c_9_2 => ?_)
    · skip
      refine r_iconst (v := 0) F (by decide) dX0_has_16 ?_
      exact hret _ _ _ _ _ _ (Nat.le_of_ble_eq_true rfl) (Nat.le_of_ble_eq_true rfl) ⟨by simp [hasB, bI, c_1_1, c_9_2], rfl⟩ dX0_has_17
    · skip
      refine r_iconst (v := 1) F (by decide) dX0_has_12 ?_
      refine r_goto F 17 (by decide) dX0_has_13 ?_
      exact hret _ _ _ _ _ _ (Nat.le_of_ble_eq_true rfl) (Nat.le_of_ble_eq_true rfl) ⟨by simp [hasB, bI, c_1_1, c_9_2], rfl⟩ dX0_has_17
set_option maxHeartbeats 4000000 in
set_option maxRecDepth 100000 in
theorem c_X0_wantingIn {g : kG} {l : Launch} {u : Nat → va_E} {i n : Nat} {B : kB} {p mask : Int32} (h : FmB g u i n B) (hi : i + 7 ≤ kN)  : CI g l yX0_wantingIn wsX0_wantingIn ({ frames := 3, cells := 0, slots := 0, locals := 65 }) [.ref (g.2.1 i), .int p, .int mask] u (fun r u' => r = cntN n (fun b => decide (B b 1 = p) && qWts B mask b) ∧ u = u') := by
  refine CI.of (cc := cX0_wantingIn) (nL := 5) (ty := .int) (by decide +kernel) rfl (fun _ _ _ => rfl) (Nat.le_of_ble_eq_true rfl) ?_
  intro X hXl F hret
  subst hXl
  have hinX0 : ∀ w ∈ wsX00, w ∈ wsX0_wantingIn := by decide +kernel
  show VL g X 0 0 u 0 [(0, .ref (g.2.1 i)), (1, .int p), (2, .int mask)] []
  refine r_iconst (v := 0) F (by decide) dX0_wantingIn_0 ?_
  refine r_istore_n (lv' := [(0, .ref (g.2.1 i)), (1, .int p), (2, .int mask), (3, .int 0)]) F (by decide) rfl dX0_wantingIn_1 ?_
  refine r_iconst (v := 0) F (by decide) dX0_wantingIn_2 ?_
  refine r_istore (lv' := [(0, .ref (g.2.1 i)), (1, .int p), (2, .int mask), (3, .int 0), (4, .int 0)]) F (by decide) rfl dX0_wantingIn_3 ?_
  have loop_5 : ∀ (k : Nat) (j : Nat) (x3_5 : Int32) (x4_5 : Int32), j + k = n → x3_5 = cntN j (fun b => decide (B b 1 = p) && qWts B mask b) → x4_5 = nI j → VL g X 0 0 u 5 [(0, .ref (g.2.1 i)), (1, .int p), (2, .int mask), (3, .int x3_5), (4, .int x4_5)] [] := by
    intro k
    induction k with
    | zero =>
      rintro j x3_5 x4_5 hk rfl rfl
      have hjn : n = j := by omega
      subst hjn
      refine r_iload F 4 rfl dX0_wantingIn_5 ?_
      refine r_aload_n F 0 rfl dX0_wantingIn_7 ?_
      refine r_get (C := RX0) (T := TX0) (N := 7) F i h.obj (by omega) hinX0 rfl 6 (by decide) (by decide +kernel) rfl dX0_wantingIn_8 ?_
      refine r_icmp_ge F 46 (by decide) dX0_wantingIn_11 (fun c_11_2 => ?_) (fun c_11_2 => absurd (Int32.le_refl _) c_11_2)
      clear c_11_2
      refine r_iload_n F 3 rfl dX0_wantingIn_46 ?_
      exact hret _ _ _ _ _ _ (Nat.le_of_ble_eq_true rfl) (Nat.le_of_ble_eq_true rfl) ⟨by simp [], rfl⟩ dX0_wantingIn_47
    | succ k ih_5 =>
      rintro j x3_5 x4_5 hk rfl rfl
      have hb : j < n := by omega
      refine r_iload F 4 rfl dX0_wantingIn_5 ?_
      refine r_aload_n F 0 rfl dX0_wantingIn_7 ?_
      refine r_get (C := RX0) (T := TX0) (N := 7) F i h.obj (by omega) hinX0 rfl 6 (by decide) (by decide +kernel) rfl dX0_wantingIn_8 ?_
      refine r_icmp_ge F 46 (by decide) dX0_wantingIn_11 (fun c_11_3 => absurd c_11_3 (nI_ge (b := n) hb (by have := h.le; omega))) (fun c_11_3 => ?_)
      clear c_11_3
      refine r_aload_n F 0 rfl dX0_wantingIn_14 ?_
      refine r_get (C := RX0) (T := TX0) (N := 7) F i h.obj (by omega) hinX0 rfl 1 (by decide) (by decide +kernel) rfl dX0_wantingIn_15 ?_
      refine r_iload F 4 rfl dX0_wantingIn_18 ?_
      refine r_calli (g_SN (nA := 2) (As := [.ref (g.2.1 (i + 2)), .int (nI j)]) (rest := []) F (c_atB1 h hi hb) gX0_wantingIn_X3_at_n34 rfl 6 rfl (by decide +kernel) (by decide +kernel) (by decide +kernel) rfl ⟨Nat.le_of_ble_eq_true rfl, Nat.le_of_ble_eq_true rfl⟩ ⟨Nat.le_of_ble_eq_true rfl, Nat.le_of_ble_eq_true rfl⟩ rfl (Nat.le_of_ble_eq_true rfl) dX0_wantingIn_20) (fun r_4 u_4 hp_4 => ?_)
      obtain ⟨rfl, rfl⟩ := hp_4
      refine r_iload_n F 1 rfl dX0_wantingIn_23 ?_
      refine r_icmp_ne F 40 (by decide) dX0_wantingIn_24 (fun c_24_5 => ?_) (fun c_24_5 => ?_)
      · skip
        refine r_iinc (lv' := [(0, .ref (g.2.1 i)), (1, .int p), (2, .int mask), (3, .int (cntN j (fun b => decide (B b 1 = p) && qWts B mask b))), (4, .int (nI (j + 1)))]) F 4 rfl (nI_inc _) (by decide) rfl dX0_wantingIn_40 ?_
        refine r_goto F 5 (by decide) dX0_wantingIn_43 ?_
        exact ih_5 (j + 1) _ _ (by omega)  (by simp [cntN, bI, c_24_5]) rfl
      · skip
        refine r_aload_n F 0 rfl dX0_wantingIn_27 ?_
        refine r_iload F 4 rfl dX0_wantingIn_28 ?_
        refine r_iload_n F 2 rfl dX0_wantingIn_30 ?_
        refine r_calli (g_V (C := RX0) (T := TX0) (N := 7) (nA := 2) (As := [.int (nI j), .int mask]) (rest := []) F i h.obj (by omega) rfl (c_X0_wants h hi hb) gX0_wantingIn_X0_wants rfl (by decide +kernel) rfl ⟨Nat.le_of_ble_eq_true rfl, Nat.le_of_ble_eq_true rfl⟩ ⟨Nat.le_of_ble_eq_true rfl, Nat.le_of_ble_eq_true rfl⟩ rfl (Nat.le_of_ble_eq_true rfl) dX0_wantingIn_31) (fun r_6 u_6 hp_6 => ?_)
        obtain ⟨rfl, rfl⟩ := hp_6
        refine r_if_eq F 40 (by decide) dX0_wantingIn_34 (fun c_34_7 => ?_) (fun c_34_7 => ?_)
        · skip
          replace c_34_7 := bI0 c_34_7
          refine r_iinc (lv' := [(0, .ref (g.2.1 i)), (1, .int p), (2, .int mask), (3, .int (cntN j (fun b => decide (B b 1 = p) && qWts B mask b))), (4, .int (nI (j + 1)))]) F 4 rfl (nI_inc _) (by decide) rfl dX0_wantingIn_40 ?_
          refine r_goto F 5 (by decide) dX0_wantingIn_43 ?_
          exact ih_5 (j + 1) _ _ (by omega)  (by simp [cntN, bI, c_24_5, c_34_7]) rfl
        · skip
          replace c_34_7 := bI1 c_34_7
          refine r_iinc (lv' := [(0, .ref (g.2.1 i)), (1, .int p), (2, .int mask), (3, .int ((cntN j (fun b => decide (B b 1 = p) && qWts B mask b)) + 1)), (4, .int (nI j))]) F 3 rfl rfl (by decide) rfl dX0_wantingIn_37 ?_
          refine r_iinc (lv' := [(0, .ref (g.2.1 i)), (1, .int p), (2, .int mask), (3, .int ((cntN j (fun b => decide (B b 1 = p) && qWts B mask b)) + 1)), (4, .int (nI (j + 1)))]) F 4 rfl (nI_inc _) (by decide) rfl dX0_wantingIn_40 ?_
          refine r_goto F 5 (by decide) dX0_wantingIn_43 ?_
          exact ih_5 (j + 1) _ _ (by omega)  (by simp [cntN, bI, c_24_5, c_34_7]) rfl
  exact loop_5 n 0 _ _ (by omega)  rfl rfl
set_option maxHeartbeats 4000000 in
set_option maxRecDepth 100000 in
theorem c_X0_openBoxes {g : kG} {l : Launch} {u : Nat → va_E} {i n : Nat} {B : kB} {mask : Int32} (h : FmB g u i n B) (hi : i + 7 ≤ kN)  : CI g l yX0_openBoxes wsX0_openBoxes ({ frames := 2, cells := 0, slots := 0, locals := 43 }) [.ref (g.2.1 i), .int mask] u (fun r u' => r = cntN n (qOpn B mask) ∧ u = u') := by
  refine CI.of (cc := cX0_openBoxes) (nL := 4) (ty := .int) (by decide +kernel) rfl (fun _ _ _ => rfl) (Nat.le_of_ble_eq_true rfl) ?_
  intro X hXl F hret
  subst hXl
  have hinX0 : ∀ w ∈ wsX00, w ∈ wsX0_openBoxes := by decide +kernel
  show VL g X 0 0 u 0 [(0, .ref (g.2.1 i)), (1, .int mask)] []
  refine r_iconst (v := 0) F (by decide) dX0_openBoxes_0 ?_
  refine r_istore_n (lv' := [(0, .ref (g.2.1 i)), (1, .int mask), (2, .int 0)]) F (by decide) rfl dX0_openBoxes_1 ?_
  refine r_iconst (v := 0) F (by decide) dX0_openBoxes_2 ?_
  refine r_istore_n (lv' := [(0, .ref (g.2.1 i)), (1, .int mask), (2, .int 0), (3, .int 0)]) F (by decide) rfl dX0_openBoxes_3 ?_
  have loop_4 : ∀ (k : Nat) (j : Nat) (x2_4 : Int32) (x3_4 : Int32), j + k = n → x2_4 = cntN j (qOpn B mask) → x3_4 = nI j → VL g X 0 0 u 4 [(0, .ref (g.2.1 i)), (1, .int mask), (2, .int x2_4), (3, .int x3_4)] [] := by
    intro k
    induction k with
    | zero =>
      rintro j x2_4 x3_4 hk rfl rfl
      have hjn : n = j := by omega
      subst hjn
      refine r_iload_n F 3 rfl dX0_openBoxes_4 ?_
      refine r_aload_n F 0 rfl dX0_openBoxes_5 ?_
      refine r_get (C := RX0) (T := TX0) (N := 7) F i h.obj (by omega) hinX0 rfl 6 (by decide) (by decide +kernel) rfl dX0_openBoxes_6 ?_
      refine r_icmp_ge F 30 (by decide) dX0_openBoxes_9 (fun c_9_2 => ?_) (fun c_9_2 => absurd (Int32.le_refl _) c_9_2)
      clear c_9_2
      refine r_iload_n F 2 rfl dX0_openBoxes_30 ?_
      exact hret _ _ _ _ _ _ (Nat.le_of_ble_eq_true rfl) (Nat.le_of_ble_eq_true rfl) ⟨by simp [], rfl⟩ dX0_openBoxes_31
    | succ k ih_4 =>
      rintro j x2_4 x3_4 hk rfl rfl
      have hb : j < n := by omega
      refine r_iload_n F 3 rfl dX0_openBoxes_4 ?_
      refine r_aload_n F 0 rfl dX0_openBoxes_5 ?_
      refine r_get (C := RX0) (T := TX0) (N := 7) F i h.obj (by omega) hinX0 rfl 6 (by decide) (by decide +kernel) rfl dX0_openBoxes_6 ?_
      refine r_icmp_ge F 30 (by decide) dX0_openBoxes_9 (fun c_9_3 => absurd c_9_3 (nI_ge (b := n) hb (by have := h.le; omega))) (fun c_9_3 => ?_)
      clear c_9_3
      refine r_aload_n F 0 rfl dX0_openBoxes_12 ?_
      refine r_iload_n F 3 rfl dX0_openBoxes_13 ?_
      refine r_iload_n F 1 rfl dX0_openBoxes_14 ?_
      refine r_calli (g_V (C := RX0) (T := TX0) (N := 7) (nA := 2) (As := [.int (nI j), .int mask]) (rest := []) F i h.obj (by omega) rfl (c_X0_isOpen h hi hb) gX0_openBoxes_X0_isOpen rfl (by decide +kernel) rfl ⟨Nat.le_of_ble_eq_true rfl, Nat.le_of_ble_eq_true rfl⟩ ⟨Nat.le_of_ble_eq_true rfl, Nat.le_of_ble_eq_true rfl⟩ rfl (Nat.le_of_ble_eq_true rfl) dX0_openBoxes_15) (fun r_4 u_4 hp_4 => ?_)
      obtain ⟨rfl, rfl⟩ := hp_4
      refine r_if_eq F 24 (by decide) dX0_openBoxes_18 (fun c_18_5 => ?_) (fun c_18_5 => ?_)
      · skip
        replace c_18_5 := bI0 c_18_5
        refine r_iinc (lv' := [(0, .ref (g.2.1 i)), (1, .int mask), (2, .int (cntN j (qOpn B mask))), (3, .int (nI (j + 1)))]) F 3 rfl (nI_inc _) (by decide) rfl dX0_openBoxes_24 ?_
        refine r_goto F 4 (by decide) dX0_openBoxes_27 ?_
        exact ih_4 (j + 1) _ _ (by omega)  (by simp [cntN, bI, c_18_5]) rfl
      · skip
        replace c_18_5 := bI1 c_18_5
        refine r_iinc (lv' := [(0, .ref (g.2.1 i)), (1, .int mask), (2, .int ((cntN j (qOpn B mask)) + 1)), (3, .int (nI j))]) F 2 rfl rfl (by decide) rfl dX0_openBoxes_21 ?_
        refine r_iinc (lv' := [(0, .ref (g.2.1 i)), (1, .int mask), (2, .int ((cntN j (qOpn B mask)) + 1)), (3, .int (nI (j + 1)))]) F 3 rfl (nI_inc _) (by decide) rfl dX0_openBoxes_24 ?_
        refine r_goto F 4 (by decide) dX0_openBoxes_27 ?_
        exact ih_4 (j + 1) _ _ (by omega)  (by simp [cntN, bI, c_18_5]) rfl
  exact loop_4 n 0 _ _ (by omega)  rfl rfl
set_option maxHeartbeats 4000000 in
set_option maxRecDepth 100000 in
theorem c_X0_openToAnswer {g : kG} {l : Launch} {u : Nat → va_E} {i n : Nat} {B : kB} {mask : Int32} (h : FmB g u i n B) (hi : i + 7 ≤ kN)  : CI g l yX0_openToAnswer wsX0_openToAnswer ({ frames := 2, cells := 0, slots := 0, locals := 43 }) [.ref (g.2.1 i), .int mask] u (fun r u' => r = cntN n (fun b => qOpn B mask b && !decide (B b 0 = 3)) ∧ u = u') := by
  refine CI.of (cc := cX0_openToAnswer) (nL := 4) (ty := .int) (by decide +kernel) rfl (fun _ _ _ => rfl) (Nat.le_of_ble_eq_true rfl) ?_
  intro X hXl F hret
  subst hXl
  have hinX0 : ∀ w ∈ wsX00, w ∈ wsX0_openToAnswer := by decide +kernel
  show VL g X 0 0 u 0 [(0, .ref (g.2.1 i)), (1, .int mask)] []
  refine r_iconst (v := 0) F (by decide) dX0_openToAnswer_0 ?_
  refine r_istore_n (lv' := [(0, .ref (g.2.1 i)), (1, .int mask), (2, .int 0)]) F (by decide) rfl dX0_openToAnswer_1 ?_
  refine r_iconst (v := 0) F (by decide) dX0_openToAnswer_2 ?_
  refine r_istore_n (lv' := [(0, .ref (g.2.1 i)), (1, .int mask), (2, .int 0), (3, .int 0)]) F (by decide) rfl dX0_openToAnswer_3 ?_
  have loop_4 : ∀ (k : Nat) (j : Nat) (x2_4 : Int32) (x3_4 : Int32), j + k = n → x2_4 = cntN j (fun b => qOpn B mask b && !decide (B b 0 = 3)) → x3_4 = nI j → VL g X 0 0 u 4 [(0, .ref (g.2.1 i)), (1, .int mask), (2, .int x2_4), (3, .int x3_4)] [] := by
    intro k
    induction k with
    | zero =>
      rintro j x2_4 x3_4 hk rfl rfl
      have hjn : n = j := by omega
      subst hjn
      refine r_iload_n F 3 rfl dX0_openToAnswer_4 ?_
      refine r_aload_n F 0 rfl dX0_openToAnswer_5 ?_
      refine r_get (C := RX0) (T := TX0) (N := 7) F i h.obj (by omega) hinX0 rfl 6 (by decide) (by decide +kernel) rfl dX0_openToAnswer_6 ?_
      refine r_icmp_ge F 42 (by decide) dX0_openToAnswer_9 (fun c_9_2 => ?_) (fun c_9_2 => absurd (Int32.le_refl _) c_9_2)
      clear c_9_2
      refine r_iload_n F 2 rfl dX0_openToAnswer_42 ?_
      exact hret _ _ _ _ _ _ (Nat.le_of_ble_eq_true rfl) (Nat.le_of_ble_eq_true rfl) ⟨by simp [], rfl⟩ dX0_openToAnswer_43
    | succ k ih_4 =>
      rintro j x2_4 x3_4 hk rfl rfl
      have hb : j < n := by omega
      refine r_iload_n F 3 rfl dX0_openToAnswer_4 ?_
      refine r_aload_n F 0 rfl dX0_openToAnswer_5 ?_
      refine r_get (C := RX0) (T := TX0) (N := 7) F i h.obj (by omega) hinX0 rfl 6 (by decide) (by decide +kernel) rfl dX0_openToAnswer_6 ?_
      refine r_icmp_ge F 42 (by decide) dX0_openToAnswer_9 (fun c_9_3 => absurd c_9_3 (nI_ge (b := n) hb (by have := h.le; omega))) (fun c_9_3 => ?_)
      clear c_9_3
      refine r_aload_n F 0 rfl dX0_openToAnswer_12 ?_
      refine r_iload_n F 3 rfl dX0_openToAnswer_13 ?_
      refine r_iload_n F 1 rfl dX0_openToAnswer_14 ?_
      refine r_calli (g_V (C := RX0) (T := TX0) (N := 7) (nA := 2) (As := [.int (nI j), .int mask]) (rest := []) F i h.obj (by omega) rfl (c_X0_isOpen h hi hb) gX0_openToAnswer_X0_isOpen rfl (by decide +kernel) rfl ⟨Nat.le_of_ble_eq_true rfl, Nat.le_of_ble_eq_true rfl⟩ ⟨Nat.le_of_ble_eq_true rfl, Nat.le_of_ble_eq_true rfl⟩ rfl (Nat.le_of_ble_eq_true rfl) dX0_openToAnswer_15) (fun r_4 u_4 hp_4 => ?_)
      obtain ⟨rfl, rfl⟩ := hp_4
      refine r_if_eq F 36 (by decide) dX0_openToAnswer_18 (fun c_18_5 => ?_) (fun c_18_5 => ?_)
      · skip
        replace c_18_5 := bI0 c_18_5
        refine r_iinc (lv' := [(0, .ref (g.2.1 i)), (1, .int mask), (2, .int (cntN j (fun b => qOpn B mask b && !decide (B b 0 = 3)))), (3, .int (nI (j + 1)))]) F 3 rfl (nI_inc _) (by decide) rfl dX0_openToAnswer_36 ?_
        refine r_goto F 4 (by decide) dX0_openToAnswer_39 ?_
        exact ih_4 (j + 1) _ _ (by omega)  (by simp [cntN, bI, c_18_5]) rfl
      · skip
        replace c_18_5 := bI1 c_18_5
        refine r_aload_n F 0 rfl dX0_openToAnswer_21 ?_
        refine r_get (C := RX0) (T := TX0) (N := 7) F i h.obj (by omega) hinX0 rfl 0 (by decide) (by decide +kernel) rfl dX0_openToAnswer_22 ?_
        refine r_iload_n F 3 rfl dX0_openToAnswer_25 ?_
        refine r_calli (g_SN (nA := 2) (As := [.ref (g.2.1 (i + 1)), .int (nI j)]) (rest := []) F (c_atB0 h hi hb) gX0_openToAnswer_X3_at_n34 rfl 6 rfl (by decide +kernel) (by decide +kernel) (by decide +kernel) rfl ⟨Nat.le_of_ble_eq_true rfl, Nat.le_of_ble_eq_true rfl⟩ ⟨Nat.le_of_ble_eq_true rfl, Nat.le_of_ble_eq_true rfl⟩ rfl (Nat.le_of_ble_eq_true rfl) dX0_openToAnswer_26) (fun r_6 u_6 hp_6 => ?_)
        obtain ⟨rfl, rfl⟩ := hp_6
        refine r_iconst (v := 3) F (by decide) dX0_openToAnswer_29 ?_
        refine r_icmp_eq F 36 (by decide) dX0_openToAnswer_30 (fun c_30_7 => ?_) (fun c_30_7 => ?_)
        · skip
          refine r_iinc (lv' := [(0, .ref (g.2.1 i)), (1, .int mask), (2, .int (cntN j (fun b => qOpn B mask b && !decide (B b 0 = 3)))), (3, .int (nI (j + 1)))]) F 3 rfl (nI_inc _) (by decide) rfl dX0_openToAnswer_36 ?_
          refine r_goto F 4 (by decide) dX0_openToAnswer_39 ?_
          exact ih_4 (j + 1) _ _ (by omega)  (by simp [cntN, bI, c_18_5, c_30_7]) rfl
        · skip
          refine r_iinc (lv' := [(0, .ref (g.2.1 i)), (1, .int mask), (2, .int ((cntN j (fun b => qOpn B mask b && !decide (B b 0 = 3))) + 1)), (3, .int (nI j))]) F 2 rfl rfl (by decide) rfl dX0_openToAnswer_33 ?_
          refine r_iinc (lv' := [(0, .ref (g.2.1 i)), (1, .int mask), (2, .int ((cntN j (fun b => qOpn B mask b && !decide (B b 0 = 3))) + 1)), (3, .int (nI (j + 1)))]) F 3 rfl (nI_inc _) (by decide) rfl dX0_openToAnswer_36 ?_
          refine r_goto F 4 (by decide) dX0_openToAnswer_39 ?_
          exact ih_4 (j + 1) _ _ (by omega)  (by simp [cntN, bI, c_18_5, c_30_7]) rfl
  exact loop_4 n 0 _ _ (by omega)  rfl rfl
set_option maxHeartbeats 4000000 in
set_option maxRecDepth 100000 in
theorem c_X0_answered {g : kG} {l : Launch} {u : Nat → va_E} {i n : Nat} {B : kB}  (h : FmB g u i n B) (hi : i + 7 ≤ kN)  : CI g l yX0_answered wsX0_answered ({ frames := 1, cells := 0, slots := 0, locals := 21 }) [.ref (g.2.1 i)] u (fun r u' => r = cntN n (fun b => !decide (B b 4 = -1)) ∧ u = u') := by
  refine CI.of (cc := cX0_answered) (nL := 3) (ty := .int) (by decide +kernel) rfl (fun _ _ _ => rfl) (Nat.le_of_ble_eq_true rfl) ?_
  intro X hXl F hret
  subst hXl
  have hinX0 : ∀ w ∈ wsX00, w ∈ wsX0_answered := by decide +kernel
  show VL g X 0 0 u 0 [(0, .ref (g.2.1 i))] []
  refine r_iconst (v := 0) F (by decide) dX0_answered_0 ?_
  refine r_istore_n (lv' := [(0, .ref (g.2.1 i)), (1, .int 0)]) F (by decide) rfl dX0_answered_1 ?_
  refine r_iconst (v := 0) F (by decide) dX0_answered_2 ?_
  refine r_istore_n (lv' := [(0, .ref (g.2.1 i)), (1, .int 0), (2, .int 0)]) F (by decide) rfl dX0_answered_3 ?_
  have loop_4 : ∀ (k : Nat) (j : Nat) (x1_4 : Int32) (x2_4 : Int32), j + k = n → x1_4 = cntN j (fun b => !decide (B b 4 = -1)) → x2_4 = nI j → VL g X 0 0 u 4 [(0, .ref (g.2.1 i)), (1, .int x1_4), (2, .int x2_4)] [] := by
    intro k
    induction k with
    | zero =>
      rintro j x1_4 x2_4 hk rfl rfl
      have hjn : n = j := by omega
      subst hjn
      refine r_iload_n F 2 rfl dX0_answered_4 ?_
      refine r_aload_n F 0 rfl dX0_answered_5 ?_
      refine r_get (C := RX0) (T := TX0) (N := 7) F i h.obj (by omega) hinX0 rfl 6 (by decide) (by decide +kernel) rfl dX0_answered_6 ?_
      refine r_icmp_ge F 33 (by decide) dX0_answered_9 (fun c_9_2 => ?_) (fun c_9_2 => absurd (Int32.le_refl _) c_9_2)
      clear c_9_2
      refine r_iload_n F 1 rfl dX0_answered_33 ?_
      exact hret _ _ _ _ _ _ (Nat.le_of_ble_eq_true rfl) (Nat.le_of_ble_eq_true rfl) ⟨by simp [], rfl⟩ dX0_answered_34
    | succ k ih_4 =>
      rintro j x1_4 x2_4 hk rfl rfl
      have hb : j < n := by omega
      refine r_iload_n F 2 rfl dX0_answered_4 ?_
      refine r_aload_n F 0 rfl dX0_answered_5 ?_
      refine r_get (C := RX0) (T := TX0) (N := 7) F i h.obj (by omega) hinX0 rfl 6 (by decide) (by decide +kernel) rfl dX0_answered_6 ?_
      refine r_icmp_ge F 33 (by decide) dX0_answered_9 (fun c_9_3 => absurd c_9_3 (nI_ge (b := n) hb (by have := h.le; omega))) (fun c_9_3 => ?_)
      clear c_9_3
      refine r_aload_n F 0 rfl dX0_answered_12 ?_
      refine r_get (C := RX0) (T := TX0) (N := 7) F i h.obj (by omega) hinX0 rfl 4 (by decide) (by decide +kernel) rfl dX0_answered_13 ?_
      refine r_iload_n F 2 rfl dX0_answered_16 ?_
      refine r_calli (g_SN (nA := 2) (As := [.ref (g.2.1 (i + 5)), .int (nI j)]) (rest := []) F (c_atB4 h hi hb) gX0_answered_X3_at_n34 rfl 6 rfl (by decide +kernel) (by decide +kernel) (by decide +kernel) rfl ⟨Nat.le_of_ble_eq_true rfl, Nat.le_of_ble_eq_true rfl⟩ ⟨Nat.le_of_ble_eq_true rfl, Nat.le_of_ble_eq_true rfl⟩ rfl (Nat.le_of_ble_eq_true rfl) dX0_answered_17) (fun r_4 u_4 hp_4 => ?_)
      obtain ⟨rfl, rfl⟩ := hp_4
      refine r_iconst (v := -1) F (by decide) dX0_answered_20 ?_
      refine r_icmp_eq F 27 (by decide) dX0_answered_21 (fun c_21_5 => ?_) (fun c_21_5 => ?_)
      · skip
        refine r_iinc (lv' := [(0, .ref (g.2.1 i)), (1, .int (cntN j (fun b => !decide (B b 4 = -1)))), (2, .int (nI (j + 1)))]) F 2 rfl (nI_inc _) (by decide) rfl dX0_answered_27 ?_
        refine r_goto F 4 (by decide) dX0_answered_30 ?_
        exact ih_4 (j + 1) _ _ (by omega)  (by simp [cntN, bI, c_21_5]) rfl
      · skip
        refine r_iinc (lv' := [(0, .ref (g.2.1 i)), (1, .int ((cntN j (fun b => !decide (B b 4 = -1))) + 1)), (2, .int (nI j))]) F 1 rfl rfl (by decide) rfl dX0_answered_24 ?_
        refine r_iinc (lv' := [(0, .ref (g.2.1 i)), (1, .int ((cntN j (fun b => !decide (B b 4 = -1))) + 1)), (2, .int (nI (j + 1)))]) F 2 rfl (nI_inc _) (by decide) rfl dX0_answered_27 ?_
        refine r_goto F 4 (by decide) dX0_answered_30 ?_
        exact ih_4 (j + 1) _ _ (by omega)  (by simp [cntN, bI, c_21_5]) rfl
  exact loop_4 n 0 _ _ (by omega)  rfl rfl
set_option maxHeartbeats 4000000 in
set_option maxRecDepth 100000 in
theorem c_X0_firstWanting {g : kG} {l : Launch} {u : Nat → va_E} {i n : Nat} {B : kB} {mask : Int32} (h : FmB g u i n B) (hi : i + 7 ≤ kN)  : CI g l yX0_firstWanting wsX0_firstWanting ({ frames := 3, cells := 0, slots := 0, locals := 65 }) [.ref (g.2.1 i), .int mask] u (fun r u' => r = fstN n (qWts B mask) ∧ u = u') := by
  refine CI.of (cc := cX0_firstWanting) (nL := 3) (ty := .int) (by decide +kernel) rfl (fun _ _ _ => rfl) (Nat.le_of_ble_eq_true rfl) ?_
  intro X hXl F hret
  subst hXl
  have hinX0 : ∀ w ∈ wsX00, w ∈ wsX0_firstWanting := by decide +kernel
  show VL g X 0 0 u 0 [(0, .ref (g.2.1 i)), (1, .int mask)] []
  refine r_iconst (v := 0) F (by decide) dX0_firstWanting_0 ?_
  refine r_istore_n (lv' := [(0, .ref (g.2.1 i)), (1, .int mask), (2, .int 0)]) F (by decide) rfl dX0_firstWanting_1 ?_
  have loop_2 : ∀ (k : Nat) (j : Nat) (x2_2 : Int32), j + k = n → anyN j (qWts B mask) = false → x2_2 = nI j → VL g X 0 0 u 2 [(0, .ref (g.2.1 i)), (1, .int mask), (2, .int x2_2)] [] := by
    intro k
    induction k with
    | zero =>
      rintro j x2_2 hk hno rfl
      have hjn : n = j := by omega
      subst hjn
      refine r_iload_n F 2 rfl dX0_firstWanting_2 ?_
      refine r_aload_n F 0 rfl dX0_firstWanting_3 ?_
      refine r_get (C := RX0) (T := TX0) (N := 7) F i h.obj (by omega) hinX0 rfl 6 (by decide) (by decide +kernel) rfl dX0_firstWanting_4 ?_
      refine r_icmp_ge F 27 (by decide) dX0_firstWanting_7 (fun c_7_2 => ?_) (fun c_7_2 => absurd (Int32.le_refl _) c_7_2)
      clear c_7_2
      refine r_iconst (v := -1) F (by decide) dX0_firstWanting_27 ?_
      exact hret _ _ _ _ _ _ (Nat.le_of_ble_eq_true rfl) (Nat.le_of_ble_eq_true rfl) ⟨by rw [fstN_none hno], rfl⟩ dX0_firstWanting_28
    | succ k ih_2 =>
      rintro j x2_2 hk hno rfl
      have hb : j < n := by omega
      refine r_iload_n F 2 rfl dX0_firstWanting_2 ?_
      refine r_aload_n F 0 rfl dX0_firstWanting_3 ?_
      refine r_get (C := RX0) (T := TX0) (N := 7) F i h.obj (by omega) hinX0 rfl 6 (by decide) (by decide +kernel) rfl dX0_firstWanting_4 ?_
      refine r_icmp_ge F 27 (by decide) dX0_firstWanting_7 (fun c_7_3 => absurd c_7_3 (nI_ge (b := n) hb (by have := h.le; omega))) (fun c_7_3 => ?_)
      clear c_7_3
      refine r_aload_n F 0 rfl dX0_firstWanting_10 ?_
      refine r_iload_n F 2 rfl dX0_firstWanting_11 ?_
      refine r_iload_n F 1 rfl dX0_firstWanting_12 ?_
      refine r_calli (g_V (C := RX0) (T := TX0) (N := 7) (nA := 2) (As := [.int (nI j), .int mask]) (rest := []) F i h.obj (by omega) rfl (c_X0_wants h hi hb) gX0_firstWanting_X0_wants rfl (by decide +kernel) rfl ⟨Nat.le_of_ble_eq_true rfl, Nat.le_of_ble_eq_true rfl⟩ ⟨Nat.le_of_ble_eq_true rfl, Nat.le_of_ble_eq_true rfl⟩ rfl (Nat.le_of_ble_eq_true rfl) dX0_firstWanting_13) (fun r_4 u_4 hp_4 => ?_)
      obtain ⟨rfl, rfl⟩ := hp_4
      refine r_if_eq F 21 (by decide) dX0_firstWanting_16 (fun c_16_5 => ?_) (fun c_16_5 => ?_)
      · skip
        replace c_16_5 := bI0 c_16_5
        refine r_iinc (lv' := [(0, .ref (g.2.1 i)), (1, .int mask), (2, .int (nI (j + 1)))]) F 2 rfl (nI_inc _) (by decide) rfl dX0_firstWanting_21 ?_
        refine r_goto F 2 (by decide) dX0_firstWanting_24 ?_
        exact ih_2 (j + 1) _ (by omega) (by simp [anyN, hno, c_16_5]) rfl
      · skip
        replace c_16_5 := bI1 c_16_5
        refine r_iload_n F 2 rfl dX0_firstWanting_19 ?_
        exact hret _ _ _ _ _ _ (Nat.le_of_ble_eq_true rfl) (Nat.le_of_ble_eq_true rfl) ⟨by rw [fstN_at hb c_16_5 hno], rfl⟩ dX0_firstWanting_20
  exact loop_2 n 0 _ (by omega) rfl rfl
set_option maxHeartbeats 4000000 in
set_option maxRecDepth 100000 in
theorem c_X0_isTicked {g : kG} {l : Launch} {u : Nat → va_E} {i n : Nat} {B : kB} {p mask : Int32} (h : FmB g u i n B) (hi : i + 7 ≤ kN)  : CI g l yX0_isTicked wsX0_isTicked ({ frames := 2, cells := 0, slots := 0, locals := 44 }) [.ref (g.2.1 i), .int p, .int mask] u (fun r u' => r = bI (tikd B n p mask) ∧ u = u') := by
  refine CI.of (cc := cX0_isTicked) (nL := 5) (ty := .boolean) (by decide +kernel) rfl (fun v u' h => by obtain ⟨h, -⟩ := h; rw [h]; exact bI_n _) (Nat.le_of_ble_eq_true rfl) ?_
  intro X hXl F hret
  subst hXl
  have hinX0 : ∀ w ∈ wsX00, w ∈ wsX0_isTicked := by decide +kernel
  show VL g X 0 0 u 0 [(0, .ref (g.2.1 i)), (1, .int p), (2, .int mask)] []
  refine r_iconst (v := 0) F (by decide) dX0_isTicked_0 ?_
  refine r_istore_n (lv' := [(0, .ref (g.2.1 i)), (1, .int p), (2, .int mask), (3, .int 0)]) F (by decide) rfl dX0_isTicked_1 ?_
  refine r_iconst (v := 0) F (by decide) dX0_isTicked_2 ?_
  refine r_istore (lv' := [(0, .ref (g.2.1 i)), (1, .int p), (2, .int mask), (3, .int 0), (4, .int 0)]) F (by decide) rfl dX0_isTicked_3 ?_
  have loop_5 : ∀ (k : Nat) (j : Nat) (x3_5 : Int32) (x4_5 : Int32), j + k = n → anyN j (qTik B p mask) = false → x3_5 = bI (anyN j (qFor B 1 p)) → x4_5 = nI j → VL g X 0 0 u 5 [(0, .ref (g.2.1 i)), (1, .int p), (2, .int mask), (3, .int x3_5), (4, .int x4_5)] [] := by
    intro k
    induction k with
    | zero =>
      rintro j x3_5 x4_5 hk hno rfl rfl
      have hjn : n = j := by omega
      subst hjn
      refine r_iload F 4 rfl dX0_isTicked_5 ?_
      refine r_aload_n F 0 rfl dX0_isTicked_7 ?_
      refine r_get (C := RX0) (T := TX0) (N := 7) F i h.obj (by omega) hinX0 rfl 6 (by decide) (by decide +kernel) rfl dX0_isTicked_8 ?_
      refine r_icmp_ge F 58 (by decide) dX0_isTicked_11 (fun c_11_2 => ?_) (fun c_11_2 => absurd (Int32.le_refl _) c_11_2)
      clear c_11_2
      refine r_iload_n F 3 rfl dX0_isTicked_58 ?_
      refine r_if_ne F 66 (by decide) dX0_isTicked_59 (fun c_59_3 => ?_) (fun c_59_3 => ?_)
      · skip
        replace c_59_3 := bI1 c_59_3
        refine r_iconst (v := 0) F (by decide) dX0_isTicked_66 ?_
        exact hret _ _ _ _ _ _ (Nat.le_of_ble_eq_true rfl) (Nat.le_of_ble_eq_true rfl) ⟨by simp [tikd, bI, hno, c_59_3], rfl⟩ dX0_isTicked_67
      · skip
        replace c_59_3 := bI0 c_59_3
        refine r_iconst (v := 1) F (by decide) dX0_isTicked_62 ?_
        refine r_goto F 67 (by decide) dX0_isTicked_63 ?_
        exact hret _ _ _ _ _ _ (Nat.le_of_ble_eq_true rfl) (Nat.le_of_ble_eq_true rfl) ⟨by simp [tikd, bI, hno, c_59_3], rfl⟩ dX0_isTicked_67
    | succ k ih_5 =>
      rintro j x3_5 x4_5 hk hno rfl rfl
      have hb : j < n := by omega
      refine r_iload F 4 rfl dX0_isTicked_5 ?_
      refine r_aload_n F 0 rfl dX0_isTicked_7 ?_
      refine r_get (C := RX0) (T := TX0) (N := 7) F i h.obj (by omega) hinX0 rfl 6 (by decide) (by decide +kernel) rfl dX0_isTicked_8 ?_
      refine r_icmp_ge F 58 (by decide) dX0_isTicked_11 (fun c_11_4 => absurd c_11_4 (nI_ge (b := n) hb (by have := h.le; omega))) (fun c_11_4 => ?_)
      clear c_11_4
      refine r_aload_n F 0 rfl dX0_isTicked_14 ?_
      refine r_iload F 4 rfl dX0_isTicked_15 ?_
      refine r_iconst (v := 1) F (by decide) dX0_isTicked_17 ?_
      refine r_iload_n F 1 rfl dX0_isTicked_18 ?_
      refine r_calli (g_V (C := RX0) (T := TX0) (N := 7) (nA := 3) (As := [.int (nI j), .int 1, .int p]) (rest := []) F i h.obj (by omega) rfl (c_X0_isFor h hi hb) gX0_isTicked_X0_isFor rfl (by decide +kernel) rfl ⟨Nat.le_of_ble_eq_true rfl, Nat.le_of_ble_eq_true rfl⟩ ⟨Nat.le_of_ble_eq_true rfl, Nat.le_of_ble_eq_true rfl⟩ rfl (Nat.le_of_ble_eq_true rfl) dX0_isTicked_19) (fun r_5 u_5 hp_5 => ?_)
      obtain ⟨rfl, rfl⟩ := hp_5
      refine r_if_eq F 52 (by decide) dX0_isTicked_22 (fun c_22_6 => ?_) (fun c_22_6 => ?_)
      · skip
        replace c_22_6 := bI0 c_22_6
        refine r_iinc (lv' := [(0, .ref (g.2.1 i)), (1, .int p), (2, .int mask), (3, .int (bI (anyN j (qFor B 1 p)))), (4, .int (nI (j + 1)))]) F 4 rfl (nI_inc _) (by decide) rfl dX0_isTicked_52 ?_
        refine r_goto F 5 (by decide) dX0_isTicked_55 ?_
        exact ih_5 (j + 1) _ _ (by omega) (by simp [anyN, hno, qTik, c_22_6]) (by simp [anyN, bI, c_22_6]) rfl
      · skip
        replace c_22_6 := bI1 c_22_6
        refine r_aload_n F 0 rfl dX0_isTicked_25 ?_
        refine r_iload F 4 rfl dX0_isTicked_26 ?_
        refine r_iload_n F 2 rfl dX0_isTicked_28 ?_
        refine r_calli (g_V (C := RX0) (T := TX0) (N := 7) (nA := 2) (As := [.int (nI j), .int mask]) (rest := []) F i h.obj (by omega) rfl (c_X0_isOpen h hi hb) gX0_isTicked_X0_isOpen rfl (by decide +kernel) rfl ⟨Nat.le_of_ble_eq_true rfl, Nat.le_of_ble_eq_true rfl⟩ ⟨Nat.le_of_ble_eq_true rfl, Nat.le_of_ble_eq_true rfl⟩ rfl (Nat.le_of_ble_eq_true rfl) dX0_isTicked_29) (fun r_7 u_7 hp_7 => ?_)
        obtain ⟨rfl, rfl⟩ := hp_7
        refine r_if_eq F 50 (by decide) dX0_isTicked_32 (fun c_32_8 => ?_) (fun c_32_8 => ?_)
        · skip
          replace c_32_8 := bI0 c_32_8
          refine r_iconst (v := 1) F (by decide) dX0_isTicked_50 ?_
          refine r_istore_n (lv' := [(0, .ref (g.2.1 i)), (1, .int p), (2, .int mask), (3, .int 1), (4, .int (nI j))]) F (by decide) rfl dX0_isTicked_51 ?_
          refine r_iinc (lv' := [(0, .ref (g.2.1 i)), (1, .int p), (2, .int mask), (3, .int 1), (4, .int (nI (j + 1)))]) F 4 rfl (nI_inc _) (by decide) rfl dX0_isTicked_52 ?_
          refine r_goto F 5 (by decide) dX0_isTicked_55 ?_
          exact ih_5 (j + 1) _ _ (by omega) (by simp [anyN, hno, qTik, c_22_6, c_32_8]) (by simp [anyN, bI, c_22_6, c_32_8]) rfl
        · skip
          replace c_32_8 := bI1 c_32_8
          refine r_aload_n F 0 rfl dX0_isTicked_35 ?_
          refine r_get (C := RX0) (T := TX0) (N := 7) F i h.obj (by omega) hinX0 rfl 4 (by decide) (by decide +kernel) rfl dX0_isTicked_36 ?_
          refine r_iload F 4 rfl dX0_isTicked_39 ?_
          refine r_calli (g_SN (nA := 2) (As := [.ref (g.2.1 (i + 5)), .int (nI j)]) (rest := []) F (c_atB4 h hi hb) gX0_isTicked_X3_at_n34 rfl 6 rfl (by decide +kernel) (by decide +kernel) (by decide +kernel) rfl ⟨Nat.le_of_ble_eq_true rfl, Nat.le_of_ble_eq_true rfl⟩ ⟨Nat.le_of_ble_eq_true rfl, Nat.le_of_ble_eq_true rfl⟩ rfl (Nat.le_of_ble_eq_true rfl) dX0_isTicked_41) (fun r_9 u_9 hp_9 => ?_)
          obtain ⟨rfl, rfl⟩ := hp_9
          refine r_iconst (v := 1) F (by decide) dX0_isTicked_44 ?_
          refine r_icmp_ne F 50 (by decide) dX0_isTicked_45 (fun c_45_10 => ?_) (fun c_45_10 => ?_)
          · skip
            refine r_iconst (v := 1) F (by decide) dX0_isTicked_50 ?_
            refine r_istore_n (lv' := [(0, .ref (g.2.1 i)), (1, .int p), (2, .int mask), (3, .int 1), (4, .int (nI j))]) F (by decide) rfl dX0_isTicked_51 ?_
            refine r_iinc (lv' := [(0, .ref (g.2.1 i)), (1, .int p), (2, .int mask), (3, .int 1), (4, .int (nI (j + 1)))]) F 4 rfl (nI_inc _) (by decide) rfl dX0_isTicked_52 ?_
            refine r_goto F 5 (by decide) dX0_isTicked_55 ?_
            exact ih_5 (j + 1) _ _ (by omega) (by simp [anyN, hno, qTik, c_22_6, c_32_8, c_45_10]) (by simp [anyN, bI, c_22_6, c_32_8, c_45_10]) rfl
          · skip
            refine r_iconst (v := 1) F (by decide) dX0_isTicked_48 ?_
            exact hret _ _ _ _ _ _ (Nat.le_of_ble_eq_true rfl) (Nat.le_of_ble_eq_true rfl) ⟨by simp [tikd, bI, anyN_t hb (show qTik B p mask j = true by simp [qTik, c_22_6, c_32_8, c_45_10])], rfl⟩ dX0_isTicked_49
  exact loop_5 n 0 _ _ (by omega) rfl rfl rfl
set_option maxHeartbeats 4000000 in
set_option maxRecDepth 100000 in
theorem c_X0_isSkipped {g : kG} {l : Launch} {u : Nat → va_E} {i n : Nat} {B : kB} {p mask : Int32} (h : FmB g u i n B) (hi : i + 7 ≤ kN)  : CI g l yX0_isSkipped wsX0_isSkipped ({ frames := 2, cells := 0, slots := 0, locals := 44 }) [.ref (g.2.1 i), .int p, .int mask] u (fun r u' => r = bI (skpd B n p mask) ∧ u = u') := by
  refine CI.of (cc := cX0_isSkipped) (nL := 5) (ty := .boolean) (by decide +kernel) rfl (fun v u' h => by obtain ⟨h, -⟩ := h; rw [h]; exact bI_n _) (Nat.le_of_ble_eq_true rfl) ?_
  intro X hXl F hret
  subst hXl
  have hinX0 : ∀ w ∈ wsX00, w ∈ wsX0_isSkipped := by decide +kernel
  show VL g X 0 0 u 0 [(0, .ref (g.2.1 i)), (1, .int p), (2, .int mask)] []
  refine r_iconst (v := 0) F (by decide) dX0_isSkipped_0 ?_
  refine r_istore_n (lv' := [(0, .ref (g.2.1 i)), (1, .int p), (2, .int mask), (3, .int 0)]) F (by decide) rfl dX0_isSkipped_1 ?_
  have loop_2 : ∀ (k : Nat) (j : Nat) (x3_2 : Int32), j + k = n → anyN j (qCls B p mask) = false → x3_2 = nI j → VL g X 0 0 u 2 [(0, .ref (g.2.1 i)), (1, .int p), (2, .int mask), (3, .int x3_2)] [] := by
    intro k
    induction k with
    | zero =>
      rintro j x3_2 hk hno rfl
      have hjn : n = j := by omega
      subst hjn
      refine r_iload_n F 3 rfl dX0_isSkipped_2 ?_
      refine r_aload_n F 0 rfl dX0_isSkipped_3 ?_
      refine r_get (C := RX0) (T := TX0) (N := 7) F i h.obj (by omega) hinX0 rfl 6 (by decide) (by decide +kernel) rfl dX0_isSkipped_4 ?_
      refine r_icmp_ge F 76 (by decide) dX0_isSkipped_7 (fun c_7_2 => ?_) (fun c_7_2 => absurd (Int32.le_refl _) c_7_2)
      clear c_7_2
      refine r_iconst (v := 0) F (by decide) dX0_isSkipped_76 ?_
      exact hret _ _ _ _ _ _ (Nat.le_of_ble_eq_true rfl) (Nat.le_of_ble_eq_true rfl) ⟨by simp [skpd, bI, hno], rfl⟩ dX0_isSkipped_77
    | succ k ih_2 =>
      rintro j x3_2 hk hno rfl
      have hb : j < n := by omega
      refine r_iload_n F 3 rfl dX0_isSkipped_2 ?_
      refine r_aload_n F 0 rfl dX0_isSkipped_3 ?_
      refine r_get (C := RX0) (T := TX0) (N := 7) F i h.obj (by omega) hinX0 rfl 6 (by decide) (by decide +kernel) rfl dX0_isSkipped_4 ?_
      refine r_icmp_ge F 76 (by decide) dX0_isSkipped_7 (fun c_7_3 => absurd c_7_3 (nI_ge (b := n) hb (by have := h.le; omega))) (fun c_7_3 => ?_)
      clear c_7_3
      refine r_aload_n F 0 rfl dX0_isSkipped_10 ?_
      refine r_iload_n F 3 rfl dX0_isSkipped_11 ?_
      refine r_calli (g_V (C := RX0) (T := TX0) (N := 7) (nA := 1) (As := [.int (nI j)]) (rest := []) F i h.obj (by omega) rfl (c_X0_isEmpty h hi hb) gX0_isSkipped_X0_isEmpty rfl (by decide +kernel) rfl ⟨Nat.le_of_ble_eq_true rfl, Nat.le_of_ble_eq_true rfl⟩ ⟨Nat.le_of_ble_eq_true rfl, Nat.le_of_ble_eq_true rfl⟩ rfl (Nat.le_of_ble_eq_true rfl) dX0_isSkipped_12) (fun r_4 u_4 hp_4 => ?_)
      obtain ⟨rfl, rfl⟩ := hp_4
      refine r_if_ne F 41 (by decide) dX0_isSkipped_15 (fun c_15_5 => ?_) (fun c_15_5 => ?_)
      · skip
        replace c_15_5 := bI1 c_15_5
        refine r_iconst (v := 0) F (by decide) dX0_isSkipped_41 ?_
        refine r_istore (lv' := [(0, .ref (g.2.1 i)), (1, .int p), (2, .int mask), (3, .int (nI j)), (4, .int 0)]) F (by decide) rfl dX0_isSkipped_42 ?_
        refine r_aload_n F 0 rfl dX0_isSkipped_44 ?_
        refine r_iload_n F 3 rfl dX0_isSkipped_45 ?_
        refine r_iconst (v := 2) F (by decide) dX0_isSkipped_46 ?_
        refine r_iload_n F 1 rfl dX0_isSkipped_47 ?_
        refine r_calli (g_V (C := RX0) (T := TX0) (N := 7) (nA := 3) (As := [.int (nI j), .int 2, .int p]) (rest := []) F i h.obj (by omega) rfl (c_X0_isFor h hi hb) gX0_isSkipped_X0_isFor rfl (by decide +kernel) rfl ⟨Nat.le_of_ble_eq_true rfl, Nat.le_of_ble_eq_true rfl⟩ ⟨Nat.le_of_ble_eq_true rfl, Nat.le_of_ble_eq_true rfl⟩ rfl (Nat.le_of_ble_eq_true rfl) dX0_isSkipped_48) (fun r_6 u_6 hp_6 => ?_)
        obtain ⟨rfl, rfl⟩ := hp_6
        refine r_if_eq F 70 (by decide) dX0_isSkipped_51 (fun c_51_7 => ?_) (fun c_51_7 => ?_)
        · skip
          replace c_51_7 := bI0 c_51_7
          refine r_iinc (lv' := [(0, .ref (g.2.1 i)), (1, .int p), (2, .int mask), (3, .int (nI (j + 1))), (4, .int 0)]) F 3 rfl (nI_inc _) (by decide) rfl dX0_isSkipped_70 ?_
          refine r_goto F 2 (by decide) dX0_isSkipped_73 ?_
          refine r_lv (lv2 := [(0, .ref (g.2.1 i)), (1, .int p), (2, .int mask), (3, .int (nI (j + 1)))]) (by simp) ?_
          exact ih_2 (j + 1) _ (by omega) (by simp [anyN, hno, qCls, c_15_5, c_51_7]) rfl
        · skip
          replace c_51_7 := bI1 c_51_7
          refine r_aload_n F 0 rfl dX0_isSkipped_54 ?_
          refine r_iload_n F 3 rfl dX0_isSkipped_55 ?_
          refine r_iload_n F 2 rfl dX0_isSkipped_56 ?_
          refine r_calli (g_V (C := RX0) (T := TX0) (N := 7) (nA := 2) (As := [.int (nI j), .int mask]) (rest := []) F i h.obj (by omega) rfl (c_X0_isOpen h hi hb) gX0_isSkipped_X0_isOpen rfl (by decide +kernel) rfl ⟨Nat.le_of_ble_eq_true rfl, Nat.le_of_ble_eq_true rfl⟩ ⟨Nat.le_of_ble_eq_true rfl, Nat.le_of_ble_eq_true rfl⟩ rfl (Nat.le_of_ble_eq_true rfl) dX0_isSkipped_57) (fun r_8 u_8 hp_8 => ?_)
          obtain ⟨rfl, rfl⟩ := hp_8
          refine r_if_eq F 70 (by decide) dX0_isSkipped_60 (fun c_60_9 => ?_) (fun c_60_9 => ?_)
          · skip
            replace c_60_9 := bI0 c_60_9
            refine r_iinc (lv' := [(0, .ref (g.2.1 i)), (1, .int p), (2, .int mask), (3, .int (nI (j + 1))), (4, .int 0)]) F 3 rfl (nI_inc _) (by decide) rfl dX0_isSkipped_70 ?_
            refine r_goto F 2 (by decide) dX0_isSkipped_73 ?_
            refine r_lv (lv2 := [(0, .ref (g.2.1 i)), (1, .int p), (2, .int mask), (3, .int (nI (j + 1)))]) (by simp) ?_
            exact ih_2 (j + 1) _ (by omega) (by simp [anyN, hno, qCls, c_15_5, c_51_7, c_60_9]) rfl
          · skip
            replace c_60_9 := bI1 c_60_9
            refine r_iload F 4 rfl dX0_isSkipped_63 ?_
            refine r_if_eq F 70 (by decide) dX0_isSkipped_65 (fun c_65_10 => ?_) (fun c_65_10 => absurd c_65_10 (by decide))
            clear c_65_10
            refine r_iinc (lv' := [(0, .ref (g.2.1 i)), (1, .int p), (2, .int mask), (3, .int (nI (j + 1))), (4, .int 0)]) F 3 rfl (nI_inc _) (by decide) rfl dX0_isSkipped_70 ?_
            refine r_goto F 2 (by decide) dX0_isSkipped_73 ?_
            refine r_lv (lv2 := [(0, .ref (g.2.1 i)), (1, .int p), (2, .int mask), (3, .int (nI (j + 1)))]) (by simp) ?_
            exact ih_2 (j + 1) _ (by omega) (by simp [anyN, hno, qCls, c_15_5, c_51_7, c_60_9]) rfl
      · skip
        replace c_15_5 := bI0 c_15_5
        refine r_aload_n F 0 rfl dX0_isSkipped_18 ?_
        refine r_get (C := RX0) (T := TX0) (N := 7) F i h.obj (by omega) hinX0 rfl 4 (by decide) (by decide +kernel) rfl dX0_isSkipped_19 ?_
        refine r_iload_n F 3 rfl dX0_isSkipped_22 ?_
        refine r_calli (g_SN (nA := 2) (As := [.ref (g.2.1 (i + 5)), .int (nI j)]) (rest := []) F (c_atB4 h hi hb) gX0_isSkipped_X3_at_n34 rfl 6 rfl (by decide +kernel) (by decide +kernel) (by decide +kernel) rfl ⟨Nat.le_of_ble_eq_true rfl, Nat.le_of_ble_eq_true rfl⟩ ⟨Nat.le_of_ble_eq_true rfl, Nat.le_of_ble_eq_true rfl⟩ rfl (Nat.le_of_ble_eq_true rfl) dX0_isSkipped_23) (fun r_11 u_11 hp_11 => ?_)
        obtain ⟨rfl, rfl⟩ := hp_11
        refine r_aload_n F 0 rfl dX0_isSkipped_26 ?_
        refine r_get (C := RX0) (T := TX0) (N := 7) F i h.obj (by omega) hinX0 rfl 3 (by decide) (by decide +kernel) rfl dX0_isSkipped_27 ?_
        refine r_iload_n F 3 rfl dX0_isSkipped_30 ?_
        refine r_calli (g_SN (nA := 2) (As := [.ref (g.2.1 (i + 4)), .int (nI j)]) (rest := [.int (B j 4)]) F (c_atB3 h hi hb) gX0_isSkipped_X3_at_n34 rfl 6 rfl (by decide +kernel) (by decide +kernel) (by decide +kernel) rfl ⟨Nat.le_of_ble_eq_true rfl, Nat.le_of_ble_eq_true rfl⟩ ⟨Nat.le_of_ble_eq_true rfl, Nat.le_of_ble_eq_true rfl⟩ rfl (Nat.le_of_ble_eq_true rfl) dX0_isSkipped_31) (fun r_12 u_12 hp_12 => ?_)
        obtain ⟨rfl, rfl⟩ := hp_12
        refine r_icmp_lt F 41 (by decide) dX0_isSkipped_34 (fun c_34_13 => ?_) (fun c_34_13 => ?_)
        · skip
          refine r_iconst (v := 0) F (by decide) dX0_isSkipped_41 ?_
          refine r_istore (lv' := [(0, .ref (g.2.1 i)), (1, .int p), (2, .int mask), (3, .int (nI j)), (4, .int 0)]) F (by decide) rfl dX0_isSkipped_42 ?_
          refine r_aload_n F 0 rfl dX0_isSkipped_44 ?_
          refine r_iload_n F 3 rfl dX0_isSkipped_45 ?_
          refine r_iconst (v := 2) F (by decide) dX0_isSkipped_46 ?_
          refine r_iload_n F 1 rfl dX0_isSkipped_47 ?_
          refine r_calli (g_V (C := RX0) (T := TX0) (N := 7) (nA := 3) (As := [.int (nI j), .int 2, .int p]) (rest := []) F i h.obj (by omega) rfl (c_X0_isFor h hi hb) gX0_isSkipped_X0_isFor rfl (by decide +kernel) rfl ⟨Nat.le_of_ble_eq_true rfl, Nat.le_of_ble_eq_true rfl⟩ ⟨Nat.le_of_ble_eq_true rfl, Nat.le_of_ble_eq_true rfl⟩ rfl (Nat.le_of_ble_eq_true rfl) dX0_isSkipped_48) (fun r_14 u_14 hp_14 => ?_)
          obtain ⟨rfl, rfl⟩ := hp_14
          refine r_if_eq F 70 (by decide) dX0_isSkipped_51 (fun c_51_15 => ?_) (fun c_51_15 => ?_)
          · skip
            replace c_51_15 := bI0 c_51_15
            refine r_iinc (lv' := [(0, .ref (g.2.1 i)), (1, .int p), (2, .int mask), (3, .int (nI (j + 1))), (4, .int 0)]) F 3 rfl (nI_inc _) (by decide) rfl dX0_isSkipped_70 ?_
            refine r_goto F 2 (by decide) dX0_isSkipped_73 ?_
            refine r_lv (lv2 := [(0, .ref (g.2.1 i)), (1, .int p), (2, .int mask), (3, .int (nI (j + 1)))]) (by simp) ?_
            exact ih_2 (j + 1) _ (by omega) (by simp [anyN, hno, qCls, c_15_5, c_34_13, c_51_15]) rfl
          · skip
            replace c_51_15 := bI1 c_51_15
            refine r_aload_n F 0 rfl dX0_isSkipped_54 ?_
            refine r_iload_n F 3 rfl dX0_isSkipped_55 ?_
            refine r_iload_n F 2 rfl dX0_isSkipped_56 ?_
            refine r_calli (g_V (C := RX0) (T := TX0) (N := 7) (nA := 2) (As := [.int (nI j), .int mask]) (rest := []) F i h.obj (by omega) rfl (c_X0_isOpen h hi hb) gX0_isSkipped_X0_isOpen rfl (by decide +kernel) rfl ⟨Nat.le_of_ble_eq_true rfl, Nat.le_of_ble_eq_true rfl⟩ ⟨Nat.le_of_ble_eq_true rfl, Nat.le_of_ble_eq_true rfl⟩ rfl (Nat.le_of_ble_eq_true rfl) dX0_isSkipped_57) (fun r_16 u_16 hp_16 => ?_)
            obtain ⟨rfl, rfl⟩ := hp_16
            refine r_if_eq F 70 (by decide) dX0_isSkipped_60 (fun c_60_17 => ?_) (fun c_60_17 => ?_)
            · skip
              replace c_60_17 := bI0 c_60_17
              refine r_iinc (lv' := [(0, .ref (g.2.1 i)), (1, .int p), (2, .int mask), (3, .int (nI (j + 1))), (4, .int 0)]) F 3 rfl (nI_inc _) (by decide) rfl dX0_isSkipped_70 ?_
              refine r_goto F 2 (by decide) dX0_isSkipped_73 ?_
              refine r_lv (lv2 := [(0, .ref (g.2.1 i)), (1, .int p), (2, .int mask), (3, .int (nI (j + 1)))]) (by simp) ?_
              exact ih_2 (j + 1) _ (by omega) (by simp [anyN, hno, qCls, c_15_5, c_34_13, c_51_15, c_60_17]) rfl
            · skip
              replace c_60_17 := bI1 c_60_17
              refine r_iload F 4 rfl dX0_isSkipped_63 ?_
              refine r_if_eq F 70 (by decide) dX0_isSkipped_65 (fun c_65_18 => ?_) (fun c_65_18 => absurd c_65_18 (by decide))
              clear c_65_18
              refine r_iinc (lv' := [(0, .ref (g.2.1 i)), (1, .int p), (2, .int mask), (3, .int (nI (j + 1))), (4, .int 0)]) F 3 rfl (nI_inc _) (by decide) rfl dX0_isSkipped_70 ?_
              refine r_goto F 2 (by decide) dX0_isSkipped_73 ?_
              refine r_lv (lv2 := [(0, .ref (g.2.1 i)), (1, .int p), (2, .int mask), (3, .int (nI (j + 1)))]) (by simp) ?_
              exact ih_2 (j + 1) _ (by omega) (by simp [anyN, hno, qCls, c_15_5, c_34_13, c_51_15, c_60_17]) rfl
        · skip
          refine r_iconst (v := 1) F (by decide) dX0_isSkipped_37 ?_
          refine r_goto F 42 (by decide) dX0_isSkipped_38 ?_
          refine r_istore (lv' := [(0, .ref (g.2.1 i)), (1, .int p), (2, .int mask), (3, .int (nI j)), (4, .int 1)]) F (by decide) rfl dX0_isSkipped_42 ?_
          refine r_aload_n F 0 rfl dX0_isSkipped_44 ?_
          refine r_iload_n F 3 rfl dX0_isSkipped_45 ?_
          refine r_iconst (v := 2) F (by decide) dX0_isSkipped_46 ?_
          refine r_iload_n F 1 rfl dX0_isSkipped_47 ?_
          refine r_calli (g_V (C := RX0) (T := TX0) (N := 7) (nA := 3) (As := [.int (nI j), .int 2, .int p]) (rest := []) F i h.obj (by omega) rfl (c_X0_isFor h hi hb) gX0_isSkipped_X0_isFor rfl (by decide +kernel) rfl ⟨Nat.le_of_ble_eq_true rfl, Nat.le_of_ble_eq_true rfl⟩ ⟨Nat.le_of_ble_eq_true rfl, Nat.le_of_ble_eq_true rfl⟩ rfl (Nat.le_of_ble_eq_true rfl) dX0_isSkipped_48) (fun r_19 u_19 hp_19 => ?_)
          obtain ⟨rfl, rfl⟩ := hp_19
          refine r_if_eq F 70 (by decide) dX0_isSkipped_51 (fun c_51_20 => ?_) (fun c_51_20 => ?_)
          · skip
            replace c_51_20 := bI0 c_51_20
            refine r_iinc (lv' := [(0, .ref (g.2.1 i)), (1, .int p), (2, .int mask), (3, .int (nI (j + 1))), (4, .int 1)]) F 3 rfl (nI_inc _) (by decide) rfl dX0_isSkipped_70 ?_
            refine r_goto F 2 (by decide) dX0_isSkipped_73 ?_
            refine r_lv (lv2 := [(0, .ref (g.2.1 i)), (1, .int p), (2, .int mask), (3, .int (nI (j + 1)))]) (by simp) ?_
            exact ih_2 (j + 1) _ (by omega) (by simp [anyN, hno, qCls, c_15_5, c_34_13, c_51_20]) rfl
          · skip
            replace c_51_20 := bI1 c_51_20
            refine r_aload_n F 0 rfl dX0_isSkipped_54 ?_
            refine r_iload_n F 3 rfl dX0_isSkipped_55 ?_
            refine r_iload_n F 2 rfl dX0_isSkipped_56 ?_
            refine r_calli (g_V (C := RX0) (T := TX0) (N := 7) (nA := 2) (As := [.int (nI j), .int mask]) (rest := []) F i h.obj (by omega) rfl (c_X0_isOpen h hi hb) gX0_isSkipped_X0_isOpen rfl (by decide +kernel) rfl ⟨Nat.le_of_ble_eq_true rfl, Nat.le_of_ble_eq_true rfl⟩ ⟨Nat.le_of_ble_eq_true rfl, Nat.le_of_ble_eq_true rfl⟩ rfl (Nat.le_of_ble_eq_true rfl) dX0_isSkipped_57) (fun r_21 u_21 hp_21 => ?_)
            obtain ⟨rfl, rfl⟩ := hp_21
            refine r_if_eq F 70 (by decide) dX0_isSkipped_60 (fun c_60_22 => ?_) (fun c_60_22 => ?_)
            · skip
              replace c_60_22 := bI0 c_60_22
              refine r_iinc (lv' := [(0, .ref (g.2.1 i)), (1, .int p), (2, .int mask), (3, .int (nI (j + 1))), (4, .int 1)]) F 3 rfl (nI_inc _) (by decide) rfl dX0_isSkipped_70 ?_
              refine r_goto F 2 (by decide) dX0_isSkipped_73 ?_
              refine r_lv (lv2 := [(0, .ref (g.2.1 i)), (1, .int p), (2, .int mask), (3, .int (nI (j + 1)))]) (by simp) ?_
              exact ih_2 (j + 1) _ (by omega) (by simp [anyN, hno, qCls, c_15_5, c_34_13, c_51_20, c_60_22]) rfl
            · skip
              replace c_60_22 := bI1 c_60_22
              refine r_iload F 4 rfl dX0_isSkipped_63 ?_
              refine r_if_eq F 70 (by decide) dX0_isSkipped_65 (fun c_65_23 => absurd c_65_23 (by decide)) (fun c_65_23 => ?_)
              clear c_65_23
              refine r_iconst (v := 1) F (by decide) dX0_isSkipped_68 ?_
              exact hret _ _ _ _ _ _ (Nat.le_of_ble_eq_true rfl) (Nat.le_of_ble_eq_true rfl) ⟨by simp [skpd, bI, anyN_t hb (show qCls B p mask j = true by simp [qCls, c_15_5, c_34_13, c_51_20, c_60_22])], rfl⟩ dX0_isSkipped_69
  exact loop_2 n 0 _ (by omega) rfl rfl
set_option maxHeartbeats 4000000 in
set_option maxRecDepth 100000 in
theorem c_X0_openParts {g : kG} {l : Launch} {u : Nat → va_E} {i n : Nat} {B : kB}  (h : FmB g u i n B) (hi : i + 7 ≤ kN)  : CI g l yX0_openParts wsX0_openParts ({ frames := 3, cells := 0, slots := 0, locals := 68 }) [.ref (g.2.1 i)] u (fun r u' => r = opm B n ∧ u = u') := by
  refine CI.of (cc := cX0_openParts) (nL := 3) (ty := .int) (by decide +kernel) rfl (fun _ _ _ => rfl) (Nat.le_of_ble_eq_true rfl) ?_
  intro X hXl F hret
  subst hXl
  show VL g X 0 0 u 0 [(0, .ref (g.2.1 i))] []
  refine r_iconst (v := 1) F (by decide) dX0_openParts_0 ?_
  refine r_istore_n (lv' := [(0, .ref (g.2.1 i)), (1, .int 1)]) F (by decide) rfl dX0_openParts_1 ?_
  refine r_iconst (v := 1) F (by decide) dX0_openParts_2 ?_
  refine r_istore_n (lv' := [(0, .ref (g.2.1 i)), (1, .int 1), (2, .int 1)]) F (by decide) rfl dX0_openParts_3 ?_
  have loop_4 : ∀ (k : Nat) (j : Nat) (x1_4 : Int32) (x2_4 : Int32), j + k = 5 → 1 ≤ j → x1_4 = opmN B n j → x2_4 = nI j → VL g X 0 0 u 4 [(0, .ref (g.2.1 i)), (1, .int x1_4), (2, .int x2_4)] [] := by
    intro k
    induction k with
    | zero =>
      rintro j x1_4 x2_4 hk hj1 rfl rfl
      have hjn : 5 = j := by omega
      subst hjn
      refine r_iload_n F 2 rfl dX0_openParts_4 ?_
      refine r_iconst (v := 5) F (by decide) dX0_openParts_5 ?_
      refine r_icmp_ge F 39 (by decide) dX0_openParts_6 (fun c_6_2 => ?_) (fun c_6_2 => absurd (Int32.le_refl _) c_6_2)
      clear c_6_2
      refine r_iload_n F 1 rfl dX0_openParts_39 ?_
      exact hret _ _ _ _ _ _ (Nat.le_of_ble_eq_true rfl) (Nat.le_of_ble_eq_true rfl) ⟨by rfl, rfl⟩ dX0_openParts_40
    | succ k ih_4 =>
      rintro j x1_4 x2_4 hk hj1 rfl rfl
      have hb : j < 5 := by omega
      refine r_iload_n F 2 rfl dX0_openParts_4 ?_
      refine r_iconst (v := 5) F (by decide) dX0_openParts_5 ?_
      refine r_icmp_ge F 39 (by decide) dX0_openParts_6 (fun c_6_3 => absurd c_6_3 (nI_ge (b := 5) hb (by decide))) (fun c_6_3 => ?_)
      clear c_6_3
      refine r_aload_n F 0 rfl dX0_openParts_9 ?_
      refine r_iload_n F 2 rfl dX0_openParts_10 ?_
      refine r_iload_n F 1 rfl dX0_openParts_11 ?_
      refine r_calli (g_V (C := RX0) (T := TX0) (N := 7) (nA := 2) (As := [.int (nI j), .int (opmN B n j)]) (rest := []) F i h.obj (by omega) rfl (c_X0_isTicked h hi ) gX0_openParts_X0_isTicked rfl (by decide +kernel) rfl ⟨Nat.le_of_ble_eq_true rfl, Nat.le_of_ble_eq_true rfl⟩ ⟨Nat.le_of_ble_eq_true rfl, Nat.le_of_ble_eq_true rfl⟩ rfl (Nat.le_of_ble_eq_true rfl) dX0_openParts_12) (fun r_4 u_4 hp_4 => ?_)
      obtain ⟨rfl, rfl⟩ := hp_4
      refine r_if_eq F 33 (by decide) dX0_openParts_15 (fun c_15_5 => ?_) (fun c_15_5 => ?_)
      · skip
        replace c_15_5 := bI0 c_15_5
        refine r_iinc (lv' := [(0, .ref (g.2.1 i)), (1, .int (opmN B n j)), (2, .int (nI (j + 1)))]) F 2 rfl (nI_inc _) (by decide) rfl dX0_openParts_33 ?_
        refine r_goto F 4 (by decide) dX0_openParts_36 ?_
        exact ih_4 (j + 1) _ _ (by omega) (by omega) (by simp [opmN, show ¬ j = 0 by omega, c_15_5]) rfl
      · skip
        replace c_15_5 := bI1 c_15_5
        refine r_aload_n F 0 rfl dX0_openParts_18 ?_
        refine r_iload_n F 2 rfl dX0_openParts_19 ?_
        refine r_iload_n F 1 rfl dX0_openParts_20 ?_
        refine r_calli (g_V (C := RX0) (T := TX0) (N := 7) (nA := 2) (As := [.int (nI j), .int (opmN B n j)]) (rest := []) F i h.obj (by omega) rfl (c_X0_isSkipped h hi ) gX0_openParts_X0_isSkipped rfl (by decide +kernel) rfl ⟨Nat.le_of_ble_eq_true rfl, Nat.le_of_ble_eq_true rfl⟩ ⟨Nat.le_of_ble_eq_true rfl, Nat.le_of_ble_eq_true rfl⟩ rfl (Nat.le_of_ble_eq_true rfl) dX0_openParts_21) (fun r_6 u_6 hp_6 => ?_)
        obtain ⟨rfl, rfl⟩ := hp_6
        refine r_if_ne F 33 (by decide) dX0_openParts_24 (fun c_24_7 => ?_) (fun c_24_7 => ?_)
        · skip
          replace c_24_7 := bI1 c_24_7
          refine r_iinc (lv' := [(0, .ref (g.2.1 i)), (1, .int (opmN B n j)), (2, .int (nI (j + 1)))]) F 2 rfl (nI_inc _) (by decide) rfl dX0_openParts_33 ?_
          refine r_goto F 4 (by decide) dX0_openParts_36 ?_
          exact ih_4 (j + 1) _ _ (by omega) (by omega) (by simp [opmN, show ¬ j = 0 by omega, c_15_5, c_24_7]) rfl
        · skip
          replace c_24_7 := bI0 c_24_7
          refine r_iload_n F 1 rfl dX0_openParts_27 ?_
          refine r_iconst (v := 1) F (by decide) dX0_openParts_28 ?_
          refine r_iload_n F 2 rfl dX0_openParts_29 ?_
          refine r_ishl F dX0_openParts_30 ?_
          refine r_ior F dX0_openParts_31 ?_
          refine r_istore_n (lv' := [(0, .ref (g.2.1 i)), (1, .int ((opmN B n j) ||| ((1 : Int32) <<< ((nI j) &&& 31)))), (2, .int (nI j))]) F (by decide) rfl dX0_openParts_32 ?_
          refine r_iinc (lv' := [(0, .ref (g.2.1 i)), (1, .int ((opmN B n j) ||| ((1 : Int32) <<< ((nI j) &&& 31)))), (2, .int (nI (j + 1)))]) F 2 rfl (nI_inc _) (by decide) rfl dX0_openParts_33 ?_
          refine r_goto F 4 (by decide) dX0_openParts_36 ?_
          exact ih_4 (j + 1) _ _ (by omega) (by omega) (by simp [opmN, show ¬ j = 0 by omega, c_15_5, c_24_7]) rfl
  exact loop_4 (5 - (1)) 1 _ _ (by omega) (by omega) rfl rfl
set_option maxHeartbeats 4000000 in
set_option maxRecDepth 100000 in
theorem c_X0_hasWanting {g : kG} {l : Launch} {u : Nat → va_E} {i n : Nat} {B : kB} {kd p lim mask : Int32} (h : FmB g u i n B) (hi : i + 7 ≤ kN)  : CI g l yX0_hasWanting wsX0_hasWanting ({ frames := 2, cells := 0, slots := 0, locals := 44 }) [.ref (g.2.1 i), .int kd, .int p, .int lim, .int mask] u (fun r u' => r = bI (hasW B n kd p lim mask) ∧ u = u') := by
  refine CI.of (cc := cX0_hasWanting) (nL := 7) (ty := .boolean) (by decide +kernel) rfl (fun v u' h => by obtain ⟨h, -⟩ := h; rw [h]; exact bI_n _) (Nat.le_of_ble_eq_true rfl) ?_
  intro X hXl F hret
  subst hXl
  have hinX0 : ∀ w ∈ wsX00, w ∈ wsX0_hasWanting := by decide +kernel
  show VL g X 0 0 u 0 [(0, .ref (g.2.1 i)), (1, .int kd), (2, .int p), (3, .int lim), (4, .int mask)] []
  refine r_iconst (v := 0) F (by decide) dX0_hasWanting_0 ?_
  refine r_istore (lv' := [(0, .ref (g.2.1 i)), (1, .int kd), (2, .int p), (3, .int lim), (4, .int mask), (5, .int 0)]) F (by decide) rfl dX0_hasWanting_1 ?_
  have loop_3 : ∀ (k : Nat) (j : Nat) (x5_3 : Int32), j + k = n → anyN j (qHW B kd p lim mask) = false → x5_3 = nI j → VL g X 0 0 u 3 [(0, .ref (g.2.1 i)), (1, .int kd), (2, .int p), (3, .int lim), (4, .int mask), (5, .int x5_3)] [] := by
    intro k
    induction k with
    | zero =>
      rintro j x5_3 hk hno rfl
      have hjn : n = j := by omega
      subst hjn
      refine r_iload F 5 rfl dX0_hasWanting_3 ?_
      refine r_aload_n F 0 rfl dX0_hasWanting_5 ?_
      refine r_get (C := RX0) (T := TX0) (N := 7) F i h.obj (by omega) hinX0 rfl 6 (by decide) (by decide +kernel) rfl dX0_hasWanting_6 ?_
      refine r_icmp_ge F 76 (by decide) dX0_hasWanting_9 (fun c_9_2 => ?_) (fun c_9_2 => absurd (Int32.le_refl _) c_9_2)
      clear c_9_2
      refine r_iconst (v := 0) F (by decide) dX0_hasWanting_76 ?_
      exact hret _ _ _ _ _ _ (Nat.le_of_ble_eq_true rfl) (Nat.le_of_ble_eq_true rfl) ⟨by simp [hasW, bI, hno], rfl⟩ dX0_hasWanting_77
    | succ k ih_3 =>
      rintro j x5_3 hk hno rfl
      have hb : j < n := by omega
      refine r_iload F 5 rfl dX0_hasWanting_3 ?_
      refine r_aload_n F 0 rfl dX0_hasWanting_5 ?_
      refine r_get (C := RX0) (T := TX0) (N := 7) F i h.obj (by omega) hinX0 rfl 6 (by decide) (by decide +kernel) rfl dX0_hasWanting_6 ?_
      refine r_icmp_ge F 76 (by decide) dX0_hasWanting_9 (fun c_9_3 => absurd c_9_3 (nI_ge (b := n) hb (by have := h.le; omega))) (fun c_9_3 => ?_)
      clear c_9_3
      refine r_aload_n F 0 rfl dX0_hasWanting_12 ?_
      refine r_iload F 5 rfl dX0_hasWanting_13 ?_
      refine r_iload F 4 rfl dX0_hasWanting_15 ?_
      refine r_calli (g_V (C := RX0) (T := TX0) (N := 7) (nA := 2) (As := [.int (nI j), .int mask]) (rest := []) F i h.obj (by omega) rfl (c_X0_isOpen h hi hb) gX0_hasWanting_X0_isOpen rfl (by decide +kernel) rfl ⟨Nat.le_of_ble_eq_true rfl, Nat.le_of_ble_eq_true rfl⟩ ⟨Nat.le_of_ble_eq_true rfl, Nat.le_of_ble_eq_true rfl⟩ rfl (Nat.le_of_ble_eq_true rfl) dX0_hasWanting_17) (fun r_4 u_4 hp_4 => ?_)
      obtain ⟨rfl, rfl⟩ := hp_4
      refine r_if_eq F 36 (by decide) dX0_hasWanting_20 (fun c_20_5 => ?_) (fun c_20_5 => ?_)
      · skip
        replace c_20_5 := bI0 c_20_5
        refine r_iconst (v := 0) F (by decide) dX0_hasWanting_36 ?_
        refine r_istore (lv' := [(0, .ref (g.2.1 i)), (1, .int kd), (2, .int p), (3, .int lim), (4, .int mask), (5, .int (nI j)), (6, .int 0)]) F (by decide) rfl dX0_hasWanting_37 ?_
        refine r_aload_n F 0 rfl dX0_hasWanting_39 ?_
        refine r_iload F 5 rfl dX0_hasWanting_40 ?_
        refine r_iload_n F 1 rfl dX0_hasWanting_42 ?_
        refine r_iload_n F 2 rfl dX0_hasWanting_43 ?_
        refine r_calli (g_V (C := RX0) (T := TX0) (N := 7) (nA := 3) (As := [.int (nI j), .int kd, .int p]) (rest := []) F i h.obj (by omega) rfl (c_X0_isFor h hi hb) gX0_hasWanting_X0_isFor rfl (by decide +kernel) rfl ⟨Nat.le_of_ble_eq_true rfl, Nat.le_of_ble_eq_true rfl⟩ ⟨Nat.le_of_ble_eq_true rfl, Nat.le_of_ble_eq_true rfl⟩ rfl (Nat.le_of_ble_eq_true rfl) dX0_hasWanting_44) (fun r_6 u_6 hp_6 => ?_)
        obtain ⟨rfl, rfl⟩ := hp_6
        refine r_if_eq F 70 (by decide) dX0_hasWanting_47 (fun c_47_7 => ?_) (fun c_47_7 => ?_)
        · skip
          replace c_47_7 := bI0 c_47_7
          refine r_iinc (lv' := [(0, .ref (g.2.1 i)), (1, .int kd), (2, .int p), (3, .int lim), (4, .int mask), (5, .int (nI (j + 1))), (6, .int 0)]) F 5 rfl (nI_inc _) (by decide) rfl dX0_hasWanting_70 ?_
          refine r_goto F 3 (by decide) dX0_hasWanting_73 ?_
          refine r_lv (lv2 := [(0, .ref (g.2.1 i)), (1, .int kd), (2, .int p), (3, .int lim), (4, .int mask), (5, .int (nI (j + 1)))]) (by simp) ?_
          exact ih_3 (j + 1) _ (by omega) (by simp [anyN, hno, qHW, qWts, c_20_5, c_47_7]) rfl
        · skip
          replace c_47_7 := bI1 c_47_7
          refine r_iload F 6 rfl dX0_hasWanting_50 ?_
          refine r_if_eq F 70 (by decide) dX0_hasWanting_52 (fun c_52_8 => ?_) (fun c_52_8 => absurd c_52_8 (by decide))
          clear c_52_8
          refine r_iinc (lv' := [(0, .ref (g.2.1 i)), (1, .int kd), (2, .int p), (3, .int lim), (4, .int mask), (5, .int (nI (j + 1))), (6, .int 0)]) F 5 rfl (nI_inc _) (by decide) rfl dX0_hasWanting_70 ?_
          refine r_goto F 3 (by decide) dX0_hasWanting_73 ?_
          refine r_lv (lv2 := [(0, .ref (g.2.1 i)), (1, .int kd), (2, .int p), (3, .int lim), (4, .int mask), (5, .int (nI (j + 1)))]) (by simp) ?_
          exact ih_3 (j + 1) _ (by omega) (by simp [anyN, hno, qHW, qWts, c_20_5, c_47_7]) rfl
      · skip
        replace c_20_5 := bI1 c_20_5
        refine r_aload_n F 0 rfl dX0_hasWanting_23 ?_
        refine r_iload F 5 rfl dX0_hasWanting_24 ?_
        refine r_calli (g_V (C := RX0) (T := TX0) (N := 7) (nA := 1) (As := [.int (nI j)]) (rest := []) F i h.obj (by omega) rfl (c_X0_isEmpty h hi hb) gX0_hasWanting_X0_isEmpty rfl (by decide +kernel) rfl ⟨Nat.le_of_ble_eq_true rfl, Nat.le_of_ble_eq_true rfl⟩ ⟨Nat.le_of_ble_eq_true rfl, Nat.le_of_ble_eq_true rfl⟩ rfl (Nat.le_of_ble_eq_true rfl) dX0_hasWanting_26) (fun r_9 u_9 hp_9 => ?_)
        obtain ⟨rfl, rfl⟩ := hp_9
        refine r_if_eq F 36 (by decide) dX0_hasWanting_29 (fun c_29_10 => ?_) (fun c_29_10 => ?_)
        · skip
          replace c_29_10 := bI0 c_29_10
          refine r_iconst (v := 0) F (by decide) dX0_hasWanting_36 ?_
          refine r_istore (lv' := [(0, .ref (g.2.1 i)), (1, .int kd), (2, .int p), (3, .int lim), (4, .int mask), (5, .int (nI j)), (6, .int 0)]) F (by decide) rfl dX0_hasWanting_37 ?_
          refine r_aload_n F 0 rfl dX0_hasWanting_39 ?_
          refine r_iload F 5 rfl dX0_hasWanting_40 ?_
          refine r_iload_n F 1 rfl dX0_hasWanting_42 ?_
          refine r_iload_n F 2 rfl dX0_hasWanting_43 ?_
          refine r_calli (g_V (C := RX0) (T := TX0) (N := 7) (nA := 3) (As := [.int (nI j), .int kd, .int p]) (rest := []) F i h.obj (by omega) rfl (c_X0_isFor h hi hb) gX0_hasWanting_X0_isFor rfl (by decide +kernel) rfl ⟨Nat.le_of_ble_eq_true rfl, Nat.le_of_ble_eq_true rfl⟩ ⟨Nat.le_of_ble_eq_true rfl, Nat.le_of_ble_eq_true rfl⟩ rfl (Nat.le_of_ble_eq_true rfl) dX0_hasWanting_44) (fun r_11 u_11 hp_11 => ?_)
          obtain ⟨rfl, rfl⟩ := hp_11
          refine r_if_eq F 70 (by decide) dX0_hasWanting_47 (fun c_47_12 => ?_) (fun c_47_12 => ?_)
          · skip
            replace c_47_12 := bI0 c_47_12
            refine r_iinc (lv' := [(0, .ref (g.2.1 i)), (1, .int kd), (2, .int p), (3, .int lim), (4, .int mask), (5, .int (nI (j + 1))), (6, .int 0)]) F 5 rfl (nI_inc _) (by decide) rfl dX0_hasWanting_70 ?_
            refine r_goto F 3 (by decide) dX0_hasWanting_73 ?_
            refine r_lv (lv2 := [(0, .ref (g.2.1 i)), (1, .int kd), (2, .int p), (3, .int lim), (4, .int mask), (5, .int (nI (j + 1)))]) (by simp) ?_
            exact ih_3 (j + 1) _ (by omega) (by simp [anyN, hno, qHW, qWts, c_20_5, c_29_10, c_47_12]) rfl
          · skip
            replace c_47_12 := bI1 c_47_12
            refine r_iload F 6 rfl dX0_hasWanting_50 ?_
            refine r_if_eq F 70 (by decide) dX0_hasWanting_52 (fun c_52_13 => ?_) (fun c_52_13 => absurd c_52_13 (by decide))
            clear c_52_13
            refine r_iinc (lv' := [(0, .ref (g.2.1 i)), (1, .int kd), (2, .int p), (3, .int lim), (4, .int mask), (5, .int (nI (j + 1))), (6, .int 0)]) F 5 rfl (nI_inc _) (by decide) rfl dX0_hasWanting_70 ?_
            refine r_goto F 3 (by decide) dX0_hasWanting_73 ?_
            refine r_lv (lv2 := [(0, .ref (g.2.1 i)), (1, .int kd), (2, .int p), (3, .int lim), (4, .int mask), (5, .int (nI (j + 1)))]) (by simp) ?_
            exact ih_3 (j + 1) _ (by omega) (by simp [anyN, hno, qHW, qWts, c_20_5, c_29_10, c_47_12]) rfl
        · skip
          replace c_29_10 := bI1 c_29_10
          refine r_iconst (v := 1) F (by decide) dX0_hasWanting_32 ?_
          refine r_goto F 37 (by decide) dX0_hasWanting_33 ?_
          refine r_istore (lv' := [(0, .ref (g.2.1 i)), (1, .int kd), (2, .int p), (3, .int lim), (4, .int mask), (5, .int (nI j)), (6, .int 1)]) F (by decide) rfl dX0_hasWanting_37 ?_
          refine r_aload_n F 0 rfl dX0_hasWanting_39 ?_
          refine r_iload F 5 rfl dX0_hasWanting_40 ?_
          refine r_iload_n F 1 rfl dX0_hasWanting_42 ?_
          refine r_iload_n F 2 rfl dX0_hasWanting_43 ?_
          refine r_calli (g_V (C := RX0) (T := TX0) (N := 7) (nA := 3) (As := [.int (nI j), .int kd, .int p]) (rest := []) F i h.obj (by omega) rfl (c_X0_isFor h hi hb) gX0_hasWanting_X0_isFor rfl (by decide +kernel) rfl ⟨Nat.le_of_ble_eq_true rfl, Nat.le_of_ble_eq_true rfl⟩ ⟨Nat.le_of_ble_eq_true rfl, Nat.le_of_ble_eq_true rfl⟩ rfl (Nat.le_of_ble_eq_true rfl) dX0_hasWanting_44) (fun r_14 u_14 hp_14 => ?_)
          obtain ⟨rfl, rfl⟩ := hp_14
          refine r_if_eq F 70 (by decide) dX0_hasWanting_47 (fun c_47_15 => ?_) (fun c_47_15 => ?_)
          · skip
            replace c_47_15 := bI0 c_47_15
            refine r_iinc (lv' := [(0, .ref (g.2.1 i)), (1, .int kd), (2, .int p), (3, .int lim), (4, .int mask), (5, .int (nI (j + 1))), (6, .int 1)]) F 5 rfl (nI_inc _) (by decide) rfl dX0_hasWanting_70 ?_
            refine r_goto F 3 (by decide) dX0_hasWanting_73 ?_
            refine r_lv (lv2 := [(0, .ref (g.2.1 i)), (1, .int kd), (2, .int p), (3, .int lim), (4, .int mask), (5, .int (nI (j + 1)))]) (by simp) ?_
            exact ih_3 (j + 1) _ (by omega) (by simp [anyN, hno, qHW, qWts, c_20_5, c_29_10, c_47_15]) rfl
          · skip
            replace c_47_15 := bI1 c_47_15
            refine r_iload F 6 rfl dX0_hasWanting_50 ?_
            refine r_if_eq F 70 (by decide) dX0_hasWanting_52 (fun c_52_16 => absurd c_52_16 (by decide)) (fun c_52_16 => ?_)
            clear c_52_16
            refine r_aload_n F 0 rfl dX0_hasWanting_55 ?_
            refine r_get (C := RX0) (T := TX0) (N := 7) F i h.obj (by omega) hinX0 rfl 3 (by decide) (by decide +kernel) rfl dX0_hasWanting_56 ?_
            refine r_iload F 5 rfl dX0_hasWanting_59 ?_
            refine r_calli (g_SN (nA := 2) (As := [.ref (g.2.1 (i + 4)), .int (nI j)]) (rest := []) F (c_atB3 h hi hb) gX0_hasWanting_X3_at_n34 rfl 6 rfl (by decide +kernel) (by decide +kernel) (by decide +kernel) rfl ⟨Nat.le_of_ble_eq_true rfl, Nat.le_of_ble_eq_true rfl⟩ ⟨Nat.le_of_ble_eq_true rfl, Nat.le_of_ble_eq_true rfl⟩ rfl (Nat.le_of_ble_eq_true rfl) dX0_hasWanting_61) (fun r_17 u_17 hp_17 => ?_)
            obtain ⟨rfl, rfl⟩ := hp_17
            refine r_iload_n F 3 rfl dX0_hasWanting_64 ?_
            refine r_icmp_gt F 70 (by decide) dX0_hasWanting_65 (fun c_65_18 => ?_) (fun c_65_18 => ?_)
            · skip
              refine r_iinc (lv' := [(0, .ref (g.2.1 i)), (1, .int kd), (2, .int p), (3, .int lim), (4, .int mask), (5, .int (nI (j + 1))), (6, .int 1)]) F 5 rfl (nI_inc _) (by decide) rfl dX0_hasWanting_70 ?_
              refine r_goto F 3 (by decide) dX0_hasWanting_73 ?_
              refine r_lv (lv2 := [(0, .ref (g.2.1 i)), (1, .int kd), (2, .int p), (3, .int lim), (4, .int mask), (5, .int (nI (j + 1)))]) (by simp) ?_
              exact ih_3 (j + 1) _ (by omega) (by simp [anyN, hno, qHW, qWts, c_20_5, c_29_10, c_47_15, c_65_18]) rfl
            · skip
              refine r_iconst (v := 1) F (by decide) dX0_hasWanting_68 ?_
              exact hret _ _ _ _ _ _ (Nat.le_of_ble_eq_true rfl) (Nat.le_of_ble_eq_true rfl) ⟨by simp [hasW, bI, anyN_t hb (show qHW B kd p lim mask j = true by simp [qHW, qWts, c_20_5, c_29_10, c_47_15, c_65_18])], rfl⟩ dX0_hasWanting_69
  exact loop_3 n 0 _ (by omega) rfl rfl
set_option maxHeartbeats 4000000 in
set_option maxRecDepth 100000 in
theorem c_X0_canOpen {g : kG} {l : Launch} {u : Nat → va_E} {i n : Nat} {B : kB} {p mask : Int32} (h : FmB g u i n B) (hi : i + 7 ≤ kN)  : CI g l yX0_canOpen wsX0_canOpen ({ frames := 3, cells := 0, slots := 0, locals := 70 }) [.ref (g.2.1 i), .int p, .int mask] u (fun r u' => r = bI (canO B n p mask) ∧ u = u') := by
  refine CI.of (cc := cX0_canOpen) (nL := 4) (ty := .boolean) (by decide +kernel) rfl (fun v u' h => by obtain ⟨h, -⟩ := h; rw [h]; exact bI_n _) (Nat.le_of_ble_eq_true rfl) ?_
  intro X hXl F hret
  subst hXl
  show VL g X 0 0 u 0 [(0, .ref (g.2.1 i)), (1, .int p), (2, .int mask)] []
  refine r_aload_n F 0 rfl dX0_canOpen_0 ?_
  refine r_iload_n F 1 rfl dX0_canOpen_1 ?_
  refine r_iload_n F 2 rfl dX0_canOpen_2 ?_
  refine r_calli (g_V (C := RX0) (T := TX0) (N := 7) (nA := 2) (As := [.int p, .int mask]) (rest := []) F i h.obj (by omega) rfl (c_X0_isTicked h hi ) gX0_canOpen_X0_isTicked rfl (by decide +kernel) rfl ⟨Nat.le_of_ble_eq_true rfl, Nat.le_of_ble_eq_true rfl⟩ ⟨Nat.le_of_ble_eq_true rfl, Nat.le_of_ble_eq_true rfl⟩ rfl (Nat.le_of_ble_eq_true rfl) dX0_canOpen_3) (fun r_1 u_1 hp_1 => ?_)
  obtain ⟨rfl, rfl⟩ := hp_1
  refine r_if_ne F 20 (by decide) dX0_canOpen_6 (fun c_6_2 => ?_) (fun c_6_2 => ?_)
  · skip
    replace c_6_2 := bI1 c_6_2
    refine r_iconst (v := 1) F (by decide) dX0_canOpen_20 ?_
    refine r_goto F 25 (by decide) dX0_canOpen_21 ?_
    refine r_istore_n (lv' := [(0, .ref (g.2.1 i)), (1, .int p), (2, .int mask), (3, .int 1)]) F (by decide) rfl dX0_canOpen_25 ?_
    refine r_iload_n F 3 rfl dX0_canOpen_26 ?_
    refine r_if_eq F 54 (by decide) dX0_canOpen_27 (fun c_27_3 => absurd c_27_3 (by decide)) (fun c_27_3 => ?_)
    clear c_27_3
    refine r_aload_n F 0 rfl dX0_canOpen_30 ?_
    refine r_iload_n F 1 rfl dX0_canOpen_31 ?_
    refine r_iload_n F 2 rfl dX0_canOpen_32 ?_
    refine r_calli (g_V (C := RX0) (T := TX0) (N := 7) (nA := 2) (As := [.int p, .int mask]) (rest := []) F i h.obj (by omega) rfl (c_X0_isSkipped h hi ) gX0_canOpen_X0_isSkipped rfl (by decide +kernel) rfl ⟨Nat.le_of_ble_eq_true rfl, Nat.le_of_ble_eq_true rfl⟩ ⟨Nat.le_of_ble_eq_true rfl, Nat.le_of_ble_eq_true rfl⟩ rfl (Nat.le_of_ble_eq_true rfl) dX0_canOpen_33) (fun r_4 u_4 hp_4 => ?_)
    obtain ⟨rfl, rfl⟩ := hp_4
    refine r_if_ne F 54 (by decide) dX0_canOpen_36 (fun c_36_5 => ?_) (fun c_36_5 => ?_)
    · skip
      replace c_36_5 := bI1 c_36_5
      refine r_iconst (v := 0) F (by decide) dX0_canOpen_54 ?_
      exact hret _ _ _ _ _ _ (Nat.le_of_ble_eq_true rfl) (Nat.le_of_ble_eq_true rfl) ⟨by simp [canO, bI, c_6_2, c_36_5], rfl⟩ dX0_canOpen_55
    · skip
      replace c_36_5 := bI0 c_36_5
      refine r_aload_n F 0 rfl dX0_canOpen_39 ?_
      refine r_iconst (v := 2) F (by decide) dX0_canOpen_40 ?_
      refine r_iload_n F 1 rfl dX0_canOpen_41 ?_
      refine r_iconst (v := 0) F (by decide) dX0_canOpen_42 ?_
      refine r_iload_n F 2 rfl dX0_canOpen_43 ?_
      refine r_calli (g_V (C := RX0) (T := TX0) (N := 7) (nA := 4) (As := [.int 2, .int p, .int 0, .int mask]) (rest := []) F i h.obj (by omega) rfl (c_X0_hasWanting h hi ) gX0_canOpen_X0_hasWanting rfl (by decide +kernel) rfl ⟨Nat.le_of_ble_eq_true rfl, Nat.le_of_ble_eq_true rfl⟩ ⟨Nat.le_of_ble_eq_true rfl, Nat.le_of_ble_eq_true rfl⟩ rfl (Nat.le_of_ble_eq_true rfl) dX0_canOpen_44) (fun r_6 u_6 hp_6 => ?_)
      obtain ⟨rfl, rfl⟩ := hp_6
      refine r_if_ne F 54 (by decide) dX0_canOpen_47 (fun c_47_7 => ?_) (fun c_47_7 => ?_)
      · skip
        replace c_47_7 := bI1 c_47_7
        refine r_iconst (v := 0) F (by decide) dX0_canOpen_54 ?_
        exact hret _ _ _ _ _ _ (Nat.le_of_ble_eq_true rfl) (Nat.le_of_ble_eq_true rfl) ⟨by simp [canO, bI, c_6_2, c_36_5, c_47_7], rfl⟩ dX0_canOpen_55
      · skip
        replace c_47_7 := bI0 c_47_7
        refine r_iconst (v := 1) F (by decide) dX0_canOpen_50 ?_
        refine r_goto F 55 (by decide) dX0_canOpen_51 ?_
        exact hret _ _ _ _ _ _ (Nat.le_of_ble_eq_true rfl) (Nat.le_of_ble_eq_true rfl) ⟨by simp [canO, bI, c_6_2, c_36_5, c_47_7], rfl⟩ dX0_canOpen_55
  · skip
    replace c_6_2 := bI0 c_6_2
    refine r_aload_n F 0 rfl dX0_canOpen_9 ?_
    refine r_iconst (v := 1) F (by decide) dX0_canOpen_10 ?_
    refine r_iload_n F 1 rfl dX0_canOpen_11 ?_
    refine r_iconst (v := -1) F (by decide) dX0_canOpen_12 ?_
    refine r_iload_n F 2 rfl dX0_canOpen_13 ?_
    refine r_calli (g_V (C := RX0) (T := TX0) (N := 7) (nA := 4) (As := [.int 1, .int p, .int (-1), .int mask]) (rest := []) F i h.obj (by omega) rfl (c_X0_hasWanting h hi ) gX0_canOpen_X0_hasWanting rfl (by decide +kernel) rfl ⟨Nat.le_of_ble_eq_true rfl, Nat.le_of_ble_eq_true rfl⟩ ⟨Nat.le_of_ble_eq_true rfl, Nat.le_of_ble_eq_true rfl⟩ rfl (Nat.le_of_ble_eq_true rfl) dX0_canOpen_14) (fun r_8 u_8 hp_8 => ?_)
    obtain ⟨rfl, rfl⟩ := hp_8
    refine r_if_eq F 24 (by decide) dX0_canOpen_17 (fun c_17_9 => ?_) (fun c_17_9 => ?_)
    · skip
      replace c_17_9 := bI0 c_17_9
      refine r_iconst (v := 0) F (by decide) dX0_canOpen_24 ?_
      refine r_istore_n (lv' := [(0, .ref (g.2.1 i)), (1, .int p), (2, .int mask), (3, .int 0)]) F (by decide) rfl dX0_canOpen_25 ?_
      refine r_iload_n F 3 rfl dX0_canOpen_26 ?_
      refine r_if_eq F 54 (by decide) dX0_canOpen_27 (fun c_27_10 => ?_) (fun c_27_10 => absurd c_27_10 (by decide))
      clear c_27_10
      refine r_iconst (v := 0) F (by decide) dX0_canOpen_54 ?_
      exact hret _ _ _ _ _ _ (Nat.le_of_ble_eq_true rfl) (Nat.le_of_ble_eq_true rfl) ⟨by simp [canO, bI, c_6_2, c_17_9], rfl⟩ dX0_canOpen_55
    · skip
      replace c_17_9 := bI1 c_17_9
      refine r_iconst (v := 1) F (by decide) dX0_canOpen_20 ?_
      refine r_goto F 25 (by decide) dX0_canOpen_21 ?_
      refine r_istore_n (lv' := [(0, .ref (g.2.1 i)), (1, .int p), (2, .int mask), (3, .int 1)]) F (by decide) rfl dX0_canOpen_25 ?_
      refine r_iload_n F 3 rfl dX0_canOpen_26 ?_
      refine r_if_eq F 54 (by decide) dX0_canOpen_27 (fun c_27_11 => absurd c_27_11 (by decide)) (fun c_27_11 => ?_)
      clear c_27_11
      refine r_aload_n F 0 rfl dX0_canOpen_30 ?_
      refine r_iload_n F 1 rfl dX0_canOpen_31 ?_
      refine r_iload_n F 2 rfl dX0_canOpen_32 ?_
      refine r_calli (g_V (C := RX0) (T := TX0) (N := 7) (nA := 2) (As := [.int p, .int mask]) (rest := []) F i h.obj (by omega) rfl (c_X0_isSkipped h hi ) gX0_canOpen_X0_isSkipped rfl (by decide +kernel) rfl ⟨Nat.le_of_ble_eq_true rfl, Nat.le_of_ble_eq_true rfl⟩ ⟨Nat.le_of_ble_eq_true rfl, Nat.le_of_ble_eq_true rfl⟩ rfl (Nat.le_of_ble_eq_true rfl) dX0_canOpen_33) (fun r_12 u_12 hp_12 => ?_)
      obtain ⟨rfl, rfl⟩ := hp_12
      refine r_if_ne F 54 (by decide) dX0_canOpen_36 (fun c_36_13 => ?_) (fun c_36_13 => ?_)
      · skip
        replace c_36_13 := bI1 c_36_13
        refine r_iconst (v := 0) F (by decide) dX0_canOpen_54 ?_
        exact hret _ _ _ _ _ _ (Nat.le_of_ble_eq_true rfl) (Nat.le_of_ble_eq_true rfl) ⟨by simp [canO, bI, c_6_2, c_17_9, c_36_13], rfl⟩ dX0_canOpen_55
      · skip
        replace c_36_13 := bI0 c_36_13
        refine r_aload_n F 0 rfl dX0_canOpen_39 ?_
        refine r_iconst (v := 2) F (by decide) dX0_canOpen_40 ?_
        refine r_iload_n F 1 rfl dX0_canOpen_41 ?_
        refine r_iconst (v := 0) F (by decide) dX0_canOpen_42 ?_
        refine r_iload_n F 2 rfl dX0_canOpen_43 ?_
        refine r_calli (g_V (C := RX0) (T := TX0) (N := 7) (nA := 4) (As := [.int 2, .int p, .int 0, .int mask]) (rest := []) F i h.obj (by omega) rfl (c_X0_hasWanting h hi ) gX0_canOpen_X0_hasWanting rfl (by decide +kernel) rfl ⟨Nat.le_of_ble_eq_true rfl, Nat.le_of_ble_eq_true rfl⟩ ⟨Nat.le_of_ble_eq_true rfl, Nat.le_of_ble_eq_true rfl⟩ rfl (Nat.le_of_ble_eq_true rfl) dX0_canOpen_44) (fun r_14 u_14 hp_14 => ?_)
        obtain ⟨rfl, rfl⟩ := hp_14
        refine r_if_ne F 54 (by decide) dX0_canOpen_47 (fun c_47_15 => ?_) (fun c_47_15 => ?_)
        · skip
          replace c_47_15 := bI1 c_47_15
          refine r_iconst (v := 0) F (by decide) dX0_canOpen_54 ?_
          exact hret _ _ _ _ _ _ (Nat.le_of_ble_eq_true rfl) (Nat.le_of_ble_eq_true rfl) ⟨by simp [canO, bI, c_6_2, c_17_9, c_36_13, c_47_15], rfl⟩ dX0_canOpen_55
        · skip
          replace c_47_15 := bI0 c_47_15
          refine r_iconst (v := 1) F (by decide) dX0_canOpen_50 ?_
          refine r_goto F 55 (by decide) dX0_canOpen_51 ?_
          exact hret _ _ _ _ _ _ (Nat.le_of_ble_eq_true rfl) (Nat.le_of_ble_eq_true rfl) ⟨by simp [canO, bI, c_6_2, c_17_9, c_36_13, c_47_15], rfl⟩ dX0_canOpen_55
set_option maxHeartbeats 4000000 in
set_option maxRecDepth 100000 in
theorem c_X0_canClose {g : kG} {l : Launch} {u : Nat → va_E} {i n : Nat} {B : kB} {p mask : Int32} (h : FmB g u i n B) (hi : i + 7 ≤ kN)  : CI g l yX0_canClose wsX0_canClose ({ frames := 3, cells := 0, slots := 0, locals := 70 }) [.ref (g.2.1 i), .int p, .int mask] u (fun r u' => r = bI (canC B n p mask) ∧ u = u') := by
  refine CI.of (cc := cX0_canClose) (nL := 3) (ty := .boolean) (by decide +kernel) rfl (fun v u' h => by obtain ⟨h, -⟩ := h; rw [h]; exact bI_n _) (Nat.le_of_ble_eq_true rfl) ?_
  intro X hXl F hret
  subst hXl
  show VL g X 0 0 u 0 [(0, .ref (g.2.1 i)), (1, .int p), (2, .int mask)] []
  refine r_aload_n F 0 rfl dX0_canClose_0 ?_
  refine r_iload_n F 1 rfl dX0_canClose_1 ?_
  refine r_iload_n F 2 rfl dX0_canClose_2 ?_
  refine r_calli (g_V (C := RX0) (T := TX0) (N := 7) (nA := 2) (As := [.int p, .int mask]) (rest := []) F i h.obj (by omega) rfl (c_X0_isTicked h hi ) gX0_canClose_X0_isTicked rfl (by decide +kernel) rfl ⟨Nat.le_of_ble_eq_true rfl, Nat.le_of_ble_eq_true rfl⟩ ⟨Nat.le_of_ble_eq_true rfl, Nat.le_of_ble_eq_true rfl⟩ rfl (Nat.le_of_ble_eq_true rfl) dX0_canClose_3) (fun r_1 u_1 hp_1 => ?_)
  obtain ⟨rfl, rfl⟩ := hp_1
  refine r_if_eq F 30 (by decide) dX0_canClose_6 (fun c_6_2 => ?_) (fun c_6_2 => ?_)
  · skip
    replace c_6_2 := bI0 c_6_2
    refine r_iconst (v := 1) F (by decide) dX0_canClose_30 ?_
    refine r_goto F 35 (by decide) dX0_canClose_31 ?_
    exact hret _ _ _ _ _ _ (Nat.le_of_ble_eq_true rfl) (Nat.le_of_ble_eq_true rfl) ⟨by simp [canC, bI, c_6_2], rfl⟩ dX0_canClose_35
  · skip
    replace c_6_2 := bI1 c_6_2
    refine r_aload_n F 0 rfl dX0_canClose_9 ?_
    refine r_iload_n F 1 rfl dX0_canClose_10 ?_
    refine r_iload_n F 2 rfl dX0_canClose_11 ?_
    refine r_calli (g_V (C := RX0) (T := TX0) (N := 7) (nA := 2) (As := [.int p, .int mask]) (rest := []) F i h.obj (by omega) rfl (c_X0_isSkipped h hi ) gX0_canClose_X0_isSkipped rfl (by decide +kernel) rfl ⟨Nat.le_of_ble_eq_true rfl, Nat.le_of_ble_eq_true rfl⟩ ⟨Nat.le_of_ble_eq_true rfl, Nat.le_of_ble_eq_true rfl⟩ rfl (Nat.le_of_ble_eq_true rfl) dX0_canClose_12) (fun r_3 u_3 hp_3 => ?_)
    obtain ⟨rfl, rfl⟩ := hp_3
    refine r_if_ne F 30 (by decide) dX0_canClose_15 (fun c_15_4 => ?_) (fun c_15_4 => ?_)
    · skip
      replace c_15_4 := bI1 c_15_4
      refine r_iconst (v := 1) F (by decide) dX0_canClose_30 ?_
      refine r_goto F 35 (by decide) dX0_canClose_31 ?_
      exact hret _ _ _ _ _ _ (Nat.le_of_ble_eq_true rfl) (Nat.le_of_ble_eq_true rfl) ⟨by simp [canC, bI, c_6_2, c_15_4], rfl⟩ dX0_canClose_35
    · skip
      replace c_15_4 := bI0 c_15_4
      refine r_aload_n F 0 rfl dX0_canClose_18 ?_
      refine r_iconst (v := 2) F (by decide) dX0_canClose_19 ?_
      refine r_iload_n F 1 rfl dX0_canClose_20 ?_
      refine r_bipush (v := 99) F (by decide) dX0_canClose_21 ?_
      refine r_iload_n F 2 rfl dX0_canClose_23 ?_
      refine r_calli (g_V (C := RX0) (T := TX0) (N := 7) (nA := 4) (As := [.int 2, .int p, .int 99, .int mask]) (rest := []) F i h.obj (by omega) rfl (c_X0_hasWanting h hi ) gX0_canClose_X0_hasWanting rfl (by decide +kernel) rfl ⟨Nat.le_of_ble_eq_true rfl, Nat.le_of_ble_eq_true rfl⟩ ⟨Nat.le_of_ble_eq_true rfl, Nat.le_of_ble_eq_true rfl⟩ rfl (Nat.le_of_ble_eq_true rfl) dX0_canClose_24) (fun r_5 u_5 hp_5 => ?_)
      obtain ⟨rfl, rfl⟩ := hp_5
      refine r_if_eq F 34 (by decide) dX0_canClose_27 (fun c_27_6 => ?_) (fun c_27_6 => ?_)
      · skip
        replace c_27_6 := bI0 c_27_6
        refine r_iconst (v := 0) F (by decide) dX0_canClose_34 ?_
        exact hret _ _ _ _ _ _ (Nat.le_of_ble_eq_true rfl) (Nat.le_of_ble_eq_true rfl) ⟨by simp [canC, bI, c_6_2, c_15_4, c_27_6], rfl⟩ dX0_canClose_35
      · skip
        replace c_27_6 := bI1 c_27_6
        refine r_iconst (v := 1) F (by decide) dX0_canClose_30 ?_
        refine r_goto F 35 (by decide) dX0_canClose_31 ?_
        exact hret _ _ _ _ _ _ (Nat.le_of_ble_eq_true rfl) (Nat.le_of_ble_eq_true rfl) ⟨by simp [canC, bI, c_6_2, c_15_4, c_27_6], rfl⟩ dX0_canClose_35
set_option maxHeartbeats 4000000 in
set_option maxRecDepth 100000 in
theorem c_X0_canComeTo {g : kG} {l : Launch} {u : Nat → va_E} {i n : Nat} {B : kB} {mask : Int32} (h : FmB g u i n B) (hi : i + 7 ≤ kN)  : CI g l yX0_canComeTo wsX0_canComeTo ({ frames := 4, cells := 0, slots := 0, locals := 93 }) [.ref (g.2.1 i), .int mask] u (fun r u' => r = bI (canT B n mask 5) ∧ u = u') := by
  refine CI.of (cc := cX0_canComeTo) (nL := 4) (ty := .boolean) (by decide +kernel) rfl (fun v u' h => by obtain ⟨h, -⟩ := h; rw [h]; exact bI_n _) (Nat.le_of_ble_eq_true rfl) ?_
  intro X hXl F hret
  subst hXl
  show VL g X 0 0 u 0 [(0, .ref (g.2.1 i)), (1, .int mask)] []
  refine r_iconst (v := 1) F (by decide) dX0_canComeTo_0 ?_
  refine r_istore_n (lv' := [(0, .ref (g.2.1 i)), (1, .int mask), (2, .int 1)]) F (by decide) rfl dX0_canComeTo_1 ?_
  have loop_2 : ∀ (k : Nat) (j : Nat) (x2_2 : Int32), j + k = 5 → 1 ≤ j → canT B n mask j = true → x2_2 = nI j → VL g X 0 0 u 2 [(0, .ref (g.2.1 i)), (1, .int mask), (2, .int x2_2)] [] := by
    intro k
    induction k with
    | zero =>
      rintro j x2_2 hk hj1 hno rfl
      have hjn : 5 = j := by omega
      subst hjn
      refine r_iload_n F 2 rfl dX0_canComeTo_2 ?_
      refine r_iconst (v := 5) F (by decide) dX0_canComeTo_3 ?_
      refine r_icmp_ge F 43 (by decide) dX0_canComeTo_4 (fun c_4_2 => ?_) (fun c_4_2 => absurd (Int32.le_refl _) c_4_2)
      clear c_4_2
      refine r_iconst (v := 1) F (by decide) dX0_canComeTo_43 ?_
      exact hret _ _ _ _ _ _ (Nat.le_of_ble_eq_true rfl) (Nat.le_of_ble_eq_true rfl) ⟨by rw [hno]; rfl, rfl⟩ dX0_canComeTo_44
    | succ k ih_2 =>
      rintro j x2_2 hk hj1 hno rfl
      have hb : j < 5 := by omega
      refine r_iload_n F 2 rfl dX0_canComeTo_2 ?_
      refine r_iconst (v := 5) F (by decide) dX0_canComeTo_3 ?_
      refine r_icmp_ge F 43 (by decide) dX0_canComeTo_4 (fun c_4_3 => absurd c_4_3 (nI_ge (b := 5) hb (by decide))) (fun c_4_3 => ?_)
      clear c_4_3
      refine r_iload_n F 2 rfl dX0_canComeTo_7 ?_
      refine r_iload_n F 1 rfl dX0_canComeTo_8 ?_
      refine r_calli (g_SN (nA := 2) (As := [.int (nI j), .int mask]) (rest := []) F (c_X3_isInMask) gX0_canComeTo_X3_isInMask_n70 rfl 17 rfl (by decide +kernel) (by decide +kernel) (by decide +kernel) rfl ⟨Nat.le_of_ble_eq_true rfl, Nat.le_of_ble_eq_true rfl⟩ ⟨Nat.le_of_ble_eq_true rfl, Nat.le_of_ble_eq_true rfl⟩ rfl (Nat.le_of_ble_eq_true rfl) dX0_canComeTo_9) (fun r_4 u_4 hp_4 => ?_)
      obtain ⟨rfl, rfl⟩ := hp_4
      refine r_if_eq F 24 (by decide) dX0_canComeTo_12 (fun c_12_5 => ?_) (fun c_12_5 => ?_)
      · skip
        replace c_12_5 := bI0 c_12_5
        refine r_aload_n F 0 rfl dX0_canComeTo_24 ?_
        refine r_iload_n F 2 rfl dX0_canComeTo_25 ?_
        refine r_iload_n F 1 rfl dX0_canComeTo_26 ?_
        refine r_calli (g_V (C := RX0) (T := TX0) (N := 7) (nA := 2) (As := [.int (nI j), .int mask]) (rest := []) F i h.obj (by omega) rfl (c_X0_canClose h hi ) gX0_canComeTo_X0_canClose rfl (by decide +kernel) rfl ⟨Nat.le_of_ble_eq_true rfl, Nat.le_of_ble_eq_true rfl⟩ ⟨Nat.le_of_ble_eq_true rfl, Nat.le_of_ble_eq_true rfl⟩ rfl (Nat.le_of_ble_eq_true rfl) dX0_canComeTo_27) (fun r_6 u_6 hp_6 => ?_)
        obtain ⟨rfl, rfl⟩ := hp_6
        refine r_istore_n (lv' := [(0, .ref (g.2.1 i)), (1, .int mask), (2, .int (nI j)), (3, .int (bI (canC B n (nI j) mask)))]) F (by decide) rfl dX0_canComeTo_30 ?_
        refine r_iload_n F 3 rfl dX0_canComeTo_31 ?_
        refine r_if_ne F 37 (by decide) dX0_canComeTo_32 (fun c_32_7 => ?_) (fun c_32_7 => ?_)
        · skip
          replace c_32_7 := bI1 c_32_7
          refine r_iinc (lv' := [(0, .ref (g.2.1 i)), (1, .int mask), (2, .int (nI (j + 1))), (3, .int (bI (canC B n (nI j) mask)))]) F 2 rfl (nI_inc _) (by decide) rfl dX0_canComeTo_37 ?_
          refine r_goto F 2 (by decide) dX0_canComeTo_40 ?_
          refine r_lv (lv2 := [(0, .ref (g.2.1 i)), (1, .int mask), (2, .int (nI (j + 1)))]) (by simp) ?_
          exact ih_2 (j + 1) _ (by omega) (by omega) (by simp [canT, hno, show ¬ j = 0 by omega, c_12_5, c_32_7]) rfl
        · skip
          replace c_32_7 := bI0 c_32_7
          refine r_iconst (v := 0) F (by decide) dX0_canComeTo_35 ?_
          exact hret _ _ _ _ _ _ (Nat.le_of_ble_eq_true rfl) (Nat.le_of_ble_eq_true rfl) ⟨by rw [canT_f (j := j) (by omega) (by simp [canT, hno, show ¬ j = 0 by omega, c_12_5, c_32_7])]; rfl, rfl⟩ dX0_canComeTo_36
      · skip
        replace c_12_5 := bI1 c_12_5
        refine r_aload_n F 0 rfl dX0_canComeTo_15 ?_
        refine r_iload_n F 2 rfl dX0_canComeTo_16 ?_
        refine r_iload_n F 1 rfl dX0_canComeTo_17 ?_
        refine r_calli (g_V (C := RX0) (T := TX0) (N := 7) (nA := 2) (As := [.int (nI j), .int mask]) (rest := []) F i h.obj (by omega) rfl (c_X0_canOpen h hi ) gX0_canComeTo_X0_canOpen rfl (by decide +kernel) rfl ⟨Nat.le_of_ble_eq_true rfl, Nat.le_of_ble_eq_true rfl⟩ ⟨Nat.le_of_ble_eq_true rfl, Nat.le_of_ble_eq_true rfl⟩ rfl (Nat.le_of_ble_eq_true rfl) dX0_canComeTo_18) (fun r_8 u_8 hp_8 => ?_)
        obtain ⟨rfl, rfl⟩ := hp_8
        refine r_goto F 30 (by decide) dX0_canComeTo_21 ?_
        refine r_istore_n (lv' := [(0, .ref (g.2.1 i)), (1, .int mask), (2, .int (nI j)), (3, .int (bI (canO B n (nI j) mask)))]) F (by decide) rfl dX0_canComeTo_30 ?_
        refine r_iload_n F 3 rfl dX0_canComeTo_31 ?_
        refine r_if_ne F 37 (by decide) dX0_canComeTo_32 (fun c_32_9 => ?_) (fun c_32_9 => ?_)
        · skip
          replace c_32_9 := bI1 c_32_9
          refine r_iinc (lv' := [(0, .ref (g.2.1 i)), (1, .int mask), (2, .int (nI (j + 1))), (3, .int (bI (canO B n (nI j) mask)))]) F 2 rfl (nI_inc _) (by decide) rfl dX0_canComeTo_37 ?_
          refine r_goto F 2 (by decide) dX0_canComeTo_40 ?_
          refine r_lv (lv2 := [(0, .ref (g.2.1 i)), (1, .int mask), (2, .int (nI (j + 1)))]) (by simp) ?_
          exact ih_2 (j + 1) _ (by omega) (by omega) (by simp [canT, hno, show ¬ j = 0 by omega, c_12_5, c_32_9]) rfl
        · skip
          replace c_32_9 := bI0 c_32_9
          refine r_iconst (v := 0) F (by decide) dX0_canComeTo_35 ?_
          exact hret _ _ _ _ _ _ (Nat.le_of_ble_eq_true rfl) (Nat.le_of_ble_eq_true rfl) ⟨by rw [canT_f (j := j) (by omega) (by simp [canT, hno, show ¬ j = 0 by omega, c_12_5, c_32_9])]; rfl, rfl⟩ dX0_canComeTo_36
  exact loop_2 (5 - (1)) 1 _ (by omega) (by omega) rfl rfl
set_option maxHeartbeats 4000000 in
set_option maxRecDepth 100000 in
theorem c_X0_mostWithTeeth {g : kG} {l : Launch} {u : Nat → va_E} {t : Nat} (ht : t ≤ 5) : CI g l yX0_mostWithTeeth wsX0_mostWithTeeth ({ frames := 0, cells := 0, slots := 0, locals := 0 }) [.int (nI t)] u (fun r u' => r = topT t ∧ u = u') := by
  refine CI.of (cc := cX0_mostWithTeeth) (nL := 3) (ty := .int) (by decide +kernel) rfl (fun _ _ _ => rfl) (Nat.le_of_ble_eq_true rfl) ?_
  intro X hXl F hret
  subst hXl
  show VL g X 0 0 u 0 [(0, .int (nI t))] []
  refine r_iconst (v := 0) F (by decide) dX0_mostWithTeeth_0 ?_
  refine r_istore_n (lv' := [(0, .int (nI t)), (1, .int 0)]) F (by decide) rfl dX0_mostWithTeeth_1 ?_
  refine r_iconst (v := 0) F (by decide) dX0_mostWithTeeth_2 ?_
  refine r_istore_n (lv' := [(0, .int (nI t)), (1, .int 0), (2, .int 0)]) F (by decide) rfl dX0_mostWithTeeth_3 ?_
  have loop_4 : ∀ (k : Nat) (j : Nat) (x1_4 : Int32) (x2_4 : Int32), j + k = t → x1_4 = topT j → x2_4 = nI j → VL g X 0 0 u 4 [(0, .int (nI t)), (1, .int x1_4), (2, .int x2_4)] [] := by
    intro k
    induction k with
    | zero =>
      rintro j x1_4 x2_4 hk rfl rfl
      have hjn : t = j := by omega
      subst hjn
      refine r_iload_n F 2 rfl dX0_mostWithTeeth_4 ?_
      refine r_iload_n F 0 rfl dX0_mostWithTeeth_5 ?_
      refine r_icmp_ge F 28 (by decide) dX0_mostWithTeeth_6 (fun c_6_2 => ?_) (fun c_6_2 => absurd (Int32.le_refl _) c_6_2)
      clear c_6_2
      refine r_iload_n F 1 rfl dX0_mostWithTeeth_28 ?_
      exact hret _ _ _ _ _ _ (Nat.le_of_ble_eq_true rfl) (Nat.le_of_ble_eq_true rfl) ⟨by rfl, rfl⟩ dX0_mostWithTeeth_29
    | succ k ih_4 =>
      rintro j x1_4 x2_4 hk rfl rfl
      have hb : j < t := by omega
      refine r_iload_n F 2 rfl dX0_mostWithTeeth_4 ?_
      refine r_iload_n F 0 rfl dX0_mostWithTeeth_5 ?_
      refine r_icmp_ge F 28 (by decide) dX0_mostWithTeeth_6 (fun c_6_3 => absurd c_6_3 (nI_ge (b := t) hb (by have := ht; omega))) (fun c_6_3 => ?_)
      clear c_6_3
      refine r_iload_n F 2 rfl dX0_mostWithTeeth_9 ?_
      refine r_iconst (v := 5) F (by decide) dX0_mostWithTeeth_10 ?_
      refine r_icmp_ge F 28 (by decide) dX0_mostWithTeeth_11 (fun c_11_4 => absurd c_11_4 (nI_ge (b := 5) (a := j) (by omega) (by decide))) (fun c_11_4 => ?_)
      clear c_11_4
      refine r_iload_n F 1 rfl dX0_mostWithTeeth_14 ?_
      refine r_bipush (v := 10) F (by decide) dX0_mostWithTeeth_15 ?_
      refine r_imul F dX0_mostWithTeeth_17 ?_
      refine r_bipush (v := 9) F (by decide) dX0_mostWithTeeth_18 ?_
      refine r_iadd F dX0_mostWithTeeth_20 ?_
      refine r_istore_n (lv' := [(0, .int (nI t)), (1, .int (((topT j) * 10) + 9)), (2, .int (nI j))]) F (by decide) rfl dX0_mostWithTeeth_21 ?_
      refine r_iinc (lv' := [(0, .int (nI t)), (1, .int (((topT j) * 10) + 9)), (2, .int (nI (j + 1)))]) F 2 rfl (nI_inc _) (by decide) rfl dX0_mostWithTeeth_22 ?_
      refine r_goto F 4 (by decide) dX0_mostWithTeeth_25 ?_
      exact ih_4 (j + 1) _ _ (by omega)  rfl rfl
  exact loop_4 t 0 _ _ (by omega)  rfl rfl
set_option maxHeartbeats 4000000 in
set_option maxRecDepth 100000 in
theorem c_X0_mostAnswer {g : kG} {l : Launch} {u : Nat → va_E} {i n : Nat} {B : kB} {b : Nat} (h : FmB g u i n B) (hi : i + 7 ≤ kN) (hb : b < n) (hT : B b 0 = 0 → ∃ t, t ≤ 5 ∧ B b 2 = nI t) : CI g l yX0_mostAnswer wsX0_mostAnswer ({ frames := 1, cells := 0, slots := 0, locals := 22 }) [.ref (g.2.1 i), .int (nI b)] u (fun r u' => r = topA B b ∧ u = u') := by
  refine CI.of (cc := cX0_mostAnswer) (nL := 2) (ty := .int) (by decide +kernel) rfl (fun _ _ _ => rfl) (Nat.le_of_ble_eq_true rfl) ?_
  intro X hXl F hret
  subst hXl
  have hinX0 : ∀ w ∈ wsX00, w ∈ wsX0_mostAnswer := by decide +kernel
  show VL g X 0 0 u 0 [(0, .ref (g.2.1 i)), (1, .int (nI b))] []
  refine r_aload_n F 0 rfl dX0_mostAnswer_0 ?_
  refine r_get (C := RX0) (T := TX0) (N := 7) F i h.obj (by omega) hinX0 rfl 0 (by decide) (by decide +kernel) rfl dX0_mostAnswer_1 ?_
  refine r_iload_n F 1 rfl dX0_mostAnswer_4 ?_
  refine r_calli (g_SN (nA := 2) (As := [.ref (g.2.1 (i + 1)), .int (nI b)]) (rest := []) F (c_atB0 h hi hb) gX0_mostAnswer_X3_at_n34 rfl 6 rfl (by decide +kernel) (by decide +kernel) (by decide +kernel) rfl ⟨Nat.le_of_ble_eq_true rfl, Nat.le_of_ble_eq_true rfl⟩ ⟨Nat.le_of_ble_eq_true rfl, Nat.le_of_ble_eq_true rfl⟩ rfl (Nat.le_of_ble_eq_true rfl) dX0_mostAnswer_5) (fun r_1 u_1 hp_1 => ?_)
  obtain ⟨rfl, rfl⟩ := hp_1
  by_cases h0 : B b 0 = 0
  · refine r_eq (st2 := [.int 0]) (by rw [h0]) rfl ?_
    refine r_tabIn F 36 (by decide) (by decide) rfl (by decide) dX0_mostAnswer_8 ?_
    refine r_aload_n F 0 rfl dX0_mostAnswer_36 ?_
    refine r_get (C := RX0) (T := TX0) (N := 7) F i h.obj (by omega) hinX0 rfl 2 (by decide) (by decide +kernel) rfl dX0_mostAnswer_37 ?_
    refine r_iload_n F 1 rfl dX0_mostAnswer_40 ?_
    refine r_calli (g_SN (nA := 2) (As := [.ref (g.2.1 (i + 3)), .int (nI b)]) (rest := []) F (c_atB2 h hi hb) gX0_mostAnswer_X3_at_n34 rfl 6 rfl (by decide +kernel) (by decide +kernel) (by decide +kernel) rfl ⟨Nat.le_of_ble_eq_true rfl, Nat.le_of_ble_eq_true rfl⟩ ⟨Nat.le_of_ble_eq_true rfl, Nat.le_of_ble_eq_true rfl⟩ rfl (Nat.le_of_ble_eq_true rfl) dX0_mostAnswer_41) (fun r_2 u_2 hp_2 => ?_)
    obtain ⟨rfl, rfl⟩ := hp_2
    obtain ⟨t, ht, et⟩ := hT h0
    refine r_eq (st2 := [.int (nI t)]) (by rw [et]) rfl ?_
    refine r_calli (g_S (nA := 1) (As := [.int (nI t)]) (rest := []) F (c_X0_mostWithTeeth ht) gX0_mostAnswer_X0_mostWithTeeth rfl (by decide +kernel) rfl ⟨Nat.le_of_ble_eq_true rfl, Nat.le_of_ble_eq_true rfl⟩ ⟨Nat.le_of_ble_eq_true rfl, Nat.le_of_ble_eq_true rfl⟩ rfl (Nat.le_of_ble_eq_true rfl) dX0_mostAnswer_44) (fun r_3 u_3 hp_3 => ?_)
    obtain ⟨rfl, rfl⟩ := hp_3
    exact hret _ _ _ _ _ _ (Nat.le_of_ble_eq_true rfl) (Nat.le_of_ble_eq_true rfl) ⟨by rw [topA, if_pos h0, et, nI_clamp (by omega)], rfl⟩ dX0_mostAnswer_47
  · by_cases h1 : B b 0 = 1
    · refine r_eq (st2 := [.int 1]) (by rw [h1]) rfl ?_
      refine r_tabIn F 48 (by decide) (by decide) rfl (by decide) dX0_mostAnswer_8 ?_
      refine r_iconst (v := 1) F (by decide) dX0_mostAnswer_48 ?_
      exact hret _ _ _ _ _ _ (Nat.le_of_ble_eq_true rfl) (Nat.le_of_ble_eq_true rfl) ⟨by simp [topA, h1], rfl⟩ dX0_mostAnswer_49
    · by_cases h2 : B b 0 = 2
      · refine r_eq (st2 := [.int 2]) (by rw [h2]) rfl ?_
        refine r_tabIn F 50 (by decide) (by decide) rfl (by decide) dX0_mostAnswer_8 ?_
        refine r_bipush (v := 99) F (by decide) dX0_mostAnswer_50 ?_
        exact hret _ _ _ _ _ _ (Nat.le_of_ble_eq_true rfl) (Nat.le_of_ble_eq_true rfl) ⟨by simp [topA, h2], rfl⟩ dX0_mostAnswer_52
      · refine r_tabOut F 53 (tabO2 h0 h1 h2) (by decide) dX0_mostAnswer_8 ?_
        refine r_iconst (v := -1) F (by decide) dX0_mostAnswer_53 ?_
        exact hret _ _ _ _ _ _ (Nat.le_of_ble_eq_true rfl) (Nat.le_of_ble_eq_true rfl) ⟨by simp [topA, h0, h1, h2], rfl⟩ dX0_mostAnswer_54
set_option maxHeartbeats 4000000 in
set_option maxRecDepth 100000 in
theorem c_X0_fits {g : kG} {l : Launch} {u : Nat → va_E} {i n : Nat} {B : kB} {b : Nat} {v : Int32} (h : FmB g u i n B) (hi : i + 7 ≤ kN) (hb : b < n) (hT : B b 0 = 0 → ∃ t, t ≤ 5 ∧ B b 2 = nI t) : CI g l yX0_fits wsX0_fits ({ frames := 2, cells := 0, slots := 0, locals := 43 }) [.ref (g.2.1 i), .int (nI b), .int v] u (fun r u' => r = bI (fitA B b v) ∧ u = u') := by
  refine CI.of (cc := cX0_fits) (nL := 3) (ty := .boolean) (by decide +kernel) rfl (fun v u' h => by obtain ⟨h, -⟩ := h; rw [h]; exact bI_n _) (Nat.le_of_ble_eq_true rfl) ?_
  intro X hXl F hret
  subst hXl
  show VL g X 0 0 u 0 [(0, .ref (g.2.1 i)), (1, .int (nI b)), (2, .int v)] []
  refine r_iload_n F 2 rfl dX0_fits_0 ?_
  refine r_iconst (v := -1) F (by decide) dX0_fits_1 ?_
  refine r_icmp_eq F 18 (by decide) dX0_fits_2 (fun c_2_1 => ?_) (fun c_2_1 => ?_)
  · skip
    refine r_iconst (v := 1) F (by decide) dX0_fits_18 ?_
    refine r_goto F 23 (by decide) dX0_fits_19 ?_
    exact hret _ _ _ _ _ _ (Nat.le_of_ble_eq_true rfl) (Nat.le_of_ble_eq_true rfl) ⟨by simp [fitA, bI, c_2_1], rfl⟩ dX0_fits_23
  · skip
    refine r_iload_n F 2 rfl dX0_fits_5 ?_
    refine r_iconst (v := 0) F (by decide) dX0_fits_6 ?_
    refine r_aload_n F 0 rfl dX0_fits_7 ?_
    refine r_iload_n F 1 rfl dX0_fits_8 ?_
    refine r_calli (g_V (C := RX0) (T := TX0) (N := 7) (nA := 1) (As := [.int (nI b)]) (rest := [.int 0, .int v]) F i h.obj (by omega) rfl (c_X0_mostAnswer h hi hb hT) gX0_fits_X0_mostAnswer rfl (by decide +kernel) rfl ⟨Nat.le_of_ble_eq_true rfl, Nat.le_of_ble_eq_true rfl⟩ ⟨Nat.le_of_ble_eq_true rfl, Nat.le_of_ble_eq_true rfl⟩ rfl (Nat.le_of_ble_eq_true rfl) dX0_fits_9) (fun r_2 u_2 hp_2 => ?_)
    obtain ⟨rfl, rfl⟩ := hp_2
    refine r_calli (g_SN (nA := 3) (As := [.int v, .int 0, .int (topA B b)]) (rest := []) F (c_X3_isWithin) gX0_fits_X3_isWithin_n46 rfl 45 rfl (by decide +kernel) (by decide +kernel) (by decide +kernel) rfl ⟨Nat.le_of_ble_eq_true rfl, Nat.le_of_ble_eq_true rfl⟩ ⟨Nat.le_of_ble_eq_true rfl, Nat.le_of_ble_eq_true rfl⟩ rfl (Nat.le_of_ble_eq_true rfl) dX0_fits_12) (fun r_3 u_3 hp_3 => ?_)
    obtain ⟨rfl, rfl⟩ := hp_3
    refine r_if_eq F 22 (by decide) dX0_fits_15 (fun c_15_4 => ?_) (fun c_15_4 => ?_)
    · skip
      replace c_15_4 := bI0 c_15_4
      refine r_iconst (v := 0) F (by decide) dX0_fits_22 ?_
      exact hret _ _ _ _ _ _ (Nat.le_of_ble_eq_true rfl) (Nat.le_of_ble_eq_true rfl) ⟨by simp [fitA, bI, c_2_1, c_15_4], rfl⟩ dX0_fits_23
    · skip
      replace c_15_4 := bI1 c_15_4
      refine r_iconst (v := 1) F (by decide) dX0_fits_18 ?_
      refine r_goto F 23 (by decide) dX0_fits_19 ?_
      exact hret _ _ _ _ _ _ (Nat.le_of_ble_eq_true rfl) (Nat.le_of_ble_eq_true rfl) ⟨by simp [fitA, bI, c_2_1, c_15_4], rfl⟩ dX0_fits_23
set_option maxHeartbeats 4000000 in
set_option maxRecDepth 100000 in
theorem c_X0_ownValue {g : kG} {l : Launch} {u : Nat → va_E} {i n : Nat} {B : kB} {b : Nat} (h : FmB g u i n B) (hi : i + 7 ≤ kN) (hb : b < n) : CI g l yX0_ownValue wsX0_ownValue ({ frames := 2, cells := 0, slots := 0, locals := 42 }) [.ref (g.2.1 i), .int (nI b)] u (fun r u' => r = ownV B b ∧ u = u') := by
  refine CI.of (cc := cX0_ownValue) (nL := 2) (ty := .int) (by decide +kernel) rfl (fun _ _ _ => rfl) (Nat.le_of_ble_eq_true rfl) ?_
  intro X hXl F hret
  subst hXl
  have hinX0 : ∀ w ∈ wsX00, w ∈ wsX0_ownValue := by decide +kernel
  show VL g X 0 0 u 0 [(0, .ref (g.2.1 i)), (1, .int (nI b))] []
  refine r_aload_n F 0 rfl dX0_ownValue_0 ?_
  refine r_get (C := RX0) (T := TX0) (N := 7) F i h.obj (by omega) hinX0 rfl 0 (by decide) (by decide +kernel) rfl dX0_ownValue_1 ?_
  refine r_iload_n F 1 rfl dX0_ownValue_4 ?_
  refine r_calli (g_SN (nA := 2) (As := [.ref (g.2.1 (i + 1)), .int (nI b)]) (rest := []) F (c_atB0 h hi hb) gX0_ownValue_X3_at_n34 rfl 6 rfl (by decide +kernel) (by decide +kernel) (by decide +kernel) rfl ⟨Nat.le_of_ble_eq_true rfl, Nat.le_of_ble_eq_true rfl⟩ ⟨Nat.le_of_ble_eq_true rfl, Nat.le_of_ble_eq_true rfl⟩ rfl (Nat.le_of_ble_eq_true rfl) dX0_ownValue_5) (fun r_1 u_1 hp_1 => ?_)
  obtain ⟨rfl, rfl⟩ := hp_1
  refine r_if_eq F 13 (by decide) dX0_ownValue_8 (fun c_8_2 => ?_) (fun c_8_2 => ?_)
  · skip
    refine r_aload_n F 0 rfl dX0_ownValue_13 ?_
    refine r_iload_n F 1 rfl dX0_ownValue_14 ?_
    refine r_calli (g_V (C := RX0) (T := TX0) (N := 7) (nA := 1) (As := [.int (nI b)]) (rest := []) F i h.obj (by omega) rfl (c_X0_isEmpty h hi hb) gX0_ownValue_X0_isEmpty rfl (by decide +kernel) rfl ⟨Nat.le_of_ble_eq_true rfl, Nat.le_of_ble_eq_true rfl⟩ ⟨Nat.le_of_ble_eq_true rfl, Nat.le_of_ble_eq_true rfl⟩ rfl (Nat.le_of_ble_eq_true rfl) dX0_ownValue_15) (fun r_3 u_3 hp_3 => ?_)
    obtain ⟨rfl, rfl⟩ := hp_3
    refine r_if_eq F 25 (by decide) dX0_ownValue_18 (fun c_18_4 => ?_) (fun c_18_4 => ?_)
    · skip
      replace c_18_4 := bI0 c_18_4
      refine r_aload_n F 0 rfl dX0_ownValue_25 ?_
      refine r_get (C := RX0) (T := TX0) (N := 7) F i h.obj (by omega) hinX0 rfl 4 (by decide) (by decide +kernel) rfl dX0_ownValue_26 ?_
      refine r_iload_n F 1 rfl dX0_ownValue_29 ?_
      refine r_calli (g_SN (nA := 2) (As := [.ref (g.2.1 (i + 5)), .int (nI b)]) (rest := []) F (c_atB4 h hi hb) gX0_ownValue_X3_at_n34 rfl 6 rfl (by decide +kernel) (by decide +kernel) (by decide +kernel) rfl ⟨Nat.le_of_ble_eq_true rfl, Nat.le_of_ble_eq_true rfl⟩ ⟨Nat.le_of_ble_eq_true rfl, Nat.le_of_ble_eq_true rfl⟩ rfl (Nat.le_of_ble_eq_true rfl) dX0_ownValue_30) (fun r_5 u_5 hp_5 => ?_)
      obtain ⟨rfl, rfl⟩ := hp_5
      exact hret _ _ _ _ _ _ (Nat.le_of_ble_eq_true rfl) (Nat.le_of_ble_eq_true rfl) ⟨by have q := c_18_4; simp [qEmp, c_8_2] at q; simp [ownV, q, c_8_2], rfl⟩ dX0_ownValue_33
    · skip
      replace c_18_4 := bI1 c_18_4
      refine r_iconst (v := 0) F (by decide) dX0_ownValue_21 ?_
      refine r_goto F 33 (by decide) dX0_ownValue_22 ?_
      exact hret _ _ _ _ _ _ (Nat.le_of_ble_eq_true rfl) (Nat.le_of_ble_eq_true rfl) ⟨by have q := c_18_4; simp [qEmp, c_8_2] at q; simp [ownV, q, c_8_2], rfl⟩ dX0_ownValue_33
  · skip
    refine r_iconst (v := -1) F (by decide) dX0_ownValue_11 ?_
    exact hret _ _ _ _ _ _ (Nat.le_of_ble_eq_true rfl) (Nat.le_of_ble_eq_true rfl) ⟨by simp [ownV, c_8_2], rfl⟩ dX0_ownValue_12
set_option maxHeartbeats 4000000 in
set_option maxRecDepth 100000 in
theorem c_X0_lastTotal {g : kG} {l : Launch} {u : Nat → va_E} {i n : Nat} {B : kB}  (h : FmB g u i n B) (hi : i + 7 ≤ kN)  : CI g l yX0_lastTotal wsX0_lastTotal ({ frames := 1, cells := 0, slots := 0, locals := 21 }) [.ref (g.2.1 i)] u (fun r u' => r = lastT B n ∧ u = u') := by
  refine CI.of (cc := cX0_lastTotal) (nL := 2) (ty := .int) (by decide +kernel) rfl (fun _ _ _ => rfl) (Nat.le_of_ble_eq_true rfl) ?_
  intro X hXl F hret
  subst hXl
  have hinX0 : ∀ w ∈ wsX00, w ∈ wsX0_lastTotal := by decide +kernel
  show VL g X 0 0 u 0 [(0, .ref (g.2.1 i))] []
  refine r_aload_n F 0 rfl dX0_lastTotal_0 ?_
  refine r_get (C := RX0) (T := TX0) (N := 7) F i h.obj (by omega) hinX0 rfl 6 (by decide) (by decide +kernel) rfl dX0_lastTotal_1 ?_
  refine r_iconst (v := 1) F (by decide) dX0_lastTotal_4 ?_
  refine r_isub F dX0_lastTotal_5 ?_
  refine r_istore_n (lv' := [(0, .ref (g.2.1 i)), (1, .int ((nI n) - 1))]) F (by decide) rfl dX0_lastTotal_6 ?_
  have loop_7 : ∀ (k : Nat) (x1_7 : Int32), k ≤ n → lastT B k = lastT B n → x1_7 = nI k - 1 → VL g X 0 0 u 7 [(0, .ref (g.2.1 i)), (1, .int x1_7)] [] := by
    intro k
    induction k with
    | zero =>
      rintro x1_7 hk hno rfl
      refine r_iload_n F 1 rfl dX0_lastTotal_7 ?_
      refine r_if_lt F 31 (by decide) dX0_lastTotal_8 (fun c_8_2 => ?_) (fun c_8_2 => absurd (by decide) c_8_2)
      clear c_8_2
      refine r_iconst (v := -1) F (by decide) dX0_lastTotal_31 ?_
      exact hret _ _ _ _ _ _ (Nat.le_of_ble_eq_true rfl) (Nat.le_of_ble_eq_true rfl) ⟨by rw [← hno]; rfl, rfl⟩ dX0_lastTotal_32
    | succ k ih_7 =>
      rintro x1_7 hk hno rfl
      have hb : k < n := by omega
      rw [nI_pred k]
      refine r_iload_n F 1 rfl dX0_lastTotal_7 ?_
      refine r_if_lt F 31 (by decide) dX0_lastTotal_8 (fun c_8_3 => absurd c_8_3 (nI_pos (by have := h.le; omega))) (fun c_8_3 => ?_)
      clear c_8_3
      refine r_aload_n F 0 rfl dX0_lastTotal_11 ?_
      refine r_get (C := RX0) (T := TX0) (N := 7) F i h.obj (by omega) hinX0 rfl 0 (by decide) (by decide +kernel) rfl dX0_lastTotal_12 ?_
      refine r_iload_n F 1 rfl dX0_lastTotal_15 ?_
      refine r_calli (g_SN (nA := 2) (As := [.ref (g.2.1 (i + 1)), .int (nI k)]) (rest := []) F (c_atB0 h hi hb) gX0_lastTotal_X3_at_n34 rfl 6 rfl (by decide +kernel) (by decide +kernel) (by decide +kernel) rfl ⟨Nat.le_of_ble_eq_true rfl, Nat.le_of_ble_eq_true rfl⟩ ⟨Nat.le_of_ble_eq_true rfl, Nat.le_of_ble_eq_true rfl⟩ rfl (Nat.le_of_ble_eq_true rfl) dX0_lastTotal_16) (fun r_4 u_4 hp_4 => ?_)
      obtain ⟨rfl, rfl⟩ := hp_4
      refine r_iconst (v := 3) F (by decide) dX0_lastTotal_19 ?_
      refine r_icmp_ne F 25 (by decide) dX0_lastTotal_20 (fun c_20_5 => ?_) (fun c_20_5 => ?_)
      · skip
        refine r_iinc (lv' := [(0, .ref (g.2.1 i)), (1, .int (nI k - 1))]) F 1 rfl (nI_dec _) (by decide) rfl dX0_lastTotal_25 ?_
        refine r_goto F 7 (by decide) dX0_lastTotal_28 ?_
        exact ih_7 _ (by omega) (by rw [← hno]; simp [lastT, c_20_5]) rfl
      · skip
        refine r_iload_n F 1 rfl dX0_lastTotal_23 ?_
        exact hret _ _ _ _ _ _ (Nat.le_of_ble_eq_true rfl) (Nat.le_of_ble_eq_true rfl) ⟨by rw [← hno]; simp [lastT, c_20_5], rfl⟩ dX0_lastTotal_24
  exact loop_7 n _ (Nat.le_refl _) rfl rfl

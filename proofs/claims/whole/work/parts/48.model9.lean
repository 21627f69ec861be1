set_option maxHeartbeats 4000000 in
set_option maxRecDepth 100000 in
theorem c_X4_letter {g : kG} {l : Launch} {u : Nat → va_E} {th rm wr : Int32} {hs : Int64} {VA RD CH WE : Nat → Int32} {n m t : Nat} {B : kB} {S : Nat → kS} {C : Nat → Int32} {p : Nat} (h : MdX g u th rm (nI p) wr hs VA RD CH WE n B m S t C) (hp : p < 2 ^ 31) : CI g l yX4_letter wsX4_letter ({ frames := 0, cells := 0, slots := 0, locals := 0 }) [.ref (g.2.1 61)] u (fun r u' => r = codC C t p ∧ u = u') := by
  refine CI.of (cc := cX4_letter) (nL := 1) (ty := .int) (by decide +kernel) rfl (fun _ _ _ => rfl) (Nat.le_of_ble_eq_true rfl) ?_
  intro X hXl F hret
  subst hXl
  have hinX4 : ∀ w ∈ wsX40, w ∈ wsX4_letter := by decide +kernel
  obtain ⟨Z, SV, BF, hL, hZ, hSV, hBF, hn16, hm6, ht60⟩ := id h
  show VL g X 0 0 u 0 [(0, .ref (g.2.1 61))] []
  refine r_aload_n F 0 rfl dX4_letter_0 ?_
  refine r_get (C := RX4) (T := TX4) (N := 14) F 61 hL.1 (by decide) hinX4 rfl 9 (by decide) (by decide +kernel) rfl dX4_letter_1 ?_
  refine r_aload_n F 0 rfl dX4_letter_4 ?_
  refine r_get (C := RX4) (T := TX4) (N := 14) F 61 hL.1 (by decide) hinX4 rfl 5 (by decide) (by decide +kernel) rfl dX4_letter_5 ?_
  refine r_icmp_ge F 23 (by decide) dX4_letter_8 (fun c_8_1 => ?_) (fun c_8_1 => ?_)
  · skip
    have hq : ¬ p < t := by have z := c_8_1; rw [nI_leI (by omega) (by omega)] at z; omega
    refine r_iconst (v := -1) F (by decide) dX4_letter_23 ?_
    exact hret _ _ _ _ _ _ (Nat.le_of_ble_eq_true rfl) (Nat.le_of_ble_eq_true rfl) ⟨by simp [codC, hq], rfl⟩ dX4_letter_24
  · skip
    have hq : p < t := by have z := c_8_1; rw [nI_leI (by omega) (by omega)] at z; omega
    refine r_aload_n F 0 rfl dX4_letter_11 ?_
    refine r_get (C := RX4) (T := TX4) (N := 14) F 61 hL.1 (by decide) hinX4 rfl 4 (by decide) (by decide +kernel) rfl dX4_letter_12 ?_
    refine r_aload_n F 0 rfl dX4_letter_15 ?_
    refine r_get (C := RX4) (T := TX4) (N := 14) F 61 hL.1 (by decide) hinX4 rfl 9 (by decide) (by decide +kernel) rfl dX4_letter_16 ?_
    refine r_iald F 64 hL.2.2.2.1 (by decide) (vp_in_nI (by omega) (by decide)) dX4_letter_19 ?_
    refine r_eq (st2 := [.int (C p)]) (by rw [nI_clamp (by omega), hBF p hq]) rfl ?_
    refine r_goto F 24 (by decide) dX4_letter_20 ?_
    exact hret _ _ _ _ _ _ (Nat.le_of_ble_eq_true rfl) (Nat.le_of_ble_eq_true rfl) ⟨by simp [codC, hq], rfl⟩ dX4_letter_24
set_option maxHeartbeats 4000000 in
set_option maxRecDepth 100000 in
theorem c_X4_needs {g : kG} {l : Launch} {u : Nat → va_E} {th rm  : Int32} {hs : Int64} {VA RD CH WE : Nat → Int32} {n m t : Nat} {B : kB} {S : Nat → kS} {C : Nat → Int32} {p : Nat} {f : Bool} (h : MdX g u th rm (nI p) (-1) hs VA RD CH WE n B m S t C)  : CV g l yX4_needs wsX4_needs ({ frames := 0, cells := 0, slots := 0, locals := 0 }) [.ref (g.2.1 61), .int (bI f)] u (fun u' => MdX g u' th rm (nI (p + 1)) (if f = true then -1 else nI p) hs VA RD CH WE n B m S t C ∧ ∀ j, ¬ (61 ≤ j ∧ j < 69) → u' j = u j) := by
  refine CV.of (cc := cX4_needs) (nL := 2) (by decide +kernel) rfl (Nat.le_of_ble_eq_true rfl) ?_
  intro X hXl F hret
  subst hXl
  have hinX4 : ∀ w ∈ wsX40, w ∈ wsX4_needs := by decide +kernel
  obtain ⟨Z, SV, BF, hL, hZ, hSV, hBF, hn16, hm6, ht60⟩ := id h
  show VL g X 0 0 u 0 [(0, .ref (g.2.1 61)), (1, .int (bI f))] []
  refine r_aload_n F 0 rfl dX4_needs_0 ?_
  refine r_get (C := RX4) (T := TX4) (N := 14) F 61 hL.1 (by decide) hinX4 rfl 10 (by decide) (by decide +kernel) rfl dX4_needs_1 ?_
  refine r_iconst (v := -1) F (by decide) dX4_needs_4 ?_
  refine r_icmp_ne F 34 (by decide) dX4_needs_5 (fun c_5_1 => absurd c_5_1 (by decide)) (fun c_5_1 => ?_)
  clear c_5_1
  refine r_aload_n F 0 rfl dX4_needs_8 ?_
  refine r_iload_n F 1 rfl dX4_needs_9 ?_
  refine r_if_eq F 17 (by decide) dX4_needs_10 (fun c_10_2 => ?_) (fun c_10_2 => ?_)
  · skip
    replace c_10_2 := bI0 c_10_2
    refine r_aload_n F 0 rfl dX4_needs_17 ?_
    refine r_get (C := RX4) (T := TX4) (N := 14) F 61 hL.1 (by decide) hinX4 rfl 9 (by decide) (by decide +kernel) rfl dX4_needs_18 ?_
    refine r_put (C := RX4) (T := TX4) (N := 14) (ty := .int) F 61 hL.1 (by decide) hinX4 tyX4 tyX4_ok nmX4 rfl 10 (by decide) (by decide +kernel) rfl (by decide +kernel) rfl rfl (Nat.le_of_ble_eq_true rfl) dX4_needs_21 (fun u_3 hu_3 => ?_)
    have hL_4 := hL.num (th' := th) (sm' := nI m) (ty' := nI t) (rm' := rm) (sp' := (nI p)) (wr' := (nI p)) (hs' := hs)
    replace hL_4 : MdL g u_3 th (nI m) (nI t) rm (nI p) (nI p) hs Z SV BF VA RD CH WE := by rw [hu_3]; exact hL_4
    have hf_5 : ∀ j, ¬ (61 ≤ j ∧ j < 69) → u_3 j = u j := (fun j hj => by rw [hu_3]; exact vne (by omega))
    have hX_6 : MdX g u_3 th rm (nI p) (nI p) hs VA RD CH WE n B m S t C := ⟨_, _, _, hL_4, hZ, hSV, hBF, hn16, hm6, ht60⟩
    refine r_aload_n F 0 rfl dX4_needs_24 ?_
    refine r_dup F rfl dX4_needs_25 ?_
    refine r_get (C := RX4) (T := TX4) (N := 14) F 61 hL_4.1 (by decide) hinX4 rfl 9 (by decide) (by decide +kernel) rfl dX4_needs_26 ?_
    refine r_iconst (v := 1) F (by decide) dX4_needs_29 ?_
    refine r_iadd F dX4_needs_30 ?_
    refine r_put (C := RX4) (T := TX4) (N := 14) (ty := .int) F 61 hL_4.1 (by decide) hinX4 tyX4 tyX4_ok nmX4 rfl 9 (by decide) (by decide +kernel) rfl (by decide +kernel) rfl rfl (Nat.le_of_ble_eq_true rfl) dX4_needs_31 (fun u_7 hu_7 => ?_)
    rw [nI_1] at hu_7
    have hL_8 := hL_4.num (th' := th) (sm' := nI m) (ty' := nI t) (rm' := rm) (sp' := (nI (p + 1))) (wr' := (nI p)) (hs' := hs)
    replace hL_8 : MdL g u_7 th (nI m) (nI t) rm (nI (p + 1)) (nI p) hs Z SV BF VA RD CH WE := by rw [hu_7]; exact hL_8
    have hf_9 : ∀ j, ¬ (61 ≤ j ∧ j < 69) → u_7 j = u j := fun j hj => (show u_7 j = u_3 j from (fun j hj => by rw [hu_7]; exact vne (by omega)) j hj).trans (hf_5 j hj)
    have hX_10 : MdX g u_7 th rm (nI (p + 1)) (nI p) hs VA RD CH WE n B m S t C := ⟨_, _, _, hL_8, hZ, hSV, hBF, hn16, hm6, ht60⟩
    exact hret _ _ _ _ _ (Nat.le_of_ble_eq_true rfl) (Nat.le_of_ble_eq_true rfl) ⟨(by rw [if_neg (by rw [c_10_2]; decide)]; exact hX_10), hf_9⟩ dX4_needs_34
  · skip
    replace c_10_2 := bI1 c_10_2
    refine r_iconst (v := -1) F (by decide) dX4_needs_13 ?_
    refine r_goto F 21 (by decide) dX4_needs_14 ?_
    refine r_put (C := RX4) (T := TX4) (N := 14) (ty := .int) F 61 hL.1 (by decide) hinX4 tyX4 tyX4_ok nmX4 rfl 10 (by decide) (by decide +kernel) rfl (by decide +kernel) rfl rfl (Nat.le_of_ble_eq_true rfl) dX4_needs_21 (fun u_11 hu_11 => ?_)
    have hL_12 := hL.num (th' := th) (sm' := nI m) (ty' := nI t) (rm' := rm) (sp' := (nI p)) (wr' := (-1)) (hs' := hs)
    replace hL_12 : MdL g u_11 th (nI m) (nI t) rm (nI p) (-1) hs Z SV BF VA RD CH WE := by rw [hu_11]; exact hL_12
    have hf_13 : ∀ j, ¬ (61 ≤ j ∧ j < 69) → u_11 j = u j := (fun j hj => by rw [hu_11]; exact vne (by omega))
    have hX_14 : MdX g u_11 th rm (nI p) (-1) hs VA RD CH WE n B m S t C := ⟨_, _, _, hL_12, hZ, hSV, hBF, hn16, hm6, ht60⟩
    refine r_aload_n F 0 rfl dX4_needs_24 ?_
    refine r_dup F rfl dX4_needs_25 ?_
    refine r_get (C := RX4) (T := TX4) (N := 14) F 61 hL_12.1 (by decide) hinX4 rfl 9 (by decide) (by decide +kernel) rfl dX4_needs_26 ?_
    refine r_iconst (v := 1) F (by decide) dX4_needs_29 ?_
    refine r_iadd F dX4_needs_30 ?_
    refine r_put (C := RX4) (T := TX4) (N := 14) (ty := .int) F 61 hL_12.1 (by decide) hinX4 tyX4 tyX4_ok nmX4 rfl 9 (by decide) (by decide +kernel) rfl (by decide +kernel) rfl rfl (Nat.le_of_ble_eq_true rfl) dX4_needs_31 (fun u_15 hu_15 => ?_)
    rw [nI_1] at hu_15
    have hL_16 := hL_12.num (th' := th) (sm' := nI m) (ty' := nI t) (rm' := rm) (sp' := (nI (p + 1))) (wr' := (-1)) (hs' := hs)
    replace hL_16 : MdL g u_15 th (nI m) (nI t) rm (nI (p + 1)) (-1) hs Z SV BF VA RD CH WE := by rw [hu_15]; exact hL_16
    have hf_17 : ∀ j, ¬ (61 ≤ j ∧ j < 69) → u_15 j = u j := fun j hj => (show u_15 j = u_11 j from (fun j hj => by rw [hu_15]; exact vne (by omega)) j hj).trans (hf_13 j hj)
    have hX_18 : MdX g u_15 th rm (nI (p + 1)) (-1) hs VA RD CH WE n B m S t C := ⟨_, _, _, hL_16, hZ, hSV, hBF, hn16, hm6, ht60⟩
    exact hret _ _ _ _ _ (Nat.le_of_ble_eq_true rfl) (Nat.le_of_ble_eq_true rfl) ⟨(by rw [if_pos c_10_2]; exact hX_18), hf_17⟩ dX4_needs_34
set_option maxHeartbeats 4000000 in
set_option maxRecDepth 100000 in
theorem c_X4_needsW {g : kG} {l : Launch} {u : Nat → va_E} {th rm sp wr : Int32} {hs : Int64} {VA RD CH WE : Nat → Int32} {n m t : Nat} {B : kB} {S : Nat → kS} {C : Nat → Int32} {x : Int32} (h : MdX g u th rm sp wr hs VA RD CH WE n B m S t C) (hwr : ¬ wr = -1) : CV g l yX4_needs wsX4_needs ({ frames := 0, cells := 0, slots := 0, locals := 0 }) [.ref (g.2.1 61), .int x] u (fun u' => u = u') := by
  refine CV.of (cc := cX4_needs) (nL := 2) (by decide +kernel) rfl (Nat.le_of_ble_eq_true rfl) ?_
  intro X hXl F hret
  subst hXl
  have hinX4 : ∀ w ∈ wsX40, w ∈ wsX4_needs := by decide +kernel
  obtain ⟨Z, SV, BF, hL, hZ, hSV, hBF, hn16, hm6, ht60⟩ := id h
  show VL g X 0 0 u 0 [(0, .ref (g.2.1 61)), (1, .int x)] []
  refine r_aload_n F 0 rfl dX4_needs_0 ?_
  refine r_get (C := RX4) (T := TX4) (N := 14) F 61 hL.1 (by decide) hinX4 rfl 10 (by decide) (by decide +kernel) rfl dX4_needs_1 ?_
  refine r_iconst (v := -1) F (by decide) dX4_needs_4 ?_
  refine r_icmp_ne F 34 (by decide) dX4_needs_5 (fun c_5_1 => ?_) (fun c_5_1 => absurd c_5_1 hwr)
  clear c_5_1
  exact hret _ _ _ _ _ (Nat.le_of_ble_eq_true rfl) (Nat.le_of_ble_eq_true rfl) rfl dX4_needs_34
set_option maxHeartbeats 4000000 in
set_option maxRecDepth 100000 in
theorem c_X4_number {g : kG} {l : Launch} {u : Nat → va_E} {th rm  : Int32} {hs : Int64} {VA RD CH WE : Nat → Int32} {n m t : Nat} {B : kB} {S : Nat → kS} {C : Nat → Int32} {p : Nat} {most : Int32} (h : MdX g u th rm (nI p) (-1) hs VA RD CH WE n B m S t C) (hp : p ≤ 60) : CI g l yX4_number wsX4_number ({ frames := 1, cells := 0, slots := 0, locals := 22 }) [.ref (g.2.1 61), .int most] u (fun r u' => ((digC (codC C t p) = false ∧ MdX g u' th rm (nI (p + 1)) (nI p) hs VA RD CH WE n B m S t C) ∨ (digC (codC C t p) = true ∧ r = (numG most C t (t - (p + 1)) (p + 1) (codC C t p - 48)).2 ∧ MdX g u' th rm (nI (numG most C t (t - (p + 1)) (p + 1) (codC C t p - 48)).1) (-1) hs VA RD CH WE n B m S t C)) ∧ ∀ j, ¬ (61 ≤ j ∧ j < 69) → u' j = u j) := by
  refine CI.of (cc := cX4_number) (nL := 4) (ty := .int) (by decide +kernel) rfl (fun _ _ _ => rfl) (Nat.le_of_ble_eq_true rfl) ?_
  intro X hXl F hret
  subst hXl
  have hinX4 : ∀ w ∈ wsX40, w ∈ wsX4_number := by decide +kernel
  obtain ⟨Z, SV, BF, hL, hZ, hSV, hBF, hn16, hm6, ht60⟩ := id h
  show VL g X 0 0 u 0 [(0, .ref (g.2.1 61)), (1, .int most)] []
  refine r_aload_n F 0 rfl dX4_number_0 ?_
  refine r_calli (g_V (C := RX4) (T := TX4) (N := 14) (nA := 0) (As := []) (rest := []) F 61 hL.1 (by decide) rfl (c_X4_letter h (by omega)) gX4_number_X4_letter rfl (by decide +kernel) rfl ⟨Nat.le_of_ble_eq_true rfl, Nat.le_of_ble_eq_true rfl⟩ ⟨Nat.le_of_ble_eq_true rfl, Nat.le_of_ble_eq_true rfl⟩ rfl (Nat.le_of_ble_eq_true rfl) dX4_number_1) (fun r_1 u_1 hp_1 => ?_)
  obtain ⟨rfl, rfl⟩ := hp_1
  refine r_bipush (v := 48) F (by decide) dX4_number_4 ?_
  refine r_isub F dX4_number_6 ?_
  refine r_istore_n (lv' := [(0, .ref (g.2.1 61)), (1, .int most), (2, .int ((codC C t p) - 48))]) F (by decide) rfl dX4_number_7 ?_
  refine r_aload_n F 0 rfl dX4_number_8 ?_
  refine r_iload_n F 2 rfl dX4_number_9 ?_
  refine r_iconst (v := 0) F (by decide) dX4_number_10 ?_
  refine r_bipush (v := 9) F (by decide) dX4_number_11 ?_
  refine r_calli (g_S (nA := 3) (As := [.int ((codC C t p) - 48), .int 0, .int 9]) (rest := [.ref (g.2.1 61)]) F (c_X4_in) gX4_number_X4_in rfl (by decide +kernel) rfl ⟨Nat.le_of_ble_eq_true rfl, Nat.le_of_ble_eq_true rfl⟩ ⟨Nat.le_of_ble_eq_true rfl, Nat.le_of_ble_eq_true rfl⟩ rfl (Nat.le_of_ble_eq_true rfl) dX4_number_13) (fun r_2 u_2 hp_2 => ?_)
  obtain ⟨rfl, rfl⟩ := hp_2
  refine r_callv (g_V (C := RX4) (T := TX4) (N := 14) (nA := 1) (As := [.int (bI (wi ((codC C t p) - 48) 0 9))]) (rest := []) F 61 hL.1 (by decide) rfl (c_X4_needs (f := (wi ((codC C t p) - 48) 0 9)) h) gX4_number_X4_needs rfl (by decide +kernel) rfl ⟨Nat.le_of_ble_eq_true rfl, Nat.le_of_ble_eq_true rfl⟩ ⟨Nat.le_of_ble_eq_true rfl, Nat.le_of_ble_eq_true rfl⟩ rfl (Nat.le_of_ble_eq_true rfl) dX4_number_16) (fun u_3 hp_3 => ?_)
  rw [dig_i] at hp_3
  obtain ⟨hX_3, hk_3⟩ := hp_3
  obtain ⟨Z_3, SV_3, BF_3, hL_3, hZ_3, hSV_3, hBF_3, hn_3, hm_3, ht_3⟩ := id hX_3
  have hf_4 : ∀ j, ¬ (61 ≤ j ∧ j < 69) → u_3 j = u j := hk_3
  refine r_aload_n F 0 rfl dX4_number_19 ?_
  by_cases hf : digC (codC C t p) = true
  · skip
    have hX_5 := hX_3
    rw [if_pos hf] at hX_5
    obtain ⟨Z_5, SV_5, BF_5, hL_5, hZ_5, hSV_5, hBF_5, hn_5, hm_5, ht_5⟩ := id hX_5
    refine r_calli (g_V (C := RX4) (T := TX4) (N := 14) (nA := 0) (As := []) (rest := []) F 61 hL_5.1 (by decide) rfl (c_X4_letter hX_5 (by omega)) gX4_number_X4_letter rfl (by decide +kernel) rfl ⟨Nat.le_of_ble_eq_true rfl, Nat.le_of_ble_eq_true rfl⟩ ⟨Nat.le_of_ble_eq_true rfl, Nat.le_of_ble_eq_true rfl⟩ rfl (Nat.le_of_ble_eq_true rfl) dX4_number_20) (fun r_6 u_6 hp_6 => ?_)
    obtain ⟨rfl, rfl⟩ := hp_6
    refine r_bipush (v := 48) F (by decide) dX4_number_23 ?_
    refine r_isub F dX4_number_25 ?_
    refine r_istore_n (lv' := [(0, .ref (g.2.1 61)), (1, .int most), (2, .int ((codC C t p) - 48)), (3, .int ((codC C t (p + 1)) - 48))]) F (by decide) rfl dX4_number_26 ?_
    have loop_27 : ∀ (k : Nat) (s : Nat) (v : Int32) (w1 : Nat → va_E) (x2_27 : Int32) (x3_27 : Int32), s + k = t → MdX g w1 th rm (nI s) (-1) hs VA RD CH WE n B m S t C → (∀ j, ¬ (61 ≤ j ∧ j < 69) → w1 j = u j) → numG most C t k s v = (numG most C t (t - (p + 1)) (p + 1) (codC C t p - 48)) → v = x2_27 → x3_27 = codC C t s - 48 → VL g X 0 0 w1 27 [(0, .ref (g.2.1 61)), (1, .int most), (2, .int x2_27), (3, .int x3_27)] [] := by
      intro k
      induction k with
      | zero =>
        rintro s v w1 x2_27 x3_27 hsk hX1 hf1 hG rfl rfl
        obtain ⟨Z_90, SV_90, BF_90, hL_90, hZ_90, hSV_90, hBF_90, hn_90, hm_90, ht_90⟩ := id hX1
        have hjn : t = s := by omega
        subst hjn
        refine r_aload_n F 0 rfl dX4_number_27 ?_
        refine r_get (C := RX4) (T := TX4) (N := 14) F 61 hL_90.1 (by decide) hinX4 rfl 10 (by decide) (by decide +kernel) rfl dX4_number_28 ?_
        refine r_iconst (v := -1) F (by decide) dX4_number_31 ?_
        refine r_icmp_ne F 87 (by decide) dX4_number_32 (fun c_32_8 => absurd c_32_8 (by decide)) (fun c_32_8 => ?_)
        clear c_32_8
        refine r_iload_n F 2 rfl dX4_number_35 ?_
        refine r_if_le F 87 (by decide) dX4_number_36 (fun c_36_9 => ?_) (fun c_36_9 => ?_)
        · skip
          refine r_iload_n F 2 rfl dX4_number_87 ?_
          have hE : (t, v) = (numG most C t (t - (p + 1)) (p + 1) (codC C t p - 48)) := hG
          exact hret _ _ _ _ _ _ (Nat.le_of_ble_eq_true rfl) (Nat.le_of_ble_eq_true rfl) ⟨Or.inr ⟨hf, by rw [← hE], by rw [← hE]; exact hX1⟩, hf1⟩ dX4_number_88
        · skip
          refine r_iload_n F 3 rfl dX4_number_39 ?_
          refine r_iconst (v := 0) F (by decide) dX4_number_40 ?_
          refine r_bipush (v := 9) F (by decide) dX4_number_41 ?_
          refine r_calli (g_S (nA := 3) (As := [.int (codC C t t - 48), .int 0, .int 9]) (rest := []) F (c_X4_in) gX4_number_X4_in rfl (by decide +kernel) rfl ⟨Nat.le_of_ble_eq_true rfl, Nat.le_of_ble_eq_true rfl⟩ ⟨Nat.le_of_ble_eq_true rfl, Nat.le_of_ble_eq_true rfl⟩ rfl (Nat.le_of_ble_eq_true rfl) dX4_number_43) (fun r_10 u_10 hp_10 => ?_)
          obtain ⟨rfl, rfl⟩ := hp_10
          refine r_if_eq F 87 (by decide) dX4_number_46 (fun c_46_11 => ?_) (fun c_46_11 => absurd (by rw [dig_i, codC_t, dig_m1]; rfl) c_46_11)
          clear c_46_11
          refine r_iload_n F 2 rfl dX4_number_87 ?_
          have hE : (t, v) = (numG most C t (t - (p + 1)) (p + 1) (codC C t p - 48)) := hG
          exact hret _ _ _ _ _ _ (Nat.le_of_ble_eq_true rfl) (Nat.le_of_ble_eq_true rfl) ⟨Or.inr ⟨hf, by rw [← hE], by rw [← hE]; exact hX1⟩, hf1⟩ dX4_number_88
      | succ k ih_27 =>
        rintro s v w1 x2_27 x3_27 hsk hX1 hf1 hG rfl rfl
        obtain ⟨Z_90, SV_90, BF_90, hL_90, hZ_90, hSV_90, hBF_90, hn_90, hm_90, ht_90⟩ := id hX1
        refine r_aload_n F 0 rfl dX4_number_27 ?_
        refine r_get (C := RX4) (T := TX4) (N := 14) F 61 hL_90.1 (by decide) hinX4 rfl 10 (by decide) (by decide +kernel) rfl dX4_number_28 ?_
        refine r_iconst (v := -1) F (by decide) dX4_number_31 ?_
        refine r_icmp_ne F 87 (by decide) dX4_number_32 (fun c_32_12 => absurd c_32_12 (by decide)) (fun c_32_12 => ?_)
        clear c_32_12
        refine r_iload_n F 2 rfl dX4_number_35 ?_
        refine r_if_le F 87 (by decide) dX4_number_36 (fun c_36_13 => ?_) (fun c_36_13 => ?_)
        · skip
          refine r_iload_n F 2 rfl dX4_number_87 ?_
          have hE : (s, v) = (numG most C t (t - (p + 1)) (p + 1) (codC C t p - 48)) := by rw [← hG]; simp [numG, ← dig_i, c_36_13]
          exact hret _ _ _ _ _ _ (Nat.le_of_ble_eq_true rfl) (Nat.le_of_ble_eq_true rfl) ⟨Or.inr ⟨hf, by rw [← hE], by rw [← hE]; exact hX1⟩, hf1⟩ dX4_number_88
        · skip
          refine r_iload_n F 3 rfl dX4_number_39 ?_
          refine r_iconst (v := 0) F (by decide) dX4_number_40 ?_
          refine r_bipush (v := 9) F (by decide) dX4_number_41 ?_
          refine r_calli (g_S (nA := 3) (As := [.int (codC C t s - 48), .int 0, .int 9]) (rest := []) F (c_X4_in) gX4_number_X4_in rfl (by decide +kernel) rfl ⟨Nat.le_of_ble_eq_true rfl, Nat.le_of_ble_eq_true rfl⟩ ⟨Nat.le_of_ble_eq_true rfl, Nat.le_of_ble_eq_true rfl⟩ rfl (Nat.le_of_ble_eq_true rfl) dX4_number_43) (fun r_14 u_14 hp_14 => ?_)
          obtain ⟨rfl, rfl⟩ := hp_14
          refine r_if_eq F 87 (by decide) dX4_number_46 (fun c_46_15 => ?_) (fun c_46_15 => ?_)
          · skip
            replace c_46_15 := bI0 c_46_15
            refine r_iload_n F 2 rfl dX4_number_87 ?_
            have hE : (s, v) = (numG most C t (t - (p + 1)) (p + 1) (codC C t p - 48)) := by rw [← hG]; simp [numG, ← dig_i, c_36_13, c_46_15]
            exact hret _ _ _ _ _ _ (Nat.le_of_ble_eq_true rfl) (Nat.le_of_ble_eq_true rfl) ⟨Or.inr ⟨hf, by rw [← hE], by rw [← hE]; exact hX1⟩, hf1⟩ dX4_number_88
          · skip
            replace c_46_15 := bI1 c_46_15
            refine r_bipush (v := 10) F (by decide) dX4_number_49 ?_
            refine r_iload_n F 2 rfl dX4_number_51 ?_
            refine r_imul F dX4_number_52 ?_
            refine r_iload_n F 3 rfl dX4_number_53 ?_
            refine r_iadd F dX4_number_54 ?_
            refine r_iload_n F 1 rfl dX4_number_55 ?_
            refine r_icmp_gt F 87 (by decide) dX4_number_56 (fun c_56_16 => ?_) (fun c_56_16 => ?_)
            · skip
              refine r_iload_n F 2 rfl dX4_number_87 ?_
              have hE : (s, v) = (numG most C t (t - (p + 1)) (p + 1) (codC C t p - 48)) := by rw [← hG]; simp [numG, ← dig_i, c_36_13, c_46_15, c_56_16]
              exact hret _ _ _ _ _ _ (Nat.le_of_ble_eq_true rfl) (Nat.le_of_ble_eq_true rfl) ⟨Or.inr ⟨hf, by rw [← hE], by rw [← hE]; exact hX1⟩, hf1⟩ dX4_number_88
            · skip
              refine r_bipush (v := 10) F (by decide) dX4_number_59 ?_
              refine r_iload_n F 2 rfl dX4_number_61 ?_
              refine r_imul F dX4_number_62 ?_
              refine r_iload_n F 3 rfl dX4_number_63 ?_
              refine r_iadd F dX4_number_64 ?_
              refine r_istore_n (lv' := [(0, .ref (g.2.1 61)), (1, .int most), (2, .int ((10 * v) + (codC C t s - 48))), (3, .int (codC C t s - 48))]) F (by decide) rfl dX4_number_65 ?_
              refine r_aload_n F 0 rfl dX4_number_66 ?_
              refine r_dup F rfl dX4_number_67 ?_
              refine r_get (C := RX4) (T := TX4) (N := 14) F 61 hL_90.1 (by decide) hinX4 rfl 9 (by decide) (by decide +kernel) rfl dX4_number_68 ?_
              refine r_iconst (v := 1) F (by decide) dX4_number_71 ?_
              refine r_iadd F dX4_number_72 ?_
              refine r_put (C := RX4) (T := TX4) (N := 14) (ty := .int) F 61 hL_90.1 (by decide) hinX4 tyX4 tyX4_ok nmX4 rfl 9 (by decide) (by decide +kernel) rfl (by decide +kernel) rfl rfl (Nat.le_of_ble_eq_true rfl) dX4_number_73 (fun u_17 hu_17 => ?_)
              rw [nI_1] at hu_17
              have hL_18 := hL_90.num (th' := th) (sm' := nI m) (ty' := nI t) (rm' := rm) (sp' := (nI (s + 1))) (wr' := (-1)) (hs' := hs)
              replace hL_18 : MdL g u_17 th (nI m) (nI t) rm (nI (s + 1)) (-1) hs Z_90 SV_90 BF_90 VA RD CH WE := by rw [hu_17]; exact hL_18
              have hf_19 : ∀ j, ¬ (61 ≤ j ∧ j < 69) → u_17 j = u j := fun j hj => (show u_17 j = w1 j from (fun j hj => by rw [hu_17]; exact vne (by omega)) j hj).trans (hf1 j hj)
              have hX_20 : MdX g u_17 th rm (nI (s + 1)) (-1) hs VA RD CH WE n B m S t C := ⟨_, _, _, hL_18, hZ_90, hSV_90, hBF_90, hn_90, hm_90, ht_90⟩
              refine r_aload_n F 0 rfl dX4_number_76 ?_
              refine r_calli (g_V (C := RX4) (T := TX4) (N := 14) (nA := 0) (As := []) (rest := []) F 61 hL_18.1 (by decide) rfl (c_X4_letter hX_20 (by omega)) gX4_number_X4_letter rfl (by decide +kernel) rfl ⟨Nat.le_of_ble_eq_true rfl, Nat.le_of_ble_eq_true rfl⟩ ⟨Nat.le_of_ble_eq_true rfl, Nat.le_of_ble_eq_true rfl⟩ rfl (Nat.le_of_ble_eq_true rfl) dX4_number_77) (fun r_21 u_21 hp_21 => ?_)
              obtain ⟨rfl, rfl⟩ := hp_21
              refine r_bipush (v := 48) F (by decide) dX4_number_80 ?_
              refine r_isub F dX4_number_82 ?_
              refine r_istore_n (lv' := [(0, .ref (g.2.1 61)), (1, .int most), (2, .int ((10 * v) + (codC C t s - 48))), (3, .int ((codC C t (s + 1)) - 48))]) F (by decide) rfl dX4_number_83 ?_
              refine r_goto F 27 (by decide) dX4_number_84 ?_
              exact ih_27 (s + 1) ((10 * v) + (codC C t s - 48)) _ _ _ (by omega) hX_20 hf_19 (by rw [← hG]; simp [numG, ← dig_i, c_36_13, c_46_15, c_56_16]) rfl rfl
    exact loop_27 (t - (p + 1)) (p + 1) _ u_3 _ _ (by have := (cod_dig hf).1; omega) hX_5 hf_4 rfl rfl rfl
  · skip
    have hX_22 := hX_3
    rw [if_neg hf] at hX_22
    obtain ⟨Z_22, SV_22, BF_22, hL_22, hZ_22, hSV_22, hBF_22, hn_22, hm_22, ht_22⟩ := id hX_22
    refine r_calli (g_V (C := RX4) (T := TX4) (N := 14) (nA := 0) (As := []) (rest := []) F 61 hL_22.1 (by decide) rfl (c_X4_letter hX_22 (by omega)) gX4_number_X4_letter rfl (by decide +kernel) rfl ⟨Nat.le_of_ble_eq_true rfl, Nat.le_of_ble_eq_true rfl⟩ ⟨Nat.le_of_ble_eq_true rfl, Nat.le_of_ble_eq_true rfl⟩ rfl (Nat.le_of_ble_eq_true rfl) dX4_number_20) (fun r_23 u_23 hp_23 => ?_)
    obtain ⟨rfl, rfl⟩ := hp_23
    refine r_bipush (v := 48) F (by decide) dX4_number_23 ?_
    refine r_isub F dX4_number_25 ?_
    refine r_istore_n (lv' := [(0, .ref (g.2.1 61)), (1, .int most), (2, .int ((codC C t p) - 48)), (3, .int ((codC C t (p + 1)) - 48))]) F (by decide) rfl dX4_number_26 ?_
    refine r_aload_n F 0 rfl dX4_number_27 ?_
    refine r_get (C := RX4) (T := TX4) (N := 14) F 61 hL_22.1 (by decide) hinX4 rfl 10 (by decide) (by decide +kernel) rfl dX4_number_28 ?_
    refine r_iconst (v := -1) F (by decide) dX4_number_31 ?_
    refine r_icmp_ne F 87 (by decide) dX4_number_32 (fun c_32_24 => ?_) (fun c_32_24 => absurd c_32_24 (nI_ne1 (by omega)))
    clear c_32_24
    refine r_iload_n F 2 rfl dX4_number_87 ?_
    exact hret _ _ _ _ _ _ (Nat.le_of_ble_eq_true rfl) (Nat.le_of_ble_eq_true rfl) ⟨Or.inl ⟨by simpa using hf, hX_22⟩, hf_4⟩ dX4_number_88
set_option maxHeartbeats 4000000 in
set_option maxRecDepth 100000 in
theorem c_X4_numberW {g : kG} {l : Launch} {u : Nat → va_E} {th rm wr : Int32} {hs : Int64} {VA RD CH WE : Nat → Int32} {n m t : Nat} {B : kB} {S : Nat → kS} {C : Nat → Int32} {p : Nat} {most : Int32} (h : MdX g u th rm (nI p) wr hs VA RD CH WE n B m S t C) (hp : p ≤ 61) (hwr : ¬ wr = -1) : CI g l yX4_number wsX4_number ({ frames := 1, cells := 0, slots := 0, locals := 22 }) [.ref (g.2.1 61), .int most] u (fun r u' => u = u') := by
  refine CI.of (cc := cX4_number) (nL := 4) (ty := .int) (by decide +kernel) rfl (fun _ _ _ => rfl) (Nat.le_of_ble_eq_true rfl) ?_
  intro X hXl F hret
  subst hXl
  have hinX4 : ∀ w ∈ wsX40, w ∈ wsX4_number := by decide +kernel
  obtain ⟨Z, SV, BF, hL, hZ, hSV, hBF, hn16, hm6, ht60⟩ := id h
  show VL g X 0 0 u 0 [(0, .ref (g.2.1 61)), (1, .int most)] []
  refine r_aload_n F 0 rfl dX4_number_0 ?_
  refine r_calli (g_V (C := RX4) (T := TX4) (N := 14) (nA := 0) (As := []) (rest := []) F 61 hL.1 (by decide) rfl (c_X4_letter h (by omega)) gX4_number_X4_letter rfl (by decide +kernel) rfl ⟨Nat.le_of_ble_eq_true rfl, Nat.le_of_ble_eq_true rfl⟩ ⟨Nat.le_of_ble_eq_true rfl, Nat.le_of_ble_eq_true rfl⟩ rfl (Nat.le_of_ble_eq_true rfl) dX4_number_1) (fun r_1 u_1 hp_1 => ?_)
  obtain ⟨rfl, rfl⟩ := hp_1
  refine r_bipush (v := 48) F (by decide) dX4_number_4 ?_
  refine r_isub F dX4_number_6 ?_
  refine r_istore_n (lv' := [(0, .ref (g.2.1 61)), (1, .int most), (2, .int ((codC C t p) - 48))]) F (by decide) rfl dX4_number_7 ?_
  refine r_aload_n F 0 rfl dX4_number_8 ?_
  refine r_iload_n F 2 rfl dX4_number_9 ?_
  refine r_iconst (v := 0) F (by decide) dX4_number_10 ?_
  refine r_bipush (v := 9) F (by decide) dX4_number_11 ?_
  refine r_calli (g_S (nA := 3) (As := [.int ((codC C t p) - 48), .int 0, .int 9]) (rest := [.ref (g.2.1 61)]) F (c_X4_in) gX4_number_X4_in rfl (by decide +kernel) rfl ⟨Nat.le_of_ble_eq_true rfl, Nat.le_of_ble_eq_true rfl⟩ ⟨Nat.le_of_ble_eq_true rfl, Nat.le_of_ble_eq_true rfl⟩ rfl (Nat.le_of_ble_eq_true rfl) dX4_number_13) (fun r_2 u_2 hp_2 => ?_)
  obtain ⟨rfl, rfl⟩ := hp_2
  refine r_callv (g_V (C := RX4) (T := TX4) (N := 14) (nA := 1) (As := [.int (bI (wi ((codC C t p) - 48) 0 9))]) (rest := []) F 61 hL.1 (by decide) rfl (c_X4_needsW h hwr) gX4_number_X4_needs rfl (by decide +kernel) rfl ⟨Nat.le_of_ble_eq_true rfl, Nat.le_of_ble_eq_true rfl⟩ ⟨Nat.le_of_ble_eq_true rfl, Nat.le_of_ble_eq_true rfl⟩ rfl (Nat.le_of_ble_eq_true rfl) dX4_number_16) (fun u_3 hp_3 => ?_)
  obtain rfl := hp_3
  refine r_aload_n F 0 rfl dX4_number_19 ?_
  refine r_calli (g_V (C := RX4) (T := TX4) (N := 14) (nA := 0) (As := []) (rest := []) F 61 hL.1 (by decide) rfl (c_X4_letter h (by omega)) gX4_number_X4_letter rfl (by decide +kernel) rfl ⟨Nat.le_of_ble_eq_true rfl, Nat.le_of_ble_eq_true rfl⟩ ⟨Nat.le_of_ble_eq_true rfl, Nat.le_of_ble_eq_true rfl⟩ rfl (Nat.le_of_ble_eq_true rfl) dX4_number_20) (fun r_4 u_4 hp_4 => ?_)
  obtain ⟨rfl, rfl⟩ := hp_4
  refine r_bipush (v := 48) F (by decide) dX4_number_23 ?_
  refine r_isub F dX4_number_25 ?_
  refine r_istore_n (lv' := [(0, .ref (g.2.1 61)), (1, .int most), (2, .int ((codC C t p) - 48)), (3, .int ((codC C t p) - 48))]) F (by decide) rfl dX4_number_26 ?_
  refine r_aload_n F 0 rfl dX4_number_27 ?_
  refine r_get (C := RX4) (T := TX4) (N := 14) F 61 hL.1 (by decide) hinX4 rfl 10 (by decide) (by decide +kernel) rfl dX4_number_28 ?_
  refine r_iconst (v := -1) F (by decide) dX4_number_31 ?_
  refine r_icmp_ne F 87 (by decide) dX4_number_32 (fun c_32_5 => ?_) (fun c_32_5 => absurd c_32_5 hwr)
  clear c_32_5
  refine r_iload_n F 2 rfl dX4_number_87 ?_
  exact hret _ _ _ _ _ _ (Nat.le_of_ble_eq_true rfl) (Nat.le_of_ble_eq_true rfl) rfl dX4_number_88

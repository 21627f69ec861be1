set_option maxHeartbeats 4000000 in
set_option maxRecDepth 100000 in
theorem c_X4_comb {g : kG} {l : Launch} {u : Nat → va_E} {th rm sp wr : Int32} {hs : Int64} {VA RD CH WE : Nat → Int32} {n m t : Nat} {B : kB} {S : Nat → kS} {C : Nat → Int32} {p a : Int32} (h : MdX g u th rm sp wr hs VA RD CH WE n B m S t C)  : CI g l yX4_comb wsX4_comb ({ frames := 2, cells := 0, slots := 0, locals := 48 }) [.ref (g.2.1 61), .int p, .int a] u (fun r u' => ((cdComb n p a = 0 ∧ r = nI n ∧ MdX g u' 0 rm sp wr hs VA RD CH WE (n + 1) (bAdd B n 0 p a (-1)) (pushM m) (pushS m S (n, B)) t C) ∨ (∃ c, 0 < c ∧ cdComb n p a = c ∧ MdX g u' (nI c) rm sp wr hs VA RD CH WE n B m S t C)) ∧ ∀ j, ¬ (61 ≤ j ∧ j < 69) → u' j = u j) := by
  refine CI.of (cc := cX4_comb) (nL := 3) (ty := .int) (by decide +kernel) rfl (fun _ _ _ => rfl) (Nat.le_of_ble_eq_true rfl) ?_
  intro X hXl F hret
  subst hXl
  have hinX4 : ∀ w ∈ wsX40, w ∈ wsX4_comb := by decide +kernel
  obtain ⟨Z, SV, BF, hL, hZ, hSV, hBF, hn16, hm6, ht60⟩ := id h
  show VL g X 0 0 u 0 [(0, .ref (g.2.1 61)), (1, .int p), (2, .int a)] []
  refine r_aload_n F 0 rfl dX4_comb_0 ?_
  refine r_iload_n F 1 rfl dX4_comb_1 ?_
  refine r_calli (g_S (nA := 1) (As := [.int p]) (rest := [.ref (g.2.1 61)]) F (c_X4_isPart) gX4_comb_X4_isPart rfl (by decide +kernel) rfl ⟨Nat.le_of_ble_eq_true rfl, Nat.le_of_ble_eq_true rfl⟩ ⟨Nat.le_of_ble_eq_true rfl, Nat.le_of_ble_eq_true rfl⟩ rfl (Nat.le_of_ble_eq_true rfl) dX4_comb_2) (fun r_1 u_1 hp_1 => ?_)
  obtain ⟨rfl, rfl⟩ := hp_1
  refine r_if_ne F 12 (by decide) dX4_comb_5 (fun c_5_2 => ?_) (fun c_5_2 => ?_)
  · skip
    replace c_5_2 := bI1 c_5_2
    refine r_iload_n F 2 rfl dX4_comb_12 ?_
    refine r_iconst (v := 1) F (by decide) dX4_comb_13 ?_
    refine r_iconst (v := 5) F (by decide) dX4_comb_14 ?_
    refine r_calli (g_S (nA := 3) (As := [.int a, .int 1, .int 5]) (rest := [.ref (g.2.1 61)]) F (c_X4_in) gX4_comb_X4_in rfl (by decide +kernel) rfl ⟨Nat.le_of_ble_eq_true rfl, Nat.le_of_ble_eq_true rfl⟩ ⟨Nat.le_of_ble_eq_true rfl, Nat.le_of_ble_eq_true rfl⟩ rfl (Nat.le_of_ble_eq_true rfl) dX4_comb_15) (fun r_3 u_3 hp_3 => ?_)
    obtain ⟨rfl, rfl⟩ := hp_3
    refine r_if_ne F 25 (by decide) dX4_comb_18 (fun c_18_4 => ?_) (fun c_18_4 => ?_)
    · skip
      replace c_18_4 := bI1 c_18_4
      refine r_aload_n F 0 rfl dX4_comb_25 ?_
      refine r_get (C := RX4) (T := TX4) (N := 14) F 61 hL.1 (by decide) hinX4 rfl 1 (by decide) (by decide +kernel) rfl dX4_comb_26 ?_
      refine r_iconst (v := 0) F (by decide) dX4_comb_29 ?_
      refine r_iald F 62 hL.2.1 (by decide) (vp_in_nI (n := 0) (by decide) (by decide)) dX4_comb_30 ?_
      refine r_eq (st2 := [.int (nI n), .ref (g.2.1 61)]) (by rw [show Z (0 : Int32).toNatClampNeg = nI n from hZ.1]) rfl ?_
      refine r_bipush (v := 16) F (by decide) dX4_comb_31 ?_
      refine r_icmp_ne F 40 (by decide) dX4_comb_33 (fun c_33_5 => ?_) (fun c_33_5 => ?_)
      · skip
        have hn16b : n < 16 := by have z : ¬ n = 16 := fun q => c_33_5 (by rw [q]; rfl); omega
        refine r_iconst (v := 0) F (by decide) dX4_comb_40 ?_
        refine r_put (C := RX4) (T := TX4) (N := 14) (ty := .int) F 61 hL.1 (by decide) hinX4 tyX4 tyX4_ok nmX4 rfl 0 (by decide) (by decide +kernel) rfl (by decide +kernel) rfl rfl (Nat.le_of_ble_eq_true rfl) dX4_comb_41 (fun u_6 hu_6 => ?_)
        have hL_7 := hL.num (th' := 0) (sm' := nI m) (ty' := nI t) (rm' := rm) (sp' := sp) (wr' := wr) (hs' := hs)
        replace hL_7 : MdL g u_6 0 (nI m) (nI t) rm sp wr hs Z SV BF VA RD CH WE := by rw [hu_6]; exact hL_7
        have hf_8 : ∀ j, ¬ (61 ≤ j ∧ j < 69) → u_6 j = u j := (fun j hj => by rw [hu_6]; exact vne (by omega))
        have hX_9 : MdX g u_6 0 rm sp wr hs VA RD CH WE n B m S t C := ⟨_, _, _, hL_7, hZ, hSV, hBF, hn16, hm6, ht60⟩
        refine r_aload_n F 0 rfl dX4_comb_44 ?_
        refine r_get (C := RX4) (T := TX4) (N := 14) F 61 hL_7.1 (by decide) hinX4 rfl 0 (by decide) (by decide +kernel) rfl dX4_comb_45 ?_
        refine r_if_le F 55 (by decide) dX4_comb_48 (fun c_48_10 => ?_) (fun c_48_10 => absurd c_48_10 (by decide))
        clear c_48_10
        refine r_aload_n F 0 rfl dX4_comb_55 ?_
        refine r_iconst (v := 0) F (by decide) dX4_comb_56 ?_
        refine r_iload_n F 1 rfl dX4_comb_57 ?_
        refine r_iload_n F 2 rfl dX4_comb_58 ?_
        refine r_iconst (v := -1) F (by decide) dX4_comb_59 ?_
        refine r_calli (g_V (C := RX4) (T := TX4) (N := 14) (nA := 4) (As := [.int 0, .int p, .int a, .int (-1)]) (rest := []) F 61 hL_7.1 (by decide) rfl (c_X4_add hX_9 hn16b) gX4_comb_X4_add rfl (by decide +kernel) rfl ⟨Nat.le_of_ble_eq_true rfl, Nat.le_of_ble_eq_true rfl⟩ ⟨Nat.le_of_ble_eq_true rfl, Nat.le_of_ble_eq_true rfl⟩ rfl (Nat.le_of_ble_eq_true rfl) dX4_comb_60) (fun r_11 u_11 hp_11 => ?_)
        obtain ⟨er_11, hX_11, hk_11⟩ := hp_11
        subst er_11
        have hf_12 : ∀ j, ¬ (61 ≤ j ∧ j < 69) → u_11 j = u j := fun j hj => (show u_11 j = u_6 j from hk_11 j hj).trans (hf_8 j hj)
        exact hret _ _ _ _ _ _ (Nat.le_of_ble_eq_true rfl) (Nat.le_of_ble_eq_true rfl) ⟨Or.inl ⟨by simp [cdComb, c_5_2, c_18_4, c_33_5, hn16b], rfl, hX_11⟩, hf_12⟩ dX4_comb_63
      · skip
        have hn16b : ¬ n < 16 := fun q => by have z := (nI_eq (b := 16) (by omega) (by decide)).mp c_33_5; omega
        refine r_iconst (v := 3) F (by decide) dX4_comb_36 ?_
        refine r_goto F 41 (by decide) dX4_comb_37 ?_
        refine r_put (C := RX4) (T := TX4) (N := 14) (ty := .int) F 61 hL.1 (by decide) hinX4 tyX4 tyX4_ok nmX4 rfl 0 (by decide) (by decide +kernel) rfl (by decide +kernel) rfl rfl (Nat.le_of_ble_eq_true rfl) dX4_comb_41 (fun u_13 hu_13 => ?_)
        have hL_14 := hL.num (th' := 3) (sm' := nI m) (ty' := nI t) (rm' := rm) (sp' := sp) (wr' := wr) (hs' := hs)
        replace hL_14 : MdL g u_13 3 (nI m) (nI t) rm sp wr hs Z SV BF VA RD CH WE := by rw [hu_13]; exact hL_14
        have hf_15 : ∀ j, ¬ (61 ≤ j ∧ j < 69) → u_13 j = u j := (fun j hj => by rw [hu_13]; exact vne (by omega))
        have hX_16 : MdX g u_13 3 rm sp wr hs VA RD CH WE n B m S t C := ⟨_, _, _, hL_14, hZ, hSV, hBF, hn16, hm6, ht60⟩
        refine r_aload_n F 0 rfl dX4_comb_44 ?_
        refine r_get (C := RX4) (T := TX4) (N := 14) F 61 hL_14.1 (by decide) hinX4 rfl 0 (by decide) (by decide +kernel) rfl dX4_comb_45 ?_
        refine r_if_le F 55 (by decide) dX4_comb_48 (fun c_48_17 => absurd c_48_17 (by decide)) (fun c_48_17 => ?_)
        clear c_48_17
        refine r_iconst (v := 0) F (by decide) dX4_comb_51 ?_
        refine r_goto F 63 (by decide) dX4_comb_52 ?_
        exact hret _ _ _ _ _ _ (Nat.le_of_ble_eq_true rfl) (Nat.le_of_ble_eq_true rfl) ⟨Or.inr ⟨3, by decide, by simp [cdComb, c_5_2, c_18_4, c_33_5, hn16b], hX_16⟩, hf_15⟩ dX4_comb_63
    · skip
      replace c_18_4 := bI0 c_18_4
      refine r_iconst (v := 2) F (by decide) dX4_comb_21 ?_
      refine r_goto F 41 (by decide) dX4_comb_22 ?_
      refine r_put (C := RX4) (T := TX4) (N := 14) (ty := .int) F 61 hL.1 (by decide) hinX4 tyX4 tyX4_ok nmX4 rfl 0 (by decide) (by decide +kernel) rfl (by decide +kernel) rfl rfl (Nat.le_of_ble_eq_true rfl) dX4_comb_41 (fun u_18 hu_18 => ?_)
      have hL_19 := hL.num (th' := 2) (sm' := nI m) (ty' := nI t) (rm' := rm) (sp' := sp) (wr' := wr) (hs' := hs)
      replace hL_19 : MdL g u_18 2 (nI m) (nI t) rm sp wr hs Z SV BF VA RD CH WE := by rw [hu_18]; exact hL_19
      have hf_20 : ∀ j, ¬ (61 ≤ j ∧ j < 69) → u_18 j = u j := (fun j hj => by rw [hu_18]; exact vne (by omega))
      have hX_21 : MdX g u_18 2 rm sp wr hs VA RD CH WE n B m S t C := ⟨_, _, _, hL_19, hZ, hSV, hBF, hn16, hm6, ht60⟩
      refine r_aload_n F 0 rfl dX4_comb_44 ?_
      refine r_get (C := RX4) (T := TX4) (N := 14) F 61 hL_19.1 (by decide) hinX4 rfl 0 (by decide) (by decide +kernel) rfl dX4_comb_45 ?_
      refine r_if_le F 55 (by decide) dX4_comb_48 (fun c_48_22 => absurd c_48_22 (by decide)) (fun c_48_22 => ?_)
      clear c_48_22
      refine r_iconst (v := 0) F (by decide) dX4_comb_51 ?_
      refine r_goto F 63 (by decide) dX4_comb_52 ?_
      exact hret _ _ _ _ _ _ (Nat.le_of_ble_eq_true rfl) (Nat.le_of_ble_eq_true rfl) ⟨Or.inr ⟨2, by decide, by simp [cdComb, c_5_2, c_18_4], hX_21⟩, hf_20⟩ dX4_comb_63
  · skip
    replace c_5_2 := bI0 c_5_2
    refine r_iconst (v := 1) F (by decide) dX4_comb_8 ?_
    refine r_goto F 41 (by decide) dX4_comb_9 ?_
    refine r_put (C := RX4) (T := TX4) (N := 14) (ty := .int) F 61 hL.1 (by decide) hinX4 tyX4 tyX4_ok nmX4 rfl 0 (by decide) (by decide +kernel) rfl (by decide +kernel) rfl rfl (Nat.le_of_ble_eq_true rfl) dX4_comb_41 (fun u_23 hu_23 => ?_)
    have hL_24 := hL.num (th' := 1) (sm' := nI m) (ty' := nI t) (rm' := rm) (sp' := sp) (wr' := wr) (hs' := hs)
    replace hL_24 : MdL g u_23 1 (nI m) (nI t) rm sp wr hs Z SV BF VA RD CH WE := by rw [hu_23]; exact hL_24
    have hf_25 : ∀ j, ¬ (61 ≤ j ∧ j < 69) → u_23 j = u j := (fun j hj => by rw [hu_23]; exact vne (by omega))
    have hX_26 : MdX g u_23 1 rm sp wr hs VA RD CH WE n B m S t C := ⟨_, _, _, hL_24, hZ, hSV, hBF, hn16, hm6, ht60⟩
    refine r_aload_n F 0 rfl dX4_comb_44 ?_
    refine r_get (C := RX4) (T := TX4) (N := 14) F 61 hL_24.1 (by decide) hinX4 rfl 0 (by decide) (by decide +kernel) rfl dX4_comb_45 ?_
    refine r_if_le F 55 (by decide) dX4_comb_48 (fun c_48_27 => absurd c_48_27 (by decide)) (fun c_48_27 => ?_)
    clear c_48_27
    refine r_iconst (v := 0) F (by decide) dX4_comb_51 ?_
    refine r_goto F 63 (by decide) dX4_comb_52 ?_
    exact hret _ _ _ _ _ _ (Nat.le_of_ble_eq_true rfl) (Nat.le_of_ble_eq_true rfl) ⟨Or.inr ⟨1, by decide, by simp [cdComb, c_5_2], hX_26⟩, hf_25⟩ dX4_comb_63
set_option maxHeartbeats 4000000 in
set_option maxRecDepth 100000 in
theorem c_X4_tick {g : kG} {l : Launch} {u : Nat → va_E} {th rm sp wr : Int32} {hs : Int64} {VA RD CH WE : Nat → Int32} {n m t : Nat} {B : kB} {S : Nat → kS} {C : Nat → Int32} {p o : Int32} (h : MdX g u th rm sp wr hs VA RD CH WE n B m S t C)  : CI g l yX4_tick wsX4_tick ({ frames := 2, cells := 0, slots := 0, locals := 48 }) [.ref (g.2.1 61), .int p, .int o] u (fun r u' => ((cdTick n p o = 0 ∧ r = nI n ∧ MdX g u' 0 rm sp wr hs VA RD CH WE (n + 1) (bAdd B n 1 p o (-1)) (pushM m) (pushS m S (n, B)) t C) ∨ (∃ c, 0 < c ∧ cdTick n p o = c ∧ MdX g u' (nI c) rm sp wr hs VA RD CH WE n B m S t C)) ∧ ∀ j, ¬ (61 ≤ j ∧ j < 69) → u' j = u j) := by
  refine CI.of (cc := cX4_tick) (nL := 3) (ty := .int) (by decide +kernel) rfl (fun _ _ _ => rfl) (Nat.le_of_ble_eq_true rfl) ?_
  intro X hXl F hret
  subst hXl
  have hinX4 : ∀ w ∈ wsX40, w ∈ wsX4_tick := by decide +kernel
  obtain ⟨Z, SV, BF, hL, hZ, hSV, hBF, hn16, hm6, ht60⟩ := id h
  show VL g X 0 0 u 0 [(0, .ref (g.2.1 61)), (1, .int p), (2, .int o)] []
  refine r_aload_n F 0 rfl dX4_tick_0 ?_
  refine r_iload_n F 1 rfl dX4_tick_1 ?_
  refine r_calli (g_S (nA := 1) (As := [.int p]) (rest := [.ref (g.2.1 61)]) F (c_X4_isPart) gX4_tick_X4_isPart rfl (by decide +kernel) rfl ⟨Nat.le_of_ble_eq_true rfl, Nat.le_of_ble_eq_true rfl⟩ ⟨Nat.le_of_ble_eq_true rfl, Nat.le_of_ble_eq_true rfl⟩ rfl (Nat.le_of_ble_eq_true rfl) dX4_tick_2) (fun r_1 u_1 hp_1 => ?_)
  obtain ⟨rfl, rfl⟩ := hp_1
  refine r_if_ne F 12 (by decide) dX4_tick_5 (fun c_5_2 => ?_) (fun c_5_2 => ?_)
  · skip
    replace c_5_2 := bI1 c_5_2
    refine r_iload_n F 2 rfl dX4_tick_12 ?_
    refine r_iconst (v := -1) F (by decide) dX4_tick_13 ?_
    refine r_icmp_eq F 32 (by decide) dX4_tick_14 (fun c_14_3 => ?_) (fun c_14_3 => ?_)
    · skip
      refine r_aload_n F 0 rfl dX4_tick_32 ?_
      refine r_get (C := RX4) (T := TX4) (N := 14) F 61 hL.1 (by decide) hinX4 rfl 1 (by decide) (by decide +kernel) rfl dX4_tick_33 ?_
      refine r_iconst (v := 0) F (by decide) dX4_tick_36 ?_
      refine r_iald F 62 hL.2.1 (by decide) (vp_in_nI (n := 0) (by decide) (by decide)) dX4_tick_37 ?_
      refine r_eq (st2 := [.int (nI n), .ref (g.2.1 61)]) (by rw [show Z (0 : Int32).toNatClampNeg = nI n from hZ.1]) rfl ?_
      refine r_bipush (v := 16) F (by decide) dX4_tick_38 ?_
      refine r_icmp_ne F 47 (by decide) dX4_tick_40 (fun c_40_4 => ?_) (fun c_40_4 => ?_)
      · skip
        have hn16b : n < 16 := by have z : ¬ n = 16 := fun q => c_40_4 (by rw [q]; rfl); omega
        refine r_iconst (v := 0) F (by decide) dX4_tick_47 ?_
        refine r_put (C := RX4) (T := TX4) (N := 14) (ty := .int) F 61 hL.1 (by decide) hinX4 tyX4 tyX4_ok nmX4 rfl 0 (by decide) (by decide +kernel) rfl (by decide +kernel) rfl rfl (Nat.le_of_ble_eq_true rfl) dX4_tick_48 (fun u_5 hu_5 => ?_)
        have hL_6 := hL.num (th' := 0) (sm' := nI m) (ty' := nI t) (rm' := rm) (sp' := sp) (wr' := wr) (hs' := hs)
        replace hL_6 : MdL g u_5 0 (nI m) (nI t) rm sp wr hs Z SV BF VA RD CH WE := by rw [hu_5]; exact hL_6
        have hf_7 : ∀ j, ¬ (61 ≤ j ∧ j < 69) → u_5 j = u j := (fun j hj => by rw [hu_5]; exact vne (by omega))
        have hX_8 : MdX g u_5 0 rm sp wr hs VA RD CH WE n B m S t C := ⟨_, _, _, hL_6, hZ, hSV, hBF, hn16, hm6, ht60⟩
        refine r_aload_n F 0 rfl dX4_tick_51 ?_
        refine r_get (C := RX4) (T := TX4) (N := 14) F 61 hL_6.1 (by decide) hinX4 rfl 0 (by decide) (by decide +kernel) rfl dX4_tick_52 ?_
        refine r_if_le F 62 (by decide) dX4_tick_55 (fun c_55_9 => ?_) (fun c_55_9 => absurd c_55_9 (by decide))
        clear c_55_9
        refine r_aload_n F 0 rfl dX4_tick_62 ?_
        refine r_iconst (v := 1) F (by decide) dX4_tick_63 ?_
        refine r_iload_n F 1 rfl dX4_tick_64 ?_
        refine r_iload_n F 2 rfl dX4_tick_65 ?_
        refine r_iconst (v := -1) F (by decide) dX4_tick_66 ?_
        refine r_calli (g_V (C := RX4) (T := TX4) (N := 14) (nA := 4) (As := [.int 1, .int p, .int o, .int (-1)]) (rest := []) F 61 hL_6.1 (by decide) rfl (c_X4_add hX_8 hn16b) gX4_tick_X4_add rfl (by decide +kernel) rfl ⟨Nat.le_of_ble_eq_true rfl, Nat.le_of_ble_eq_true rfl⟩ ⟨Nat.le_of_ble_eq_true rfl, Nat.le_of_ble_eq_true rfl⟩ rfl (Nat.le_of_ble_eq_true rfl) dX4_tick_67) (fun r_10 u_10 hp_10 => ?_)
        obtain ⟨er_10, hX_10, hk_10⟩ := hp_10
        subst er_10
        have hf_11 : ∀ j, ¬ (61 ≤ j ∧ j < 69) → u_10 j = u j := fun j hj => (show u_10 j = u_5 j from hk_10 j hj).trans (hf_7 j hj)
        exact hret _ _ _ _ _ _ (Nat.le_of_ble_eq_true rfl) (Nat.le_of_ble_eq_true rfl) ⟨Or.inl ⟨by simp [cdTick, opnOk, c_5_2, c_14_3, c_40_4, hn16b], rfl, hX_10⟩, hf_11⟩ dX4_tick_70
      · skip
        have hn16b : ¬ n < 16 := fun q => by have z := (nI_eq (b := 16) (by omega) (by decide)).mp c_40_4; omega
        refine r_iconst (v := 3) F (by decide) dX4_tick_43 ?_
        refine r_goto F 48 (by decide) dX4_tick_44 ?_
        refine r_put (C := RX4) (T := TX4) (N := 14) (ty := .int) F 61 hL.1 (by decide) hinX4 tyX4 tyX4_ok nmX4 rfl 0 (by decide) (by decide +kernel) rfl (by decide +kernel) rfl rfl (Nat.le_of_ble_eq_true rfl) dX4_tick_48 (fun u_12 hu_12 => ?_)
        have hL_13 := hL.num (th' := 3) (sm' := nI m) (ty' := nI t) (rm' := rm) (sp' := sp) (wr' := wr) (hs' := hs)
        replace hL_13 : MdL g u_12 3 (nI m) (nI t) rm sp wr hs Z SV BF VA RD CH WE := by rw [hu_12]; exact hL_13
        have hf_14 : ∀ j, ¬ (61 ≤ j ∧ j < 69) → u_12 j = u j := (fun j hj => by rw [hu_12]; exact vne (by omega))
        have hX_15 : MdX g u_12 3 rm sp wr hs VA RD CH WE n B m S t C := ⟨_, _, _, hL_13, hZ, hSV, hBF, hn16, hm6, ht60⟩
        refine r_aload_n F 0 rfl dX4_tick_51 ?_
        refine r_get (C := RX4) (T := TX4) (N := 14) F 61 hL_13.1 (by decide) hinX4 rfl 0 (by decide) (by decide +kernel) rfl dX4_tick_52 ?_
        refine r_if_le F 62 (by decide) dX4_tick_55 (fun c_55_16 => absurd c_55_16 (by decide)) (fun c_55_16 => ?_)
        clear c_55_16
        refine r_iconst (v := 0) F (by decide) dX4_tick_58 ?_
        refine r_goto F 70 (by decide) dX4_tick_59 ?_
        exact hret _ _ _ _ _ _ (Nat.le_of_ble_eq_true rfl) (Nat.le_of_ble_eq_true rfl) ⟨Or.inr ⟨3, by decide, by simp [cdTick, opnOk, c_5_2, c_14_3, c_40_4, hn16b], hX_15⟩, hf_14⟩ dX4_tick_70
    · skip
      refine r_iload_n F 2 rfl dX4_tick_17 ?_
      refine r_iload_n F 1 rfl dX4_tick_18 ?_
      refine r_iconst (v := 1) F (by decide) dX4_tick_19 ?_
      refine r_iadd F dX4_tick_20 ?_
      refine r_iconst (v := 4) F (by decide) dX4_tick_21 ?_
      refine r_calli (g_S (nA := 3) (As := [.int o, .int (p + 1), .int 4]) (rest := [.ref (g.2.1 61)]) F (c_X4_in) gX4_tick_X4_in rfl (by decide +kernel) rfl ⟨Nat.le_of_ble_eq_true rfl, Nat.le_of_ble_eq_true rfl⟩ ⟨Nat.le_of_ble_eq_true rfl, Nat.le_of_ble_eq_true rfl⟩ rfl (Nat.le_of_ble_eq_true rfl) dX4_tick_22) (fun r_17 u_17 hp_17 => ?_)
      obtain ⟨rfl, rfl⟩ := hp_17
      refine r_if_ne F 32 (by decide) dX4_tick_25 (fun c_25_18 => ?_) (fun c_25_18 => ?_)
      · skip
        replace c_25_18 := bI1 c_25_18
        refine r_aload_n F 0 rfl dX4_tick_32 ?_
        refine r_get (C := RX4) (T := TX4) (N := 14) F 61 hL.1 (by decide) hinX4 rfl 1 (by decide) (by decide +kernel) rfl dX4_tick_33 ?_
        refine r_iconst (v := 0) F (by decide) dX4_tick_36 ?_
        refine r_iald F 62 hL.2.1 (by decide) (vp_in_nI (n := 0) (by decide) (by decide)) dX4_tick_37 ?_
        refine r_eq (st2 := [.int (nI n), .ref (g.2.1 61)]) (by rw [show Z (0 : Int32).toNatClampNeg = nI n from hZ.1]) rfl ?_
        refine r_bipush (v := 16) F (by decide) dX4_tick_38 ?_
        refine r_icmp_ne F 47 (by decide) dX4_tick_40 (fun c_40_19 => ?_) (fun c_40_19 => ?_)
        · skip
          have hn16b : n < 16 := by have z : ¬ n = 16 := fun q => c_40_19 (by rw [q]; rfl); omega
          refine r_iconst (v := 0) F (by decide) dX4_tick_47 ?_
          refine r_put (C := RX4) (T := TX4) (N := 14) (ty := .int) F 61 hL.1 (by decide) hinX4 tyX4 tyX4_ok nmX4 rfl 0 (by decide) (by decide +kernel) rfl (by decide +kernel) rfl rfl (Nat.le_of_ble_eq_true rfl) dX4_tick_48 (fun u_20 hu_20 => ?_)
          have hL_21 := hL.num (th' := 0) (sm' := nI m) (ty' := nI t) (rm' := rm) (sp' := sp) (wr' := wr) (hs' := hs)
          replace hL_21 : MdL g u_20 0 (nI m) (nI t) rm sp wr hs Z SV BF VA RD CH WE := by rw [hu_20]; exact hL_21
          have hf_22 : ∀ j, ¬ (61 ≤ j ∧ j < 69) → u_20 j = u j := (fun j hj => by rw [hu_20]; exact vne (by omega))
          have hX_23 : MdX g u_20 0 rm sp wr hs VA RD CH WE n B m S t C := ⟨_, _, _, hL_21, hZ, hSV, hBF, hn16, hm6, ht60⟩
          refine r_aload_n F 0 rfl dX4_tick_51 ?_
          refine r_get (C := RX4) (T := TX4) (N := 14) F 61 hL_21.1 (by decide) hinX4 rfl 0 (by decide) (by decide +kernel) rfl dX4_tick_52 ?_
          refine r_if_le F 62 (by decide) dX4_tick_55 (fun c_55_24 => ?_) (fun c_55_24 => absurd c_55_24 (by decide))
          clear c_55_24
          refine r_aload_n F 0 rfl dX4_tick_62 ?_
          refine r_iconst (v := 1) F (by decide) dX4_tick_63 ?_
          refine r_iload_n F 1 rfl dX4_tick_64 ?_
          refine r_iload_n F 2 rfl dX4_tick_65 ?_
          refine r_iconst (v := -1) F (by decide) dX4_tick_66 ?_
          refine r_calli (g_V (C := RX4) (T := TX4) (N := 14) (nA := 4) (As := [.int 1, .int p, .int o, .int (-1)]) (rest := []) F 61 hL_21.1 (by decide) rfl (c_X4_add hX_23 hn16b) gX4_tick_X4_add rfl (by decide +kernel) rfl ⟨Nat.le_of_ble_eq_true rfl, Nat.le_of_ble_eq_true rfl⟩ ⟨Nat.le_of_ble_eq_true rfl, Nat.le_of_ble_eq_true rfl⟩ rfl (Nat.le_of_ble_eq_true rfl) dX4_tick_67) (fun r_25 u_25 hp_25 => ?_)
          obtain ⟨er_25, hX_25, hk_25⟩ := hp_25
          subst er_25
          have hf_26 : ∀ j, ¬ (61 ≤ j ∧ j < 69) → u_25 j = u j := fun j hj => (show u_25 j = u_20 j from hk_25 j hj).trans (hf_22 j hj)
          exact hret _ _ _ _ _ _ (Nat.le_of_ble_eq_true rfl) (Nat.le_of_ble_eq_true rfl) ⟨Or.inl ⟨by simp [cdTick, opnOk, c_5_2, c_14_3, c_25_18, c_40_19, hn16b], rfl, hX_25⟩, hf_26⟩ dX4_tick_70
        · skip
          have hn16b : ¬ n < 16 := fun q => by have z := (nI_eq (b := 16) (by omega) (by decide)).mp c_40_19; omega
          refine r_iconst (v := 3) F (by decide) dX4_tick_43 ?_
          refine r_goto F 48 (by decide) dX4_tick_44 ?_
          refine r_put (C := RX4) (T := TX4) (N := 14) (ty := .int) F 61 hL.1 (by decide) hinX4 tyX4 tyX4_ok nmX4 rfl 0 (by decide) (by decide +kernel) rfl (by decide +kernel) rfl rfl (Nat.le_of_ble_eq_true rfl) dX4_tick_48 (fun u_27 hu_27 => ?_)
          have hL_28 := hL.num (th' := 3) (sm' := nI m) (ty' := nI t) (rm' := rm) (sp' := sp) (wr' := wr) (hs' := hs)
          replace hL_28 : MdL g u_27 3 (nI m) (nI t) rm sp wr hs Z SV BF VA RD CH WE := by rw [hu_27]; exact hL_28
          have hf_29 : ∀ j, ¬ (61 ≤ j ∧ j < 69) → u_27 j = u j := (fun j hj => by rw [hu_27]; exact vne (by omega))
          have hX_30 : MdX g u_27 3 rm sp wr hs VA RD CH WE n B m S t C := ⟨_, _, _, hL_28, hZ, hSV, hBF, hn16, hm6, ht60⟩
          refine r_aload_n F 0 rfl dX4_tick_51 ?_
          refine r_get (C := RX4) (T := TX4) (N := 14) F 61 hL_28.1 (by decide) hinX4 rfl 0 (by decide) (by decide +kernel) rfl dX4_tick_52 ?_
          refine r_if_le F 62 (by decide) dX4_tick_55 (fun c_55_31 => absurd c_55_31 (by decide)) (fun c_55_31 => ?_)
          clear c_55_31
          refine r_iconst (v := 0) F (by decide) dX4_tick_58 ?_
          refine r_goto F 70 (by decide) dX4_tick_59 ?_
          exact hret _ _ _ _ _ _ (Nat.le_of_ble_eq_true rfl) (Nat.le_of_ble_eq_true rfl) ⟨Or.inr ⟨3, by decide, by simp [cdTick, opnOk, c_5_2, c_14_3, c_25_18, c_40_19, hn16b], hX_30⟩, hf_29⟩ dX4_tick_70
      · skip
        replace c_25_18 := bI0 c_25_18
        refine r_iconst (v := 2) F (by decide) dX4_tick_28 ?_
        refine r_goto F 48 (by decide) dX4_tick_29 ?_
        refine r_put (C := RX4) (T := TX4) (N := 14) (ty := .int) F 61 hL.1 (by decide) hinX4 tyX4 tyX4_ok nmX4 rfl 0 (by decide) (by decide +kernel) rfl (by decide +kernel) rfl rfl (Nat.le_of_ble_eq_true rfl) dX4_tick_48 (fun u_32 hu_32 => ?_)
        have hL_33 := hL.num (th' := 2) (sm' := nI m) (ty' := nI t) (rm' := rm) (sp' := sp) (wr' := wr) (hs' := hs)
        replace hL_33 : MdL g u_32 2 (nI m) (nI t) rm sp wr hs Z SV BF VA RD CH WE := by rw [hu_32]; exact hL_33
        have hf_34 : ∀ j, ¬ (61 ≤ j ∧ j < 69) → u_32 j = u j := (fun j hj => by rw [hu_32]; exact vne (by omega))
        have hX_35 : MdX g u_32 2 rm sp wr hs VA RD CH WE n B m S t C := ⟨_, _, _, hL_33, hZ, hSV, hBF, hn16, hm6, ht60⟩
        refine r_aload_n F 0 rfl dX4_tick_51 ?_
        refine r_get (C := RX4) (T := TX4) (N := 14) F 61 hL_33.1 (by decide) hinX4 rfl 0 (by decide) (by decide +kernel) rfl dX4_tick_52 ?_
        refine r_if_le F 62 (by decide) dX4_tick_55 (fun c_55_36 => absurd c_55_36 (by decide)) (fun c_55_36 => ?_)
        clear c_55_36
        refine r_iconst (v := 0) F (by decide) dX4_tick_58 ?_
        refine r_goto F 70 (by decide) dX4_tick_59 ?_
        exact hret _ _ _ _ _ _ (Nat.le_of_ble_eq_true rfl) (Nat.le_of_ble_eq_true rfl) ⟨Or.inr ⟨2, by decide, by simp [cdTick, opnOk, c_5_2, c_14_3, c_25_18], hX_35⟩, hf_34⟩ dX4_tick_70
  · skip
    replace c_5_2 := bI0 c_5_2
    refine r_iconst (v := 1) F (by decide) dX4_tick_8 ?_
    refine r_goto F 48 (by decide) dX4_tick_9 ?_
    refine r_put (C := RX4) (T := TX4) (N := 14) (ty := .int) F 61 hL.1 (by decide) hinX4 tyX4 tyX4_ok nmX4 rfl 0 (by decide) (by decide +kernel) rfl (by decide +kernel) rfl rfl (Nat.le_of_ble_eq_true rfl) dX4_tick_48 (fun u_37 hu_37 => ?_)
    have hL_38 := hL.num (th' := 1) (sm' := nI m) (ty' := nI t) (rm' := rm) (sp' := sp) (wr' := wr) (hs' := hs)
    replace hL_38 : MdL g u_37 1 (nI m) (nI t) rm sp wr hs Z SV BF VA RD CH WE := by rw [hu_37]; exact hL_38
    have hf_39 : ∀ j, ¬ (61 ≤ j ∧ j < 69) → u_37 j = u j := (fun j hj => by rw [hu_37]; exact vne (by omega))
    have hX_40 : MdX g u_37 1 rm sp wr hs VA RD CH WE n B m S t C := ⟨_, _, _, hL_38, hZ, hSV, hBF, hn16, hm6, ht60⟩
    refine r_aload_n F 0 rfl dX4_tick_51 ?_
    refine r_get (C := RX4) (T := TX4) (N := 14) F 61 hL_38.1 (by decide) hinX4 rfl 0 (by decide) (by decide +kernel) rfl dX4_tick_52 ?_
    refine r_if_le F 62 (by decide) dX4_tick_55 (fun c_55_41 => absurd c_55_41 (by decide)) (fun c_55_41 => ?_)
    clear c_55_41
    refine r_iconst (v := 0) F (by decide) dX4_tick_58 ?_
    refine r_goto F 70 (by decide) dX4_tick_59 ?_
    exact hret _ _ _ _ _ _ (Nat.le_of_ble_eq_true rfl) (Nat.le_of_ble_eq_true rfl) ⟨Or.inr ⟨1, by decide, by simp [cdTick, opnOk, c_5_2], hX_40⟩, hf_39⟩ dX4_tick_70
set_option maxHeartbeats 4000000 in
set_option maxRecDepth 100000 in
theorem c_X4_skip {g : kG} {l : Launch} {u : Nat → va_E} {th rm sp wr : Int32} {hs : Int64} {VA RD CH WE : Nat → Int32} {n m t : Nat} {B : kB} {S : Nat → kS} {C : Nat → Int32} {p o q : Int32} (h : MdX g u th rm sp wr hs VA RD CH WE n B m S t C)  : CI g l yX4_skip wsX4_skip ({ frames := 2, cells := 0, slots := 0, locals := 48 }) [.ref (g.2.1 61), .int p, .int o, .int q] u (fun r u' => ((cdSkip n p o q = 0 ∧ r = nI n ∧ MdX g u' 0 rm sp wr hs VA RD CH WE (n + 1) (bAdd B n 2 p o q) (pushM m) (pushS m S (n, B)) t C) ∨ (∃ c, 0 < c ∧ cdSkip n p o q = c ∧ MdX g u' (nI c) rm sp wr hs VA RD CH WE n B m S t C)) ∧ ∀ j, ¬ (61 ≤ j ∧ j < 69) → u' j = u j) := by
  refine CI.of (cc := cX4_skip) (nL := 4) (ty := .int) (by decide +kernel) rfl (fun _ _ _ => rfl) (Nat.le_of_ble_eq_true rfl) ?_
  intro X hXl F hret
  subst hXl
  have hinX4 : ∀ w ∈ wsX40, w ∈ wsX4_skip := by decide +kernel
  obtain ⟨Z, SV, BF, hL, hZ, hSV, hBF, hn16, hm6, ht60⟩ := id h
  show VL g X 0 0 u 0 [(0, .ref (g.2.1 61)), (1, .int p), (2, .int o), (3, .int q)] []
  refine r_aload_n F 0 rfl dX4_skip_0 ?_
  refine r_iload_n F 1 rfl dX4_skip_1 ?_
  refine r_iconst (v := 0) F (by decide) dX4_skip_2 ?_
  refine r_iconst (v := 3) F (by decide) dX4_skip_3 ?_
  refine r_calli (g_S (nA := 3) (As := [.int p, .int 0, .int 3]) (rest := [.ref (g.2.1 61)]) F (c_X4_in) gX4_skip_X4_in rfl (by decide +kernel) rfl ⟨Nat.le_of_ble_eq_true rfl, Nat.le_of_ble_eq_true rfl⟩ ⟨Nat.le_of_ble_eq_true rfl, Nat.le_of_ble_eq_true rfl⟩ rfl (Nat.le_of_ble_eq_true rfl) dX4_skip_4) (fun r_1 u_1 hp_1 => ?_)
  obtain ⟨rfl, rfl⟩ := hp_1
  refine r_if_ne F 14 (by decide) dX4_skip_7 (fun c_7_2 => ?_) (fun c_7_2 => ?_)
  · skip
    replace c_7_2 := bI1 c_7_2
    refine r_iload_n F 2 rfl dX4_skip_14 ?_
    refine r_iload_n F 1 rfl dX4_skip_15 ?_
    refine r_iconst (v := 1) F (by decide) dX4_skip_16 ?_
    refine r_iadd F dX4_skip_17 ?_
    refine r_iconst (v := 4) F (by decide) dX4_skip_18 ?_
    refine r_calli (g_S (nA := 3) (As := [.int o, .int (p + 1), .int 4]) (rest := [.ref (g.2.1 61)]) F (c_X4_in) gX4_skip_X4_in rfl (by decide +kernel) rfl ⟨Nat.le_of_ble_eq_true rfl, Nat.le_of_ble_eq_true rfl⟩ ⟨Nat.le_of_ble_eq_true rfl, Nat.le_of_ble_eq_true rfl⟩ rfl (Nat.le_of_ble_eq_true rfl) dX4_skip_19) (fun r_3 u_3 hp_3 => ?_)
    obtain ⟨rfl, rfl⟩ := hp_3
    refine r_if_eq F 35 (by decide) dX4_skip_22 (fun c_22_4 => ?_) (fun c_22_4 => ?_)
    · skip
      replace c_22_4 := bI0 c_22_4
      refine r_iconst (v := 2) F (by decide) dX4_skip_35 ?_
      refine r_goto F 55 (by decide) dX4_skip_36 ?_
      refine r_put (C := RX4) (T := TX4) (N := 14) (ty := .int) F 61 hL.1 (by decide) hinX4 tyX4 tyX4_ok nmX4 rfl 0 (by decide) (by decide +kernel) rfl (by decide +kernel) rfl rfl (Nat.le_of_ble_eq_true rfl) dX4_skip_55 (fun u_5 hu_5 => ?_)
      have hL_6 := hL.num (th' := 2) (sm' := nI m) (ty' := nI t) (rm' := rm) (sp' := sp) (wr' := wr) (hs' := hs)
      replace hL_6 : MdL g u_5 2 (nI m) (nI t) rm sp wr hs Z SV BF VA RD CH WE := by rw [hu_5]; exact hL_6
      have hf_7 : ∀ j, ¬ (61 ≤ j ∧ j < 69) → u_5 j = u j := (fun j hj => by rw [hu_5]; exact vne (by omega))
      have hX_8 : MdX g u_5 2 rm sp wr hs VA RD CH WE n B m S t C := ⟨_, _, _, hL_6, hZ, hSV, hBF, hn16, hm6, ht60⟩
      refine r_aload_n F 0 rfl dX4_skip_58 ?_
      refine r_get (C := RX4) (T := TX4) (N := 14) F 61 hL_6.1 (by decide) hinX4 rfl 0 (by decide) (by decide +kernel) rfl dX4_skip_59 ?_
      refine r_if_le F 69 (by decide) dX4_skip_62 (fun c_62_9 => absurd c_62_9 (by decide)) (fun c_62_9 => ?_)
      clear c_62_9
      refine r_iconst (v := 0) F (by decide) dX4_skip_65 ?_
      refine r_goto F 77 (by decide) dX4_skip_66 ?_
      exact hret _ _ _ _ _ _ (Nat.le_of_ble_eq_true rfl) (Nat.le_of_ble_eq_true rfl) ⟨Or.inr ⟨2, by decide, by simp [cdSkip, skpOk, c_7_2, c_22_4], hX_8⟩, hf_7⟩ dX4_skip_77
    · skip
      replace c_22_4 := bI1 c_22_4
      refine r_iload_n F 3 rfl dX4_skip_25 ?_
      refine r_iconst (v := 0) F (by decide) dX4_skip_26 ?_
      refine r_bipush (v := 99) F (by decide) dX4_skip_27 ?_
      refine r_calli (g_S (nA := 3) (As := [.int q, .int 0, .int 99]) (rest := [.ref (g.2.1 61)]) F (c_X4_in) gX4_skip_X4_in rfl (by decide +kernel) rfl ⟨Nat.le_of_ble_eq_true rfl, Nat.le_of_ble_eq_true rfl⟩ ⟨Nat.le_of_ble_eq_true rfl, Nat.le_of_ble_eq_true rfl⟩ rfl (Nat.le_of_ble_eq_true rfl) dX4_skip_29) (fun r_10 u_10 hp_10 => ?_)
      obtain ⟨rfl, rfl⟩ := hp_10
      refine r_if_ne F 39 (by decide) dX4_skip_32 (fun c_32_11 => ?_) (fun c_32_11 => ?_)
      · skip
        replace c_32_11 := bI1 c_32_11
        refine r_aload_n F 0 rfl dX4_skip_39 ?_
        refine r_get (C := RX4) (T := TX4) (N := 14) F 61 hL.1 (by decide) hinX4 rfl 1 (by decide) (by decide +kernel) rfl dX4_skip_40 ?_
        refine r_iconst (v := 0) F (by decide) dX4_skip_43 ?_
        refine r_iald F 62 hL.2.1 (by decide) (vp_in_nI (n := 0) (by decide) (by decide)) dX4_skip_44 ?_
        refine r_eq (st2 := [.int (nI n), .ref (g.2.1 61)]) (by rw [show Z (0 : Int32).toNatClampNeg = nI n from hZ.1]) rfl ?_
        refine r_bipush (v := 16) F (by decide) dX4_skip_45 ?_
        refine r_icmp_ne F 54 (by decide) dX4_skip_47 (fun c_47_12 => ?_) (fun c_47_12 => ?_)
        · skip
          have hn16b : n < 16 := by have z : ¬ n = 16 := fun q => c_47_12 (by rw [q]; rfl); omega
          refine r_iconst (v := 0) F (by decide) dX4_skip_54 ?_
          refine r_put (C := RX4) (T := TX4) (N := 14) (ty := .int) F 61 hL.1 (by decide) hinX4 tyX4 tyX4_ok nmX4 rfl 0 (by decide) (by decide +kernel) rfl (by decide +kernel) rfl rfl (Nat.le_of_ble_eq_true rfl) dX4_skip_55 (fun u_13 hu_13 => ?_)
          have hL_14 := hL.num (th' := 0) (sm' := nI m) (ty' := nI t) (rm' := rm) (sp' := sp) (wr' := wr) (hs' := hs)
          replace hL_14 : MdL g u_13 0 (nI m) (nI t) rm sp wr hs Z SV BF VA RD CH WE := by rw [hu_13]; exact hL_14
          have hf_15 : ∀ j, ¬ (61 ≤ j ∧ j < 69) → u_13 j = u j := (fun j hj => by rw [hu_13]; exact vne (by omega))
          have hX_16 : MdX g u_13 0 rm sp wr hs VA RD CH WE n B m S t C := ⟨_, _, _, hL_14, hZ, hSV, hBF, hn16, hm6, ht60⟩
          refine r_aload_n F 0 rfl dX4_skip_58 ?_
          refine r_get (C := RX4) (T := TX4) (N := 14) F 61 hL_14.1 (by decide) hinX4 rfl 0 (by decide) (by decide +kernel) rfl dX4_skip_59 ?_
          refine r_if_le F 69 (by decide) dX4_skip_62 (fun c_62_17 => ?_) (fun c_62_17 => absurd c_62_17 (by decide))
          clear c_62_17
          refine r_aload_n F 0 rfl dX4_skip_69 ?_
          refine r_iconst (v := 2) F (by decide) dX4_skip_70 ?_
          refine r_iload_n F 1 rfl dX4_skip_71 ?_
          refine r_iload_n F 2 rfl dX4_skip_72 ?_
          refine r_iload_n F 3 rfl dX4_skip_73 ?_
          refine r_calli (g_V (C := RX4) (T := TX4) (N := 14) (nA := 4) (As := [.int 2, .int p, .int o, .int q]) (rest := []) F 61 hL_14.1 (by decide) rfl (c_X4_add hX_16 hn16b) gX4_skip_X4_add rfl (by decide +kernel) rfl ⟨Nat.le_of_ble_eq_true rfl, Nat.le_of_ble_eq_true rfl⟩ ⟨Nat.le_of_ble_eq_true rfl, Nat.le_of_ble_eq_true rfl⟩ rfl (Nat.le_of_ble_eq_true rfl) dX4_skip_74) (fun r_18 u_18 hp_18 => ?_)
          obtain ⟨er_18, hX_18, hk_18⟩ := hp_18
          subst er_18
          have hf_19 : ∀ j, ¬ (61 ≤ j ∧ j < 69) → u_18 j = u j := fun j hj => (show u_18 j = u_13 j from hk_18 j hj).trans (hf_15 j hj)
          exact hret _ _ _ _ _ _ (Nat.le_of_ble_eq_true rfl) (Nat.le_of_ble_eq_true rfl) ⟨Or.inl ⟨by simp [cdSkip, skpOk, c_7_2, c_22_4, c_32_11, c_47_12, hn16b], rfl, hX_18⟩, hf_19⟩ dX4_skip_77
        · skip
          have hn16b : ¬ n < 16 := fun q => by have z := (nI_eq (b := 16) (by omega) (by decide)).mp c_47_12; omega
          refine r_iconst (v := 3) F (by decide) dX4_skip_50 ?_
          refine r_goto F 55 (by decide) dX4_skip_51 ?_
          refine r_put (C := RX4) (T := TX4) (N := 14) (ty := .int) F 61 hL.1 (by decide) hinX4 tyX4 tyX4_ok nmX4 rfl 0 (by decide) (by decide +kernel) rfl (by decide +kernel) rfl rfl (Nat.le_of_ble_eq_true rfl) dX4_skip_55 (fun u_20 hu_20 => ?_)
          have hL_21 := hL.num (th' := 3) (sm' := nI m) (ty' := nI t) (rm' := rm) (sp' := sp) (wr' := wr) (hs' := hs)
          replace hL_21 : MdL g u_20 3 (nI m) (nI t) rm sp wr hs Z SV BF VA RD CH WE := by rw [hu_20]; exact hL_21
          have hf_22 : ∀ j, ¬ (61 ≤ j ∧ j < 69) → u_20 j = u j := (fun j hj => by rw [hu_20]; exact vne (by omega))
          have hX_23 : MdX g u_20 3 rm sp wr hs VA RD CH WE n B m S t C := ⟨_, _, _, hL_21, hZ, hSV, hBF, hn16, hm6, ht60⟩
          refine r_aload_n F 0 rfl dX4_skip_58 ?_
          refine r_get (C := RX4) (T := TX4) (N := 14) F 61 hL_21.1 (by decide) hinX4 rfl 0 (by decide) (by decide +kernel) rfl dX4_skip_59 ?_
          refine r_if_le F 69 (by decide) dX4_skip_62 (fun c_62_24 => absurd c_62_24 (by decide)) (fun c_62_24 => ?_)
          clear c_62_24
          refine r_iconst (v := 0) F (by decide) dX4_skip_65 ?_
          refine r_goto F 77 (by decide) dX4_skip_66 ?_
          exact hret _ _ _ _ _ _ (Nat.le_of_ble_eq_true rfl) (Nat.le_of_ble_eq_true rfl) ⟨Or.inr ⟨3, by decide, by simp [cdSkip, skpOk, c_7_2, c_22_4, c_32_11, c_47_12, hn16b], hX_23⟩, hf_22⟩ dX4_skip_77
      · skip
        replace c_32_11 := bI0 c_32_11
        refine r_iconst (v := 2) F (by decide) dX4_skip_35 ?_
        refine r_goto F 55 (by decide) dX4_skip_36 ?_
        refine r_put (C := RX4) (T := TX4) (N := 14) (ty := .int) F 61 hL.1 (by decide) hinX4 tyX4 tyX4_ok nmX4 rfl 0 (by decide) (by decide +kernel) rfl (by decide +kernel) rfl rfl (Nat.le_of_ble_eq_true rfl) dX4_skip_55 (fun u_25 hu_25 => ?_)
        have hL_26 := hL.num (th' := 2) (sm' := nI m) (ty' := nI t) (rm' := rm) (sp' := sp) (wr' := wr) (hs' := hs)
        replace hL_26 : MdL g u_25 2 (nI m) (nI t) rm sp wr hs Z SV BF VA RD CH WE := by rw [hu_25]; exact hL_26
        have hf_27 : ∀ j, ¬ (61 ≤ j ∧ j < 69) → u_25 j = u j := (fun j hj => by rw [hu_25]; exact vne (by omega))
        have hX_28 : MdX g u_25 2 rm sp wr hs VA RD CH WE n B m S t C := ⟨_, _, _, hL_26, hZ, hSV, hBF, hn16, hm6, ht60⟩
        refine r_aload_n F 0 rfl dX4_skip_58 ?_
        refine r_get (C := RX4) (T := TX4) (N := 14) F 61 hL_26.1 (by decide) hinX4 rfl 0 (by decide) (by decide +kernel) rfl dX4_skip_59 ?_
        refine r_if_le F 69 (by decide) dX4_skip_62 (fun c_62_29 => absurd c_62_29 (by decide)) (fun c_62_29 => ?_)
        clear c_62_29
        refine r_iconst (v := 0) F (by decide) dX4_skip_65 ?_
        refine r_goto F 77 (by decide) dX4_skip_66 ?_
        exact hret _ _ _ _ _ _ (Nat.le_of_ble_eq_true rfl) (Nat.le_of_ble_eq_true rfl) ⟨Or.inr ⟨2, by decide, by simp [cdSkip, skpOk, c_7_2, c_22_4, c_32_11], hX_28⟩, hf_27⟩ dX4_skip_77
  · skip
    replace c_7_2 := bI0 c_7_2
    refine r_iconst (v := 1) F (by decide) dX4_skip_10 ?_
    refine r_goto F 55 (by decide) dX4_skip_11 ?_
    refine r_put (C := RX4) (T := TX4) (N := 14) (ty := .int) F 61 hL.1 (by decide) hinX4 tyX4 tyX4_ok nmX4 rfl 0 (by decide) (by decide +kernel) rfl (by decide +kernel) rfl rfl (Nat.le_of_ble_eq_true rfl) dX4_skip_55 (fun u_30 hu_30 => ?_)
    have hL_31 := hL.num (th' := 1) (sm' := nI m) (ty' := nI t) (rm' := rm) (sp' := sp) (wr' := wr) (hs' := hs)
    replace hL_31 : MdL g u_30 1 (nI m) (nI t) rm sp wr hs Z SV BF VA RD CH WE := by rw [hu_30]; exact hL_31
    have hf_32 : ∀ j, ¬ (61 ≤ j ∧ j < 69) → u_30 j = u j := (fun j hj => by rw [hu_30]; exact vne (by omega))
    have hX_33 : MdX g u_30 1 rm sp wr hs VA RD CH WE n B m S t C := ⟨_, _, _, hL_31, hZ, hSV, hBF, hn16, hm6, ht60⟩
    refine r_aload_n F 0 rfl dX4_skip_58 ?_
    refine r_get (C := RX4) (T := TX4) (N := 14) F 61 hL_31.1 (by decide) hinX4 rfl 0 (by decide) (by decide +kernel) rfl dX4_skip_59 ?_
    refine r_if_le F 69 (by decide) dX4_skip_62 (fun c_62_34 => absurd c_62_34 (by decide)) (fun c_62_34 => ?_)
    clear c_62_34
    refine r_iconst (v := 0) F (by decide) dX4_skip_65 ?_
    refine r_goto F 77 (by decide) dX4_skip_66 ?_
    exact hret _ _ _ _ _ _ (Nat.le_of_ble_eq_true rfl) (Nat.le_of_ble_eq_true rfl) ⟨Or.inr ⟨1, by decide, by simp [cdSkip, skpOk, c_7_2], hX_33⟩, hf_32⟩ dX4_skip_77

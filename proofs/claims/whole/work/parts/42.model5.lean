set_option maxHeartbeats 4000000 in
set_option maxRecDepth 100000 in
theorem c_X4_ofL {g : kG} {l : Launch} {u : Nat → va_E} {th sm ty rm sp wr : Int32} {hs : Int64} {Z SV BF VA RD CH WE : Nat → Int32} {b w : Nat} (hL : MdL g u th sm ty rm sp wr hs Z SV BF VA RD CH WE) (hb : b < 16) (hw : w < 5) : CI g l yX4_of wsX4_of ({ frames := 0, cells := 0, slots := 0, locals := 0 }) [.ref (g.2.1 61), .int (nI b), .int (nI w)] u (fun r u' => r = Z (1 + 5 * b + w) ∧ u = u') := by
  refine CI.of (cc := cX4_of) (nL := 3) (ty := .int) (by decide +kernel) rfl (fun _ _ _ => rfl) (Nat.le_of_ble_eq_true rfl) ?_
  intro X hXl F hret
  subst hXl
  have hinX4 : ∀ w ∈ wsX40, w ∈ wsX4_of := by decide +kernel
  show VL g X 0 0 u 0 [(0, .ref (g.2.1 61)), (1, .int (nI b)), (2, .int (nI w))] []
  refine r_aload_n F 0 rfl dX4_of_0 ?_
  refine r_get (C := RX4) (T := TX4) (N := 14) F 61 hL.1 (by decide) hinX4 rfl 1 (by decide) (by decide +kernel) rfl dX4_of_1 ?_
  refine r_iconst (v := 1) F (by decide) dX4_of_4 ?_
  refine r_iconst (v := 5) F (by decide) dX4_of_5 ?_
  refine r_iload_n F 1 rfl dX4_of_6 ?_
  refine r_imul F dX4_of_7 ?_
  refine r_iadd F dX4_of_8 ?_
  refine r_iload_n F 2 rfl dX4_of_9 ?_
  refine r_iadd F dX4_of_10 ?_
  refine r_iald F 62 hL.2.1 (by decide) (by rw [ixz]; exact vp_in_nI (by omega) (by decide)) dX4_of_11 ?_
  refine r_eq (st2 := [.int (Z (1 + 5 * b + w))]) (by rw [ixz, nI_clamp (by omega)]) rfl ?_
  exact hret _ _ _ _ _ _ (Nat.le_of_ble_eq_true rfl) (Nat.le_of_ble_eq_true rfl) ⟨by rfl, rfl⟩ dX4_of_12
set_option maxHeartbeats 4000000 in
set_option maxRecDepth 100000 in
theorem c_X4_drop {g : kG} {l : Launch} {u : Nat → va_E} {th rm sp wr : Int32} {hs : Int64} {VA RD CH WE : Nat → Int32} {n m t : Nat} {B : kB} {S : Nat → kS} {C : Nat → Int32}  (h : MdX g u th rm sp wr hs VA RD CH WE n B m S t C)  : CI g l yX4_drop wsX4_drop ({ frames := 1, cells := 0, slots := 0, locals := 22 }) [.ref (g.2.1 61)] u (fun r u' => ((cdDrop n = 0 ∧ r = B (n - 1) 0 ∧ MdX g u' 0 rm sp wr hs VA RD CH WE (n - 1) B (pushM m) (pushS m S (n, B)) t C) ∨ (∃ c, 0 < c ∧ cdDrop n = c ∧ MdX g u' (nI c) rm sp wr hs VA RD CH WE n B m S t C)) ∧ ∀ j, ¬ (61 ≤ j ∧ j < 69) → u' j = u j) := by
  refine CI.of (cc := cX4_drop) (nL := 1) (ty := .int) (by decide +kernel) rfl (fun _ _ _ => rfl) (Nat.le_of_ble_eq_true rfl) ?_
  intro X hXl F hret
  subst hXl
  have hinX4 : ∀ w ∈ wsX40, w ∈ wsX4_drop := by decide +kernel
  obtain ⟨Z, SV, BF, hL, hZ, hSV, hBF, hn16, hm6, ht60⟩ := id h
  show VL g X 0 0 u 0 [(0, .ref (g.2.1 61))] []
  refine r_aload_n F 0 rfl dX4_drop_0 ?_
  refine r_aload_n F 0 rfl dX4_drop_1 ?_
  refine r_get (C := RX4) (T := TX4) (N := 14) F 61 hL.1 (by decide) hinX4 rfl 1 (by decide) (by decide +kernel) rfl dX4_drop_2 ?_
  refine r_iconst (v := 0) F (by decide) dX4_drop_5 ?_
  refine r_iald F 62 hL.2.1 (by decide) (vp_in_nI (n := 0) (by decide) (by decide)) dX4_drop_6 ?_
  refine r_eq (st2 := [.int (nI n), .ref (g.2.1 61)]) (by rw [show Z (0 : Int32).toNatClampNeg = nI n from hZ.1]) rfl ?_
  refine r_if_ne F 14 (by decide) dX4_drop_7 (fun c_7_1 => ?_) (fun c_7_1 => ?_)
  · skip
    obtain ⟨q, rfl⟩ : ∃ q, n = q + 1 := ⟨n - 1, by have z : ¬ n = 0 := (fun e => c_7_1 (by rw [e]; rfl)); omega⟩
    refine r_iconst (v := 0) F (by decide) dX4_drop_14 ?_
    refine r_put (C := RX4) (T := TX4) (N := 14) (ty := .int) F 61 hL.1 (by decide) hinX4 tyX4 tyX4_ok nmX4 rfl 0 (by decide) (by decide +kernel) rfl (by decide +kernel) rfl rfl (Nat.le_of_ble_eq_true rfl) dX4_drop_15 (fun u_2 hu_2 => ?_)
    have hL_3 := hL.num (th' := 0) (sm' := nI m) (ty' := nI t) (rm' := rm) (sp' := sp) (wr' := wr) (hs' := hs)
    replace hL_3 : MdL g u_2 0 (nI m) (nI t) rm sp wr hs Z SV BF VA RD CH WE := by rw [hu_2]; exact hL_3
    have hf_4 : ∀ j, ¬ (61 ≤ j ∧ j < 69) → u_2 j = u j := (fun j hj => by rw [hu_2]; exact vne (by omega))
    have hX_5 : MdX g u_2 0 rm sp wr hs VA RD CH WE (q + 1) B m S t C := ⟨_, _, _, hL_3, hZ, hSV, hBF, hn16, hm6, ht60⟩
    refine r_aload_n F 0 rfl dX4_drop_18 ?_
    refine r_get (C := RX4) (T := TX4) (N := 14) F 61 hL_3.1 (by decide) hinX4 rfl 0 (by decide) (by decide +kernel) rfl dX4_drop_19 ?_
    refine r_if_le F 27 (by decide) dX4_drop_22 (fun c_22_6 => ?_) (fun c_22_6 => absurd c_22_6 (by decide))
    clear c_22_6
    refine r_aload_n F 0 rfl dX4_drop_27 ?_
    refine r_callv (g_V (C := RX4) (T := TX4) (N := 14) (nA := 0) (As := []) (rest := []) F 61 hL_3.1 (by decide) rfl (c_X4_save hX_5) gX4_drop_X4_save rfl (by decide +kernel) rfl ⟨Nat.le_of_ble_eq_true rfl, Nat.le_of_ble_eq_true rfl⟩ ⟨Nat.le_of_ble_eq_true rfl, Nat.le_of_ble_eq_true rfl⟩ rfl (Nat.le_of_ble_eq_true rfl) dX4_drop_28) (fun u_7 hp_7 => ?_)
    obtain ⟨hX_7, hk_7⟩ := hp_7
    obtain ⟨Z_7, SV_7, BF_7, hL_7, hZ_7, hSV_7, hBF_7, hn_7, hm_7, ht_7⟩ := id hX_7
    have hf_8 : ∀ j, ¬ (61 ≤ j ∧ j < 69) → u_7 j = u j := fun j hj => (show u_7 j = u_2 j from hk_7 j hj).trans (hf_4 j hj)
    refine r_aload_n F 0 rfl dX4_drop_31 ?_
    refine r_get (C := RX4) (T := TX4) (N := 14) F 61 hL_7.1 (by decide) hinX4 rfl 1 (by decide) (by decide +kernel) rfl dX4_drop_32 ?_
    refine r_iconst (v := 0) F (by decide) dX4_drop_35 ?_
    refine r_dup2_11 F rfl rfl dX4_drop_36 ?_
    refine r_iald F 62 hL_7.2.1 (by decide) (vp_in_nI (n := 0) (by decide) (by decide)) dX4_drop_37 ?_
    refine r_eq (st2 := [.int (nI (q + 1)), .int 0, .ref (g.2.1 62)]) (by rw [show Z_7 (0 : Int32).toNatClampNeg = nI (q + 1) from hZ_7.1]) rfl ?_
    refine r_iconst (v := 1) F (by decide) dX4_drop_38 ?_
    refine r_isub F dX4_drop_39 ?_
    refine r_iast F 62 hL_7.2.1 (by decide) (vp_in_nI (n := 0) (by decide) (by decide)) dX4_drop_40 (fun u_9 hu_9 => ?_)
    have hL_10 := hL_7.upZ (Z' := upd Z_7 0 (nI q))
    rw [show upd Z_7 (0 : Int32).toNatClampNeg (nI (q + 1) - 1) = upd Z_7 0 (nI q) from by rw [nI_pred]; rfl] at hu_9
    rw [← hu_9] at hL_10
    have hf_11 : ∀ j, ¬ (61 ≤ j ∧ j < 69) → u_9 j = u j := fun j hj => (show u_9 j = u_7 j from (fun j hj => by rw [hu_9]; exact vne (by omega)) j hj).trans (hf_8 j hj)
    have hX_12 : MdX g u_9 0 rm sp wr hs VA RD CH WE q B (pushM m) (pushS m S ((q + 1), B)) t C := ⟨_, _, _, hL_10, hZ_7.less, hSV_7, hBF_7, by omega, hm_7, ht_7⟩
    refine r_aload_n F 0 rfl dX4_drop_41 ?_
    refine r_aload_n F 0 rfl dX4_drop_42 ?_
    refine r_get (C := RX4) (T := TX4) (N := 14) F 61 hL_10.1 (by decide) hinX4 rfl 1 (by decide) (by decide +kernel) rfl dX4_drop_43 ?_
    refine r_iconst (v := 0) F (by decide) dX4_drop_46 ?_
    refine r_iald F 62 hL_10.2.1 (by decide) (vp_in_nI (n := 0) (by decide) (by decide)) dX4_drop_47 ?_
    refine r_eq (st2 := [.int (nI q), .ref (g.2.1 61)]) (by rw [show upd Z_7 0 (nI q) (0 : Int32).toNatClampNeg = nI q from hZ_7.less.1]) rfl ?_
    refine r_iconst (v := 0) F (by decide) dX4_drop_48 ?_
    refine r_calli (g_V (C := RX4) (T := TX4) (N := 14) (nA := 2) (As := [.int (nI q), .int 0]) (rest := []) F 61 hL_10.1 (by decide) rfl (c_X4_ofL hL_10 (b := q) (by omega) (w := 0) (by decide)) gX4_drop_X4_of rfl (by decide +kernel) rfl ⟨Nat.le_of_ble_eq_true rfl, Nat.le_of_ble_eq_true rfl⟩ ⟨Nat.le_of_ble_eq_true rfl, Nat.le_of_ble_eq_true rfl⟩ rfl (Nat.le_of_ble_eq_true rfl) dX4_drop_49) (fun r_13 u_13 hp_13 => ?_)
    obtain ⟨rfl, rfl⟩ := hp_13
    exact hret _ _ _ _ _ _ (Nat.le_of_ble_eq_true rfl) (Nat.le_of_ble_eq_true rfl) ⟨Or.inl ⟨by simp [cdDrop], (if_neg (by omega)).trans (hZ_7.2 q (by omega) 0 (by decide)), hX_12⟩, hf_11⟩ dX4_drop_52
  · skip
    have hn0 : n = 0 := (nI_eq (b := 0) (by omega) (by decide)).mp c_7_1
    refine r_iconst (v := 1) F (by decide) dX4_drop_10 ?_
    refine r_goto F 15 (by decide) dX4_drop_11 ?_
    refine r_put (C := RX4) (T := TX4) (N := 14) (ty := .int) F 61 hL.1 (by decide) hinX4 tyX4 tyX4_ok nmX4 rfl 0 (by decide) (by decide +kernel) rfl (by decide +kernel) rfl rfl (Nat.le_of_ble_eq_true rfl) dX4_drop_15 (fun u_14 hu_14 => ?_)
    have hL_15 := hL.num (th' := 1) (sm' := nI m) (ty' := nI t) (rm' := rm) (sp' := sp) (wr' := wr) (hs' := hs)
    replace hL_15 : MdL g u_14 1 (nI m) (nI t) rm sp wr hs Z SV BF VA RD CH WE := by rw [hu_14]; exact hL_15
    have hf_16 : ∀ j, ¬ (61 ≤ j ∧ j < 69) → u_14 j = u j := (fun j hj => by rw [hu_14]; exact vne (by omega))
    have hX_17 : MdX g u_14 1 rm sp wr hs VA RD CH WE n B m S t C := ⟨_, _, _, hL_15, hZ, hSV, hBF, hn16, hm6, ht60⟩
    refine r_aload_n F 0 rfl dX4_drop_18 ?_
    refine r_get (C := RX4) (T := TX4) (N := 14) F 61 hL_15.1 (by decide) hinX4 rfl 0 (by decide) (by decide +kernel) rfl dX4_drop_19 ?_
    refine r_if_le F 27 (by decide) dX4_drop_22 (fun c_22_18 => absurd c_22_18 (by decide)) (fun c_22_18 => ?_)
    clear c_22_18
    refine r_iconst (v := 0) F (by decide) dX4_drop_25 ?_
    exact hret _ _ _ _ _ _ (Nat.le_of_ble_eq_true rfl) (Nat.le_of_ble_eq_true rfl) ⟨Or.inr ⟨1, by decide, by simp [cdDrop, hn0], hX_17⟩, hf_16⟩ dX4_drop_26
set_option maxHeartbeats 4000000 in
set_option maxRecDepth 100000 in
theorem c_X4_undo {g : kG} {l : Launch} {u : Nat → va_E} {th rm sp wr : Int32} {hs : Int64} {VA RD CH WE : Nat → Int32} {n m t : Nat} {B : kB} {S : Nat → kS} {C : Nat → Int32}  (h : MdX g u th rm sp wr hs VA RD CH WE n B m S t C)  : CI g l yX4_undo wsX4_undo ({ frames := 0, cells := 0, slots := 0, locals := 0 }) [.ref (g.2.1 61)] u (fun r u' => ((cdUndo m = 0 ∧ r = nI (m - 1) ∧ MdX g u' 0 rm sp wr hs VA RD CH WE (S (m - 1)).1 (S (m - 1)).2 (m - 1) S t C) ∨ (∃ c, 0 < c ∧ cdUndo m = c ∧ MdX g u' (nI c) rm sp wr hs VA RD CH WE n B m S t C)) ∧ ∀ j, ¬ (61 ≤ j ∧ j < 69) → u' j = u j) := by
  refine CI.of (cc := cX4_undo) (nL := 2) (ty := .int) (by decide +kernel) rfl (fun _ _ _ => rfl) (Nat.le_of_ble_eq_true rfl) ?_
  intro X hXl F hret
  subst hXl
  have hinX4 : ∀ w ∈ wsX40, w ∈ wsX4_undo := by decide +kernel
  obtain ⟨Z, SV, BF, hL, hZ, hSV, hBF, hn16, hm6, ht60⟩ := id h
  show VL g X 0 0 u 0 [(0, .ref (g.2.1 61))] []
  refine r_aload_n F 0 rfl dX4_undo_0 ?_
  refine r_aload_n F 0 rfl dX4_undo_1 ?_
  refine r_get (C := RX4) (T := TX4) (N := 14) F 61 hL.1 (by decide) hinX4 rfl 3 (by decide) (by decide +kernel) rfl dX4_undo_2 ?_
  refine r_if_ne F 12 (by decide) dX4_undo_5 (fun c_5_1 => ?_) (fun c_5_1 => ?_)
  · skip
    obtain ⟨q, rfl⟩ : ∃ q, m = q + 1 := ⟨m - 1, by have z : ¬ m = 0 := (fun e => c_5_1 (by rw [e]; rfl)); omega⟩
    refine r_iconst (v := 0) F (by decide) dX4_undo_12 ?_
    refine r_put (C := RX4) (T := TX4) (N := 14) (ty := .int) F 61 hL.1 (by decide) hinX4 tyX4 tyX4_ok nmX4 rfl 0 (by decide) (by decide +kernel) rfl (by decide +kernel) rfl rfl (Nat.le_of_ble_eq_true rfl) dX4_undo_13 (fun u_2 hu_2 => ?_)
    have hL_3 := hL.num (th' := 0) (sm' := nI (q + 1)) (ty' := nI t) (rm' := rm) (sp' := sp) (wr' := wr) (hs' := hs)
    replace hL_3 : MdL g u_2 0 (nI (q + 1)) (nI t) rm sp wr hs Z SV BF VA RD CH WE := by rw [hu_2]; exact hL_3
    have hf_4 : ∀ j, ¬ (61 ≤ j ∧ j < 69) → u_2 j = u j := (fun j hj => by rw [hu_2]; exact vne (by omega))
    have hX_5 : MdX g u_2 0 rm sp wr hs VA RD CH WE n B (q + 1) S t C := ⟨_, _, _, hL_3, hZ, hSV, hBF, hn16, hm6, ht60⟩
    refine r_aload_n F 0 rfl dX4_undo_16 ?_
    refine r_get (C := RX4) (T := TX4) (N := 14) F 61 hL_3.1 (by decide) hinX4 rfl 0 (by decide) (by decide +kernel) rfl dX4_undo_17 ?_
    refine r_if_le F 25 (by decide) dX4_undo_20 (fun c_20_6 => ?_) (fun c_20_6 => absurd c_20_6 (by decide))
    clear c_20_6
    refine r_aload_n F 0 rfl dX4_undo_25 ?_
    refine r_dup F rfl dX4_undo_26 ?_
    refine r_get (C := RX4) (T := TX4) (N := 14) F 61 hL_3.1 (by decide) hinX4 rfl 3 (by decide) (by decide +kernel) rfl dX4_undo_27 ?_
    refine r_iconst (v := 1) F (by decide) dX4_undo_30 ?_
    refine r_isub F dX4_undo_31 ?_
    refine r_put (C := RX4) (T := TX4) (N := 14) (ty := .int) F 61 hL_3.1 (by decide) hinX4 tyX4 tyX4_ok nmX4 rfl 3 (by decide) (by decide +kernel) rfl (by decide +kernel) rfl rfl (Nat.le_of_ble_eq_true rfl) dX4_undo_32 (fun u_7 hu_7 => ?_)
    rw [nI_pred] at hu_7
    have hL_8 := hL_3.num (th' := 0) (sm' := nI q) (ty' := nI t) (rm' := rm) (sp' := sp) (wr' := wr) (hs' := hs)
    replace hL_8 : MdL g u_7 0 (nI q) (nI t) rm sp wr hs Z SV BF VA RD CH WE := by rw [hu_7]; exact hL_8
    have hf_9 : ∀ j, ¬ (61 ≤ j ∧ j < 69) → u_7 j = u j := fun j hj => (show u_7 j = u_2 j from (fun j hj => by rw [hu_7]; exact vne (by omega)) j hj).trans (hf_4 j hj)
    refine r_iconst (v := 0) F (by decide) dX4_undo_35 ?_
    refine r_istore_n (lv' := [(0, .ref (g.2.1 61)), (1, .int 0)]) F (by decide) rfl dX4_undo_36 ?_
    have loop_37 : ∀ (k : Nat) (j : Nat) (w1 : Nat → va_E) (x1_37 : Int32), j + k = 81 → MdL g w1 0 (nI q) (nI t) rm sp wr hs (zzC Z SV q j) SV BF VA RD CH WE → (∀ j, ¬ (61 ≤ j ∧ j < 69) → w1 j = u j) → x1_37 = nI j → VL g X 0 0 w1 37 [(0, .ref (g.2.1 61)), (1, .int x1_37)] [] := by
      intro k
      induction k with
      | zero =>
        rintro j w1 x1_37 hkj hw1 hf1 rfl
        have hjn : j = 81 := by omega
        subst hjn
        refine r_iload_n F 1 rfl dX4_undo_37 ?_
        refine r_bipush (v := 81) F (by decide) dX4_undo_38 ?_
        refine r_icmp_ge F 69 (by decide) dX4_undo_40 (fun c_40_11 => ?_) (fun c_40_11 => absurd (by decide) c_40_11)
        clear c_40_11
        refine r_aload_n F 0 rfl dX4_undo_69 ?_
        refine r_get (C := RX4) (T := TX4) (N := 14) F 61 hw1.1 (by decide) hinX4 rfl 3 (by decide) (by decide +kernel) rfl dX4_undo_70 ?_
        exact hret _ _ _ _ _ _ (Nat.le_of_ble_eq_true rfl) (Nat.le_of_ble_eq_true rfl) ⟨Or.inl ⟨by simp [cdUndo], rfl, ⟨_, _, _, hw1, hSV.back.2, fun k hk => hSV k (by omega), hBF, (hSV.back (Z := Z)).1, by omega, ht60⟩⟩, hf1⟩ dX4_undo_73
      | succ k ih_37 =>
        rintro j w1 x1_37 hkj hw1 hf1 rfl
        have hbj : j < 81 := by omega
        refine r_iload_n F 1 rfl dX4_undo_37 ?_
        refine r_bipush (v := 81) F (by decide) dX4_undo_38 ?_
        refine r_icmp_ge F 69 (by decide) dX4_undo_40 (fun c_40_12 => absurd c_40_12 (nI_ge (b := 81) hbj (by decide))) (fun c_40_12 => ?_)
        clear c_40_12
        refine r_aload_n F 0 rfl dX4_undo_43 ?_
        refine r_get (C := RX4) (T := TX4) (N := 14) F 61 hw1.1 (by decide) hinX4 rfl 1 (by decide) (by decide +kernel) rfl dX4_undo_44 ?_
        refine r_iload_n F 1 rfl dX4_undo_47 ?_
        refine r_aload_n F 0 rfl dX4_undo_48 ?_
        refine r_get (C := RX4) (T := TX4) (N := 14) F 61 hw1.1 (by decide) hinX4 rfl 2 (by decide) (by decide +kernel) rfl dX4_undo_49 ?_
        refine r_aload_n F 0 rfl dX4_undo_52 ?_
        refine r_get (C := RX4) (T := TX4) (N := 14) F 61 hw1.1 (by decide) hinX4 rfl 3 (by decide) (by decide +kernel) rfl dX4_undo_53 ?_
        refine r_bipush (v := 81) F (by decide) dX4_undo_56 ?_
        refine r_imul F dX4_undo_58 ?_
        refine r_iload_n F 1 rfl dX4_undo_59 ?_
        refine r_iadd F dX4_undo_60 ?_
        refine r_iald F 63 hw1.2.2.1 (by decide) (by rw [ixs]; exact vp_in_nI (by omega) (by decide)) dX4_undo_61 ?_
        refine r_eq (st2 := [.int (SV (q * 81 + j)), .int (nI j), .ref (g.2.1 62)]) (by rw [ixs, nI_clamp (by omega)]) rfl ?_
        refine r_iast F 62 hw1.2.1 (by decide) (vp_in_nI (by omega) (by decide)) dX4_undo_62 (fun u_13 hu_13 => ?_)
        have hL_14 := hw1.upZ (Z' := zzC Z SV q (j + 1))
        rw [nI_clamp (by omega), zzC_s] at hu_13
        rw [← hu_13] at hL_14
        have hf_15 : ∀ j, ¬ (61 ≤ j ∧ j < 69) → u_13 j = u j := fun j hj => (show u_13 j = w1 j from (fun j hj => by rw [hu_13]; exact vne (by omega)) j hj).trans (hf1 j hj)
        refine r_iinc (lv' := [(0, .ref (g.2.1 61)), (1, .int (nI (j + 1)))]) F 1 rfl (nI_inc _) (by decide) rfl dX4_undo_63 ?_
        refine r_goto F 37 (by decide) dX4_undo_66 ?_
        exact ih_37 (j + 1) _ _ (by omega) hL_14 hf_15 rfl
    exact loop_37 81 0 u_7 _ (by omega) (zzC_0.symm ▸ hL_8) hf_9 rfl
  · skip
    have hm0 : m = 0 := (nI_eq (b := 0) (by omega) (by decide)).mp c_5_1
    refine r_iconst (v := 1) F (by decide) dX4_undo_8 ?_
    refine r_goto F 13 (by decide) dX4_undo_9 ?_
    refine r_put (C := RX4) (T := TX4) (N := 14) (ty := .int) F 61 hL.1 (by decide) hinX4 tyX4 tyX4_ok nmX4 rfl 0 (by decide) (by decide +kernel) rfl (by decide +kernel) rfl rfl (Nat.le_of_ble_eq_true rfl) dX4_undo_13 (fun u_16 hu_16 => ?_)
    have hL_17 := hL.num (th' := 1) (sm' := nI m) (ty' := nI t) (rm' := rm) (sp' := sp) (wr' := wr) (hs' := hs)
    replace hL_17 : MdL g u_16 1 (nI m) (nI t) rm sp wr hs Z SV BF VA RD CH WE := by rw [hu_16]; exact hL_17
    have hf_18 : ∀ j, ¬ (61 ≤ j ∧ j < 69) → u_16 j = u j := (fun j hj => by rw [hu_16]; exact vne (by omega))
    have hX_19 : MdX g u_16 1 rm sp wr hs VA RD CH WE n B m S t C := ⟨_, _, _, hL_17, hZ, hSV, hBF, hn16, hm6, ht60⟩
    refine r_aload_n F 0 rfl dX4_undo_16 ?_
    refine r_get (C := RX4) (T := TX4) (N := 14) F 61 hL_17.1 (by decide) hinX4 rfl 0 (by decide) (by decide +kernel) rfl dX4_undo_17 ?_
    refine r_if_le F 25 (by decide) dX4_undo_20 (fun c_20_20 => absurd c_20_20 (by decide)) (fun c_20_20 => ?_)
    clear c_20_20
    refine r_iconst (v := 0) F (by decide) dX4_undo_23 ?_
    exact hret _ _ _ _ _ _ (Nat.le_of_ble_eq_true rfl) (Nat.le_of_ble_eq_true rfl) ⟨Or.inr ⟨1, by decide, by simp [cdUndo, hm0], hX_19⟩, hf_18⟩ dX4_undo_24
set_option maxHeartbeats 4000000 in
set_option maxRecDepth 100000 in
theorem c_X4_append {g : kG} {l : Launch} {u : Nat → va_E} {th rm sp wr : Int32} {hs : Int64} {VA RD CH WE : Nat → Int32} {n m t : Nat} {B : kB} {S : Nat → kS} {C : Nat → Int32} {x : Int32} (h : MdX g u th rm sp wr hs VA RD CH WE n B m S t C)  : CI g l yX4_append wsX4_append ({ frames := 1, cells := 0, slots := 0, locals := 22 }) [.ref (g.2.1 61), .int x] u (fun r u' => ((cdAppend t x = 0 ∧ r = nI (t + 1) ∧ MdX g u' 0 rm sp wr hs VA RD CH WE n B m S (t + 1) (upd C t x)) ∨ (∃ c, 0 < c ∧ cdAppend t x = c ∧ MdX g u' (nI c) rm sp wr hs VA RD CH WE n B m S t C)) ∧ ∀ j, ¬ (61 ≤ j ∧ j < 69) → u' j = u j) := by
  refine CI.of (cc := cX4_append) (nL := 2) (ty := .int) (by decide +kernel) rfl (fun _ _ _ => rfl) (Nat.le_of_ble_eq_true rfl) ?_
  intro X hXl F hret
  subst hXl
  have hinX4 : ∀ w ∈ wsX40, w ∈ wsX4_append := by decide +kernel
  obtain ⟨Z, SV, BF, hL, hZ, hSV, hBF, hn16, hm6, ht60⟩ := id h
  show VL g X 0 0 u 0 [(0, .ref (g.2.1 61)), (1, .int x)] []
  refine r_aload_n F 0 rfl dX4_append_0 ?_
  refine r_iload_n F 1 rfl dX4_append_1 ?_
  refine r_bipush (v := 33) F (by decide) dX4_append_2 ?_
  refine r_bipush (v := 126) F (by decide) dX4_append_4 ?_
  refine r_calli (g_S (nA := 3) (As := [.int x, .int 33, .int 126]) (rest := [.ref (g.2.1 61)]) F (c_X4_in) gX4_append_X4_in rfl (by decide +kernel) rfl ⟨Nat.le_of_ble_eq_true rfl, Nat.le_of_ble_eq_true rfl⟩ ⟨Nat.le_of_ble_eq_true rfl, Nat.le_of_ble_eq_true rfl⟩ rfl (Nat.le_of_ble_eq_true rfl) dX4_append_6) (fun r_1 u_1 hp_1 => ?_)
  obtain ⟨rfl, rfl⟩ := hp_1
  refine r_if_ne F 16 (by decide) dX4_append_9 (fun c_9_2 => ?_) (fun c_9_2 => ?_)
  · skip
    replace c_9_2 := bI1 c_9_2
    refine r_aload_n F 0 rfl dX4_append_16 ?_
    refine r_get (C := RX4) (T := TX4) (N := 14) F 61 hL.1 (by decide) hinX4 rfl 5 (by decide) (by decide +kernel) rfl dX4_append_17 ?_
    refine r_bipush (v := 60) F (by decide) dX4_append_20 ?_
    refine r_icmp_ne F 29 (by decide) dX4_append_22 (fun c_22_3 => ?_) (fun c_22_3 => ?_)
    · skip
      have ht60b : t < 60 := by have z : ¬ t = 60 := fun q => c_22_3 (by rw [q]; rfl); omega
      refine r_iconst (v := 0) F (by decide) dX4_append_29 ?_
      refine r_put (C := RX4) (T := TX4) (N := 14) (ty := .int) F 61 hL.1 (by decide) hinX4 tyX4 tyX4_ok nmX4 rfl 0 (by decide) (by decide +kernel) rfl (by decide +kernel) rfl rfl (Nat.le_of_ble_eq_true rfl) dX4_append_30 (fun u_4 hu_4 => ?_)
      have hL_5 := hL.num (th' := 0) (sm' := nI m) (ty' := nI t) (rm' := rm) (sp' := sp) (wr' := wr) (hs' := hs)
      replace hL_5 : MdL g u_4 0 (nI m) (nI t) rm sp wr hs Z SV BF VA RD CH WE := by rw [hu_4]; exact hL_5
      have hf_6 : ∀ j, ¬ (61 ≤ j ∧ j < 69) → u_4 j = u j := (fun j hj => by rw [hu_4]; exact vne (by omega))
      have hX_7 : MdX g u_4 0 rm sp wr hs VA RD CH WE n B m S t C := ⟨_, _, _, hL_5, hZ, hSV, hBF, hn16, hm6, ht60⟩
      refine r_aload_n F 0 rfl dX4_append_33 ?_
      refine r_get (C := RX4) (T := TX4) (N := 14) F 61 hL_5.1 (by decide) hinX4 rfl 0 (by decide) (by decide +kernel) rfl dX4_append_34 ?_
      refine r_if_le F 42 (by decide) dX4_append_37 (fun c_37_8 => ?_) (fun c_37_8 => absurd c_37_8 (by decide))
      clear c_37_8
      refine r_aload_n F 0 rfl dX4_append_42 ?_
      refine r_get (C := RX4) (T := TX4) (N := 14) F 61 hL_5.1 (by decide) hinX4 rfl 4 (by decide) (by decide +kernel) rfl dX4_append_43 ?_
      refine r_aload_n F 0 rfl dX4_append_46 ?_
      refine r_get (C := RX4) (T := TX4) (N := 14) F 61 hL_5.1 (by decide) hinX4 rfl 5 (by decide) (by decide +kernel) rfl dX4_append_47 ?_
      refine r_iload_n F 1 rfl dX4_append_50 ?_
      refine r_iast F 64 hL_5.2.2.2.1 (by decide) (vp_in_nI (by omega) (by decide)) dX4_append_51 (fun u_9 hu_9 => ?_)
      have hL_10 := hL_5.upB (Z' := upd BF t x)
      rw [nI_clamp (by omega)] at hu_9
      rw [← hu_9] at hL_10
      have hf_11 : ∀ j, ¬ (61 ≤ j ∧ j < 69) → u_9 j = u j := fun j hj => (show u_9 j = u_4 j from (fun j hj => by rw [hu_9]; exact vne (by omega)) j hj).trans (hf_6 j hj)
      refine r_aload_n F 0 rfl dX4_append_52 ?_
      refine r_dup F rfl dX4_append_53 ?_
      refine r_get (C := RX4) (T := TX4) (N := 14) F 61 hL_10.1 (by decide) hinX4 rfl 5 (by decide) (by decide +kernel) rfl dX4_append_54 ?_
      refine r_iconst (v := 1) F (by decide) dX4_append_57 ?_
      refine r_iadd F dX4_append_58 ?_
      refine r_put (C := RX4) (T := TX4) (N := 14) (ty := .int) F 61 hL_10.1 (by decide) hinX4 tyX4 tyX4_ok nmX4 rfl 5 (by decide) (by decide +kernel) rfl (by decide +kernel) rfl rfl (Nat.le_of_ble_eq_true rfl) dX4_append_59 (fun u_12 hu_12 => ?_)
      rw [nI_1] at hu_12
      have hL_13 := hL_10.num (th' := 0) (sm' := nI m) (ty' := nI (t + 1)) (rm' := rm) (sp' := sp) (wr' := wr) (hs' := hs)
      replace hL_13 : MdL g u_12 0 (nI m) (nI (t + 1)) rm sp wr hs Z SV (upd BF t x) VA RD CH WE := by rw [hu_12]; exact hL_13
      have hf_14 : ∀ j, ¬ (61 ≤ j ∧ j < 69) → u_12 j = u j := fun j hj => (show u_12 j = u_9 j from (fun j hj => by rw [hu_12]; exact vne (by omega)) j hj).trans (hf_11 j hj)
      refine r_aload_n F 0 rfl dX4_append_62 ?_
      refine r_get (C := RX4) (T := TX4) (N := 14) F 61 hL_13.1 (by decide) hinX4 rfl 5 (by decide) (by decide +kernel) rfl dX4_append_63 ?_
      exact hret _ _ _ _ _ _ (Nat.le_of_ble_eq_true rfl) (Nat.le_of_ble_eq_true rfl) ⟨Or.inl ⟨by simp [cdAppend, c_9_2, c_22_3, ht60b], rfl, ⟨_, _, _, hL_13, hZ, hSV, BF_up hBF, hn16, hm6, by omega⟩⟩, hf_14⟩ dX4_append_66
    · skip
      have ht60b : ¬ t < 60 := fun q => by have z := (nI_eq (b := 60) (by omega) (by decide)).mp c_22_3; omega
      refine r_iconst (v := 2) F (by decide) dX4_append_25 ?_
      refine r_goto F 30 (by decide) dX4_append_26 ?_
      refine r_put (C := RX4) (T := TX4) (N := 14) (ty := .int) F 61 hL.1 (by decide) hinX4 tyX4 tyX4_ok nmX4 rfl 0 (by decide) (by decide +kernel) rfl (by decide +kernel) rfl rfl (Nat.le_of_ble_eq_true rfl) dX4_append_30 (fun u_15 hu_15 => ?_)
      have hL_16 := hL.num (th' := 2) (sm' := nI m) (ty' := nI t) (rm' := rm) (sp' := sp) (wr' := wr) (hs' := hs)
      replace hL_16 : MdL g u_15 2 (nI m) (nI t) rm sp wr hs Z SV BF VA RD CH WE := by rw [hu_15]; exact hL_16
      have hf_17 : ∀ j, ¬ (61 ≤ j ∧ j < 69) → u_15 j = u j := (fun j hj => by rw [hu_15]; exact vne (by omega))
      have hX_18 : MdX g u_15 2 rm sp wr hs VA RD CH WE n B m S t C := ⟨_, _, _, hL_16, hZ, hSV, hBF, hn16, hm6, ht60⟩
      refine r_aload_n F 0 rfl dX4_append_33 ?_
      refine r_get (C := RX4) (T := TX4) (N := 14) F 61 hL_16.1 (by decide) hinX4 rfl 0 (by decide) (by decide +kernel) rfl dX4_append_34 ?_
      refine r_if_le F 42 (by decide) dX4_append_37 (fun c_37_19 => absurd c_37_19 (by decide)) (fun c_37_19 => ?_)
      clear c_37_19
      refine r_iconst (v := 0) F (by decide) dX4_append_40 ?_
      exact hret _ _ _ _ _ _ (Nat.le_of_ble_eq_true rfl) (Nat.le_of_ble_eq_true rfl) ⟨Or.inr ⟨2, by decide, by simp [cdAppend, c_9_2, c_22_3, ht60b], hX_18⟩, hf_17⟩ dX4_append_41
  · skip
    replace c_9_2 := bI0 c_9_2
    refine r_iconst (v := 1) F (by decide) dX4_append_12 ?_
    refine r_goto F 30 (by decide) dX4_append_13 ?_
    refine r_put (C := RX4) (T := TX4) (N := 14) (ty := .int) F 61 hL.1 (by decide) hinX4 tyX4 tyX4_ok nmX4 rfl 0 (by decide) (by decide +kernel) rfl (by decide +kernel) rfl rfl (Nat.le_of_ble_eq_true rfl) dX4_append_30 (fun u_20 hu_20 => ?_)
    have hL_21 := hL.num (th' := 1) (sm' := nI m) (ty' := nI t) (rm' := rm) (sp' := sp) (wr' := wr) (hs' := hs)
    replace hL_21 : MdL g u_20 1 (nI m) (nI t) rm sp wr hs Z SV BF VA RD CH WE := by rw [hu_20]; exact hL_21
    have hf_22 : ∀ j, ¬ (61 ≤ j ∧ j < 69) → u_20 j = u j := (fun j hj => by rw [hu_20]; exact vne (by omega))
    have hX_23 : MdX g u_20 1 rm sp wr hs VA RD CH WE n B m S t C := ⟨_, _, _, hL_21, hZ, hSV, hBF, hn16, hm6, ht60⟩
    refine r_aload_n F 0 rfl dX4_append_33 ?_
    refine r_get (C := RX4) (T := TX4) (N := 14) F 61 hL_21.1 (by decide) hinX4 rfl 0 (by decide) (by decide +kernel) rfl dX4_append_34 ?_
    refine r_if_le F 42 (by decide) dX4_append_37 (fun c_37_24 => absurd c_37_24 (by decide)) (fun c_37_24 => ?_)
    clear c_37_24
    refine r_iconst (v := 0) F (by decide) dX4_append_40 ?_
    exact hret _ _ _ _ _ _ (Nat.le_of_ble_eq_true rfl) (Nat.le_of_ble_eq_true rfl) ⟨Or.inr ⟨1, by decide, by simp [cdAppend, c_9_2], hX_23⟩, hf_22⟩ dX4_append_41
set_option maxHeartbeats 4000000 in
set_option maxRecDepth 100000 in
theorem c_X4_clearBuffer {g : kG} {l : Launch} {u : Nat → va_E} {th rm sp wr : Int32} {hs : Int64} {VA RD CH WE : Nat → Int32} {n m t : Nat} {B : kB} {S : Nat → kS} {C : Nat → Int32}  (h : MdX g u th rm sp wr hs VA RD CH WE n B m S t C)  : CI g l yX4_clearBuffer wsX4_clearBuffer ({ frames := 0, cells := 0, slots := 0, locals := 0 }) [.ref (g.2.1 61)] u (fun r u' => r = nI t ∧ MdX g u' 0 rm sp wr hs VA RD CH WE n B m S 0 C ∧ ∀ j, ¬ (61 ≤ j ∧ j < 69) → u' j = u j) := by
  refine CI.of (cc := cX4_clearBuffer) (nL := 2) (ty := .int) (by decide +kernel) rfl (fun _ _ _ => rfl) (Nat.le_of_ble_eq_true rfl) ?_
  intro X hXl F hret
  subst hXl
  have hinX4 : ∀ w ∈ wsX40, w ∈ wsX4_clearBuffer := by decide +kernel
  obtain ⟨Z, SV, BF, hL, hZ, hSV, hBF, hn16, hm6, ht60⟩ := id h
  show VL g X 0 0 u 0 [(0, .ref (g.2.1 61))] []
  refine r_aload_n F 0 rfl dX4_clearBuffer_0 ?_
  refine r_iconst (v := 0) F (by decide) dX4_clearBuffer_1 ?_
  refine r_put (C := RX4) (T := TX4) (N := 14) (ty := .int) F 61 hL.1 (by decide) hinX4 tyX4 tyX4_ok nmX4 rfl 0 (by decide) (by decide +kernel) rfl (by decide +kernel) rfl rfl (Nat.le_of_ble_eq_true rfl) dX4_clearBuffer_2 (fun u_1 hu_1 => ?_)
  have hL_2 := hL.num (th' := 0) (sm' := nI m) (ty' := nI t) (rm' := rm) (sp' := sp) (wr' := wr) (hs' := hs)
  replace hL_2 : MdL g u_1 0 (nI m) (nI t) rm sp wr hs Z SV BF VA RD CH WE := by rw [hu_1]; exact hL_2
  have hf_3 : ∀ j, ¬ (61 ≤ j ∧ j < 69) → u_1 j = u j := (fun j hj => by rw [hu_1]; exact vne (by omega))
  have hX_4 : MdX g u_1 0 rm sp wr hs VA RD CH WE n B m S t C := ⟨_, _, _, hL_2, hZ, hSV, hBF, hn16, hm6, ht60⟩
  refine r_aload_n F 0 rfl dX4_clearBuffer_5 ?_
  refine r_get (C := RX4) (T := TX4) (N := 14) F 61 hL_2.1 (by decide) hinX4 rfl 5 (by decide) (by decide +kernel) rfl dX4_clearBuffer_6 ?_
  refine r_istore_n (lv' := [(0, .ref (g.2.1 61)), (1, .int (nI t))]) F (by decide) rfl dX4_clearBuffer_9 ?_
  refine r_aload_n F 0 rfl dX4_clearBuffer_10 ?_
  refine r_iconst (v := 0) F (by decide) dX4_clearBuffer_11 ?_
  refine r_put (C := RX4) (T := TX4) (N := 14) (ty := .int) F 61 hL_2.1 (by decide) hinX4 tyX4 tyX4_ok nmX4 rfl 5 (by decide) (by decide +kernel) rfl (by decide +kernel) rfl rfl (Nat.le_of_ble_eq_true rfl) dX4_clearBuffer_12 (fun u_5 hu_5 => ?_)
  have hL_6 := hL_2.num (th' := 0) (sm' := nI m) (ty' := 0) (rm' := rm) (sp' := sp) (wr' := wr) (hs' := hs)
  replace hL_6 : MdL g u_5 0 (nI m) 0 rm sp wr hs Z SV BF VA RD CH WE := by rw [hu_5]; exact hL_6
  have hf_7 : ∀ j, ¬ (61 ≤ j ∧ j < 69) → u_5 j = u j := fun j hj => (show u_5 j = u_1 j from (fun j hj => by rw [hu_5]; exact vne (by omega)) j hj).trans (hf_3 j hj)
  refine r_iload_n F 1 rfl dX4_clearBuffer_15 ?_
  exact hret _ _ _ _ _ _ (Nat.le_of_ble_eq_true rfl) (Nat.le_of_ble_eq_true rfl) ⟨rfl, ⟨_, _, _, hL_6, hZ, hSV, fun j hj => absurd hj (by omega), hn16, hm6, by omega⟩, hf_7⟩ dX4_clearBuffer_16
set_option maxHeartbeats 4000000 in
set_option maxRecDepth 100000 in
theorem c_X4_bits {g : kG} {l : Launch} {u : Nat → va_E} {mask : Int32}  : CI g l yX4_bits wsX4_bits ({ frames := 0, cells := 0, slots := 0, locals := 0 }) [.int mask] u (fun r u' => r = bitsN mask 5 ∧ u = u') := by
  refine CI.of (cc := cX4_bits) (nL := 3) (ty := .int) (by decide +kernel) rfl (fun _ _ _ => rfl) (Nat.le_of_ble_eq_true rfl) ?_
  intro X hXl F hret
  subst hXl
  show VL g X 0 0 u 0 [(0, .int mask)] []
  refine r_iconst (v := 0) F (by decide) dX4_bits_0 ?_
  refine r_istore_n (lv' := [(0, .int mask), (1, .int 0)]) F (by decide) rfl dX4_bits_1 ?_
  refine r_iconst (v := 0) F (by decide) dX4_bits_2 ?_
  refine r_istore_n (lv' := [(0, .int mask), (1, .int 0), (2, .int 0)]) F (by decide) rfl dX4_bits_3 ?_
  have loop_4 : ∀ (k : Nat) (j : Nat) (x1_4 : Int32) (x2_4 : Int32), j + k = 5 → x1_4 = bitsN mask j → x2_4 = nI j → VL g X 0 0 u 4 [(0, .int mask), (1, .int x1_4), (2, .int x2_4)] [] := by
    intro k
    induction k with
    | zero =>
      rintro j x1_4 x2_4 hk rfl rfl
      have hjn : 5 = j := by omega
      subst hjn
      refine r_iload_n F 2 rfl dX4_bits_4 ?_
      refine r_iconst (v := 5) F (by decide) dX4_bits_5 ?_
      refine r_icmp_ge F 23 (by decide) dX4_bits_6 (fun c_6_2 => ?_) (fun c_6_2 => absurd (Int32.le_refl _) c_6_2)
      clear c_6_2
      refine r_iload_n F 1 rfl dX4_bits_23 ?_
      exact hret _ _ _ _ _ _ (Nat.le_of_ble_eq_true rfl) (Nat.le_of_ble_eq_true rfl) ⟨by rfl, rfl⟩ dX4_bits_24
    | succ k ih_4 =>
      rintro j x1_4 x2_4 hk rfl rfl
      have hb : j < 5 := by omega
      refine r_iload_n F 2 rfl dX4_bits_4 ?_
      refine r_iconst (v := 5) F (by decide) dX4_bits_5 ?_
      refine r_icmp_ge F 23 (by decide) dX4_bits_6 (fun c_6_3 => absurd c_6_3 (nI_ge (b := 5) hb (by decide))) (fun c_6_3 => ?_)
      clear c_6_3
      refine r_iload_n F 1 rfl dX4_bits_9 ?_
      refine r_iload_n F 0 rfl dX4_bits_10 ?_
      refine r_iload_n F 2 rfl dX4_bits_11 ?_
      refine r_ishr F dX4_bits_12 ?_
      refine r_iconst (v := 1) F (by decide) dX4_bits_13 ?_
      refine r_iand F dX4_bits_14 ?_
      refine r_iadd F dX4_bits_15 ?_
      refine r_istore_n (lv' := [(0, .int mask), (1, .int ((bitsN mask j) + ((mask >>> ((nI j) &&& 31)) &&& 1))), (2, .int (nI j))]) F (by decide) rfl dX4_bits_16 ?_
      refine r_iinc (lv' := [(0, .int mask), (1, .int ((bitsN mask j) + ((mask >>> ((nI j) &&& 31)) &&& 1))), (2, .int (nI (j + 1)))]) F 2 rfl (nI_inc _) (by decide) rfl dX4_bits_17 ?_
      refine r_goto F 4 (by decide) dX4_bits_20 ?_
      exact ih_4 (j + 1) _ _ (by omega)  rfl rfl
  exact loop_4 5 0 _ _ (by omega)  rfl rfl
set_option maxHeartbeats 4000000 in
set_option maxRecDepth 100000 in
theorem c_X4_carried {g : kG} {l : Launch} {u : Nat → va_E} {th rm sp wr : Int32} {hs : Int64} {VA RD CH WE : Nat → Int32} {n m t : Nat} {B : kB} {S : Nat → kS} {C : Nat → Int32} {b : Nat} (h : MdX g u th rm sp wr hs VA RD CH WE n B m S t C) (hb : b < n) : CI g l yX4_carried wsX4_carried ({ frames := 1, cells := 0, slots := 0, locals := 22 }) [.ref (g.2.1 61), .int (nI b)] u (fun r u' => r = bitC (carN B b n) ∧ u = u') := by
  refine CI.of (cc := cX4_carried) (nL := 5) (ty := .int) (by decide +kernel) rfl (fun _ _ _ => rfl) (Nat.le_of_ble_eq_true rfl) ?_
  intro X hXl F hret
  subst hXl
  have hinX4 : ∀ w ∈ wsX40, w ∈ wsX4_carried := by decide +kernel
  obtain ⟨Z, SV, BF, hL, hZ, hSV, hBF, hn16, hm6, ht60⟩ := id h
  show VL g X 0 0 u 0 [(0, .ref (g.2.1 61)), (1, .int (nI b))] []
  refine r_iconst (v := 1) F (by decide) dX4_carried_0 ?_
  refine r_iload_n F 1 rfl dX4_carried_1 ?_
  refine r_ishl F dX4_carried_2 ?_
  refine r_istore_n (lv' := [(0, .ref (g.2.1 61)), (1, .int (nI b)), (2, .int ((1 : Int32) <<< ((nI b) &&& 31)))]) F (by decide) rfl dX4_carried_3 ?_
  refine r_iconst (v := 0) F (by decide) dX4_carried_4 ?_
  refine r_istore_n (lv' := [(0, .ref (g.2.1 61)), (1, .int (nI b)), (2, .int ((1 : Int32) <<< ((nI b) &&& 31))), (3, .int 0)]) F (by decide) rfl dX4_carried_5 ?_
  refine r_iload_n F 1 rfl dX4_carried_6 ?_
  refine r_iconst (v := 1) F (by decide) dX4_carried_7 ?_
  refine r_iadd F dX4_carried_8 ?_
  refine r_eq (st2 := [.int (nI (b + 1))]) (by rw [nI_1]) rfl ?_
  refine r_istore (lv' := [(0, .ref (g.2.1 61)), (1, .int (nI b)), (2, .int ((1 : Int32) <<< ((nI b) &&& 31))), (3, .int 0), (4, .int (nI (b + 1)))]) F (by decide) rfl dX4_carried_9 ?_
  have loop_11 : ∀ (k : Nat) (j : Nat) (x2_11 : Int32) (x3_11 : Int32) (x4_11 : Int32), j + k = n → b + 1 ≤ j → x2_11 = crS B b j → x3_11 = crN B b j → x4_11 = nI j → VL g X 0 0 u 11 [(0, .ref (g.2.1 61)), (1, .int (nI b)), (2, .int x2_11), (3, .int x3_11), (4, .int x4_11)] [] := by
    intro k
    induction k with
    | zero =>
      rintro j x2_11 x3_11 x4_11 hk hj1 rfl rfl rfl
      have hjn : n = j := by omega
      subst hjn
      refine r_iload F 4 rfl dX4_carried_11 ?_
      refine r_aload_n F 0 rfl dX4_carried_13 ?_
      refine r_get (C := RX4) (T := TX4) (N := 14) F 61 hL.1 (by decide) hinX4 rfl 1 (by decide) (by decide +kernel) rfl dX4_carried_14 ?_
      refine r_iconst (v := 0) F (by decide) dX4_carried_17 ?_
      refine r_iald F 62 hL.2.1 (by decide) (vp_in_nI (n := 0) (by decide) (by decide)) dX4_carried_18 ?_
      refine r_eq (st2 := [.int (nI n), .int (nI n)]) (by rw [show Z (0 : Int32).toNatClampNeg = nI n from hZ.1]) rfl ?_
      refine r_icmp_ge F 61 (by decide) dX4_carried_19 (fun c_19_2 => ?_) (fun c_19_2 => absurd (Int32.le_refl _) c_19_2)
      clear c_19_2
      refine r_iload_n F 3 rfl dX4_carried_61 ?_
      exact hret _ _ _ _ _ _ (Nat.le_of_ble_eq_true rfl) (Nat.le_of_ble_eq_true rfl) ⟨by exact crN_bit (by omega) n hn16, rfl⟩ dX4_carried_62
    | succ k ih_11 =>
      rintro j x2_11 x3_11 x4_11 hk hj1 rfl rfl rfl
      have hbj : j < n := by omega
      refine r_iload F 4 rfl dX4_carried_11 ?_
      refine r_aload_n F 0 rfl dX4_carried_13 ?_
      refine r_get (C := RX4) (T := TX4) (N := 14) F 61 hL.1 (by decide) hinX4 rfl 1 (by decide) (by decide +kernel) rfl dX4_carried_14 ?_
      refine r_iconst (v := 0) F (by decide) dX4_carried_17 ?_
      refine r_iald F 62 hL.2.1 (by decide) (vp_in_nI (n := 0) (by decide) (by decide)) dX4_carried_18 ?_
      refine r_eq (st2 := [.int (nI n), .int (nI j)]) (by rw [show Z (0 : Int32).toNatClampNeg = nI n from hZ.1]) rfl ?_
      refine r_icmp_ge F 61 (by decide) dX4_carried_19 (fun c_19_3 => absurd c_19_3 (nI_ge (b := n) hbj (by have := hn16; omega))) (fun c_19_3 => ?_)
      clear c_19_3
      refine r_aload_n F 0 rfl dX4_carried_22 ?_
      refine r_iload F 4 rfl dX4_carried_23 ?_
      refine r_iconst (v := 0) F (by decide) dX4_carried_25 ?_
      refine r_calli (g_V (C := RX4) (T := TX4) (N := 14) (nA := 2) (As := [.int (nI j), .int 0]) (rest := []) F 61 hL.1 (by decide) rfl (c_X4_of h hbj (w := 0) (by decide)) gX4_carried_X4_of rfl (by decide +kernel) rfl ⟨Nat.le_of_ble_eq_true rfl, Nat.le_of_ble_eq_true rfl⟩ ⟨Nat.le_of_ble_eq_true rfl, Nat.le_of_ble_eq_true rfl⟩ rfl (Nat.le_of_ble_eq_true rfl) dX4_carried_26) (fun r_4 u_4 hp_4 => ?_)
      obtain ⟨rfl, rfl⟩ := hp_4
      refine r_iconst (v := 3) F (by decide) dX4_carried_29 ?_
      refine r_icmp_ne F 55 (by decide) dX4_carried_30 (fun c_30_5 => ?_) (fun c_30_5 => ?_)
      · skip
        refine r_iinc (lv' := [(0, .ref (g.2.1 61)), (1, .int (nI b)), (2, .int (crS B b j)), (3, .int (crN B b j)), (4, .int (nI (j + 1)))]) F 4 rfl (nI_inc _) (by decide) rfl dX4_carried_55 ?_
        refine r_goto F 11 (by decide) dX4_carried_58 ?_
        exact ih_11 (j + 1) _ _ _ (by omega) (by omega) (by simp [crS, show ¬ j ≤ b by omega, c_30_5]) (by simp [crN, show ¬ j ≤ b by omega, c_30_5]) rfl
      · skip
        refine r_aload_n F 0 rfl dX4_carried_33 ?_
        refine r_iload F 4 rfl dX4_carried_34 ?_
        refine r_iconst (v := 2) F (by decide) dX4_carried_36 ?_
        refine r_calli (g_V (C := RX4) (T := TX4) (N := 14) (nA := 2) (As := [.int (nI j), .int 2]) (rest := []) F 61 hL.1 (by decide) rfl (c_X4_of h hbj (w := 2) (by decide)) gX4_carried_X4_of rfl (by decide +kernel) rfl ⟨Nat.le_of_ble_eq_true rfl, Nat.le_of_ble_eq_true rfl⟩ ⟨Nat.le_of_ble_eq_true rfl, Nat.le_of_ble_eq_true rfl⟩ rfl (Nat.le_of_ble_eq_true rfl) dX4_carried_37) (fun r_6 u_6 hp_6 => ?_)
        obtain ⟨rfl, rfl⟩ := hp_6
        refine r_iload_n F 2 rfl dX4_carried_40 ?_
        refine r_iand F dX4_carried_41 ?_
        refine r_if_eq F 55 (by decide) dX4_carried_42 (fun c_42_7 => ?_) (fun c_42_7 => ?_)
        · skip
          refine r_iinc (lv' := [(0, .ref (g.2.1 61)), (1, .int (nI b)), (2, .int (crS B b j)), (3, .int (crN B b j)), (4, .int (nI (j + 1)))]) F 4 rfl (nI_inc _) (by decide) rfl dX4_carried_55 ?_
          refine r_goto F 11 (by decide) dX4_carried_58 ?_
          exact ih_11 (j + 1) _ _ _ (by omega) (by omega) (by simp [crS, show ¬ j ≤ b by omega, c_30_5, c_42_7]) (by simp [crN, show ¬ j ≤ b by omega, c_30_5, c_42_7]) rfl
        · skip
          refine r_iload_n F 2 rfl dX4_carried_45 ?_
          refine r_iconst (v := 1) F (by decide) dX4_carried_46 ?_
          refine r_iload F 4 rfl dX4_carried_47 ?_
          refine r_ishl F dX4_carried_49 ?_
          refine r_ior F dX4_carried_50 ?_
          refine r_istore_n (lv' := [(0, .ref (g.2.1 61)), (1, .int (nI b)), (2, .int ((crS B b j) ||| ((1 : Int32) <<< ((nI j) &&& 31)))), (3, .int (crN B b j)), (4, .int (nI j))]) F (by decide) rfl dX4_carried_51 ?_
          refine r_iinc (lv' := [(0, .ref (g.2.1 61)), (1, .int (nI b)), (2, .int ((crS B b j) ||| ((1 : Int32) <<< ((nI j) &&& 31)))), (3, .int ((crN B b j) + 1)), (4, .int (nI j))]) F 3 rfl rfl (by decide) rfl dX4_carried_52 ?_
          refine r_iinc (lv' := [(0, .ref (g.2.1 61)), (1, .int (nI b)), (2, .int ((crS B b j) ||| ((1 : Int32) <<< ((nI j) &&& 31)))), (3, .int ((crN B b j) + 1)), (4, .int (nI (j + 1)))]) F 4 rfl (nI_inc _) (by decide) rfl dX4_carried_55 ?_
          refine r_goto F 11 (by decide) dX4_carried_58 ?_
          exact ih_11 (j + 1) _ _ _ (by omega) (by omega) (by simp [crS, show ¬ j ≤ b by omega, c_30_5, c_42_7]) (by simp [crN, show ¬ j ≤ b by omega, c_30_5, c_42_7]) rfl
  exact loop_11 (n - ((b + 1))) (b + 1) _ _ _ (by omega) (by omega) crS_0.symm crN_0.symm rfl
set_option maxHeartbeats 4000000 in
set_option maxRecDepth 100000 in
theorem c_X4_carriedMost {g : kG} {l : Launch} {u : Nat → va_E} {th rm sp wr : Int32} {hs : Int64} {VA RD CH WE : Nat → Int32} {n m t : Nat} {B : kB} {S : Nat → kS} {C : Nat → Int32}  (h : MdX g u th rm sp wr hs VA RD CH WE n B m S t C)  : CI g l yX4_carriedMost wsX4_carriedMost ({ frames := 2, cells := 0, slots := 0, locals := 46 }) [.ref (g.2.1 61)] u (fun r u' => r = mcB B n n ∧ u = u') := by
  refine CI.of (cc := cX4_carriedMost) (nL := 5) (ty := .int) (by decide +kernel) rfl (fun _ _ _ => rfl) (Nat.le_of_ble_eq_true rfl) ?_
  intro X hXl F hret
  subst hXl
  have hinX4 : ∀ w ∈ wsX40, w ∈ wsX4_carriedMost := by decide +kernel
  obtain ⟨Z, SV, BF, hL, hZ, hSV, hBF, hn16, hm6, ht60⟩ := id h
  show VL g X 0 0 u 0 [(0, .ref (g.2.1 61))] []
  refine r_iconst (v := -1) F (by decide) dX4_carriedMost_0 ?_
  refine r_istore_n (lv' := [(0, .ref (g.2.1 61)), (1, .int (-1))]) F (by decide) rfl dX4_carriedMost_1 ?_
  refine r_iconst (v := 0) F (by decide) dX4_carriedMost_2 ?_
  refine r_istore_n (lv' := [(0, .ref (g.2.1 61)), (1, .int (-1)), (2, .int 0)]) F (by decide) rfl dX4_carriedMost_3 ?_
  refine r_iconst (v := 0) F (by decide) dX4_carriedMost_4 ?_
  refine r_istore_n (lv' := [(0, .ref (g.2.1 61)), (1, .int (-1)), (2, .int 0), (3, .int 0)]) F (by decide) rfl dX4_carriedMost_5 ?_
  have loop_6 : ∀ (k : Nat) (j : Nat) (x1_6 : Int32) (x2_6 : Int32) (x3_6 : Int32), j + k = n → x1_6 = mcB B n j → x2_6 = mcM B n j → x3_6 = nI j → VL g X 0 0 u 6 [(0, .ref (g.2.1 61)), (1, .int x1_6), (2, .int x2_6), (3, .int x3_6)] [] := by
    intro k
    induction k with
    | zero =>
      rintro j x1_6 x2_6 x3_6 hk rfl rfl rfl
      have hjn : n = j := by omega
      subst hjn
      refine r_iload_n F 3 rfl dX4_carriedMost_6 ?_
      refine r_aload_n F 0 rfl dX4_carriedMost_7 ?_
      refine r_get (C := RX4) (T := TX4) (N := 14) F 61 hL.1 (by decide) hinX4 rfl 1 (by decide) (by decide +kernel) rfl dX4_carriedMost_8 ?_
      refine r_iconst (v := 0) F (by decide) dX4_carriedMost_11 ?_
      refine r_iald F 62 hL.2.1 (by decide) (vp_in_nI (n := 0) (by decide) (by decide)) dX4_carriedMost_12 ?_
      refine r_eq (st2 := [.int (nI n), .int (nI n)]) (by rw [show Z (0 : Int32).toNatClampNeg = nI n from hZ.1]) rfl ?_
      refine r_icmp_ge F 54 (by decide) dX4_carriedMost_13 (fun c_13_2 => ?_) (fun c_13_2 => absurd (Int32.le_refl _) c_13_2)
      clear c_13_2
      refine r_iload_n F 1 rfl dX4_carriedMost_54 ?_
      exact hret _ _ _ _ _ _ (Nat.le_of_ble_eq_true rfl) (Nat.le_of_ble_eq_true rfl) ⟨by rfl, rfl⟩ dX4_carriedMost_55
    | succ k ih_6 =>
      rintro j x1_6 x2_6 x3_6 hk rfl rfl rfl
      have hb : j < n := by omega
      refine r_iload_n F 3 rfl dX4_carriedMost_6 ?_
      refine r_aload_n F 0 rfl dX4_carriedMost_7 ?_
      refine r_get (C := RX4) (T := TX4) (N := 14) F 61 hL.1 (by decide) hinX4 rfl 1 (by decide) (by decide +kernel) rfl dX4_carriedMost_8 ?_
      refine r_iconst (v := 0) F (by decide) dX4_carriedMost_11 ?_
      refine r_iald F 62 hL.2.1 (by decide) (vp_in_nI (n := 0) (by decide) (by decide)) dX4_carriedMost_12 ?_
      refine r_eq (st2 := [.int (nI n), .int (nI j)]) (by rw [show Z (0 : Int32).toNatClampNeg = nI n from hZ.1]) rfl ?_
      refine r_icmp_ge F 54 (by decide) dX4_carriedMost_13 (fun c_13_3 => absurd c_13_3 (nI_ge (b := n) hb (by have := hn16; omega))) (fun c_13_3 => ?_)
      clear c_13_3
      refine r_aload_n F 0 rfl dX4_carriedMost_16 ?_
      refine r_iload_n F 3 rfl dX4_carriedMost_17 ?_
      refine r_calli (g_V (C := RX4) (T := TX4) (N := 14) (nA := 1) (As := [.int (nI j)]) (rest := []) F 61 hL.1 (by decide) rfl (c_X4_carried h hb) gX4_carriedMost_X4_carried rfl (by decide +kernel) rfl ⟨Nat.le_of_ble_eq_true rfl, Nat.le_of_ble_eq_true rfl⟩ ⟨Nat.le_of_ble_eq_true rfl, Nat.le_of_ble_eq_true rfl⟩ rfl (Nat.le_of_ble_eq_true rfl) dX4_carriedMost_18) (fun r_4 u_4 hp_4 => ?_)
      obtain ⟨rfl, rfl⟩ := hp_4
      refine r_istore (lv' := [(0, .ref (g.2.1 61)), (1, .int (mcB B n j)), (2, .int (mcM B n j)), (3, .int (nI j)), (4, .int (bitC (carN B j n)))]) F (by decide) rfl dX4_carriedMost_21 ?_
      refine r_iload F 4 rfl dX4_carriedMost_23 ?_
      refine r_iload_n F 2 rfl dX4_carriedMost_25 ?_
      refine r_icmp_le F 33 (by decide) dX4_carriedMost_26 (fun c_26_5 => ?_) (fun c_26_5 => ?_)
      · skip
        have hq_c_26_5 : ¬ mcM B n j < bitC (carN B j n) := Int32.not_lt.mpr c_26_5
        refine r_iload_n F 1 rfl dX4_carriedMost_33 ?_
        refine r_istore_n (lv' := [(0, .ref (g.2.1 61)), (1, .int (mcB B n j)), (2, .int (mcM B n j)), (3, .int (nI j)), (4, .int (bitC (carN B j n)))]) F (by decide) rfl dX4_carriedMost_34 ?_
        refine r_iload F 4 rfl dX4_carriedMost_35 ?_
        refine r_iload_n F 2 rfl dX4_carriedMost_37 ?_
        refine r_icmp_le F 46 (by decide) dX4_carriedMost_38 (fun c_38_6 => ?_) (fun c_38_6 => absurd c_26_5 c_38_6)
        clear c_38_6
        refine r_iload_n F 2 rfl dX4_carriedMost_46 ?_
        refine r_istore_n (lv' := [(0, .ref (g.2.1 61)), (1, .int (mcB B n j)), (2, .int (mcM B n j)), (3, .int (nI j)), (4, .int (bitC (carN B j n)))]) F (by decide) rfl dX4_carriedMost_47 ?_
        refine r_iinc (lv' := [(0, .ref (g.2.1 61)), (1, .int (mcB B n j)), (2, .int (mcM B n j)), (3, .int (nI (j + 1))), (4, .int (bitC (carN B j n)))]) F 3 rfl (nI_inc _) (by decide) rfl dX4_carriedMost_48 ?_
        refine r_goto F 6 (by decide) dX4_carriedMost_51 ?_
        refine r_lv (lv2 := [(0, .ref (g.2.1 61)), (1, .int (mcB B n j)), (2, .int (mcM B n j)), (3, .int (nI (j + 1)))]) (by simp) ?_
        exact ih_6 (j + 1) _ _ _ (by omega)  (by simp [mcB, hq_c_26_5]) (by simp [mcM, hq_c_26_5]) rfl
      · skip
        have hq_c_26_5 : mcM B n j < bitC (carN B j n) := Int32.not_le.mp c_26_5
        refine r_iload_n F 3 rfl dX4_carriedMost_29 ?_
        refine r_goto F 34 (by decide) dX4_carriedMost_30 ?_
        refine r_istore_n (lv' := [(0, .ref (g.2.1 61)), (1, .int (nI j)), (2, .int (mcM B n j)), (3, .int (nI j)), (4, .int (bitC (carN B j n)))]) F (by decide) rfl dX4_carriedMost_34 ?_
        refine r_iload F 4 rfl dX4_carriedMost_35 ?_
        refine r_iload_n F 2 rfl dX4_carriedMost_37 ?_
        refine r_icmp_le F 46 (by decide) dX4_carriedMost_38 (fun c_38_7 => absurd c_38_7 c_26_5) (fun c_38_7 => ?_)
        clear c_38_7
        refine r_iload F 4 rfl dX4_carriedMost_41 ?_
        refine r_goto F 47 (by decide) dX4_carriedMost_43 ?_
        refine r_istore_n (lv' := [(0, .ref (g.2.1 61)), (1, .int (nI j)), (2, .int (bitC (carN B j n))), (3, .int (nI j)), (4, .int (bitC (carN B j n)))]) F (by decide) rfl dX4_carriedMost_47 ?_
        refine r_iinc (lv' := [(0, .ref (g.2.1 61)), (1, .int (nI j)), (2, .int (bitC (carN B j n))), (3, .int (nI (j + 1))), (4, .int (bitC (carN B j n)))]) F 3 rfl (nI_inc _) (by decide) rfl dX4_carriedMost_48 ?_
        refine r_goto F 6 (by decide) dX4_carriedMost_51 ?_
        refine r_lv (lv2 := [(0, .ref (g.2.1 61)), (1, .int (nI j)), (2, .int (bitC (carN B j n))), (3, .int (nI (j + 1)))]) (by simp) ?_
        exact ih_6 (j + 1) _ _ _ (by omega)  (by simp [mcB, hq_c_26_5]) (by simp [mcM, hq_c_26_5]) rfl
  exact loop_6 n 0 _ _ _ (by omega)  rfl rfl rfl
set_option maxHeartbeats 4000000 in
set_option maxRecDepth 100000 in
theorem c_X4_mostCarried {g : kG} {l : Launch} {u : Nat → va_E} {th rm sp wr : Int32} {hs : Int64} {VA RD CH WE : Nat → Int32} {n m t : Nat} {B : kB} {S : Nat → kS} {C : Nat → Int32}  (h : MdX g u th rm sp wr hs VA RD CH WE n B m S t C)  : CI g l yX4_mostCarried wsX4_mostCarried ({ frames := 3, cells := 0, slots := 0, locals := 70 }) [.ref (g.2.1 61)] u (fun r u' => r = mcB B n n ∧ MdX g u' 0 rm sp wr hs VA RD CH WE n B m S t C ∧ ∀ j, ¬ (61 ≤ j ∧ j < 69) → u' j = u j) := by
  refine CI.of (cc := cX4_mostCarried) (nL := 1) (ty := .int) (by decide +kernel) rfl (fun _ _ _ => rfl) (Nat.le_of_ble_eq_true rfl) ?_
  intro X hXl F hret
  subst hXl
  have hinX4 : ∀ w ∈ wsX40, w ∈ wsX4_mostCarried := by decide +kernel
  obtain ⟨Z, SV, BF, hL, hZ, hSV, hBF, hn16, hm6, ht60⟩ := id h
  show VL g X 0 0 u 0 [(0, .ref (g.2.1 61))] []
  refine r_aload_n F 0 rfl dX4_mostCarried_0 ?_
  refine r_iconst (v := 0) F (by decide) dX4_mostCarried_1 ?_
  refine r_put (C := RX4) (T := TX4) (N := 14) (ty := .int) F 61 hL.1 (by decide) hinX4 tyX4 tyX4_ok nmX4 rfl 0 (by decide) (by decide +kernel) rfl (by decide +kernel) rfl rfl (Nat.le_of_ble_eq_true rfl) dX4_mostCarried_2 (fun u_1 hu_1 => ?_)
  have hL_2 := hL.num (th' := 0) (sm' := nI m) (ty' := nI t) (rm' := rm) (sp' := sp) (wr' := wr) (hs' := hs)
  replace hL_2 : MdL g u_1 0 (nI m) (nI t) rm sp wr hs Z SV BF VA RD CH WE := by rw [hu_1]; exact hL_2
  have hf_3 : ∀ j, ¬ (61 ≤ j ∧ j < 69) → u_1 j = u j := (fun j hj => by rw [hu_1]; exact vne (by omega))
  have hX_4 : MdX g u_1 0 rm sp wr hs VA RD CH WE n B m S t C := ⟨_, _, _, hL_2, hZ, hSV, hBF, hn16, hm6, ht60⟩
  refine r_aload_n F 0 rfl dX4_mostCarried_5 ?_
  refine r_calli (g_V (C := RX4) (T := TX4) (N := 14) (nA := 0) (As := []) (rest := []) F 61 hL_2.1 (by decide) rfl (c_X4_carriedMost hX_4 ) gX4_mostCarried_X4_carriedMost rfl (by decide +kernel) rfl ⟨Nat.le_of_ble_eq_true rfl, Nat.le_of_ble_eq_true rfl⟩ ⟨Nat.le_of_ble_eq_true rfl, Nat.le_of_ble_eq_true rfl⟩ rfl (Nat.le_of_ble_eq_true rfl) dX4_mostCarried_6) (fun r_5 u_5 hp_5 => ?_)
  obtain ⟨rfl, rfl⟩ := hp_5
  exact hret _ _ _ _ _ _ (Nat.le_of_ble_eq_true rfl) (Nat.le_of_ble_eq_true rfl) ⟨rfl, hX_4, hf_3⟩ dX4_mostCarried_9
set_option maxHeartbeats 4000000 in
set_option maxRecDepth 100000 in
theorem c_X4_share {g : kG} {l : Launch} {u : Nat → va_E} {th rm sp wr : Int32} {hs : Int64} {VA RD CH WE : Nat → Int32} {n m t : Nat} {B : kB} {S : Nat → kS} {C : Nat → Int32} (h : MdX g u th rm sp wr hs VA RD CH WE n B m S t C) : CD g l yX4_share wsX4_share ({ frames := 4, cells := 0, slots := 0, locals := 91 }) [.ref (g.2.1 61)] u (fun r u' => r = filD B n ∧ u = u') := by
  refine CD.of (cc := cX4_share) (nL := 4) (by decide +kernel) rfl (Nat.le_of_ble_eq_true rfl) ?_
  intro X hXl F hret
  subst hXl
  have hinX4 : ∀ w ∈ wsX40, w ∈ wsX4_share := by decide +kernel
  obtain ⟨Z, SV, BF, hL, hZ, hSV, hBF, hn16, hm6, ht60⟩ := id h
  show VL g X 0 0 u 0 [(0, .ref (g.2.1 61))] []
  refine r_aload_n F 0 rfl dX4_share_0 ?_
  refine r_calli (g_V (C := RX4) (T := TX4) (N := 14) (nA := 0) (As := []) (rest := []) F 61 hL.1 (by decide) rfl (c_X4_open h ) gX4_share_X4_open rfl (by decide +kernel) rfl ⟨Nat.le_of_ble_eq_true rfl, Nat.le_of_ble_eq_true rfl⟩ ⟨Nat.le_of_ble_eq_true rfl, Nat.le_of_ble_eq_true rfl⟩ rfl (Nat.le_of_ble_eq_true rfl) dX4_share_1) (fun r_1 u_1 hp_1 => ?_)
  obtain ⟨rfl, rfl⟩ := hp_1
  refine r_istore_n (lv' := [(0, .ref (g.2.1 61)), (1, .int (opm B n))]) F (by decide) rfl dX4_share_4 ?_
  refine r_iconst (v := 0) F (by decide) dX4_share_5 ?_
  refine r_istore_n (lv' := [(0, .ref (g.2.1 61)), (1, .int (opm B n)), (2, .int 0)]) F (by decide) rfl dX4_share_6 ?_
  refine r_iconst (v := 0) F (by decide) dX4_share_7 ?_
  refine r_istore_n (lv' := [(0, .ref (g.2.1 61)), (1, .int (opm B n)), (2, .int 0), (3, .int 0)]) F (by decide) rfl dX4_share_8 ?_
  have loop_9 : ∀ (k : Nat) (j : Nat) (x2_9 : Int32) (x3_9 : Int32), j + k = n → x2_9 = cntN j (fun b => qOpn B (opm B n) b && !decide (B b 0 = 3)) → x3_9 = nI j → VL g X 0 0 u 9 [(0, .ref (g.2.1 61)), (1, .int (opm B n)), (2, .int x2_9), (3, .int x3_9)] [] := by
    intro k
    induction k with
    | zero =>
      rintro j x2_9 x3_9 hk rfl rfl
      have hjn : n = j := by omega
      subst hjn
      refine r_iload_n F 3 rfl dX4_share_9 ?_
      refine r_aload_n F 0 rfl dX4_share_10 ?_
      refine r_get (C := RX4) (T := TX4) (N := 14) F 61 hL.1 (by decide) hinX4 rfl 1 (by decide) (by decide +kernel) rfl dX4_share_11 ?_
      refine r_iconst (v := 0) F (by decide) dX4_share_14 ?_
      refine r_iald F 62 hL.2.1 (by decide) (vp_in_nI (n := 0) (by decide) (by decide)) dX4_share_15 ?_
      refine r_eq (st2 := [.int (nI n), .int (nI n)]) (by rw [show Z (0 : Int32).toNatClampNeg = nI n from hZ.1]) rfl ?_
      refine r_icmp_ge F 52 (by decide) dX4_share_16 (fun c_16_3 => ?_) (fun c_16_3 => absurd (Int32.le_refl _) c_16_3)
      clear c_16_3
      refine r_iload_n F 2 rfl dX4_share_52 ?_
      refine r_if_ne F 60 (by decide) dX4_share_53 (fun c_53_4 => ?_) (fun c_53_4 => ?_)
      · skip
        have hA : cntN n (fun b => qOpn B (opm B n) b && !decide (B b 0 = 3)) = nI (filA B n) := cntN_K
        have hAl : filA B n ≤ 16 := Nat.le_trans cnK_le hn16
        have hA0 : 0 < filA B n := by have z : ¬ filA B n = 0 := (fun e => c_53_4 (by rw [hA, e]; rfl)); omega
        have hAW : cntN n (fun b => qOpn B (opm B n) b && !decide (B b 0 = 3)) - cntN n (qWts B (opm B n)) = nI (filA B n - filW B n) := by rw [hA, cntN_K]; exact pk_sub filW_le
        refine r_iload_n F 2 rfl dX4_share_60 ?_
        refine r_aload_n F 0 rfl dX4_share_61 ?_
        refine r_iload_n F 1 rfl dX4_share_62 ?_
        refine r_calli (g_V (C := RX4) (T := TX4) (N := 14) (nA := 1) (As := [.int (opm B n)]) (rest := [.int (cntN n (fun b => qOpn B (opm B n) b && !decide (B b 0 = 3)))]) F 61 hL.1 (by decide) rfl (c_X4_wanting h ) gX4_share_X4_wanting rfl (by decide +kernel) rfl ⟨Nat.le_of_ble_eq_true rfl, Nat.le_of_ble_eq_true rfl⟩ ⟨Nat.le_of_ble_eq_true rfl, Nat.le_of_ble_eq_true rfl⟩ rfl (Nat.le_of_ble_eq_true rfl) dX4_share_63) (fun r_5 u_5 hp_5 => ?_)
        obtain ⟨rfl, rfl⟩ := hp_5
        refine r_isub F dX4_share_66 ?_
        refine r_i2d F dX4_share_67 ?_
        refine r_iload_n F 2 rfl dX4_share_68 ?_
        refine r_i2d F dX4_share_69 ?_
        refine r_ddiv F (by rw [hAW, hA]; exact vfB_n (ok_share (Nat.sub_le _ _) hA0 hAl).1) dX4_share_70 ?_
        exact hret _ _ _ _ _ _ (Nat.le_of_ble_eq_true rfl) (Nat.le_of_ble_eq_true rfl) ⟨by rw [filD, if_pos hA0, shD, ← hAW, ← hA], rfl⟩ dX4_share_71
      · skip
        have hA : cntN n (fun b => qOpn B (opm B n) b && !decide (B b 0 = 3)) = nI (filA B n) := cntN_K
        have hAl : filA B n ≤ 16 := Nat.le_trans cnK_le hn16
        have hA0 : ¬ 0 < filA B n := by have z : filA B n = 0 := (nI_eq (b := 0) (by omega) (by decide)).mp (hA ▸ c_53_4); omega
        refine r_dconst1 F dX4_share_56 ?_
        refine r_goto F 71 (by decide) dX4_share_57 ?_
        exact hret _ _ _ _ _ _ (Nat.le_of_ble_eq_true rfl) (Nat.le_of_ble_eq_true rfl) ⟨by simp [filD, hA0], rfl⟩ dX4_share_71
    | succ k ih_9 =>
      rintro j x2_9 x3_9 hk rfl rfl
      have hb : j < n := by omega
      refine r_iload_n F 3 rfl dX4_share_9 ?_
      refine r_aload_n F 0 rfl dX4_share_10 ?_
      refine r_get (C := RX4) (T := TX4) (N := 14) F 61 hL.1 (by decide) hinX4 rfl 1 (by decide) (by decide +kernel) rfl dX4_share_11 ?_
      refine r_iconst (v := 0) F (by decide) dX4_share_14 ?_
      refine r_iald F 62 hL.2.1 (by decide) (vp_in_nI (n := 0) (by decide) (by decide)) dX4_share_15 ?_
      refine r_eq (st2 := [.int (nI n), .int (nI j)]) (by rw [show Z (0 : Int32).toNatClampNeg = nI n from hZ.1]) rfl ?_
      refine r_icmp_ge F 52 (by decide) dX4_share_16 (fun c_16_6 => absurd c_16_6 (nI_ge (b := n) hb (by have := hn16; omega))) (fun c_16_6 => ?_)
      clear c_16_6
      refine r_iload_n F 2 rfl dX4_share_19 ?_
      refine r_aload_n F 0 rfl dX4_share_20 ?_
      refine r_iload_n F 3 rfl dX4_share_21 ?_
      refine r_iconst (v := 0) F (by decide) dX4_share_22 ?_
      refine r_calli (g_V (C := RX4) (T := TX4) (N := 14) (nA := 2) (As := [.int (nI j), .int 0]) (rest := [.int (cntN j (fun b => qOpn B (opm B n) b && !decide (B b 0 = 3)))]) F 61 hL.1 (by decide) rfl (c_X4_of h hb (w := 0) (by decide)) gX4_share_X4_of rfl (by decide +kernel) rfl ⟨Nat.le_of_ble_eq_true rfl, Nat.le_of_ble_eq_true rfl⟩ ⟨Nat.le_of_ble_eq_true rfl, Nat.le_of_ble_eq_true rfl⟩ rfl (Nat.le_of_ble_eq_true rfl) dX4_share_23) (fun r_7 u_7 hp_7 => ?_)
      obtain ⟨rfl, rfl⟩ := hp_7
      refine r_iconst (v := 3) F (by decide) dX4_share_26 ?_
      refine r_icmp_eq F 43 (by decide) dX4_share_27 (fun c_27_8 => ?_) (fun c_27_8 => ?_)
      · skip
        refine r_iconst (v := 0) F (by decide) dX4_share_43 ?_
        refine r_iadd F dX4_share_44 ?_
        refine r_istore_n (lv' := [(0, .ref (g.2.1 61)), (1, .int (opm B n)), (2, .int ((cntN j (fun b => qOpn B (opm B n) b && !decide (B b 0 = 3))) + 0)), (3, .int (nI j))]) F (by decide) rfl dX4_share_45 ?_
        refine r_iinc (lv' := [(0, .ref (g.2.1 61)), (1, .int (opm B n)), (2, .int ((cntN j (fun b => qOpn B (opm B n) b && !decide (B b 0 = 3))) + 0)), (3, .int (nI (j + 1)))]) F 3 rfl (nI_inc _) (by decide) rfl dX4_share_46 ?_
        refine r_goto F 9 (by decide) dX4_share_49 ?_
        exact ih_9 (j + 1) _ _ (by omega)  (by simp [cntN, bI, c_27_8]) rfl
      · skip
        refine r_aload_n F 0 rfl dX4_share_30 ?_
        refine r_iload_n F 3 rfl dX4_share_31 ?_
        refine r_iload_n F 1 rfl dX4_share_32 ?_
        refine r_calli (g_V (C := RX4) (T := TX4) (N := 14) (nA := 2) (As := [.int (nI j), .int (opm B n)]) (rest := [.int (cntN j (fun b => qOpn B (opm B n) b && !decide (B b 0 = 3)))]) F 61 hL.1 (by decide) rfl (c_X4_isTold h hb) gX4_share_X4_isTold rfl (by decide +kernel) rfl ⟨Nat.le_of_ble_eq_true rfl, Nat.le_of_ble_eq_true rfl⟩ ⟨Nat.le_of_ble_eq_true rfl, Nat.le_of_ble_eq_true rfl⟩ rfl (Nat.le_of_ble_eq_true rfl) dX4_share_33) (fun r_9 u_9 hp_9 => ?_)
        obtain ⟨rfl, rfl⟩ := hp_9
        refine r_if_eq F 43 (by decide) dX4_share_36 (fun c_36_10 => ?_) (fun c_36_10 => ?_)
        · skip
          replace c_36_10 := bI0 c_36_10
          refine r_iconst (v := 0) F (by decide) dX4_share_43 ?_
          refine r_iadd F dX4_share_44 ?_
          refine r_istore_n (lv' := [(0, .ref (g.2.1 61)), (1, .int (opm B n)), (2, .int ((cntN j (fun b => qOpn B (opm B n) b && !decide (B b 0 = 3))) + 0)), (3, .int (nI j))]) F (by decide) rfl dX4_share_45 ?_
          refine r_iinc (lv' := [(0, .ref (g.2.1 61)), (1, .int (opm B n)), (2, .int ((cntN j (fun b => qOpn B (opm B n) b && !decide (B b 0 = 3))) + 0)), (3, .int (nI (j + 1)))]) F 3 rfl (nI_inc _) (by decide) rfl dX4_share_46 ?_
          refine r_goto F 9 (by decide) dX4_share_49 ?_
          exact ih_9 (j + 1) _ _ (by omega)  (by simp [cntN, bI, c_27_8, c_36_10]) rfl
        · skip
          replace c_36_10 := bI1 c_36_10
          refine r_iconst (v := 1) F (by decide) dX4_share_39 ?_
          refine r_goto F 44 (by decide) dX4_share_40 ?_
          refine r_iadd F dX4_share_44 ?_
          refine r_istore_n (lv' := [(0, .ref (g.2.1 61)), (1, .int (opm B n)), (2, .int ((cntN j (fun b => qOpn B (opm B n) b && !decide (B b 0 = 3))) + 1)), (3, .int (nI j))]) F (by decide) rfl dX4_share_45 ?_
          refine r_iinc (lv' := [(0, .ref (g.2.1 61)), (1, .int (opm B n)), (2, .int ((cntN j (fun b => qOpn B (opm B n) b && !decide (B b 0 = 3))) + 1)), (3, .int (nI (j + 1)))]) F 3 rfl (nI_inc _) (by decide) rfl dX4_share_46 ?_
          refine r_goto F 9 (by decide) dX4_share_49 ?_
          exact ih_9 (j + 1) _ _ (by omega)  (by simp [cntN, bI, c_27_8, c_36_10]) rfl
  exact loop_9 n 0 _ _ (by omega)  rfl rfl
set_option maxHeartbeats 4000000 in
set_option maxRecDepth 100000 in
theorem c_X4_filled {g : kG} {l : Launch} {u : Nat → va_E} {th rm sp wr : Int32} {hs : Int64} {VA RD CH WE : Nat → Int32} {n m t : Nat} {B : kB} {S : Nat → kS} {C : Nat → Int32}  (h : MdX g u th rm sp wr hs VA RD CH WE n B m S t C)  : CD g l yX4_filled wsX4_filled ({ frames := 5, cells := 0, slots := 0, locals := 114 }) [.ref (g.2.1 61)] u (fun r u' => r = filD B n ∧ MdX g u' 0 rm sp wr hs VA RD CH WE n B m S t C ∧ ∀ j, ¬ (61 ≤ j ∧ j < 69) → u' j = u j) := by
  refine CD.of (cc := cX4_filled) (nL := 1) (by decide +kernel) rfl (Nat.le_of_ble_eq_true rfl) ?_
  intro X hXl F hret
  subst hXl
  have hinX4 : ∀ w ∈ wsX40, w ∈ wsX4_filled := by decide +kernel
  obtain ⟨Z, SV, BF, hL, hZ, hSV, hBF, hn16, hm6, ht60⟩ := id h
  show VL g X 0 0 u 0 [(0, .ref (g.2.1 61))] []
  refine r_aload_n F 0 rfl dX4_filled_0 ?_
  refine r_iconst (v := 0) F (by decide) dX4_filled_1 ?_
  refine r_put (C := RX4) (T := TX4) (N := 14) (ty := .int) F 61 hL.1 (by decide) hinX4 tyX4 tyX4_ok nmX4 rfl 0 (by decide) (by decide +kernel) rfl (by decide +kernel) rfl rfl (Nat.le_of_ble_eq_true rfl) dX4_filled_2 (fun u_1 hu_1 => ?_)
  have hL_2 := hL.num (th' := 0) (sm' := nI m) (ty' := nI t) (rm' := rm) (sp' := sp) (wr' := wr) (hs' := hs)
  replace hL_2 : MdL g u_1 0 (nI m) (nI t) rm sp wr hs Z SV BF VA RD CH WE := by rw [hu_1]; exact hL_2
  have hf_3 : ∀ j, ¬ (61 ≤ j ∧ j < 69) → u_1 j = u j := (fun j hj => by rw [hu_1]; exact vne (by omega))
  have hX_4 : MdX g u_1 0 rm sp wr hs VA RD CH WE n B m S t C := ⟨_, _, _, hL_2, hZ, hSV, hBF, hn16, hm6, ht60⟩
  refine r_aload_n F 0 rfl dX4_filled_5 ?_
  refine r_calld (g_V (C := RX4) (T := TX4) (N := 14) (nA := 0) (As := []) (rest := []) F 61 hL_2.1 (by decide) rfl (c_X4_share hX_4 ) gX4_filled_X4_share rfl (by decide +kernel) rfl ⟨Nat.le_of_ble_eq_true rfl, Nat.le_of_ble_eq_true rfl⟩ ⟨Nat.le_of_ble_eq_true rfl, Nat.le_of_ble_eq_true rfl⟩ rfl (Nat.le_of_ble_eq_true rfl) dX4_filled_6) (fun r_5 u_5 hp_5 => ?_)
  obtain ⟨rfl, rfl⟩ := hp_5
  exact hret _ _ _ _ _ _ (Nat.le_of_ble_eq_true rfl) (Nat.le_of_ble_eq_true rfl) ⟨rfl, hX_4, hf_3⟩ dX4_filled_9
set_option maxHeartbeats 4000000 in
set_option maxRecDepth 100000 in
theorem c_X4_bitsOf {g : kG} {l : Launch} {u : Nat → va_E} {d : UInt64} (hd : okD d = true) (hz : zrD d = true) : CL g l yX4_bitsOf wsX4_bitsOf ({ frames := 0, cells := 0, slots := 0, locals := 0 }) [.double d] u (fun r u' => r = bitD d ∧ u = u') := by
  refine CL.of (cc := cX4_bitsOf) (nL := 6) (by decide +kernel) rfl (Nat.le_of_ble_eq_true rfl) ?_
  intro X hXl F hret
  subst hXl
  show VL g X 0 0 u 0 [(0, .double d)] []
  refine r_dload_n F 0 rfl dX4_bitsOf_0 ?_
  refine r_dconst0 F dX4_bitsOf_1 ?_
  refine r_dcmp F dX4_bitsOf_2 ?_
  refine r_if_ne F 8 (by decide) dX4_bitsOf_3 (fun c_3_1 => ?_) (fun c_3_1 => ?_)
  · skip
    have hg : gt0 d = true := by have z := hz; unfold zrD at z; rw [decide_eq_false c_3_1] at z; revert z; cases gt0 d <;> decide
    refine r_dload_n F 0 rfl dX4_bitsOf_8 ?_
    refine r_dstore_n (lv' := [(0, .double d), (2, .double d)]) F (by decide) rfl dX4_bitsOf_9 ?_
    refine r_ldc2 (v := 1023) F (by decide +kernel) dX4_bitsOf_10 ?_
    refine r_lstore (lv' := [(0, .double d), (2, .double d), (4, .long 1023)]) F (by decide) rfl dX4_bitsOf_13 ?_
    have loop_15 : ∀ (k : Nat) (j : Nat) (x2_15 : UInt64) (x4_15 : Int64), j + k = 5 → dKn k j d = dK d → x2_15 = dblN j d → x4_15 = (1023 - nI j).toInt64 → VL g X 0 0 u 15 [(0, .double d), (2, .double x2_15), (4, .long x4_15)] [] := by
      intro k
      induction k with
      | zero =>
        rintro j x2_15 x4_15 hkj hK rfl rfl
        have hjn : j = 5 := by omega
        subst hjn
        refine r_dload_n F 1 rfl dX4_bitsOf_15 ?_
        refine r_dconst1 F dX4_bitsOf_16 ?_
        refine r_dcmp F dX4_bitsOf_17 ?_
        refine r_if_ge F 36 (by decide) dX4_bitsOf_18 (fun c_18_3 => ?_) (fun c_18_3 => absurd (by have q := okD_5 hd hg; simpa [lt1] using q) c_18_3)
        clear c_18_3
        refine r_lload F 2 rfl dX4_bitsOf_36 ?_
        refine r_bipush (v := 52) F (by decide) dX4_bitsOf_38 ?_
        refine r_lshl F rfl dX4_bitsOf_40 ?_
        refine r_dload_n F 1 rfl dX4_bitsOf_41 ?_
        refine r_ldc2d (v := 4841369599423283200) F (by decide +kernel) dX4_bitsOf_42 ?_
        refine r_dmul F (by have q := okD_52 hd (j := 5) (by omega); rw [l2d52] at q; exact q) dX4_bitsOf_45 ?_
        refine r_d2l F dX4_bitsOf_46 ?_
        refine r_ladd F dX4_bitsOf_47 ?_
        refine r_ldc2 (v := 4503599627370496) F (by decide +kernel) dX4_bitsOf_48 ?_
        refine r_lsub F dX4_bitsOf_51 ?_
        have hK2 : dK d = 5 := hK.symm
        exact hret _ _ _ _ _ _ (Nat.le_of_ble_eq_true rfl) (Nat.le_of_ble_eq_true rfl) ⟨by simp only [bitD, hg, if_true, hK2, l2d52]; exact as64 _ _ _, rfl⟩ dX4_bitsOf_52
      | succ k ih_15 =>
        rintro j x2_15 x4_15 hkj hK rfl rfl
        refine r_dload_n F 1 rfl dX4_bitsOf_15 ?_
        refine r_dconst1 F dX4_bitsOf_16 ?_
        refine r_dcmp F dX4_bitsOf_17 ?_
        refine r_if_ge F 36 (by decide) dX4_bitsOf_18 (fun c_18_4 => ?_) (fun c_18_4 => ?_)
        · skip
          have hl_c_18_4 : lt1 (dblN j d) = false := by simp [lt1, c_18_4]
          refine r_lload F 2 rfl dX4_bitsOf_36 ?_
          refine r_bipush (v := 52) F (by decide) dX4_bitsOf_38 ?_
          refine r_lshl F rfl dX4_bitsOf_40 ?_
          refine r_dload_n F 1 rfl dX4_bitsOf_41 ?_
          refine r_ldc2d (v := 4841369599423283200) F (by decide +kernel) dX4_bitsOf_42 ?_
          refine r_dmul F (by have q := okD_52 hd (j := j) (by omega); rw [l2d52] at q; exact q) dX4_bitsOf_45 ?_
          refine r_d2l F dX4_bitsOf_46 ?_
          refine r_ladd F dX4_bitsOf_47 ?_
          refine r_ldc2 (v := 4503599627370496) F (by decide +kernel) dX4_bitsOf_48 ?_
          refine r_lsub F dX4_bitsOf_51 ?_
          have hK2 : dK d = j := by rw [← hK]; simp [dKn, hl_c_18_4]
          exact hret _ _ _ _ _ _ (Nat.le_of_ble_eq_true rfl) (Nat.le_of_ble_eq_true rfl) ⟨by simp only [bitD, hg, if_true, hK2, l2d52]; exact as64 _ _ _, rfl⟩ dX4_bitsOf_52
        · skip
          have hl_c_18_4 : lt1 (dblN j d) = true := by simp [lt1, c_18_4]
          refine r_dload_n F 1 rfl dX4_bitsOf_21 ?_
          refine r_ldc2d (v := 4611686018427387904) F (by decide +kernel) dX4_bitsOf_22 ?_
          refine r_dmul F (okD_2 hd (by omega)) dX4_bitsOf_25 ?_
          refine r_dstore_n (lv' := [(0, .double d), (2, .double (FP.dmul (dblN j d) 4611686018427387904)), (4, .long ((1023 - nI j).toInt64))]) F (by decide) rfl dX4_bitsOf_26 ?_
          refine r_lload F 2 rfl dX4_bitsOf_27 ?_
          refine r_lconst (v := 1) F (by decide) dX4_bitsOf_29 ?_
          refine r_lsub F dX4_bitsOf_30 ?_
          refine r_lstore (lv' := [(0, .double d), (2, .double (FP.dmul (dblN j d) 4611686018427387904)), (4, .long (((1023 - nI j).toInt64) - 1))]) F (by decide) rfl dX4_bitsOf_31 ?_
          refine r_goto F 15 (by decide) dX4_bitsOf_33 ?_
          exact ih_15 (j + 1) _ _ (by omega) (by rw [← hK]; simp [dKn, hl_c_18_4]) rfl (exL j (by omega))
    exact loop_15 5 0 _ _ (by omega) rfl rfl (by decide)
  · skip
    have hg : gt0 d = false := by have z := hz; unfold zrD at z; rw [decide_eq_true c_3_1] at z; revert z; cases gt0 d <;> decide
    refine r_lconst (v := 0) F (by decide) dX4_bitsOf_6 ?_
    exact hret _ _ _ _ _ _ (Nat.le_of_ble_eq_true rfl) (Nat.le_of_ble_eq_true rfl) ⟨by simp [bitD, hg], rfl⟩ dX4_bitsOf_7

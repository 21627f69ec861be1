set_option maxHeartbeats 4000000 in
set_option maxRecDepth 100000 in
theorem c_L_cell {g : kG} {l : Launch} {u : Nat → va_E} {b L i : Nat} {xs : Nat → Int32} (hL : L < 2 ^ 31) (hi : i < 2 ^ 31) : CS g l yL_cell wsL_cell ({ frames := 0, cells := 0, slots := 0, locals := 0 }) [.ref b, .int (nI i)] u b L xs (fun _ u' => u = u') := by
  refine CS.of (cc := cL_cell) (nL := 2) (ty := .int) (by decide +kernel) rfl (fun _ _ _ => rfl) (Nat.le_of_ble_eq_true rfl) ?_
  intro X hXl F T hret
  subst hXl
  show VL g X 0 0 u 0 [(0, .ref b), (1, .int (nI i))] []
  refine r_iload_n F 1 rfl dL_cell_0 ?_
  refine r_aload_n F 0 rfl dL_cell_1 ?_
  refine r_slen F T dL_cell_2 ?_
  refine r_icmp_ge F 12 (by decide) dL_cell_3 (fun c => ?_) (fun c => ?_)
  · skip
    refine r_ldc (v := 32452867) F (by decide +kernel) dL_cell_12 ?_
    refine r_iload_n F 1 rfl dL_cell_14 ?_
    refine r_imul F dL_cell_15 ?_
    refine r_ldc (v := 15485863) F (by decide +kernel) dL_cell_16 ?_
    refine r_iadd F dL_cell_18 ?_
    exact hret _ _ _ _ _ _ (Nat.le_of_ble_eq_true rfl) (Nat.le_of_ble_eq_true rfl) rfl dL_cell_19
  · skip
    refine r_aload_n F 0 rfl dL_cell_6 ?_
    refine r_iload_n F 1 rfl dL_cell_7 ?_
    refine r_sld F T (vin (nI_pos hi) c hL) dL_cell_8 ?_
    refine r_goto F 19 (by decide) dL_cell_9 ?_
    exact hret _ _ _ _ _ _ (Nat.le_of_ble_eq_true rfl) (Nat.le_of_ble_eq_true rfl) rfl dL_cell_19
set_option maxHeartbeats 4000000 in
set_option maxRecDepth 100000 in
theorem c_L_low {g : kG} {l : Launch} {u : Nat → va_E} {v : Int32} {w : Nat} (h0 : 0 < w) (hw : w < 2 ^ 31) : CI g l yL_low wsL_low ({ frames := 0, cells := 0, slots := 0, locals := 0 }) [.int v, .int (nI w)] u (fun r u' => (∃ j, j < w ∧ r = nI j) ∧ u = u') := by
  refine CI.of (cc := cL_low) (nL := 2) (ty := .int) (by decide +kernel) rfl (fun _ _ _ => rfl) (Nat.le_of_ble_eq_true rfl) ?_
  intro X hXl F hret
  subst hXl
  obtain ⟨a, ha, ea⟩ := pk_andE v (m := 2147483647) 31 (by decide)
  show VL g X 0 0 u 0 [(0, .int v), (1, .int (nI w))] []
  refine r_iload_n F 0 rfl dL_low_0 ?_
  refine r_ldc (v := 2147483647) F (by decide +kernel) dL_low_1 ?_
  refine r_iand F dL_low_3 ?_
  refine r_eq (st2 := [.int (nI a)]) (congrArg (fun z_ : Int32 => ([.int z_] : List Value)) (show (v &&& 2147483647 : Int32) = nI a from ea)) rfl ?_
  refine r_iload_n F 1 rfl dL_low_4 ?_
  refine r_irem (v := nI (a % w)) F (nI_ne0 h0 hw) (pk_rem ha h0 hw) dL_low_5 ?_
  exact hret _ _ _ _ _ _ (Nat.le_of_ble_eq_true rfl) (Nat.le_of_ble_eq_true rfl) ⟨⟨a % w, Nat.mod_lt _ h0, rfl⟩, rfl⟩ dL_low_6
set_option maxHeartbeats 4000000 in
set_option maxRecDepth 100000 in
theorem c_L_power {g : kG} {l : Launch} {u : Nat → va_E} {t : Nat} (ht : t ≤ 5) : CI g l yL_power wsL_power ({ frames := 0, cells := 0, slots := 0, locals := 0 }) [.int (nI t)] u (fun r u' => r = pwT t ∧ u = u') := by
  refine CI.of (cc := cL_power) (nL := 3) (ty := .int) (by decide +kernel) rfl (fun _ _ _ => rfl) (Nat.le_of_ble_eq_true rfl) ?_
  intro X hXl F hret
  subst hXl
  show VL g X 0 0 u 0 [(0, .int (nI t))] []
  refine r_iconst (v := 1) F (by decide) dL_power_0 ?_
  refine r_istore_n (lv' := [(0, .int (nI t)), (1, .int 1)]) F (by decide) rfl dL_power_1 ?_
  refine r_iconst (v := 0) F (by decide) dL_power_2 ?_
  refine r_istore_n (lv' := [(0, .int (nI t)), (1, .int 1), (2, .int 0)]) F (by decide) rfl dL_power_3 ?_
  have loop_4 : ∀ (k : Nat) (j : Nat) (x1_4 : Int32) (x2_4 : Int32), (j + k = t) → x1_4 = pwT j → x2_4 = nI j → VL g X 0 0 u 4 [(0, .int (nI t)), (1, .int x1_4), (2, .int x2_4)] [] := by
    intro k
    induction k with
    | zero =>
      rintro j x1_4 x2_4 hk rfl rfl
      have hjn : t = j := by omega
      subst hjn
      refine r_iload_n F 2 rfl dL_power_4 ?_
      refine r_iload_n F 0 rfl dL_power_5 ?_
      refine r_icmp_ge F 20 (by decide) dL_power_6 (fun _ => ?_) (fun c_6_1 => absurd (Int32.le_refl _) c_6_1)
      refine r_iload_n F 1 rfl dL_power_20 ?_
      exact hret _ _ _ _ _ _ (Nat.le_of_ble_eq_true rfl) (Nat.le_of_ble_eq_true rfl) ⟨rfl, rfl⟩ dL_power_21
    | succ k ih_4 =>
      rintro j x1_4 x2_4 hk rfl rfl
      have hj : j < t := by omega
      refine r_iload_n F 2 rfl dL_power_4 ?_
      refine r_iload_n F 0 rfl dL_power_5 ?_
      refine r_icmp_ge F 20 (by decide) dL_power_6 (fun c_6_2 => absurd c_6_2 (nI_ge (b := t) hj (by omega))) (fun _ => ?_)
      refine r_iload_n F 1 rfl dL_power_9 ?_
      refine r_bipush (v := 10) F (by decide) dL_power_10 ?_
      refine r_imul F dL_power_12 ?_
      refine r_istore_n (lv' := [(0, .int (nI t)), (1, .int ((pwT j) * 10)), (2, .int (nI j))]) F (by decide) rfl dL_power_13 ?_
      refine r_iinc (lv' := [(0, .int (nI t)), (1, .int ((pwT j) * 10)), (2, .int (nI (j + 1)))]) F 2 rfl (nI_inc _) (by decide) rfl dL_power_14 ?_
      refine r_goto F 4 (by decide) dL_power_17 ?_
      exact ih_4 (j + 1) _ _ (by omega) rfl rfl
  exact loop_4 t 0 _ _ (by omega) rfl rfl
set_option maxHeartbeats 4000000 in
set_option maxRecDepth 100000 in
theorem c_L_some {g : kG} {l : Launch} {u : Nat → va_E} {qk qm ak am n b : Nat} {K M : Nat → Int32} {B : kB} {h : Int32} (hk : AR g u qk ak 16 K) (hm : AR g u qm am 16 M) (hn : n ≤ 16) (hb : b < n) (eK : K b = B b 0) (eM : M b = B b 2) (hw : wfB n B) : CI g l yL_some wsL_some ({ frames := 1, cells := 0, slots := 0, locals := 22 }) [.ref ak, .ref am, .int (nI b), .int h] u (fun r u' => (fitA B b r = true ∧ (r = -1 ∨ ¬ r < 0)) ∧ u = u') := by
  refine CI.of (cc := cL_some) (nL := 4) (ty := .int) (by decide +kernel) rfl (fun _ _ _ => rfl) (Nat.le_of_ble_eq_true rfl) ?_
  intro X hXl F hret
  subst hXl
  show VL g X 0 0 u 0 [(0, .ref ak), (1, .ref am), (2, .int (nI b)), (3, .int h)] []
  refine r_aload_n F 0 rfl dL_some_0 ?_
  refine r_iload_n F 2 rfl dL_some_1 ?_
  refine r_ialdA F hk (vp_in_nI (by omega) (by decide)) dL_some_2 ?_
  refine r_eq (st2 := [.int (B b 0)]) (by rw [nI_clamp (by omega), eK]) rfl ?_
  refine r_iconst (v := 3) F (by decide) dL_some_3 ?_
  refine r_icmp_eq F 15 (by decide) dL_some_4 (fun c_4_1 => ?_) (fun c_4_1 => ?_)
  · skip
    refine r_iconst (v := -1) F (by decide) dL_some_15 ?_
    exact hret _ _ _ _ _ _ (Nat.le_of_ble_eq_true rfl) (Nat.le_of_ble_eq_true rfl) ⟨⟨fit_m, Or.inl rfl⟩, rfl⟩ dL_some_16
  · skip
    refine r_iload_n F 3 rfl dL_some_7 ?_
    refine r_iconst (v := 5) F (by decide) dL_some_8 ?_
    refine r_calli (g_S (nA := 2) (As := [.int h, .int (nI 5)]) (rest := []) F (c_L_low (v := h) (w := 5) (by decide) (by decide)) gL_some_L_low rfl (by decide +kernel) rfl ⟨Nat.le_of_ble_eq_true rfl, Nat.le_of_ble_eq_true rfl⟩ ⟨Nat.le_of_ble_eq_true rfl, Nat.le_of_ble_eq_true rfl⟩ rfl (Nat.le_of_ble_eq_true rfl) dL_some_9) (fun r_2 u_2 hp_2 => ?_)
    obtain ⟨⟨j9, hj9, rfl⟩, rfl⟩ := hp_2
    refine r_if_ne F 17 (by decide) dL_some_12 (fun c_12_3 => ?_) (fun c_12_3 => ?_)
    · skip
      refine r_aload_n F 0 rfl dL_some_17 ?_
      refine r_iload_n F 2 rfl dL_some_18 ?_
      refine r_ialdA F hk (vp_in_nI (by omega) (by decide)) dL_some_19 ?_
      refine r_eq (st2 := [.int (B b 0)]) (by rw [nI_clamp (by omega), eK]) rfl ?_
      refine r_if_ne F 38 (by decide) dL_some_20 (fun c_20_4 => ?_) (fun c_20_4 => ?_)
      · skip
        refine r_aload_n F 0 rfl dL_some_38 ?_
        refine r_iload_n F 2 rfl dL_some_39 ?_
        refine r_ialdA F hk (vp_in_nI (by omega) (by decide)) dL_some_40 ?_
        refine r_eq (st2 := [.int (B b 0)]) (by rw [nI_clamp (by omega), eK]) rfl ?_
        refine r_iconst (v := 1) F (by decide) dL_some_41 ?_
        refine r_icmp_ne F 55 (by decide) dL_some_42 (fun c_42_5 => ?_) (fun c_42_5 => ?_)
        · skip
          refine r_iload_n F 3 rfl dL_some_55 ?_
          refine r_iconst (v := 3) F (by decide) dL_some_56 ?_
          refine r_ishr F dL_some_57 ?_
          refine r_bipush (v := 100) F (by decide) dL_some_58 ?_
          refine r_calli (g_S (nA := 2) (As := [.int (h >>> (3 &&& 31)), .int (nI 100)]) (rest := []) F (c_L_low (v := (h >>> (3 &&& 31))) (w := 100) (by decide) (by decide)) gL_some_L_low rfl (by decide +kernel) rfl ⟨Nat.le_of_ble_eq_true rfl, Nat.le_of_ble_eq_true rfl⟩ ⟨Nat.le_of_ble_eq_true rfl, Nat.le_of_ble_eq_true rfl⟩ rfl (Nat.le_of_ble_eq_true rfl) dL_some_60) (fun r_6 u_6 hp_6 => ?_)
          obtain ⟨⟨j2, hj2, rfl⟩, rfl⟩ := hp_6
          exact hret _ _ _ _ _ _ (Nat.le_of_ble_eq_true rfl) (Nat.le_of_ble_eq_true rfl) ⟨⟨fit_2 (kd_2 (hw.k hb) c_20_4 c_42_5 c_4_1) hj2, Or.inr (nI_pos (by omega))⟩, rfl⟩ dL_some_63
        · skip
          refine r_iload_n F 3 rfl dL_some_45 ?_
          refine r_iconst (v := 3) F (by decide) dL_some_46 ?_
          refine r_ishr F dL_some_47 ?_
          refine r_iconst (v := 2) F (by decide) dL_some_48 ?_
          refine r_calli (g_S (nA := 2) (As := [.int (h >>> (3 &&& 31)), .int (nI 2)]) (rest := []) F (c_L_low (v := (h >>> (3 &&& 31))) (w := 2) (by decide) (by decide)) gL_some_L_low rfl (by decide +kernel) rfl ⟨Nat.le_of_ble_eq_true rfl, Nat.le_of_ble_eq_true rfl⟩ ⟨Nat.le_of_ble_eq_true rfl, Nat.le_of_ble_eq_true rfl⟩ rfl (Nat.le_of_ble_eq_true rfl) dL_some_49) (fun r_7 u_7 hp_7 => ?_)
          obtain ⟨⟨j1, hj1, rfl⟩, rfl⟩ := hp_7
          refine r_goto F 63 (by decide) dL_some_52 ?_
          exact hret _ _ _ _ _ _ (Nat.le_of_ble_eq_true rfl) (Nat.le_of_ble_eq_true rfl) ⟨⟨fit_1 c_42_5 hj1, Or.inr (nI_pos (by omega))⟩, rfl⟩ dL_some_63
      · skip
        obtain ⟨t, ht, eT⟩ := hw.t b hb c_20_4
        refine r_iload_n F 3 rfl dL_some_23 ?_
        refine r_iconst (v := 3) F (by decide) dL_some_24 ?_
        refine r_ishr F dL_some_25 ?_
        refine r_aload_n F 1 rfl dL_some_26 ?_
        refine r_iload_n F 2 rfl dL_some_27 ?_
        refine r_ialdA F hm (vp_in_nI (by omega) (by decide)) dL_some_28 ?_
        refine r_eq (st2 := [.int (nI t), .int (h >>> (3 &&& 31))]) (by rw [nI_clamp (by omega), eM, eT]) rfl ?_
        refine r_calli (g_S (nA := 1) (As := [.int (nI t)]) (rest := [.int (h >>> (3 &&& 31))]) F (c_L_power ht) gL_some_L_power rfl (by decide +kernel) rfl ⟨Nat.le_of_ble_eq_true rfl, Nat.le_of_ble_eq_true rfl⟩ ⟨Nat.le_of_ble_eq_true rfl, Nat.le_of_ble_eq_true rfl⟩ rfl (Nat.le_of_ble_eq_true rfl) dL_some_29) (fun r_8 u_8 hp_8 => ?_)
        obtain ⟨rfl, rfl⟩ := hp_8
        refine r_eq (st2 := [.int (nI (10 ^ t)), .int (h >>> (3 &&& 31))]) (congrArg (fun z_ : Int32 => ([.int z_, .int (h >>> (3 &&& 31))] : List Value)) (show (pwT t : Int32) = nI (10 ^ t) from pwT_N ht)) rfl ?_
        refine r_calli (g_S (nA := 2) (As := [.int (h >>> (3 &&& 31)), .int (nI (10 ^ t))]) (rest := []) F (c_L_low (v := (h >>> (3 &&& 31))) (w := (10 ^ t)) (pw_lt ht).1 (pw_lt ht).2) gL_some_L_low rfl (by decide +kernel) rfl ⟨Nat.le_of_ble_eq_true rfl, Nat.le_of_ble_eq_true rfl⟩ ⟨Nat.le_of_ble_eq_true rfl, Nat.le_of_ble_eq_true rfl⟩ rfl (Nat.le_of_ble_eq_true rfl) dL_some_32) (fun r_9 u_9 hp_9 => ?_)
        obtain ⟨⟨j0, hj0, rfl⟩, rfl⟩ := hp_9
        refine r_goto F 63 (by decide) dL_some_35 ?_
        exact hret _ _ _ _ _ _ (Nat.le_of_ble_eq_true rfl) (Nat.le_of_ble_eq_true rfl) ⟨⟨fit_0 c_20_4 eT ht hj0, Or.inr (nI_pos (by have := pw_lt ht; omega))⟩, rfl⟩ dL_some_63
    · skip
      refine r_iconst (v := -1) F (by decide) dL_some_15 ?_
      exact hret _ _ _ _ _ _ (Nat.le_of_ble_eq_true rfl) (Nat.le_of_ble_eq_true rfl) ⟨⟨fit_m, Or.inl rfl⟩, rfl⟩ dL_some_16

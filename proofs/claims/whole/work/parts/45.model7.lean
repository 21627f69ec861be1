set_option maxHeartbeats 4000000 in
set_option maxRecDepth 100000 in
theorem c_X4_chosen {g : kG} {l : Launch} {u : Nat → va_E} {th rm sp wr : Int32} {hs : Int64} {VA RD CH WE : Nat → Int32} {n m t : Nat} {B : kB} {S : Nat → kS} {C : Nat → Int32} {b : Nat} {f : Bool} {x : Int32} (h : MdX g u th rm sp wr hs VA RD CH WE n B m S t C) (hb : b < n) (hx : x = bI f) : CI g l yX4_chosen wsX4_chosen ({ frames := 1, cells := 0, slots := 0, locals := 22 }) [.ref (g.2.1 61), .int (nI b), .int x] u (fun r u' => r = chB B b f ∧ u = u') := by
  refine CI.of (cc := cX4_chosen) (nL := 3) (ty := .int) (by decide +kernel) rfl (fun _ _ _ => rfl) (Nat.le_of_ble_eq_true rfl) ?_
  intro X hXl F hret
  subst hXl
  obtain ⟨Z, SV, BF, hL, hZ, hSV, hBF, hn16, hm6, ht60⟩ := id h
  show VL g X 0 0 u 0 [(0, .ref (g.2.1 61)), (1, .int (nI b)), (2, .int x)] []
  refine r_aload_n F 0 rfl dX4_chosen_0 ?_
  refine r_iload_n F 1 rfl dX4_chosen_1 ?_
  refine r_iconst (v := 0) F (by decide) dX4_chosen_2 ?_
  refine r_calli (g_V (C := RX4) (T := TX4) (N := 14) (nA := 2) (As := [.int (nI b), .int 0]) (rest := []) F 61 hL.1 (by decide) rfl (c_X4_of h hb (w := 0) (by decide)) gX4_chosen_X4_of rfl (by decide +kernel) rfl ⟨Nat.le_of_ble_eq_true rfl, Nat.le_of_ble_eq_true rfl⟩ ⟨Nat.le_of_ble_eq_true rfl, Nat.le_of_ble_eq_true rfl⟩ rfl (Nat.le_of_ble_eq_true rfl) dX4_chosen_3) (fun r_1 u_1 hp_1 => ?_)
  obtain ⟨rfl, rfl⟩ := hp_1
  refine r_iconst (v := 1) F (by decide) dX4_chosen_6 ?_
  refine r_icmp_ne F 14 (by decide) dX4_chosen_7 (fun c_7_2 => ?_) (fun c_7_2 => ?_)
  · skip
    refine r_iload_n F 2 rfl dX4_chosen_14 ?_
    refine r_iconst (v := 1) F (by decide) dX4_chosen_15 ?_
    refine r_icmp_eq F 28 (by decide) dX4_chosen_16 (fun c_16_3 => ?_) (fun c_16_3 => ?_)
    · skip
      refine r_bipush (v := 99) F (by decide) dX4_chosen_28 ?_
      refine r_goto F 34 (by decide) dX4_chosen_30 ?_
      exact hret _ _ _ _ _ _ (Nat.le_of_ble_eq_true rfl) (Nat.le_of_ble_eq_true rfl) ⟨by subst hx; cases f <;> simp_all [chB, bI], rfl⟩ dX4_chosen_34
    · skip
      refine r_aload_n F 0 rfl dX4_chosen_19 ?_
      refine r_iload_n F 1 rfl dX4_chosen_20 ?_
      refine r_iconst (v := 3) F (by decide) dX4_chosen_21 ?_
      refine r_calli (g_V (C := RX4) (T := TX4) (N := 14) (nA := 2) (As := [.int (nI b), .int 3]) (rest := []) F 61 hL.1 (by decide) rfl (c_X4_of h hb (w := 3) (by decide)) gX4_chosen_X4_of rfl (by decide +kernel) rfl ⟨Nat.le_of_ble_eq_true rfl, Nat.le_of_ble_eq_true rfl⟩ ⟨Nat.le_of_ble_eq_true rfl, Nat.le_of_ble_eq_true rfl⟩ rfl (Nat.le_of_ble_eq_true rfl) dX4_chosen_22) (fun r_4 u_4 hp_4 => ?_)
      obtain ⟨rfl, rfl⟩ := hp_4
      refine r_if_ne F 33 (by decide) dX4_chosen_25 (fun c_25_5 => ?_) (fun c_25_5 => ?_)
      · skip
        refine r_iconst (v := 0) F (by decide) dX4_chosen_33 ?_
        exact hret _ _ _ _ _ _ (Nat.le_of_ble_eq_true rfl) (Nat.le_of_ble_eq_true rfl) ⟨by subst hx; cases f <;> simp_all [chB, bI], rfl⟩ dX4_chosen_34
      · skip
        refine r_bipush (v := 99) F (by decide) dX4_chosen_28 ?_
        refine r_goto F 34 (by decide) dX4_chosen_30 ?_
        exact hret _ _ _ _ _ _ (Nat.le_of_ble_eq_true rfl) (Nat.le_of_ble_eq_true rfl) ⟨by subst hx; cases f <;> simp_all [chB, bI], rfl⟩ dX4_chosen_34
  · skip
    refine r_iload_n F 2 rfl dX4_chosen_10 ?_
    refine r_goto F 34 (by decide) dX4_chosen_11 ?_
    exact hret _ _ _ _ _ _ (Nat.le_of_ble_eq_true rfl) (Nat.le_of_ble_eq_true rfl) ⟨by subst hx; cases f <;> simp_all [chB, bI], rfl⟩ dX4_chosen_34
set_option maxHeartbeats 4000000 in
set_option maxRecDepth 100000 in
theorem c_X4_fewest {g : kG} {l : Launch} {u : Nat → va_E} {th rm sp wr : Int32} {hs : Int64} {VA RD CH WE : Nat → Int32} {n m t : Nat} {B : kB} {S : Nat → kS} {C : Nat → Int32}  (h : MdX g u th rm sp wr hs VA RD CH WE n B m S t C) (hw : wfB n B) : CI g l yX4_fewest wsX4_fewest ({ frames := 4, cells := 0, slots := 0, locals := 91 }) [.ref (g.2.1 61)] u (fun r u' => r = sho B n ∧ (∃ CH' WE', MdX g u' th rm sp wr hs VA RD CH' WE' n B m S t C) ∧ ∀ j, ¬ (61 ≤ j ∧ j < 69) → u' j = u j) := by
  refine CI.of (cc := cX4_fewest) (nL := 7) (ty := .int) (by decide +kernel) rfl (fun _ _ _ => rfl) (Nat.le_of_ble_eq_true rfl) ?_
  intro X hXl F hret
  subst hXl
  have hinX4 : ∀ w ∈ wsX40, w ∈ wsX4_fewest := by decide +kernel
  obtain ⟨Z, SV, BF, hL, hZ, hSV, hBF, hn16, hm6, ht60⟩ := id h
  show VL g X 0 0 u 0 [(0, .ref (g.2.1 61))] []
  refine r_iconst (v := 0) F (by decide) dX4_fewest_0 ?_
  refine r_istore_n (lv' := [(0, .ref (g.2.1 61)), (1, .int 0)]) F (by decide) rfl dX4_fewest_1 ?_
  refine r_iconst (v := 0) F (by decide) dX4_fewest_2 ?_
  refine r_istore_n (lv' := [(0, .ref (g.2.1 61)), (1, .int 0), (2, .int 0)]) F (by decide) rfl dX4_fewest_3 ?_
  have loop_4 : ∀ (k : Nat) (j : Nat) (CHx WEx : Nat → Int32) (w : Nat → va_E) (x1_4 : Int32) (x2_4 : Int32), j + k = n → MdX g w th rm sp wr hs VA RD CHx WEx n B m S t C → (∀ b, b < j → mtB B b = true → CHx (cnK b (mtB B)) = nI b) → (∀ b, b < j → WEx b = bI (qEmp B b)) → (∀ j, ¬ (61 ≤ j ∧ j < 69) → w j = u j) → x1_4 = nI (cnK j (mtB B)) → x2_4 = nI j → VL g X 0 0 w 4 [(0, .ref (g.2.1 61)), (1, .int x1_4), (2, .int x2_4)] [] := by
    intro k
    induction k with
    | zero =>
      rintro j CHx WEx w x1_4 x2_4 hk_j hXw hCH hWE hfw rfl rfl
      obtain ⟨Z_91, SV_91, BF_91, hL_91, hZ_91, hSV_91, hBF_91, hn_91, hm_91, ht_91⟩ := id hXw
      have hjn : n = j := by omega
      subst hjn
      refine r_iload_n F 2 rfl dX4_fewest_4 ?_
      refine r_aload_n F 0 rfl dX4_fewest_5 ?_
      refine r_get (C := RX4) (T := TX4) (N := 14) F 61 hL_91.1 (by decide) hinX4 rfl 1 (by decide) (by decide +kernel) rfl dX4_fewest_6 ?_
      refine r_iconst (v := 0) F (by decide) dX4_fewest_9 ?_
      refine r_iald F 62 hL_91.2.1 (by decide) (vp_in_nI (n := 0) (by decide) (by decide)) dX4_fewest_10 ?_
      refine r_eq (st2 := [.int (nI n), .int (nI n)]) (by rw [show Z_91 (0 : Int32).toNatClampNeg = nI n from hZ_91.1]) rfl ?_
      refine r_icmp_ge F 128 (by decide) dX4_fewest_11 (fun c_11_2 => ?_) (fun c_11_2 => absurd (Int32.le_refl _) c_11_2)
      clear c_11_2
      obtain ⟨K, hK⟩ : ∃ K, K = cnK n (mtB B) := ⟨_, rfl⟩
      have hK16 : K ≤ 16 := by rw [hK]; exact Nat.le_trans cnK_le hn16
      obtain ⟨M, hM⟩ : ∃ M, M = 2 ^ K := ⟨_, rfl⟩
      have hM16 : M ≤ 65536 := by rw [hM]; exact Nat.pow_le_pow_right (by decide) hK16
      rw [← hK]
      refine r_bipush (v := 16) F (by decide) dX4_fewest_128 ?_
      refine r_istore_n (lv' := [(0, .ref (g.2.1 61)), (1, .int (nI K)), (2, .int 16)]) F (by decide) rfl dX4_fewest_130 ?_
      refine r_iconst (v := 0) F (by decide) dX4_fewest_131 ?_
      refine r_istore_n (lv' := [(0, .ref (g.2.1 61)), (1, .int (nI K)), (2, .int 16), (3, .int 0)]) F (by decide) rfl dX4_fewest_132 ?_
      have loop_133 : ∀ (k : Nat) (c : Nat) (W : kB) (w2 : Nat → va_E) (x2_133 : Int32) (x3_133 : Int32), c + k = M → MdX g w2 th rm sp wr hs VA RD CHx WEx n W m S t C → simB B n W → (∀ j, ¬ (61 ≤ j ∧ j < 69) → w2 j = u j) → x2_133 = nI (fwN (fwF B n) c) → x3_133 = nI c → VL g X 0 0 w2 133 [(0, .ref (g.2.1 61)), (1, .int (nI K)), (2, .int x2_133), (3, .int x3_133)] [] := by
        intro k
        induction k with
        | zero =>
          rintro c W w2 x2_133 x3_133 hk_c hX2 hSim hf2 rfl rfl
          obtain ⟨Z_92, SV_92, BF_92, hL_92, hZ_92, hSV_92, hBF_92, hn_92, hm_92, ht_92⟩ := id hX2
          have hjn : M = c := by omega
          subst hjn
          refine r_iload_n F 3 rfl dX4_fewest_133 ?_
          refine r_iconst (v := 1) F (by decide) dX4_fewest_134 ?_
          refine r_iload_n F 1 rfl dX4_fewest_135 ?_
          refine r_ishl F dX4_fewest_136 ?_
          refine r_eq (st2 := [.int (nI M), .int (nI M)]) (by rw [sh1 K hK16, hM]) rfl ?_
          refine r_icmp_ge F 263 (by decide) dX4_fewest_137 (fun c_137_4 => ?_) (fun c_137_4 => absurd (Int32.le_refl _) c_137_4)
          clear c_137_4
          refine r_iconst (v := 0) F (by decide) dX4_fewest_263 ?_
          refine r_istore_n (lv' := [(0, .ref (g.2.1 61)), (1, .int (nI K)), (2, .int (nI (fwN (fwF B n) M))), (3, .int 0)]) F (by decide) rfl dX4_fewest_264 ?_
          have loop_265 : ∀ (k : Nat) (i : Nat) (w5 : Nat → va_E) (x3_265 : Int32), i + k = K → MdX g w5 th rm sp wr hs VA RD CHx WEx n (clP B n i W) m S t C → (∀ j, ¬ (61 ≤ j ∧ j < 69) → w5 j = u j) → x3_265 = nI i → VL g X 0 0 w5 265 [(0, .ref (g.2.1 61)), (1, .int (nI K)), (2, .int (nI (fwN (fwF B n) M))), (3, .int x3_265)] [] := by
            intro k
            induction k with
            | zero =>
              rintro i w5 x3_265 hk_i hX5 hf5 rfl
              obtain ⟨Z_95, SV_95, BF_95, hL_95, hZ_95, hSV_95, hBF_95, hn_95, hm_95, ht_95⟩ := id hX5
              have hjn : K = i := by omega
              subst hjn
              refine r_iload_n F 3 rfl dX4_fewest_265 ?_
              refine r_iload_n F 1 rfl dX4_fewest_266 ?_
              refine r_icmp_ge F 288 (by decide) dX4_fewest_267 (fun c_267_6 => ?_) (fun c_267_6 => absurd (Int32.le_refl _) c_267_6)
              clear c_267_6
              refine r_iload_n F 2 rfl dX4_fewest_288 ?_
              have hX9 := hX5
              rw [clP_n hSim hK] at hX9
              exact hret _ _ _ _ _ _ (Nat.le_of_ble_eq_true rfl) (Nat.le_of_ble_eq_true rfl) ⟨by rw [sho_fw hw hn16, ← hK, ← hM], ⟨_, _, hX9⟩, hf5⟩ dX4_fewest_289
            | succ k ih_265 =>
              rintro i w5 x3_265 hk_i hX5 hf5 rfl
              obtain ⟨Z_95, SV_95, BF_95, hL_95, hZ_95, hSV_95, hBF_95, hn_95, hm_95, ht_95⟩ := id hX5
              have hbi : i < K := by omega
              obtain ⟨b, hbn, hmb, hci⟩ := cnK_at (P := mtB B) (n := n) (i := i) (by omega)
              have hCi : CHx i = nI b := by rw [← hci]; exact hCH b hbn hmb
              refine r_iload_n F 3 rfl dX4_fewest_265 ?_
              refine r_iload_n F 1 rfl dX4_fewest_266 ?_
              refine r_icmp_ge F 288 (by decide) dX4_fewest_267 (fun c_267_7 => absurd c_267_7 (nI_ge (b := K) hbi (by omega))) (fun c_267_7 => ?_)
              clear c_267_7
              refine r_aload_n F 0 rfl dX4_fewest_270 ?_
              refine r_aload_n F 0 rfl dX4_fewest_271 ?_
              refine r_get (C := RX4) (T := TX4) (N := 14) F 61 hL_95.1 (by decide) hinX4 rfl 11 (by decide) (by decide +kernel) rfl dX4_fewest_272 ?_
              refine r_iload_n F 3 rfl dX4_fewest_275 ?_
              refine r_iald F 67 hL_95.2.2.2.2.2.2.1 (by decide) (vp_in_nI (by omega) (by decide)) dX4_fewest_276 ?_
              refine r_eq (st2 := [.int (nI b), .ref (g.2.1 61)]) (by rw [nI_clamp (by omega), hCi]) rfl ?_
              refine r_iconst (v := 4) F (by decide) dX4_fewest_277 ?_
              refine r_iconst (v := -1) F (by decide) dX4_fewest_278 ?_
              refine r_callv (g_V (C := RX4) (T := TX4) (N := 14) (nA := 3) (As := [.int (nI b), .int 4, .int (-1)]) (rest := []) F 61 hL_95.1 (by decide) rfl (c_X4_lay hL_95 (by omega) (w := 4) (by decide)) gX4_fewest_X4_lay rfl (by decide +kernel) rfl ⟨Nat.le_of_ble_eq_true rfl, Nat.le_of_ble_eq_true rfl⟩ ⟨Nat.le_of_ble_eq_true rfl, Nat.le_of_ble_eq_true rfl⟩ rfl (Nat.le_of_ble_eq_true rfl) dX4_fewest_279) (fun u_8 hp_8 => ?_)
              obtain ⟨hL_8, hk_8⟩ := hp_8
              have hf_9 : ∀ j, ¬ (61 ≤ j ∧ j < 69) → u_8 j = u j := fun j hj => (show u_8 j = w5 j from hk_8 j hj).trans (hf5 j hj)
              have hX_10 : MdX g u_8 th rm sp wr hs VA RD CHx WEx n (bUp (clP B n i W) b 4 (-1)) m S t C := ⟨_, _, _, hL_8, hZ_95.up, hSV_95, hBF_95, hn_95, hm_95, ht_95⟩
              refine r_iinc (lv' := [(0, .ref (g.2.1 61)), (1, .int (nI K)), (2, .int (nI (fwN (fwF B n) M))), (3, .int (nI (i + 1)))]) F 3 rfl (nI_inc _) (by decide) rfl dX4_fewest_282 ?_
              refine r_goto F 265 (by decide) dX4_fewest_285 ?_
              exact ih_265 (i + 1) _ _ (by omega) (clP_s hbn hmb hci ▸ hX_10) hf_9 rfl
          exact loop_265 K 0 w2 _ (by omega) (by rw [clP_0]; exact hX2) hf2 rfl
        | succ k ih_133 =>
          rintro c W w2 x2_133 x3_133 hk_c hX2 hSim hf2 rfl rfl
          obtain ⟨Z_92, SV_92, BF_92, hL_92, hZ_92, hSV_92, hBF_92, hn_92, hm_92, ht_92⟩ := id hX2
          have hbj : c < M := by omega
          refine r_iload_n F 3 rfl dX4_fewest_133 ?_
          refine r_iconst (v := 1) F (by decide) dX4_fewest_134 ?_
          refine r_iload_n F 1 rfl dX4_fewest_135 ?_
          refine r_ishl F dX4_fewest_136 ?_
          refine r_eq (st2 := [.int (nI M), .int (nI c)]) (by rw [sh1 K hK16, hM]) rfl ?_
          refine r_icmp_ge F 263 (by decide) dX4_fewest_137 (fun c_137_11 => absurd c_137_11 (nI_ge (b := M) hbj (by omega))) (fun c_137_11 => ?_)
          clear c_137_11
          refine r_iconst (v := 0) F (by decide) dX4_fewest_140 ?_
          refine r_istore (lv' := [(0, .ref (g.2.1 61)), (1, .int (nI K)), (2, .int (nI (fwN (fwF B n) c))), (3, .int (nI c)), (4, .int 0)]) F (by decide) rfl dX4_fewest_141 ?_
          have loop_143 : ∀ (k : Nat) (i : Nat) (w3 : Nat → va_E) (x4_143 : Int32), i + k = K → MdX g w3 th rm sp wr hs VA RD CHx WEx n (asgP B n c i W) m S t C → (∀ j, ¬ (61 ≤ j ∧ j < 69) → w3 j = u j) → x4_143 = nI i → VL g X 0 0 w3 143 [(0, .ref (g.2.1 61)), (1, .int (nI K)), (2, .int (nI (fwN (fwF B n) c))), (3, .int (nI c)), (4, .int x4_143)] [] := by
            intro k
            induction k with
            | zero =>
              rintro i w3 x4_143 hk_i hX3 hf3 rfl
              obtain ⟨Z_93, SV_93, BF_93, hL_93, hZ_93, hSV_93, hBF_93, hn_93, hm_93, ht_93⟩ := id hX3
              have hjn : K = i := by omega
              subst hjn
              refine r_iload F 4 rfl dX4_fewest_143 ?_
              refine r_iload_n F 1 rfl dX4_fewest_145 ?_
              refine r_icmp_ge F 184 (by decide) dX4_fewest_146 (fun c_146_13 => ?_) (fun c_146_13 => absurd (Int32.le_refl _) c_146_13)
              clear c_146_13
              have hX_14 := hX3
              rw [asgP_n hSim hK] at hX_14
              obtain ⟨Z_14, SV_14, BF_14, hL_14, hZ_14, hSV_14, hBF_14, hn_14, hm_14, ht_14⟩ := id hX_14
              refine r_aload_n F 0 rfl dX4_fewest_184 ?_
              refine r_calli (g_V (C := RX4) (T := TX4) (N := 14) (nA := 0) (As := []) (rest := []) F 61 hL_14.1 (by decide) rfl (c_X4_open hX_14 ) gX4_fewest_X4_open rfl (by decide +kernel) rfl ⟨Nat.le_of_ble_eq_true rfl, Nat.le_of_ble_eq_true rfl⟩ ⟨Nat.le_of_ble_eq_true rfl, Nat.le_of_ble_eq_true rfl⟩ rfl (Nat.le_of_ble_eq_true rfl) dX4_fewest_185) (fun r_15 u_15 hp_15 => ?_)
              obtain ⟨rfl, rfl⟩ := hp_15
              refine r_istore (lv' := [(0, .ref (g.2.1 61)), (1, .int (nI K)), (2, .int (nI (fwN (fwF B n) c))), (3, .int (nI c)), (4, .int (opm (asgC B n c) n))]) F (by decide) rfl dX4_fewest_188 ?_
              refine r_iconst (v := 0) F (by decide) dX4_fewest_190 ?_
              refine r_istore (lv' := [(0, .ref (g.2.1 61)), (1, .int (nI K)), (2, .int (nI (fwN (fwF B n) c))), (3, .int (nI c)), (4, .int (opm (asgC B n c) n)), (5, .int 0)]) F (by decide) rfl dX4_fewest_191 ?_
              refine r_iconst (v := 0) F (by decide) dX4_fewest_193 ?_
              refine r_istore (lv' := [(0, .ref (g.2.1 61)), (1, .int (nI K)), (2, .int (nI (fwN (fwF B n) c))), (3, .int (nI c)), (4, .int (opm (asgC B n c) n)), (5, .int 0), (6, .int 0)]) F (by decide) rfl dX4_fewest_194 ?_
              have loop_196 : ∀ (k : Nat) (i : Nat) (x5_196 : Int32) (x6_196 : Int32), i + k = n → x5_196 = cntN i (qWts B (opm (asgC B n c) n)) → x6_196 = nI i → VL g X 0 0 w3 196 [(0, .ref (g.2.1 61)), (1, .int (nI K)), (2, .int (nI (fwN (fwF B n) c))), (3, .int (nI c)), (4, .int (opm (asgC B n c) n)), (5, .int x5_196), (6, .int x6_196)] [] := by
                intro k
                induction k with
                | zero =>
                  rintro i x5_196 x6_196 hk_i rfl rfl
                  have hjn : n = i := by omega
                  subst hjn
                  refine r_iload F 6 rfl dX4_fewest_196 ?_
                  refine r_aload_n F 0 rfl dX4_fewest_198 ?_
                  refine r_get (C := RX4) (T := TX4) (N := 14) F 61 hL_14.1 (by decide) hinX4 rfl 1 (by decide) (by decide +kernel) rfl dX4_fewest_199 ?_
                  refine r_iconst (v := 0) F (by decide) dX4_fewest_202 ?_
                  refine r_iald F 62 hL_14.2.1 (by decide) (vp_in_nI (n := 0) (by decide) (by decide)) dX4_fewest_203 ?_
                  refine r_eq (st2 := [.int (nI n), .int (nI n)]) (by rw [show Z_14 (0 : Int32).toNatClampNeg = nI n from hZ_14.1]) rfl ?_
                  refine r_icmp_ge F 244 (by decide) dX4_fewest_204 (fun c_204_17 => ?_) (fun c_204_17 => absurd (Int32.le_refl _) c_204_17)
                  clear c_204_17
                  rw [show cntN n (qWts B (opm (asgC B n c) n)) = nI (fwF B n c) from cntN_K]
                  have hF16 : fwF B n c ≤ 16 := Nat.le_trans cnK_le hn16
                  have hN16 : fwN (fwF B n) c ≤ 16 := fwN_16 c
                  refine r_iload F 5 rfl dX4_fewest_244 ?_
                  refine r_iload_n F 2 rfl dX4_fewest_246 ?_
                  refine r_icmp_ge F 255 (by decide) dX4_fewest_247 (fun c_247_18 => ?_) (fun c_247_18 => ?_)
                  · skip
                    have hlt_c_247_18 : ¬ fwF B n c < fwN (fwF B n) c := fun z => absurd ((nI_ltI (by omega) (by omega)).mpr z) (Int32.not_lt.mpr c_247_18)
                    refine r_iload_n F 2 rfl dX4_fewest_255 ?_
                    refine r_istore_n (lv' := [(0, .ref (g.2.1 61)), (1, .int (nI K)), (2, .int (nI (fwN (fwF B n) c))), (3, .int (nI c)), (4, .int (opm (asgC B n c) n)), (5, .int (nI (fwF B n c))), (6, .int (nI n))]) F (by decide) rfl dX4_fewest_256 ?_
                    refine r_iinc (lv' := [(0, .ref (g.2.1 61)), (1, .int (nI K)), (2, .int (nI (fwN (fwF B n) c))), (3, .int (nI (c + 1))), (4, .int (opm (asgC B n c) n)), (5, .int (nI (fwF B n c))), (6, .int (nI n))]) F 3 rfl (nI_inc _) (by decide) rfl dX4_fewest_257 ?_
                    refine r_goto F 133 (by decide) dX4_fewest_260 ?_
                    refine r_lv (lv2 := [(0, .ref (g.2.1 61)), (1, .int (nI K)), (2, .int (nI (fwN (fwF B n) c))), (3, .int (nI (c + 1)))]) (by simp) ?_
                    exact ih_133 (c + 1) (asgC B n c) _ _ _ (by omega) hX_14 simB.c hf3 (by rw [fwN, if_neg hlt_c_247_18]) rfl
                  · skip
                    have hlt_c_247_18 : fwF B n c < fwN (fwF B n) c := (nI_ltI (by omega) (by omega)).mp (Int32.not_le.mp c_247_18)
                    refine r_iload F 5 rfl dX4_fewest_250 ?_
                    refine r_goto F 256 (by decide) dX4_fewest_252 ?_
                    refine r_istore_n (lv' := [(0, .ref (g.2.1 61)), (1, .int (nI K)), (2, .int (nI (fwF B n c))), (3, .int (nI c)), (4, .int (opm (asgC B n c) n)), (5, .int (nI (fwF B n c))), (6, .int (nI n))]) F (by decide) rfl dX4_fewest_256 ?_
                    refine r_iinc (lv' := [(0, .ref (g.2.1 61)), (1, .int (nI K)), (2, .int (nI (fwF B n c))), (3, .int (nI (c + 1))), (4, .int (opm (asgC B n c) n)), (5, .int (nI (fwF B n c))), (6, .int (nI n))]) F 3 rfl (nI_inc _) (by decide) rfl dX4_fewest_257 ?_
                    refine r_goto F 133 (by decide) dX4_fewest_260 ?_
                    refine r_lv (lv2 := [(0, .ref (g.2.1 61)), (1, .int (nI K)), (2, .int (nI (fwF B n c))), (3, .int (nI (c + 1)))]) (by simp) ?_
                    exact ih_133 (c + 1) (asgC B n c) _ _ _ (by omega) hX_14 simB.c hf3 (by rw [fwN, if_pos hlt_c_247_18]) rfl
                | succ k ih_196 =>
                  rintro i x5_196 x6_196 hk_i rfl rfl
                  have hbi : i < n := by omega
                  refine r_iload F 6 rfl dX4_fewest_196 ?_
                  refine r_aload_n F 0 rfl dX4_fewest_198 ?_
                  refine r_get (C := RX4) (T := TX4) (N := 14) F 61 hL_14.1 (by decide) hinX4 rfl 1 (by decide) (by decide +kernel) rfl dX4_fewest_199 ?_
                  refine r_iconst (v := 0) F (by decide) dX4_fewest_202 ?_
                  refine r_iald F 62 hL_14.2.1 (by decide) (vp_in_nI (n := 0) (by decide) (by decide)) dX4_fewest_203 ?_
                  refine r_eq (st2 := [.int (nI n), .int (nI i)]) (by rw [show Z_14 (0 : Int32).toNatClampNeg = nI n from hZ_14.1]) rfl ?_
                  refine r_icmp_ge F 244 (by decide) dX4_fewest_204 (fun c_204_19 => absurd c_204_19 (nI_ge (b := n) hbi (by omega))) (fun c_204_19 => ?_)
                  clear c_204_19
                  refine r_iload F 5 rfl dX4_fewest_207 ?_
                  refine r_aload_n F 0 rfl dX4_fewest_209 ?_
                  refine r_get (C := RX4) (T := TX4) (N := 14) F 61 hL_14.1 (by decide) hinX4 rfl 12 (by decide) (by decide +kernel) rfl dX4_fewest_210 ?_
                  refine r_iload F 6 rfl dX4_fewest_213 ?_
                  refine r_zald F 68 hL_14.2.2.2.2.2.2.2 (by decide) (vp_in_nI (by omega) (by decide)) dX4_fewest_215 ?_
                  refine r_eq (st2 := [.int (bI (qEmp B i)), .int (cntN i (qWts B (opm (asgC B n c) n)))]) (by rw [nI_clamp (by omega), hWE i hbi]) rfl ?_
                  refine r_if_eq F 234 (by decide) dX4_fewest_216 (fun c_216_20 => ?_) (fun c_216_20 => ?_)
                  · skip
                    replace c_216_20 := bI0 c_216_20
                    refine r_iconst (v := 0) F (by decide) dX4_fewest_234 ?_
                    refine r_iadd F dX4_fewest_235 ?_
                    refine r_istore (lv' := [(0, .ref (g.2.1 61)), (1, .int (nI K)), (2, .int (nI (fwN (fwF B n) c))), (3, .int (nI c)), (4, .int (opm (asgC B n c) n)), (5, .int ((cntN i (qWts B (opm (asgC B n c) n))) + 0)), (6, .int (nI i))]) F (by decide) rfl dX4_fewest_236 ?_
                    refine r_iinc (lv' := [(0, .ref (g.2.1 61)), (1, .int (nI K)), (2, .int (nI (fwN (fwF B n) c))), (3, .int (nI c)), (4, .int (opm (asgC B n c) n)), (5, .int ((cntN i (qWts B (opm (asgC B n c) n))) + 0)), (6, .int (nI (i + 1)))]) F 6 rfl (nI_inc _) (by decide) rfl dX4_fewest_238 ?_
                    refine r_goto F 196 (by decide) dX4_fewest_241 ?_
                    exact ih_196 (i + 1) _ _ (by omega) (by simp [cntN, qWts, bI, c_216_20]) rfl
                  · skip
                    replace c_216_20 := bI1 c_216_20
                    refine r_aload_n F 0 rfl dX4_fewest_219 ?_
                    refine r_iload F 6 rfl dX4_fewest_220 ?_
                    refine r_iload F 4 rfl dX4_fewest_222 ?_
                    refine r_calli (g_V (C := RX4) (T := TX4) (N := 14) (nA := 2) (As := [.int (nI i), .int (opm (asgC B n c) n)]) (rest := [.int (cntN i (qWts B (opm (asgC B n c) n)))]) F 61 hL_14.1 (by decide) rfl (c_X4_isTold hX_14 hbi) gX4_fewest_X4_isTold rfl (by decide +kernel) rfl ⟨Nat.le_of_ble_eq_true rfl, Nat.le_of_ble_eq_true rfl⟩ ⟨Nat.le_of_ble_eq_true rfl, Nat.le_of_ble_eq_true rfl⟩ rfl (Nat.le_of_ble_eq_true rfl) dX4_fewest_224) (fun r_21 u_21 hp_21 => ?_)
                    obtain ⟨rfl, rfl⟩ := hp_21
                    refine r_if_eq F 234 (by decide) dX4_fewest_227 (fun c_227_22 => ?_) (fun c_227_22 => ?_)
                    · skip
                      replace c_227_22 := bI0 c_227_22
                      rw [qOpn_C] at c_227_22
                      refine r_iconst (v := 0) F (by decide) dX4_fewest_234 ?_
                      refine r_iadd F dX4_fewest_235 ?_
                      refine r_istore (lv' := [(0, .ref (g.2.1 61)), (1, .int (nI K)), (2, .int (nI (fwN (fwF B n) c))), (3, .int (nI c)), (4, .int (opm (asgC B n c) n)), (5, .int ((cntN i (qWts B (opm (asgC B n c) n))) + 0)), (6, .int (nI i))]) F (by decide) rfl dX4_fewest_236 ?_
                      refine r_iinc (lv' := [(0, .ref (g.2.1 61)), (1, .int (nI K)), (2, .int (nI (fwN (fwF B n) c))), (3, .int (nI c)), (4, .int (opm (asgC B n c) n)), (5, .int ((cntN i (qWts B (opm (asgC B n c) n))) + 0)), (6, .int (nI (i + 1)))]) F 6 rfl (nI_inc _) (by decide) rfl dX4_fewest_238 ?_
                      refine r_goto F 196 (by decide) dX4_fewest_241 ?_
                      exact ih_196 (i + 1) _ _ (by omega) (by simp [cntN, qWts, bI, c_216_20, c_227_22]) rfl
                    · skip
                      replace c_227_22 := bI1 c_227_22
                      rw [qOpn_C] at c_227_22
                      refine r_iconst (v := 1) F (by decide) dX4_fewest_230 ?_
                      refine r_goto F 235 (by decide) dX4_fewest_231 ?_
                      refine r_iadd F dX4_fewest_235 ?_
                      refine r_istore (lv' := [(0, .ref (g.2.1 61)), (1, .int (nI K)), (2, .int (nI (fwN (fwF B n) c))), (3, .int (nI c)), (4, .int (opm (asgC B n c) n)), (5, .int ((cntN i (qWts B (opm (asgC B n c) n))) + 1)), (6, .int (nI i))]) F (by decide) rfl dX4_fewest_236 ?_
                      refine r_iinc (lv' := [(0, .ref (g.2.1 61)), (1, .int (nI K)), (2, .int (nI (fwN (fwF B n) c))), (3, .int (nI c)), (4, .int (opm (asgC B n c) n)), (5, .int ((cntN i (qWts B (opm (asgC B n c) n))) + 1)), (6, .int (nI (i + 1)))]) F 6 rfl (nI_inc _) (by decide) rfl dX4_fewest_238 ?_
                      refine r_goto F 196 (by decide) dX4_fewest_241 ?_
                      exact ih_196 (i + 1) _ _ (by omega) (by simp [cntN, qWts, bI, c_216_20, c_227_22]) rfl
              exact loop_196 n 0 _ _ (by omega) rfl rfl
            | succ k ih_143 =>
              rintro i w3 x4_143 hk_i hX3 hf3 rfl
              obtain ⟨Z_93, SV_93, BF_93, hL_93, hZ_93, hSV_93, hBF_93, hn_93, hm_93, ht_93⟩ := id hX3
              have hbi : i < K := by omega
              obtain ⟨b, hbn, hmb, hci⟩ := cnK_at (P := mtB B) (n := n) (i := i) (by omega)
              have hCi : CHx i = nI b := by rw [← hci]; exact hCH b hbn hmb
              refine r_iload F 4 rfl dX4_fewest_143 ?_
              refine r_iload_n F 1 rfl dX4_fewest_145 ?_
              refine r_icmp_ge F 184 (by decide) dX4_fewest_146 (fun c_146_23 => absurd c_146_23 (nI_ge (b := K) hbi (by omega))) (fun c_146_23 => ?_)
              clear c_146_23
              refine r_aload_n F 0 rfl dX4_fewest_149 ?_
              refine r_aload_n F 0 rfl dX4_fewest_150 ?_
              refine r_get (C := RX4) (T := TX4) (N := 14) F 61 hL_93.1 (by decide) hinX4 rfl 11 (by decide) (by decide +kernel) rfl dX4_fewest_151 ?_
              refine r_iload F 4 rfl dX4_fewest_154 ?_
              refine r_iald F 67 hL_93.2.2.2.2.2.2.1 (by decide) (vp_in_nI (by omega) (by decide)) dX4_fewest_156 ?_
              refine r_eq (st2 := [.int (nI b), .ref (g.2.1 61)]) (by rw [nI_clamp (by omega), hCi]) rfl ?_
              refine r_iconst (v := 4) F (by decide) dX4_fewest_157 ?_
              refine r_aload_n F 0 rfl dX4_fewest_158 ?_
              refine r_aload_n F 0 rfl dX4_fewest_159 ?_
              refine r_get (C := RX4) (T := TX4) (N := 14) F 61 hL_93.1 (by decide) hinX4 rfl 11 (by decide) (by decide +kernel) rfl dX4_fewest_160 ?_
              refine r_iload F 4 rfl dX4_fewest_163 ?_
              refine r_iald F 67 hL_93.2.2.2.2.2.2.1 (by decide) (vp_in_nI (by omega) (by decide)) dX4_fewest_165 ?_
              refine r_eq (st2 := [.int (nI b), .ref (g.2.1 61), .int 4, .int (nI b), .ref (g.2.1 61)]) (by rw [nI_clamp (by omega), hCi]) rfl ?_
              refine r_iload_n F 3 rfl dX4_fewest_166 ?_
              refine r_iload F 4 rfl dX4_fewest_167 ?_
              refine r_ishr F dX4_fewest_169 ?_
              refine r_iconst (v := 1) F (by decide) dX4_fewest_170 ?_
              refine r_iand F dX4_fewest_171 ?_
              refine r_calli (g_V (C := RX4) (T := TX4) (N := 14) (nA := 2) (As := [.int (nI b), .int (((nI c) >>> ((nI i) &&& 31)) &&& 1)]) (rest := [.int 4, .int (nI b), .ref (g.2.1 61)]) F 61 hL_93.1 (by decide) rfl (c_X4_chosen (f := (c.testBit i)) hX3 hbn (bit_i (by omega))) gX4_fewest_X4_chosen rfl (by decide +kernel) rfl ⟨Nat.le_of_ble_eq_true rfl, Nat.le_of_ble_eq_true rfl⟩ ⟨Nat.le_of_ble_eq_true rfl, Nat.le_of_ble_eq_true rfl⟩ rfl (Nat.le_of_ble_eq_true rfl) dX4_fewest_172) (fun r_24 u_24 hp_24 => ?_)
              obtain ⟨rfl, rfl⟩ := hp_24
              refine r_callv (g_V (C := RX4) (T := TX4) (N := 14) (nA := 3) (As := [.int (nI b), .int 4, .int (chB (asgP B n c i W) b (c.testBit i))]) (rest := []) F 61 hL_93.1 (by decide) rfl (c_X4_lay hL_93 (by omega) (w := 4) (by decide)) gX4_fewest_X4_lay rfl (by decide +kernel) rfl ⟨Nat.le_of_ble_eq_true rfl, Nat.le_of_ble_eq_true rfl⟩ ⟨Nat.le_of_ble_eq_true rfl, Nat.le_of_ble_eq_true rfl⟩ rfl (Nat.le_of_ble_eq_true rfl) dX4_fewest_175) (fun u_25 hp_25 => ?_)
              obtain ⟨hL_25, hk_25⟩ := hp_25
              have hf_26 : ∀ j, ¬ (61 ≤ j ∧ j < 69) → u_25 j = u j := fun j hj => (show u_25 j = w3 j from hk_25 j hj).trans (hf3 j hj)
              have hX_27 : MdX g u_25 th rm sp wr hs VA RD CHx WEx n (bUp (asgP B n c i W) b 4 (chB (asgP B n c i W) b (c.testBit i))) m S t C := ⟨_, _, _, hL_25, hZ_93.up, hSV_93, hBF_93, hn_93, hm_93, ht_93⟩
              refine r_iinc (lv' := [(0, .ref (g.2.1 61)), (1, .int (nI K)), (2, .int (nI (fwN (fwF B n) c))), (3, .int (nI c)), (4, .int (nI (i + 1)))]) F 4 rfl (nI_inc _) (by decide) rfl dX4_fewest_178 ?_
              refine r_goto F 143 (by decide) dX4_fewest_181 ?_
              exact ih_143 (i + 1) _ _ (by omega) (asgP_s hSim hbn hmb hci ▸ hX_27) hf_26 rfl
          exact loop_143 K 0 w2 _ (by omega) (by rw [asgP_0]; exact hX2) hf2 rfl
      exact loop_133 M 0 B w _ _ (by omega) hXw simB.r hfw rfl rfl
    | succ k ih_4 =>
      rintro j CHx WEx w x1_4 x2_4 hk_j hXw hCH hWE hfw rfl rfl
      obtain ⟨Z_91, SV_91, BF_91, hL_91, hZ_91, hSV_91, hBF_91, hn_91, hm_91, ht_91⟩ := id hXw
      have hbj : j < n := by omega
      refine r_iload_n F 2 rfl dX4_fewest_4 ?_
      refine r_aload_n F 0 rfl dX4_fewest_5 ?_
      refine r_get (C := RX4) (T := TX4) (N := 14) F 61 hL_91.1 (by decide) hinX4 rfl 1 (by decide) (by decide +kernel) rfl dX4_fewest_6 ?_
      refine r_iconst (v := 0) F (by decide) dX4_fewest_9 ?_
      refine r_iald F 62 hL_91.2.1 (by decide) (vp_in_nI (n := 0) (by decide) (by decide)) dX4_fewest_10 ?_
      refine r_eq (st2 := [.int (nI n), .int (nI j)]) (by rw [show Z_91 (0 : Int32).toNatClampNeg = nI n from hZ_91.1]) rfl ?_
      refine r_icmp_ge F 128 (by decide) dX4_fewest_11 (fun c_11_28 => absurd c_11_28 (nI_ge (b := n) hbj (by omega))) (fun c_11_28 => ?_)
      clear c_11_28
      refine r_aload_n F 0 rfl dX4_fewest_14 ?_
      refine r_get (C := RX4) (T := TX4) (N := 14) F 61 hL_91.1 (by decide) hinX4 rfl 12 (by decide) (by decide +kernel) rfl dX4_fewest_15 ?_
      refine r_iload_n F 2 rfl dX4_fewest_18 ?_
      refine r_aload_n F 0 rfl dX4_fewest_19 ?_
      refine r_iload_n F 2 rfl dX4_fewest_20 ?_
      refine r_iconst (v := 0) F (by decide) dX4_fewest_21 ?_
      refine r_calli (g_V (C := RX4) (T := TX4) (N := 14) (nA := 2) (As := [.int (nI j), .int 0]) (rest := [.int (nI j), .ref (g.2.1 68)]) F 61 hL_91.1 (by decide) rfl (c_X4_of hXw hbj (w := 0) (by decide)) gX4_fewest_X4_of rfl (by decide +kernel) rfl ⟨Nat.le_of_ble_eq_true rfl, Nat.le_of_ble_eq_true rfl⟩ ⟨Nat.le_of_ble_eq_true rfl, Nat.le_of_ble_eq_true rfl⟩ rfl (Nat.le_of_ble_eq_true rfl) dX4_fewest_22) (fun r_29 u_29 hp_29 => ?_)
      obtain ⟨rfl, rfl⟩ := hp_29
      refine r_iconst (v := 3) F (by decide) dX4_fewest_25 ?_
      refine r_icmp_eq F 43 (by decide) dX4_fewest_26 (fun c_26_30 => ?_) (fun c_26_30 => ?_)
      · skip
        refine r_iconst (v := 0) F (by decide) dX4_fewest_43 ?_
        refine r_zast F 68 hL_91.2.2.2.2.2.2.2 (by decide) (vp_in_nI (by omega) (by decide)) dX4_fewest_44 (fun u_31 hu_31 => ?_)
        have hL_32 := hL_91.upW (Z' := upd WEx j 0)
        rw [nI_clamp (by omega), show vp_nar .boolean 0 = 0 from by decide] at hu_31
        rw [← hu_31] at hL_32
        have hf_33 : ∀ j, ¬ (61 ≤ j ∧ j < 69) → u_31 j = u j := fun j hj => (show u_31 j = w j from (fun j hj => by rw [hu_31]; exact vne (by omega)) j hj).trans (hfw j hj)
        have hX_34 : MdX g u_31 th rm sp wr hs VA RD CHx (upd WEx j 0) n B m S t C := ⟨_, _, _, hL_32, hZ_91, hSV_91, hBF_91, hn_91, hm_91, ht_91⟩
        have hqe : 0 = bI (qEmp B j) := by simp [qEmp, bI, c_26_30]
        refine r_aload_n F 0 rfl dX4_fewest_45 ?_
        refine r_get (C := RX4) (T := TX4) (N := 14) F 61 hL_32.1 (by decide) hinX4 rfl 12 (by decide) (by decide +kernel) rfl dX4_fewest_46 ?_
        refine r_iload_n F 2 rfl dX4_fewest_49 ?_
        refine r_zald F 68 hL_32.2.2.2.2.2.2.2 (by decide) (vp_in_nI (by omega) (by decide)) dX4_fewest_50 ?_
        refine r_eq (st2 := [.int 0]) (by rw [nI_clamp (by omega), upd_eq]) rfl ?_
        refine r_if_eq F 88 (by decide) dX4_fewest_51 (fun c_51_35 => ?_) (fun c_51_35 => absurd c_51_35 (by decide))
        clear c_51_35
        refine r_iconst (v := 0) F (by decide) dX4_fewest_88 ?_
        refine r_istore_n (lv' := [(0, .ref (g.2.1 61)), (1, .int (nI (cnK j (mtB B)))), (2, .int (nI j)), (3, .int 0)]) F (by decide) rfl dX4_fewest_89 ?_
        have hmt : mtB B j = false := by simp [mtB, qEmp, c_26_30]
        have hcl := cnK_le (n := j) (P := mtB B)
        refine r_aload_n F 0 rfl dX4_fewest_90 ?_
        refine r_get (C := RX4) (T := TX4) (N := 14) F 61 hL_32.1 (by decide) hinX4 rfl 11 (by decide) (by decide +kernel) rfl dX4_fewest_91 ?_
        refine r_iload_n F 1 rfl dX4_fewest_94 ?_
        refine r_iload_n F 3 rfl dX4_fewest_95 ?_
        refine r_if_eq F 103 (by decide) dX4_fewest_96 (fun c_96_36 => ?_) (fun c_96_36 => absurd c_96_36 (by decide))
        clear c_96_36
        refine r_aload_n F 0 rfl dX4_fewest_103 ?_
        refine r_get (C := RX4) (T := TX4) (N := 14) F 61 hL_32.1 (by decide) hinX4 rfl 11 (by decide) (by decide +kernel) rfl dX4_fewest_104 ?_
        refine r_iload_n F 1 rfl dX4_fewest_107 ?_
        refine r_iald F 67 hL_32.2.2.2.2.2.2.1 (by decide) (vp_in_nI (by omega) (by decide)) dX4_fewest_108 ?_
        refine r_eq (st2 := [.int (CHx (cnK j (mtB B))), .int (nI (cnK j (mtB B))), .ref (g.2.1 67)]) (by rw [nI_clamp (by omega)]) rfl ?_
        refine r_iast F 67 hL_32.2.2.2.2.2.2.1 (by decide) (vp_in_nI (by omega) (by decide)) dX4_fewest_109 (fun u_37 hu_37 => ?_)
        have hL_38 := hL_32.upC (Z' := upd CHx (cnK j (mtB B)) (CHx (cnK j (mtB B))))
        rw [nI_clamp (by omega)] at hu_37
        rw [← hu_37] at hL_38
        have hf_39 : ∀ j, ¬ (61 ≤ j ∧ j < 69) → u_37 j = u j := fun j hj => (show u_37 j = u_31 j from (fun j hj => by rw [hu_37]; exact vne (by omega)) j hj).trans (hf_33 j hj)
        have hX_40 : MdX g u_37 th rm sp wr hs VA RD (upd CHx (cnK j (mtB B)) (CHx (cnK j (mtB B)))) (upd WEx j 0) n B m S t C := ⟨_, _, _, hL_38, hZ_91, hSV_91, hBF_91, hn_91, hm_91, ht_91⟩
        refine r_iload_n F 1 rfl dX4_fewest_110 ?_
        refine r_iload_n F 3 rfl dX4_fewest_111 ?_
        refine r_if_eq F 119 (by decide) dX4_fewest_112 (fun c_112_41 => ?_) (fun c_112_41 => absurd c_112_41 (by decide))
        clear c_112_41
        refine r_iconst (v := 0) F (by decide) dX4_fewest_119 ?_
        refine r_iadd F dX4_fewest_120 ?_
        refine r_istore_n (lv' := [(0, .ref (g.2.1 61)), (1, .int ((nI (cnK j (mtB B))) + 0)), (2, .int (nI j)), (3, .int 0)]) F (by decide) rfl dX4_fewest_121 ?_
        refine r_iinc (lv' := [(0, .ref (g.2.1 61)), (1, .int ((nI (cnK j (mtB B))) + 0)), (2, .int (nI (j + 1))), (3, .int 0)]) F 2 rfl (nI_inc _) (by decide) rfl dX4_fewest_122 ?_
        refine r_goto F 4 (by decide) dX4_fewest_125 ?_
        refine r_lv (lv2 := [(0, .ref (g.2.1 61)), (1, .int ((nI (cnK j (mtB B))) + 0)), (2, .int (nI (j + 1)))]) (by simp) ?_
        exact ih_4 (j + 1) _ _ _ _ _ (by omega) hX_40 (ch_f hCH hmt) (we_s hWE hqe) hf_39 (by rw [cnK, hmt]; simp) rfl
      · skip
        refine r_aload_n F 0 rfl dX4_fewest_29 ?_
        refine r_iload_n F 2 rfl dX4_fewest_30 ?_
        refine r_iconst (v := 4) F (by decide) dX4_fewest_31 ?_
        refine r_calli (g_V (C := RX4) (T := TX4) (N := 14) (nA := 2) (As := [.int (nI j), .int 4]) (rest := [.int (nI j), .ref (g.2.1 68)]) F 61 hL_91.1 (by decide) rfl (c_X4_of hXw hbj (w := 4) (by decide)) gX4_fewest_X4_of rfl (by decide +kernel) rfl ⟨Nat.le_of_ble_eq_true rfl, Nat.le_of_ble_eq_true rfl⟩ ⟨Nat.le_of_ble_eq_true rfl, Nat.le_of_ble_eq_true rfl⟩ rfl (Nat.le_of_ble_eq_true rfl) dX4_fewest_32) (fun r_42 u_42 hp_42 => ?_)
        obtain ⟨rfl, rfl⟩ := hp_42
        refine r_iconst (v := -1) F (by decide) dX4_fewest_35 ?_
        refine r_icmp_ne F 43 (by decide) dX4_fewest_36 (fun c_36_43 => ?_) (fun c_36_43 => ?_)
        · skip
          refine r_iconst (v := 0) F (by decide) dX4_fewest_43 ?_
          refine r_zast F 68 hL_91.2.2.2.2.2.2.2 (by decide) (vp_in_nI (by omega) (by decide)) dX4_fewest_44 (fun u_44 hu_44 => ?_)
          have hL_45 := hL_91.upW (Z' := upd WEx j 0)
          rw [nI_clamp (by omega), show vp_nar .boolean 0 = 0 from by decide] at hu_44
          rw [← hu_44] at hL_45
          have hf_46 : ∀ j, ¬ (61 ≤ j ∧ j < 69) → u_44 j = u j := fun j hj => (show u_44 j = w j from (fun j hj => by rw [hu_44]; exact vne (by omega)) j hj).trans (hfw j hj)
          have hX_47 : MdX g u_44 th rm sp wr hs VA RD CHx (upd WEx j 0) n B m S t C := ⟨_, _, _, hL_45, hZ_91, hSV_91, hBF_91, hn_91, hm_91, ht_91⟩
          have hqe : 0 = bI (qEmp B j) := by simp [qEmp, bI, c_26_30, c_36_43]
          refine r_aload_n F 0 rfl dX4_fewest_45 ?_
          refine r_get (C := RX4) (T := TX4) (N := 14) F 61 hL_45.1 (by decide) hinX4 rfl 12 (by decide) (by decide +kernel) rfl dX4_fewest_46 ?_
          refine r_iload_n F 2 rfl dX4_fewest_49 ?_
          refine r_zald F 68 hL_45.2.2.2.2.2.2.2 (by decide) (vp_in_nI (by omega) (by decide)) dX4_fewest_50 ?_
          refine r_eq (st2 := [.int 0]) (by rw [nI_clamp (by omega), upd_eq]) rfl ?_
          refine r_if_eq F 88 (by decide) dX4_fewest_51 (fun c_51_48 => ?_) (fun c_51_48 => absurd c_51_48 (by decide))
          clear c_51_48
          refine r_iconst (v := 0) F (by decide) dX4_fewest_88 ?_
          refine r_istore_n (lv' := [(0, .ref (g.2.1 61)), (1, .int (nI (cnK j (mtB B)))), (2, .int (nI j)), (3, .int 0)]) F (by decide) rfl dX4_fewest_89 ?_
          have hmt : mtB B j = false := by simp [mtB, qEmp, c_26_30, c_36_43]
          have hcl := cnK_le (n := j) (P := mtB B)
          refine r_aload_n F 0 rfl dX4_fewest_90 ?_
          refine r_get (C := RX4) (T := TX4) (N := 14) F 61 hL_45.1 (by decide) hinX4 rfl 11 (by decide) (by decide +kernel) rfl dX4_fewest_91 ?_
          refine r_iload_n F 1 rfl dX4_fewest_94 ?_
          refine r_iload_n F 3 rfl dX4_fewest_95 ?_
          refine r_if_eq F 103 (by decide) dX4_fewest_96 (fun c_96_49 => ?_) (fun c_96_49 => absurd c_96_49 (by decide))
          clear c_96_49
          refine r_aload_n F 0 rfl dX4_fewest_103 ?_
          refine r_get (C := RX4) (T := TX4) (N := 14) F 61 hL_45.1 (by decide) hinX4 rfl 11 (by decide) (by decide +kernel) rfl dX4_fewest_104 ?_
          refine r_iload_n F 1 rfl dX4_fewest_107 ?_
          refine r_iald F 67 hL_45.2.2.2.2.2.2.1 (by decide) (vp_in_nI (by omega) (by decide)) dX4_fewest_108 ?_
          refine r_eq (st2 := [.int (CHx (cnK j (mtB B))), .int (nI (cnK j (mtB B))), .ref (g.2.1 67)]) (by rw [nI_clamp (by omega)]) rfl ?_
          refine r_iast F 67 hL_45.2.2.2.2.2.2.1 (by decide) (vp_in_nI (by omega) (by decide)) dX4_fewest_109 (fun u_50 hu_50 => ?_)
          have hL_51 := hL_45.upC (Z' := upd CHx (cnK j (mtB B)) (CHx (cnK j (mtB B))))
          rw [nI_clamp (by omega)] at hu_50
          rw [← hu_50] at hL_51
          have hf_52 : ∀ j, ¬ (61 ≤ j ∧ j < 69) → u_50 j = u j := fun j hj => (show u_50 j = u_44 j from (fun j hj => by rw [hu_50]; exact vne (by omega)) j hj).trans (hf_46 j hj)
          have hX_53 : MdX g u_50 th rm sp wr hs VA RD (upd CHx (cnK j (mtB B)) (CHx (cnK j (mtB B)))) (upd WEx j 0) n B m S t C := ⟨_, _, _, hL_51, hZ_91, hSV_91, hBF_91, hn_91, hm_91, ht_91⟩
          refine r_iload_n F 1 rfl dX4_fewest_110 ?_
          refine r_iload_n F 3 rfl dX4_fewest_111 ?_
          refine r_if_eq F 119 (by decide) dX4_fewest_112 (fun c_112_54 => ?_) (fun c_112_54 => absurd c_112_54 (by decide))
          clear c_112_54
          refine r_iconst (v := 0) F (by decide) dX4_fewest_119 ?_
          refine r_iadd F dX4_fewest_120 ?_
          refine r_istore_n (lv' := [(0, .ref (g.2.1 61)), (1, .int ((nI (cnK j (mtB B))) + 0)), (2, .int (nI j)), (3, .int 0)]) F (by decide) rfl dX4_fewest_121 ?_
          refine r_iinc (lv' := [(0, .ref (g.2.1 61)), (1, .int ((nI (cnK j (mtB B))) + 0)), (2, .int (nI (j + 1))), (3, .int 0)]) F 2 rfl (nI_inc _) (by decide) rfl dX4_fewest_122 ?_
          refine r_goto F 4 (by decide) dX4_fewest_125 ?_
          refine r_lv (lv2 := [(0, .ref (g.2.1 61)), (1, .int ((nI (cnK j (mtB B))) + 0)), (2, .int (nI (j + 1)))]) (by simp) ?_
          exact ih_4 (j + 1) _ _ _ _ _ (by omega) hX_53 (ch_f hCH hmt) (we_s hWE hqe) hf_52 (by rw [cnK, hmt]; simp) rfl
        · skip
          refine r_iconst (v := 1) F (by decide) dX4_fewest_39 ?_
          refine r_goto F 44 (by decide) dX4_fewest_40 ?_
          refine r_zast F 68 hL_91.2.2.2.2.2.2.2 (by decide) (vp_in_nI (by omega) (by decide)) dX4_fewest_44 (fun u_55 hu_55 => ?_)
          have hL_56 := hL_91.upW (Z' := upd WEx j 1)
          rw [nI_clamp (by omega), show vp_nar .boolean 1 = 1 from by decide] at hu_55
          rw [← hu_55] at hL_56
          have hf_57 : ∀ j, ¬ (61 ≤ j ∧ j < 69) → u_55 j = u j := fun j hj => (show u_55 j = w j from (fun j hj => by rw [hu_55]; exact vne (by omega)) j hj).trans (hfw j hj)
          have hX_58 : MdX g u_55 th rm sp wr hs VA RD CHx (upd WEx j 1) n B m S t C := ⟨_, _, _, hL_56, hZ_91, hSV_91, hBF_91, hn_91, hm_91, ht_91⟩
          have hqe : 1 = bI (qEmp B j) := by simp [qEmp, bI, c_26_30, c_36_43]
          refine r_aload_n F 0 rfl dX4_fewest_45 ?_
          refine r_get (C := RX4) (T := TX4) (N := 14) F 61 hL_56.1 (by decide) hinX4 rfl 12 (by decide) (by decide +kernel) rfl dX4_fewest_46 ?_
          refine r_iload_n F 2 rfl dX4_fewest_49 ?_
          refine r_zald F 68 hL_56.2.2.2.2.2.2.2 (by decide) (vp_in_nI (by omega) (by decide)) dX4_fewest_50 ?_
          refine r_eq (st2 := [.int 1]) (by rw [nI_clamp (by omega), upd_eq]) rfl ?_
          refine r_if_eq F 88 (by decide) dX4_fewest_51 (fun c_51_59 => absurd c_51_59 (by decide)) (fun c_51_59 => ?_)
          clear c_51_59
          refine r_aload_n F 0 rfl dX4_fewest_54 ?_
          refine r_iload_n F 2 rfl dX4_fewest_55 ?_
          refine r_iconst (v := 0) F (by decide) dX4_fewest_56 ?_
          refine r_calli (g_V (C := RX4) (T := TX4) (N := 14) (nA := 2) (As := [.int (nI j), .int 0]) (rest := []) F 61 hL_56.1 (by decide) rfl (c_X4_of hX_58 hbj (w := 0) (by decide)) gX4_fewest_X4_of rfl (by decide +kernel) rfl ⟨Nat.le_of_ble_eq_true rfl, Nat.le_of_ble_eq_true rfl⟩ ⟨Nat.le_of_ble_eq_true rfl, Nat.le_of_ble_eq_true rfl⟩ rfl (Nat.le_of_ble_eq_true rfl) dX4_fewest_57) (fun r_60 u_60 hp_60 => ?_)
          obtain ⟨rfl, rfl⟩ := hp_60
          refine r_iconst (v := 2) F (by decide) dX4_fewest_60 ?_
          refine r_icmp_eq F 84 (by decide) dX4_fewest_61 (fun c_61_61 => ?_) (fun c_61_61 => ?_)
          · skip
            refine r_iconst (v := 1) F (by decide) dX4_fewest_84 ?_
            refine r_goto F 89 (by decide) dX4_fewest_85 ?_
            refine r_istore_n (lv' := [(0, .ref (g.2.1 61)), (1, .int (nI (cnK j (mtB B)))), (2, .int (nI j)), (3, .int 1)]) F (by decide) rfl dX4_fewest_89 ?_
            have hmt : mtB B j = true := by simp [mtB, qEmp, c_26_30, c_36_43, c_61_61]
            have hcl := cnK_le (n := j) (P := mtB B)
            refine r_aload_n F 0 rfl dX4_fewest_90 ?_
            refine r_get (C := RX4) (T := TX4) (N := 14) F 61 hL_56.1 (by decide) hinX4 rfl 11 (by decide) (by decide +kernel) rfl dX4_fewest_91 ?_
            refine r_iload_n F 1 rfl dX4_fewest_94 ?_
            refine r_iload_n F 3 rfl dX4_fewest_95 ?_
            refine r_if_eq F 103 (by decide) dX4_fewest_96 (fun c_96_62 => absurd c_96_62 (by decide)) (fun c_96_62 => ?_)
            clear c_96_62
            refine r_iload_n F 2 rfl dX4_fewest_99 ?_
            refine r_goto F 109 (by decide) dX4_fewest_100 ?_
            refine r_iast F 67 hL_56.2.2.2.2.2.2.1 (by decide) (vp_in_nI (by omega) (by decide)) dX4_fewest_109 (fun u_63 hu_63 => ?_)
            have hL_64 := hL_56.upC (Z' := upd CHx (cnK j (mtB B)) (nI j))
            rw [nI_clamp (by omega)] at hu_63
            rw [← hu_63] at hL_64
            have hf_65 : ∀ j, ¬ (61 ≤ j ∧ j < 69) → u_63 j = u j := fun j hj => (show u_63 j = u_55 j from (fun j hj => by rw [hu_63]; exact vne (by omega)) j hj).trans (hf_57 j hj)
            have hX_66 : MdX g u_63 th rm sp wr hs VA RD (upd CHx (cnK j (mtB B)) (nI j)) (upd WEx j 1) n B m S t C := ⟨_, _, _, hL_64, hZ_91, hSV_91, hBF_91, hn_91, hm_91, ht_91⟩
            refine r_iload_n F 1 rfl dX4_fewest_110 ?_
            refine r_iload_n F 3 rfl dX4_fewest_111 ?_
            refine r_if_eq F 119 (by decide) dX4_fewest_112 (fun c_112_67 => absurd c_112_67 (by decide)) (fun c_112_67 => ?_)
            clear c_112_67
            refine r_iconst (v := 1) F (by decide) dX4_fewest_115 ?_
            refine r_goto F 120 (by decide) dX4_fewest_116 ?_
            refine r_iadd F dX4_fewest_120 ?_
            refine r_istore_n (lv' := [(0, .ref (g.2.1 61)), (1, .int ((nI (cnK j (mtB B))) + 1)), (2, .int (nI j)), (3, .int 1)]) F (by decide) rfl dX4_fewest_121 ?_
            refine r_iinc (lv' := [(0, .ref (g.2.1 61)), (1, .int ((nI (cnK j (mtB B))) + 1)), (2, .int (nI (j + 1))), (3, .int 1)]) F 2 rfl (nI_inc _) (by decide) rfl dX4_fewest_122 ?_
            refine r_goto F 4 (by decide) dX4_fewest_125 ?_
            refine r_lv (lv2 := [(0, .ref (g.2.1 61)), (1, .int ((nI (cnK j (mtB B))) + 1)), (2, .int (nI (j + 1)))]) (by simp) ?_
            exact ih_4 (j + 1) _ _ _ _ _ (by omega) hX_66 (ch_t hCH hmt) (we_s hWE hqe) hf_65 (by rw [cnK, hmt, if_pos rfl, nI_1]) rfl
          · skip
            refine r_aload_n F 0 rfl dX4_fewest_64 ?_
            refine r_iload_n F 2 rfl dX4_fewest_65 ?_
            refine r_iconst (v := 0) F (by decide) dX4_fewest_66 ?_
            refine r_calli (g_V (C := RX4) (T := TX4) (N := 14) (nA := 2) (As := [.int (nI j), .int 0]) (rest := []) F 61 hL_56.1 (by decide) rfl (c_X4_of hX_58 hbj (w := 0) (by decide)) gX4_fewest_X4_of rfl (by decide +kernel) rfl ⟨Nat.le_of_ble_eq_true rfl, Nat.le_of_ble_eq_true rfl⟩ ⟨Nat.le_of_ble_eq_true rfl, Nat.le_of_ble_eq_true rfl⟩ rfl (Nat.le_of_ble_eq_true rfl) dX4_fewest_67) (fun r_68 u_68 hp_68 => ?_)
            obtain ⟨rfl, rfl⟩ := hp_68
            refine r_iconst (v := 1) F (by decide) dX4_fewest_70 ?_
            refine r_icmp_ne F 88 (by decide) dX4_fewest_71 (fun c_71_69 => ?_) (fun c_71_69 => ?_)
            · skip
              refine r_iconst (v := 0) F (by decide) dX4_fewest_88 ?_
              refine r_istore_n (lv' := [(0, .ref (g.2.1 61)), (1, .int (nI (cnK j (mtB B)))), (2, .int (nI j)), (3, .int 0)]) F (by decide) rfl dX4_fewest_89 ?_
              have hmt : mtB B j = false := by simp [mtB, qEmp, c_26_30, c_36_43, c_61_61, c_71_69]
              have hcl := cnK_le (n := j) (P := mtB B)
              refine r_aload_n F 0 rfl dX4_fewest_90 ?_
              refine r_get (C := RX4) (T := TX4) (N := 14) F 61 hL_56.1 (by decide) hinX4 rfl 11 (by decide) (by decide +kernel) rfl dX4_fewest_91 ?_
              refine r_iload_n F 1 rfl dX4_fewest_94 ?_
              refine r_iload_n F 3 rfl dX4_fewest_95 ?_
              refine r_if_eq F 103 (by decide) dX4_fewest_96 (fun c_96_70 => ?_) (fun c_96_70 => absurd c_96_70 (by decide))
              clear c_96_70
              refine r_aload_n F 0 rfl dX4_fewest_103 ?_
              refine r_get (C := RX4) (T := TX4) (N := 14) F 61 hL_56.1 (by decide) hinX4 rfl 11 (by decide) (by decide +kernel) rfl dX4_fewest_104 ?_
              refine r_iload_n F 1 rfl dX4_fewest_107 ?_
              refine r_iald F 67 hL_56.2.2.2.2.2.2.1 (by decide) (vp_in_nI (by omega) (by decide)) dX4_fewest_108 ?_
              refine r_eq (st2 := [.int (CHx (cnK j (mtB B))), .int (nI (cnK j (mtB B))), .ref (g.2.1 67)]) (by rw [nI_clamp (by omega)]) rfl ?_
              refine r_iast F 67 hL_56.2.2.2.2.2.2.1 (by decide) (vp_in_nI (by omega) (by decide)) dX4_fewest_109 (fun u_71 hu_71 => ?_)
              have hL_72 := hL_56.upC (Z' := upd CHx (cnK j (mtB B)) (CHx (cnK j (mtB B))))
              rw [nI_clamp (by omega)] at hu_71
              rw [← hu_71] at hL_72
              have hf_73 : ∀ j, ¬ (61 ≤ j ∧ j < 69) → u_71 j = u j := fun j hj => (show u_71 j = u_55 j from (fun j hj => by rw [hu_71]; exact vne (by omega)) j hj).trans (hf_57 j hj)
              have hX_74 : MdX g u_71 th rm sp wr hs VA RD (upd CHx (cnK j (mtB B)) (CHx (cnK j (mtB B)))) (upd WEx j 1) n B m S t C := ⟨_, _, _, hL_72, hZ_91, hSV_91, hBF_91, hn_91, hm_91, ht_91⟩
              refine r_iload_n F 1 rfl dX4_fewest_110 ?_
              refine r_iload_n F 3 rfl dX4_fewest_111 ?_
              refine r_if_eq F 119 (by decide) dX4_fewest_112 (fun c_112_75 => ?_) (fun c_112_75 => absurd c_112_75 (by decide))
              clear c_112_75
              refine r_iconst (v := 0) F (by decide) dX4_fewest_119 ?_
              refine r_iadd F dX4_fewest_120 ?_
              refine r_istore_n (lv' := [(0, .ref (g.2.1 61)), (1, .int ((nI (cnK j (mtB B))) + 0)), (2, .int (nI j)), (3, .int 0)]) F (by decide) rfl dX4_fewest_121 ?_
              refine r_iinc (lv' := [(0, .ref (g.2.1 61)), (1, .int ((nI (cnK j (mtB B))) + 0)), (2, .int (nI (j + 1))), (3, .int 0)]) F 2 rfl (nI_inc _) (by decide) rfl dX4_fewest_122 ?_
              refine r_goto F 4 (by decide) dX4_fewest_125 ?_
              refine r_lv (lv2 := [(0, .ref (g.2.1 61)), (1, .int ((nI (cnK j (mtB B))) + 0)), (2, .int (nI (j + 1)))]) (by simp) ?_
              exact ih_4 (j + 1) _ _ _ _ _ (by omega) hX_74 (ch_f hCH hmt) (we_s hWE hqe) hf_73 (by rw [cnK, hmt]; simp) rfl
            · skip
              refine r_aload_n F 0 rfl dX4_fewest_74 ?_
              refine r_iload_n F 2 rfl dX4_fewest_75 ?_
              refine r_iconst (v := 2) F (by decide) dX4_fewest_76 ?_
              refine r_calli (g_V (C := RX4) (T := TX4) (N := 14) (nA := 2) (As := [.int (nI j), .int 2]) (rest := []) F 61 hL_56.1 (by decide) rfl (c_X4_of hX_58 hbj (w := 2) (by decide)) gX4_fewest_X4_of rfl (by decide +kernel) rfl ⟨Nat.le_of_ble_eq_true rfl, Nat.le_of_ble_eq_true rfl⟩ ⟨Nat.le_of_ble_eq_true rfl, Nat.le_of_ble_eq_true rfl⟩ rfl (Nat.le_of_ble_eq_true rfl) dX4_fewest_77) (fun r_76 u_76 hp_76 => ?_)
              obtain ⟨rfl, rfl⟩ := hp_76
              refine r_iconst (v := -1) F (by decide) dX4_fewest_80 ?_
              refine r_icmp_eq F 88 (by decide) dX4_fewest_81 (fun c_81_77 => ?_) (fun c_81_77 => ?_)
              · skip
                refine r_iconst (v := 0) F (by decide) dX4_fewest_88 ?_
                refine r_istore_n (lv' := [(0, .ref (g.2.1 61)), (1, .int (nI (cnK j (mtB B)))), (2, .int (nI j)), (3, .int 0)]) F (by decide) rfl dX4_fewest_89 ?_
                have hmt : mtB B j = false := by simp [mtB, qEmp, c_26_30, c_36_43, c_61_61, c_71_69, c_81_77]
                have hcl := cnK_le (n := j) (P := mtB B)
                refine r_aload_n F 0 rfl dX4_fewest_90 ?_
                refine r_get (C := RX4) (T := TX4) (N := 14) F 61 hL_56.1 (by decide) hinX4 rfl 11 (by decide) (by decide +kernel) rfl dX4_fewest_91 ?_
                refine r_iload_n F 1 rfl dX4_fewest_94 ?_
                refine r_iload_n F 3 rfl dX4_fewest_95 ?_
                refine r_if_eq F 103 (by decide) dX4_fewest_96 (fun c_96_78 => ?_) (fun c_96_78 => absurd c_96_78 (by decide))
                clear c_96_78
                refine r_aload_n F 0 rfl dX4_fewest_103 ?_
                refine r_get (C := RX4) (T := TX4) (N := 14) F 61 hL_56.1 (by decide) hinX4 rfl 11 (by decide) (by decide +kernel) rfl dX4_fewest_104 ?_
                refine r_iload_n F 1 rfl dX4_fewest_107 ?_
                refine r_iald F 67 hL_56.2.2.2.2.2.2.1 (by decide) (vp_in_nI (by omega) (by decide)) dX4_fewest_108 ?_
                refine r_eq (st2 := [.int (CHx (cnK j (mtB B))), .int (nI (cnK j (mtB B))), .ref (g.2.1 67)]) (by rw [nI_clamp (by omega)]) rfl ?_
                refine r_iast F 67 hL_56.2.2.2.2.2.2.1 (by decide) (vp_in_nI (by omega) (by decide)) dX4_fewest_109 (fun u_79 hu_79 => ?_)
                have hL_80 := hL_56.upC (Z' := upd CHx (cnK j (mtB B)) (CHx (cnK j (mtB B))))
                rw [nI_clamp (by omega)] at hu_79
                rw [← hu_79] at hL_80
                have hf_81 : ∀ j, ¬ (61 ≤ j ∧ j < 69) → u_79 j = u j := fun j hj => (show u_79 j = u_55 j from (fun j hj => by rw [hu_79]; exact vne (by omega)) j hj).trans (hf_57 j hj)
                have hX_82 : MdX g u_79 th rm sp wr hs VA RD (upd CHx (cnK j (mtB B)) (CHx (cnK j (mtB B)))) (upd WEx j 1) n B m S t C := ⟨_, _, _, hL_80, hZ_91, hSV_91, hBF_91, hn_91, hm_91, ht_91⟩
                refine r_iload_n F 1 rfl dX4_fewest_110 ?_
                refine r_iload_n F 3 rfl dX4_fewest_111 ?_
                refine r_if_eq F 119 (by decide) dX4_fewest_112 (fun c_112_83 => ?_) (fun c_112_83 => absurd c_112_83 (by decide))
                clear c_112_83
                refine r_iconst (v := 0) F (by decide) dX4_fewest_119 ?_
                refine r_iadd F dX4_fewest_120 ?_
                refine r_istore_n (lv' := [(0, .ref (g.2.1 61)), (1, .int ((nI (cnK j (mtB B))) + 0)), (2, .int (nI j)), (3, .int 0)]) F (by decide) rfl dX4_fewest_121 ?_
                refine r_iinc (lv' := [(0, .ref (g.2.1 61)), (1, .int ((nI (cnK j (mtB B))) + 0)), (2, .int (nI (j + 1))), (3, .int 0)]) F 2 rfl (nI_inc _) (by decide) rfl dX4_fewest_122 ?_
                refine r_goto F 4 (by decide) dX4_fewest_125 ?_
                refine r_lv (lv2 := [(0, .ref (g.2.1 61)), (1, .int ((nI (cnK j (mtB B))) + 0)), (2, .int (nI (j + 1)))]) (by simp) ?_
                exact ih_4 (j + 1) _ _ _ _ _ (by omega) hX_82 (ch_f hCH hmt) (we_s hWE hqe) hf_81 (by rw [cnK, hmt]; simp) rfl
              · skip
                refine r_iconst (v := 1) F (by decide) dX4_fewest_84 ?_
                refine r_goto F 89 (by decide) dX4_fewest_85 ?_
                refine r_istore_n (lv' := [(0, .ref (g.2.1 61)), (1, .int (nI (cnK j (mtB B)))), (2, .int (nI j)), (3, .int 1)]) F (by decide) rfl dX4_fewest_89 ?_
                have hmt : mtB B j = true := by simp [mtB, qEmp, c_26_30, c_36_43, c_61_61, c_71_69, c_81_77]
                have hcl := cnK_le (n := j) (P := mtB B)
                refine r_aload_n F 0 rfl dX4_fewest_90 ?_
                refine r_get (C := RX4) (T := TX4) (N := 14) F 61 hL_56.1 (by decide) hinX4 rfl 11 (by decide) (by decide +kernel) rfl dX4_fewest_91 ?_
                refine r_iload_n F 1 rfl dX4_fewest_94 ?_
                refine r_iload_n F 3 rfl dX4_fewest_95 ?_
                refine r_if_eq F 103 (by decide) dX4_fewest_96 (fun c_96_84 => absurd c_96_84 (by decide)) (fun c_96_84 => ?_)
                clear c_96_84
                refine r_iload_n F 2 rfl dX4_fewest_99 ?_
                refine r_goto F 109 (by decide) dX4_fewest_100 ?_
                refine r_iast F 67 hL_56.2.2.2.2.2.2.1 (by decide) (vp_in_nI (by omega) (by decide)) dX4_fewest_109 (fun u_85 hu_85 => ?_)
                have hL_86 := hL_56.upC (Z' := upd CHx (cnK j (mtB B)) (nI j))
                rw [nI_clamp (by omega)] at hu_85
                rw [← hu_85] at hL_86
                have hf_87 : ∀ j, ¬ (61 ≤ j ∧ j < 69) → u_85 j = u j := fun j hj => (show u_85 j = u_55 j from (fun j hj => by rw [hu_85]; exact vne (by omega)) j hj).trans (hf_57 j hj)
                have hX_88 : MdX g u_85 th rm sp wr hs VA RD (upd CHx (cnK j (mtB B)) (nI j)) (upd WEx j 1) n B m S t C := ⟨_, _, _, hL_86, hZ_91, hSV_91, hBF_91, hn_91, hm_91, ht_91⟩
                refine r_iload_n F 1 rfl dX4_fewest_110 ?_
                refine r_iload_n F 3 rfl dX4_fewest_111 ?_
                refine r_if_eq F 119 (by decide) dX4_fewest_112 (fun c_112_89 => absurd c_112_89 (by decide)) (fun c_112_89 => ?_)
                clear c_112_89
                refine r_iconst (v := 1) F (by decide) dX4_fewest_115 ?_
                refine r_goto F 120 (by decide) dX4_fewest_116 ?_
                refine r_iadd F dX4_fewest_120 ?_
                refine r_istore_n (lv' := [(0, .ref (g.2.1 61)), (1, .int ((nI (cnK j (mtB B))) + 1)), (2, .int (nI j)), (3, .int 1)]) F (by decide) rfl dX4_fewest_121 ?_
                refine r_iinc (lv' := [(0, .ref (g.2.1 61)), (1, .int ((nI (cnK j (mtB B))) + 1)), (2, .int (nI (j + 1))), (3, .int 1)]) F 2 rfl (nI_inc _) (by decide) rfl dX4_fewest_122 ?_
                refine r_goto F 4 (by decide) dX4_fewest_125 ?_
                refine r_lv (lv2 := [(0, .ref (g.2.1 61)), (1, .int ((nI (cnK j (mtB B))) + 1)), (2, .int (nI (j + 1)))]) (by simp) ?_
                exact ih_4 (j + 1) _ _ _ _ _ (by omega) hX_88 (ch_t hCH hmt) (we_s hWE hqe) hf_87 (by rw [cnK, hmt, if_pos rfl, nI_1]) rfl
  exact loop_4 n 0 CH WE u _ _ (by omega) h (fun b hb => absurd hb (by omega)) (fun b hb => absurd hb (by omega)) (fun j _ => rfl) rfl rfl
set_option maxHeartbeats 4000000 in
set_option maxRecDepth 100000 in
theorem c_X4_shortest {g : kG} {l : Launch} {u : Nat → va_E} {th rm sp wr : Int32} {hs : Int64} {VA RD CH WE : Nat → Int32} {n m t : Nat} {B : kB} {S : Nat → kS} {C : Nat → Int32}  (h : MdX g u th rm sp wr hs VA RD CH WE n B m S t C) (hw : wfB n B) : CI g l yX4_shortest wsX4_shortest ({ frames := 5, cells := 0, slots := 0, locals := 117 }) [.ref (g.2.1 61)] u (fun r u' => r = sho B n ∧ (∃ CH' WE', MdX g u' 0 rm sp wr hs VA RD CH' WE' n B m S t C) ∧ ∀ j, ¬ (61 ≤ j ∧ j < 69) → u' j = u j) := by
  refine CI.of (cc := cX4_shortest) (nL := 1) (ty := .int) (by decide +kernel) rfl (fun _ _ _ => rfl) (Nat.le_of_ble_eq_true rfl) ?_
  intro X hXl F hret
  subst hXl
  have hinX4 : ∀ w ∈ wsX40, w ∈ wsX4_shortest := by decide +kernel
  obtain ⟨Z, SV, BF, hL, hZ, hSV, hBF, hn16, hm6, ht60⟩ := id h
  show VL g X 0 0 u 0 [(0, .ref (g.2.1 61))] []
  refine r_aload_n F 0 rfl dX4_shortest_0 ?_
  refine r_iconst (v := 0) F (by decide) dX4_shortest_1 ?_
  refine r_put (C := RX4) (T := TX4) (N := 14) (ty := .int) F 61 hL.1 (by decide) hinX4 tyX4 tyX4_ok nmX4 rfl 0 (by decide) (by decide +kernel) rfl (by decide +kernel) rfl rfl (Nat.le_of_ble_eq_true rfl) dX4_shortest_2 (fun u_1 hu_1 => ?_)
  have hL_2 := hL.num (th' := 0) (sm' := nI m) (ty' := nI t) (rm' := rm) (sp' := sp) (wr' := wr) (hs' := hs)
  replace hL_2 : MdL g u_1 0 (nI m) (nI t) rm sp wr hs Z SV BF VA RD CH WE := by rw [hu_1]; exact hL_2
  have hf_3 : ∀ j, ¬ (61 ≤ j ∧ j < 69) → u_1 j = u j := (fun j hj => by rw [hu_1]; exact vne (by omega))
  have hX_4 : MdX g u_1 0 rm sp wr hs VA RD CH WE n B m S t C := ⟨_, _, _, hL_2, hZ, hSV, hBF, hn16, hm6, ht60⟩
  refine r_aload_n F 0 rfl dX4_shortest_5 ?_
  refine r_calli (g_V (C := RX4) (T := TX4) (N := 14) (nA := 0) (As := []) (rest := []) F 61 hL_2.1 (by decide) rfl (c_X4_fewest hX_4 hw) gX4_shortest_X4_fewest rfl (by decide +kernel) rfl ⟨Nat.le_of_ble_eq_true rfl, Nat.le_of_ble_eq_true rfl⟩ ⟨Nat.le_of_ble_eq_true rfl, Nat.le_of_ble_eq_true rfl⟩ rfl (Nat.le_of_ble_eq_true rfl) dX4_shortest_6) (fun r_5 u_5 hp_5 => ?_)
  obtain ⟨rfl, ⟨CH_5, WE_5, hX_5⟩, hk_5⟩ := hp_5
  obtain ⟨Z_5, SV_5, BF_5, hL_5, hZ_5, hSV_5, hBF_5, hn_5, hm_5, ht_5⟩ := id hX_5
  have hf_6 : ∀ j, ¬ (61 ≤ j ∧ j < 69) → u_5 j = u j := fun j hj => (show u_5 j = u_1 j from hk_5 j hj).trans (hf_3 j hj)
  exact hret _ _ _ _ _ _ (Nat.le_of_ble_eq_true rfl) (Nat.le_of_ble_eq_true rfl) ⟨rfl, ⟨_, _, hX_5⟩, hf_6⟩ dX4_shortest_9

set_option maxHeartbeats 4000000 in
set_option maxRecDepth 100000 in
theorem c_L_wanting {g : kG} {l : Launch} {u : Nat → va_E} {qk qp qa ak ap aa n : Nat} {K P M L A : Nat → Int32} {B : kB} {mask : Int32} (hk : AR g u qk ak 16 K) (hp : AR g u qp ap 16 P) (ha : AR g u qa aa 16 A) (hn : n ≤ 16) (hR : LR n B K P M L A) (hA : gA n B) (hw : wfB n B) : CI g l yL_wanting wsL_wanting ({ frames := 0, cells := 0, slots := 0, locals := 0 }) [.ref ak, .ref ap, .ref aa, .int (nI n), .int mask] u (fun r u' => r = cntN n (qWts B mask) ∧ u = u') := by
  refine CI.of (cc := cL_wanting) (nL := 7) (ty := .int) (by decide +kernel) rfl (fun _ _ _ => rfl) (Nat.le_of_ble_eq_true rfl) ?_
  intro X hXl F hret
  subst hXl
  show VL g X 0 0 u 0 [(0, .ref ak), (1, .ref ap), (2, .ref aa), (3, .int (nI n)), (4, .int mask)] []
  refine r_iconst (v := 0) F (by decide) dL_wanting_0 ?_
  refine r_istore (lv' := [(0, .ref ak), (1, .ref ap), (2, .ref aa), (3, .int (nI n)), (4, .int mask), (5, .int 0)]) F (by decide) rfl dL_wanting_1 ?_
  refine r_iconst (v := 0) F (by decide) dL_wanting_3 ?_
  refine r_istore (lv' := [(0, .ref ak), (1, .ref ap), (2, .ref aa), (3, .int (nI n)), (4, .int mask), (5, .int 0), (6, .int 0)]) F (by decide) rfl dL_wanting_4 ?_
  have loop_6 : ∀ (k : Nat) (j : Nat) (x5_6 : Int32) (x6_6 : Int32), (j + k = n) → x5_6 = cntN j (qWts B mask) → x6_6 = nI j → VL g X 0 0 u 6 [(0, .ref ak), (1, .ref ap), (2, .ref aa), (3, .int (nI n)), (4, .int mask), (5, .int x5_6), (6, .int x6_6)] [] := by
    intro k
    induction k with
    | zero =>
      rintro j x5_6 x6_6 hkj rfl rfl
      have hjn : n = j := by omega
      subst hjn
      refine r_iload F 6 rfl dL_wanting_6 ?_
      refine r_iload_n F 3 rfl dL_wanting_8 ?_
      refine r_icmp_ge F 56 (by decide) dL_wanting_9 (fun _ => ?_) (fun c_9_1 => absurd (Int32.le_refl _) c_9_1)
      refine r_iload F 5 rfl dL_wanting_56 ?_
      exact hret _ _ _ _ _ _ (Nat.le_of_ble_eq_true rfl) (Nat.le_of_ble_eq_true rfl) ⟨rfl, rfl⟩ dL_wanting_58
    | succ k ih_6 =>
      rintro j x5_6 x6_6 hkj rfl rfl
      have hj : j < n := by omega
      obtain ⟨eK, eP, eM, eL, eA⟩ := hR j hj
      refine r_iload F 6 rfl dL_wanting_6 ?_
      refine r_iload_n F 3 rfl dL_wanting_8 ?_
      refine r_icmp_ge F 56 (by decide) dL_wanting_9 (fun c_9_2 => absurd c_9_2 (nI_ge (b := n) hj (by omega))) (fun _ => ?_)
      refine r_iload F 5 rfl dL_wanting_12 ?_
      have j_47_3 : VL g X 0 0 u 47 [(0, .ref ak), (1, .ref ap), (2, .ref aa), (3, .int (nI n)), (4, .int mask), (5, .int (cntN j (qWts B mask))), (6, .int (nI j))] [.int (bI (qWts B mask j)), .int (cntN j (qWts B mask))] := by
        refine r_iadd F dL_wanting_47 ?_
        refine r_istore (lv' := [(0, .ref ak), (1, .ref ap), (2, .ref aa), (3, .int (nI n)), (4, .int mask), (5, .int ((cntN j (qWts B mask)) + (bI (qWts B mask j)))), (6, .int (nI j))]) F (by decide) rfl dL_wanting_48 ?_
        refine r_iinc (lv' := [(0, .ref ak), (1, .ref ap), (2, .ref aa), (3, .int (nI n)), (4, .int mask), (5, .int ((cntN j (qWts B mask)) + (bI (qWts B mask j)))), (6, .int (nI (j + 1)))]) F 6 rfl (nI_inc _) (by decide) rfl dL_wanting_50 ?_
        refine r_goto F 6 (by decide) dL_wanting_53 ?_
        exact ih_6 (j + 1) _ _ (by omega) rfl rfl
      refine r_aload_n F 0 rfl dL_wanting_14 ?_
      refine r_iload F 6 rfl dL_wanting_15 ?_
      refine r_ialdA F hk (vp_in_nI (by omega) (by decide)) dL_wanting_17 ?_
      refine r_eq (st2 := [.int (B j 0), .int (cntN j (qWts B mask))]) (by rw [nI_clamp (by omega), eK]) rfl ?_
      refine r_iconst (v := 3) F (by decide) dL_wanting_18 ?_
      refine r_icmp_ge F 46 (by decide) dL_wanting_19 (fun c_19_4 => ?_) (fun c_19_4 => ?_)
      · skip
        have e19_4 : B j 0 = 3 := kd_ge (hw.k hj) c_19_4
        refine r_iconst (v := 0) F (by decide) dL_wanting_46 ?_
        refine r_eq (st2 := [.int (bI (qWts B mask j)), .int (cntN j (qWts B mask))]) (congrArg (fun z_ : Int32 => ([.int z_, .int (cntN j (qWts B mask))] : List Value)) (show (0 : Int32) = bI (qWts B mask j) from by simp [bI, qWts, qOpn, tld, qEmp, c_19_4, e19_4])) rfl ?_
        exact j_47_3
      · skip
        have e19_4 : ¬ B j 0 = 3 := kd_nge c_19_4
        refine r_aload_n F 2 rfl dL_wanting_22 ?_
        refine r_iload F 6 rfl dL_wanting_23 ?_
        refine r_ialdA F ha (vp_in_nI (by omega) (by decide)) dL_wanting_25 ?_
        refine r_eq (st2 := [.int (B j 4), .int (cntN j (qWts B mask))]) (by rw [nI_clamp (by omega), eA]) rfl ?_
        refine r_if_ge F 46 (by decide) dL_wanting_26 (fun c_26_5 => ?_) (fun c_26_5 => ?_)
        · skip
          have e26_5 : ¬ B j 4 = -1 := an_ge c_26_5
          refine r_iconst (v := 0) F (by decide) dL_wanting_46 ?_
          refine r_eq (st2 := [.int (bI (qWts B mask j)), .int (cntN j (qWts B mask))]) (congrArg (fun z_ : Int32 => ([.int z_, .int (cntN j (qWts B mask))] : List Value)) (show (0 : Int32) = bI (qWts B mask j) from by simp [bI, qWts, qOpn, tld, qEmp, c_19_4, e19_4, c_26_5, e26_5])) rfl ?_
          exact j_47_3
        · skip
          have e26_5 : B j 4 = -1 := an_nge (hA j hj) c_26_5
          refine r_iload F 4 rfl dL_wanting_29 ?_
          refine r_aload_n F 1 rfl dL_wanting_31 ?_
          refine r_iload F 6 rfl dL_wanting_32 ?_
          refine r_ialdA F hp (vp_in_nI (by omega) (by decide)) dL_wanting_34 ?_
          refine r_eq (st2 := [.int (B j 1), .int mask, .int (cntN j (qWts B mask))]) (by rw [nI_clamp (by omega), eP]) rfl ?_
          refine r_ishr F dL_wanting_35 ?_
          refine r_iconst (v := 1) F (by decide) dL_wanting_36 ?_
          refine r_iand F dL_wanting_37 ?_
          refine r_iconst (v := 1) F (by decide) dL_wanting_38 ?_
          refine r_icmp_ne F 46 (by decide) dL_wanting_39 (fun c_39_6 => ?_) (fun c_39_6 => ?_)
          · skip
            refine r_iconst (v := 0) F (by decide) dL_wanting_46 ?_
            refine r_eq (st2 := [.int (bI (qWts B mask j)), .int (cntN j (qWts B mask))]) (congrArg (fun z_ : Int32 => ([.int z_, .int (cntN j (qWts B mask))] : List Value)) (show (0 : Int32) = bI (qWts B mask j) from by simp [bI, qWts, qOpn, tld, qEmp, c_19_4, e19_4, c_26_5, e26_5, c_39_6])) rfl ?_
            exact j_47_3
          · skip
            refine r_iconst (v := 1) F (by decide) dL_wanting_42 ?_
            refine r_goto F 47 (by decide) dL_wanting_43 ?_
            refine r_eq (st2 := [.int (bI (qWts B mask j)), .int (cntN j (qWts B mask))]) (congrArg (fun z_ : Int32 => ([.int z_, .int (cntN j (qWts B mask))] : List Value)) (show (1 : Int32) = bI (qWts B mask j) from by simp [bI, qWts, qOpn, tld, qEmp, c_19_4, e19_4, c_26_5, e26_5, c_39_6])) rfl ?_
            exact j_47_3
  exact loop_6 n 0 _ _ (by omega) rfl rfl
set_option maxHeartbeats 4000000 in
set_option maxRecDepth 100000 in
theorem c_L_open {g : kG} {l : Launch} {u : Nat → va_E} {qk qp qm ql qa ak ap am al aa n : Nat} {K P M L A : Nat → Int32} {B : kB} (hk : AR g u qk ak 16 K) (hp : AR g u qp ap 16 P) (hm : AR g u qm am 16 M) (hl : AR g u ql al 16 L) (ha : AR g u qa aa 16 A) (hn : n ≤ 16) (hR : LR n B K P M L A) (hA : gA n B) : CI g l yL_open wsL_open ({ frames := 0, cells := 0, slots := 0, locals := 0 }) [.ref ak, .ref ap, .ref am, .ref al, .ref aa, .int (nI n)] u (fun r u' => r = opm B n ∧ u = u') := by
  refine CI.of (cc := cL_open) (nL := 13) (ty := .int) (by decide +kernel) rfl (fun _ _ _ => rfl) (Nat.le_of_ble_eq_true rfl) ?_
  intro X hXl F hret
  subst hXl
  show VL g X 0 0 u 0 [(0, .ref ak), (1, .ref ap), (2, .ref am), (3, .ref al), (4, .ref aa), (5, .int (nI n))] []
  refine r_iconst (v := 1) F (by decide) dL_open_0 ?_
  refine r_istore (lv' := [(0, .ref ak), (1, .ref ap), (2, .ref am), (3, .ref al), (4, .ref aa), (5, .int (nI n)), (6, .int 1)]) F (by decide) rfl dL_open_1 ?_
  refine r_iconst (v := 1) F (by decide) dL_open_3 ?_
  refine r_istore (lv' := [(0, .ref ak), (1, .ref ap), (2, .ref am), (3, .ref al), (4, .ref aa), (5, .int (nI n)), (6, .int 1), (7, .int 1)]) F (by decide) rfl dL_open_4 ?_
  have loop_6 : ∀ (k : Nat) (p : Nat) (x6_6 : Int32) (x7_6 : Int32), (p + k = 5) → (1 ≤ p) → x6_6 = opmN B n p → x7_6 = nI p → VL g X 0 0 u 6 [(0, .ref ak), (1, .ref ap), (2, .ref am), (3, .ref al), (4, .ref aa), (5, .int (nI n)), (6, .int x6_6), (7, .int x7_6)] [] := by
    intro k
    induction k with
    | zero =>
      rintro p x6_6 x7_6 hkp hp1 rfl rfl
      have hpn : p = 5 := by omega
      subst hpn
      refine r_iload F 7 rfl dL_open_6 ?_
      refine r_iconst (v := 5) F (by decide) dL_open_8 ?_
      refine r_icmp_ge F 213 (by decide) dL_open_9 (fun _ => ?_) (fun c_9_1 => absurd (by decide) c_9_1)
      refine r_iload F 6 rfl dL_open_213 ?_
      exact hret _ _ _ _ _ _ (Nat.le_of_ble_eq_true rfl) (Nat.le_of_ble_eq_true rfl) ⟨rfl, rfl⟩ dL_open_215
    | succ k ih_6 =>
      rintro p x6_6 x7_6 hkp hp1 rfl rfl
      have hp5 : p < 5 := by omega
      refine r_iload F 7 rfl dL_open_6 ?_
      refine r_iconst (v := 5) F (by decide) dL_open_8 ?_
      refine r_icmp_ge F 213 (by decide) dL_open_9 (fun c_9_2 => absurd c_9_2 (nI_ge (b := 5) hp5 (by decide))) (fun _ => ?_)
      refine r_iconst (v := 0) F (by decide) dL_open_12 ?_
      refine r_istore (lv' := [(0, .ref ak), (1, .ref ap), (2, .ref am), (3, .ref al), (4, .ref aa), (5, .int (nI n)), (6, .int (opmN B n p)), (7, .int (nI p)), (8, .int 0)]) F (by decide) rfl dL_open_13 ?_
      refine r_iconst (v := 0) F (by decide) dL_open_15 ?_
      refine r_istore (lv' := [(0, .ref ak), (1, .ref ap), (2, .ref am), (3, .ref al), (4, .ref aa), (5, .int (nI n)), (6, .int (opmN B n p)), (7, .int (nI p)), (8, .int 0), (9, .int 0)]) F (by decide) rfl dL_open_16 ?_
      refine r_iconst (v := 0) F (by decide) dL_open_18 ?_
      refine r_istore (lv' := [(0, .ref ak), (1, .ref ap), (2, .ref am), (3, .ref al), (4, .ref aa), (5, .int (nI n)), (6, .int (opmN B n p)), (7, .int (nI p)), (8, .int 0), (9, .int 0), (10, .int 0)]) F (by decide) rfl dL_open_19 ?_
      refine r_iconst (v := 0) F (by decide) dL_open_21 ?_
      refine r_istore (lv' := [(0, .ref ak), (1, .ref ap), (2, .ref am), (3, .ref al), (4, .ref aa), (5, .int (nI n)), (6, .int (opmN B n p)), (7, .int (nI p)), (8, .int 0), (9, .int 0), (10, .int 0), (11, .int 0)]) F (by decide) rfl dL_open_22 ?_
      have loop_24 : ∀ (k : Nat) (j : Nat) (x8_24 : Int32) (x9_24 : Int32) (x10_24 : Int32) (x11_24 : Int32), (j + k = n) → x8_24 = bI (anyN j (qFor B 1 (nI p))) → x9_24 = bI (anyN j (qTik B (nI p) (opmN B n p))) → x10_24 = bI (anyN j (qCls B (nI p) (opmN B n p))) → x11_24 = nI j → VL g X 0 0 u 24 [(0, .ref ak), (1, .ref ap), (2, .ref am), (3, .ref al), (4, .ref aa), (5, .int (nI n)), (6, .int (opmN B n p)), (7, .int (nI p)), (8, .int x8_24), (9, .int x9_24), (10, .int x10_24), (11, .int x11_24)] [] := by
        intro k
        induction k with
        | zero =>
          rintro j x8_24 x9_24 x10_24 x11_24 hkj rfl rfl rfl rfl
          have hjn : n = j := by omega
          subst hjn
          refine r_iload F 11 rfl dL_open_24 ?_
          refine r_iload F 5 rfl dL_open_26 ?_
          refine r_icmp_ge F 183 (by decide) dL_open_28 (fun _ => ?_) (fun c_28_3 => absurd (Int32.le_refl _) c_28_3)
          have j_207_4 : VL g X 0 0 u 207 [(0, .ref ak), (1, .ref ap), (2, .ref am), (3, .ref al), (4, .ref aa), (5, .int (nI n)), (6, .int (opmN B n (p + 1))), (7, .int (nI p)), (8, .int (bI (anyN n (qFor B 1 (nI p))))), (9, .int (bI (anyN n (qTik B (nI p) (opmN B n p))))), (10, .int (bI (anyN n (qCls B (nI p) (opmN B n p))))), (11, .int (nI n))] [] := by
            refine r_iinc (lv' := [(0, .ref ak), (1, .ref ap), (2, .ref am), (3, .ref al), (4, .ref aa), (5, .int (nI n)), (6, .int (opmN B n (p + 1))), (7, .int (nI (p + 1))), (8, .int (bI (anyN n (qFor B 1 (nI p))))), (9, .int (bI (anyN n (qTik B (nI p) (opmN B n p))))), (10, .int (bI (anyN n (qCls B (nI p) (opmN B n p))))), (11, .int (nI n))]) F 7 rfl (nI_inc _) (by decide) rfl dL_open_207 ?_
            refine r_goto F 6 (by decide) dL_open_210 ?_
            refine r_lv (lv2 := [(0, .ref ak), (1, .ref ap), (2, .ref am), (3, .ref al), (4, .ref aa), (5, .int (nI n)), (6, .int (opmN B n (p + 1))), (7, .int (nI (p + 1)))]) (by simp) ?_
            exact ih_6 (p + 1) _ _ (by omega) (by omega) rfl rfl
          refine r_iload F 9 rfl dL_open_183 ?_
          refine r_if_ne F 193 (by decide) dL_open_185 (fun c_185_5 => ?_) (fun c_185_5 => ?_)
          · skip
            replace c_185_5 := bI1 c_185_5
            refine r_iload F 10 rfl dL_open_193 ?_
            refine r_if_ne F 207 (by decide) dL_open_195 (fun c_195_6 => ?_) (fun c_195_6 => ?_)
            · skip
              replace c_195_6 := bI1 c_195_6
              refine r_lvq (lv2 := [(0, .ref ak), (1, .ref ap), (2, .ref am), (3, .ref al), (4, .ref aa), (5, .int (nI n)), (6, .int (opmN B n (p + 1))), (7, .int (nI p)), (8, .int (bI (anyN n (qFor B 1 (nI p))))), (9, .int (bI (anyN n (qTik B (nI p) (opmN B n p))))), (10, .int (bI (anyN n (qCls B (nI p) (opmN B n p))))), (11, .int (nI n))]) (congrArg (fun z_ : Int32 => ([(0, .ref ak), (1, .ref ap), (2, .ref am), (3, .ref al), (4, .ref aa), (5, .int (nI n)), (6, .int z_), (7, .int (nI p)), (8, .int (bI (anyN n (qFor B 1 (nI p))))), (9, .int (bI (anyN n (qTik B (nI p) (opmN B n p))))), (10, .int (bI (anyN n (qCls B (nI p) (opmN B n p))))), (11, .int (nI n))] : List (Nat × Value))) (show (opmN B n p : Int32) = opmN B n (p + 1) from by rw [opmN, if_neg (by omega)]; simp [tikd, skpd, c_185_5, c_195_6])) ?_
              exact j_207_4
            · skip
              replace c_195_6 := bI0 c_195_6
              refine r_iload F 6 rfl dL_open_198 ?_
              refine r_iconst (v := 1) F (by decide) dL_open_200 ?_
              refine r_iload F 7 rfl dL_open_201 ?_
              refine r_ishl F dL_open_203 ?_
              refine r_ior F dL_open_204 ?_
              refine r_istore (lv' := [(0, .ref ak), (1, .ref ap), (2, .ref am), (3, .ref al), (4, .ref aa), (5, .int (nI n)), (6, .int ((opmN B n p) ||| ((1 : Int32) <<< ((nI p) &&& 31)))), (7, .int (nI p)), (8, .int (bI (anyN n (qFor B 1 (nI p))))), (9, .int (bI (anyN n (qTik B (nI p) (opmN B n p))))), (10, .int (bI (anyN n (qCls B (nI p) (opmN B n p))))), (11, .int (nI n))]) F (by decide) rfl dL_open_205 ?_
              refine r_lvq (lv2 := [(0, .ref ak), (1, .ref ap), (2, .ref am), (3, .ref al), (4, .ref aa), (5, .int (nI n)), (6, .int (opmN B n (p + 1))), (7, .int (nI p)), (8, .int (bI (anyN n (qFor B 1 (nI p))))), (9, .int (bI (anyN n (qTik B (nI p) (opmN B n p))))), (10, .int (bI (anyN n (qCls B (nI p) (opmN B n p))))), (11, .int (nI n))]) (congrArg (fun z_ : Int32 => ([(0, .ref ak), (1, .ref ap), (2, .ref am), (3, .ref al), (4, .ref aa), (5, .int (nI n)), (6, .int z_), (7, .int (nI p)), (8, .int (bI (anyN n (qFor B 1 (nI p))))), (9, .int (bI (anyN n (qTik B (nI p) (opmN B n p))))), (10, .int (bI (anyN n (qCls B (nI p) (opmN B n p))))), (11, .int (nI n))] : List (Nat × Value))) (show ((opmN B n p) ||| ((1 : Int32) <<< ((nI p) &&& 31)) : Int32) = opmN B n (p + 1) from by rw [opmN, if_neg (by omega)]; simp [tikd, skpd, c_185_5, c_195_6])) ?_
              exact j_207_4
          · skip
            replace c_185_5 := bI0 c_185_5
            refine r_iload F 8 rfl dL_open_188 ?_
            refine r_if_ne F 207 (by decide) dL_open_190 (fun c_190_7 => ?_) (fun c_190_7 => ?_)
            · skip
              replace c_190_7 := bI1 c_190_7
              refine r_lvq (lv2 := [(0, .ref ak), (1, .ref ap), (2, .ref am), (3, .ref al), (4, .ref aa), (5, .int (nI n)), (6, .int (opmN B n (p + 1))), (7, .int (nI p)), (8, .int (bI (anyN n (qFor B 1 (nI p))))), (9, .int (bI (anyN n (qTik B (nI p) (opmN B n p))))), (10, .int (bI (anyN n (qCls B (nI p) (opmN B n p))))), (11, .int (nI n))]) (congrArg (fun z_ : Int32 => ([(0, .ref ak), (1, .ref ap), (2, .ref am), (3, .ref al), (4, .ref aa), (5, .int (nI n)), (6, .int z_), (7, .int (nI p)), (8, .int (bI (anyN n (qFor B 1 (nI p))))), (9, .int (bI (anyN n (qTik B (nI p) (opmN B n p))))), (10, .int (bI (anyN n (qCls B (nI p) (opmN B n p))))), (11, .int (nI n))] : List (Nat × Value))) (show (opmN B n p : Int32) = opmN B n (p + 1) from by rw [opmN, if_neg (by omega)]; simp [tikd, skpd, c_185_5, c_190_7])) ?_
              exact j_207_4
            · skip
              replace c_190_7 := bI0 c_190_7
              refine r_iload F 10 rfl dL_open_193 ?_
              refine r_if_ne F 207 (by decide) dL_open_195 (fun c_195_8 => ?_) (fun c_195_8 => ?_)
              · skip
                replace c_195_8 := bI1 c_195_8
                refine r_lvq (lv2 := [(0, .ref ak), (1, .ref ap), (2, .ref am), (3, .ref al), (4, .ref aa), (5, .int (nI n)), (6, .int (opmN B n (p + 1))), (7, .int (nI p)), (8, .int (bI (anyN n (qFor B 1 (nI p))))), (9, .int (bI (anyN n (qTik B (nI p) (opmN B n p))))), (10, .int (bI (anyN n (qCls B (nI p) (opmN B n p))))), (11, .int (nI n))]) (congrArg (fun z_ : Int32 => ([(0, .ref ak), (1, .ref ap), (2, .ref am), (3, .ref al), (4, .ref aa), (5, .int (nI n)), (6, .int z_), (7, .int (nI p)), (8, .int (bI (anyN n (qFor B 1 (nI p))))), (9, .int (bI (anyN n (qTik B (nI p) (opmN B n p))))), (10, .int (bI (anyN n (qCls B (nI p) (opmN B n p))))), (11, .int (nI n))] : List (Nat × Value))) (show (opmN B n p : Int32) = opmN B n (p + 1) from by rw [opmN, if_neg (by omega)]; simp [tikd, skpd, c_185_5, c_190_7, c_195_8])) ?_
                exact j_207_4
              · skip
                replace c_195_8 := bI0 c_195_8
                refine r_iload F 6 rfl dL_open_198 ?_
                refine r_iconst (v := 1) F (by decide) dL_open_200 ?_
                refine r_iload F 7 rfl dL_open_201 ?_
                refine r_ishl F dL_open_203 ?_
                refine r_ior F dL_open_204 ?_
                refine r_istore (lv' := [(0, .ref ak), (1, .ref ap), (2, .ref am), (3, .ref al), (4, .ref aa), (5, .int (nI n)), (6, .int ((opmN B n p) ||| ((1 : Int32) <<< ((nI p) &&& 31)))), (7, .int (nI p)), (8, .int (bI (anyN n (qFor B 1 (nI p))))), (9, .int (bI (anyN n (qTik B (nI p) (opmN B n p))))), (10, .int (bI (anyN n (qCls B (nI p) (opmN B n p))))), (11, .int (nI n))]) F (by decide) rfl dL_open_205 ?_
                refine r_lvq (lv2 := [(0, .ref ak), (1, .ref ap), (2, .ref am), (3, .ref al), (4, .ref aa), (5, .int (nI n)), (6, .int (opmN B n (p + 1))), (7, .int (nI p)), (8, .int (bI (anyN n (qFor B 1 (nI p))))), (9, .int (bI (anyN n (qTik B (nI p) (opmN B n p))))), (10, .int (bI (anyN n (qCls B (nI p) (opmN B n p))))), (11, .int (nI n))]) (congrArg (fun z_ : Int32 => ([(0, .ref ak), (1, .ref ap), (2, .ref am), (3, .ref al), (4, .ref aa), (5, .int (nI n)), (6, .int z_), (7, .int (nI p)), (8, .int (bI (anyN n (qFor B 1 (nI p))))), (9, .int (bI (anyN n (qTik B (nI p) (opmN B n p))))), (10, .int (bI (anyN n (qCls B (nI p) (opmN B n p))))), (11, .int (nI n))] : List (Nat × Value))) (show ((opmN B n p) ||| ((1 : Int32) <<< ((nI p) &&& 31)) : Int32) = opmN B n (p + 1) from by rw [opmN, if_neg (by omega)]; simp [tikd, skpd, c_185_5, c_190_7, c_195_8])) ?_
                exact j_207_4
        | succ k ih_24 =>
          rintro j x8_24 x9_24 x10_24 x11_24 hkj rfl rfl rfl rfl
          have hj : j < n := by omega
          obtain ⟨eK, eP, eM, eL, eA⟩ := hR j hj
          refine r_iload F 11 rfl dL_open_24 ?_
          refine r_iload F 5 rfl dL_open_26 ?_
          refine r_icmp_ge F 183 (by decide) dL_open_28 (fun c_28_9 => absurd c_28_9 (nI_ge (b := n) hj (by omega))) (fun _ => ?_)
          have j_49_10 : VL g X 0 0 u 49 [(0, .ref ak), (1, .ref ap), (2, .ref am), (3, .ref al), (4, .ref aa), (5, .int (nI n)), (6, .int (opmN B n p)), (7, .int (nI p)), (8, .int (bI (anyN j (qFor B 1 (nI p))))), (9, .int (bI (anyN j (qTik B (nI p) (opmN B n p))))), (10, .int (bI (anyN j (qCls B (nI p) (opmN B n p))))), (11, .int (nI j))] [.int (bI (qOpn B (opmN B n p) j))] := by
            refine r_istore (lv' := [(0, .ref ak), (1, .ref ap), (2, .ref am), (3, .ref al), (4, .ref aa), (5, .int (nI n)), (6, .int (opmN B n p)), (7, .int (nI p)), (8, .int (bI (anyN j (qFor B 1 (nI p))))), (9, .int (bI (anyN j (qTik B (nI p) (opmN B n p))))), (10, .int (bI (anyN j (qCls B (nI p) (opmN B n p))))), (11, .int (nI j)), (12, .int (bI (qOpn B (opmN B n p) j)))]) F (by decide) rfl dL_open_49 ?_
            have j_78_11 : VL g X 0 0 u 78 [(0, .ref ak), (1, .ref ap), (2, .ref am), (3, .ref al), (4, .ref aa), (5, .int (nI n)), (6, .int (opmN B n p)), (7, .int (nI p)), (8, .int (bI (anyN j (qFor B 1 (nI p))))), (9, .int (bI (anyN j (qTik B (nI p) (opmN B n p))))), (10, .int (bI (anyN j (qCls B (nI p) (opmN B n p))))), (11, .int (nI j)), (12, .int (bI (qOpn B (opmN B n p) j)))] [.int (bI (anyN j (qFor B 1 (nI p)) || qFor B 1 (nI p) j))] := by
              refine r_istore (lv' := [(0, .ref ak), (1, .ref ap), (2, .ref am), (3, .ref al), (4, .ref aa), (5, .int (nI n)), (6, .int (opmN B n p)), (7, .int (nI p)), (8, .int (bI (anyN j (qFor B 1 (nI p)) || qFor B 1 (nI p) j))), (9, .int (bI (anyN j (qTik B (nI p) (opmN B n p))))), (10, .int (bI (anyN j (qCls B (nI p) (opmN B n p))))), (11, .int (nI j)), (12, .int (bI (qOpn B (opmN B n p) j)))]) F (by decide) rfl dL_open_78 ?_
              have j_121_12 : VL g X 0 0 u 121 [(0, .ref ak), (1, .ref ap), (2, .ref am), (3, .ref al), (4, .ref aa), (5, .int (nI n)), (6, .int (opmN B n p)), (7, .int (nI p)), (8, .int (bI (anyN j (qFor B 1 (nI p)) || qFor B 1 (nI p) j))), (9, .int (bI (anyN j (qTik B (nI p) (opmN B n p))))), (10, .int (bI (anyN j (qCls B (nI p) (opmN B n p))))), (11, .int (nI j)), (12, .int (bI (qOpn B (opmN B n p) j)))] [.int (bI (anyN j (qTik B (nI p) (opmN B n p)) || qTik B (nI p) (opmN B n p) j))] := by
                refine r_istore (lv' := [(0, .ref ak), (1, .ref ap), (2, .ref am), (3, .ref al), (4, .ref aa), (5, .int (nI n)), (6, .int (opmN B n p)), (7, .int (nI p)), (8, .int (bI (anyN j (qFor B 1 (nI p)) || qFor B 1 (nI p) j))), (9, .int (bI (anyN j (qTik B (nI p) (opmN B n p)) || qTik B (nI p) (opmN B n p) j))), (10, .int (bI (anyN j (qCls B (nI p) (opmN B n p))))), (11, .int (nI j)), (12, .int (bI (qOpn B (opmN B n p) j)))]) F (by decide) rfl dL_open_121 ?_
                have j_175_13 : VL g X 0 0 u 175 [(0, .ref ak), (1, .ref ap), (2, .ref am), (3, .ref al), (4, .ref aa), (5, .int (nI n)), (6, .int (opmN B n p)), (7, .int (nI p)), (8, .int (bI (anyN j (qFor B 1 (nI p)) || qFor B 1 (nI p) j))), (9, .int (bI (anyN j (qTik B (nI p) (opmN B n p)) || qTik B (nI p) (opmN B n p) j))), (10, .int (bI (anyN j (qCls B (nI p) (opmN B n p))))), (11, .int (nI j)), (12, .int (bI (qOpn B (opmN B n p) j)))] [.int (bI (anyN j (qCls B (nI p) (opmN B n p)) || qCls B (nI p) (opmN B n p) j))] := by
                  refine r_istore (lv' := [(0, .ref ak), (1, .ref ap), (2, .ref am), (3, .ref al), (4, .ref aa), (5, .int (nI n)), (6, .int (opmN B n p)), (7, .int (nI p)), (8, .int (bI (anyN j (qFor B 1 (nI p)) || qFor B 1 (nI p) j))), (9, .int (bI (anyN j (qTik B (nI p) (opmN B n p)) || qTik B (nI p) (opmN B n p) j))), (10, .int (bI (anyN j (qCls B (nI p) (opmN B n p)) || qCls B (nI p) (opmN B n p) j))), (11, .int (nI j)), (12, .int (bI (qOpn B (opmN B n p) j)))]) F (by decide) rfl dL_open_175 ?_
                  refine r_iinc (lv' := [(0, .ref ak), (1, .ref ap), (2, .ref am), (3, .ref al), (4, .ref aa), (5, .int (nI n)), (6, .int (opmN B n p)), (7, .int (nI p)), (8, .int (bI (anyN j (qFor B 1 (nI p)) || qFor B 1 (nI p) j))), (9, .int (bI (anyN j (qTik B (nI p) (opmN B n p)) || qTik B (nI p) (opmN B n p) j))), (10, .int (bI (anyN j (qCls B (nI p) (opmN B n p)) || qCls B (nI p) (opmN B n p) j))), (11, .int (nI (j + 1))), (12, .int (bI (qOpn B (opmN B n p) j)))]) F 11 rfl (nI_inc _) (by decide) rfl dL_open_177 ?_
                  refine r_goto F 24 (by decide) dL_open_180 ?_
                  refine r_lv (lv2 := [(0, .ref ak), (1, .ref ap), (2, .ref am), (3, .ref al), (4, .ref aa), (5, .int (nI n)), (6, .int (opmN B n p)), (7, .int (nI p)), (8, .int (bI (anyN j (qFor B 1 (nI p)) || qFor B 1 (nI p) j))), (9, .int (bI (anyN j (qTik B (nI p) (opmN B n p)) || qTik B (nI p) (opmN B n p) j))), (10, .int (bI (anyN j (qCls B (nI p) (opmN B n p)) || qCls B (nI p) (opmN B n p) j))), (11, .int (nI (j + 1)))]) (by simp) ?_
                  exact ih_24 (j + 1) _ _ _ _ (by omega) rfl rfl rfl rfl
                refine r_iload F 10 rfl dL_open_123 ?_
                refine r_if_ne F 170 (by decide) dL_open_125 (fun c_125_14 => ?_) (fun c_125_14 => ?_)
                · skip
                  replace c_125_14 := bI1 c_125_14
                  refine r_iconst (v := 1) F (by decide) dL_open_170 ?_
                  refine r_goto F 175 (by decide) dL_open_171 ?_
                  refine r_eq (st2 := [.int (bI (anyN j (qCls B (nI p) (opmN B n p)) || qCls B (nI p) (opmN B n p) j))]) (congrArg (fun z_ : Int32 => ([.int z_] : List Value)) (show (1 : Int32) = bI (anyN j (qCls B (nI p) (opmN B n p)) || qCls B (nI p) (opmN B n p) j) from by simp [bI, qCls, qFor, qEmp, c_125_14])) rfl ?_
                  exact j_175_13
                · skip
                  replace c_125_14 := bI0 c_125_14
                  refine r_aload_n F 0 rfl dL_open_128 ?_
                  refine r_iload F 11 rfl dL_open_129 ?_
                  refine r_ialdA F hk (vp_in_nI (by omega) (by decide)) dL_open_131 ?_
                  refine r_eq (st2 := [.int (B j 0)]) (by rw [nI_clamp (by omega), eK]) rfl ?_
                  refine r_iconst (v := 2) F (by decide) dL_open_132 ?_
                  refine r_icmp_ne F 174 (by decide) dL_open_133 (fun c_133_15 => ?_) (fun c_133_15 => ?_)
                  · skip
                    refine r_iconst (v := 0) F (by decide) dL_open_174 ?_
                    refine r_eq (st2 := [.int (bI (anyN j (qCls B (nI p) (opmN B n p)) || qCls B (nI p) (opmN B n p) j))]) (congrArg (fun z_ : Int32 => ([.int z_] : List Value)) (show (0 : Int32) = bI (anyN j (qCls B (nI p) (opmN B n p)) || qCls B (nI p) (opmN B n p) j) from by simp [bI, qCls, qFor, qEmp, c_125_14, c_133_15])) rfl ?_
                    exact j_175_13
                  · skip
                    refine r_aload_n F 2 rfl dL_open_136 ?_
                    refine r_iload F 11 rfl dL_open_137 ?_
                    refine r_ialdA F hm (vp_in_nI (by omega) (by decide)) dL_open_139 ?_
                    refine r_eq (st2 := [.int (B j 2)]) (by rw [nI_clamp (by omega), eM]) rfl ?_
                    refine r_iload F 7 rfl dL_open_140 ?_
                    refine r_icmp_ne F 174 (by decide) dL_open_142 (fun c_142_16 => ?_) (fun c_142_16 => ?_)
                    · skip
                      refine r_iconst (v := 0) F (by decide) dL_open_174 ?_
                      refine r_eq (st2 := [.int (bI (anyN j (qCls B (nI p) (opmN B n p)) || qCls B (nI p) (opmN B n p) j))]) (congrArg (fun z_ : Int32 => ([.int z_] : List Value)) (show (0 : Int32) = bI (anyN j (qCls B (nI p) (opmN B n p)) || qCls B (nI p) (opmN B n p) j) from by simp [bI, qCls, qFor, qEmp, c_125_14, c_133_15, c_142_16])) rfl ?_
                      exact j_175_13
                    · skip
                      refine r_iload F 12 rfl dL_open_145 ?_
                      refine r_if_eq F 174 (by decide) dL_open_147 (fun c_147_17 => ?_) (fun c_147_17 => ?_)
                      · skip
                        replace c_147_17 := bI0 c_147_17
                        refine r_iconst (v := 0) F (by decide) dL_open_174 ?_
                        refine r_eq (st2 := [.int (bI (anyN j (qCls B (nI p) (opmN B n p)) || qCls B (nI p) (opmN B n p) j))]) (congrArg (fun z_ : Int32 => ([.int z_] : List Value)) (show (0 : Int32) = bI (anyN j (qCls B (nI p) (opmN B n p)) || qCls B (nI p) (opmN B n p) j) from by simp [bI, qCls, qFor, qEmp, c_125_14, c_133_15, c_142_16, c_147_17])) rfl ?_
                        exact j_175_13
                      · skip
                        replace c_147_17 := bI1 c_147_17
                        refine r_aload F 4 rfl dL_open_150 ?_
                        refine r_iload F 11 rfl dL_open_152 ?_
                        refine r_ialdA F ha (vp_in_nI (by omega) (by decide)) dL_open_154 ?_
                        refine r_eq (st2 := [.int (B j 4)]) (by rw [nI_clamp (by omega), eA]) rfl ?_
                        refine r_if_lt F 174 (by decide) dL_open_155 (fun c_155_18 => ?_) (fun c_155_18 => ?_)
                        · skip
                          have e155_18 : B j 4 = -1 := an_lt (hA j hj) c_155_18
                          refine r_iconst (v := 0) F (by decide) dL_open_174 ?_
                          refine r_eq (st2 := [.int (bI (anyN j (qCls B (nI p) (opmN B n p)) || qCls B (nI p) (opmN B n p) j))]) (congrArg (fun z_ : Int32 => ([.int z_] : List Value)) (show (0 : Int32) = bI (anyN j (qCls B (nI p) (opmN B n p)) || qCls B (nI p) (opmN B n p) j) from by simp [bI, qCls, qFor, qEmp, c_125_14, c_133_15, c_142_16, c_147_17, c_155_18, e155_18])) rfl ?_
                          exact j_175_13
                        · skip
                          have e155_18 : ¬ B j 4 = -1 := an_nlt c_155_18
                          refine r_aload F 4 rfl dL_open_158 ?_
                          refine r_iload F 11 rfl dL_open_160 ?_
                          refine r_ialdA F ha (vp_in_nI (by omega) (by decide)) dL_open_162 ?_
                          refine r_eq (st2 := [.int (B j 4)]) (by rw [nI_clamp (by omega), eA]) rfl ?_
                          refine r_aload_n F 3 rfl dL_open_163 ?_
                          refine r_iload F 11 rfl dL_open_164 ?_
                          refine r_ialdA F hl (vp_in_nI (by omega) (by decide)) dL_open_166 ?_
                          refine r_eq (st2 := [.int (B j 3), .int (B j 4)]) (by rw [nI_clamp (by omega), eL c_133_15]) rfl ?_
                          refine r_icmp_lt F 174 (by decide) dL_open_167 (fun c_167_19 => ?_) (fun c_167_19 => ?_)
                          · skip
                            refine r_iconst (v := 0) F (by decide) dL_open_174 ?_
                            refine r_eq (st2 := [.int (bI (anyN j (qCls B (nI p) (opmN B n p)) || qCls B (nI p) (opmN B n p) j))]) (congrArg (fun z_ : Int32 => ([.int z_] : List Value)) (show (0 : Int32) = bI (anyN j (qCls B (nI p) (opmN B n p)) || qCls B (nI p) (opmN B n p) j) from by simp [bI, qCls, qFor, qEmp, c_125_14, c_133_15, c_142_16, c_147_17, c_155_18, e155_18, c_167_19])) rfl ?_
                            exact j_175_13
                          · skip
                            refine r_iconst (v := 1) F (by decide) dL_open_170 ?_
                            refine r_goto F 175 (by decide) dL_open_171 ?_
                            refine r_eq (st2 := [.int (bI (anyN j (qCls B (nI p) (opmN B n p)) || qCls B (nI p) (opmN B n p) j))]) (congrArg (fun z_ : Int32 => ([.int z_] : List Value)) (show (1 : Int32) = bI (anyN j (qCls B (nI p) (opmN B n p)) || qCls B (nI p) (opmN B n p) j) from by simp [bI, qCls, qFor, qEmp, c_125_14, c_133_15, c_142_16, c_147_17, c_155_18, e155_18, c_167_19])) rfl ?_
                            exact j_175_13
              refine r_iload F 9 rfl dL_open_80 ?_
              refine r_if_ne F 116 (by decide) dL_open_82 (fun c_82_20 => ?_) (fun c_82_20 => ?_)
              · skip
                replace c_82_20 := bI1 c_82_20
                refine r_iconst (v := 1) F (by decide) dL_open_116 ?_
                refine r_goto F 121 (by decide) dL_open_117 ?_
                refine r_eq (st2 := [.int (bI (anyN j (qTik B (nI p) (opmN B n p)) || qTik B (nI p) (opmN B n p) j))]) (congrArg (fun z_ : Int32 => ([.int z_] : List Value)) (show (1 : Int32) = bI (anyN j (qTik B (nI p) (opmN B n p)) || qTik B (nI p) (opmN B n p) j) from by simp [bI, qTik, qFor, c_82_20])) rfl ?_
                exact j_121_12
              · skip
                replace c_82_20 := bI0 c_82_20
                refine r_aload_n F 0 rfl dL_open_85 ?_
                refine r_iload F 11 rfl dL_open_86 ?_
                refine r_ialdA F hk (vp_in_nI (by omega) (by decide)) dL_open_88 ?_
                refine r_eq (st2 := [.int (B j 0)]) (by rw [nI_clamp (by omega), eK]) rfl ?_
                refine r_iconst (v := 1) F (by decide) dL_open_89 ?_
                refine r_icmp_ne F 120 (by decide) dL_open_90 (fun c_90_21 => ?_) (fun c_90_21 => ?_)
                · skip
                  refine r_iconst (v := 0) F (by decide) dL_open_120 ?_
                  refine r_eq (st2 := [.int (bI (anyN j (qTik B (nI p) (opmN B n p)) || qTik B (nI p) (opmN B n p) j))]) (congrArg (fun z_ : Int32 => ([.int z_] : List Value)) (show (0 : Int32) = bI (anyN j (qTik B (nI p) (opmN B n p)) || qTik B (nI p) (opmN B n p) j) from by simp [bI, qTik, qFor, c_82_20, c_90_21])) rfl ?_
                  exact j_121_12
                · skip
                  refine r_aload_n F 2 rfl dL_open_93 ?_
                  refine r_iload F 11 rfl dL_open_94 ?_
                  refine r_ialdA F hm (vp_in_nI (by omega) (by decide)) dL_open_96 ?_
                  refine r_eq (st2 := [.int (B j 2)]) (by rw [nI_clamp (by omega), eM]) rfl ?_
                  refine r_iload F 7 rfl dL_open_97 ?_
                  refine r_icmp_ne F 120 (by decide) dL_open_99 (fun c_99_22 => ?_) (fun c_99_22 => ?_)
                  · skip
                    refine r_iconst (v := 0) F (by decide) dL_open_120 ?_
                    refine r_eq (st2 := [.int (bI (anyN j (qTik B (nI p) (opmN B n p)) || qTik B (nI p) (opmN B n p) j))]) (congrArg (fun z_ : Int32 => ([.int z_] : List Value)) (show (0 : Int32) = bI (anyN j (qTik B (nI p) (opmN B n p)) || qTik B (nI p) (opmN B n p) j) from by simp [bI, qTik, qFor, c_82_20, c_90_21, c_99_22])) rfl ?_
                    exact j_121_12
                  · skip
                    refine r_iload F 12 rfl dL_open_102 ?_
                    refine r_if_eq F 120 (by decide) dL_open_104 (fun c_104_23 => ?_) (fun c_104_23 => ?_)
                    · skip
                      replace c_104_23 := bI0 c_104_23
                      refine r_iconst (v := 0) F (by decide) dL_open_120 ?_
                      refine r_eq (st2 := [.int (bI (anyN j (qTik B (nI p) (opmN B n p)) || qTik B (nI p) (opmN B n p) j))]) (congrArg (fun z_ : Int32 => ([.int z_] : List Value)) (show (0 : Int32) = bI (anyN j (qTik B (nI p) (opmN B n p)) || qTik B (nI p) (opmN B n p) j) from by simp [bI, qTik, qFor, c_82_20, c_90_21, c_99_22, c_104_23])) rfl ?_
                      exact j_121_12
                    · skip
                      replace c_104_23 := bI1 c_104_23
                      refine r_aload F 4 rfl dL_open_107 ?_
                      refine r_iload F 11 rfl dL_open_109 ?_
                      refine r_ialdA F ha (vp_in_nI (by omega) (by decide)) dL_open_111 ?_
                      refine r_eq (st2 := [.int (B j 4)]) (by rw [nI_clamp (by omega), eA]) rfl ?_
                      refine r_iconst (v := 1) F (by decide) dL_open_112 ?_
                      refine r_icmp_ne F 120 (by decide) dL_open_113 (fun c_113_24 => ?_) (fun c_113_24 => ?_)
                      · skip
                        refine r_iconst (v := 0) F (by decide) dL_open_120 ?_
                        refine r_eq (st2 := [.int (bI (anyN j (qTik B (nI p) (opmN B n p)) || qTik B (nI p) (opmN B n p) j))]) (congrArg (fun z_ : Int32 => ([.int z_] : List Value)) (show (0 : Int32) = bI (anyN j (qTik B (nI p) (opmN B n p)) || qTik B (nI p) (opmN B n p) j) from by simp [bI, qTik, qFor, c_82_20, c_90_21, c_99_22, c_104_23, c_113_24])) rfl ?_
                        exact j_121_12
                      · skip
                        refine r_iconst (v := 1) F (by decide) dL_open_116 ?_
                        refine r_goto F 121 (by decide) dL_open_117 ?_
                        refine r_eq (st2 := [.int (bI (anyN j (qTik B (nI p) (opmN B n p)) || qTik B (nI p) (opmN B n p) j))]) (congrArg (fun z_ : Int32 => ([.int z_] : List Value)) (show (1 : Int32) = bI (anyN j (qTik B (nI p) (opmN B n p)) || qTik B (nI p) (opmN B n p) j) from by simp [bI, qTik, qFor, c_82_20, c_90_21, c_99_22, c_104_23, c_113_24])) rfl ?_
                        exact j_121_12
            refine r_iload F 8 rfl dL_open_51 ?_
            refine r_if_ne F 73 (by decide) dL_open_53 (fun c_53_25 => ?_) (fun c_53_25 => ?_)
            · skip
              replace c_53_25 := bI1 c_53_25
              refine r_iconst (v := 1) F (by decide) dL_open_73 ?_
              refine r_goto F 78 (by decide) dL_open_74 ?_
              refine r_eq (st2 := [.int (bI (anyN j (qFor B 1 (nI p)) || qFor B 1 (nI p) j))]) (congrArg (fun z_ : Int32 => ([.int z_] : List Value)) (show (1 : Int32) = bI (anyN j (qFor B 1 (nI p)) || qFor B 1 (nI p) j) from by simp [bI, qFor, c_53_25])) rfl ?_
              exact j_78_11
            · skip
              replace c_53_25 := bI0 c_53_25
              refine r_aload_n F 0 rfl dL_open_56 ?_
              refine r_iload F 11 rfl dL_open_57 ?_
              refine r_ialdA F hk (vp_in_nI (by omega) (by decide)) dL_open_59 ?_
              refine r_eq (st2 := [.int (B j 0)]) (by rw [nI_clamp (by omega), eK]) rfl ?_
              refine r_iconst (v := 1) F (by decide) dL_open_60 ?_
              refine r_icmp_ne F 77 (by decide) dL_open_61 (fun c_61_26 => ?_) (fun c_61_26 => ?_)
              · skip
                refine r_iconst (v := 0) F (by decide) dL_open_77 ?_
                refine r_eq (st2 := [.int (bI (anyN j (qFor B 1 (nI p)) || qFor B 1 (nI p) j))]) (congrArg (fun z_ : Int32 => ([.int z_] : List Value)) (show (0 : Int32) = bI (anyN j (qFor B 1 (nI p)) || qFor B 1 (nI p) j) from by simp [bI, qFor, c_53_25, c_61_26])) rfl ?_
                exact j_78_11
              · skip
                refine r_aload_n F 2 rfl dL_open_64 ?_
                refine r_iload F 11 rfl dL_open_65 ?_
                refine r_ialdA F hm (vp_in_nI (by omega) (by decide)) dL_open_67 ?_
                refine r_eq (st2 := [.int (B j 2)]) (by rw [nI_clamp (by omega), eM]) rfl ?_
                refine r_iload F 7 rfl dL_open_68 ?_
                refine r_icmp_ne F 77 (by decide) dL_open_70 (fun c_70_27 => ?_) (fun c_70_27 => ?_)
                · skip
                  refine r_iconst (v := 0) F (by decide) dL_open_77 ?_
                  refine r_eq (st2 := [.int (bI (anyN j (qFor B 1 (nI p)) || qFor B 1 (nI p) j))]) (congrArg (fun z_ : Int32 => ([.int z_] : List Value)) (show (0 : Int32) = bI (anyN j (qFor B 1 (nI p)) || qFor B 1 (nI p) j) from by simp [bI, qFor, c_53_25, c_61_26, c_70_27])) rfl ?_
                  exact j_78_11
                · skip
                  refine r_iconst (v := 1) F (by decide) dL_open_73 ?_
                  refine r_goto F 78 (by decide) dL_open_74 ?_
                  refine r_eq (st2 := [.int (bI (anyN j (qFor B 1 (nI p)) || qFor B 1 (nI p) j))]) (congrArg (fun z_ : Int32 => ([.int z_] : List Value)) (show (1 : Int32) = bI (anyN j (qFor B 1 (nI p)) || qFor B 1 (nI p) j) from by simp [bI, qFor, c_53_25, c_61_26, c_70_27])) rfl ?_
                  exact j_78_11
          refine r_iload F 6 rfl dL_open_31 ?_
          refine r_aload_n F 1 rfl dL_open_33 ?_
          refine r_iload F 11 rfl dL_open_34 ?_
          refine r_ialdA F hp (vp_in_nI (by omega) (by decide)) dL_open_36 ?_
          refine r_eq (st2 := [.int (B j 1), .int (opmN B n p)]) (by rw [nI_clamp (by omega), eP]) rfl ?_
          refine r_ishr F dL_open_37 ?_
          refine r_iconst (v := 1) F (by decide) dL_open_38 ?_
          refine r_iand F dL_open_39 ?_
          refine r_iconst (v := 1) F (by decide) dL_open_40 ?_
          refine r_icmp_ne F 48 (by decide) dL_open_41 (fun c_41_28 => ?_) (fun c_41_28 => ?_)
          · skip
            refine r_iconst (v := 0) F (by decide) dL_open_48 ?_
            refine r_eq (st2 := [.int (bI (qOpn B (opmN B n p) j))]) (congrArg (fun z_ : Int32 => ([.int z_] : List Value)) (show (0 : Int32) = bI (qOpn B (opmN B n p) j) from by simp [bI, qOpn, tld, c_41_28])) rfl ?_
            exact j_49_10
          · skip
            refine r_iconst (v := 1) F (by decide) dL_open_44 ?_
            refine r_goto F 49 (by decide) dL_open_45 ?_
            refine r_eq (st2 := [.int (bI (qOpn B (opmN B n p) j))]) (congrArg (fun z_ : Int32 => ([.int z_] : List Value)) (show (1 : Int32) = bI (qOpn B (opmN B n p) j) from by simp [bI, qOpn, tld, c_41_28])) rfl ?_
            exact j_49_10
      exact loop_24 n 0 _ _ _ _ (by omega) rfl rfl rfl rfl
  exact loop_6 4 1 _ _ (by omega) (by omega) rfl rfl

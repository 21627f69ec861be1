set_option maxHeartbeats 4000000 in
set_option maxRecDepth 100000 in
theorem c_L_value {g : kG} {l : Launch} {u : Nat → va_E} {qk qp qm qa ak ap am aa n : Nat} {K P M L A : Nat → Int32} {B : kB} {mask : Int32} {b : Nat} (hk : AR g u qk ak 16 K) (hp : AR g u qp ap 16 P) (hm : AR g u qm am 16 M) (ha : AR g u qa aa 16 A) (hn : n ≤ 16) (hR : LR n B K P M L A) (hA : gA n B) (hw : wfB n B) (hb : b < n) (h3 : B b 0 = 0 ∨ B b 0 = 3) : CI g l yL_value wsL_value ({ frames := 0, cells := 1, slots := 16, locals := 0 }) [.ref ak, .ref ap, .ref am, .ref aa, .int (nI b), .int mask] u (fun r u' => r = valX B mask b ∧ u = u') := by
  refine CI.of (cc := cL_value) (nL := 10) (ty := .int) (by decide +kernel) rfl (fun _ _ _ => rfl) (Nat.le_of_ble_eq_true rfl) ?_
  intro X hXl F hret
  subst hXl
  show VL g X 0 0 u 0 [(0, .ref ak), (1, .ref ap), (2, .ref am), (3, .ref aa), (4, .int (nI b)), (5, .int mask)] []
  refine r_bipush (v := 16) F (by decide) dL_value_0 ?_
  refine r_newA (N := 16) F (by decide +kernel) (by decide) (by decide) (by decide) ⟨Nat.le_of_ble_eq_true rfl, Nat.le_of_ble_eq_true rfl⟩ dL_value_2 (fun v0 F_1 => ?_)
  obtain ⟨u_1, eu_1⟩ : ∃ z, z = va_up u (kM g) (.inl (g.2.2.1 0, 16, .inl (fun _ => 0))) := ⟨_, rfl⟩
  rw [← eu_1]
  have haa_1 : AR (kU g v0) u_1 qa aa 16 A := by rw [eu_1]; exact ha.U
  have hak_1 : AR (kU g v0) u_1 qk ak 16 K := by rw [eu_1]; exact hk.U
  have ham_1 : AR (kU g v0) u_1 qm am 16 M := by rw [eu_1]; exact hm.U
  have hap_1 : AR (kU g v0) u_1 qp ap 16 P := by rw [eu_1]; exact hp.U
  have hv0_1 : AR (kU g v0) u_1 (kM g) v0 16 (fun _ => 0) := by rw [eu_1]; exact AR.new
  have hf_1 : ∀ i, i < kM g → u_1 i = u i := fun i hi => by rw [eu_1]; exact vne (by omega)
  refine r_astore (lv' := [(0, .ref ak), (1, .ref ap), (2, .ref am), (3, .ref aa), (4, .int (nI b)), (5, .int mask), (6, .ref v0)]) F_1 (by decide) rfl dL_value_4 ?_
  refine r_iconst (v := 0) F_1 (by decide) dL_value_6 ?_
  refine r_istore (lv' := [(0, .ref ak), (1, .ref ap), (2, .ref am), (3, .ref aa), (4, .int (nI b)), (5, .int mask), (6, .ref v0), (7, .int 0)]) F_1 (by decide) rfl dL_value_7 ?_
  have loop_9 : ∀ (k : Nat) (j : Nat) (w1 : Nat → va_E) (x7_9 : Int32), (j + k = b + 1) → (AR (kU g v0) w1 qa aa 16 A) → (AR (kU g v0) w1 qk ak 16 K) → (AR (kU g v0) w1 qm am 16 M) → (AR (kU g v0) w1 qp ap 16 P) → (AR (kU g v0) w1 (kM g) v0 16 (valM B mask (fun _ => 0) j)) → (∀ i, i < kM g → w1 i = u i) → x7_9 = nI j → VL (kU g v0) X 1 16 w1 9 [(0, .ref ak), (1, .ref ap), (2, .ref am), (3, .ref aa), (4, .int (nI b)), (5, .int mask), (6, .ref v0), (7, .int x7_9)] [] := by
    intro k
    induction k with
    | zero =>
      rintro j w1 x7_9 hkj haa_w9 hak_w9 ham_w9 hap_w9 hv0_w9 hf_w9 rfl
      have hjn : j = b + 1 := by omega
      subst hjn
      refine r_iload F_1 7 rfl dL_value_9 ?_
      refine r_iload F_1 4 rfl dL_value_11 ?_
      refine r_icmp_gt F_1 131 (by decide) dL_value_13 (fun _ => ?_) (fun c_13_2 => absurd (nI_lt (by omega) (by omega)) c_13_2)
      refine r_aload F_1 6 rfl dL_value_131 ?_
      refine r_iload F_1 4 rfl dL_value_133 ?_
      refine r_ialdA F_1 hv0_w9 (vp_in_nI (by omega) (by decide)) dL_value_135 ?_
      refine r_eq (st2 := [.int (valX B mask b)]) (by rw [nI_clamp (by omega), valM_X (n := b + 1) (hw.le (by omega)) (by omega) (by omega) h3]) rfl ?_
      exact r_down hf_w9 (hret _ _ _ _ _ _ (Nat.le_of_ble_eq_true rfl) (Nat.le_of_ble_eq_true rfl) ⟨rfl, rfl⟩ dL_value_136)
    | succ k ih_9 =>
      rintro j w1 x7_9 hkj haa_w9 hak_w9 ham_w9 hap_w9 hv0_w9 hf_w9 rfl
      have hj : j ≤ b := by omega
      obtain ⟨eK, eP, eM, eL, eA⟩ := hR j (by omega)
      refine r_iload F_1 7 rfl dL_value_9 ?_
      refine r_iload F_1 4 rfl dL_value_11 ?_
      refine r_icmp_gt F_1 131 (by decide) dL_value_13 (fun c_13_3 => absurd c_13_3 (nI_nlt (a := b) (b := j) (by omega) (by omega))) (fun _ => ?_)
      have j_73_4 : VL (kU g v0) X 1 16 w1 73 [(0, .ref ak), (1, .ref ap), (2, .ref am), (3, .ref aa), (4, .int (nI b)), (5, .int mask), (6, .ref v0), (7, .int (nI j)), (8, .int (tsm B (valM B mask (fun _ => 0) j) mask j))] [] := by
        refine r_aload F_1 6 rfl dL_value_73 ?_
        refine r_iload F_1 7 rfl dL_value_75 ?_
        have j_124_5 : VL (kU g v0) X 1 16 w1 124 [(0, .ref ak), (1, .ref ap), (2, .ref am), (3, .ref aa), (4, .int (nI b)), (5, .int mask), (6, .ref v0), (7, .int (nI j)), (8, .int (tsm B (valM B mask (fun _ => 0) j) mask j))] [.int (vlE B mask j), .int (nI j), .ref v0] := by
          refine r_iastA F_1 hv0_w9 (vp_in_nI (by omega) (by decide)) dL_value_124 (fun u_6 hu_6 => ?_)
          rw [show upd (valM B mask (fun _ => 0) j) (nI j).toNatClampNeg (vlE B mask j) = valM B mask (fun _ => 0) (j + 1) from vlE_s (by omega)] at hu_6
          have haa_7 : AR (kU g v0) u_6 qa aa 16 A := by rw [hu_6]; exact haa_w9.up (Nat.ne_of_lt ha.1)
          have hak_7 : AR (kU g v0) u_6 qk ak 16 K := by rw [hu_6]; exact hak_w9.up (Nat.ne_of_lt hk.1)
          have ham_7 : AR (kU g v0) u_6 qm am 16 M := by rw [hu_6]; exact ham_w9.up (Nat.ne_of_lt hm.1)
          have hap_7 : AR (kU g v0) u_6 qp ap 16 P := by rw [hu_6]; exact hap_w9.up (Nat.ne_of_lt hp.1)
          have hv0_7 : AR (kU g v0) u_6 (kM g) v0 16 (valM B mask (fun _ => 0) (j + 1)) := by rw [hu_6]; exact hv0_w9.set
          have hf_7 : ∀ i, i < kM g → u_6 i = u i := fun i hi => by rw [hu_6]; exact (vne (by first | omega | (rw [kM_U]; omega))).trans (hf_w9 i hi)
          refine r_iinc (lv' := [(0, .ref ak), (1, .ref ap), (2, .ref am), (3, .ref aa), (4, .int (nI b)), (5, .int mask), (6, .ref v0), (7, .int (nI (j + 1))), (8, .int (tsm B (valM B mask (fun _ => 0) j) mask j))]) F_1 7 rfl (nI_inc _) (by decide) rfl dL_value_125 ?_
          refine r_goto F_1 9 (by decide) dL_value_128 ?_
          refine r_lv (lv2 := [(0, .ref ak), (1, .ref ap), (2, .ref am), (3, .ref aa), (4, .int (nI b)), (5, .int mask), (6, .ref v0), (7, .int (nI (j + 1)))]) (by simp) ?_
          exact ih_9 (j + 1) _ _ (by omega) haa_7 hak_7 ham_7 hap_7 hv0_7 hf_7 rfl
        refine r_aload_n F_1 0 rfl dL_value_77 ?_
        refine r_iload F_1 7 rfl dL_value_78 ?_
        refine r_ialdA F_1 hak_w9 (vp_in_nI (by omega) (by decide)) dL_value_80 ?_
        refine r_eq (st2 := [.int (B j 0), .int (nI j), .ref v0]) (by rw [nI_clamp (by omega), eK]) rfl ?_
        refine r_iconst (v := 3) F_1 (by decide) dL_value_81 ?_
        refine r_icmp_ne F_1 102 (by decide) dL_value_82 (fun c_82_8 => ?_) (fun c_82_8 => ?_)
        · skip
          refine r_aload_n F_1 0 rfl dL_value_102 ?_
          refine r_iload F_1 7 rfl dL_value_103 ?_
          refine r_ialdA F_1 hak_w9 (vp_in_nI (by omega) (by decide)) dL_value_105 ?_
          refine r_eq (st2 := [.int (B j 0), .int (nI j), .ref v0]) (by rw [nI_clamp (by omega), eK]) rfl ?_
          refine r_if_ne F_1 123 (by decide) dL_value_106 (fun c_106_9 => ?_) (fun c_106_9 => ?_)
          · skip
            refine r_iconst (v := 0) F_1 (by decide) dL_value_123 ?_
            refine r_eq (st2 := [.int (vlE B mask j), .int (nI j), .ref v0]) (congrArg (fun z_ : Int32 => ([.int z_, .int (nI j), .ref v0] : List Value)) (show (0 : Int32) = vlE B mask j from by exact vlE_0 c_82_8 (Or.inl c_106_9))) rfl ?_
            exact j_124_5
          · skip
            refine r_aload_n F_1 3 rfl dL_value_109 ?_
            refine r_iload F_1 7 rfl dL_value_110 ?_
            refine r_ialdA F_1 haa_w9 (vp_in_nI (by omega) (by decide)) dL_value_112 ?_
            refine r_eq (st2 := [.int (B j 4), .int (nI j), .ref v0]) (by rw [nI_clamp (by omega), eA]) rfl ?_
            refine r_if_le F_1 123 (by decide) dL_value_113 (fun c_113_10 => ?_) (fun c_113_10 => ?_)
            · skip
              have e113_10 : B j 4 = -1 ∨ B j 4 = 0 := an_le (hA j (by omega)) c_113_10
              refine r_iconst (v := 0) F_1 (by decide) dL_value_123 ?_
              refine r_eq (st2 := [.int (vlE B mask j), .int (nI j), .ref v0]) (congrArg (fun z_ : Int32 => ([.int z_, .int (nI j), .ref v0] : List Value)) (show (0 : Int32) = vlE B mask j from by exact vlE_0 c_82_8 (Or.inr e113_10))) rfl ?_
              exact j_124_5
            · skip
              have e113_10 : ¬ B j 4 = -1 := an_nle c_113_10
              refine r_aload_n F_1 3 rfl dL_value_116 ?_
              refine r_iload F_1 7 rfl dL_value_117 ?_
              refine r_ialdA F_1 haa_w9 (vp_in_nI (by omega) (by decide)) dL_value_119 ?_
              refine r_eq (st2 := [.int (B j 4), .int (nI j), .ref v0]) (by rw [nI_clamp (by omega), eA]) rfl ?_
              refine r_goto F_1 124 (by decide) dL_value_120 ?_
              refine r_eq (st2 := [.int (vlE B mask j), .int (nI j), .ref v0]) (congrArg (fun z_ : Int32 => ([.int z_, .int (nI j), .ref v0] : List Value)) (show (B j 4 : Int32) = vlE B mask j from by exact vlE_a c_82_8 c_106_9 e113_10)) rfl ?_
              exact j_124_5
        · skip
          refine r_iload F_1 8 rfl dL_value_85 ?_
          refine r_ldc (v := 999999) F_1 (by decide +kernel) dL_value_87 ?_
          refine r_icmp_ge F_1 97 (by decide) dL_value_89 (fun c_89_11 => ?_) (fun c_89_11 => ?_)
          · skip
            refine r_ldc (v := 999999) F_1 (by decide +kernel) dL_value_97 ?_
            refine r_goto F_1 124 (by decide) dL_value_99 ?_
            refine r_eq (st2 := [.int (vlE B mask j), .int (nI j), .ref v0]) (congrArg (fun z_ : Int32 => ([.int z_, .int (nI j), .ref v0] : List Value)) (show (999999 : Int32) = vlE B mask j from by exact vlE_t1 c_82_8 c_89_11)) rfl ?_
            exact j_124_5
          · skip
            refine r_iload F_1 8 rfl dL_value_92 ?_
            refine r_goto F_1 124 (by decide) dL_value_94 ?_
            refine r_eq (st2 := [.int (vlE B mask j), .int (nI j), .ref v0]) (congrArg (fun z_ : Int32 => ([.int z_, .int (nI j), .ref v0] : List Value)) (show (tsm B (valM B mask (fun _ => 0) j) mask j : Int32) = vlE B mask j from by exact vlE_t2 c_82_8 c_89_11)) rfl ?_
            exact j_124_5
      refine r_iconst (v := 0) F_1 (by decide) dL_value_16 ?_
      refine r_istore (lv' := [(0, .ref ak), (1, .ref ap), (2, .ref am), (3, .ref aa), (4, .int (nI b)), (5, .int mask), (6, .ref v0), (7, .int (nI j)), (8, .int 0)]) F_1 (by decide) rfl dL_value_17 ?_
      refine r_iconst (v := 0) F_1 (by decide) dL_value_19 ?_
      refine r_istore (lv' := [(0, .ref ak), (1, .ref ap), (2, .ref am), (3, .ref aa), (4, .int (nI b)), (5, .int mask), (6, .ref v0), (7, .int (nI j)), (8, .int 0), (9, .int 0)]) F_1 (by decide) rfl dL_value_20 ?_
      have loop_22 : ∀ (k : Nat) (c : Nat) (x8_22 : Int32) (x9_22 : Int32), (c + k = j) → (B j 0 = 3 ∨ c = 0) → x8_22 = sumN B (valM B mask (fun _ => 0) j) j mask c → x9_22 = nI c → VL (kU g v0) X 1 16 w1 22 [(0, .ref ak), (1, .ref ap), (2, .ref am), (3, .ref aa), (4, .int (nI b)), (5, .int mask), (6, .ref v0), (7, .int (nI j)), (8, .int x8_22), (9, .int x9_22)] [] := by
        intro k
        induction k with
        | zero =>
          rintro c x8_22 x9_22 hkc hc rfl rfl
          have hcn : j = c := by omega
          subst hcn
          refine r_iload F_1 9 rfl dL_value_22 ?_
          refine r_iload F_1 7 rfl dL_value_24 ?_
          refine r_icmp_ge F_1 73 (by decide) dL_value_26 (fun _ => ?_) (fun c_26_12 => absurd (Int32.le_refl _) c_26_12)
          refine r_lv (lv2 := [(0, .ref ak), (1, .ref ap), (2, .ref am), (3, .ref aa), (4, .int (nI b)), (5, .int mask), (6, .ref v0), (7, .int (nI j)), (8, .int (sumN B (valM B mask (fun _ => 0) j) j mask j))]) (by simp) ?_
          refine r_lvq (lv2 := [(0, .ref ak), (1, .ref ap), (2, .ref am), (3, .ref aa), (4, .int (nI b)), (5, .int mask), (6, .ref v0), (7, .int (nI j)), (8, .int (tsm B (valM B mask (fun _ => 0) j) mask j))]) (congrArg (fun z_ : Int32 => ([(0, .ref ak), (1, .ref ap), (2, .ref am), (3, .ref aa), (4, .int (nI b)), (5, .int mask), (6, .ref v0), (7, .int (nI j)), (8, .int z_)] : List (Nat × Value))) (show (sumN B (valM B mask (fun _ => 0) j) j mask j : Int32) = tsm B (valM B mask (fun _ => 0) j) mask j from by exact tsm_z hc)) ?_
          exact j_73_4
        | succ k ih_22 =>
          rintro c x8_22 x9_22 hkc hc rfl rfl
          have hcj : c < j := by omega
          refine r_iload F_1 9 rfl dL_value_22 ?_
          refine r_iload F_1 7 rfl dL_value_24 ?_
          refine r_icmp_ge F_1 73 (by decide) dL_value_26 (fun c_26_13 => absurd c_26_13 (nI_ge (b := j) hcj (by omega))) (fun _ => ?_)
          refine r_aload_n F_1 0 rfl dL_value_29 ?_
          refine r_iload F_1 7 rfl dL_value_30 ?_
          refine r_ialdA F_1 hak_w9 (vp_in_nI (by omega) (by decide)) dL_value_32 ?_
          refine r_eq (st2 := [.int (B j 0)]) (by rw [nI_clamp (by omega), eK]) rfl ?_
          refine r_iconst (v := 3) F_1 (by decide) dL_value_33 ?_
          refine r_icmp_ne F_1 73 (by decide) dL_value_34 (fun c_34_14 => ?_) (fun c_34_14 => ?_)
          · skip
            refine r_lv (lv2 := [(0, .ref ak), (1, .ref ap), (2, .ref am), (3, .ref aa), (4, .int (nI b)), (5, .int mask), (6, .ref v0), (7, .int (nI j)), (8, .int (sumN B (valM B mask (fun _ => 0) j) j mask c))]) (by simp) ?_
            refine r_lvq (lv2 := [(0, .ref ak), (1, .ref ap), (2, .ref am), (3, .ref aa), (4, .int (nI b)), (5, .int mask), (6, .ref v0), (7, .int (nI j)), (8, .int (tsm B (valM B mask (fun _ => 0) j) mask j))]) (congrArg (fun z_ : Int32 => ([(0, .ref ak), (1, .ref ap), (2, .ref am), (3, .ref aa), (4, .int (nI b)), (5, .int mask), (6, .ref v0), (7, .int (nI j)), (8, .int z_)] : List (Nat × Value))) (show (sumN B (valM B mask (fun _ => 0) j) j mask c : Int32) = tsm B (valM B mask (fun _ => 0) j) mask j from by exact tsm_n hc c_34_14)) ?_
            exact j_73_4
          · skip
            have hk3_14 : B j 0 = 3 := c_34_14
            refine r_iload F_1 8 rfl dL_value_37 ?_
            refine r_aload_n F_1 2 rfl dL_value_39 ?_
            refine r_iload F_1 7 rfl dL_value_40 ?_
            refine r_ialdA F_1 ham_w9 (vp_in_nI (by omega) (by decide)) dL_value_42 ?_
            refine r_eq (st2 := [.int (B j 2), .int (sumN B (valM B mask (fun _ => 0) j) j mask c)]) (by rw [nI_clamp (by omega), eM]) rfl ?_
            refine r_iload F_1 9 rfl dL_value_43 ?_
            refine r_ishr F_1 dL_value_45 ?_
            refine r_iconst (v := 1) F_1 (by decide) dL_value_46 ?_
            refine r_iand F_1 dL_value_47 ?_
            refine r_iload F_1 5 rfl dL_value_48 ?_
            refine r_aload_n F_1 1 rfl dL_value_50 ?_
            refine r_iload F_1 9 rfl dL_value_51 ?_
            refine r_ialdA F_1 hap_w9 (vp_in_nI (by omega) (by decide)) dL_value_53 ?_
            refine r_eq (st2 := [.int (B c 1), .int mask, .int (((B j 2) >>> ((nI c) &&& 31)) &&& 1), .int (sumN B (valM B mask (fun _ => 0) j) j mask c)]) (by rw [nI_clamp (by omega), (hR c (by omega)).2.1]) rfl ?_
            refine r_ishr F_1 dL_value_54 ?_
            refine r_iconst (v := 1) F_1 (by decide) dL_value_55 ?_
            refine r_iand F_1 dL_value_56 ?_
            refine r_imul F_1 dL_value_57 ?_
            refine r_aload F_1 6 rfl dL_value_58 ?_
            refine r_iload F_1 9 rfl dL_value_60 ?_
            refine r_ialdA F_1 hv0_w9 (vp_in_nI (by omega) (by decide)) dL_value_62 ?_
            refine r_eq (st2 := [.int (valM B mask (fun _ => 0) j c), .int ((((B j 2) >>> ((nI c) &&& 31)) &&& 1) * ((mask >>> ((B c 1) &&& 31)) &&& 1)), .int (sumN B (valM B mask (fun _ => 0) j) j mask c)]) (by rw [nI_clamp (by omega)]) rfl ?_
            refine r_imul F_1 dL_value_63 ?_
            refine r_iadd F_1 dL_value_64 ?_
            refine r_eq (st2 := [.int (sumN B (valM B mask (fun _ => 0) j) j mask (c + 1))]) (congrArg (fun z_ : Int32 => ([.int z_] : List Value)) (show ((sumN B (valM B mask (fun _ => 0) j) j mask c) + (((((B j 2) >>> ((nI c) &&& 31)) &&& 1) * ((mask >>> ((B c 1) &&& 31)) &&& 1)) * (valM B mask (fun _ => 0) j c)) : Int32) = sumN B (valM B mask (fun _ => 0) j) j mask (c + 1) from sum_s)) rfl ?_
            refine r_istore (lv' := [(0, .ref ak), (1, .ref ap), (2, .ref am), (3, .ref aa), (4, .int (nI b)), (5, .int mask), (6, .ref v0), (7, .int (nI j)), (8, .int (sumN B (valM B mask (fun _ => 0) j) j mask (c + 1))), (9, .int (nI c))]) F_1 (by decide) rfl dL_value_65 ?_
            refine r_iinc (lv' := [(0, .ref ak), (1, .ref ap), (2, .ref am), (3, .ref aa), (4, .int (nI b)), (5, .int mask), (6, .ref v0), (7, .int (nI j)), (8, .int (sumN B (valM B mask (fun _ => 0) j) j mask (c + 1))), (9, .int (nI (c + 1)))]) F_1 9 rfl (nI_inc _) (by decide) rfl dL_value_67 ?_
            refine r_goto F_1 22 (by decide) dL_value_70 ?_
            exact ih_22 (c + 1) _ _ (by omega) (Or.inl hk3_14) rfl rfl
      exact loop_22 j 0 _ _ (by omega) (Or.inr rfl) rfl rfl
  exact loop_9 (b + 1) 0 _ _ (by omega) haa_1 hak_1 ham_1 hap_1 hv0_1 hf_1 rfl
set_option maxHeartbeats 4000000 in
set_option maxRecDepth 100000 in
theorem c_L_carried {g : kG} {l : Launch} {u : Nat → va_E} {qk qm ak am n b : Nat} {K P M L A : Nat → Int32} {B : kB} (hk : AR g u qk ak 16 K) (hm : AR g u qm am 16 M) (hn : n ≤ 16) (hR : LR n B K P M L A) (hb : b < n) : CI g l yL_carried wsL_carried ({ frames := 0, cells := 0, slots := 0, locals := 0 }) [.ref ak, .ref am, .int (nI n), .int (nI b)] u (fun r u' => r = crN B b n ∧ u = u') := by
  refine CI.of (cc := cL_carried) (nL := 9) (ty := .int) (by decide +kernel) rfl (fun _ _ _ => rfl) (Nat.le_of_ble_eq_true rfl) ?_
  intro X hXl F hret
  subst hXl
  show VL g X 0 0 u 0 [(0, .ref ak), (1, .ref am), (2, .int (nI n)), (3, .int (nI b))] []
  refine r_iconst (v := 1) F (by decide) dL_carried_0 ?_
  refine r_iload_n F 3 rfl dL_carried_1 ?_
  refine r_ishl F dL_carried_2 ?_
  refine r_istore (lv' := [(0, .ref ak), (1, .ref am), (2, .int (nI n)), (3, .int (nI b)), (4, .int ((1 : Int32) <<< ((nI b) &&& 31)))]) F (by decide) rfl dL_carried_3 ?_
  refine r_iconst (v := 0) F (by decide) dL_carried_5 ?_
  refine r_istore (lv' := [(0, .ref ak), (1, .ref am), (2, .int (nI n)), (3, .int (nI b)), (4, .int ((1 : Int32) <<< ((nI b) &&& 31))), (5, .int 0)]) F (by decide) rfl dL_carried_6 ?_
  refine r_iload_n F 3 rfl dL_carried_8 ?_
  refine r_iconst (v := 1) F (by decide) dL_carried_9 ?_
  refine r_iadd F dL_carried_10 ?_
  refine r_eq (st2 := [.int (nI (b + 1))]) (congrArg (fun z_ : Int32 => ([.int z_] : List Value)) (show ((nI b) + 1 : Int32) = nI (b + 1) from nI_1 b)) rfl ?_
  refine r_istore (lv' := [(0, .ref ak), (1, .ref am), (2, .int (nI n)), (3, .int (nI b)), (4, .int ((1 : Int32) <<< ((nI b) &&& 31))), (5, .int 0), (6, .int (nI (b + 1)))]) F (by decide) rfl dL_carried_11 ?_
  have loop_13 : ∀ (k : Nat) (t : Nat) (x4_13 : Int32) (x5_13 : Int32) (x6_13 : Int32), (t + k = n) → (b < t) → x4_13 = crS B b t → x5_13 = crN B b t → x6_13 = nI t → VL g X 0 0 u 13 [(0, .ref ak), (1, .ref am), (2, .int (nI n)), (3, .int (nI b)), (4, .int x4_13), (5, .int x5_13), (6, .int x6_13)] [] := by
    intro k
    induction k with
    | zero =>
      rintro t x4_13 x5_13 x6_13 hkt hbt rfl rfl rfl
      have htn : n = t := by omega
      subst htn
      refine r_iload F 6 rfl dL_carried_13 ?_
      refine r_iload_n F 2 rfl dL_carried_15 ?_
      refine r_icmp_ge F 111 (by decide) dL_carried_16 (fun _ => ?_) (fun c_16_1 => absurd (Int32.le_refl _) c_16_1)
      refine r_iload F 5 rfl dL_carried_111 ?_
      exact hret _ _ _ _ _ _ (Nat.le_of_ble_eq_true rfl) (Nat.le_of_ble_eq_true rfl) ⟨rfl, rfl⟩ dL_carried_113
    | succ k ih_13 =>
      rintro t x4_13 x5_13 x6_13 hkt hbt rfl rfl rfl
      have htn : t < n := by omega
      obtain ⟨eK, eP, eM, eL, eA⟩ := hR t htn
      refine r_iload F 6 rfl dL_carried_13 ?_
      refine r_iload_n F 2 rfl dL_carried_15 ?_
      refine r_icmp_ge F 111 (by decide) dL_carried_16 (fun c_16_2 => absurd c_16_2 (nI_ge (b := n) htn (by omega))) (fun _ => ?_)
      refine r_iconst (v := 0) F (by decide) dL_carried_19 ?_
      refine r_istore (lv' := [(0, .ref ak), (1, .ref am), (2, .int (nI n)), (3, .int (nI b)), (4, .int (crS B b t)), (5, .int (crN B b t)), (6, .int (nI t)), (7, .int 0)]) F (by decide) rfl dL_carried_20 ?_
      refine r_iload_n F 3 rfl dL_carried_22 ?_
      refine r_istore (lv' := [(0, .ref ak), (1, .ref am), (2, .int (nI n)), (3, .int (nI b)), (4, .int (crS B b t)), (5, .int (crN B b t)), (6, .int (nI t)), (7, .int 0), (8, .int (nI b))]) F (by decide) rfl dL_carried_23 ?_
      have loop_25 : ∀ (k : Nat) (d : Nat) (x7_25 : Int32) (x8_25 : Int32), (b + d + k = t) → x7_25 = byE B b t d → x8_25 = nI (b + d) → VL g X 0 0 u 25 [(0, .ref ak), (1, .ref am), (2, .int (nI n)), (3, .int (nI b)), (4, .int (crS B b t)), (5, .int (crN B b t)), (6, .int (nI t)), (7, .int x7_25), (8, .int x8_25)] [] := by
        intro k
        induction k with
        | zero =>
          rintro d x7_25 x8_25 hkd rfl rfl
          have hdn : d = t - b := by omega
          subst hdn
          refine r_iload F 8 rfl dL_carried_25 ?_
          refine r_iload F 6 rfl dL_carried_27 ?_
          refine r_icmp_ge F 72 (by decide) dL_carried_29 (fun _ => ?_) (fun c_29_3 => absurd (nI_le (by omega) (by omega)) c_29_3)
          have j_88_4 : VL g X 0 0 u 88 [(0, .ref ak), (1, .ref am), (2, .int (nI n)), (3, .int (nI b)), (4, .int (crS B b t)), (5, .int (crN B b t)), (6, .int (nI t)), (7, .int (byE B b t (t - b))), (8, .int (nI (b + (t - b))))] [.int (crS B b (t + 1))] := by
            refine r_istore (lv' := [(0, .ref ak), (1, .ref am), (2, .int (nI n)), (3, .int (nI b)), (4, .int (crS B b (t + 1))), (5, .int (crN B b t)), (6, .int (nI t)), (7, .int (byE B b t (t - b))), (8, .int (nI (b + (t - b))))]) F (by decide) rfl dL_carried_88 ?_
            have j_103_5 : VL g X 0 0 u 103 [(0, .ref ak), (1, .ref am), (2, .int (nI n)), (3, .int (nI b)), (4, .int (crS B b (t + 1))), (5, .int (crN B b t)), (6, .int (nI t)), (7, .int (byE B b t (t - b))), (8, .int (nI (b + (t - b))))] [.int (crN B b (t + 1))] := by
              refine r_istore (lv' := [(0, .ref ak), (1, .ref am), (2, .int (nI n)), (3, .int (nI b)), (4, .int (crS B b (t + 1))), (5, .int (crN B b (t + 1))), (6, .int (nI t)), (7, .int (byE B b t (t - b))), (8, .int (nI (b + (t - b))))]) F (by decide) rfl dL_carried_103 ?_
              refine r_iinc (lv' := [(0, .ref ak), (1, .ref am), (2, .int (nI n)), (3, .int (nI b)), (4, .int (crS B b (t + 1))), (5, .int (crN B b (t + 1))), (6, .int (nI (t + 1))), (7, .int (byE B b t (t - b))), (8, .int (nI (b + (t - b))))]) F 6 rfl (nI_inc _) (by decide) rfl dL_carried_105 ?_
              refine r_goto F 13 (by decide) dL_carried_108 ?_
              refine r_lv (lv2 := [(0, .ref ak), (1, .ref am), (2, .int (nI n)), (3, .int (nI b)), (4, .int (crS B b (t + 1))), (5, .int (crN B b (t + 1))), (6, .int (nI (t + 1)))]) (by simp) ?_
              exact ih_13 (t + 1) _ _ _ (by omega) (by omega) rfl rfl rfl
            refine r_iload F 5 rfl dL_carried_90 ?_
            refine r_iload F 7 rfl dL_carried_92 ?_
            refine r_if_le F 101 (by decide) dL_carried_94 (fun c_94_6 => ?_) (fun c_94_6 => ?_)
            · skip
              refine r_iconst (v := 0) F (by decide) dL_carried_101 ?_
              refine r_iadd F dL_carried_102 ?_
              refine r_eq (st2 := [.int (crN B b (t + 1))]) (congrArg (fun z_ : Int32 => ([.int z_] : List Value)) (show ((crN B b t) + 0 : Int32) = crN B b (t + 1) from by exact crN_s0 hbt (by omega) (Int32.not_lt.mpr c_94_6))) rfl ?_
              exact j_103_5
            · skip
              refine r_iconst (v := 1) F (by decide) dL_carried_97 ?_
              refine r_goto F 102 (by decide) dL_carried_98 ?_
              refine r_iadd F dL_carried_102 ?_
              refine r_eq (st2 := [.int (crN B b (t + 1))]) (congrArg (fun z_ : Int32 => ([.int z_] : List Value)) (show ((crN B b t) + 1 : Int32) = crN B b (t + 1) from by exact crN_s1 hbt (by omega) (Int32.not_le.mp c_94_6))) rfl ?_
              exact j_103_5
          refine r_iload F 4 rfl dL_carried_72 ?_
          refine r_iload F 7 rfl dL_carried_74 ?_
          refine r_if_le F 86 (by decide) dL_carried_76 (fun c_76_7 => ?_) (fun c_76_7 => ?_)
          · skip
            refine r_iconst (v := 0) F (by decide) dL_carried_86 ?_
            refine r_ior F dL_carried_87 ?_
            refine r_eq (st2 := [.int (crS B b (t + 1))]) (congrArg (fun z_ : Int32 => ([.int z_] : List Value)) (show ((crS B b t) ||| 0 : Int32) = crS B b (t + 1) from by exact crS_s0 hbt (by omega) (Int32.not_lt.mpr c_76_7))) rfl ?_
            exact j_88_4
          · skip
            refine r_iconst (v := 1) F (by decide) dL_carried_79 ?_
            refine r_iload F 6 rfl dL_carried_80 ?_
            refine r_ishl F dL_carried_82 ?_
            refine r_goto F 87 (by decide) dL_carried_83 ?_
            refine r_ior F dL_carried_87 ?_
            refine r_eq (st2 := [.int (crS B b (t + 1))]) (congrArg (fun z_ : Int32 => ([.int z_] : List Value)) (show ((crS B b t) ||| ((1 : Int32) <<< ((nI t) &&& 31)) : Int32) = crS B b (t + 1) from by exact crS_s1 hbt (by omega) (Int32.not_le.mp c_76_7))) rfl ?_
            exact j_88_4
        | succ k ih_25 =>
          rintro d x7_25 x8_25 hkd rfl rfl
          have hdt : b + d < t := by omega
          refine r_iload F 8 rfl dL_carried_25 ?_
          refine r_iload F 6 rfl dL_carried_27 ?_
          refine r_icmp_ge F 72 (by decide) dL_carried_29 (fun c_29_8 => absurd c_29_8 (nI_ge (b := t) hdt (by omega))) (fun _ => ?_)
          refine r_iload F 7 rfl dL_carried_32 ?_
          have j_64_9 : VL g X 0 0 u 64 [(0, .ref ak), (1, .ref am), (2, .int (nI n)), (3, .int (nI b)), (4, .int (crS B b t)), (5, .int (crN B b t)), (6, .int (nI t)), (7, .int (byE B b t d)), (8, .int (nI (b + d)))] [.int (byE B b t (d + 1))] := by
            refine r_istore (lv' := [(0, .ref ak), (1, .ref am), (2, .int (nI n)), (3, .int (nI b)), (4, .int (crS B b t)), (5, .int (crN B b t)), (6, .int (nI t)), (7, .int (byE B b t (d + 1))), (8, .int (nI (b + d)))]) F (by decide) rfl dL_carried_64 ?_
            refine r_iinc (lv' := [(0, .ref ak), (1, .ref am), (2, .int (nI n)), (3, .int (nI b)), (4, .int (crS B b t)), (5, .int (crN B b t)), (6, .int (nI t)), (7, .int (byE B b t (d + 1))), (8, .int (nI (b + d + 1)))]) F 8 rfl (nI_inc _) (by decide) rfl dL_carried_66 ?_
            refine r_goto F 25 (by decide) dL_carried_69 ?_
            exact ih_25 (d + 1) _ _ (by omega) rfl rfl
          refine r_aload_n F 0 rfl dL_carried_34 ?_
          refine r_iload F 6 rfl dL_carried_35 ?_
          refine r_ialdA F hk (vp_in_nI (by omega) (by decide)) dL_carried_37 ?_
          refine r_eq (st2 := [.int (B t 0), .int (byE B b t d)]) (by rw [nI_clamp (by omega), eK]) rfl ?_
          refine r_iconst (v := 3) F (by decide) dL_carried_38 ?_
          refine r_icmp_ne F 62 (by decide) dL_carried_39 (fun c_39_10 => ?_) (fun c_39_10 => ?_)
          · skip
            refine r_iconst (v := 0) F (by decide) dL_carried_62 ?_
            refine r_iadd F dL_carried_63 ?_
            refine r_eq (st2 := [.int (byE B b t (d + 1))]) (congrArg (fun z_ : Int32 => ([.int z_] : List Value)) (show ((byE B b t d) + 0 : Int32) = byE B b t (d + 1) from by exact by_n c_39_10)) rfl ?_
            exact j_64_9
          · skip
            refine r_iload F 4 rfl dL_carried_42 ?_
            refine r_iload F 8 rfl dL_carried_44 ?_
            refine r_ishr F dL_carried_46 ?_
            refine r_iconst (v := 1) F (by decide) dL_carried_47 ?_
            refine r_iand F dL_carried_48 ?_
            refine r_aload_n F 1 rfl dL_carried_49 ?_
            refine r_iload F 6 rfl dL_carried_50 ?_
            refine r_ialdA F hm (vp_in_nI (by omega) (by decide)) dL_carried_52 ?_
            refine r_eq (st2 := [.int (B t 2), .int (((crS B b t) >>> ((nI (b + d)) &&& 31)) &&& 1), .int (byE B b t d)]) (by rw [nI_clamp (by omega), eM]) rfl ?_
            refine r_iload F 8 rfl dL_carried_53 ?_
            refine r_ishr F dL_carried_55 ?_
            refine r_iconst (v := 1) F (by decide) dL_carried_56 ?_
            refine r_iand F dL_carried_57 ?_
            refine r_imul F dL_carried_58 ?_
            refine r_goto F 63 (by decide) dL_carried_59 ?_
            refine r_iadd F dL_carried_63 ?_
            refine r_eq (st2 := [.int (byE B b t (d + 1))]) (congrArg (fun z_ : Int32 => ([.int z_] : List Value)) (show ((byE B b t d) + ((((crS B b t) >>> ((nI (b + d)) &&& 31)) &&& 1) * (((B t 2) >>> ((nI (b + d)) &&& 31)) &&& 1)) : Int32) = byE B b t (d + 1) from by exact by_s c_39_10)) rfl ?_
            exact j_64_9
      exact loop_25 (t - b) 0 _ _ (by omega) by_0.symm rfl
  exact loop_13 (n - (b + 1)) (b + 1) _ _ _ (by omega) (by omega) crS_0.symm crN_0.symm rfl
set_option maxHeartbeats 4000000 in
set_option maxRecDepth 100000 in
theorem c_L_fewest {g : kG} {l : Launch} {u : Nat → va_E} {qk qp qm ql qa ak ap am al aa n : Nat} {K P M L A : Nat → Int32} {B : kB} (hk : AR g u qk ak 16 K) (hp : AR g u qp ap 16 P) (hm : AR g u qm am 16 M) (hl : AR g u ql al 16 L) (ha : AR g u qa aa 16 A) (hn : n ≤ 16) (hR : LR n B K P M L A) (hA : gA n B) (hw : wfB n B) : CI g l yL_fewest wsL_fewest ({ frames := 1, cells := 2, slots := 33, locals := 32 }) [.ref ak, .ref ap, .ref am, .ref al, .ref aa, .int (nI n)] u (fun r u' => r = sho B n ∧ u = u') := by
  refine CI.of (cc := cL_fewest) (nL := 13) (ty := .int) (by decide +kernel) rfl (fun _ _ _ => rfl) (Nat.le_of_ble_eq_true rfl) ?_
  intro X hXl F hret
  subst hXl
  have hF : cnK n (mtB B) ≤ 16 := Nat.le_trans cnK_le hn
  have hF2 : 2 ^ cnK n (mtB B) ≤ 65536 := Nat.pow_le_pow_right (by decide) hF (n := 2)
  show VL g X 0 0 u 0 [(0, .ref ak), (1, .ref ap), (2, .ref am), (3, .ref al), (4, .ref aa), (5, .int (nI n))] []
  refine r_bipush (v := 16) F (by decide) dL_fewest_0 ?_
  refine r_newA (N := 16) F (by decide +kernel) (by decide) (by decide) (by decide) ⟨Nat.le_of_ble_eq_true rfl, Nat.le_of_ble_eq_true rfl⟩ dL_fewest_2 (fun t0 F_1 => ?_)
  obtain ⟨u_1, eu_1⟩ : ∃ z, z = va_up u (kM g) (.inl (g.2.2.1 0, 16, .inl (fun _ => 0))) := ⟨_, rfl⟩
  rw [← eu_1]
  have haa_1 : AR (kU g t0) u_1 qa aa 16 A := by rw [eu_1]; exact ha.U
  have hak_1 : AR (kU g t0) u_1 qk ak 16 K := by rw [eu_1]; exact hk.U
  have hal_1 : AR (kU g t0) u_1 ql al 16 L := by rw [eu_1]; exact hl.U
  have ham_1 : AR (kU g t0) u_1 qm am 16 M := by rw [eu_1]; exact hm.U
  have hap_1 : AR (kU g t0) u_1 qp ap 16 P := by rw [eu_1]; exact hp.U
  have ht0_1 : AR (kU g t0) u_1 (kM g) t0 16 (fun _ => 0) := by rw [eu_1]; exact AR.new
  have hf_1 : ∀ i, i < kM g → u_1 i = u i := fun i hi => by rw [eu_1]; exact vne (by omega)
  refine r_astore (lv' := [(0, .ref ak), (1, .ref ap), (2, .ref am), (3, .ref al), (4, .ref aa), (5, .int (nI n)), (6, .ref t0)]) F_1 (by decide) rfl dL_fewest_4 ?_
  refine r_bipush (v := 17) F_1 (by decide) dL_fewest_6 ?_
  refine r_newA (N := 17) F_1 (by decide +kernel) (by decide) (by decide) (by decide) ⟨Nat.le_of_ble_eq_true rfl, Nat.le_of_ble_eq_true rfl⟩ dL_fewest_8 (fun s0 F_2 => ?_)
  obtain ⟨u_2, eu_2⟩ : ∃ z, z = va_up u_1 (kM (kU g t0)) (.inl ((kU g t0).2.2.1 0, 17, .inl (fun _ => 0))) := ⟨_, rfl⟩
  rw [← eu_2]
  have haa_2 : AR (kU (kU g t0) s0) u_2 qa aa 16 A := by rw [eu_2]; exact haa_1.U
  have hak_2 : AR (kU (kU g t0) s0) u_2 qk ak 16 K := by rw [eu_2]; exact hak_1.U
  have hal_2 : AR (kU (kU g t0) s0) u_2 ql al 16 L := by rw [eu_2]; exact hal_1.U
  have ham_2 : AR (kU (kU g t0) s0) u_2 qm am 16 M := by rw [eu_2]; exact ham_1.U
  have hap_2 : AR (kU (kU g t0) s0) u_2 qp ap 16 P := by rw [eu_2]; exact hap_1.U
  have ht0_2 : AR (kU (kU g t0) s0) u_2 (kM g) t0 16 (fun _ => (0 : Int32)) := by rw [eu_2]; exact ht0_1.U
  have hs0_2 : AR (kU (kU g t0) s0) u_2 (kM (kU g t0)) s0 17 (fun _ => 0) := by rw [eu_2]; exact AR.new
  have hf_2 : ∀ i, i < kM g → u_2 i = u i := fun i hi => by rw [eu_2]; exact (vne (by rw [kM_U]; omega)).trans (hf_1 i hi)
  refine r_astore (lv' := [(0, .ref ak), (1, .ref ap), (2, .ref am), (3, .ref al), (4, .ref aa), (5, .int (nI n)), (6, .ref t0), (7, .ref s0)]) F_2 (by decide) rfl dL_fewest_10 ?_
  refine r_iconst (v := 0) F_2 (by decide) dL_fewest_12 ?_
  refine r_istore (lv' := [(0, .ref ak), (1, .ref ap), (2, .ref am), (3, .ref al), (4, .ref aa), (5, .int (nI n)), (6, .ref t0), (7, .ref s0), (8, .int 0)]) F_2 (by decide) rfl dL_fewest_13 ?_
  refine r_iconst (v := 0) F_2 (by decide) dL_fewest_15 ?_
  refine r_istore (lv' := [(0, .ref ak), (1, .ref ap), (2, .ref am), (3, .ref al), (4, .ref aa), (5, .int (nI n)), (6, .ref t0), (7, .ref s0), (8, .int 0), (9, .int 0)]) F_2 (by decide) rfl dL_fewest_16 ?_
  have loop_18 : ∀ (k : Nat) (j : Nat) (SP : Nat → Int32) (w1 : Nat → va_E) (x8_18 : Int32) (x9_18 : Int32), (j + k = n) → (∀ b, b < j → mtB B b = true → SP (cnK b (mtB B)) = nI b) → (AR (kU (kU g t0) s0) w1 qa aa 16 A) → (AR (kU (kU g t0) s0) w1 qk ak 16 K) → (AR (kU (kU g t0) s0) w1 ql al 16 L) → (AR (kU (kU g t0) s0) w1 qm am 16 M) → (AR (kU (kU g t0) s0) w1 qp ap 16 P) → (AR (kU (kU g t0) s0) w1 (kM (kU g t0)) s0 17 SP) → (AR (kU (kU g t0) s0) w1 (kM g) t0 16 (fun _ => (0 : Int32))) → (∀ i, i < kM g → w1 i = u i) → x8_18 = nI (cnK j (mtB B)) → x9_18 = nI j → VL (kU (kU g t0) s0) X 2 33 w1 18 [(0, .ref ak), (1, .ref ap), (2, .ref am), (3, .ref al), (4, .ref aa), (5, .int (nI n)), (6, .ref t0), (7, .ref s0), (8, .int x8_18), (9, .int x9_18)] [] := by
    intro k
    induction k with
    | zero =>
      rintro j SP w1 x8_18 x9_18 hkj hsp haa_w18 hak_w18 hal_w18 ham_w18 hap_w18 hs0_w18 ht0_w18 hf_w18 rfl rfl
      have hjn : n = j := by omega
      subst hjn
      refine r_iload F_2 9 rfl dL_fewest_18 ?_
      refine r_iload F_2 5 rfl dL_fewest_20 ?_
      refine r_icmp_ge F_2 72 (by decide) dL_fewest_22 (fun _ => ?_) (fun c_22_3 => absurd (Int32.le_refl _) c_22_3)
      refine r_bipush (v := 99) F_2 (by decide) dL_fewest_72 ?_
      refine r_istore (lv' := [(0, .ref ak), (1, .ref ap), (2, .ref am), (3, .ref al), (4, .ref aa), (5, .int (nI n)), (6, .ref t0), (7, .ref s0), (8, .int (nI (cnK n (mtB B)))), (9, .int 99)]) F_2 (by decide) rfl dL_fewest_74 ?_
      refine r_iconst (v := 0) F_2 (by decide) dL_fewest_76 ?_
      refine r_istore (lv' := [(0, .ref ak), (1, .ref ap), (2, .ref am), (3, .ref al), (4, .ref aa), (5, .int (nI n)), (6, .ref t0), (7, .ref s0), (8, .int (nI (cnK n (mtB B)))), (9, .int 99), (10, .int 0)]) F_2 (by decide) rfl dL_fewest_77 ?_
      have loop_79 : ∀ (k : Nat) (c : Nat) (T : Nat → Int32) (w2 : Nat → va_E) (x9_79 : Int32) (x10_79 : Int32), (c + k = 2 ^ cnK n (mtB B)) → (AR (kU (kU g t0) s0) w2 qa aa 16 A) → (AR (kU (kU g t0) s0) w2 qk ak 16 K) → (AR (kU (kU g t0) s0) w2 ql al 16 L) → (AR (kU (kU g t0) s0) w2 qm am 16 M) → (AR (kU (kU g t0) s0) w2 qp ap 16 P) → (AR (kU (kU g t0) s0) w2 (kM (kU g t0)) s0 17 SP) → (AR (kU (kU g t0) s0) w2 (kM g) t0 16 T) → (∀ i, i < kM g → w2 i = u i) → x9_79 = lsN B n c → x10_79 = nI c → VL (kU (kU g t0) s0) X 2 33 w2 79 [(0, .ref ak), (1, .ref ap), (2, .ref am), (3, .ref al), (4, .ref aa), (5, .int (nI n)), (6, .ref t0), (7, .ref s0), (8, .int (nI (cnK n (mtB B)))), (9, .int x9_79), (10, .int x10_79)] [] := by
        intro k
        induction k with
        | zero =>
          rintro c T w2 x9_79 x10_79 hkc haa_w79 hak_w79 hal_w79 ham_w79 hap_w79 hs0_w79 ht0_w79 hf_w79 rfl rfl
          have hcn : c = 2 ^ cnK n (mtB B) := by omega
          refine r_iload F_2 10 rfl dL_fewest_79 ?_
          refine r_iconst (v := 1) F_2 (by decide) dL_fewest_81 ?_
          refine r_iload F_2 8 rfl dL_fewest_82 ?_
          refine r_ishl F_2 dL_fewest_84 ?_
          refine r_eq (st2 := [.int (nI (2 ^ cnK n (mtB B))), .int (nI c)]) (congrArg (fun z_ : Int32 => ([.int z_, .int (nI c)] : List Value)) (show ((1 : Int32) <<< ((nI (cnK n (mtB B))) &&& 31) : Int32) = nI (2 ^ cnK n (mtB B)) from sh1 _ hF)) rfl ?_
          refine r_icmp_ge F_2 225 (by decide) dL_fewest_85 (fun _ => ?_) (fun c_85_4 => absurd (nI_le (by omega) (by omega)) c_85_4)
          refine r_iload F_2 9 rfl dL_fewest_225 ?_
          exact r_down (g := kU g t0) (fun i hi => rfl) (r_down hf_w79 (hret _ _ _ _ _ _ (Nat.le_of_ble_eq_true rfl) (Nat.le_of_ble_eq_true rfl) ⟨by rw [hcn]; exact ls_end hw hn, rfl⟩ dL_fewest_227))
        | succ k ih_79 =>
          rintro c T w2 x9_79 x10_79 hkc haa_w79 hak_w79 hal_w79 ham_w79 hap_w79 hs0_w79 ht0_w79 hf_w79 rfl rfl
          have hcl : c < 2 ^ cnK n (mtB B) := by omega
          refine r_iload F_2 10 rfl dL_fewest_79 ?_
          refine r_iconst (v := 1) F_2 (by decide) dL_fewest_81 ?_
          refine r_iload F_2 8 rfl dL_fewest_82 ?_
          refine r_ishl F_2 dL_fewest_84 ?_
          refine r_eq (st2 := [.int (nI (2 ^ cnK n (mtB B))), .int (nI c)]) (congrArg (fun z_ : Int32 => ([.int z_, .int (nI c)] : List Value)) (show ((1 : Int32) <<< ((nI (cnK n (mtB B))) &&& 31) : Int32) = nI (2 ^ cnK n (mtB B)) from sh1 _ hF)) rfl ?_
          refine r_icmp_ge F_2 225 (by decide) dL_fewest_85 (fun c_85_5 => absurd c_85_5 (nI_ge (b := 2 ^ cnK n (mtB B)) hcl (by omega))) (fun _ => ?_)
          refine r_iconst (v := 0) F_2 (by decide) dL_fewest_88 ?_
          refine r_istore (lv' := [(0, .ref ak), (1, .ref ap), (2, .ref am), (3, .ref al), (4, .ref aa), (5, .int (nI n)), (6, .ref t0), (7, .ref s0), (8, .int (nI (cnK n (mtB B)))), (9, .int (lsN B n c)), (10, .int (nI c)), (11, .int 0)]) F_2 (by decide) rfl dL_fewest_89 ?_
          have loop_91 : ∀ (k : Nat) (j : Nat) (T : Nat → Int32) (w3 : Nat → va_E) (x11_91 : Int32), (j + k = n) → (∀ d, d < j → T d = A d) → (AR (kU (kU g t0) s0) w3 qa aa 16 A) → (AR (kU (kU g t0) s0) w3 qk ak 16 K) → (AR (kU (kU g t0) s0) w3 ql al 16 L) → (AR (kU (kU g t0) s0) w3 qm am 16 M) → (AR (kU (kU g t0) s0) w3 qp ap 16 P) → (AR (kU (kU g t0) s0) w3 (kM (kU g t0)) s0 17 SP) → (AR (kU (kU g t0) s0) w3 (kM g) t0 16 T) → (∀ i, i < kM g → w3 i = u i) → x11_91 = nI j → VL (kU (kU g t0) s0) X 2 33 w3 91 [(0, .ref ak), (1, .ref ap), (2, .ref am), (3, .ref al), (4, .ref aa), (5, .int (nI n)), (6, .ref t0), (7, .ref s0), (8, .int (nI (cnK n (mtB B)))), (9, .int (lsN B n c)), (10, .int (nI c)), (11, .int x11_91)] [] := by
            intro k
            induction k with
            | zero =>
              rintro j T w3 x11_91 hkj hT haa_w91 hak_w91 hal_w91 ham_w91 hap_w91 hs0_w91 ht0_w91 hf_w91 rfl
              have hjn : n = j := by omega
              subst hjn
              refine r_iload F_2 11 rfl dL_fewest_91 ?_
              refine r_iload F_2 5 rfl dL_fewest_93 ?_
              refine r_icmp_ge F_2 114 (by decide) dL_fewest_95 (fun _ => ?_) (fun c_95_6 => absurd (Int32.le_refl _) c_95_6)
              refine r_iconst (v := 0) F_2 (by decide) dL_fewest_114 ?_
              refine r_istore (lv' := [(0, .ref ak), (1, .ref ap), (2, .ref am), (3, .ref al), (4, .ref aa), (5, .int (nI n)), (6, .ref t0), (7, .ref s0), (8, .int (nI (cnK n (mtB B)))), (9, .int (lsN B n c)), (10, .int (nI c)), (11, .int 0)]) F_2 (by decide) rfl dL_fewest_115 ?_
              have loop_117 : ∀ (k : Nat) (i : Nat) (T : Nat → Int32) (w4 : Nat → va_E) (x11_117 : Int32), (i + k = cnK n (mtB B)) → (∀ d, d < n → T d = asV B c i d) → (AR (kU (kU g t0) s0) w4 qa aa 16 A) → (AR (kU (kU g t0) s0) w4 qk ak 16 K) → (AR (kU (kU g t0) s0) w4 ql al 16 L) → (AR (kU (kU g t0) s0) w4 qm am 16 M) → (AR (kU (kU g t0) s0) w4 qp ap 16 P) → (AR (kU (kU g t0) s0) w4 (kM (kU g t0)) s0 17 SP) → (AR (kU (kU g t0) s0) w4 (kM g) t0 16 T) → (∀ i, i < kM g → w4 i = u i) → x11_117 = nI i → VL (kU (kU g t0) s0) X 2 33 w4 117 [(0, .ref ak), (1, .ref ap), (2, .ref am), (3, .ref al), (4, .ref aa), (5, .int (nI n)), (6, .ref t0), (7, .ref s0), (8, .int (nI (cnK n (mtB B)))), (9, .int (lsN B n c)), (10, .int (nI c)), (11, .int x11_117)] [] := by
                intro k
                induction k with
                | zero =>
                  rintro i T w4 x11_117 hki hT haa_w117 hak_w117 hal_w117 ham_w117 hap_w117 hs0_w117 ht0_w117 hf_w117 rfl
                  have hin : i = cnK n (mtB B) := by omega
                  subst hin
                  refine r_iload F_2 11 rfl dL_fewest_117 ?_
                  refine r_iload F_2 8 rfl dL_fewest_119 ?_
                  refine r_icmp_ge F_2 177 (by decide) dL_fewest_121 (fun _ => ?_) (fun c_121_7 => absurd (Int32.le_refl _) c_121_7)
                  refine r_aload_n F_2 0 rfl dL_fewest_177 ?_
                  refine r_aload_n F_2 1 rfl dL_fewest_178 ?_
                  refine r_aload_n F_2 2 rfl dL_fewest_179 ?_
                  refine r_aload_n F_2 3 rfl dL_fewest_180 ?_
                  refine r_aload F_2 6 rfl dL_fewest_181 ?_
                  refine r_iload F_2 5 rfl dL_fewest_183 ?_
                  refine r_calli (g_S (nA := 6) (As := [.ref ak, .ref ap, .ref am, .ref al, .ref t0, .int (nI n)]) (rest := []) F_2 (c_L_open hak_w117 hap_w117 ham_w117 hal_w117 ht0_w117 hn (LR_L hR hT) (gA_L hA)) gL_fewest_L_open rfl (by decide +kernel) rfl ⟨Nat.le_of_ble_eq_true rfl, Nat.le_of_ble_eq_true rfl⟩ ⟨Nat.le_of_ble_eq_true rfl, Nat.le_of_ble_eq_true rfl⟩ rfl (Nat.le_of_ble_eq_true rfl) dL_fewest_185) (fun r_8 u_8 hp_8 => ?_)
                  obtain ⟨rfl, rfl⟩ := hp_8
                  refine r_istore (lv' := [(0, .ref ak), (1, .ref ap), (2, .ref am), (3, .ref al), (4, .ref aa), (5, .int (nI n)), (6, .ref t0), (7, .ref s0), (8, .int (nI (cnK n (mtB B)))), (9, .int (lsN B n c)), (10, .int (nI c)), (11, .int (opm (asgL B n c) n))]) F_2 (by decide) rfl dL_fewest_188 ?_
                  refine r_aload_n F_2 0 rfl dL_fewest_190 ?_
                  refine r_aload_n F_2 1 rfl dL_fewest_191 ?_
                  refine r_aload F_2 4 rfl dL_fewest_192 ?_
                  refine r_iload F_2 5 rfl dL_fewest_194 ?_
                  refine r_iload F_2 11 rfl dL_fewest_196 ?_
                  refine r_calli (g_S (nA := 5) (As := [.ref ak, .ref ap, .ref aa, .int (nI n), .int (opm (asgL B n c) n)]) (rest := []) F_2 (c_L_wanting (mask := opm (asgL B n c) n) hak_w117 hap_w117 haa_w117 hn hR hA hw) gL_fewest_L_wanting rfl (by decide +kernel) rfl ⟨Nat.le_of_ble_eq_true rfl, Nat.le_of_ble_eq_true rfl⟩ ⟨Nat.le_of_ble_eq_true rfl, Nat.le_of_ble_eq_true rfl⟩ rfl (Nat.le_of_ble_eq_true rfl) dL_fewest_198) (fun r_9 u_9 hp_9 => ?_)
                  obtain ⟨rfl, rfl⟩ := hp_9
                  refine r_eq (st2 := [.int (nI (fwF B n c))]) (congrArg (fun z_ : Int32 => ([.int z_] : List Value)) (show (cntN n (qWts B (opm (asgL B n c) n)) : Int32) = nI (fwF B n c) from fw_w hw)) rfl ?_
                  refine r_istore (lv' := [(0, .ref ak), (1, .ref ap), (2, .ref am), (3, .ref al), (4, .ref aa), (5, .int (nI n)), (6, .ref t0), (7, .ref s0), (8, .int (nI (cnK n (mtB B)))), (9, .int (lsN B n c)), (10, .int (nI c)), (11, .int (opm (asgL B n c) n)), (12, .int (nI (fwF B n c)))]) F_2 (by decide) rfl dL_fewest_201 ?_
                  have j_217_10 : VL (kU (kU g t0) s0) X 2 33 w4 217 [(0, .ref ak), (1, .ref ap), (2, .ref am), (3, .ref al), (4, .ref aa), (5, .int (nI n)), (6, .ref t0), (7, .ref s0), (8, .int (nI (cnK n (mtB B)))), (9, .int (lsN B n c)), (10, .int (nI c)), (11, .int (opm (asgL B n c) n)), (12, .int (nI (fwF B n c)))] [.int (lsN B n (c + 1))] := by
                    refine r_istore (lv' := [(0, .ref ak), (1, .ref ap), (2, .ref am), (3, .ref al), (4, .ref aa), (5, .int (nI n)), (6, .ref t0), (7, .ref s0), (8, .int (nI (cnK n (mtB B)))), (9, .int (lsN B n (c + 1))), (10, .int (nI c)), (11, .int (opm (asgL B n c) n)), (12, .int (nI (fwF B n c)))]) F_2 (by decide) rfl dL_fewest_217 ?_
                    refine r_iinc (lv' := [(0, .ref ak), (1, .ref ap), (2, .ref am), (3, .ref al), (4, .ref aa), (5, .int (nI n)), (6, .ref t0), (7, .ref s0), (8, .int (nI (cnK n (mtB B)))), (9, .int (lsN B n (c + 1))), (10, .int (nI (c + 1))), (11, .int (opm (asgL B n c) n)), (12, .int (nI (fwF B n c)))]) F_2 10 rfl (nI_inc _) (by decide) rfl dL_fewest_219 ?_
                    refine r_goto F_2 79 (by decide) dL_fewest_222 ?_
                    refine r_lv (lv2 := [(0, .ref ak), (1, .ref ap), (2, .ref am), (3, .ref al), (4, .ref aa), (5, .int (nI n)), (6, .ref t0), (7, .ref s0), (8, .int (nI (cnK n (mtB B)))), (9, .int (lsN B n (c + 1))), (10, .int (nI (c + 1)))]) (by simp) ?_
                    exact ih_79 (c + 1) _ _ _ _ (by omega) haa_w117 hak_w117 hal_w117 ham_w117 hap_w117 hs0_w117 ht0_w117 hf_w117 rfl rfl
                  refine r_iload F_2 12 rfl dL_fewest_203 ?_
                  refine r_iload F_2 9 rfl dL_fewest_205 ?_
                  refine r_icmp_ge F_2 215 (by decide) dL_fewest_207 (fun c_207_11 => ?_) (fun c_207_11 => ?_)
                  · skip
                    refine r_iload F_2 9 rfl dL_fewest_215 ?_
                    refine r_eq (st2 := [.int (lsN B n (c + 1))]) (congrArg (fun z_ : Int32 => ([.int z_] : List Value)) (show (lsN B n c : Int32) = lsN B n (c + 1) from by exact ls_ge hn (Int32.not_lt.mpr c_207_11))) rfl ?_
                    exact j_217_10
                  · skip
                    refine r_iload F_2 12 rfl dL_fewest_210 ?_
                    refine r_goto F_2 217 (by decide) dL_fewest_212 ?_
                    refine r_eq (st2 := [.int (lsN B n (c + 1))]) (congrArg (fun z_ : Int32 => ([.int z_] : List Value)) (show (nI (fwF B n c) : Int32) = lsN B n (c + 1) from by exact ls_lt hn (Int32.not_le.mp c_207_11))) rfl ?_
                    exact j_217_10
                | succ k ih_117 =>
                  rintro i T w4 x11_117 hki hT haa_w117 hak_w117 hal_w117 ham_w117 hap_w117 hs0_w117 ht0_w117 hf_w117 rfl
                  have hi : i < cnK n (mtB B) := by omega
                  obtain ⟨b, hbn, hmb, hcb⟩ := cnK_at hi
                  refine r_iload F_2 11 rfl dL_fewest_117 ?_
                  refine r_iload F_2 8 rfl dL_fewest_119 ?_
                  refine r_icmp_ge F_2 177 (by decide) dL_fewest_121 (fun c_121_12 => absurd c_121_12 (nI_ge (b := cnK n (mtB B)) hi (by omega))) (fun _ => ?_)
                  refine r_aload F_2 7 rfl dL_fewest_124 ?_
                  refine r_iload F_2 11 rfl dL_fewest_126 ?_
                  refine r_ialdA F_2 hs0_w117 (vp_in_nI (by omega) (by decide)) dL_fewest_128 ?_
                  refine r_eq (st2 := [.int (nI b)]) (by rw [nI_clamp (by omega), ← hcb, hsp b hbn hmb]) rfl ?_
                  refine r_istore (lv' := [(0, .ref ak), (1, .ref ap), (2, .ref am), (3, .ref al), (4, .ref aa), (5, .int (nI n)), (6, .ref t0), (7, .ref s0), (8, .int (nI (cnK n (mtB B)))), (9, .int (lsN B n c)), (10, .int (nI c)), (11, .int (nI i)), (12, .int (nI b))]) F_2 (by decide) rfl dL_fewest_129 ?_
                  refine r_aload F_2 6 rfl dL_fewest_131 ?_
                  refine r_iload F_2 12 rfl dL_fewest_133 ?_
                  have j_170_13 : VL (kU (kU g t0) s0) X 2 33 w4 170 [(0, .ref ak), (1, .ref ap), (2, .ref am), (3, .ref al), (4, .ref aa), (5, .int (nI n)), (6, .ref t0), (7, .ref s0), (8, .int (nI (cnK n (mtB B)))), (9, .int (lsN B n c)), (10, .int (nI c)), (11, .int (nI i)), (12, .int (nI b))] [.int (chL B b (c.testBit i)), .int (nI b), .ref t0] := by
                    refine r_iastA F_2 ht0_w117 (vp_in_nI (by omega) (by decide)) dL_fewest_170 (fun u_14 hu_14 => ?_)
                    rw [show upd T (nI b).toNatClampNeg (chL B b (c.testBit i)) = upd T b (chL B b (c.testBit i)) from by rw [nI_clamp (by omega)]] at hu_14
                    have haa_15 : AR (kU (kU g t0) s0) u_14 qa aa 16 A := by rw [hu_14]; exact haa_w117.up (Nat.ne_of_lt ha.1)
                    have hak_15 : AR (kU (kU g t0) s0) u_14 qk ak 16 K := by rw [hu_14]; exact hak_w117.up (Nat.ne_of_lt hk.1)
                    have hal_15 : AR (kU (kU g t0) s0) u_14 ql al 16 L := by rw [hu_14]; exact hal_w117.up (Nat.ne_of_lt hl.1)
                    have ham_15 : AR (kU (kU g t0) s0) u_14 qm am 16 M := by rw [hu_14]; exact ham_w117.up (Nat.ne_of_lt hm.1)
                    have hap_15 : AR (kU (kU g t0) s0) u_14 qp ap 16 P := by rw [hu_14]; exact hap_w117.up (Nat.ne_of_lt hp.1)
                    have hs0_15 : AR (kU (kU g t0) s0) u_14 (kM (kU g t0)) s0 17 SP := by rw [hu_14]; exact hs0_w117.up (by rw [kM_U]; omega)
                    have ht0_15 : AR (kU (kU g t0) s0) u_14 (kM g) t0 16 (upd T b (chL B b (c.testBit i))) := by rw [hu_14]; exact ht0_w117.set
                    have hf_15 : ∀ i, i < kM g → u_14 i = u i := fun i hi => by rw [hu_14]; exact (vne (by first | omega | (rw [kM_U]; omega))).trans (hf_w117 i hi)
                    refine r_iinc (lv' := [(0, .ref ak), (1, .ref ap), (2, .ref am), (3, .ref al), (4, .ref aa), (5, .int (nI n)), (6, .ref t0), (7, .ref s0), (8, .int (nI (cnK n (mtB B)))), (9, .int (lsN B n c)), (10, .int (nI c)), (11, .int (nI (i + 1))), (12, .int (nI b))]) F_2 11 rfl (nI_inc _) (by decide) rfl dL_fewest_171 ?_
                    refine r_goto F_2 117 (by decide) dL_fewest_174 ?_
                    refine r_lv (lv2 := [(0, .ref ak), (1, .ref ap), (2, .ref am), (3, .ref al), (4, .ref aa), (5, .int (nI n)), (6, .ref t0), (7, .ref s0), (8, .int (nI (cnK n (mtB B)))), (9, .int (lsN B n c)), (10, .int (nI c)), (11, .int (nI (i + 1)))]) (by simp) ?_
                    exact ih_117 (i + 1) _ _ _ (by omega) (asV_s hmb hcb hT) haa_15 hak_15 hal_15 ham_15 hap_15 hs0_15 ht0_15 hf_15 rfl
                  refine r_aload_n F_2 0 rfl dL_fewest_135 ?_
                  refine r_iload F_2 12 rfl dL_fewest_136 ?_
                  refine r_ialdA F_2 hak_w117 (vp_in_nI (by omega) (by decide)) dL_fewest_138 ?_
                  refine r_eq (st2 := [.int (B b 0), .int (nI b), .ref t0]) (by rw [nI_clamp (by omega), (hR b hbn).1]) rfl ?_
                  refine r_iconst (v := 1) F_2 (by decide) dL_fewest_139 ?_
                  refine r_icmp_ne F_2 153 (by decide) dL_fewest_140 (fun c_140_16 => ?_) (fun c_140_16 => ?_)
                  · skip
                    refine r_iload F_2 10 rfl dL_fewest_153 ?_
                    refine r_iload F_2 11 rfl dL_fewest_155 ?_
                    refine r_ishr F_2 dL_fewest_157 ?_
                    refine r_iconst (v := 1) F_2 (by decide) dL_fewest_158 ?_
                    refine r_iand F_2 dL_fewest_159 ?_
                    refine r_iconst (v := 1) F_2 (by decide) dL_fewest_160 ?_
                    refine r_icmp_ne F_2 169 (by decide) dL_fewest_161 (fun c_161_17 => ?_) (fun c_161_17 => ?_)
                    · skip
                      refine r_iconst (v := 0) F_2 (by decide) dL_fewest_169 ?_
                      refine r_eq (st2 := [.int (chL B b (c.testBit i)), .int (nI b), .ref t0]) (congrArg (fun z_ : Int32 => ([.int z_, .int (nI b), .ref t0] : List Value)) (show (0 : Int32) = chL B b (c.testBit i) from by have z := bit_f c_161_17 (by omega); simp [chL, c_140_16, z])) rfl ?_
                      exact j_170_13
                    · skip
                      refine r_bipush (v := 99) F_2 (by decide) dL_fewest_164 ?_
                      refine r_goto F_2 170 (by decide) dL_fewest_166 ?_
                      refine r_eq (st2 := [.int (chL B b (c.testBit i)), .int (nI b), .ref t0]) (congrArg (fun z_ : Int32 => ([.int z_, .int (nI b), .ref t0] : List Value)) (show (99 : Int32) = chL B b (c.testBit i) from by have z := bit_t c_161_17 (by omega); simp [chL, c_140_16, z])) rfl ?_
                      exact j_170_13
                  · skip
                    refine r_iload F_2 10 rfl dL_fewest_143 ?_
                    refine r_iload F_2 11 rfl dL_fewest_145 ?_
                    refine r_ishr F_2 dL_fewest_147 ?_
                    refine r_iconst (v := 1) F_2 (by decide) dL_fewest_148 ?_
                    refine r_iand F_2 dL_fewest_149 ?_
                    refine r_goto F_2 170 (by decide) dL_fewest_150 ?_
                    refine r_eq (st2 := [.int (chL B b (c.testBit i)), .int (nI b), .ref t0]) (congrArg (fun z_ : Int32 => ([.int z_, .int (nI b), .ref t0] : List Value)) (show (((nI c) >>> ((nI i) &&& 31)) &&& 1 : Int32) = chL B b (c.testBit i) from by rw [bit_i (by omega), chL, if_pos c_140_16])) rfl ?_
                    exact j_170_13
              exact loop_117 (cnK n (mtB B)) 0 _ _ _ (by omega) (fun d hd => by rw [hT d hd, asV_0]; exact (hR d hd).2.2.2.2) haa_w91 hak_w91 hal_w91 ham_w91 hap_w91 hs0_w91 ht0_w91 hf_w91 rfl
            | succ k ih_91 =>
              rintro j T w3 x11_91 hkj hT haa_w91 hak_w91 hal_w91 ham_w91 hap_w91 hs0_w91 ht0_w91 hf_w91 rfl
              have hj : j < n := by omega
              refine r_iload F_2 11 rfl dL_fewest_91 ?_
              refine r_iload F_2 5 rfl dL_fewest_93 ?_
              refine r_icmp_ge F_2 114 (by decide) dL_fewest_95 (fun c_95_18 => absurd c_95_18 (nI_ge (b := n) hj (by omega))) (fun _ => ?_)
              refine r_aload F_2 6 rfl dL_fewest_98 ?_
              refine r_iload F_2 11 rfl dL_fewest_100 ?_
              refine r_aload F_2 4 rfl dL_fewest_102 ?_
              refine r_iload F_2 11 rfl dL_fewest_104 ?_
              refine r_ialdA F_2 haa_w91 (vp_in_nI (by omega) (by decide)) dL_fewest_106 ?_
              refine r_eq (st2 := [.int (A j), .int (nI j), .ref t0]) (by rw [nI_clamp (by omega)]) rfl ?_
              refine r_iastA F_2 ht0_w91 (vp_in_nI (by omega) (by decide)) dL_fewest_107 (fun u_19 hu_19 => ?_)
              rw [show upd T (nI j).toNatClampNeg (A j) = upd T j (A j) from by rw [nI_clamp (by omega)]] at hu_19
              have haa_20 : AR (kU (kU g t0) s0) u_19 qa aa 16 A := by rw [hu_19]; exact haa_w91.up (Nat.ne_of_lt ha.1)
              have hak_20 : AR (kU (kU g t0) s0) u_19 qk ak 16 K := by rw [hu_19]; exact hak_w91.up (Nat.ne_of_lt hk.1)
              have hal_20 : AR (kU (kU g t0) s0) u_19 ql al 16 L := by rw [hu_19]; exact hal_w91.up (Nat.ne_of_lt hl.1)
              have ham_20 : AR (kU (kU g t0) s0) u_19 qm am 16 M := by rw [hu_19]; exact ham_w91.up (Nat.ne_of_lt hm.1)
              have hap_20 : AR (kU (kU g t0) s0) u_19 qp ap 16 P := by rw [hu_19]; exact hap_w91.up (Nat.ne_of_lt hp.1)
              have hs0_20 : AR (kU (kU g t0) s0) u_19 (kM (kU g t0)) s0 17 SP := by rw [hu_19]; exact hs0_w91.up (by rw [kM_U]; omega)
              have ht0_20 : AR (kU (kU g t0) s0) u_19 (kM g) t0 16 (upd T j (A j)) := by rw [hu_19]; exact ht0_w91.set
              have hf_20 : ∀ i, i < kM g → u_19 i = u i := fun i hi => by rw [hu_19]; exact (vne (by first | omega | (rw [kM_U]; omega))).trans (hf_w91 i hi)
              refine r_iinc (lv' := [(0, .ref ak), (1, .ref ap), (2, .ref am), (3, .ref al), (4, .ref aa), (5, .int (nI n)), (6, .ref t0), (7, .ref s0), (8, .int (nI (cnK n (mtB B)))), (9, .int (lsN B n c)), (10, .int (nI c)), (11, .int (nI (j + 1)))]) F_2 11 rfl (nI_inc _) (by decide) rfl dL_fewest_108 ?_
              refine r_goto F_2 91 (by decide) dL_fewest_111 ?_
              exact ih_91 (j + 1) _ _ _ (by omega) (cp_s hT) haa_20 hak_20 hal_20 ham_20 hap_20 hs0_20 ht0_20 hf_20 rfl
          exact loop_91 n 0 _ _ _ (by omega) (fun d hd => absurd hd (by omega)) haa_w79 hak_w79 hal_w79 ham_w79 hap_w79 hs0_w79 ht0_w79 hf_w79 rfl
      exact loop_79 (2 ^ cnK n (mtB B)) 0 _ _ _ _ (by omega) haa_w18 hak_w18 hal_w18 ham_w18 hap_w18 hs0_w18 ht0_w18 hf_w18 rfl rfl
    | succ k ih_18 =>
      rintro j SP w1 x8_18 x9_18 hkj hsp haa_w18 hak_w18 hal_w18 ham_w18 hap_w18 hs0_w18 ht0_w18 hf_w18 rfl rfl
      have hj : j < n := by omega
      obtain ⟨eK, eP, eM, eL, eA⟩ := hR j hj
      refine r_iload F_2 9 rfl dL_fewest_18 ?_
      refine r_iload F_2 5 rfl dL_fewest_20 ?_
      refine r_icmp_ge F_2 72 (by decide) dL_fewest_22 (fun c_22_21 => absurd c_22_21 (nI_ge (b := n) hj (by omega))) (fun _ => ?_)
      refine r_aload F_2 4 rfl dL_fewest_25 ?_
      refine r_iload F_2 9 rfl dL_fewest_27 ?_
      refine r_ialdA F_2 haa_w18 (vp_in_nI (by omega) (by decide)) dL_fewest_29 ?_
      refine r_eq (st2 := [.int (B j 4)]) (by rw [nI_clamp (by omega), eA]) rfl ?_
      refine r_if_ge F_2 66 (by decide) dL_fewest_30 (fun c_30_22 => ?_) (fun c_30_22 => ?_)
      · skip
        have e30_22 : ¬ B j 4 = -1 := an_ge c_30_22
        have hmt_23 : mtB B j = false := by simp [mtB, qEmp, c_30_22, e30_22]
        refine r_iinc (lv' := [(0, .ref ak), (1, .ref ap), (2, .ref am), (3, .ref al), (4, .ref aa), (5, .int (nI n)), (6, .ref t0), (7, .ref s0), (8, .int (nI (cnK j (mtB B)))), (9, .int (nI (j + 1)))]) F_2 9 rfl (nI_inc _) (by decide) rfl dL_fewest_66 ?_
        refine r_goto F_2 18 (by decide) dL_fewest_69 ?_
        exact ih_18 (j + 1) _ _ _ _ (by omega) (sp_f hsp hmt_23) haa_w18 hak_w18 hal_w18 ham_w18 hap_w18 hs0_w18 ht0_w18 hf_w18 (by rw [cnK, hmt_23]; rfl) rfl
      · skip
        have e30_23 : B j 4 = -1 := an_nge (hA j hj) c_30_22
        refine r_aload_n F_2 0 rfl dL_fewest_33 ?_
        refine r_iload F_2 9 rfl dL_fewest_34 ?_
        refine r_ialdA F_2 hak_w18 (vp_in_nI (by omega) (by decide)) dL_fewest_36 ?_
        refine r_eq (st2 := [.int (B j 0)]) (by rw [nI_clamp (by omega), eK]) rfl ?_
        refine r_iconst (v := 2) F_2 (by decide) dL_fewest_37 ?_
        refine r_icmp_eq F_2 56 (by decide) dL_fewest_38 (fun c_38_24 => ?_) (fun c_38_24 => ?_)
        · skip
          have hmt_25 : mtB B j = true := by simp [mtB, qEmp, c_30_22, e30_23, c_38_24]
          refine r_aload F_2 7 rfl dL_fewest_56 ?_
          refine r_iload F_2 8 rfl dL_fewest_58 ?_
          refine r_iload F_2 9 rfl dL_fewest_60 ?_
          refine r_iastA F_2 hs0_w18 (vp_in_nI (by have := cnK_le (n := j) (P := mtB B); omega) (by decide)) dL_fewest_62 (fun u_26 hu_26 => ?_)
          rw [show upd SP (nI (cnK j (mtB B))).toNatClampNeg (nI j) = upd SP (cnK j (mtB B)) (nI j) from by rw [nI_clamp (by have := cnK_le (n := j) (P := mtB B); omega)]] at hu_26
          have haa_27 : AR (kU (kU g t0) s0) u_26 qa aa 16 A := by rw [hu_26]; exact haa_w18.up (by rw [kM_U]; have := ha.1; omega)
          have hak_27 : AR (kU (kU g t0) s0) u_26 qk ak 16 K := by rw [hu_26]; exact hak_w18.up (by rw [kM_U]; have := hk.1; omega)
          have hal_27 : AR (kU (kU g t0) s0) u_26 ql al 16 L := by rw [hu_26]; exact hal_w18.up (by rw [kM_U]; have := hl.1; omega)
          have ham_27 : AR (kU (kU g t0) s0) u_26 qm am 16 M := by rw [hu_26]; exact ham_w18.up (by rw [kM_U]; have := hm.1; omega)
          have hap_27 : AR (kU (kU g t0) s0) u_26 qp ap 16 P := by rw [hu_26]; exact hap_w18.up (by rw [kM_U]; have := hp.1; omega)
          have hs0_27 : AR (kU (kU g t0) s0) u_26 (kM (kU g t0)) s0 17 (upd SP (cnK j (mtB B)) (nI j)) := by rw [hu_26]; exact hs0_w18.set
          have ht0_27 : AR (kU (kU g t0) s0) u_26 (kM g) t0 16 (fun _ => (0 : Int32)) := by rw [hu_26]; exact ht0_w18.up (by rw [kM_U]; omega)
          have hf_27 : ∀ i, i < kM g → u_26 i = u i := fun i hi => by rw [hu_26]; exact (vne (by first | omega | (rw [kM_U]; omega))).trans (hf_w18 i hi)
          refine r_iinc (lv' := [(0, .ref ak), (1, .ref ap), (2, .ref am), (3, .ref al), (4, .ref aa), (5, .int (nI n)), (6, .ref t0), (7, .ref s0), (8, .int (nI (cnK j (mtB B) + 1))), (9, .int (nI j))]) F_2 8 rfl (nI_inc _) (by decide) rfl dL_fewest_63 ?_
          refine r_iinc (lv' := [(0, .ref ak), (1, .ref ap), (2, .ref am), (3, .ref al), (4, .ref aa), (5, .int (nI n)), (6, .ref t0), (7, .ref s0), (8, .int (nI (cnK j (mtB B) + 1))), (9, .int (nI (j + 1)))]) F_2 9 rfl (nI_inc _) (by decide) rfl dL_fewest_66 ?_
          refine r_goto F_2 18 (by decide) dL_fewest_69 ?_
          exact ih_18 (j + 1) _ _ _ _ (by omega) (ch_t hsp hmt_25) haa_27 hak_27 hal_27 ham_27 hap_27 hs0_27 ht0_27 hf_27 (by rw [cnK, hmt_25]; rfl) rfl
        · skip
          refine r_aload_n F_2 0 rfl dL_fewest_41 ?_
          refine r_iload F_2 9 rfl dL_fewest_42 ?_
          refine r_ialdA F_2 hak_w18 (vp_in_nI (by omega) (by decide)) dL_fewest_44 ?_
          refine r_eq (st2 := [.int (B j 0)]) (by rw [nI_clamp (by omega), eK]) rfl ?_
          refine r_iconst (v := 1) F_2 (by decide) dL_fewest_45 ?_
          refine r_icmp_ne F_2 66 (by decide) dL_fewest_46 (fun c_46_28 => ?_) (fun c_46_28 => ?_)
          · skip
            have hmt_29 : mtB B j = false := by simp [mtB, qEmp, c_30_22, e30_23, c_38_24, c_46_28]
            refine r_iinc (lv' := [(0, .ref ak), (1, .ref ap), (2, .ref am), (3, .ref al), (4, .ref aa), (5, .int (nI n)), (6, .ref t0), (7, .ref s0), (8, .int (nI (cnK j (mtB B)))), (9, .int (nI (j + 1)))]) F_2 9 rfl (nI_inc _) (by decide) rfl dL_fewest_66 ?_
            refine r_goto F_2 18 (by decide) dL_fewest_69 ?_
            exact ih_18 (j + 1) _ _ _ _ (by omega) (sp_f hsp hmt_29) haa_w18 hak_w18 hal_w18 ham_w18 hap_w18 hs0_w18 ht0_w18 hf_w18 (by rw [cnK, hmt_29]; rfl) rfl
          · skip
            refine r_aload_n F_2 2 rfl dL_fewest_49 ?_
            refine r_iload F_2 9 rfl dL_fewest_50 ?_
            refine r_ialdA F_2 ham_w18 (vp_in_nI (by omega) (by decide)) dL_fewest_52 ?_
            refine r_eq (st2 := [.int (B j 2)]) (by rw [nI_clamp (by omega), eM]) rfl ?_
            refine r_if_le F_2 66 (by decide) dL_fewest_53 (fun c_53_30 => ?_) (fun c_53_30 => ?_)
            · skip
              have e53_30 : B j 2 = -1 := tk_le (n := n) (hw j hj) c_46_28 c_53_30
              have hmt_31 : mtB B j = false := by simp [mtB, qEmp, c_30_22, e30_23, c_38_24, c_46_28, c_53_30, e53_30]
              refine r_iinc (lv' := [(0, .ref ak), (1, .ref ap), (2, .ref am), (3, .ref al), (4, .ref aa), (5, .int (nI n)), (6, .ref t0), (7, .ref s0), (8, .int (nI (cnK j (mtB B)))), (9, .int (nI (j + 1)))]) F_2 9 rfl (nI_inc _) (by decide) rfl dL_fewest_66 ?_
              refine r_goto F_2 18 (by decide) dL_fewest_69 ?_
              exact ih_18 (j + 1) _ _ _ _ (by omega) (sp_f hsp hmt_31) haa_w18 hak_w18 hal_w18 ham_w18 hap_w18 hs0_w18 ht0_w18 hf_w18 (by rw [cnK, hmt_31]; rfl) rfl
            · skip
              have e53_31 : ¬ B j 2 = -1 := an_nle c_53_30
              have hmt_32 : mtB B j = true := by simp [mtB, qEmp, c_30_22, e30_23, c_38_24, c_46_28, c_53_30, e53_31]
              refine r_aload F_2 7 rfl dL_fewest_56 ?_
              refine r_iload F_2 8 rfl dL_fewest_58 ?_
              refine r_iload F_2 9 rfl dL_fewest_60 ?_
              refine r_iastA F_2 hs0_w18 (vp_in_nI (by have := cnK_le (n := j) (P := mtB B); omega) (by decide)) dL_fewest_62 (fun u_33 hu_33 => ?_)
              rw [show upd SP (nI (cnK j (mtB B))).toNatClampNeg (nI j) = upd SP (cnK j (mtB B)) (nI j) from by rw [nI_clamp (by have := cnK_le (n := j) (P := mtB B); omega)]] at hu_33
              have haa_34 : AR (kU (kU g t0) s0) u_33 qa aa 16 A := by rw [hu_33]; exact haa_w18.up (by rw [kM_U]; have := ha.1; omega)
              have hak_34 : AR (kU (kU g t0) s0) u_33 qk ak 16 K := by rw [hu_33]; exact hak_w18.up (by rw [kM_U]; have := hk.1; omega)
              have hal_34 : AR (kU (kU g t0) s0) u_33 ql al 16 L := by rw [hu_33]; exact hal_w18.up (by rw [kM_U]; have := hl.1; omega)
              have ham_34 : AR (kU (kU g t0) s0) u_33 qm am 16 M := by rw [hu_33]; exact ham_w18.up (by rw [kM_U]; have := hm.1; omega)
              have hap_34 : AR (kU (kU g t0) s0) u_33 qp ap 16 P := by rw [hu_33]; exact hap_w18.up (by rw [kM_U]; have := hp.1; omega)
              have hs0_34 : AR (kU (kU g t0) s0) u_33 (kM (kU g t0)) s0 17 (upd SP (cnK j (mtB B)) (nI j)) := by rw [hu_33]; exact hs0_w18.set
              have ht0_34 : AR (kU (kU g t0) s0) u_33 (kM g) t0 16 (fun _ => (0 : Int32)) := by rw [hu_33]; exact ht0_w18.up (by rw [kM_U]; omega)
              have hf_34 : ∀ i, i < kM g → u_33 i = u i := fun i hi => by rw [hu_33]; exact (vne (by first | omega | (rw [kM_U]; omega))).trans (hf_w18 i hi)
              refine r_iinc (lv' := [(0, .ref ak), (1, .ref ap), (2, .ref am), (3, .ref al), (4, .ref aa), (5, .int (nI n)), (6, .ref t0), (7, .ref s0), (8, .int (nI (cnK j (mtB B) + 1))), (9, .int (nI j))]) F_2 8 rfl (nI_inc _) (by decide) rfl dL_fewest_63 ?_
              refine r_iinc (lv' := [(0, .ref ak), (1, .ref ap), (2, .ref am), (3, .ref al), (4, .ref aa), (5, .int (nI n)), (6, .ref t0), (7, .ref s0), (8, .int (nI (cnK j (mtB B) + 1))), (9, .int (nI (j + 1)))]) F_2 9 rfl (nI_inc _) (by decide) rfl dL_fewest_66 ?_
              refine r_goto F_2 18 (by decide) dL_fewest_69 ?_
              exact ih_18 (j + 1) _ _ _ _ (by omega) (ch_t hsp hmt_32) haa_34 hak_34 hal_34 ham_34 hap_34 hs0_34 ht0_34 hf_34 (by rw [cnK, hmt_32]; rfl) rfl
  exact loop_18 n 0 _ _ _ _ (by omega) (fun b hb => absurd hb (by omega)) haa_2 hak_2 hal_2 ham_2 hap_2 hs0_2 ht0_2 hf_2 rfl rfl

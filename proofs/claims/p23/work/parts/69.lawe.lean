set_option maxHeartbeats 4000000 in
set_option maxRecDepth 100000 in
theorem c_L_wouldBe {g : kG} {l : Launch} {u : Nat → va_E} {ak ap am al aa n m t : Nat} {B : kB} {S : Nat → kS} {C K P M L A : Nat → Int32} {b : Nat} {v : Int32} (hfl : l.stackTraces = false) (hT : TW g u ak ap am al aa n B m S t C K P M L A) (hR : LR n B K P M L A) (hA : gA n B) (hw : wfB n B) (hb : b < n) (hfit : fitA B b v = true) (hv : v = -1 ∨ ¬ v < 0) : CI g l yL_wouldBe wsL_wouldBe ({ frames := 8, cells := 22, slots := 292, locals := 137 }) [.ref (g.2.1 0), .ref ak, .ref ap, .ref am, .ref al, .ref aa, .int (nI n), .int (nI b), .int v] u (fun r u' => r = 1 ∧ TW g u' ak ap am al aa n B m S t C K P M L A) := by
  refine CI.of (cc := cL_wouldBe) (nL := 14) (ty := .boolean) (by decide +kernel) rfl (fun v u' h => by obtain ⟨h, -⟩ := h; rw [h]; exact bI_n true) (Nat.le_of_ble_eq_true rfl) ?_
  intro X hXl F hret
  subst hXl
  have hn : n ≤ 16 := hT.1.2.1.le
  have hRv : LR n (bUp B b 4 v) K P M L (upd A b v) := hR.up
  have hAv : gA n (bUp B b 4 v) := hA.up hv
  have hwv : wfB n (bUp B b 4 v) := hw.up (fun q => fitA_3 hfit q)
  show VL g X 0 0 u 0 [(0, .ref (g.2.1 0)), (1, .ref ak), (2, .ref ap), (3, .ref am), (4, .ref al), (5, .ref aa), (6, .int (nI n)), (7, .int (nI b)), (8, .int v)] []
  refine r_aload F 5 rfl dL_wouldBe_0 ?_
  refine r_iload F 7 rfl dL_wouldBe_2 ?_
  refine r_ialdA F hT.2.2.2.2.2 (vp_in_nI (by omega) (by decide)) dL_wouldBe_4 ?_
  refine r_eq (st2 := [.int (A b)]) (by rw [nI_clamp (by omega)]) rfl ?_
  refine r_istore (lv' := [(0, .ref (g.2.1 0)), (1, .ref ak), (2, .ref ap), (3, .ref am), (4, .ref al), (5, .ref aa), (6, .int (nI n)), (7, .int (nI b)), (8, .int v), (9, .int (A b))]) F (by decide) rfl dL_wouldBe_5 ?_
  refine r_aload F 5 rfl dL_wouldBe_7 ?_
  refine r_iload F 7 rfl dL_wouldBe_9 ?_
  refine r_iload F 8 rfl dL_wouldBe_11 ?_
  refine r_iastA F hT.2.2.2.2.2 (vp_in_nI (by omega) (by decide)) dL_wouldBe_13 (fun u_1 hu_1 => ?_)
  rw [show upd A (nI b).toNatClampNeg v = upd A b v from by rw [nI_clamp (by omega)]] at hu_1
  have hT_2 : TW g u_1 ak ap am al aa n B m S t C K P M L (upd A b v) := by rw [hu_1]; exact hT.upA
  refine r_aload_n F 1 rfl dL_wouldBe_14 ?_
  refine r_aload_n F 2 rfl dL_wouldBe_15 ?_
  refine r_aload_n F 3 rfl dL_wouldBe_16 ?_
  refine r_aload F 4 rfl dL_wouldBe_17 ?_
  refine r_aload F 5 rfl dL_wouldBe_19 ?_
  refine r_iload F 6 rfl dL_wouldBe_21 ?_
  refine r_calli (g_S (nA := 6) (As := [.ref ak, .ref ap, .ref am, .ref al, .ref aa, .int (nI n)]) (rest := []) F (c_L_open hT_2.2.1 hT_2.2.2.1 hT_2.2.2.2.1 hT_2.2.2.2.2.1 hT_2.2.2.2.2.2 hn hRv hAv) gL_wouldBe_L_open rfl (by decide +kernel) rfl ⟨Nat.le_of_ble_eq_true rfl, Nat.le_of_ble_eq_true rfl⟩ ⟨Nat.le_of_ble_eq_true rfl, Nat.le_of_ble_eq_true rfl⟩ rfl (Nat.le_of_ble_eq_true rfl) dL_wouldBe_23) (fun r_3 u_3 hp_3 => ?_)
  obtain ⟨rfl, rfl⟩ := hp_3
  refine r_istore (lv' := [(0, .ref (g.2.1 0)), (1, .ref ak), (2, .ref ap), (3, .ref am), (4, .ref al), (5, .ref aa), (6, .int (nI n)), (7, .int (nI b)), (8, .int v), (9, .int (A b)), (10, .int (opm (bUp B b 4 v) n))]) F (by decide) rfl dL_wouldBe_26 ?_
  refine r_aload_n F 1 rfl dL_wouldBe_28 ?_
  refine r_aload_n F 2 rfl dL_wouldBe_29 ?_
  refine r_aload F 5 rfl dL_wouldBe_30 ?_
  refine r_iload F 6 rfl dL_wouldBe_32 ?_
  refine r_iload F 10 rfl dL_wouldBe_34 ?_
  refine r_calli (g_S (nA := 5) (As := [.ref ak, .ref ap, .ref aa, .int (nI n), .int (opm (bUp B b 4 v) n)]) (rest := []) F (c_L_wanting (mask := opm (bUp B b 4 v) n) hT_2.2.1 hT_2.2.2.1 hT_2.2.2.2.2.2 hn hRv hAv hwv) gL_wouldBe_L_wanting rfl (by decide +kernel) rfl ⟨Nat.le_of_ble_eq_true rfl, Nat.le_of_ble_eq_true rfl⟩ ⟨Nat.le_of_ble_eq_true rfl, Nat.le_of_ble_eq_true rfl⟩ rfl (Nat.le_of_ble_eq_true rfl) dL_wouldBe_36) (fun r_4 u_4 hp_4 => ?_)
  obtain ⟨rfl, rfl⟩ := hp_4
  refine r_istore (lv' := [(0, .ref (g.2.1 0)), (1, .ref ak), (2, .ref ap), (3, .ref am), (4, .ref al), (5, .ref aa), (6, .int (nI n)), (7, .int (nI b)), (8, .int v), (9, .int (A b)), (10, .int (opm (bUp B b 4 v) n)), (11, .int (cntN n (qWts (bUp B b 4 v) (opm (bUp B b 4 v) n))))]) F (by decide) rfl dL_wouldBe_39 ?_
  refine r_iconst (v := -1) F (by decide) dL_wouldBe_41 ?_
  refine r_istore (lv' := [(0, .ref (g.2.1 0)), (1, .ref ak), (2, .ref ap), (3, .ref am), (4, .ref al), (5, .ref aa), (6, .int (nI n)), (7, .int (nI b)), (8, .int v), (9, .int (A b)), (10, .int (opm (bUp B b 4 v) n)), (11, .int (cntN n (qWts (bUp B b 4 v) (opm (bUp B b 4 v) n)))), (12, .int (-1))]) F (by decide) rfl dL_wouldBe_42 ?_
  refine r_iconst (v := 0) F (by decide) dL_wouldBe_44 ?_
  refine r_istore (lv' := [(0, .ref (g.2.1 0)), (1, .ref ak), (2, .ref ap), (3, .ref am), (4, .ref al), (5, .ref aa), (6, .int (nI n)), (7, .int (nI b)), (8, .int v), (9, .int (A b)), (10, .int (opm (bUp B b 4 v) n)), (11, .int (cntN n (qWts (bUp B b 4 v) (opm (bUp B b 4 v) n)))), (12, .int (-1)), (13, .int 0)]) F (by decide) rfl dL_wouldBe_45 ?_
  have loop_47 : ∀ (k : Nat) (j : Nat) (ck cn : Nat) (x12_47 : Int32) (x13_47 : Int32), (j + k = n) → (ck + 1 * k ≤ 16) → (cn + 16 * k ≤ 256) → x12_47 = valZ (bUp B b 4 v) (opm (bUp B b 4 v) n) (lastM (bUp B b 4 v) j) → x13_47 = nI j → VL g X ck cn u_1 47 [(0, .ref (g.2.1 0)), (1, .ref ak), (2, .ref ap), (3, .ref am), (4, .ref al), (5, .ref aa), (6, .int (nI n)), (7, .int (nI b)), (8, .int v), (9, .int (A b)), (10, .int (opm (bUp B b 4 v) n)), (11, .int (cntN n (qWts (bUp B b 4 v) (opm (bUp B b 4 v) n)))), (12, .int x12_47), (13, .int x13_47)] [] := by
    intro k
    induction k with
    | zero =>
      rintro j ck cn x12_47 x13_47 hkj hck hcn rfl rfl
      have hjn : n = j := by omega
      subst hjn
      refine r_iload F 13 rfl dL_wouldBe_47 ?_
      refine r_iload F 6 rfl dL_wouldBe_49 ?_
      refine r_icmp_ge F 87 (by decide) dL_wouldBe_51 (fun _ => ?_) (fun c_51_5 => absurd (Int32.le_refl _) c_51_5)
      refine r_aload F 5 rfl dL_wouldBe_87 ?_
      refine r_iload F 7 rfl dL_wouldBe_89 ?_
      refine r_iload F 9 rfl dL_wouldBe_91 ?_
      refine r_iastA F hT_2.2.2.2.2.2 (vp_in_nI (by omega) (by decide)) dL_wouldBe_93 (fun u_6 hu_6 => ?_)
      rw [show upd (upd A b v) (nI b).toNatClampNeg (A b) = A from by rw [nI_clamp (by omega)]; exact upd_back] at hu_6
      have hT_7 : TW g u_6 ak ap am al aa n B m S t C K P M L A := by rw [hu_6]; exact hT_2.upA
      have j_105_8 : VL g X ck cn u_6 105 [(0, .ref (g.2.1 0)), (1, .ref ak), (2, .ref ap), (3, .ref am), (4, .ref al), (5, .ref aa), (6, .int (nI n)), (7, .int (nI b)), (8, .int v), (9, .int (A b)), (10, .int (opm (bUp B b 4 v) n)), (11, .int (cntN n (qWts (bUp B b 4 v) (opm (bUp B b 4 v) n)))), (12, .int (valZ (bUp B b 4 v) (opm (bUp B b 4 v) n) (lastM (bUp B b 4 v) n))), (13, .int (nI n))] [.int v] := by
        refine r_istore (lv' := [(0, .ref (g.2.1 0)), (1, .ref ak), (2, .ref ap), (3, .ref am), (4, .ref al), (5, .ref aa), (6, .int (nI n)), (7, .int (nI b)), (8, .int v), (9, .int (A b)), (10, .int (opm (bUp B b 4 v) n)), (11, .int (cntN n (qWts (bUp B b 4 v) (opm (bUp B b 4 v) n)))), (12, .int (valZ (bUp B b 4 v) (opm (bUp B b 4 v) n) (lastM (bUp B b 4 v) n))), (13, .int v)]) F (by decide) rfl dL_wouldBe_105 ?_
        refine r_aload_n F 0 rfl dL_wouldBe_107 ?_
        refine r_iload F 7 rfl dL_wouldBe_108 ?_
        refine r_iload F 13 rfl dL_wouldBe_110 ?_
        refine r_iconst (v := 0) F (by decide) dL_wouldBe_112 ?_
        refine r_calli (g_V (C := RX3) (T := TX3) (N := 4) (nA := 3) (As := [.int (nI b), .int v, .int 0]) (rest := []) F 0 hT_7.1.1 (by decide) rfl ((c_X3_ifAnswered hfl hT_7.1 hw.t (x := nI b) (v := v) (w := 0)).ci (fun _ _ q => exIA_n (cdIf_0 hn hb hfit (by decide)) q.1)) gL_wouldBe_X3_ifAnswered rfl (by decide +kernel) rfl ⟨Nat.le_of_ble_eq_true rfl, Nat.le_of_ble_eq_true rfl⟩ ⟨by (try dsimp only); omega, by (try dsimp only); omega⟩ rfl (Nat.le_of_ble_eq_true rfl) dL_wouldBe_113) (fun r_9 u_9 hp_9 => ?_)
        refine r_widen (k' := ck + 2) (n' := cn + 12) (by (try dsimp only); omega) (by (try dsimp only); omega) ?_
        obtain ⟨-, er_9, hC_9, hk_9⟩ := hp_9
        rw [nI_clamp (by omega), tt_0] at er_9
        subst er_9
        have hT_9 := hT_7.keep hC_9 hk_9
        refine r_iload F 11 rfl dL_wouldBe_116 ?_
        refine r_icmp_ne F 153 (by decide) dL_wouldBe_118 (fun c_118_10 => absurd c_118_10 (fun q => q rfl)) (fun _ => ?_)
        refine r_aload_n F 0 rfl dL_wouldBe_121 ?_
        refine r_iload F 7 rfl dL_wouldBe_122 ?_
        refine r_iload F 13 rfl dL_wouldBe_124 ?_
        refine r_iconst (v := 1) F (by decide) dL_wouldBe_126 ?_
        refine r_calli (g_V (C := RX3) (T := TX3) (N := 4) (nA := 3) (As := [.int (nI b), .int v, .int 1]) (rest := []) F 0 hT_9.1.1 (by decide) rfl ((c_X3_ifAnswered hfl hT_9.1 hw.t (x := nI b) (v := v) (w := 1)).ci (fun _ _ q => exIA_n (cdIf_0 hn hb hfit (by decide)) q.1)) gL_wouldBe_X3_ifAnswered rfl (by decide +kernel) rfl ⟨Nat.le_of_ble_eq_true rfl, Nat.le_of_ble_eq_true rfl⟩ ⟨by (try dsimp only); omega, by (try dsimp only); omega⟩ rfl (Nat.le_of_ble_eq_true rfl) dL_wouldBe_127) (fun r_11 u_11 hp_11 => ?_)
        refine r_widen (k' := ck + 4) (n' := cn + 24) (by (try dsimp only); omega) (by (try dsimp only); omega) ?_
        obtain ⟨-, er_11, hC_11, hk_11⟩ := hp_11
        rw [nI_clamp (by omega), tt_1] at er_11
        subst er_11
        have hT_11 := hT_9.keep hC_11 hk_11
        refine r_iload F 10 rfl dL_wouldBe_130 ?_
        refine r_icmp_ne F 153 (by decide) dL_wouldBe_132 (fun c_132_12 => absurd c_132_12 (fun q => q rfl)) (fun _ => ?_)
        refine r_aload_n F 0 rfl dL_wouldBe_135 ?_
        refine r_iload F 7 rfl dL_wouldBe_136 ?_
        refine r_iload F 13 rfl dL_wouldBe_138 ?_
        refine r_iconst (v := 2) F (by decide) dL_wouldBe_140 ?_
        refine r_calli (g_V (C := RX3) (T := TX3) (N := 4) (nA := 3) (As := [.int (nI b), .int v, .int 2]) (rest := []) F 0 hT_11.1.1 (by decide) rfl ((c_X3_ifAnswered hfl hT_11.1 hw.t (x := nI b) (v := v) (w := 2)).ci (fun _ _ q => exIA_n (cdIf_0 hn hb hfit (by decide)) q.1)) gL_wouldBe_X3_ifAnswered rfl (by decide +kernel) rfl ⟨Nat.le_of_ble_eq_true rfl, Nat.le_of_ble_eq_true rfl⟩ ⟨by (try dsimp only); omega, by (try dsimp only); omega⟩ rfl (Nat.le_of_ble_eq_true rfl) dL_wouldBe_141) (fun r_13 u_13 hp_13 => ?_)
        refine r_widen (k' := ck + 6) (n' := cn + 36) (by (try dsimp only); omega) (by (try dsimp only); omega) ?_
        obtain ⟨-, er_13, hC_13, hk_13⟩ := hp_13
        rw [nI_clamp (by omega), tt_2] at er_13
        subst er_13
        have hT_13 := hT_11.keep hC_13 hk_13
        refine r_iload F 12 rfl dL_wouldBe_144 ?_
        refine r_icmp_ne F 153 (by decide) dL_wouldBe_146 (fun c_146_14 => absurd c_146_14 (fun q => q rfl)) (fun _ => ?_)
        refine r_iconst (v := 1) F (by decide) dL_wouldBe_149 ?_
        refine r_goto F 154 (by decide) dL_wouldBe_150 ?_
        exact hret _ _ _ _ _ _ (by (try dsimp only); omega) (by (try dsimp only); omega) ⟨rfl, hT_13⟩ dL_wouldBe_154
      refine r_iload F 8 rfl dL_wouldBe_94 ?_
      refine r_if_ge F 103 (by decide) dL_wouldBe_96 (fun c_96_15 => ?_) (fun c_96_15 => ?_)
      · skip
        refine r_iload F 8 rfl dL_wouldBe_103 ?_
        exact j_105_8
      · skip
        refine r_iconst (v := -1) F (by decide) dL_wouldBe_99 ?_
        refine r_goto F 105 (by decide) dL_wouldBe_100 ?_
        refine r_eq (st2 := [.int v]) (congrArg (fun z_ : Int32 => ([.int z_] : List Value)) (show ((-1) : Int32) = v from by exact (an_nge hv c_96_15).symm)) rfl ?_
        exact j_105_8
    | succ k ih_47 =>
      rintro j ck cn x12_47 x13_47 hkj hck hcn rfl rfl
      have hj : j < n := by omega
      refine r_iload F 13 rfl dL_wouldBe_47 ?_
      refine r_iload F 6 rfl dL_wouldBe_49 ?_
      refine r_icmp_ge F 87 (by decide) dL_wouldBe_51 (fun c_51_16 => absurd c_51_16 (nI_ge (b := n) hj (by omega))) (fun _ => ?_)
      have j_79_17 : VL g X (ck + 1) (cn + 16) u_1 79 [(0, .ref (g.2.1 0)), (1, .ref ak), (2, .ref ap), (3, .ref am), (4, .ref al), (5, .ref aa), (6, .int (nI n)), (7, .int (nI b)), (8, .int v), (9, .int (A b)), (10, .int (opm (bUp B b 4 v) n)), (11, .int (cntN n (qWts (bUp B b 4 v) (opm (bUp B b 4 v) n)))), (12, .int (valZ (bUp B b 4 v) (opm (bUp B b 4 v) n) (lastM (bUp B b 4 v) j))), (13, .int (nI j))] [.int (valZ (bUp B b 4 v) (opm (bUp B b 4 v) n) (lastM (bUp B b 4 v) (j + 1)))] := by
        refine r_istore (lv' := [(0, .ref (g.2.1 0)), (1, .ref ak), (2, .ref ap), (3, .ref am), (4, .ref al), (5, .ref aa), (6, .int (nI n)), (7, .int (nI b)), (8, .int v), (9, .int (A b)), (10, .int (opm (bUp B b 4 v) n)), (11, .int (cntN n (qWts (bUp B b 4 v) (opm (bUp B b 4 v) n)))), (12, .int (valZ (bUp B b 4 v) (opm (bUp B b 4 v) n) (lastM (bUp B b 4 v) (j + 1)))), (13, .int (nI j))]) F (by decide) rfl dL_wouldBe_79 ?_
        refine r_iinc (lv' := [(0, .ref (g.2.1 0)), (1, .ref ak), (2, .ref ap), (3, .ref am), (4, .ref al), (5, .ref aa), (6, .int (nI n)), (7, .int (nI b)), (8, .int v), (9, .int (A b)), (10, .int (opm (bUp B b 4 v) n)), (11, .int (cntN n (qWts (bUp B b 4 v) (opm (bUp B b 4 v) n)))), (12, .int (valZ (bUp B b 4 v) (opm (bUp B b 4 v) n) (lastM (bUp B b 4 v) (j + 1)))), (13, .int (nI (j + 1)))]) F 13 rfl (nI_inc _) (by decide) rfl dL_wouldBe_81 ?_
        refine r_goto F 47 (by decide) dL_wouldBe_84 ?_
        exact ih_47 (j + 1) _ _ _ _ (by omega) (by omega) (by omega) rfl rfl
      refine r_aload_n F 1 rfl dL_wouldBe_54 ?_
      refine r_iload F 13 rfl dL_wouldBe_55 ?_
      refine r_ialdA F hT_2.2.1 (vp_in_nI (by omega) (by decide)) dL_wouldBe_57 ?_
      refine r_eq (st2 := [.int ((bUp B b 4 v) j 0)]) (by rw [nI_clamp (by omega), (hRv j hj).1]) rfl ?_
      refine r_iconst (v := 3) F (by decide) dL_wouldBe_58 ?_
      refine r_icmp_ne F 77 (by decide) dL_wouldBe_59 (fun c_59_18 => ?_) (fun c_59_18 => ?_)
      · skip
        refine r_iload F 12 rfl dL_wouldBe_77 ?_
        refine r_eq (st2 := [.int (valZ (bUp B b 4 v) (opm (bUp B b 4 v) n) (lastM (bUp B b 4 v) (j + 1)))]) (congrArg (fun z_ : Int32 => ([.int z_] : List Value)) (show (valZ (bUp B b 4 v) (opm (bUp B b 4 v) n) (lastM (bUp B b 4 v) j) : Int32) = valZ (bUp B b 4 v) (opm (bUp B b 4 v) n) (lastM (bUp B b 4 v) (j + 1)) from by exact vz_0 c_59_18)) rfl ?_
        refine r_widen (k' := ck + 1) (n' := cn + 16) (by (try dsimp only); omega) (by (try dsimp only); omega) ?_
        exact j_79_17
      · skip
        refine r_aload_n F 1 rfl dL_wouldBe_62 ?_
        refine r_aload_n F 2 rfl dL_wouldBe_63 ?_
        refine r_aload_n F 3 rfl dL_wouldBe_64 ?_
        refine r_aload F 5 rfl dL_wouldBe_65 ?_
        refine r_iload F 13 rfl dL_wouldBe_67 ?_
        refine r_iload F 10 rfl dL_wouldBe_69 ?_
        refine r_calli (g_S (nA := 6) (As := [.ref ak, .ref ap, .ref am, .ref aa, .int (nI j), .int (opm (bUp B b 4 v) n)]) (rest := []) F (c_L_value (mask := opm (bUp B b 4 v) n) (b := j) hT_2.2.1 hT_2.2.2.1 hT_2.2.2.2.1 hT_2.2.2.2.2.2 hn hRv hAv hwv (by omega) (Or.inr c_59_18)) gL_wouldBe_L_value rfl (by decide +kernel) rfl ⟨Nat.le_of_ble_eq_true rfl, Nat.le_of_ble_eq_true rfl⟩ ⟨by (try dsimp only); omega, by (try dsimp only); omega⟩ rfl (Nat.le_of_ble_eq_true rfl) dL_wouldBe_71) (fun r_19 u_19 hp_19 => ?_)
        refine r_widen (k' := ck + 1) (n' := cn + 16) (by (try dsimp only); omega) (by (try dsimp only); omega) ?_
        obtain ⟨rfl, rfl⟩ := hp_19
        refine r_goto F 79 (by decide) dL_wouldBe_74 ?_
        refine r_eq (st2 := [.int (valZ (bUp B b 4 v) (opm (bUp B b 4 v) n) (lastM (bUp B b 4 v) (j + 1)))]) (congrArg (fun z_ : Int32 => ([.int z_] : List Value)) (show (valX (bUp B b 4 v) (opm (bUp B b 4 v) n) j : Int32) = valZ (bUp B b 4 v) (opm (bUp B b 4 v) n) (lastM (bUp B b 4 v) (j + 1)) from by exact vz_1 c_59_18)) rfl ?_
        refine r_widen (k' := ck + 1) (n' := cn + 16) (by (try dsimp only); omega) (by (try dsimp only); omega) ?_
        exact j_79_17
  exact loop_47 n 0 0 0 _ _ (by omega) (by omega) (by omega) rfl rfl

set_option maxHeartbeats 4000000 in
set_option maxRecDepth 100000 in
theorem c_L_tells {g : kG} {l : Launch} {u : Nat → va_E} {ak ap am al aa n m t : Nat} {B : kB} {S : Nat → kS} {C K P M L A : Nat → Int32} (hfl : l.stackTraces = false) (hT : TW g u ak ap am al aa n B m S t C K P M L A) (hR : LR n B K P M L A) (hA : gA n B) (hw : wfB n B) (hlim : ∀ b, b < n → ¬ B b 0 = 2 → B b 3 = -1) : CI g l yL_tells wsL_tells ({ frames := 8, cells := 340, slots := 2200, locals := 135 }) [.ref (g.2.1 0), .ref ak, .ref ap, .ref am, .ref al, .ref aa, .int (nI n)] u (fun r u' => r = 1 ∧ TW g u' ak ap am al aa n B m S t C K P M L A) := by
  refine CI.of (cc := cL_tells) (nL := 22) (ty := .boolean) (by decide +kernel) rfl (fun v u' h => by obtain ⟨h, -⟩ := h; rw [h]; exact bI_n true) (Nat.le_of_ble_eq_true rfl) ?_
  intro X hXl F hret
  subst hXl
  have hn : n ≤ 16 := hT.1.2.1.le
  show VL g X 0 0 u 0 [(0, .ref (g.2.1 0)), (1, .ref ak), (2, .ref ap), (3, .ref am), (4, .ref al), (5, .ref aa), (6, .int (nI n))] []
  refine r_aload_n F 1 rfl dL_tells_0 ?_
  refine r_aload_n F 2 rfl dL_tells_1 ?_
  refine r_aload_n F 3 rfl dL_tells_2 ?_
  refine r_aload F 4 rfl dL_tells_3 ?_
  refine r_aload F 5 rfl dL_tells_5 ?_
  refine r_iload F 6 rfl dL_tells_7 ?_
  refine r_calli (g_S (nA := 6) (As := [.ref ak, .ref ap, .ref am, .ref al, .ref aa, .int (nI n)]) (rest := []) F (c_L_open hT.2.1 hT.2.2.1 hT.2.2.2.1 hT.2.2.2.2.1 hT.2.2.2.2.2 hn hR hA) gL_tells_L_open rfl (by decide +kernel) rfl ⟨Nat.le_of_ble_eq_true rfl, Nat.le_of_ble_eq_true rfl⟩ ⟨Nat.le_of_ble_eq_true rfl, Nat.le_of_ble_eq_true rfl⟩ rfl (Nat.le_of_ble_eq_true rfl) dL_tells_9) (fun r_1 u_1 hp_1 => ?_)
  obtain ⟨rfl, rfl⟩ := hp_1
  refine r_istore (lv' := [(0, .ref (g.2.1 0)), (1, .ref ak), (2, .ref ap), (3, .ref am), (4, .ref al), (5, .ref aa), (6, .int (nI n)), (7, .int (opm B n))]) F (by decide) rfl dL_tells_12 ?_
  refine r_iconst (v := 0) F (by decide) dL_tells_14 ?_
  refine r_istore (lv' := [(0, .ref (g.2.1 0)), (1, .ref ak), (2, .ref ap), (3, .ref am), (4, .ref al), (5, .ref aa), (6, .int (nI n)), (7, .int (opm B n)), (8, .int 0)]) F (by decide) rfl dL_tells_15 ?_
  refine r_iconst (v := 0) F (by decide) dL_tells_17 ?_
  refine r_istore (lv' := [(0, .ref (g.2.1 0)), (1, .ref ak), (2, .ref ap), (3, .ref am), (4, .ref al), (5, .ref aa), (6, .int (nI n)), (7, .int (opm B n)), (8, .int 0), (9, .int 0)]) F (by decide) rfl dL_tells_18 ?_
  refine r_iconst (v := -1) F (by decide) dL_tells_20 ?_
  refine r_istore (lv' := [(0, .ref (g.2.1 0)), (1, .ref ak), (2, .ref ap), (3, .ref am), (4, .ref al), (5, .ref aa), (6, .int (nI n)), (7, .int (opm B n)), (8, .int 0), (9, .int 0), (10, .int (-1))]) F (by decide) rfl dL_tells_21 ?_
  refine r_iconst (v := 0) F (by decide) dL_tells_23 ?_
  refine r_istore (lv' := [(0, .ref (g.2.1 0)), (1, .ref ak), (2, .ref ap), (3, .ref am), (4, .ref al), (5, .ref aa), (6, .int (nI n)), (7, .int (opm B n)), (8, .int 0), (9, .int 0), (10, .int (-1)), (11, .int 0)]) F (by decide) rfl dL_tells_24 ?_
  refine r_iconst (v := -1) F (by decide) dL_tells_26 ?_
  refine r_istore (lv' := [(0, .ref (g.2.1 0)), (1, .ref ak), (2, .ref ap), (3, .ref am), (4, .ref al), (5, .ref aa), (6, .int (nI n)), (7, .int (opm B n)), (8, .int 0), (9, .int 0), (10, .int (-1)), (11, .int 0), (12, .int (-1))]) F (by decide) rfl dL_tells_27 ?_
  refine r_iconst (v := 0) F (by decide) dL_tells_29 ?_
  refine r_istore (lv' := [(0, .ref (g.2.1 0)), (1, .ref ak), (2, .ref ap), (3, .ref am), (4, .ref al), (5, .ref aa), (6, .int (nI n)), (7, .int (opm B n)), (8, .int 0), (9, .int 0), (10, .int (-1)), (11, .int 0), (12, .int (-1)), (13, .int 0)]) F (by decide) rfl dL_tells_30 ?_
  refine r_iconst (v := 0) F (by decide) dL_tells_32 ?_
  refine r_istore (lv' := [(0, .ref (g.2.1 0)), (1, .ref ak), (2, .ref ap), (3, .ref am), (4, .ref al), (5, .ref aa), (6, .int (nI n)), (7, .int (opm B n)), (8, .int 0), (9, .int 0), (10, .int (-1)), (11, .int 0), (12, .int (-1)), (13, .int 0), (14, .int 0)]) F (by decide) rfl dL_tells_33 ?_
  have loop_35 : ∀ (k : Nat) (j : Nat) (w1 : Nat → va_E) (ck cn : Nat) (x8_35 : Int32) (x9_35 : Int32) (x10_35 : Int32) (x11_35 : Int32) (x12_35 : Int32) (x13_35 : Int32) (x14_35 : Int32), (j + k = n) → (ck + 17 * k ≤ 272) → (cn + 112 * k ≤ 1792) → (TW g w1 ak ap am al aa n B m S t C K P M L A) → x8_35 = cntN j (qOpn B (opm B n)) → x9_35 = cntN j (fun b => !decide (B b 4 = -1)) → x10_35 = fstN j (qWts B (opm B n)) → x11_35 = cntN j (fun b => qOpn B (opm B n) b && !decide (B b 0 = 3)) → x12_35 = mcB B n j → x13_35 = mcM B n j → x14_35 = nI j → VL g X ck cn w1 35 [(0, .ref (g.2.1 0)), (1, .ref ak), (2, .ref ap), (3, .ref am), (4, .ref al), (5, .ref aa), (6, .int (nI n)), (7, .int (opm B n)), (8, .int x8_35), (9, .int x9_35), (10, .int x10_35), (11, .int x11_35), (12, .int x12_35), (13, .int x13_35), (14, .int x14_35)] [] := by
    intro k
    induction k with
    | zero =>
      rintro j w1 ck cn x8_35 x9_35 x10_35 x11_35 x12_35 x13_35 x14_35 hkj hck hcn hT1 rfl rfl rfl rfl rfl rfl rfl
      have hjn : n = j := by omega
      subst hjn
      refine r_iload F 14 rfl dL_tells_35 ?_
      refine r_iload F 6 rfl dL_tells_37 ?_
      refine r_icmp_ge F 380 (by decide) dL_tells_39 (fun _ => ?_) (fun c_39_2 => absurd (Int32.le_refl _) c_39_2)
      refine r_iconst (v := 0) F (by decide) dL_tells_380 ?_
      refine r_istore (lv' := [(0, .ref (g.2.1 0)), (1, .ref ak), (2, .ref ap), (3, .ref am), (4, .ref al), (5, .ref aa), (6, .int (nI n)), (7, .int (opm B n)), (8, .int (cntN n (qOpn B (opm B n)))), (9, .int (cntN n (fun b => !decide (B b 4 = -1)))), (10, .int (fstN n (qWts B (opm B n)))), (11, .int (cntN n (fun b => qOpn B (opm B n) b && !decide (B b 0 = 3)))), (12, .int (mcB B n n)), (13, .int (mcM B n n)), (14, .int 0)]) F (by decide) rfl dL_tells_381 ?_
      refine r_iconst (v := 0) F (by decide) dL_tells_383 ?_
      refine r_istore (lv' := [(0, .ref (g.2.1 0)), (1, .ref ak), (2, .ref ap), (3, .ref am), (4, .ref al), (5, .ref aa), (6, .int (nI n)), (7, .int (opm B n)), (8, .int (cntN n (qOpn B (opm B n)))), (9, .int (cntN n (fun b => !decide (B b 4 = -1)))), (10, .int (fstN n (qWts B (opm B n)))), (11, .int (cntN n (fun b => qOpn B (opm B n) b && !decide (B b 0 = 3)))), (12, .int (mcB B n n)), (13, .int (mcM B n n)), (14, .int 0), (15, .int 0)]) F (by decide) rfl dL_tells_384 ?_
      have loop_386 : ∀ (k : Nat) (p : Nat) (w2 : Nat → va_E) (ck2 cn2 : Nat) (x14_386 : Int32) (x15_386 : Int32), (p + k = 5) → (ck2 + 12 * k ≤ 332) → (cn2 + 72 * k ≤ 2152) → (TW g w2 ak ap am al aa n B m S t C K P M L A) → x14_386 = bitsN (opm B n) p → x15_386 = nI p → VL g X ck2 cn2 w2 386 [(0, .ref (g.2.1 0)), (1, .ref ak), (2, .ref ap), (3, .ref am), (4, .ref al), (5, .ref aa), (6, .int (nI n)), (7, .int (opm B n)), (8, .int (cntN n (qOpn B (opm B n)))), (9, .int (cntN n (fun b => !decide (B b 4 = -1)))), (10, .int (fstN n (qWts B (opm B n)))), (11, .int (cntN n (fun b => qOpn B (opm B n) b && !decide (B b 0 = 3)))), (12, .int (mcB B n n)), (13, .int (mcM B n n)), (14, .int x14_386), (15, .int x15_386)] [] := by
        intro k
        induction k with
        | zero =>
          rintro p w2 ck2 cn2 x14_386 x15_386 hkp hck2 hcn2 hT2 rfl rfl
          have hpn : p = 5 := by omega
          subst hpn
          refine r_iload F 15 rfl dL_tells_386 ?_
          refine r_iconst (v := 5) F (by decide) dL_tells_388 ?_
          refine r_icmp_ge F 705 (by decide) dL_tells_389 (fun _ => ?_) (fun c_389_3 => absurd (by decide) c_389_3)
          refine r_aload_n F 1 rfl dL_tells_705 ?_
          refine r_aload_n F 2 rfl dL_tells_706 ?_
          refine r_aload F 5 rfl dL_tells_707 ?_
          refine r_iload F 6 rfl dL_tells_709 ?_
          refine r_iload F 7 rfl dL_tells_711 ?_
          refine r_calli (g_S (nA := 5) (As := [.ref ak, .ref ap, .ref aa, .int (nI n), .int (opm B n)]) (rest := []) F (c_L_wanting (mask := opm B n) hT2.2.1 hT2.2.2.1 hT2.2.2.2.2.2 hn hR hA hw) gL_tells_L_wanting rfl (by decide +kernel) rfl ⟨Nat.le_of_ble_eq_true rfl, Nat.le_of_ble_eq_true rfl⟩ ⟨by (try dsimp only); omega, by (try dsimp only); omega⟩ rfl (Nat.le_of_ble_eq_true rfl) dL_tells_713) (fun r_4 u_4 hp_4 => ?_)
          refine r_widen (k' := ck2) (n' := cn2) (by (try dsimp only); omega) (by (try dsimp only); omega) ?_
          obtain ⟨rfl, rfl⟩ := hp_4
          refine r_istore (lv' := [(0, .ref (g.2.1 0)), (1, .ref ak), (2, .ref ap), (3, .ref am), (4, .ref al), (5, .ref aa), (6, .int (nI n)), (7, .int (opm B n)), (8, .int (cntN n (qOpn B (opm B n)))), (9, .int (cntN n (fun b => !decide (B b 4 = -1)))), (10, .int (fstN n (qWts B (opm B n)))), (11, .int (cntN n (fun b => qOpn B (opm B n) b && !decide (B b 0 = 3)))), (12, .int (mcB B n n)), (13, .int (mcM B n n)), (14, .int (bitsN (opm B n) 5)), (15, .int (cntN n (qWts B (opm B n))))]) F (by decide) rfl dL_tells_716 ?_
          refine r_aload_n F 0 rfl dL_tells_718 ?_
          refine r_iconst (v := 0) F (by decide) dL_tells_719 ?_
          refine r_calli (g_V (C := RX3) (T := TX3) (N := 4) (nA := 1) (As := [.int 0]) (rest := []) F 0 hT2.1.1 (by decide) rfl ((c_X3_count hfl hT2.1 (w := 0)).ci (fun _ _ q => absurd q.1.1 (by decide))) gL_tells_X3_count rfl (by decide +kernel) rfl ⟨Nat.le_of_ble_eq_true rfl, Nat.le_of_ble_eq_true rfl⟩ ⟨by (try dsimp only); omega, by (try dsimp only); omega⟩ rfl (Nat.le_of_ble_eq_true rfl) dL_tells_720) (fun r_5 u_5 hp_5 => ?_)
          refine r_widen (k' := ck2 + 1) (n' := cn2 + 6) (by (try dsimp only); omega) (by (try dsimp only); omega) ?_
          obtain ⟨-, er_5, hC_5, hk_5⟩ := hp_5
          rw [tf_0] at er_5
          subst er_5
          have hT_5 := hT2.keep hC_5 hk_5
          refine r_iload F 6 rfl dL_tells_723 ?_
          refine r_icmp_ne F 812 (by decide) dL_tells_725 (fun c_725_6 => absurd c_725_6 (fun q => q rfl)) (fun _ => ?_)
          refine r_aload_n F 0 rfl dL_tells_728 ?_
          refine r_iconst (v := 1) F (by decide) dL_tells_729 ?_
          refine r_calli (g_V (C := RX3) (T := TX3) (N := 4) (nA := 1) (As := [.int 1]) (rest := []) F 0 hT_5.1.1 (by decide) rfl ((c_X3_count hfl hT_5.1 (w := 1)).ci (fun _ _ q => absurd q.1.1 (by decide))) gL_tells_X3_count rfl (by decide +kernel) rfl ⟨Nat.le_of_ble_eq_true rfl, Nat.le_of_ble_eq_true rfl⟩ ⟨by (try dsimp only); omega, by (try dsimp only); omega⟩ rfl (Nat.le_of_ble_eq_true rfl) dL_tells_730) (fun r_7 u_7 hp_7 => ?_)
          refine r_widen (k' := ck2 + 2) (n' := cn2 + 12) (by (try dsimp only); omega) (by (try dsimp only); omega) ?_
          obtain ⟨-, er_7, hC_7, hk_7⟩ := hp_7
          rw [tf_1] at er_7
          subst er_7
          have hT_7 := hT_5.keep hC_7 hk_7
          refine r_iload F 8 rfl dL_tells_733 ?_
          refine r_icmp_ne F 812 (by decide) dL_tells_735 (fun c_735_8 => absurd c_735_8 (fun q => q rfl)) (fun _ => ?_)
          refine r_aload_n F 0 rfl dL_tells_738 ?_
          refine r_iconst (v := 2) F (by decide) dL_tells_739 ?_
          refine r_calli (g_V (C := RX3) (T := TX3) (N := 4) (nA := 1) (As := [.int 2]) (rest := []) F 0 hT_7.1.1 (by decide) rfl ((c_X3_count hfl hT_7.1 (w := 2)).ci (fun _ _ q => absurd q.1.1 (by decide))) gL_tells_X3_count rfl (by decide +kernel) rfl ⟨Nat.le_of_ble_eq_true rfl, Nat.le_of_ble_eq_true rfl⟩ ⟨by (try dsimp only); omega, by (try dsimp only); omega⟩ rfl (Nat.le_of_ble_eq_true rfl) dL_tells_740) (fun r_9 u_9 hp_9 => ?_)
          refine r_widen (k' := ck2 + 3) (n' := cn2 + 18) (by (try dsimp only); omega) (by (try dsimp only); omega) ?_
          obtain ⟨-, er_9, hC_9, hk_9⟩ := hp_9
          rw [tf_2] at er_9
          subst er_9
          have hT_9 := hT_7.keep hC_9 hk_9
          refine r_iload F 15 rfl dL_tells_743 ?_
          refine r_icmp_ne F 812 (by decide) dL_tells_745 (fun c_745_10 => absurd c_745_10 (fun q => q rfl)) (fun _ => ?_)
          refine r_aload_n F 0 rfl dL_tells_748 ?_
          refine r_iconst (v := 3) F (by decide) dL_tells_749 ?_
          refine r_calli (g_V (C := RX3) (T := TX3) (N := 4) (nA := 1) (As := [.int 3]) (rest := []) F 0 hT_9.1.1 (by decide) rfl ((c_X3_count hfl hT_9.1 (w := 3)).ci (fun _ _ q => absurd q.1.1 (by decide))) gL_tells_X3_count rfl (by decide +kernel) rfl ⟨Nat.le_of_ble_eq_true rfl, Nat.le_of_ble_eq_true rfl⟩ ⟨by (try dsimp only); omega, by (try dsimp only); omega⟩ rfl (Nat.le_of_ble_eq_true rfl) dL_tells_750) (fun r_11 u_11 hp_11 => ?_)
          refine r_widen (k' := ck2 + 4) (n' := cn2 + 24) (by (try dsimp only); omega) (by (try dsimp only); omega) ?_
          obtain ⟨-, er_11, hC_11, hk_11⟩ := hp_11
          rw [tf_3] at er_11
          subst er_11
          have hT_11 := hT_9.keep hC_11 hk_11
          refine r_iload F 10 rfl dL_tells_753 ?_
          refine r_icmp_ne F 812 (by decide) dL_tells_755 (fun c_755_12 => absurd c_755_12 (fun q => q rfl)) (fun _ => ?_)
          refine r_aload_n F 0 rfl dL_tells_758 ?_
          refine r_iconst (v := 4) F (by decide) dL_tells_759 ?_
          refine r_calli (g_V (C := RX3) (T := TX3) (N := 4) (nA := 1) (As := [.int 4]) (rest := []) F 0 hT_11.1.1 (by decide) rfl ((c_X3_count hfl hT_11.1 (w := 4)).ci (fun _ _ q => absurd q.1.1 (by decide))) gL_tells_X3_count rfl (by decide +kernel) rfl ⟨Nat.le_of_ble_eq_true rfl, Nat.le_of_ble_eq_true rfl⟩ ⟨by (try dsimp only); omega, by (try dsimp only); omega⟩ rfl (Nat.le_of_ble_eq_true rfl) dL_tells_760) (fun r_13 u_13 hp_13 => ?_)
          refine r_widen (k' := ck2 + 5) (n' := cn2 + 30) (by (try dsimp only); omega) (by (try dsimp only); omega) ?_
          obtain ⟨-, er_13, hC_13, hk_13⟩ := hp_13
          rw [tf_4] at er_13
          subst er_13
          have hT_13 := hT_11.keep hC_13 hk_13
          have j_773_14 : VL g X (ck2 + 5) (cn2 + 30) u_13 773 [(0, .ref (g.2.1 0)), (1, .ref ak), (2, .ref ap), (3, .ref am), (4, .ref al), (5, .ref aa), (6, .int (nI n)), (7, .int (opm B n)), (8, .int (cntN n (qOpn B (opm B n)))), (9, .int (cntN n (fun b => !decide (B b 4 = -1)))), (10, .int (fstN n (qWts B (opm B n)))), (11, .int (cntN n (fun b => qOpn B (opm B n) b && !decide (B b 0 = 3)))), (12, .int (mcB B n n)), (13, .int (mcM B n n)), (14, .int (bitsN (opm B n) 5)), (15, .int (cntN n (qWts B (opm B n))))] [.int (bI (decide (cntN n (qWts B (opm B n)) = 0))), .int (bI (decide (cntN n (qWts B (opm B n)) = 0)))] := by
            refine r_icmp_ne F 812 (by decide) dL_tells_773 (fun c_773_15 => absurd c_773_15 (fun q => q rfl)) (fun _ => ?_)
            refine r_aload_n F 0 rfl dL_tells_776 ?_
            refine r_iconst (v := 5) F (by decide) dL_tells_777 ?_
            refine r_calli (g_V (C := RX3) (T := TX3) (N := 4) (nA := 1) (As := [.int 5]) (rest := []) F 0 hT_13.1.1 (by decide) rfl ((c_X3_count hfl hT_13.1 (w := 5)).ci (fun _ _ q => absurd q.1.1 (by decide))) gL_tells_X3_count rfl (by decide +kernel) rfl ⟨Nat.le_of_ble_eq_true rfl, Nat.le_of_ble_eq_true rfl⟩ ⟨by (try dsimp only); omega, by (try dsimp only); omega⟩ rfl (Nat.le_of_ble_eq_true rfl) dL_tells_778) (fun r_16 u_16 hp_16 => ?_)
            refine r_widen (k' := ck2 + 6) (n' := cn2 + 36) (by (try dsimp only); omega) (by (try dsimp only); omega) ?_
            obtain ⟨-, er_16, hC_16, hk_16⟩ := hp_16
            rw [tf_5] at er_16
            subst er_16
            have hT_16 := hT_13.keep hC_16 hk_16
            refine r_iload F 14 rfl dL_tells_781 ?_
            refine r_icmp_ne F 812 (by decide) dL_tells_783 (fun c_783_17 => absurd c_783_17 (fun q => q bits_opm.symm)) (fun _ => ?_)
            refine r_aload_n F 0 rfl dL_tells_786 ?_
            refine r_bipush (v := 6) F (by decide) dL_tells_787 ?_
            refine r_calli (g_V (C := RX3) (T := TX3) (N := 4) (nA := 1) (As := [.int 6]) (rest := []) F 0 hT_16.1.1 (by decide) rfl ((c_X3_count hfl hT_16.1 (w := 6)).ci (fun _ _ q => absurd q.1.1 (by decide))) gL_tells_X3_count rfl (by decide +kernel) rfl ⟨Nat.le_of_ble_eq_true rfl, Nat.le_of_ble_eq_true rfl⟩ ⟨by (try dsimp only); omega, by (try dsimp only); omega⟩ rfl (Nat.le_of_ble_eq_true rfl) dL_tells_789) (fun r_18 u_18 hp_18 => ?_)
            refine r_widen (k' := ck2 + 7) (n' := cn2 + 42) (by (try dsimp only); omega) (by (try dsimp only); omega) ?_
            obtain ⟨-, er_18, hC_18, hk_18⟩ := hp_18
            rw [tf_6] at er_18
            subst er_18
            have hT_18 := hT_16.keep hC_18 hk_18
            refine r_iload F 7 rfl dL_tells_792 ?_
            refine r_icmp_ne F 812 (by decide) dL_tells_794 (fun c_794_19 => absurd c_794_19 (fun q => q rfl)) (fun _ => ?_)
            refine r_aload_n F 0 rfl dL_tells_797 ?_
            refine r_bipush (v := 7) F (by decide) dL_tells_798 ?_
            refine r_calli (g_V (C := RX3) (T := TX3) (N := 4) (nA := 1) (As := [.int 7]) (rest := []) F 0 hT_18.1.1 (by decide) rfl ((c_X3_count hfl hT_18.1 (w := 7)).ci (fun _ _ q => absurd q.1.1 (by decide))) gL_tells_X3_count rfl (by decide +kernel) rfl ⟨Nat.le_of_ble_eq_true rfl, Nat.le_of_ble_eq_true rfl⟩ ⟨by (try dsimp only); omega, by (try dsimp only); omega⟩ rfl (Nat.le_of_ble_eq_true rfl) dL_tells_800) (fun r_20 u_20 hp_20 => ?_)
            refine r_widen (k' := ck2 + 8) (n' := cn2 + 48) (by (try dsimp only); omega) (by (try dsimp only); omega) ?_
            obtain ⟨-, er_20, hC_20, hk_20⟩ := hp_20
            rw [tf_7] at er_20
            subst er_20
            have hT_20 := hT_18.keep hC_20 hk_20
            refine r_iload F 9 rfl dL_tells_803 ?_
            refine r_icmp_ne F 812 (by decide) dL_tells_805 (fun c_805_21 => absurd c_805_21 (fun q => q rfl)) (fun _ => ?_)
            refine r_iconst (v := 1) F (by decide) dL_tells_808 ?_
            refine r_goto F 813 (by decide) dL_tells_809 ?_
            refine r_istore (lv' := [(0, .ref (g.2.1 0)), (1, .ref ak), (2, .ref ap), (3, .ref am), (4, .ref al), (5, .ref aa), (6, .int (nI n)), (7, .int (opm B n)), (8, .int (cntN n (qOpn B (opm B n)))), (9, .int (cntN n (fun b => !decide (B b 4 = -1)))), (10, .int (fstN n (qWts B (opm B n)))), (11, .int (cntN n (fun b => qOpn B (opm B n) b && !decide (B b 0 = 3)))), (12, .int (mcB B n n)), (13, .int (mcM B n n)), (14, .int (bitsN (opm B n) 5)), (15, .int (cntN n (qWts B (opm B n)))), (16, .int 1)]) F (by decide) rfl dL_tells_813 ?_
            refine r_iload F 16 rfl dL_tells_815 ?_
            refine r_if_eq F 860 (by decide) dL_tells_817 (fun c_817_22 => absurd c_817_22 (by decide)) (fun _ => ?_)
            refine r_aload_n F 0 rfl dL_tells_820 ?_
            refine r_calli (g_V (C := RX3) (T := TX3) (N := 4) (nA := 0) (As := []) (rest := []) F 0 hT_20.1.1 (by decide) rfl (c_X3_mostCarried hT_20.1) gL_tells_X3_mostCarried rfl (by decide +kernel) rfl ⟨Nat.le_of_ble_eq_true rfl, Nat.le_of_ble_eq_true rfl⟩ ⟨by (try dsimp only); omega, by (try dsimp only); omega⟩ rfl (Nat.le_of_ble_eq_true rfl) dL_tells_821) (fun r_23 u_23 hp_23 => ?_)
            refine r_widen (k' := ck2 + 8) (n' := cn2 + 48) (by (try dsimp only); omega) (by (try dsimp only); omega) ?_
            obtain ⟨rfl, rfl⟩ := hp_23
            refine r_iload F 12 rfl dL_tells_824 ?_
            refine r_icmp_ne F 860 (by decide) dL_tells_826 (fun c_826_24 => absurd c_826_24 (fun q => q rfl)) (fun _ => ?_)
            refine r_aload_n F 0 rfl dL_tells_829 ?_
            refine r_calld (g_V (C := RX3) (T := TX3) (N := 4) (nA := 0) (As := []) (rest := []) F 0 hT_20.1.1 (by decide) rfl (c_X3_filled hT_20.1) gL_tells_X3_filled rfl (by decide +kernel) rfl ⟨Nat.le_of_ble_eq_true rfl, Nat.le_of_ble_eq_true rfl⟩ ⟨by (try dsimp only); omega, by (try dsimp only); omega⟩ rfl (Nat.le_of_ble_eq_true rfl) dL_tells_830) (fun r_25 u_25 hp_25 => ?_)
            refine r_widen (k' := ck2 + 8) (n' := cn2 + 48) (by (try dsimp only); omega) (by (try dsimp only); omega) ?_
            obtain ⟨rfl, rfl⟩ := hp_25
            refine r_iload F 11 rfl dL_tells_833 ?_
            refine r_if_ne F 842 (by decide) dL_tells_835 (fun c_835_26 => ?_) (fun c_835_26 => ?_)
            · skip
              refine r_iload F 11 rfl dL_tells_842 ?_
              refine r_iload F 15 rfl dL_tells_844 ?_
              refine r_isub F dL_tells_846 ?_
              refine r_i2d F dL_tells_847 ?_
              refine r_iload F 11 rfl dL_tells_848 ?_
              refine r_i2d F dL_tells_850 ?_
              refine r_ddiv F (fil_v hn c_835_26) dL_tells_851 ?_
              refine r_eq (st2 := [.double (filD B n), .double (filD B n)]) (by rw [fil_1 hn c_835_26]) rfl ?_
              refine r_dcmp F dL_tells_852 ?_
              refine r_if_ne F 860 (by decide) dL_tells_853 (fun c_853_27 => absurd c_853_27 (fun q => q (dc_fil hn))) (fun _ => ?_)
              refine r_iconst (v := 1) F (by decide) dL_tells_856 ?_
              refine r_goto F 861 (by decide) dL_tells_857 ?_
              exact hret _ _ _ _ _ _ (by (try dsimp only); omega) (by (try dsimp only); omega) ⟨rfl, hT_20⟩ dL_tells_861
            · skip
              refine r_dconst1 F dL_tells_838 ?_
              refine r_goto F 852 (by decide) dL_tells_839 ?_
              refine r_eq (st2 := [.double (filD B n), .double (filD B n)]) (by rw [fil_0 hn c_835_26]) rfl ?_
              refine r_dcmp F dL_tells_852 ?_
              refine r_if_ne F 860 (by decide) dL_tells_853 (fun c_853_28 => absurd c_853_28 (fun q => q (dc_fil hn))) (fun _ => ?_)
              refine r_iconst (v := 1) F (by decide) dL_tells_856 ?_
              refine r_goto F 861 (by decide) dL_tells_857 ?_
              exact hret _ _ _ _ _ _ (by (try dsimp only); omega) (by (try dsimp only); omega) ⟨rfl, hT_20⟩ dL_tells_861
          refine r_iload F 15 rfl dL_tells_763 ?_
          refine r_if_ne F 772 (by decide) dL_tells_765 (fun c_765_29 => ?_) (fun c_765_29 => ?_)
          · skip
            refine r_iconst (v := 0) F (by decide) dL_tells_772 ?_
            refine r_eq (st2 := [.int (bI (decide (cntN n (qWts B (opm B n)) = 0))), .int (bI (decide (cntN n (qWts B (opm B n)) = 0)))]) (congrArg (fun z_ : Int32 => ([.int z_, .int (bI (decide (cntN n (qWts B (opm B n)) = 0)))] : List Value)) (show (0 : Int32) = bI (decide (cntN n (qWts B (opm B n)) = 0)) from by simp [bI, c_765_29])) rfl ?_
            exact j_773_14
          · skip
            refine r_iconst (v := 1) F (by decide) dL_tells_768 ?_
            refine r_goto F 773 (by decide) dL_tells_769 ?_
            refine r_eq (st2 := [.int (bI (decide (cntN n (qWts B (opm B n)) = 0))), .int (bI (decide (cntN n (qWts B (opm B n)) = 0)))]) (congrArg (fun z_ : Int32 => ([.int z_, .int (bI (decide (cntN n (qWts B (opm B n)) = 0)))] : List Value)) (show (1 : Int32) = bI (decide (cntN n (qWts B (opm B n)) = 0)) from by simp [bI, c_765_29])) rfl ?_
            exact j_773_14
        | succ k ih_386 =>
          rintro p w2 ck2 cn2 x14_386 x15_386 hkp hck2 hcn2 hT2 rfl rfl
          have hp5 : p < 5 := by omega
          refine r_iload F 15 rfl dL_tells_386 ?_
          refine r_iconst (v := 5) F (by decide) dL_tells_388 ?_
          refine r_icmp_ge F 705 (by decide) dL_tells_389 (fun c_389_30 => absurd c_389_30 (nI_ge (b := 5) hp5 (by decide))) (fun _ => ?_)
          refine r_iconst (v := 0) F (by decide) dL_tells_392 ?_
          refine r_istore (lv' := [(0, .ref (g.2.1 0)), (1, .ref ak), (2, .ref ap), (3, .ref am), (4, .ref al), (5, .ref aa), (6, .int (nI n)), (7, .int (opm B n)), (8, .int (cntN n (qOpn B (opm B n)))), (9, .int (cntN n (fun b => !decide (B b 4 = -1)))), (10, .int (fstN n (qWts B (opm B n)))), (11, .int (cntN n (fun b => qOpn B (opm B n) b && !decide (B b 0 = 3)))), (12, .int (mcB B n n)), (13, .int (mcM B n n)), (14, .int (bitsN (opm B n) p)), (15, .int (nI p)), (16, .int 0)]) F (by decide) rfl dL_tells_393 ?_
          refine r_iconst (v := 0) F (by decide) dL_tells_395 ?_
          refine r_istore (lv' := [(0, .ref (g.2.1 0)), (1, .ref ak), (2, .ref ap), (3, .ref am), (4, .ref al), (5, .ref aa), (6, .int (nI n)), (7, .int (opm B n)), (8, .int (cntN n (qOpn B (opm B n)))), (9, .int (cntN n (fun b => !decide (B b 4 = -1)))), (10, .int (fstN n (qWts B (opm B n)))), (11, .int (cntN n (fun b => qOpn B (opm B n) b && !decide (B b 0 = 3)))), (12, .int (mcB B n n)), (13, .int (mcM B n n)), (14, .int (bitsN (opm B n) p)), (15, .int (nI p)), (16, .int 0), (17, .int 0)]) F (by decide) rfl dL_tells_396 ?_
          refine r_iconst (v := 0) F (by decide) dL_tells_398 ?_
          refine r_istore (lv' := [(0, .ref (g.2.1 0)), (1, .ref ak), (2, .ref ap), (3, .ref am), (4, .ref al), (5, .ref aa), (6, .int (nI n)), (7, .int (opm B n)), (8, .int (cntN n (qOpn B (opm B n)))), (9, .int (cntN n (fun b => !decide (B b 4 = -1)))), (10, .int (fstN n (qWts B (opm B n)))), (11, .int (cntN n (fun b => qOpn B (opm B n) b && !decide (B b 0 = 3)))), (12, .int (mcB B n n)), (13, .int (mcM B n n)), (14, .int (bitsN (opm B n) p)), (15, .int (nI p)), (16, .int 0), (17, .int 0), (18, .int 0)]) F (by decide) rfl dL_tells_399 ?_
          refine r_iconst (v := 0) F (by decide) dL_tells_401 ?_
          refine r_istore (lv' := [(0, .ref (g.2.1 0)), (1, .ref ak), (2, .ref ap), (3, .ref am), (4, .ref al), (5, .ref aa), (6, .int (nI n)), (7, .int (opm B n)), (8, .int (cntN n (qOpn B (opm B n)))), (9, .int (cntN n (fun b => !decide (B b 4 = -1)))), (10, .int (fstN n (qWts B (opm B n)))), (11, .int (cntN n (fun b => qOpn B (opm B n) b && !decide (B b 0 = 3)))), (12, .int (mcB B n n)), (13, .int (mcM B n n)), (14, .int (bitsN (opm B n) p)), (15, .int (nI p)), (16, .int 0), (17, .int 0), (18, .int 0), (19, .int 0)]) F (by decide) rfl dL_tells_402 ?_
          refine r_iconst (v := 0) F (by decide) dL_tells_404 ?_
          refine r_istore (lv' := [(0, .ref (g.2.1 0)), (1, .ref ak), (2, .ref ap), (3, .ref am), (4, .ref al), (5, .ref aa), (6, .int (nI n)), (7, .int (opm B n)), (8, .int (cntN n (qOpn B (opm B n)))), (9, .int (cntN n (fun b => !decide (B b 4 = -1)))), (10, .int (fstN n (qWts B (opm B n)))), (11, .int (cntN n (fun b => qOpn B (opm B n) b && !decide (B b 0 = 3)))), (12, .int (mcB B n n)), (13, .int (mcM B n n)), (14, .int (bitsN (opm B n) p)), (15, .int (nI p)), (16, .int 0), (17, .int 0), (18, .int 0), (19, .int 0), (20, .int 0)]) F (by decide) rfl dL_tells_405 ?_
          refine r_iconst (v := 0) F (by decide) dL_tells_407 ?_
          refine r_istore (lv' := [(0, .ref (g.2.1 0)), (1, .ref ak), (2, .ref ap), (3, .ref am), (4, .ref al), (5, .ref aa), (6, .int (nI n)), (7, .int (opm B n)), (8, .int (cntN n (qOpn B (opm B n)))), (9, .int (cntN n (fun b => !decide (B b 4 = -1)))), (10, .int (fstN n (qWts B (opm B n)))), (11, .int (cntN n (fun b => qOpn B (opm B n) b && !decide (B b 0 = 3)))), (12, .int (mcB B n n)), (13, .int (mcM B n n)), (14, .int (bitsN (opm B n) p)), (15, .int (nI p)), (16, .int 0), (17, .int 0), (18, .int 0), (19, .int 0), (20, .int 0), (21, .int 0)]) F (by decide) rfl dL_tells_408 ?_
          have loop_410 : ∀ (k : Nat) (j : Nat) (x16_410 : Int32) (x17_410 : Int32) (x18_410 : Int32) (x19_410 : Int32) (x20_410 : Int32) (x21_410 : Int32), (j + k = n) → x16_410 = cntN j (fun b => decide (B b 1 = (nI p))) → x17_410 = cntN j (fun b => decide (B b 1 = (nI p)) && qWts B (opm B n) b) → x18_410 = cntN j (qFor B 1 (nI p)) → x19_410 = cntN j (qFor B 2 (nI p)) → x20_410 = bI (anyN j (qCls B (nI p) (opm B n))) → x21_410 = nI j → VL g X ck2 cn2 w2 410 [(0, .ref (g.2.1 0)), (1, .ref ak), (2, .ref ap), (3, .ref am), (4, .ref al), (5, .ref aa), (6, .int (nI n)), (7, .int (opm B n)), (8, .int (cntN n (qOpn B (opm B n)))), (9, .int (cntN n (fun b => !decide (B b 4 = -1)))), (10, .int (fstN n (qWts B (opm B n)))), (11, .int (cntN n (fun b => qOpn B (opm B n) b && !decide (B b 0 = 3)))), (12, .int (mcB B n n)), (13, .int (mcM B n n)), (14, .int (bitsN (opm B n) p)), (15, .int (nI p)), (16, .int x16_410), (17, .int x17_410), (18, .int x18_410), (19, .int x19_410), (20, .int x20_410), (21, .int x21_410)] [] := by
            intro k
            induction k with
            | zero =>
              rintro j x16_410 x17_410 x18_410 x19_410 x20_410 x21_410 hkj rfl rfl rfl rfl rfl rfl
              have hjn : n = j := by omega
              subst hjn
              refine r_iload F 21 rfl dL_tells_410 ?_
              refine r_iload F 6 rfl dL_tells_412 ?_
              refine r_icmp_ge F 600 (by decide) dL_tells_414 (fun _ => ?_) (fun c_414_31 => absurd (Int32.le_refl _) c_414_31)
              refine r_aload_n F 0 rfl dL_tells_600 ?_
              refine r_iload F 15 rfl dL_tells_601 ?_
              refine r_iconst (v := 0) F (by decide) dL_tells_603 ?_
              refine r_calli (g_V (C := RX3) (T := TX3) (N := 4) (nA := 2) (As := [.int (nI p), .int 0]) (rest := []) F 0 hT2.1.1 (by decide) rfl ((c_X3_part hfl hT2.1 (p := nI p) (w := 0)).ci (fun _ _ q => exIA_n (cdPart_0 (by omega) (by decide)) q.1)) gL_tells_X3_part rfl (by decide +kernel) rfl ⟨Nat.le_of_ble_eq_true rfl, Nat.le_of_ble_eq_true rfl⟩ ⟨by (try dsimp only); omega, by (try dsimp only); omega⟩ rfl (Nat.le_of_ble_eq_true rfl) dL_tells_604) (fun r_32 u_32 hp_32 => ?_)
              refine r_widen (k' := ck2 + 2) (n' := cn2 + 12) (by (try dsimp only); omega) (by (try dsimp only); omega) ?_
              obtain ⟨-, er_32, hC_32, hk_32⟩ := hp_32
              rw [tp_0] at er_32
              subst er_32
              have hT_32 := hT2.keep hC_32 hk_32
              refine r_iload F 7 rfl dL_tells_607 ?_
              refine r_iload F 15 rfl dL_tells_609 ?_
              refine r_ishr F dL_tells_611 ?_
              refine r_iconst (v := 1) F (by decide) dL_tells_612 ?_
              refine r_iand F dL_tells_613 ?_
              refine r_icmp_ne F 685 (by decide) dL_tells_614 (fun c_614_33 => absurd c_614_33 (fun q => q tld_i.symm)) (fun _ => ?_)
              refine r_aload_n F 0 rfl dL_tells_617 ?_
              refine r_iload F 15 rfl dL_tells_618 ?_
              refine r_iconst (v := 1) F (by decide) dL_tells_620 ?_
              refine r_calli (g_V (C := RX3) (T := TX3) (N := 4) (nA := 2) (As := [.int (nI p), .int 1]) (rest := []) F 0 hT_32.1.1 (by decide) rfl ((c_X3_part hfl hT_32.1 (p := nI p) (w := 1)).ci (fun _ _ q => exIA_n (cdPart_0 (by omega) (by decide)) q.1)) gL_tells_X3_part rfl (by decide +kernel) rfl ⟨Nat.le_of_ble_eq_true rfl, Nat.le_of_ble_eq_true rfl⟩ ⟨by (try dsimp only); omega, by (try dsimp only); omega⟩ rfl (Nat.le_of_ble_eq_true rfl) dL_tells_621) (fun r_34 u_34 hp_34 => ?_)
              refine r_widen (k' := ck2 + 4) (n' := cn2 + 24) (by (try dsimp only); omega) (by (try dsimp only); omega) ?_
              obtain ⟨-, er_34, hC_34, hk_34⟩ := hp_34
              rw [tp_1] at er_34
              subst er_34
              have hT_34 := hT_32.keep hC_34 hk_34
              refine r_iload F 16 rfl dL_tells_624 ?_
              refine r_icmp_ne F 685 (by decide) dL_tells_626 (fun c_626_35 => absurd c_626_35 (fun q => q rfl)) (fun _ => ?_)
              refine r_aload_n F 0 rfl dL_tells_629 ?_
              refine r_iload F 15 rfl dL_tells_630 ?_
              refine r_iconst (v := 2) F (by decide) dL_tells_632 ?_
              refine r_calli (g_V (C := RX3) (T := TX3) (N := 4) (nA := 2) (As := [.int (nI p), .int 2]) (rest := []) F 0 hT_34.1.1 (by decide) rfl ((c_X3_part hfl hT_34.1 (p := nI p) (w := 2)).ci (fun _ _ q => exIA_n (cdPart_0 (by omega) (by decide)) q.1)) gL_tells_X3_part rfl (by decide +kernel) rfl ⟨Nat.le_of_ble_eq_true rfl, Nat.le_of_ble_eq_true rfl⟩ ⟨by (try dsimp only); omega, by (try dsimp only); omega⟩ rfl (Nat.le_of_ble_eq_true rfl) dL_tells_633) (fun r_36 u_36 hp_36 => ?_)
              refine r_widen (k' := ck2 + 6) (n' := cn2 + 36) (by (try dsimp only); omega) (by (try dsimp only); omega) ?_
              obtain ⟨-, er_36, hC_36, hk_36⟩ := hp_36
              rw [tp_2] at er_36
              subst er_36
              have hT_36 := hT_34.keep hC_36 hk_36
              refine r_iload F 17 rfl dL_tells_636 ?_
              refine r_icmp_ne F 685 (by decide) dL_tells_638 (fun c_638_37 => absurd c_638_37 (fun q => q rfl)) (fun _ => ?_)
              refine r_aload_n F 0 rfl dL_tells_641 ?_
              refine r_iload F 15 rfl dL_tells_642 ?_
              refine r_iconst (v := 3) F (by decide) dL_tells_644 ?_
              refine r_calli (g_V (C := RX3) (T := TX3) (N := 4) (nA := 2) (As := [.int (nI p), .int 3]) (rest := []) F 0 hT_36.1.1 (by decide) rfl ((c_X3_part hfl hT_36.1 (p := nI p) (w := 3)).ci (fun _ _ q => exIA_n (cdPart_0 (by omega) (by decide)) q.1)) gL_tells_X3_part rfl (by decide +kernel) rfl ⟨Nat.le_of_ble_eq_true rfl, Nat.le_of_ble_eq_true rfl⟩ ⟨by (try dsimp only); omega, by (try dsimp only); omega⟩ rfl (Nat.le_of_ble_eq_true rfl) dL_tells_645) (fun r_38 u_38 hp_38 => ?_)
              refine r_widen (k' := ck2 + 8) (n' := cn2 + 48) (by (try dsimp only); omega) (by (try dsimp only); omega) ?_
              obtain ⟨-, er_38, hC_38, hk_38⟩ := hp_38
              rw [tp_3] at er_38
              subst er_38
              have hT_38 := hT_36.keep hC_38 hk_38
              refine r_iload F 18 rfl dL_tells_648 ?_
              refine r_icmp_ne F 685 (by decide) dL_tells_650 (fun c_650_39 => absurd c_650_39 (fun q => q rfl)) (fun _ => ?_)
              refine r_aload_n F 0 rfl dL_tells_653 ?_
              refine r_iload F 15 rfl dL_tells_654 ?_
              refine r_iconst (v := 4) F (by decide) dL_tells_656 ?_
              refine r_calli (g_V (C := RX3) (T := TX3) (N := 4) (nA := 2) (As := [.int (nI p), .int 4]) (rest := []) F 0 hT_38.1.1 (by decide) rfl ((c_X3_part hfl hT_38.1 (p := nI p) (w := 4)).ci (fun _ _ q => exIA_n (cdPart_0 (by omega) (by decide)) q.1)) gL_tells_X3_part rfl (by decide +kernel) rfl ⟨Nat.le_of_ble_eq_true rfl, Nat.le_of_ble_eq_true rfl⟩ ⟨by (try dsimp only); omega, by (try dsimp only); omega⟩ rfl (Nat.le_of_ble_eq_true rfl) dL_tells_657) (fun r_40 u_40 hp_40 => ?_)
              refine r_widen (k' := ck2 + 10) (n' := cn2 + 60) (by (try dsimp only); omega) (by (try dsimp only); omega) ?_
              obtain ⟨-, er_40, hC_40, hk_40⟩ := hp_40
              rw [tp_4] at er_40
              subst er_40
              have hT_40 := hT_38.keep hC_40 hk_40
              refine r_iload F 19 rfl dL_tells_660 ?_
              refine r_icmp_ne F 685 (by decide) dL_tells_662 (fun c_662_41 => absurd c_662_41 (fun q => q rfl)) (fun _ => ?_)
              refine r_aload_n F 0 rfl dL_tells_665 ?_
              refine r_iload F 15 rfl dL_tells_666 ?_
              refine r_iconst (v := 5) F (by decide) dL_tells_668 ?_
              refine r_calli (g_V (C := RX3) (T := TX3) (N := 4) (nA := 2) (As := [.int (nI p), .int 5]) (rest := []) F 0 hT_40.1.1 (by decide) rfl ((c_X3_part hfl hT_40.1 (p := nI p) (w := 5)).ci (fun _ _ q => exIA_n (cdPart_0 (by omega) (by decide)) q.1)) gL_tells_X3_part rfl (by decide +kernel) rfl ⟨Nat.le_of_ble_eq_true rfl, Nat.le_of_ble_eq_true rfl⟩ ⟨by (try dsimp only); omega, by (try dsimp only); omega⟩ rfl (Nat.le_of_ble_eq_true rfl) dL_tells_669) (fun r_42 u_42 hp_42 => ?_)
              refine r_widen (k' := ck2 + 12) (n' := cn2 + 72) (by (try dsimp only); omega) (by (try dsimp only); omega) ?_
              obtain ⟨-, er_42, hC_42, hk_42⟩ := hp_42
              rw [tp_5] at er_42
              subst er_42
              have hT_42 := hT_40.keep hC_42 hk_42
              have j_682_43 : VL g X (ck2 + 12) (cn2 + 72) u_42 682 [(0, .ref (g.2.1 0)), (1, .ref ak), (2, .ref ap), (3, .ref am), (4, .ref al), (5, .ref aa), (6, .int (nI n)), (7, .int (opm B n)), (8, .int (cntN n (qOpn B (opm B n)))), (9, .int (cntN n (fun b => !decide (B b 4 = -1)))), (10, .int (fstN n (qWts B (opm B n)))), (11, .int (cntN n (fun b => qOpn B (opm B n) b && !decide (B b 0 = 3)))), (12, .int (mcB B n n)), (13, .int (mcM B n n)), (14, .int (bitsN (opm B n) p)), (15, .int (nI p)), (16, .int (cntN n (fun b => decide (B b 1 = (nI p))))), (17, .int (cntN n (fun b => decide (B b 1 = (nI p)) && qWts B (opm B n) b))), (18, .int (cntN n (qFor B 1 (nI p)))), (19, .int (cntN n (qFor B 2 (nI p)))), (20, .int (bI (anyN n (qCls B (nI p) (opm B n))))), (21, .int (nI n))] [.int (bI (anyN n (qCls B (nI p) (opm B n)))), .int (bI (anyN n (qCls B (nI p) (opm B n))))] := by
                refine r_icmp_eq F 687 (by decide) dL_tells_682 (fun _ => ?_) (fun c_682_44 => absurd rfl c_682_44)
                refine r_iload F 14 rfl dL_tells_687 ?_
                refine r_iload F 7 rfl dL_tells_689 ?_
                refine r_iload F 15 rfl dL_tells_691 ?_
                refine r_ishr F dL_tells_693 ?_
                refine r_iconst (v := 1) F (by decide) dL_tells_694 ?_
                refine r_iand F dL_tells_695 ?_
                refine r_iadd F dL_tells_696 ?_
                refine r_istore (lv' := [(0, .ref (g.2.1 0)), (1, .ref ak), (2, .ref ap), (3, .ref am), (4, .ref al), (5, .ref aa), (6, .int (nI n)), (7, .int (opm B n)), (8, .int (cntN n (qOpn B (opm B n)))), (9, .int (cntN n (fun b => !decide (B b 4 = -1)))), (10, .int (fstN n (qWts B (opm B n)))), (11, .int (cntN n (fun b => qOpn B (opm B n) b && !decide (B b 0 = 3)))), (12, .int (mcB B n n)), (13, .int (mcM B n n)), (14, .int ((bitsN (opm B n) p) + (((opm B n) >>> ((nI p) &&& 31)) &&& 1))), (15, .int (nI p)), (16, .int (cntN n (fun b => decide (B b 1 = (nI p))))), (17, .int (cntN n (fun b => decide (B b 1 = (nI p)) && qWts B (opm B n) b))), (18, .int (cntN n (qFor B 1 (nI p)))), (19, .int (cntN n (qFor B 2 (nI p)))), (20, .int (bI (anyN n (qCls B (nI p) (opm B n))))), (21, .int (nI n))]) F (by decide) rfl dL_tells_697 ?_
                refine r_iinc (lv' := [(0, .ref (g.2.1 0)), (1, .ref ak), (2, .ref ap), (3, .ref am), (4, .ref al), (5, .ref aa), (6, .int (nI n)), (7, .int (opm B n)), (8, .int (cntN n (qOpn B (opm B n)))), (9, .int (cntN n (fun b => !decide (B b 4 = -1)))), (10, .int (fstN n (qWts B (opm B n)))), (11, .int (cntN n (fun b => qOpn B (opm B n) b && !decide (B b 0 = 3)))), (12, .int (mcB B n n)), (13, .int (mcM B n n)), (14, .int ((bitsN (opm B n) p) + (((opm B n) >>> ((nI p) &&& 31)) &&& 1))), (15, .int (nI (p + 1))), (16, .int (cntN n (fun b => decide (B b 1 = (nI p))))), (17, .int (cntN n (fun b => decide (B b 1 = (nI p)) && qWts B (opm B n) b))), (18, .int (cntN n (qFor B 1 (nI p)))), (19, .int (cntN n (qFor B 2 (nI p)))), (20, .int (bI (anyN n (qCls B (nI p) (opm B n))))), (21, .int (nI n))]) F 15 rfl (nI_inc _) (by decide) rfl dL_tells_699 ?_
                refine r_goto F 386 (by decide) dL_tells_702 ?_
                refine r_lv (lv2 := [(0, .ref (g.2.1 0)), (1, .ref ak), (2, .ref ap), (3, .ref am), (4, .ref al), (5, .ref aa), (6, .int (nI n)), (7, .int (opm B n)), (8, .int (cntN n (qOpn B (opm B n)))), (9, .int (cntN n (fun b => !decide (B b 4 = -1)))), (10, .int (fstN n (qWts B (opm B n)))), (11, .int (cntN n (fun b => qOpn B (opm B n) b && !decide (B b 0 = 3)))), (12, .int (mcB B n n)), (13, .int (mcM B n n)), (14, .int ((bitsN (opm B n) p) + (((opm B n) >>> ((nI p) &&& 31)) &&& 1))), (15, .int (nI (p + 1)))]) (by simp) ?_
                exact ih_386 (p + 1) _ _ _ _ _ (by omega) (by omega) (by omega) hT_42 rfl rfl
              refine r_iload F 20 rfl dL_tells_672 ?_
              refine r_if_eq F 681 (by decide) dL_tells_674 (fun c_674_45 => ?_) (fun c_674_45 => ?_)
              · skip
                replace c_674_45 := bI0 c_674_45
                refine r_iconst (v := 0) F (by decide) dL_tells_681 ?_
                refine r_eq (st2 := [.int (bI (anyN n (qCls B (nI p) (opm B n)))), .int (bI (anyN n (qCls B (nI p) (opm B n))))]) (congrArg (fun z_ : Int32 => ([.int z_, .int (bI (anyN n (qCls B (nI p) (opm B n))))] : List Value)) (show (0 : Int32) = bI (anyN n (qCls B (nI p) (opm B n))) from by simp [bI, c_674_45])) rfl ?_
                exact j_682_43
              · skip
                replace c_674_45 := bI1 c_674_45
                refine r_iconst (v := 1) F (by decide) dL_tells_677 ?_
                refine r_goto F 682 (by decide) dL_tells_678 ?_
                refine r_eq (st2 := [.int (bI (anyN n (qCls B (nI p) (opm B n)))), .int (bI (anyN n (qCls B (nI p) (opm B n))))]) (congrArg (fun z_ : Int32 => ([.int z_, .int (bI (anyN n (qCls B (nI p) (opm B n))))] : List Value)) (show (1 : Int32) = bI (anyN n (qCls B (nI p) (opm B n))) from by simp [bI, c_674_45])) rfl ?_
                exact j_682_43
            | succ k ih_410 =>
              rintro j x16_410 x17_410 x18_410 x19_410 x20_410 x21_410 hkj rfl rfl rfl rfl rfl rfl
              have hj : j < n := by omega
              obtain ⟨eK, eP, eM, eL, eA⟩ := hR j hj
              refine r_iload F 21 rfl dL_tells_410 ?_
              refine r_iload F 6 rfl dL_tells_412 ?_
              refine r_icmp_ge F 600 (by decide) dL_tells_414 (fun c_414_46 => absurd c_414_46 (nI_ge (b := n) hj (by omega))) (fun _ => ?_)
              refine r_iload F 16 rfl dL_tells_417 ?_
              have j_433_47 : VL g X ck2 cn2 w2 433 [(0, .ref (g.2.1 0)), (1, .ref ak), (2, .ref ap), (3, .ref am), (4, .ref al), (5, .ref aa), (6, .int (nI n)), (7, .int (opm B n)), (8, .int (cntN n (qOpn B (opm B n)))), (9, .int (cntN n (fun b => !decide (B b 4 = -1)))), (10, .int (fstN n (qWts B (opm B n)))), (11, .int (cntN n (fun b => qOpn B (opm B n) b && !decide (B b 0 = 3)))), (12, .int (mcB B n n)), (13, .int (mcM B n n)), (14, .int (bitsN (opm B n) p)), (15, .int (nI p)), (16, .int (cntN j (fun b => decide (B b 1 = (nI p))))), (17, .int (cntN j (fun b => decide (B b 1 = (nI p)) && qWts B (opm B n) b))), (18, .int (cntN j (qFor B 1 (nI p)))), (19, .int (cntN j (qFor B 2 (nI p)))), (20, .int (bI (anyN j (qCls B (nI p) (opm B n))))), (21, .int (nI j))] [.int (bI (decide (B j 1 = (nI p)))), .int (cntN j (fun b => decide (B b 1 = (nI p))))] := by
                refine r_iadd F dL_tells_433 ?_
                refine r_istore (lv' := [(0, .ref (g.2.1 0)), (1, .ref ak), (2, .ref ap), (3, .ref am), (4, .ref al), (5, .ref aa), (6, .int (nI n)), (7, .int (opm B n)), (8, .int (cntN n (qOpn B (opm B n)))), (9, .int (cntN n (fun b => !decide (B b 4 = -1)))), (10, .int (fstN n (qWts B (opm B n)))), (11, .int (cntN n (fun b => qOpn B (opm B n) b && !decide (B b 0 = 3)))), (12, .int (mcB B n n)), (13, .int (mcM B n n)), (14, .int (bitsN (opm B n) p)), (15, .int (nI p)), (16, .int ((cntN j (fun b => decide (B b 1 = (nI p)))) + (bI (decide (B j 1 = (nI p)))))), (17, .int (cntN j (fun b => decide (B b 1 = (nI p)) && qWts B (opm B n) b))), (18, .int (cntN j (qFor B 1 (nI p)))), (19, .int (cntN j (qFor B 2 (nI p)))), (20, .int (bI (anyN j (qCls B (nI p) (opm B n))))), (21, .int (nI j))]) F (by decide) rfl dL_tells_434 ?_
                refine r_iload F 17 rfl dL_tells_436 ?_
                have j_474_48 : VL g X ck2 cn2 w2 474 [(0, .ref (g.2.1 0)), (1, .ref ak), (2, .ref ap), (3, .ref am), (4, .ref al), (5, .ref aa), (6, .int (nI n)), (7, .int (opm B n)), (8, .int (cntN n (qOpn B (opm B n)))), (9, .int (cntN n (fun b => !decide (B b 4 = -1)))), (10, .int (fstN n (qWts B (opm B n)))), (11, .int (cntN n (fun b => qOpn B (opm B n) b && !decide (B b 0 = 3)))), (12, .int (mcB B n n)), (13, .int (mcM B n n)), (14, .int (bitsN (opm B n) p)), (15, .int (nI p)), (16, .int ((cntN j (fun b => decide (B b 1 = (nI p)))) + (bI (decide (B j 1 = (nI p)))))), (17, .int (cntN j (fun b => decide (B b 1 = (nI p)) && qWts B (opm B n) b))), (18, .int (cntN j (qFor B 1 (nI p)))), (19, .int (cntN j (qFor B 2 (nI p)))), (20, .int (bI (anyN j (qCls B (nI p) (opm B n))))), (21, .int (nI j))] [.int (bI (decide (B j 1 = (nI p)) && qWts B (opm B n) j)), .int (cntN j (fun b => decide (B b 1 = (nI p)) && qWts B (opm B n) b))] := by
                  refine r_iadd F dL_tells_474 ?_
                  refine r_istore (lv' := [(0, .ref (g.2.1 0)), (1, .ref ak), (2, .ref ap), (3, .ref am), (4, .ref al), (5, .ref aa), (6, .int (nI n)), (7, .int (opm B n)), (8, .int (cntN n (qOpn B (opm B n)))), (9, .int (cntN n (fun b => !decide (B b 4 = -1)))), (10, .int (fstN n (qWts B (opm B n)))), (11, .int (cntN n (fun b => qOpn B (opm B n) b && !decide (B b 0 = 3)))), (12, .int (mcB B n n)), (13, .int (mcM B n n)), (14, .int (bitsN (opm B n) p)), (15, .int (nI p)), (16, .int ((cntN j (fun b => decide (B b 1 = (nI p)))) + (bI (decide (B j 1 = (nI p)))))), (17, .int ((cntN j (fun b => decide (B b 1 = (nI p)) && qWts B (opm B n) b)) + (bI (decide (B j 1 = (nI p)) && qWts B (opm B n) j)))), (18, .int (cntN j (qFor B 1 (nI p)))), (19, .int (cntN j (qFor B 2 (nI p)))), (20, .int (bI (anyN j (qCls B (nI p) (opm B n))))), (21, .int (nI j))]) F (by decide) rfl dL_tells_475 ?_
                  refine r_iload F 18 rfl dL_tells_477 ?_
                  have j_501_49 : VL g X ck2 cn2 w2 501 [(0, .ref (g.2.1 0)), (1, .ref ak), (2, .ref ap), (3, .ref am), (4, .ref al), (5, .ref aa), (6, .int (nI n)), (7, .int (opm B n)), (8, .int (cntN n (qOpn B (opm B n)))), (9, .int (cntN n (fun b => !decide (B b 4 = -1)))), (10, .int (fstN n (qWts B (opm B n)))), (11, .int (cntN n (fun b => qOpn B (opm B n) b && !decide (B b 0 = 3)))), (12, .int (mcB B n n)), (13, .int (mcM B n n)), (14, .int (bitsN (opm B n) p)), (15, .int (nI p)), (16, .int ((cntN j (fun b => decide (B b 1 = (nI p)))) + (bI (decide (B j 1 = (nI p)))))), (17, .int ((cntN j (fun b => decide (B b 1 = (nI p)) && qWts B (opm B n) b)) + (bI (decide (B j 1 = (nI p)) && qWts B (opm B n) j)))), (18, .int (cntN j (qFor B 1 (nI p)))), (19, .int (cntN j (qFor B 2 (nI p)))), (20, .int (bI (anyN j (qCls B (nI p) (opm B n))))), (21, .int (nI j))] [.int (bI (qFor B 1 (nI p) j)), .int (cntN j (qFor B 1 (nI p)))] := by
                    refine r_iadd F dL_tells_501 ?_
                    refine r_istore (lv' := [(0, .ref (g.2.1 0)), (1, .ref ak), (2, .ref ap), (3, .ref am), (4, .ref al), (5, .ref aa), (6, .int (nI n)), (7, .int (opm B n)), (8, .int (cntN n (qOpn B (opm B n)))), (9, .int (cntN n (fun b => !decide (B b 4 = -1)))), (10, .int (fstN n (qWts B (opm B n)))), (11, .int (cntN n (fun b => qOpn B (opm B n) b && !decide (B b 0 = 3)))), (12, .int (mcB B n n)), (13, .int (mcM B n n)), (14, .int (bitsN (opm B n) p)), (15, .int (nI p)), (16, .int ((cntN j (fun b => decide (B b 1 = (nI p)))) + (bI (decide (B j 1 = (nI p)))))), (17, .int ((cntN j (fun b => decide (B b 1 = (nI p)) && qWts B (opm B n) b)) + (bI (decide (B j 1 = (nI p)) && qWts B (opm B n) j)))), (18, .int ((cntN j (qFor B 1 (nI p))) + (bI (qFor B 1 (nI p) j)))), (19, .int (cntN j (qFor B 2 (nI p)))), (20, .int (bI (anyN j (qCls B (nI p) (opm B n))))), (21, .int (nI j))]) F (by decide) rfl dL_tells_502 ?_
                    refine r_iload F 19 rfl dL_tells_504 ?_
                    have j_528_50 : VL g X ck2 cn2 w2 528 [(0, .ref (g.2.1 0)), (1, .ref ak), (2, .ref ap), (3, .ref am), (4, .ref al), (5, .ref aa), (6, .int (nI n)), (7, .int (opm B n)), (8, .int (cntN n (qOpn B (opm B n)))), (9, .int (cntN n (fun b => !decide (B b 4 = -1)))), (10, .int (fstN n (qWts B (opm B n)))), (11, .int (cntN n (fun b => qOpn B (opm B n) b && !decide (B b 0 = 3)))), (12, .int (mcB B n n)), (13, .int (mcM B n n)), (14, .int (bitsN (opm B n) p)), (15, .int (nI p)), (16, .int ((cntN j (fun b => decide (B b 1 = (nI p)))) + (bI (decide (B j 1 = (nI p)))))), (17, .int ((cntN j (fun b => decide (B b 1 = (nI p)) && qWts B (opm B n) b)) + (bI (decide (B j 1 = (nI p)) && qWts B (opm B n) j)))), (18, .int ((cntN j (qFor B 1 (nI p))) + (bI (qFor B 1 (nI p) j)))), (19, .int (cntN j (qFor B 2 (nI p)))), (20, .int (bI (anyN j (qCls B (nI p) (opm B n))))), (21, .int (nI j))] [.int (bI (qFor B 2 (nI p) j)), .int (cntN j (qFor B 2 (nI p)))] := by
                      refine r_iadd F dL_tells_528 ?_
                      refine r_istore (lv' := [(0, .ref (g.2.1 0)), (1, .ref ak), (2, .ref ap), (3, .ref am), (4, .ref al), (5, .ref aa), (6, .int (nI n)), (7, .int (opm B n)), (8, .int (cntN n (qOpn B (opm B n)))), (9, .int (cntN n (fun b => !decide (B b 4 = -1)))), (10, .int (fstN n (qWts B (opm B n)))), (11, .int (cntN n (fun b => qOpn B (opm B n) b && !decide (B b 0 = 3)))), (12, .int (mcB B n n)), (13, .int (mcM B n n)), (14, .int (bitsN (opm B n) p)), (15, .int (nI p)), (16, .int ((cntN j (fun b => decide (B b 1 = (nI p)))) + (bI (decide (B j 1 = (nI p)))))), (17, .int ((cntN j (fun b => decide (B b 1 = (nI p)) && qWts B (opm B n) b)) + (bI (decide (B j 1 = (nI p)) && qWts B (opm B n) j)))), (18, .int ((cntN j (qFor B 1 (nI p))) + (bI (qFor B 1 (nI p) j)))), (19, .int ((cntN j (qFor B 2 (nI p))) + (bI (qFor B 2 (nI p) j)))), (20, .int (bI (anyN j (qCls B (nI p) (opm B n))))), (21, .int (nI j))]) F (by decide) rfl dL_tells_529 ?_
                      have j_592_51 : VL g X ck2 cn2 w2 592 [(0, .ref (g.2.1 0)), (1, .ref ak), (2, .ref ap), (3, .ref am), (4, .ref al), (5, .ref aa), (6, .int (nI n)), (7, .int (opm B n)), (8, .int (cntN n (qOpn B (opm B n)))), (9, .int (cntN n (fun b => !decide (B b 4 = -1)))), (10, .int (fstN n (qWts B (opm B n)))), (11, .int (cntN n (fun b => qOpn B (opm B n) b && !decide (B b 0 = 3)))), (12, .int (mcB B n n)), (13, .int (mcM B n n)), (14, .int (bitsN (opm B n) p)), (15, .int (nI p)), (16, .int ((cntN j (fun b => decide (B b 1 = (nI p)))) + (bI (decide (B j 1 = (nI p)))))), (17, .int ((cntN j (fun b => decide (B b 1 = (nI p)) && qWts B (opm B n) b)) + (bI (decide (B j 1 = (nI p)) && qWts B (opm B n) j)))), (18, .int ((cntN j (qFor B 1 (nI p))) + (bI (qFor B 1 (nI p) j)))), (19, .int ((cntN j (qFor B 2 (nI p))) + (bI (qFor B 2 (nI p) j)))), (20, .int (bI (anyN j (qCls B (nI p) (opm B n))))), (21, .int (nI j))] [.int (bI (anyN j (qCls B (nI p) (opm B n)) || qCls B (nI p) (opm B n) j))] := by
                        refine r_istore (lv' := [(0, .ref (g.2.1 0)), (1, .ref ak), (2, .ref ap), (3, .ref am), (4, .ref al), (5, .ref aa), (6, .int (nI n)), (7, .int (opm B n)), (8, .int (cntN n (qOpn B (opm B n)))), (9, .int (cntN n (fun b => !decide (B b 4 = -1)))), (10, .int (fstN n (qWts B (opm B n)))), (11, .int (cntN n (fun b => qOpn B (opm B n) b && !decide (B b 0 = 3)))), (12, .int (mcB B n n)), (13, .int (mcM B n n)), (14, .int (bitsN (opm B n) p)), (15, .int (nI p)), (16, .int ((cntN j (fun b => decide (B b 1 = (nI p)))) + (bI (decide (B j 1 = (nI p)))))), (17, .int ((cntN j (fun b => decide (B b 1 = (nI p)) && qWts B (opm B n) b)) + (bI (decide (B j 1 = (nI p)) && qWts B (opm B n) j)))), (18, .int ((cntN j (qFor B 1 (nI p))) + (bI (qFor B 1 (nI p) j)))), (19, .int ((cntN j (qFor B 2 (nI p))) + (bI (qFor B 2 (nI p) j)))), (20, .int (bI (anyN j (qCls B (nI p) (opm B n)) || qCls B (nI p) (opm B n) j))), (21, .int (nI j))]) F (by decide) rfl dL_tells_592 ?_
                        refine r_iinc (lv' := [(0, .ref (g.2.1 0)), (1, .ref ak), (2, .ref ap), (3, .ref am), (4, .ref al), (5, .ref aa), (6, .int (nI n)), (7, .int (opm B n)), (8, .int (cntN n (qOpn B (opm B n)))), (9, .int (cntN n (fun b => !decide (B b 4 = -1)))), (10, .int (fstN n (qWts B (opm B n)))), (11, .int (cntN n (fun b => qOpn B (opm B n) b && !decide (B b 0 = 3)))), (12, .int (mcB B n n)), (13, .int (mcM B n n)), (14, .int (bitsN (opm B n) p)), (15, .int (nI p)), (16, .int ((cntN j (fun b => decide (B b 1 = (nI p)))) + (bI (decide (B j 1 = (nI p)))))), (17, .int ((cntN j (fun b => decide (B b 1 = (nI p)) && qWts B (opm B n) b)) + (bI (decide (B j 1 = (nI p)) && qWts B (opm B n) j)))), (18, .int ((cntN j (qFor B 1 (nI p))) + (bI (qFor B 1 (nI p) j)))), (19, .int ((cntN j (qFor B 2 (nI p))) + (bI (qFor B 2 (nI p) j)))), (20, .int (bI (anyN j (qCls B (nI p) (opm B n)) || qCls B (nI p) (opm B n) j))), (21, .int (nI (j + 1)))]) F 21 rfl (nI_inc _) (by decide) rfl dL_tells_594 ?_
                        refine r_goto F 410 (by decide) dL_tells_597 ?_
                        exact ih_410 (j + 1) _ _ _ _ _ _ (by omega) rfl rfl rfl rfl rfl rfl
                      refine r_iload F 20 rfl dL_tells_531 ?_
                      refine r_if_ne F 587 (by decide) dL_tells_533 (fun c_533_52 => ?_) (fun c_533_52 => ?_)
                      · skip
                        replace c_533_52 := bI1 c_533_52
                        refine r_iconst (v := 1) F (by decide) dL_tells_587 ?_
                        refine r_goto F 592 (by decide) dL_tells_588 ?_
                        refine r_eq (st2 := [.int (bI (anyN j (qCls B (nI p) (opm B n)) || qCls B (nI p) (opm B n) j))]) (congrArg (fun z_ : Int32 => ([.int z_] : List Value)) (show (1 : Int32) = bI (anyN j (qCls B (nI p) (opm B n)) || qCls B (nI p) (opm B n) j) from by simp [bI, qCls, qFor, qOpn, tld, qEmp, c_533_52])) rfl ?_
                        exact j_592_51
                      · skip
                        replace c_533_52 := bI0 c_533_52
                        refine r_aload_n F 1 rfl dL_tells_536 ?_
                        refine r_iload F 21 rfl dL_tells_537 ?_
                        refine r_ialdA F hT2.2.1 (vp_in_nI (by omega) (by decide)) dL_tells_539 ?_
                        refine r_eq (st2 := [.int (B j 0)]) (by rw [nI_clamp (by omega), eK]) rfl ?_
                        refine r_iconst (v := 2) F (by decide) dL_tells_540 ?_
                        refine r_icmp_ne F 591 (by decide) dL_tells_541 (fun c_541_53 => ?_) (fun c_541_53 => ?_)
                        · skip
                          refine r_iconst (v := 0) F (by decide) dL_tells_591 ?_
                          refine r_eq (st2 := [.int (bI (anyN j (qCls B (nI p) (opm B n)) || qCls B (nI p) (opm B n) j))]) (congrArg (fun z_ : Int32 => ([.int z_] : List Value)) (show (0 : Int32) = bI (anyN j (qCls B (nI p) (opm B n)) || qCls B (nI p) (opm B n) j) from by simp [bI, qCls, qFor, qOpn, tld, qEmp, c_533_52, c_541_53])) rfl ?_
                          exact j_592_51
                        · skip
                          refine r_aload_n F 3 rfl dL_tells_544 ?_
                          refine r_iload F 21 rfl dL_tells_545 ?_
                          refine r_ialdA F hT2.2.2.2.1 (vp_in_nI (by omega) (by decide)) dL_tells_547 ?_
                          refine r_eq (st2 := [.int (B j 2)]) (by rw [nI_clamp (by omega), eM]) rfl ?_
                          refine r_iload F 15 rfl dL_tells_548 ?_
                          refine r_icmp_ne F 591 (by decide) dL_tells_550 (fun c_550_54 => ?_) (fun c_550_54 => ?_)
                          · skip
                            refine r_iconst (v := 0) F (by decide) dL_tells_591 ?_
                            refine r_eq (st2 := [.int (bI (anyN j (qCls B (nI p) (opm B n)) || qCls B (nI p) (opm B n) j))]) (congrArg (fun z_ : Int32 => ([.int z_] : List Value)) (show (0 : Int32) = bI (anyN j (qCls B (nI p) (opm B n)) || qCls B (nI p) (opm B n) j) from by simp [bI, qCls, qFor, qOpn, tld, qEmp, c_533_52, c_541_53, c_550_54])) rfl ?_
                            exact j_592_51
                          · skip
                            refine r_aload F 5 rfl dL_tells_553 ?_
                            refine r_iload F 21 rfl dL_tells_555 ?_
                            refine r_ialdA F hT2.2.2.2.2.2 (vp_in_nI (by omega) (by decide)) dL_tells_557 ?_
                            refine r_eq (st2 := [.int (B j 4)]) (by rw [nI_clamp (by omega), eA]) rfl ?_
                            refine r_if_lt F 591 (by decide) dL_tells_558 (fun c_558_55 => ?_) (fun c_558_55 => ?_)
                            · skip
                              have e558_55 : B j 4 = -1 := an_lt (hA j hj) c_558_55
                              refine r_iconst (v := 0) F (by decide) dL_tells_591 ?_
                              refine r_eq (st2 := [.int (bI (anyN j (qCls B (nI p) (opm B n)) || qCls B (nI p) (opm B n) j))]) (congrArg (fun z_ : Int32 => ([.int z_] : List Value)) (show (0 : Int32) = bI (anyN j (qCls B (nI p) (opm B n)) || qCls B (nI p) (opm B n) j) from by simp [bI, qCls, qFor, qOpn, tld, qEmp, c_533_52, c_541_53, c_550_54, c_558_55, e558_55])) rfl ?_
                              exact j_592_51
                            · skip
                              have e558_55 : ¬ B j 4 = -1 := an_nlt c_558_55
                              refine r_aload F 5 rfl dL_tells_561 ?_
                              refine r_iload F 21 rfl dL_tells_563 ?_
                              refine r_ialdA F hT2.2.2.2.2.2 (vp_in_nI (by omega) (by decide)) dL_tells_565 ?_
                              refine r_eq (st2 := [.int (B j 4)]) (by rw [nI_clamp (by omega), eA]) rfl ?_
                              refine r_aload F 4 rfl dL_tells_566 ?_
                              refine r_iload F 21 rfl dL_tells_568 ?_
                              refine r_ialdA F hT2.2.2.2.2.1 (vp_in_nI (by omega) (by decide)) dL_tells_570 ?_
                              refine r_eq (st2 := [.int (B j 3), .int (B j 4)]) (by rw [nI_clamp (by omega), eL c_541_53]) rfl ?_
                              refine r_icmp_lt F 591 (by decide) dL_tells_571 (fun c_571_56 => ?_) (fun c_571_56 => ?_)
                              · skip
                                refine r_iconst (v := 0) F (by decide) dL_tells_591 ?_
                                refine r_eq (st2 := [.int (bI (anyN j (qCls B (nI p) (opm B n)) || qCls B (nI p) (opm B n) j))]) (congrArg (fun z_ : Int32 => ([.int z_] : List Value)) (show (0 : Int32) = bI (anyN j (qCls B (nI p) (opm B n)) || qCls B (nI p) (opm B n) j) from by simp [bI, qCls, qFor, qOpn, tld, qEmp, c_533_52, c_541_53, c_550_54, c_558_55, e558_55, c_571_56])) rfl ?_
                                exact j_592_51
                              · skip
                                refine r_iload F 7 rfl dL_tells_574 ?_
                                refine r_aload_n F 2 rfl dL_tells_576 ?_
                                refine r_iload F 21 rfl dL_tells_577 ?_
                                refine r_ialdA F hT2.2.2.1 (vp_in_nI (by omega) (by decide)) dL_tells_579 ?_
                                refine r_eq (st2 := [.int (B j 1), .int (opm B n)]) (by rw [nI_clamp (by omega), eP]) rfl ?_
                                refine r_ishr F dL_tells_580 ?_
                                refine r_iconst (v := 1) F (by decide) dL_tells_581 ?_
                                refine r_iand F dL_tells_582 ?_
                                refine r_iconst (v := 1) F (by decide) dL_tells_583 ?_
                                refine r_icmp_ne F 591 (by decide) dL_tells_584 (fun c_584_57 => ?_) (fun c_584_57 => ?_)
                                · skip
                                  refine r_iconst (v := 0) F (by decide) dL_tells_591 ?_
                                  refine r_eq (st2 := [.int (bI (anyN j (qCls B (nI p) (opm B n)) || qCls B (nI p) (opm B n) j))]) (congrArg (fun z_ : Int32 => ([.int z_] : List Value)) (show (0 : Int32) = bI (anyN j (qCls B (nI p) (opm B n)) || qCls B (nI p) (opm B n) j) from by simp [bI, qCls, qFor, qOpn, tld, qEmp, c_533_52, c_541_53, c_550_54, c_558_55, e558_55, c_571_56, c_584_57])) rfl ?_
                                  exact j_592_51
                                · skip
                                  refine r_iconst (v := 1) F (by decide) dL_tells_587 ?_
                                  refine r_goto F 592 (by decide) dL_tells_588 ?_
                                  refine r_eq (st2 := [.int (bI (anyN j (qCls B (nI p) (opm B n)) || qCls B (nI p) (opm B n) j))]) (congrArg (fun z_ : Int32 => ([.int z_] : List Value)) (show (1 : Int32) = bI (anyN j (qCls B (nI p) (opm B n)) || qCls B (nI p) (opm B n) j) from by simp [bI, qCls, qFor, qOpn, tld, qEmp, c_533_52, c_541_53, c_550_54, c_558_55, e558_55, c_571_56, c_584_57])) rfl ?_
                                  exact j_592_51
                    refine r_aload_n F 1 rfl dL_tells_506 ?_
                    refine r_iload F 21 rfl dL_tells_507 ?_
                    refine r_ialdA F hT2.2.1 (vp_in_nI (by omega) (by decide)) dL_tells_509 ?_
                    refine r_eq (st2 := [.int (B j 0), .int (cntN j (qFor B 2 (nI p)))]) (by rw [nI_clamp (by omega), eK]) rfl ?_
                    refine r_iconst (v := 2) F (by decide) dL_tells_510 ?_
                    refine r_icmp_ne F 527 (by decide) dL_tells_511 (fun c_511_58 => ?_) (fun c_511_58 => ?_)
                    · skip
                      refine r_iconst (v := 0) F (by decide) dL_tells_527 ?_
                      refine r_eq (st2 := [.int (bI (qFor B 2 (nI p) j)), .int (cntN j (qFor B 2 (nI p)))]) (congrArg (fun z_ : Int32 => ([.int z_, .int (cntN j (qFor B 2 (nI p)))] : List Value)) (show (0 : Int32) = bI (qFor B 2 (nI p) j) from by simp [bI, qFor, c_511_58])) rfl ?_
                      exact j_528_50
                    · skip
                      refine r_aload_n F 3 rfl dL_tells_514 ?_
                      refine r_iload F 21 rfl dL_tells_515 ?_
                      refine r_ialdA F hT2.2.2.2.1 (vp_in_nI (by omega) (by decide)) dL_tells_517 ?_
                      refine r_eq (st2 := [.int (B j 2), .int (cntN j (qFor B 2 (nI p)))]) (by rw [nI_clamp (by omega), eM]) rfl ?_
                      refine r_iload F 15 rfl dL_tells_518 ?_
                      refine r_icmp_ne F 527 (by decide) dL_tells_520 (fun c_520_59 => ?_) (fun c_520_59 => ?_)
                      · skip
                        refine r_iconst (v := 0) F (by decide) dL_tells_527 ?_
                        refine r_eq (st2 := [.int (bI (qFor B 2 (nI p) j)), .int (cntN j (qFor B 2 (nI p)))]) (congrArg (fun z_ : Int32 => ([.int z_, .int (cntN j (qFor B 2 (nI p)))] : List Value)) (show (0 : Int32) = bI (qFor B 2 (nI p) j) from by simp [bI, qFor, c_511_58, c_520_59])) rfl ?_
                        exact j_528_50
                      · skip
                        refine r_iconst (v := 1) F (by decide) dL_tells_523 ?_
                        refine r_goto F 528 (by decide) dL_tells_524 ?_
                        refine r_eq (st2 := [.int (bI (qFor B 2 (nI p) j)), .int (cntN j (qFor B 2 (nI p)))]) (congrArg (fun z_ : Int32 => ([.int z_, .int (cntN j (qFor B 2 (nI p)))] : List Value)) (show (1 : Int32) = bI (qFor B 2 (nI p) j) from by simp [bI, qFor, c_511_58, c_520_59])) rfl ?_
                        exact j_528_50
                  refine r_aload_n F 1 rfl dL_tells_479 ?_
                  refine r_iload F 21 rfl dL_tells_480 ?_
                  refine r_ialdA F hT2.2.1 (vp_in_nI (by omega) (by decide)) dL_tells_482 ?_
                  refine r_eq (st2 := [.int (B j 0), .int (cntN j (qFor B 1 (nI p)))]) (by rw [nI_clamp (by omega), eK]) rfl ?_
                  refine r_iconst (v := 1) F (by decide) dL_tells_483 ?_
                  refine r_icmp_ne F 500 (by decide) dL_tells_484 (fun c_484_60 => ?_) (fun c_484_60 => ?_)
                  · skip
                    refine r_iconst (v := 0) F (by decide) dL_tells_500 ?_
                    refine r_eq (st2 := [.int (bI (qFor B 1 (nI p) j)), .int (cntN j (qFor B 1 (nI p)))]) (congrArg (fun z_ : Int32 => ([.int z_, .int (cntN j (qFor B 1 (nI p)))] : List Value)) (show (0 : Int32) = bI (qFor B 1 (nI p) j) from by simp [bI, qFor, c_484_60])) rfl ?_
                    exact j_501_49
                  · skip
                    refine r_aload_n F 3 rfl dL_tells_487 ?_
                    refine r_iload F 21 rfl dL_tells_488 ?_
                    refine r_ialdA F hT2.2.2.2.1 (vp_in_nI (by omega) (by decide)) dL_tells_490 ?_
                    refine r_eq (st2 := [.int (B j 2), .int (cntN j (qFor B 1 (nI p)))]) (by rw [nI_clamp (by omega), eM]) rfl ?_
                    refine r_iload F 15 rfl dL_tells_491 ?_
                    refine r_icmp_ne F 500 (by decide) dL_tells_493 (fun c_493_61 => ?_) (fun c_493_61 => ?_)
                    · skip
                      refine r_iconst (v := 0) F (by decide) dL_tells_500 ?_
                      refine r_eq (st2 := [.int (bI (qFor B 1 (nI p) j)), .int (cntN j (qFor B 1 (nI p)))]) (congrArg (fun z_ : Int32 => ([.int z_, .int (cntN j (qFor B 1 (nI p)))] : List Value)) (show (0 : Int32) = bI (qFor B 1 (nI p) j) from by simp [bI, qFor, c_484_60, c_493_61])) rfl ?_
                      exact j_501_49
                    · skip
                      refine r_iconst (v := 1) F (by decide) dL_tells_496 ?_
                      refine r_goto F 501 (by decide) dL_tells_497 ?_
                      refine r_eq (st2 := [.int (bI (qFor B 1 (nI p) j)), .int (cntN j (qFor B 1 (nI p)))]) (congrArg (fun z_ : Int32 => ([.int z_, .int (cntN j (qFor B 1 (nI p)))] : List Value)) (show (1 : Int32) = bI (qFor B 1 (nI p) j) from by simp [bI, qFor, c_484_60, c_493_61])) rfl ?_
                      exact j_501_49
                refine r_aload_n F 2 rfl dL_tells_438 ?_
                refine r_iload F 21 rfl dL_tells_439 ?_
                refine r_ialdA F hT2.2.2.1 (vp_in_nI (by omega) (by decide)) dL_tells_441 ?_
                refine r_eq (st2 := [.int (B j 1), .int (cntN j (fun b => decide (B b 1 = (nI p)) && qWts B (opm B n) b))]) (by rw [nI_clamp (by omega), eP]) rfl ?_
                refine r_iload F 15 rfl dL_tells_442 ?_
                refine r_icmp_ne F 473 (by decide) dL_tells_444 (fun c_444_62 => ?_) (fun c_444_62 => ?_)
                · skip
                  refine r_iconst (v := 0) F (by decide) dL_tells_473 ?_
                  refine r_eq (st2 := [.int (bI (decide (B j 1 = (nI p)) && qWts B (opm B n) j)), .int (cntN j (fun b => decide (B b 1 = (nI p)) && qWts B (opm B n) b))]) (congrArg (fun z_ : Int32 => ([.int z_, .int (cntN j (fun b => decide (B b 1 = (nI p)) && qWts B (opm B n) b))] : List Value)) (show (0 : Int32) = bI (decide (B j 1 = (nI p)) && qWts B (opm B n) j) from by simp [bI, qWts, qOpn, qEmp, c_444_62])) rfl ?_
                  exact j_474_48
                · skip
                  refine r_aload_n F 1 rfl dL_tells_447 ?_
                  refine r_iload F 21 rfl dL_tells_448 ?_
                  refine r_ialdA F hT2.2.1 (vp_in_nI (by omega) (by decide)) dL_tells_450 ?_
                  refine r_eq (st2 := [.int (B j 0), .int (cntN j (fun b => decide (B b 1 = (nI p)) && qWts B (opm B n) b))]) (by rw [nI_clamp (by omega), eK]) rfl ?_
                  refine r_iconst (v := 3) F (by decide) dL_tells_451 ?_
                  refine r_icmp_ge F 473 (by decide) dL_tells_452 (fun c_452_63 => ?_) (fun c_452_63 => ?_)
                  · skip
                    have e452_63 : B j 0 = 3 := kd_ge (hw.k hj) c_452_63
                    refine r_iconst (v := 0) F (by decide) dL_tells_473 ?_
                    refine r_eq (st2 := [.int (bI (decide (B j 1 = (nI p)) && qWts B (opm B n) j)), .int (cntN j (fun b => decide (B b 1 = (nI p)) && qWts B (opm B n) b))]) (congrArg (fun z_ : Int32 => ([.int z_, .int (cntN j (fun b => decide (B b 1 = (nI p)) && qWts B (opm B n) b))] : List Value)) (show (0 : Int32) = bI (decide (B j 1 = (nI p)) && qWts B (opm B n) j) from by simp [bI, qWts, qOpn, qEmp, c_444_62, c_452_63, e452_63])) rfl ?_
                    exact j_474_48
                  · skip
                    have e452_63 : ¬ B j 0 = 3 := kd_nge c_452_63
                    refine r_aload F 5 rfl dL_tells_455 ?_
                    refine r_iload F 21 rfl dL_tells_457 ?_
                    refine r_ialdA F hT2.2.2.2.2.2 (vp_in_nI (by omega) (by decide)) dL_tells_459 ?_
                    refine r_eq (st2 := [.int (B j 4), .int (cntN j (fun b => decide (B b 1 = (nI p)) && qWts B (opm B n) b))]) (by rw [nI_clamp (by omega), eA]) rfl ?_
                    refine r_if_ge F 473 (by decide) dL_tells_460 (fun c_460_64 => ?_) (fun c_460_64 => ?_)
                    · skip
                      have e460_64 : ¬ B j 4 = -1 := an_ge c_460_64
                      refine r_iconst (v := 0) F (by decide) dL_tells_473 ?_
                      refine r_eq (st2 := [.int (bI (decide (B j 1 = (nI p)) && qWts B (opm B n) j)), .int (cntN j (fun b => decide (B b 1 = (nI p)) && qWts B (opm B n) b))]) (congrArg (fun z_ : Int32 => ([.int z_, .int (cntN j (fun b => decide (B b 1 = (nI p)) && qWts B (opm B n) b))] : List Value)) (show (0 : Int32) = bI (decide (B j 1 = (nI p)) && qWts B (opm B n) j) from by simp [bI, qWts, qOpn, qEmp, c_444_62, c_452_63, e452_63, c_460_64, e460_64])) rfl ?_
                      exact j_474_48
                    · skip
                      have e460_64 : B j 4 = -1 := an_nge (hA j hj) c_460_64
                      refine r_iload F 7 rfl dL_tells_463 ?_
                      refine r_iload F 15 rfl dL_tells_465 ?_
                      refine r_ishr F dL_tells_467 ?_
                      refine r_iconst (v := 1) F (by decide) dL_tells_468 ?_
                      refine r_iand F dL_tells_469 ?_
                      refine r_goto F 474 (by decide) dL_tells_470 ?_
                      refine r_eq (st2 := [.int (bI (decide (B j 1 = (nI p)) && qWts B (opm B n) j)), .int (cntN j (fun b => decide (B b 1 = (nI p)) && qWts B (opm B n) b))]) (congrArg (fun z_ : Int32 => ([.int z_, .int (cntN j (fun b => decide (B b 1 = (nI p)) && qWts B (opm B n) b))] : List Value)) (show (((opm B n) >>> ((nI p) &&& 31)) &&& 1 : Int32) = bI (decide (B j 1 = (nI p)) && qWts B (opm B n) j) from by rw [tld_i]; simp [qWts, qOpn, qEmp, c_444_62, c_452_63, e452_63, c_460_64, e460_64])) rfl ?_
                      exact j_474_48
              refine r_aload_n F 2 rfl dL_tells_419 ?_
              refine r_iload F 21 rfl dL_tells_420 ?_
              refine r_ialdA F hT2.2.2.1 (vp_in_nI (by omega) (by decide)) dL_tells_422 ?_
              refine r_eq (st2 := [.int (B j 1), .int (cntN j (fun b => decide (B b 1 = (nI p))))]) (by rw [nI_clamp (by omega), eP]) rfl ?_
              refine r_iload F 15 rfl dL_tells_423 ?_
              refine r_icmp_ne F 432 (by decide) dL_tells_425 (fun c_425_65 => ?_) (fun c_425_65 => ?_)
              · skip
                refine r_iconst (v := 0) F (by decide) dL_tells_432 ?_
                refine r_eq (st2 := [.int (bI (decide (B j 1 = (nI p)))), .int (cntN j (fun b => decide (B b 1 = (nI p))))]) (congrArg (fun z_ : Int32 => ([.int z_, .int (cntN j (fun b => decide (B b 1 = (nI p))))] : List Value)) (show (0 : Int32) = bI (decide (B j 1 = (nI p))) from by simp [bI, c_425_65])) rfl ?_
                exact j_433_47
              · skip
                refine r_iconst (v := 1) F (by decide) dL_tells_428 ?_
                refine r_goto F 433 (by decide) dL_tells_429 ?_
                refine r_eq (st2 := [.int (bI (decide (B j 1 = (nI p)))), .int (cntN j (fun b => decide (B b 1 = (nI p))))]) (congrArg (fun z_ : Int32 => ([.int z_, .int (cntN j (fun b => decide (B b 1 = (nI p))))] : List Value)) (show (1 : Int32) = bI (decide (B j 1 = (nI p))) from by simp [bI, c_425_65])) rfl ?_
                exact j_433_47
          exact loop_410 n 0 _ _ _ _ _ _ (by omega) rfl rfl rfl rfl rfl rfl
      exact loop_386 5 0 _ ck cn _ _ (by omega) (by omega) (by omega) hT1 rfl rfl
    | succ k ih_35 =>
      rintro j w1 ck cn x8_35 x9_35 x10_35 x11_35 x12_35 x13_35 x14_35 hkj hck hcn hT1 rfl rfl rfl rfl rfl rfl rfl
      have hj : j < n := by omega
      obtain ⟨eK, eP, eM, eL, eA⟩ := hR j hj
      refine r_iload F 14 rfl dL_tells_35 ?_
      refine r_iload F 6 rfl dL_tells_37 ?_
      refine r_icmp_ge F 380 (by decide) dL_tells_39 (fun c_39_66 => absurd c_39_66 (nI_ge (b := n) hj (by omega))) (fun _ => ?_)
      refine r_iload F 7 rfl dL_tells_42 ?_
      refine r_aload_n F 2 rfl dL_tells_44 ?_
      refine r_iload F 14 rfl dL_tells_45 ?_
      refine r_ialdA F hT1.2.2.1 (vp_in_nI (by omega) (by decide)) dL_tells_47 ?_
      refine r_eq (st2 := [.int (B j 1), .int (opm B n)]) (by rw [nI_clamp (by omega), eP]) rfl ?_
      refine r_ishr F dL_tells_48 ?_
      refine r_iconst (v := 1) F (by decide) dL_tells_49 ?_
      refine r_iand F dL_tells_50 ?_
      refine r_eq (st2 := [.int (bI (qOpn B (opm B n) j))]) (congrArg (fun z_ : Int32 => ([.int z_] : List Value)) (show (((opm B n) >>> ((B j 1) &&& 31)) &&& 1 : Int32) = bI (qOpn B (opm B n) j) from tld_i)) rfl ?_
      refine r_istore (lv' := [(0, .ref (g.2.1 0)), (1, .ref ak), (2, .ref ap), (3, .ref am), (4, .ref al), (5, .ref aa), (6, .int (nI n)), (7, .int (opm B n)), (8, .int (cntN j (qOpn B (opm B n)))), (9, .int (cntN j (fun b => !decide (B b 4 = -1)))), (10, .int (fstN j (qWts B (opm B n)))), (11, .int (cntN j (fun b => qOpn B (opm B n) b && !decide (B b 0 = 3)))), (12, .int (mcB B n j)), (13, .int (mcM B n j)), (14, .int (nI j)), (15, .int (bI (qOpn B (opm B n) j)))]) F (by decide) rfl dL_tells_51 ?_
      have j_80_67 : VL g X ck cn w1 80 [(0, .ref (g.2.1 0)), (1, .ref ak), (2, .ref ap), (3, .ref am), (4, .ref al), (5, .ref aa), (6, .int (nI n)), (7, .int (opm B n)), (8, .int (cntN j (qOpn B (opm B n)))), (9, .int (cntN j (fun b => !decide (B b 4 = -1)))), (10, .int (fstN j (qWts B (opm B n)))), (11, .int (cntN j (fun b => qOpn B (opm B n) b && !decide (B b 0 = 3)))), (12, .int (mcB B n j)), (13, .int (mcM B n j)), (14, .int (nI j)), (15, .int (bI (qOpn B (opm B n) j)))] [.int (bI (qWts B (opm B n) j))] := by
        refine r_istore (lv' := [(0, .ref (g.2.1 0)), (1, .ref ak), (2, .ref ap), (3, .ref am), (4, .ref al), (5, .ref aa), (6, .int (nI n)), (7, .int (opm B n)), (8, .int (cntN j (qOpn B (opm B n)))), (9, .int (cntN j (fun b => !decide (B b 4 = -1)))), (10, .int (fstN j (qWts B (opm B n)))), (11, .int (cntN j (fun b => qOpn B (opm B n) b && !decide (B b 0 = 3)))), (12, .int (mcB B n j)), (13, .int (mcM B n j)), (14, .int (nI j)), (15, .int (bI (qOpn B (opm B n) j))), (16, .int (bI (qWts B (opm B n) j)))]) F (by decide) rfl dL_tells_80 ?_
        refine r_aload_n F 0 rfl dL_tells_82 ?_
        refine r_iload F 14 rfl dL_tells_83 ?_
        refine r_iconst (v := 0) F (by decide) dL_tells_85 ?_
        refine r_calli (g_V (C := RX3) (T := TX3) (N := 4) (nA := 2) (As := [.int (nI j), .int 0]) (rest := []) F 0 hT1.1.1 (by decide) rfl ((c_X3_box hfl hT1.1 (x := nI j) (w := 0)).ci (fun _ _ q => exIA_n (cdBox_0 hn (by omega) (by decide)) q.1)) gL_tells_X3_box rfl (by decide +kernel) rfl ⟨Nat.le_of_ble_eq_true rfl, Nat.le_of_ble_eq_true rfl⟩ ⟨by (try dsimp only); omega, by (try dsimp only); omega⟩ rfl (Nat.le_of_ble_eq_true rfl) dL_tells_86) (fun r_68 u_68 hp_68 => ?_)
        refine r_widen (k' := ck + 2) (n' := cn + 12) (by (try dsimp only); omega) (by (try dsimp only); omega) ?_
        obtain ⟨-, er_68, hC_68, hk_68⟩ := hp_68
        rw [tb_0 (by omega)] at er_68
        subst er_68
        have hT_68 := hT1.keep hC_68 hk_68
        refine r_aload_n F 1 rfl dL_tells_89 ?_
        refine r_iload F 14 rfl dL_tells_90 ?_
        refine r_ialdA F hT_68.2.1 (vp_in_nI (by omega) (by decide)) dL_tells_92 ?_
        refine r_eq (st2 := [.int (B j 0), .int (B j 0)]) (by rw [nI_clamp (by omega), eK]) rfl ?_
        refine r_icmp_ne F 258 (by decide) dL_tells_93 (fun c_93_69 => absurd c_93_69 (fun q => q rfl)) (fun _ => ?_)
        refine r_aload_n F 0 rfl dL_tells_96 ?_
        refine r_iload F 14 rfl dL_tells_97 ?_
        refine r_iconst (v := 1) F (by decide) dL_tells_99 ?_
        refine r_calli (g_V (C := RX3) (T := TX3) (N := 4) (nA := 2) (As := [.int (nI j), .int 1]) (rest := []) F 0 hT_68.1.1 (by decide) rfl ((c_X3_box hfl hT_68.1 (x := nI j) (w := 1)).ci (fun _ _ q => exIA_n (cdBox_0 hn (by omega) (by decide)) q.1)) gL_tells_X3_box rfl (by decide +kernel) rfl ⟨Nat.le_of_ble_eq_true rfl, Nat.le_of_ble_eq_true rfl⟩ ⟨by (try dsimp only); omega, by (try dsimp only); omega⟩ rfl (Nat.le_of_ble_eq_true rfl) dL_tells_100) (fun r_70 u_70 hp_70 => ?_)
        refine r_widen (k' := ck + 4) (n' := cn + 24) (by (try dsimp only); omega) (by (try dsimp only); omega) ?_
        obtain ⟨-, er_70, hC_70, hk_70⟩ := hp_70
        rw [tb_1 (by omega)] at er_70
        subst er_70
        have hT_70 := hT_68.keep hC_70 hk_70
        refine r_aload_n F 2 rfl dL_tells_103 ?_
        refine r_iload F 14 rfl dL_tells_104 ?_
        refine r_ialdA F hT_70.2.2.1 (vp_in_nI (by omega) (by decide)) dL_tells_106 ?_
        refine r_eq (st2 := [.int (B j 1), .int (B j 1)]) (by rw [nI_clamp (by omega), eP]) rfl ?_
        refine r_icmp_ne F 258 (by decide) dL_tells_107 (fun c_107_71 => absurd c_107_71 (fun q => q rfl)) (fun _ => ?_)
        refine r_aload_n F 0 rfl dL_tells_110 ?_
        refine r_iload F 14 rfl dL_tells_111 ?_
        refine r_iconst (v := 2) F (by decide) dL_tells_113 ?_
        refine r_calli (g_V (C := RX3) (T := TX3) (N := 4) (nA := 2) (As := [.int (nI j), .int 2]) (rest := []) F 0 hT_70.1.1 (by decide) rfl ((c_X3_box hfl hT_70.1 (x := nI j) (w := 2)).ci (fun _ _ q => exIA_n (cdBox_0 hn (by omega) (by decide)) q.1)) gL_tells_X3_box rfl (by decide +kernel) rfl ⟨Nat.le_of_ble_eq_true rfl, Nat.le_of_ble_eq_true rfl⟩ ⟨by (try dsimp only); omega, by (try dsimp only); omega⟩ rfl (Nat.le_of_ble_eq_true rfl) dL_tells_114) (fun r_72 u_72 hp_72 => ?_)
        refine r_widen (k' := ck + 6) (n' := cn + 36) (by (try dsimp only); omega) (by (try dsimp only); omega) ?_
        obtain ⟨-, er_72, hC_72, hk_72⟩ := hp_72
        rw [tb_2 (by omega)] at er_72
        subst er_72
        have hT_72 := hT_70.keep hC_72 hk_72
        refine r_aload_n F 3 rfl dL_tells_117 ?_
        refine r_iload F 14 rfl dL_tells_118 ?_
        refine r_ialdA F hT_72.2.2.2.1 (vp_in_nI (by omega) (by decide)) dL_tells_120 ?_
        refine r_eq (st2 := [.int (B j 2), .int (B j 2)]) (by rw [nI_clamp (by omega), eM]) rfl ?_
        refine r_icmp_ne F 258 (by decide) dL_tells_121 (fun c_121_73 => absurd c_121_73 (fun q => q rfl)) (fun _ => ?_)
        refine r_aload_n F 0 rfl dL_tells_124 ?_
        refine r_iload F 14 rfl dL_tells_125 ?_
        refine r_iconst (v := 3) F (by decide) dL_tells_127 ?_
        refine r_calli (g_V (C := RX3) (T := TX3) (N := 4) (nA := 2) (As := [.int (nI j), .int 3]) (rest := []) F 0 hT_72.1.1 (by decide) rfl ((c_X3_box hfl hT_72.1 (x := nI j) (w := 3)).ci (fun _ _ q => exIA_n (cdBox_0 hn (by omega) (by decide)) q.1)) gL_tells_X3_box rfl (by decide +kernel) rfl ⟨Nat.le_of_ble_eq_true rfl, Nat.le_of_ble_eq_true rfl⟩ ⟨by (try dsimp only); omega, by (try dsimp only); omega⟩ rfl (Nat.le_of_ble_eq_true rfl) dL_tells_128) (fun r_74 u_74 hp_74 => ?_)
        refine r_widen (k' := ck + 8) (n' := cn + 48) (by (try dsimp only); omega) (by (try dsimp only); omega) ?_
        obtain ⟨-, er_74, hC_74, hk_74⟩ := hp_74
        rw [tb_3 (by omega)] at er_74
        subst er_74
        have hT_74 := hT_72.keep hC_74 hk_74
        have j_148_75 : VL g X (ck + 8) (cn + 48) u_74 148 [(0, .ref (g.2.1 0)), (1, .ref ak), (2, .ref ap), (3, .ref am), (4, .ref al), (5, .ref aa), (6, .int (nI n)), (7, .int (opm B n)), (8, .int (cntN j (qOpn B (opm B n)))), (9, .int (cntN j (fun b => !decide (B b 4 = -1)))), (10, .int (fstN j (qWts B (opm B n)))), (11, .int (cntN j (fun b => qOpn B (opm B n) b && !decide (B b 0 = 3)))), (12, .int (mcB B n j)), (13, .int (mcM B n j)), (14, .int (nI j)), (15, .int (bI (qOpn B (opm B n) j))), (16, .int (bI (qWts B (opm B n) j)))] [.int (B j 3), .int (B j 3)] := by
          refine r_icmp_ne F 258 (by decide) dL_tells_148 (fun c_148_76 => absurd c_148_76 (fun q => q rfl)) (fun _ => ?_)
          refine r_aload_n F 0 rfl dL_tells_151 ?_
          refine r_iload F 14 rfl dL_tells_152 ?_
          refine r_iconst (v := 4) F (by decide) dL_tells_154 ?_
          refine r_calli (g_V (C := RX3) (T := TX3) (N := 4) (nA := 2) (As := [.int (nI j), .int 4]) (rest := []) F 0 hT_74.1.1 (by decide) rfl ((c_X3_box hfl hT_74.1 (x := nI j) (w := 4)).ci (fun _ _ q => exIA_n (cdBox_0 hn (by omega) (by decide)) q.1)) gL_tells_X3_box rfl (by decide +kernel) rfl ⟨Nat.le_of_ble_eq_true rfl, Nat.le_of_ble_eq_true rfl⟩ ⟨by (try dsimp only); omega, by (try dsimp only); omega⟩ rfl (Nat.le_of_ble_eq_true rfl) dL_tells_155) (fun r_77 u_77 hp_77 => ?_)
          refine r_widen (k' := ck + 10) (n' := cn + 60) (by (try dsimp only); omega) (by (try dsimp only); omega) ?_
          obtain ⟨-, er_77, hC_77, hk_77⟩ := hp_77
          rw [tb_4 (by omega)] at er_77
          subst er_77
          have hT_77 := hT_74.keep hC_77 hk_77
          have j_175_78 : VL g X (ck + 10) (cn + 60) u_77 175 [(0, .ref (g.2.1 0)), (1, .ref ak), (2, .ref ap), (3, .ref am), (4, .ref al), (5, .ref aa), (6, .int (nI n)), (7, .int (opm B n)), (8, .int (cntN j (qOpn B (opm B n)))), (9, .int (cntN j (fun b => !decide (B b 4 = -1)))), (10, .int (fstN j (qWts B (opm B n)))), (11, .int (cntN j (fun b => qOpn B (opm B n) b && !decide (B b 0 = 3)))), (12, .int (mcB B n j)), (13, .int (mcM B n j)), (14, .int (nI j)), (15, .int (bI (qOpn B (opm B n) j))), (16, .int (bI (qWts B (opm B n) j)))] [.int (B j 4), .int (B j 4)] := by
            refine r_icmp_ne F 258 (by decide) dL_tells_175 (fun c_175_79 => absurd c_175_79 (fun q => q rfl)) (fun _ => ?_)
            refine r_aload_n F 0 rfl dL_tells_178 ?_
            refine r_iload F 14 rfl dL_tells_179 ?_
            refine r_iconst (v := 5) F (by decide) dL_tells_181 ?_
            refine r_calli (g_V (C := RX3) (T := TX3) (N := 4) (nA := 2) (As := [.int (nI j), .int 5]) (rest := []) F 0 hT_77.1.1 (by decide) rfl ((c_X3_box hfl hT_77.1 (x := nI j) (w := 5)).ci (fun _ _ q => exIA_n (cdBox_0 hn (by omega) (by decide)) q.1)) gL_tells_X3_box rfl (by decide +kernel) rfl ⟨Nat.le_of_ble_eq_true rfl, Nat.le_of_ble_eq_true rfl⟩ ⟨by (try dsimp only); omega, by (try dsimp only); omega⟩ rfl (Nat.le_of_ble_eq_true rfl) dL_tells_182) (fun r_80 u_80 hp_80 => ?_)
            refine r_widen (k' := ck + 12) (n' := cn + 72) (by (try dsimp only); omega) (by (try dsimp only); omega) ?_
            obtain ⟨-, er_80, hC_80, hk_80⟩ := hp_80
            rw [tb_5 (by omega)] at er_80
            subst er_80
            have hT_80 := hT_77.keep hC_80 hk_80
            have j_217_81 : VL g X (ck + 13) (cn + 88) u_80 217 [(0, .ref (g.2.1 0)), (1, .ref ak), (2, .ref ap), (3, .ref am), (4, .ref al), (5, .ref aa), (6, .int (nI n)), (7, .int (opm B n)), (8, .int (cntN j (qOpn B (opm B n)))), (9, .int (cntN j (fun b => !decide (B b 4 = -1)))), (10, .int (fstN j (qWts B (opm B n)))), (11, .int (cntN j (fun b => qOpn B (opm B n) b && !decide (B b 0 = 3)))), (12, .int (mcB B n j)), (13, .int (mcM B n j)), (14, .int (nI j)), (15, .int (bI (qOpn B (opm B n) j))), (16, .int (bI (qWts B (opm B n) j)))] [.int (valX B (opm B n) j), .int (valX B (opm B n) j)] := by
              refine r_icmp_ne F 258 (by decide) dL_tells_217 (fun c_217_82 => absurd c_217_82 (fun q => q rfl)) (fun _ => ?_)
              refine r_aload_n F 0 rfl dL_tells_220 ?_
              refine r_iload F 14 rfl dL_tells_221 ?_
              refine r_bipush (v := 6) F (by decide) dL_tells_223 ?_
              refine r_calli (g_V (C := RX3) (T := TX3) (N := 4) (nA := 2) (As := [.int (nI j), .int 6]) (rest := []) F 0 hT_80.1.1 (by decide) rfl ((c_X3_box hfl hT_80.1 (x := nI j) (w := 6)).ci (fun _ _ q => exIA_n (cdBox_0 hn (by omega) (by decide)) q.1)) gL_tells_X3_box rfl (by decide +kernel) rfl ⟨Nat.le_of_ble_eq_true rfl, Nat.le_of_ble_eq_true rfl⟩ ⟨by (try dsimp only); omega, by (try dsimp only); omega⟩ rfl (Nat.le_of_ble_eq_true rfl) dL_tells_225) (fun r_83 u_83 hp_83 => ?_)
              refine r_widen (k' := ck + 15) (n' := cn + 100) (by (try dsimp only); omega) (by (try dsimp only); omega) ?_
              obtain ⟨-, er_83, hC_83, hk_83⟩ := hp_83
              rw [tb_6 (by omega)] at er_83
              subst er_83
              have hT_83 := hT_80.keep hC_83 hk_83
              refine r_iload F 15 rfl dL_tells_228 ?_
              refine r_icmp_ne F 258 (by decide) dL_tells_230 (fun c_230_84 => absurd c_230_84 (fun q => q rfl)) (fun _ => ?_)
              refine r_aload_n F 0 rfl dL_tells_233 ?_
              refine r_iload F 14 rfl dL_tells_234 ?_
              refine r_bipush (v := 7) F (by decide) dL_tells_236 ?_
              refine r_calli (g_V (C := RX3) (T := TX3) (N := 4) (nA := 2) (As := [.int (nI j), .int 7]) (rest := []) F 0 hT_83.1.1 (by decide) rfl ((c_X3_box hfl hT_83.1 (x := nI j) (w := 7)).ci (fun _ _ q => exIA_n (cdBox_0 hn (by omega) (by decide)) q.1)) gL_tells_X3_box rfl (by decide +kernel) rfl ⟨Nat.le_of_ble_eq_true rfl, Nat.le_of_ble_eq_true rfl⟩ ⟨by (try dsimp only); omega, by (try dsimp only); omega⟩ rfl (Nat.le_of_ble_eq_true rfl) dL_tells_238) (fun r_85 u_85 hp_85 => ?_)
              refine r_widen (k' := ck + 17) (n' := cn + 112) (by (try dsimp only); omega) (by (try dsimp only); omega) ?_
              obtain ⟨-, er_85, hC_85, hk_85⟩ := hp_85
              rw [tb_7 (by omega)] at er_85
              subst er_85
              have hT_85 := hT_83.keep hC_85 hk_85
              have j_251_86 : VL g X (ck + 17) (cn + 112) u_85 251 [(0, .ref (g.2.1 0)), (1, .ref ak), (2, .ref ap), (3, .ref am), (4, .ref al), (5, .ref aa), (6, .int (nI n)), (7, .int (opm B n)), (8, .int (cntN j (qOpn B (opm B n)))), (9, .int (cntN j (fun b => !decide (B b 4 = -1)))), (10, .int (fstN j (qWts B (opm B n)))), (11, .int (cntN j (fun b => qOpn B (opm B n) b && !decide (B b 0 = 3)))), (12, .int (mcB B n j)), (13, .int (mcM B n j)), (14, .int (nI j)), (15, .int (bI (qOpn B (opm B n) j))), (16, .int (bI (qWts B (opm B n) j)))] [.int (bI (qWts B (opm B n) j)), .int (bI (qWts B (opm B n) j))] := by
                refine r_icmp_ne F 258 (by decide) dL_tells_251 (fun c_251_87 => absurd c_251_87 (fun q => q rfl)) (fun _ => ?_)
                refine r_iconst (v := 1) F (by decide) dL_tells_254 ?_
                refine r_goto F 259 (by decide) dL_tells_255 ?_
                refine r_istore (lv' := [(0, .ref (g.2.1 0)), (1, .ref ak), (2, .ref ap), (3, .ref am), (4, .ref al), (5, .ref aa), (6, .int (nI n)), (7, .int (opm B n)), (8, .int (cntN j (qOpn B (opm B n)))), (9, .int (cntN j (fun b => !decide (B b 4 = -1)))), (10, .int (fstN j (qWts B (opm B n)))), (11, .int (cntN j (fun b => qOpn B (opm B n) b && !decide (B b 0 = 3)))), (12, .int (mcB B n j)), (13, .int (mcM B n j)), (14, .int (nI j)), (15, .int (bI (qOpn B (opm B n) j))), (16, .int (bI (qWts B (opm B n) j))), (17, .int 1)]) F (by decide) rfl dL_tells_259 ?_
                refine r_iload F 17 rfl dL_tells_261 ?_
                refine r_if_ne F 268 (by decide) dL_tells_263 (fun _ => ?_) (fun c_263_88 => absurd c_263_88 (by decide))
                refine r_iload F 8 rfl dL_tells_268 ?_
                refine r_iload F 15 rfl dL_tells_270 ?_
                refine r_iadd F dL_tells_272 ?_
                refine r_istore (lv' := [(0, .ref (g.2.1 0)), (1, .ref ak), (2, .ref ap), (3, .ref am), (4, .ref al), (5, .ref aa), (6, .int (nI n)), (7, .int (opm B n)), (8, .int ((cntN j (qOpn B (opm B n))) + (bI (qOpn B (opm B n) j)))), (9, .int (cntN j (fun b => !decide (B b 4 = -1)))), (10, .int (fstN j (qWts B (opm B n)))), (11, .int (cntN j (fun b => qOpn B (opm B n) b && !decide (B b 0 = 3)))), (12, .int (mcB B n j)), (13, .int (mcM B n j)), (14, .int (nI j)), (15, .int (bI (qOpn B (opm B n) j))), (16, .int (bI (qWts B (opm B n) j))), (17, .int 1)]) F (by decide) rfl dL_tells_273 ?_
                refine r_iload F 9 rfl dL_tells_275 ?_
                have j_290_89 : VL g X (ck + 17) (cn + 112) u_85 290 [(0, .ref (g.2.1 0)), (1, .ref ak), (2, .ref ap), (3, .ref am), (4, .ref al), (5, .ref aa), (6, .int (nI n)), (7, .int (opm B n)), (8, .int ((cntN j (qOpn B (opm B n))) + (bI (qOpn B (opm B n) j)))), (9, .int (cntN j (fun b => !decide (B b 4 = -1)))), (10, .int (fstN j (qWts B (opm B n)))), (11, .int (cntN j (fun b => qOpn B (opm B n) b && !decide (B b 0 = 3)))), (12, .int (mcB B n j)), (13, .int (mcM B n j)), (14, .int (nI j)), (15, .int (bI (qOpn B (opm B n) j))), (16, .int (bI (qWts B (opm B n) j))), (17, .int 1)] [.int (bI (!decide (B j 4 = -1))), .int (cntN j (fun b => !decide (B b 4 = -1)))] := by
                  refine r_iadd F dL_tells_290 ?_
                  refine r_istore (lv' := [(0, .ref (g.2.1 0)), (1, .ref ak), (2, .ref ap), (3, .ref am), (4, .ref al), (5, .ref aa), (6, .int (nI n)), (7, .int (opm B n)), (8, .int ((cntN j (qOpn B (opm B n))) + (bI (qOpn B (opm B n) j)))), (9, .int ((cntN j (fun b => !decide (B b 4 = -1))) + (bI (!decide (B j 4 = -1))))), (10, .int (fstN j (qWts B (opm B n)))), (11, .int (cntN j (fun b => qOpn B (opm B n) b && !decide (B b 0 = 3)))), (12, .int (mcB B n j)), (13, .int (mcM B n j)), (14, .int (nI j)), (15, .int (bI (qOpn B (opm B n) j))), (16, .int (bI (qWts B (opm B n) j))), (17, .int 1)]) F (by decide) rfl dL_tells_291 ?_
                  have j_310_90 : VL g X (ck + 17) (cn + 112) u_85 310 [(0, .ref (g.2.1 0)), (1, .ref ak), (2, .ref ap), (3, .ref am), (4, .ref al), (5, .ref aa), (6, .int (nI n)), (7, .int (opm B n)), (8, .int ((cntN j (qOpn B (opm B n))) + (bI (qOpn B (opm B n) j)))), (9, .int ((cntN j (fun b => !decide (B b 4 = -1))) + (bI (!decide (B j 4 = -1))))), (10, .int (fstN j (qWts B (opm B n)))), (11, .int (cntN j (fun b => qOpn B (opm B n) b && !decide (B b 0 = 3)))), (12, .int (mcB B n j)), (13, .int (mcM B n j)), (14, .int (nI j)), (15, .int (bI (qOpn B (opm B n) j))), (16, .int (bI (qWts B (opm B n) j))), (17, .int 1)] [.int (fstN (j + 1) (qWts B (opm B n)))] := by
                    refine r_istore (lv' := [(0, .ref (g.2.1 0)), (1, .ref ak), (2, .ref ap), (3, .ref am), (4, .ref al), (5, .ref aa), (6, .int (nI n)), (7, .int (opm B n)), (8, .int ((cntN j (qOpn B (opm B n))) + (bI (qOpn B (opm B n) j)))), (9, .int ((cntN j (fun b => !decide (B b 4 = -1))) + (bI (!decide (B j 4 = -1))))), (10, .int (fstN (j + 1) (qWts B (opm B n)))), (11, .int (cntN j (fun b => qOpn B (opm B n) b && !decide (B b 0 = 3)))), (12, .int (mcB B n j)), (13, .int (mcM B n j)), (14, .int (nI j)), (15, .int (bI (qOpn B (opm B n) j))), (16, .int (bI (qWts B (opm B n) j))), (17, .int 1)]) F (by decide) rfl dL_tells_310 ?_
                    refine r_iload F 11 rfl dL_tells_312 ?_
                    have j_328_91 : VL g X (ck + 17) (cn + 112) u_85 328 [(0, .ref (g.2.1 0)), (1, .ref ak), (2, .ref ap), (3, .ref am), (4, .ref al), (5, .ref aa), (6, .int (nI n)), (7, .int (opm B n)), (8, .int ((cntN j (qOpn B (opm B n))) + (bI (qOpn B (opm B n) j)))), (9, .int ((cntN j (fun b => !decide (B b 4 = -1))) + (bI (!decide (B j 4 = -1))))), (10, .int (fstN (j + 1) (qWts B (opm B n)))), (11, .int (cntN j (fun b => qOpn B (opm B n) b && !decide (B b 0 = 3)))), (12, .int (mcB B n j)), (13, .int (mcM B n j)), (14, .int (nI j)), (15, .int (bI (qOpn B (opm B n) j))), (16, .int (bI (qWts B (opm B n) j))), (17, .int 1)] [.int (bI (qOpn B (opm B n) j && !decide (B j 0 = 3))), .int (cntN j (fun b => qOpn B (opm B n) b && !decide (B b 0 = 3)))] := by
                      refine r_iadd F dL_tells_328 ?_
                      refine r_istore (lv' := [(0, .ref (g.2.1 0)), (1, .ref ak), (2, .ref ap), (3, .ref am), (4, .ref al), (5, .ref aa), (6, .int (nI n)), (7, .int (opm B n)), (8, .int ((cntN j (qOpn B (opm B n))) + (bI (qOpn B (opm B n) j)))), (9, .int ((cntN j (fun b => !decide (B b 4 = -1))) + (bI (!decide (B j 4 = -1))))), (10, .int (fstN (j + 1) (qWts B (opm B n)))), (11, .int ((cntN j (fun b => qOpn B (opm B n) b && !decide (B b 0 = 3))) + (bI (qOpn B (opm B n) j && !decide (B j 0 = 3))))), (12, .int (mcB B n j)), (13, .int (mcM B n j)), (14, .int (nI j)), (15, .int (bI (qOpn B (opm B n) j))), (16, .int (bI (qWts B (opm B n) j))), (17, .int 1)]) F (by decide) rfl dL_tells_329 ?_
                      refine r_aload_n F 1 rfl dL_tells_331 ?_
                      refine r_aload_n F 3 rfl dL_tells_332 ?_
                      refine r_iload F 6 rfl dL_tells_333 ?_
                      refine r_iload F 14 rfl dL_tells_335 ?_
                      refine r_calli (g_S (nA := 4) (As := [.ref ak, .ref am, .int (nI n), .int (nI j)]) (rest := []) F (c_L_carried (b := j) hT_85.2.1 hT_85.2.2.2.1 hn hR (by omega)) gL_tells_L_carried rfl (by decide +kernel) rfl ⟨Nat.le_of_ble_eq_true rfl, Nat.le_of_ble_eq_true rfl⟩ ⟨by (try dsimp only); omega, by (try dsimp only); omega⟩ rfl (Nat.le_of_ble_eq_true rfl) dL_tells_337) (fun r_92 u_92 hp_92 => ?_)
                      refine r_widen (k' := ck + 17) (n' := cn + 112) (by (try dsimp only); omega) (by (try dsimp only); omega) ?_
                      obtain ⟨rfl, rfl⟩ := hp_92
                      refine r_eq (st2 := [.int (bitC (carN B j n))]) (congrArg (fun z_ : Int32 => ([.int z_] : List Value)) (show (crN B j n : Int32) = bitC (carN B j n) from crN_bit (by omega) n hn)) rfl ?_
                      refine r_istore (lv' := [(0, .ref (g.2.1 0)), (1, .ref ak), (2, .ref ap), (3, .ref am), (4, .ref al), (5, .ref aa), (6, .int (nI n)), (7, .int (opm B n)), (8, .int ((cntN j (qOpn B (opm B n))) + (bI (qOpn B (opm B n) j)))), (9, .int ((cntN j (fun b => !decide (B b 4 = -1))) + (bI (!decide (B j 4 = -1))))), (10, .int (fstN (j + 1) (qWts B (opm B n)))), (11, .int ((cntN j (fun b => qOpn B (opm B n) b && !decide (B b 0 = 3))) + (bI (qOpn B (opm B n) j && !decide (B j 0 = 3))))), (12, .int (mcB B n j)), (13, .int (mcM B n j)), (14, .int (nI j)), (15, .int (bI (qOpn B (opm B n) j))), (16, .int (bI (qWts B (opm B n) j))), (17, .int 1), (18, .int (bitC (carN B j n)))]) F (by decide) rfl dL_tells_340 ?_
                      have j_356_93 : VL g X (ck + 17) (cn + 112) u_85 356 [(0, .ref (g.2.1 0)), (1, .ref ak), (2, .ref ap), (3, .ref am), (4, .ref al), (5, .ref aa), (6, .int (nI n)), (7, .int (opm B n)), (8, .int ((cntN j (qOpn B (opm B n))) + (bI (qOpn B (opm B n) j)))), (9, .int ((cntN j (fun b => !decide (B b 4 = -1))) + (bI (!decide (B j 4 = -1))))), (10, .int (fstN (j + 1) (qWts B (opm B n)))), (11, .int ((cntN j (fun b => qOpn B (opm B n) b && !decide (B b 0 = 3))) + (bI (qOpn B (opm B n) j && !decide (B j 0 = 3))))), (12, .int (mcB B n j)), (13, .int (mcM B n j)), (14, .int (nI j)), (15, .int (bI (qOpn B (opm B n) j))), (16, .int (bI (qWts B (opm B n) j))), (17, .int 1), (18, .int (bitC (carN B j n)))] [.int (mcB B n (j + 1))] := by
                        refine r_istore (lv' := [(0, .ref (g.2.1 0)), (1, .ref ak), (2, .ref ap), (3, .ref am), (4, .ref al), (5, .ref aa), (6, .int (nI n)), (7, .int (opm B n)), (8, .int ((cntN j (qOpn B (opm B n))) + (bI (qOpn B (opm B n) j)))), (9, .int ((cntN j (fun b => !decide (B b 4 = -1))) + (bI (!decide (B j 4 = -1))))), (10, .int (fstN (j + 1) (qWts B (opm B n)))), (11, .int ((cntN j (fun b => qOpn B (opm B n) b && !decide (B b 0 = 3))) + (bI (qOpn B (opm B n) j && !decide (B j 0 = 3))))), (12, .int (mcB B n (j + 1))), (13, .int (mcM B n j)), (14, .int (nI j)), (15, .int (bI (qOpn B (opm B n) j))), (16, .int (bI (qWts B (opm B n) j))), (17, .int 1), (18, .int (bitC (carN B j n)))]) F (by decide) rfl dL_tells_356 ?_
                        have j_372_94 : VL g X (ck + 17) (cn + 112) u_85 372 [(0, .ref (g.2.1 0)), (1, .ref ak), (2, .ref ap), (3, .ref am), (4, .ref al), (5, .ref aa), (6, .int (nI n)), (7, .int (opm B n)), (8, .int ((cntN j (qOpn B (opm B n))) + (bI (qOpn B (opm B n) j)))), (9, .int ((cntN j (fun b => !decide (B b 4 = -1))) + (bI (!decide (B j 4 = -1))))), (10, .int (fstN (j + 1) (qWts B (opm B n)))), (11, .int ((cntN j (fun b => qOpn B (opm B n) b && !decide (B b 0 = 3))) + (bI (qOpn B (opm B n) j && !decide (B j 0 = 3))))), (12, .int (mcB B n (j + 1))), (13, .int (mcM B n j)), (14, .int (nI j)), (15, .int (bI (qOpn B (opm B n) j))), (16, .int (bI (qWts B (opm B n) j))), (17, .int 1), (18, .int (bitC (carN B j n)))] [.int (mcM B n (j + 1))] := by
                          refine r_istore (lv' := [(0, .ref (g.2.1 0)), (1, .ref ak), (2, .ref ap), (3, .ref am), (4, .ref al), (5, .ref aa), (6, .int (nI n)), (7, .int (opm B n)), (8, .int ((cntN j (qOpn B (opm B n))) + (bI (qOpn B (opm B n) j)))), (9, .int ((cntN j (fun b => !decide (B b 4 = -1))) + (bI (!decide (B j 4 = -1))))), (10, .int (fstN (j + 1) (qWts B (opm B n)))), (11, .int ((cntN j (fun b => qOpn B (opm B n) b && !decide (B b 0 = 3))) + (bI (qOpn B (opm B n) j && !decide (B j 0 = 3))))), (12, .int (mcB B n (j + 1))), (13, .int (mcM B n (j + 1))), (14, .int (nI j)), (15, .int (bI (qOpn B (opm B n) j))), (16, .int (bI (qWts B (opm B n) j))), (17, .int 1), (18, .int (bitC (carN B j n)))]) F (by decide) rfl dL_tells_372 ?_
                          refine r_iinc (lv' := [(0, .ref (g.2.1 0)), (1, .ref ak), (2, .ref ap), (3, .ref am), (4, .ref al), (5, .ref aa), (6, .int (nI n)), (7, .int (opm B n)), (8, .int ((cntN j (qOpn B (opm B n))) + (bI (qOpn B (opm B n) j)))), (9, .int ((cntN j (fun b => !decide (B b 4 = -1))) + (bI (!decide (B j 4 = -1))))), (10, .int (fstN (j + 1) (qWts B (opm B n)))), (11, .int ((cntN j (fun b => qOpn B (opm B n) b && !decide (B b 0 = 3))) + (bI (qOpn B (opm B n) j && !decide (B j 0 = 3))))), (12, .int (mcB B n (j + 1))), (13, .int (mcM B n (j + 1))), (14, .int (nI (j + 1))), (15, .int (bI (qOpn B (opm B n) j))), (16, .int (bI (qWts B (opm B n) j))), (17, .int 1), (18, .int (bitC (carN B j n)))]) F 14 rfl (nI_inc _) (by decide) rfl dL_tells_374 ?_
                          refine r_goto F 35 (by decide) dL_tells_377 ?_
                          refine r_lv (lv2 := [(0, .ref (g.2.1 0)), (1, .ref ak), (2, .ref ap), (3, .ref am), (4, .ref al), (5, .ref aa), (6, .int (nI n)), (7, .int (opm B n)), (8, .int ((cntN j (qOpn B (opm B n))) + (bI (qOpn B (opm B n) j)))), (9, .int ((cntN j (fun b => !decide (B b 4 = -1))) + (bI (!decide (B j 4 = -1))))), (10, .int (fstN (j + 1) (qWts B (opm B n)))), (11, .int ((cntN j (fun b => qOpn B (opm B n) b && !decide (B b 0 = 3))) + (bI (qOpn B (opm B n) j && !decide (B j 0 = 3))))), (12, .int (mcB B n (j + 1))), (13, .int (mcM B n (j + 1))), (14, .int (nI (j + 1)))]) (by simp) ?_
                          exact ih_35 (j + 1) _ _ _ _ _ _ _ _ _ _ (by omega) (by omega) (by omega) hT_85 rfl rfl rfl rfl rfl rfl rfl
                        refine r_iload F 18 rfl dL_tells_358 ?_
                        refine r_iload F 13 rfl dL_tells_360 ?_
                        refine r_icmp_le F 370 (by decide) dL_tells_362 (fun c_362_95 => ?_) (fun c_362_95 => ?_)
                        · skip
                          refine r_iload F 13 rfl dL_tells_370 ?_
                          refine r_eq (st2 := [.int (mcM B n (j + 1))]) (congrArg (fun z_ : Int32 => ([.int z_] : List Value)) (show (mcM B n j : Int32) = mcM B n (j + 1) from by exact mcM_0 c_362_95)) rfl ?_
                          exact j_372_94
                        · skip
                          refine r_iload F 18 rfl dL_tells_365 ?_
                          refine r_goto F 372 (by decide) dL_tells_367 ?_
                          refine r_eq (st2 := [.int (mcM B n (j + 1))]) (congrArg (fun z_ : Int32 => ([.int z_] : List Value)) (show (bitC (carN B j n) : Int32) = mcM B n (j + 1) from by exact mcM_1 c_362_95)) rfl ?_
                          exact j_372_94
                      refine r_iload F 18 rfl dL_tells_342 ?_
                      refine r_iload F 13 rfl dL_tells_344 ?_
                      refine r_icmp_le F 354 (by decide) dL_tells_346 (fun c_346_96 => ?_) (fun c_346_96 => ?_)
                      · skip
                        refine r_iload F 12 rfl dL_tells_354 ?_
                        refine r_eq (st2 := [.int (mcB B n (j + 1))]) (congrArg (fun z_ : Int32 => ([.int z_] : List Value)) (show (mcB B n j : Int32) = mcB B n (j + 1) from by exact mcB_0 c_346_96)) rfl ?_
                        exact j_356_93
                      · skip
                        refine r_iload F 14 rfl dL_tells_349 ?_
                        refine r_goto F 356 (by decide) dL_tells_351 ?_
                        refine r_eq (st2 := [.int (mcB B n (j + 1))]) (congrArg (fun z_ : Int32 => ([.int z_] : List Value)) (show (nI j : Int32) = mcB B n (j + 1) from by exact mcB_1 c_346_96)) rfl ?_
                        exact j_356_93
                    refine r_aload_n F 1 rfl dL_tells_314 ?_
                    refine r_iload F 14 rfl dL_tells_315 ?_
                    refine r_ialdA F hT_85.2.1 (vp_in_nI (by omega) (by decide)) dL_tells_317 ?_
                    refine r_eq (st2 := [.int (B j 0), .int (cntN j (fun b => qOpn B (opm B n) b && !decide (B b 0 = 3)))]) (by rw [nI_clamp (by omega), eK]) rfl ?_
                    refine r_iconst (v := 3) F (by decide) dL_tells_318 ?_
                    refine r_icmp_ge F 327 (by decide) dL_tells_319 (fun c_319_97 => ?_) (fun c_319_97 => ?_)
                    · skip
                      have e319_97 : B j 0 = 3 := kd_ge (hw.k hj) c_319_97
                      refine r_iconst (v := 0) F (by decide) dL_tells_327 ?_
                      refine r_eq (st2 := [.int (bI (qOpn B (opm B n) j && !decide (B j 0 = 3))), .int (cntN j (fun b => qOpn B (opm B n) b && !decide (B b 0 = 3)))]) (congrArg (fun z_ : Int32 => ([.int z_, .int (cntN j (fun b => qOpn B (opm B n) b && !decide (B b 0 = 3)))] : List Value)) (show (0 : Int32) = bI (qOpn B (opm B n) j && !decide (B j 0 = 3)) from by simp [bI, c_319_97, e319_97])) rfl ?_
                      exact j_328_91
                    · skip
                      have e319_97 : ¬ B j 0 = 3 := kd_nge c_319_97
                      refine r_iload F 15 rfl dL_tells_322 ?_
                      refine r_goto F 328 (by decide) dL_tells_324 ?_
                      refine r_eq (st2 := [.int (bI (qOpn B (opm B n) j && !decide (B j 0 = 3))), .int (cntN j (fun b => qOpn B (opm B n) b && !decide (B b 0 = 3)))]) (congrArg (fun z_ : Int32 => ([.int z_, .int (cntN j (fun b => qOpn B (opm B n) b && !decide (B b 0 = 3)))] : List Value)) (show (bI (qOpn B (opm B n) j) : Int32) = bI (qOpn B (opm B n) j && !decide (B j 0 = 3)) from by simp [bI, c_319_97, e319_97])) rfl ?_
                      exact j_328_91
                  refine r_iload F 16 rfl dL_tells_293 ?_
                  refine r_if_eq F 308 (by decide) dL_tells_295 (fun c_295_98 => ?_) (fun c_295_98 => ?_)
                  · skip
                    replace c_295_98 := bI0 c_295_98
                    refine r_iload F 10 rfl dL_tells_308 ?_
                    refine r_eq (st2 := [.int (fstN (j + 1) (qWts B (opm B n)))]) (congrArg (fun z_ : Int32 => ([.int z_] : List Value)) (show (fstN j (qWts B (opm B n)) : Int32) = fstN (j + 1) (qWts B (opm B n)) from by exact fst_k0 c_295_98)) rfl ?_
                    exact j_310_90
                  · skip
                    replace c_295_98 := bI1 c_295_98
                    refine r_iload F 10 rfl dL_tells_298 ?_
                    refine r_if_ge F 308 (by decide) dL_tells_300 (fun c_300_99 => ?_) (fun c_300_99 => ?_)
                    · skip
                      refine r_iload F 10 rfl dL_tells_308 ?_
                      refine r_eq (st2 := [.int (fstN (j + 1) (qWts B (opm B n)))]) (congrArg (fun z_ : Int32 => ([.int z_] : List Value)) (show (fstN j (qWts B (opm B n)) : Int32) = fstN (j + 1) (qWts B (opm B n)) from by exact fst_k1 c_300_99)) rfl ?_
                      exact j_310_90
                    · skip
                      refine r_iload F 14 rfl dL_tells_303 ?_
                      refine r_goto F 310 (by decide) dL_tells_305 ?_
                      refine r_eq (st2 := [.int (fstN (j + 1) (qWts B (opm B n)))]) (congrArg (fun z_ : Int32 => ([.int z_] : List Value)) (show (nI j : Int32) = fstN (j + 1) (qWts B (opm B n)) from by exact fst_k2 (by omega) c_295_98 c_300_99)) rfl ?_
                      exact j_310_90
                refine r_aload F 5 rfl dL_tells_277 ?_
                refine r_iload F 14 rfl dL_tells_279 ?_
                refine r_ialdA F hT_85.2.2.2.2.2 (vp_in_nI (by omega) (by decide)) dL_tells_281 ?_
                refine r_eq (st2 := [.int (B j 4), .int (cntN j (fun b => !decide (B b 4 = -1)))]) (by rw [nI_clamp (by omega), eA]) rfl ?_
                refine r_if_ge F 289 (by decide) dL_tells_282 (fun c_282_100 => ?_) (fun c_282_100 => ?_)
                · skip
                  have e282_100 : ¬ B j 4 = -1 := an_ge c_282_100
                  refine r_iconst (v := 1) F (by decide) dL_tells_289 ?_
                  refine r_eq (st2 := [.int (bI (!decide (B j 4 = -1))), .int (cntN j (fun b => !decide (B b 4 = -1)))]) (congrArg (fun z_ : Int32 => ([.int z_, .int (cntN j (fun b => !decide (B b 4 = -1)))] : List Value)) (show (1 : Int32) = bI (!decide (B j 4 = -1)) from by simp [bI, c_282_100, e282_100])) rfl ?_
                  exact j_290_89
                · skip
                  have e282_100 : B j 4 = -1 := an_nge (hA j hj) c_282_100
                  refine r_iconst (v := 0) F (by decide) dL_tells_285 ?_
                  refine r_goto F 290 (by decide) dL_tells_286 ?_
                  refine r_eq (st2 := [.int (bI (!decide (B j 4 = -1))), .int (cntN j (fun b => !decide (B b 4 = -1)))]) (congrArg (fun z_ : Int32 => ([.int z_, .int (cntN j (fun b => !decide (B b 4 = -1)))] : List Value)) (show (0 : Int32) = bI (!decide (B j 4 = -1)) from by simp [bI, c_282_100, e282_100])) rfl ?_
                  exact j_290_89
              refine r_iload F 16 rfl dL_tells_241 ?_
              refine r_if_eq F 250 (by decide) dL_tells_243 (fun c_243_101 => ?_) (fun c_243_101 => ?_)
              · skip
                replace c_243_101 := bI0 c_243_101
                refine r_iconst (v := 0) F (by decide) dL_tells_250 ?_
                refine r_eq (st2 := [.int (bI (qWts B (opm B n) j)), .int (bI (qWts B (opm B n) j))]) (congrArg (fun z_ : Int32 => ([.int z_, .int (bI (qWts B (opm B n) j))] : List Value)) (show (0 : Int32) = bI (qWts B (opm B n) j) from by simp [bI, c_243_101])) rfl ?_
                exact j_251_86
              · skip
                replace c_243_101 := bI1 c_243_101
                refine r_iconst (v := 1) F (by decide) dL_tells_246 ?_
                refine r_goto F 251 (by decide) dL_tells_247 ?_
                refine r_eq (st2 := [.int (bI (qWts B (opm B n) j)), .int (bI (qWts B (opm B n) j))]) (congrArg (fun z_ : Int32 => ([.int z_, .int (bI (qWts B (opm B n) j))] : List Value)) (show (1 : Int32) = bI (qWts B (opm B n) j) from by simp [bI, c_243_101])) rfl ?_
                exact j_251_86
            refine r_aload_n F 1 rfl dL_tells_185 ?_
            refine r_iload F 14 rfl dL_tells_186 ?_
            refine r_ialdA F hT_80.2.1 (vp_in_nI (by omega) (by decide)) dL_tells_188 ?_
            refine r_eq (st2 := [.int (B j 0), .int (valX B (opm B n) j)]) (by rw [nI_clamp (by omega), eK]) rfl ?_
            refine r_iconst (v := 1) F (by decide) dL_tells_189 ?_
            refine r_icmp_eq F 201 (by decide) dL_tells_190 (fun c_190_102 => ?_) (fun c_190_102 => ?_)
            · skip
              refine r_iconst (v := -1) F (by decide) dL_tells_201 ?_
              refine r_goto F 217 (by decide) dL_tells_202 ?_
              refine r_eq (st2 := [.int (valX B (opm B n) j), .int (valX B (opm B n) j)]) (congrArg (fun z_ : Int32 => ([.int z_, .int (valX B (opm B n) j)] : List Value)) (show ((-1) : Int32) = valX B (opm B n) j from by exact (valX_t (Or.inl c_190_102)).symm)) rfl ?_
              refine r_widen (k' := ck + 13) (n' := cn + 88) (by (try dsimp only); omega) (by (try dsimp only); omega) ?_
              exact j_217_81
            · skip
              refine r_aload_n F 1 rfl dL_tells_193 ?_
              refine r_iload F 14 rfl dL_tells_194 ?_
              refine r_ialdA F hT_80.2.1 (vp_in_nI (by omega) (by decide)) dL_tells_196 ?_
              refine r_eq (st2 := [.int (B j 0), .int (valX B (opm B n) j)]) (by rw [nI_clamp (by omega), eK]) rfl ?_
              refine r_iconst (v := 2) F (by decide) dL_tells_197 ?_
              refine r_icmp_ne F 205 (by decide) dL_tells_198 (fun c_198_103 => ?_) (fun c_198_103 => ?_)
              · skip
                refine r_aload_n F 1 rfl dL_tells_205 ?_
                refine r_aload_n F 2 rfl dL_tells_206 ?_
                refine r_aload_n F 3 rfl dL_tells_207 ?_
                refine r_aload F 5 rfl dL_tells_208 ?_
                refine r_iload F 14 rfl dL_tells_210 ?_
                refine r_iload F 7 rfl dL_tells_212 ?_
                refine r_calli (g_S (nA := 6) (As := [.ref ak, .ref ap, .ref am, .ref aa, .int (nI j), .int (opm B n)]) (rest := [.int (valX B (opm B n) j)]) F (c_L_value (mask := opm B n) (b := j) hT_80.2.1 hT_80.2.2.1 hT_80.2.2.2.1 hT_80.2.2.2.2.2 hn hR hA hw (by omega) (kd_03 (hw.k hj) c_190_102 c_198_103)) gL_tells_L_value rfl (by decide +kernel) rfl ⟨Nat.le_of_ble_eq_true rfl, Nat.le_of_ble_eq_true rfl⟩ ⟨by (try dsimp only); omega, by (try dsimp only); omega⟩ rfl (Nat.le_of_ble_eq_true rfl) dL_tells_214) (fun r_104 u_104 hp_104 => ?_)
                refine r_widen (k' := ck + 13) (n' := cn + 88) (by (try dsimp only); omega) (by (try dsimp only); omega) ?_
                obtain ⟨rfl, rfl⟩ := hp_104
                refine r_widen (k' := ck + 13) (n' := cn + 88) (by (try dsimp only); omega) (by (try dsimp only); omega) ?_
                exact j_217_81
              · skip
                refine r_iconst (v := -1) F (by decide) dL_tells_201 ?_
                refine r_goto F 217 (by decide) dL_tells_202 ?_
                refine r_eq (st2 := [.int (valX B (opm B n) j), .int (valX B (opm B n) j)]) (congrArg (fun z_ : Int32 => ([.int z_, .int (valX B (opm B n) j)] : List Value)) (show ((-1) : Int32) = valX B (opm B n) j from by exact (valX_t (Or.inr c_198_103)).symm)) rfl ?_
                refine r_widen (k' := ck + 13) (n' := cn + 88) (by (try dsimp only); omega) (by (try dsimp only); omega) ?_
                exact j_217_81
          refine r_aload F 5 rfl dL_tells_158 ?_
          refine r_iload F 14 rfl dL_tells_160 ?_
          refine r_ialdA F hT_77.2.2.2.2.2 (vp_in_nI (by omega) (by decide)) dL_tells_162 ?_
          refine r_eq (st2 := [.int (B j 4), .int (B j 4)]) (by rw [nI_clamp (by omega), eA]) rfl ?_
          refine r_if_ge F 170 (by decide) dL_tells_163 (fun c_163_105 => ?_) (fun c_163_105 => ?_)
          · skip
            have e163_105 : ¬ B j 4 = -1 := an_ge c_163_105
            refine r_aload F 5 rfl dL_tells_170 ?_
            refine r_iload F 14 rfl dL_tells_172 ?_
            refine r_ialdA F hT_77.2.2.2.2.2 (vp_in_nI (by omega) (by decide)) dL_tells_174 ?_
            refine r_eq (st2 := [.int (B j 4), .int (B j 4)]) (by rw [nI_clamp (by omega), eA]) rfl ?_
            exact j_175_78
          · skip
            have e163_105 : B j 4 = -1 := an_nge (hA j hj) c_163_105
            refine r_iconst (v := -1) F (by decide) dL_tells_166 ?_
            refine r_goto F 175 (by decide) dL_tells_167 ?_
            refine r_eq (st2 := [.int (B j 4), .int (B j 4)]) (congrArg (fun z_ : Int32 => ([.int z_, .int (B j 4)] : List Value)) (show ((-1) : Int32) = B j 4 from by exact (e163_105).symm)) rfl ?_
            exact j_175_78
        refine r_aload_n F 1 rfl dL_tells_131 ?_
        refine r_iload F 14 rfl dL_tells_132 ?_
        refine r_ialdA F hT_74.2.1 (vp_in_nI (by omega) (by decide)) dL_tells_134 ?_
        refine r_eq (st2 := [.int (B j 0), .int (B j 3)]) (by rw [nI_clamp (by omega), eK]) rfl ?_
        refine r_iconst (v := 2) F (by decide) dL_tells_135 ?_
        refine r_icmp_ne F 147 (by decide) dL_tells_136 (fun c_136_106 => ?_) (fun c_136_106 => ?_)
        · skip
          refine r_iconst (v := -1) F (by decide) dL_tells_147 ?_
          refine r_eq (st2 := [.int (B j 3), .int (B j 3)]) (congrArg (fun z_ : Int32 => ([.int z_, .int (B j 3)] : List Value)) (show ((-1) : Int32) = B j 3 from by exact (hlim j hj c_136_106).symm)) rfl ?_
          exact j_148_75
        · skip
          refine r_aload F 4 rfl dL_tells_139 ?_
          refine r_iload F 14 rfl dL_tells_141 ?_
          refine r_ialdA F hT_74.2.2.2.2.1 (vp_in_nI (by omega) (by decide)) dL_tells_143 ?_
          refine r_eq (st2 := [.int (B j 3), .int (B j 3)]) (by rw [nI_clamp (by omega), eL c_136_106]) rfl ?_
          refine r_goto F 148 (by decide) dL_tells_144 ?_
          exact j_148_75
      refine r_aload_n F 1 rfl dL_tells_53 ?_
      refine r_iload F 14 rfl dL_tells_54 ?_
      refine r_ialdA F hT1.2.1 (vp_in_nI (by omega) (by decide)) dL_tells_56 ?_
      refine r_eq (st2 := [.int (B j 0)]) (by rw [nI_clamp (by omega), eK]) rfl ?_
      refine r_iconst (v := 3) F (by decide) dL_tells_57 ?_
      refine r_icmp_ge F 79 (by decide) dL_tells_58 (fun c_58_107 => ?_) (fun c_58_107 => ?_)
      · skip
        have e58_107 : B j 0 = 3 := kd_ge (hw.k hj) c_58_107
        refine r_iconst (v := 0) F (by decide) dL_tells_79 ?_
        refine r_eq (st2 := [.int (bI (qWts B (opm B n) j))]) (congrArg (fun z_ : Int32 => ([.int z_] : List Value)) (show (0 : Int32) = bI (qWts B (opm B n) j) from by simp [bI, qWts, qEmp, c_58_107, e58_107])) rfl ?_
        exact j_80_67
      · skip
        have e58_107 : ¬ B j 0 = 3 := kd_nge c_58_107
        refine r_aload F 5 rfl dL_tells_61 ?_
        refine r_iload F 14 rfl dL_tells_63 ?_
        refine r_ialdA F hT1.2.2.2.2.2 (vp_in_nI (by omega) (by decide)) dL_tells_65 ?_
        refine r_eq (st2 := [.int (B j 4)]) (by rw [nI_clamp (by omega), eA]) rfl ?_
        refine r_if_ge F 79 (by decide) dL_tells_66 (fun c_66_108 => ?_) (fun c_66_108 => ?_)
        · skip
          have e66_108 : ¬ B j 4 = -1 := an_ge c_66_108
          refine r_iconst (v := 0) F (by decide) dL_tells_79 ?_
          refine r_eq (st2 := [.int (bI (qWts B (opm B n) j))]) (congrArg (fun z_ : Int32 => ([.int z_] : List Value)) (show (0 : Int32) = bI (qWts B (opm B n) j) from by simp [bI, qWts, qEmp, c_58_107, e58_107, c_66_108, e66_108])) rfl ?_
          exact j_80_67
        · skip
          have e66_108 : B j 4 = -1 := an_nge (hA j hj) c_66_108
          refine r_iload F 15 rfl dL_tells_69 ?_
          refine r_iconst (v := 1) F (by decide) dL_tells_71 ?_
          refine r_icmp_ne F 79 (by decide) dL_tells_72 (fun c_72_109 => ?_) (fun c_72_109 => ?_)
          · skip
            have e72_109 : qOpn B (opm B n) j = false := bI_n1 c_72_109
            refine r_iconst (v := 0) F (by decide) dL_tells_79 ?_
            refine r_eq (st2 := [.int (bI (qWts B (opm B n) j))]) (congrArg (fun z_ : Int32 => ([.int z_] : List Value)) (show (0 : Int32) = bI (qWts B (opm B n) j) from by simp [bI, qWts, qEmp, c_58_107, e58_107, c_66_108, e66_108, c_72_109, e72_109])) rfl ?_
            exact j_80_67
          · skip
            have e72_109 : qOpn B (opm B n) j = true := bI_1 c_72_109
            refine r_iconst (v := 1) F (by decide) dL_tells_75 ?_
            refine r_goto F 80 (by decide) dL_tells_76 ?_
            refine r_eq (st2 := [.int (bI (qWts B (opm B n) j))]) (congrArg (fun z_ : Int32 => ([.int z_] : List Value)) (show (1 : Int32) = bI (qWts B (opm B n) j) from by simp [bI, qWts, qEmp, c_58_107, e58_107, c_66_108, e66_108, c_72_109, e72_109])) rfl ?_
            exact j_80_67
  exact loop_35 n 0 _ 0 0 _ _ _ _ _ _ _ (by omega) (by omega) (by omega) hT rfl rfl rfl rfl rfl rfl rfl

set_option maxHeartbeats 8000000 in
set_option maxRecDepth 100000 in
theorem law_tail {g : kG} {X : kX} {bs Ls : Nat} {xs : Nat → Int32} {u : Nat → va_E} {ak ap am al aa n m t e k0 n0 : Nat} {B : kB} {S : Nat → kS} {C K P M L A : Nat → Int32}  (hfl : X.2.1.stackTraces = false) (F : Fx g X cL_law 16 (some .boolean) wsL_law RL ({ frames := 11, cells := 1200130, slots := 5501080, locals := 428 })) (T : Sx g X bs Ls xs) (hLs : Ls ≤ 260) (he : e < 60) (hk0 : k0 + 500 ≤ 1200130) (hn0 : n0 + 3000 ≤ 5501080) (hT : TW g u ak ap am al aa n B m S t C K P M L A) (ho : okB n B K P M L A) (kk : ∀ (u' : Nat → va_E), TW g u' ak ap am al aa n B m S t C K P M L A → VL g X (k0 + 500) (n0 + 3000) u' 42 [(0, .ref bs), (1, .ref (g.2.1 0)), (2, .ref ak), (3, .ref ap), (4, .ref am), (5, .ref al), (6, .ref aa), (7, .int (nI n)), (8, .int (nI (e + 1)))] []) : VL g X (k0 + 20) (n0 + 200) u 627 [(0, .ref bs), (1, .ref (g.2.1 0)), (2, .ref ak), (3, .ref ap), (4, .ref am), (5, .ref al), (6, .ref aa), (7, .int (nI n)), (8, .int (nI e)), (11, .int 1)] [] := by
  have hn : n ≤ 16 := hT.1.2.1.le
  refine r_iload F 9 rfl dL_law_627 ?_
  refine r_if_eq F 649 (by decide) dL_law_629 (fun c_629_1 => absurd c_629_1 (by decide)) (fun _ => ?_)
  refine r_aload_n F 1 rfl dL_law_632 ?_
  refine r_aload_n F 2 rfl dL_law_633 ?_
  refine r_aload_n F 3 rfl dL_law_634 ?_
  refine r_aload F 4 rfl dL_law_635 ?_
  refine r_aload F 5 rfl dL_law_637 ?_
  refine r_aload F 6 rfl dL_law_639 ?_
  refine r_iload F 7 rfl dL_law_641 ?_
  refine r_calli (g_S (nA := 7) (As := [.ref (g.2.1 0), .ref ak, .ref ap, .ref am, .ref al, .ref aa, .int (nI n)]) (rest := []) F (c_L_tells hfl hT ho.1 ho.2.1 ho.2.2.1 ho.2.2.2) gL_law_L_tells rfl (by decide +kernel) rfl ⟨Nat.le_of_ble_eq_true rfl, Nat.le_of_ble_eq_true rfl⟩ ⟨by (try dsimp only); omega, by (try dsimp only); omega⟩ rfl (Nat.le_of_ble_eq_true rfl) dL_law_643) (fun r_2 u_2 hp_2 => ?_)
  refine r_widen (k' := k0 + 360) (n' := n0 + 2400) (by (try dsimp only); omega) (by (try dsimp only); omega) ?_
  obtain ⟨rfl, hT_2⟩ := hp_2
  refine r_if_ne F 651 (by decide) dL_law_646 (fun _ => ?_) (fun c_646_3 => absurd c_646_3 (by decide))
  refine r_aload_n F 0 rfl dL_law_651 ?_
  refine r_bipush (v := 60) F (by decide) dL_law_652 ?_
  refine r_iload F 8 rfl dL_law_654 ?_
  refine r_iadd F dL_law_656 ?_
  refine r_eq (st2 := [.int (nI (60 + e)), .ref bs]) (congrArg (fun z_ : Int32 => ([.int z_, .ref bs] : List Value)) (show (60 + (nI e) : Int32) = nI (60 + e) from nI_add 60 e)) rfl ?_
  refine r_calli (g_SS (nA := 2) (As := [.ref bs, .int (nI (60 + e))]) (rest := []) F T (c_L_cell (i := 60 + e) (L := Ls) (xs := xs) (by omega) (by omega)) gL_law_L_cell rfl (by decide +kernel) rfl ⟨Nat.le_of_ble_eq_true rfl, Nat.le_of_ble_eq_true rfl⟩ ⟨by (try dsimp only); omega, by (try dsimp only); omega⟩ rfl (Nat.le_of_ble_eq_true rfl) dL_law_657) (fun r_4 u_4 hp_4 => ?_)
  refine r_widen (k' := k0 + 360) (n' := n0 + 2400) (by (try dsimp only); omega) (by (try dsimp only); omega) ?_
  obtain rfl := hp_4
  refine r_istore (lv' := [(0, .ref bs), (1, .ref (g.2.1 0)), (2, .ref ak), (3, .ref ap), (4, .ref am), (5, .ref al), (6, .ref aa), (7, .int (nI n)), (8, .int (nI e)), (11, .int 1), (12, .int r_4)]) F (by decide) rfl dL_law_660 ?_
  refine r_iload F 7 rfl dL_law_662 ?_
  refine r_if_ne F 671 (by decide) dL_law_664 (fun c_664_5 => ?_) (fun c_664_5 => ?_)
  · skip
    have hnp : 0 < n := p_0 c_664_5
    refine r_iload F 10 rfl dL_law_671 ?_
    refine r_iload F 7 rfl dL_law_673 ?_
    refine r_calli (g_S (nA := 2) (As := [.int r_4, .int (nI n)]) (rest := []) F (c_L_low (v := r_4) (w := n) hnp (by omega)) gL_law_L_low rfl (by decide +kernel) rfl ⟨Nat.le_of_ble_eq_true rfl, Nat.le_of_ble_eq_true rfl⟩ ⟨by (try dsimp only); omega, by (try dsimp only); omega⟩ rfl (Nat.le_of_ble_eq_true rfl) dL_law_675) (fun r_6 u_6 hp_6 => ?_)
    refine r_widen (k' := k0 + 360) (n' := n0 + 2400) (by (try dsimp only); omega) (by (try dsimp only); omega) ?_
    obtain ⟨⟨bx, hbx, rfl⟩, rfl⟩ := hp_6
    refine r_istore (lv' := [(0, .ref bs), (1, .ref (g.2.1 0)), (2, .ref ak), (3, .ref ap), (4, .ref am), (5, .ref al), (6, .ref aa), (7, .int (nI n)), (8, .int (nI e)), (11, .int 1), (12, .int r_4), (13, .int (nI bx))]) F (by decide) rfl dL_law_678 ?_
    refine r_iload F 7 rfl dL_law_680 ?_
    refine r_if_le F 716 (by decide) dL_law_682 (fun c_682_7 => absurd c_682_7 (nI_nle hnp (by omega))) (fun _ => ?_)
    refine r_aload_n F 1 rfl dL_law_685 ?_
    refine r_aload_n F 2 rfl dL_law_686 ?_
    refine r_aload_n F 3 rfl dL_law_687 ?_
    refine r_aload F 4 rfl dL_law_688 ?_
    refine r_aload F 5 rfl dL_law_690 ?_
    refine r_aload F 6 rfl dL_law_692 ?_
    refine r_iload F 7 rfl dL_law_694 ?_
    refine r_iload F 11 rfl dL_law_696 ?_
    refine r_aload_n F 2 rfl dL_law_698 ?_
    refine r_aload F 4 rfl dL_law_699 ?_
    refine r_iload F 11 rfl dL_law_701 ?_
    refine r_iload F 10 rfl dL_law_703 ?_
    refine r_iconst (v := 5) F (by decide) dL_law_705 ?_
    refine r_ishr F dL_law_706 ?_
    refine r_calli (g_S (nA := 4) (As := [.ref ak, .ref am, .int (nI bx), .int (r_4 >>> (5 &&& 31))]) (rest := [.int (nI bx), .int (nI n), .ref aa, .ref al, .ref am, .ref ap, .ref ak, .ref (g.2.1 0)]) F (c_L_some (h := r_4 >>> (5 &&& 31)) hT_2.2.1 hT_2.2.2.2.1 hn hbx (ho.1 bx hbx).1 (ho.1 bx hbx).2.2.1 ho.2.2.1) gL_law_L_some rfl (by decide +kernel) rfl ⟨Nat.le_of_ble_eq_true rfl, Nat.le_of_ble_eq_true rfl⟩ ⟨by (try dsimp only); omega, by (try dsimp only); omega⟩ rfl (Nat.le_of_ble_eq_true rfl) dL_law_707) (fun r_8 u_8 hp_8 => ?_)
    refine r_widen (k' := k0 + 360) (n' := n0 + 2400) (by (try dsimp only); omega) (by (try dsimp only); omega) ?_
    obtain ⟨⟨hfit, hv⟩, rfl⟩ := hp_8
    refine r_calli (g_S (nA := 9) (As := [.ref (g.2.1 0), .ref ak, .ref ap, .ref am, .ref al, .ref aa, .int (nI n), .int (nI bx), .int r_8]) (rest := []) F (c_L_wouldBe hfl hT_2 ho.1 ho.2.1 ho.2.2.1 hbx hfit hv) gL_law_L_wouldBe rfl (by decide +kernel) rfl ⟨Nat.le_of_ble_eq_true rfl, Nat.le_of_ble_eq_true rfl⟩ ⟨by (try dsimp only); omega, by (try dsimp only); omega⟩ rfl (Nat.le_of_ble_eq_true rfl) dL_law_710) (fun r_9 u_9 hp_9 => ?_)
    refine r_widen (k' := k0 + 382) (n' := n0 + 2692) (by (try dsimp only); omega) (by (try dsimp only); omega) ?_
    obtain ⟨rfl, hT_9⟩ := hp_9
    refine r_if_eq F 746 (by decide) dL_law_713 (fun c_713_10 => absurd c_713_10 (by decide)) (fun _ => ?_)
    refine r_iload F 8 rfl dL_law_716 ?_
    refine r_bipush (v := 12) F (by decide) dL_law_718 ?_
    refine r_irem (v := nI (e % 12)) F (by decide) (pk_rem (d := 12) (by omega) (by decide) (by decide)) dL_law_720 ?_
    refine r_bipush (v := 11) F (by decide) dL_law_721 ?_
    refine r_icmp_ne F 748 (by decide) dL_law_723 (fun c_723_11 => ?_) (fun c_723_11 => ?_)
    · skip
      refine r_iinc (lv' := [(0, .ref bs), (1, .ref (g.2.1 0)), (2, .ref ak), (3, .ref ap), (4, .ref am), (5, .ref al), (6, .ref aa), (7, .int (nI n)), (8, .int (nI (e + 1))), (11, .int 1), (12, .int r_4), (13, .int (nI bx))]) F 8 rfl (nI_inc _) (by decide) rfl dL_law_748 ?_
      refine r_goto F 42 (by decide) dL_law_751 ?_
      refine r_lv (lv2 := [(0, .ref bs), (1, .ref (g.2.1 0)), (2, .ref ak), (3, .ref ap), (4, .ref am), (5, .ref al), (6, .ref aa), (7, .int (nI n)), (8, .int (nI (e + 1)))]) (by simp) ?_
      refine r_widen (k' := k0 + 500) (n' := n0 + 3000) (by omega) (by omega) ?_
      exact kk _ hT_9
    · skip
      refine r_aload_n F 1 rfl dL_law_726 ?_
      refine r_calli (g_V (C := RX3) (T := TX3) (N := 4) (nA := 0) (As := []) (rest := []) F 0 hT_9.1.1 (by decide) rfl (c_X3_shortest hT_9.1) gL_law_X3_shortest rfl (by decide +kernel) rfl ⟨Nat.le_of_ble_eq_true rfl, Nat.le_of_ble_eq_true rfl⟩ ⟨by (try dsimp only); omega, by (try dsimp only); omega⟩ rfl (Nat.le_of_ble_eq_true rfl) dL_law_727) (fun r_12 u_12 hp_12 => ?_)
      refine r_widen (k' := k0 + 382) (n' := n0 + 2692) (by (try dsimp only); omega) (by (try dsimp only); omega) ?_
      obtain ⟨rfl, rfl⟩ := hp_12
      refine r_aload_n F 2 rfl dL_law_730 ?_
      refine r_aload_n F 3 rfl dL_law_731 ?_
      refine r_aload F 4 rfl dL_law_732 ?_
      refine r_aload F 5 rfl dL_law_734 ?_
      refine r_aload F 6 rfl dL_law_736 ?_
      refine r_iload F 7 rfl dL_law_738 ?_
      refine r_calli (g_S (nA := 6) (As := [.ref ak, .ref ap, .ref am, .ref al, .ref aa, .int (nI n)]) (rest := [.int (sho B n)]) F (c_L_fewest hT_9.2.1 hT_9.2.2.1 hT_9.2.2.2.1 hT_9.2.2.2.2.1 hT_9.2.2.2.2.2 hn ho.1 ho.2.1 ho.2.2.1) gL_law_L_fewest rfl (by decide +kernel) rfl ⟨Nat.le_of_ble_eq_true rfl, Nat.le_of_ble_eq_true rfl⟩ ⟨by (try dsimp only); omega, by (try dsimp only); omega⟩ rfl (Nat.le_of_ble_eq_true rfl) dL_law_740) (fun r_13 u_13 hp_13 => ?_)
      refine r_widen (k' := k0 + 384) (n' := n0 + 2725) (by (try dsimp only); omega) (by (try dsimp only); omega) ?_
      obtain ⟨rfl, rfl⟩ := hp_13
      refine r_icmp_eq F 748 (by decide) dL_law_743 (fun _ => ?_) (fun c_743_14 => absurd rfl c_743_14)
      refine r_iinc (lv' := [(0, .ref bs), (1, .ref (g.2.1 0)), (2, .ref ak), (3, .ref ap), (4, .ref am), (5, .ref al), (6, .ref aa), (7, .int (nI n)), (8, .int (nI (e + 1))), (11, .int 1), (12, .int r_4), (13, .int (nI bx))]) F 8 rfl (nI_inc _) (by decide) rfl dL_law_748 ?_
      refine r_goto F 42 (by decide) dL_law_751 ?_
      refine r_lv (lv2 := [(0, .ref bs), (1, .ref (g.2.1 0)), (2, .ref ak), (3, .ref ap), (4, .ref am), (5, .ref al), (6, .ref aa), (7, .int (nI n)), (8, .int (nI (e + 1)))]) (by simp) ?_
      refine r_widen (k' := k0 + 500) (n' := n0 + 3000) (by omega) (by omega) ?_
      exact kk _ hT_9
  · skip
    have hnz : n = 0 := p_n0 (by omega) c_664_5
    refine r_iconst (v := 0) F (by decide) dL_law_667 ?_
    refine r_goto F 678 (by decide) dL_law_668 ?_
    refine r_istore (lv' := [(0, .ref bs), (1, .ref (g.2.1 0)), (2, .ref ak), (3, .ref ap), (4, .ref am), (5, .ref al), (6, .ref aa), (7, .int (nI n)), (8, .int (nI e)), (11, .int 1), (12, .int r_4), (13, .int 0)]) F (by decide) rfl dL_law_678 ?_
    refine r_iload F 7 rfl dL_law_680 ?_
    refine r_if_le F 716 (by decide) dL_law_682 (fun _ => ?_) (fun c_682_15 => absurd (by rw [hnz]; decide) c_682_15)
    refine r_iload F 8 rfl dL_law_716 ?_
    refine r_bipush (v := 12) F (by decide) dL_law_718 ?_
    refine r_irem (v := nI (e % 12)) F (by decide) (pk_rem (d := 12) (by omega) (by decide) (by decide)) dL_law_720 ?_
    refine r_bipush (v := 11) F (by decide) dL_law_721 ?_
    refine r_icmp_ne F 748 (by decide) dL_law_723 (fun c_723_16 => ?_) (fun c_723_16 => ?_)
    · skip
      refine r_iinc (lv' := [(0, .ref bs), (1, .ref (g.2.1 0)), (2, .ref ak), (3, .ref ap), (4, .ref am), (5, .ref al), (6, .ref aa), (7, .int (nI n)), (8, .int (nI (e + 1))), (11, .int 1), (12, .int r_4), (13, .int 0)]) F 8 rfl (nI_inc _) (by decide) rfl dL_law_748 ?_
      refine r_goto F 42 (by decide) dL_law_751 ?_
      refine r_lv (lv2 := [(0, .ref bs), (1, .ref (g.2.1 0)), (2, .ref ak), (3, .ref ap), (4, .ref am), (5, .ref al), (6, .ref aa), (7, .int (nI n)), (8, .int (nI (e + 1)))]) (by simp) ?_
      refine r_widen (k' := k0 + 500) (n' := n0 + 3000) (by omega) (by omega) ?_
      exact kk _ hT_2
    · skip
      refine r_aload_n F 1 rfl dL_law_726 ?_
      refine r_calli (g_V (C := RX3) (T := TX3) (N := 4) (nA := 0) (As := []) (rest := []) F 0 hT_2.1.1 (by decide) rfl (c_X3_shortest hT_2.1) gL_law_X3_shortest rfl (by decide +kernel) rfl ⟨Nat.le_of_ble_eq_true rfl, Nat.le_of_ble_eq_true rfl⟩ ⟨by (try dsimp only); omega, by (try dsimp only); omega⟩ rfl (Nat.le_of_ble_eq_true rfl) dL_law_727) (fun r_17 u_17 hp_17 => ?_)
      refine r_widen (k' := k0 + 360) (n' := n0 + 2400) (by (try dsimp only); omega) (by (try dsimp only); omega) ?_
      obtain ⟨rfl, rfl⟩ := hp_17
      refine r_aload_n F 2 rfl dL_law_730 ?_
      refine r_aload_n F 3 rfl dL_law_731 ?_
      refine r_aload F 4 rfl dL_law_732 ?_
      refine r_aload F 5 rfl dL_law_734 ?_
      refine r_aload F 6 rfl dL_law_736 ?_
      refine r_iload F 7 rfl dL_law_738 ?_
      refine r_calli (g_S (nA := 6) (As := [.ref ak, .ref ap, .ref am, .ref al, .ref aa, .int (nI n)]) (rest := [.int (sho B n)]) F (c_L_fewest hT_2.2.1 hT_2.2.2.1 hT_2.2.2.2.1 hT_2.2.2.2.2.1 hT_2.2.2.2.2.2 hn ho.1 ho.2.1 ho.2.2.1) gL_law_L_fewest rfl (by decide +kernel) rfl ⟨Nat.le_of_ble_eq_true rfl, Nat.le_of_ble_eq_true rfl⟩ ⟨by (try dsimp only); omega, by (try dsimp only); omega⟩ rfl (Nat.le_of_ble_eq_true rfl) dL_law_740) (fun r_18 u_18 hp_18 => ?_)
      refine r_widen (k' := k0 + 362) (n' := n0 + 2433) (by (try dsimp only); omega) (by (try dsimp only); omega) ?_
      obtain ⟨rfl, rfl⟩ := hp_18
      refine r_icmp_eq F 748 (by decide) dL_law_743 (fun _ => ?_) (fun c_743_19 => absurd rfl c_743_19)
      refine r_iinc (lv' := [(0, .ref bs), (1, .ref (g.2.1 0)), (2, .ref ak), (3, .ref ap), (4, .ref am), (5, .ref al), (6, .ref aa), (7, .int (nI n)), (8, .int (nI (e + 1))), (11, .int 1), (12, .int r_4), (13, .int 0)]) F 8 rfl (nI_inc _) (by decide) rfl dL_law_748 ?_
      refine r_goto F 42 (by decide) dL_law_751 ?_
      refine r_lv (lv2 := [(0, .ref bs), (1, .ref (g.2.1 0)), (2, .ref ak), (3, .ref ap), (4, .ref am), (5, .ref al), (6, .ref aa), (7, .int (nI n)), (8, .int (nI (e + 1)))]) (by simp) ?_
      refine r_widen (k' := k0 + 500) (n' := n0 + 3000) (by omega) (by omega) ?_
      exact kk _ hT_2

set_option maxHeartbeats 4000000 in
set_option maxRecDepth 100000 in
theorem c_X3_giveAnswersOfText {g : kG} {l : Launch} {u : Nat → va_E} {n m t : Nat} {B : kB} {S : Nat → kS} {C : Nat → Int32}  (hc : CsB g u n B m S t C) (hw : Wt n B) : CI g l yX3_giveAnswersOfText wsX3_giveAnswersOfText ({ frames := 3, cells := 0, slots := 0, locals := 65 }) [.ref (g.2.1 0)] u (fun r u' => r = (filG n C t B).1 ∧ CsB g u' n (filG n C t B).2 m S t C ∧ ∀ j, 61 ≤ j → u' j = u j) := by
  refine CI.of (cc := cX3_giveAnswersOfText) (nL := 9) (ty := .int) (by decide +kernel) rfl (fun _ _ _ => rfl) (Nat.le_of_ble_eq_true rfl) ?_
  intro X hXl F hret
  subst hXl
  have hinX3 : ∀ w ∈ wsX30, w ∈ wsX3_giveAnswersOfText := by decide +kernel
  obtain ⟨nx, hN⟩ := hc.2.2.2.1
  show VL g X 0 0 u 0 [(0, .ref (g.2.1 0))] []
  refine r_iconst (v := 0) F (by decide) dX3_giveAnswersOfText_0 ?_
  refine r_istore_n (lv' := [(0, .ref (g.2.1 0)), (1, .int 0)]) F (by decide) rfl dX3_giveAnswersOfText_1 ?_
  refine r_iconst (v := 0) F (by decide) dX3_giveAnswersOfText_2 ?_
  refine r_istore_n (lv' := [(0, .ref (g.2.1 0)), (1, .int 0), (2, .int 0)]) F (by decide) rfl dX3_giveAnswersOfText_3 ?_
  refine r_iconst (v := -1) F (by decide) dX3_giveAnswersOfText_4 ?_
  refine r_istore_n (lv' := [(0, .ref (g.2.1 0)), (1, .int 0), (2, .int 0), (3, .int (-1))]) F (by decide) rfl dX3_giveAnswersOfText_5 ?_
  refine r_iconst (v := 0) F (by decide) dX3_giveAnswersOfText_6 ?_
  refine r_istore (lv' := [(0, .ref (g.2.1 0)), (1, .int 0), (2, .int 0), (3, .int (-1)), (4, .int 0)]) F (by decide) rfl dX3_giveAnswersOfText_7 ?_
  refine r_aload_n F 0 rfl dX3_giveAnswersOfText_9 ?_
  refine r_get (C := RX3) (T := TX3) (N := 4) F 0 hc.1 (by decide) hinX3 rfl 3 (by decide) (by decide +kernel) rfl dX3_giveAnswersOfText_10 ?_
  refine r_calli (g_VN (C := RX2) (T := TX2) (N := 2) (nA := 0) (As := []) (rest := []) F 59 hc.2.2.2.2.obj (by decide) rfl (c_X2_length hc.2.2.2.2 (by decide) ) gX3_giveAnswersOfText_X2_length_n92 rfl 11 rfl (by decide +kernel) (by decide +kernel) (by decide +kernel) (by decide +kernel) rfl ⟨Nat.le_of_ble_eq_true rfl, Nat.le_of_ble_eq_true rfl⟩ ⟨Nat.le_of_ble_eq_true rfl, Nat.le_of_ble_eq_true rfl⟩ rfl (Nat.le_of_ble_eq_true rfl) dX3_giveAnswersOfText_13) (fun r_1 u_1 hp_1 => ?_)
  obtain ⟨rfl, rfl⟩ := hp_1
  refine r_istore (lv' := [(0, .ref (g.2.1 0)), (1, .int 0), (2, .int 0), (3, .int (-1)), (4, .int 0), (5, .int (nI t))]) F (by decide) rfl dX3_giveAnswersOfText_16 ?_
  refine r_iconst (v := 0) F (by decide) dX3_giveAnswersOfText_18 ?_
  refine r_istore (lv' := [(0, .ref (g.2.1 0)), (1, .int 0), (2, .int 0), (3, .int (-1)), (4, .int 0), (5, .int (nI t)), (6, .int 0)]) F (by decide) rfl dX3_giveAnswersOfText_19 ?_
  have loop_21 : ∀ (k : Nat) (j : Nat) (gv bx vl : Int32) (ae : Bool) (Bx : kB) (w : Nat → va_E) (x1_21 : Int32) (x2_21 : Int32) (x3_21 : Int32) (x4_21 : Int32) (x6_21 : Int32), j + k = t + 1 → CsB g w n Bx m S t C → (∀ j, 61 ≤ j → w j = u j) → Wt n Bx → runG n C t k j gv bx vl ae Bx = filG n C t B → gv = x1_21 → bx = x2_21 → vl = x3_21 → x4_21 = bI ae → x6_21 = nI j → VL g X 0 0 w 21 [(0, .ref (g.2.1 0)), (1, .int x1_21), (2, .int x2_21), (3, .int x3_21), (4, .int x4_21), (5, .int (nI t)), (6, .int x6_21)] [] := by
    intro k
    induction k with
    | zero =>
      rintro j gv bx vl ae Bx w x1_21 x2_21 x3_21 x4_21 x6_21 hk hcx hfw hwx hrun rfl rfl rfl rfl rfl
      obtain ⟨nx_3, hN_3⟩ := hcx.2.2.2.1
      have hjn : j = t + 1 := by omega
      subst hjn
      refine r_iload F 6 rfl dX3_giveAnswersOfText_21 ?_
      refine r_iload F 5 rfl dX3_giveAnswersOfText_23 ?_
      refine r_icmp_gt F 166 (by decide) dX3_giveAnswersOfText_25 (fun c_25_4 => ?_) (fun c_25_4 => absurd (nI_lt (Nat.lt_succ_self t) (by have := hc.2.2.2.2.le; omega)) c_25_4)
      clear c_25_4
      refine r_iload_n F 1 rfl dX3_giveAnswersOfText_166 ?_
      exact hret _ _ _ _ _ _ (Nat.le_of_ble_eq_true rfl) (Nat.le_of_ble_eq_true rfl) ⟨congrArg Prod.fst hrun, (congrArg Prod.snd hrun) ▸ hcx, fun j hj => hfw j (by omega)⟩ dX3_giveAnswersOfText_167
    | succ k ih_21 =>
      rintro j gv bx vl ae Bx w x1_21 x2_21 x3_21 x4_21 x6_21 hk hcx hfw hwx hrun rfl rfl rfl rfl rfl
      obtain ⟨nx_5, hN_5⟩ := hcx.2.2.2.1
      have hjt : j ≤ t := by omega
      refine r_iload F 6 rfl dX3_giveAnswersOfText_21 ?_
      refine r_iload F 5 rfl dX3_giveAnswersOfText_23 ?_
      refine r_icmp_gt F 166 (by decide) dX3_giveAnswersOfText_25 (fun c_25_6 => absurd c_25_6 (nI_nlt hjt (by have := hc.2.2.2.2.le; omega))) (fun c_25_6 => ?_)
      clear c_25_6
      refine r_aload_n F 0 rfl dX3_giveAnswersOfText_28 ?_
      refine r_get (C := RX3) (T := TX3) (N := 4) F 0 hcx.1 (by decide) hinX3 rfl 3 (by decide) (by decide +kernel) rfl dX3_giveAnswersOfText_29 ?_
      refine r_iload F 6 rfl dX3_giveAnswersOfText_32 ?_
      refine r_calli (g_VN (C := RX2) (T := TX2) (N := 2) (nA := 1) (As := [.int (nI j)]) (rest := []) F 59 hcx.2.2.2.2.obj (by decide) rfl (c_X2_codeAt hcx.2.2.2.2 (by decide) (by have := hc.2.2.2.2.le; omega)) gX3_giveAnswersOfText_X2_codeAt_n173 rfl 39 rfl (by decide +kernel) (by decide +kernel) (by decide +kernel) (by decide +kernel) rfl ⟨Nat.le_of_ble_eq_true rfl, Nat.le_of_ble_eq_true rfl⟩ ⟨Nat.le_of_ble_eq_true rfl, Nat.le_of_ble_eq_true rfl⟩ rfl (Nat.le_of_ble_eq_true rfl) dX3_giveAnswersOfText_34) (fun r_7 u_7 hp_7 => ?_)
      obtain ⟨rfl, rfl⟩ := hp_7
      refine r_istore (lv' := [(0, .ref (g.2.1 0)), (1, .int gv), (2, .int bx), (3, .int vl), (4, .int (bI ae)), (5, .int (nI t)), (6, .int (nI j)), (7, .int (codC C t j))]) F (by decide) rfl dX3_giveAnswersOfText_37 ?_
      refine r_iload F 7 rfl dX3_giveAnswersOfText_39 ?_
      refine r_bipush (v := 44) F (by decide) dX3_giveAnswersOfText_41 ?_
      refine r_icmp_eq F 52 (by decide) dX3_giveAnswersOfText_43 (fun c_43_8 => ?_) (fun c_43_8 => ?_)
      · skip
        refine r_aload_n F 0 rfl dX3_giveAnswersOfText_52 ?_
        refine r_get (C := RX3) (T := TX3) (N := 4) F 0 hcx.1 (by decide) hinX3 rfl 0 (by decide) (by decide +kernel) rfl dX3_giveAnswersOfText_53 ?_
        refine r_iload_n F 2 rfl dX3_giveAnswersOfText_56 ?_
        refine r_calli (g_VN (C := RX0) (T := TX0) (N := 7) (nA := 1) (As := [.int bx]) (rest := []) F 1 hcx.2.1.obj (by decide) rfl (c_X0_has hcx.2.1 (by decide) ) gX3_giveAnswersOfText_X0_has_n183 rfl 43 rfl (by decide +kernel) (by decide +kernel) (by decide +kernel) (by decide +kernel) rfl ⟨Nat.le_of_ble_eq_true rfl, Nat.le_of_ble_eq_true rfl⟩ ⟨Nat.le_of_ble_eq_true rfl, Nat.le_of_ble_eq_true rfl⟩ rfl (Nat.le_of_ble_eq_true rfl) dX3_giveAnswersOfText_57) (fun r_9 u_9 hp_9 => ?_)
        obtain ⟨rfl, rfl⟩ := hp_9
        refine r_if_eq F 75 (by decide) dX3_giveAnswersOfText_60 (fun c_60_10 => ?_) (fun c_60_10 => ?_)
        · skip
          replace c_60_10 := bI0 c_60_10
          refine r_iload_n F 1 rfl dX3_giveAnswersOfText_75 ?_
          have q : (gv, Bx) = filG n C t B := by simpa [runG, c_43_8, c_60_10] using hrun
          exact hret _ _ _ _ _ _ (Nat.le_of_ble_eq_true rfl) (Nat.le_of_ble_eq_true rfl) ⟨congrArg Prod.fst q, (congrArg Prod.snd q) ▸ hcx, fun j hj => hfw j (by omega)⟩ dX3_giveAnswersOfText_76
        · skip
          replace c_60_10 := bI1 c_60_10
          obtain ⟨b, hb, eb⟩ := hasB_of (by have := hc.2.1.le; omega) c_60_10
          subst eb
          have hbc : (nI b).toNatClampNeg = b := nI_clamp (by have := hc.2.1.le; omega)
          refine r_aload_n F 0 rfl dX3_giveAnswersOfText_63 ?_
          refine r_get (C := RX3) (T := TX3) (N := 4) F 0 hcx.1 (by decide) hinX3 rfl 0 (by decide) (by decide +kernel) rfl dX3_giveAnswersOfText_64 ?_
          refine r_iload_n F 2 rfl dX3_giveAnswersOfText_67 ?_
          refine r_iload_n F 3 rfl dX3_giveAnswersOfText_68 ?_
          refine r_calli (g_VN (C := RX0) (T := TX0) (N := 7) (nA := 2) (As := [.int (nI b), .int vl]) (rest := []) F 1 hcx.2.1.obj (by decide) rfl (c_X0_fits hcx.2.1 (by decide) hb (hwx b hb)) gX3_giveAnswersOfText_X0_fits_n76 rfl 44 rfl (by decide +kernel) (by decide +kernel) (by decide +kernel) (by decide +kernel) rfl ⟨Nat.le_of_ble_eq_true rfl, Nat.le_of_ble_eq_true rfl⟩ ⟨Nat.le_of_ble_eq_true rfl, Nat.le_of_ble_eq_true rfl⟩ rfl (Nat.le_of_ble_eq_true rfl) dX3_giveAnswersOfText_69) (fun r_11 u_11 hp_11 => ?_)
          obtain ⟨rfl, rfl⟩ := hp_11
          refine r_if_ne F 77 (by decide) dX3_giveAnswersOfText_72 (fun c_72_12 => ?_) (fun c_72_12 => ?_)
          · skip
            replace c_72_12 := bI1 c_72_12
            refine r_aload_n F 0 rfl dX3_giveAnswersOfText_77 ?_
            refine r_get (C := RX3) (T := TX3) (N := 4) F 0 hcx.1 (by decide) hinX3 rfl 0 (by decide) (by decide +kernel) rfl dX3_giveAnswersOfText_78 ?_
            refine r_iload_n F 2 rfl dX3_giveAnswersOfText_81 ?_
            refine r_iload_n F 3 rfl dX3_giveAnswersOfText_82 ?_
            refine r_callv (g_VN (C := RX0) (T := TX0) (N := 7) (nA := 2) (As := [.int (nI b), .int vl]) (rest := []) F 1 hcx.2.1.obj (by decide) rfl (c_X0_give hcx.2.1 (by decide) hb) gX3_giveAnswersOfText_X0_give_n80 rfl 10 rfl (by decide +kernel) (by decide +kernel) (by decide +kernel) (by decide +kernel) rfl ⟨Nat.le_of_ble_eq_true rfl, Nat.le_of_ble_eq_true rfl⟩ ⟨Nat.le_of_ble_eq_true rfl, Nat.le_of_ble_eq_true rfl⟩ rfl (Nat.le_of_ble_eq_true rfl) dX3_giveAnswersOfText_83) (fun u_13 hp_13 => ?_)
            obtain ⟨hB_13, hk_13⟩ := hp_13
            have hc_13 := hcx.form hB_13 hk_13
            obtain ⟨nx_14, hN_14⟩ := hc_13.2.2.2.1
            refine r_iinc (lv' := [(0, .ref (g.2.1 0)), (1, .int (gv + 1)), (2, .int (nI b)), (3, .int vl), (4, .int (bI ae)), (5, .int (nI t)), (6, .int (nI j)), (7, .int (codC C t j))]) F 1 rfl rfl (by decide) rfl dX3_giveAnswersOfText_86 ?_
            refine r_iconst (v := 0) F (by decide) dX3_giveAnswersOfText_89 ?_
            refine r_istore_n (lv' := [(0, .ref (g.2.1 0)), (1, .int (gv + 1)), (2, .int 0), (3, .int vl), (4, .int (bI ae)), (5, .int (nI t)), (6, .int (nI j)), (7, .int (codC C t j))]) F (by decide) rfl dX3_giveAnswersOfText_90 ?_
            refine r_iconst (v := -1) F (by decide) dX3_giveAnswersOfText_91 ?_
            refine r_istore_n (lv' := [(0, .ref (g.2.1 0)), (1, .int (gv + 1)), (2, .int 0), (3, .int (-1)), (4, .int (bI ae)), (5, .int (nI t)), (6, .int (nI j)), (7, .int (codC C t j))]) F (by decide) rfl dX3_giveAnswersOfText_92 ?_
            refine r_iconst (v := 0) F (by decide) dX3_giveAnswersOfText_93 ?_
            refine r_istore (lv' := [(0, .ref (g.2.1 0)), (1, .int (gv + 1)), (2, .int 0), (3, .int (-1)), (4, .int 0), (5, .int (nI t)), (6, .int (nI j)), (7, .int (codC C t j))]) F (by decide) rfl dX3_giveAnswersOfText_94 ?_
            refine r_goto F 160 (by decide) dX3_giveAnswersOfText_96 ?_
            refine r_iinc (lv' := [(0, .ref (g.2.1 0)), (1, .int (gv + 1)), (2, .int 0), (3, .int (-1)), (4, .int 0), (5, .int (nI t)), (6, .int (nI (j + 1))), (7, .int (codC C t j))]) F 6 rfl (nI_inc _) (by decide) rfl dX3_giveAnswersOfText_160 ?_
            refine r_goto F 21 (by decide) dX3_giveAnswersOfText_163 ?_
            refine r_lv (lv2 := [(0, .ref (g.2.1 0)), (1, .int (gv + 1)), (2, .int 0), (3, .int (-1)), (4, .int 0), (5, .int (nI t)), (6, .int (nI (j + 1)))]) (by simp) ?_
            exact ih_21 (j + 1) (gv + 1) 0 (-1) false (bUp Bx b 4 vl) _ _ _ _ _ _ (by omega) hc_13 (fun j hj => (hk_13 j (by omega)).trans (hfw j (by omega))) hwx.up (by simpa [runG, c_43_8, c_60_10, c_72_12, hbc] using hrun) rfl rfl rfl rfl rfl
          · skip
            replace c_72_12 := bI0 c_72_12
            refine r_iload_n F 1 rfl dX3_giveAnswersOfText_75 ?_
            have q : (gv, Bx) = filG n C t B := by simpa [runG, c_43_8, c_60_10, c_72_12, hbc] using hrun
            exact hret _ _ _ _ _ _ (Nat.le_of_ble_eq_true rfl) (Nat.le_of_ble_eq_true rfl) ⟨congrArg Prod.fst q, (congrArg Prod.snd q) ▸ hcx, fun j hj => hfw j (by omega)⟩ dX3_giveAnswersOfText_76
      · skip
        refine r_iload F 7 rfl dX3_giveAnswersOfText_46 ?_
        refine r_iconst (v := -1) F (by decide) dX3_giveAnswersOfText_48 ?_
        refine r_icmp_ne F 99 (by decide) dX3_giveAnswersOfText_49 (fun c_49_15 => ?_) (fun c_49_15 => ?_)
        · skip
          refine r_iload F 7 rfl dX3_giveAnswersOfText_99 ?_
          refine r_bipush (v := 61) F (by decide) dX3_giveAnswersOfText_101 ?_
          refine r_icmp_ne F 112 (by decide) dX3_giveAnswersOfText_103 (fun c_103_16 => ?_) (fun c_103_16 => ?_)
          · skip
            refine r_iload F 7 rfl dX3_giveAnswersOfText_112 ?_
            refine r_bipush (v := 45) F (by decide) dX3_giveAnswersOfText_114 ?_
            refine r_icmp_eq F 160 (by decide) dX3_giveAnswersOfText_116 (fun c_116_17 => ?_) (fun c_116_17 => ?_)
            · skip
              refine r_iinc (lv' := [(0, .ref (g.2.1 0)), (1, .int gv), (2, .int bx), (3, .int vl), (4, .int (bI ae)), (5, .int (nI t)), (6, .int (nI (j + 1))), (7, .int (codC C t j))]) F 6 rfl (nI_inc _) (by decide) rfl dX3_giveAnswersOfText_160 ?_
              refine r_goto F 21 (by decide) dX3_giveAnswersOfText_163 ?_
              refine r_lv (lv2 := [(0, .ref (g.2.1 0)), (1, .int gv), (2, .int bx), (3, .int vl), (4, .int (bI ae)), (5, .int (nI t)), (6, .int (nI (j + 1)))]) (by simp) ?_
              exact ih_21 (j + 1) gv bx vl ae Bx _ _ _ _ _ _ (by omega) hcx (fun j hj => hfw j (by omega)) hwx (by simpa [runG, c_43_8, c_49_15, c_103_16, c_116_17] using hrun) rfl rfl rfl rfl rfl
            · skip
              refine r_iload F 7 rfl dX3_giveAnswersOfText_119 ?_
              refine r_bipush (v := 48) F (by decide) dX3_giveAnswersOfText_121 ?_
              refine r_isub F dX3_giveAnswersOfText_123 ?_
              refine r_istore (lv' := [(0, .ref (g.2.1 0)), (1, .int gv), (2, .int bx), (3, .int vl), (4, .int (bI ae)), (5, .int (nI t)), (6, .int (nI j)), (7, .int (codC C t j)), (8, .int ((codC C t j) - 48))]) F (by decide) rfl dX3_giveAnswersOfText_124 ?_
              refine r_iload F 4 rfl dX3_giveAnswersOfText_126 ?_
              refine r_if_eq F 152 (by decide) dX3_giveAnswersOfText_128 (fun c_128_18 => ?_) (fun c_128_18 => ?_)
              · skip
                replace c_128_18 := bI0 c_128_18
                refine r_iload_n F 2 rfl dX3_giveAnswersOfText_152 ?_
                refine r_bipush (v := 10) F (by decide) dX3_giveAnswersOfText_153 ?_
                refine r_imul F dX3_giveAnswersOfText_155 ?_
                refine r_iload F 8 rfl dX3_giveAnswersOfText_156 ?_
                refine r_iadd F dX3_giveAnswersOfText_158 ?_
                refine r_istore_n (lv' := [(0, .ref (g.2.1 0)), (1, .int gv), (2, .int ((bx * 10) + ((codC C t j) - 48))), (3, .int vl), (4, .int (bI ae)), (5, .int (nI t)), (6, .int (nI j)), (7, .int (codC C t j)), (8, .int ((codC C t j) - 48))]) F (by decide) rfl dX3_giveAnswersOfText_159 ?_
                refine r_iinc (lv' := [(0, .ref (g.2.1 0)), (1, .int gv), (2, .int ((bx * 10) + ((codC C t j) - 48))), (3, .int vl), (4, .int (bI ae)), (5, .int (nI t)), (6, .int (nI (j + 1))), (7, .int (codC C t j)), (8, .int ((codC C t j) - 48))]) F 6 rfl (nI_inc _) (by decide) rfl dX3_giveAnswersOfText_160 ?_
                refine r_goto F 21 (by decide) dX3_giveAnswersOfText_163 ?_
                refine r_lv (lv2 := [(0, .ref (g.2.1 0)), (1, .int gv), (2, .int ((bx * 10) + ((codC C t j) - 48))), (3, .int vl), (4, .int (bI ae)), (5, .int (nI t)), (6, .int (nI (j + 1)))]) (by simp) ?_
                exact ih_21 (j + 1) gv ((bx * 10) + ((codC C t j) - 48)) vl ae Bx _ _ _ _ _ _ (by omega) hcx (fun j hj => hfw j (by omega)) hwx (by simpa [runG, c_43_8, c_49_15, c_103_16, c_116_17, c_128_18] using hrun) rfl rfl rfl rfl rfl
              · skip
                replace c_128_18 := bI1 c_128_18
                refine r_iload_n F 3 rfl dX3_giveAnswersOfText_131 ?_
                refine r_iconst (v := -1) F (by decide) dX3_giveAnswersOfText_132 ?_
                refine r_icmp_ne F 141 (by decide) dX3_giveAnswersOfText_133 (fun c_133_19 => ?_) (fun c_133_19 => ?_)
                · skip
                  refine r_iload_n F 3 rfl dX3_giveAnswersOfText_141 ?_
                  refine r_bipush (v := 10) F (by decide) dX3_giveAnswersOfText_142 ?_
                  refine r_imul F dX3_giveAnswersOfText_144 ?_
                  refine r_iload F 8 rfl dX3_giveAnswersOfText_145 ?_
                  refine r_iadd F dX3_giveAnswersOfText_147 ?_
                  refine r_istore_n (lv' := [(0, .ref (g.2.1 0)), (1, .int gv), (2, .int bx), (3, .int ((vl * 10) + ((codC C t j) - 48))), (4, .int (bI ae)), (5, .int (nI t)), (6, .int (nI j)), (7, .int (codC C t j)), (8, .int ((codC C t j) - 48))]) F (by decide) rfl dX3_giveAnswersOfText_148 ?_
                  refine r_goto F 160 (by decide) dX3_giveAnswersOfText_149 ?_
                  refine r_iinc (lv' := [(0, .ref (g.2.1 0)), (1, .int gv), (2, .int bx), (3, .int ((vl * 10) + ((codC C t j) - 48))), (4, .int (bI ae)), (5, .int (nI t)), (6, .int (nI (j + 1))), (7, .int (codC C t j)), (8, .int ((codC C t j) - 48))]) F 6 rfl (nI_inc _) (by decide) rfl dX3_giveAnswersOfText_160 ?_
                  refine r_goto F 21 (by decide) dX3_giveAnswersOfText_163 ?_
                  refine r_lv (lv2 := [(0, .ref (g.2.1 0)), (1, .int gv), (2, .int bx), (3, .int ((vl * 10) + ((codC C t j) - 48))), (4, .int (bI ae)), (5, .int (nI t)), (6, .int (nI (j + 1)))]) (by simp) ?_
                  exact ih_21 (j + 1) gv bx ((vl * 10) + ((codC C t j) - 48)) ae Bx _ _ _ _ _ _ (by omega) hcx (fun j hj => hfw j (by omega)) hwx (by simpa [runG, c_43_8, c_49_15, c_103_16, c_116_17, c_128_18, c_133_19] using hrun) rfl rfl rfl rfl rfl
                · skip
                  refine r_iload F 8 rfl dX3_giveAnswersOfText_136 ?_
                  refine r_goto F 148 (by decide) dX3_giveAnswersOfText_138 ?_
                  refine r_istore_n (lv' := [(0, .ref (g.2.1 0)), (1, .int gv), (2, .int bx), (3, .int ((codC C t j) - 48)), (4, .int (bI ae)), (5, .int (nI t)), (6, .int (nI j)), (7, .int (codC C t j)), (8, .int ((codC C t j) - 48))]) F (by decide) rfl dX3_giveAnswersOfText_148 ?_
                  refine r_goto F 160 (by decide) dX3_giveAnswersOfText_149 ?_
                  refine r_iinc (lv' := [(0, .ref (g.2.1 0)), (1, .int gv), (2, .int bx), (3, .int ((codC C t j) - 48)), (4, .int (bI ae)), (5, .int (nI t)), (6, .int (nI (j + 1))), (7, .int (codC C t j)), (8, .int ((codC C t j) - 48))]) F 6 rfl (nI_inc _) (by decide) rfl dX3_giveAnswersOfText_160 ?_
                  refine r_goto F 21 (by decide) dX3_giveAnswersOfText_163 ?_
                  refine r_lv (lv2 := [(0, .ref (g.2.1 0)), (1, .int gv), (2, .int bx), (3, .int ((codC C t j) - 48)), (4, .int (bI ae)), (5, .int (nI t)), (6, .int (nI (j + 1)))]) (by simp) ?_
                  exact ih_21 (j + 1) gv bx ((codC C t j) - 48) ae Bx _ _ _ _ _ _ (by omega) hcx (fun j hj => hfw j (by omega)) hwx (by simpa [runG, c_43_8, c_49_15, c_103_16, c_116_17, c_128_18, c_133_19] using hrun) rfl rfl rfl rfl rfl
          · skip
            refine r_iconst (v := 1) F (by decide) dX3_giveAnswersOfText_106 ?_
            refine r_istore (lv' := [(0, .ref (g.2.1 0)), (1, .int gv), (2, .int bx), (3, .int vl), (4, .int 1), (5, .int (nI t)), (6, .int (nI j)), (7, .int (codC C t j))]) F (by decide) rfl dX3_giveAnswersOfText_107 ?_
            refine r_goto F 160 (by decide) dX3_giveAnswersOfText_109 ?_
            refine r_iinc (lv' := [(0, .ref (g.2.1 0)), (1, .int gv), (2, .int bx), (3, .int vl), (4, .int 1), (5, .int (nI t)), (6, .int (nI (j + 1))), (7, .int (codC C t j))]) F 6 rfl (nI_inc _) (by decide) rfl dX3_giveAnswersOfText_160 ?_
            refine r_goto F 21 (by decide) dX3_giveAnswersOfText_163 ?_
            refine r_lv (lv2 := [(0, .ref (g.2.1 0)), (1, .int gv), (2, .int bx), (3, .int vl), (4, .int 1), (5, .int (nI t)), (6, .int (nI (j + 1)))]) (by simp) ?_
            exact ih_21 (j + 1) gv bx vl true Bx _ _ _ _ _ _ (by omega) hcx (fun j hj => hfw j (by omega)) hwx (by simpa [runG, c_43_8, c_49_15, c_103_16] using hrun) rfl rfl rfl rfl rfl
        · skip
          refine r_aload_n F 0 rfl dX3_giveAnswersOfText_52 ?_
          refine r_get (C := RX3) (T := TX3) (N := 4) F 0 hcx.1 (by decide) hinX3 rfl 0 (by decide) (by decide +kernel) rfl dX3_giveAnswersOfText_53 ?_
          refine r_iload_n F 2 rfl dX3_giveAnswersOfText_56 ?_
          refine r_calli (g_VN (C := RX0) (T := TX0) (N := 7) (nA := 1) (As := [.int bx]) (rest := []) F 1 hcx.2.1.obj (by decide) rfl (c_X0_has hcx.2.1 (by decide) ) gX3_giveAnswersOfText_X0_has_n183 rfl 43 rfl (by decide +kernel) (by decide +kernel) (by decide +kernel) (by decide +kernel) rfl ⟨Nat.le_of_ble_eq_true rfl, Nat.le_of_ble_eq_true rfl⟩ ⟨Nat.le_of_ble_eq_true rfl, Nat.le_of_ble_eq_true rfl⟩ rfl (Nat.le_of_ble_eq_true rfl) dX3_giveAnswersOfText_57) (fun r_20 u_20 hp_20 => ?_)
          obtain ⟨rfl, rfl⟩ := hp_20
          refine r_if_eq F 75 (by decide) dX3_giveAnswersOfText_60 (fun c_60_21 => ?_) (fun c_60_21 => ?_)
          · skip
            replace c_60_21 := bI0 c_60_21
            refine r_iload_n F 1 rfl dX3_giveAnswersOfText_75 ?_
            have q : (gv, Bx) = filG n C t B := by simpa [runG, c_43_8, c_49_15, c_60_21] using hrun
            exact hret _ _ _ _ _ _ (Nat.le_of_ble_eq_true rfl) (Nat.le_of_ble_eq_true rfl) ⟨congrArg Prod.fst q, (congrArg Prod.snd q) ▸ hcx, fun j hj => hfw j (by omega)⟩ dX3_giveAnswersOfText_76
          · skip
            replace c_60_21 := bI1 c_60_21
            obtain ⟨b, hb, eb⟩ := hasB_of (by have := hc.2.1.le; omega) c_60_21
            subst eb
            have hbc : (nI b).toNatClampNeg = b := nI_clamp (by have := hc.2.1.le; omega)
            refine r_aload_n F 0 rfl dX3_giveAnswersOfText_63 ?_
            refine r_get (C := RX3) (T := TX3) (N := 4) F 0 hcx.1 (by decide) hinX3 rfl 0 (by decide) (by decide +kernel) rfl dX3_giveAnswersOfText_64 ?_
            refine r_iload_n F 2 rfl dX3_giveAnswersOfText_67 ?_
            refine r_iload_n F 3 rfl dX3_giveAnswersOfText_68 ?_
            refine r_calli (g_VN (C := RX0) (T := TX0) (N := 7) (nA := 2) (As := [.int (nI b), .int vl]) (rest := []) F 1 hcx.2.1.obj (by decide) rfl (c_X0_fits hcx.2.1 (by decide) hb (hwx b hb)) gX3_giveAnswersOfText_X0_fits_n76 rfl 44 rfl (by decide +kernel) (by decide +kernel) (by decide +kernel) (by decide +kernel) rfl ⟨Nat.le_of_ble_eq_true rfl, Nat.le_of_ble_eq_true rfl⟩ ⟨Nat.le_of_ble_eq_true rfl, Nat.le_of_ble_eq_true rfl⟩ rfl (Nat.le_of_ble_eq_true rfl) dX3_giveAnswersOfText_69) (fun r_22 u_22 hp_22 => ?_)
            obtain ⟨rfl, rfl⟩ := hp_22
            refine r_if_ne F 77 (by decide) dX3_giveAnswersOfText_72 (fun c_72_23 => ?_) (fun c_72_23 => ?_)
            · skip
              replace c_72_23 := bI1 c_72_23
              refine r_aload_n F 0 rfl dX3_giveAnswersOfText_77 ?_
              refine r_get (C := RX3) (T := TX3) (N := 4) F 0 hcx.1 (by decide) hinX3 rfl 0 (by decide) (by decide +kernel) rfl dX3_giveAnswersOfText_78 ?_
              refine r_iload_n F 2 rfl dX3_giveAnswersOfText_81 ?_
              refine r_iload_n F 3 rfl dX3_giveAnswersOfText_82 ?_
              refine r_callv (g_VN (C := RX0) (T := TX0) (N := 7) (nA := 2) (As := [.int (nI b), .int vl]) (rest := []) F 1 hcx.2.1.obj (by decide) rfl (c_X0_give hcx.2.1 (by decide) hb) gX3_giveAnswersOfText_X0_give_n80 rfl 10 rfl (by decide +kernel) (by decide +kernel) (by decide +kernel) (by decide +kernel) rfl ⟨Nat.le_of_ble_eq_true rfl, Nat.le_of_ble_eq_true rfl⟩ ⟨Nat.le_of_ble_eq_true rfl, Nat.le_of_ble_eq_true rfl⟩ rfl (Nat.le_of_ble_eq_true rfl) dX3_giveAnswersOfText_83) (fun u_24 hp_24 => ?_)
              obtain ⟨hB_24, hk_24⟩ := hp_24
              have hc_24 := hcx.form hB_24 hk_24
              obtain ⟨nx_25, hN_25⟩ := hc_24.2.2.2.1
              refine r_iinc (lv' := [(0, .ref (g.2.1 0)), (1, .int (gv + 1)), (2, .int (nI b)), (3, .int vl), (4, .int (bI ae)), (5, .int (nI t)), (6, .int (nI j)), (7, .int (codC C t j))]) F 1 rfl rfl (by decide) rfl dX3_giveAnswersOfText_86 ?_
              refine r_iconst (v := 0) F (by decide) dX3_giveAnswersOfText_89 ?_
              refine r_istore_n (lv' := [(0, .ref (g.2.1 0)), (1, .int (gv + 1)), (2, .int 0), (3, .int vl), (4, .int (bI ae)), (5, .int (nI t)), (6, .int (nI j)), (7, .int (codC C t j))]) F (by decide) rfl dX3_giveAnswersOfText_90 ?_
              refine r_iconst (v := -1) F (by decide) dX3_giveAnswersOfText_91 ?_
              refine r_istore_n (lv' := [(0, .ref (g.2.1 0)), (1, .int (gv + 1)), (2, .int 0), (3, .int (-1)), (4, .int (bI ae)), (5, .int (nI t)), (6, .int (nI j)), (7, .int (codC C t j))]) F (by decide) rfl dX3_giveAnswersOfText_92 ?_
              refine r_iconst (v := 0) F (by decide) dX3_giveAnswersOfText_93 ?_
              refine r_istore (lv' := [(0, .ref (g.2.1 0)), (1, .int (gv + 1)), (2, .int 0), (3, .int (-1)), (4, .int 0), (5, .int (nI t)), (6, .int (nI j)), (7, .int (codC C t j))]) F (by decide) rfl dX3_giveAnswersOfText_94 ?_
              refine r_goto F 160 (by decide) dX3_giveAnswersOfText_96 ?_
              refine r_iinc (lv' := [(0, .ref (g.2.1 0)), (1, .int (gv + 1)), (2, .int 0), (3, .int (-1)), (4, .int 0), (5, .int (nI t)), (6, .int (nI (j + 1))), (7, .int (codC C t j))]) F 6 rfl (nI_inc _) (by decide) rfl dX3_giveAnswersOfText_160 ?_
              refine r_goto F 21 (by decide) dX3_giveAnswersOfText_163 ?_
              refine r_lv (lv2 := [(0, .ref (g.2.1 0)), (1, .int (gv + 1)), (2, .int 0), (3, .int (-1)), (4, .int 0), (5, .int (nI t)), (6, .int (nI (j + 1)))]) (by simp) ?_
              exact ih_21 (j + 1) (gv + 1) 0 (-1) false (bUp Bx b 4 vl) _ _ _ _ _ _ (by omega) hc_24 (fun j hj => (hk_24 j (by omega)).trans (hfw j (by omega))) hwx.up (by simpa [runG, c_43_8, c_49_15, c_60_21, c_72_23, hbc] using hrun) rfl rfl rfl rfl rfl
            · skip
              replace c_72_23 := bI0 c_72_23
              refine r_iload_n F 1 rfl dX3_giveAnswersOfText_75 ?_
              have q : (gv, Bx) = filG n C t B := by simpa [runG, c_43_8, c_49_15, c_60_21, c_72_23, hbc] using hrun
              exact hret _ _ _ _ _ _ (Nat.le_of_ble_eq_true rfl) (Nat.le_of_ble_eq_true rfl) ⟨congrArg Prod.fst q, (congrArg Prod.snd q) ▸ hcx, fun j hj => hfw j (by omega)⟩ dX3_giveAnswersOfText_76
  exact loop_21 (t + 1) 0 0 0 (-1) false B u _ _ _ _ _ (by omega) hc (fun j _ => rfl) hw rfl rfl rfl rfl rfl rfl
set_option maxHeartbeats 4000000 in
set_option maxRecDepth 100000 in
theorem c_X3_fill {g : kG} {l : Launch} (hfl : l.stackTraces = false) {u : Nat → va_E} {n m t : Nat} {B : kB} {S : Nat → kS} {C : Nat → Int32}  (hc : CsB g u n B m S t C) (hw : Wt n B) : XCI g l yX3_fill wsX3_fill ({ frames := 7, cells := 1, slots := 6, locals := 110 }) [.ref (g.2.1 0)] u (fun r u' => cmpC C t = true ∧ r = (filG n C t B).1 ∧ CsB g u' n (filG n C t B).2 (pushM m) (pushS m S (n, B)) 0 C ∧ ∀ j, 61 ≤ j → u' j = u j) (fun E u' => E = xA ∧ u' = u ∧ cmpC C t = false) := by
  refine XCI.of (cc := cX3_fill) (nL := 2) (ty := .int) hfl (by decide +kernel) rfl (fun _ _ _ => rfl) (Nat.le_of_ble_eq_true rfl) ?_
  intro X hXl F Gq hret
  subst hXl
  have hinX3 : ∀ w ∈ wsX30, w ∈ wsX3_fill := by decide +kernel
  obtain ⟨nx, hN⟩ := hc.2.2.2.1
  show VL g X 0 0 u 0 [(0, .ref (g.2.1 0))] []
  refine r_aload_n F 0 rfl dX3_fill_0 ?_
  refine r_get (C := RX3) (T := TX3) (N := 4) F 0 hc.1 (by decide) hinX3 rfl 3 (by decide) (by decide +kernel) rfl dX3_fill_1 ?_
  refine r_calli (g_VN (C := RX2) (T := TX2) (N := 2) (nA := 0) (As := []) (rest := []) F 59 hc.2.2.2.2.obj (by decide) rfl (c_X2_isComplete hc.2.2.2.2 (by decide) ) gX3_fill_X2_isComplete_n104 rfl 48 rfl (by decide +kernel) (by decide +kernel) (by decide +kernel) (by decide +kernel) rfl ⟨Nat.le_of_ble_eq_true rfl, Nat.le_of_ble_eq_true rfl⟩ ⟨Nat.le_of_ble_eq_true rfl, Nat.le_of_ble_eq_true rfl⟩ rfl (Nat.le_of_ble_eq_true rfl) dX3_fill_4) (fun r_1 u_1 hp_1 => ?_)
  obtain ⟨rfl, rfl⟩ := hp_1
  refine r_xcallv F Gq (g_XS (nA := 1) (As := [.int (bI (cmpC C t))]) (rest := []) F (c_X3_needArgument hfl (b := (cmpC C t))) gX3_fill_X3_needArgument rfl (by decide +kernel) rfl ⟨Nat.le_of_ble_eq_true rfl, Nat.le_of_ble_eq_true rfl⟩ ⟨Nat.le_of_ble_eq_true rfl, Nat.le_of_ble_eq_true rfl⟩ rfl (Nat.le_of_ble_eq_true rfl) dX3_fill_7) ⟨Nat.le_of_ble_eq_true rfl, Nat.le_of_ble_eq_true rfl⟩ (fun E u9 h9 => h9) (fun u_2 hp_2 => ?_)
  obtain ⟨rfl, hq_2⟩ := hp_2
  refine r_aload_n F 0 rfl dX3_fill_10 ?_
  refine r_get (C := RX3) (T := TX3) (N := 4) F 0 hc.1 (by decide) hinX3 rfl 2 (by decide) (by decide +kernel) rfl dX3_fill_11 ?_
  refine r_aload_n F 0 rfl dX3_fill_14 ?_
  refine r_get (C := RX3) (T := TX3) (N := 4) F 0 hc.1 (by decide) hinX3 rfl 0 (by decide) (by decide +kernel) rfl dX3_fill_15 ?_
  refine r_callv (g_VN (C := RX1) (T := TX1) (N := 3) (nA := 1) (As := [.ref (g.2.1 1)]) (rest := []) F 15 hN.obj (by decide) rfl (c_X1_save hN hc.2.1 (by decide)) gX3_fill_X1_save_n61 rfl 4 rfl (by decide +kernel) (by decide +kernel) (by decide +kernel) (by decide +kernel) rfl ⟨Nat.le_of_ble_eq_true rfl, Nat.le_of_ble_eq_true rfl⟩ ⟨Nat.le_of_ble_eq_true rfl, Nat.le_of_ble_eq_true rfl⟩ rfl (Nat.le_of_ble_eq_true rfl) dX3_fill_18) (fun u_3 hp_3 => ?_)
  obtain ⟨hH_3, hk_3⟩ := hp_3
  have hc_3 := hc.hist hH_3 hk_3
  obtain ⟨nx_4, hN_4⟩ := hc_3.2.2.2.1
  refine r_aload_n F 0 rfl dX3_fill_21 ?_
  refine r_calli (g_V (C := RX3) (T := TX3) (N := 4) (nA := 0) (As := []) (rest := []) F 0 hc_3.1 (by decide) rfl (c_X3_giveAnswersOfText hc_3 hw) gX3_fill_X3_giveAnswersOfText rfl (by decide +kernel) rfl ⟨Nat.le_of_ble_eq_true rfl, Nat.le_of_ble_eq_true rfl⟩ ⟨Nat.le_of_ble_eq_true rfl, Nat.le_of_ble_eq_true rfl⟩ rfl (Nat.le_of_ble_eq_true rfl) dX3_fill_22) (fun r_5 u_5 hp_5 => ?_)
  obtain ⟨er_5, hc_5, hk_5⟩ := hp_5
  subst er_5
  obtain ⟨nx_6, hN_6⟩ := hc_5.2.2.2.1
  refine r_istore_n (lv' := [(0, .ref (g.2.1 0)), (1, .int ((filG n C t B).1))]) F (by decide) rfl dX3_fill_25 ?_
  refine r_aload_n F 0 rfl dX3_fill_26 ?_
  refine r_get (C := RX3) (T := TX3) (N := 4) F 0 hc_5.1 (by decide) hinX3 rfl 3 (by decide) (by decide +kernel) rfl dX3_fill_27 ?_
  refine r_callv (g_VN (C := RX2) (T := TX2) (N := 2) (nA := 0) (As := []) (rest := []) F 59 hc_5.2.2.2.2.obj (by decide) rfl (c_X2_empty hc_5.2.2.2.2 (by decide)) gX3_fill_X2_empty_n98 rfl 12 rfl (by decide +kernel) (by decide +kernel) (by decide +kernel) (by decide +kernel) rfl ⟨Nat.le_of_ble_eq_true rfl, Nat.le_of_ble_eq_true rfl⟩ ⟨Nat.le_of_ble_eq_true rfl, Nat.le_of_ble_eq_true rfl⟩ rfl (Nat.le_of_ble_eq_true rfl) dX3_fill_30) (fun u_7 hp_7 => ?_)
  obtain ⟨hT_7, hk_7⟩ := hp_7
  have hc_7 := hc_5.text hT_7 hk_7
  obtain ⟨nx_8, hN_8⟩ := hc_7.2.2.2.1
  refine r_iload_n F 1 rfl dX3_fill_33 ?_
  exact hret _ _ _ _ _ _ (Nat.le_of_ble_eq_true rfl) (Nat.le_of_ble_eq_true rfl) ⟨hq_2, rfl, hc_7, fun j hj => (hk_7 j (by omega)).trans ((hk_5 j (by omega)).trans (hk_3 j (by omega)))⟩ dX3_fill_34
set_option maxHeartbeats 4000000 in
set_option maxRecDepth 100000 in
theorem c_X3_mix {g : kG} {l : Launch} {u : Nat → va_E} {h v : Int64}  : CL g l yX3_mix wsX3_mix ({ frames := 0, cells := 0, slots := 0, locals := 0 }) [.long h, .long v] u (fun r u' => r = mixL h v ∧ u = u') := by
  refine CL.of (cc := cX3_mix) (nL := 4) (by decide +kernel) rfl (Nat.le_of_ble_eq_true rfl) ?_
  intro X hXl F hret
  subst hXl
  show VL g X 0 0 u 0 [(0, .long h), (2, .long v)] []
  refine r_ldc2 (v := 31) F (by decide +kernel) dX3_mix_0 ?_
  refine r_lload_n F 0 rfl dX3_mix_3 ?_
  refine r_lmul F dX3_mix_4 ?_
  refine r_lload_n F 1 rfl dX3_mix_5 ?_
  refine r_ladd F dX3_mix_6 ?_
  exact hret _ _ _ _ _ _ (Nat.le_of_ble_eq_true rfl) (Nat.le_of_ble_eq_true rfl) ⟨rfl, rfl⟩ dX3_mix_7

set_option maxHeartbeats 4000000 in
set_option maxRecDepth 100000 in
theorem c_X3_ofPart {g : kG} {l : Launch} {u : Nat → va_E} {n m t : Nat} {B : kB} {S : Nat → kS} {C : Nat → Int32} {p w mask : Int32} (hc : CsB g u n B m S t C)  : CI g l yX3_ofPart wsX3_ofPart ({ frames := 4, cells := 0, slots := 0, locals := 89 }) [.ref (g.2.1 0), .int p, .int w, .int mask] u (fun r u' => r = tP B n mask p w ∧ u = u') := by
  refine CI.of (cc := cX3_ofPart) (nL := 4) (ty := .int) (by decide +kernel) rfl (fun _ _ _ => rfl) (Nat.le_of_ble_eq_true rfl) ?_
  intro X hXl F hret
  subst hXl
  have hinX3 : ∀ w ∈ wsX30, w ∈ wsX3_ofPart := by decide +kernel
  obtain ⟨nx, hN⟩ := hc.2.2.2.1
  show VL g X 0 0 u 0 [(0, .ref (g.2.1 0)), (1, .int p), (2, .int w), (3, .int mask)] []
  refine r_iload_n F 2 rfl dX3_ofPart_0 ?_
  by_cases h0 : w = 0
  · refine r_eq (st2 := [.int 0]) (by rw [h0]) rfl ?_
    refine r_tabIn F 36 (by decide) (by decide) rfl (by decide) dX3_ofPart_1 ?_
    refine r_iload_n F 1 rfl dX3_ofPart_36 ?_
    refine r_iload_n F 3 rfl dX3_ofPart_37 ?_
    refine r_calli (g_S (nA := 2) (As := [.int p, .int mask]) (rest := []) F (c_X3_isInMask) gX3_ofPart_X3_isInMask rfl (by decide +kernel) rfl ⟨Nat.le_of_ble_eq_true rfl, Nat.le_of_ble_eq_true rfl⟩ ⟨Nat.le_of_ble_eq_true rfl, Nat.le_of_ble_eq_true rfl⟩ rfl (Nat.le_of_ble_eq_true rfl) dX3_ofPart_38) (fun r_1 u_1 hp_1 => ?_)
    obtain ⟨rfl, rfl⟩ := hp_1
    refine r_if_eq F 48 (by decide) dX3_ofPart_41 (fun c_41_2 => ?_) (fun c_41_2 => ?_)
    · skip
      replace c_41_2 := bI0 c_41_2
      refine r_iconst (v := 0) F (by decide) dX3_ofPart_48 ?_
      exact hret _ _ _ _ _ _ (Nat.le_of_ble_eq_true rfl) (Nat.le_of_ble_eq_true rfl) ⟨by simp [tP, bI, h0, c_41_2], rfl⟩ dX3_ofPart_49
    · skip
      replace c_41_2 := bI1 c_41_2
      refine r_iconst (v := 1) F (by decide) dX3_ofPart_44 ?_
      refine r_goto F 49 (by decide) dX3_ofPart_45 ?_
      exact hret _ _ _ _ _ _ (Nat.le_of_ble_eq_true rfl) (Nat.le_of_ble_eq_true rfl) ⟨by simp [tP, bI, h0, c_41_2], rfl⟩ dX3_ofPart_49
  · skip
    by_cases h1 : w = 1
    · refine r_eq (st2 := [.int 1]) (by rw [h1]) rfl ?_
      refine r_tabIn F 50 (by decide) (by decide) rfl (by decide) dX3_ofPart_1 ?_
      refine r_aload_n F 0 rfl dX3_ofPart_50 ?_
      refine r_get (C := RX3) (T := TX3) (N := 4) F 0 hc.1 (by decide) hinX3 rfl 0 (by decide) (by decide +kernel) rfl dX3_ofPart_51 ?_
      refine r_iload_n F 1 rfl dX3_ofPart_54 ?_
      refine r_calli (g_VN (C := RX0) (T := TX0) (N := 7) (nA := 1) (As := [.int p]) (rest := []) F 1 hc.2.1.obj (by decide) rfl (c_X0_boxesIn hc.2.1 (by decide) ) gX3_ofPart_X0_boxesIn_n225 rfl 35 rfl (by decide +kernel) (by decide +kernel) (by decide +kernel) (by decide +kernel) rfl ⟨Nat.le_of_ble_eq_true rfl, Nat.le_of_ble_eq_true rfl⟩ ⟨Nat.le_of_ble_eq_true rfl, Nat.le_of_ble_eq_true rfl⟩ rfl (Nat.le_of_ble_eq_true rfl) dX3_ofPart_55) (fun r_3 u_3 hp_3 => ?_)
      obtain ⟨rfl, rfl⟩ := hp_3
      exact hret _ _ _ _ _ _ (Nat.le_of_ble_eq_true rfl) (Nat.le_of_ble_eq_true rfl) ⟨by simp [tP, bI, h1], rfl⟩ dX3_ofPart_58
    · skip
      by_cases h2 : w = 2
      · refine r_eq (st2 := [.int 2]) (by rw [h2]) rfl ?_
        refine r_tabIn F 59 (by decide) (by decide) rfl (by decide) dX3_ofPart_1 ?_
        refine r_aload_n F 0 rfl dX3_ofPart_59 ?_
        refine r_get (C := RX3) (T := TX3) (N := 4) F 0 hc.1 (by decide) hinX3 rfl 0 (by decide) (by decide +kernel) rfl dX3_ofPart_60 ?_
        refine r_iload_n F 1 rfl dX3_ofPart_63 ?_
        refine r_iload_n F 3 rfl dX3_ofPart_64 ?_
        refine r_calli (g_VN (C := RX0) (T := TX0) (N := 7) (nA := 2) (As := [.int p, .int mask]) (rest := []) F 1 hc.2.1.obj (by decide) rfl (c_X0_wantingIn hc.2.1 (by decide) ) gX3_ofPart_X0_wantingIn_n228 rfl 36 rfl (by decide +kernel) (by decide +kernel) (by decide +kernel) (by decide +kernel) rfl ⟨Nat.le_of_ble_eq_true rfl, Nat.le_of_ble_eq_true rfl⟩ ⟨Nat.le_of_ble_eq_true rfl, Nat.le_of_ble_eq_true rfl⟩ rfl (Nat.le_of_ble_eq_true rfl) dX3_ofPart_65) (fun r_4 u_4 hp_4 => ?_)
        obtain ⟨rfl, rfl⟩ := hp_4
        exact hret _ _ _ _ _ _ (Nat.le_of_ble_eq_true rfl) (Nat.le_of_ble_eq_true rfl) ⟨by simp [tP, bI, h2], rfl⟩ dX3_ofPart_68
      · skip
        by_cases h3 : w = 3
        · refine r_eq (st2 := [.int 3]) (by rw [h3]) rfl ?_
          refine r_tabIn F 69 (by decide) (by decide) rfl (by decide) dX3_ofPart_1 ?_
          refine r_aload_n F 0 rfl dX3_ofPart_69 ?_
          refine r_get (C := RX3) (T := TX3) (N := 4) F 0 hc.1 (by decide) hinX3 rfl 0 (by decide) (by decide +kernel) rfl dX3_ofPart_70 ?_
          refine r_iconst (v := 1) F (by decide) dX3_ofPart_73 ?_
          refine r_iload_n F 1 rfl dX3_ofPart_74 ?_
          refine r_calli (g_VN (C := RX0) (T := TX0) (N := 7) (nA := 2) (As := [.int 1, .int p]) (rest := []) F 1 hc.2.1.obj (by decide) rfl (c_X0_boxesFor hc.2.1 (by decide) ) gX3_ofPart_X0_boxesFor_n231 rfl 37 rfl (by decide +kernel) (by decide +kernel) (by decide +kernel) (by decide +kernel) rfl ⟨Nat.le_of_ble_eq_true rfl, Nat.le_of_ble_eq_true rfl⟩ ⟨Nat.le_of_ble_eq_true rfl, Nat.le_of_ble_eq_true rfl⟩ rfl (Nat.le_of_ble_eq_true rfl) dX3_ofPart_75) (fun r_5 u_5 hp_5 => ?_)
          obtain ⟨rfl, rfl⟩ := hp_5
          exact hret _ _ _ _ _ _ (Nat.le_of_ble_eq_true rfl) (Nat.le_of_ble_eq_true rfl) ⟨by simp [tP, bI, h3], rfl⟩ dX3_ofPart_78
        · skip
          by_cases h4 : w = 4
          · refine r_eq (st2 := [.int 4]) (by rw [h4]) rfl ?_
            refine r_tabIn F 79 (by decide) (by decide) rfl (by decide) dX3_ofPart_1 ?_
            refine r_aload_n F 0 rfl dX3_ofPart_79 ?_
            refine r_get (C := RX3) (T := TX3) (N := 4) F 0 hc.1 (by decide) hinX3 rfl 0 (by decide) (by decide +kernel) rfl dX3_ofPart_80 ?_
            refine r_iconst (v := 2) F (by decide) dX3_ofPart_83 ?_
            refine r_iload_n F 1 rfl dX3_ofPart_84 ?_
            refine r_calli (g_VN (C := RX0) (T := TX0) (N := 7) (nA := 2) (As := [.int 2, .int p]) (rest := []) F 1 hc.2.1.obj (by decide) rfl (c_X0_boxesFor hc.2.1 (by decide) ) gX3_ofPart_X0_boxesFor_n231 rfl 37 rfl (by decide +kernel) (by decide +kernel) (by decide +kernel) (by decide +kernel) rfl ⟨Nat.le_of_ble_eq_true rfl, Nat.le_of_ble_eq_true rfl⟩ ⟨Nat.le_of_ble_eq_true rfl, Nat.le_of_ble_eq_true rfl⟩ rfl (Nat.le_of_ble_eq_true rfl) dX3_ofPart_85) (fun r_6 u_6 hp_6 => ?_)
            obtain ⟨rfl, rfl⟩ := hp_6
            exact hret _ _ _ _ _ _ (Nat.le_of_ble_eq_true rfl) (Nat.le_of_ble_eq_true rfl) ⟨by simp [tP, bI, h4], rfl⟩ dX3_ofPart_88
          · skip
            refine r_tabOut F 89 (by have q0 : ¬ (w).toInt = 0 := fun q => h0 (Int32.toInt_inj.mp q); have q1 : ¬ (w).toInt = 1 := fun q => h1 (Int32.toInt_inj.mp q); have q2 : ¬ (w).toInt = 2 := fun q => h2 (Int32.toInt_inj.mp q); have q3 : ¬ (w).toInt = 3 := fun q => h3 (Int32.toInt_inj.mp q); have q4 : ¬ (w).toInt = 4 := fun q => h4 (Int32.toInt_inj.mp q); omega) (by decide) dX3_ofPart_1 ?_
            refine r_aload_n F 0 rfl dX3_ofPart_89 ?_
            refine r_get (C := RX3) (T := TX3) (N := 4) F 0 hc.1 (by decide) hinX3 rfl 0 (by decide) (by decide +kernel) rfl dX3_ofPart_90 ?_
            refine r_iload_n F 1 rfl dX3_ofPart_93 ?_
            refine r_iload_n F 3 rfl dX3_ofPart_94 ?_
            refine r_calli (g_VN (C := RX0) (T := TX0) (N := 7) (nA := 2) (As := [.int p, .int mask]) (rest := []) F 1 hc.2.1.obj (by decide) rfl (c_X0_isSkipped hc.2.1 (by decide) ) gX3_ofPart_X0_isSkipped_n234 rfl 38 rfl (by decide +kernel) (by decide +kernel) (by decide +kernel) (by decide +kernel) rfl ⟨Nat.le_of_ble_eq_true rfl, Nat.le_of_ble_eq_true rfl⟩ ⟨Nat.le_of_ble_eq_true rfl, Nat.le_of_ble_eq_true rfl⟩ rfl (Nat.le_of_ble_eq_true rfl) dX3_ofPart_95) (fun r_7 u_7 hp_7 => ?_)
            obtain ⟨rfl, rfl⟩ := hp_7
            refine r_if_eq F 105 (by decide) dX3_ofPart_98 (fun c_98_8 => ?_) (fun c_98_8 => ?_)
            · skip
              replace c_98_8 := bI0 c_98_8
              refine r_iconst (v := 0) F (by decide) dX3_ofPart_105 ?_
              exact hret _ _ _ _ _ _ (Nat.le_of_ble_eq_true rfl) (Nat.le_of_ble_eq_true rfl) ⟨by simp [tP, bI, h0, h1, h2, h3, h4, c_98_8], rfl⟩ dX3_ofPart_106
            · skip
              replace c_98_8 := bI1 c_98_8
              refine r_iconst (v := 1) F (by decide) dX3_ofPart_101 ?_
              refine r_goto F 106 (by decide) dX3_ofPart_102 ?_
              exact hret _ _ _ _ _ _ (Nat.le_of_ble_eq_true rfl) (Nat.le_of_ble_eq_true rfl) ⟨by simp [tP, bI, h0, h1, h2, h3, h4, c_98_8], rfl⟩ dX3_ofPart_106
set_option maxHeartbeats 4000000 in
set_option maxRecDepth 100000 in
theorem c_X3_ofForm {g : kG} {l : Launch} {u : Nat → va_E} {n m t : Nat} {B : kB} {S : Nat → kS} {C : Nat → Int32} {w mask : Int32} (hc : CsB g u n B m S t C)  : CI g l yX3_ofForm wsX3_ofForm ({ frames := 4, cells := 0, slots := 0, locals := 88 }) [.ref (g.2.1 0), .int w, .int mask] u (fun r u' => r = tF B n m mask w ∧ u = u') := by
  refine CI.of (cc := cX3_ofForm) (nL := 3) (ty := .int) (by decide +kernel) rfl (fun _ _ _ => rfl) (Nat.le_of_ble_eq_true rfl) ?_
  intro X hXl F hret
  subst hXl
  have hinX3 : ∀ w ∈ wsX30, w ∈ wsX3_ofForm := by decide +kernel
  obtain ⟨nx, hN⟩ := hc.2.2.2.1
  show VL g X 0 0 u 0 [(0, .ref (g.2.1 0)), (1, .int w), (2, .int mask)] []
  refine r_iload_n F 1 rfl dX3_ofForm_0 ?_
  by_cases h0 : w = 0
  · refine r_eq (st2 := [.int 0]) (by rw [h0]) rfl ?_
    refine r_tabIn F 48 (by decide) (by decide) rfl (by decide) dX3_ofForm_1 ?_
    refine r_aload_n F 0 rfl dX3_ofForm_48 ?_
    refine r_get (C := RX3) (T := TX3) (N := 4) F 0 hc.1 (by decide) hinX3 rfl 0 (by decide) (by decide +kernel) rfl dX3_ofForm_49 ?_
    refine r_calli (g_VN (C := RX0) (T := TX0) (N := 7) (nA := 0) (As := []) (rest := []) F 1 hc.2.1.obj (by decide) rfl (c_X0_size hc.2.1 (by decide) ) gX3_ofForm_X0_size_n54 rfl 9 rfl (by decide +kernel) (by decide +kernel) (by decide +kernel) (by decide +kernel) rfl ⟨Nat.le_of_ble_eq_true rfl, Nat.le_of_ble_eq_true rfl⟩ ⟨Nat.le_of_ble_eq_true rfl, Nat.le_of_ble_eq_true rfl⟩ rfl (Nat.le_of_ble_eq_true rfl) dX3_ofForm_52) (fun r_1 u_1 hp_1 => ?_)
    obtain ⟨rfl, rfl⟩ := hp_1
    exact hret _ _ _ _ _ _ (Nat.le_of_ble_eq_true rfl) (Nat.le_of_ble_eq_true rfl) ⟨by simp [tF, bI, h0], rfl⟩ dX3_ofForm_55
  · skip
    by_cases h1 : w = 1
    · refine r_eq (st2 := [.int 1]) (by rw [h1]) rfl ?_
      refine r_tabIn F 56 (by decide) (by decide) rfl (by decide) dX3_ofForm_1 ?_
      refine r_aload_n F 0 rfl dX3_ofForm_56 ?_
      refine r_get (C := RX3) (T := TX3) (N := 4) F 0 hc.1 (by decide) hinX3 rfl 0 (by decide) (by decide +kernel) rfl dX3_ofForm_57 ?_
      refine r_iload_n F 2 rfl dX3_ofForm_60 ?_
      refine r_calli (g_VN (C := RX0) (T := TX0) (N := 7) (nA := 1) (As := [.int mask]) (rest := []) F 1 hc.2.1.obj (by decide) rfl (c_X0_openBoxes hc.2.1 (by decide) ) gX3_ofForm_X0_openBoxes_n237 rfl 22 rfl (by decide +kernel) (by decide +kernel) (by decide +kernel) (by decide +kernel) rfl ⟨Nat.le_of_ble_eq_true rfl, Nat.le_of_ble_eq_true rfl⟩ ⟨Nat.le_of_ble_eq_true rfl, Nat.le_of_ble_eq_true rfl⟩ rfl (Nat.le_of_ble_eq_true rfl) dX3_ofForm_61) (fun r_2 u_2 hp_2 => ?_)
      obtain ⟨rfl, rfl⟩ := hp_2
      exact hret _ _ _ _ _ _ (Nat.le_of_ble_eq_true rfl) (Nat.le_of_ble_eq_true rfl) ⟨by simp [tF, bI, h1], rfl⟩ dX3_ofForm_64
    · skip
      by_cases h2 : w = 2
      · refine r_eq (st2 := [.int 2]) (by rw [h2]) rfl ?_
        refine r_tabIn F 65 (by decide) (by decide) rfl (by decide) dX3_ofForm_1 ?_
        refine r_aload_n F 0 rfl dX3_ofForm_65 ?_
        refine r_get (C := RX3) (T := TX3) (N := 4) F 0 hc.1 (by decide) hinX3 rfl 0 (by decide) (by decide +kernel) rfl dX3_ofForm_66 ?_
        refine r_iload_n F 2 rfl dX3_ofForm_69 ?_
        refine r_calli (g_VN (C := RX0) (T := TX0) (N := 7) (nA := 1) (As := [.int mask]) (rest := []) F 1 hc.2.1.obj (by decide) rfl (c_X0_wanting hc.2.1 (by decide) ) gX3_ofForm_X0_wanting_n86 rfl 18 rfl (by decide +kernel) (by decide +kernel) (by decide +kernel) (by decide +kernel) rfl ⟨Nat.le_of_ble_eq_true rfl, Nat.le_of_ble_eq_true rfl⟩ ⟨Nat.le_of_ble_eq_true rfl, Nat.le_of_ble_eq_true rfl⟩ rfl (Nat.le_of_ble_eq_true rfl) dX3_ofForm_70) (fun r_3 u_3 hp_3 => ?_)
        obtain ⟨rfl, rfl⟩ := hp_3
        exact hret _ _ _ _ _ _ (Nat.le_of_ble_eq_true rfl) (Nat.le_of_ble_eq_true rfl) ⟨by simp [tF, bI, h2], rfl⟩ dX3_ofForm_73
      · skip
        by_cases h3 : w = 3
        · refine r_eq (st2 := [.int 3]) (by rw [h3]) rfl ?_
          refine r_tabIn F 74 (by decide) (by decide) rfl (by decide) dX3_ofForm_1 ?_
          refine r_aload_n F 0 rfl dX3_ofForm_74 ?_
          refine r_get (C := RX3) (T := TX3) (N := 4) F 0 hc.1 (by decide) hinX3 rfl 0 (by decide) (by decide +kernel) rfl dX3_ofForm_75 ?_
          refine r_iload_n F 2 rfl dX3_ofForm_78 ?_
          refine r_calli (g_VN (C := RX0) (T := TX0) (N := 7) (nA := 1) (As := [.int mask]) (rest := []) F 1 hc.2.1.obj (by decide) rfl (c_X0_firstWanting hc.2.1 (by decide) ) gX3_ofForm_X0_firstWanting_n240 rfl 23 rfl (by decide +kernel) (by decide +kernel) (by decide +kernel) (by decide +kernel) rfl ⟨Nat.le_of_ble_eq_true rfl, Nat.le_of_ble_eq_true rfl⟩ ⟨Nat.le_of_ble_eq_true rfl, Nat.le_of_ble_eq_true rfl⟩ rfl (Nat.le_of_ble_eq_true rfl) dX3_ofForm_79) (fun r_4 u_4 hp_4 => ?_)
          obtain ⟨rfl, rfl⟩ := hp_4
          exact hret _ _ _ _ _ _ (Nat.le_of_ble_eq_true rfl) (Nat.le_of_ble_eq_true rfl) ⟨by simp [tF, bI, h3], rfl⟩ dX3_ofForm_82
        · skip
          by_cases h4 : w = 4
          · refine r_eq (st2 := [.int 4]) (by rw [h4]) rfl ?_
            refine r_tabIn F 83 (by decide) (by decide) rfl (by decide) dX3_ofForm_1 ?_
            refine r_aload_n F 0 rfl dX3_ofForm_83 ?_
            refine r_get (C := RX3) (T := TX3) (N := 4) F 0 hc.1 (by decide) hinX3 rfl 0 (by decide) (by decide +kernel) rfl dX3_ofForm_84 ?_
            refine r_iload_n F 2 rfl dX3_ofForm_87 ?_
            refine r_calli (g_VN (C := RX0) (T := TX0) (N := 7) (nA := 1) (As := [.int mask]) (rest := []) F 1 hc.2.1.obj (by decide) rfl (c_X0_wanting hc.2.1 (by decide) ) gX3_ofForm_X0_wanting_n86 rfl 18 rfl (by decide +kernel) (by decide +kernel) (by decide +kernel) (by decide +kernel) rfl ⟨Nat.le_of_ble_eq_true rfl, Nat.le_of_ble_eq_true rfl⟩ ⟨Nat.le_of_ble_eq_true rfl, Nat.le_of_ble_eq_true rfl⟩ rfl (Nat.le_of_ble_eq_true rfl) dX3_ofForm_88) (fun r_5 u_5 hp_5 => ?_)
            obtain ⟨rfl, rfl⟩ := hp_5
            refine r_if_ne F 98 (by decide) dX3_ofForm_91 (fun c_91_6 => ?_) (fun c_91_6 => ?_)
            · skip
              refine r_iconst (v := 0) F (by decide) dX3_ofForm_98 ?_
              exact hret _ _ _ _ _ _ (Nat.le_of_ble_eq_true rfl) (Nat.le_of_ble_eq_true rfl) ⟨by simp [tF, bI, h4, c_91_6], rfl⟩ dX3_ofForm_99
            · skip
              refine r_iconst (v := 1) F (by decide) dX3_ofForm_94 ?_
              refine r_goto F 99 (by decide) dX3_ofForm_95 ?_
              exact hret _ _ _ _ _ _ (Nat.le_of_ble_eq_true rfl) (Nat.le_of_ble_eq_true rfl) ⟨by simp [tF, bI, h4, c_91_6], rfl⟩ dX3_ofForm_99
          · skip
            by_cases h5 : w = 5
            · refine r_eq (st2 := [.int 5]) (by rw [h5]) rfl ?_
              refine r_tabIn F 100 (by decide) (by decide) rfl (by decide) dX3_ofForm_1 ?_
              refine r_iload_n F 2 rfl dX3_ofForm_100 ?_
              refine r_calli (g_S (nA := 1) (As := [.int mask]) (rest := []) F (c_J6_bitCount_0f7a4) gX3_ofForm_J6_bitCount_0f7a4 rfl (by decide +kernel) rfl ⟨Nat.le_of_ble_eq_true rfl, Nat.le_of_ble_eq_true rfl⟩ ⟨Nat.le_of_ble_eq_true rfl, Nat.le_of_ble_eq_true rfl⟩ rfl (Nat.le_of_ble_eq_true rfl) dX3_ofForm_101) (fun r_7 u_7 hp_7 => ?_)
              obtain ⟨rfl, rfl⟩ := hp_7
              exact hret _ _ _ _ _ _ (Nat.le_of_ble_eq_true rfl) (Nat.le_of_ble_eq_true rfl) ⟨by simp [tF, bI, h5], rfl⟩ dX3_ofForm_104
            · skip
              by_cases h6 : w = 6
              · refine r_eq (st2 := [.int 6]) (by rw [h6]) rfl ?_
                refine r_tabIn F 105 (by decide) (by decide) rfl (by decide) dX3_ofForm_1 ?_
                refine r_iload_n F 2 rfl dX3_ofForm_105 ?_
                exact hret _ _ _ _ _ _ (Nat.le_of_ble_eq_true rfl) (Nat.le_of_ble_eq_true rfl) ⟨by simp [tF, bI, h6], rfl⟩ dX3_ofForm_106
              · skip
                by_cases h7 : w = 7
                · refine r_eq (st2 := [.int 7]) (by rw [h7]) rfl ?_
                  refine r_tabIn F 107 (by decide) (by decide) rfl (by decide) dX3_ofForm_1 ?_
                  refine r_aload_n F 0 rfl dX3_ofForm_107 ?_
                  refine r_get (C := RX3) (T := TX3) (N := 4) F 0 hc.1 (by decide) hinX3 rfl 0 (by decide) (by decide +kernel) rfl dX3_ofForm_108 ?_
                  refine r_calli (g_VN (C := RX0) (T := TX0) (N := 7) (nA := 0) (As := []) (rest := []) F 1 hc.2.1.obj (by decide) rfl (c_X0_answered hc.2.1 (by decide) ) gX3_ofForm_X0_answered_n89 rfl 8 rfl (by decide +kernel) (by decide +kernel) (by decide +kernel) (by decide +kernel) rfl ⟨Nat.le_of_ble_eq_true rfl, Nat.le_of_ble_eq_true rfl⟩ ⟨Nat.le_of_ble_eq_true rfl, Nat.le_of_ble_eq_true rfl⟩ rfl (Nat.le_of_ble_eq_true rfl) dX3_ofForm_111) (fun r_8 u_8 hp_8 => ?_)
                  obtain ⟨rfl, rfl⟩ := hp_8
                  exact hret _ _ _ _ _ _ (Nat.le_of_ble_eq_true rfl) (Nat.le_of_ble_eq_true rfl) ⟨by simp [tF, bI, h7], rfl⟩ dX3_ofForm_114
                · skip
                  refine r_tabOut F 115 (by have q0 : ¬ (w).toInt = 0 := fun q => h0 (Int32.toInt_inj.mp q); have q1 : ¬ (w).toInt = 1 := fun q => h1 (Int32.toInt_inj.mp q); have q2 : ¬ (w).toInt = 2 := fun q => h2 (Int32.toInt_inj.mp q); have q3 : ¬ (w).toInt = 3 := fun q => h3 (Int32.toInt_inj.mp q); have q4 : ¬ (w).toInt = 4 := fun q => h4 (Int32.toInt_inj.mp q); have q5 : ¬ (w).toInt = 5 := fun q => h5 (Int32.toInt_inj.mp q); have q6 : ¬ (w).toInt = 6 := fun q => h6 (Int32.toInt_inj.mp q); have q7 : ¬ (w).toInt = 7 := fun q => h7 (Int32.toInt_inj.mp q); omega) (by decide) dX3_ofForm_1 ?_
                  refine r_aload_n F 0 rfl dX3_ofForm_115 ?_
                  refine r_get (C := RX3) (T := TX3) (N := 4) F 0 hc.1 (by decide) hinX3 rfl 2 (by decide) (by decide +kernel) rfl dX3_ofForm_116 ?_
                  refine r_calli (g_VN (C := RX1) (T := TX1) (N := 3) (nA := 0) (As := []) (rest := []) F 15 hN.obj (by decide) rfl (c_X1_size hN) gX3_ofForm_X1_size_n111 rfl 24 rfl (by decide +kernel) (by decide +kernel) (by decide +kernel) (by decide +kernel) rfl ⟨Nat.le_of_ble_eq_true rfl, Nat.le_of_ble_eq_true rfl⟩ ⟨Nat.le_of_ble_eq_true rfl, Nat.le_of_ble_eq_true rfl⟩ rfl (Nat.le_of_ble_eq_true rfl) dX3_ofForm_119) (fun r_9 u_9 hp_9 => ?_)
                  obtain ⟨rfl, rfl⟩ := hp_9
                  exact hret _ _ _ _ _ _ (Nat.le_of_ble_eq_true rfl) (Nat.le_of_ble_eq_true rfl) ⟨by simp [tF, bI, h0, h1, h2, h3, h4, h5, h6, h7], rfl⟩ dX3_ofForm_122
/-- the fewest over the sets of open parts below 2 j + 1 -/
def shoN (B : kB) (n : Nat) : Nat → Int32
  | 0 => 16
  | j + 1 => if canT B n (nI (2 * j + 1)) 5 then minI (shoN B n j) (cntN n (qWts B (nI (2 * j + 1)))) else shoN B n j
def sho (B : kB) (n : Nat) : Int32 := shoN B n 16
theorem nI_inc2 (a : Nat) : nI a + Int32.ofInt 2 = nI (a + 2) := by
  rw [show Int32.ofInt 2 = nI 2 from rfl, nI_add]
set_option maxHeartbeats 4000000 in
set_option maxRecDepth 100000 in
theorem c_X3_shortest {g : kG} {l : Launch} {u : Nat → va_E} {n m t : Nat} {B : kB} {S : Nat → kS} {C : Nat → Int32}  (hc : CsB g u n B m S t C)  : CI g l yX3_shortest wsX3_shortest ({ frames := 5, cells := 0, slots := 0, locals := 116 }) [.ref (g.2.1 0)] u (fun r u' => r = sho B n ∧ u = u') := by
  refine CI.of (cc := cX3_shortest) (nL := 3) (ty := .int) (by decide +kernel) rfl (fun _ _ _ => rfl) (Nat.le_of_ble_eq_true rfl) ?_
  intro X hXl F hret
  subst hXl
  have hinX3 : ∀ w ∈ wsX30, w ∈ wsX3_shortest := by decide +kernel
  obtain ⟨nx, hN⟩ := hc.2.2.2.1
  show VL g X 0 0 u 0 [(0, .ref (g.2.1 0))] []
  refine r_bipush (v := 16) F (by decide) dX3_shortest_0 ?_
  refine r_istore_n (lv' := [(0, .ref (g.2.1 0)), (1, .int 16)]) F (by decide) rfl dX3_shortest_2 ?_
  refine r_iconst (v := 1) F (by decide) dX3_shortest_3 ?_
  refine r_istore_n (lv' := [(0, .ref (g.2.1 0)), (1, .int 16), (2, .int 1)]) F (by decide) rfl dX3_shortest_4 ?_
  have loop_5 : ∀ (k : Nat) (j : Nat) (x1_5 : Int32) (x2_5 : Int32), j + k = 16 → x1_5 = shoN B n j → x2_5 = nI (2 * j + 1) → VL g X 0 0 u 5 [(0, .ref (g.2.1 0)), (1, .int x1_5), (2, .int x2_5)] [] := by
    intro k
    induction k with
    | zero =>
      rintro j x1_5 x2_5 hk rfl rfl
      have hjn : j = 16 := by omega
      subst hjn
      refine r_iload_n F 2 rfl dX3_shortest_5 ?_
      refine r_bipush (v := 32) F (by decide) dX3_shortest_6 ?_
      refine r_icmp_ge F 41 (by decide) dX3_shortest_8 (fun c_8_2 => ?_) (fun c_8_2 => absurd (by decide) c_8_2)
      clear c_8_2
      refine r_iload_n F 1 rfl dX3_shortest_41 ?_
      exact hret _ _ _ _ _ _ (Nat.le_of_ble_eq_true rfl) (Nat.le_of_ble_eq_true rfl) ⟨by rfl, rfl⟩ dX3_shortest_42
    | succ k ih_5 =>
      rintro j x1_5 x2_5 hk rfl rfl
      have hb : j < 16 := by omega
      refine r_iload_n F 2 rfl dX3_shortest_5 ?_
      refine r_bipush (v := 32) F (by decide) dX3_shortest_6 ?_
      refine r_icmp_ge F 41 (by decide) dX3_shortest_8 (fun c_8_3 => absurd c_8_3 (nI_ge (b := 32) (by omega) (by decide))) (fun c_8_3 => ?_)
      clear c_8_3
      refine r_aload_n F 0 rfl dX3_shortest_11 ?_
      refine r_get (C := RX3) (T := TX3) (N := 4) F 0 hc.1 (by decide) hinX3 rfl 0 (by decide) (by decide +kernel) rfl dX3_shortest_12 ?_
      refine r_iload_n F 2 rfl dX3_shortest_15 ?_
      refine r_calli (g_VN (C := RX0) (T := TX0) (N := 7) (nA := 1) (As := [.int (nI (2 * j + 1))]) (rest := []) F 1 hc.2.1.obj (by decide) rfl (c_X0_canComeTo hc.2.1 (by decide) ) gX3_shortest_X0_canComeTo_n129 rfl 16 rfl (by decide +kernel) (by decide +kernel) (by decide +kernel) (by decide +kernel) rfl ⟨Nat.le_of_ble_eq_true rfl, Nat.le_of_ble_eq_true rfl⟩ ⟨Nat.le_of_ble_eq_true rfl, Nat.le_of_ble_eq_true rfl⟩ rfl (Nat.le_of_ble_eq_true rfl) dX3_shortest_16) (fun r_4 u_4 hp_4 => ?_)
      obtain ⟨rfl, rfl⟩ := hp_4
      refine r_if_eq F 35 (by decide) dX3_shortest_19 (fun c_19_5 => ?_) (fun c_19_5 => ?_)
      · skip
        replace c_19_5 := bI0 c_19_5
        refine r_iinc (lv' := [(0, .ref (g.2.1 0)), (1, .int (shoN B n j)), (2, .int (nI (2 * j + 1 + 2)))]) F 2 rfl (nI_inc2 _) (by decide) rfl dX3_shortest_35 ?_
        refine r_goto F 5 (by decide) dX3_shortest_38 ?_
        exact ih_5 (j + 1) _ _ (by omega) (by simp [shoN, c_19_5]) (by first | rfl | (rw [nI_inc2]; rfl))
      · skip
        replace c_19_5 := bI1 c_19_5
        refine r_iload_n F 1 rfl dX3_shortest_22 ?_
        refine r_aload_n F 0 rfl dX3_shortest_23 ?_
        refine r_get (C := RX3) (T := TX3) (N := 4) F 0 hc.1 (by decide) hinX3 rfl 0 (by decide) (by decide +kernel) rfl dX3_shortest_24 ?_
        refine r_iload_n F 2 rfl dX3_shortest_27 ?_
        refine r_calli (g_VN (C := RX0) (T := TX0) (N := 7) (nA := 1) (As := [.int (nI (2 * j + 1))]) (rest := [.int (shoN B n j)]) F 1 hc.2.1.obj (by decide) rfl (c_X0_wanting hc.2.1 (by decide) ) gX3_shortest_X0_wanting_n86 rfl 18 rfl (by decide +kernel) (by decide +kernel) (by decide +kernel) (by decide +kernel) rfl ⟨Nat.le_of_ble_eq_true rfl, Nat.le_of_ble_eq_true rfl⟩ ⟨Nat.le_of_ble_eq_true rfl, Nat.le_of_ble_eq_true rfl⟩ rfl (Nat.le_of_ble_eq_true rfl) dX3_shortest_28) (fun r_6 u_6 hp_6 => ?_)
        obtain ⟨rfl, rfl⟩ := hp_6
        refine r_min (rest := []) F (by decide +kernel) (by decide +kernel) (by decide +kernel) (by decide +kernel) ⟨Nat.le_of_ble_eq_true rfl, Nat.le_of_ble_eq_true rfl, Nat.le_of_ble_eq_true rfl, Nat.le_of_ble_eq_true rfl⟩ dX3_shortest_31 ?_
        refine r_istore_n (lv' := [(0, .ref (g.2.1 0)), (1, .int (minI (shoN B n j) (cntN n (qWts B (nI (2 * j + 1)))))), (2, .int (nI (2 * j + 1)))]) F (by decide) rfl dX3_shortest_34 ?_
        refine r_iinc (lv' := [(0, .ref (g.2.1 0)), (1, .int (minI (shoN B n j) (cntN n (qWts B (nI (2 * j + 1)))))), (2, .int (nI (2 * j + 1 + 2)))]) F 2 rfl (nI_inc2 _) (by decide) rfl dX3_shortest_35 ?_
        refine r_goto F 5 (by decide) dX3_shortest_38 ?_
        exact ih_5 (j + 1) _ _ (by omega) (by simp [shoN, c_19_5]) (by first | rfl | (rw [nI_inc2]; rfl))
  exact loop_5 16 0 _ _ (by omega) rfl rfl
/-- the most that hang on one of the boxes below j; the first with so many -/
def mcM (B : kB) (n : Nat) : Nat → Int32
  | 0 => 0
  | j + 1 => if mcM B n j < bitC (carN B j n) then bitC (carN B j n) else mcM B n j
def mcB (B : kB) (n : Nat) : Nat → Int32
  | 0 => -1
  | j + 1 => if mcM B n j < bitC (carN B j n) then nI j else mcB B n j
set_option maxHeartbeats 4000000 in
set_option maxRecDepth 100000 in
theorem c_X3_mostCarried {g : kG} {l : Launch} {u : Nat → va_E} {n m t : Nat} {B : kB} {S : Nat → kS} {C : Nat → Int32}  (hc : CsB g u n B m S t C)  : CI g l yX3_mostCarried wsX3_mostCarried ({ frames := 2, cells := 0, slots := 0, locals := 46 }) [.ref (g.2.1 0)] u (fun r u' => r = mcB B n n ∧ u = u') := by
  refine CI.of (cc := cX3_mostCarried) (nL := 6) (ty := .int) (by decide +kernel) rfl (fun _ _ _ => rfl) (Nat.le_of_ble_eq_true rfl) ?_
  intro X hXl F hret
  subst hXl
  have hinX3 : ∀ w ∈ wsX30, w ∈ wsX3_mostCarried := by decide +kernel
  obtain ⟨nx, hN⟩ := hc.2.2.2.1
  show VL g X 0 0 u 0 [(0, .ref (g.2.1 0))] []
  refine r_iconst (v := -1) F (by decide) dX3_mostCarried_0 ?_
  refine r_istore_n (lv' := [(0, .ref (g.2.1 0)), (1, .int (-1))]) F (by decide) rfl dX3_mostCarried_1 ?_
  refine r_iconst (v := 0) F (by decide) dX3_mostCarried_2 ?_
  refine r_istore_n (lv' := [(0, .ref (g.2.1 0)), (1, .int (-1)), (2, .int 0)]) F (by decide) rfl dX3_mostCarried_3 ?_
  refine r_aload_n F 0 rfl dX3_mostCarried_4 ?_
  refine r_get (C := RX3) (T := TX3) (N := 4) F 0 hc.1 (by decide) hinX3 rfl 0 (by decide) (by decide +kernel) rfl dX3_mostCarried_5 ?_
  refine r_calli (g_VN (C := RX0) (T := TX0) (N := 7) (nA := 0) (As := []) (rest := []) F 1 hc.2.1.obj (by decide) rfl (c_X0_size hc.2.1 (by decide) ) gX3_mostCarried_X0_size_n54 rfl 9 rfl (by decide +kernel) (by decide +kernel) (by decide +kernel) (by decide +kernel) rfl ⟨Nat.le_of_ble_eq_true rfl, Nat.le_of_ble_eq_true rfl⟩ ⟨Nat.le_of_ble_eq_true rfl, Nat.le_of_ble_eq_true rfl⟩ rfl (Nat.le_of_ble_eq_true rfl) dX3_mostCarried_8) (fun r_1 u_1 hp_1 => ?_)
  obtain ⟨rfl, rfl⟩ := hp_1
  refine r_istore_n (lv' := [(0, .ref (g.2.1 0)), (1, .int (-1)), (2, .int 0), (3, .int (nI n))]) F (by decide) rfl dX3_mostCarried_11 ?_
  refine r_iconst (v := 0) F (by decide) dX3_mostCarried_12 ?_
  refine r_istore (lv' := [(0, .ref (g.2.1 0)), (1, .int (-1)), (2, .int 0), (3, .int (nI n)), (4, .int 0)]) F (by decide) rfl dX3_mostCarried_13 ?_
  have loop_15 : ∀ (k : Nat) (j : Nat) (x1_15 : Int32) (x2_15 : Int32) (x4_15 : Int32), j + k = n → x1_15 = mcB B n j → x2_15 = mcM B n j → x4_15 = nI j → VL g X 0 0 u 15 [(0, .ref (g.2.1 0)), (1, .int x1_15), (2, .int x2_15), (3, .int (nI n)), (4, .int x4_15)] [] := by
    intro k
    induction k with
    | zero =>
      rintro j x1_15 x2_15 x4_15 hk rfl rfl rfl
      have hjn : n = j := by omega
      subst hjn
      refine r_iload F 4 rfl dX3_mostCarried_15 ?_
      refine r_iload_n F 3 rfl dX3_mostCarried_17 ?_
      refine r_icmp_ge F 50 (by decide) dX3_mostCarried_18 (fun c_18_3 => ?_) (fun c_18_3 => absurd (Int32.le_refl _) c_18_3)
      clear c_18_3
      refine r_iload_n F 1 rfl dX3_mostCarried_50 ?_
      exact hret _ _ _ _ _ _ (Nat.le_of_ble_eq_true rfl) (Nat.le_of_ble_eq_true rfl) ⟨by rfl, rfl⟩ dX3_mostCarried_51
    | succ k ih_15 =>
      rintro j x1_15 x2_15 x4_15 hk rfl rfl rfl
      have hb : j < n := by omega
      refine r_iload F 4 rfl dX3_mostCarried_15 ?_
      refine r_iload_n F 3 rfl dX3_mostCarried_17 ?_
      refine r_icmp_ge F 50 (by decide) dX3_mostCarried_18 (fun c_18_4 => absurd c_18_4 (nI_ge (b := n) hb (by have := hc.2.1.le; omega))) (fun c_18_4 => ?_)
      clear c_18_4
      refine r_aload_n F 0 rfl dX3_mostCarried_21 ?_
      refine r_get (C := RX3) (T := TX3) (N := 4) F 0 hc.1 (by decide) hinX3 rfl 0 (by decide) (by decide +kernel) rfl dX3_mostCarried_22 ?_
      refine r_iload F 4 rfl dX3_mostCarried_25 ?_
      refine r_calli (g_VN (C := RX0) (T := TX0) (N := 7) (nA := 1) (As := [.int (nI j)]) (rest := []) F 1 hc.2.1.obj (by decide) rfl (c_X0_totalsOver hc.2.1 (by decide) hb) gX3_mostCarried_X0_totalsOver_n137 rfl 19 rfl (by decide +kernel) (by decide +kernel) (by decide +kernel) (by decide +kernel) rfl ⟨Nat.le_of_ble_eq_true rfl, Nat.le_of_ble_eq_true rfl⟩ ⟨Nat.le_of_ble_eq_true rfl, Nat.le_of_ble_eq_true rfl⟩ rfl (Nat.le_of_ble_eq_true rfl) dX3_mostCarried_27) (fun r_5 u_5 hp_5 => ?_)
      obtain ⟨rfl, rfl⟩ := hp_5
      refine r_istore (lv' := [(0, .ref (g.2.1 0)), (1, .int (mcB B n j)), (2, .int (mcM B n j)), (3, .int (nI n)), (4, .int (nI j)), (5, .int (bitC (carN B j n)))]) F (by decide) rfl dX3_mostCarried_30 ?_
      refine r_iload F 5 rfl dX3_mostCarried_32 ?_
      refine r_iload_n F 2 rfl dX3_mostCarried_34 ?_
      refine r_icmp_le F 44 (by decide) dX3_mostCarried_35 (fun c_35_6 => ?_) (fun c_35_6 => ?_)
      · skip
        refine r_iinc (lv' := [(0, .ref (g.2.1 0)), (1, .int (mcB B n j)), (2, .int (mcM B n j)), (3, .int (nI n)), (4, .int (nI (j + 1))), (5, .int (bitC (carN B j n)))]) F 4 rfl (nI_inc _) (by decide) rfl dX3_mostCarried_44 ?_
        refine r_goto F 15 (by decide) dX3_mostCarried_47 ?_
        refine r_lv (lv2 := [(0, .ref (g.2.1 0)), (1, .int (mcB B n j)), (2, .int (mcM B n j)), (3, .int (nI n)), (4, .int (nI (j + 1)))]) (by simp) ?_
        exact ih_15 (j + 1) _ _ _ (by omega)  (by simp [mcB, Int32.not_lt.mpr c_35_6]) (by simp [mcM, Int32.not_lt.mpr c_35_6]) rfl
      · skip
        refine r_iload F 5 rfl dX3_mostCarried_38 ?_
        refine r_istore_n (lv' := [(0, .ref (g.2.1 0)), (1, .int (mcB B n j)), (2, .int (bitC (carN B j n))), (3, .int (nI n)), (4, .int (nI j)), (5, .int (bitC (carN B j n)))]) F (by decide) rfl dX3_mostCarried_40 ?_
        refine r_iload F 4 rfl dX3_mostCarried_41 ?_
        refine r_istore_n (lv' := [(0, .ref (g.2.1 0)), (1, .int (nI j)), (2, .int (bitC (carN B j n))), (3, .int (nI n)), (4, .int (nI j)), (5, .int (bitC (carN B j n)))]) F (by decide) rfl dX3_mostCarried_43 ?_
        refine r_iinc (lv' := [(0, .ref (g.2.1 0)), (1, .int (nI j)), (2, .int (bitC (carN B j n))), (3, .int (nI n)), (4, .int (nI (j + 1))), (5, .int (bitC (carN B j n)))]) F 4 rfl (nI_inc _) (by decide) rfl dX3_mostCarried_44 ?_
        refine r_goto F 15 (by decide) dX3_mostCarried_47 ?_
        refine r_lv (lv2 := [(0, .ref (g.2.1 0)), (1, .int (nI j)), (2, .int (bitC (carN B j n))), (3, .int (nI n)), (4, .int (nI (j + 1)))]) (by simp) ?_
        exact ih_15 (j + 1) _ _ _ (by omega)  (by simp [mcB, c_35_6]) (by simp [mcM, c_35_6]) rfl
  exact loop_15 n 0 _ _ _ (by omega)  rfl rfl rfl
set_option maxHeartbeats 4000000 in
set_option maxRecDepth 100000 in
theorem c_X3_ofBox {g : kG} {l : Launch} {u : Nat → va_E} {n m t : Nat} {B : kB} {S : Nat → kS} {C : Nat → Int32} {b : Nat} {w mask : Int32} (hc : CsB g u n B m S t C) (hb : b < n) : CI g l yX3_ofBox wsX3_ofBox ({ frames := 4, cells := 0, slots := 0, locals := 90 }) [.ref (g.2.1 0), .int (nI b), .int w, .int mask] u (fun r u' => r = tB B mask b w ∧ CsB g u' n B m S t C ∧ ∀ j, 61 ≤ j → u' j = u j) := by
  refine CI.of (cc := cX3_ofBox) (nL := 4) (ty := .int) (by decide +kernel) rfl (fun _ _ _ => rfl) (Nat.le_of_ble_eq_true rfl) ?_
  intro X hXl F hret
  subst hXl
  have hinX3 : ∀ w ∈ wsX30, w ∈ wsX3_ofBox := by decide +kernel
  obtain ⟨nx, hN⟩ := hc.2.2.2.1
  show VL g X 0 0 u 0 [(0, .ref (g.2.1 0)), (1, .int (nI b)), (2, .int w), (3, .int mask)] []
  refine r_iload_n F 2 rfl dX3_ofBox_0 ?_
  by_cases h0 : w = 0
  · refine r_eq (st2 := [.int 0]) (by rw [h0]) rfl ?_
    refine r_tabIn F 44 (by decide) (by decide) rfl (by decide) dX3_ofBox_1 ?_
    refine r_aload_n F 0 rfl dX3_ofBox_44 ?_
    refine r_get (C := RX3) (T := TX3) (N := 4) F 0 hc.1 (by decide) hinX3 rfl 0 (by decide) (by decide +kernel) rfl dX3_ofBox_45 ?_
    refine r_iload_n F 1 rfl dX3_ofBox_48 ?_
    refine r_calli (g_VN (C := RX0) (T := TX0) (N := 7) (nA := 1) (As := [.int (nI b)]) (rest := []) F 1 hc.2.1.obj (by decide) rfl (c_X0_kindOf hc.2.1 (by decide) hb) gX3_ofBox_X0_kindOf_n65 rfl 25 rfl (by decide +kernel) (by decide +kernel) (by decide +kernel) (by decide +kernel) rfl ⟨Nat.le_of_ble_eq_true rfl, Nat.le_of_ble_eq_true rfl⟩ ⟨Nat.le_of_ble_eq_true rfl, Nat.le_of_ble_eq_true rfl⟩ rfl (Nat.le_of_ble_eq_true rfl) dX3_ofBox_49) (fun r_1 u_1 hp_1 => ?_)
    obtain ⟨rfl, rfl⟩ := hp_1
    exact hret _ _ _ _ _ _ (Nat.le_of_ble_eq_true rfl) (Nat.le_of_ble_eq_true rfl) ⟨by simp [tB, bI, h0], hc, fun j _ => rfl⟩ dX3_ofBox_52
  · skip
    by_cases h1 : w = 1
    · refine r_eq (st2 := [.int 1]) (by rw [h1]) rfl ?_
      refine r_tabIn F 53 (by decide) (by decide) rfl (by decide) dX3_ofBox_1 ?_
      refine r_aload_n F 0 rfl dX3_ofBox_53 ?_
      refine r_get (C := RX3) (T := TX3) (N := 4) F 0 hc.1 (by decide) hinX3 rfl 0 (by decide) (by decide +kernel) rfl dX3_ofBox_54 ?_
      refine r_iload_n F 1 rfl dX3_ofBox_57 ?_
      refine r_calli (g_VN (C := RX0) (T := TX0) (N := 7) (nA := 1) (As := [.int (nI b)]) (rest := []) F 1 hc.2.1.obj (by decide) rfl (c_X0_partOf hc.2.1 (by decide) hb) gX3_ofBox_X0_partOf_n201 rfl 26 rfl (by decide +kernel) (by decide +kernel) (by decide +kernel) (by decide +kernel) rfl ⟨Nat.le_of_ble_eq_true rfl, Nat.le_of_ble_eq_true rfl⟩ ⟨Nat.le_of_ble_eq_true rfl, Nat.le_of_ble_eq_true rfl⟩ rfl (Nat.le_of_ble_eq_true rfl) dX3_ofBox_58) (fun r_2 u_2 hp_2 => ?_)
      obtain ⟨rfl, rfl⟩ := hp_2
      exact hret _ _ _ _ _ _ (Nat.le_of_ble_eq_true rfl) (Nat.le_of_ble_eq_true rfl) ⟨by simp [tB, bI, h1], hc, fun j _ => rfl⟩ dX3_ofBox_61
    · skip
      by_cases h2 : w = 2
      · refine r_eq (st2 := [.int 2]) (by rw [h2]) rfl ?_
        refine r_tabIn F 62 (by decide) (by decide) rfl (by decide) dX3_ofBox_1 ?_
        refine r_aload_n F 0 rfl dX3_ofBox_62 ?_
        refine r_get (C := RX3) (T := TX3) (N := 4) F 0 hc.1 (by decide) hinX3 rfl 0 (by decide) (by decide +kernel) rfl dX3_ofBox_63 ?_
        refine r_iload_n F 1 rfl dX3_ofBox_66 ?_
        refine r_calli (g_VN (C := RX0) (T := TX0) (N := 7) (nA := 1) (As := [.int (nI b)]) (rest := []) F 1 hc.2.1.obj (by decide) rfl (c_X0_settingOf hc.2.1 (by decide) hb) gX3_ofBox_X0_settingOf_n204 rfl 27 rfl (by decide +kernel) (by decide +kernel) (by decide +kernel) (by decide +kernel) rfl ⟨Nat.le_of_ble_eq_true rfl, Nat.le_of_ble_eq_true rfl⟩ ⟨Nat.le_of_ble_eq_true rfl, Nat.le_of_ble_eq_true rfl⟩ rfl (Nat.le_of_ble_eq_true rfl) dX3_ofBox_67) (fun r_3 u_3 hp_3 => ?_)
        obtain ⟨rfl, rfl⟩ := hp_3
        exact hret _ _ _ _ _ _ (Nat.le_of_ble_eq_true rfl) (Nat.le_of_ble_eq_true rfl) ⟨by simp [tB, bI, h2], hc, fun j _ => rfl⟩ dX3_ofBox_70
      · skip
        by_cases h3 : w = 3
        · refine r_eq (st2 := [.int 3]) (by rw [h3]) rfl ?_
          refine r_tabIn F 71 (by decide) (by decide) rfl (by decide) dX3_ofBox_1 ?_
          refine r_aload_n F 0 rfl dX3_ofBox_71 ?_
          refine r_get (C := RX3) (T := TX3) (N := 4) F 0 hc.1 (by decide) hinX3 rfl 0 (by decide) (by decide +kernel) rfl dX3_ofBox_72 ?_
          refine r_iload_n F 1 rfl dX3_ofBox_75 ?_
          refine r_calli (g_VN (C := RX0) (T := TX0) (N := 7) (nA := 1) (As := [.int (nI b)]) (rest := []) F 1 hc.2.1.obj (by decide) rfl (c_X0_limitOf hc.2.1 (by decide) hb) gX3_ofBox_X0_limitOf_n207 rfl 28 rfl (by decide +kernel) (by decide +kernel) (by decide +kernel) (by decide +kernel) rfl ⟨Nat.le_of_ble_eq_true rfl, Nat.le_of_ble_eq_true rfl⟩ ⟨Nat.le_of_ble_eq_true rfl, Nat.le_of_ble_eq_true rfl⟩ rfl (Nat.le_of_ble_eq_true rfl) dX3_ofBox_76) (fun r_4 u_4 hp_4 => ?_)
          obtain ⟨rfl, rfl⟩ := hp_4
          exact hret _ _ _ _ _ _ (Nat.le_of_ble_eq_true rfl) (Nat.le_of_ble_eq_true rfl) ⟨by simp [tB, bI, h3], hc, fun j _ => rfl⟩ dX3_ofBox_79
        · skip
          by_cases h4 : w = 4
          · refine r_eq (st2 := [.int 4]) (by rw [h4]) rfl ?_
            refine r_tabIn F 80 (by decide) (by decide) rfl (by decide) dX3_ofBox_1 ?_
            refine r_aload_n F 0 rfl dX3_ofBox_80 ?_
            refine r_get (C := RX3) (T := TX3) (N := 4) F 0 hc.1 (by decide) hinX3 rfl 0 (by decide) (by decide +kernel) rfl dX3_ofBox_81 ?_
            refine r_iload_n F 1 rfl dX3_ofBox_84 ?_
            refine r_calli (g_VN (C := RX0) (T := TX0) (N := 7) (nA := 1) (As := [.int (nI b)]) (rest := []) F 1 hc.2.1.obj (by decide) rfl (c_X0_answerOf hc.2.1 (by decide) hb) gX3_ofBox_X0_answerOf_n210 rfl 29 rfl (by decide +kernel) (by decide +kernel) (by decide +kernel) (by decide +kernel) rfl ⟨Nat.le_of_ble_eq_true rfl, Nat.le_of_ble_eq_true rfl⟩ ⟨Nat.le_of_ble_eq_true rfl, Nat.le_of_ble_eq_true rfl⟩ rfl (Nat.le_of_ble_eq_true rfl) dX3_ofBox_85) (fun r_5 u_5 hp_5 => ?_)
            obtain ⟨rfl, rfl⟩ := hp_5
            exact hret _ _ _ _ _ _ (Nat.le_of_ble_eq_true rfl) (Nat.le_of_ble_eq_true rfl) ⟨by simp [tB, bI, h4], hc, fun j _ => rfl⟩ dX3_ofBox_88
          · skip
            by_cases h5 : w = 5
            · refine r_eq (st2 := [.int 5]) (by rw [h5]) rfl ?_
              refine r_tabIn F 89 (by decide) (by decide) rfl (by decide) dX3_ofBox_1 ?_
              refine r_aload_n F 0 rfl dX3_ofBox_89 ?_
              refine r_get (C := RX3) (T := TX3) (N := 4) F 0 hc.1 (by decide) hinX3 rfl 0 (by decide) (by decide +kernel) rfl dX3_ofBox_90 ?_
              refine r_iload_n F 1 rfl dX3_ofBox_93 ?_
              refine r_iload_n F 3 rfl dX3_ofBox_94 ?_
              obtain ⟨V_6, hV_6⟩ := hc.2.1.V
              refine r_eq (st2 := [.int mask, .int (nI (b + 1) - 1), .ref (g.2.1 1)]) (by rw [nI_pred]) rfl ?_
              refine r_calli (g_VN (C := RX0) (T := TX0) (N := 7) (nA := 2) (As := [.int (nI (b + 1) - 1), .int mask]) (rest := []) F 1 hc.2.1.obj (by decide) rfl (c_X0_valueOf hV_6 (by decide) hb) gX3_ofBox_X0_valueOf_n213 rfl 30 rfl (by decide +kernel) (by decide +kernel) (by decide +kernel) (by decide +kernel) rfl ⟨Nat.le_of_ble_eq_true rfl, Nat.le_of_ble_eq_true rfl⟩ ⟨Nat.le_of_ble_eq_true rfl, Nat.le_of_ble_eq_true rfl⟩ rfl (Nat.le_of_ble_eq_true rfl) dX3_ofBox_95) (fun r_7 u_7 hp_7 => ?_)
              obtain ⟨er_7, hW_7, hk_7⟩ := hp_7
              have er2_7 : r_7 = valX B mask b := er_7.trans (by rw [valR_Z (by have := hc.2.1.le; omega)]; rfl)
              subst er2_7
              exact hret _ _ _ _ _ _ (Nat.le_of_ble_eq_true rfl) (Nat.le_of_ble_eq_true rfl) ⟨by simp [tB, h5], hc.form hW_7.B (fun j hj => hk_7 j (by omega)), fun j hj => hk_7 j (by omega)⟩ dX3_ofBox_98
            · skip
              by_cases h6 : w = 6
              · refine r_eq (st2 := [.int 6]) (by rw [h6]) rfl ?_
                refine r_tabIn F 99 (by decide) (by decide) rfl (by decide) dX3_ofBox_1 ?_
                refine r_aload_n F 0 rfl dX3_ofBox_99 ?_
                refine r_get (C := RX3) (T := TX3) (N := 4) F 0 hc.1 (by decide) hinX3 rfl 0 (by decide) (by decide +kernel) rfl dX3_ofBox_100 ?_
                refine r_iload_n F 1 rfl dX3_ofBox_103 ?_
                refine r_iload_n F 3 rfl dX3_ofBox_104 ?_
                refine r_calli (g_VN (C := RX0) (T := TX0) (N := 7) (nA := 2) (As := [.int (nI b), .int mask]) (rest := []) F 1 hc.2.1.obj (by decide) rfl (c_X0_isOpen hc.2.1 (by decide) hb) gX3_ofBox_X0_isOpen_n216 rfl 31 rfl (by decide +kernel) (by decide +kernel) (by decide +kernel) (by decide +kernel) rfl ⟨Nat.le_of_ble_eq_true rfl, Nat.le_of_ble_eq_true rfl⟩ ⟨Nat.le_of_ble_eq_true rfl, Nat.le_of_ble_eq_true rfl⟩ rfl (Nat.le_of_ble_eq_true rfl) dX3_ofBox_105) (fun r_8 u_8 hp_8 => ?_)
                obtain ⟨rfl, rfl⟩ := hp_8
                refine r_if_eq F 115 (by decide) dX3_ofBox_108 (fun c_108_9 => ?_) (fun c_108_9 => ?_)
                · skip
                  replace c_108_9 := bI0 c_108_9
                  refine r_iconst (v := 0) F (by decide) dX3_ofBox_115 ?_
                  exact hret _ _ _ _ _ _ (Nat.le_of_ble_eq_true rfl) (Nat.le_of_ble_eq_true rfl) ⟨by simp [tB, bI, h6, c_108_9], hc, fun j _ => rfl⟩ dX3_ofBox_116
                · skip
                  replace c_108_9 := bI1 c_108_9
                  refine r_iconst (v := 1) F (by decide) dX3_ofBox_111 ?_
                  refine r_goto F 116 (by decide) dX3_ofBox_112 ?_
                  exact hret _ _ _ _ _ _ (Nat.le_of_ble_eq_true rfl) (Nat.le_of_ble_eq_true rfl) ⟨by simp [tB, bI, h6, c_108_9], hc, fun j _ => rfl⟩ dX3_ofBox_116
              · skip
                refine r_tabOut F 117 (by have q0 : ¬ (w).toInt = 0 := fun q => h0 (Int32.toInt_inj.mp q); have q1 : ¬ (w).toInt = 1 := fun q => h1 (Int32.toInt_inj.mp q); have q2 : ¬ (w).toInt = 2 := fun q => h2 (Int32.toInt_inj.mp q); have q3 : ¬ (w).toInt = 3 := fun q => h3 (Int32.toInt_inj.mp q); have q4 : ¬ (w).toInt = 4 := fun q => h4 (Int32.toInt_inj.mp q); have q5 : ¬ (w).toInt = 5 := fun q => h5 (Int32.toInt_inj.mp q); have q6 : ¬ (w).toInt = 6 := fun q => h6 (Int32.toInt_inj.mp q); omega) (by decide) dX3_ofBox_1 ?_
                refine r_aload_n F 0 rfl dX3_ofBox_117 ?_
                refine r_get (C := RX3) (T := TX3) (N := 4) F 0 hc.1 (by decide) hinX3 rfl 0 (by decide) (by decide +kernel) rfl dX3_ofBox_118 ?_
                refine r_iload_n F 1 rfl dX3_ofBox_121 ?_
                refine r_iload_n F 3 rfl dX3_ofBox_122 ?_
                refine r_calli (g_VN (C := RX0) (T := TX0) (N := 7) (nA := 2) (As := [.int (nI b), .int mask]) (rest := []) F 1 hc.2.1.obj (by decide) rfl (c_X0_wants hc.2.1 (by decide) hb) gX3_ofBox_X0_wants_n219 rfl 32 rfl (by decide +kernel) (by decide +kernel) (by decide +kernel) (by decide +kernel) rfl ⟨Nat.le_of_ble_eq_true rfl, Nat.le_of_ble_eq_true rfl⟩ ⟨Nat.le_of_ble_eq_true rfl, Nat.le_of_ble_eq_true rfl⟩ rfl (Nat.le_of_ble_eq_true rfl) dX3_ofBox_123) (fun r_10 u_10 hp_10 => ?_)
                obtain ⟨rfl, rfl⟩ := hp_10
                refine r_if_eq F 133 (by decide) dX3_ofBox_126 (fun c_126_11 => ?_) (fun c_126_11 => ?_)
                · skip
                  replace c_126_11 := bI0 c_126_11
                  refine r_iconst (v := 0) F (by decide) dX3_ofBox_133 ?_
                  exact hret _ _ _ _ _ _ (Nat.le_of_ble_eq_true rfl) (Nat.le_of_ble_eq_true rfl) ⟨by simp [tB, bI, h0, h1, h2, h3, h4, h5, h6, c_126_11], hc, fun j _ => rfl⟩ dX3_ofBox_134
                · skip
                  replace c_126_11 := bI1 c_126_11
                  refine r_iconst (v := 1) F (by decide) dX3_ofBox_129 ?_
                  refine r_goto F 134 (by decide) dX3_ofBox_130 ?_
                  exact hret _ _ _ _ _ _ (Nat.le_of_ble_eq_true rfl) (Nat.le_of_ble_eq_true rfl) ⟨by simp [tB, bI, h0, h1, h2, h3, h4, h5, h6, c_126_11], hc, fun j _ => rfl⟩ dX3_ofBox_134
set_option maxHeartbeats 4000000 in
set_option maxRecDepth 100000 in
theorem c_X3_ofTrial {g : kG} {l : Launch} {u : Nat → va_E} {n m t : Nat} {B : kB} {S : Nat → kS} {C : Nat → Int32} {b : Nat} {v w : Int32} (hc : CsB g u n B m S t C) (hb : b < n) : CI g l yX3_ofTrial wsX3_ofTrial ({ frames := 4, cells := 0, slots := 0, locals := 90 }) [.ref (g.2.1 0), .int (nI b), .int v, .int w] u (fun r u' => r = tT B n b v w ∧ CsB g u' n B m S t C ∧ ∀ j, 61 ≤ j → u' j = u j) := by
  refine CI.of (cc := cX3_ofTrial) (nL := 5) (ty := .int) (by decide +kernel) rfl (fun _ _ _ => rfl) (Nat.le_of_ble_eq_true rfl) ?_
  intro X hXl F hret
  subst hXl
  have hinX3 : ∀ w ∈ wsX30, w ∈ wsX3_ofTrial := by decide +kernel
  obtain ⟨nx, hN⟩ := hc.2.2.2.1
  obtain ⟨sz, G, V, hL8⟩ := hc.2.2.1
  show VL g X 0 0 u 0 [(0, .ref (g.2.1 0)), (1, .int (nI b)), (2, .int v), (3, .int w)] []
  refine r_aload_n F 0 rfl dX3_ofTrial_0 ?_
  refine r_get (C := RX3) (T := TX3) (N := 4) F 0 hc.1 (by decide) hinX3 rfl 1 (by decide) (by decide +kernel) rfl dX3_ofTrial_1 ?_
  refine r_aload_n F 0 rfl dX3_ofTrial_4 ?_
  refine r_get (C := RX3) (T := TX3) (N := 4) F 0 hc.1 (by decide) hinX3 rfl 0 (by decide) (by decide +kernel) rfl dX3_ofTrial_5 ?_
  refine r_callv (g_VN (C := RX0) (T := TX0) (N := 7) (nA := 1) (As := [.ref (g.2.1 1)]) (rest := []) F 8 hL8.1 (by decide) rfl (c_X0_copyFrom hL8 (by decide) hc.2.1 (by decide) (Or.inr (by decide))) gX3_ofTrial_X0_copyFrom_n248 rfl 33 rfl (by decide +kernel) (by decide +kernel) (by decide +kernel) (by decide +kernel) rfl ⟨Nat.le_of_ble_eq_true rfl, Nat.le_of_ble_eq_true rfl⟩ ⟨Nat.le_of_ble_eq_true rfl, Nat.le_of_ble_eq_true rfl⟩ rfl (Nat.le_of_ble_eq_true rfl) dX3_ofTrial_8) (fun u_1 hp_1 => ?_)
  obtain ⟨hB_1, hk_1⟩ := hp_1
  have h0_1 : u_1 0 = .inr (3, [.ref (g.2.1 1), .ref (g.2.1 8), .ref (g.2.1 15), .ref (g.2.1 59)]) := (hk_1 0 (by omega)).trans hc.1
  refine r_aload_n F 0 rfl dX3_ofTrial_11 ?_
  refine r_get (C := RX3) (T := TX3) (N := 4) F 0 h0_1 (by decide) hinX3 rfl 1 (by decide) (by decide +kernel) rfl dX3_ofTrial_12 ?_
  refine r_iload_n F 1 rfl dX3_ofTrial_15 ?_
  refine r_iload_n F 2 rfl dX3_ofTrial_16 ?_
  refine r_callv (g_VN (C := RX0) (T := TX0) (N := 7) (nA := 2) (As := [.int (nI b), .int v]) (rest := []) F 8 hB_1.obj (by decide) rfl (c_X0_give hB_1 (by decide) hb) gX3_ofTrial_X0_give_n80 rfl 10 rfl (by decide +kernel) (by decide +kernel) (by decide +kernel) (by decide +kernel) rfl ⟨Nat.le_of_ble_eq_true rfl, Nat.le_of_ble_eq_true rfl⟩ ⟨Nat.le_of_ble_eq_true rfl, Nat.le_of_ble_eq_true rfl⟩ rfl (Nat.le_of_ble_eq_true rfl) dX3_ofTrial_17) (fun u_2 hp_2 => ?_)
  obtain ⟨hB_2, hk_2⟩ := hp_2
  have h0_2 : u_2 0 = .inr (3, [.ref (g.2.1 1), .ref (g.2.1 8), .ref (g.2.1 15), .ref (g.2.1 59)]) := (hk_2 0 (by omega)).trans h0_1
  refine r_aload_n F 0 rfl dX3_ofTrial_20 ?_
  refine r_get (C := RX3) (T := TX3) (N := 4) F 0 h0_2 (by decide) hinX3 rfl 1 (by decide) (by decide +kernel) rfl dX3_ofTrial_21 ?_
  refine r_calli (g_VN (C := RX0) (T := TX0) (N := 7) (nA := 0) (As := []) (rest := []) F 8 hB_2.obj (by decide) rfl (c_X0_openParts hB_2 (by decide) ) gX3_ofTrial_X0_openParts_n83 rfl 20 rfl (by decide +kernel) (by decide +kernel) (by decide +kernel) (by decide +kernel) rfl ⟨Nat.le_of_ble_eq_true rfl, Nat.le_of_ble_eq_true rfl⟩ ⟨Nat.le_of_ble_eq_true rfl, Nat.le_of_ble_eq_true rfl⟩ rfl (Nat.le_of_ble_eq_true rfl) dX3_ofTrial_24) (fun r_3 u_3 hp_3 => ?_)
  obtain ⟨rfl, rfl⟩ := hp_3
  refine r_istore (lv' := [(0, .ref (g.2.1 0)), (1, .int (nI b)), (2, .int v), (3, .int w), (4, .int (opm (bUp B b 4 v) n))]) F (by decide) rfl dX3_ofTrial_27 ?_
  refine r_iload_n F 3 rfl dX3_ofTrial_29 ?_
  by_cases h0 : w = 0
  · refine r_eq (st2 := [.int 0]) (by rw [h0]) rfl ?_
    refine r_lookup (dflt := 39) (ps := #[(0, 26), (1, 36)]) (off := 26) F 56 (by decide) (by decide) (by decide) dX3_ofTrial_30 ?_
    refine r_aload_n F 0 rfl dX3_ofTrial_56 ?_
    refine r_get (C := RX3) (T := TX3) (N := 4) F 0 h0_2 (by decide) hinX3 rfl 1 (by decide) (by decide +kernel) rfl dX3_ofTrial_57 ?_
    refine r_iload F 4 rfl dX3_ofTrial_60 ?_
    refine r_calli (g_VN (C := RX0) (T := TX0) (N := 7) (nA := 1) (As := [.int (opm (bUp B b 4 v) n)]) (rest := []) F 8 hB_2.obj (by decide) rfl (c_X0_wanting hB_2 (by decide) ) gX3_ofTrial_X0_wanting_n86 rfl 18 rfl (by decide +kernel) (by decide +kernel) (by decide +kernel) (by decide +kernel) rfl ⟨Nat.le_of_ble_eq_true rfl, Nat.le_of_ble_eq_true rfl⟩ ⟨Nat.le_of_ble_eq_true rfl, Nat.le_of_ble_eq_true rfl⟩ rfl (Nat.le_of_ble_eq_true rfl) dX3_ofTrial_62) (fun r_4 u_4 hp_4 => ?_)
    obtain ⟨rfl, rfl⟩ := hp_4
    exact hret _ _ _ _ _ _ (Nat.le_of_ble_eq_true rfl) (Nat.le_of_ble_eq_true rfl) ⟨by simp [tT, h0], hc.trial hB_2.L (fun j hj => (hk_2 j (by omega)).trans (hk_1 j (by omega))), fun j hj => (hk_2 j (by omega)).trans (hk_1 j (by omega))⟩ dX3_ofTrial_65
  · skip
    by_cases h1 : w = 1
    · refine r_eq (st2 := [.int 1]) (by rw [h1]) rfl ?_
      refine r_lookup (dflt := 39) (ps := #[(0, 26), (1, 36)]) (off := 36) F 66 (by decide) (by decide) (by decide) dX3_ofTrial_30 ?_
      refine r_iload F 4 rfl dX3_ofTrial_66 ?_
      exact hret _ _ _ _ _ _ (Nat.le_of_ble_eq_true rfl) (Nat.le_of_ble_eq_true rfl) ⟨by simp [tT, h1], hc.trial hB_2.L (fun j hj => (hk_2 j (by omega)).trans (hk_1 j (by omega))), fun j hj => (hk_2 j (by omega)).trans (hk_1 j (by omega))⟩ dX3_ofTrial_68
    · skip
      refine r_lookup (dflt := 39) (ps := #[(0, 26), (1, 36)]) (off := 39) F 69 (by decide) ((lv_osw (k := 0) (a := 0) (o := 26) (d := 39) (r := [(1, 36)]) h0 (by decide)).trans ((lv_osw (k := 1) (a := 1) (o := 36) (d := 39) (r := []) h1 (by decide)).trans rfl)) (by decide) dX3_ofTrial_30 ?_
      refine r_aload_n F 0 rfl dX3_ofTrial_69 ?_
      refine r_get (C := RX3) (T := TX3) (N := 4) F 0 h0_2 (by decide) hinX3 rfl 1 (by decide) (by decide +kernel) rfl dX3_ofTrial_70 ?_
      refine r_aload_n F 0 rfl dX3_ofTrial_73 ?_
      refine r_get (C := RX3) (T := TX3) (N := 4) F 0 h0_2 (by decide) hinX3 rfl 1 (by decide) (by decide +kernel) rfl dX3_ofTrial_74 ?_
      refine r_calli (g_VN (C := RX0) (T := TX0) (N := 7) (nA := 0) (As := []) (rest := [.ref (g.2.1 8)]) F 8 hB_2.obj (by decide) rfl (c_X0_lastTotal hB_2 (by decide) ) gX3_ofTrial_X0_lastTotal_n251 rfl 34 rfl (by decide +kernel) (by decide +kernel) (by decide +kernel) (by decide +kernel) rfl ⟨Nat.le_of_ble_eq_true rfl, Nat.le_of_ble_eq_true rfl⟩ ⟨Nat.le_of_ble_eq_true rfl, Nat.le_of_ble_eq_true rfl⟩ rfl (Nat.le_of_ble_eq_true rfl) dX3_ofTrial_77) (fun r_5 u_5 hp_5 => ?_)
      obtain ⟨rfl, rfl⟩ := hp_5
      refine r_iload F 4 rfl dX3_ofTrial_80 ?_
      obtain ⟨V_6, hV_6⟩ := hB_2.V
      refine r_eq (st2 := [.int (opm (bUp B b 4 v) n), .int (nI (lastM (bUp B b 4 v) n) - 1), .ref (g.2.1 8)]) (by rw [lastT_M]) rfl ?_
      refine r_calli (g_VN (C := RX0) (T := TX0) (N := 7) (nA := 2) (As := [.int (nI (lastM (bUp B b 4 v) n) - 1), .int (opm (bUp B b 4 v) n)]) (rest := []) F 8 hB_2.obj (by decide) rfl (c_X0_valueOf hV_6 (by decide) lastM_le) gX3_ofTrial_X0_valueOf_n213 rfl 30 rfl (by decide +kernel) (by decide +kernel) (by decide +kernel) (by decide +kernel) rfl ⟨Nat.le_of_ble_eq_true rfl, Nat.le_of_ble_eq_true rfl⟩ ⟨Nat.le_of_ble_eq_true rfl, Nat.le_of_ble_eq_true rfl⟩ rfl (Nat.le_of_ble_eq_true rfl) dX3_ofTrial_82) (fun r_7 u_7 hp_7 => ?_)
      obtain ⟨er_7, hW_7, hk_7⟩ := hp_7
      have er2_7 : r_7 = valZ (bUp B b 4 v) (opm (bUp B b 4 v) n) (lastM (bUp B b 4 v) n) := er_7.trans (valR_Z (by have := hB_2.le; have := lastM_le (B := bUp B b 4 v) (n := n); omega))
      subst er2_7
      exact hret _ _ _ _ _ _ (Nat.le_of_ble_eq_true rfl) (Nat.le_of_ble_eq_true rfl) ⟨by simp [tT, h0, h1], hc.trial hW_7.B.L (fun j hj => (hk_7 j (by omega)).trans ((hk_2 j (by omega)).trans (hk_1 j (by omega)))), fun j hj => (hk_7 j (by omega)).trans ((hk_2 j (by omega)).trans (hk_1 j (by omega)))⟩ dX3_ofTrial_85

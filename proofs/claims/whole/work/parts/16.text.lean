set_option maxHeartbeats 4000000 in
set_option maxRecDepth 100000 in
theorem c_X2_isDigit {g : kG} {l : Launch} {u : Nat → va_E} {c : Int32}  : CI g l yX2_isDigit wsX2_isDigit ({ frames := 1, cells := 0, slots := 0, locals := 22 }) [.int c] u (fun r u' => r = bI (digC c) ∧ u = u') := by
  refine CI.of (cc := cX2_isDigit) (nL := 1) (ty := .boolean) (by decide +kernel) rfl (fun v u' h => by obtain ⟨h, -⟩ := h; rw [h]; exact bI_n _) (Nat.le_of_ble_eq_true rfl) ?_
  intro X hXl F hret
  subst hXl
  show VL g X 0 0 u 0 [(0, .int c)] []
  refine r_iload_n F 0 rfl dX2_isDigit_0 ?_
  refine r_bipush (v := 48) F (by decide) dX2_isDigit_1 ?_
  refine r_bipush (v := 57) F (by decide) dX2_isDigit_3 ?_
  refine r_calli (g_SN (nA := 3) (As := [.int c, .int 48, .int 57]) (rest := []) F (c_X3_isWithin) gX2_isDigit_X3_isWithin_n39 rfl 15 rfl (by decide +kernel) (by decide +kernel) (by decide +kernel) rfl ⟨Nat.le_of_ble_eq_true rfl, Nat.le_of_ble_eq_true rfl⟩ ⟨Nat.le_of_ble_eq_true rfl, Nat.le_of_ble_eq_true rfl⟩ rfl (Nat.le_of_ble_eq_true rfl) dX2_isDigit_5) (fun r_1 u_1 hp_1 => ?_)
  obtain ⟨rfl, rfl⟩ := hp_1
  exact hret _ _ _ _ _ _ (Nat.le_of_ble_eq_true rfl) (Nat.le_of_ble_eq_true rfl) ⟨by rfl, rfl⟩ dX2_isDigit_8
set_option maxHeartbeats 4000000 in
set_option maxRecDepth 100000 in
theorem c_X2_afterBox {g : kG} {l : Launch} {u : Nat → va_E} {c : Int32}  : CI g l yX2_afterBox wsX2_afterBox ({ frames := 0, cells := 0, slots := 0, locals := 0 }) [.int c] u (fun r u' => r = aBox c ∧ u = u') := by
  refine CI.of (cc := cX2_afterBox) (nL := 1) (ty := .int) (by decide +kernel) rfl (fun _ _ _ => rfl) (Nat.le_of_ble_eq_true rfl) ?_
  intro X hXl F hret
  subst hXl
  show VL g X 0 0 u 0 [(0, .int c)] []
  refine r_iload_n F 0 rfl dX2_afterBox_0 ?_
  refine r_bipush (v := 61) F (by decide) dX2_afterBox_1 ?_
  refine r_icmp_ne F 10 (by decide) dX2_afterBox_3 (fun c_3_1 => ?_) (fun c_3_1 => ?_)
  · skip
    refine r_iconst (v := -1) F (by decide) dX2_afterBox_10 ?_
    exact hret _ _ _ _ _ _ (Nat.le_of_ble_eq_true rfl) (Nat.le_of_ble_eq_true rfl) ⟨by simp [aBox, c_3_1], rfl⟩ dX2_afterBox_11
  · skip
    refine r_iconst (v := 3) F (by decide) dX2_afterBox_6 ?_
    refine r_goto F 11 (by decide) dX2_afterBox_7 ?_
    exact hret _ _ _ _ _ _ (Nat.le_of_ble_eq_true rfl) (Nat.le_of_ble_eq_true rfl) ⟨by simp [aBox, c_3_1], rfl⟩ dX2_afterBox_11
set_option maxHeartbeats 4000000 in
set_option maxRecDepth 100000 in
theorem c_X2_afterAnswer {g : kG} {l : Launch} {u : Nat → va_E} {c : Int32}  : CI g l yX2_afterAnswer wsX2_afterAnswer ({ frames := 0, cells := 0, slots := 0, locals := 0 }) [.int c] u (fun r u' => r = aAns c ∧ u = u') := by
  refine CI.of (cc := cX2_afterAnswer) (nL := 1) (ty := .int) (by decide +kernel) rfl (fun _ _ _ => rfl) (Nat.le_of_ble_eq_true rfl) ?_
  intro X hXl F hret
  subst hXl
  show VL g X 0 0 u 0 [(0, .int c)] []
  refine r_iload_n F 0 rfl dX2_afterAnswer_0 ?_
  refine r_bipush (v := 44) F (by decide) dX2_afterAnswer_1 ?_
  refine r_icmp_ne F 10 (by decide) dX2_afterAnswer_3 (fun c_3_1 => ?_) (fun c_3_1 => ?_)
  · skip
    refine r_iconst (v := -1) F (by decide) dX2_afterAnswer_10 ?_
    exact hret _ _ _ _ _ _ (Nat.le_of_ble_eq_true rfl) (Nat.le_of_ble_eq_true rfl) ⟨by simp [aAns, c_3_1], rfl⟩ dX2_afterAnswer_11
  · skip
    refine r_iconst (v := 0) F (by decide) dX2_afterAnswer_6 ?_
    refine r_goto F 11 (by decide) dX2_afterAnswer_7 ?_
    exact hret _ _ _ _ _ _ (Nat.le_of_ble_eq_true rfl) (Nat.le_of_ble_eq_true rfl) ⟨by simp [aAns, c_3_1], rfl⟩ dX2_afterAnswer_11
set_option maxHeartbeats 4000000 in
set_option maxRecDepth 100000 in
theorem c_X2_stateAfter {g : kG} {l : Launch} {u : Nat → va_E} {x c : Int32}  : CI g l yX2_stateAfter wsX2_stateAfter ({ frames := 2, cells := 0, slots := 0, locals := 42 }) [.int x, .int c] u (fun r u' => r = stA x c ∧ u = u') := by
  refine CI.of (cc := cX2_stateAfter) (nL := 2) (ty := .int) (by decide +kernel) rfl (fun _ _ _ => rfl) (Nat.le_of_ble_eq_true rfl) ?_
  intro X hXl F hret
  subst hXl
  show VL g X 0 0 u 0 [(0, .int x), (1, .int c)] []
  refine r_iload_n F 0 rfl dX2_stateAfter_0 ?_
  by_cases h0 : x = 0
  · refine r_eq (st2 := [.int 0]) (by rw [h0]) rfl ?_
    refine r_tabIn F 52 (by decide) (by decide) rfl (by decide) dX2_stateAfter_1 ?_
    refine r_iload_n F 1 rfl dX2_stateAfter_52 ?_
    refine r_bipush (v := 49) F (by decide) dX2_stateAfter_53 ?_
    refine r_icmp_ne F 62 (by decide) dX2_stateAfter_55 (fun c_55_1 => ?_) (fun c_55_1 => ?_)
    · skip
      refine r_iload_n F 1 rfl dX2_stateAfter_62 ?_
      refine r_calli (g_S (nA := 1) (As := [.int c]) (rest := []) F (c_X2_isDigit) gX2_stateAfter_X2_isDigit rfl (by decide +kernel) rfl ⟨Nat.le_of_ble_eq_true rfl, Nat.le_of_ble_eq_true rfl⟩ ⟨Nat.le_of_ble_eq_true rfl, Nat.le_of_ble_eq_true rfl⟩ rfl (Nat.le_of_ble_eq_true rfl) dX2_stateAfter_63) (fun r_2 u_2 hp_2 => ?_)
      obtain ⟨rfl, rfl⟩ := hp_2
      refine r_if_eq F 73 (by decide) dX2_stateAfter_66 (fun c_66_3 => ?_) (fun c_66_3 => ?_)
      · skip
        replace c_66_3 := bI0 c_66_3
        refine r_iconst (v := -1) F (by decide) dX2_stateAfter_73 ?_
        exact hret _ _ _ _ _ _ (Nat.le_of_ble_eq_true rfl) (Nat.le_of_ble_eq_true rfl) ⟨by simp [stA, h0, c_55_1, c_66_3], rfl⟩ dX2_stateAfter_74
      · skip
        replace c_66_3 := bI1 c_66_3
        refine r_iconst (v := 2) F (by decide) dX2_stateAfter_69 ?_
        refine r_goto F 74 (by decide) dX2_stateAfter_70 ?_
        exact hret _ _ _ _ _ _ (Nat.le_of_ble_eq_true rfl) (Nat.le_of_ble_eq_true rfl) ⟨by simp [stA, h0, c_55_1, c_66_3], rfl⟩ dX2_stateAfter_74
    · skip
      refine r_iconst (v := 1) F (by decide) dX2_stateAfter_58 ?_
      refine r_goto F 74 (by decide) dX2_stateAfter_59 ?_
      exact hret _ _ _ _ _ _ (Nat.le_of_ble_eq_true rfl) (Nat.le_of_ble_eq_true rfl) ⟨by simp [stA, h0, c_55_1], rfl⟩ dX2_stateAfter_74
  · skip
    by_cases h1 : x = 1
    · refine r_eq (st2 := [.int 1]) (by rw [h1]) rfl ?_
      refine r_tabIn F 75 (by decide) (by decide) rfl (by decide) dX2_stateAfter_1 ?_
      refine r_iload_n F 1 rfl dX2_stateAfter_75 ?_
      refine r_bipush (v := 48) F (by decide) dX2_stateAfter_76 ?_
      refine r_bipush (v := 53) F (by decide) dX2_stateAfter_78 ?_
      refine r_calli (g_SN (nA := 3) (As := [.int c, .int 48, .int 53]) (rest := []) F (c_X3_isWithin) gX2_stateAfter_X3_isWithin_n39 rfl 15 rfl (by decide +kernel) (by decide +kernel) (by decide +kernel) rfl ⟨Nat.le_of_ble_eq_true rfl, Nat.le_of_ble_eq_true rfl⟩ ⟨Nat.le_of_ble_eq_true rfl, Nat.le_of_ble_eq_true rfl⟩ rfl (Nat.le_of_ble_eq_true rfl) dX2_stateAfter_80) (fun r_4 u_4 hp_4 => ?_)
      obtain ⟨rfl, rfl⟩ := hp_4
      refine r_if_eq F 90 (by decide) dX2_stateAfter_83 (fun c_83_5 => ?_) (fun c_83_5 => ?_)
      · skip
        replace c_83_5 := bI0 c_83_5
        refine r_iload_n F 1 rfl dX2_stateAfter_90 ?_
        refine r_calli (g_S (nA := 1) (As := [.int c]) (rest := []) F (c_X2_afterBox) gX2_stateAfter_X2_afterBox rfl (by decide +kernel) rfl ⟨Nat.le_of_ble_eq_true rfl, Nat.le_of_ble_eq_true rfl⟩ ⟨Nat.le_of_ble_eq_true rfl, Nat.le_of_ble_eq_true rfl⟩ rfl (Nat.le_of_ble_eq_true rfl) dX2_stateAfter_91) (fun r_6 u_6 hp_6 => ?_)
        obtain ⟨rfl, rfl⟩ := hp_6
        exact hret _ _ _ _ _ _ (Nat.le_of_ble_eq_true rfl) (Nat.le_of_ble_eq_true rfl) ⟨by simp [stA, h1, c_83_5], rfl⟩ dX2_stateAfter_94
      · skip
        replace c_83_5 := bI1 c_83_5
        refine r_iconst (v := 2) F (by decide) dX2_stateAfter_86 ?_
        refine r_goto F 94 (by decide) dX2_stateAfter_87 ?_
        exact hret _ _ _ _ _ _ (Nat.le_of_ble_eq_true rfl) (Nat.le_of_ble_eq_true rfl) ⟨by simp [stA, h1, c_83_5], rfl⟩ dX2_stateAfter_94
    · skip
      by_cases h2 : x = 2
      · refine r_eq (st2 := [.int 2]) (by rw [h2]) rfl ?_
        refine r_tabIn F 95 (by decide) (by decide) rfl (by decide) dX2_stateAfter_1 ?_
        refine r_iload_n F 1 rfl dX2_stateAfter_95 ?_
        refine r_calli (g_S (nA := 1) (As := [.int c]) (rest := []) F (c_X2_afterBox) gX2_stateAfter_X2_afterBox rfl (by decide +kernel) rfl ⟨Nat.le_of_ble_eq_true rfl, Nat.le_of_ble_eq_true rfl⟩ ⟨Nat.le_of_ble_eq_true rfl, Nat.le_of_ble_eq_true rfl⟩ rfl (Nat.le_of_ble_eq_true rfl) dX2_stateAfter_96) (fun r_7 u_7 hp_7 => ?_)
        obtain ⟨rfl, rfl⟩ := hp_7
        exact hret _ _ _ _ _ _ (Nat.le_of_ble_eq_true rfl) (Nat.le_of_ble_eq_true rfl) ⟨by simp [stA, h2], rfl⟩ dX2_stateAfter_99
      · skip
        by_cases h3 : x = 3
        · refine r_eq (st2 := [.int 3]) (by rw [h3]) rfl ?_
          refine r_tabIn F 100 (by decide) (by decide) rfl (by decide) dX2_stateAfter_1 ?_
          refine r_iload_n F 1 rfl dX2_stateAfter_100 ?_
          refine r_bipush (v := 48) F (by decide) dX2_stateAfter_101 ?_
          refine r_icmp_eq F 112 (by decide) dX2_stateAfter_103 (fun c_103_8 => ?_) (fun c_103_8 => ?_)
          · skip
            refine r_bipush (v := 8) F (by decide) dX2_stateAfter_112 ?_
            exact hret _ _ _ _ _ _ (Nat.le_of_ble_eq_true rfl) (Nat.le_of_ble_eq_true rfl) ⟨by simp [stA, h3, c_103_8], rfl⟩ dX2_stateAfter_114
          · skip
            refine r_iload_n F 1 rfl dX2_stateAfter_106 ?_
            refine r_bipush (v := 45) F (by decide) dX2_stateAfter_107 ?_
            refine r_icmp_ne F 115 (by decide) dX2_stateAfter_109 (fun c_109_9 => ?_) (fun c_109_9 => ?_)
            · skip
              refine r_iload_n F 1 rfl dX2_stateAfter_115 ?_
              refine r_calli (g_S (nA := 1) (As := [.int c]) (rest := []) F (c_X2_isDigit) gX2_stateAfter_X2_isDigit rfl (by decide +kernel) rfl ⟨Nat.le_of_ble_eq_true rfl, Nat.le_of_ble_eq_true rfl⟩ ⟨Nat.le_of_ble_eq_true rfl, Nat.le_of_ble_eq_true rfl⟩ rfl (Nat.le_of_ble_eq_true rfl) dX2_stateAfter_116) (fun r_10 u_10 hp_10 => ?_)
              obtain ⟨rfl, rfl⟩ := hp_10
              refine r_if_eq F 126 (by decide) dX2_stateAfter_119 (fun c_119_11 => ?_) (fun c_119_11 => ?_)
              · skip
                replace c_119_11 := bI0 c_119_11
                refine r_iconst (v := -1) F (by decide) dX2_stateAfter_126 ?_
                exact hret _ _ _ _ _ _ (Nat.le_of_ble_eq_true rfl) (Nat.le_of_ble_eq_true rfl) ⟨by simp [stA, h3, c_103_8, c_109_9, c_119_11], rfl⟩ dX2_stateAfter_127
              · skip
                replace c_119_11 := bI1 c_119_11
                refine r_iconst (v := 4) F (by decide) dX2_stateAfter_122 ?_
                refine r_goto F 127 (by decide) dX2_stateAfter_123 ?_
                exact hret _ _ _ _ _ _ (Nat.le_of_ble_eq_true rfl) (Nat.le_of_ble_eq_true rfl) ⟨by simp [stA, h3, c_103_8, c_109_9, c_119_11], rfl⟩ dX2_stateAfter_127
            · skip
              refine r_bipush (v := 8) F (by decide) dX2_stateAfter_112 ?_
              exact hret _ _ _ _ _ _ (Nat.le_of_ble_eq_true rfl) (Nat.le_of_ble_eq_true rfl) ⟨by simp [stA, h3, c_103_8, c_109_9], rfl⟩ dX2_stateAfter_114
        · skip
          by_cases h4 : x = 4
          · refine r_eq (st2 := [.int 4]) (by rw [h4]) rfl ?_
            refine r_tabIn F 133 (by decide) (by decide) rfl (by decide) dX2_stateAfter_1 ?_
            refine r_iload_n F 1 rfl dX2_stateAfter_133 ?_
            refine r_calli (g_S (nA := 1) (As := [.int c]) (rest := []) F (c_X2_isDigit) gX2_stateAfter_X2_isDigit rfl (by decide +kernel) rfl ⟨Nat.le_of_ble_eq_true rfl, Nat.le_of_ble_eq_true rfl⟩ ⟨Nat.le_of_ble_eq_true rfl, Nat.le_of_ble_eq_true rfl⟩ rfl (Nat.le_of_ble_eq_true rfl) dX2_stateAfter_134) (fun r_12 u_12 hp_12 => ?_)
            obtain ⟨rfl, rfl⟩ := hp_12
            refine r_if_eq F 146 (by decide) dX2_stateAfter_137 (fun c_137_13 => ?_) (fun c_137_13 => ?_)
            · skip
              replace c_137_13 := bI0 c_137_13
              refine r_iload_n F 1 rfl dX2_stateAfter_146 ?_
              refine r_calli (g_S (nA := 1) (As := [.int c]) (rest := []) F (c_X2_afterAnswer) gX2_stateAfter_X2_afterAnswer rfl (by decide +kernel) rfl ⟨Nat.le_of_ble_eq_true rfl, Nat.le_of_ble_eq_true rfl⟩ ⟨Nat.le_of_ble_eq_true rfl, Nat.le_of_ble_eq_true rfl⟩ rfl (Nat.le_of_ble_eq_true rfl) dX2_stateAfter_147) (fun r_14 u_14 hp_14 => ?_)
              obtain ⟨rfl, rfl⟩ := hp_14
              exact hret _ _ _ _ _ _ (Nat.le_of_ble_eq_true rfl) (Nat.le_of_ble_eq_true rfl) ⟨by simp [stA, h4, c_137_13], rfl⟩ dX2_stateAfter_150
            · skip
              replace c_137_13 := bI1 c_137_13
              refine r_iload_n F 0 rfl dX2_stateAfter_140 ?_
              refine r_iconst (v := 1) F (by decide) dX2_stateAfter_141 ?_
              refine r_iadd F dX2_stateAfter_142 ?_
              refine r_goto F 150 (by decide) dX2_stateAfter_143 ?_
              exact hret _ _ _ _ _ _ (Nat.le_of_ble_eq_true rfl) (Nat.le_of_ble_eq_true rfl) ⟨by simp [stA, h4, c_137_13], rfl⟩ dX2_stateAfter_150
          · skip
            by_cases h5 : x = 5
            · refine r_eq (st2 := [.int 5]) (by rw [h5]) rfl ?_
              refine r_tabIn F 133 (by decide) (by decide) rfl (by decide) dX2_stateAfter_1 ?_
              refine r_iload_n F 1 rfl dX2_stateAfter_133 ?_
              refine r_calli (g_S (nA := 1) (As := [.int c]) (rest := []) F (c_X2_isDigit) gX2_stateAfter_X2_isDigit rfl (by decide +kernel) rfl ⟨Nat.le_of_ble_eq_true rfl, Nat.le_of_ble_eq_true rfl⟩ ⟨Nat.le_of_ble_eq_true rfl, Nat.le_of_ble_eq_true rfl⟩ rfl (Nat.le_of_ble_eq_true rfl) dX2_stateAfter_134) (fun r_15 u_15 hp_15 => ?_)
              obtain ⟨rfl, rfl⟩ := hp_15
              refine r_if_eq F 146 (by decide) dX2_stateAfter_137 (fun c_137_16 => ?_) (fun c_137_16 => ?_)
              · skip
                replace c_137_16 := bI0 c_137_16
                refine r_iload_n F 1 rfl dX2_stateAfter_146 ?_
                refine r_calli (g_S (nA := 1) (As := [.int c]) (rest := []) F (c_X2_afterAnswer) gX2_stateAfter_X2_afterAnswer rfl (by decide +kernel) rfl ⟨Nat.le_of_ble_eq_true rfl, Nat.le_of_ble_eq_true rfl⟩ ⟨Nat.le_of_ble_eq_true rfl, Nat.le_of_ble_eq_true rfl⟩ rfl (Nat.le_of_ble_eq_true rfl) dX2_stateAfter_147) (fun r_17 u_17 hp_17 => ?_)
                obtain ⟨rfl, rfl⟩ := hp_17
                exact hret _ _ _ _ _ _ (Nat.le_of_ble_eq_true rfl) (Nat.le_of_ble_eq_true rfl) ⟨by simp [stA, h5, c_137_16], rfl⟩ dX2_stateAfter_150
              · skip
                replace c_137_16 := bI1 c_137_16
                refine r_iload_n F 0 rfl dX2_stateAfter_140 ?_
                refine r_iconst (v := 1) F (by decide) dX2_stateAfter_141 ?_
                refine r_iadd F dX2_stateAfter_142 ?_
                refine r_goto F 150 (by decide) dX2_stateAfter_143 ?_
                exact hret _ _ _ _ _ _ (Nat.le_of_ble_eq_true rfl) (Nat.le_of_ble_eq_true rfl) ⟨by simp [stA, h5, c_137_16], rfl⟩ dX2_stateAfter_150
            · skip
              by_cases h6 : x = 6
              · refine r_eq (st2 := [.int 6]) (by rw [h6]) rfl ?_
                refine r_tabIn F 133 (by decide) (by decide) rfl (by decide) dX2_stateAfter_1 ?_
                refine r_iload_n F 1 rfl dX2_stateAfter_133 ?_
                refine r_calli (g_S (nA := 1) (As := [.int c]) (rest := []) F (c_X2_isDigit) gX2_stateAfter_X2_isDigit rfl (by decide +kernel) rfl ⟨Nat.le_of_ble_eq_true rfl, Nat.le_of_ble_eq_true rfl⟩ ⟨Nat.le_of_ble_eq_true rfl, Nat.le_of_ble_eq_true rfl⟩ rfl (Nat.le_of_ble_eq_true rfl) dX2_stateAfter_134) (fun r_18 u_18 hp_18 => ?_)
                obtain ⟨rfl, rfl⟩ := hp_18
                refine r_if_eq F 146 (by decide) dX2_stateAfter_137 (fun c_137_19 => ?_) (fun c_137_19 => ?_)
                · skip
                  replace c_137_19 := bI0 c_137_19
                  refine r_iload_n F 1 rfl dX2_stateAfter_146 ?_
                  refine r_calli (g_S (nA := 1) (As := [.int c]) (rest := []) F (c_X2_afterAnswer) gX2_stateAfter_X2_afterAnswer rfl (by decide +kernel) rfl ⟨Nat.le_of_ble_eq_true rfl, Nat.le_of_ble_eq_true rfl⟩ ⟨Nat.le_of_ble_eq_true rfl, Nat.le_of_ble_eq_true rfl⟩ rfl (Nat.le_of_ble_eq_true rfl) dX2_stateAfter_147) (fun r_20 u_20 hp_20 => ?_)
                  obtain ⟨rfl, rfl⟩ := hp_20
                  exact hret _ _ _ _ _ _ (Nat.le_of_ble_eq_true rfl) (Nat.le_of_ble_eq_true rfl) ⟨by simp [stA, h6, c_137_19], rfl⟩ dX2_stateAfter_150
                · skip
                  replace c_137_19 := bI1 c_137_19
                  refine r_iload_n F 0 rfl dX2_stateAfter_140 ?_
                  refine r_iconst (v := 1) F (by decide) dX2_stateAfter_141 ?_
                  refine r_iadd F dX2_stateAfter_142 ?_
                  refine r_goto F 150 (by decide) dX2_stateAfter_143 ?_
                  exact hret _ _ _ _ _ _ (Nat.le_of_ble_eq_true rfl) (Nat.le_of_ble_eq_true rfl) ⟨by simp [stA, h6, c_137_19], rfl⟩ dX2_stateAfter_150
              · skip
                by_cases h7 : x = 7
                · refine r_eq (st2 := [.int 7]) (by rw [h7]) rfl ?_
                  refine r_tabIn F 133 (by decide) (by decide) rfl (by decide) dX2_stateAfter_1 ?_
                  refine r_iload_n F 1 rfl dX2_stateAfter_133 ?_
                  refine r_calli (g_S (nA := 1) (As := [.int c]) (rest := []) F (c_X2_isDigit) gX2_stateAfter_X2_isDigit rfl (by decide +kernel) rfl ⟨Nat.le_of_ble_eq_true rfl, Nat.le_of_ble_eq_true rfl⟩ ⟨Nat.le_of_ble_eq_true rfl, Nat.le_of_ble_eq_true rfl⟩ rfl (Nat.le_of_ble_eq_true rfl) dX2_stateAfter_134) (fun r_21 u_21 hp_21 => ?_)
                  obtain ⟨rfl, rfl⟩ := hp_21
                  refine r_if_eq F 146 (by decide) dX2_stateAfter_137 (fun c_137_22 => ?_) (fun c_137_22 => ?_)
                  · skip
                    replace c_137_22 := bI0 c_137_22
                    refine r_iload_n F 1 rfl dX2_stateAfter_146 ?_
                    refine r_calli (g_S (nA := 1) (As := [.int c]) (rest := []) F (c_X2_afterAnswer) gX2_stateAfter_X2_afterAnswer rfl (by decide +kernel) rfl ⟨Nat.le_of_ble_eq_true rfl, Nat.le_of_ble_eq_true rfl⟩ ⟨Nat.le_of_ble_eq_true rfl, Nat.le_of_ble_eq_true rfl⟩ rfl (Nat.le_of_ble_eq_true rfl) dX2_stateAfter_147) (fun r_23 u_23 hp_23 => ?_)
                    obtain ⟨rfl, rfl⟩ := hp_23
                    exact hret _ _ _ _ _ _ (Nat.le_of_ble_eq_true rfl) (Nat.le_of_ble_eq_true rfl) ⟨by simp [stA, h7, c_137_22], rfl⟩ dX2_stateAfter_150
                  · skip
                    replace c_137_22 := bI1 c_137_22
                    refine r_iload_n F 0 rfl dX2_stateAfter_140 ?_
                    refine r_iconst (v := 1) F (by decide) dX2_stateAfter_141 ?_
                    refine r_iadd F dX2_stateAfter_142 ?_
                    refine r_goto F 150 (by decide) dX2_stateAfter_143 ?_
                    exact hret _ _ _ _ _ _ (Nat.le_of_ble_eq_true rfl) (Nat.le_of_ble_eq_true rfl) ⟨by simp [stA, h7, c_137_22], rfl⟩ dX2_stateAfter_150
                · skip
                  by_cases h8 : x = 8
                  · refine r_eq (st2 := [.int 8]) (by rw [h8]) rfl ?_
                    refine r_tabIn F 128 (by decide) (by decide) rfl (by decide) dX2_stateAfter_1 ?_
                    refine r_iload_n F 1 rfl dX2_stateAfter_128 ?_
                    refine r_calli (g_S (nA := 1) (As := [.int c]) (rest := []) F (c_X2_afterAnswer) gX2_stateAfter_X2_afterAnswer rfl (by decide +kernel) rfl ⟨Nat.le_of_ble_eq_true rfl, Nat.le_of_ble_eq_true rfl⟩ ⟨Nat.le_of_ble_eq_true rfl, Nat.le_of_ble_eq_true rfl⟩ rfl (Nat.le_of_ble_eq_true rfl) dX2_stateAfter_129) (fun r_24 u_24 hp_24 => ?_)
                    obtain ⟨rfl, rfl⟩ := hp_24
                    exact hret _ _ _ _ _ _ (Nat.le_of_ble_eq_true rfl) (Nat.le_of_ble_eq_true rfl) ⟨by simp [stA, h8], rfl⟩ dX2_stateAfter_132
                  · skip
                    refine r_tabOut F 133 (by have q0 : ¬ (x).toInt = 0 := fun q => h0 (Int32.toInt_inj.mp q); have q1 : ¬ (x).toInt = 1 := fun q => h1 (Int32.toInt_inj.mp q); have q2 : ¬ (x).toInt = 2 := fun q => h2 (Int32.toInt_inj.mp q); have q3 : ¬ (x).toInt = 3 := fun q => h3 (Int32.toInt_inj.mp q); have q4 : ¬ (x).toInt = 4 := fun q => h4 (Int32.toInt_inj.mp q); have q5 : ¬ (x).toInt = 5 := fun q => h5 (Int32.toInt_inj.mp q); have q6 : ¬ (x).toInt = 6 := fun q => h6 (Int32.toInt_inj.mp q); have q7 : ¬ (x).toInt = 7 := fun q => h7 (Int32.toInt_inj.mp q); have q8 : ¬ (x).toInt = 8 := fun q => h8 (Int32.toInt_inj.mp q); omega) (by decide) dX2_stateAfter_1 ?_
                    refine r_iload_n F 1 rfl dX2_stateAfter_133 ?_
                    refine r_calli (g_S (nA := 1) (As := [.int c]) (rest := []) F (c_X2_isDigit) gX2_stateAfter_X2_isDigit rfl (by decide +kernel) rfl ⟨Nat.le_of_ble_eq_true rfl, Nat.le_of_ble_eq_true rfl⟩ ⟨Nat.le_of_ble_eq_true rfl, Nat.le_of_ble_eq_true rfl⟩ rfl (Nat.le_of_ble_eq_true rfl) dX2_stateAfter_134) (fun r_25 u_25 hp_25 => ?_)
                    obtain ⟨rfl, rfl⟩ := hp_25
                    refine r_if_eq F 146 (by decide) dX2_stateAfter_137 (fun c_137_26 => ?_) (fun c_137_26 => ?_)
                    · skip
                      replace c_137_26 := bI0 c_137_26
                      refine r_iload_n F 1 rfl dX2_stateAfter_146 ?_
                      refine r_calli (g_S (nA := 1) (As := [.int c]) (rest := []) F (c_X2_afterAnswer) gX2_stateAfter_X2_afterAnswer rfl (by decide +kernel) rfl ⟨Nat.le_of_ble_eq_true rfl, Nat.le_of_ble_eq_true rfl⟩ ⟨Nat.le_of_ble_eq_true rfl, Nat.le_of_ble_eq_true rfl⟩ rfl (Nat.le_of_ble_eq_true rfl) dX2_stateAfter_147) (fun r_27 u_27 hp_27 => ?_)
                      obtain ⟨rfl, rfl⟩ := hp_27
                      exact hret _ _ _ _ _ _ (Nat.le_of_ble_eq_true rfl) (Nat.le_of_ble_eq_true rfl) ⟨by simp [stA, h0, h1, h2, h3, h4, h5, h6, h7, h8, c_137_26], rfl⟩ dX2_stateAfter_150
                    · skip
                      replace c_137_26 := bI1 c_137_26
                      refine r_iload_n F 0 rfl dX2_stateAfter_140 ?_
                      refine r_iconst (v := 1) F (by decide) dX2_stateAfter_141 ?_
                      refine r_iadd F dX2_stateAfter_142 ?_
                      refine r_goto F 150 (by decide) dX2_stateAfter_143 ?_
                      exact hret _ _ _ _ _ _ (Nat.le_of_ble_eq_true rfl) (Nat.le_of_ble_eq_true rfl) ⟨by simp [stA, h0, h1, h2, h3, h4, h5, h6, h7, h8, c_137_26], rfl⟩ dX2_stateAfter_150
set_option maxHeartbeats 4000000 in
set_option maxRecDepth 100000 in
theorem c_X2_length {g : kG} {l : Launch} {u : Nat → va_E} {i t : Nat} {C : Nat → Int32}  (h : TxB g u i t C) (hi : i + 2 ≤ kN)  : CI g l yX2_length wsX2_length ({ frames := 0, cells := 0, slots := 0, locals := 0 }) [.ref (g.2.1 i)] u (fun r u' => r = nI t ∧ u = u') := by
  refine CI.of (cc := cX2_length) (nL := 1) (ty := .int) (by decide +kernel) rfl (fun _ _ _ => rfl) (Nat.le_of_ble_eq_true rfl) ?_
  intro X hXl F hret
  subst hXl
  have hinX2 : ∀ w ∈ wsX20, w ∈ wsX2_length := by decide +kernel
  show VL g X 0 0 u 0 [(0, .ref (g.2.1 i))] []
  refine r_aload_n F 0 rfl dX2_length_0 ?_
  refine r_get (C := RX2) (T := TX2) (N := 2) F i h.obj (by omega) hinX2 rfl 1 (by decide) (by decide +kernel) rfl dX2_length_1 ?_
  exact hret _ _ _ _ _ _ (Nat.le_of_ble_eq_true rfl) (Nat.le_of_ble_eq_true rfl) ⟨by rfl, rfl⟩ dX2_length_4
set_option maxHeartbeats 4000000 in
set_option maxRecDepth 100000 in
theorem c_X2_codeAt {g : kG} {l : Launch} {u : Nat → va_E} {i t : Nat} {C : Nat → Int32} {j : Nat} (h : TxB g u i t C) (hi : i + 2 ≤ kN) (hj : j < 2 ^ 31) : CI g l yX2_codeAt wsX2_codeAt ({ frames := 1, cells := 0, slots := 0, locals := 21 }) [.ref (g.2.1 i), .int (nI j)] u (fun r u' => r = codC C t j ∧ u = u') := by
  refine CI.of (cc := cX2_codeAt) (nL := 2) (ty := .int) (by decide +kernel) rfl (fun _ _ _ => rfl) (Nat.le_of_ble_eq_true rfl) ?_
  intro X hXl F hret
  subst hXl
  have hinX2 : ∀ w ∈ wsX20, w ∈ wsX2_codeAt := by decide +kernel
  obtain ⟨C1, hob, hC1, htl, hC⟩ := id h
  show VL g X 0 0 u 0 [(0, .ref (g.2.1 i)), (1, .int (nI j))] []
  refine r_iload_n F 1 rfl dX2_codeAt_0 ?_
  refine r_aload_n F 0 rfl dX2_codeAt_1 ?_
  refine r_get (C := RX2) (T := TX2) (N := 2) F i h.obj (by omega) hinX2 rfl 1 (by decide) (by decide +kernel) rfl dX2_codeAt_2 ?_
  refine r_icmp_ge F 19 (by decide) dX2_codeAt_5 (fun c_5_1 => ?_) (fun c_5_1 => ?_)
  · skip
    refine r_iconst (v := -1) F (by decide) dX2_codeAt_19 ?_
    exact hret _ _ _ _ _ _ (Nat.le_of_ble_eq_true rfl) (Nat.le_of_ble_eq_true rfl) ⟨by simp [codC, (nI_leI (by omega) hj).mp c_5_1, Nat.not_lt.mpr ((nI_leI (by omega) hj).mp c_5_1)], rfl⟩ dX2_codeAt_20
  · skip
    refine r_aload_n F 0 rfl dX2_codeAt_8 ?_
    refine r_get (C := RX2) (T := TX2) (N := 2) F i h.obj (by omega) hinX2 rfl 0 (by decide) (by decide +kernel) rfl dX2_codeAt_9 ?_
    refine r_iload_n F 1 rfl dX2_codeAt_12 ?_
    refine r_calli (g_SN (nA := 2) (As := [.ref (g.2.1 (i + 1)), .int (nI j)]) (rest := []) F (c_X3_at hC1 (by omega) (by decide)) gX2_codeAt_X3_at_n19 rfl 14 rfl (by decide +kernel) (by decide +kernel) (by decide +kernel) rfl ⟨Nat.le_of_ble_eq_true rfl, Nat.le_of_ble_eq_true rfl⟩ ⟨Nat.le_of_ble_eq_true rfl, Nat.le_of_ble_eq_true rfl⟩ rfl (Nat.le_of_ble_eq_true rfl) dX2_codeAt_13) (fun r_2 u_2 hp_2 => ?_)
    obtain ⟨rfl, rfl⟩ := hp_2
    refine r_goto F 20 (by decide) dX2_codeAt_16 ?_
    exact hret _ _ _ _ _ _ (Nat.le_of_ble_eq_true rfl) (Nat.le_of_ble_eq_true rfl) ⟨by have q : j < t := Nat.not_le.mp (fun z => c_5_1 ((nI_leI (by omega) hj).mpr z)); rw [atF_nI (by omega) (by decide), hC j q]; simp [codC, q], rfl⟩ dX2_codeAt_20
set_option maxHeartbeats 4000000 in
set_option maxRecDepth 100000 in
theorem c_X2_errorAt {g : kG} {l : Launch} {u : Nat → va_E} {i t : Nat} {C : Nat → Int32}  (h : TxB g u i t C) (hi : i + 2 ≤ kN)  : CI g l yX2_errorAt wsX2_errorAt ({ frames := 3, cells := 0, slots := 0, locals := 63 }) [.ref (g.2.1 i)] u (fun r u' => r = errC C t ∧ u = u') := by
  refine CI.of (cc := cX2_errorAt) (nL := 3) (ty := .int) (by decide +kernel) rfl (fun _ _ _ => rfl) (Nat.le_of_ble_eq_true rfl) ?_
  intro X hXl F hret
  subst hXl
  have hinX2 : ∀ w ∈ wsX20, w ∈ wsX2_errorAt := by decide +kernel
  show VL g X 0 0 u 0 [(0, .ref (g.2.1 i))] []
  refine r_iconst (v := 0) F (by decide) dX2_errorAt_0 ?_
  refine r_istore_n (lv' := [(0, .ref (g.2.1 i)), (1, .int 0)]) F (by decide) rfl dX2_errorAt_1 ?_
  refine r_iconst (v := 0) F (by decide) dX2_errorAt_2 ?_
  refine r_istore_n (lv' := [(0, .ref (g.2.1 i)), (1, .int 0), (2, .int 0)]) F (by decide) rfl dX2_errorAt_3 ?_
  have loop_4 : ∀ (k : Nat) (j : Nat) (x1_4 : Int32) (x2_4 : Int32), j + k = t → anyN j (qErr C) = false → x1_4 = stN C j → x2_4 = nI j → VL g X 0 0 u 4 [(0, .ref (g.2.1 i)), (1, .int x1_4), (2, .int x2_4)] [] := by
    intro k
    induction k with
    | zero =>
      rintro j x1_4 x2_4 hk hno rfl rfl
      have hjn : t = j := by omega
      subst hjn
      refine r_iload_n F 2 rfl dX2_errorAt_4 ?_
      refine r_aload_n F 0 rfl dX2_errorAt_5 ?_
      refine r_get (C := RX2) (T := TX2) (N := 2) F i h.obj (by omega) hinX2 rfl 1 (by decide) (by decide +kernel) rfl dX2_errorAt_6 ?_
      refine r_icmp_ge F 35 (by decide) dX2_errorAt_9 (fun c_9_2 => ?_) (fun c_9_2 => absurd (Int32.le_refl _) c_9_2)
      clear c_9_2
      refine r_aload_n F 0 rfl dX2_errorAt_35 ?_
      refine r_get (C := RX2) (T := TX2) (N := 2) F i h.obj (by omega) hinX2 rfl 1 (by decide) (by decide +kernel) rfl dX2_errorAt_36 ?_
      exact hret _ _ _ _ _ _ (Nat.le_of_ble_eq_true rfl) (Nat.le_of_ble_eq_true rfl) ⟨by simp [errC, hno], rfl⟩ dX2_errorAt_39
    | succ k ih_4 =>
      rintro j x1_4 x2_4 hk hno rfl rfl
      have hb : j < t := by omega
      refine r_iload_n F 2 rfl dX2_errorAt_4 ?_
      refine r_aload_n F 0 rfl dX2_errorAt_5 ?_
      refine r_get (C := RX2) (T := TX2) (N := 2) F i h.obj (by omega) hinX2 rfl 1 (by decide) (by decide +kernel) rfl dX2_errorAt_6 ?_
      refine r_icmp_ge F 35 (by decide) dX2_errorAt_9 (fun c_9_3 => absurd c_9_3 (nI_ge (b := t) hb (by have := h.le; omega))) (fun c_9_3 => ?_)
      clear c_9_3
      refine r_iload_n F 1 rfl dX2_errorAt_12 ?_
      refine r_aload_n F 0 rfl dX2_errorAt_13 ?_
      refine r_iload_n F 2 rfl dX2_errorAt_14 ?_
      refine r_calli (g_V (C := RX2) (T := TX2) (N := 2) (nA := 1) (As := [.int (nI j)]) (rest := [.int (stN C j)]) F i h.obj (by omega) rfl (c_X2_codeAt h hi (by have := h.le; omega)) gX2_errorAt_X2_codeAt rfl (by decide +kernel) rfl ⟨Nat.le_of_ble_eq_true rfl, Nat.le_of_ble_eq_true rfl⟩ ⟨Nat.le_of_ble_eq_true rfl, Nat.le_of_ble_eq_true rfl⟩ rfl (Nat.le_of_ble_eq_true rfl) dX2_errorAt_15) (fun r_4 u_4 hp_4 => ?_)
      obtain ⟨rfl, rfl⟩ := hp_4
      refine r_calli (g_S (nA := 2) (As := [.int (stN C j), .int (codC C t j)]) (rest := []) F (c_X2_stateAfter) gX2_errorAt_X2_stateAfter rfl (by decide +kernel) rfl ⟨Nat.le_of_ble_eq_true rfl, Nat.le_of_ble_eq_true rfl⟩ ⟨Nat.le_of_ble_eq_true rfl, Nat.le_of_ble_eq_true rfl⟩ rfl (Nat.le_of_ble_eq_true rfl) dX2_errorAt_18) (fun r_5 u_5 hp_5 => ?_)
      obtain ⟨rfl, rfl⟩ := hp_5
      refine r_istore_n (lv' := [(0, .ref (g.2.1 i)), (1, .int (stA (stN C j) (codC C t j))), (2, .int (nI j))]) F (by decide) rfl dX2_errorAt_21 ?_
      refine r_iload_n F 1 rfl dX2_errorAt_22 ?_
      refine r_iconst (v := -1) F (by decide) dX2_errorAt_23 ?_
      refine r_icmp_ne F 29 (by decide) dX2_errorAt_24 (fun c_24_6 => ?_) (fun c_24_6 => ?_)
      · skip
        refine r_iinc (lv' := [(0, .ref (g.2.1 i)), (1, .int (stA (stN C j) (codC C t j))), (2, .int (nI (j + 1)))]) F 2 rfl (nI_inc _) (by decide) rfl dX2_errorAt_29 ?_
        refine r_goto F 4 (by decide) dX2_errorAt_32 ?_
        exact ih_4 (j + 1) _ _ (by omega) (by have q := c_24_6; rw [codC_lt hb] at q; simp [anyN, hno, qErr, stN, q]) (by simp [stN, codC_lt hb]) rfl
      · skip
        refine r_iload_n F 2 rfl dX2_errorAt_27 ?_
        exact hret _ _ _ _ _ _ (Nat.le_of_ble_eq_true rfl) (Nat.le_of_ble_eq_true rfl) ⟨by have q := c_24_6; rw [codC_lt hb] at q; have q2 : qErr C j = true := (by simp [qErr, stN, q]); rw [errC, anyN_t hb q2, fstN_at hb q2 hno]; rfl, rfl⟩ dX2_errorAt_28
  exact loop_4 t 0 _ _ (by omega) rfl rfl rfl
set_option maxHeartbeats 4000000 in
set_option maxRecDepth 100000 in
theorem c_X2_isComplete {g : kG} {l : Launch} {u : Nat → va_E} {i t : Nat} {C : Nat → Int32}  (h : TxB g u i t C) (hi : i + 2 ≤ kN)  : CI g l yX2_isComplete wsX2_isComplete ({ frames := 3, cells := 0, slots := 0, locals := 63 }) [.ref (g.2.1 i)] u (fun r u' => r = bI (cmpC C t) ∧ u = u') := by
  refine CI.of (cc := cX2_isComplete) (nL := 3) (ty := .boolean) (by decide +kernel) rfl (fun v u' h => by obtain ⟨h, -⟩ := h; rw [h]; exact bI_n _) (Nat.le_of_ble_eq_true rfl) ?_
  intro X hXl F hret
  subst hXl
  have hinX2 : ∀ w ∈ wsX20, w ∈ wsX2_isComplete := by decide +kernel
  show VL g X 0 0 u 0 [(0, .ref (g.2.1 i))] []
  refine r_iconst (v := 0) F (by decide) dX2_isComplete_0 ?_
  refine r_istore_n (lv' := [(0, .ref (g.2.1 i)), (1, .int 0)]) F (by decide) rfl dX2_isComplete_1 ?_
  refine r_iconst (v := 0) F (by decide) dX2_isComplete_2 ?_
  refine r_istore_n (lv' := [(0, .ref (g.2.1 i)), (1, .int 0), (2, .int 0)]) F (by decide) rfl dX2_isComplete_3 ?_
  have loop_4 : ∀ (k : Nat) (j : Nat) (x1_4 : Int32) (x2_4 : Int32), j + k = t → anyN j (qErr C) = decide (stN C j = -1) → x1_4 = stN C j → x2_4 = nI j → VL g X 0 0 u 4 [(0, .ref (g.2.1 i)), (1, .int x1_4), (2, .int x2_4)] [] := by
    intro k
    induction k with
    | zero =>
      rintro j x1_4 x2_4 hk hno rfl rfl
      have hjn : t = j := by omega
      subst hjn
      refine r_iload_n F 2 rfl dX2_isComplete_4 ?_
      refine r_aload_n F 0 rfl dX2_isComplete_5 ?_
      refine r_get (C := RX2) (T := TX2) (N := 2) F i h.obj (by omega) hinX2 rfl 1 (by decide) (by decide +kernel) rfl dX2_isComplete_6 ?_
      refine r_icmp_ge F 33 (by decide) dX2_isComplete_9 (fun c_9_2 => ?_) (fun c_9_2 => absurd (Int32.le_refl _) c_9_2)
      clear c_9_2
      refine r_iload_n F 1 rfl dX2_isComplete_33 ?_
      refine r_iconst (v := 4) F (by decide) dX2_isComplete_34 ?_
      refine r_icmp_lt F 42 (by decide) dX2_isComplete_35 (fun c_35_3 => ?_) (fun c_35_3 => ?_)
      · skip
        refine r_iconst (v := 0) F (by decide) dX2_isComplete_42 ?_
        exact hret _ _ _ _ _ _ (Nat.le_of_ble_eq_true rfl) (Nat.le_of_ble_eq_true rfl) ⟨by simp [cmpC, bI, hno, c_35_3], rfl⟩ dX2_isComplete_43
      · skip
        refine r_iconst (v := 1) F (by decide) dX2_isComplete_38 ?_
        refine r_goto F 43 (by decide) dX2_isComplete_39 ?_
        exact hret _ _ _ _ _ _ (Nat.le_of_ble_eq_true rfl) (Nat.le_of_ble_eq_true rfl) ⟨by have q : ¬ stN C t = -1 := (fun e => c_35_3 (by rw [e]; decide)); simp [cmpC, bI, hno, q, c_35_3], rfl⟩ dX2_isComplete_43
    | succ k ih_4 =>
      rintro j x1_4 x2_4 hk hno rfl rfl
      have hb : j < t := by omega
      refine r_iload_n F 2 rfl dX2_isComplete_4 ?_
      refine r_aload_n F 0 rfl dX2_isComplete_5 ?_
      refine r_get (C := RX2) (T := TX2) (N := 2) F i h.obj (by omega) hinX2 rfl 1 (by decide) (by decide +kernel) rfl dX2_isComplete_6 ?_
      refine r_icmp_ge F 33 (by decide) dX2_isComplete_9 (fun c_9_4 => absurd c_9_4 (nI_ge (b := t) hb (by have := h.le; omega))) (fun c_9_4 => ?_)
      clear c_9_4
      refine r_iload_n F 1 rfl dX2_isComplete_12 ?_
      refine r_iconst (v := -1) F (by decide) dX2_isComplete_13 ?_
      refine r_icmp_eq F 33 (by decide) dX2_isComplete_14 (fun c_14_5 => ?_) (fun c_14_5 => ?_)
      · skip
        refine r_iload_n F 1 rfl dX2_isComplete_33 ?_
        refine r_iconst (v := 4) F (by decide) dX2_isComplete_34 ?_
        refine r_icmp_lt F 42 (by decide) dX2_isComplete_35 (fun c_35_6 => ?_) (fun c_35_6 => ?_)
        · skip
          refine r_iconst (v := 0) F (by decide) dX2_isComplete_42 ?_
          exact hret _ _ _ _ _ _ (Nat.le_of_ble_eq_true rfl) (Nat.le_of_ble_eq_true rfl) ⟨by rw [cmpC, anyN_m (m := j) (by rw [hno, c_14_5]; rfl) (by omega)]; rfl, rfl⟩ dX2_isComplete_43
        · skip
          refine r_iconst (v := 1) F (by decide) dX2_isComplete_38 ?_
          refine r_goto F 43 (by decide) dX2_isComplete_39 ?_
          exact hret _ _ _ _ _ _ (Nat.le_of_ble_eq_true rfl) (Nat.le_of_ble_eq_true rfl) ⟨by exact absurd (by rw [c_14_5]; decide) c_35_6, rfl⟩ dX2_isComplete_43
      · skip
        refine r_iload_n F 1 rfl dX2_isComplete_17 ?_
        refine r_aload_n F 0 rfl dX2_isComplete_18 ?_
        refine r_iload_n F 2 rfl dX2_isComplete_19 ?_
        refine r_calli (g_V (C := RX2) (T := TX2) (N := 2) (nA := 1) (As := [.int (nI j)]) (rest := [.int (stN C j)]) F i h.obj (by omega) rfl (c_X2_codeAt h hi (by have := h.le; omega)) gX2_isComplete_X2_codeAt rfl (by decide +kernel) rfl ⟨Nat.le_of_ble_eq_true rfl, Nat.le_of_ble_eq_true rfl⟩ ⟨Nat.le_of_ble_eq_true rfl, Nat.le_of_ble_eq_true rfl⟩ rfl (Nat.le_of_ble_eq_true rfl) dX2_isComplete_20) (fun r_7 u_7 hp_7 => ?_)
        obtain ⟨rfl, rfl⟩ := hp_7
        refine r_calli (g_S (nA := 2) (As := [.int (stN C j), .int (codC C t j)]) (rest := []) F (c_X2_stateAfter) gX2_isComplete_X2_stateAfter rfl (by decide +kernel) rfl ⟨Nat.le_of_ble_eq_true rfl, Nat.le_of_ble_eq_true rfl⟩ ⟨Nat.le_of_ble_eq_true rfl, Nat.le_of_ble_eq_true rfl⟩ rfl (Nat.le_of_ble_eq_true rfl) dX2_isComplete_23) (fun r_8 u_8 hp_8 => ?_)
        obtain ⟨rfl, rfl⟩ := hp_8
        refine r_istore_n (lv' := [(0, .ref (g.2.1 i)), (1, .int (stA (stN C j) (codC C t j))), (2, .int (nI j))]) F (by decide) rfl dX2_isComplete_26 ?_
        refine r_iinc (lv' := [(0, .ref (g.2.1 i)), (1, .int (stA (stN C j) (codC C t j))), (2, .int (nI (j + 1)))]) F 2 rfl (nI_inc _) (by decide) rfl dX2_isComplete_27 ?_
        refine r_goto F 4 (by decide) dX2_isComplete_30 ?_
        exact ih_4 (j + 1) _ _ (by omega) (by simp [anyN, hno, qErr, c_14_5]) (by simp [stN, codC_lt hb]) rfl
  exact loop_4 t 0 _ _ (by omega) (by simp [anyN, stN]) rfl rfl
set_option maxHeartbeats 4000000 in
set_option maxRecDepth 100000 in
theorem c_X2_add {g : kG} {l : Launch} {u : Nat → va_E} {i t : Nat} {C : Nat → Int32} {x : Int32} (h : TxB g u i t C) (hi : i + 2 ≤ kN) (ht60 : t < 60) : CV g l yX2_add wsX2_add ({ frames := 1, cells := 0, slots := 0, locals := 22 }) [.ref (g.2.1 i), .int x] u (fun u' => TxB g u' i (t + 1) (upd C t x) ∧ ∀ j, ¬ (j = i ∨ j = i + 1) → u' j = u j) := by
  refine CV.of (cc := cX2_add) (nL := 2) (by decide +kernel) rfl (Nat.le_of_ble_eq_true rfl) ?_
  intro X hXl F hret
  subst hXl
  have hinX2 : ∀ w ∈ wsX20, w ∈ wsX2_add := by decide +kernel
  obtain ⟨C1, hob, hC1, htl, hC⟩ := id h
  show VL g X 0 0 u 0 [(0, .ref (g.2.1 i)), (1, .int x)] []
  refine r_aload_n F 0 rfl dX2_add_0 ?_
  refine r_get (C := RX2) (T := TX2) (N := 2) F i h.obj (by omega) hinX2 rfl 0 (by decide) (by decide +kernel) rfl dX2_add_1 ?_
  refine r_aload_n F 0 rfl dX2_add_4 ?_
  refine r_get (C := RX2) (T := TX2) (N := 2) F i h.obj (by omega) hinX2 rfl 1 (by decide) (by decide +kernel) rfl dX2_add_5 ?_
  refine r_iload_n F 1 rfl dX2_add_8 ?_
  refine r_callv (g_SN (nA := 3) (As := [.ref (g.2.1 (i + 1)), .int (nI t), .int x]) (rest := []) F (c_X3_put hC1 (by omega) (by decide)) gX2_add_X3_put_n23 rfl 47 rfl (by decide +kernel) (by decide +kernel) (by decide +kernel) rfl ⟨Nat.le_of_ble_eq_true rfl, Nat.le_of_ble_eq_true rfl⟩ ⟨Nat.le_of_ble_eq_true rfl, Nat.le_of_ble_eq_true rfl⟩ rfl (Nat.le_of_ble_eq_true rfl) dX2_add_9) (fun u_1 hp_1 => ?_)
  rw [putF_nI ht60 (by decide)] at hp_1
  have hu1 := hp_1
  have hob1 : u_1 i = .inr (2, [.ref (g.2.1 (i + 1)), .int (nI t)]) := by rw [hu1, vne (by omega)]; exact hob
  refine r_aload_n F 0 rfl dX2_add_12 ?_
  refine r_dup F rfl dX2_add_13 ?_
  refine r_get (C := RX2) (T := TX2) (N := 2) F i hob1 (by omega) hinX2 rfl 1 (by decide) (by decide +kernel) rfl dX2_add_14 ?_
  refine r_iconst (v := 1) F (by decide) dX2_add_17 ?_
  refine r_iadd F dX2_add_18 ?_
  refine r_put (C := RX2) (T := TX2) (N := 2) (ty := .int) F i hob1 (by omega) hinX2 tyX2 tyX2_ok nmX2 rfl 1 (by decide) (by decide +kernel) rfl (by decide +kernel) rfl rfl (Nat.le_of_ble_eq_true rfl) dX2_add_19 (fun u_2 hu_2 => ?_)
  rw [nI_1] at hu_2
  have hu2 := hu_2
  exact hret _ _ _ _ _ (Nat.le_of_ble_eq_true rfl) (Nat.le_of_ble_eq_true rfl) ⟨⟨upd C1 t x, by rw [hu2, veq]; rfl, by rw [hu2, vne (by omega), hu1, veq], by omega, fun j hj => by by_cases e : j = t <;> simp [upd, e]; exact hC j (by omega)⟩, fun j hj => by rw [hu2, vne (by omega), hu1, vne (by omega)]⟩ dX2_add_22
set_option maxHeartbeats 4000000 in
set_option maxRecDepth 100000 in
theorem c_X2_empty {g : kG} {l : Launch} {u : Nat → va_E} {i t : Nat} {C : Nat → Int32} (h : TxB g u i t C) (hi : i + 2 ≤ kN) : CV g l yX2_empty wsX2_empty ({ frames := 0, cells := 0, slots := 0, locals := 0 }) [.ref (g.2.1 i)] u (fun u' => TxB g u' i 0 C ∧ ∀ j, ¬ (j = i ∨ j = i + 1) → u' j = u j) := by
  refine CV.of (cc := cX2_empty) (nL := 1) (by decide +kernel) rfl (Nat.le_of_ble_eq_true rfl) ?_
  intro X hXl F hret
  subst hXl
  have hinX2 : ∀ w ∈ wsX20, w ∈ wsX2_empty := by decide +kernel
  obtain ⟨C1, hob, hC1, htl, hC⟩ := id h
  show VL g X 0 0 u 0 [(0, .ref (g.2.1 i))] []
  refine r_aload_n F 0 rfl dX2_empty_0 ?_
  refine r_iconst (v := 0) F (by decide) dX2_empty_1 ?_
  refine r_put (C := RX2) (T := TX2) (N := 2) (ty := .int) F i h.obj (by omega) hinX2 tyX2 tyX2_ok nmX2 rfl 1 (by decide) (by decide +kernel) rfl (by decide +kernel) rfl rfl (Nat.le_of_ble_eq_true rfl) dX2_empty_2 (fun u_1 hu_1 => ?_)
  have hu2 := hu_1
  exact hret _ _ _ _ _ (Nat.le_of_ble_eq_true rfl) (Nat.le_of_ble_eq_true rfl) ⟨⟨C1, by rw [hu2, veq]; rfl, by rw [hu2, vne (by omega)]; exact hC1, by omega, fun j hj => absurd hj (by omega)⟩, fun j hj => by rw [hu2, vne (by omega)]⟩ dX2_empty_5

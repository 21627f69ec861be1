theorem nI_inc4 (a : Nat) : nI a + Int32.ofInt 4 = nI (a + 4) := by
  rw [show Int32.ofInt 4 = nI 4 from rfl, nI_add]
theorem len_gt {L i : Nat} (h : L < i + 4) (hL : L ≤ 2048) (hi : i ≤ L + 4) : nI L - 4 < nI i := by
  rw [Int32.lt_iff_toInt_lt, nI_toInt (by omega), Int32.toInt_sub, nI_toInt (by omega)]
  have e4 : (4 : Int32).toInt = 4 := by decide
  rw [e4, Int.bmod_def]
  split <;> omega
theorem tabO19 {x : Int32} (h0 : ¬ x = 0) (h1 : ¬ x = 1) (h2 : ¬ x = 2) (h3 : ¬ x = 3) (h4 : ¬ x = 4) (h5 : ¬ x = 5) (h6 : ¬ x = 6) (h7 : ¬ x = 7) (h8 : ¬ x = 8) (h9 : ¬ x = 9) (h10 : ¬ x = 10) (h11 : ¬ x = 11) (h12 : ¬ x = 12) (h13 : ¬ x = 13) (h14 : ¬ x = 14) (h15 : ¬ x = 15) (h16 : ¬ x = 16) (h17 : ¬ x = 17) (h18 : ¬ x = 18) (h19 : ¬ x = 19) : x.toInt < 0 ∨ 19 < x.toInt := by
  have q0 : ¬ x.toInt = 0 := fun q => h0 (Int32.toInt_inj.mp q)
  have q1 : ¬ x.toInt = 1 := fun q => h1 (Int32.toInt_inj.mp q)
  have q2 : ¬ x.toInt = 2 := fun q => h2 (Int32.toInt_inj.mp q)
  have q3 : ¬ x.toInt = 3 := fun q => h3 (Int32.toInt_inj.mp q)
  have q4 : ¬ x.toInt = 4 := fun q => h4 (Int32.toInt_inj.mp q)
  have q5 : ¬ x.toInt = 5 := fun q => h5 (Int32.toInt_inj.mp q)
  have q6 : ¬ x.toInt = 6 := fun q => h6 (Int32.toInt_inj.mp q)
  have q7 : ¬ x.toInt = 7 := fun q => h7 (Int32.toInt_inj.mp q)
  have q8 : ¬ x.toInt = 8 := fun q => h8 (Int32.toInt_inj.mp q)
  have q9 : ¬ x.toInt = 9 := fun q => h9 (Int32.toInt_inj.mp q)
  have q10 : ¬ x.toInt = 10 := fun q => h10 (Int32.toInt_inj.mp q)
  have q11 : ¬ x.toInt = 11 := fun q => h11 (Int32.toInt_inj.mp q)
  have q12 : ¬ x.toInt = 12 := fun q => h12 (Int32.toInt_inj.mp q)
  have q13 : ¬ x.toInt = 13 := fun q => h13 (Int32.toInt_inj.mp q)
  have q14 : ¬ x.toInt = 14 := fun q => h14 (Int32.toInt_inj.mp q)
  have q15 : ¬ x.toInt = 15 := fun q => h15 (Int32.toInt_inj.mp q)
  have q16 : ¬ x.toInt = 16 := fun q => h16 (Int32.toInt_inj.mp q)
  have q17 : ¬ x.toInt = 17 := fun q => h17 (Int32.toInt_inj.mp q)
  have q18 : ¬ x.toInt = 18 := fun q => h18 (Int32.toInt_inj.mp q)
  have q19 : ¬ x.toInt = 19 := fun q => h19 (Int32.toInt_inj.mp q)
  omega
set_option maxHeartbeats 4000000 in
set_option maxRecDepth 100000 in
/-- one turn of the law, from its switch on -/
theorem law_turn {g : kG} {X : kX} {ret : Option FieldType} {rm0 : Room} {b L : Nat} {xs : Nat → Int32} (hfl : X.2.1.stackTraces = false) (F : Fx g X cL_law 9 ret wsL_law RL rm0) (T : Sx g X b L xs) (hL : L ≤ 2048) (hf : 10 ≤ rm0.frames) (hl : 300 ≤ rm0.locals) {i k n0 : Nat} {u : Nat → va_E} {x : Int32} (hi : i + 4 ≤ L) (hk : k + 4 ≤ rm0.cells ∧ n0 + 24 ≤ rm0.slots) (I : Inv g u) (kk : ∀ u', Inv g u' → VL g X (k + 4) (n0 + 24) u' 1064 [(0, .ref b), (1, .ref (g.2.1 0)), (2, .ref (g.2.1 61)), (3, .ref (g.2.1 69)), (4, .int (nI i))] []) : VL g X k n0 u 39 [(0, .ref b), (1, .ref (g.2.1 0)), (2, .ref (g.2.1 61)), (3, .ref (g.2.1 69)), (4, .int (nI i))] [.int x] := by
  by_cases h0 : x = 0
  · refine r_eq (st2 := [.int 0]) (by rw [h0]) rfl ?_
    exact r_tabIn F 132 (by decide) (by decide) rfl (by decide) dL_law_39 (op_comb hfl F T hi hL hf hl hk I kk)
  by_cases h1 : x = 1
  · refine r_eq (st2 := [.int 1]) (by rw [h1]) rfl ?_
    exact r_tabIn F 200 (by decide) (by decide) rfl (by decide) dL_law_39 (op_tick hfl F T hi hL hf hl hk I kk)
  by_cases h2 : x = 2
  · refine r_eq (st2 := [.int 2]) (by rw [h2]) rfl ?_
    exact r_tabIn F 268 (by decide) (by decide) rfl (by decide) dL_law_39 (op_skip hfl F T hi hL hf hl hk I kk)
  by_cases h3 : x = 3
  · refine r_eq (st2 := [.int 3]) (by rw [h3]) rfl ?_
    exact r_tabIn F 348 (by decide) (by decide) rfl (by decide) dL_law_39 (op_total hfl F T hi hL hf hl hk I kk)
  by_cases h4 : x = 4
  · refine r_eq (st2 := [.int 4]) (by rw [h4]) rfl ?_
    exact r_tabIn F 416 (by decide) (by decide) rfl (by decide) dL_law_39 (op_drop hfl F T hi hL hf hl hk I kk)
  by_cases h5 : x = 5
  · refine r_eq (st2 := [.int 5]) (by rw [h5]) rfl ?_
    exact r_tabIn F 460 (by decide) (by decide) rfl (by decide) dL_law_39 (op_answer hfl F T hi hL hf hl hk I kk)
  by_cases h6 : x = 6
  · refine r_eq (st2 := [.int 6]) (by rw [h6]) rfl ?_
    exact r_tabIn F 528 (by decide) (by decide) rfl (by decide) dL_law_39 (op_clear hfl F T hi hL hf hl hk I kk)
  by_cases h7 : x = 7
  · refine r_eq (st2 := [.int 7]) (by rw [h7]) rfl ?_
    exact r_tabIn F 541 (by decide) (by decide) rfl (by decide) dL_law_39 (op_append hfl F T hi hL hf hl hk I kk)
  by_cases h8 : x = 8
  · refine r_eq (st2 := [.int 8]) (by rw [h8]) rfl ?_
    exact r_tabIn F 597 (by decide) (by decide) rfl (by decide) dL_law_39 (op_clearBuffer hfl F T hi hL hf hl hk I kk)
  by_cases h9 : x = 9
  · refine r_eq (st2 := [.int 9]) (by rw [h9]) rfl ?_
    exact r_tabIn F 610 (by decide) (by decide) rfl (by decide) dL_law_39 (op_firstError hfl F T hi hL hf hl hk I kk)
  by_cases h10 : x = 10
  · refine r_eq (st2 := [.int 10]) (by rw [h10]) rfl ?_
    exact r_tabIn F 623 (by decide) (by decide) rfl (by decide) dL_law_39 (op_fill hfl F T hi hL hf hl hk I kk)
  by_cases h11 : x = 11
  · refine r_eq (st2 := [.int 11]) (by rw [h11]) rfl ?_
    exact r_tabIn F 667 (by decide) (by decide) rfl (by decide) dL_law_39 (op_undo hfl F T hi hL hf hl hk I kk)
  by_cases h12 : x = 12
  · refine r_eq (st2 := [.int 12]) (by rw [h12]) rfl ?_
    exact r_tabIn F 711 (by decide) (by decide) rfl (by decide) dL_law_39 (op_box hfl F T hi hL hf hl hk I kk)
  by_cases h13 : x = 13
  · refine r_eq (st2 := [.int 13]) (by rw [h13]) rfl ?_
    exact r_tabIn F 779 (by decide) (by decide) rfl (by decide) dL_law_39 (op_part hfl F T hi hL hf hl hk I kk)
  by_cases h14 : x = 14
  · refine r_eq (st2 := [.int 14]) (by rw [h14]) rfl ?_
    exact r_tabIn F 847 (by decide) (by decide) rfl (by decide) dL_law_39 (op_count hfl F T hi hL hf hl hk I kk)
  by_cases h15 : x = 15
  · refine r_eq (st2 := [.int 15]) (by rw [h15]) rfl ?_
    exact r_tabIn F 903 (by decide) (by decide) rfl (by decide) dL_law_39 (op_ifAnswered hfl F T hi hL hf hl hk I kk)
  by_cases h16 : x = 16
  · refine r_eq (st2 := [.int 16]) (by rw [h16]) rfl ?_
    exact r_tabIn F 983 (by decide) (by decide) rfl (by decide) dL_law_39 (op_shortest hfl F T hi hL hf hl hk I kk)
  by_cases h17 : x = 17
  · refine r_eq (st2 := [.int 17]) (by rw [h17]) rfl ?_
    exact r_tabIn F 996 (by decide) (by decide) rfl (by decide) dL_law_39 (op_mostCarried hfl F T hi hL hf hl hk I kk)
  by_cases h18 : x = 18
  · refine r_eq (st2 := [.int 18]) (by rw [h18]) rfl ?_
    exact r_tabIn F 1009 (by decide) (by decide) rfl (by decide) dL_law_39 (op_filled hfl F T hi hL hf hl hk I kk)
  by_cases h19 : x = 19
  · refine r_eq (st2 := [.int 19]) (by rw [h19]) rfl ?_
    exact r_tabIn F 1050 (by decide) (by decide) rfl (by decide) dL_law_39 (op_digest hfl F T hi hL hf hl hk I kk)
  exact r_tabOut F 1064 (tabO19 h0 h1 h2 h3 h4 h5 h6 h7 h8 h9 h10 h11 h12 h13 h14 h15 h16 h17 h18 h19) (by decide) dL_law_39 (r_widen (by omega) (by omega) (kk u I))
set_option maxHeartbeats 4000000 in
set_option maxRecDepth 100000 in
/-- the law, from its loop on -/
theorem law_loop {g : kG} {X : kX} {ret : Option FieldType} {rm0 : Room} {b L : Nat} {xs : Nat → Int32} (hfl : X.2.1.stackTraces = false) (F : Fx g X cL_law 9 ret wsL_law RL rm0) (T : Sx g X b L xs) (hL : L ≤ 2048) (hf : 10 ≤ rm0.frames) (hl : 300 ≤ rm0.locals) {K N : Nat} (hK : K ≤ rm0.cells) (hN : N ≤ rm0.slots) (kend : ∀ k n u lv, k ≤ K → n ≤ N → VL g X k n u 1070 lv []) : ∀ (f i k n0 : Nat) (u : Nat → va_E), L < i + 4 * f + 4 → i ≤ L + 4 → k + 4 * f ≤ K → n0 + 24 * f ≤ N → Inv g u → VL g X k n0 u 23 [(0, .ref b), (1, .ref (g.2.1 0)), (2, .ref (g.2.1 61)), (3, .ref (g.2.1 69)), (4, .int (nI i))] [] := by
  intro f
  induction f with
  | zero =>
    intro i k n0 u h1 h2 h3 h4 I
    refine r_iload F 4 rfl dL_law_23 ?_
    refine r_aload_n F 0 rfl dL_law_25 ?_
    refine r_slen F T dL_law_26 ?_
    refine r_iconst (v := 4) F (by decide) dL_law_27 ?_
    refine r_isub F dL_law_28 ?_
    refine r_icmp_gt F 1070 (by decide) dL_law_29 (fun _ => kend _ _ _ _ (by omega) (by omega)) (fun q => absurd (len_gt (by omega) hL (by omega)) q)
  | succ f ih =>
    intro i k n0 u h1 h2 h3 h4 I
    refine r_iload F 4 rfl dL_law_23 ?_
    refine r_aload_n F 0 rfl dL_law_25 ?_
    refine r_slen F T dL_law_26 ?_
    refine r_iconst (v := 4) F (by decide) dL_law_27 ?_
    refine r_isub F dL_law_28 ?_
    refine r_icmp_gt F 1070 (by decide) dL_law_29 (fun _ => kend _ _ _ _ (by omega) (by omega)) (fun q => ?_)
    have hi : i + 4 ≤ L := by
      rcases Nat.lt_or_ge L (i + 4) with z | z
      · exact absurd (len_gt z hL h2) q
      · exact z
    refine r_aload_n F 0 rfl dL_law_32 ?_
    refine r_iload F 4 rfl dL_law_33 ?_
    refine r_sld F T (vp_in_nI (by omega) (by omega)) dL_law_35 ?_
    refine r_bipush (v := 31) F (by decide) dL_law_36 ?_
    refine r_iand F dL_law_38 ?_
    refine law_turn hfl F T hL hf hl hi ⟨by omega, by omega⟩ I (fun u' I' => ?_)
    refine r_iinc (lv' := [(0, .ref b), (1, .ref (g.2.1 0)), (2, .ref (g.2.1 61)), (3, .ref (g.2.1 69)), (4, .int (nI (i + 4)))]) F 4 rfl (nI_inc4 _) (by decide) rfl dL_law_1064 ?_
    refine r_goto F 23 (by decide) dL_law_1067 ?_
    exact ih (i + 4) (k + 4) (n0 + 24) u' (by omega) (by omega) (by omega) (by omega) I'

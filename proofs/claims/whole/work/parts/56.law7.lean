theorem wf_clr {n : Nat} {B : kB} (h : wfB n B) : wfB n (clrB B n) := by
  intro b hb
  have e : ∀ c w, ¬ w = 4 → clrB B n c w = B c w := fun c w hw => by simp [clrB, hw]
  have e4 : clrB B n b 4 = -1 := by simp [clrB, hb]
  obtain ⟨q1, q2⟩ := h b hb
  rw [e b 1 (by decide), e b 0 (by decide), e b 2 (by decide), e b 3 (by decide), e4]
  refine ⟨q1, ?_⟩
  rcases q2 with q | q | q | ⟨z1, z2, z3⟩
  · exact Or.inl q
  · exact Or.inr (Or.inl q)
  · exact Or.inr (Or.inr (Or.inl q))
  · refine Or.inr (Or.inr (Or.inr ⟨z1, rfl, fun k hk ht => ?_⟩))
    rw [e k 0 (by decide)]
    exact z3 k hk ht
set_option maxHeartbeats 4000000 in
set_option maxRecDepth 100000 in
theorem op_clear {g : kG} {X : kX} {ret : Option FieldType} {rm0 : Room} {b L i k n0 : Nat} {xs : Nat → Int32} {u : Nat → va_E} (hfl : X.2.1.stackTraces = false) (F : Fx g X cL_law 9 ret wsL_law RL rm0) (T : Sx g X b L xs) (hi : i + 4 ≤ L) (hL : L ≤ 2048) (hf : 10 ≤ rm0.frames) (hl : 300 ≤ rm0.locals) (hk : k + 4 ≤ rm0.cells ∧ n0 + 24 ≤ rm0.slots) (I : Inv g u) (kk : ∀ u', Inv g u' → VL g X (k + 4) (n0 + 24) u' 1064 [(0, .ref b), (1, .ref (g.2.1 0)), (2, .ref (g.2.1 61)), (3, .ref (g.2.1 69)), (4, .int (nI i))] []) : VL g X k n0 u 528 [(0, .ref b), (1, .ref (g.2.1 0)), (2, .ref (g.2.1 61)), (3, .ref (g.2.1 69)), (4, .int (nI i))] [] := by
  obtain ⟨n, B, m, S, t, C, th, rm, sp, wr, hs, VA, RD, CH, WE, hc, hM, hwf, hws, hO⟩ := I
  have hm6 := hM.m6
  refine r_aload_n F 1 rfl dL_law_528 ?_
  refine r_calli (g_V (C := RX3) (T := TX3) (N := 4) (nA := 0) (As := []) (rest := []) F 0 hc.1 (by decide) rfl (c_X3_clear hc) gL_law_X3_clear rfl (by decide +kernel) rfl ⟨Nat.le_trans (Nat.le_of_ble_eq_true rfl) hf, Nat.le_trans (Nat.le_of_ble_eq_true rfl) hl⟩ ⟨Nat.le_trans (Nat.add_le_add_left (Nat.le_of_ble_eq_true rfl) k) hk.1, Nat.le_trans (Nat.add_le_add_left (Nat.le_of_ble_eq_true rfl) n0) hk.2⟩ rfl (Nat.le_of_ble_eq_true rfl) dL_law_529) (fun r1 u1 hp1 => ?_)
  obtain ⟨rfl, hC, hq⟩ := hp1
  have hM1 := hM.keep (fun j h1 h2 => hq j h1)
  have hO1 : OutR g u1 := by obtain ⟨fo, ho⟩ := hO; exact ⟨fo, (hq 69 (by omega)).trans ho⟩
  refine r_aload_n F 2 rfl dL_law_532 ?_
  refine r_calli (g_V (C := RX4) (T := TX4) (N := 14) (nA := 0) (As := []) (rest := [.int (cntN n (fun b => !decide (B b 4 = -1)))]) F 61 (by obtain ⟨Z9, S9, F9, h9, -⟩ := hM1; exact h9.1) (by decide) rfl (c_X4_clear hM1) gL_law_X4_clear rfl (by decide +kernel) rfl ⟨Nat.le_trans (Nat.le_of_ble_eq_true rfl) hf, Nat.le_trans (Nat.le_of_ble_eq_true rfl) hl⟩ ⟨Nat.le_trans (Nat.add_le_add_left (Nat.le_of_ble_eq_true rfl) k) hk.1, Nat.le_trans (Nat.add_le_add_left (Nat.le_of_ble_eq_true rfl) n0) hk.2⟩ rfl (Nat.le_of_ble_eq_true rfl) dL_law_533) (fun r2 u2 hp2 => ?_)
  obtain ⟨rfl, hX, hq2⟩ := hp2
  refine r_icmp_eq F 1064 (by decide) dL_law_536 (fun c_536_1 => ?_) (fun c_536_1 => absurd rfl c_536_1)
  clear c_536_1
  refine r_lv (lv2 := [(0, .ref b), (1, .ref (g.2.1 0)), (2, .ref (g.2.1 61)), (3, .ref (g.2.1 69)), (4, .int (nI i))]) (by simp) ?_
  exact r_widen (by show _ ≤ k + 4; simp) (by show _ ≤ n0 + 24; simp) (kk _ ⟨_, _, _, _, _, _, _, _, _, _, _, _, _, _, _, hC.keep (fun j hj => hq2 j (by omega)), hX, (wf_clr hwf), (hws.push hwf hm6), hO1.keep hq2⟩)
set_option maxHeartbeats 4000000 in
set_option maxRecDepth 100000 in
theorem op_clearBuffer {g : kG} {X : kX} {ret : Option FieldType} {rm0 : Room} {b L i k n0 : Nat} {xs : Nat → Int32} {u : Nat → va_E} (hfl : X.2.1.stackTraces = false) (F : Fx g X cL_law 9 ret wsL_law RL rm0) (T : Sx g X b L xs) (hi : i + 4 ≤ L) (hL : L ≤ 2048) (hf : 10 ≤ rm0.frames) (hl : 300 ≤ rm0.locals) (hk : k + 4 ≤ rm0.cells ∧ n0 + 24 ≤ rm0.slots) (I : Inv g u) (kk : ∀ u', Inv g u' → VL g X (k + 4) (n0 + 24) u' 1064 [(0, .ref b), (1, .ref (g.2.1 0)), (2, .ref (g.2.1 61)), (3, .ref (g.2.1 69)), (4, .int (nI i))] []) : VL g X k n0 u 597 [(0, .ref b), (1, .ref (g.2.1 0)), (2, .ref (g.2.1 61)), (3, .ref (g.2.1 69)), (4, .int (nI i))] [] := by
  obtain ⟨n, B, m, S, t, C, th, rm, sp, wr, hs, VA, RD, CH, WE, hc, hM, hwf, hws, hO⟩ := I
  have hm6 := hM.m6
  refine r_aload_n F 1 rfl dL_law_597 ?_
  refine r_calli (g_V (C := RX3) (T := TX3) (N := 4) (nA := 0) (As := []) (rest := []) F 0 hc.1 (by decide) rfl (c_X3_clearBuffer hc) gL_law_X3_clearBuffer rfl (by decide +kernel) rfl ⟨Nat.le_trans (Nat.le_of_ble_eq_true rfl) hf, Nat.le_trans (Nat.le_of_ble_eq_true rfl) hl⟩ ⟨Nat.le_trans (Nat.add_le_add_left (Nat.le_of_ble_eq_true rfl) k) hk.1, Nat.le_trans (Nat.add_le_add_left (Nat.le_of_ble_eq_true rfl) n0) hk.2⟩ rfl (Nat.le_of_ble_eq_true rfl) dL_law_598) (fun r1 u1 hp1 => ?_)
  obtain ⟨rfl, hC, hq⟩ := hp1
  have hM1 := hM.keep (fun j h1 h2 => hq j h1)
  have hO1 : OutR g u1 := by obtain ⟨fo, ho⟩ := hO; exact ⟨fo, (hq 69 (by omega)).trans ho⟩
  refine r_aload_n F 2 rfl dL_law_601 ?_
  refine r_calli (g_V (C := RX4) (T := TX4) (N := 14) (nA := 0) (As := []) (rest := [.int (nI t)]) F 61 (by obtain ⟨Z9, S9, F9, h9, -⟩ := hM1; exact h9.1) (by decide) rfl (c_X4_clearBuffer hM1) gL_law_X4_clearBuffer rfl (by decide +kernel) rfl ⟨Nat.le_trans (Nat.le_of_ble_eq_true rfl) hf, Nat.le_trans (Nat.le_of_ble_eq_true rfl) hl⟩ ⟨Nat.le_trans (Nat.add_le_add_left (Nat.le_of_ble_eq_true rfl) k) hk.1, Nat.le_trans (Nat.add_le_add_left (Nat.le_of_ble_eq_true rfl) n0) hk.2⟩ rfl (Nat.le_of_ble_eq_true rfl) dL_law_602) (fun r2 u2 hp2 => ?_)
  obtain ⟨rfl, hX, hq2⟩ := hp2
  refine r_icmp_eq F 1064 (by decide) dL_law_605 (fun c_605_1 => ?_) (fun c_605_1 => absurd rfl c_605_1)
  clear c_605_1
  refine r_lv (lv2 := [(0, .ref b), (1, .ref (g.2.1 0)), (2, .ref (g.2.1 61)), (3, .ref (g.2.1 69)), (4, .int (nI i))]) (by simp) ?_
  exact r_widen (by show _ ≤ k + 4; simp) (by show _ ≤ n0 + 24; simp) (kk _ ⟨_, _, _, _, _, _, _, _, _, _, _, _, _, _, _, hC.keep (fun j hj => hq2 j (by omega)), hX, hwf, hws, hO1.keep hq2⟩)
set_option maxHeartbeats 4000000 in
set_option maxRecDepth 100000 in
theorem op_firstError {g : kG} {X : kX} {ret : Option FieldType} {rm0 : Room} {b L i k n0 : Nat} {xs : Nat → Int32} {u : Nat → va_E} (hfl : X.2.1.stackTraces = false) (F : Fx g X cL_law 9 ret wsL_law RL rm0) (T : Sx g X b L xs) (hi : i + 4 ≤ L) (hL : L ≤ 2048) (hf : 10 ≤ rm0.frames) (hl : 300 ≤ rm0.locals) (hk : k + 4 ≤ rm0.cells ∧ n0 + 24 ≤ rm0.slots) (I : Inv g u) (kk : ∀ u', Inv g u' → VL g X (k + 4) (n0 + 24) u' 1064 [(0, .ref b), (1, .ref (g.2.1 0)), (2, .ref (g.2.1 61)), (3, .ref (g.2.1 69)), (4, .int (nI i))] []) : VL g X k n0 u 610 [(0, .ref b), (1, .ref (g.2.1 0)), (2, .ref (g.2.1 61)), (3, .ref (g.2.1 69)), (4, .int (nI i))] [] := by
  obtain ⟨n, B, m, S, t, C, th, rm, sp, wr, hs, VA, RD, CH, WE, hc, hM, hwf, hws, hO⟩ := I
  have hm6 := hM.m6
  refine r_aload_n F 1 rfl dL_law_610 ?_
  refine r_calli (g_V (C := RX3) (T := TX3) (N := 4) (nA := 0) (As := []) (rest := []) F 0 hc.1 (by decide) rfl (c_X3_firstError hc) gL_law_X3_firstError rfl (by decide +kernel) rfl ⟨Nat.le_trans (Nat.le_of_ble_eq_true rfl) hf, Nat.le_trans (Nat.le_of_ble_eq_true rfl) hl⟩ ⟨Nat.le_trans (Nat.add_le_add_left (Nat.le_of_ble_eq_true rfl) k) hk.1, Nat.le_trans (Nat.add_le_add_left (Nat.le_of_ble_eq_true rfl) n0) hk.2⟩ rfl (Nat.le_of_ble_eq_true rfl) dL_law_611) (fun r1 u1 hp1 => ?_)
  obtain ⟨rfl, rfl⟩ := hp1
  have hC := hc
  have hM1 := hM
  have hO1 := hO
  refine r_aload_n F 2 rfl dL_law_614 ?_
  refine r_calli (g_V (C := RX4) (T := TX4) (N := 14) (nA := 0) (As := []) (rest := [.int (errC C t)]) F 61 (by obtain ⟨Z9, S9, F9, h9, -⟩ := hM1; exact h9.1) (by decide) rfl (c_X4_firstError hM1) gL_law_X4_firstError rfl (by decide +kernel) rfl ⟨Nat.le_trans (Nat.le_of_ble_eq_true rfl) hf, Nat.le_trans (Nat.le_of_ble_eq_true rfl) hl⟩ ⟨Nat.le_trans (Nat.add_le_add_left (Nat.le_of_ble_eq_true rfl) k) hk.1, Nat.le_trans (Nat.add_le_add_left (Nat.le_of_ble_eq_true rfl) n0) hk.2⟩ rfl (Nat.le_of_ble_eq_true rfl) dL_law_615) (fun r2 u2 hp2 => ?_)
  obtain ⟨rfl, ⟨_, _, _, _, hX⟩, hq2⟩ := hp2
  refine r_icmp_eq F 1064 (by decide) dL_law_618 (fun c_618_1 => ?_) (fun c_618_1 => absurd rfl c_618_1)
  clear c_618_1
  refine r_lv (lv2 := [(0, .ref b), (1, .ref (g.2.1 0)), (2, .ref (g.2.1 61)), (3, .ref (g.2.1 69)), (4, .int (nI i))]) (by simp) ?_
  exact r_widen (by show _ ≤ k + 4; simp) (by show _ ≤ n0 + 24; simp) (kk _ ⟨_, _, _, _, _, _, _, _, _, _, _, _, _, _, _, hC.keep (fun j hj => hq2 j (by omega)), hX, hwf, hws, hO1.keep hq2⟩)
set_option maxHeartbeats 4000000 in
set_option maxRecDepth 100000 in
theorem op_shortest {g : kG} {X : kX} {ret : Option FieldType} {rm0 : Room} {b L i k n0 : Nat} {xs : Nat → Int32} {u : Nat → va_E} (hfl : X.2.1.stackTraces = false) (F : Fx g X cL_law 9 ret wsL_law RL rm0) (T : Sx g X b L xs) (hi : i + 4 ≤ L) (hL : L ≤ 2048) (hf : 10 ≤ rm0.frames) (hl : 300 ≤ rm0.locals) (hk : k + 4 ≤ rm0.cells ∧ n0 + 24 ≤ rm0.slots) (I : Inv g u) (kk : ∀ u', Inv g u' → VL g X (k + 4) (n0 + 24) u' 1064 [(0, .ref b), (1, .ref (g.2.1 0)), (2, .ref (g.2.1 61)), (3, .ref (g.2.1 69)), (4, .int (nI i))] []) : VL g X k n0 u 983 [(0, .ref b), (1, .ref (g.2.1 0)), (2, .ref (g.2.1 61)), (3, .ref (g.2.1 69)), (4, .int (nI i))] [] := by
  obtain ⟨n, B, m, S, t, C, th, rm, sp, wr, hs, VA, RD, CH, WE, hc, hM, hwf, hws, hO⟩ := I
  have hm6 := hM.m6
  refine r_aload_n F 1 rfl dL_law_983 ?_
  refine r_calli (g_V (C := RX3) (T := TX3) (N := 4) (nA := 0) (As := []) (rest := []) F 0 hc.1 (by decide) rfl (c_X3_shortest hc) gL_law_X3_shortest rfl (by decide +kernel) rfl ⟨Nat.le_trans (Nat.le_of_ble_eq_true rfl) hf, Nat.le_trans (Nat.le_of_ble_eq_true rfl) hl⟩ ⟨Nat.le_trans (Nat.add_le_add_left (Nat.le_of_ble_eq_true rfl) k) hk.1, Nat.le_trans (Nat.add_le_add_left (Nat.le_of_ble_eq_true rfl) n0) hk.2⟩ rfl (Nat.le_of_ble_eq_true rfl) dL_law_984) (fun r1 u1 hp1 => ?_)
  obtain ⟨rfl, rfl⟩ := hp1
  have hC := hc
  have hM1 := hM
  have hO1 := hO
  refine r_aload_n F 2 rfl dL_law_987 ?_
  refine r_calli (g_V (C := RX4) (T := TX4) (N := 14) (nA := 0) (As := []) (rest := [.int (sho B n)]) F 61 (by obtain ⟨Z9, S9, F9, h9, -⟩ := hM1; exact h9.1) (by decide) rfl (c_X4_shortest hM1 hwf) gL_law_X4_shortest rfl (by decide +kernel) rfl ⟨Nat.le_trans (Nat.le_of_ble_eq_true rfl) hf, Nat.le_trans (Nat.le_of_ble_eq_true rfl) hl⟩ ⟨Nat.le_trans (Nat.add_le_add_left (Nat.le_of_ble_eq_true rfl) k) hk.1, Nat.le_trans (Nat.add_le_add_left (Nat.le_of_ble_eq_true rfl) n0) hk.2⟩ rfl (Nat.le_of_ble_eq_true rfl) dL_law_988) (fun r2 u2 hp2 => ?_)
  obtain ⟨rfl, ⟨_, _, hX⟩, hq2⟩ := hp2
  refine r_icmp_eq F 1064 (by decide) dL_law_991 (fun c_991_1 => ?_) (fun c_991_1 => absurd rfl c_991_1)
  clear c_991_1
  refine r_lv (lv2 := [(0, .ref b), (1, .ref (g.2.1 0)), (2, .ref (g.2.1 61)), (3, .ref (g.2.1 69)), (4, .int (nI i))]) (by simp) ?_
  exact r_widen (by show _ ≤ k + 4; simp) (by show _ ≤ n0 + 24; simp) (kk _ ⟨_, _, _, _, _, _, _, _, _, _, _, _, _, _, _, hC.keep (fun j hj => hq2 j (by omega)), hX, hwf, hws, hO1.keep hq2⟩)
set_option maxHeartbeats 4000000 in
set_option maxRecDepth 100000 in
theorem op_mostCarried {g : kG} {X : kX} {ret : Option FieldType} {rm0 : Room} {b L i k n0 : Nat} {xs : Nat → Int32} {u : Nat → va_E} (hfl : X.2.1.stackTraces = false) (F : Fx g X cL_law 9 ret wsL_law RL rm0) (T : Sx g X b L xs) (hi : i + 4 ≤ L) (hL : L ≤ 2048) (hf : 10 ≤ rm0.frames) (hl : 300 ≤ rm0.locals) (hk : k + 4 ≤ rm0.cells ∧ n0 + 24 ≤ rm0.slots) (I : Inv g u) (kk : ∀ u', Inv g u' → VL g X (k + 4) (n0 + 24) u' 1064 [(0, .ref b), (1, .ref (g.2.1 0)), (2, .ref (g.2.1 61)), (3, .ref (g.2.1 69)), (4, .int (nI i))] []) : VL g X k n0 u 996 [(0, .ref b), (1, .ref (g.2.1 0)), (2, .ref (g.2.1 61)), (3, .ref (g.2.1 69)), (4, .int (nI i))] [] := by
  obtain ⟨n, B, m, S, t, C, th, rm, sp, wr, hs, VA, RD, CH, WE, hc, hM, hwf, hws, hO⟩ := I
  have hm6 := hM.m6
  refine r_aload_n F 1 rfl dL_law_996 ?_
  refine r_calli (g_V (C := RX3) (T := TX3) (N := 4) (nA := 0) (As := []) (rest := []) F 0 hc.1 (by decide) rfl (c_X3_mostCarried hc) gL_law_X3_mostCarried rfl (by decide +kernel) rfl ⟨Nat.le_trans (Nat.le_of_ble_eq_true rfl) hf, Nat.le_trans (Nat.le_of_ble_eq_true rfl) hl⟩ ⟨Nat.le_trans (Nat.add_le_add_left (Nat.le_of_ble_eq_true rfl) k) hk.1, Nat.le_trans (Nat.add_le_add_left (Nat.le_of_ble_eq_true rfl) n0) hk.2⟩ rfl (Nat.le_of_ble_eq_true rfl) dL_law_997) (fun r1 u1 hp1 => ?_)
  obtain ⟨rfl, rfl⟩ := hp1
  have hC := hc
  have hM1 := hM
  have hO1 := hO
  refine r_aload_n F 2 rfl dL_law_1000 ?_
  refine r_calli (g_V (C := RX4) (T := TX4) (N := 14) (nA := 0) (As := []) (rest := [.int (mcB B n n)]) F 61 (by obtain ⟨Z9, S9, F9, h9, -⟩ := hM1; exact h9.1) (by decide) rfl (c_X4_mostCarried hM1) gL_law_X4_mostCarried rfl (by decide +kernel) rfl ⟨Nat.le_trans (Nat.le_of_ble_eq_true rfl) hf, Nat.le_trans (Nat.le_of_ble_eq_true rfl) hl⟩ ⟨Nat.le_trans (Nat.add_le_add_left (Nat.le_of_ble_eq_true rfl) k) hk.1, Nat.le_trans (Nat.add_le_add_left (Nat.le_of_ble_eq_true rfl) n0) hk.2⟩ rfl (Nat.le_of_ble_eq_true rfl) dL_law_1001) (fun r2 u2 hp2 => ?_)
  obtain ⟨rfl, hX, hq2⟩ := hp2
  refine r_icmp_eq F 1064 (by decide) dL_law_1004 (fun c_1004_1 => ?_) (fun c_1004_1 => absurd rfl c_1004_1)
  clear c_1004_1
  refine r_lv (lv2 := [(0, .ref b), (1, .ref (g.2.1 0)), (2, .ref (g.2.1 61)), (3, .ref (g.2.1 69)), (4, .int (nI i))]) (by simp) ?_
  exact r_widen (by show _ ≤ k + 4; simp) (by show _ ≤ n0 + 24; simp) (kk _ ⟨_, _, _, _, _, _, _, _, _, _, _, _, _, _, _, hC.keep (fun j hj => hq2 j (by omega)), hX, hwf, hws, hO1.keep hq2⟩)
set_option maxHeartbeats 4000000 in
set_option maxRecDepth 100000 in
theorem op_filled {g : kG} {X : kX} {ret : Option FieldType} {rm0 : Room} {b L i k n0 : Nat} {xs : Nat → Int32} {u : Nat → va_E} (hfl : X.2.1.stackTraces = false) (F : Fx g X cL_law 9 ret wsL_law RL rm0) (T : Sx g X b L xs) (hi : i + 4 ≤ L) (hL : L ≤ 2048) (hf : 10 ≤ rm0.frames) (hl : 300 ≤ rm0.locals) (hk : k + 4 ≤ rm0.cells ∧ n0 + 24 ≤ rm0.slots) (I : Inv g u) (kk : ∀ u', Inv g u' → VL g X (k + 4) (n0 + 24) u' 1064 [(0, .ref b), (1, .ref (g.2.1 0)), (2, .ref (g.2.1 61)), (3, .ref (g.2.1 69)), (4, .int (nI i))] []) : VL g X k n0 u 1009 [(0, .ref b), (1, .ref (g.2.1 0)), (2, .ref (g.2.1 61)), (3, .ref (g.2.1 69)), (4, .int (nI i))] [] := by
  obtain ⟨n, B, m, S, t, C, th, rm, sp, wr, hs, VA, RD, CH, WE, hc, hM, hwf, hws, hO⟩ := I
  have hm6 := hM.m6
  refine r_aload_n F 1 rfl dL_law_1009 ?_
  refine r_calld (g_V (C := RX3) (T := TX3) (N := 4) (nA := 0) (As := []) (rest := []) F 0 hc.1 (by decide) rfl (c_X3_filled hc) gL_law_X3_filled rfl (by decide +kernel) rfl ⟨Nat.le_trans (Nat.le_of_ble_eq_true rfl) hf, Nat.le_trans (Nat.le_of_ble_eq_true rfl) hl⟩ ⟨Nat.le_trans (Nat.add_le_add_left (Nat.le_of_ble_eq_true rfl) k) hk.1, Nat.le_trans (Nat.add_le_add_left (Nat.le_of_ble_eq_true rfl) n0) hk.2⟩ rfl (Nat.le_of_ble_eq_true rfl) dL_law_1010) (fun r1 u1 hp1 => ?_)
  obtain ⟨rfl, rfl⟩ := hp1
  have hC := hc
  have hM1 := hM
  have hO1 := hO
  refine r_dstore (lv' := [(0, .ref b), (1, .ref (g.2.1 0)), (2, .ref (g.2.1 61)), (3, .ref (g.2.1 69)), (4, .int (nI i)), (5, .double (filD B n))]) F (by decide) rfl dL_law_1013 ?_
  refine r_aload_n F 2 rfl dL_law_1015 ?_
  refine r_calld (g_V (C := RX4) (T := TX4) (N := 14) (nA := 0) (As := []) (rest := []) F 61 (by obtain ⟨Z9, S9, F9, h9, -⟩ := hM1; exact h9.1) (by decide) rfl (c_X4_filled hM1) gL_law_X4_filled rfl (by decide +kernel) rfl ⟨Nat.le_trans (Nat.le_of_ble_eq_true rfl) hf, Nat.le_trans (Nat.le_of_ble_eq_true rfl) hl⟩ ⟨Nat.le_trans (Nat.add_le_add_left (Nat.le_of_ble_eq_true rfl) k) hk.1, Nat.le_trans (Nat.add_le_add_left (Nat.le_of_ble_eq_true rfl) n0) hk.2⟩ rfl (Nat.le_of_ble_eq_true rfl) dL_law_1016) (fun r2 u2 hp2 => ?_)
  obtain ⟨rfl, hX, hq2⟩ := hp2
  refine r_dstore (lv' := [(0, .ref b), (1, .ref (g.2.1 0)), (2, .ref (g.2.1 61)), (3, .ref (g.2.1 69)), (4, .int (nI i)), (5, .double (filD B n)), (7, .double (filD B n))]) F (by decide) rfl dL_law_1019 ?_
  refine r_dload F 5 rfl dL_law_1021 ?_
  refine r_dload F 6 rfl dL_law_1023 ?_
  refine r_dcmp F dL_law_1025 ?_
  refine r_if_eq F 1047 (by decide) dL_law_1026 (fun c_1026_1 => ?_) (fun c_1026_1 => ?_)
  · skip
    refine r_goto F 1064 (by decide) dL_law_1047 ?_
    refine r_lv (lv2 := [(0, .ref b), (1, .ref (g.2.1 0)), (2, .ref (g.2.1 61)), (3, .ref (g.2.1 69)), (4, .int (nI i))]) (by simp) ?_
    exact r_widen (by show _ ≤ k + 4; simp) (by show _ ≤ n0 + 24; simp) (kk _ ⟨_, _, _, _, _, _, _, _, _, _, _, _, _, _, _, hC.keep (fun j hj => hq2 j (by omega)), hX, hwf, hws, hO1.keep hq2⟩)
  · skip
    refine r_dload F 5 rfl dL_law_1029 ?_
    refine r_dload F 5 rfl dL_law_1031 ?_
    refine r_dcmp F dL_law_1033 ?_
    refine r_if_eq F 1045 (by decide) dL_law_1034 (fun c_1034_2 => absurd c_1034_2 c_1026_1) (fun c_1034_2 => ?_)
    clear c_1034_2
    refine r_dload F 6 rfl dL_law_1037 ?_
    refine r_dload F 6 rfl dL_law_1039 ?_
    refine r_dcmp F dL_law_1041 ?_
    refine r_if_ne F 1047 (by decide) dL_law_1042 (fun c_1042_3 => ?_) (fun c_1042_3 => absurd c_1042_3 c_1026_1)
    clear c_1042_3
    refine r_goto F 1064 (by decide) dL_law_1047 ?_
    refine r_lv (lv2 := [(0, .ref b), (1, .ref (g.2.1 0)), (2, .ref (g.2.1 61)), (3, .ref (g.2.1 69)), (4, .int (nI i))]) (by simp) ?_
    exact r_widen (by show _ ≤ k + 4; simp) (by show _ ≤ n0 + 24; simp) (kk _ ⟨_, _, _, _, _, _, _, _, _, _, _, _, _, _, _, hC.keep (fun j hj => hq2 j (by omega)), hX, hwf, hws, hO1.keep hq2⟩)
set_option maxHeartbeats 4000000 in
set_option maxRecDepth 100000 in
theorem op_digest {g : kG} {X : kX} {ret : Option FieldType} {rm0 : Room} {b L i k n0 : Nat} {xs : Nat → Int32} {u : Nat → va_E} (hfl : X.2.1.stackTraces = false) (F : Fx g X cL_law 9 ret wsL_law RL rm0) (T : Sx g X b L xs) (hi : i + 4 ≤ L) (hL : L ≤ 2048) (hf : 10 ≤ rm0.frames) (hl : 300 ≤ rm0.locals) (hk : k + 4 ≤ rm0.cells ∧ n0 + 24 ≤ rm0.slots) (I : Inv g u) (kk : ∀ u', Inv g u' → VL g X (k + 4) (n0 + 24) u' 1064 [(0, .ref b), (1, .ref (g.2.1 0)), (2, .ref (g.2.1 61)), (3, .ref (g.2.1 69)), (4, .int (nI i))] []) : VL g X k n0 u 1050 [(0, .ref b), (1, .ref (g.2.1 0)), (2, .ref (g.2.1 61)), (3, .ref (g.2.1 69)), (4, .int (nI i))] [] := by
  obtain ⟨n, B, m, S, t, C, th, rm, sp, wr, hs, VA, RD, CH, WE, hc, hM, hwf, hws, hO⟩ := I
  have hm6 := hM.m6
  refine r_aload_n F 1 rfl dL_law_1050 ?_
  refine r_calll (g_V (C := RX3) (T := TX3) (N := 4) (nA := 0) (As := []) (rest := []) F 0 hc.1 (by decide) rfl (c_X3_digest hc) gL_law_X3_digest rfl (by decide +kernel) rfl ⟨Nat.le_trans (Nat.le_of_ble_eq_true rfl) hf, Nat.le_trans (Nat.le_of_ble_eq_true rfl) hl⟩ ⟨Nat.le_trans (Nat.add_le_add_left (Nat.le_of_ble_eq_true rfl) k) hk.1, Nat.le_trans (Nat.add_le_add_left (Nat.le_of_ble_eq_true rfl) n0) hk.2⟩ rfl (Nat.le_of_ble_eq_true rfl) dL_law_1051) (fun r1 u1 hp1 => ?_)
  obtain ⟨rfl, hC, hq⟩ := hp1
  have hM1 := hM.keep (fun j h1 h2 => hq j h1)
  have hO1 : OutR g u1 := by obtain ⟨fo, ho⟩ := hO; exact ⟨fo, (hq 69 (by omega)).trans ho⟩
  refine r_aload_n F 2 rfl dL_law_1054 ?_
  refine r_calll (g_V (C := RX4) (T := TX4) (N := 14) (nA := 0) (As := []) (rest := [.long (digL B n m t C)]) F 61 (by obtain ⟨Z9, S9, F9, h9, -⟩ := hM1; exact h9.1) (by decide) rfl (c_X4_digest hM1 hwf) gL_law_X4_digest rfl (by decide +kernel) rfl ⟨Nat.le_trans (Nat.le_of_ble_eq_true rfl) hf, Nat.le_trans (Nat.le_of_ble_eq_true rfl) hl⟩ ⟨Nat.le_trans (Nat.add_le_add_left (Nat.le_of_ble_eq_true rfl) k) hk.1, Nat.le_trans (Nat.add_le_add_left (Nat.le_of_ble_eq_true rfl) n0) hk.2⟩ rfl (Nat.le_of_ble_eq_true rfl) dL_law_1055) (fun r2 u2 hp2 => ?_)
  obtain ⟨rfl, ⟨_, _, _, _, hX⟩, hq2⟩ := hp2
  refine r_lcmp F dL_law_1058 ?_
  refine r_if_eq F 1064 (by decide) dL_law_1059 (fun c_1059_1 => ?_) (fun c_1059_1 => absurd (lg_cmp0 _) c_1059_1)
  clear c_1059_1
  refine r_lv (lv2 := [(0, .ref b), (1, .ref (g.2.1 0)), (2, .ref (g.2.1 61)), (3, .ref (g.2.1 69)), (4, .int (nI i))]) (by simp) ?_
  exact r_widen (by show _ ≤ k + 4; simp) (by show _ ≤ n0 + 24; simp) (kk _ ⟨_, _, _, _, _, _, _, _, _, _, _, _, _, _, _, hC.keep (fun j hj => hq2 j (by omega)), hX, hwf, hws, hO1.keep hq2⟩)

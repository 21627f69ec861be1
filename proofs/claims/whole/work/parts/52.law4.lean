def cdFill (C : Nat → Int32) (t : Nat) : Nat := if cmpC C t = true then 0 else 1
set_option maxHeartbeats 4000000 in
set_option maxRecDepth 100000 in
theorem c_L_comb {g : kG} {l : Launch} (hfl : l.stackTraces = false) {u : Nat → va_E} {n m t : Nat} {B : kB} {S : Nat → kS} {C : Nat → Int32} {p a : Int32} (hc : CsB g u n B m S t C) (hO : OutR g u) : CC g l yL_comb wsL_comb ({ frames := 9, cells := 3, slots := 18, locals := 156 }) [.ref (g.2.1 0), .int p, .int a, .ref (g.2.1 69)] u (fun r u' => (cdComb n p a = 0 ∧ r = 0 ∧ CsB g u' (n + 1) (bAdd B n 0 p a (-1)) (pushM m) (pushS m S (n, B)) t C ∧ OutV g u' (nI n) ∧ ∀ j, 61 ≤ j → j < 69 → u' j = u j) ∨ (∃ c, 0 < c ∧ cdComb n p a = c ∧ r = nI c ∧ u' = u)) := by
  refine CC.of (cc := cL_comb) (nL := 5) (ty := .int) (hh := [(0, 10, 13, 13), (0, 10, 17, 15), (0, 10, 21, 17)]) (by decide +kernel) rfl (fun _ _ _ => rfl) (Nat.le_of_ble_eq_true rfl) ?_
  intro X hXl F T hret
  subst hXl
  obtain ⟨f, hO⟩ := hO
  have hex := F.ex
  have hec := T.ec
  show VL g X 0 0 u 0 [(0, .ref (g.2.1 0)), (1, .int p), (2, .int a), (3, .ref (g.2.1 69))] []
  refine r_aload_n F 3 rfl dL_comb_0 ?_
  refine r_iconst (v := 0) F (by decide) dL_comb_1 ?_
  refine r_aload_n F 0 rfl dL_comb_2 ?_
  refine r_iload_n F 1 rfl dL_comb_3 ?_
  refine r_iload_n F 2 rfl dL_comb_4 ?_
  refine r_ccalli F T (g_XV (C := RX3) (T := TX3) (N := 4) (nA := 2) (As := [.int p, .int a]) (rest := [.int 0, .ref (g.2.1 69)]) F 0 hc.1 (by decide) rfl (c_X3_comb hfl hc) gL_comb_X3_comb rfl (by decide +kernel) rfl ⟨Nat.le_of_ble_eq_true rfl, Nat.le_of_ble_eq_true rfl⟩ ⟨Nat.le_of_ble_eq_true rfl, Nat.le_of_ble_eq_true rfl⟩ rfl (Nat.le_of_ble_eq_true rfl) dL_comb_5) (fun E u' hx => ?_) (fun r u' hp => ?_)
  · skip
    obtain ⟨hx, eu⟩ := hx
    rw [eu]
    rcases hx with ⟨hcd, rfl⟩ | ⟨hcd, rfl⟩ | ⟨hcd, rfl⟩
    · skip
      refine ⟨13, ⟨[], _, tableOf [(0, 10, 17, 15), (0, 10, 21, 17)], "java/lang/IndexOutOfBoundsException", rfl, (fun z hz => absurd hz List.not_mem_nil), by decide, by decide, (show Cond.classLink RL 13 "java/lang/IndexOutOfBoundsException" ∈ wsL_comb by decide +kernel), hex.2.2.2.2.1, rfl⟩, fun q => ?_⟩
      refine r_astore (lv' := [(0, .ref (g.2.1 0)), (1, .int p), (2, .int a), (3, .ref (g.2.1 69)), (4, .ref q)]) F (by decide) rfl dL_comb_13 ?_
      refine r_iconst (v := 1) F (by decide) dL_comb_15 ?_
      exact hret _ _ _ _ _ _ (Nat.le_of_ble_eq_true rfl) (Nat.le_of_ble_eq_true rfl) (Or.inr ⟨1, by decide, hcd, rfl, rfl⟩) dL_comb_16
    · skip
      refine ⟨17, ⟨(tableOf [(0, 10, 13, 13)]), _, tableOf [(0, 10, 21, 17)], "java/lang/IllegalArgumentException", rfl, (fun z hz => by obtain rfl := List.mem_singleton.mp hz; exact Or.inr ⟨by decide, _, (show Cond.classLink RL 13 "java/lang/IndexOutOfBoundsException" ∈ wsL_comb by decide +kernel), hec.1⟩), by decide, by decide, (show Cond.classLink RL 15 "java/lang/IllegalArgumentException" ∈ wsL_comb by decide +kernel), hex.2.2.2.2.2.1, rfl⟩, fun q => ?_⟩
      refine r_astore (lv' := [(0, .ref (g.2.1 0)), (1, .int p), (2, .int a), (3, .ref (g.2.1 69)), (4, .ref q)]) F (by decide) rfl dL_comb_17 ?_
      refine r_iconst (v := 2) F (by decide) dL_comb_19 ?_
      exact hret _ _ _ _ _ _ (Nat.le_of_ble_eq_true rfl) (Nat.le_of_ble_eq_true rfl) (Or.inr ⟨2, by decide, hcd, rfl, rfl⟩) dL_comb_20
    · skip
      refine ⟨21, ⟨(tableOf [(0, 10, 13, 13), (0, 10, 17, 15)]), _, tableOf [], "java/lang/IllegalStateException", rfl, (fun z hz => by rcases List.mem_cons.mp hz with rfl | hz; exact Or.inr ⟨by decide, _, (show Cond.classLink RL 13 "java/lang/IndexOutOfBoundsException" ∈ wsL_comb by decide +kernel), hec.2.1⟩; obtain rfl := List.mem_singleton.mp hz; exact Or.inr ⟨by decide, _, (show Cond.classLink RL 15 "java/lang/IllegalArgumentException" ∈ wsL_comb by decide +kernel), hec.2.2⟩), by decide, by decide, (show Cond.classLink RL 17 "java/lang/IllegalStateException" ∈ wsL_comb by decide +kernel), hex.2.2.2.2.2.2.1, rfl⟩, fun q => ?_⟩
      refine r_astore (lv' := [(0, .ref (g.2.1 0)), (1, .int p), (2, .int a), (3, .ref (g.2.1 69)), (4, .ref q)]) F (by decide) rfl dL_comb_21 ?_
      refine r_iconst (v := 3) F (by decide) dL_comb_23 ?_
      exact hret _ _ _ _ _ _ (Nat.le_of_ble_eq_true rfl) (Nat.le_of_ble_eq_true rfl) (Or.inr ⟨3, by decide, hcd, rfl, rfl⟩) dL_comb_24
  · skip
    obtain ⟨hcd, er, hC, hk⟩ := hp
    subst er
    have hO2 : u' 69 = .inl (g.2.2.1 3, 1, .inr (.inl f)) := (hk 69 (by omega)).trans hO
    refine r_i2l F rfl dL_comb_8 ?_
    refine r_last F 69 hO2 (by decide) (vp_in_nI (n := 0) (by decide) (by decide)) dL_comb_9 (fun u_1 hu_1 => ?_)
    have hu := hu_1
    refine r_goto F 25 (by decide) dL_comb_10 ?_
    refine r_iconst (v := 0) F (by decide) dL_comb_25 ?_
    exact hret _ _ _ _ _ _ (Nat.le_of_ble_eq_true rfl) (Nat.le_of_ble_eq_true rfl) (Or.inl ⟨hcd, rfl, hC.keep (fun j hj => by rw [hu]; exact vne (by omega)), ⟨_, by rw [hu]; exact veq, rfl⟩, fun j h1 h2 => by rw [hu]; exact (vne (by omega)).trans (hk j h1)⟩) dL_comb_26
set_option maxHeartbeats 4000000 in
set_option maxRecDepth 100000 in
theorem c_L_tick {g : kG} {l : Launch} (hfl : l.stackTraces = false) {u : Nat → va_E} {n m t : Nat} {B : kB} {S : Nat → kS} {C : Nat → Int32} {p a : Int32} (hc : CsB g u n B m S t C) (hO : OutR g u) : CC g l yL_tick wsL_tick ({ frames := 9, cells := 3, slots := 18, locals := 156 }) [.ref (g.2.1 0), .int p, .int a, .ref (g.2.1 69)] u (fun r u' => (cdTick n p a = 0 ∧ r = 0 ∧ CsB g u' (n + 1) (bAdd B n 1 p a (-1)) (pushM m) (pushS m S (n, B)) t C ∧ OutV g u' (nI n) ∧ ∀ j, 61 ≤ j → j < 69 → u' j = u j) ∨ (∃ c, 0 < c ∧ cdTick n p a = c ∧ r = nI c ∧ u' = u)) := by
  refine CC.of (cc := cL_tick) (nL := 5) (ty := .int) (hh := [(0, 10, 13, 13), (0, 10, 17, 15), (0, 10, 21, 17)]) (by decide +kernel) rfl (fun _ _ _ => rfl) (Nat.le_of_ble_eq_true rfl) ?_
  intro X hXl F T hret
  subst hXl
  obtain ⟨f, hO⟩ := hO
  have hex := F.ex
  have hec := T.ec
  show VL g X 0 0 u 0 [(0, .ref (g.2.1 0)), (1, .int p), (2, .int a), (3, .ref (g.2.1 69))] []
  refine r_aload_n F 3 rfl dL_tick_0 ?_
  refine r_iconst (v := 0) F (by decide) dL_tick_1 ?_
  refine r_aload_n F 0 rfl dL_tick_2 ?_
  refine r_iload_n F 1 rfl dL_tick_3 ?_
  refine r_iload_n F 2 rfl dL_tick_4 ?_
  refine r_ccalli F T (g_XV (C := RX3) (T := TX3) (N := 4) (nA := 2) (As := [.int p, .int a]) (rest := [.int 0, .ref (g.2.1 69)]) F 0 hc.1 (by decide) rfl (c_X3_tick hfl hc) gL_tick_X3_tick rfl (by decide +kernel) rfl ⟨Nat.le_of_ble_eq_true rfl, Nat.le_of_ble_eq_true rfl⟩ ⟨Nat.le_of_ble_eq_true rfl, Nat.le_of_ble_eq_true rfl⟩ rfl (Nat.le_of_ble_eq_true rfl) dL_tick_5) (fun E u' hx => ?_) (fun r u' hp => ?_)
  · skip
    obtain ⟨hx, eu⟩ := hx
    rw [eu]
    rcases hx with ⟨hcd, rfl⟩ | ⟨hcd, rfl⟩ | ⟨hcd, rfl⟩
    · skip
      refine ⟨13, ⟨[], _, tableOf [(0, 10, 17, 15), (0, 10, 21, 17)], "java/lang/IndexOutOfBoundsException", rfl, (fun z hz => absurd hz List.not_mem_nil), by decide, by decide, (show Cond.classLink RL 13 "java/lang/IndexOutOfBoundsException" ∈ wsL_tick by decide +kernel), hex.2.2.2.2.1, rfl⟩, fun q => ?_⟩
      refine r_astore (lv' := [(0, .ref (g.2.1 0)), (1, .int p), (2, .int a), (3, .ref (g.2.1 69)), (4, .ref q)]) F (by decide) rfl dL_tick_13 ?_
      refine r_iconst (v := 1) F (by decide) dL_tick_15 ?_
      exact hret _ _ _ _ _ _ (Nat.le_of_ble_eq_true rfl) (Nat.le_of_ble_eq_true rfl) (Or.inr ⟨1, by decide, hcd, rfl, rfl⟩) dL_tick_16
    · skip
      refine ⟨17, ⟨(tableOf [(0, 10, 13, 13)]), _, tableOf [(0, 10, 21, 17)], "java/lang/IllegalArgumentException", rfl, (fun z hz => by obtain rfl := List.mem_singleton.mp hz; exact Or.inr ⟨by decide, _, (show Cond.classLink RL 13 "java/lang/IndexOutOfBoundsException" ∈ wsL_tick by decide +kernel), hec.1⟩), by decide, by decide, (show Cond.classLink RL 15 "java/lang/IllegalArgumentException" ∈ wsL_tick by decide +kernel), hex.2.2.2.2.2.1, rfl⟩, fun q => ?_⟩
      refine r_astore (lv' := [(0, .ref (g.2.1 0)), (1, .int p), (2, .int a), (3, .ref (g.2.1 69)), (4, .ref q)]) F (by decide) rfl dL_tick_17 ?_
      refine r_iconst (v := 2) F (by decide) dL_tick_19 ?_
      exact hret _ _ _ _ _ _ (Nat.le_of_ble_eq_true rfl) (Nat.le_of_ble_eq_true rfl) (Or.inr ⟨2, by decide, hcd, rfl, rfl⟩) dL_tick_20
    · skip
      refine ⟨21, ⟨(tableOf [(0, 10, 13, 13), (0, 10, 17, 15)]), _, tableOf [], "java/lang/IllegalStateException", rfl, (fun z hz => by rcases List.mem_cons.mp hz with rfl | hz; exact Or.inr ⟨by decide, _, (show Cond.classLink RL 13 "java/lang/IndexOutOfBoundsException" ∈ wsL_tick by decide +kernel), hec.2.1⟩; obtain rfl := List.mem_singleton.mp hz; exact Or.inr ⟨by decide, _, (show Cond.classLink RL 15 "java/lang/IllegalArgumentException" ∈ wsL_tick by decide +kernel), hec.2.2⟩), by decide, by decide, (show Cond.classLink RL 17 "java/lang/IllegalStateException" ∈ wsL_tick by decide +kernel), hex.2.2.2.2.2.2.1, rfl⟩, fun q => ?_⟩
      refine r_astore (lv' := [(0, .ref (g.2.1 0)), (1, .int p), (2, .int a), (3, .ref (g.2.1 69)), (4, .ref q)]) F (by decide) rfl dL_tick_21 ?_
      refine r_iconst (v := 3) F (by decide) dL_tick_23 ?_
      exact hret _ _ _ _ _ _ (Nat.le_of_ble_eq_true rfl) (Nat.le_of_ble_eq_true rfl) (Or.inr ⟨3, by decide, hcd, rfl, rfl⟩) dL_tick_24
  · skip
    obtain ⟨hcd, er, hC, hk⟩ := hp
    subst er
    have hO2 : u' 69 = .inl (g.2.2.1 3, 1, .inr (.inl f)) := (hk 69 (by omega)).trans hO
    refine r_i2l F rfl dL_tick_8 ?_
    refine r_last F 69 hO2 (by decide) (vp_in_nI (n := 0) (by decide) (by decide)) dL_tick_9 (fun u_1 hu_1 => ?_)
    have hu := hu_1
    refine r_goto F 25 (by decide) dL_tick_10 ?_
    refine r_iconst (v := 0) F (by decide) dL_tick_25 ?_
    exact hret _ _ _ _ _ _ (Nat.le_of_ble_eq_true rfl) (Nat.le_of_ble_eq_true rfl) (Or.inl ⟨hcd, rfl, hC.keep (fun j hj => by rw [hu]; exact vne (by omega)), ⟨_, by rw [hu]; exact veq, rfl⟩, fun j h1 h2 => by rw [hu]; exact (vne (by omega)).trans (hk j h1)⟩) dL_tick_26
set_option maxHeartbeats 4000000 in
set_option maxRecDepth 100000 in
theorem c_L_skip {g : kG} {l : Launch} (hfl : l.stackTraces = false) {u : Nat → va_E} {n m t : Nat} {B : kB} {S : Nat → kS} {C : Nat → Int32} {p a b : Int32} (hc : CsB g u n B m S t C) (hO : OutR g u) : CC g l yL_skip wsL_skip ({ frames := 9, cells := 3, slots := 18, locals := 157 }) [.ref (g.2.1 0), .int p, .int a, .int b, .ref (g.2.1 69)] u (fun r u' => (cdSkip n p a b = 0 ∧ r = 0 ∧ CsB g u' (n + 1) (bAdd B n 2 p a b) (pushM m) (pushS m S (n, B)) t C ∧ OutV g u' (nI n) ∧ ∀ j, 61 ≤ j → j < 69 → u' j = u j) ∨ (∃ c, 0 < c ∧ cdSkip n p a b = c ∧ r = nI c ∧ u' = u)) := by
  refine CC.of (cc := cL_skip) (nL := 6) (ty := .int) (hh := [(0, 12, 15, 13), (0, 12, 19, 15), (0, 12, 23, 17)]) (by decide +kernel) rfl (fun _ _ _ => rfl) (Nat.le_of_ble_eq_true rfl) ?_
  intro X hXl F T hret
  subst hXl
  obtain ⟨f, hO⟩ := hO
  have hex := F.ex
  have hec := T.ec
  show VL g X 0 0 u 0 [(0, .ref (g.2.1 0)), (1, .int p), (2, .int a), (3, .int b), (4, .ref (g.2.1 69))] []
  refine r_aload F 4 rfl dL_skip_0 ?_
  refine r_iconst (v := 0) F (by decide) dL_skip_2 ?_
  refine r_aload_n F 0 rfl dL_skip_3 ?_
  refine r_iload_n F 1 rfl dL_skip_4 ?_
  refine r_iload_n F 2 rfl dL_skip_5 ?_
  refine r_iload_n F 3 rfl dL_skip_6 ?_
  refine r_ccalli F T (g_XV (C := RX3) (T := TX3) (N := 4) (nA := 3) (As := [.int p, .int a, .int b]) (rest := [.int 0, .ref (g.2.1 69)]) F 0 hc.1 (by decide) rfl (c_X3_skip hfl hc) gL_skip_X3_skip rfl (by decide +kernel) rfl ⟨Nat.le_of_ble_eq_true rfl, Nat.le_of_ble_eq_true rfl⟩ ⟨Nat.le_of_ble_eq_true rfl, Nat.le_of_ble_eq_true rfl⟩ rfl (Nat.le_of_ble_eq_true rfl) dL_skip_7) (fun E u' hx => ?_) (fun r u' hp => ?_)
  · skip
    obtain ⟨hx, eu⟩ := hx
    rw [eu]
    rcases hx with ⟨hcd, rfl⟩ | ⟨hcd, rfl⟩ | ⟨hcd, rfl⟩
    · skip
      refine ⟨15, ⟨[], _, tableOf [(0, 12, 19, 15), (0, 12, 23, 17)], "java/lang/IndexOutOfBoundsException", rfl, (fun z hz => absurd hz List.not_mem_nil), by decide, by decide, (show Cond.classLink RL 13 "java/lang/IndexOutOfBoundsException" ∈ wsL_skip by decide +kernel), hex.2.2.2.2.1, rfl⟩, fun q => ?_⟩
      refine r_astore (lv' := [(0, .ref (g.2.1 0)), (1, .int p), (2, .int a), (3, .int b), (4, .ref (g.2.1 69)), (5, .ref q)]) F (by decide) rfl dL_skip_15 ?_
      refine r_iconst (v := 1) F (by decide) dL_skip_17 ?_
      exact hret _ _ _ _ _ _ (Nat.le_of_ble_eq_true rfl) (Nat.le_of_ble_eq_true rfl) (Or.inr ⟨1, by decide, hcd, rfl, rfl⟩) dL_skip_18
    · skip
      refine ⟨19, ⟨(tableOf [(0, 12, 15, 13)]), _, tableOf [(0, 12, 23, 17)], "java/lang/IllegalArgumentException", rfl, (fun z hz => by obtain rfl := List.mem_singleton.mp hz; exact Or.inr ⟨by decide, _, (show Cond.classLink RL 13 "java/lang/IndexOutOfBoundsException" ∈ wsL_skip by decide +kernel), hec.1⟩), by decide, by decide, (show Cond.classLink RL 15 "java/lang/IllegalArgumentException" ∈ wsL_skip by decide +kernel), hex.2.2.2.2.2.1, rfl⟩, fun q => ?_⟩
      refine r_astore (lv' := [(0, .ref (g.2.1 0)), (1, .int p), (2, .int a), (3, .int b), (4, .ref (g.2.1 69)), (5, .ref q)]) F (by decide) rfl dL_skip_19 ?_
      refine r_iconst (v := 2) F (by decide) dL_skip_21 ?_
      exact hret _ _ _ _ _ _ (Nat.le_of_ble_eq_true rfl) (Nat.le_of_ble_eq_true rfl) (Or.inr ⟨2, by decide, hcd, rfl, rfl⟩) dL_skip_22
    · skip
      refine ⟨23, ⟨(tableOf [(0, 12, 15, 13), (0, 12, 19, 15)]), _, tableOf [], "java/lang/IllegalStateException", rfl, (fun z hz => by rcases List.mem_cons.mp hz with rfl | hz; exact Or.inr ⟨by decide, _, (show Cond.classLink RL 13 "java/lang/IndexOutOfBoundsException" ∈ wsL_skip by decide +kernel), hec.2.1⟩; obtain rfl := List.mem_singleton.mp hz; exact Or.inr ⟨by decide, _, (show Cond.classLink RL 15 "java/lang/IllegalArgumentException" ∈ wsL_skip by decide +kernel), hec.2.2⟩), by decide, by decide, (show Cond.classLink RL 17 "java/lang/IllegalStateException" ∈ wsL_skip by decide +kernel), hex.2.2.2.2.2.2.1, rfl⟩, fun q => ?_⟩
      refine r_astore (lv' := [(0, .ref (g.2.1 0)), (1, .int p), (2, .int a), (3, .int b), (4, .ref (g.2.1 69)), (5, .ref q)]) F (by decide) rfl dL_skip_23 ?_
      refine r_iconst (v := 3) F (by decide) dL_skip_25 ?_
      exact hret _ _ _ _ _ _ (Nat.le_of_ble_eq_true rfl) (Nat.le_of_ble_eq_true rfl) (Or.inr ⟨3, by decide, hcd, rfl, rfl⟩) dL_skip_26
  · skip
    obtain ⟨hcd, er, hC, hk⟩ := hp
    subst er
    have hO2 : u' 69 = .inl (g.2.2.1 3, 1, .inr (.inl f)) := (hk 69 (by omega)).trans hO
    refine r_i2l F rfl dL_skip_10 ?_
    refine r_last F 69 hO2 (by decide) (vp_in_nI (n := 0) (by decide) (by decide)) dL_skip_11 (fun u_1 hu_1 => ?_)
    have hu := hu_1
    refine r_goto F 27 (by decide) dL_skip_12 ?_
    refine r_iconst (v := 0) F (by decide) dL_skip_27 ?_
    exact hret _ _ _ _ _ _ (Nat.le_of_ble_eq_true rfl) (Nat.le_of_ble_eq_true rfl) (Or.inl ⟨hcd, rfl, hC.keep (fun j hj => by rw [hu]; exact vne (by omega)), ⟨_, by rw [hu]; exact veq, rfl⟩, fun j h1 h2 => by rw [hu]; exact (vne (by omega)).trans (hk j h1)⟩) dL_skip_28
set_option maxHeartbeats 4000000 in
set_option maxRecDepth 100000 in
theorem c_L_total {g : kG} {l : Launch} (hfl : l.stackTraces = false) {u : Nat → va_E} {n m t : Nat} {B : kB} {S : Nat → kS} {C : Nat → Int32} {p a : Int32} (hc : CsB g u n B m S t C) (hO : OutR g u) : CC g l yL_total wsL_total ({ frames := 9, cells := 3, slots := 18, locals := 156 }) [.ref (g.2.1 0), .int p, .int a, .ref (g.2.1 69)] u (fun r u' => (cdTotal B n p a = 0 ∧ r = 0 ∧ CsB g u' (n + 1) (bAdd B n 3 p a (-1)) (pushM m) (pushS m S (n, B)) t C ∧ OutV g u' (nI n) ∧ ∀ j, 61 ≤ j → j < 69 → u' j = u j) ∨ (∃ c, 0 < c ∧ cdTotal B n p a = c ∧ r = nI c ∧ u' = u)) := by
  refine CC.of (cc := cL_total) (nL := 5) (ty := .int) (hh := [(0, 10, 13, 13), (0, 10, 17, 15), (0, 10, 21, 17)]) (by decide +kernel) rfl (fun _ _ _ => rfl) (Nat.le_of_ble_eq_true rfl) ?_
  intro X hXl F T hret
  subst hXl
  obtain ⟨f, hO⟩ := hO
  have hex := F.ex
  have hec := T.ec
  show VL g X 0 0 u 0 [(0, .ref (g.2.1 0)), (1, .int p), (2, .int a), (3, .ref (g.2.1 69))] []
  refine r_aload_n F 3 rfl dL_total_0 ?_
  refine r_iconst (v := 0) F (by decide) dL_total_1 ?_
  refine r_aload_n F 0 rfl dL_total_2 ?_
  refine r_iload_n F 1 rfl dL_total_3 ?_
  refine r_iload_n F 2 rfl dL_total_4 ?_
  refine r_ccalli F T (g_XV (C := RX3) (T := TX3) (N := 4) (nA := 2) (As := [.int p, .int a]) (rest := [.int 0, .ref (g.2.1 69)]) F 0 hc.1 (by decide) rfl (c_X3_total hfl hc) gL_total_X3_total rfl (by decide +kernel) rfl ⟨Nat.le_of_ble_eq_true rfl, Nat.le_of_ble_eq_true rfl⟩ ⟨Nat.le_of_ble_eq_true rfl, Nat.le_of_ble_eq_true rfl⟩ rfl (Nat.le_of_ble_eq_true rfl) dL_total_5) (fun E u' hx => ?_) (fun r u' hp => ?_)
  · skip
    obtain ⟨hx, eu⟩ := hx
    rw [eu]
    rcases hx with ⟨hcd, rfl⟩ | ⟨hcd, rfl⟩ | ⟨hcd, rfl⟩
    · skip
      refine ⟨13, ⟨[], _, tableOf [(0, 10, 17, 15), (0, 10, 21, 17)], "java/lang/IndexOutOfBoundsException", rfl, (fun z hz => absurd hz List.not_mem_nil), by decide, by decide, (show Cond.classLink RL 13 "java/lang/IndexOutOfBoundsException" ∈ wsL_total by decide +kernel), hex.2.2.2.2.1, rfl⟩, fun q => ?_⟩
      refine r_astore (lv' := [(0, .ref (g.2.1 0)), (1, .int p), (2, .int a), (3, .ref (g.2.1 69)), (4, .ref q)]) F (by decide) rfl dL_total_13 ?_
      refine r_iconst (v := 1) F (by decide) dL_total_15 ?_
      exact hret _ _ _ _ _ _ (Nat.le_of_ble_eq_true rfl) (Nat.le_of_ble_eq_true rfl) (Or.inr ⟨1, by decide, hcd, rfl, rfl⟩) dL_total_16
    · skip
      refine ⟨17, ⟨(tableOf [(0, 10, 13, 13)]), _, tableOf [(0, 10, 21, 17)], "java/lang/IllegalArgumentException", rfl, (fun z hz => by obtain rfl := List.mem_singleton.mp hz; exact Or.inr ⟨by decide, _, (show Cond.classLink RL 13 "java/lang/IndexOutOfBoundsException" ∈ wsL_total by decide +kernel), hec.1⟩), by decide, by decide, (show Cond.classLink RL 15 "java/lang/IllegalArgumentException" ∈ wsL_total by decide +kernel), hex.2.2.2.2.2.1, rfl⟩, fun q => ?_⟩
      refine r_astore (lv' := [(0, .ref (g.2.1 0)), (1, .int p), (2, .int a), (3, .ref (g.2.1 69)), (4, .ref q)]) F (by decide) rfl dL_total_17 ?_
      refine r_iconst (v := 2) F (by decide) dL_total_19 ?_
      exact hret _ _ _ _ _ _ (Nat.le_of_ble_eq_true rfl) (Nat.le_of_ble_eq_true rfl) (Or.inr ⟨2, by decide, hcd, rfl, rfl⟩) dL_total_20
    · skip
      refine ⟨21, ⟨(tableOf [(0, 10, 13, 13), (0, 10, 17, 15)]), _, tableOf [], "java/lang/IllegalStateException", rfl, (fun z hz => by rcases List.mem_cons.mp hz with rfl | hz; exact Or.inr ⟨by decide, _, (show Cond.classLink RL 13 "java/lang/IndexOutOfBoundsException" ∈ wsL_total by decide +kernel), hec.2.1⟩; obtain rfl := List.mem_singleton.mp hz; exact Or.inr ⟨by decide, _, (show Cond.classLink RL 15 "java/lang/IllegalArgumentException" ∈ wsL_total by decide +kernel), hec.2.2⟩), by decide, by decide, (show Cond.classLink RL 17 "java/lang/IllegalStateException" ∈ wsL_total by decide +kernel), hex.2.2.2.2.2.2.1, rfl⟩, fun q => ?_⟩
      refine r_astore (lv' := [(0, .ref (g.2.1 0)), (1, .int p), (2, .int a), (3, .ref (g.2.1 69)), (4, .ref q)]) F (by decide) rfl dL_total_21 ?_
      refine r_iconst (v := 3) F (by decide) dL_total_23 ?_
      exact hret _ _ _ _ _ _ (Nat.le_of_ble_eq_true rfl) (Nat.le_of_ble_eq_true rfl) (Or.inr ⟨3, by decide, hcd, rfl, rfl⟩) dL_total_24
  · skip
    obtain ⟨hcd, er, hC, hk⟩ := hp
    subst er
    have hO2 : u' 69 = .inl (g.2.2.1 3, 1, .inr (.inl f)) := (hk 69 (by omega)).trans hO
    refine r_i2l F rfl dL_total_8 ?_
    refine r_last F 69 hO2 (by decide) (vp_in_nI (n := 0) (by decide) (by decide)) dL_total_9 (fun u_1 hu_1 => ?_)
    have hu := hu_1
    refine r_goto F 25 (by decide) dL_total_10 ?_
    refine r_iconst (v := 0) F (by decide) dL_total_25 ?_
    exact hret _ _ _ _ _ _ (Nat.le_of_ble_eq_true rfl) (Nat.le_of_ble_eq_true rfl) (Or.inl ⟨hcd, rfl, hC.keep (fun j hj => by rw [hu]; exact vne (by omega)), ⟨_, by rw [hu]; exact veq, rfl⟩, fun j h1 h2 => by rw [hu]; exact (vne (by omega)).trans (hk j h1)⟩) dL_total_26
set_option maxHeartbeats 4000000 in
set_option maxRecDepth 100000 in
theorem c_L_drop {g : kG} {l : Launch} (hfl : l.stackTraces = false) {u : Nat → va_E} {n m t : Nat} {B : kB} {S : Nat → kS} {C : Nat → Int32} (hc : CsB g u n B m S t C) (hO : OutR g u) : CC g l yL_drop wsL_drop ({ frames := 8, cells := 1, slots := 6, locals := 132 }) [.ref (g.2.1 0), .ref (g.2.1 69)] u (fun r u' => (cdDrop n = 0 ∧ r = 0 ∧ CsB g u' (n - 1) B (pushM m) (pushS m S (n, B)) t C ∧ OutV g u' (B (n - 1) 0) ∧ ∀ j, 61 ≤ j → j < 69 → u' j = u j) ∨ (∃ c, 0 < c ∧ cdDrop n = c ∧ r = nI c ∧ u' = u)) := by
  refine CC.of (cc := cL_drop) (nL := 3) (ty := .int) (hh := [(0, 8, 11, 17)]) (by decide +kernel) rfl (fun _ _ _ => rfl) (Nat.le_of_ble_eq_true rfl) ?_
  intro X hXl F T hret
  subst hXl
  obtain ⟨f, hO⟩ := hO
  have hex := F.ex
  have hec := T.ec
  show VL g X 0 0 u 0 [(0, .ref (g.2.1 0)), (1, .ref (g.2.1 69))] []
  refine r_aload_n F 1 rfl dL_drop_0 ?_
  refine r_iconst (v := 0) F (by decide) dL_drop_1 ?_
  refine r_aload_n F 0 rfl dL_drop_2 ?_
  refine r_ccalli F T (g_XV (C := RX3) (T := TX3) (N := 4) (nA := 0) (As := []) (rest := [.int 0, .ref (g.2.1 69)]) F 0 hc.1 (by decide) rfl (c_X3_drop hfl hc) gL_drop_X3_drop rfl (by decide +kernel) rfl ⟨Nat.le_of_ble_eq_true rfl, Nat.le_of_ble_eq_true rfl⟩ ⟨Nat.le_of_ble_eq_true rfl, Nat.le_of_ble_eq_true rfl⟩ rfl (Nat.le_of_ble_eq_true rfl) dL_drop_3) (fun E u' hx => ?_) (fun r u' hp => ?_)
  · skip
    obtain ⟨rfl, eu, hz⟩ := hx
    rw [eu]
    have hcd : cdDrop n = 1 := by simp [cdDrop, hz]
    refine ⟨11, ⟨[], _, tableOf [], "java/lang/IllegalStateException", rfl, (fun z hz => absurd hz List.not_mem_nil), by decide, by decide, (show Cond.classLink RL 17 "java/lang/IllegalStateException" ∈ wsL_drop by decide +kernel), hex.2.2.2.2.2.2.1, rfl⟩, fun q => ?_⟩
    refine r_astore_n (lv' := [(0, .ref (g.2.1 0)), (1, .ref (g.2.1 69)), (2, .ref q)]) F (by decide) rfl dL_drop_11 ?_
    refine r_iconst (v := 1) F (by decide) dL_drop_12 ?_
    exact hret _ _ _ _ _ _ (Nat.le_of_ble_eq_true rfl) (Nat.le_of_ble_eq_true rfl) (Or.inr ⟨1, by decide, hcd, rfl, rfl⟩) dL_drop_13
  · skip
    obtain ⟨hcd, er, hC, hk⟩ := hp
    subst er
    have hO2 : u' 69 = .inl (g.2.2.1 3, 1, .inr (.inl f)) := (hk 69 (by omega)).trans hO
    replace hcd : cdDrop n = 0 := if_neg (by omega)
    refine r_i2l F rfl dL_drop_6 ?_
    refine r_last F 69 hO2 (by decide) (vp_in_nI (n := 0) (by decide) (by decide)) dL_drop_7 (fun u_1 hu_1 => ?_)
    have hu := hu_1
    refine r_goto F 14 (by decide) dL_drop_8 ?_
    refine r_iconst (v := 0) F (by decide) dL_drop_14 ?_
    exact hret _ _ _ _ _ _ (Nat.le_of_ble_eq_true rfl) (Nat.le_of_ble_eq_true rfl) (Or.inl ⟨hcd, rfl, hC.keep (fun j hj => by rw [hu]; exact vne (by omega)), ⟨_, by rw [hu]; exact veq, rfl⟩, fun j h1 h2 => by rw [hu]; exact (vne (by omega)).trans (hk j h1)⟩) dL_drop_15
set_option maxHeartbeats 4000000 in
set_option maxRecDepth 100000 in
theorem c_L_answer {g : kG} {l : Launch} (hfl : l.stackTraces = false) {u : Nat → va_E} {n m t : Nat} {B : kB} {S : Nat → kS} {C : Nat → Int32} {p a : Int32} (hc : CsB g u n B m S t C) (hw : Wt n B) (hO : OutR g u) : CC g l yL_answer wsL_answer ({ frames := 8, cells := 2, slots := 12, locals := 133 }) [.ref (g.2.1 0), .int p, .int a, .ref (g.2.1 69)] u (fun r u' => (cdAnswer B n p a = 0 ∧ r = 0 ∧ CsB g u' n (bUp B p.toNatClampNeg 4 a) (pushM m) (pushS m S (n, B)) t C ∧ OutV g u' (cntN n (qWts (bUp B p.toNatClampNeg 4 a) (opm (bUp B p.toNatClampNeg 4 a) n))) ∧ ∀ j, 61 ≤ j → j < 69 → u' j = u j) ∨ (∃ c, 0 < c ∧ cdAnswer B n p a = c ∧ r = nI c ∧ u' = u)) := by
  refine CC.of (cc := cL_answer) (nL := 5) (ty := .int) (hh := [(0, 10, 13, 13), (0, 10, 17, 15)]) (by decide +kernel) rfl (fun _ _ _ => rfl) (Nat.le_of_ble_eq_true rfl) ?_
  intro X hXl F T hret
  subst hXl
  obtain ⟨f, hO⟩ := hO
  have hex := F.ex
  have hec := T.ec
  show VL g X 0 0 u 0 [(0, .ref (g.2.1 0)), (1, .int p), (2, .int a), (3, .ref (g.2.1 69))] []
  refine r_aload_n F 3 rfl dL_answer_0 ?_
  refine r_iconst (v := 0) F (by decide) dL_answer_1 ?_
  refine r_aload_n F 0 rfl dL_answer_2 ?_
  refine r_iload_n F 1 rfl dL_answer_3 ?_
  refine r_iload_n F 2 rfl dL_answer_4 ?_
  refine r_ccalli F T (g_XV (C := RX3) (T := TX3) (N := 4) (nA := 2) (As := [.int p, .int a]) (rest := [.int 0, .ref (g.2.1 69)]) F 0 hc.1 (by decide) rfl (c_X3_answer hfl hc hw) gL_answer_X3_answer rfl (by decide +kernel) rfl ⟨Nat.le_of_ble_eq_true rfl, Nat.le_of_ble_eq_true rfl⟩ ⟨Nat.le_of_ble_eq_true rfl, Nat.le_of_ble_eq_true rfl⟩ rfl (Nat.le_of_ble_eq_true rfl) dL_answer_5) (fun E u' hx => ?_) (fun r u' hp => ?_)
  · skip
    obtain ⟨hx, eu⟩ := hx
    rw [eu]
    rcases hx with ⟨hcd, rfl⟩ | ⟨hcd, rfl⟩
    · skip
      refine ⟨13, ⟨[], _, tableOf [(0, 10, 17, 15)], "java/lang/IndexOutOfBoundsException", rfl, (fun z hz => absurd hz List.not_mem_nil), by decide, by decide, (show Cond.classLink RL 13 "java/lang/IndexOutOfBoundsException" ∈ wsL_answer by decide +kernel), hex.2.2.2.2.1, rfl⟩, fun q => ?_⟩
      refine r_astore (lv' := [(0, .ref (g.2.1 0)), (1, .int p), (2, .int a), (3, .ref (g.2.1 69)), (4, .ref q)]) F (by decide) rfl dL_answer_13 ?_
      refine r_iconst (v := 1) F (by decide) dL_answer_15 ?_
      exact hret _ _ _ _ _ _ (Nat.le_of_ble_eq_true rfl) (Nat.le_of_ble_eq_true rfl) (Or.inr ⟨1, by decide, hcd, rfl, rfl⟩) dL_answer_16
    · skip
      refine ⟨17, ⟨(tableOf [(0, 10, 13, 13)]), _, tableOf [], "java/lang/IllegalArgumentException", rfl, (fun z hz => by obtain rfl := List.mem_singleton.mp hz; exact Or.inr ⟨by decide, _, (show Cond.classLink RL 13 "java/lang/IndexOutOfBoundsException" ∈ wsL_answer by decide +kernel), hec.1⟩), by decide, by decide, (show Cond.classLink RL 15 "java/lang/IllegalArgumentException" ∈ wsL_answer by decide +kernel), hex.2.2.2.2.2.1, rfl⟩, fun q => ?_⟩
      refine r_astore (lv' := [(0, .ref (g.2.1 0)), (1, .int p), (2, .int a), (3, .ref (g.2.1 69)), (4, .ref q)]) F (by decide) rfl dL_answer_17 ?_
      refine r_iconst (v := 2) F (by decide) dL_answer_19 ?_
      exact hret _ _ _ _ _ _ (Nat.le_of_ble_eq_true rfl) (Nat.le_of_ble_eq_true rfl) (Or.inr ⟨2, by decide, hcd, rfl, rfl⟩) dL_answer_20
  · skip
    obtain ⟨hcd, er, hC, hk⟩ := hp
    subst er
    have hO2 : u' 69 = .inl (g.2.2.1 3, 1, .inr (.inl f)) := (hk 69 (by omega)).trans hO
    refine r_i2l F rfl dL_answer_8 ?_
    refine r_last F 69 hO2 (by decide) (vp_in_nI (n := 0) (by decide) (by decide)) dL_answer_9 (fun u_1 hu_1 => ?_)
    have hu := hu_1
    refine r_goto F 21 (by decide) dL_answer_10 ?_
    refine r_iconst (v := 0) F (by decide) dL_answer_21 ?_
    exact hret _ _ _ _ _ _ (Nat.le_of_ble_eq_true rfl) (Nat.le_of_ble_eq_true rfl) (Or.inl ⟨hcd, rfl, hC.keep (fun j hj => by rw [hu]; exact vne (by omega)), ⟨_, by rw [hu]; exact veq, rfl⟩, fun j h1 h2 => by rw [hu]; exact (vne (by omega)).trans (hk j h1)⟩) dL_answer_22
set_option maxHeartbeats 4000000 in
set_option maxRecDepth 100000 in
theorem c_L_append {g : kG} {l : Launch} (hfl : l.stackTraces = false) {u : Nat → va_E} {n m t : Nat} {B : kB} {S : Nat → kS} {C : Nat → Int32} {p : Int32} (hc : CsB g u n B m S t C) (hO : OutR g u) : CC g l yL_append wsL_append ({ frames := 8, cells := 2, slots := 12, locals := 131 }) [.ref (g.2.1 0), .int p, .ref (g.2.1 69)] u (fun r u' => (cdAppend t p = 0 ∧ r = 0 ∧ CsB g u' n B m S (t + 1) (upd C t p) ∧ OutV g u' (nI (t + 1)) ∧ ∀ j, 61 ≤ j → j < 69 → u' j = u j) ∨ (∃ c, 0 < c ∧ cdAppend t p = c ∧ r = nI c ∧ u' = u)) := by
  refine CC.of (cc := cL_append) (nL := 4) (ty := .int) (hh := [(0, 9, 12, 15), (0, 9, 15, 17)]) (by decide +kernel) rfl (fun _ _ _ => rfl) (Nat.le_of_ble_eq_true rfl) ?_
  intro X hXl F T hret
  subst hXl
  obtain ⟨f, hO⟩ := hO
  have hex := F.ex
  have hec := T.ec
  show VL g X 0 0 u 0 [(0, .ref (g.2.1 0)), (1, .int p), (2, .ref (g.2.1 69))] []
  refine r_aload_n F 2 rfl dL_append_0 ?_
  refine r_iconst (v := 0) F (by decide) dL_append_1 ?_
  refine r_aload_n F 0 rfl dL_append_2 ?_
  refine r_iload_n F 1 rfl dL_append_3 ?_
  refine r_ccalli F T (g_XV (C := RX3) (T := TX3) (N := 4) (nA := 1) (As := [.int p]) (rest := [.int 0, .ref (g.2.1 69)]) F 0 hc.1 (by decide) rfl (c_X3_append hfl hc) gL_append_X3_append rfl (by decide +kernel) rfl ⟨Nat.le_of_ble_eq_true rfl, Nat.le_of_ble_eq_true rfl⟩ ⟨Nat.le_of_ble_eq_true rfl, Nat.le_of_ble_eq_true rfl⟩ rfl (Nat.le_of_ble_eq_true rfl) dL_append_4) (fun E u' hx => ?_) (fun r u' hp => ?_)
  · skip
    obtain ⟨hx, eu⟩ := hx
    rw [eu]
    rcases hx with ⟨hcd, rfl⟩ | ⟨hcd, rfl⟩
    · skip
      refine ⟨12, ⟨[], _, tableOf [(0, 9, 15, 17)], "java/lang/IllegalArgumentException", rfl, (fun z hz => absurd hz List.not_mem_nil), by decide, by decide, (show Cond.classLink RL 15 "java/lang/IllegalArgumentException" ∈ wsL_append by decide +kernel), hex.2.2.2.2.2.1, rfl⟩, fun q => ?_⟩
      refine r_astore_n (lv' := [(0, .ref (g.2.1 0)), (1, .int p), (2, .ref (g.2.1 69)), (3, .ref q)]) F (by decide) rfl dL_append_12 ?_
      refine r_iconst (v := 1) F (by decide) dL_append_13 ?_
      exact hret _ _ _ _ _ _ (Nat.le_of_ble_eq_true rfl) (Nat.le_of_ble_eq_true rfl) (Or.inr ⟨1, by decide, hcd, rfl, rfl⟩) dL_append_14
    · skip
      refine ⟨15, ⟨(tableOf [(0, 9, 12, 15)]), _, tableOf [], "java/lang/IllegalStateException", rfl, (fun z hz => by obtain rfl := List.mem_singleton.mp hz; exact Or.inr ⟨by decide, _, (show Cond.classLink RL 15 "java/lang/IllegalArgumentException" ∈ wsL_append by decide +kernel), hec.2.2⟩), by decide, by decide, (show Cond.classLink RL 17 "java/lang/IllegalStateException" ∈ wsL_append by decide +kernel), hex.2.2.2.2.2.2.1, rfl⟩, fun q => ?_⟩
      refine r_astore_n (lv' := [(0, .ref (g.2.1 0)), (1, .int p), (2, .ref (g.2.1 69)), (3, .ref q)]) F (by decide) rfl dL_append_15 ?_
      refine r_iconst (v := 2) F (by decide) dL_append_16 ?_
      exact hret _ _ _ _ _ _ (Nat.le_of_ble_eq_true rfl) (Nat.le_of_ble_eq_true rfl) (Or.inr ⟨2, by decide, hcd, rfl, rfl⟩) dL_append_17
  · skip
    obtain ⟨hcd, er, hC, hk⟩ := hp
    subst er
    have hO2 : u' 69 = .inl (g.2.2.1 3, 1, .inr (.inl f)) := (hk 69 (by omega)).trans hO
    refine r_i2l F rfl dL_append_7 ?_
    refine r_last F 69 hO2 (by decide) (vp_in_nI (n := 0) (by decide) (by decide)) dL_append_8 (fun u_1 hu_1 => ?_)
    have hu := hu_1
    refine r_goto F 18 (by decide) dL_append_9 ?_
    refine r_iconst (v := 0) F (by decide) dL_append_18 ?_
    exact hret _ _ _ _ _ _ (Nat.le_of_ble_eq_true rfl) (Nat.le_of_ble_eq_true rfl) (Or.inl ⟨hcd, rfl, hC.keep (fun j hj => by rw [hu]; exact vne (by omega)), ⟨_, by rw [hu]; exact veq, rfl⟩, fun j h1 h2 => by rw [hu]; exact (vne (by omega)).trans (hk j h1)⟩) dL_append_19
set_option maxHeartbeats 4000000 in
set_option maxRecDepth 100000 in
theorem c_L_fill {g : kG} {l : Launch} (hfl : l.stackTraces = false) {u : Nat → va_E} {n m t : Nat} {B : kB} {S : Nat → kS} {C : Nat → Int32} (hc : CsB g u n B m S t C) (hw : Wt n B) (hO : OutR g u) : CC g l yL_fill wsL_fill ({ frames := 8, cells := 1, slots := 6, locals := 131 }) [.ref (g.2.1 0), .ref (g.2.1 69)] u (fun r u' => (cdFill C t = 0 ∧ r = 0 ∧ CsB g u' n (filG n C t B).2 (pushM m) (pushS m S (n, B)) 0 C ∧ OutV g u' ((filG n C t B).1) ∧ ∀ j, 61 ≤ j → j < 69 → u' j = u j) ∨ (∃ c, 0 < c ∧ cdFill C t = c ∧ r = nI c ∧ u' = u)) := by
  refine CC.of (cc := cL_fill) (nL := 3) (ty := .int) (hh := [(0, 8, 11, 15)]) (by decide +kernel) rfl (fun _ _ _ => rfl) (Nat.le_of_ble_eq_true rfl) ?_
  intro X hXl F T hret
  subst hXl
  obtain ⟨f, hO⟩ := hO
  have hex := F.ex
  have hec := T.ec
  show VL g X 0 0 u 0 [(0, .ref (g.2.1 0)), (1, .ref (g.2.1 69))] []
  refine r_aload_n F 1 rfl dL_fill_0 ?_
  refine r_iconst (v := 0) F (by decide) dL_fill_1 ?_
  refine r_aload_n F 0 rfl dL_fill_2 ?_
  refine r_ccalli F T (g_XV (C := RX3) (T := TX3) (N := 4) (nA := 0) (As := []) (rest := [.int 0, .ref (g.2.1 69)]) F 0 hc.1 (by decide) rfl (c_X3_fill hfl hc hw) gL_fill_X3_fill rfl (by decide +kernel) rfl ⟨Nat.le_of_ble_eq_true rfl, Nat.le_of_ble_eq_true rfl⟩ ⟨Nat.le_of_ble_eq_true rfl, Nat.le_of_ble_eq_true rfl⟩ rfl (Nat.le_of_ble_eq_true rfl) dL_fill_3) (fun E u' hx => ?_) (fun r u' hp => ?_)
  · skip
    obtain ⟨rfl, eu, hz⟩ := hx
    rw [eu]
    have hcd : cdFill C t = 1 := by simp [cdFill, hz]
    refine ⟨11, ⟨[], _, tableOf [], "java/lang/IllegalArgumentException", rfl, (fun z hz => absurd hz List.not_mem_nil), by decide, by decide, (show Cond.classLink RL 15 "java/lang/IllegalArgumentException" ∈ wsL_fill by decide +kernel), hex.2.2.2.2.2.1, rfl⟩, fun q => ?_⟩
    refine r_astore_n (lv' := [(0, .ref (g.2.1 0)), (1, .ref (g.2.1 69)), (2, .ref q)]) F (by decide) rfl dL_fill_11 ?_
    refine r_iconst (v := 1) F (by decide) dL_fill_12 ?_
    exact hret _ _ _ _ _ _ (Nat.le_of_ble_eq_true rfl) (Nat.le_of_ble_eq_true rfl) (Or.inr ⟨1, by decide, hcd, rfl, rfl⟩) dL_fill_13
  · skip
    obtain ⟨hcd, er, hC, hk⟩ := hp
    subst er
    have hO2 : u' 69 = .inl (g.2.2.1 3, 1, .inr (.inl f)) := (hk 69 (by omega)).trans hO
    replace hcd : cdFill C t = 0 := if_pos hcd
    refine r_i2l F rfl dL_fill_6 ?_
    refine r_last F 69 hO2 (by decide) (vp_in_nI (n := 0) (by decide) (by decide)) dL_fill_7 (fun u_1 hu_1 => ?_)
    have hu := hu_1
    refine r_goto F 14 (by decide) dL_fill_8 ?_
    refine r_iconst (v := 0) F (by decide) dL_fill_14 ?_
    exact hret _ _ _ _ _ _ (Nat.le_of_ble_eq_true rfl) (Nat.le_of_ble_eq_true rfl) (Or.inl ⟨hcd, rfl, hC.keep (fun j hj => by rw [hu]; exact vne (by omega)), ⟨_, by rw [hu]; exact veq, rfl⟩, fun j h1 h2 => by rw [hu]; exact (vne (by omega)).trans (hk j h1)⟩) dL_fill_15
set_option maxHeartbeats 4000000 in
set_option maxRecDepth 100000 in
theorem c_L_undo {g : kG} {l : Launch} (hfl : l.stackTraces = false) {u : Nat → va_E} {n m t : Nat} {B : kB} {S : Nat → kS} {C : Nat → Int32} (hc : CsB g u n B m S t C) (hO : OutR g u) : CC g l yL_undo wsL_undo ({ frames := 8, cells := 1, slots := 6, locals := 130 }) [.ref (g.2.1 0), .ref (g.2.1 69)] u (fun r u' => (cdUndo m = 0 ∧ r = 0 ∧ CsB g u' (S (m - 1)).1 (S (m - 1)).2 (m - 1) S t C ∧ OutV g u' (nI (m - 1)) ∧ ∀ j, 61 ≤ j → j < 69 → u' j = u j) ∨ (∃ c, 0 < c ∧ cdUndo m = c ∧ r = nI c ∧ u' = u)) := by
  refine CC.of (cc := cL_undo) (nL := 3) (ty := .int) (hh := [(0, 8, 11, 17)]) (by decide +kernel) rfl (fun _ _ _ => rfl) (Nat.le_of_ble_eq_true rfl) ?_
  intro X hXl F T hret
  subst hXl
  obtain ⟨f, hO⟩ := hO
  have hex := F.ex
  have hec := T.ec
  show VL g X 0 0 u 0 [(0, .ref (g.2.1 0)), (1, .ref (g.2.1 69))] []
  refine r_aload_n F 1 rfl dL_undo_0 ?_
  refine r_iconst (v := 0) F (by decide) dL_undo_1 ?_
  refine r_aload_n F 0 rfl dL_undo_2 ?_
  refine r_ccalli F T (g_XV (C := RX3) (T := TX3) (N := 4) (nA := 0) (As := []) (rest := [.int 0, .ref (g.2.1 69)]) F 0 hc.1 (by decide) rfl (c_X3_undo hfl hc) gL_undo_X3_undo rfl (by decide +kernel) rfl ⟨Nat.le_of_ble_eq_true rfl, Nat.le_of_ble_eq_true rfl⟩ ⟨Nat.le_of_ble_eq_true rfl, Nat.le_of_ble_eq_true rfl⟩ rfl (Nat.le_of_ble_eq_true rfl) dL_undo_3) (fun E u' hx => ?_) (fun r u' hp => ?_)
  · skip
    obtain ⟨rfl, eu, hz⟩ := hx
    rw [eu]
    have hcd : cdUndo m = 1 := by simp [cdUndo, hz]
    refine ⟨11, ⟨[], _, tableOf [], "java/lang/IllegalStateException", rfl, (fun z hz => absurd hz List.not_mem_nil), by decide, by decide, (show Cond.classLink RL 17 "java/lang/IllegalStateException" ∈ wsL_undo by decide +kernel), hex.2.2.2.2.2.2.1, rfl⟩, fun q => ?_⟩
    refine r_astore_n (lv' := [(0, .ref (g.2.1 0)), (1, .ref (g.2.1 69)), (2, .ref q)]) F (by decide) rfl dL_undo_11 ?_
    refine r_iconst (v := 1) F (by decide) dL_undo_12 ?_
    exact hret _ _ _ _ _ _ (Nat.le_of_ble_eq_true rfl) (Nat.le_of_ble_eq_true rfl) (Or.inr ⟨1, by decide, hcd, rfl, rfl⟩) dL_undo_13
  · skip
    obtain ⟨hcd, er, hC, hk⟩ := hp
    subst er
    have hO2 : u' 69 = .inl (g.2.2.1 3, 1, .inr (.inl f)) := (hk 69 (by omega)).trans hO
    replace hcd : cdUndo m = 0 := if_neg (by omega)
    refine r_i2l F rfl dL_undo_6 ?_
    refine r_last F 69 hO2 (by decide) (vp_in_nI (n := 0) (by decide) (by decide)) dL_undo_7 (fun u_1 hu_1 => ?_)
    have hu := hu_1
    refine r_goto F 14 (by decide) dL_undo_8 ?_
    refine r_iconst (v := 0) F (by decide) dL_undo_14 ?_
    exact hret _ _ _ _ _ _ (Nat.le_of_ble_eq_true rfl) (Nat.le_of_ble_eq_true rfl) (Or.inl ⟨hcd, rfl, hC.keep (fun j hj => by rw [hu]; exact vne (by omega)), ⟨_, by rw [hu]; exact veq, rfl⟩, fun j h1 h2 => by rw [hu]; exact (vne (by omega)).trans (hk j h1)⟩) dL_undo_15
set_option maxHeartbeats 4000000 in
set_option maxRecDepth 100000 in
theorem c_L_box {g : kG} {l : Launch} (hfl : l.stackTraces = false) {u : Nat → va_E} {n m t : Nat} {B : kB} {S : Nat → kS} {C : Nat → Int32} {p a : Int32} (hc : CsB g u n B m S t C) (hO : OutR g u) : CC g l yL_box wsL_box ({ frames := 8, cells := 2, slots := 12, locals := 135 }) [.ref (g.2.1 0), .int p, .int a, .ref (g.2.1 69)] u (fun r u' => (cdBox n p a = 0 ∧ r = 0 ∧ CsB g u' n B m S t C ∧ OutV g u' (tB B (opm B n) p.toNatClampNeg a) ∧ ∀ j, 61 ≤ j → j < 69 → u' j = u j) ∨ (∃ c, 0 < c ∧ cdBox n p a = c ∧ r = nI c ∧ u' = u)) := by
  refine CC.of (cc := cL_box) (nL := 5) (ty := .int) (hh := [(0, 10, 13, 13), (0, 10, 17, 15)]) (by decide +kernel) rfl (fun _ _ _ => rfl) (Nat.le_of_ble_eq_true rfl) ?_
  intro X hXl F T hret
  subst hXl
  obtain ⟨f, hO⟩ := hO
  have hex := F.ex
  have hec := T.ec
  show VL g X 0 0 u 0 [(0, .ref (g.2.1 0)), (1, .int p), (2, .int a), (3, .ref (g.2.1 69))] []
  refine r_aload_n F 3 rfl dL_box_0 ?_
  refine r_iconst (v := 0) F (by decide) dL_box_1 ?_
  refine r_aload_n F 0 rfl dL_box_2 ?_
  refine r_iload_n F 1 rfl dL_box_3 ?_
  refine r_iload_n F 2 rfl dL_box_4 ?_
  refine r_ccalli F T (g_XV (C := RX3) (T := TX3) (N := 4) (nA := 2) (As := [.int p, .int a]) (rest := [.int 0, .ref (g.2.1 69)]) F 0 hc.1 (by decide) rfl (c_X3_box hfl hc) gL_box_X3_box rfl (by decide +kernel) rfl ⟨Nat.le_of_ble_eq_true rfl, Nat.le_of_ble_eq_true rfl⟩ ⟨Nat.le_of_ble_eq_true rfl, Nat.le_of_ble_eq_true rfl⟩ rfl (Nat.le_of_ble_eq_true rfl) dL_box_5) (fun E u' hx => ?_) (fun r u' hp => ?_)
  · skip
    obtain ⟨hx, eu⟩ := hx
    rw [eu]
    rcases hx with ⟨hcd, rfl⟩ | ⟨hcd, rfl⟩
    · skip
      refine ⟨13, ⟨[], _, tableOf [(0, 10, 17, 15)], "java/lang/IndexOutOfBoundsException", rfl, (fun z hz => absurd hz List.not_mem_nil), by decide, by decide, (show Cond.classLink RL 13 "java/lang/IndexOutOfBoundsException" ∈ wsL_box by decide +kernel), hex.2.2.2.2.1, rfl⟩, fun q => ?_⟩
      refine r_astore (lv' := [(0, .ref (g.2.1 0)), (1, .int p), (2, .int a), (3, .ref (g.2.1 69)), (4, .ref q)]) F (by decide) rfl dL_box_13 ?_
      refine r_iconst (v := 1) F (by decide) dL_box_15 ?_
      exact hret _ _ _ _ _ _ (Nat.le_of_ble_eq_true rfl) (Nat.le_of_ble_eq_true rfl) (Or.inr ⟨1, by decide, hcd, rfl, rfl⟩) dL_box_16
    · skip
      refine ⟨17, ⟨(tableOf [(0, 10, 13, 13)]), _, tableOf [], "java/lang/IllegalArgumentException", rfl, (fun z hz => by obtain rfl := List.mem_singleton.mp hz; exact Or.inr ⟨by decide, _, (show Cond.classLink RL 13 "java/lang/IndexOutOfBoundsException" ∈ wsL_box by decide +kernel), hec.1⟩), by decide, by decide, (show Cond.classLink RL 15 "java/lang/IllegalArgumentException" ∈ wsL_box by decide +kernel), hex.2.2.2.2.2.1, rfl⟩, fun q => ?_⟩
      refine r_astore (lv' := [(0, .ref (g.2.1 0)), (1, .int p), (2, .int a), (3, .ref (g.2.1 69)), (4, .ref q)]) F (by decide) rfl dL_box_17 ?_
      refine r_iconst (v := 2) F (by decide) dL_box_19 ?_
      exact hret _ _ _ _ _ _ (Nat.le_of_ble_eq_true rfl) (Nat.le_of_ble_eq_true rfl) (Or.inr ⟨2, by decide, hcd, rfl, rfl⟩) dL_box_20
  · skip
    obtain ⟨hcd, er, hC, hk⟩ := hp
    subst er
    have hO2 : u' 69 = .inl (g.2.2.1 3, 1, .inr (.inl f)) := (hk 69 (by omega)).trans hO
    refine r_i2l F rfl dL_box_8 ?_
    refine r_last F 69 hO2 (by decide) (vp_in_nI (n := 0) (by decide) (by decide)) dL_box_9 (fun u_1 hu_1 => ?_)
    have hu := hu_1
    refine r_goto F 21 (by decide) dL_box_10 ?_
    refine r_iconst (v := 0) F (by decide) dL_box_21 ?_
    exact hret _ _ _ _ _ _ (Nat.le_of_ble_eq_true rfl) (Nat.le_of_ble_eq_true rfl) (Or.inl ⟨hcd, rfl, hC.keep (fun j hj => by rw [hu]; exact vne (by omega)), ⟨_, by rw [hu]; exact veq, rfl⟩, fun j h1 h2 => by rw [hu]; exact (vne (by omega)).trans (hk j h1)⟩) dL_box_22
set_option maxHeartbeats 4000000 in
set_option maxRecDepth 100000 in
theorem c_L_part {g : kG} {l : Launch} (hfl : l.stackTraces = false) {u : Nat → va_E} {n m t : Nat} {B : kB} {S : Nat → kS} {C : Nat → Int32} {p a : Int32} (hc : CsB g u n B m S t C) (hO : OutR g u) : CC g l yL_part wsL_part ({ frames := 8, cells := 2, slots := 12, locals := 134 }) [.ref (g.2.1 0), .int p, .int a, .ref (g.2.1 69)] u (fun r u' => (cdPart p a = 0 ∧ r = 0 ∧ CsB g u' n B m S t C ∧ OutV g u' (tP B n (opm B n) p a) ∧ ∀ j, 61 ≤ j → j < 69 → u' j = u j) ∨ (∃ c, 0 < c ∧ cdPart p a = c ∧ r = nI c ∧ u' = u)) := by
  refine CC.of (cc := cL_part) (nL := 5) (ty := .int) (hh := [(0, 10, 13, 13), (0, 10, 17, 15)]) (by decide +kernel) rfl (fun _ _ _ => rfl) (Nat.le_of_ble_eq_true rfl) ?_
  intro X hXl F T hret
  subst hXl
  obtain ⟨f, hO⟩ := hO
  have hex := F.ex
  have hec := T.ec
  show VL g X 0 0 u 0 [(0, .ref (g.2.1 0)), (1, .int p), (2, .int a), (3, .ref (g.2.1 69))] []
  refine r_aload_n F 3 rfl dL_part_0 ?_
  refine r_iconst (v := 0) F (by decide) dL_part_1 ?_
  refine r_aload_n F 0 rfl dL_part_2 ?_
  refine r_iload_n F 1 rfl dL_part_3 ?_
  refine r_iload_n F 2 rfl dL_part_4 ?_
  refine r_ccalli F T (g_XV (C := RX3) (T := TX3) (N := 4) (nA := 2) (As := [.int p, .int a]) (rest := [.int 0, .ref (g.2.1 69)]) F 0 hc.1 (by decide) rfl (c_X3_part hfl hc) gL_part_X3_part rfl (by decide +kernel) rfl ⟨Nat.le_of_ble_eq_true rfl, Nat.le_of_ble_eq_true rfl⟩ ⟨Nat.le_of_ble_eq_true rfl, Nat.le_of_ble_eq_true rfl⟩ rfl (Nat.le_of_ble_eq_true rfl) dL_part_5) (fun E u' hx => ?_) (fun r u' hp => ?_)
  · skip
    obtain ⟨hx, eu⟩ := hx
    rw [eu]
    rcases hx with ⟨hcd, rfl⟩ | ⟨hcd, rfl⟩
    · skip
      refine ⟨13, ⟨[], _, tableOf [(0, 10, 17, 15)], "java/lang/IndexOutOfBoundsException", rfl, (fun z hz => absurd hz List.not_mem_nil), by decide, by decide, (show Cond.classLink RL 13 "java/lang/IndexOutOfBoundsException" ∈ wsL_part by decide +kernel), hex.2.2.2.2.1, rfl⟩, fun q => ?_⟩
      refine r_astore (lv' := [(0, .ref (g.2.1 0)), (1, .int p), (2, .int a), (3, .ref (g.2.1 69)), (4, .ref q)]) F (by decide) rfl dL_part_13 ?_
      refine r_iconst (v := 1) F (by decide) dL_part_15 ?_
      exact hret _ _ _ _ _ _ (Nat.le_of_ble_eq_true rfl) (Nat.le_of_ble_eq_true rfl) (Or.inr ⟨1, by decide, hcd, rfl, rfl⟩) dL_part_16
    · skip
      refine ⟨17, ⟨(tableOf [(0, 10, 13, 13)]), _, tableOf [], "java/lang/IllegalArgumentException", rfl, (fun z hz => by obtain rfl := List.mem_singleton.mp hz; exact Or.inr ⟨by decide, _, (show Cond.classLink RL 13 "java/lang/IndexOutOfBoundsException" ∈ wsL_part by decide +kernel), hec.1⟩), by decide, by decide, (show Cond.classLink RL 15 "java/lang/IllegalArgumentException" ∈ wsL_part by decide +kernel), hex.2.2.2.2.2.1, rfl⟩, fun q => ?_⟩
      refine r_astore (lv' := [(0, .ref (g.2.1 0)), (1, .int p), (2, .int a), (3, .ref (g.2.1 69)), (4, .ref q)]) F (by decide) rfl dL_part_17 ?_
      refine r_iconst (v := 2) F (by decide) dL_part_19 ?_
      exact hret _ _ _ _ _ _ (Nat.le_of_ble_eq_true rfl) (Nat.le_of_ble_eq_true rfl) (Or.inr ⟨2, by decide, hcd, rfl, rfl⟩) dL_part_20
  · skip
    obtain ⟨hcd, er, hC, hk⟩ := hp
    subst er
    have hO2 : u' 69 = .inl (g.2.2.1 3, 1, .inr (.inl f)) := (hk 69 (by omega)).trans hO
    refine r_i2l F rfl dL_part_8 ?_
    refine r_last F 69 hO2 (by decide) (vp_in_nI (n := 0) (by decide) (by decide)) dL_part_9 (fun u_1 hu_1 => ?_)
    have hu := hu_1
    refine r_goto F 21 (by decide) dL_part_10 ?_
    refine r_iconst (v := 0) F (by decide) dL_part_21 ?_
    exact hret _ _ _ _ _ _ (Nat.le_of_ble_eq_true rfl) (Nat.le_of_ble_eq_true rfl) (Or.inl ⟨hcd, rfl, hC.keep (fun j hj => by rw [hu]; exact vne (by omega)), ⟨_, by rw [hu]; exact veq, rfl⟩, fun j h1 h2 => by rw [hu]; exact (vne (by omega)).trans (hk j h1)⟩) dL_part_22
set_option maxHeartbeats 4000000 in
set_option maxRecDepth 100000 in
theorem c_L_count {g : kG} {l : Launch} (hfl : l.stackTraces = false) {u : Nat → va_E} {n m t : Nat} {B : kB} {S : Nat → kS} {C : Nat → Int32} {p : Int32} (hc : CsB g u n B m S t C) (hO : OutR g u) : CC g l yL_count wsL_count ({ frames := 8, cells := 1, slots := 6, locals := 131 }) [.ref (g.2.1 0), .int p, .ref (g.2.1 69)] u (fun r u' => (cdCount p = 0 ∧ r = 0 ∧ CsB g u' n B m S t C ∧ OutV g u' (tF B n m (opm B n) p) ∧ ∀ j, 61 ≤ j → j < 69 → u' j = u j) ∨ (∃ c, 0 < c ∧ cdCount p = c ∧ r = nI c ∧ u' = u)) := by
  refine CC.of (cc := cL_count) (nL := 4) (ty := .int) (hh := [(0, 9, 12, 15)]) (by decide +kernel) rfl (fun _ _ _ => rfl) (Nat.le_of_ble_eq_true rfl) ?_
  intro X hXl F T hret
  subst hXl
  obtain ⟨f, hO⟩ := hO
  have hex := F.ex
  have hec := T.ec
  show VL g X 0 0 u 0 [(0, .ref (g.2.1 0)), (1, .int p), (2, .ref (g.2.1 69))] []
  refine r_aload_n F 2 rfl dL_count_0 ?_
  refine r_iconst (v := 0) F (by decide) dL_count_1 ?_
  refine r_aload_n F 0 rfl dL_count_2 ?_
  refine r_iload_n F 1 rfl dL_count_3 ?_
  refine r_ccalli F T (g_XV (C := RX3) (T := TX3) (N := 4) (nA := 1) (As := [.int p]) (rest := [.int 0, .ref (g.2.1 69)]) F 0 hc.1 (by decide) rfl (c_X3_count hfl hc) gL_count_X3_count rfl (by decide +kernel) rfl ⟨Nat.le_of_ble_eq_true rfl, Nat.le_of_ble_eq_true rfl⟩ ⟨Nat.le_of_ble_eq_true rfl, Nat.le_of_ble_eq_true rfl⟩ rfl (Nat.le_of_ble_eq_true rfl) dL_count_4) (fun E u' hx => ?_) (fun r u' hp => ?_)
  · skip
    obtain ⟨⟨hcd, rfl⟩, eu⟩ := hx
    rw [eu]
    refine ⟨12, ⟨[], _, tableOf [], "java/lang/IllegalArgumentException", rfl, (fun z hz => absurd hz List.not_mem_nil), by decide, by decide, (show Cond.classLink RL 15 "java/lang/IllegalArgumentException" ∈ wsL_count by decide +kernel), hex.2.2.2.2.2.1, rfl⟩, fun q => ?_⟩
    refine r_astore_n (lv' := [(0, .ref (g.2.1 0)), (1, .int p), (2, .ref (g.2.1 69)), (3, .ref q)]) F (by decide) rfl dL_count_12 ?_
    refine r_iconst (v := 1) F (by decide) dL_count_13 ?_
    exact hret _ _ _ _ _ _ (Nat.le_of_ble_eq_true rfl) (Nat.le_of_ble_eq_true rfl) (Or.inr ⟨1, by decide, hcd, rfl, rfl⟩) dL_count_14
  · skip
    obtain ⟨hcd, er, hC, hk⟩ := hp
    subst er
    have hO2 : u' 69 = .inl (g.2.2.1 3, 1, .inr (.inl f)) := (hk 69 (by omega)).trans hO
    refine r_i2l F rfl dL_count_7 ?_
    refine r_last F 69 hO2 (by decide) (vp_in_nI (n := 0) (by decide) (by decide)) dL_count_8 (fun u_1 hu_1 => ?_)
    have hu := hu_1
    refine r_goto F 15 (by decide) dL_count_9 ?_
    refine r_iconst (v := 0) F (by decide) dL_count_15 ?_
    exact hret _ _ _ _ _ _ (Nat.le_of_ble_eq_true rfl) (Nat.le_of_ble_eq_true rfl) (Or.inl ⟨hcd, rfl, hC.keep (fun j hj => by rw [hu]; exact vne (by omega)), ⟨_, by rw [hu]; exact veq, rfl⟩, fun j h1 h2 => by rw [hu]; exact (vne (by omega)).trans (hk j h1)⟩) dL_count_16
set_option maxHeartbeats 4000000 in
set_option maxRecDepth 100000 in
theorem c_L_ifAnswered {g : kG} {l : Launch} (hfl : l.stackTraces = false) {u : Nat → va_E} {n m t : Nat} {B : kB} {S : Nat → kS} {C : Nat → Int32} {p a b : Int32} (hc : CsB g u n B m S t C) (hw : Wt n B) (hO : OutR g u) : CC g l yL_ifAnswered wsL_ifAnswered ({ frames := 8, cells := 2, slots := 12, locals := 137 }) [.ref (g.2.1 0), .int p, .int a, .int b, .ref (g.2.1 69)] u (fun r u' => (cdIf B n p a b = 0 ∧ r = 0 ∧ CsB g u' n B m S t C ∧ OutV g u' (tT B n p.toNatClampNeg a b) ∧ ∀ j, 61 ≤ j → j < 69 → u' j = u j) ∨ (∃ c, 0 < c ∧ cdIf B n p a b = c ∧ r = nI c ∧ u' = u)) := by
  refine CC.of (cc := cL_ifAnswered) (nL := 6) (ty := .int) (hh := [(0, 12, 15, 13), (0, 12, 19, 15)]) (by decide +kernel) rfl (fun _ _ _ => rfl) (Nat.le_of_ble_eq_true rfl) ?_
  intro X hXl F T hret
  subst hXl
  obtain ⟨f, hO⟩ := hO
  have hex := F.ex
  have hec := T.ec
  show VL g X 0 0 u 0 [(0, .ref (g.2.1 0)), (1, .int p), (2, .int a), (3, .int b), (4, .ref (g.2.1 69))] []
  refine r_aload F 4 rfl dL_ifAnswered_0 ?_
  refine r_iconst (v := 0) F (by decide) dL_ifAnswered_2 ?_
  refine r_aload_n F 0 rfl dL_ifAnswered_3 ?_
  refine r_iload_n F 1 rfl dL_ifAnswered_4 ?_
  refine r_iload_n F 2 rfl dL_ifAnswered_5 ?_
  refine r_iload_n F 3 rfl dL_ifAnswered_6 ?_
  refine r_ccalli F T (g_XV (C := RX3) (T := TX3) (N := 4) (nA := 3) (As := [.int p, .int a, .int b]) (rest := [.int 0, .ref (g.2.1 69)]) F 0 hc.1 (by decide) rfl (c_X3_ifAnswered hfl hc hw) gL_ifAnswered_X3_ifAnswered rfl (by decide +kernel) rfl ⟨Nat.le_of_ble_eq_true rfl, Nat.le_of_ble_eq_true rfl⟩ ⟨Nat.le_of_ble_eq_true rfl, Nat.le_of_ble_eq_true rfl⟩ rfl (Nat.le_of_ble_eq_true rfl) dL_ifAnswered_7) (fun E u' hx => ?_) (fun r u' hp => ?_)
  · skip
    obtain ⟨hx, eu⟩ := hx
    rw [eu]
    rcases hx with ⟨hcd, rfl⟩ | ⟨hcd, rfl⟩
    · skip
      refine ⟨15, ⟨[], _, tableOf [(0, 12, 19, 15)], "java/lang/IndexOutOfBoundsException", rfl, (fun z hz => absurd hz List.not_mem_nil), by decide, by decide, (show Cond.classLink RL 13 "java/lang/IndexOutOfBoundsException" ∈ wsL_ifAnswered by decide +kernel), hex.2.2.2.2.1, rfl⟩, fun q => ?_⟩
      refine r_astore (lv' := [(0, .ref (g.2.1 0)), (1, .int p), (2, .int a), (3, .int b), (4, .ref (g.2.1 69)), (5, .ref q)]) F (by decide) rfl dL_ifAnswered_15 ?_
      refine r_iconst (v := 1) F (by decide) dL_ifAnswered_17 ?_
      exact hret _ _ _ _ _ _ (Nat.le_of_ble_eq_true rfl) (Nat.le_of_ble_eq_true rfl) (Or.inr ⟨1, by decide, hcd, rfl, rfl⟩) dL_ifAnswered_18
    · skip
      refine ⟨19, ⟨(tableOf [(0, 12, 15, 13)]), _, tableOf [], "java/lang/IllegalArgumentException", rfl, (fun z hz => by obtain rfl := List.mem_singleton.mp hz; exact Or.inr ⟨by decide, _, (show Cond.classLink RL 13 "java/lang/IndexOutOfBoundsException" ∈ wsL_ifAnswered by decide +kernel), hec.1⟩), by decide, by decide, (show Cond.classLink RL 15 "java/lang/IllegalArgumentException" ∈ wsL_ifAnswered by decide +kernel), hex.2.2.2.2.2.1, rfl⟩, fun q => ?_⟩
      refine r_astore (lv' := [(0, .ref (g.2.1 0)), (1, .int p), (2, .int a), (3, .int b), (4, .ref (g.2.1 69)), (5, .ref q)]) F (by decide) rfl dL_ifAnswered_19 ?_
      refine r_iconst (v := 2) F (by decide) dL_ifAnswered_21 ?_
      exact hret _ _ _ _ _ _ (Nat.le_of_ble_eq_true rfl) (Nat.le_of_ble_eq_true rfl) (Or.inr ⟨2, by decide, hcd, rfl, rfl⟩) dL_ifAnswered_22
  · skip
    obtain ⟨hcd, er, hC, hk⟩ := hp
    subst er
    have hO2 : u' 69 = .inl (g.2.2.1 3, 1, .inr (.inl f)) := (hk 69 (by omega)).trans hO
    refine r_i2l F rfl dL_ifAnswered_10 ?_
    refine r_last F 69 hO2 (by decide) (vp_in_nI (n := 0) (by decide) (by decide)) dL_ifAnswered_11 (fun u_1 hu_1 => ?_)
    have hu := hu_1
    refine r_goto F 23 (by decide) dL_ifAnswered_12 ?_
    refine r_iconst (v := 0) F (by decide) dL_ifAnswered_23 ?_
    exact hret _ _ _ _ _ _ (Nat.le_of_ble_eq_true rfl) (Nat.le_of_ble_eq_true rfl) (Or.inl ⟨hcd, rfl, hC.keep (fun j hj => by rw [hu]; exact vne (by omega)), ⟨_, by rw [hu]; exact veq, rfl⟩, fun j h1 h2 => by rw [hu]; exact (vne (by omega)).trans (hk j h1)⟩) dL_ifAnswered_24

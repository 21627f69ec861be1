set_option maxHeartbeats 4000000 in
set_option maxRecDepth 100000 in
theorem c_X3_isWithin {g : kG} {l : Launch} {u : Nat → va_E} {x a b : Int32}  : CI g l yX3_isWithin wsX3_isWithin ({ frames := 0, cells := 0, slots := 0, locals := 0 }) [.int x, .int a, .int b] u (fun r u' => r = bI (wi x a b) ∧ u = u') := by
  refine CI.of (cc := cX3_isWithin) (nL := 3) (ty := .boolean) (by decide +kernel) rfl (fun v u' h => by obtain ⟨h, -⟩ := h; rw [h]; exact bI_n _) (Nat.le_of_ble_eq_true rfl) ?_
  intro X hXl F hret
  subst hXl
  show VL g X 0 0 u 0 [(0, .int x), (1, .int a), (2, .int b)] []
  refine r_iload_n F 0 rfl dX3_isWithin_0 ?_
  refine r_iload_n F 1 rfl dX3_isWithin_1 ?_
  refine r_icmp_lt F 14 (by decide) dX3_isWithin_2 (fun c_2_1 => ?_) (fun c_2_1 => ?_)
  · skip
    refine r_iconst (v := 0) F (by decide) dX3_isWithin_14 ?_
    exact hret _ _ _ _ _ _ (Nat.le_of_ble_eq_true rfl) (Nat.le_of_ble_eq_true rfl) ⟨by simp [wi, bI, c_2_1], rfl⟩ dX3_isWithin_15
  · skip
    refine r_iload_n F 0 rfl dX3_isWithin_5 ?_
    refine r_iload_n F 2 rfl dX3_isWithin_6 ?_
    refine r_icmp_gt F 14 (by decide) dX3_isWithin_7 (fun c_7_2 => ?_) (fun c_7_2 => ?_)
    · skip
      refine r_iconst (v := 0) F (by decide) dX3_isWithin_14 ?_
      exact hret _ _ _ _ _ _ (Nat.le_of_ble_eq_true rfl) (Nat.le_of_ble_eq_true rfl) ⟨by simp [wi, bI, c_2_1, c_7_2], rfl⟩ dX3_isWithin_15
    · skip
      refine r_iconst (v := 1) F (by decide) dX3_isWithin_10 ?_
      refine r_goto F 15 (by decide) dX3_isWithin_11 ?_
      exact hret _ _ _ _ _ _ (Nat.le_of_ble_eq_true rfl) (Nat.le_of_ble_eq_true rfl) ⟨by simp [wi, bI, c_2_1, c_7_2], rfl⟩ dX3_isWithin_15
set_option maxHeartbeats 4000000 in
set_option maxRecDepth 100000 in
theorem c_X3_at {g : kG} {l : Launch} {u : Nat → va_E} {q0 len : Nat} {f : Nat → Int32} {i : Int32} (he : u q0 = .inl (g.2.2.1 0, len, .inl f)) (hq : q0 < kN) (hl : len < 2 ^ 31) : CI g l yX3_at wsX3_at ({ frames := 0, cells := 0, slots := 0, locals := 0 }) [.ref (g.2.1 q0), .int i] u (fun r u' => r = atF len f i ∧ u = u') := by
  refine CI.of (cc := cX3_at) (nL := 2) (ty := .int) (by decide +kernel) rfl (fun _ _ _ => rfl) (Nat.le_of_ble_eq_true rfl) ?_
  intro X hXl F hret
  subst hXl
  show VL g X 0 0 u 0 [(0, .ref (g.2.1 q0)), (1, .int i)] []
  refine r_iload_n F 1 rfl dX3_at_0 ?_
  refine r_if_lt F 16 (by decide) dX3_at_1 (fun c_1_1 => ?_) (fun c_1_1 => ?_)
  · skip
    refine r_iconst (v := -1) F (by decide) dX3_at_16 ?_
    exact hret _ _ _ _ _ _ (Nat.le_of_ble_eq_true rfl) (Nat.le_of_ble_eq_true rfl) ⟨by simp [atF, c_1_1], rfl⟩ dX3_at_17
  · skip
    refine r_iload_n F 1 rfl dX3_at_4 ?_
    refine r_aload_n F 0 rfl dX3_at_5 ?_
    refine r_alen (j := 0) (v := nI len) F q0 rfl he hq rfl dX3_at_6 ?_
    refine r_icmp_ge F 16 (by decide) dX3_at_7 (fun c_7_2 => ?_) (fun c_7_2 => ?_)
    · skip
      refine r_iconst (v := -1) F (by decide) dX3_at_16 ?_
      exact hret _ _ _ _ _ _ (Nat.le_of_ble_eq_true rfl) (Nat.le_of_ble_eq_true rfl) ⟨by simp [atF, c_1_1, c_7_2], rfl⟩ dX3_at_17
    · skip
      refine r_aload_n F 0 rfl dX3_at_10 ?_
      refine r_iload_n F 1 rfl dX3_at_11 ?_
      refine r_iald F q0 he hq (vin c_1_1 c_7_2 hl) dX3_at_12 ?_
      refine r_goto F 17 (by decide) dX3_at_13 ?_
      exact hret _ _ _ _ _ _ (Nat.le_of_ble_eq_true rfl) (Nat.le_of_ble_eq_true rfl) ⟨by simp [atF, c_1_1, c_7_2], rfl⟩ dX3_at_17
theorem vself {u : Nat → va_E} {q : Nat} {c : va_E} (h : u q = c) : va_up u q c = u := by
  funext j
  unfold va_up
  split
  · rename_i e; rw [e, h]
  · rfl
set_option maxHeartbeats 4000000 in
set_option maxRecDepth 100000 in
theorem c_X3_put {g : kG} {l : Launch} {u : Nat → va_E} {q0 len : Nat} {f : Nat → Int32} {i x : Int32} (he : u q0 = .inl (g.2.2.1 0, len, .inl f)) (hq : q0 < kN) (hl : len < 2 ^ 31) : CV g l yX3_put wsX3_put ({ frames := 0, cells := 0, slots := 0, locals := 0 }) [.ref (g.2.1 q0), .int i, .int x] u (fun u' => u' = va_up u q0 (.inl (g.2.2.1 0, len, .inl (putF len f i x)))) := by
  refine CV.of (cc := cX3_put) (nL := 3) (by decide +kernel) rfl (Nat.le_of_ble_eq_true rfl) ?_
  intro X hXl F hret
  subst hXl
  show VL g X 0 0 u 0 [(0, .ref (g.2.1 q0)), (1, .int i), (2, .int x)] []
  refine r_iload_n F 1 rfl dX3_put_0 ?_
  refine r_if_lt F 14 (by decide) dX3_put_1 (fun c_1_1 => ?_) (fun c_1_1 => ?_)
  · skip
    exact hret _ _ _ _ _ (Nat.le_of_ble_eq_true rfl) (Nat.le_of_ble_eq_true rfl) (by simp [putF, c_1_1]; exact (vself he).symm) dX3_put_14
  · skip
    refine r_iload_n F 1 rfl dX3_put_4 ?_
    refine r_aload_n F 0 rfl dX3_put_5 ?_
    refine r_alen (j := 0) (v := nI len) F q0 rfl he hq rfl dX3_put_6 ?_
    refine r_icmp_ge F 14 (by decide) dX3_put_7 (fun c_7_2 => ?_) (fun c_7_2 => ?_)
    · skip
      exact hret _ _ _ _ _ (Nat.le_of_ble_eq_true rfl) (Nat.le_of_ble_eq_true rfl) (by simp [putF, c_1_1, c_7_2]; exact (vself he).symm) dX3_put_14
    · skip
      refine r_aload_n F 0 rfl dX3_put_10 ?_
      refine r_iload_n F 1 rfl dX3_put_11 ?_
      refine r_iload_n F 2 rfl dX3_put_12 ?_
      refine r_iast F q0 he hq (vin c_1_1 c_7_2 hl) dX3_put_13 (fun u_3 hu_3 => ?_)
      exact hret _ _ _ _ _ (Nat.le_of_ble_eq_true rfl) (Nat.le_of_ble_eq_true rfl) (by rw [hu_3]; simp [putF, c_1_1, c_7_2]) dX3_put_14
set_option maxHeartbeats 4000000 in
set_option maxRecDepth 100000 in
theorem c_X3_isInMask {g : kG} {l : Launch} {u : Nat → va_E} {p mask : Int32}  : CI g l yX3_isInMask wsX3_isInMask ({ frames := 0, cells := 0, slots := 0, locals := 0 }) [.int p, .int mask] u (fun r u' => r = bI (tld mask p) ∧ u = u') := by
  refine CI.of (cc := cX3_isInMask) (nL := 2) (ty := .boolean) (by decide +kernel) rfl (fun v u' h => by obtain ⟨h, -⟩ := h; rw [h]; exact bI_n _) (Nat.le_of_ble_eq_true rfl) ?_
  intro X hXl F hret
  subst hXl
  show VL g X 0 0 u 0 [(0, .int p), (1, .int mask)] []
  refine r_iload_n F 1 rfl dX3_isInMask_0 ?_
  refine r_iload_n F 0 rfl dX3_isInMask_1 ?_
  refine r_ishr F dX3_isInMask_2 ?_
  refine r_iconst (v := 1) F (by decide) dX3_isInMask_3 ?_
  refine r_iand F dX3_isInMask_4 ?_
  refine r_iconst (v := 1) F (by decide) dX3_isInMask_5 ?_
  refine r_icmp_ne F 13 (by decide) dX3_isInMask_6 (fun c_6_1 => ?_) (fun c_6_1 => ?_)
  · skip
    refine r_iconst (v := 0) F (by decide) dX3_isInMask_13 ?_
    exact hret _ _ _ _ _ _ (Nat.le_of_ble_eq_true rfl) (Nat.le_of_ble_eq_true rfl) ⟨by simp [tld, bI, c_6_1], rfl⟩ dX3_isInMask_14
  · skip
    refine r_iconst (v := 1) F (by decide) dX3_isInMask_9 ?_
    refine r_goto F 14 (by decide) dX3_isInMask_10 ?_
    exact hret _ _ _ _ _ _ (Nat.le_of_ble_eq_true rfl) (Nat.le_of_ble_eq_true rfl) ⟨by simp [tld, bI, c_6_1], rfl⟩ dX3_isInMask_14
theorem c_atL0 {g : kG} {l : Launch} {u : Nat → va_E} {i b : Nat} {sz : Int32} {G : kB} {V : Nat → Int32} (h : FmL g u i sz G V) (hi : i + 7 ≤ kN) (hb : b < 16) : CI g l yX3_at wsX3_at ({ frames := 0, cells := 0, slots := 0, locals := 0 }) [.ref (g.2.1 (i + 1)), .int (nI b)] u (fun r u' => r = G b 0 ∧ u = u') := by
  obtain ⟨h0, h1, h2, h3, h4, h5, h6⟩ := h
  refine (c_X3_at (i := nI b) h1 (by omega) (by omega)).mono (fun r u' hp => ⟨?_, hp.2⟩)
  rw [hp.1, atF_nI (by omega) (by omega)]
theorem c_atB0 {g : kG} {l : Launch} {u : Nat → va_E} {i n b : Nat} {B : kB} (h : FmB g u i n B) (hi : i + 7 ≤ kN) (hb : b < n) : CI g l yX3_at wsX3_at ({ frames := 0, cells := 0, slots := 0, locals := 0 }) [.ref (g.2.1 (i + 1)), .int (nI b)] u (fun r u' => r = B b 0 ∧ u = u') := by
  obtain ⟨G, V, h, hn, hG⟩ := h
  refine (c_atL0 h hi (by omega)).mono (fun r u' hp => ⟨?_, hp.2⟩)
  rw [hp.1, hG b hb 0 (by omega)]
theorem c_putL0 {g : kG} {l : Launch} {u : Nat → va_E} {i b : Nat} {sz v : Int32} {G : kB} {V : Nat → Int32} (h : FmL g u i sz G V) (hi : i + 7 ≤ kN) (hb : b < 16) : CV g l yX3_put wsX3_put ({ frames := 0, cells := 0, slots := 0, locals := 0 }) [.ref (g.2.1 (i + 1)), .int (nI b), .int v] u (fun u' => FmL g u' i sz (bUp G b 0 v) V ∧ ∀ j, ¬ (i ≤ j ∧ j < i + 7) → u' j = u j) := by
  obtain ⟨h0, h1, h2, h3, h4, h5, h6⟩ := h
  refine (c_X3_put (i := nI b) (x := v) h1 (by omega) (by omega)).mono (fun u' hp => ?_)
  rw [putF_nI (by omega) (by omega)] at hp
  subst hp
  refine ⟨⟨(vne (by omega)).trans h0, (veq (u := u) (k := i + 1)).trans (by rw [bUp_row]), (vne (by omega)).trans (by rw [bUp_other (by decide)]; exact h2), (vne (by omega)).trans (by rw [bUp_other (by decide)]; exact h3), (vne (by omega)).trans (by rw [bUp_other (by decide)]; exact h4), (vne (by omega)).trans (by rw [bUp_other (by decide)]; exact h5), (vne (by omega)).trans h6⟩, fun j hj => vne (by omega)⟩
theorem c_atL1 {g : kG} {l : Launch} {u : Nat → va_E} {i b : Nat} {sz : Int32} {G : kB} {V : Nat → Int32} (h : FmL g u i sz G V) (hi : i + 7 ≤ kN) (hb : b < 16) : CI g l yX3_at wsX3_at ({ frames := 0, cells := 0, slots := 0, locals := 0 }) [.ref (g.2.1 (i + 2)), .int (nI b)] u (fun r u' => r = G b 1 ∧ u = u') := by
  obtain ⟨h0, h1, h2, h3, h4, h5, h6⟩ := h
  refine (c_X3_at (i := nI b) h2 (by omega) (by omega)).mono (fun r u' hp => ⟨?_, hp.2⟩)
  rw [hp.1, atF_nI (by omega) (by omega)]
theorem c_atB1 {g : kG} {l : Launch} {u : Nat → va_E} {i n b : Nat} {B : kB} (h : FmB g u i n B) (hi : i + 7 ≤ kN) (hb : b < n) : CI g l yX3_at wsX3_at ({ frames := 0, cells := 0, slots := 0, locals := 0 }) [.ref (g.2.1 (i + 2)), .int (nI b)] u (fun r u' => r = B b 1 ∧ u = u') := by
  obtain ⟨G, V, h, hn, hG⟩ := h
  refine (c_atL1 h hi (by omega)).mono (fun r u' hp => ⟨?_, hp.2⟩)
  rw [hp.1, hG b hb 1 (by omega)]
theorem c_putL1 {g : kG} {l : Launch} {u : Nat → va_E} {i b : Nat} {sz v : Int32} {G : kB} {V : Nat → Int32} (h : FmL g u i sz G V) (hi : i + 7 ≤ kN) (hb : b < 16) : CV g l yX3_put wsX3_put ({ frames := 0, cells := 0, slots := 0, locals := 0 }) [.ref (g.2.1 (i + 2)), .int (nI b), .int v] u (fun u' => FmL g u' i sz (bUp G b 1 v) V ∧ ∀ j, ¬ (i ≤ j ∧ j < i + 7) → u' j = u j) := by
  obtain ⟨h0, h1, h2, h3, h4, h5, h6⟩ := h
  refine (c_X3_put (i := nI b) (x := v) h2 (by omega) (by omega)).mono (fun u' hp => ?_)
  rw [putF_nI (by omega) (by omega)] at hp
  subst hp
  refine ⟨⟨(vne (by omega)).trans h0, (vne (by omega)).trans (by rw [bUp_other (by decide)]; exact h1), (veq (u := u) (k := i + 2)).trans (by rw [bUp_row]), (vne (by omega)).trans (by rw [bUp_other (by decide)]; exact h3), (vne (by omega)).trans (by rw [bUp_other (by decide)]; exact h4), (vne (by omega)).trans (by rw [bUp_other (by decide)]; exact h5), (vne (by omega)).trans h6⟩, fun j hj => vne (by omega)⟩
theorem c_atL2 {g : kG} {l : Launch} {u : Nat → va_E} {i b : Nat} {sz : Int32} {G : kB} {V : Nat → Int32} (h : FmL g u i sz G V) (hi : i + 7 ≤ kN) (hb : b < 16) : CI g l yX3_at wsX3_at ({ frames := 0, cells := 0, slots := 0, locals := 0 }) [.ref (g.2.1 (i + 3)), .int (nI b)] u (fun r u' => r = G b 2 ∧ u = u') := by
  obtain ⟨h0, h1, h2, h3, h4, h5, h6⟩ := h
  refine (c_X3_at (i := nI b) h3 (by omega) (by omega)).mono (fun r u' hp => ⟨?_, hp.2⟩)
  rw [hp.1, atF_nI (by omega) (by omega)]
theorem c_atB2 {g : kG} {l : Launch} {u : Nat → va_E} {i n b : Nat} {B : kB} (h : FmB g u i n B) (hi : i + 7 ≤ kN) (hb : b < n) : CI g l yX3_at wsX3_at ({ frames := 0, cells := 0, slots := 0, locals := 0 }) [.ref (g.2.1 (i + 3)), .int (nI b)] u (fun r u' => r = B b 2 ∧ u = u') := by
  obtain ⟨G, V, h, hn, hG⟩ := h
  refine (c_atL2 h hi (by omega)).mono (fun r u' hp => ⟨?_, hp.2⟩)
  rw [hp.1, hG b hb 2 (by omega)]
theorem c_putL2 {g : kG} {l : Launch} {u : Nat → va_E} {i b : Nat} {sz v : Int32} {G : kB} {V : Nat → Int32} (h : FmL g u i sz G V) (hi : i + 7 ≤ kN) (hb : b < 16) : CV g l yX3_put wsX3_put ({ frames := 0, cells := 0, slots := 0, locals := 0 }) [.ref (g.2.1 (i + 3)), .int (nI b), .int v] u (fun u' => FmL g u' i sz (bUp G b 2 v) V ∧ ∀ j, ¬ (i ≤ j ∧ j < i + 7) → u' j = u j) := by
  obtain ⟨h0, h1, h2, h3, h4, h5, h6⟩ := h
  refine (c_X3_put (i := nI b) (x := v) h3 (by omega) (by omega)).mono (fun u' hp => ?_)
  rw [putF_nI (by omega) (by omega)] at hp
  subst hp
  refine ⟨⟨(vne (by omega)).trans h0, (vne (by omega)).trans (by rw [bUp_other (by decide)]; exact h1), (vne (by omega)).trans (by rw [bUp_other (by decide)]; exact h2), (veq (u := u) (k := i + 3)).trans (by rw [bUp_row]), (vne (by omega)).trans (by rw [bUp_other (by decide)]; exact h4), (vne (by omega)).trans (by rw [bUp_other (by decide)]; exact h5), (vne (by omega)).trans h6⟩, fun j hj => vne (by omega)⟩
theorem c_atL3 {g : kG} {l : Launch} {u : Nat → va_E} {i b : Nat} {sz : Int32} {G : kB} {V : Nat → Int32} (h : FmL g u i sz G V) (hi : i + 7 ≤ kN) (hb : b < 16) : CI g l yX3_at wsX3_at ({ frames := 0, cells := 0, slots := 0, locals := 0 }) [.ref (g.2.1 (i + 4)), .int (nI b)] u (fun r u' => r = G b 3 ∧ u = u') := by
  obtain ⟨h0, h1, h2, h3, h4, h5, h6⟩ := h
  refine (c_X3_at (i := nI b) h4 (by omega) (by omega)).mono (fun r u' hp => ⟨?_, hp.2⟩)
  rw [hp.1, atF_nI (by omega) (by omega)]
theorem c_atB3 {g : kG} {l : Launch} {u : Nat → va_E} {i n b : Nat} {B : kB} (h : FmB g u i n B) (hi : i + 7 ≤ kN) (hb : b < n) : CI g l yX3_at wsX3_at ({ frames := 0, cells := 0, slots := 0, locals := 0 }) [.ref (g.2.1 (i + 4)), .int (nI b)] u (fun r u' => r = B b 3 ∧ u = u') := by
  obtain ⟨G, V, h, hn, hG⟩ := h
  refine (c_atL3 h hi (by omega)).mono (fun r u' hp => ⟨?_, hp.2⟩)
  rw [hp.1, hG b hb 3 (by omega)]
theorem c_putL3 {g : kG} {l : Launch} {u : Nat → va_E} {i b : Nat} {sz v : Int32} {G : kB} {V : Nat → Int32} (h : FmL g u i sz G V) (hi : i + 7 ≤ kN) (hb : b < 16) : CV g l yX3_put wsX3_put ({ frames := 0, cells := 0, slots := 0, locals := 0 }) [.ref (g.2.1 (i + 4)), .int (nI b), .int v] u (fun u' => FmL g u' i sz (bUp G b 3 v) V ∧ ∀ j, ¬ (i ≤ j ∧ j < i + 7) → u' j = u j) := by
  obtain ⟨h0, h1, h2, h3, h4, h5, h6⟩ := h
  refine (c_X3_put (i := nI b) (x := v) h4 (by omega) (by omega)).mono (fun u' hp => ?_)
  rw [putF_nI (by omega) (by omega)] at hp
  subst hp
  refine ⟨⟨(vne (by omega)).trans h0, (vne (by omega)).trans (by rw [bUp_other (by decide)]; exact h1), (vne (by omega)).trans (by rw [bUp_other (by decide)]; exact h2), (vne (by omega)).trans (by rw [bUp_other (by decide)]; exact h3), (veq (u := u) (k := i + 4)).trans (by rw [bUp_row]), (vne (by omega)).trans (by rw [bUp_other (by decide)]; exact h5), (vne (by omega)).trans h6⟩, fun j hj => vne (by omega)⟩
theorem c_atL4 {g : kG} {l : Launch} {u : Nat → va_E} {i b : Nat} {sz : Int32} {G : kB} {V : Nat → Int32} (h : FmL g u i sz G V) (hi : i + 7 ≤ kN) (hb : b < 16) : CI g l yX3_at wsX3_at ({ frames := 0, cells := 0, slots := 0, locals := 0 }) [.ref (g.2.1 (i + 5)), .int (nI b)] u (fun r u' => r = G b 4 ∧ u = u') := by
  obtain ⟨h0, h1, h2, h3, h4, h5, h6⟩ := h
  refine (c_X3_at (i := nI b) h5 (by omega) (by omega)).mono (fun r u' hp => ⟨?_, hp.2⟩)
  rw [hp.1, atF_nI (by omega) (by omega)]
theorem c_atB4 {g : kG} {l : Launch} {u : Nat → va_E} {i n b : Nat} {B : kB} (h : FmB g u i n B) (hi : i + 7 ≤ kN) (hb : b < n) : CI g l yX3_at wsX3_at ({ frames := 0, cells := 0, slots := 0, locals := 0 }) [.ref (g.2.1 (i + 5)), .int (nI b)] u (fun r u' => r = B b 4 ∧ u = u') := by
  obtain ⟨G, V, h, hn, hG⟩ := h
  refine (c_atL4 h hi (by omega)).mono (fun r u' hp => ⟨?_, hp.2⟩)
  rw [hp.1, hG b hb 4 (by omega)]
theorem c_putL4 {g : kG} {l : Launch} {u : Nat → va_E} {i b : Nat} {sz v : Int32} {G : kB} {V : Nat → Int32} (h : FmL g u i sz G V) (hi : i + 7 ≤ kN) (hb : b < 16) : CV g l yX3_put wsX3_put ({ frames := 0, cells := 0, slots := 0, locals := 0 }) [.ref (g.2.1 (i + 5)), .int (nI b), .int v] u (fun u' => FmL g u' i sz (bUp G b 4 v) V ∧ ∀ j, ¬ (i ≤ j ∧ j < i + 7) → u' j = u j) := by
  obtain ⟨h0, h1, h2, h3, h4, h5, h6⟩ := h
  refine (c_X3_put (i := nI b) (x := v) h5 (by omega) (by omega)).mono (fun u' hp => ?_)
  rw [putF_nI (by omega) (by omega)] at hp
  subst hp
  refine ⟨⟨(vne (by omega)).trans h0, (vne (by omega)).trans (by rw [bUp_other (by decide)]; exact h1), (vne (by omega)).trans (by rw [bUp_other (by decide)]; exact h2), (vne (by omega)).trans (by rw [bUp_other (by decide)]; exact h3), (vne (by omega)).trans (by rw [bUp_other (by decide)]; exact h4), (veq (u := u) (k := i + 5)).trans (by rw [bUp_row]), (vne (by omega)).trans h6⟩, fun j hj => vne (by omega)⟩
set_option maxHeartbeats 4000000 in
set_option maxRecDepth 100000 in
theorem c_X0_size {g : kG} {l : Launch} {u : Nat → va_E} {i n : Nat} {B : kB}  (h : FmB g u i n B) (hi : i + 7 ≤ kN)  : CI g l yX0_size wsX0_size ({ frames := 0, cells := 0, slots := 0, locals := 0 }) [.ref (g.2.1 i)] u (fun r u' => r = nI n ∧ u = u') := by
  refine CI.of (cc := cX0_size) (nL := 1) (ty := .int) (by decide +kernel) rfl (fun _ _ _ => rfl) (Nat.le_of_ble_eq_true rfl) ?_
  intro X hXl F hret
  subst hXl
  have hinX0 : ∀ w ∈ wsX00, w ∈ wsX0_size := by decide +kernel
  show VL g X 0 0 u 0 [(0, .ref (g.2.1 i))] []
  refine r_aload_n F 0 rfl dX0_size_0 ?_
  refine r_get (C := RX0) (T := TX0) (N := 7) F i h.obj (by omega) hinX0 rfl 6 (by decide) (by decide +kernel) rfl dX0_size_1 ?_
  exact hret _ _ _ _ _ _ (Nat.le_of_ble_eq_true rfl) (Nat.le_of_ble_eq_true rfl) ⟨by simp [], rfl⟩ dX0_size_4
set_option maxHeartbeats 4000000 in
set_option maxRecDepth 100000 in
theorem c_X0_kindOf {g : kG} {l : Launch} {u : Nat → va_E} {i n : Nat} {B : kB} {b : Nat} (h : FmB g u i n B) (hi : i + 7 ≤ kN) (hb : b < n) : CI g l yX0_kindOf wsX0_kindOf ({ frames := 1, cells := 0, slots := 0, locals := 21 }) [.ref (g.2.1 i), .int (nI b)] u (fun r u' => r = B b 0 ∧ u = u') := by
  refine CI.of (cc := cX0_kindOf) (nL := 2) (ty := .int) (by decide +kernel) rfl (fun _ _ _ => rfl) (Nat.le_of_ble_eq_true rfl) ?_
  intro X hXl F hret
  subst hXl
  have hinX0 : ∀ w ∈ wsX00, w ∈ wsX0_kindOf := by decide +kernel
  show VL g X 0 0 u 0 [(0, .ref (g.2.1 i)), (1, .int (nI b))] []
  refine r_aload_n F 0 rfl dX0_kindOf_0 ?_
  refine r_get (C := RX0) (T := TX0) (N := 7) F i h.obj (by omega) hinX0 rfl 0 (by decide) (by decide +kernel) rfl dX0_kindOf_1 ?_
  refine r_iload_n F 1 rfl dX0_kindOf_4 ?_
  refine r_calli (g_SN (nA := 2) (As := [.ref (g.2.1 (i + 1)), .int (nI b)]) (rest := []) F (c_atB0 h hi hb) gX0_kindOf_X3_at_n34 rfl 6 rfl (by decide +kernel) (by decide +kernel) (by decide +kernel) rfl ⟨Nat.le_of_ble_eq_true rfl, Nat.le_of_ble_eq_true rfl⟩ ⟨Nat.le_of_ble_eq_true rfl, Nat.le_of_ble_eq_true rfl⟩ rfl (Nat.le_of_ble_eq_true rfl) dX0_kindOf_5) (fun r_1 u_1 hp_1 => ?_)
  obtain ⟨rfl, rfl⟩ := hp_1
  exact hret _ _ _ _ _ _ (Nat.le_of_ble_eq_true rfl) (Nat.le_of_ble_eq_true rfl) ⟨by simp [], rfl⟩ dX0_kindOf_8
set_option maxHeartbeats 4000000 in
set_option maxRecDepth 100000 in
theorem c_X0_partOf {g : kG} {l : Launch} {u : Nat → va_E} {i n : Nat} {B : kB} {b : Nat} (h : FmB g u i n B) (hi : i + 7 ≤ kN) (hb : b < n) : CI g l yX0_partOf wsX0_partOf ({ frames := 1, cells := 0, slots := 0, locals := 21 }) [.ref (g.2.1 i), .int (nI b)] u (fun r u' => r = B b 1 ∧ u = u') := by
  refine CI.of (cc := cX0_partOf) (nL := 2) (ty := .int) (by decide +kernel) rfl (fun _ _ _ => rfl) (Nat.le_of_ble_eq_true rfl) ?_
  intro X hXl F hret
  subst hXl
  have hinX0 : ∀ w ∈ wsX00, w ∈ wsX0_partOf := by decide +kernel
  show VL g X 0 0 u 0 [(0, .ref (g.2.1 i)), (1, .int (nI b))] []
  refine r_aload_n F 0 rfl dX0_partOf_0 ?_
  refine r_get (C := RX0) (T := TX0) (N := 7) F i h.obj (by omega) hinX0 rfl 1 (by decide) (by decide +kernel) rfl dX0_partOf_1 ?_
  refine r_iload_n F 1 rfl dX0_partOf_4 ?_
  refine r_calli (g_SN (nA := 2) (As := [.ref (g.2.1 (i + 2)), .int (nI b)]) (rest := []) F (c_atB1 h hi hb) gX0_partOf_X3_at_n34 rfl 6 rfl (by decide +kernel) (by decide +kernel) (by decide +kernel) rfl ⟨Nat.le_of_ble_eq_true rfl, Nat.le_of_ble_eq_true rfl⟩ ⟨Nat.le_of_ble_eq_true rfl, Nat.le_of_ble_eq_true rfl⟩ rfl (Nat.le_of_ble_eq_true rfl) dX0_partOf_5) (fun r_1 u_1 hp_1 => ?_)
  obtain ⟨rfl, rfl⟩ := hp_1
  exact hret _ _ _ _ _ _ (Nat.le_of_ble_eq_true rfl) (Nat.le_of_ble_eq_true rfl) ⟨by simp [], rfl⟩ dX0_partOf_8
set_option maxHeartbeats 4000000 in
set_option maxRecDepth 100000 in
theorem c_X0_settingOf {g : kG} {l : Launch} {u : Nat → va_E} {i n : Nat} {B : kB} {b : Nat} (h : FmB g u i n B) (hi : i + 7 ≤ kN) (hb : b < n) : CI g l yX0_settingOf wsX0_settingOf ({ frames := 1, cells := 0, slots := 0, locals := 21 }) [.ref (g.2.1 i), .int (nI b)] u (fun r u' => r = B b 2 ∧ u = u') := by
  refine CI.of (cc := cX0_settingOf) (nL := 2) (ty := .int) (by decide +kernel) rfl (fun _ _ _ => rfl) (Nat.le_of_ble_eq_true rfl) ?_
  intro X hXl F hret
  subst hXl
  have hinX0 : ∀ w ∈ wsX00, w ∈ wsX0_settingOf := by decide +kernel
  show VL g X 0 0 u 0 [(0, .ref (g.2.1 i)), (1, .int (nI b))] []
  refine r_aload_n F 0 rfl dX0_settingOf_0 ?_
  refine r_get (C := RX0) (T := TX0) (N := 7) F i h.obj (by omega) hinX0 rfl 2 (by decide) (by decide +kernel) rfl dX0_settingOf_1 ?_
  refine r_iload_n F 1 rfl dX0_settingOf_4 ?_
  refine r_calli (g_SN (nA := 2) (As := [.ref (g.2.1 (i + 3)), .int (nI b)]) (rest := []) F (c_atB2 h hi hb) gX0_settingOf_X3_at_n34 rfl 6 rfl (by decide +kernel) (by decide +kernel) (by decide +kernel) rfl ⟨Nat.le_of_ble_eq_true rfl, Nat.le_of_ble_eq_true rfl⟩ ⟨Nat.le_of_ble_eq_true rfl, Nat.le_of_ble_eq_true rfl⟩ rfl (Nat.le_of_ble_eq_true rfl) dX0_settingOf_5) (fun r_1 u_1 hp_1 => ?_)
  obtain ⟨rfl, rfl⟩ := hp_1
  exact hret _ _ _ _ _ _ (Nat.le_of_ble_eq_true rfl) (Nat.le_of_ble_eq_true rfl) ⟨by simp [], rfl⟩ dX0_settingOf_8
set_option maxHeartbeats 4000000 in
set_option maxRecDepth 100000 in
theorem c_X0_limitOf {g : kG} {l : Launch} {u : Nat → va_E} {i n : Nat} {B : kB} {b : Nat} (h : FmB g u i n B) (hi : i + 7 ≤ kN) (hb : b < n) : CI g l yX0_limitOf wsX0_limitOf ({ frames := 1, cells := 0, slots := 0, locals := 21 }) [.ref (g.2.1 i), .int (nI b)] u (fun r u' => r = B b 3 ∧ u = u') := by
  refine CI.of (cc := cX0_limitOf) (nL := 2) (ty := .int) (by decide +kernel) rfl (fun _ _ _ => rfl) (Nat.le_of_ble_eq_true rfl) ?_
  intro X hXl F hret
  subst hXl
  have hinX0 : ∀ w ∈ wsX00, w ∈ wsX0_limitOf := by decide +kernel
  show VL g X 0 0 u 0 [(0, .ref (g.2.1 i)), (1, .int (nI b))] []
  refine r_aload_n F 0 rfl dX0_limitOf_0 ?_
  refine r_get (C := RX0) (T := TX0) (N := 7) F i h.obj (by omega) hinX0 rfl 3 (by decide) (by decide +kernel) rfl dX0_limitOf_1 ?_
  refine r_iload_n F 1 rfl dX0_limitOf_4 ?_
  refine r_calli (g_SN (nA := 2) (As := [.ref (g.2.1 (i + 4)), .int (nI b)]) (rest := []) F (c_atB3 h hi hb) gX0_limitOf_X3_at_n34 rfl 6 rfl (by decide +kernel) (by decide +kernel) (by decide +kernel) rfl ⟨Nat.le_of_ble_eq_true rfl, Nat.le_of_ble_eq_true rfl⟩ ⟨Nat.le_of_ble_eq_true rfl, Nat.le_of_ble_eq_true rfl⟩ rfl (Nat.le_of_ble_eq_true rfl) dX0_limitOf_5) (fun r_1 u_1 hp_1 => ?_)
  obtain ⟨rfl, rfl⟩ := hp_1
  exact hret _ _ _ _ _ _ (Nat.le_of_ble_eq_true rfl) (Nat.le_of_ble_eq_true rfl) ⟨by simp [], rfl⟩ dX0_limitOf_8
set_option maxHeartbeats 4000000 in
set_option maxRecDepth 100000 in
theorem c_X0_answerOf {g : kG} {l : Launch} {u : Nat → va_E} {i n : Nat} {B : kB} {b : Nat} (h : FmB g u i n B) (hi : i + 7 ≤ kN) (hb : b < n) : CI g l yX0_answerOf wsX0_answerOf ({ frames := 1, cells := 0, slots := 0, locals := 21 }) [.ref (g.2.1 i), .int (nI b)] u (fun r u' => r = B b 4 ∧ u = u') := by
  refine CI.of (cc := cX0_answerOf) (nL := 2) (ty := .int) (by decide +kernel) rfl (fun _ _ _ => rfl) (Nat.le_of_ble_eq_true rfl) ?_
  intro X hXl F hret
  subst hXl
  have hinX0 : ∀ w ∈ wsX00, w ∈ wsX0_answerOf := by decide +kernel
  show VL g X 0 0 u 0 [(0, .ref (g.2.1 i)), (1, .int (nI b))] []
  refine r_aload_n F 0 rfl dX0_answerOf_0 ?_
  refine r_get (C := RX0) (T := TX0) (N := 7) F i h.obj (by omega) hinX0 rfl 4 (by decide) (by decide +kernel) rfl dX0_answerOf_1 ?_
  refine r_iload_n F 1 rfl dX0_answerOf_4 ?_
  refine r_calli (g_SN (nA := 2) (As := [.ref (g.2.1 (i + 5)), .int (nI b)]) (rest := []) F (c_atB4 h hi hb) gX0_answerOf_X3_at_n34 rfl 6 rfl (by decide +kernel) (by decide +kernel) (by decide +kernel) rfl ⟨Nat.le_of_ble_eq_true rfl, Nat.le_of_ble_eq_true rfl⟩ ⟨Nat.le_of_ble_eq_true rfl, Nat.le_of_ble_eq_true rfl⟩ rfl (Nat.le_of_ble_eq_true rfl) dX0_answerOf_5) (fun r_1 u_1 hp_1 => ?_)
  obtain ⟨rfl, rfl⟩ := hp_1
  exact hret _ _ _ _ _ _ (Nat.le_of_ble_eq_true rfl) (Nat.le_of_ble_eq_true rfl) ⟨by simp [], rfl⟩ dX0_answerOf_8
set_option maxHeartbeats 4000000 in
set_option maxRecDepth 100000 in
theorem c_X0_isFor {g : kG} {l : Launch} {u : Nat → va_E} {i n : Nat} {B : kB} {b : Nat} {kd p : Int32} (h : FmB g u i n B) (hi : i + 7 ≤ kN) (hb : b < n) : CI g l yX0_isFor wsX0_isFor ({ frames := 1, cells := 0, slots := 0, locals := 21 }) [.ref (g.2.1 i), .int (nI b), .int kd, .int p] u (fun r u' => r = bI (qFor B kd p b) ∧ u = u') := by
  refine CI.of (cc := cX0_isFor) (nL := 4) (ty := .boolean) (by decide +kernel) rfl (fun v u' h => by obtain ⟨h, -⟩ := h; rw [h]; exact bI_n _) (Nat.le_of_ble_eq_true rfl) ?_
  intro X hXl F hret
  subst hXl
  have hinX0 : ∀ w ∈ wsX00, w ∈ wsX0_isFor := by decide +kernel
  show VL g X 0 0 u 0 [(0, .ref (g.2.1 i)), (1, .int (nI b)), (2, .int kd), (3, .int p)] []
  refine r_aload_n F 0 rfl dX0_isFor_0 ?_
  refine r_get (C := RX0) (T := TX0) (N := 7) F i h.obj (by omega) hinX0 rfl 0 (by decide) (by decide +kernel) rfl dX0_isFor_1 ?_
  refine r_iload_n F 1 rfl dX0_isFor_4 ?_
  refine r_calli (g_SN (nA := 2) (As := [.ref (g.2.1 (i + 1)), .int (nI b)]) (rest := []) F (c_atB0 h hi hb) gX0_isFor_X3_at_n34 rfl 6 rfl (by decide +kernel) (by decide +kernel) (by decide +kernel) rfl ⟨Nat.le_of_ble_eq_true rfl, Nat.le_of_ble_eq_true rfl⟩ ⟨Nat.le_of_ble_eq_true rfl, Nat.le_of_ble_eq_true rfl⟩ rfl (Nat.le_of_ble_eq_true rfl) dX0_isFor_5) (fun r_1 u_1 hp_1 => ?_)
  obtain ⟨rfl, rfl⟩ := hp_1
  refine r_iload_n F 2 rfl dX0_isFor_8 ?_
  refine r_icmp_ne F 28 (by decide) dX0_isFor_9 (fun c_9_2 => ?_) (fun c_9_2 => ?_)
  · skip
    refine r_iconst (v := 0) F (by decide) dX0_isFor_28 ?_
    exact hret _ _ _ _ _ _ (Nat.le_of_ble_eq_true rfl) (Nat.le_of_ble_eq_true rfl) ⟨by simp [qFor, bI, c_9_2], rfl⟩ dX0_isFor_29
  · skip
    refine r_aload_n F 0 rfl dX0_isFor_12 ?_
    refine r_get (C := RX0) (T := TX0) (N := 7) F i h.obj (by omega) hinX0 rfl 2 (by decide) (by decide +kernel) rfl dX0_isFor_13 ?_
    refine r_iload_n F 1 rfl dX0_isFor_16 ?_
    refine r_calli (g_SN (nA := 2) (As := [.ref (g.2.1 (i + 3)), .int (nI b)]) (rest := []) F (c_atB2 h hi hb) gX0_isFor_X3_at_n34 rfl 6 rfl (by decide +kernel) (by decide +kernel) (by decide +kernel) rfl ⟨Nat.le_of_ble_eq_true rfl, Nat.le_of_ble_eq_true rfl⟩ ⟨Nat.le_of_ble_eq_true rfl, Nat.le_of_ble_eq_true rfl⟩ rfl (Nat.le_of_ble_eq_true rfl) dX0_isFor_17) (fun r_3 u_3 hp_3 => ?_)
    obtain ⟨rfl, rfl⟩ := hp_3
    refine r_iload_n F 3 rfl dX0_isFor_20 ?_
    refine r_icmp_ne F 28 (by decide) dX0_isFor_21 (fun c_21_4 => ?_) (fun c_21_4 => ?_)
    · skip
      refine r_iconst (v := 0) F (by decide) dX0_isFor_28 ?_
      exact hret _ _ _ _ _ _ (Nat.le_of_ble_eq_true rfl) (Nat.le_of_ble_eq_true rfl) ⟨by simp [qFor, bI, c_9_2, c_21_4], rfl⟩ dX0_isFor_29
    · skip
      refine r_iconst (v := 1) F (by decide) dX0_isFor_24 ?_
      refine r_goto F 29 (by decide) dX0_isFor_25 ?_
      exact hret _ _ _ _ _ _ (Nat.le_of_ble_eq_true rfl) (Nat.le_of_ble_eq_true rfl) ⟨by simp [qFor, bI, c_9_2, c_21_4], rfl⟩ dX0_isFor_29
set_option maxHeartbeats 4000000 in
set_option maxRecDepth 100000 in
theorem c_X0_isEmpty {g : kG} {l : Launch} {u : Nat → va_E} {i n : Nat} {B : kB} {b : Nat} (h : FmB g u i n B) (hi : i + 7 ≤ kN) (hb : b < n) : CI g l yX0_isEmpty wsX0_isEmpty ({ frames := 1, cells := 0, slots := 0, locals := 21 }) [.ref (g.2.1 i), .int (nI b)] u (fun r u' => r = bI (qEmp B b) ∧ u = u') := by
  refine CI.of (cc := cX0_isEmpty) (nL := 2) (ty := .boolean) (by decide +kernel) rfl (fun v u' h => by obtain ⟨h, -⟩ := h; rw [h]; exact bI_n _) (Nat.le_of_ble_eq_true rfl) ?_
  intro X hXl F hret
  subst hXl
  have hinX0 : ∀ w ∈ wsX00, w ∈ wsX0_isEmpty := by decide +kernel
  show VL g X 0 0 u 0 [(0, .ref (g.2.1 i)), (1, .int (nI b))] []
  refine r_aload_n F 0 rfl dX0_isEmpty_0 ?_
  refine r_get (C := RX0) (T := TX0) (N := 7) F i h.obj (by omega) hinX0 rfl 0 (by decide) (by decide +kernel) rfl dX0_isEmpty_1 ?_
  refine r_iload_n F 1 rfl dX0_isEmpty_4 ?_
  refine r_calli (g_SN (nA := 2) (As := [.ref (g.2.1 (i + 1)), .int (nI b)]) (rest := []) F (c_atB0 h hi hb) gX0_isEmpty_X3_at_n34 rfl 6 rfl (by decide +kernel) (by decide +kernel) (by decide +kernel) rfl ⟨Nat.le_of_ble_eq_true rfl, Nat.le_of_ble_eq_true rfl⟩ ⟨Nat.le_of_ble_eq_true rfl, Nat.le_of_ble_eq_true rfl⟩ rfl (Nat.le_of_ble_eq_true rfl) dX0_isEmpty_5) (fun r_1 u_1 hp_1 => ?_)
  obtain ⟨rfl, rfl⟩ := hp_1
  refine r_iconst (v := 3) F (by decide) dX0_isEmpty_8 ?_
  refine r_icmp_eq F 28 (by decide) dX0_isEmpty_9 (fun c_9_2 => ?_) (fun c_9_2 => ?_)
  · skip
    refine r_iconst (v := 0) F (by decide) dX0_isEmpty_28 ?_
    exact hret _ _ _ _ _ _ (Nat.le_of_ble_eq_true rfl) (Nat.le_of_ble_eq_true rfl) ⟨by simp [qEmp, bI, c_9_2], rfl⟩ dX0_isEmpty_29
  · skip
    refine r_aload_n F 0 rfl dX0_isEmpty_12 ?_
    refine r_get (C := RX0) (T := TX0) (N := 7) F i h.obj (by omega) hinX0 rfl 4 (by decide) (by decide +kernel) rfl dX0_isEmpty_13 ?_
    refine r_iload_n F 1 rfl dX0_isEmpty_16 ?_
    refine r_calli (g_SN (nA := 2) (As := [.ref (g.2.1 (i + 5)), .int (nI b)]) (rest := []) F (c_atB4 h hi hb) gX0_isEmpty_X3_at_n34 rfl 6 rfl (by decide +kernel) (by decide +kernel) (by decide +kernel) rfl ⟨Nat.le_of_ble_eq_true rfl, Nat.le_of_ble_eq_true rfl⟩ ⟨Nat.le_of_ble_eq_true rfl, Nat.le_of_ble_eq_true rfl⟩ rfl (Nat.le_of_ble_eq_true rfl) dX0_isEmpty_17) (fun r_3 u_3 hp_3 => ?_)
    obtain ⟨rfl, rfl⟩ := hp_3
    refine r_iconst (v := -1) F (by decide) dX0_isEmpty_20 ?_
    refine r_icmp_ne F 28 (by decide) dX0_isEmpty_21 (fun c_21_4 => ?_) (fun c_21_4 => ?_)
    · skip
      refine r_iconst (v := 0) F (by decide) dX0_isEmpty_28 ?_
      exact hret _ _ _ _ _ _ (Nat.le_of_ble_eq_true rfl) (Nat.le_of_ble_eq_true rfl) ⟨by simp [qEmp, bI, c_9_2, c_21_4], rfl⟩ dX0_isEmpty_29
    · skip
      refine r_iconst (v := 1) F (by decide) dX0_isEmpty_24 ?_
      refine r_goto F 29 (by decide) dX0_isEmpty_25 ?_
      exact hret _ _ _ _ _ _ (Nat.le_of_ble_eq_true rfl) (Nat.le_of_ble_eq_true rfl) ⟨by simp [qEmp, bI, c_9_2, c_21_4], rfl⟩ dX0_isEmpty_29
set_option maxHeartbeats 4000000 in
set_option maxRecDepth 100000 in
theorem c_X0_isOpen {g : kG} {l : Launch} {u : Nat → va_E} {i n : Nat} {B : kB} {b : Nat} {mask : Int32} (h : FmB g u i n B) (hi : i + 7 ≤ kN) (hb : b < n) : CI g l yX0_isOpen wsX0_isOpen ({ frames := 1, cells := 0, slots := 0, locals := 21 }) [.ref (g.2.1 i), .int (nI b), .int mask] u (fun r u' => r = bI (qOpn B mask b) ∧ u = u') := by
  refine CI.of (cc := cX0_isOpen) (nL := 3) (ty := .boolean) (by decide +kernel) rfl (fun v u' h => by obtain ⟨h, -⟩ := h; rw [h]; exact bI_n _) (Nat.le_of_ble_eq_true rfl) ?_
  intro X hXl F hret
  subst hXl
  have hinX0 : ∀ w ∈ wsX00, w ∈ wsX0_isOpen := by decide +kernel
  show VL g X 0 0 u 0 [(0, .ref (g.2.1 i)), (1, .int (nI b)), (2, .int mask)] []
  refine r_aload_n F 0 rfl dX0_isOpen_0 ?_
  refine r_get (C := RX0) (T := TX0) (N := 7) F i h.obj (by omega) hinX0 rfl 1 (by decide) (by decide +kernel) rfl dX0_isOpen_1 ?_
  refine r_iload_n F 1 rfl dX0_isOpen_4 ?_
  refine r_calli (g_SN (nA := 2) (As := [.ref (g.2.1 (i + 2)), .int (nI b)]) (rest := []) F (c_atB1 h hi hb) gX0_isOpen_X3_at_n34 rfl 6 rfl (by decide +kernel) (by decide +kernel) (by decide +kernel) rfl ⟨Nat.le_of_ble_eq_true rfl, Nat.le_of_ble_eq_true rfl⟩ ⟨Nat.le_of_ble_eq_true rfl, Nat.le_of_ble_eq_true rfl⟩ rfl (Nat.le_of_ble_eq_true rfl) dX0_isOpen_5) (fun r_1 u_1 hp_1 => ?_)
  obtain ⟨rfl, rfl⟩ := hp_1
  refine r_iload_n F 2 rfl dX0_isOpen_8 ?_
  refine r_calli (g_SN (nA := 2) (As := [.int (B b 1), .int mask]) (rest := []) F (c_X3_isInMask) gX0_isOpen_X3_isInMask_n70 rfl 17 rfl (by decide +kernel) (by decide +kernel) (by decide +kernel) rfl ⟨Nat.le_of_ble_eq_true rfl, Nat.le_of_ble_eq_true rfl⟩ ⟨Nat.le_of_ble_eq_true rfl, Nat.le_of_ble_eq_true rfl⟩ rfl (Nat.le_of_ble_eq_true rfl) dX0_isOpen_9) (fun r_2 u_2 hp_2 => ?_)
  obtain ⟨rfl, rfl⟩ := hp_2
  exact hret _ _ _ _ _ _ (Nat.le_of_ble_eq_true rfl) (Nat.le_of_ble_eq_true rfl) ⟨by simp [qOpn], rfl⟩ dX0_isOpen_12
set_option maxHeartbeats 4000000 in
set_option maxRecDepth 100000 in
theorem c_X0_wants {g : kG} {l : Launch} {u : Nat → va_E} {i n : Nat} {B : kB} {b : Nat} {mask : Int32} (h : FmB g u i n B) (hi : i + 7 ≤ kN) (hb : b < n) : CI g l yX0_wants wsX0_wants ({ frames := 2, cells := 0, slots := 0, locals := 43 }) [.ref (g.2.1 i), .int (nI b), .int mask] u (fun r u' => r = bI (qWts B mask b) ∧ u = u') := by
  refine CI.of (cc := cX0_wants) (nL := 3) (ty := .boolean) (by decide +kernel) rfl (fun v u' h => by obtain ⟨h, -⟩ := h; rw [h]; exact bI_n _) (Nat.le_of_ble_eq_true rfl) ?_
  intro X hXl F hret
  subst hXl
  show VL g X 0 0 u 0 [(0, .ref (g.2.1 i)), (1, .int (nI b)), (2, .int mask)] []
  refine r_aload_n F 0 rfl dX0_wants_0 ?_
  refine r_iload_n F 1 rfl dX0_wants_1 ?_
  refine r_iload_n F 2 rfl dX0_wants_2 ?_
  refine r_calli (g_V (C := RX0) (T := TX0) (N := 7) (nA := 2) (As := [.int (nI b), .int mask]) (rest := []) F i h.obj (by omega) rfl (c_X0_isOpen h hi hb) gX0_wants_X0_isOpen rfl (by decide +kernel) rfl ⟨Nat.le_of_ble_eq_true rfl, Nat.le_of_ble_eq_true rfl⟩ ⟨Nat.le_of_ble_eq_true rfl, Nat.le_of_ble_eq_true rfl⟩ rfl (Nat.le_of_ble_eq_true rfl) dX0_wants_3) (fun r_1 u_1 hp_1 => ?_)
  obtain ⟨rfl, rfl⟩ := hp_1
  refine r_if_eq F 21 (by decide) dX0_wants_6 (fun c_6_2 => ?_) (fun c_6_2 => ?_)
  · skip
    replace c_6_2 := bI0 c_6_2
    refine r_iconst (v := 0) F (by decide) dX0_wants_21 ?_
    exact hret _ _ _ _ _ _ (Nat.le_of_ble_eq_true rfl) (Nat.le_of_ble_eq_true rfl) ⟨by simp [qWts, bI, c_6_2], rfl⟩ dX0_wants_22
  · skip
    replace c_6_2 := bI1 c_6_2
    refine r_aload_n F 0 rfl dX0_wants_9 ?_
    refine r_iload_n F 1 rfl dX0_wants_10 ?_
    refine r_calli (g_V (C := RX0) (T := TX0) (N := 7) (nA := 1) (As := [.int (nI b)]) (rest := []) F i h.obj (by omega) rfl (c_X0_isEmpty h hi hb) gX0_wants_X0_isEmpty rfl (by decide +kernel) rfl ⟨Nat.le_of_ble_eq_true rfl, Nat.le_of_ble_eq_true rfl⟩ ⟨Nat.le_of_ble_eq_true rfl, Nat.le_of_ble_eq_true rfl⟩ rfl (Nat.le_of_ble_eq_true rfl) dX0_wants_11) (fun r_3 u_3 hp_3 => ?_)
    obtain ⟨rfl, rfl⟩ := hp_3
    refine r_if_eq F 21 (by decide) dX0_wants_14 (fun c_14_4 => ?_) (fun c_14_4 => ?_)
    · skip
      replace c_14_4 := bI0 c_14_4
      refine r_iconst (v := 0) F (by decide) dX0_wants_21 ?_
      exact hret _ _ _ _ _ _ (Nat.le_of_ble_eq_true rfl) (Nat.le_of_ble_eq_true rfl) ⟨by simp [qWts, bI, c_6_2, c_14_4], rfl⟩ dX0_wants_22
    · skip
      replace c_14_4 := bI1 c_14_4
      refine r_iconst (v := 1) F (by decide) dX0_wants_17 ?_
      refine r_goto F 22 (by decide) dX0_wants_18 ?_
      exact hret _ _ _ _ _ _ (Nat.le_of_ble_eq_true rfl) (Nat.le_of_ble_eq_true rfl) ⟨by simp [qWts, bI, c_6_2, c_14_4], rfl⟩ dX0_wants_22
set_option maxHeartbeats 4000000 in
set_option maxRecDepth 100000 in
theorem c_X0_boxesFor {g : kG} {l : Launch} {u : Nat → va_E} {i n : Nat} {B : kB} {kd p : Int32} (h : FmB g u i n B) (hi : i + 7 ≤ kN)  : CI g l yX0_boxesFor wsX0_boxesFor ({ frames := 2, cells := 0, slots := 0, locals := 44 }) [.ref (g.2.1 i), .int kd, .int p] u (fun r u' => r = cntN n (qFor B kd p) ∧ u = u') := by
  refine CI.of (cc := cX0_boxesFor) (nL := 5) (ty := .int) (by decide +kernel) rfl (fun _ _ _ => rfl) (Nat.le_of_ble_eq_true rfl) ?_
  intro X hXl F hret
  subst hXl
  have hinX0 : ∀ w ∈ wsX00, w ∈ wsX0_boxesFor := by decide +kernel
  show VL g X 0 0 u 0 [(0, .ref (g.2.1 i)), (1, .int kd), (2, .int p)] []
  refine r_iconst (v := 0) F (by decide) dX0_boxesFor_0 ?_
  refine r_istore_n (lv' := [(0, .ref (g.2.1 i)), (1, .int kd), (2, .int p), (3, .int 0)]) F (by decide) rfl dX0_boxesFor_1 ?_
  refine r_iconst (v := 0) F (by decide) dX0_boxesFor_2 ?_
  refine r_istore (lv' := [(0, .ref (g.2.1 i)), (1, .int kd), (2, .int p), (3, .int 0), (4, .int 0)]) F (by decide) rfl dX0_boxesFor_3 ?_
  have loop_5 : ∀ (k : Nat) (j : Nat) (x3_5 : Int32) (x4_5 : Int32), j + k = n → x3_5 = cntN j (qFor B kd p) → x4_5 = nI j → VL g X 0 0 u 5 [(0, .ref (g.2.1 i)), (1, .int kd), (2, .int p), (3, .int x3_5), (4, .int x4_5)] [] := by
    intro k
    induction k with
    | zero =>
      rintro j x3_5 x4_5 hk rfl rfl
      have hjn : n = j := by omega
      subst hjn
      refine r_iload F 4 rfl dX0_boxesFor_5 ?_
      refine r_aload_n F 0 rfl dX0_boxesFor_7 ?_
      refine r_get (C := RX0) (T := TX0) (N := 7) F i h.obj (by omega) hinX0 rfl 6 (by decide) (by decide +kernel) rfl dX0_boxesFor_8 ?_
      refine r_icmp_ge F 34 (by decide) dX0_boxesFor_11 (fun c_11_2 => ?_) (fun c_11_2 => absurd (Int32.le_refl _) c_11_2)
      clear c_11_2
      refine r_iload_n F 3 rfl dX0_boxesFor_34 ?_
      exact hret _ _ _ _ _ _ (Nat.le_of_ble_eq_true rfl) (Nat.le_of_ble_eq_true rfl) ⟨by simp [], rfl⟩ dX0_boxesFor_35
    | succ k ih_5 =>
      rintro j x3_5 x4_5 hk rfl rfl
      have hb : j < n := by omega
      refine r_iload F 4 rfl dX0_boxesFor_5 ?_
      refine r_aload_n F 0 rfl dX0_boxesFor_7 ?_
      refine r_get (C := RX0) (T := TX0) (N := 7) F i h.obj (by omega) hinX0 rfl 6 (by decide) (by decide +kernel) rfl dX0_boxesFor_8 ?_
      refine r_icmp_ge F 34 (by decide) dX0_boxesFor_11 (fun c_11_3 => absurd c_11_3 (nI_ge (b := n) hb (by have := h.le; omega))) (fun c_11_3 => ?_)
      clear c_11_3
      refine r_aload_n F 0 rfl dX0_boxesFor_14 ?_
      refine r_iload F 4 rfl dX0_boxesFor_15 ?_
      refine r_iload_n F 1 rfl dX0_boxesFor_17 ?_
      refine r_iload_n F 2 rfl dX0_boxesFor_18 ?_
      refine r_calli (g_V (C := RX0) (T := TX0) (N := 7) (nA := 3) (As := [.int (nI j), .int kd, .int p]) (rest := []) F i h.obj (by omega) rfl (c_X0_isFor h hi hb) gX0_boxesFor_X0_isFor rfl (by decide +kernel) rfl ⟨Nat.le_of_ble_eq_true rfl, Nat.le_of_ble_eq_true rfl⟩ ⟨Nat.le_of_ble_eq_true rfl, Nat.le_of_ble_eq_true rfl⟩ rfl (Nat.le_of_ble_eq_true rfl) dX0_boxesFor_19) (fun r_4 u_4 hp_4 => ?_)
      obtain ⟨rfl, rfl⟩ := hp_4
      refine r_if_eq F 28 (by decide) dX0_boxesFor_22 (fun c_22_5 => ?_) (fun c_22_5 => ?_)
      · skip
        replace c_22_5 := bI0 c_22_5
        refine r_iinc (lv' := [(0, .ref (g.2.1 i)), (1, .int kd), (2, .int p), (3, .int (cntN j (qFor B kd p))), (4, .int (nI (j + 1)))]) F 4 rfl (nI_inc _) (by decide) rfl dX0_boxesFor_28 ?_
        refine r_goto F 5 (by decide) dX0_boxesFor_31 ?_
        exact ih_5 (j + 1) _ _ (by omega)  (by simp [cntN, bI, c_22_5]) rfl
      · skip
        replace c_22_5 := bI1 c_22_5
        refine r_iinc (lv' := [(0, .ref (g.2.1 i)), (1, .int kd), (2, .int p), (3, .int ((cntN j (qFor B kd p)) + 1)), (4, .int (nI j))]) F 3 rfl rfl (by decide) rfl dX0_boxesFor_25 ?_
        refine r_iinc (lv' := [(0, .ref (g.2.1 i)), (1, .int kd), (2, .int p), (3, .int ((cntN j (qFor B kd p)) + 1)), (4, .int (nI (j + 1)))]) F 4 rfl (nI_inc _) (by decide) rfl dX0_boxesFor_28 ?_
        refine r_goto F 5 (by decide) dX0_boxesFor_31 ?_
        exact ih_5 (j + 1) _ _ (by omega)  (by simp [cntN, bI, c_22_5]) rfl
  exact loop_5 n 0 _ _ (by omega)  rfl rfl
set_option maxHeartbeats 4000000 in
set_option maxRecDepth 100000 in
theorem c_X0_boxesIn {g : kG} {l : Launch} {u : Nat → va_E} {i n : Nat} {B : kB} {p : Int32} (h : FmB g u i n B) (hi : i + 7 ≤ kN)  : CI g l yX0_boxesIn wsX0_boxesIn ({ frames := 1, cells := 0, slots := 0, locals := 21 }) [.ref (g.2.1 i), .int p] u (fun r u' => r = cntN n (fun b => decide (B b 1 = p)) ∧ u = u') := by
  refine CI.of (cc := cX0_boxesIn) (nL := 4) (ty := .int) (by decide +kernel) rfl (fun _ _ _ => rfl) (Nat.le_of_ble_eq_true rfl) ?_
  intro X hXl F hret
  subst hXl
  have hinX0 : ∀ w ∈ wsX00, w ∈ wsX0_boxesIn := by decide +kernel
  show VL g X 0 0 u 0 [(0, .ref (g.2.1 i)), (1, .int p)] []
  refine r_iconst (v := 0) F (by decide) dX0_boxesIn_0 ?_
  refine r_istore_n (lv' := [(0, .ref (g.2.1 i)), (1, .int p), (2, .int 0)]) F (by decide) rfl dX0_boxesIn_1 ?_
  refine r_iconst (v := 0) F (by decide) dX0_boxesIn_2 ?_
  refine r_istore_n (lv' := [(0, .ref (g.2.1 i)), (1, .int p), (2, .int 0), (3, .int 0)]) F (by decide) rfl dX0_boxesIn_3 ?_
  have loop_4 : ∀ (k : Nat) (j : Nat) (x2_4 : Int32) (x3_4 : Int32), j + k = n → x2_4 = cntN j (fun b => decide (B b 1 = p)) → x3_4 = nI j → VL g X 0 0 u 4 [(0, .ref (g.2.1 i)), (1, .int p), (2, .int x2_4), (3, .int x3_4)] [] := by
    intro k
    induction k with
    | zero =>
      rintro j x2_4 x3_4 hk rfl rfl
      have hjn : n = j := by omega
      subst hjn
      refine r_iload_n F 3 rfl dX0_boxesIn_4 ?_
      refine r_aload_n F 0 rfl dX0_boxesIn_5 ?_
      refine r_get (C := RX0) (T := TX0) (N := 7) F i h.obj (by omega) hinX0 rfl 6 (by decide) (by decide +kernel) rfl dX0_boxesIn_6 ?_
      refine r_icmp_ge F 33 (by decide) dX0_boxesIn_9 (fun c_9_2 => ?_) (fun c_9_2 => absurd (Int32.le_refl _) c_9_2)
      clear c_9_2
      refine r_iload_n F 2 rfl dX0_boxesIn_33 ?_
      exact hret _ _ _ _ _ _ (Nat.le_of_ble_eq_true rfl) (Nat.le_of_ble_eq_true rfl) ⟨by simp [], rfl⟩ dX0_boxesIn_34
    | succ k ih_4 =>
      rintro j x2_4 x3_4 hk rfl rfl
      have hb : j < n := by omega
      refine r_iload_n F 3 rfl dX0_boxesIn_4 ?_
      refine r_aload_n F 0 rfl dX0_boxesIn_5 ?_
      refine r_get (C := RX0) (T := TX0) (N := 7) F i h.obj (by omega) hinX0 rfl 6 (by decide) (by decide +kernel) rfl dX0_boxesIn_6 ?_
      refine r_icmp_ge F 33 (by decide) dX0_boxesIn_9 (fun c_9_3 => absurd c_9_3 (nI_ge (b := n) hb (by have := h.le; omega))) (fun c_9_3 => ?_)
      clear c_9_3
      refine r_aload_n F 0 rfl dX0_boxesIn_12 ?_
      refine r_get (C := RX0) (T := TX0) (N := 7) F i h.obj (by omega) hinX0 rfl 1 (by decide) (by decide +kernel) rfl dX0_boxesIn_13 ?_
      refine r_iload_n F 3 rfl dX0_boxesIn_16 ?_
      refine r_calli (g_SN (nA := 2) (As := [.ref (g.2.1 (i + 2)), .int (nI j)]) (rest := []) F (c_atB1 h hi hb) gX0_boxesIn_X3_at_n34 rfl 6 rfl (by decide +kernel) (by decide +kernel) (by decide +kernel) rfl ⟨Nat.le_of_ble_eq_true rfl, Nat.le_of_ble_eq_true rfl⟩ ⟨Nat.le_of_ble_eq_true rfl, Nat.le_of_ble_eq_true rfl⟩ rfl (Nat.le_of_ble_eq_true rfl) dX0_boxesIn_17) (fun r_4 u_4 hp_4 => ?_)
      obtain ⟨rfl, rfl⟩ := hp_4
      refine r_iload_n F 1 rfl dX0_boxesIn_20 ?_
      refine r_icmp_ne F 27 (by decide) dX0_boxesIn_21 (fun c_21_5 => ?_) (fun c_21_5 => ?_)
      · skip
        refine r_iinc (lv' := [(0, .ref (g.2.1 i)), (1, .int p), (2, .int (cntN j (fun b => decide (B b 1 = p)))), (3, .int (nI (j + 1)))]) F 3 rfl (nI_inc _) (by decide) rfl dX0_boxesIn_27 ?_
        refine r_goto F 4 (by decide) dX0_boxesIn_30 ?_
        exact ih_4 (j + 1) _ _ (by omega)  (by simp [cntN, bI, c_21_5]) rfl
      · skip
        refine r_iinc (lv' := [(0, .ref (g.2.1 i)), (1, .int p), (2, .int ((cntN j (fun b => decide (B b 1 = p))) + 1)), (3, .int (nI j))]) F 2 rfl rfl (by decide) rfl dX0_boxesIn_24 ?_
        refine r_iinc (lv' := [(0, .ref (g.2.1 i)), (1, .int p), (2, .int ((cntN j (fun b => decide (B b 1 = p))) + 1)), (3, .int (nI (j + 1)))]) F 3 rfl (nI_inc _) (by decide) rfl dX0_boxesIn_27 ?_
        refine r_goto F 4 (by decide) dX0_boxesIn_30 ?_
        exact ih_4 (j + 1) _ _ (by omega)  (by simp [cntN, bI, c_21_5]) rfl
  exact loop_4 n 0 _ _ (by omega)  rfl rfl
set_option maxHeartbeats 4000000 in
set_option maxRecDepth 100000 in
theorem c_X0_wanting {g : kG} {l : Launch} {u : Nat → va_E} {i n : Nat} {B : kB} {mask : Int32} (h : FmB g u i n B) (hi : i + 7 ≤ kN)  : CI g l yX0_wanting wsX0_wanting ({ frames := 3, cells := 0, slots := 0, locals := 65 }) [.ref (g.2.1 i), .int mask] u (fun r u' => r = cntN n (qWts B mask) ∧ u = u') := by
  refine CI.of (cc := cX0_wanting) (nL := 4) (ty := .int) (by decide +kernel) rfl (fun _ _ _ => rfl) (Nat.le_of_ble_eq_true rfl) ?_
  intro X hXl F hret
  subst hXl
  have hinX0 : ∀ w ∈ wsX00, w ∈ wsX0_wanting := by decide +kernel
  show VL g X 0 0 u 0 [(0, .ref (g.2.1 i)), (1, .int mask)] []
  refine r_iconst (v := 0) F (by decide) dX0_wanting_0 ?_
  refine r_istore_n (lv' := [(0, .ref (g.2.1 i)), (1, .int mask), (2, .int 0)]) F (by decide) rfl dX0_wanting_1 ?_
  refine r_iconst (v := 0) F (by decide) dX0_wanting_2 ?_
  refine r_istore_n (lv' := [(0, .ref (g.2.1 i)), (1, .int mask), (2, .int 0), (3, .int 0)]) F (by decide) rfl dX0_wanting_3 ?_
  have loop_4 : ∀ (k : Nat) (j : Nat) (x2_4 : Int32) (x3_4 : Int32), j + k = n → x2_4 = cntN j (qWts B mask) → x3_4 = nI j → VL g X 0 0 u 4 [(0, .ref (g.2.1 i)), (1, .int mask), (2, .int x2_4), (3, .int x3_4)] [] := by
    intro k
    induction k with
    | zero =>
      rintro j x2_4 x3_4 hk rfl rfl
      have hjn : n = j := by omega
      subst hjn
      refine r_iload_n F 3 rfl dX0_wanting_4 ?_
      refine r_aload_n F 0 rfl dX0_wanting_5 ?_
      refine r_get (C := RX0) (T := TX0) (N := 7) F i h.obj (by omega) hinX0 rfl 6 (by decide) (by decide +kernel) rfl dX0_wanting_6 ?_
      refine r_icmp_ge F 30 (by decide) dX0_wanting_9 (fun c_9_2 => ?_) (fun c_9_2 => absurd (Int32.le_refl _) c_9_2)
      clear c_9_2
      refine r_iload_n F 2 rfl dX0_wanting_30 ?_
      exact hret _ _ _ _ _ _ (Nat.le_of_ble_eq_true rfl) (Nat.le_of_ble_eq_true rfl) ⟨by simp [], rfl⟩ dX0_wanting_31
    | succ k ih_4 =>
      rintro j x2_4 x3_4 hk rfl rfl
      have hb : j < n := by omega
      refine r_iload_n F 3 rfl dX0_wanting_4 ?_
      refine r_aload_n F 0 rfl dX0_wanting_5 ?_
      refine r_get (C := RX0) (T := TX0) (N := 7) F i h.obj (by omega) hinX0 rfl 6 (by decide) (by decide +kernel) rfl dX0_wanting_6 ?_
      refine r_icmp_ge F 30 (by decide) dX0_wanting_9 (fun c_9_3 => absurd c_9_3 (nI_ge (b := n) hb (by have := h.le; omega))) (fun c_9_3 => ?_)
      clear c_9_3
      refine r_aload_n F 0 rfl dX0_wanting_12 ?_
      refine r_iload_n F 3 rfl dX0_wanting_13 ?_
      refine r_iload_n F 1 rfl dX0_wanting_14 ?_
      refine r_calli (g_V (C := RX0) (T := TX0) (N := 7) (nA := 2) (As := [.int (nI j), .int mask]) (rest := []) F i h.obj (by omega) rfl (c_X0_wants h hi hb) gX0_wanting_X0_wants rfl (by decide +kernel) rfl ⟨Nat.le_of_ble_eq_true rfl, Nat.le_of_ble_eq_true rfl⟩ ⟨Nat.le_of_ble_eq_true rfl, Nat.le_of_ble_eq_true rfl⟩ rfl (Nat.le_of_ble_eq_true rfl) dX0_wanting_15) (fun r_4 u_4 hp_4 => ?_)
      obtain ⟨rfl, rfl⟩ := hp_4
      refine r_if_eq F 24 (by decide) dX0_wanting_18 (fun c_18_5 => ?_) (fun c_18_5 => ?_)
      · skip
        replace c_18_5 := bI0 c_18_5
        refine r_iinc (lv' := [(0, .ref (g.2.1 i)), (1, .int mask), (2, .int (cntN j (qWts B mask))), (3, .int (nI (j + 1)))]) F 3 rfl (nI_inc _) (by decide) rfl dX0_wanting_24 ?_
        refine r_goto F 4 (by decide) dX0_wanting_27 ?_
        exact ih_4 (j + 1) _ _ (by omega)  (by simp [cntN, bI, c_18_5]) rfl
      · skip
        replace c_18_5 := bI1 c_18_5
        refine r_iinc (lv' := [(0, .ref (g.2.1 i)), (1, .int mask), (2, .int ((cntN j (qWts B mask)) + 1)), (3, .int (nI j))]) F 2 rfl rfl (by decide) rfl dX0_wanting_21 ?_
        refine r_iinc (lv' := [(0, .ref (g.2.1 i)), (1, .int mask), (2, .int ((cntN j (qWts B mask)) + 1)), (3, .int (nI (j + 1)))]) F 3 rfl (nI_inc _) (by decide) rfl dX0_wanting_24 ?_
        refine r_goto F 4 (by decide) dX0_wanting_27 ?_
        exact ih_4 (j + 1) _ _ (by omega)  (by simp [cntN, bI, c_18_5]) rfl
  exact loop_4 n 0 _ _ (by omega)  rfl rfl

/-! PURE WORDS for the law's rows -/
/-- the boxes in the law's rows -/
def LR (n : Nat) (B : kB) (K P M L A : Nat → Int32) : Prop := ∀ b, b < n → K b = B b 0 ∧ P b = B b 1 ∧ M b = B b 2 ∧ (B b 0 = 2 → L b = B b 3) ∧ A b = B b 4
/-- answers are -1 or no less than 0 -/
def gA (n : Nat) (B : kB) : Prop := ∀ b, b < n → B b 4 = -1 ∨ ¬ B b 4 < 0
theorem an_lt {x : Int32} (h : x = -1 ∨ ¬ x < 0) (c : x < 0) : x = -1 := h.resolve_right (fun q => q c)
theorem an_nlt {x : Int32} (c : ¬ x < 0) : ¬ x = -1 := fun e => c (by rw [e]; decide)
theorem an_ge {x : Int32} (c : 0 ≤ x) : ¬ x = -1 := fun e => absurd c (by rw [e]; decide)
theorem an_nge {x : Int32} (h : x = -1 ∨ ¬ x < 0) (c : ¬ 0 ≤ x) : x = -1 := an_lt h (Int32.not_le.mp c)
theorem an_le {x : Int32} (h : x = -1 ∨ ¬ x < 0) (c : x ≤ 0) : x = -1 ∨ x = 0 := by
  rcases h with h | h
  · exact Or.inl h
  · exact Or.inr (Int32.le_antisymm c (Int32.not_lt.mp h))
theorem an_nle {x : Int32} (c : ¬ x ≤ 0) : ¬ x = -1 := fun e => c (by rw [e]; decide)
theorem kd_ge {x : Int32} (h : x = 0 ∨ x = 1 ∨ x = 2 ∨ x = 3) (c : 3 ≤ x) : x = 3 := by
  rcases h with rfl | rfl | rfl | rfl
  · exact absurd c (by decide)
  · exact absurd c (by decide)
  · exact absurd c (by decide)
  · rfl
theorem kd_nge {x : Int32} (c : ¬ 3 ≤ x) : ¬ x = 3 := fun e => c (by rw [e]; decide)
theorem kd_2 {x : Int32} (h : x = 0 ∨ x = 1 ∨ x = 2 ∨ x = 3) (h0 : ¬ x = 0) (h1 : ¬ x = 1) (h3 : ¬ x = 3) : x = 2 := by
  rcases h with h | h | h | h
  · exact absurd h h0
  · exact absurd h h1
  · exact h
  · exact absurd h h3
theorem pwT_N {t : Nat} (ht : t ≤ 5) : pwT t = nI (10 ^ t) := by
  rcases (by omega : t = 0 ∨ t = 1 ∨ t = 2 ∨ t = 3 ∨ t = 4 ∨ t = 5) with rfl | rfl | rfl | rfl | rfl | rfl <;> decide
theorem topT_N {t : Nat} (ht : t ≤ 5) : topT t = nI (10 ^ t - 1) := by
  rcases (by omega : t = 0 ∨ t = 1 ∨ t = 2 ∨ t = 3 ∨ t = 4 ∨ t = 5) with rfl | rfl | rfl | rfl | rfl | rfl <;> decide
theorem pw_lt {t : Nat} (ht : t ≤ 5) : 0 < 10 ^ t ∧ 10 ^ t < 2 ^ 31 := by
  rcases (by omega : t = 0 ∨ t = 1 ∨ t = 2 ∨ t = 3 ∨ t = 4 ∨ t = 5) with rfl | rfl | rfl | rfl | rfl | rfl <;> decide
theorem wi_nI {j m : Nat} (hj : j ≤ m) (hm : m < 2 ^ 31) : wi (nI j) 0 (nI m) = true := by
  rw [wi, decide_eq_false (nI_pos (by omega)), decide_eq_false (nI_nlt hj hm)]; rfl
theorem fit_m {B : kB} {b : Nat} : fitA B b (-1) = true := by simp [fitA]
theorem fit_w {B : kB} {b : Nat} {x : Int32} (h : wi x 0 (topA B b) = true) : fitA B b x = true := by rw [fitA, h, Bool.or_true]
theorem fit_0 {B : kB} {b t j : Nat} (h0 : B b 0 = 0) (e : B b 2 = nI t) (ht : t ≤ 5) (hj : j < 10 ^ t) : fitA B b (nI j) = true := by
  have z := pw_lt ht
  refine fit_w ?_
  rw [topA, if_pos h0, e, nI_clamp (by omega), topT_N ht]
  exact wi_nI (by omega) (by omega)
theorem fit_1 {B : kB} {b j : Nat} (h0 : B b 0 = 1) (hj : j < 2) : fitA B b (nI j) = true := by
  refine fit_w ?_
  rw [topA, if_neg (by rw [h0]; decide), if_pos h0]
  exact wi_nI (m := 1) (by omega) (by decide)
theorem fit_2 {B : kB} {b j : Nat} (h0 : B b 0 = 2) (hj : j < 100) : fitA B b (nI j) = true := by
  refine fit_w ?_
  rw [topA, if_neg (by rw [h0]; decide), if_neg (by rw [h0]; decide), if_pos h0]
  exact wi_nI (m := 99) (by omega) (by decide)
theorem min_ge {x : Int32} (c : 999999 ≤ x) : (999999 : Int32) = minI x 999999 := by
  unfold minI
  split
  · rfl
  · rename_i h
    exact Int32.le_antisymm c (Int32.not_lt.mp h)
theorem min_nge {x : Int32} (c : ¬ 999999 ≤ x) : x = minI x 999999 := by
  unfold minI
  rw [if_neg (fun h => c (Int32.le_of_lt h))]
theorem bI_mul (a b : Bool) (v : Int32) : bI a * bI b * v = if a && b then v else 0 := by
  cases a <;> cases b <;> simp [bI]
theorem bI_mul2 (a b : Bool) : bI a * bI b = bI (a && b) := by
  cases a <;> cases b <;> decide
theorem sum_s {B : kB} {V : Nat → Int32} {t c : Nat} {mask : Int32} : sumN B V t mask c + (B t 2 >>> (nI c &&& 31) &&& 1) * (mask >>> (B c 1 &&& 31) &&& 1) * V c = sumN B V t mask (c + 1) := by
  rw [tld_i, tld_i, bI_mul, sumN, qOpn]
  cases tld (B t 2) (nI c) <;> cases tld mask (B c 1) <;> simp
/-- a total's sum; 0 of another box -/
def tsm (B : kB) (V : Nat → Int32) (mask : Int32) (t : Nat) : Int32 := if B t 0 = 3 then sumN B V t mask t else 0
theorem tsm_z {B : kB} {V : Nat → Int32} {mask : Int32} {t : Nat} (h : B t 0 = 3 ∨ t = 0) : sumN B V t mask t = tsm B V mask t := by
  unfold tsm
  rcases h with h | h
  · rw [if_pos h]
  · subst h; split <;> rfl
theorem tsm_n {B : kB} {V : Nat → Int32} {mask : Int32} {t c : Nat} (h : B t 0 = 3 ∨ c = 0) (h3 : ¬ B t 0 = 3) : sumN B V t mask c = tsm B V mask t := by
  unfold tsm
  rw [if_neg h3, h.resolve_left h3]; rfl
def vlE (B : kB) (mask : Int32) (j : Nat) : Int32 := if B j 0 = 3 then minI (sumN B (valM B mask (fun _ => 0) j) j mask j) 999999 else ownM B j
theorem vlE_s {B : kB} {mask : Int32} {j : Nat} (hj : j < 2 ^ 31) : upd (valM B mask (fun _ => 0) j) (nI j).toNatClampNeg (vlE B mask j) = valM B mask (fun _ => 0) (j + 1) := by
  rw [nI_clamp hj]; rfl
theorem vlE_t1 {B : kB} {mask : Int32} {j : Nat} (h3 : B j 0 = 3) (c : 999999 ≤ tsm B (valM B mask (fun _ => 0) j) mask j) : (999999 : Int32) = vlE B mask j := by
  unfold tsm at c
  rw [if_pos h3] at c
  rw [vlE, if_pos h3]; exact min_ge c
theorem vlE_t2 {B : kB} {mask : Int32} {j : Nat} (h3 : B j 0 = 3) (c : ¬ 999999 ≤ tsm B (valM B mask (fun _ => 0) j) mask j) : tsm B (valM B mask (fun _ => 0) j) mask j = vlE B mask j := by
  unfold tsm at c ⊢
  rw [if_pos h3] at c ⊢
  rw [vlE, if_pos h3]; exact min_nge c
theorem vlE_0 {B : kB} {mask : Int32} {j : Nat} (h3 : ¬ B j 0 = 3) (h : ¬ B j 0 = 0 ∨ B j 4 = -1 ∨ B j 4 = 0) : (0 : Int32) = vlE B mask j := by
  rw [vlE, if_neg h3, ownM]
  rcases h with h | h | h
  · rw [if_neg h]
  · rw [h]; split <;> rfl
  · rw [h]; split <;> rfl
theorem vlE_a {B : kB} {mask : Int32} {j : Nat} (h3 : ¬ B j 0 = 3) (h0 : B j 0 = 0) (h : ¬ B j 4 = -1) : B j 4 = vlE B mask j := by
  rw [vlE, if_neg h3, ownM, if_pos h0, if_neg h]
/-! the carriers of a box, counted by sums of products -/
def byK (on m : Int32) (b : Nat) : Nat → Nat
  | 0 => 0
  | d + 1 => byK on m b d + (if tld on (nI (b + d)) && tld m (nI (b + d)) then 1 else 0)
def byE (B : kB) (b t d : Nat) : Int32 := nI (if B t 0 = 3 then byK (crS B b t) (B t 2) b d else 0)
theorem byK_le {on m : Int32} {b : Nat} : ∀ d, byK on m b d ≤ d := by
  intro d
  induction d with
  | zero => exact Nat.le_refl _
  | succ d ih => rw [byK]; split <;> omega
theorem byK_0 {on m : Int32} {b : Nat} : ∀ d, byK on m b d = 0 ↔ ∀ i, i < d → (tld on (nI (b + i)) && tld m (nI (b + i))) = false := by
  intro d
  induction d with
  | zero => exact ⟨fun _ i hi => absurd hi (by omega), fun _ => rfl⟩
  | succ d ih =>
    rw [byK]
    constructor
    · intro h i hi
      by_cases e : i = d
      · subst e
        cases q : (tld on (nI (b + i)) && tld m (nI (b + i))) with
        | false => rfl
        | true => rw [q] at h; simp at h
      · exact ih.mp (by omega) i (by omega)
    · intro h
      rw [ih.mpr (fun i hi => h i (by omega)), h d (by omega)]; rfl
theorem crS_bit {B : kB} {b i : Nat} (hb : b < 16) (hi : i < 32) : ∀ t, t ≤ 16 → bt (crS B b t) i = true → b ≤ i ∧ (i < t ∨ i = b) := by
  intro t
  induction t with
  | zero =>
    intro _ h
    rw [crS, bt_one (by omega) hi] at h
    simp at h
    omega
  | succ t ih =>
    intro ht h
    rw [crS] at h
    split at h
    · rw [bt_one (by omega) hi] at h
      simp at h
      omega
    · split at h
      · rw [b_or, Bool.or_eq_true] at h
        rcases h with h | h
        · have := ih (by omega) h; omega
        · rw [bt_one (by omega) hi] at h
          simp at h
          omega
      · have := ih (by omega) h; omega
theorem and_0 {x y : Int32} : x &&& y = 0 ↔ ∀ i, i < 32 → (bt x i && bt y i) = false := by
  constructor
  · intro h i hi
    rw [← b_and, h, b_0]
  · intro h
    refine b_ext (fun i hi => ?_)
    rw [b_and, h i hi, b_0]
theorem by_S {B : kB} {b t : Nat} (hb : b < t) (ht : t < 16) : decide (0 < byE B b t (t - b)) = (decide (B t 0 = 3) && !decide (B t 2 &&& crS B b t = 0)) := by
  unfold byE
  by_cases h3 : B t 0 = 3
  · rw [if_pos h3, decide_eq_true h3, Bool.true_and]
    have hle := byK_le (on := crS B b t) (m := B t 2) (b := b) (t - b)
    by_cases h0 : byK (crS B b t) (B t 2) b (t - b) = 0
    · rw [h0, decide_eq_false (by decide : ¬ (0 : Int32) < nI 0)]
      have z : B t 2 &&& crS B b t = 0 := and_0.mpr (fun i hi => by
        cases q : bt (crS B b t) i with
        | false => rw [Bool.and_false]
        | true =>
          have w := crS_bit (by omega) hi t (by omega) q
          have v := (byK_0 _).mp h0 (i - b) (by omega)
          rw [show b + (i - b) = i by omega, tld_bt (by omega), tld_bt (by omega), q, Bool.true_and] at v
          rw [v]; rfl)
      rw [decide_eq_true z]; rfl
    · rw [decide_eq_true (show (0 : Int32) < nI (byK (crS B b t) (B t 2) b (t - b)) from (nI_ltI (a := 0) (by decide) (by omega)).mpr (by omega))]
      have z : ¬ B t 2 &&& crS B b t = 0 := fun q => h0 ((byK_0 _).mpr (fun i hi => by
        have v := and_0.mp q (b + i) (by omega)
        rw [tld_bt (by omega), tld_bt (by omega), Bool.and_comm]; exact v))
      rw [decide_eq_false z]; rfl
  · rw [if_neg h3, decide_eq_false h3, decide_eq_false (by decide : ¬ (0 : Int32) < nI 0)]; rfl
theorem by_s {B : kB} {b t d : Nat} (h3 : B t 0 = 3) : byE B b t d + (crS B b t >>> (nI (b + d) &&& 31) &&& 1) * (B t 2 >>> (nI (b + d) &&& 31) &&& 1) = byE B b t (d + 1) := by
  rw [tld_i, tld_i, bI_mul2, byE, byE, if_pos h3, if_pos h3, byK]
  split
  · rename_i h; rw [h]; exact nI_1 _
  · rename_i h; rw [show (tld (crS B b t) (nI (b + d)) && tld (B t 2) (nI (b + d))) = false by simpa using h]; simp [bI]
theorem by_n {B : kB} {b t d : Nat} (h3 : ¬ B t 0 = 3) : byE B b t d + 0 = byE B b t (d + 1) := by
  rw [byE, byE, if_neg h3, if_neg h3]; rfl
theorem by_0 {B : kB} {b t : Nat} : byE B b t 0 = 0 := by unfold byE; split <;> rfl
theorem crS_s1 {B : kB} {b t : Nat} (hb : b < t) (ht : t < 16) (c : 0 < byE B b t (t - b)) : crS B b t ||| ((1 : Int32) <<< (nI t &&& 31)) = crS B b (t + 1) := by
  have q := by_S (B := B) hb ht
  rw [decide_eq_true c] at q
  rw [crS, if_neg (by omega), if_pos q.symm]
theorem crS_s0 {B : kB} {b t : Nat} (hb : b < t) (ht : t < 16) (c : ¬ 0 < byE B b t (t - b)) : crS B b t ||| 0 = crS B b (t + 1) := by
  have q := by_S (B := B) hb ht
  rw [decide_eq_false c] at q
  rw [crS, if_neg (by omega), if_neg (by rw [← q]; simp), Int32.or_zero]
theorem crN_s1 {B : kB} {b t : Nat} (hb : b < t) (ht : t < 16) (c : 0 < byE B b t (t - b)) : crN B b t + 1 = crN B b (t + 1) := by
  have q := by_S (B := B) hb ht
  rw [decide_eq_true c] at q
  rw [crN, if_neg (by omega), if_pos q.symm]
theorem crN_s0 {B : kB} {b t : Nat} (hb : b < t) (ht : t < 16) (c : ¬ 0 < byE B b t (t - b)) : crN B b t + 0 = crN B b (t + 1) := by
  have q := by_S (B := B) hb ht
  rw [decide_eq_false c] at q
  rw [crN, if_neg (by omega), if_neg (by rw [← q]; simp), Int32.add_zero]
/-! the fewest answers by codes -/
def chL (B : kB) (b : Nat) (f : Bool) : Int32 := if B b 0 = 1 then bI f else if f then 99 else 0
def asV (B : kB) (c i b : Nat) : Int32 := if mtB B b = true ∧ cnK b (mtB B) < i then chL B b (c.testBit (cnK b (mtB B))) else B b 4
def asgL (B : kB) (n c : Nat) : kB := fun b w => if w = 4 then asV B c (cnK n (mtB B)) b else B b w
theorem asV_0 {B : kB} {c b : Nat} : asV B c 0 b = B b 4 := if_neg (fun q => by omega)
theorem asV_s {B : kB} {n c i b : Nat} {T : Nat → Int32} (hm : mtB B b = true) (hc : cnK b (mtB B) = i) (hT : ∀ d, d < n → T d = asV B c i d) : ∀ d, d < n → upd T b (chL B b (c.testBit i)) d = asV B c (i + 1) d := by
  intro d hd
  by_cases e : d = b
  · subst e
    rw [upd_eq, asV, if_pos ⟨hm, by omega⟩, hc]
  · rw [upd_ne e, hT d hd]
    unfold asV
    by_cases q : mtB B d = true ∧ cnK d (mtB B) < i
    · rw [if_pos q, if_pos ⟨q.1, by omega⟩]
    · rw [if_neg q, if_neg]
      rintro ⟨z1, z2⟩
      by_cases z3 : cnK d (mtB B) < i
      · exact q ⟨z1, z3⟩
      · exact e (cnK_u z1 hm (by omega))
theorem asgL_o {B : kB} {n c b w : Nat} (h : ¬ w = 4) : asgL B n c b w = B b w := if_neg h
theorem asgL_4 {B : kB} {n c b : Nat} : asgL B n c b 4 = asV B c (cnK n (mtB B)) b := if_pos rfl
theorem asV_n {B : kB} {n c b : Nat} (hb : b < n) : asV B c (cnK n (mtB B)) b = if mtB B b = true then chL B b (c.testBit (cnK b (mtB B))) else B b 4 := by
  unfold asV
  by_cases h : mtB B b = true
  · rw [if_pos ⟨h, cnK_sm hb h⟩, if_pos h]
  · rw [if_neg (fun q => h q.1), if_neg h]
theorem asgC_4 {B : kB} {n c b : Nat} (hb : b < n) : asgC B n c b 4 = if mtB B b = true then chB B b (c.testBit (cnK b (mtB B))) else B b 4 := by
  unfold asgC asg
  by_cases h : mtB B b = true
  · rw [if_pos ⟨rfl, hb, h⟩, if_pos h]
  · rw [if_neg (fun q => h q.2.2), if_neg h]
theorem asgC_o {B : kB} {n c b w : Nat} (h : ¬ w = 4) : asgC B n c b w = B b w := if_neg (fun q => h q.1)
theorem mt_k {B : kB} {b : Nat} (h : mtB B b = true) : B b 4 = -1 ∧ (B b 0 = 2 ∨ B b 0 = 1) := by
  simp only [mtB, qEmp, Bool.and_eq_true, Bool.or_eq_true, decide_eq_true_eq] at h
  rcases h.2 with q | q
  · exact ⟨h.1.2, Or.inl q⟩
  · exact ⟨h.1.2, Or.inr q.1⟩
theorem gA_L {B : kB} {n c : Nat} (h : gA n B) : gA n (asgL B n c) := by
  intro b hb
  rw [asgL_4, asV_n hb]
  split
  · right
    unfold chL
    cases c.testBit (cnK b (mtB B)) <;> (split <;> decide)
  · exact h b hb
theorem opmN_c {B B' : kB} {n : Nat} (h1 : ∀ p M b, b < n → qTik B p M b = qTik B' p M b) (h2 : ∀ p b, b < n → qFor B 1 p b = qFor B' 1 p b) (h3 : ∀ p M b, b < n → qCls B p M b = qCls B' p M b) : ∀ p, opmN B n p = opmN B' n p := by
  intro p
  induction p with
  | zero => rfl
  | succ p ih =>
    rw [opmN, opmN, ih]
    unfold tikd skpd
    rw [anyN_c (h1 (nI p) (opmN B' n p)), anyN_c (h2 (nI p)), anyN_c (h3 (nI p) (opmN B' n p))]
theorem opm_L {B : kB} {n c : Nat} (_hw : wfB n B) : opm (asgL B n c) n = opm (asgC B n c) n := by
  unfold opm
  refine opmN_c (fun p M b hb => ?_) (fun p b hb => ?_) (fun p M b hb => ?_) 5
  · unfold qTik qFor qOpn
    rw [asgL_o (by decide), asgL_o (by decide), asgL_o (by decide), asgC_o (by decide), asgC_o (by decide), asgC_o (by decide), asgL_4, asV_n hb, asgC_4 hb]
    by_cases h1 : B b 0 = 1
    · unfold chL chB; rw [if_pos h1, if_pos h1]
    · rw [decide_eq_false h1]; simp only [Bool.false_and]
  · unfold qFor
    rw [asgL_o (by decide), asgL_o (by decide), asgC_o (by decide), asgC_o (by decide)]
  · unfold qCls qFor qOpn qEmp
    rw [asgL_o (w := 0) (by decide), asgL_o (w := 2) (by decide), asgL_o (w := 1) (by decide), asgL_o (w := 3) (by decide), asgC_o (w := 0) (by decide), asgC_o (w := 2) (by decide), asgC_o (w := 1) (by decide), asgC_o (w := 3) (by decide), asgL_4, asV_n hb, asgC_4 hb]
    by_cases h2 : B b 0 = 2
    · by_cases hm : mtB B b = true
      · rw [if_pos hm, if_pos hm]
        have n1 : ¬ B b 0 = 1 := by rw [h2]; decide
        have d1 : ¬ (99 : Int32) < 0 := by decide
        have d2 : ¬ (99 : Int32) = -1 := by decide
        have d3 : ¬ (0 : Int32) = -1 := by decide
        have d4 : ¬ (0 : Int32) < 0 := by decide
        have d5 : ¬ (2 : Int32) = 3 := by decide
        unfold chL chB
        simp only [if_neg n1]
        cases hf : c.testBit (cnK b (mtB B)) with
        | true => simp
        | false =>
          by_cases h3 : B b 3 = 0
          · simp [h2, h3, d1, d2, d3, d4, d5]
          · simp [h3]
      · rw [if_neg hm, if_neg hm]
    · rw [decide_eq_false h2]; simp only [Bool.false_and]
def lsN (B : kB) (n c : Nat) : Int32 := if c = 0 then 99 else nI (fwN (fwF B n) c)
theorem fwF_le {B : kB} {n c : Nat} : fwF B n c ≤ n := cnK_le
theorem ls_lt {B : kB} {n c : Nat} (hn : n ≤ 16) (h : nI (fwF B n c) < lsN B n c) : nI (fwF B n c) = lsN B n (c + 1) := by
  have h1 := fwF_le (B := B) (n := n) (c := c)
  unfold lsN at h ⊢
  rw [if_neg (by omega), fwN]
  by_cases e : c = 0
  · subst e
    show nI (fwF B n 0) = nI (if fwF B n 0 < 16 then fwF B n 0 else 16)
    by_cases q : fwF B n 0 < 16
    · rw [if_pos q]
    · rw [if_neg q, show fwF B n 0 = 16 by omega]
  · rw [if_neg e] at h
    have h2 := fwN_16 (F := fwF B n) c
    rw [if_pos ((nI_ltI (by omega) (by omega)).mp h)]
theorem ls_ge {B : kB} {n c : Nat} (hn : n ≤ 16) (h : ¬ nI (fwF B n c) < lsN B n c) : lsN B n c = lsN B n (c + 1) := by
  have h1 := fwF_le (B := B) (n := n) (c := c)
  unfold lsN at h ⊢
  by_cases e : c = 0
  · rw [if_pos e] at h
    exact absurd ((nI_ltI (b := 99) (by omega) (by decide)).mpr (by omega)) h
  · have h2 := fwN_16 (F := fwF B n) c
    rw [if_neg e] at h ⊢
    rw [if_neg (by omega), fwN, if_neg (fun q => h ((nI_ltI (by omega) (by omega)).mpr q))]
theorem ls_end {B : kB} {n : Nat} (hw : wfB n B) (hn : n ≤ 16) : lsN B n (2 ^ cnK n (mtB B)) = sho B n := by
  rw [sho_fw hw hn, lsN, if_neg (Nat.ne_of_gt (Nat.two_pow_pos _))]
theorem fw_w {B : kB} {n c : Nat} (hw : wfB n B) : cntN n (qWts B (opm (asgL B n c) n)) = nI (fwF B n c) := by
  rw [cntN_K, opm_L hw]; rfl
theorem LR_L {B : kB} {n c : Nat} {K P M L A T : Nat → Int32} (h : LR n B K P M L A) (hT : ∀ d, d < n → T d = asV B c (cnK n (mtB B)) d) : LR n (asgL B n c) K P M L T := by
  intro b hb
  obtain ⟨h0, h1, h2, h3, -⟩ := h b hb
  rw [asgL_o (by decide), asgL_o (by decide), asgL_o (by decide), asgL_o (by decide), asgL_4]
  exact ⟨h0, h1, h2, h3, hT b hb⟩
theorem tk_le {n : Nat} {B : kB} {b : Nat} (h : (∃ p, p < 5 ∧ B b 1 = nI p) ∧
  ((B b 0 = 0 ∧ ∃ t, 1 ≤ t ∧ t ≤ 5 ∧ B b 2 = nI t) ∨
   (B b 0 = 1 ∧ B b 3 = -1 ∧ (B b 2 = -1 ∨ ∃ p q, B b 1 = nI p ∧ B b 2 = nI q ∧ p < q ∧ q < 5)) ∨
   (B b 0 = 2 ∧ ∃ p q l, B b 1 = nI p ∧ B b 2 = nI q ∧ p < q ∧ q < 5 ∧ l ≤ 99 ∧ B b 3 = nI l) ∨
   (B b 0 = 3 ∧ B b 4 = -1 ∧ ∀ k, k < 16 → tld (B b 2) (nI k) = true → k < b ∧ (B k 0 = 0 ∨ B k 0 = 3)))) (h1 : B b 0 = 1) (c : B b 2 ≤ 0) : B b 2 = -1 := by
  rcases h.2 with ⟨q, -⟩ | ⟨-, -, q | ⟨i, j, -, q2, q3, q4⟩⟩ | ⟨q, -⟩ | ⟨q, -⟩
  · rw [h1] at q; exact absurd q (by decide)
  · exact q
  · rw [q2] at c; exact absurd c (nI_nle (by omega) (by omega))
  · rw [h1] at q; exact absurd q (by decide)
  · rw [h1] at q; exact absurd q (by decide)
theorem sp_f {P : Nat → Bool} {SP : Nat → Int32} {j : Nat} (h : ∀ b, b < j → P b = true → SP (cnK b P) = nI b) (hp : P j = false) : ∀ b, b < j + 1 → P b = true → SP (cnK b P) = nI b := by
  intro b hb hpb
  have e : ¬ b = j := fun q => by rw [q, hp] at hpb; cases hpb
  exact h b (by omega) hpb
theorem cp_s {T A : Nat → Int32} {j : Nat} (h : ∀ d, d < j → T d = A d) : ∀ d, d < j + 1 → upd T j (A j) d = A d := by
  intro d hd
  by_cases e : d = j
  · subst e; exact upd_eq
  · rw [upd_ne e]; exact h d (by omega)
theorem bit_t {c i : Nat} (h : (nI c >>> (nI i &&& 31)) &&& 1 = 1) (hi : i < 31) : c.testBit i = true := by
  rw [bit_i hi] at h
  cases q : c.testBit i with
  | true => rfl
  | false => rw [q] at h; exact absurd h (by decide)
theorem bit_f {c i : Nat} (h : ¬ (nI c >>> (nI i &&& 31)) &&& 1 = 1) (hi : i < 31) : c.testBit i = false := by
  rw [bit_i hi] at h
  cases q : c.testBit i with
  | false => rfl
  | true => rw [q] at h; exact absurd rfl h

/-! PURE: the shortest list by masks and by choices -/
theorem anyN_i {n : Nat} {P : Nat → Bool} : anyN n P = true ↔ ∃ b, b < n ∧ P b = true := by
  constructor
  · intro h
    induction n with
    | zero => exact absurd h (by simp [anyN])
    | succ n ih =>
      rw [anyN, Bool.or_eq_true] at h
      rcases h with h | h
      · obtain ⟨b, hb, e⟩ := ih h
        exact ⟨b, by omega, e⟩
      · exact ⟨n, by omega, h⟩
  · rintro ⟨b, hb, e⟩
    exact anyN_t hb e
theorem anyN_c {n : Nat} {P Q : Nat → Bool} (h : ∀ b, b < n → P b = Q b) : anyN n P = anyN n Q := by
  induction n with
  | zero => rfl
  | succ n ih => rw [anyN, anyN, ih (fun b hb => h b (by omega)), h n (by omega)]
/-- ticks and skips point to later parts -/
def ptB (n : Nat) (B : kB) : Prop := ∀ b, b < n → ∀ p, p < 5 → (B b 0 = 1 ∨ B b 0 = 2) → B b 2 = nI p → ∃ q, q < p ∧ B b 1 = nI q
theorem wfB.p {n : Nat} {B : kB} (h : wfB n B) : ptB n B := by
  intro b hb p hp hk h2
  rcases (h b hb).2 with ⟨q, -⟩ | ⟨-, -, q | ⟨i, j, q1, q2, q3, q4⟩⟩ | ⟨-, i, j, l, q1, q2, q3, q4, -⟩ | ⟨q, -⟩
  · rcases hk with e | e <;> rw [e] at q <;> exact absurd q (by decide)
  · rw [h2] at q
    have z : (nI p).toInt = (-1 : Int32).toInt := by rw [q]
    rw [nI_toInt (by omega)] at z
    have e1 : (-1 : Int32).toInt = -1 := by decide
    omega
  · rw [h2] at q2
    have z := (nI_eq (by omega) (by omega)).mp q2
    exact ⟨i, by omega, q1⟩
  · rw [h2] at q2
    have z := (nI_eq (by omega) (by omega)).mp q2
    exact ⟨i, by omega, q1⟩
  · rcases hk with e | e <;> rw [e] at q <;> exact absurd q (by decide)
theorem tld_N {K i : Nat} (hi : i < 31) : tld (nI K) (nI i) = K.testBit i := by rw [tld_bt hi, bt_nI (by omega)]
def stB (B : kB) (n i : Nat) (m : Int32) : Bool := tikd B n (nI i) m && !skpd B n (nI i) m
theorem stB_c {n : Nat} {B : kB} (h : ptB n B) {i : Nat} (hi : i < 5) {m m' : Int32} (hm : ∀ q, q < i → tld m (nI q) = tld m' (nI q)) : stB B n i m = stB B n i m' := by
  have ho : ∀ b, b < n → (B b 0 = 1 ∨ B b 0 = 2) → B b 2 = nI i → qOpn B m b = qOpn B m' b := by
    intro b hb hk h2
    obtain ⟨q, hq, e⟩ := h b hb i hi hk h2
    rw [qOpn, qOpn, e, hm q hq]
  have h1 : tikd B n (nI i) m = tikd B n (nI i) m' := by
    unfold tikd
    rw [anyN_c (P := qTik B (nI i) m) (Q := qTik B (nI i) m') ?_]
    intro b hb
    unfold qTik
    by_cases e : qFor B 1 (nI i) b = true
    · simp only [qFor, Bool.and_eq_true, decide_eq_true_eq] at e
      rw [ho b hb (Or.inl e.1) e.2]
    · simp [e]
  have h2 : skpd B n (nI i) m = skpd B n (nI i) m' := by
    unfold skpd
    refine anyN_c (fun b hb => ?_)
    unfold qCls
    by_cases e : qFor B 2 (nI i) b = true
    · simp only [qFor, Bool.and_eq_true, decide_eq_true_eq] at e
      rw [ho b hb (Or.inr e.1) e.2]
    · simp [e]
  rw [stB, stB, h1, h2]
def opK (B : kB) (n : Nat) : Nat → Nat
  | 0 => 1
  | p + 1 => if p = 0 then 1 else if stB B n p (nI (opK B n p)) then opK B n p + 2 ^ p else opK B n p
theorem opK_lt {B : kB} {n : Nat} : ∀ p, opK B n (p + 1) < 2 ^ (p + 1) := by
  intro p
  induction p with
  | zero => exact Nat.one_lt_two_pow (by decide)
  | succ p ih =>
    have q : 2 ^ (p + 1 + 1) = 2 ^ (p + 1) + 2 ^ (p + 1) := by rw [Nat.pow_succ 2 (p + 1)]; omega
    rw [opK, if_neg (by omega)]
    split <;> omega
theorem opmN_K {B : kB} {n : Nat} : ∀ p, p < 16 → opmN B n p = nI (opK B n p) := by
  intro p
  induction p with
  | zero => intro _; rfl
  | succ p ih =>
    intro hp
    by_cases e : p = 0
    · subst e; rfl
    · obtain ⟨r, rfl⟩ : ∃ r, p = r + 1 := ⟨p - 1, by omega⟩
      rw [opmN, opK, if_neg e, if_neg e, ih (by omega)]
      unfold stB
      split
      · rw [or_pow (by omega) (opK_lt r)]
      · rfl
theorem opK_bit {B : kB} {n i : Nat} : ∀ P, i < P → (opK B n P).testBit i = (decide (i = 0) || stB B n i (nI (opK B n i))) := by
  intro P
  induction P with
  | zero => intro h; omega
  | succ P ih =>
    intro h
    by_cases e0 : P = 0
    · subst e0
      obtain rfl : i = 0 := by omega
      simp [opK]
    · obtain ⟨r, rfl⟩ : ∃ r, P = r + 1 := ⟨P - 1, by omega⟩
      rw [opK, if_neg e0]
      by_cases e : i = r + 1
      · subst e
        have z : (opK B n (r + 1)).testBit (r + 1) = false := Nat.testBit_lt_two_pow (opK_lt r)
        by_cases s : stB B n (r + 1) (nI (opK B n (r + 1))) = true
        · rw [if_pos s, tb_add (opK_lt r), z, s]; simp
        · rw [if_neg s, z]; simp [s]
      · have q := ih (by omega)
        split
        · rw [tb_add (opK_lt r), q, decide_eq_false e, Bool.or_false]
        · exact q
theorem opm_K {B : kB} {n : Nat} : opm B n = nI (opK B n 5) := opmN_K 5 (by decide)
theorem opm_bit {B : kB} {n : Nat} (h : ptB n B) {i : Nat} (hi : i < 5) : tld (opm B n) (nI i) = (decide (i = 0) || stB B n i (opm B n)) := by
  rw [opm_K, tld_N (by omega), opK_bit 5 hi, stB_c h hi (m := nI (opK B n i)) (m' := nI (opK B n 5))]
  intro q hq
  rw [tld_N (by omega), tld_N (by omega), opK_bit i hq, opK_bit 5 (by omega)]
theorem opm_uniq {B : kB} {n K : Nat} (h : ptB n B) (hK : K < 32) (hb : ∀ i, i < 5 → tld (nI K) (nI i) = (decide (i = 0) || stB B n i (nI K))) : opm B n = nI K := by
  have q : ∀ P, P ≤ 5 → ∀ i, i < P → (opK B n 5).testBit i = K.testBit i := by
    intro P
    induction P with
    | zero => intro _ i hi; omega
    | succ P ih =>
      intro hP i hi
      by_cases e : i = P
      · subst e
        have z := hb i (by omega)
        rw [tld_N (by omega)] at z
        have y := opm_bit h (show i < 5 by omega)
        rw [opm_K, tld_N (by omega)] at y
        rw [y, z, stB_c h (by omega) (m := nI (opK B n 5)) (m' := nI K)]
        intro q hq
        rw [tld_N (by omega), tld_N (by omega)]
        exact ih (by omega) q hq
      · exact ih (by omega) i (by omega)
  rw [opm_K]
  congr 1
  refine Nat.eq_of_testBit_eq (fun i => ?_)
  by_cases e : i < 5
  · exact q 5 (by decide) i e
  · have w : 2 ^ 5 ≤ 2 ^ i := Nat.pow_le_pow_right (by decide) (by omega)
    rw [Nat.testBit_lt_two_pow (Nat.lt_of_lt_of_le (opK_lt 4) w), Nat.testBit_lt_two_pow (Nat.lt_of_lt_of_le hK w)]
/-- the boxes whose answers choose -/
def mtB (B : kB) (b : Nat) : Bool := qEmp B b && (decide (B b 0 = 2) || (decide (B b 0 = 1) && !decide (B b 2 = -1)))
def chB (B : kB) (b : Nat) (f : Bool) : Int32 := if B b 0 = 1 then bI f else if f || decide (B b 3 = 0) then 99 else 0
def asg (B : kB) (n : Nat) (f : Nat → Bool) : kB := fun b w => if w = 4 ∧ b < n ∧ mtB B b = true then chB B b (f b) else B b w
theorem asg_o {B : kB} {n : Nat} {f : Nat → Bool} {b w : Nat} (h : ¬ w = 4) : asg B n f b w = B b w := if_neg (fun q => h q.1)
theorem asg_p {B : kB} {n : Nat} {f : Nat → Bool} (h : ptB n B) : ptB n (asg B n f) := by
  intro b hb p hp
  rw [asg_o (by decide), asg_o (by decide), asg_o (by decide)]
  exact h b hb p hp
theorem nI_m1 {p : Nat} (hp : p < 5) : ¬ nI p = -1 := by
  rcases (by omega : p = 0 ∨ p = 1 ∨ p = 2 ∨ p = 3 ∨ p = 4) with rfl | rfl | rfl | rfl | rfl <;> decide
def qA1 (B : kB) (p M : Int32) (f : Nat → Bool) (b : Nat) : Bool := qFor B 1 p b && (qWts B M b && f b)
def qA2 (B : kB) (p M : Int32) (f : Nat → Bool) (b : Nat) : Bool := qFor B 2 p b && (qWts B M b && (f b || decide (B b 3 = 0)))
theorem tikd_a {B : kB} {n p : Nat} {M : Int32} {f : Nat → Bool} (hp : p < 5) : tikd (asg B n f) n (nI p) M = (tikd B n (nI p) M || anyN n (qA1 B (nI p) M f)) := by
  have e1 : anyN n (qFor (asg B n f) 1 (nI p)) = anyN n (qFor B 1 (nI p)) := anyN_c (fun b _ => by rw [qFor, qFor, asg_o (by decide), asg_o (by decide)])
  have e2 : ∀ b, b < n → qTik (asg B n f) (nI p) M b = (qTik B (nI p) M b || qA1 B (nI p) M f b) := by
    intro b hb
    unfold qTik qA1
    rw [show qFor (asg B n f) 1 (nI p) b = qFor B 1 (nI p) b by rw [qFor, qFor, asg_o (by decide), asg_o (by decide)], show qOpn (asg B n f) M b = qOpn B M b by rw [qOpn, qOpn, asg_o (by decide)]]
    by_cases hf : qFor B 1 (nI p) b = true
    · have hq := hf
      simp only [qFor, Bool.and_eq_true, decide_eq_true_eq] at hq
      rw [hf]
      by_cases he : B b 4 = -1
      · have hm : mtB B b = true := by simp [mtB, qEmp, hq.1, hq.2, he, nI_m1 hp]
        have ha : asg B n f b 4 = bI (f b) := by rw [asg, if_pos ⟨rfl, hb, hm⟩, chB, if_pos hq.1]
        rw [ha]
        have hn : decide (B b 4 = 1) = false := by rw [he]; decide
        rw [hn, qWts, show qEmp B b = true by simp [qEmp, hq.1, he]]
        cases f b <;> cases qOpn B M b <;> decide
      · have hm : mtB B b = false := by simp [mtB, qEmp, he]
        have ha : asg B n f b 4 = B b 4 := by rw [asg, if_neg (by rw [hm]; simp)]
        rw [ha, qWts, show qEmp B b = false by simp [qEmp, he]]
        simp
    · simp [hf]
  unfold tikd
  rw [e1, anyN_c e2]
  have e3 : anyN n (fun b => qTik B (nI p) M b || qA1 B (nI p) M f b) = (anyN n (qTik B (nI p) M) || anyN n (qA1 B (nI p) M f)) := by
    clear e1 e2
    induction n with
    | zero => rfl
    | succ n ih => simp only [anyN, ih]; cases anyN n (qTik B (nI p) M) <;> cases qTik B (nI p) M n <;> simp
  rw [e3]
  cases anyN n (qTik B (nI p) M) <;> cases anyN n (qA1 B (nI p) M f) <;> simp
theorem skpd_a {B : kB} {n p : Nat} {M : Int32} {f : Nat → Bool} (hw : wfB n B) (hp : p < 5) : skpd (asg B n f) n (nI p) M = (skpd B n (nI p) M || anyN n (qA2 B (nI p) M f)) := by
  have e2 : ∀ b, b < n → qCls (asg B n f) (nI p) M b = (qCls B (nI p) M b || qA2 B (nI p) M f b) := by
    intro b hb
    unfold qCls qA2
    rw [show qFor (asg B n f) 2 (nI p) b = qFor B 2 (nI p) b by rw [qFor, qFor, asg_o (by decide), asg_o (by decide)], show qOpn (asg B n f) M b = qOpn B M b by rw [qOpn, qOpn, asg_o (by decide)]]
    by_cases hf : qFor B 2 (nI p) b = true
    · have hq := hf
      simp only [qFor, Bool.and_eq_true, decide_eq_true_eq] at hq
      rw [hf, asg_o (w := 3) (by decide)]
      by_cases he : B b 4 = -1
      · have hm : mtB B b = true := by simp [mtB, qEmp, hq.1, he]
        obtain ⟨l, hl, h3⟩ : ∃ l, l ≤ 99 ∧ B b 3 = nI l := by
          rcases (hw b hb).2 with ⟨q, -⟩ | ⟨q, -⟩ | ⟨-, i, j, l, -, -, -, -, q5, q6⟩ | ⟨q, -⟩
          · rw [hq.1] at q; exact absurd q (by decide)
          · rw [hq.1] at q; exact absurd q (by decide)
          · exact ⟨l, q5, q6⟩
          · rw [hq.1] at q; exact absurd q (by decide)
        have ha : asg B n f b 4 = if f b || decide (B b 3 = 0) then 99 else 0 := by rw [asg, if_pos ⟨rfl, hb, hm⟩, chB, if_neg (by rw [hq.1]; decide)]
        have hE : qEmp (asg B n f) b = false := by
          unfold qEmp
          rw [ha, asg_o (by decide), hq.1]
          split <;> decide
        rw [hE, ha, qWts, show qEmp B b = true by simp [qEmp, hq.1, he]]
        have h99 : ¬ (99 : Int32) < nI l := by rw [show (99 : Int32) = nI 99 from rfl, nI_ltI (by omega) (by omega)]; omega
        have h0 : B b 3 = 0 ∨ (0 : Int32) < B b 3 := by
          rw [h3]
          by_cases z : l = 0
          · exact Or.inl (by rw [z]; rfl)
          · exact Or.inr (by rw [show (0 : Int32) = nI 0 from rfl, nI_ltI (by omega) (by omega)]; omega)
        by_cases hff : (f b || decide (B b 3 = 0)) = true
        · rw [if_pos hff, hff, decide_eq_false (h3 ▸ h99)]
          cases qOpn B M b <;> simp
        · rw [if_neg hff]
          have hz : ¬ B b 3 = 0 := fun q => hff (by simp [q])
          rw [decide_eq_true (h0.resolve_left hz)]
          simp [hff]
      · have hm : mtB B b = false := by simp [mtB, qEmp, he]
        have ha : asg B n f b 4 = B b 4 := by rw [asg, if_neg (by rw [hm]; simp)]
        rw [ha, qWts, show qEmp (asg B n f) b = qEmp B b by rw [qEmp, qEmp, ha, asg_o (by decide)], show qEmp B b = false by simp [qEmp, he]]
        simp
    · simp [hf]
  unfold skpd
  rw [anyN_c e2]
  clear e2
  induction n with
  | zero => rfl
  | succ n ih =>
    simp only [anyN]
    rw [ih (fun b hb => hw b (by omega))]
    cases anyN n (qCls B (nI p) M) <;> cases qCls B (nI p) M n <;> simp
theorem canT_i {B : kB} {n : Nat} {M : Int32} : canT B n M 5 = true ↔ ∀ p, 1 ≤ p → p < 5 → (if tld M (nI p) then canO B n (nI p) M else canC B n (nI p) M) = true := by
  simp only [canT, Bool.and_eq_true]
  constructor
  · rintro ⟨⟨⟨⟨⟨-, -⟩, h1⟩, h2⟩, h3⟩, h4⟩ p hp1 hp
    rcases (by omega : p = 1 ∨ p = 2 ∨ p = 3 ∨ p = 4) with rfl | rfl | rfl | rfl
    · simpa using h1
    · simpa using h2
    · simpa using h3
    · simpa using h4
  · intro h
    refine ⟨⟨⟨⟨⟨trivial, by simp⟩, ?_⟩, ?_⟩, ?_⟩, ?_⟩
    · simpa using h 1 (by omega) (by omega)
    · simpa using h 2 (by omega) (by omega)
    · simpa using h 3 (by omega) (by omega)
    · simpa using h 4 (by omega) (by omega)
theorem hasW_i {B : kB} {n : Nat} {kd p lim M : Int32} : hasW B n kd p lim M = true ↔ ∃ b, b < n ∧ qFor B kd p b = true ∧ qWts B M b = true ∧ ¬ lim < B b 3 := by
  unfold hasW
  rw [anyN_i]
  refine exists_congr (fun b => ?_)
  simp [qHW]
theorem qA1_i {B : kB} {n : Nat} {p M : Int32} {f : Nat → Bool} : anyN n (qA1 B p M f) = true ↔ ∃ b, b < n ∧ qFor B 1 p b = true ∧ qWts B M b = true ∧ f b = true := by
  rw [anyN_i]
  refine exists_congr (fun b => ?_)
  simp [qA1]
theorem qA2_i {B : kB} {n : Nat} {p M : Int32} {f : Nat → Bool} : anyN n (qA2 B p M f) = true ↔ ∃ b, b < n ∧ qFor B 2 p b = true ∧ qWts B M b = true ∧ (f b = true ∨ B b 3 = 0) := by
  rw [anyN_i]
  refine exists_congr (fun b => ?_)
  simp [qA2]
theorem lim_t {n : Nat} {B : kB} (hw : wfB n B) {b : Nat} (hb : b < n) {p : Int32} (h : qFor B 1 p b = true) : ¬ (-1 : Int32) < B b 3 := by
  simp only [qFor, Bool.and_eq_true, decide_eq_true_eq] at h
  rcases (hw b hb).2 with ⟨q, -⟩ | ⟨-, q, -⟩ | ⟨q, -⟩ | ⟨q, -⟩
  · rw [h.1] at q; exact absurd q (by decide)
  · rw [q]; decide
  · rw [h.1] at q; exact absurd q (by decide)
  · rw [h.1] at q; exact absurd q (by decide)
theorem lim_s {n : Nat} {B : kB} (hw : wfB n B) {b : Nat} (hb : b < n) {p : Int32} (h : qFor B 2 p b = true) : ∃ l, l ≤ 99 ∧ B b 3 = nI l := by
  simp only [qFor, Bool.and_eq_true, decide_eq_true_eq] at h
  rcases (hw b hb).2 with ⟨q, -⟩ | ⟨q, -⟩ | ⟨-, i, j, l, -, -, -, -, q5, q6⟩ | ⟨q, -⟩
  · rw [h.1] at q; exact absurd q (by decide)
  · rw [h.1] at q; exact absurd q (by decide)
  · exact ⟨l, q5, q6⟩
  · rw [h.1] at q; exact absurd q (by decide)
theorem lim_0 {l : Nat} (hl : l ≤ 99) (h : ¬ (0 : Int32) < nI l) : nI l = 0 := by
  rw [show (0 : Int32) = nI 0 from rfl, nI_ltI (by omega) (by omega)] at h
  rw [show l = 0 by omega]; rfl
theorem lim_99 {l : Nat} (hl : l ≤ 99) : ¬ (99 : Int32) < nI l := by
  rw [show (99 : Int32) = nI 99 from rfl, nI_ltI (by omega) (by omega)]; omega
/-- what the choices open can stand -/
theorem asg_can {n : Nat} {B : kB} (hw : wfB n B) {f : Nat → Bool} : canT B n (opm (asg B n f) n) 5 = true := by
  rw [canT_i]
  intro p hp1 hp
  have q := opm_bit (asg_p (f := f) hw.p) hp
  rw [decide_eq_false (by omega), Bool.false_or, stB, tikd_a hp, skpd_a hw hp] at q
  generalize opm (asg B n f) n = M at q
  by_cases hb : tld M (nI p) = true
  · rw [hb] at q
    rw [if_pos hb]
    have q2 := q.symm
    simp only [Bool.and_eq_true, Bool.or_eq_true, Bool.not_eq_true', Bool.or_eq_false_iff] at q2
    obtain ⟨q2, q3, q4⟩ := q2
    have q5 : (tikd B n (nI p) M || hasW B n 1 (nI p) (-1) M) = true := by
      rw [Bool.or_eq_true]
      rcases q2 with q2 | q2
      · exact Or.inl q2
      · obtain ⟨b, h1, h2, h3, -⟩ := qA1_i.mp q2
        exact Or.inr (hasW_i.mpr ⟨b, h1, h2, h3, lim_t hw h1 h2⟩)
    have q6 : hasW B n 2 (nI p) 0 M = false := by
      cases e : hasW B n 2 (nI p) 0 M with
      | false => rfl
      | true =>
        obtain ⟨b, h1, h2, h3, h4⟩ := hasW_i.mp e
        obtain ⟨l, hl, h5⟩ := lim_s hw h1 h2
        rw [h5] at h4
        rw [qA2_i.mpr ⟨b, h1, h2, h3, Or.inr (h5.trans (lim_0 hl h4))⟩] at q4
        cases q4
    rw [canO, q5, q3, q6]; rfl
  · rw [if_neg hb]
    have q1 : tld M (nI p) = false := by simpa using hb
    rw [q1] at q
    have q2 := q.symm
    rw [canC]
    cases e1 : tikd B n (nI p) M with
    | false => rfl
    | true =>
      rw [e1] at q2
      simp only [Bool.true_or, Bool.true_and, Bool.not_eq_false', Bool.or_eq_true] at q2
      rcases q2 with q2 | q2
      · rw [q2]; rfl
      · obtain ⟨b, h1, h2, h3, -⟩ := qA2_i.mp q2
        obtain ⟨l, hl, h5⟩ := lim_s hw h1 h2
        rw [hasW_i.mpr ⟨b, h1, h2, h3, h5 ▸ lim_99 hl⟩]
        cases skpd B n (nI p) M <;> rfl
/-- each mask that can stand is opened by some choices -/
theorem can_asg {n : Nat} {B : kB} (hw : wfB n B) {K : Nat} (hK : K < 32) (h1 : K.testBit 0 = true) (hc : canT B n (nI K) 5 = true) : ∃ f, opm (asg B n f) n = nI K := by
  refine ⟨fun b => if B b 0 = 1 then tld (nI K) (B b 2) else !tld (nI K) (B b 2), ?_⟩
  generalize hf : (fun b => if B b 0 = 1 then tld (nI K) (B b 2) else !tld (nI K) (B b 2)) = f
  have f1 : ∀ b p, qFor B 1 p b = true → f b = tld (nI K) p := by
    intro b p h
    simp only [qFor, Bool.and_eq_true, decide_eq_true_eq] at h
    rw [← hf]
    show (if B b 0 = 1 then tld (nI K) (B b 2) else !tld (nI K) (B b 2)) = _
    rw [if_pos h.1, h.2]
  have f2 : ∀ b p, qFor B 2 p b = true → f b = !tld (nI K) p := by
    intro b p h
    simp only [qFor, Bool.and_eq_true, decide_eq_true_eq] at h
    rw [← hf]
    show (if B b 0 = 1 then tld (nI K) (B b 2) else !tld (nI K) (B b 2)) = _
    rw [if_neg (by rw [h.1]; decide), h.2]
  refine opm_uniq (asg_p hw.p) hK (fun i hi => ?_)
  by_cases e0 : i = 0
  · subst e0; rw [tld_N (by decide), h1]; rfl
  · rw [decide_eq_false e0, Bool.false_or, stB, tikd_a hi, skpd_a hw hi]
    have q := canT_i.mp hc i (by omega) hi
    by_cases hb : tld (nI K) (nI i) = true
    · rw [if_pos hb, canO] at q
      simp only [Bool.and_eq_true, Bool.or_eq_true, Bool.not_eq_true'] at q
      obtain ⟨q1, q2, q3⟩ := q
      have a1 : (tikd B n (nI i) (nI K) || anyN n (qA1 B (nI i) (nI K) f)) = true := by
        rw [Bool.or_eq_true]
        rcases q1 with q1 | q1
        · exact Or.inl q1
        · obtain ⟨b, z1, z2, z3, -⟩ := hasW_i.mp q1
          exact Or.inr (qA1_i.mpr ⟨b, z1, z2, z3, (f1 b _ z2).trans hb⟩)
      have a2 : anyN n (qA2 B (nI i) (nI K) f) = false := by
        cases e : anyN n (qA2 B (nI i) (nI K) f) with
        | false => rfl
        | true =>
          obtain ⟨b, z1, z2, z3, z4⟩ := qA2_i.mp e
          rcases z4 with z4 | z4
          · rw [f2 b _ z2, hb] at z4; cases z4
          · rw [hasW_i.mpr ⟨b, z1, z2, z3, by rw [z4]; decide⟩] at q3; cases q3
      rw [hb, a1, a2, q2]; rfl
    · rw [if_neg hb, canC] at q
      have hb' : tld (nI K) (nI i) = false := by simpa using hb
      rw [hb']
      have a1 : anyN n (qA1 B (nI i) (nI K) f) = false := by
        cases e : anyN n (qA1 B (nI i) (nI K) f) with
        | false => rfl
        | true =>
          obtain ⟨b, z1, z2, z3, z4⟩ := qA1_i.mp e
          rw [f1 b _ z2, hb'] at z4; cases z4
      rw [a1, Bool.or_false]
      cases e1 : tikd B n (nI i) (nI K) with
      | false => rfl
      | true =>
        rw [e1] at q
        simp only [Bool.not_true, Bool.false_or, Bool.or_eq_true] at q
        rcases q with q | q
        · rw [q]; rfl
        · obtain ⟨b, z1, z2, z3, -⟩ := hasW_i.mp q
          rw [qA2_i.mpr ⟨b, z1, z2, z3, Or.inl (by rw [f2 b _ z2, hb']; rfl)⟩, Bool.or_true]; rfl
/-- choices by a code -/
theorem code_ex {P f : Nat → Bool} : ∀ n, ∃ c, c < 2 ^ cnK n P ∧ ∀ b, b < n → P b = true → c.testBit (cnK b P) = f b := by
  intro n
  induction n with
  | zero => exact ⟨0, Nat.two_pow_pos _, fun b hb => absurd hb (by omega)⟩
  | succ n ih =>
    obtain ⟨c, hc, h⟩ := ih
    have hm : ∀ b, b < n → P b = true → cnK b P < cnK n P := by
      intro b hb hp
      have q : ∀ d, cnK b P + 1 ≤ cnK (b + 1 + d) P := by
        intro d
        induction d with
        | zero => rw [Nat.add_zero, cnK, if_pos hp]; omega
        | succ d ihd => rw [← Nat.add_assoc, cnK]; omega
      have z := q (n - (b + 1))
      rw [show b + 1 + (n - (b + 1)) = n by omega] at z
      omega
    cases hp : P n with
    | false =>
      refine ⟨c, ?_, fun b hb hpb => ?_⟩
      · rw [cnK, hp]; exact hc
      · by_cases e : b = n
        · subst e; rw [hp] at hpb; cases hpb
        · exact h b (by omega) hpb
    | true =>
      have q : 2 ^ (cnK n P + 1) = 2 ^ cnK n P + 2 ^ cnK n P := by rw [Nat.pow_succ]; omega
      refine ⟨c + if f n then 2 ^ cnK n P else 0, ?_, fun b hb hpb => ?_⟩
      · rw [cnK, hp, if_pos rfl]; split <;> omega
      · have z : c.testBit (cnK n P) = false := Nat.testBit_lt_two_pow hc
        by_cases e : b = n
        · subst e
          cases hf : f b with
          | false => simpa using z
          | true => rw [if_pos rfl, tb_add hc, z]; simp
        · have y := hm b (by omega) hpb
          split
          · rw [tb_add hc, h b (by omega) hpb, decide_eq_false (by omega), Bool.or_false]
          · rw [Nat.add_zero]; exact h b (by omega) hpb
def asgC (B : kB) (n c : Nat) : kB := asg B n (fun b => c.testBit (cnK b (mtB B)))
def fwF (B : kB) (n c : Nat) : Nat := cnK n (qWts B (opm (asgC B n c) n))
def fwN (F : Nat → Nat) : Nat → Nat
  | 0 => 16
  | c + 1 => if F c < fwN F c then F c else fwN F c
theorem fwN_le {F : Nat → Nat} {c : Nat} : ∀ m, c < m → fwN F m ≤ F c := by
  intro m
  induction m with
  | zero => intro h; omega
  | succ m ih =>
    intro h
    rw [fwN]
    by_cases e : c = m
    · subst e; split <;> omega
    · have := ih (by omega)
      split <;> omega
theorem le_fwN {F : Nat → Nat} {x : Nat} (hx : x ≤ 16) : ∀ m, (∀ c, c < m → x ≤ F c) → x ≤ fwN F m := by
  intro m
  induction m with
  | zero => intro _; exact hx
  | succ m ih =>
    intro h
    rw [fwN]
    have := ih (fun c hc => h c (by omega))
    have := h m (by omega)
    split <;> omega
theorem fwN_16 {F : Nat → Nat} : ∀ m, fwN F m ≤ 16 := by
  intro m
  induction m with
  | zero => exact Nat.le_refl _
  | succ m ih => rw [fwN]; split <;> omega
def shK (B : kB) (n : Nat) : Nat → Nat
  | 0 => 16
  | j + 1 => if canT B n (nI (2 * j + 1)) 5 then (if cnK n (qWts B (nI (2 * j + 1))) < shK B n j then cnK n (qWts B (nI (2 * j + 1))) else shK B n j) else shK B n j
theorem shK_16 {B : kB} {n : Nat} : ∀ j, shK B n j ≤ 16 := by
  intro j
  induction j with
  | zero => exact Nat.le_refl _
  | succ j ih => rw [shK]; split; split <;> omega; exact ih
theorem minI_N {a b : Nat} (ha : a < 2 ^ 31) (hb : b < 2 ^ 31) : minI (nI a) (nI b) = nI (if b < a then b else a) := by
  unfold minI
  by_cases e : b < a
  · rw [if_pos e, if_pos ((nI_ltI hb ha).mpr e)]
  · rw [if_neg e, if_neg (fun q => e ((nI_ltI hb ha).mp q))]
theorem shoN_K {B : kB} {n : Nat} (hn : n ≤ 16) : ∀ j, shoN B n j = nI (shK B n j) := by
  intro j
  induction j with
  | zero => rfl
  | succ j ih =>
    have h1 := shK_16 (B := B) (n := n) j
    have h2 := cnK_le (n := n) (P := qWts B (nI (2 * j + 1)))
    rw [shoN, shK, ih, cntN_K]
    split
    · rw [minI_N (by omega) (by omega)]
    · rfl
theorem shK_le {B : kB} {n k : Nat} : ∀ j, k < j → canT B n (nI (2 * k + 1)) 5 = true → shK B n j ≤ cnK n (qWts B (nI (2 * k + 1))) := by
  intro j
  induction j with
  | zero => intro h; omega
  | succ j ih =>
    intro h hc
    rw [shK]
    by_cases e : k = j
    · subst e; rw [if_pos hc]; split <;> omega
    · have := ih (by omega) hc
      split
      · split <;> omega
      · exact this
theorem le_shK {B : kB} {n x : Nat} (hx : x ≤ 16) : ∀ j, (∀ k, k < j → canT B n (nI (2 * k + 1)) 5 = true → x ≤ cnK n (qWts B (nI (2 * k + 1)))) → x ≤ shK B n j := by
  intro j
  induction j with
  | zero => intro _; exact hx
  | succ j ih =>
    intro h
    have q := ih (fun k hk => h k (by omega))
    rw [shK]
    split
    · rename_i hc
      have := h j (by omega) hc
      split <;> omega
    · exact q
/-- the shortest list by masks is the shortest by choices -/
theorem sho_fw {n : Nat} {B : kB} (hw : wfB n B) (hn : n ≤ 16) : sho B n = nI (fwN (fwF B n) (2 ^ cnK n (mtB B))) := by
  rw [sho, shoN_K hn]
  congr 1
  refine Nat.le_antisymm ?_ ?_
  · refine le_fwN (shK_16 _) _ (fun c _ => ?_)
    have hcan := asg_can hw (f := fun b => c.testBit (cnK b (mtB B)))
    have hodd := opm_bit (asg_p (f := fun b => c.testBit (cnK b (mtB B))) hw.p) (show 0 < 5 by decide)
    unfold fwF asgC
    have e := opm_K (B := asg B n (fun b => c.testBit (cnK b (mtB B)))) (n := n)
    have hlt : opK (asg B n (fun b => c.testBit (cnK b (mtB B)))) n 5 < 32 := opK_lt 4
    rw [e] at hcan hodd ⊢
    generalize opK (asg B n (fun b => c.testBit (cnK b (mtB B)))) n 5 = K at hcan hodd hlt
    rw [tld_N (by decide)] at hodd
    have h2 : K % 2 = 1 := by
      have z : K.testBit 0 = true := by rw [hodd]; rfl
      rw [Nat.testBit_zero] at z
      exact of_decide_eq_true z
    obtain ⟨k, rfl⟩ : ∃ k, K = 2 * k + 1 := ⟨K / 2, by omega⟩
    exact shK_le 16 (by omega) hcan
  · refine le_shK (fwN_16 _) _ (fun k hk hc => ?_)
    obtain ⟨f, hf⟩ := can_asg hw (K := 2 * k + 1) (by omega) (by rw [Nat.testBit_zero]; exact decide_eq_true (by omega)) hc
    obtain ⟨c, hc1, hc2⟩ := code_ex (P := mtB B) (f := f) n
    have e : asgC B n c = asg B n f := by
      funext b w
      unfold asgC asg
      by_cases q : w = 4 ∧ b < n ∧ mtB B b = true
      · rw [if_pos q, if_pos q]
        show chB B b (c.testBit (cnK b (mtB B))) = _
        rw [hc2 b q.2.1 q.2.2]
      · rw [if_neg q, if_neg q]
    have z := fwN_le (F := fwF B n) _ hc1
    unfold fwF at z
    rw [e, hf] at z
    exact z

set_option maxRecDepth 100000 in
theorem pcS_pop {k : Nat} (h : k < 65536) : pcS k = popN 16 k := by
  have q := List.all_eq_true.mp (pcOk_all (k / 4096) (by omega)) (k % 4096) (List.mem_range.mpr (Nat.mod_lt _ (by decide)))
  rw [show k / 4096 * 4096 + k % 4096 = k by have := Nat.div_add_mod k 4096; omega] at q
  exact eq_of_beq q
theorem bitC_pop {k : Nat} (h : k < 65536) : bitC (nI k) = nI (popN 16 k) := by rw [bitC_S h, pcS_pop h]
theorem tb_add {k t i : Nat} (h : k < 2 ^ t) : (k + 2 ^ t).testBit i = (k.testBit i || decide (i = t)) := by
  rw [show k + 2 ^ t = 2 ^ t ||| k by have q := Nat.two_pow_add_eq_or_of_lt h 1; simp only [Nat.mul_one] at q; rw [← q]; omega]
  rw [Nat.testBit_or, Nat.testBit_two_pow]
  cases k.testBit i <;> simp [eq_comm]
theorem pop_add {k t : Nat} (h : k < 2 ^ t) : ∀ i, popN i (k + 2 ^ t) = popN i k + (if t < i then 1 else 0) := by
  intro i
  induction i with
  | zero => simp [popN]
  | succ i ih =>
    rw [popN, popN, ih, tb_add h]
    by_cases e : i = t
    · subst e
      have z : k.testBit i = false := Nat.testBit_lt_two_pow h
      simp [z]
    · by_cases e2 : t < i
      · simp [e, e2, show t < i + 1 by omega]; omega
      · simp [e, e2, show ¬ t < i + 1 by omega]
theorem or_pow {k t : Nat} (ht : t < 16) (h : k < 2 ^ t) : nI k ||| ((1 : Int32) <<< (nI t &&& 31)) = nI (k + 2 ^ t) := by
  refine b_ext (fun i hi => ?_)
  rw [b_or, bt_nI hi, bt_one (by omega) hi, bt_nI hi, tb_add h]
/-- the carriers as a number; their count by the reference -/
def crK (B : kB) (b : Nat) : Nat → Nat
  | 0 => 0
  | t + 1 => if t ≤ b then 0 else if qCar B b (carN B b t) t then crK B b t + 2 ^ t else crK B b t
theorem crK_lt {B : kB} {b : Nat} : ∀ t, crK B b t < 2 ^ t := by
  intro t
  induction t with
  | zero => exact Nat.one_pos
  | succ t ih =>
    have q : 2 ^ (t + 1) = 2 ^ t + 2 ^ t := by rw [Nat.pow_succ]; omega
    rw [crK]
    split
    · exact Nat.two_pow_pos _
    · split <;> omega
theorem carN_K {B : kB} {b : Nat} : ∀ t, t ≤ 16 → carN B b t = nI (crK B b t) := by
  intro t
  induction t with
  | zero => intro _; rfl
  | succ t ih =>
    intro ht
    rw [carN, crK]
    by_cases e : t ≤ b
    · simp [e]; rfl
    · simp only [if_neg e]
      split
      · rw [ih (by omega), or_pow (by omega) (crK_lt t)]
      · exact ih (by omega)
def crS (B : kB) (b : Nat) : Nat → Int32
  | 0 => (1 : Int32) <<< (nI b &&& 31)
  | t + 1 => if t ≤ b then (1 : Int32) <<< (nI b &&& 31) else if decide (B t 0 = 3) && !decide (B t 2 &&& crS B b t = 0) then crS B b t ||| ((1 : Int32) <<< (nI t &&& 31)) else crS B b t
def crN (B : kB) (b : Nat) : Nat → Int32
  | 0 => 0
  | t + 1 => if t ≤ b then 0 else if decide (B t 0 = 3) && !decide (B t 2 &&& crS B b t = 0) then crN B b t + 1 else crN B b t
theorem crS_car {B : kB} {b : Nat} (hb : b < 16) : ∀ t, crS B b t = carN B b t ||| ((1 : Int32) <<< (nI b &&& 31)) := by
  intro t
  induction t with
  | zero => rw [crS, carN]; exact (Int32.zero_or).symm
  | succ t ih =>
    rw [crS, carN]
    by_cases e : t ≤ b
    · simp only [if_pos e]; exact (Int32.zero_or).symm
    · simp only [if_neg e]
      rw [show (decide (B t 0 = 3) && !decide (B t 2 &&& crS B b t = 0)) = qCar B b (carN B b t) t from ?_, ih]
      · split
        · rw [Int32.or_assoc, Int32.or_assoc, Int32.or_comm ((1 : Int32) <<< (nI t &&& 31))]
        · rfl
      · rw [ih]
        unfold qCar
        rw [tld_bt (by omega)]
        congr 1
        rw [dec_or (by omega)]
        cases bt (B t 2) b <;> simp
theorem qCar_S {B : kB} {b t : Nat} (hb : b < 16) : (decide (B t 0 = 3) && !decide (B t 2 &&& crS B b t = 0)) = qCar B b (carN B b t) t := by
  rw [crS_car hb]
  unfold qCar
  rw [tld_bt (by omega)]
  congr 1
  rw [dec_or (by omega)]
  cases bt (B t 2) b <;> simp
theorem crN_bit {B : kB} {b : Nat} (hb : b < 16) : ∀ t, t ≤ 16 → crN B b t = bitC (carN B b t) := by
  intro t ht
  have hlt : ∀ i, i ≤ 16 → crK B b i < 65536 := fun i hi => Nat.lt_of_lt_of_le (crK_lt i) (Nat.pow_le_pow_right (by decide) hi)
  rw [carN_K t ht, bitC_pop (hlt t ht)]
  induction t with
  | zero =>
    simp only [crN, crK]
    decide
  | succ t ih =>
    rw [crN, crK, qCar_S hb]
    by_cases e : t ≤ b
    · simp only [if_pos e]; rfl
    · simp only [if_neg e]
      split
      · rw [ih (by omega), pop_add (crK_lt t), if_pos (by omega), nI_1]
      · exact ih (by omega)

theorem anyN_i {n : Nat} {P : Nat → Bool} : anyN n P = true ↔ ∃ b, b < n ∧ P b = true := by
  constructor
  · intro h
    induction n with
    | zero => exact absurd h (by simp [anyN])
    | succ n ih =>
      rw [anyN, Bool.or_eq_true] at h
      rcases h with h | h
      · obtain ⟨b, hb, e⟩ := ih h
        exact ⟨b, by omega, e⟩
      · exact ⟨n, by omega, h⟩
  · rintro ⟨b, hb, e⟩
    exact anyN_t hb e
theorem anyN_c {n : Nat} {P Q : Nat → Bool} (h : ∀ b, b < n → P b = Q b) : anyN n P = anyN n Q := by
  induction n with
  | zero => rfl
  | succ n ih => rw [anyN, anyN, ih (fun b hb => h b (by omega)), h n (by omega)]
/-- ticks and skips point to later parts -/
def ptB (n : Nat) (B : kB) : Prop := ∀ b, b < n → ∀ p, p < 5 → (B b 0 = 1 ∨ B b 0 = 2) → B b 2 = nI p → ∃ q, q < p ∧ B b 1 = nI q
theorem wfB.p {n : Nat} {B : kB} (h : wfB n B) : ptB n B := by
  intro b hb p hp hk h2
  rcases (h b hb).2 with ⟨q, -⟩ | ⟨-, -, q | ⟨i, j, q1, q2, q3, q4⟩⟩ | ⟨-, i, j, l, q1, q2, q3, q4, -⟩ | ⟨q, -⟩
  · rcases hk with e | e <;> rw [e] at q <;> exact absurd q (by decide)
  · rw [h2] at q
    have z : (nI p).toInt = (-1 : Int32).toInt := by rw [q]
    rw [nI_toInt (by omega)] at z
    have e1 : (-1 : Int32).toInt = -1 := by decide
    omega
  · rw [h2] at q2
    have z := (nI_eq (by omega) (by omega)).mp q2
    exact ⟨i, by omega, q1⟩
  · rw [h2] at q2
    have z := (nI_eq (by omega) (by omega)).mp q2
    exact ⟨i, by omega, q1⟩
  · rcases hk with e | e <;> rw [e] at q <;> exact absurd q (by decide)
theorem tld_N {K i : Nat} (hi : i < 31) : tld (nI K) (nI i) = K.testBit i := by rw [tld_bt hi, bt_nI (by omega)]
def stB (B : kB) (n i : Nat) (m : Int32) : Bool := tikd B n (nI i) m && !skpd B n (nI i) m
theorem stB_c {n : Nat} {B : kB} (h : ptB n B) {i : Nat} (hi : i < 5) {m m' : Int32} (hm : ∀ q, q < i → tld m (nI q) = tld m' (nI q)) : stB B n i m = stB B n i m' := by
  have ho : ∀ b, b < n → (B b 0 = 1 ∨ B b 0 = 2) → B b 2 = nI i → qOpn B m b = qOpn B m' b := by
    intro b hb hk h2
    obtain ⟨q, hq, e⟩ := h b hb i hi hk h2
    rw [qOpn, qOpn, e, hm q hq]
  have h1 : tikd B n (nI i) m = tikd B n (nI i) m' := by
    unfold tikd
    rw [anyN_c (P := qTik B (nI i) m) (Q := qTik B (nI i) m') ?_]
    intro b hb
    unfold qTik
    by_cases e : qFor B 1 (nI i) b = true
    · simp only [qFor, Bool.and_eq_true, decide_eq_true_eq] at e
      rw [ho b hb (Or.inl e.1) e.2]
    · simp [e]
  have h2 : skpd B n (nI i) m = skpd B n (nI i) m' := by
    unfold skpd
    refine anyN_c (fun b hb => ?_)
    unfold qCls
    by_cases e : qFor B 2 (nI i) b = true
    · simp only [qFor, Bool.and_eq_true, decide_eq_true_eq] at e
      rw [ho b hb (Or.inr e.1) e.2]
    · simp [e]
  rw [stB, stB, h1, h2]
def opK (B : kB) (n : Nat) : Nat → Nat
  | 0 => 1
  | p + 1 => if p = 0 then 1 else if stB B n p (nI (opK B n p)) then opK B n p + 2 ^ p else opK B n p
theorem opK_lt {B : kB} {n : Nat} : ∀ p, opK B n (p + 1) < 2 ^ (p + 1) := by
  intro p
  induction p with
  | zero => exact Nat.one_lt_two_pow (by decide)
  | succ p ih =>
    have q : 2 ^ (p + 1 + 1) = 2 ^ (p + 1) + 2 ^ (p + 1) := by rw [Nat.pow_succ 2 (p + 1)]; omega
    rw [opK, if_neg (by omega)]
    split <;> omega
theorem opmN_K {B : kB} {n : Nat} : ∀ p, p < 16 → opmN B n p = nI (opK B n p) := by
  intro p
  induction p with
  | zero => intro _; rfl
  | succ p ih =>
    intro hp
    by_cases e : p = 0
    · subst e; rfl
    · obtain ⟨r, rfl⟩ : ∃ r, p = r + 1 := ⟨p - 1, by omega⟩
      rw [opmN, opK, if_neg e, if_neg e, ih (by omega)]
      unfold stB
      split
      · rw [or_pow (by omega) (opK_lt r)]
      · rfl
theorem opK_bit {B : kB} {n i : Nat} : ∀ P, i < P → (opK B n P).testBit i = (decide (i = 0) || stB B n i (nI (opK B n i))) := by
  intro P
  induction P with
  | zero => intro h; omega
  | succ P ih =>
    intro h
    by_cases e0 : P = 0
    · subst e0
      obtain rfl : i = 0 := by omega
      simp [opK]
    · obtain ⟨r, rfl⟩ : ∃ r, P = r + 1 := ⟨P - 1, by omega⟩
      rw [opK, if_neg e0]
      by_cases e : i = r + 1
      · subst e
        have z : (opK B n (r + 1)).testBit (r + 1) = false := Nat.testBit_lt_two_pow (opK_lt r)
        by_cases s : stB B n (r + 1) (nI (opK B n (r + 1))) = true
        · rw [if_pos s, tb_add (opK_lt r), z, s]; simp
        · rw [if_neg s, z]; simp [s]
      · have q := ih (by omega)
        split
        · rw [tb_add (opK_lt r), q, decide_eq_false e, Bool.or_false]
        · exact q
theorem opm_K {B : kB} {n : Nat} : opm B n = nI (opK B n 5) := opmN_K 5 (by decide)
theorem opm_bit {B : kB} {n : Nat} (h : ptB n B) {i : Nat} (hi : i < 5) : tld (opm B n) (nI i) = (decide (i = 0) || stB B n i (opm B n)) := by
  rw [opm_K, tld_N (by omega), opK_bit 5 hi, stB_c h hi (m := nI (opK B n i)) (m' := nI (opK B n 5))]
  intro q hq
  rw [tld_N (by omega), tld_N (by omega), opK_bit i hq, opK_bit 5 (by omega)]
theorem opm_uniq {B : kB} {n K : Nat} (h : ptB n B) (hK : K < 32) (hb : ∀ i, i < 5 → tld (nI K) (nI i) = (decide (i = 0) || stB B n i (nI K))) : opm B n = nI K := by
  have q : ∀ P, P ≤ 5 → ∀ i, i < P → (opK B n 5).testBit i = K.testBit i := by
    intro P
    induction P with
    | zero => intro _ i hi; omega
    | succ P ih =>
      intro hP i hi
      by_cases e : i = P
      · subst e
        have z := hb i (by omega)
        rw [tld_N (by omega)] at z
        have y := opm_bit h (show i < 5 by omega)
        rw [opm_K, tld_N (by omega)] at y
        rw [y, z, stB_c h (by omega) (m := nI (opK B n 5)) (m' := nI K)]
        intro q hq
        rw [tld_N (by omega), tld_N (by omega)]
        exact ih (by omega) q hq
      · exact ih (by omega) i (by omega)
  rw [opm_K]
  congr 1
  refine Nat.eq_of_testBit_eq (fun i => ?_)
  by_cases e : i < 5
  · exact q 5 (by decide) i e
  · have w : 2 ^ 5 ≤ 2 ^ i := Nat.pow_le_pow_right (by decide) (by omega)
    rw [Nat.testBit_lt_two_pow (Nat.lt_of_lt_of_le (opK_lt 4) w), Nat.testBit_lt_two_pow (Nat.lt_of_lt_of_le hK w)]
/-- the boxes whose answers choose -/
def mtB (B : kB) (b : Nat) : Bool := qEmp B b && (decide (B b 0 = 2) || (decide (B b 0 = 1) && !decide (B b 2 = -1)))
def chB (B : kB) (b : Nat) (f : Bool) : Int32 := if B b 0 = 1 then bI f else if f || decide (B b 3 = 0) then 99 else 0
def asg (B : kB) (n : Nat) (f : Nat → Bool) : kB := fun b w => if w = 4 ∧ b < n ∧ mtB B b = true then chB B b (f b) else B b w
theorem asg_o {B : kB} {n : Nat} {f : Nat → Bool} {b w : Nat} (h : ¬ w = 4) : asg B n f b w = B b w := if_neg (fun q => h q.1)
theorem asg_p {B : kB} {n : Nat} {f : Nat → Bool} (h : ptB n B) : ptB n (asg B n f) := by
  intro b hb p hp
  rw [asg_o (by decide), asg_o (by decide), asg_o (by decide)]
  exact h b hb p hp
theorem nI_m1 {p : Nat} (hp : p < 5) : ¬ nI p = -1 := by
  rcases (by omega : p = 0 ∨ p = 1 ∨ p = 2 ∨ p = 3 ∨ p = 4) with rfl | rfl | rfl | rfl | rfl <;> decide
def qA1 (B : kB) (p M : Int32) (f : Nat → Bool) (b : Nat) : Bool := qFor B 1 p b && (qWts B M b && f b)
def qA2 (B : kB) (p M : Int32) (f : Nat → Bool) (b : Nat) : Bool := qFor B 2 p b && (qWts B M b && (f b || decide (B b 3 = 0)))
theorem tikd_a {B : kB} {n p : Nat} {M : Int32} {f : Nat → Bool} (hp : p < 5) : tikd (asg B n f) n (nI p) M = (tikd B n (nI p) M || anyN n (qA1 B (nI p) M f)) := by
  have e1 : anyN n (qFor (asg B n f) 1 (nI p)) = anyN n (qFor B 1 (nI p)) := anyN_c (fun b _ => by rw [qFor, qFor, asg_o (by decide), asg_o (by decide)])
  have e2 : ∀ b, b < n → qTik (asg B n f) (nI p) M b = (qTik B (nI p) M b || qA1 B (nI p) M f b) := by
    intro b hb
    unfold qTik qA1
    rw [show qFor (asg B n f) 1 (nI p) b = qFor B 1 (nI p) b by rw [qFor, qFor, asg_o (by decide), asg_o (by decide)], show qOpn (asg B n f) M b = qOpn B M b by rw [qOpn, qOpn, asg_o (by decide)]]
    by_cases hf : qFor B 1 (nI p) b = true
    · have hq := hf
      simp only [qFor, Bool.and_eq_true, decide_eq_true_eq] at hq
      rw [hf]
      by_cases he : B b 4 = -1
      · have hm : mtB B b = true := by simp [mtB, qEmp, hq.1, hq.2, he, nI_m1 hp]
        have ha : asg B n f b 4 = bI (f b) := by rw [asg, if_pos ⟨rfl, hb, hm⟩, chB, if_pos hq.1]
        rw [ha]
        have hn : decide (B b 4 = 1) = false := by rw [he]; decide
        rw [hn, qWts, show qEmp B b = true by simp [qEmp, hq.1, he]]
        cases f b <;> cases qOpn B M b <;> decide
      · have hm : mtB B b = false := by simp [mtB, qEmp, he]
        have ha : asg B n f b 4 = B b 4 := by rw [asg, if_neg (by rw [hm]; simp)]
        rw [ha, qWts, show qEmp B b = false by simp [qEmp, he]]
        simp
    · simp [hf]
  unfold tikd
  rw [e1, anyN_c e2]
  have e3 : anyN n (fun b => qTik B (nI p) M b || qA1 B (nI p) M f b) = (anyN n (qTik B (nI p) M) || anyN n (qA1 B (nI p) M f)) := by
    clear e1 e2
    induction n with
    | zero => rfl
    | succ n ih => simp only [anyN, ih]; cases anyN n (qTik B (nI p) M) <;> cases qTik B (nI p) M n <;> simp
  rw [e3]
  cases anyN n (qTik B (nI p) M) <;> cases anyN n (qA1 B (nI p) M f) <;> simp
theorem skpd_a {B : kB} {n p : Nat} {M : Int32} {f : Nat → Bool} (hw : wfB n B) (hp : p < 5) : skpd (asg B n f) n (nI p) M = (skpd B n (nI p) M || anyN n (qA2 B (nI p) M f)) := by
  have e2 : ∀ b, b < n → qCls (asg B n f) (nI p) M b = (qCls B (nI p) M b || qA2 B (nI p) M f b) := by
    intro b hb
    unfold qCls qA2
    rw [show qFor (asg B n f) 2 (nI p) b = qFor B 2 (nI p) b by rw [qFor, qFor, asg_o (by decide), asg_o (by decide)], show qOpn (asg B n f) M b = qOpn B M b by rw [qOpn, qOpn, asg_o (by decide)]]
    by_cases hf : qFor B 2 (nI p) b = true
    · have hq := hf
      simp only [qFor, Bool.and_eq_true, decide_eq_true_eq] at hq
      rw [hf, asg_o (w := 3) (by decide)]
      by_cases he : B b 4 = -1
      · have hm : mtB B b = true := by simp [mtB, qEmp, hq.1, he]
        obtain ⟨l, hl, h3⟩ : ∃ l, l ≤ 99 ∧ B b 3 = nI l := by
          rcases (hw b hb).2 with ⟨q, -⟩ | ⟨q, -⟩ | ⟨-, i, j, l, -, -, -, -, q5, q6⟩ | ⟨q, -⟩
          · rw [hq.1] at q; exact absurd q (by decide)
          · rw [hq.1] at q; exact absurd q (by decide)
          · exact ⟨l, q5, q6⟩
          · rw [hq.1] at q; exact absurd q (by decide)
        have ha : asg B n f b 4 = if f b || decide (B b 3 = 0) then 99 else 0 := by rw [asg, if_pos ⟨rfl, hb, hm⟩, chB, if_neg (by rw [hq.1]; decide)]
        have hE : qEmp (asg B n f) b = false := by
          unfold qEmp
          rw [ha, asg_o (by decide), hq.1]
          split <;> decide
        rw [hE, ha, qWts, show qEmp B b = true by simp [qEmp, hq.1, he]]
        have h99 : ¬ (99 : Int32) < nI l := by rw [show (99 : Int32) = nI 99 from rfl, nI_ltI (by omega) (by omega)]; omega
        have h0 : B b 3 = 0 ∨ (0 : Int32) < B b 3 := by
          rw [h3]
          by_cases z : l = 0
          · exact Or.inl (by rw [z]; rfl)
          · exact Or.inr (by rw [show (0 : Int32) = nI 0 from rfl, nI_ltI (by omega) (by omega)]; omega)
        by_cases hff : (f b || decide (B b 3 = 0)) = true
        · rw [if_pos hff, hff, decide_eq_false (h3 ▸ h99)]
          cases qOpn B M b <;> simp
        · rw [if_neg hff]
          have hz : ¬ B b 3 = 0 := fun q => hff (by simp [q])
          rw [decide_eq_true (h0.resolve_left hz)]
          simp [hff]
      · have hm : mtB B b = false := by simp [mtB, qEmp, he]
        have ha : asg B n f b 4 = B b 4 := by rw [asg, if_neg (by rw [hm]; simp)]
        rw [ha, qWts, show qEmp (asg B n f) b = qEmp B b by rw [qEmp, qEmp, ha, asg_o (by decide)], show qEmp B b = false by simp [qEmp, he]]
        simp
    · simp [hf]
  unfold skpd
  rw [anyN_c e2]
  clear e2
  induction n with
  | zero => rfl
  | succ n ih =>
    simp only [anyN]
    rw [ih (fun b hb => hw b (by omega))]
    cases anyN n (qCls B (nI p) M) <;> cases qCls B (nI p) M n <;> simp
theorem canT_i {B : kB} {n : Nat} {M : Int32} : canT B n M 5 = true ↔ ∀ p, 1 ≤ p → p < 5 → (if tld M (nI p) then canO B n (nI p) M else canC B n (nI p) M) = true := by
  simp only [canT, Bool.and_eq_true]
  constructor
  · rintro ⟨⟨⟨⟨⟨-, -⟩, h1⟩, h2⟩, h3⟩, h4⟩ p hp1 hp
    rcases (by omega : p = 1 ∨ p = 2 ∨ p = 3 ∨ p = 4) with rfl | rfl | rfl | rfl
    · simpa using h1
    · simpa using h2
    · simpa using h3
    · simpa using h4
  · intro h
    refine ⟨⟨⟨⟨⟨trivial, by simp⟩, ?_⟩, ?_⟩, ?_⟩, ?_⟩
    · simpa using h 1 (by omega) (by omega)
    · simpa using h 2 (by omega) (by omega)
    · simpa using h 3 (by omega) (by omega)
    · simpa using h 4 (by omega) (by omega)
theorem hasW_i {B : kB} {n : Nat} {kd p lim M : Int32} : hasW B n kd p lim M = true ↔ ∃ b, b < n ∧ qFor B kd p b = true ∧ qWts B M b = true ∧ ¬ lim < B b 3 := by
  unfold hasW
  rw [anyN_i]
  refine exists_congr (fun b => ?_)
  simp [qHW]
theorem qA1_i {B : kB} {n : Nat} {p M : Int32} {f : Nat → Bool} : anyN n (qA1 B p M f) = true ↔ ∃ b, b < n ∧ qFor B 1 p b = true ∧ qWts B M b = true ∧ f b = true := by
  rw [anyN_i]
  refine exists_congr (fun b => ?_)
  simp [qA1]
theorem qA2_i {B : kB} {n : Nat} {p M : Int32} {f : Nat → Bool} : anyN n (qA2 B p M f) = true ↔ ∃ b, b < n ∧ qFor B 2 p b = true ∧ qWts B M b = true ∧ (f b = true ∨ B b 3 = 0) := by
  rw [anyN_i]
  refine exists_congr (fun b => ?_)
  simp [qA2]
theorem lim_t {n : Nat} {B : kB} (hw : wfB n B) {b : Nat} (hb : b < n) {p : Int32} (h : qFor B 1 p b = true) : ¬ (-1 : Int32) < B b 3 := by
  simp only [qFor, Bool.and_eq_true, decide_eq_true_eq] at h
  rcases (hw b hb).2 with ⟨q, -⟩ | ⟨-, q, -⟩ | ⟨q, -⟩ | ⟨q, -⟩
  · rw [h.1] at q; exact absurd q (by decide)
  · rw [q]; decide
  · rw [h.1] at q; exact absurd q (by decide)
  · rw [h.1] at q; exact absurd q (by decide)
theorem lim_s {n : Nat} {B : kB} (hw : wfB n B) {b : Nat} (hb : b < n) {p : Int32} (h : qFor B 2 p b = true) : ∃ l, l ≤ 99 ∧ B b 3 = nI l := by
  simp only [qFor, Bool.and_eq_true, decide_eq_true_eq] at h
  rcases (hw b hb).2 with ⟨q, -⟩ | ⟨q, -⟩ | ⟨-, i, j, l, -, -, -, -, q5, q6⟩ | ⟨q, -⟩
  · rw [h.1] at q; exact absurd q (by decide)
  · rw [h.1] at q; exact absurd q (by decide)
  · exact ⟨l, q5, q6⟩
  · rw [h.1] at q; exact absurd q (by decide)
theorem lim_0 {l : Nat} (hl : l ≤ 99) (h : ¬ (0 : Int32) < nI l) : nI l = 0 := by
  rw [show (0 : Int32) = nI 0 from rfl, nI_ltI (by omega) (by omega)] at h
  rw [show l = 0 by omega]; rfl
theorem lim_99 {l : Nat} (hl : l ≤ 99) : ¬ (99 : Int32) < nI l := by
  rw [show (99 : Int32) = nI 99 from rfl, nI_ltI (by omega) (by omega)]; omega
/-- what the choices open can stand -/
theorem asg_can {n : Nat} {B : kB} (hw : wfB n B) {f : Nat → Bool} : canT B n (opm (asg B n f) n) 5 = true := by
  rw [canT_i]
  intro p hp1 hp
  have q := opm_bit (asg_p (f := f) hw.p) hp
  rw [decide_eq_false (by omega), Bool.false_or, stB, tikd_a hp, skpd_a hw hp] at q
  generalize opm (asg B n f) n = M at q
  by_cases hb : tld M (nI p) = true
  · rw [hb] at q
    rw [if_pos hb]
    have q2 := q.symm
    simp only [Bool.and_eq_true, Bool.or_eq_true, Bool.not_eq_true', Bool.or_eq_false_iff] at q2
    obtain ⟨q2, q3, q4⟩ := q2
    have q5 : (tikd B n (nI p) M || hasW B n 1 (nI p) (-1) M) = true := by
      rw [Bool.or_eq_true]
      rcases q2 with q2 | q2
      · exact Or.inl q2
      · obtain ⟨b, h1, h2, h3, -⟩ := qA1_i.mp q2
        exact Or.inr (hasW_i.mpr ⟨b, h1, h2, h3, lim_t hw h1 h2⟩)
    have q6 : hasW B n 2 (nI p) 0 M = false := by
      cases e : hasW B n 2 (nI p) 0 M with
      | false => rfl
      | true =>
        obtain ⟨b, h1, h2, h3, h4⟩ := hasW_i.mp e
        obtain ⟨l, hl, h5⟩ := lim_s hw h1 h2
        rw [h5] at h4
        rw [qA2_i.mpr ⟨b, h1, h2, h3, Or.inr (h5.trans (lim_0 hl h4))⟩] at q4
        cases q4
    rw [canO, q5, q3, q6]; rfl
  · rw [if_neg hb]
    have q1 : tld M (nI p) = false := by simpa using hb
    rw [q1] at q
    have q2 := q.symm
    rw [canC]
    cases e1 : tikd B n (nI p) M with
    | false => rfl
    | true =>
      rw [e1] at q2
      simp only [Bool.true_or, Bool.true_and, Bool.not_eq_false', Bool.or_eq_true] at q2
      rcases q2 with q2 | q2
      · rw [q2]; rfl
      · obtain ⟨b, h1, h2, h3, -⟩ := qA2_i.mp q2
        obtain ⟨l, hl, h5⟩ := lim_s hw h1 h2
        rw [hasW_i.mpr ⟨b, h1, h2, h3, h5 ▸ lim_99 hl⟩]
        cases skpd B n (nI p) M <;> rfl
/-- each mask that can stand is opened by some choices -/
theorem can_asg {n : Nat} {B : kB} (hw : wfB n B) {K : Nat} (hK : K < 32) (h1 : K.testBit 0 = true) (hc : canT B n (nI K) 5 = true) : ∃ f, opm (asg B n f) n = nI K := by
  refine ⟨fun b => if B b 0 = 1 then tld (nI K) (B b 2) else !tld (nI K) (B b 2), ?_⟩
  generalize hf : (fun b => if B b 0 = 1 then tld (nI K) (B b 2) else !tld (nI K) (B b 2)) = f
  have f1 : ∀ b p, qFor B 1 p b = true → f b = tld (nI K) p := by
    intro b p h
    simp only [qFor, Bool.and_eq_true, decide_eq_true_eq] at h
    rw [← hf]
    show (if B b 0 = 1 then tld (nI K) (B b 2) else !tld (nI K) (B b 2)) = _
    rw [if_pos h.1, h.2]
  have f2 : ∀ b p, qFor B 2 p b = true → f b = !tld (nI K) p := by
    intro b p h
    simp only [qFor, Bool.and_eq_true, decide_eq_true_eq] at h
    rw [← hf]
    show (if B b 0 = 1 then tld (nI K) (B b 2) else !tld (nI K) (B b 2)) = _
    rw [if_neg (by rw [h.1]; decide), h.2]
  refine opm_uniq (asg_p hw.p) hK (fun i hi => ?_)
  by_cases e0 : i = 0
  · subst e0; rw [tld_N (by decide), h1]; rfl
  · rw [decide_eq_false e0, Bool.false_or, stB, tikd_a hi, skpd_a hw hi]
    have q := canT_i.mp hc i (by omega) hi
    by_cases hb : tld (nI K) (nI i) = true
    · rw [if_pos hb, canO] at q
      simp only [Bool.and_eq_true, Bool.or_eq_true, Bool.not_eq_true'] at q
      obtain ⟨q1, q2, q3⟩ := q
      have a1 : (tikd B n (nI i) (nI K) || anyN n (qA1 B (nI i) (nI K) f)) = true := by
        rw [Bool.or_eq_true]
        rcases q1 with q1 | q1
        · exact Or.inl q1
        · obtain ⟨b, z1, z2, z3, -⟩ := hasW_i.mp q1
          exact Or.inr (qA1_i.mpr ⟨b, z1, z2, z3, (f1 b _ z2).trans hb⟩)
      have a2 : anyN n (qA2 B (nI i) (nI K) f) = false := by
        cases e : anyN n (qA2 B (nI i) (nI K) f) with
        | false => rfl
        | true =>
          obtain ⟨b, z1, z2, z3, z4⟩ := qA2_i.mp e
          rcases z4 with z4 | z4
          · rw [f2 b _ z2, hb] at z4; cases z4
          · rw [hasW_i.mpr ⟨b, z1, z2, z3, by rw [z4]; decide⟩] at q3; cases q3
      rw [hb, a1, a2, q2]; rfl
    · rw [if_neg hb, canC] at q
      have hb' : tld (nI K) (nI i) = false := by simpa using hb
      rw [hb']
      have a1 : anyN n (qA1 B (nI i) (nI K) f) = false := by
        cases e : anyN n (qA1 B (nI i) (nI K) f) with
        | false => rfl
        | true =>
          obtain ⟨b, z1, z2, z3, z4⟩ := qA1_i.mp e
          rw [f1 b _ z2, hb'] at z4; cases z4
      rw [a1, Bool.or_false]
      cases e1 : tikd B n (nI i) (nI K) with
      | false => rfl
      | true =>
        rw [e1] at q
        simp only [Bool.not_true, Bool.false_or, Bool.or_eq_true] at q
        rcases q with q | q
        · rw [q]; rfl
        · obtain ⟨b, z1, z2, z3, -⟩ := hasW_i.mp q
          rw [qA2_i.mpr ⟨b, z1, z2, z3, Or.inl (by rw [f2 b _ z2, hb']; rfl)⟩, Bool.or_true]; rfl
/-- choices by a code -/
theorem code_ex {P f : Nat → Bool} : ∀ n, ∃ c, c < 2 ^ cnK n P ∧ ∀ b, b < n → P b = true → c.testBit (cnK b P) = f b := by
  intro n
  induction n with
  | zero => exact ⟨0, Nat.two_pow_pos _, fun b hb => absurd hb (by omega)⟩
  | succ n ih =>
    obtain ⟨c, hc, h⟩ := ih
    have hm : ∀ b, b < n → P b = true → cnK b P < cnK n P := by
      intro b hb hp
      have q : ∀ d, cnK b P + 1 ≤ cnK (b + 1 + d) P := by
        intro d
        induction d with
        | zero => rw [Nat.add_zero, cnK, if_pos hp]; omega
        | succ d ihd => rw [← Nat.add_assoc, cnK]; omega
      have z := q (n - (b + 1))
      rw [show b + 1 + (n - (b + 1)) = n by omega] at z
      omega
    cases hp : P n with
    | false =>
      refine ⟨c, ?_, fun b hb hpb => ?_⟩
      · rw [cnK, hp]; exact hc
      · by_cases e : b = n
        · subst e; rw [hp] at hpb; cases hpb
        · exact h b (by omega) hpb
    | true =>
      have q : 2 ^ (cnK n P + 1) = 2 ^ cnK n P + 2 ^ cnK n P := by rw [Nat.pow_succ]; omega
      refine ⟨c + if f n then 2 ^ cnK n P else 0, ?_, fun b hb hpb => ?_⟩
      · rw [cnK, hp, if_pos rfl]; split <;> omega
      · have z : c.testBit (cnK n P) = false := Nat.testBit_lt_two_pow hc
        by_cases e : b = n
        · subst e
          cases hf : f b with
          | false => simpa using z
          | true => rw [if_pos rfl, tb_add hc, z]; simp
        · have y := hm b (by omega) hpb
          split
          · rw [tb_add hc, h b (by omega) hpb, decide_eq_false (by omega), Bool.or_false]
          · rw [Nat.add_zero]; exact h b (by omega) hpb
def asgC (B : kB) (n c : Nat) : kB := asg B n (fun b => c.testBit (cnK b (mtB B)))
def fwF (B : kB) (n c : Nat) : Nat := cnK n (qWts B (opm (asgC B n c) n))
def fwN (F : Nat → Nat) : Nat → Nat
  | 0 => 16
  | c + 1 => if F c < fwN F c then F c else fwN F c
theorem fwN_le {F : Nat → Nat} {c : Nat} : ∀ m, c < m → fwN F m ≤ F c := by
  intro m
  induction m with
  | zero => intro h; omega
  | succ m ih =>
    intro h
    rw [fwN]
    by_cases e : c = m
    · subst e; split <;> omega
    · have := ih (by omega)
      split <;> omega
theorem le_fwN {F : Nat → Nat} {x : Nat} (hx : x ≤ 16) : ∀ m, (∀ c, c < m → x ≤ F c) → x ≤ fwN F m := by
  intro m
  induction m with
  | zero => intro _; exact hx
  | succ m ih =>
    intro h
    rw [fwN]
    have := ih (fun c hc => h c (by omega))
    have := h m (by omega)
    split <;> omega
theorem fwN_16 {F : Nat → Nat} : ∀ m, fwN F m ≤ 16 := by
  intro m
  induction m with
  | zero => exact Nat.le_refl _
  | succ m ih => rw [fwN]; split <;> omega
def shK (B : kB) (n : Nat) : Nat → Nat
  | 0 => 16
  | j + 1 => if canT B n (nI (2 * j + 1)) 5 then (if cnK n (qWts B (nI (2 * j + 1))) < shK B n j then cnK n (qWts B (nI (2 * j + 1))) else shK B n j) else shK B n j
theorem shK_16 {B : kB} {n : Nat} : ∀ j, shK B n j ≤ 16 := by
  intro j
  induction j with
  | zero => exact Nat.le_refl _
  | succ j ih => rw [shK]; split; split <;> omega; exact ih
theorem minI_N {a b : Nat} (ha : a < 2 ^ 31) (hb : b < 2 ^ 31) : minI (nI a) (nI b) = nI (if b < a then b else a) := by
  unfold minI
  by_cases e : b < a
  · rw [if_pos e, if_pos ((nI_ltI hb ha).mpr e)]
  · rw [if_neg e, if_neg (fun q => e ((nI_ltI hb ha).mp q))]
theorem shoN_K {B : kB} {n : Nat} (hn : n ≤ 16) : ∀ j, shoN B n j = nI (shK B n j) := by
  intro j
  induction j with
  | zero => rfl
  | succ j ih =>
    have h1 := shK_16 (B := B) (n := n) j
    have h2 := cnK_le (n := n) (P := qWts B (nI (2 * j + 1)))
    rw [shoN, shK, ih, cntN_K]
    split
    · rw [minI_N (by omega) (by omega)]
    · rfl
theorem shK_le {B : kB} {n k : Nat} : ∀ j, k < j → canT B n (nI (2 * k + 1)) 5 = true → shK B n j ≤ cnK n (qWts B (nI (2 * k + 1))) := by
  intro j
  induction j with
  | zero => intro h; omega
  | succ j ih =>
    intro h hc
    rw [shK]
    by_cases e : k = j
    · subst e; rw [if_pos hc]; split <;> omega
    · have := ih (by omega) hc
      split
      · split <;> omega
      · exact this
theorem le_shK {B : kB} {n x : Nat} (hx : x ≤ 16) : ∀ j, (∀ k, k < j → canT B n (nI (2 * k + 1)) 5 = true → x ≤ cnK n (qWts B (nI (2 * k + 1)))) → x ≤ shK B n j := by
  intro j
  induction j with
  | zero => intro _; exact hx
  | succ j ih =>
    intro h
    have q := ih (fun k hk => h k (by omega))
    rw [shK]
    split
    · rename_i hc
      have := h j (by omega) hc
      split <;> omega
    · exact q
/-- the shortest list by masks is the shortest by choices -/
theorem sho_fw {n : Nat} {B : kB} (hw : wfB n B) (hn : n ≤ 16) : sho B n = nI (fwN (fwF B n) (2 ^ cnK n (mtB B))) := by
  rw [sho, shoN_K hn]
  congr 1
  refine Nat.le_antisymm ?_ ?_
  · refine le_fwN (shK_16 _) _ (fun c _ => ?_)
    have hcan := asg_can hw (f := fun b => c.testBit (cnK b (mtB B)))
    have hodd := opm_bit (asg_p (f := fun b => c.testBit (cnK b (mtB B))) hw.p) (show 0 < 5 by decide)
    unfold fwF asgC
    have e := opm_K (B := asg B n (fun b => c.testBit (cnK b (mtB B)))) (n := n)
    have hlt : opK (asg B n (fun b => c.testBit (cnK b (mtB B)))) n 5 < 32 := opK_lt 4
    rw [e] at hcan hodd ⊢
    generalize opK (asg B n (fun b => c.testBit (cnK b (mtB B)))) n 5 = K at hcan hodd hlt
    rw [tld_N (by decide)] at hodd
    have h2 : K % 2 = 1 := by
      have z : K.testBit 0 = true := by rw [hodd]; rfl
      rw [Nat.testBit_zero] at z
      exact of_decide_eq_true z
    obtain ⟨k, rfl⟩ : ∃ k, K = 2 * k + 1 := ⟨K / 2, by omega⟩
    exact shK_le 16 (by omega) hcan
  · refine le_shK (fwN_16 _) _ (fun k hk hc => ?_)
    obtain ⟨f, hf⟩ := can_asg hw (K := 2 * k + 1) (by omega) (by rw [Nat.testBit_zero]; exact decide_eq_true (by omega)) hc
    obtain ⟨c, hc1, hc2⟩ := code_ex (P := mtB B) (f := f) n
    have e : asgC B n c = asg B n f := by
      funext b w
      unfold asgC asg
      by_cases q : w = 4 ∧ b < n ∧ mtB B b = true
      · rw [if_pos q, if_pos q]
        show chB B b (c.testBit (cnK b (mtB B))) = _
        rw [hc2 b q.2.1 q.2.2]
      · rw [if_neg q, if_neg q]
    have z := fwN_le (F := fwF B n) _ hc1
    unfold fwF at z
    rw [e, hf] at z
    exact z

theorem upd_upd {f : Nat → Int32} {i : Nat} {a b : Int32} : upd (upd f i a) i b = upd f i b := by
  funext j
  simp only [upd]
  split <;> rfl
theorem upd_ne {f : Nat → Int32} {i j : Nat} {a : Int32} (h : ¬ j = i) : upd f i a j = f j := if_neg h
theorem crS_0 {B : kB} {b : Nat} : crS B b (b + 1) = (1 : Int32) <<< (nI b &&& 31) := by rw [crS, if_pos (Nat.le_refl b)]
theorem crN_0 {B : kB} {b : Nat} : crN B b (b + 1) = 0 := by rw [crN, if_pos (Nat.le_refl b)]
theorem upd_eq {f : Nat → Int32} {i : Nat} {a : Int32} : upd f i a i = a := if_pos rfl
theorem cnK_sm {P : Nat → Bool} {b n : Nat} (hb : b < n) (hp : P b = true) : cnK b P < cnK n P := by
  obtain ⟨d, rfl⟩ : ∃ d, n = b + 1 + d := ⟨n - (b + 1), by omega⟩
  induction d with
  | zero => rw [Nat.add_zero, cnK, if_pos hp]; omega
  | succ d ih =>
    have q := ih (by omega)
    rw [← Nat.add_assoc, cnK]
    omega
theorem cnK_at {P : Nat → Bool} {n i : Nat} (h : i < cnK n P) : ∃ b, b < n ∧ P b = true ∧ cnK b P = i := by
  induction n with
  | zero => exact absurd h (by simp [cnK])
  | succ n ih =>
    rw [cnK] at h
    by_cases e : i < cnK n P
    · obtain ⟨b, h1, h2, h3⟩ := ih e
      exact ⟨b, by omega, h2, h3⟩
    · cases hp : P n with
      | false => rw [hp] at h; simp at h; omega
      | true => rw [hp] at h; simp at h; exact ⟨n, by omega, hp, by omega⟩
theorem cnK_u {P : Nat → Bool} {b c : Nat} (hb : P b = true) (hc : P c = true) (h : cnK b P = cnK c P) : b = c := by
  rcases Nat.lt_trichotomy b c with q | q | q
  · have := cnK_sm q hb; omega
  · exact q
  · have := cnK_sm q hc; omega
theorem ch_t {P : Nat → Bool} {CH : Nat → Int32} {j : Nat} (h : ∀ b, b < j → P b = true → CH (cnK b P) = nI b) (_hp : P j = true) : ∀ b, b < j + 1 → P b = true → upd CH (cnK j P) (nI j) (cnK b P) = nI b := by
  intro b hb hpb
  by_cases e : b = j
  · subst e; exact upd_eq
  · rw [upd_ne (by have := cnK_sm (n := j) (by omega : b < j) hpb; omega)]
    exact h b (by omega) hpb
theorem ch_f {P : Nat → Bool} {CH : Nat → Int32} {j k : Nat} (h : ∀ b, b < j → P b = true → CH (cnK b P) = nI b) (hp : P j = false) : ∀ b, b < j + 1 → P b = true → upd CH k (CH k) (cnK b P) = nI b := by
  intro b hb hpb
  have e : ¬ b = j := fun q => by rw [q, hp] at hpb; cases hpb
  rw [show upd CH k (CH k) = CH from by funext i; simp only [upd]; split <;> simp_all]
  exact h b (by omega) hpb
theorem sh1 : ∀ K, K ≤ 16 → (1 : Int32) <<< (nI K &&& 31) = nI (2 ^ K) := by decide +kernel
theorem bit_i {c i : Nat} (hi : i < 31) : (nI c >>> (nI i &&& 31)) &&& 1 = bI (c.testBit i) := by rw [tld_i, tld_N hi]
theorem qOpn_C {B : kB} {n c : Nat} {M : Int32} {b : Nat} : qOpn (asgC B n c) M b = qOpn B M b := by
  unfold qOpn asgC
  rw [asg_o (by decide)]

theorem wi_i {x a b : Int32} : wi x a b = true ↔ a.toInt ≤ x.toInt ∧ x.toInt ≤ b.toInt := by
  simp only [wi, Bool.and_eq_true, Bool.not_eq_true', decide_eq_false_iff_not, Int32.lt_iff_toInt_lt]
  omega
theorem nf {b : Bool} (h : ¬ b = false) : b = true := by cases b with | false => exact absurd rfl h | true => rfl
theorem wi_r {x : Int32} {a b : Nat} (hb : b < 2 ^ 31) (ha : a < 2 ^ 31) (h : wi x (nI a) (nI b) = true) : ∃ w, a ≤ w ∧ w ≤ b ∧ x = nI w := by
  rw [wi_i, nI_toInt ha, nI_toInt hb] at h
  refine ⟨x.toInt.toNat, by omega, by omega, ?_⟩
  refine Int32.toInt_inj.mp ?_
  rw [nI_toInt (by omega)]
  omega
theorem wfB.le {n m : Nat} {B : kB} (h : wfB n B) (hm : m ≤ n) : wfB m B := fun b hb => h b (by omega)
theorem wfB.add {n : Nat} {B : kB} {kd p a lim : Int32} (h : wfB n B) (hp : ∃ q, q < 5 ∧ p = nI q) (hn : (kd = 0 ∧ ∃ t, 1 ≤ t ∧ t ≤ 5 ∧ a = nI t) ∨ (kd = 1 ∧ lim = -1 ∧ (a = -1 ∨ ∃ q r, p = nI q ∧ a = nI r ∧ q < r ∧ r < 5)) ∨ (kd = 2 ∧ ∃ q r l, p = nI q ∧ a = nI r ∧ q < r ∧ r < 5 ∧ l ≤ 99 ∧ lim = nI l) ∨ (kd = 3 ∧ ∀ k, k < 16 → tld a (nI k) = true → k < n ∧ (B k 0 = 0 ∨ B k 0 = 3))) : wfB (n + 1) (bAdd B n kd p a lim) := by
  intro b hb
  by_cases e : b = n
  · subst e
    have f0 : bAdd B b kd p a lim b 0 = kd := if_pos rfl
    have f1 : bAdd B b kd p a lim b 1 = p := if_pos rfl
    have f2 : bAdd B b kd p a lim b 2 = a := if_pos rfl
    have f3 : bAdd B b kd p a lim b 3 = lim := if_pos rfl
    have f4 : bAdd B b kd p a lim b 4 = -1 := if_pos rfl
    rw [f0, f1, f2, f3, f4]
    refine ⟨hp, ?_⟩
    rcases hn with hn | hn | hn | ⟨h1, h2⟩
    · exact Or.inl hn
    · exact Or.inr (Or.inl hn)
    · exact Or.inr (Or.inr (Or.inl hn))
    · refine Or.inr (Or.inr (Or.inr ⟨h1, rfl, fun k hk ht => ?_⟩))
      obtain ⟨z1, z2⟩ := h2 k hk ht
      have fk : bAdd B b kd p a lim k 0 = B k 0 := if_neg (by omega)
      rw [fk]
      exact ⟨z1, z2⟩
  · have fb : ∀ w, bAdd B n kd p a lim b w = B b w := fun w => if_neg e
    rw [fb, fb, fb, fb, fb]
    obtain ⟨q1, q2⟩ := h b (by omega)
    refine ⟨q1, ?_⟩
    rcases q2 with q | q | q | ⟨z1, z2, z3⟩
    · exact Or.inl q
    · exact Or.inr (Or.inl q)
    · exact Or.inr (Or.inr (Or.inl q))
    · refine Or.inr (Or.inr (Or.inr ⟨z1, z2, fun k hk ht => ?_⟩))
      obtain ⟨y1, y2⟩ := z3 k hk ht
      have fk : bAdd B n kd p a lim k 0 = B k 0 := if_neg (by omega)
      rw [fk]
      exact ⟨y1, y2⟩
theorem wf_comb {n : Nat} {B : kB} {p a : Int32} (h : wfB n B) (hc : cdComb n p a = 0) : wfB (n + 1) (bAdd B n 0 p a (-1)) := by
  unfold cdComb at hc
  split at hc
  · cases hc
  · rename_i h1
    split at hc
    · cases hc
    · rename_i h2
      obtain ⟨q, -, q2, q3⟩ := wi_r (x := p) (a := 0) (b := 4) (by decide) (by decide) (nf h1)
      obtain ⟨t, t1, t2, t3⟩ := wi_r (x := a) (a := 1) (b := 5) (by decide) (by decide) (nf h2)
      exact h.add ⟨q, by omega, q3⟩ (Or.inl ⟨rfl, t, t1, t2, t3⟩)
theorem wf_tick {n : Nat} {B : kB} {p a : Int32} (h : wfB n B) (hc : cdTick n p a = 0) : wfB (n + 1) (bAdd B n 1 p a (-1)) := by
  unfold cdTick at hc
  split at hc
  · cases hc
  · rename_i h1
    split at hc
    · cases hc
    · rename_i h2
      obtain ⟨q, -, q2, q3⟩ := wi_r (x := p) (a := 0) (b := 4) (by decide) (by decide) (nf h1)
      have h3 : opnOk p a = true := by simpa using h2
      unfold opnOk at h3
      rw [Bool.or_eq_true, decide_eq_true_eq] at h3
      refine h.add ⟨q, by omega, q3⟩ (Or.inr (Or.inl ⟨rfl, rfl, ?_⟩))
      rcases h3 with h3 | h3
      · exact Or.inl h3
      · rw [q3, nI_1] at h3
        obtain ⟨t, t1, t2, t3⟩ := wi_r (x := a) (a := q + 1) (b := 4) (by decide) (by omega) h3
        exact Or.inr ⟨q, t, q3, t3, by omega, by omega⟩
theorem wf_skip {n : Nat} {B : kB} {p a b : Int32} (h : wfB n B) (hc : cdSkip n p a b = 0) : wfB (n + 1) (bAdd B n 2 p a b) := by
  unfold cdSkip at hc
  split at hc
  · cases hc
  · rename_i h1
    split at hc
    · cases hc
    · rename_i h2
      obtain ⟨q, -, q2, q3⟩ := wi_r (x := p) (a := 0) (b := 3) (by decide) (by decide) (nf h1)
      have h3 : skpOk p a b = true := by simpa using h2
      unfold skpOk at h3
      rw [Bool.and_eq_true, q3, nI_1] at h3
      obtain ⟨t, t1, t2, t3⟩ := wi_r (x := a) (a := q + 1) (b := 4) (by decide) (by omega) h3.1
      obtain ⟨l, -, l2, l3⟩ := wi_r (x := b) (a := 0) (b := 99) (by decide) (by decide) h3.2
      exact h.add ⟨q, by omega, q3⟩ (Or.inr (Or.inr (Or.inl ⟨rfl, q, t, l, q3, t3, by omega, by omega, l2, l3⟩)))
theorem wf_total {n : Nat} {B : kB} {p a : Int32} (h : wfB n B) (hc : cdTotal B n p a = 0) : wfB (n + 1) (bAdd B n 3 p a (-1)) := by
  unfold cdTotal at hc
  split at hc
  · cases hc
  · rename_i h1
    split at hc
    · cases hc
    · rename_i h2
      obtain ⟨q, -, q2, q3⟩ := wi_r (x := p) (a := 0) (b := 4) (by decide) (by decide) (nf h1)
      have h3 : totOk B n a = true := by simpa using h2
      unfold totOk canM at h3
      rw [Bool.and_eq_true, Bool.not_eq_true'] at h3
      refine h.add ⟨q, by omega, q3⟩ (Or.inr (Or.inr (Or.inr ⟨rfl, fun k hk ht => ?_⟩)))
      have z := anyN_f hk h3.2
      unfold canK at z
      rw [ht, Bool.true_and, Bool.not_eq_false'] at z
      simp only [Bool.and_eq_true, Bool.or_eq_true, decide_eq_true_eq] at z
      exact z
theorem wf_ans {n : Nat} {B : kB} {p a : Int32} (h : wfB n B) (hc : cdAnswer B n p a = 0) : wfB n (bUp B p.toNatClampNeg 4 a) := by
  unfold cdAnswer at hc
  split at hc
  · cases hc
  · split at hc
    · cases hc
    · rename_i h2
      exact h.up (fitA_3 (by simpa using h2))

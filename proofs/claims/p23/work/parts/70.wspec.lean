/-! PURE WORDS for the law's turns -/
/-- the boxes are as they may be, and the law's rows tell them -/
def okB (n : Nat) (B : kB) (K P M L A : Nat → Int32) : Prop := LR n B K P M L A ∧ gA n B ∧ wfB n B ∧ ∀ b, b < n → ¬ B b 0 = 2 → B b 3 = -1
theorem okB.add {n : Nat} {B : kB} {K P M L A : Nat → Int32} {kd p s lim lm : Int32} (h : okB n B K P M L A) (hw : wfB (n + 1) (bAdd B n kd p s lim)) (h2 : kd = 2 → lm = lim) (h3 : ¬ kd = 2 → lim = -1) : okB (n + 1) (bAdd B n kd p s lim) (upd K n kd) (upd P n p) (upd M n s) (upd L n lm) (upd A n (-1)) := by
  obtain ⟨hR, hA, -, hl⟩ := h
  have fo : ∀ b w, ¬ b = n → bAdd B n kd p s lim b w = B b w := fun b w e => if_neg e
  refine ⟨fun b hb => ?_, fun b hb => ?_, hw, fun b hb hk => ?_⟩
  · by_cases e : b = n
    · subst e
      rw [upd_eq, upd_eq, upd_eq, upd_eq, upd_eq]
      have f : ∀ w, bAdd B b kd p s lim b w = (match w with | 0 => kd | 1 => p | 2 => s | 3 => lim | _ => -1) := fun w => if_pos rfl
      rw [f, f, f, f, f]
      exact ⟨rfl, rfl, rfl, h2, rfl⟩
    · rw [upd_ne e, upd_ne e, upd_ne e, upd_ne e, upd_ne e, fo b 0 e, fo b 1 e, fo b 2 e, fo b 3 e, fo b 4 e]
      exact hR b (by omega)
  · by_cases e : b = n
    · subst e
      exact Or.inl (show (if b = b then (-1 : Int32) else B b 4) = -1 from if_pos rfl)
    · rw [fo b 4 e]; exact hA b (by omega)
  · by_cases e : b = n
    · subst e
      have f0 : bAdd B b kd p s lim b 0 = kd := if_pos rfl
      have f3 : bAdd B b kd p s lim b 3 = lim := if_pos rfl
      rw [f0] at hk
      rw [f3]
      exact h3 hk
    · rw [fo b 0 e] at hk
      rw [fo b 3 e]
      exact hl b (by omega) hk
theorem okB.drop {n : Nat} {B : kB} {K P M L A : Nat → Int32} (h : okB (n + 1) B K P M L A) : okB n B K P M L A :=
  ⟨fun b hb => h.1 b (by omega), fun b hb => h.2.1 b (by omega), h.2.2.1.le (by omega), fun b hb => h.2.2.2 b (by omega)⟩
theorem okB.ans {n b : Nat} {B : kB} {K P M L A : Nat → Int32} {v : Int32} (h : okB n B K P M L A) (hf : fitA B b v = true) (hv : v = -1 ∨ ¬ v < 0) : okB n (bUp B b 4 v) K P M L (upd A b v) := by
  refine ⟨h.1.up, h.2.1.up hv, h.2.2.1.up (fun q => fitA_3 hf q), fun c hc hk => ?_⟩
  have e : ∀ w, ¬ w = 4 → bUp B b 4 v c w = B c w := fun w hw => if_neg (fun q => hw q.2)
  rw [e 0 (by decide)] at hk
  rw [e 3 (by decide)]
  exact h.2.2.2 c hc hk
def clA (A : Nat → Int32) (j : Nat) : Nat → Int32 := fun b => if b < j then -1 else A b
theorem clA_0 {A : Nat → Int32} : clA A 0 = A := by funext b; exact if_neg (by omega)
theorem clA_s {A : Nat → Int32} {j : Nat} : upd (clA A j) j (-1) = clA A (j + 1) := by
  funext b
  by_cases e : b = j
  · subst e; rw [upd_eq]; exact (if_pos (by omega)).symm
  · rw [upd_ne e]
    unfold clA
    by_cases q : b < j
    · rw [if_pos q, if_pos (by omega)]
    · rw [if_neg q, if_neg (by omega)]
theorem clA_j {A : Nat → Int32} {j : Nat} : clA A j j = A j := if_neg (by omega)
theorem okB.clr {n : Nat} {B : kB} {K P M L A : Nat → Int32} (h : okB n B K P M L A) : okB n (clrB B n) K P M L (clA A n) := by
  have e : ∀ b w, ¬ w = 4 → clrB B n b w = B b w := fun b w hw => if_neg (fun q => hw q.2)
  have e4 : ∀ b, b < n → clrB B n b 4 = -1 := fun b hb => if_pos ⟨hb, rfl⟩
  obtain ⟨hR, hA, hw, hl⟩ := h
  refine ⟨fun b hb => ?_, fun b hb => Or.inl (e4 b hb), fun b hb => ?_, fun b hb hk => ?_⟩
  · rw [e b 0 (by decide), e b 1 (by decide), e b 2 (by decide), e b 3 (by decide), e4 b hb]
    obtain ⟨h0, h1, h2, h3, -⟩ := hR b hb
    exact ⟨h0, h1, h2, h3, if_pos hb⟩
  · obtain ⟨q1, q2⟩ := hw b hb
    rw [e b 0 (by decide), e b 1 (by decide), e b 2 (by decide), e b 3 (by decide), e4 b hb]
    refine ⟨q1, ?_⟩
    rcases q2 with q | q | q | ⟨z1, -, z3⟩
    · exact Or.inl q
    · exact Or.inr (Or.inl q)
    · exact Or.inr (Or.inr (Or.inl q))
    · refine Or.inr (Or.inr (Or.inr ⟨z1, rfl, fun k hk ht => ?_⟩))
      rw [e k 0 (by decide)]
      exact z3 k hk ht
  · rw [e b 0 (by decide)] at hk
    rw [e b 3 (by decide)]
    exact hl b hb hk
theorem wi_ab {j a m : Nat} (ha : a ≤ j) (hj : j ≤ m) (hm : m < 2 ^ 31) : wi (nI j) (nI a) (nI m) = true := by
  rw [wi, decide_eq_false (nI_nlt ha (by omega)), decide_eq_false (nI_nlt hj hm)]; rfl
theorem cdComb_0 {n pp a : Nat} (hp : pp < 5) (h1 : 1 ≤ a) (h5 : a ≤ 5) (hn : n < 16) : cdComb n (nI pp) (nI a) = 0 := by
  unfold cdComb
  rw [show wi (nI pp) 0 4 = true from wi_ab (a := 0) (m := 4) (by omega) (by omega) (by decide), show wi (nI a) 1 5 = true from wi_ab (a := 1) (m := 5) h1 h5 (by decide), if_neg (by decide), if_neg (by decide), if_pos hn]
theorem cdTick_0 {n pp : Nat} {mo : Int32} (hp : pp < 5) (hm : mo = -1 ∨ ∃ w, mo = nI w ∧ pp < w ∧ w < 5) (hn : n < 16) : cdTick n (nI pp) mo = 0 := by
  have ho : opnOk (nI pp) mo = true := by
    unfold opnOk
    rcases hm with h | ⟨w, h, h1, h2⟩
    · rw [decide_eq_true h]; rfl
    · rw [h, nI_1, show wi (nI w) (nI (pp + 1)) 4 = true from wi_ab (m := 4) (by omega) (by omega) (by decide), Bool.or_true]
  unfold cdTick
  rw [show wi (nI pp) 0 4 = true from wi_ab (a := 0) (m := 4) (by omega) (by omega) (by decide), ho, if_neg (by decide), if_neg (by decide), if_pos hn]
theorem cdSkip_0 {n pp w q : Nat} (hp : pp < 4) (h1 : pp < w) (h2 : w < 5) (hq : q < 100) (hn : n < 16) : cdSkip n (nI pp) (nI w) (nI q) = 0 := by
  have ho : skpOk (nI pp) (nI w) (nI q) = true := by
    unfold skpOk
    rw [nI_1, show wi (nI w) (nI (pp + 1)) 4 = true from wi_ab (m := 4) (by omega) (by omega) (by decide), show wi (nI q) 0 99 = true from wi_ab (a := 0) (m := 99) (by omega) (by omega) (by decide)]; rfl
  unfold cdSkip
  rw [show wi (nI pp) 0 3 = true from wi_ab (a := 0) (m := 3) (by omega) (by omega) (by decide), ho, if_neg (by decide), if_neg (by decide), if_pos hn]
theorem cdTotal_0 {n pp q : Nat} {B : kB} (hp : pp < 5) (hq : q < 2 ^ n) (hb : ∀ i, i < n → q.testBit i = true → B i 0 = 0 ∨ B i 0 = 3) (hn : n < 16) : cdTotal B n (nI pp) (nI q) = 0 := by
  have h16 : 2 ^ n ≤ 2 ^ 15 := Nat.pow_le_pow_right (by decide) (by omega)
  have ho : totOk B n (nI q) = true := by
    unfold totOk canM
    rw [show wi (nI q) 0 65535 = true from wi_ab (a := 0) (m := 65535) (by omega) (by omega) (by decide), Bool.true_and]
    rw [Bool.not_eq_true']
    cases h : anyN 16 (canK B n (nI q)) with
    | false => rfl
    | true =>
      obtain ⟨i, hi, hc⟩ := anyN_i.mp h
      unfold canK at hc
      rw [tld_N (by omega)] at hc
      rw [Bool.and_eq_true] at hc
      have hin : i < n := by
        rcases Nat.lt_or_ge i n with z | z
        · exact z
        · rw [Nat.testBit_lt_two_pow (Nat.lt_of_lt_of_le hq (Nat.pow_le_pow_right (by decide) z))] at hc
          exact absurd hc.1 (by decide)
      have hz := hb i hin hc.1
      have h2 := hc.2
      rw [decide_eq_true hin, Bool.true_and, Bool.not_eq_true', Bool.or_eq_false_iff, decide_eq_false_iff_not, decide_eq_false_iff_not] at h2
      rcases hz with z | z
      · exact absurd z h2.1
      · exact absurd z h2.2
  unfold cdTotal
  rw [show wi (nI pp) 0 4 = true from wi_ab (a := 0) (m := 4) (by omega) (by omega) (by decide), ho, if_neg (by decide), if_neg (by decide), if_pos hn]
theorem cdAnswer_0 {n b : Nat} {B : kB} {v : Int32} (hn : n ≤ 16) (hb : b < n) (hf : fitA B b v = true) : cdAnswer B n (nI b) v = 0 := by
  unfold cdAnswer
  rw [hasB_nI (by omega) (by omega), decide_eq_true hb, nI_clamp (by omega), hf]; rfl
/-- one bit more of a total's mask -/
theorem mk_v {h : Int32} {s : Int32} {j : Nat} (hj : j < 16) : ∃ r, (h >>> (s &&& 31) &&& 1) <<< (nI j &&& 31) = nI r ∧ (r = 0 ∨ r = 2 ^ j) := by
  rcases and1 (h >>> (s &&& 31)) with q | q
  · rw [q]
    exact ⟨0, (by decide +kernel : ∀ j, j < 16 → (0 : Int32) <<< (nI j &&& 31) = nI 0) j hj, Or.inl rfl⟩
  · rw [q]
    exact ⟨2 ^ j, sh1 j (by omega), Or.inr rfl⟩
theorem mk_or {q r j : Nat} (hj : j < 16) (hq : q < 2 ^ j) (hr : r = 0 ∨ r = 2 ^ j) : nI q ||| nI r = nI (q + r) := by
  rcases hr with rfl | rfl
  · exact Int32.or_zero
  · rw [← or_pow hj hq, sh1 j (by omega)]
theorem mk_lt {q r j : Nat} (hq : q < 2 ^ j) (hr : r = 0 ∨ r = 2 ^ j) : q + r < 2 ^ (j + 1) := by
  have z : 2 ^ (j + 1) = 2 ^ j + 2 ^ j := by rw [Nat.pow_succ]; omega
  rcases hr with rfl | rfl <;> omega
theorem mk_b {q r j : Nat} {B : kB} (hq : q < 2 ^ j) (hb : ∀ i, i < j → q.testBit i = true → B i 0 = 0 ∨ B i 0 = 3) (hr : (r = 0 ∨ r = 2 ^ j) ∧ (r = 0 ∨ B j 0 = 0 ∨ B j 0 = 3)) : ∀ i, i < j + 1 → (q + r).testBit i = true → B i 0 = 0 ∨ B i 0 = 3 := by
  intro i hi ht
  rcases hr.1 with rfl | rfl
  · by_cases e : i = j
    · subst e
      rw [Nat.add_zero, Nat.testBit_lt_two_pow hq] at ht
      cases ht
    · exact hb i (by omega) ht
  · by_cases e : i = j
    · subst e
      rcases hr.2 with z | z
      · have := Nat.two_pow_pos i; omega
      · exact z
    · rw [tb_add hq, decide_eq_false e, Bool.or_false] at ht
      exact hb i (by omega) ht
theorem p_16 {n : Nat} (c : 16 ≤ nI n) : 0 < n := by
  rcases Nat.eq_zero_or_pos n with z | z
  · subst z; exact absurd c (by decide)
  · exact z
theorem p_0 {n : Nat} (c : ¬ nI n = 0) : 0 < n := by
  rcases Nat.eq_zero_or_pos n with z | z
  · subst z; exact absurd rfl c
  · exact z
theorem p_n0 {n : Nat} (hn : n < 2 ^ 31) (c : nI n = 0) : n = 0 := (nI_eq (b := 0) hn (by decide)).mp c
theorem p_le {n : Nat} (hn : n < 2 ^ 31) (c : nI n ≤ 0) : n = 0 := by
  rcases Nat.eq_zero_or_pos n with z | z
  · exact z
  · exact absurd c (nI_nle z hn)
theorem p_lt16 {n : Nat} (hn : n < 2 ^ 31) (c : ¬ 16 ≤ nI n) : n < 16 := by
  rcases Nat.lt_or_ge n 16 with z | z
  · exact z
  · exact absurd (nI_le (a := 16) z hn) c
theorem n4_ne {pp : Nat} (h : pp < 5) (c : ¬ nI pp = 4) : pp < 4 := by
  rcases (by omega : pp < 4 ∨ pp = 4) with z | z
  · exact z
  · subst z; exact absurd rfl c

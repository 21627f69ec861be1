/-! PURE WORDS for the reference's calls -/
def pwT : Nat → Int32
  | 0 => 1
  | t + 1 => pwT t * 10
theorem pwT_top {t : Nat} (ht : t ≤ 5) : pwT t - 1 = topT t := by
  rcases (by omega : t = 0 ∨ t = 1 ∨ t = 2 ∨ t = 3 ∨ t = 4 ∨ t = 5) with rfl | rfl | rfl | rfl | rfl | rfl <;> decide
theorem wi_neg {v c : Int32} (hc : ¬ c < -1) : wi v (-1) c = (decide (v = -1) || wi v 0 c) := by
  unfold wi
  by_cases e : v = -1
  · subst e
    simp [hc]
  · have q : ¬ v.toInt = (-1 : Int32).toInt := fun z => e (Int32.toInt_inj.mp z)
    have h1 : v < -1 ↔ v < 0 := by
      rw [Int32.lt_iff_toInt_lt, Int32.lt_iff_toInt_lt]
      have e1 : (-1 : Int32).toInt = -1 := by decide
      have e0 : (0 : Int32).toInt = 0 := by decide
      rw [e1] at q ⊢
      rw [e0]
      omega
    rw [decide_eq_decide.mpr h1, decide_eq_false e, Bool.false_or]
theorem and1 (x : Int32) : x &&& 1 = 0 ∨ x &&& 1 = 1 := by
  obtain ⟨j, hj, e⟩ := pk_andE x (m := 1) 1 (by decide)
  rcases (by omega : j = 0 ∨ j = 1) with rfl | rfl
  · exact Or.inl e
  · exact Or.inr e
theorem tld_i {mask p : Int32} : (mask >>> (p &&& 31)) &&& 1 = bI (tld mask p) := by
  unfold tld
  rcases and1 (mask >>> (p &&& 31)) with h | h
  · rw [h]; rfl
  · rw [h]; rfl
theorem tld0 {mask p : Int32} (h : (mask >>> (p &&& 31)) &&& 1 = 0) : tld mask p = false := by
  rw [tld_i] at h; exact bI0 h
theorem tld1 {mask p : Int32} (h : ¬ (mask >>> (p &&& 31)) &&& 1 = 0) : tld mask p = true := by
  rw [tld_i] at h; exact bI1 h
def bitsN (mask : Int32) : Nat → Int32
  | 0 => 0
  | p + 1 => bitsN mask p + ((mask >>> (nI p &&& 31)) &&& 1)
theorem bits_C : ∀ k, k < 32 → bitsN (nI k) 5 = bitC (nI k) := by decide +kernel
theorem opm_or : ∀ p, p < 5 → ∀ k, k < 2 ^ p → nI k ||| ((1 : Int32) <<< (nI p &&& 31)) = nI (k + 2 ^ p) := by decide +kernel
theorem opmN_lt {B : kB} {n : Nat} : ∀ p, p < 5 → ∃ k, k < 2 ^ (p + 1) ∧ opmN B n (p + 1) = nI k := by
  intro p
  induction p with
  | zero => intro _; exact ⟨1, by decide, rfl⟩
  | succ p ih =>
    intro hp
    obtain ⟨k, hk, e⟩ := ih (by omega)
    have q : 2 ^ (p + 1 + 1) = 2 ^ (p + 1) + 2 ^ (p + 1) := by rw [Nat.pow_succ 2 (p + 1)]; omega
    rw [opmN, if_neg (by omega)]
    split
    · rw [e, opm_or (p + 1) (by omega) k hk]
      exact ⟨_, by omega, rfl⟩
    · exact ⟨k, by omega, e⟩
theorem opm_lt {B : kB} {n : Nat} : ∃ k, k < 32 ∧ opm B n = nI k := opmN_lt 4 (by decide)
theorem bits_opm {B : kB} {n : Nat} : bitsN (opm B n) 5 = bitC (opm B n) := by
  obtain ⟨k, hk, e⟩ := opm_lt (B := B) (n := n)
  rw [e]; exact bits_C k hk
/-- what the boxes of a form are -/
def wfB (n : Nat) (B : kB) : Prop := ∀ b, b < n → (∃ p, p < 5 ∧ B b 1 = nI p) ∧
  ((B b 0 = 0 ∧ ∃ t, 1 ≤ t ∧ t ≤ 5 ∧ B b 2 = nI t) ∨
   (B b 0 = 1 ∧ B b 3 = -1 ∧ (B b 2 = -1 ∨ ∃ p q, B b 1 = nI p ∧ B b 2 = nI q ∧ p < q ∧ q < 5)) ∨
   (B b 0 = 2 ∧ ∃ p q l, B b 1 = nI p ∧ B b 2 = nI q ∧ p < q ∧ q < 5 ∧ l ≤ 99 ∧ B b 3 = nI l) ∨
   (B b 0 = 3 ∧ B b 4 = -1 ∧ ∀ k, k < 16 → tld (B b 2) (nI k) = true → k < b ∧ (B k 0 = 0 ∨ B k 0 = 3)))
theorem wfB.t {n : Nat} {B : kB} (h : wfB n B) : Wt n B := by
  intro b hb h0
  rcases (h b hb).2 with ⟨-, t, -, h2, h3⟩ | ⟨h1, -⟩ | ⟨h1, -⟩ | ⟨h1, -⟩
  · exact ⟨t, h2, h3⟩
  · rw [h0] at h1; exact absurd h1 (by decide)
  · rw [h0] at h1; exact absurd h1 (by decide)
  · rw [h0] at h1; exact absurd h1 (by decide)
theorem wfB.k {n : Nat} {B : kB} (h : wfB n B) {b : Nat} (hb : b < n) : B b 0 = 0 ∨ B b 0 = 1 ∨ B b 0 = 2 ∨ B b 0 = 3 := by
  rcases (h b hb).2 with ⟨q, -⟩ | ⟨q, -⟩ | ⟨q, -⟩ | ⟨q, -⟩
  · exact Or.inl q
  · exact Or.inr (Or.inl q)
  · exact Or.inr (Or.inr (Or.inl q))
  · exact Or.inr (Or.inr (Or.inr q))
theorem wfB.m {n : Nat} {B : kB} (h : wfB n B) {b : Nat} (hb : b < n) (h3 : B b 0 = 3) : ∀ k, k < 16 → tld (B b 2) (nI k) = true → k < b ∧ (B k 0 = 0 ∨ B k 0 = 3) := by
  rcases (h b hb).2 with ⟨q, -⟩ | ⟨q, -⟩ | ⟨q, -⟩ | ⟨-, -, q⟩
  · rw [h3] at q; exact absurd q (by decide)
  · rw [h3] at q; exact absurd q (by decide)
  · rw [h3] at q; exact absurd q (by decide)
  · exact q
theorem sumN_c2 {B : kB} {V W : Nat → Int32} {t : Nat} {mask : Int32} {b : Nat} (h : ∀ j, j < b → tld (B t 2) (nI j) = true → V j = W j) : sumN B V t mask b = sumN B W t mask b := by
  induction b with
  | zero => rfl
  | succ b ih =>
    rw [sumN, sumN, ih (fun j hj => h j (by omega))]
    by_cases e : tld (B t 2) (nI b) = true
    · rw [h b (by omega) e]
    · simp [e]
theorem valM_N {n : Nat} {B : kB} (hw : wfB n B) (hn : n ≤ 16) {mask : Int32} {V : Nat → Int32} : ∀ m, m ≤ n → ∀ j, j < m → (B j 0 = 0 ∨ B j 0 = 3) → valM B mask V m j = valN B mask (fun _ => 0) m j := by
  intro m
  induction m with
  | zero => intro _ j hj; omega
  | succ m ih =>
    intro hm j hj hk
    rw [valM, valN]
    by_cases e : j = m
    · subst e
      simp only [upd, if_true]
      rcases hk with h0 | h3
      · rw [if_neg (by rw [h0]; decide), if_neg (by rw [h0]; decide), ownM, ownV, if_pos h0, if_pos h0]
      · rw [if_pos h3, if_pos h3, sumN_c2 (fun i hi ht => ih (by omega) i hi ((hw.m (by omega) h3 i (by omega) ht).2))]
    · simp only [upd, if_neg e]
      exact ih (by omega) j (by omega) hk
theorem valX_N {B : kB} {mask : Int32} {b n : Nat} (hb : b < n) : valN B mask (fun _ => 0) n b = valX B mask b := by
  obtain ⟨d, rfl⟩ : ∃ d, n = b + 1 + d := ⟨n - (b + 1), by omega⟩
  exact valN_s d b (by omega)
theorem valM_X {n : Nat} {B : kB} (hw : wfB n B) (hn : n ≤ 16) {mask : Int32} {V : Nat → Int32} {b : Nat} (hb : b < n) (hk : B b 0 = 0 ∨ B b 0 = 3) : valM B mask V n b = valX B mask b := by
  rw [valM_N hw hn n (Nat.le_refl _) b hb hk, valX_N hb]
theorem valX_t {B : kB} {mask : Int32} {b : Nat} (h : B b 0 = 1 ∨ B b 0 = 2) : valX B mask b = -1 := by
  rw [valX, valN]
  simp only [upd, if_true]
  rcases h with h | h <;> rw [if_neg (by rw [h]; decide), ownV, if_neg (by rw [h]; decide)]
def lvM (B : kB) (V : Nat → Int32) : Nat → Int32
  | 0 => -1
  | b + 1 => if B b 0 = 3 then V b else lvM B V b
theorem lvM_Z {n : Nat} {B : kB} (hw : wfB n B) (hn : n ≤ 16) {mask : Int32} {V : Nat → Int32} : ∀ m, m ≤ n → lvM B (valM B mask V n) m = valZ B mask (lastM B m) := by
  intro m
  induction m with
  | zero => intro _; rfl
  | succ m ih =>
    intro hm
    rw [lvM, lastM]
    split
    · rename_i h3
      rw [valM_X hw hn (by omega) (Or.inr h3), valZ, if_neg (by omega), Nat.add_sub_cancel]
    · exact ih (by omega)
theorem bUp_bUp {B : kB} {b : Nat} {v : Int32} : bUp (bUp B b 4 v) b 4 (B b 4) = B := by
  funext b' w'
  simp only [bUp]
  split
  · rename_i h; rw [h.1, h.2]
  · rfl
theorem wfB.up {n : Nat} {B : kB} (h : wfB n B) {b : Nat} {v : Int32} (hv : B b 0 = 3 → v = -1) : wfB n (bUp B b 4 v) := by
  intro c hc
  have e : ∀ c w, ¬ w = 4 → bUp B b 4 v c w = B c w := fun c w hw => by simp [bUp, hw]
  have q := h c hc
  rw [e c 1 (by decide), e c 0 (by decide), e c 2 (by decide), e c 3 (by decide)]
  refine ⟨q.1, ?_⟩
  rcases q.2 with q | q | q | ⟨q1, q2, q3⟩
  · exact Or.inl q
  · exact Or.inr (Or.inl q)
  · exact Or.inr (Or.inr (Or.inl q))
  · refine Or.inr (Or.inr (Or.inr ⟨q1, ?_, fun k hk ht => ?_⟩))
    · simp only [bUp]
      split
      · rename_i z; exact hv (z.1 ▸ q1)
      · exact q2
    · rw [e k 0 (by decide)]; exact q3 k hk ht
theorem fitA_3 {B : kB} {b : Nat} {v : Int32} (h : fitA B b v = true) (h3 : B b 0 = 3) : v = -1 := by
  simp only [fitA, Bool.or_eq_true, decide_eq_true_eq] at h
  rcases h with h | h
  · exact h
  · rw [topA, if_neg (by rw [h3]; decide), if_neg (by rw [h3]; decide), if_neg (by rw [h3]; decide)] at h
    simp only [wi, Bool.and_eq_true, Bool.not_eq_true', decide_eq_false_iff_not] at h
    exfalso
    have h1 := h.1
    have h2 := h.2
    rw [Int32.lt_iff_toInt_lt] at h1 h2
    have e1 : (-1 : Int32).toInt = -1 := by decide
    have e0 : (0 : Int32).toInt = 0 := by decide
    rw [e0] at h1
    rw [e1] at h2
    omega

/-! PURE: what the boxes are stays so -/
theorem nf {b : Bool} (h : ¬ b = false) : b = true := by cases b with | false => exact absurd rfl h | true => rfl
theorem wi_r {x : Int32} {a b : Nat} (hb : b < 2 ^ 31) (ha : a < 2 ^ 31) (h : wi x (nI a) (nI b) = true) : ∃ w, a ≤ w ∧ w ≤ b ∧ x = nI w := by
  rw [wi_i, nI_toInt ha, nI_toInt hb] at h
  refine ⟨x.toInt.toNat, by omega, by omega, ?_⟩
  refine Int32.toInt_inj.mp ?_
  rw [nI_toInt (by omega)]
  omega
theorem wfB.le {n m : Nat} {B : kB} (h : wfB n B) (hm : m ≤ n) : wfB m B := fun b hb => h b (by omega)
theorem wfB.add {n : Nat} {B : kB} {kd p a lim : Int32} (h : wfB n B) (hp : ∃ q, q < 5 ∧ p = nI q) (hn : (kd = 0 ∧ ∃ t, 1 ≤ t ∧ t ≤ 5 ∧ a = nI t) ∨ (kd = 1 ∧ lim = -1 ∧ (a = -1 ∨ ∃ q r, p = nI q ∧ a = nI r ∧ q < r ∧ r < 5)) ∨ (kd = 2 ∧ ∃ q r l, p = nI q ∧ a = nI r ∧ q < r ∧ r < 5 ∧ l ≤ 99 ∧ lim = nI l) ∨ (kd = 3 ∧ ∀ k, k < 16 → tld a (nI k) = true → k < n ∧ (B k 0 = 0 ∨ B k 0 = 3))) : wfB (n + 1) (bAdd B n kd p a lim) := by
  intro b hb
  by_cases e : b = n
  · subst e
    have f0 : bAdd B b kd p a lim b 0 = kd := if_pos rfl
    have f1 : bAdd B b kd p a lim b 1 = p := if_pos rfl
    have f2 : bAdd B b kd p a lim b 2 = a := if_pos rfl
    have f3 : bAdd B b kd p a lim b 3 = lim := if_pos rfl
    have f4 : bAdd B b kd p a lim b 4 = -1 := if_pos rfl
    rw [f0, f1, f2, f3, f4]
    refine ⟨hp, ?_⟩
    rcases hn with hn | hn | hn | ⟨h1, h2⟩
    · exact Or.inl hn
    · exact Or.inr (Or.inl hn)
    · exact Or.inr (Or.inr (Or.inl hn))
    · refine Or.inr (Or.inr (Or.inr ⟨h1, rfl, fun k hk ht => ?_⟩))
      obtain ⟨z1, z2⟩ := h2 k hk ht
      have fk : bAdd B b kd p a lim k 0 = B k 0 := if_neg (by omega)
      rw [fk]
      exact ⟨z1, z2⟩
  · have fb : ∀ w, bAdd B n kd p a lim b w = B b w := fun w => if_neg e
    rw [fb, fb, fb, fb, fb]
    obtain ⟨q1, q2⟩ := h b (by omega)
    refine ⟨q1, ?_⟩
    rcases q2 with q | q | q | ⟨z1, z2, z3⟩
    · exact Or.inl q
    · exact Or.inr (Or.inl q)
    · exact Or.inr (Or.inr (Or.inl q))
    · refine Or.inr (Or.inr (Or.inr ⟨z1, z2, fun k hk ht => ?_⟩))
      obtain ⟨y1, y2⟩ := z3 k hk ht
      have fk : bAdd B n kd p a lim k 0 = B k 0 := if_neg (by omega)
      rw [fk]
      exact ⟨y1, y2⟩
theorem wf_comb {n : Nat} {B : kB} {p a : Int32} (h : wfB n B) (hc : cdComb n p a = 0) : wfB (n + 1) (bAdd B n 0 p a (-1)) := by
  unfold cdComb at hc
  split at hc
  · cases hc
  · rename_i h1
    split at hc
    · cases hc
    · rename_i h2
      obtain ⟨q, -, q2, q3⟩ := wi_r (x := p) (a := 0) (b := 4) (by decide) (by decide) (nf h1)
      obtain ⟨t, t1, t2, t3⟩ := wi_r (x := a) (a := 1) (b := 5) (by decide) (by decide) (nf h2)
      exact h.add ⟨q, by omega, q3⟩ (Or.inl ⟨rfl, t, t1, t2, t3⟩)
theorem wf_tick {n : Nat} {B : kB} {p a : Int32} (h : wfB n B) (hc : cdTick n p a = 0) : wfB (n + 1) (bAdd B n 1 p a (-1)) := by
  unfold cdTick at hc
  split at hc
  · cases hc
  · rename_i h1
    split at hc
    · cases hc
    · rename_i h2
      obtain ⟨q, -, q2, q3⟩ := wi_r (x := p) (a := 0) (b := 4) (by decide) (by decide) (nf h1)
      have h3 : opnOk p a = true := by simpa using h2
      unfold opnOk at h3
      rw [Bool.or_eq_true, decide_eq_true_eq] at h3
      refine h.add ⟨q, by omega, q3⟩ (Or.inr (Or.inl ⟨rfl, rfl, ?_⟩))
      rcases h3 with h3 | h3
      · exact Or.inl h3
      · rw [q3, nI_1] at h3
        obtain ⟨t, t1, t2, t3⟩ := wi_r (x := a) (a := q + 1) (b := 4) (by decide) (by omega) h3
        exact Or.inr ⟨q, t, q3, t3, by omega, by omega⟩
theorem wf_skip {n : Nat} {B : kB} {p a b : Int32} (h : wfB n B) (hc : cdSkip n p a b = 0) : wfB (n + 1) (bAdd B n 2 p a b) := by
  unfold cdSkip at hc
  split at hc
  · cases hc
  · rename_i h1
    split at hc
    · cases hc
    · rename_i h2
      obtain ⟨q, -, q2, q3⟩ := wi_r (x := p) (a := 0) (b := 3) (by decide) (by decide) (nf h1)
      have h3 : skpOk p a b = true := by simpa using h2
      unfold skpOk at h3
      rw [Bool.and_eq_true, q3, nI_1] at h3
      obtain ⟨t, t1, t2, t3⟩ := wi_r (x := a) (a := q + 1) (b := 4) (by decide) (by omega) h3.1
      obtain ⟨l, -, l2, l3⟩ := wi_r (x := b) (a := 0) (b := 99) (by decide) (by decide) h3.2
      exact h.add ⟨q, by omega, q3⟩ (Or.inr (Or.inr (Or.inl ⟨rfl, q, t, l, q3, t3, by omega, by omega, l2, l3⟩)))
theorem wf_total {n : Nat} {B : kB} {p a : Int32} (h : wfB n B) (hc : cdTotal B n p a = 0) : wfB (n + 1) (bAdd B n 3 p a (-1)) := by
  unfold cdTotal at hc
  split at hc
  · cases hc
  · rename_i h1
    split at hc
    · cases hc
    · rename_i h2
      obtain ⟨q, -, q2, q3⟩ := wi_r (x := p) (a := 0) (b := 4) (by decide) (by decide) (nf h1)
      have h3 : totOk B n a = true := by simpa using h2
      unfold totOk canM at h3
      rw [Bool.and_eq_true, Bool.not_eq_true'] at h3
      refine h.add ⟨q, by omega, q3⟩ (Or.inr (Or.inr (Or.inr ⟨rfl, fun k hk ht => ?_⟩)))
      have z := anyN_f hk h3.2
      unfold canK at z
      rw [ht, Bool.true_and, Bool.not_eq_false'] at z
      simp only [Bool.and_eq_true, Bool.or_eq_true, decide_eq_true_eq] at z
      exact z
theorem wf_ans {n : Nat} {B : kB} {p a : Int32} (h : wfB n B) (hc : cdAnswer B n p a = 0) : wfB n (bUp B p.toNatClampNeg 4 a) := by
  unfold cdAnswer at hc
  split at hc
  · cases hc
  · split at hc
    · cases hc
    · rename_i h2
      exact h.up (fitA_3 (by simpa using h2))
theorem wf_run {n : Nat} {C : Nat → Int32} {t : Nat} : ∀ k j gv bx vl ae B, wfB n B → wfB n (runG n C t k j gv bx vl ae B).2 := by
  intro k
  induction k with
  | zero => intro j gv bx vl ae B h; exact h
  | succ k ih =>
    intro j gv bx vl ae B h
    rw [runG]
    split
    · split
      · rename_i h2
        rw [Bool.and_eq_true] at h2
        exact ih _ _ _ _ _ _ (h.up (fitA_3 h2.2))
      · exact h
    · split
      · exact ih _ _ _ _ _ _ h
      · split
        · exact ih _ _ _ _ _ _ h
        · split
          · exact ih _ _ _ _ _ _ h
          · exact ih _ _ _ _ _ _ h
theorem wf_fil {n : Nat} {C : Nat → Int32} {t : Nat} {B : kB} (h : wfB n B) : wfB n (filG n C t B).2 := wf_run _ _ _ _ _ _ _ h
/-- all that is saved -/
def wfS (m : Nat) (S : Nat → kS) : Prop := ∀ k, k < m → wfB (S k).1 (S k).2
theorem wfS.push {m n : Nat} {S : Nat → kS} {B : kB} (h : wfS m S) (hB : wfB n B) (hm : m ≤ 6) : wfS (pushM m) (pushS m S (n, B)) := by
  intro k hk
  unfold pushM at hk
  unfold pushS
  split at hk
  · rename_i e
    rw [if_pos e]
    show wfB (if k = 5 then (n, B) else S (k + 1)).1 (if k = 5 then (n, B) else S (k + 1)).2
    split
    · exact hB
    · exact h (k + 1) (by omega)
  · rename_i e
    rw [if_neg e]
    show wfB (if k = m then (n, B) else S k).1 (if k = m then (n, B) else S k).2
    split
    · exact hB
    · exact h k (by omega)

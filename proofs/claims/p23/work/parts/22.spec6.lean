/-! PURE WORDS for the calls of the class -/
theorem hasB_of {n : Nat} {x : Int32} (hn : n < 2 ^ 31) (h : hasB n x = true) : ∃ b, b < n ∧ x = nI b := by
  simp only [hasB, Bool.and_eq_true, Bool.not_eq_true', decide_eq_false_iff_not] at h
  rcases pk_ix x hn with q | q | ⟨j, hj, rfl⟩
  · exact absurd q h.1
  · exact absurd q h.2
  · exact ⟨j, hj, rfl⟩
/-- combs have at most five teeth -/
def Wt (n : Nat) (B : kB) : Prop := ∀ b, b < n → B b 0 = 0 → ∃ t, t ≤ 5 ∧ B b 2 = nI t
def clrB (B : kB) (n : Nat) : kB := fun b w => if b < n ∧ w = 4 then -1 else B b w
/-- the codes of the calls' refusals -/
def cdComb (n : Nat) (p a : Int32) : Nat := if wi p 0 4 = false then 1 else if wi a 1 5 = false then 2 else if n < 16 then 0 else 3
def opnOk (p o : Int32) : Bool := decide (o = -1) || wi o (p + 1) 4
def cdTick (n : Nat) (p o : Int32) : Nat := if wi p 0 4 = false then 1 else if opnOk p o = false then 2 else if n < 16 then 0 else 3
def skpOk (p c l : Int32) : Bool := wi c (p + 1) 4 && wi l 0 99
def cdSkip (n : Nat) (p c l : Int32) : Nat := if wi p 0 3 = false then 1 else if skpOk p c l = false then 2 else if n < 16 then 0 else 3
def totOk (B : kB) (n : Nat) (x : Int32) : Bool := wi x 0 65535 && canM B n x
def cdTotal (B : kB) (n : Nat) (p x : Int32) : Nat := if wi p 0 4 = false then 1 else if totOk B n x = false then 2 else if n < 16 then 0 else 3
def cdAnswer (B : kB) (n : Nat) (x v : Int32) : Nat := if hasB n x = false then 1 else if fitA B x.toNatClampNeg v = false then 2 else 0
def cdAppend (t : Nat) (c : Int32) : Nat := if wi c 33 126 = false then 1 else if t < 60 then 0 else 2
def cdBox (n : Nat) (x w : Int32) : Nat := if hasB n x = false then 1 else if wi w 0 7 = false then 2 else 0
def cdPart (p w : Int32) : Nat := if wi p 0 4 = false then 1 else if wi w 0 5 = false then 2 else 0
def cdCount (w : Int32) : Nat := if wi w 0 8 = false then 1 else 0
def ifOk (B : kB) (b : Nat) (v w : Int32) : Bool := fitA B b v && wi w 0 2
def cdIf (B : kB) (n : Nat) (x v w : Int32) : Nat := if hasB n x = false then 1 else if ifOk B x.toNatClampNeg v w = false then 2 else 0
/-- which exception a code is, where there are three, two or one -/
def exIAS (c : Nat) (E : String) : Prop := (c = 1 ∧ E = xI) ∨ (c = 2 ∧ E = xA) ∨ (c = 3 ∧ E = xS)
def exIA (c : Nat) (E : String) : Prop := (c = 1 ∧ E = xI) ∨ (c = 2 ∧ E = xA)
def exAS (c : Nat) (E : String) : Prop := (c = 1 ∧ E = xA) ∨ (c = 2 ∧ E = xS)
theorem clrB_0 {B : kB} : clrB B 0 = B := by funext b w; simp [clrB]
theorem clrB_s {B : kB} {j : Nat} : bUp (clrB B j) j 4 (-1) = clrB B (j + 1) := by
  funext b w
  simp only [bUp, clrB]
  by_cases e : b = j
  · subst e; by_cases e2 : w = 4 <;> simp [e2]
  · by_cases e2 : b < j
    · simp [e, e2, show b < j + 1 by omega]
    · simp [e, e2, show ¬ b < j + 1 by omega]
theorem dr0 {n : Nat} (h : n < 2 ^ 31) (c : nI n - 1 < 0) : ¬ 0 < n := by
  intro q
  obtain ⟨m, rfl⟩ : ∃ m, n = m + 1 := ⟨n - 1, by omega⟩
  rw [nI_pred] at c
  exact nI_pos (by omega) c
theorem dr1 {n : Nat} (c : ¬ nI n - 1 < 0) : 0 < n := by
  rcases Nat.eq_zero_or_pos n with q | q
  · subst q; exact absurd (by decide) c
  · exact q

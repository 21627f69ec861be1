/-! PURE WORDS for the class's text -/
def digC (c : Int32) : Bool := wi c 48 57
def aBox (c : Int32) : Int32 := if c = 61 then 3 else -1
def aAns (c : Int32) : Int32 := if c = 44 then 0 else -1
def stA (x c : Int32) : Int32 :=
  if x = 0 then (if c = 49 then 1 else if digC c then 2 else -1)
  else if x = 1 then (if wi c 48 53 then 2 else aBox c)
  else if x = 2 then aBox c
  else if x = 3 then (if c = 48 then 8 else if c = 45 then 8 else if digC c then 4 else -1)
  else if x = 8 then aAns c
  else (if digC c then x + 1 else aAns c)
def stN (C : Nat → Int32) : Nat → Int32
  | 0 => 0
  | j + 1 => stA (stN C j) (C j)
def qErr (C : Nat → Int32) (j : Nat) : Bool := decide (stN C (j + 1) = -1)
def errC (C : Nat → Int32) (t : Nat) : Int32 := if anyN t (qErr C) then fstN t (qErr C) else nI t
def cmpC (C : Nat → Int32) (t : Nat) : Bool := !anyN t (qErr C) && !decide (stN C t < 4)
/-- the text object and its row at the places i, i + 1: t signs C -/
def TxB (g : kG) (u : Nat → va_E) (i t : Nat) (C : Nat → Int32) : Prop := ∃ C' : Nat → Int32, u i = .inr (2, [.ref (g.2.1 (i + 1)), .int (nI t)]) ∧ u (i + 1) = .inl (g.2.2.1 0, 60, .inl C') ∧ t ≤ 60 ∧ ∀ j, j < t → C' j = C j
theorem TxB.obj {g : kG} {u : Nat → va_E} {i t : Nat} {C : Nat → Int32} (h : TxB g u i t C) : u i = .inr (2, [.ref (g.2.1 (i + 1)), .int (nI t)]) := by
  obtain ⟨C', h, -⟩ := h
  exact h
theorem TxB.le {g : kG} {u : Nat → va_E} {i t : Nat} {C : Nat → Int32} (h : TxB g u i t C) : t ≤ 60 := by
  obtain ⟨C', -, -, h, -⟩ := h
  exact h
theorem TxB.keep {g : kG} {u u' : Nat → va_E} {i t : Nat} {C : Nat → Int32} (h : TxB g u i t C) (h0 : u' i = u i) (h1 : u' (i + 1) = u (i + 1)) : TxB g u' i t C := by
  obtain ⟨C', q0, q1, q2⟩ := h
  exact ⟨C', h0.trans q0, h1.trans q1, q2⟩
/-- a sign, or -1 behind the last -/
def codC (C : Nat → Int32) (t j : Nat) : Int32 := if j < t then C j else -1
theorem codC_lt {C : Nat → Int32} {t j : Nat} (h : j < t) : codC C t j = C j := if_pos h
theorem anyN_m {n m : Nat} {P : Nat → Bool} (h : anyN m P = true) (hm : m ≤ n) : anyN n P = true := by
  induction n with
  | zero => rw [show m = 0 by omega] at h; exact h
  | succ n ih =>
    by_cases e : m = n + 1
    · subst e; exact h
    · rw [anyN, ih (by omega), Bool.true_or]

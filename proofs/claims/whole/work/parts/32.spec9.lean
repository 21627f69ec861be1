/-! PURE WORDS for the reference: its object at the place 61, its rows at 62 .. 68 -/
def MdL (g : kG) (u : Nat → va_E) (th sm ty rm sp wr : Int32) (hs : Int64) (Z SV BF VA RD CH WE : Nat → Int32) : Prop :=
  u 61 = .inr (4, [.int th, .ref (g.2.1 62), .ref (g.2.1 63), .int sm, .ref (g.2.1 64), .int ty, .ref (g.2.1 65), .ref (g.2.1 66), .int rm, .int sp, .int wr, .ref (g.2.1 67), .ref (g.2.1 68), .long hs]) ∧
  u 62 = .inl (g.2.2.1 0, 81, .inl Z) ∧ u 63 = .inl (g.2.2.1 0, 486, .inl SV) ∧ u 64 = .inl (g.2.2.1 0, 60, .inl BF) ∧ u 65 = .inl (g.2.2.1 0, 16, .inl VA) ∧ u 66 = .inl (g.2.2.1 0, 34, .inl RD) ∧ u 67 = .inl (g.2.2.1 0, 16, .inl CH) ∧ u 68 = .inl (g.2.2.1 1, 16, .inl WE)
/-- n boxes B in the row Z -/
def ZB (Z : Nat → Int32) (n : Nat) (B : kB) : Prop := Z 0 = nI n ∧ ∀ b, b < n → ∀ w, w < 5 → Z (1 + 5 * b + w) = B b w
def SB (SV : Nat → Int32) (m : Nat) (S : Nat → kS) : Prop := ∀ k, k < m → (S k).1 ≤ 16 ∧ SV (81 * k) = nI (S k).1 ∧ ∀ b, b < (S k).1 → ∀ w, w < 5 → SV (81 * k + (1 + 5 * b + w)) = (S k).2 b w
/-- the reference: its numbers and scratch rows, and what it holds -/
def MdX (g : kG) (u : Nat → va_E) (th rm sp wr : Int32) (hs : Int64) (VA RD CH WE : Nat → Int32) (n : Nat) (B : kB) (m : Nat) (S : Nat → kS) (t : Nat) (C : Nat → Int32) : Prop := ∃ Z SV BF : Nat → Int32, MdL g u th (nI m) (nI t) rm sp wr hs Z SV BF VA RD CH WE ∧ ZB Z n B ∧ SB SV m S ∧ (∀ j, j < t → BF j = C j) ∧ n ≤ 16 ∧ m ≤ 6 ∧ t ≤ 60
theorem ixz (b w : Nat) : (1 : Int32) + 5 * nI b + nI w = nI (1 + 5 * b + w) := by
  rw [show (5 : Int32) = nI 5 from rfl, show (1 : Int32) = nI 1 from rfl, pk_mul, nI_add, nI_add]
theorem MdL.keep {g : kG} {u u' : Nat → va_E} {th sm ty rm sp wr : Int32} {hs : Int64} {Z SV BF VA RD CH WE : Nat → Int32} (h : MdL g u th sm ty rm sp wr hs Z SV BF VA RD CH WE) (hk : ∀ j, 61 ≤ j → j < 69 → u' j = u j) : MdL g u' th sm ty rm sp wr hs Z SV BF VA RD CH WE := by
  obtain ⟨h0, h1, h2, h3, h4, h5, h6, h7⟩ := h
  exact ⟨(hk 61 (by omega) (by omega)).trans h0, (hk 62 (by omega) (by omega)).trans h1, (hk 63 (by omega) (by omega)).trans h2, (hk 64 (by omega) (by omega)).trans h3, (hk 65 (by omega) (by omega)).trans h4, (hk 66 (by omega) (by omega)).trans h5, (hk 67 (by omega) (by omega)).trans h6, (hk 68 (by omega) (by omega)).trans h7⟩
theorem MdX.keep {g : kG} {u u' : Nat → va_E} {th rm sp wr : Int32} {hs : Int64} {VA RD CH WE : Nat → Int32} {n : Nat} {B : kB} {m : Nat} {S : Nat → kS} {t : Nat} {C : Nat → Int32} (h : MdX g u th rm sp wr hs VA RD CH WE n B m S t C) (hk : ∀ j, 61 ≤ j → j < 69 → u' j = u j) : MdX g u' th rm sp wr hs VA RD CH WE n B m S t C := by
  obtain ⟨Z, SV, BF, h0, h1⟩ := h
  exact ⟨Z, SV, BF, h0.keep hk, h1⟩
def qCN (B : kB) (b : Nat) : Bool := decide (B b 0 = 2) && (!decide (B b 4 < B b 3) && !decide (B b 4 = -1))
theorem qCls_m {B : kB} {p mask : Int32} {b : Nat} : qCls B p mask b = (qCN B b && (decide (B b 2 = p) && qOpn B mask b)) := by
  unfold qCls qCN qFor qEmp
  by_cases h : B b 0 = 2
  · simp [h]
    cases decide (B b 2 = p) <;> cases qOpn B mask b <;> cases decide (B b 4 = -1) <;> simp
  · simp [h]
/-- a value of the reference's -/
def ownM (B : kB) (b : Nat) : Int32 := if B b 0 = 0 then (if B b 4 = -1 then 0 else B b 4) else 0
def valM (B : kB) (mask : Int32) (V : Nat → Int32) : Nat → Nat → Int32
  | 0 => V
  | b + 1 => upd (valM B mask V b) b (if B b 0 = 3 then minI (sumN B (valM B mask V b) b mask b) 999999 else ownM B b)

/-! PURE WORDS for the class's history: a ring of six forms -/
abbrev kS : Type := Nat × kB
def pushM (m : Nat) : Nat := if m = 6 then 6 else m + 1
def pushS (m : Nat) (S : Nat → kS) (x : kS) : Nat → kS := fun k => if m = 6 then (if k = 5 then x else S (k + 1)) else if k = m then x else S k
def HsN (g : kG) (u : Nat → va_E) (nx m : Nat) (S : Nat → kS) : Prop := nx < 6 ∧ u 15 = .inr (1, [.ref (g.2.1 16), .int (nI nx), .int (nI m)]) ∧ (∃ f : Nat → Option Nat, u 16 = .inl (g.2.2.1 2, 6, .inr (.inr (.inr (.inr f)))) ∧ ∀ j, j < 6 → f j = some (g.2.1 (17 + 7 * j))) ∧ m ≤ 6 ∧ (∀ j, j < 6 → ∃ (sz : Int32) (G : kB) (V : Nat → Int32), FmL g u (17 + 7 * j) sz G V) ∧ ∀ k, k < m → FmB g u (17 + 7 * ((nx + 6 - m + k) % 6)) (S k).1 (S k).2
def HsB (g : kG) (u : Nat → va_E) (m : Nat) (S : Nat → kS) : Prop := ∃ nx, HsN g u nx m S
theorem HsN.obj {g : kG} {u : Nat → va_E} {nx m : Nat} {S : Nat → kS} (h : HsN g u nx m S) : u 15 = .inr (1, [.ref (g.2.1 16), .int (nI nx), .int (nI m)]) := h.2.1
theorem HsB.keep {g : kG} {u u' : Nat → va_E} {m : Nat} {S : Nat → kS} (h : HsB g u m S) (hk : ∀ j, 15 ≤ j → j < 59 → u' j = u j) : HsB g u' m S := by
  obtain ⟨nx, h0, h1, ⟨f, h2, h3⟩, h4, h5, h6⟩ := h
  refine ⟨nx, h0, (hk 15 (by omega) (by omega)).trans h1, ⟨f, (hk 16 (by omega) (by omega)).trans h2, h3⟩, h4, fun j hj => ?_, fun k hk2 => (h6 k hk2).keep (fun j h1 h2 => hk j (by omega) (by omega))⟩
  obtain ⟨sz, G, V, h⟩ := h5 j hj
  exact ⟨sz, G, V, h.keep (fun j h1 h2 => hk j (by omega) (by omega))⟩
theorem FmB.L {g : kG} {u : Nat → va_E} {i n : Nat} {B : kB} (h : FmB g u i n B) : ∃ (sz : Int32) (G : kB) (V : Nat → Int32), FmL g u i sz G V := by
  obtain ⟨G, V, h, -⟩ := h
  exact ⟨_, G, V, h⟩
theorem HsN.push {g : kG} {u u' : Nat → va_E} {nx m n : Nat} {S : Nat → kS} {B : kB} (h : HsN g u nx m S) (hB : FmB g u' (17 + 7 * nx) n B) (hk : ∀ j, j ≠ 15 → ¬ (17 + 7 * nx ≤ j ∧ j < 17 + 7 * nx + 7) → u' j = u j) {nx' : Nat} (hx : (nx + 1 < 6 ∧ nx' = nx + 1) ∨ (nx = 5 ∧ nx' = 0)) (h15 : u' 15 = .inr (1, [.ref (g.2.1 16), .int (nI nx'), .int (nI (pushM m))])) : HsN g u' nx' (pushM m) (pushS m S (n, B)) := by
  obtain ⟨h0, h1, ⟨f, h2, h3⟩, h4, h5, h6⟩ := h
  refine ⟨by omega, h15, ⟨f, (hk 16 (by omega) (by omega)).trans h2, h3⟩, by unfold pushM; split <;> omega, fun j hj => ?_, fun k hk2 => ?_⟩
  · by_cases e : j = nx
    · subst e; exact hB.L
    · obtain ⟨sz, G, V, q⟩ := h5 j hj
      exact ⟨sz, G, V, q.keep (fun j h1 h2 => hk j (by omega) (by omega))⟩
  · unfold pushM at hk2 ⊢
    unfold pushS
    by_cases e : m = 6
    · simp only [if_pos e] at hk2 ⊢
      by_cases e2 : k = 5
      · rw [if_pos e2, show (nx' + 6 - 6 + k) % 6 = nx by omega]
        exact hB
      · rw [if_neg e2, show (nx' + 6 - 6 + k) % 6 = (nx + 6 - m + (k + 1)) % 6 by omega]
        exact (h6 (k + 1) (by omega)).keep (fun j h1 h2 => hk j (by omega) (by omega))
    · simp only [if_neg e] at hk2 ⊢
      by_cases e2 : k = m
      · rw [if_pos e2, show (nx' + 6 - (m + 1) + k) % 6 = nx by omega]
        exact hB
      · rw [if_neg e2, show (nx' + 6 - (m + 1) + k) % 6 = (nx + 6 - m + k) % 6 by omega]
        exact (h6 k (by omega)).keep (fun j h1 h2 => hk j (by omega) (by omega))
theorem HsN.pop {g : kG} {u u' : Nat → va_E} {nx m : Nat} {S : Nat → kS} (h : HsN g u nx (m + 1) S) (hk : ∀ j, 15 < j → j < 59 → u' j = u j) {nx' : Nat} (hx : (0 < nx ∧ nx' = nx - 1) ∨ (nx = 0 ∧ nx' = 5)) (h15 : u' 15 = .inr (1, [.ref (g.2.1 16), .int (nI nx'), .int (nI m)])) : HsN g u' nx' m S ∧ FmB g u' (17 + 7 * nx') (S m).1 (S m).2 := by
  obtain ⟨h0, h1, ⟨f, h2, h3⟩, h4, h5, h6⟩ := h
  refine ⟨⟨by omega, h15, ⟨f, (hk 16 (by omega) (by omega)).trans h2, h3⟩, by omega, fun j hj => ?_, fun k hk2 => ?_⟩, ?_⟩
  · obtain ⟨sz, G, V, q⟩ := h5 j hj
    exact ⟨sz, G, V, q.keep (fun j h1 h2 => hk j (by omega) (by omega))⟩
  · rw [show (nx' + 6 - m + k) % 6 = (nx + 6 - (m + 1) + k) % 6 by omega]
    exact (h6 k (by omega)).keep (fun j h1 h2 => hk j (by omega) (by omega))
  · have q := h6 m (by omega)
    rw [show (nx + 6 - (m + 1) + m) % 6 = nx' by omega] at q
    exact q.keep (fun j h1 h2 => hk j (by omega) (by omega))
theorem pushM_I {m : Nat} (h : m ≤ 6) : minI (nI m + 1) 6 = nI (pushM m) := by
  rcases (by omega : m = 0 ∨ m = 1 ∨ m = 2 ∨ m = 3 ∨ m = 4 ∨ m = 5 ∨ m = 6) with rfl | rfl | rfl | rfl | rfl | rfl | rfl <;> decide

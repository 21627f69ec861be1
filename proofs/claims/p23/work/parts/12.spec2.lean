theorem canK_eq {G B : kB} {n : Nat} {mask : Int32} {j : Nat} (hn : n ≤ 16) (hG : ∀ b, b < n → ∀ w, w < 5 → G b w = B b w) (hj : j < 16) : canK B n mask j = (tld mask (nI j) && !(hasB n (nI j) && (decide (G j 0 = 0) || decide (G j 0 = 3)))) := by
  rw [hasB_nI (by omega) (by omega), canK]
  by_cases h : j < n
  · rw [hG j h 0 (by decide)]
  · simp [h]
theorem bUp_ag {G B : kB} {n b w : Nat} {v : Int32} (hG : ∀ b, b < n → ∀ w, w < 5 → G b w = B b w) : ∀ b', b' < n → ∀ w', w' < 5 → bUp G b w v b' w' = bUp B b w v b' w' := by
  intro b' hb' w' hw'
  simp only [bUp]
  rw [hG b' hb' w' hw']
theorem bAdd_ag {G B : kB} {n : Nat} {kd p s lim : Int32} (hG : ∀ b, b < n → ∀ w, w < 5 → G b w = B b w) : ∀ b, b < n + 1 → ∀ w, w < 5 → bUp (bUp (bUp (bUp (bUp G n 0 kd) n 1 p) n 2 s) n 3 lim) n 4 (-1) b w = bAdd B n kd p s lim b w := by
  intro b hb w hw
  by_cases e : b = n
  · subst e
    rcases (by omega : w = 0 ∨ w = 1 ∨ w = 2 ∨ w = 3 ∨ w = 4) with rfl | rfl | rfl | rfl | rfl <;> simp [bUp, bAdd]
  · simp [bUp, bAdd, e, hG b (by omega) w hw]
theorem bCpy_ag {G B : kB} {j : Nat} (hG : ∀ b, b < j → ∀ w, w < 5 → G b w = B b w) : ∀ b, b < j + 1 → ∀ w, w < 5 → bUp (bUp (bUp (bUp (bUp G j 0 (B j 0)) j 1 (B j 1)) j 2 (B j 2)) j 3 (B j 3)) j 4 (B j 4) b w = B b w := by
  intro b hb w hw
  by_cases e : b = j
  · subst e
    rcases (by omega : w = 0 ∨ w = 1 ∨ w = 2 ∨ w = 3 ∨ w = 4) with rfl | rfl | rfl | rfl | rfl <;> simp [bUp]
  · simp [bUp, e, hG b (by omega) w hw]
theorem FmL.size {g : kG} {u u' : Nat → va_E} {i : Nat} {sz sz' : Int32} {G : kB} {V : Nat → Int32} (h : FmL g u i sz G V) (hu : u' = va_up u i (.inr (0, [.ref (g.2.1 (i + 1)), .ref (g.2.1 (i + 2)), .ref (g.2.1 (i + 3)), .ref (g.2.1 (i + 4)), .ref (g.2.1 (i + 5)), .ref (g.2.1 (i + 6)), .int sz']))) : FmL g u' i sz' G V ∧ ∀ j, ¬ (i ≤ j ∧ j < i + 7) → u' j = u j := by
  subst hu
  obtain ⟨h0, h1, h2, h3, h4, h5, h6⟩ := h
  exact ⟨⟨veq, (vne (by omega)).trans h1, (vne (by omega)).trans h2, (vne (by omega)).trans h3, (vne (by omega)).trans h4, (vne (by omega)).trans h5, (vne (by omega)).trans h6⟩, fun j hj => vne (by omega)⟩
theorem gtm0 {m : Nat} (h : m < 2 ^ 31) : nI m - 1 < nI m := by
  cases m with
  | zero => decide
  | succ m => rw [nI_pred]; exact nI_lt (by omega) h
theorem gtm1 {j m : Nat} (hj : j < m) (h : m < 2 ^ 31) : ¬ nI m - 1 < nI j := by
  cases m with
  | zero => omega
  | succ m => rw [nI_pred]; exact nI_nlt (by omega) (by omega)
/-- a value, as the row tells it: -1 for the box -1 -/
def valR (B : kB) (mask : Int32) (V : Nat → Int32) (m : Nat) : Int32 := atF 16 (valN B mask V m) (nI m - 1)

theorem fst_step {n k : Nat} {P : Nat → Bool} {x : Int32} (h : fstN n P = if anyN (k + 1) P then fstN (k + 1) P else x) (hp : P k = true) : fstN n P = if anyN k P then fstN k P else nI k := by
  rw [h, anyN, hp, Bool.or_true, if_pos rfl, fstN, hp]
  simp
theorem fst_skip {n k : Nat} {P : Nat → Bool} {x : Int32} (h : fstN n P = if anyN (k + 1) P then fstN (k + 1) P else x) (hp : P k = false) : fstN n P = if anyN k P then fstN k P else x := by
  rw [h, anyN, hp, Bool.or_false]
  by_cases q : anyN k P = true
  · simp [q, fstN]
  · simp [q]
theorem fst_end {n : Nat} {P : Nat → Bool} : fstN n P = if anyN n P then fstN n P else -1 := by
  by_cases q : anyN n P = true
  · simp [q]
  · rw [fstN_none (by simpa using q)]; simp
section MDL
variable {g : kG} {u : Nat → va_E} {th sm ty rm sp wr : Int32} {hs : Int64} {Z SV BF VA RD CH WE : Nat → Int32}
theorem MdL.num (h : MdL g u th sm ty rm sp wr hs Z SV BF VA RD CH WE) {th' sm' ty' rm' sp' wr' : Int32} {hs' : Int64} : MdL g (va_up u 61 (.inr (4, [.int th', .ref (g.2.1 62), .ref (g.2.1 63), .int sm', .ref (g.2.1 64), .int ty', .ref (g.2.1 65), .ref (g.2.1 66), .int rm', .int sp', .int wr', .ref (g.2.1 67), .ref (g.2.1 68), .long hs']))) th' sm' ty' rm' sp' wr' hs' Z SV BF VA RD CH WE := by
  obtain ⟨h0, h1, h2, h3, h4, h5, h6, h7⟩ := h
  exact ⟨veq, (vne (by decide)).trans h1, (vne (by decide)).trans h2, (vne (by decide)).trans h3, (vne (by decide)).trans h4, (vne (by decide)).trans h5, (vne (by decide)).trans h6, (vne (by decide)).trans h7⟩
theorem MdL.upZ (h : MdL g u th sm ty rm sp wr hs Z SV BF VA RD CH WE) {Z' : Nat → Int32} : MdL g (va_up u 62 (.inl (g.2.2.1 0, 81, .inl Z'))) th sm ty rm sp wr hs Z' SV BF VA RD CH WE := by
  obtain ⟨h0, h1, h2, h3, h4, h5, h6, h7⟩ := h
  exact ⟨(vne (by decide)).trans h0, veq, (vne (by decide)).trans h2, (vne (by decide)).trans h3, (vne (by decide)).trans h4, (vne (by decide)).trans h5, (vne (by decide)).trans h6, (vne (by decide)).trans h7⟩
theorem MdL.upS (h : MdL g u th sm ty rm sp wr hs Z SV BF VA RD CH WE) {Z' : Nat → Int32} : MdL g (va_up u 63 (.inl (g.2.2.1 0, 486, .inl Z'))) th sm ty rm sp wr hs Z Z' BF VA RD CH WE := by
  obtain ⟨h0, h1, h2, h3, h4, h5, h6, h7⟩ := h
  exact ⟨(vne (by decide)).trans h0, (vne (by decide)).trans h1, veq, (vne (by decide)).trans h3, (vne (by decide)).trans h4, (vne (by decide)).trans h5, (vne (by decide)).trans h6, (vne (by decide)).trans h7⟩
theorem MdL.upB (h : MdL g u th sm ty rm sp wr hs Z SV BF VA RD CH WE) {Z' : Nat → Int32} : MdL g (va_up u 64 (.inl (g.2.2.1 0, 60, .inl Z'))) th sm ty rm sp wr hs Z SV Z' VA RD CH WE := by
  obtain ⟨h0, h1, h2, h3, h4, h5, h6, h7⟩ := h
  exact ⟨(vne (by decide)).trans h0, (vne (by decide)).trans h1, (vne (by decide)).trans h2, veq, (vne (by decide)).trans h4, (vne (by decide)).trans h5, (vne (by decide)).trans h6, (vne (by decide)).trans h7⟩
theorem MdL.upV (h : MdL g u th sm ty rm sp wr hs Z SV BF VA RD CH WE) {Z' : Nat → Int32} : MdL g (va_up u 65 (.inl (g.2.2.1 0, 16, .inl Z'))) th sm ty rm sp wr hs Z SV BF Z' RD CH WE := by
  obtain ⟨h0, h1, h2, h3, h4, h5, h6, h7⟩ := h
  exact ⟨(vne (by decide)).trans h0, (vne (by decide)).trans h1, (vne (by decide)).trans h2, (vne (by decide)).trans h3, veq, (vne (by decide)).trans h5, (vne (by decide)).trans h6, (vne (by decide)).trans h7⟩
theorem MdL.upR (h : MdL g u th sm ty rm sp wr hs Z SV BF VA RD CH WE) {Z' : Nat → Int32} : MdL g (va_up u 66 (.inl (g.2.2.1 0, 34, .inl Z'))) th sm ty rm sp wr hs Z SV BF VA Z' CH WE := by
  obtain ⟨h0, h1, h2, h3, h4, h5, h6, h7⟩ := h
  exact ⟨(vne (by decide)).trans h0, (vne (by decide)).trans h1, (vne (by decide)).trans h2, (vne (by decide)).trans h3, (vne (by decide)).trans h4, veq, (vne (by decide)).trans h6, (vne (by decide)).trans h7⟩
theorem MdL.upC (h : MdL g u th sm ty rm sp wr hs Z SV BF VA RD CH WE) {Z' : Nat → Int32} : MdL g (va_up u 67 (.inl (g.2.2.1 0, 16, .inl Z'))) th sm ty rm sp wr hs Z SV BF VA RD Z' WE := by
  obtain ⟨h0, h1, h2, h3, h4, h5, h6, h7⟩ := h
  exact ⟨(vne (by decide)).trans h0, (vne (by decide)).trans h1, (vne (by decide)).trans h2, (vne (by decide)).trans h3, (vne (by decide)).trans h4, (vne (by decide)).trans h5, veq, (vne (by decide)).trans h7⟩
theorem MdL.upW (h : MdL g u th sm ty rm sp wr hs Z SV BF VA RD CH WE) {Z' : Nat → Int32} : MdL g (va_up u 68 (.inl (g.2.2.1 1, 16, .inl Z'))) th sm ty rm sp wr hs Z SV BF VA RD CH Z' := by
  obtain ⟨h0, h1, h2, h3, h4, h5, h6, h7⟩ := h
  exact ⟨(vne (by decide)).trans h0, (vne (by decide)).trans h1, (vne (by decide)).trans h2, (vne (by decide)).trans h3, (vne (by decide)).trans h4, (vne (by decide)).trans h5, (vne (by decide)).trans h6, veq⟩
end MDL
theorem ZB.up {Z : Nat → Int32} {n : Nat} {B : kB} (h : ZB Z n B) {b : Nat} {v : Int32} : ZB (upd Z (1 + 5 * b + 4) v) n (bUp B b 4 v) := by
  refine ⟨?_, fun b' hb' w hw => ?_⟩
  · rw [← h.1]; exact if_neg (by omega)
  · by_cases e : b' = b ∧ w = 4
    · obtain ⟨rfl, rfl⟩ := e; simp [upd, bUp]
    · simp only [upd, bUp, if_neg e, if_neg (show ¬ 1 + 5 * b' + w = 1 + 5 * b + 4 from fun q => e (by omega))]
      exact h.2 b' hb' w hw
/-- the row behind 'add' -/
def addZ (Z : Nat → Int32) (n : Nat) (kd p a l : Int32) : Nat → Int32 := upd (upd (upd (upd (upd Z (1 + 5 * n + 0) kd) (1 + 5 * n + 1) p) (1 + 5 * n + 2) a) (1 + 5 * n + 3) l) (1 + 5 * n + 4) (-1)
theorem addZ_0 {Z : Nat → Int32} {n : Nat} {kd p a l : Int32} : addZ Z n kd p a l 0 = Z 0 := by
  simp only [addZ, upd]
  rw [if_neg (by omega), if_neg (by omega), if_neg (by omega), if_neg (by omega), if_neg (by omega)]
theorem ZB.add {Z : Nat → Int32} {n : Nat} {B : kB} {kd p a l : Int32} (h : ZB Z n B) : ZB (upd (addZ Z n kd p a l) 0 (nI (n + 1))) (n + 1) (bAdd B n kd p a l) := by
  refine ⟨if_pos rfl, fun b hb w hw => ?_⟩
  have e0 : upd (addZ Z n kd p a l) 0 (nI (n + 1)) (1 + 5 * b + w) = addZ Z n kd p a l (1 + 5 * b + w) := if_neg (by omega)
  rw [e0]
  by_cases e : b = n
  · subst e
    rcases (by omega : w = 0 ∨ w = 1 ∨ w = 2 ∨ w = 3 ∨ w = 4) with rfl | rfl | rfl | rfl | rfl
    · simp only [addZ, upd, bAdd, if_true]
      rw [if_neg (by omega), if_neg (by omega), if_neg (by omega), if_neg (by omega)]
    · simp only [addZ, upd, bAdd, if_true]
      rw [if_neg (by omega), if_neg (by omega), if_neg (by omega)]
    · simp only [addZ, upd, bAdd, if_true]
      rw [if_neg (by omega), if_neg (by omega)]
    · simp only [addZ, upd, bAdd, if_true]
      rw [if_neg (by omega)]
    · simp only [addZ, upd, bAdd, if_true]
  · simp only [addZ, upd, bAdd, if_neg e]
    rw [if_neg (by omega), if_neg (by omega), if_neg (by omega), if_neg (by omega), if_neg (by omega)]
    exact h.2 b (by omega) w hw
/-- the saved states moved down; one copied behind q of them -/
def svS (SV : Nat → Int32) (j : Nat) : Nat → Int32 := fun i => if i < j then SV (i + 81) else SV i
def svC (SV : Nat → Int32) (q : Nat) (Z : Nat → Int32) (j : Nat) : Nat → Int32 := fun i => if q * 81 ≤ i ∧ i < q * 81 + j then Z (i - q * 81) else SV i
theorem svS_s {SV : Nat → Int32} {j : Nat} : upd (svS SV j) j (svS SV j (j + 81)) = svS SV (j + 1) := by
  funext i
  simp only [upd, svS]
  by_cases e : i = j
  · subst e; simp; intro h; omega
  · by_cases e2 : i < j
    · simp [e, e2, show i < j + 1 by omega]
    · simp [e, e2, show ¬ i < j + 1 by omega]
theorem svS_0 {SV : Nat → Int32} : svS SV 0 = SV := by funext i; simp [svS]
theorem svC_0 {SV Z : Nat → Int32} {q : Nat} : svC SV q Z 0 = SV := by
  funext i
  unfold svC
  rw [if_neg (by omega)]
theorem svC_s {SV Z : Nat → Int32} {q j : Nat} : upd (svC SV q Z j) (q * 81 + j) (Z j) = svC SV q Z (j + 1) := by
  funext i
  simp only [upd, svC]
  by_cases e : i = q * 81 + j
  · subst e
    rw [if_pos rfl, if_pos (by omega), show q * 81 + j - q * 81 = j by omega]
  · rw [if_neg e]
    by_cases e2 : q * 81 ≤ i ∧ i < q * 81 + j
    · rw [if_pos e2, if_pos (by omega)]
    · rw [if_neg e2, if_neg (by omega)]
theorem SB.push6 {SV Z : Nat → Int32} {n : Nat} {B : kB} {S : Nat → kS} (h : SB SV 6 S) (hZ : ZB Z n B) (hn : n ≤ 16) : SB (svC (svS SV 405) 5 Z 81) 6 (pushS 6 S (n, B)) := by
  intro k hk
  simp only [pushS, if_true]
  by_cases e : k = 5
  · subst e
    simp only [if_true]
    refine ⟨hn, ?_, fun b hb w hw => ?_⟩
    · rw [← hZ.1]; exact if_pos (by omega)
    · rw [← hZ.2 b hb w hw]
      simp only [svC]
      rw [if_pos (by omega), show 81 * 5 + (1 + 5 * b + w) - 5 * 81 = 1 + 5 * b + w by omega]
  · simp only [if_neg e]
    obtain ⟨h1, h2, h3⟩ := h (k + 1) (by omega)
    refine ⟨h1, ?_, fun b hb w hw => ?_⟩
    · rw [← h2]
      simp only [svC, svS]
      rw [if_neg (by omega), if_pos (by omega), show 81 * k + 81 = 81 * (k + 1) by omega]
    · rw [← h3 b hb w hw]
      simp only [svC, svS]
      rw [if_neg (by omega), if_pos (by omega), show 81 * k + (1 + 5 * b + w) + 81 = 81 * (k + 1) + (1 + 5 * b + w) by omega]
theorem SB.push {SV Z : Nat → Int32} {n m : Nat} {B : kB} {S : Nat → kS} (h : SB SV m S) (hZ : ZB Z n B) (hn : n ≤ 16) (hm : ¬ m = 6) : SB (svC SV m Z 81) (m + 1) (pushS m S (n, B)) := by
  intro k hk
  simp only [pushS, if_neg hm]
  by_cases e : k = m
  · subst e
    simp only [if_true]
    refine ⟨hn, ?_, fun b hb w hw => ?_⟩
    · rw [← hZ.1]
      simp only [svC]
      rw [if_pos (by omega), show 81 * k - k * 81 = 0 by omega]
    · rw [← hZ.2 b hb w hw]
      simp only [svC]
      rw [if_pos (by omega), show 81 * k + (1 + 5 * b + w) - k * 81 = 1 + 5 * b + w by omega]
  · simp only [if_neg e]
    obtain ⟨h1, h2, h3⟩ := h k (by omega)
    refine ⟨h1, ?_, fun b hb w hw => ?_⟩
    · rw [← h2]; exact if_neg (by omega)
    · rw [← h3 b hb w hw]; exact if_neg (by omega)
/-- a row laid over another, from a saved state on -/
def zzC (Z SV : Nat → Int32) (q j : Nat) : Nat → Int32 := fun i => if i < j then SV (q * 81 + i) else Z i
theorem zzC_s {Z SV : Nat → Int32} {q j : Nat} : upd (zzC Z SV q j) j (SV (q * 81 + j)) = zzC Z SV q (j + 1) := by
  funext i
  simp only [upd, zzC]
  by_cases e : i = j
  · subst e; simp
  · by_cases e2 : i < j
    · simp [e, e2, show i < j + 1 by omega]
    · simp [e, e2, show ¬ i < j + 1 by omega]
theorem zzC_0 {Z SV : Nat → Int32} {q : Nat} : zzC Z SV q 0 = Z := by funext i; simp [zzC]
theorem SB.back {SV Z : Nat → Int32} {m : Nat} {S : Nat → kS} (h : SB SV (m + 1) S) : (S m).1 ≤ 16 ∧ ZB (zzC Z SV m 81) (S m).1 (S m).2 := by
  obtain ⟨h1, h2, h3⟩ := h m (by omega)
  refine ⟨h1, ?_, fun b hb w hw => ?_⟩
  · rw [← h2]
    simp only [zzC]
    rw [if_pos (by omega), show m * 81 + 0 = 81 * m by omega]
  · rw [← h3 b hb w hw]
    simp only [zzC]
    rw [if_pos (by omega), show m * 81 + (1 + 5 * b + w) = 81 * m + (1 + 5 * b + w) by omega]
theorem ixs (q j : Nat) : nI q * 81 + nI j = nI (q * 81 + j) := by
  rw [show (81 : Int32) = nI 81 from rfl, pk_mul, nI_add]
theorem ix81 (j : Nat) : nI j + 81 = nI (j + 81) := by
  rw [show (81 : Int32) = nI 81 from rfl, nI_add]

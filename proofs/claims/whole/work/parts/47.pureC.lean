/-! PURE WORDS for the reference's reading -/
theorem wi_i {x a b : Int32} : wi x a b = true ↔ a.toInt ≤ x.toInt ∧ x.toInt ≤ b.toInt := by
  simp only [wi, Bool.and_eq_true, Bool.not_eq_true', decide_eq_false_iff_not, Int32.lt_iff_toInt_lt]
  omega
theorem dig_i (c : Int32) : wi (c - 48) 0 9 = digC c := by
  rw [Bool.eq_iff_iff]
  unfold digC
  rw [wi_i, wi_i]
  have h1 := Int32.le_toInt c
  have h2 := Int32.toInt_lt c
  have e0 : (0 : Int32).toInt = 0 := by decide
  have e9 : (9 : Int32).toInt = 9 := by decide
  have e48 : (48 : Int32).toInt = 48 := by decide
  have e57 : (57 : Int32).toInt = 57 := by decide
  rw [Int32.toInt_sub, e0, e9, e48, e57, Int.bmod_def]
  split <;> omega
theorem dig_n {c : Int32} (h : digC c = true) : ∃ d, d ≤ 9 ∧ c = nI (48 + d) ∧ c - 48 = nI d := by
  unfold digC at h
  rw [wi_i] at h
  have e48 : (48 : Int32).toInt = 48 := by decide
  have e57 : (57 : Int32).toInt = 57 := by decide
  rw [e48, e57] at h
  obtain ⟨d, hd⟩ : ∃ d, d = c.toInt.toNat - 48 := ⟨_, rfl⟩
  have e : c = nI (48 + d) := by
    refine Int32.toInt_inj.mp ?_
    rw [nI_toInt (by omega)]
    omega
  refine ⟨d, by omega, e, ?_⟩
  rw [show c - 48 = nI (48 + d) - nI 48 from by rw [← e]; rfl, pk_sub (by omega)]
  congr 1
  omega
theorem dig_no {d : Nat} (hd : d ≤ 9) : ¬ nI (48 + d) = 44 ∧ ¬ nI (48 + d) = -1 ∧ ¬ nI (48 + d) = 61 ∧ ¬ nI (48 + d) = 45 := by
  rcases (by omega : d = 0 ∨ d = 1 ∨ d = 2 ∨ d = 3 ∨ d = 4 ∨ d = 5 ∨ d = 6 ∨ d = 7 ∨ d = 8 ∨ d = 9) with rfl | rfl | rfl | rfl | rfl | rfl | rfl | rfl | rfl | rfl <;> decide
theorem dig_m1 : digC (-1) = false := by decide
theorem codC_t {C : Nat → Int32} {t : Nat} : codC C t t = -1 := if_neg (Nat.lt_irrefl t)
theorem cod_dig {C : Nat → Int32} {t p : Nat} (h : digC (codC C t p) = true) : p < t ∧ digC (C p) = true := by
  by_cases e : p < t
  · rw [codC_lt e] at h; exact ⟨e, h⟩
  · rw [codC, if_neg e, dig_m1] at h; cases h
def numG (most : Int32) (C : Nat → Int32) (t : Nat) : Nat → Nat → Int32 → Nat × Int32
  | 0, s, v => (s, v)
  | f + 1, s, v => if (!decide (v ≤ 0) && (digC (codC C t s) && !decide (most < 10 * v + (codC C t s - 48)))) = true then numG most C t f (s + 1) (10 * v + (codC C t s - 48)) else (s, v)
theorem anyE {C : Nat → Int32} {q : Nat} (h : anyN q (qErr C) = false) (hs : ¬ stA (stN C q) (C q) = -1) : anyN (q + 1) (qErr C) = false := by
  rw [anyN, h, Bool.false_or, qErr]
  exact decide_eq_false hs
/-- a digit to the box's number, to the answer -/
theorem runG_b {n : Nat} {C : Nat → Int32} {t k j : Nat} {gv bx vl : Int32} {B : kB} (hj : j < t) (hd : digC (C j) = true) : runG n C t (k + 1) j gv bx vl false B = runG n C t k (j + 1) gv (bx * 10 + (C j - 48)) vl false B := by
  obtain ⟨d, h1, h2, -⟩ := dig_n hd
  obtain ⟨z1, z2, z3, z4⟩ := dig_no h1
  rw [runG, codC_lt hj, h2, if_neg (by rintro (q | q); exact z1 q; exact z2 q), if_neg z3, if_neg z4, if_neg (by decide)]
theorem runG_a {n : Nat} {C : Nat → Int32} {t k j : Nat} {gv bx vl : Int32} {B : kB} (hj : j < t) (hd : digC (C j) = true) : runG n C t (k + 1) j gv bx vl true B = runG n C t k (j + 1) gv bx (if vl = -1 then C j - 48 else vl * 10 + (C j - 48)) true B := by
  obtain ⟨d, h1, h2, -⟩ := dig_n hd
  obtain ⟨z1, z2, z3, z4⟩ := dig_no h1
  rw [runG, codC_lt hj, h2, if_neg (by rintro (q | q); exact z1 q; exact z2 q), if_neg z3, if_neg z4, if_pos rfl]
theorem runG_eq {n : Nat} {C : Nat → Int32} {t k j : Nat} {gv bx vl : Int32} {ae : Bool} {B : kB} (hj : j < t) (hd : C j = 61) : runG n C t (k + 1) j gv bx vl ae B = runG n C t k (j + 1) gv bx vl true B := by
  rw [runG, codC_lt hj, hd, if_neg (by decide), if_pos rfl]
theorem runG_mi {n : Nat} {C : Nat → Int32} {t k j : Nat} {gv bx vl : Int32} {ae : Bool} {B : kB} (hj : j < t) (hd : C j = 45) : runG n C t (k + 1) j gv bx vl ae B = runG n C t k (j + 1) gv bx vl ae B := by
  rw [runG, codC_lt hj, hd, if_neg (by decide), if_neg (by decide), if_pos rfl]
theorem nI_ne1 {V : Nat} (h : V < 2 ^ 31) : ¬ nI V = -1 := by
  intro q
  have z : (nI V).toInt = (-1 : Int32).toInt := by rw [q]
  rw [nI_toInt h] at z
  have e1 : (-1 : Int32).toInt = -1 := by decide
  omega
theorem nI_le0 {V : Nat} (h : V < 2 ^ 31) : decide (nI V ≤ 0) = decide (V = 0) := by
  refine decide_eq_decide.mpr ?_
  rw [show (0 : Int32) = nI 0 from rfl, nI_leI h (by decide)]
  omega
theorem ten_n {V d : Nat} : (10 : Int32) * nI V + nI d = nI (10 * V + d) := by rw [show (10 : Int32) = nI 10 from rfl, pk_mul, nI_add]
theorem ten_m {V d : Nat} : nI V * 10 + nI d = nI (10 * V + d) := by rw [show (10 : Int32) = nI 10 from rfl, pk_mul, nI_add, Nat.mul_comm]
/-- one turn of the number -/
theorem numG_s {most : Int32} {C : Nat → Int32} {t f s V M : Nat} (hM : most = nI M) (hMl : M < 2 ^ 20) (hV : V < 2 ^ 20) (hs : s < t) : numG most C t (f + 1) s (nI V) = if V ≠ 0 ∧ ∃ d, d ≤ 9 ∧ C s = nI (48 + d) ∧ 10 * V + d ≤ M then numG most C t f (s + 1) (10 * nI V + (C s - 48)) else (s, nI V) := by
  rw [numG, codC_lt hs]
  have hiff : (!decide (nI V ≤ 0) && (digC (C s) && !decide (most < 10 * nI V + (C s - 48)))) = true ↔ (V ≠ 0 ∧ ∃ d, d ≤ 9 ∧ C s = nI (48 + d) ∧ 10 * V + d ≤ M) := by
   simp only [Bool.and_eq_true, Bool.not_eq_true', nI_le0 (show V < 2 ^ 31 by omega), decide_eq_false_iff_not]
   constructor
   · rintro ⟨h1, h2, h3⟩
     obtain ⟨d, z1, z2, z3⟩ := dig_n h2
     refine ⟨h1, d, z1, z2, ?_⟩
     rw [z3, ten_n, hM, nI_ltI (by omega) (by omega)] at h3
     omega
   · rintro ⟨h1, d, z1, z2, z3⟩
     have e : C s - 48 = nI d := by rw [z2, show (48 : Int32) = nI 48 from rfl, pk_sub (by omega)]; congr 1; omega
     refine ⟨h1, ?_, ?_⟩
     · unfold digC
       rw [wi_i, z2, nI_toInt (by omega)]
       have e48 : (48 : Int32).toInt = 48 := by decide
       have e57 : (57 : Int32).toInt = 57 := by decide
       omega
     · rw [e, ten_n, hM, nI_ltI (by omega) (by omega)]
       omega
  by_cases hh : V ≠ 0 ∧ ∃ d, d ≤ 9 ∧ C s = nI (48 + d) ∧ 10 * V + d ≤ M
  · rw [if_pos hh, if_pos (hiff.mpr hh)]
  · rw [if_neg hh, if_neg (fun q => hh (hiff.mp q))]
theorem stA_0 {d : Nat} (h : d ≤ 9) : stA 0 (nI (48 + d)) = if d = 1 then 1 else 2 := by
  rcases (by omega : d = 0 ∨ d = 1 ∨ d = 2 ∨ d = 3 ∨ d = 4 ∨ d = 5 ∨ d = 6 ∨ d = 7 ∨ d = 8 ∨ d = 9) with rfl | rfl | rfl | rfl | rfl | rfl | rfl | rfl | rfl | rfl <;> decide
theorem stA_3 {d : Nat} (h : d ≤ 9) : stA 3 (nI (48 + d)) = if d = 0 then 8 else 4 := by
  rcases (by omega : d = 0 ∨ d = 1 ∨ d = 2 ∨ d = 3 ∨ d = 4 ∨ d = 5 ∨ d = 6 ∨ d = 7 ∨ d = 8 ∨ d = 9) with rfl | rfl | rfl | rfl | rfl | rfl | rfl | rfl | rfl | rfl <;> decide
theorem stA_1 {d : Nat} (h : d ≤ 5) : stA 1 (nI (48 + d)) = 2 := by
  rcases (by omega : d = 0 ∨ d = 1 ∨ d = 2 ∨ d = 3 ∨ d = 4 ∨ d = 5) with rfl | rfl | rfl | rfl | rfl | rfl <;> decide
theorem stA_1n {c : Int32} (h : ¬ ∃ d, d ≤ 9 ∧ c = nI (48 + d) ∧ d ≤ 5) : stA 1 c = aBox c := by
  have q : wi c 48 53 = false := by
    cases e : wi c 48 53 with
    | false => rfl
    | true =>
      exfalso
      rw [wi_i] at e
      have e48 : (48 : Int32).toInt = 48 := by decide
      have e53 : (53 : Int32).toInt = 53 := by decide
      rw [e48, e53] at e
      refine h ⟨c.toInt.toNat - 48, by omega, ?_, by omega⟩
      refine Int32.toInt_inj.mp ?_
      rw [nI_toInt (by omega)]
      omega
  unfold stA
  rw [if_neg (by decide), if_pos rfl, q, if_neg (by decide)]
/-- a box's number -/
def BoxR (C : Nat → Int32) (t p q : Nat) (r : Int32) : Prop := p < q ∧ q ≤ t ∧ anyN q (qErr C) = false ∧ (stN C q = 1 ∨ stN C q = 2) ∧ (q < t → stA (stN C q) (C q) = aBox (C q)) ∧ ∀ n k gv B, runG n C t (k + (q - p)) p gv 0 (-1) false B = runG n C t k q gv r (-1) false B
theorem box_r {C : Nat → Int32} {t p : Nat} (hd : digC (codC C t p) = true) (h0 : stN C p = 0) (he : anyN p (qErr C) = false) : BoxR C t p (numG 15 C t (t - (p + 1)) (p + 1) (codC C t p - 48)).1 (numG 15 C t (t - (p + 1)) (p + 1) (codC C t p - 48)).2 := by
  obtain ⟨hp, hd⟩ := cod_dig hd
  rw [codC_lt hp]
  obtain ⟨d, d1, d2, d3⟩ := dig_n hd
  have s1 : stN C (p + 1) = if d = 1 then 1 else 2 := by rw [stN, h0, d2, stA_0 d1]
  have e1 : anyN (p + 1) (qErr C) = false := anyE he (by rw [h0, d2, stA_0 d1]; split <;> decide)
  have r1 : ∀ n k gv B, runG n C t (k + 1) p gv 0 (-1) false B = runG n C t k (p + 1) gv (nI d) (-1) false B := by
    intro n k gv B
    rw [runG_b hp hd, d3]
    congr 1
    rw [Int32.zero_mul, Int32.zero_add]
  rw [d3]
  have stop : (p + 1 < t → ¬ (d ≠ 0 ∧ ∃ x, x ≤ 9 ∧ C (p + 1) = nI (48 + x) ∧ 10 * d + x ≤ 15)) → BoxR C t p (numG 15 C t (t - (p + 1)) (p + 1) (nI d)).1 (numG 15 C t (t - (p + 1)) (p + 1) (nI d)).2 := by
    intro hno
    have e : numG 15 C t (t - (p + 1)) (p + 1) (nI d) = (p + 1, nI d) := by
      cases hf : t - (p + 1) with
      | zero => rfl
      | succ f => rw [numG_s (most := 15) (M := 15) rfl (by decide) (by omega) (by omega), if_neg (hno (by omega))]
    rw [e]
    refine ⟨by omega, by omega, e1, ?_, fun hq => ?_, fun n k gv B => ?_⟩
    · rw [s1]; split
      · exact Or.inl rfl
      · exact Or.inr rfl
    · rw [s1]
      split
      · rename_i h1
        subst h1
        refine stA_1n (fun ⟨x, x1, x2, x3⟩ => hno hq ⟨by decide, x, x1, x2, by omega⟩)
      · rfl
    · rw [show p + 1 - p = 1 by omega]; exact r1 n k gv B
  by_cases hgo : p + 1 < t ∧ (d ≠ 0 ∧ ∃ x, x ≤ 9 ∧ C (p + 1) = nI (48 + x) ∧ 10 * d + x ≤ 15)
  · obtain ⟨hlt, hd0, x, x1, x2, x3⟩ := hgo
    obtain rfl : d = 1 := by omega
    obtain ⟨f, hf⟩ : ∃ f, t - (p + 1) = f + 1 := ⟨t - (p + 1) - 1, by omega⟩
    have ex : C (p + 1) - 48 = nI x := by rw [x2, show (48 : Int32) = nI 48 from rfl, pk_sub (by omega)]; congr 1; omega
    have e : numG 15 C t (t - (p + 1)) (p + 1) (nI 1) = (p + 2, nI (10 * 1 + x)) := by
      rw [hf, numG_s (most := 15) (M := 15) rfl (by decide) (by decide) hlt, if_pos ⟨by decide, x, x1, x2, x3⟩, ex, ten_n]
      cases f with
      | zero => rfl
      | succ f => rw [numG_s (most := 15) (M := 15) rfl (by decide) (by omega) (by omega), if_neg]; rintro ⟨-, y, y1, -, y3⟩; omega
    rw [e]
    have s2 : stN C (p + 2) = 2 := by rw [show p + 2 = (p + 1) + 1 from rfl, stN, s1, if_pos rfl, x2, stA_1 (by omega)]
    have hdx : digC (C (p + 1)) = true := by
      unfold digC
      rw [wi_i, x2, nI_toInt (by omega)]
      have e48 : (48 : Int32).toInt = 48 := by decide
      have e57 : (57 : Int32).toInt = 57 := by decide
      omega
    refine ⟨by show p < p + 2; omega, by show p + 2 ≤ t; omega, ?_, Or.inr s2, fun _ => ?_, fun n k gv B => ?_⟩
    · refine anyE e1 ?_
      rw [s1, if_pos rfl, x2, stA_1 (by omega)]; decide
    · show stA (stN C (p + 2)) (C (p + 2)) = _
      rw [s2]; rfl
    · show runG n C t (k + (p + 2 - p)) p gv 0 (-1) false B = runG n C t k (p + 2) gv (nI (10 * 1 + x)) (-1) false B
      rw [show k + (p + 2 - p) = (k + 1) + 1 by omega, r1, runG_b hlt hdx, ex, ten_m]
  · exact stop (fun h q => hgo ⟨h, q⟩)
def AnsR (C : Nat → Int32) (t s q : Nat) (v r : Int32) : Prop := s ≤ q ∧ q ≤ t ∧ anyN q (qErr C) = false ∧ (∃ x, 4 ≤ x ∧ x ≤ 8 ∧ stN C q = nI x) ∧ (q < t → stA (stN C q) (C q) = aAns (C q)) ∧ ∀ n k gv bx B, runG n C t (k + (q - s)) s gv bx v true B = runG n C t k q gv bx r true B
theorem stA_4 {x d : Nat} (hx : 4 ≤ x) (hx8 : x < 8) (h : d ≤ 9) : stA (nI x) (nI (48 + d)) = nI (x + 1) := by
  rcases (by omega : x = 4 ∨ x = 5 ∨ x = 6 ∨ x = 7) with rfl | rfl | rfl | rfl <;> (rcases (by omega : d = 0 ∨ d = 1 ∨ d = 2 ∨ d = 3 ∨ d = 4 ∨ d = 5 ∨ d = 6 ∨ d = 7 ∨ d = 8 ∨ d = 9) with rfl | rfl | rfl | rfl | rfl | rfl | rfl | rfl | rfl | rfl <;> decide)
theorem stA_8 {c : Int32} : stA 8 c = aAns c := rfl
theorem stA_4n {x : Nat} {c : Int32} (hx : 4 ≤ x) (hx8 : x < 8) (h : digC c = false) : stA (nI x) c = aAns c := by
  rcases (by omega : x = 4 ∨ x = 5 ∨ x = 6 ∨ x = 7) with rfl | rfl | rfl | rfl
  · show (if digC c = true then (nI 4) + 1 else aAns c) = _; rw [h]; rfl
  · show (if digC c = true then (nI 5) + 1 else aAns c) = _; rw [h]; rfl
  · show (if digC c = true then (nI 6) + 1 else aAns c) = _; rw [h]; rfl
  · show (if digC c = true then (nI 7) + 1 else aAns c) = _; rw [h]; rfl
theorem dig_k {c : Int32} {d : Nat} (h : d ≤ 9) (e : c = nI (48 + d)) : digC c = true := by
  unfold digC
  rw [wi_i, e, nI_toInt (by omega)]
  have e48 : (48 : Int32).toInt = 48 := by decide
  have e57 : (57 : Int32).toInt = 57 := by decide
  omega
theorem ans_l {C : Nat → Int32} {t : Nat} : ∀ f s i V, s + f = t → i ≤ 4 → 10 ^ i ≤ V → V < 10 ^ (i + 1) → stN C s = nI (4 + i) → anyN s (qErr C) = false → AnsR C t s (numG 99999 C t f s (nI V)).1 (nI V) (numG 99999 C t f s (nI V)).2 := by
  intro f
  induction f with
  | zero =>
    intro s i V h1 h2 h3 h4 h5 h6
    refine ⟨Nat.le_refl _, by show s ≤ t; omega, h6, ⟨4 + i, by omega, by omega, h5⟩, fun q => absurd q (by show ¬ s < t; omega), fun n k gv bx B => ?_⟩
    show runG n C t (k + (s - s)) s gv bx (nI V) true B = _
    rw [Nat.sub_self]; rfl
  | succ f ih =>
    intro s i V h1 h2 h3 h4 h5 h6
    have hs : s < t := by omega
    have hV : V < 100000 := by
      have : 10 ^ (i + 1) ≤ 10 ^ 5 := Nat.pow_le_pow_right (by decide) (by omega)
      omega
    have hV1 : 1 ≤ V := Nat.le_trans (show 10 ^ 0 ≤ 10 ^ i from Nat.pow_le_pow_right (by decide) (Nat.zero_le i)) h3
    rw [numG_s (most := 99999) (M := 99999) rfl (by decide) (by omega) hs]
    by_cases hgo : V ≠ 0 ∧ ∃ d, d ≤ 9 ∧ C s = nI (48 + d) ∧ 10 * V + d ≤ 99999
    · rw [if_pos hgo]
      obtain ⟨-, d, d1, d2, d3⟩ := hgo
      have ex : C s - 48 = nI d := by rw [d2, show (48 : Int32) = nI 48 from rfl, pk_sub (by omega)]; congr 1; omega
      have hi : i < 4 := by
        rcases Nat.lt_or_ge i 4 with q | q
        · exact q
        · exfalso
          have : 10 ^ 4 ≤ 10 ^ i := Nat.pow_le_pow_right (by decide) q
          omega
      rw [ex, ten_n]
      have s1 : stN C (s + 1) = nI (4 + (i + 1)) := by rw [stN, h5, d2, stA_4 (by omega) (by omega) d1]; rfl
      have e1 : anyN (s + 1) (qErr C) = false := anyE h6 (by rw [h5, d2, stA_4 (by omega) (by omega) d1]; exact nI_ne1 (by omega))
      have p1 : 10 ^ (i + 1) = 10 * 10 ^ i := by rw [Nat.pow_succ, Nat.mul_comm]
      have p2 : 10 ^ (i + 1 + 1) = 10 * 10 ^ (i + 1) := by rw [Nat.pow_succ 10 (i + 1), Nat.mul_comm]
      obtain ⟨z1, z2, z3, z4, z5, z6⟩ := ih (s + 1) (i + 1) (10 * V + d) (by omega) (by omega) (by omega) (by omega) s1 e1
      refine ⟨by omega, z2, z3, z4, z5, fun n k gv bx B => ?_⟩
      rw [show k + ((numG 99999 C t f (s + 1) (nI (10 * V + d))).1 - s) = (k + ((numG 99999 C t f (s + 1) (nI (10 * V + d))).1 - (s + 1))) + 1 by omega, runG_a hs (dig_k d1 d2), if_neg (nI_ne1 (by omega)), ex, ten_m]
      exact z6 n k gv bx B
    · rw [if_neg hgo]
      refine ⟨Nat.le_refl _, by show s ≤ t; omega, h6, ⟨4 + i, by omega, by omega, h5⟩, fun _ => ?_, fun n k gv bx B => ?_⟩
      · show stA (stN C s) (C s) = aAns (C s)
        rw [h5]
        by_cases hi : i = 4
        · subst hi; exact stA_8
        · refine stA_4n (by omega) (by omega) ?_
          cases hd : digC (C s) with
          | false => rfl
          | true =>
            exfalso
            obtain ⟨d, d1, d2, -⟩ := dig_n hd
            have : 10 ^ (i + 1) ≤ 10 ^ 4 := Nat.pow_le_pow_right (by decide) (by omega)
            exact hgo ⟨by omega, d, d1, d2, by omega⟩
      · show runG n C t (k + (s - s)) s gv bx (nI V) true B = _
        rw [Nat.sub_self]; rfl
/-- an answer's number -/
theorem ans_r {C : Nat → Int32} {t p : Nat} (hd : digC (codC C t p) = true) (h3 : stN C p = 3) (he : anyN p (qErr C) = false) : p < (numG 99999 C t (t - (p + 1)) (p + 1) (codC C t p - 48)).1 ∧ AnsR C t p (numG 99999 C t (t - (p + 1)) (p + 1) (codC C t p - 48)).1 (-1) (numG 99999 C t (t - (p + 1)) (p + 1) (codC C t p - 48)).2 := by
  obtain ⟨hp, hd⟩ := cod_dig hd
  rw [codC_lt hp]
  obtain ⟨d, d1, d2, d3⟩ := dig_n hd
  have s1 : stN C (p + 1) = if d = 0 then 8 else 4 := by rw [stN, h3, d2, stA_3 d1]
  have e1 : anyN (p + 1) (qErr C) = false := anyE he (by rw [h3, d2, stA_3 d1]; split <;> decide)
  have r1 : ∀ n k gv bx B, runG n C t (k + 1) p gv bx (-1) true B = runG n C t k (p + 1) gv bx (nI d) true B := by
    intro n k gv bx B
    rw [runG_a hp hd, if_pos rfl, d3]
  rw [d3]
  have key : AnsR C t (p + 1) (numG 99999 C t (t - (p + 1)) (p + 1) (nI d)).1 (nI d) (numG 99999 C t (t - (p + 1)) (p + 1) (nI d)).2 := by
    by_cases h0 : d = 0
    · subst h0
      have e : numG 99999 C t (t - (p + 1)) (p + 1) (nI 0) = (p + 1, nI 0) := by
        cases hf : t - (p + 1) with
        | zero => rfl
        | succ f => rw [numG_s (most := 99999) (M := 99999) rfl (by decide) (by decide) (by omega), if_neg (fun q => q.1 rfl)]
      rw [e]
      refine ⟨Nat.le_refl _, by show p + 1 ≤ t; omega, e1, ⟨8, by decide, by decide, s1.trans (if_pos rfl)⟩, fun _ => ?_, fun n k gv bx B => ?_⟩
      · show stA (stN C (p + 1)) (C (p + 1)) = _
        rw [s1, if_pos rfl]; rfl
      · show runG n C t (k + (p + 1 - (p + 1))) (p + 1) gv bx (nI 0) true B = _
        rw [Nat.sub_self]; rfl
    · exact ans_l (t - (p + 1)) (p + 1) 0 d (by omega) (by decide) (by show 1 ≤ d; omega) (by show d < 10; omega) (by rw [s1, if_neg h0]; rfl) e1
  obtain ⟨z1, z2, z3, z4, z5, z6⟩ := key
  refine ⟨by omega, by omega, z2, z3, z4, z5, fun n k gv bx B => ?_⟩
  rw [show k + ((numG 99999 C t (t - (p + 1)) (p + 1) (nI d)).1 - p) = (k + ((numG 99999 C t (t - (p + 1)) (p + 1) (nI d)).1 - (p + 1))) + 1 by omega, r1]
  exact z6 n k gv bx B
/-- the first place that cannot stand -/
def ErrAt (C : Nat → Int32) (t e : Nat) : Prop := e ≤ t ∧ anyN e (qErr C) = false ∧ (e < t → qErr C e = true) ∧ (e = t → stN C t < 4)
theorem ErrAt.c {C : Nat → Int32} {t e : Nat} (h : ErrAt C t e) : errC C t = nI e ∧ cmpC C t = false := by
  obtain ⟨h1, h2, h3, h4⟩ := h
  unfold errC cmpC
  by_cases q : e < t
  · have z := anyN_t q (h3 q)
    rw [z, if_pos rfl, fstN_at q (h3 q) h2]
    exact ⟨rfl, rfl⟩
  · obtain rfl : e = t := by omega
    rw [h2, if_neg (by decide), decide_eq_true (h4 rfl)]
    exact ⟨rfl, rfl⟩
theorem err_0 {C : Nat → Int32} {t p : Nat} (hp : p ≤ t) (h0 : stN C p = 0) (he : anyN p (qErr C) = false) (hd : digC (codC C t p) = false) : ErrAt C t p := by
  refine ⟨hp, he, fun q => ?_, fun q => ?_⟩
  · rw [codC_lt q] at hd
    rw [qErr, stN, h0]
    refine decide_eq_true ?_
    unfold stA
    rw [if_pos rfl, if_neg (fun z => by rw [z] at hd; exact absurd hd (by decide)), hd, if_neg (by decide)]
  · rw [← q, h0]; decide
theorem err_1 {C : Nat → Int32} {t p q : Nat} {r : Int32} (h : BoxR C t p q r) (hd : ¬ codC C t q = 61) : ErrAt C t q := by
  obtain ⟨-, h2, h3, h4, h5, -⟩ := h
  refine ⟨h2, h3, fun z => ?_, fun z => ?_⟩
  · rw [codC_lt z] at hd
    rw [qErr, stN, h5 z]
    exact decide_eq_true (if_neg hd)
  · rw [← z]; rcases h4 with h4 | h4 <;> rw [h4] <;> decide
theorem err_3 {C : Nat → Int32} {t p : Nat} (hp : p ≤ t) (h3 : stN C p = 3) (he : anyN p (qErr C) = false) (hm : ¬ codC C t p = 45) (hd : digC (codC C t p) = false) : ErrAt C t p := by
  refine ⟨hp, he, fun q => ?_, fun q => ?_⟩
  · rw [codC_lt q] at hd hm
    rw [qErr, stN, h3]
    refine decide_eq_true ?_
    unfold stA
    rw [if_neg (by decide), if_neg (by decide), if_neg (by decide), if_pos rfl, if_neg (fun z => by rw [z] at hd; exact absurd hd (by decide)), if_neg hm, hd, if_neg (by decide)]
  · rw [← q, h3]; decide
/-- a part of the text from p to q: a box's number and an answer -/
def PartR (C : Nat → Int32) (t p q : Nat) (bx vl : Int32) : Prop := p + 3 ≤ q ∧ q ≤ t ∧ anyN q (qErr C) = false ∧ (∃ x, 4 ≤ x ∧ x ≤ 8 ∧ stN C q = nI x) ∧ (q < t → stA (stN C q) (C q) = aAns (C q)) ∧ ∀ n k gv B, runG n C t (k + (q - p)) p gv 0 (-1) false B = runG n C t k q gv bx vl true B
theorem box_eq {C : Nat → Int32} {t p q : Nat} {r : Int32} (h : BoxR C t p q r) (he : codC C t q = 61) : q < t ∧ C q = 61 ∧ stN C (q + 1) = 3 ∧ anyN (q + 1) (qErr C) = false := by
  obtain ⟨h1, h2, h3, h4, h5, -⟩ := h
  have q1 : q < t := by
    rcases Nat.lt_or_ge q t with z | z
    · exact z
    · rw [codC, if_neg (by omega)] at he; exact absurd he (by decide)
  rw [codC_lt q1] at he
  refine ⟨q1, he, ?_, anyE h3 ?_⟩
  · rw [stN, h5 q1, he]; rfl
  · rw [h5 q1, he]; decide
theorem part_n {C : Nat → Int32} {t p q q2 : Nat} {r v : Int32} (h : BoxR C t p q r) (he : codC C t q = 61) (h2 : q + 1 < q2) (ha : AnsR C t (q + 1) q2 (-1) v) : PartR C t p q2 r v := by
  obtain ⟨e1, e2, -, -⟩ := box_eq h he
  obtain ⟨h1, -, -, -, -, h6⟩ := h
  obtain ⟨a1, a2, a3, a4, a5, a6⟩ := ha
  refine ⟨by omega, a2, a3, a4, a5, fun n k gv B => ?_⟩
  rw [show k + (q2 - p) = ((k + (q2 - (q + 1))) + 1) + (q - p) by omega, h6, runG_eq e1 e2]
  exact a6 n k gv r B
theorem part_m {C : Nat → Int32} {t p q : Nat} {r : Int32} (h : BoxR C t p q r) (he : codC C t q = 61) (hm : codC C t (q + 1) = 45) : PartR C t p (q + 2) r (-1) := by
  obtain ⟨e1, e2, e3, e4⟩ := box_eq h he
  obtain ⟨h1, -, -, -, -, h6⟩ := h
  have q1 : q + 1 < t := by
    rcases Nat.lt_or_ge (q + 1) t with z | z
    · exact z
    · rw [codC, if_neg (by omega)] at hm; exact absurd hm (by decide)
  rw [codC_lt q1] at hm
  have s8 : stN C (q + 2) = 8 := by rw [show q + 2 = (q + 1) + 1 from rfl, stN, e3, hm]; rfl
  refine ⟨by omega, by omega, anyE e4 (by rw [e3, hm]; decide), ⟨8, by decide, by decide, s8⟩, fun _ => by rw [s8]; rfl, fun n k gv B => ?_⟩
  rw [show k + (q + 2 - p) = ((k + 1) + 1) + (q - p) by omega, h6, runG_eq e1 e2, runG_mi q1 hm]
theorem err_4 {C : Nat → Int32} {t p q : Nat} {r v : Int32} (h : PartR C t p q r v) (hq : q < t) (hd : ¬ codC C t q = 44) : ErrAt C t q := by
  obtain ⟨-, h2, h3, -, h5, -⟩ := h
  refine ⟨h2, h3, fun z => ?_, fun z => absurd hq (by omega)⟩
  rw [codC_lt z] at hd
  rw [qErr, stN, h5 z]
  exact decide_eq_true (if_neg hd)
theorem part_c {C : Nat → Int32} {t p q : Nat} {r v : Int32} (h : PartR C t p q r v) (hq : q < t) (hd : codC C t q = 44) : C q = 44 ∧ stN C (q + 1) = 0 ∧ anyN (q + 1) (qErr C) = false := by
  obtain ⟨-, -, h3, -, h5, -⟩ := h
  rw [codC_lt hq] at hd
  refine ⟨hd, ?_, anyE h3 ?_⟩
  · rw [stN, h5 hq, hd]; rfl
  · rw [h5 hq, hd]; decide
theorem part_t {C : Nat → Int32} {t p : Nat} {r v : Int32} (h : PartR C t p t r v) : cmpC C t = true ∧ errC C t = nI t := by
  obtain ⟨-, -, h3, ⟨x, x1, x2, x3⟩, -, -⟩ := h
  unfold cmpC errC
  rw [h3, x3, if_neg (by decide)]
  refine ⟨?_, rfl⟩
  rw [show (4 : Int32) = nI 4 from rfl, decide_eq_false (by rw [nI_ltI (by omega) (by omega)]; omega)]
  rfl
/-- the parts read so far -/
def PtsR (C : Nat → Int32) (t : Nat) (RD : Nat → Int32) (k p : Nat) : Prop := ∃ P : Nat → Nat, P 0 = 0 ∧ P k = p ∧ ∀ i, i < k → ∃ e, PartR C t (P i) e (RD (2 * i)) (RD (2 * i + 1)) ∧ e < t ∧ C e = 44 ∧ P (i + 1) = e + 1
theorem PtsR.next {C : Nat → Int32} {t k p q : Nat} {RD : Nat → Int32} {bx vl : Int32} (h : PtsR C t RD k p) (hp : PartR C t p q bx vl) (hq : q < t) (hc : C q = 44) : PtsR C t (upd (upd RD (2 * k) bx) (2 * k + 1) vl) (k + 1) (q + 1) := by
  obtain ⟨P, h0, h1, h2⟩ := h
  refine ⟨fun i => if i = k + 1 then q + 1 else P i, if_neg (by omega) |>.trans h0, if_pos rfl, fun i hi => ?_⟩
  by_cases e : i = k
  · subst e
    refine ⟨q, ?_, hq, hc, if_pos rfl⟩
    show PartR C t (if i = i + 1 then q + 1 else P i) q _ _
    have e1 : upd (upd RD (2 * i) bx) (2 * i + 1) vl (2 * i) = bx := (upd_ne (by omega)).trans upd_eq
    have e2 : upd (upd RD (2 * i) bx) (2 * i + 1) vl (2 * i + 1) = vl := upd_eq
    rw [if_neg (by omega), h1, e1, e2]
    exact hp
  · obtain ⟨z, z1, z2, z3, z4⟩ := h2 i (by omega)
    refine ⟨z, ?_, z2, z3, (if_neg (by omega)).trans z4⟩
    show PartR C t (if i = k + 1 then q + 1 else P i) z _ _
    rw [if_neg (by omega)]
    simp only [upd]
    rw [if_neg (by omega), if_neg (by omega), if_neg (by omega), if_neg (by omega)]
    exact z1
theorem PtsR.zero {C : Nat → Int32} {t : Nat} {RD : Nat → Int32} : PtsR C t RD 0 0 := ⟨fun _ => 0, rfl, rfl, fun i hi => absurd hi (by omega)⟩
/-- all parts read -/
def DoneR (C : Nat → Int32) (t : Nat) (RD : Nat → Int32) (K : Nat) : Prop := ∃ k p, K = k + 1 ∧ K ≤ 16 ∧ PtsR C t RD k p ∧ PartR C t p t (RD (2 * k)) (RD (2 * k + 1))
theorem DoneR.mk {C : Nat → Int32} {t k p : Nat} {RD : Nat → Int32} {bx vl : Int32} (h : PtsR C t RD k p) (hk : k < 16) (hp : PartR C t p t bx vl) : DoneR C t (upd (upd RD (2 * k) bx) (2 * k + 1) vl) (k + 1) := by
  refine ⟨k, p, rfl, by omega, ?_, ?_⟩
  · obtain ⟨P, h0, h1, h2⟩ := h
    refine ⟨P, h0, h1, fun i hi => ?_⟩
    obtain ⟨z, z1, z2, z3, z4⟩ := h2 i hi
    refine ⟨z, ?_, z2, z3, z4⟩
    simp only [upd]
    rw [if_neg (by omega), if_neg (by omega), if_neg (by omega), if_neg (by omega)]
    exact z1
  · have e1 : upd (upd RD (2 * k) bx) (2 * k + 1) vl (2 * k) = bx := (upd_ne (by omega)).trans upd_eq
    have e2 : upd (upd RD (2 * k) bx) (2 * k + 1) vl (2 * k + 1) = vl := upd_eq
    rw [e1, e2]
    exact hp
theorem DoneR.c {C : Nat → Int32} {t K : Nat} {RD : Nat → Int32} (h : DoneR C t RD K) : cmpC C t = true ∧ errC C t = nI t := by
  obtain ⟨k, p, -, -, -, h⟩ := h
  exact part_t h
/-- the i-th part's start and end -/
theorem DoneR.at {C : Nat → Int32} {t K : Nat} {RD : Nat → Int32} (h : DoneR C t RD K) : ∃ P : Nat → Nat, P 0 = 0 ∧ P K = t + 1 ∧ ∀ i, i < K → ∃ e, PartR C t (P i) e (RD (2 * i)) (RD (2 * i + 1)) ∧ (codC C t e = 44 ∨ codC C t e = -1) ∧ P (i + 1) = e + 1 := by
  obtain ⟨k, p, rfl, -, ⟨P, h0, h1, h2⟩, h3⟩ := h
  refine ⟨fun i => if i = k + 1 then t + 1 else P i, (if_neg (by omega)).trans h0, if_pos rfl, fun i hi => ?_⟩
  by_cases e : i = k
  · subst e
    refine ⟨t, ?_, Or.inr codC_t, if_pos rfl⟩
    show PartR C t (if i = i + 1 then t + 1 else P i) t _ _
    rw [if_neg (by omega), h1]
    exact h3
  · obtain ⟨z, z1, z2, z3, z4⟩ := h2 i (by omega)
    refine ⟨z, ?_, Or.inl (by rw [codC_lt z2, z3]), (if_neg (by omega)).trans z4⟩
    show PartR C t (if i = k + 1 then t + 1 else P i) z _ _
    rw [if_neg (by omega)]
    exact z1
/-- a part given, or refused -/
theorem runG_part {n : Nat} {C : Nat → Int32} {t p e : Nat} {bx vl gv : Int32} {B : kB} (h : PartR C t p e bx vl) (hc : codC C t e = 44 ∨ codC C t e = -1) : runG n C t (t + 1 - p) p gv 0 (-1) false B = if (hasB n bx && fitA B bx.toNatClampNeg vl) = true then runG n C t (t + 1 - (e + 1)) (e + 1) (gv + 1) 0 (-1) false (bUp B bx.toNatClampNeg 4 vl) else (gv, B) := by
  obtain ⟨h1, h2, -, -, -, h6⟩ := h
  rw [show t + 1 - p = (t + 1 - e) + (e - p) by omega, h6, show t + 1 - e = (t + 1 - (e + 1)) + 1 by omega, runG, if_pos hc]

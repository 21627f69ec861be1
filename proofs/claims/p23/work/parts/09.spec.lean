/-! PURE WORDS for the class's form: boxes by a function of the box and the field (0 kind, 1 part, 2 more, 3 limit, 4 answer) -/
abbrev kB : Type := Nat → Nat → Int32
def bI (b : Bool) : Int32 := if b then 1 else 0
theorem bI0 {b : Bool} (h : bI b = 0) : b = false := by cases b with | false => rfl | true => exact absurd h (by decide)
theorem bI1 {b : Bool} (h : ¬ bI b = 0) : b = true := by cases b with | false => exact absurd rfl h | true => rfl
theorem bI_n (b : Bool) : narrow .boolean (.int (bI b)) = .int (bI b) := by cases b <;> rfl
def cntN : Nat → (Nat → Bool) → Int32
  | 0, _ => 0
  | n + 1, P => cntN n P + bI (P n)
def anyN : Nat → (Nat → Bool) → Bool
  | 0, _ => false
  | n + 1, P => anyN n P || P n
def atF (len : Nat) (f : Nat → Int32) (i : Int32) : Int32 := if ¬ i < 0 ∧ ¬ nI len ≤ i then f i.toNatClampNeg else -1
def putF (len : Nat) (f : Nat → Int32) (i v : Int32) : Nat → Int32 := if ¬ i < 0 ∧ ¬ nI len ≤ i then upd f i.toNatClampNeg v else f
theorem nI_inc (a : Nat) : nI a + Int32.ofInt 1 = nI (a + 1) := by rw [← nI_1]; rfl
theorem vin {i : Int32} {len : Nat} (h0 : ¬ i < 0) (h1 : ¬ nI len ≤ i) (hl : len < 2 ^ 31) : vp_in i len := by
  rcases pk_ix i hl with h | h | ⟨j, hj, rfl⟩
  · exact absurd h h0
  · exact absurd h h1
  · exact vp_in_nI hj hl
theorem atF_nI {len b : Nat} {f : Nat → Int32} (h : b < len) (hl : len < 2 ^ 31) : atF len f (nI b) = f b := by
  unfold atF
  rw [if_pos ⟨nI_pos (by omega), nI_ge h hl⟩, nI_clamp (by omega)]
theorem putF_nI {len b : Nat} {f : Nat → Int32} {v : Int32} (h : b < len) (hl : len < 2 ^ 31) : putF len f (nI b) v = upd f b v := by
  unfold putF
  rw [if_pos ⟨nI_pos (by omega), nI_ge h hl⟩, nI_clamp (by omega)]
/-- x from a to b -/
def wi (x a b : Int32) : Bool := !decide (x < a) && !decide (b < x)
/-- a number's bit in a mask -/
def tld (mask p : Int32) : Bool := decide ((mask >>> (p &&& 31)) &&& 1 = 1)
def qFor (B : kB) (kd p : Int32) (b : Nat) : Bool := decide (B b 0 = kd) && decide (B b 2 = p)
def qEmp (B : kB) (b : Nat) : Bool := !decide (B b 0 = 3) && decide (B b 4 = -1)
def qOpn (B : kB) (mask : Int32) (b : Nat) : Bool := tld mask (B b 1)
def qWts (B : kB) (mask : Int32) (b : Nat) : Bool := qOpn B mask b && qEmp B b
def qTik (B : kB) (p mask : Int32) (b : Nat) : Bool := qFor B 1 p b && (qOpn B mask b && decide (B b 4 = 1))
def qCls (B : kB) (p mask : Int32) (b : Nat) : Bool := qFor B 2 p b && (qOpn B mask b && (!qEmp B b && !decide (B b 4 < B b 3)))
def tikd (B : kB) (n : Nat) (p mask : Int32) : Bool := anyN n (qTik B p mask) || !anyN n (qFor B 1 p)
def skpd (B : kB) (n : Nat) (p mask : Int32) : Bool := anyN n (qCls B p mask)
/-- the mask behind the parts below p -/
def opmN (B : kB) (n : Nat) : Nat → Int32
  | 0 => 1
  | p + 1 => if p = 0 then 1 else if tikd B n (nI p) (opmN B n p) && !skpd B n (nI p) (opmN B n p) then opmN B n p ||| ((1 : Int32) <<< (nI p &&& 31)) else opmN B n p
def opm (B : kB) (n : Nat) : Int32 := opmN B n 5
def fstN : Nat → (Nat → Bool) → Int32
  | 0, _ => -1
  | n + 1, P => if anyN n P then fstN n P else if P n then nI n else -1
/-- a form object with its rows at the places i .. i + 6: the size field, what the rows hold (all 16 places), the scratch row -/
def FmL (g : kG) (u : Nat → va_E) (i : Nat) (sz : Int32) (G : kB) (V : Nat → Int32) : Prop :=
  u i = .inr (0, [.ref (g.2.1 (i + 1)), .ref (g.2.1 (i + 2)), .ref (g.2.1 (i + 3)), .ref (g.2.1 (i + 4)), .ref (g.2.1 (i + 5)), .ref (g.2.1 (i + 6)), .int sz]) ∧
  u (i + 1) = .inl (g.2.2.1 0, 16, .inl (fun b => G b 0)) ∧ u (i + 2) = .inl (g.2.2.1 0, 16, .inl (fun b => G b 1)) ∧ u (i + 3) = .inl (g.2.2.1 0, 16, .inl (fun b => G b 2)) ∧ u (i + 4) = .inl (g.2.2.1 0, 16, .inl (fun b => G b 3)) ∧ u (i + 5) = .inl (g.2.2.1 0, 16, .inl (fun b => G b 4)) ∧ u (i + 6) = .inl (g.2.2.1 0, 16, .inl V)
/-- n boxes B in the form at the place i -/
def FmB (g : kG) (u : Nat → va_E) (i n : Nat) (B : kB) : Prop := ∃ (G : kB) (V : Nat → Int32), FmL g u i (nI n) G V ∧ n ≤ 16 ∧ ∀ b, b < n → ∀ w, w < 5 → G b w = B b w
theorem FmB.obj {g : kG} {u : Nat → va_E} {i n : Nat} {B : kB} (h : FmB g u i n B) : u i = .inr (0, [.ref (g.2.1 (i + 1)), .ref (g.2.1 (i + 2)), .ref (g.2.1 (i + 3)), .ref (g.2.1 (i + 4)), .ref (g.2.1 (i + 5)), .ref (g.2.1 (i + 6)), .int (nI n)]) := by
  obtain ⟨G, V, h, -⟩ := h
  exact h.1
theorem FmB.le {g : kG} {u : Nat → va_E} {i n : Nat} {B : kB} (h : FmB g u i n B) : n ≤ 16 := by
  obtain ⟨G, V, -, h, -⟩ := h
  exact h
theorem FmL.keep {g : kG} {u u' : Nat → va_E} {i : Nat} {sz : Int32} {G : kB} {V : Nat → Int32} (h : FmL g u i sz G V) (hk : ∀ j, i ≤ j → j < i + 7 → u' j = u j) : FmL g u' i sz G V := by
  obtain ⟨h0, h1, h2, h3, h4, h5, h6⟩ := h
  exact ⟨(hk i (by omega) (by omega)).trans h0, (hk (i + 1) (by omega) (by omega)).trans h1, (hk (i + 2) (by omega) (by omega)).trans h2, (hk (i + 3) (by omega) (by omega)).trans h3, (hk (i + 4) (by omega) (by omega)).trans h4, (hk (i + 5) (by omega) (by omega)).trans h5, (hk (i + 6) (by omega) (by omega)).trans h6⟩
theorem FmB.keep {g : kG} {u u' : Nat → va_E} {i n : Nat} {B : kB} (h : FmB g u i n B) (hk : ∀ j, i ≤ j → j < i + 7 → u' j = u j) : FmB g u' i n B := by
  obtain ⟨G, V, h0, h1⟩ := h
  exact ⟨G, V, h0.keep hk, h1⟩
theorem vne {u : Nat → va_E} {k j : Nat} {c : va_E} (h : j ≠ k) : va_up u k c j = u j := if_neg h
theorem veq {u : Nat → va_E} {k : Nat} {c : va_E} : va_up u k c k = c := if_pos rfl
/-- a box's field laid anew -/
def bUp (B : kB) (b w : Nat) (v : Int32) : kB := fun b' w' => if b' = b ∧ w' = w then v else B b' w'
/-- a box more -/
def bAdd (B : kB) (n : Nat) (kd p s lim : Int32) : kB := fun b w => if b = n then (match w with | 0 => kd | 1 => p | 2 => s | 3 => lim | _ => -1) else B b w
theorem bUp_row {B : kB} {b w : Nat} {v : Int32} : (fun b' => bUp B b w v b' w) = upd (fun b' => B b' w) b v := by
  funext b'
  simp [bUp, upd]
theorem bUp_other {B : kB} {b w w' : Nat} {v : Int32} (h : w' ≠ w) : (fun b' => bUp B b w v b' w') = (fun b' => B b' w') := by
  funext b'
  simp [bUp, h]
theorem CI.mono {g : kG} {l : Launch} {y : MethodName} {ws : List Cond} {rm : Room} {av : List Value} {u : Nat → va_E} {p q : Int32 → (Nat → va_E) → Prop} (h : CI g l y ws rm av u p) (hpq : ∀ r u', p r u' → q r u') : CI g l y ws rm av u q := by
  intro p e ha hc hk s m args below hf happ hP hK
  obtain ⟨n, o, h1, h2, h3, ⟨⟨r, u', e1, e2, e3⟩, e4⟩, e5⟩ := h p e ha hc hk s m args below hf happ hP hK
  exact ⟨n, o, h1, h2, h3, ⟨⟨r, u', e1, hpq r u' e2, e3⟩, e4⟩, e5⟩
theorem CV.mono {g : kG} {l : Launch} {y : MethodName} {ws : List Cond} {rm : Room} {av : List Value} {u : Nat → va_E} {p q : (Nat → va_E) → Prop} (h : CV g l y ws rm av u p) (hpq : ∀ u', p u' → q u') : CV g l y ws rm av u q := by
  intro p e ha hc hk s m args below hf happ hP hK
  obtain ⟨n, o, h1, h2, h3, ⟨⟨u', e1, e2, e3⟩, e4⟩, e5⟩ := h p e ha hc hk s m args below hf happ hP hK
  exact ⟨n, o, h1, h2, h3, ⟨⟨u', e1, hpq u' e2, e3⟩, e4⟩, e5⟩
def hasB (n : Nat) (x : Int32) : Bool := !decide (x < 0) && !decide (nI n ≤ x)
/-- the greatest answer of a box (-1: none) -/
def topT : Nat → Int32
  | 0 => 0
  | t + 1 => topT t * 10 + 9
def topA (B : kB) (b : Nat) : Int32 := if B b 0 = 0 then topT (B b 2).toNatClampNeg else if B b 0 = 1 then 1 else if B b 0 = 2 then 99 else -1
def fitA (B : kB) (b : Nat) (v : Int32) : Bool := decide (v = -1) || wi v 0 (topA B b)
def qHW (B : kB) (kd p lim mask : Int32) (b : Nat) : Bool := qFor B kd p b && (qWts B mask b && !decide (lim < B b 3))
def hasW (B : kB) (n : Nat) (kd p lim mask : Int32) : Bool := anyN n (qHW B kd p lim mask)
def canO (B : kB) (n : Nat) (p mask : Int32) : Bool := (tikd B n p mask || hasW B n 1 p (-1) mask) && (!skpd B n p mask && !hasW B n 2 p 0 mask)
def canC (B : kB) (n : Nat) (p mask : Int32) : Bool := !tikd B n p mask || (skpd B n p mask || hasW B n 2 p 99 mask)
def canT (B : kB) (n : Nat) (mask : Int32) : Nat → Bool
  | 0 => true
  | p + 1 => canT B n mask p && (if p = 0 then true else if tld mask (nI p) then canO B n (nI p) mask else canC B n (nI p) mask)
/-- the last total's number, or -1 -/
def lastT (B : kB) : Nat → Int32
  | 0 => -1
  | n + 1 => if B n 0 = 3 then nI n else lastT B n
def sumN (B : kB) (V : Nat → Int32) (t : Nat) (mask : Int32) : Nat → Int32
  | 0 => 0
  | b + 1 => if tld (B t 2) (nI b) && qOpn B mask b then sumN B V t mask b + V b else sumN B V t mask b
def ownV (B : kB) (b : Nat) : Int32 := if B b 0 = 0 then (if B b 4 = -1 then 0 else B b 4) else -1
/-- the boxes' values, told upwards: the row behind the boxes below b -/
def valN (B : kB) (mask : Int32) (V : Nat → Int32) : Nat → Nat → Int32
  | 0 => V
  | b + 1 => upd (valN B mask V b) b (if B b 0 = 3 then minI (sumN B (valN B mask V b) b mask b) 999999 else ownV B b)
theorem anyN_t {n j : Nat} {P : Nat → Bool} (hj : j < n) (h : P j = true) : anyN n P = true := by
  induction n with
  | zero => omega
  | succ n ih =>
    rw [anyN]
    by_cases e : j = n
    · subst e; rw [h, Bool.or_true]
    · rw [ih (by omega), Bool.true_or]
theorem anyN_f {n j : Nat} {P : Nat → Bool} (hj : j < n) (h : anyN n P = false) : P j = false := by
  cases hp : P j with
  | false => rfl
  | true => rw [anyN_t hj hp] at h; cases h
theorem fstN_none {n : Nat} {P : Nat → Bool} (h : anyN n P = false) : fstN n P = -1 := by
  induction n with
  | zero => rfl
  | succ n ih =>
    rw [anyN, Bool.or_eq_false_iff] at h
    simp [fstN, h.1, h.2]
theorem fstN_at {n j : Nat} {P : Nat → Bool} (hj : j < n) (h : P j = true) (h0 : anyN j P = false) : fstN n P = nI j := by
  induction n with
  | zero => omega
  | succ n ih =>
    rw [fstN]
    by_cases e : j = n
    · subst e; simp [h0, h]
    · rw [anyN_t (by omega : j < n) h]; simp [ih (by omega)]
theorem nI_dec (a : Nat) : nI a + Int32.ofInt (-1) = nI a - 1 := by rw [Int32.sub_eq_add_neg]; rfl
theorem hasB_nI {n j : Nat} (hn : n < 2 ^ 31) (hj : j < 2 ^ 31) : hasB n (nI j) = decide (j < n) := by
  unfold hasB
  rw [show decide (nI j < 0) = false from decide_eq_false (nI_pos hj), show decide (nI n ≤ nI j) = decide (n ≤ j) from decide_eq_decide.mpr (nI_leI hn hj)]
  by_cases h : j < n
  · simp [h]
  · simp [h]; omega
/-- how many bits, as the machine counts them -/
def ushI (x : Int32) (k : Int32) : Int32 := (x.toUInt32 >>> (k.toUInt32 &&& Int32.toUInt32 31)).toInt32
def bitC1 (x : Int32) : Int32 := x - (ushI x 1 &&& 1431655765)
def bitC2 (x : Int32) : Int32 := (x &&& 858993459) + (ushI x 2 &&& 858993459)
def bitC3 (x : Int32) : Int32 := (x + ushI x 4) &&& 252645135
def bitC4 (x : Int32) : Int32 := x + ushI x 8
def bitC5 (x : Int32) : Int32 := x + ushI x 16
def bitC (x : Int32) : Int32 := bitC5 (bitC4 (bitC3 (bitC2 (bitC1 x)))) &&& 63
/-- the totals over a box: their numbers as a mask, of the boxes below t -/
def qCar (B : kB) (b : Nat) (c : Int32) (t : Nat) : Bool := decide (B t 0 = 3) && (tld (B t 2) (nI b) || !decide (B t 2 &&& c = 0))
def carN (B : kB) (b : Nat) : Nat → Int32
  | 0 => 0
  | t + 1 => if t ≤ b then 0 else if qCar B b (carN B b t) t then carN B b t ||| ((1 : Int32) <<< (nI t &&& 31)) else carN B b t
/-- a mask whose boxes are all there and hold values -/
def canK (B : kB) (n : Nat) (mask : Int32) (b : Nat) : Bool := tld mask (nI b) && !(decide (b < n) && (decide (B b 0 = 0) || decide (B b 0 = 3)))
def canM (B : kB) (n : Nat) (mask : Int32) : Bool := !anyN 16 (canK B n mask)
/-- the form's content with its scratch row -/
def FmV (g : kG) (u : Nat → va_E) (i n : Nat) (B : kB) (V : Nat → Int32) : Prop := ∃ (G : kB), FmL g u i (nI n) G V ∧ n ≤ 16 ∧ ∀ b, b < n → ∀ w, w < 5 → G b w = B b w
theorem FmV.B {g : kG} {u : Nat → va_E} {i n : Nat} {B : kB} {V : Nat → Int32} (h : FmV g u i n B V) : FmB g u i n B := by
  obtain ⟨G, h⟩ := h
  exact ⟨G, V, h⟩
theorem FmB.V {g : kG} {u : Nat → va_E} {i n : Nat} {B : kB} (h : FmB g u i n B) : ∃ V, FmV g u i n B V := by
  obtain ⟨G, V, h⟩ := h
  exact ⟨V, G, h⟩
theorem FmV.val {g : kG} {u : Nat → va_E} {i n : Nat} {B : kB} {V : Nat → Int32} (h : FmV g u i n B V) : u (i + 6) = .inl (g.2.2.1 0, 16, .inl V) := by
  obtain ⟨G, h, -⟩ := h
  exact h.2.2.2.2.2.2
theorem FmV.le {g : kG} {u : Nat → va_E} {i n : Nat} {B : kB} {V : Nat → Int32} (h : FmV g u i n B V) : n ≤ 16 := by
  obtain ⟨G, -, h, -⟩ := h
  exact h
theorem FmV.put {g : kG} {u : Nat → va_E} {i n : Nat} {B : kB} {V W : Nat → Int32} (h : FmV g u i n B V) : FmV g (va_up u (i + 6) (.inl (g.2.2.1 0, 16, .inl W))) i n B W := by
  obtain ⟨G, ⟨h0, h1, h2, h3, h4, h5, h6⟩, h7⟩ := h
  exact ⟨G, ⟨(vne (by omega)).trans h0, (vne (by omega)).trans h1, (vne (by omega)).trans h2, (vne (by omega)).trans h3, (vne (by omega)).trans h4, (vne (by omega)).trans h5, veq⟩, h7⟩
theorem tabO2 {x : Int32} (h0 : ¬ x = 0) (h1 : ¬ x = 1) (h2 : ¬ x = 2) : x.toInt < 0 ∨ 2 < x.toInt := by
  have q0 : ¬ x.toInt = 0 := fun q => h0 (Int32.toInt_inj.mp q)
  have q1 : ¬ x.toInt = 1 := fun q => h1 (Int32.toInt_inj.mp q)
  have q2 : ¬ x.toInt = 2 := fun q => h2 (Int32.toInt_inj.mp q)
  omega
theorem canT_f {B : kB} {n : Nat} {mask : Int32} {j m : Nat} (hj : j < m) (h : canT B n mask (j + 1) = false) : canT B n mask m = false := by
  induction m with
  | zero => omega
  | succ m ih =>
    by_cases e : j = m
    · subst e; exact h
    · rw [canT, ih (by omega), Bool.false_and]

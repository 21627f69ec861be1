/-! PURE rows (of whole) -/
/-- a value of the reference's -/
def ownM (B : kB) (b : Nat) : Int32 := if B b 0 = 0 then (if B b 4 = -1 then 0 else B b 4) else 0
def valM (B : kB) (mask : Int32) (V : Nat → Int32) : Nat → Nat → Int32
  | 0 => V
  | b + 1 => upd (valM B mask V b) b (if B b 0 = 3 then minI (sumN B (valM B mask V b) b mask b) 999999 else ownM B b)

def pwT : Nat → Int32
  | 0 => 1
  | t + 1 => pwT t * 10
theorem pwT_top {t : Nat} (ht : t ≤ 5) : pwT t - 1 = topT t := by
  rcases (by omega : t = 0 ∨ t = 1 ∨ t = 2 ∨ t = 3 ∨ t = 4 ∨ t = 5) with rfl | rfl | rfl | rfl | rfl | rfl <;> decide
theorem and1 (x : Int32) : x &&& 1 = 0 ∨ x &&& 1 = 1 := by
  obtain ⟨j, hj, e⟩ := pk_andE x (m := 1) 1 (by decide)
  rcases (by omega : j = 0 ∨ j = 1) with rfl | rfl
  · exact Or.inl e
  · exact Or.inr e
theorem tld_i {mask p : Int32} : (mask >>> (p &&& 31)) &&& 1 = bI (tld mask p) := by
  unfold tld
  rcases and1 (mask >>> (p &&& 31)) with h | h
  · rw [h]; rfl
  · rw [h]; rfl
theorem tld0 {mask p : Int32} (h : (mask >>> (p &&& 31)) &&& 1 = 0) : tld mask p = false := by
  rw [tld_i] at h; exact bI0 h
theorem tld1 {mask p : Int32} (h : ¬ (mask >>> (p &&& 31)) &&& 1 = 0) : tld mask p = true := by
  rw [tld_i] at h; exact bI1 h
def bitsN (mask : Int32) : Nat → Int32
  | 0 => 0
  | p + 1 => bitsN mask p + ((mask >>> (nI p &&& 31)) &&& 1)
theorem bits_C : ∀ k, k < 32 → bitsN (nI k) 5 = bitC (nI k) := by decide +kernel
theorem opm_or : ∀ p, p < 5 → ∀ k, k < 2 ^ p → nI k ||| ((1 : Int32) <<< (nI p &&& 31)) = nI (k + 2 ^ p) := by decide +kernel
theorem opmN_lt {B : kB} {n : Nat} : ∀ p, p < 5 → ∃ k, k < 2 ^ (p + 1) ∧ opmN B n (p + 1) = nI k := by
  intro p
  induction p with
  | zero => intro _; exact ⟨1, by decide, rfl⟩
  | succ p ih =>
    intro hp
    obtain ⟨k, hk, e⟩ := ih (by omega)
    have q : 2 ^ (p + 1 + 1) = 2 ^ (p + 1) + 2 ^ (p + 1) := by rw [Nat.pow_succ 2 (p + 1)]; omega
    rw [opmN, if_neg (by omega)]
    split
    · rw [e, opm_or (p + 1) (by omega) k hk]
      exact ⟨_, by omega, rfl⟩
    · exact ⟨k, by omega, e⟩
theorem opm_lt {B : kB} {n : Nat} : ∃ k, k < 32 ∧ opm B n = nI k := opmN_lt 4 (by decide)
theorem bits_opm {B : kB} {n : Nat} : bitsN (opm B n) 5 = bitC (opm B n) := by
  obtain ⟨k, hk, e⟩ := opm_lt (B := B) (n := n)
  rw [e]; exact bits_C k hk
/-- what the boxes of a form are -/
def wfB (n : Nat) (B : kB) : Prop := ∀ b, b < n → (∃ p, p < 5 ∧ B b 1 = nI p) ∧
  ((B b 0 = 0 ∧ ∃ t, 1 ≤ t ∧ t ≤ 5 ∧ B b 2 = nI t) ∨
   (B b 0 = 1 ∧ B b 3 = -1 ∧ (B b 2 = -1 ∨ ∃ p q, B b 1 = nI p ∧ B b 2 = nI q ∧ p < q ∧ q < 5)) ∨
   (B b 0 = 2 ∧ ∃ p q l, B b 1 = nI p ∧ B b 2 = nI q ∧ p < q ∧ q < 5 ∧ l ≤ 99 ∧ B b 3 = nI l) ∨
   (B b 0 = 3 ∧ B b 4 = -1 ∧ ∀ k, k < 16 → tld (B b 2) (nI k) = true → k < b ∧ (B k 0 = 0 ∨ B k 0 = 3)))
theorem wfB.t {n : Nat} {B : kB} (h : wfB n B) : Wt n B := by
  intro b hb h0
  rcases (h b hb).2 with ⟨-, t, -, h2, h3⟩ | ⟨h1, -⟩ | ⟨h1, -⟩ | ⟨h1, -⟩
  · exact ⟨t, h2, h3⟩
  · rw [h0] at h1; exact absurd h1 (by decide)
  · rw [h0] at h1; exact absurd h1 (by decide)
  · rw [h0] at h1; exact absurd h1 (by decide)
theorem wfB.k {n : Nat} {B : kB} (h : wfB n B) {b : Nat} (hb : b < n) : B b 0 = 0 ∨ B b 0 = 1 ∨ B b 0 = 2 ∨ B b 0 = 3 := by
  rcases (h b hb).2 with ⟨q, -⟩ | ⟨q, -⟩ | ⟨q, -⟩ | ⟨q, -⟩
  · exact Or.inl q
  · exact Or.inr (Or.inl q)
  · exact Or.inr (Or.inr (Or.inl q))
  · exact Or.inr (Or.inr (Or.inr q))
theorem wfB.m {n : Nat} {B : kB} (h : wfB n B) {b : Nat} (hb : b < n) (h3 : B b 0 = 3) : ∀ k, k < 16 → tld (B b 2) (nI k) = true → k < b ∧ (B k 0 = 0 ∨ B k 0 = 3) := by
  rcases (h b hb).2 with ⟨q, -⟩ | ⟨q, -⟩ | ⟨q, -⟩ | ⟨-, -, q⟩
  · rw [h3] at q; exact absurd q (by decide)
  · rw [h3] at q; exact absurd q (by decide)
  · rw [h3] at q; exact absurd q (by decide)
  · exact q
theorem sumN_c2 {B : kB} {V W : Nat → Int32} {t : Nat} {mask : Int32} {b : Nat} (h : ∀ j, j < b → tld (B t 2) (nI j) = true → V j = W j) : sumN B V t mask b = sumN B W t mask b := by
  induction b with
  | zero => rfl
  | succ b ih =>
    rw [sumN, sumN, ih (fun j hj => h j (by omega))]
    by_cases e : tld (B t 2) (nI b) = true
    · rw [h b (by omega) e]
    · simp [e]
theorem valM_N {n : Nat} {B : kB} (hw : wfB n B) (hn : n ≤ 16) {mask : Int32} {V : Nat → Int32} : ∀ m, m ≤ n → ∀ j, j < m → (B j 0 = 0 ∨ B j 0 = 3) → valM B mask V m j = valN B mask (fun _ => 0) m j := by
  intro m
  induction m with
  | zero => intro _ j hj; omega
  | succ m ih =>
    intro hm j hj hk
    rw [valM, valN]
    by_cases e : j = m
    · subst e
      simp only [upd, if_true]
      rcases hk with h0 | h3
      · rw [if_neg (by rw [h0]; decide), if_neg (by rw [h0]; decide), ownM, ownV, if_pos h0, if_pos h0]
      · rw [if_pos h3, if_pos h3, sumN_c2 (fun i hi ht => ih (by omega) i hi ((hw.m (by omega) h3 i (by omega) ht).2))]
    · simp only [upd, if_neg e]
      exact ih (by omega) j (by omega) hk
theorem valX_N {B : kB} {mask : Int32} {b n : Nat} (hb : b < n) : valN B mask (fun _ => 0) n b = valX B mask b := by
  obtain ⟨d, rfl⟩ : ∃ d, n = b + 1 + d := ⟨n - (b + 1), by omega⟩
  exact valN_s d b (by omega)
theorem valM_X {n : Nat} {B : kB} (hw : wfB n B) (hn : n ≤ 16) {mask : Int32} {V : Nat → Int32} {b : Nat} (hb : b < n) (hk : B b 0 = 0 ∨ B b 0 = 3) : valM B mask V n b = valX B mask b := by
  rw [valM_N hw hn n (Nat.le_refl _) b hb hk, valX_N hb]
theorem valX_t {B : kB} {mask : Int32} {b : Nat} (h : B b 0 = 1 ∨ B b 0 = 2) : valX B mask b = -1 := by
  rw [valX, valN]
  simp only [upd, if_true]
  rcases h with h | h <;> rw [if_neg (by rw [h]; decide), ownV, if_neg (by rw [h]; decide)]
def lvM (B : kB) (V : Nat → Int32) : Nat → Int32
  | 0 => -1
  | b + 1 => if B b 0 = 3 then V b else lvM B V b
theorem lvM_Z {n : Nat} {B : kB} (hw : wfB n B) (hn : n ≤ 16) {mask : Int32} {V : Nat → Int32} : ∀ m, m ≤ n → lvM B (valM B mask V n) m = valZ B mask (lastM B m) := by
  intro m
  induction m with
  | zero => intro _; rfl
  | succ m ih =>
    intro hm
    rw [lvM, lastM]
    split
    · rename_i h3
      rw [valM_X hw hn (by omega) (Or.inr h3), valZ, if_neg (by omega), Nat.add_sub_cancel]
    · exact ih (by omega)
theorem bUp_bUp {B : kB} {b : Nat} {v : Int32} : bUp (bUp B b 4 v) b 4 (B b 4) = B := by
  funext b' w'
  simp only [bUp]
  split
  · rename_i h; rw [h.1, h.2]
  · rfl
theorem wfB.up {n : Nat} {B : kB} (h : wfB n B) {b : Nat} {v : Int32} (hv : B b 0 = 3 → v = -1) : wfB n (bUp B b 4 v) := by
  intro c hc
  have e : ∀ c w, ¬ w = 4 → bUp B b 4 v c w = B c w := fun c w hw => by simp [bUp, hw]
  have q := h c hc
  rw [e c 1 (by decide), e c 0 (by decide), e c 2 (by decide), e c 3 (by decide)]
  refine ⟨q.1, ?_⟩
  rcases q.2 with q | q | q | ⟨q1, q2, q3⟩
  · exact Or.inl q
  · exact Or.inr (Or.inl q)
  · exact Or.inr (Or.inr (Or.inl q))
  · refine Or.inr (Or.inr (Or.inr ⟨q1, ?_, fun k hk ht => ?_⟩))
    · simp only [bUp]
      split
      · rename_i z; exact hv (z.1 ▸ q1)
      · exact q2
    · rw [e k 0 (by decide)]; exact q3 k hk ht
theorem fitA_3 {B : kB} {b : Nat} {v : Int32} (h : fitA B b v = true) (h3 : B b 0 = 3) : v = -1 := by
  simp only [fitA, Bool.or_eq_true, decide_eq_true_eq] at h
  rcases h with h | h
  · exact h
  · rw [topA, if_neg (by rw [h3]; decide), if_neg (by rw [h3]; decide), if_neg (by rw [h3]; decide)] at h
    simp only [wi, Bool.and_eq_true, Bool.not_eq_true', decide_eq_false_iff_not] at h
    exfalso
    have h1 := h.1
    have h2 := h.2
    rw [Int32.lt_iff_toInt_lt] at h1 h2
    have e1 : (-1 : Int32).toInt = -1 := by decide
    have e0 : (0 : Int32).toInt = 0 := by decide
    rw [e0] at h1
    rw [e1] at h2
    omega

def bt (x : Int32) (i : Nat) : Bool := x.toBitVec.getLsbD i
theorem b_ext {x y : Int32} (h : ∀ i, i < 32 → bt x i = bt y i) : x = y := Int32.toBitVec_inj.mp (BitVec.eq_of_getLsbD_eq (fun i hi => h i hi))
theorem b_or (x y : Int32) (i : Nat) : bt (x ||| y) i = (bt x i || bt y i) := by unfold bt; rw [Int32.toBitVec_or, BitVec.getLsbD_or]
theorem b_and (x y : Int32) (i : Nat) : bt (x &&& y) i = (bt x i && bt y i) := by unfold bt; rw [Int32.toBitVec_and, BitVec.getLsbD_and]
theorem b_0 (i : Nat) : bt 0 i = false := BitVec.getLsbD_zero
theorem s_l : ∀ n, n < 32 → ((nI n &&& 31).toBitVec.smod 32).toNat = n := by decide +kernel
theorem b_shl (n : Nat) (hn : n < 32) (x : Int32) {i : Nat} (hi : i < 32) : bt (x <<< (nI n &&& 31)) i = (decide (n ≤ i) && bt x (i - n)) := by
  unfold bt
  rw [Int32.toBitVec_shiftLeft]
  show (x.toBitVec <<< ((nI n &&& 31).toBitVec.smod 32).toNat).getLsbD i = _
  rw [s_l n hn, BitVec.getLsbD_shiftLeft]
  rcases Nat.lt_or_ge i n with h | h
  · simp [h, Nat.not_le.mpr h]
  · simp [hi, h, Nat.not_lt.mpr h]
theorem b_sshr (n : Nat) (hn : n < 32) (x : Int32) {i : Nat} (hi : i < 32) : bt (x >>> (nI n &&& 31)) i = if n + i < 32 then bt x (n + i) else bt x 31 := by
  unfold bt
  rw [Int32.toBitVec_shiftRight]
  show (x.toBitVec.sshiftRight ((nI n &&& 31).toBitVec.smod 32).toNat).getLsbD i = _
  rw [s_l n hn, BitVec.getLsbD_sshiftRight, BitVec.msb_eq_getLsbD_last]
  simp [hi]
theorem nx_and (a b : Nat) : nI a &&& nI b = nI (a &&& b) := by
  apply Int32.toBitVec_inj.1
  show BitVec.ofNat 32 a &&& BitVec.ofNat 32 b = BitVec.ofNat 32 (a &&& b)
  apply BitVec.eq_of_getLsbD_eq
  intro i hi
  simp [hi]
theorem bt_nI {n i : Nat} (hi : i < 32) : bt (nI n) i = n.testBit i := by
  show (nI n).toBitVec.getLsbD i = _
  rw [show (nI n).toBitVec = BitVec.ofNat 32 n from rfl, BitVec.getLsbD_ofNat]
  simp [hi]
theorem bt_1 : ∀ i, i < 32 → bt 1 i = decide (i = 0) := by decide
theorem tld_bt {x : Int32} {i : Nat} (hi : i < 31) : tld x (nI i) = bt x i := by
  have hb : ∀ j, j < 32 → bt ((x >>> (nI i &&& 31)) &&& 1) j = (decide (j = 0) && bt x i) := by
    intro j hj
    rw [b_and, b_sshr i (by omega) x hj, bt_1 j hj]
    by_cases e : j = 0
    · subst e; simp [show i < 32 by omega]
    · simp [e]
  unfold tld
  cases hx : bt x i with
  | true =>
    refine decide_eq_true (b_ext (fun j hj => ?_))
    rw [hb j hj, hx, bt_1 j hj, Bool.and_true]
  | false =>
    refine decide_eq_false (fun q => ?_)
    have z := hb 0 (by omega)
    rw [q, hx] at z
    exact absurd z (by decide)
theorem bt_one {i j : Nat} (hi : i < 32) (hj : j < 32) : bt ((1 : Int32) <<< (nI i &&& 31)) j = decide (j = i) := by
  rw [b_shl i hi 1 hj]
  by_cases e : i ≤ j
  · rw [bt_1 (j - i) (by omega)]
    by_cases e2 : j = i
    · subst e2; simp
    · simp [e, e2, show ¬ j - i = 0 by omega]
  · simp [e, show ¬ j = i by omega]
theorem and_bit {x : Int32} {i : Nat} (hi : i < 32) : x &&& ((1 : Int32) <<< (nI i &&& 31)) = 0 ↔ bt x i = false := by
  constructor
  · intro h
    have q : bt (x &&& ((1 : Int32) <<< (nI i &&& 31))) i = false := by rw [h, b_0]
    rw [b_and, bt_one hi hi] at q
    simpa using q
  · intro h
    refine b_ext (fun j hj => ?_)
    rw [b_and, bt_one hi hj, b_0]
    by_cases e : j = i
    · subst e; simp [h]
    · simp [e]
theorem and_or0 {x y z : Int32} : x &&& (y ||| z) = 0 ↔ x &&& y = 0 ∧ x &&& z = 0 := by
  constructor
  · intro h
    have q : ∀ i, i < 32 → (bt x i && (bt y i || bt z i)) = false := fun i hi => by
      have w : bt (x &&& (y ||| z)) i = false := by rw [h, b_0]
      rwa [b_and, b_or] at w
    constructor
    · refine b_ext (fun i hi => ?_)
      have w := q i hi
      rw [b_and, b_0]
      revert w
      cases bt x i <;> cases bt y i <;> cases bt z i <;> decide
    · refine b_ext (fun i hi => ?_)
      have w := q i hi
      rw [b_and, b_0]
      revert w
      cases bt x i <;> cases bt y i <;> cases bt z i <;> decide
  · intro h
    refine b_ext (fun i hi => ?_)
    have w1 : bt (x &&& y) i = false := by rw [h.1, b_0]
    have w2 : bt (x &&& z) i = false := by rw [h.2, b_0]
    rw [b_and] at w1 w2
    rw [b_and, b_or, b_0]
    revert w1 w2
    cases bt x i <;> cases bt y i <;> cases bt z i <;> decide
theorem dec_or {x c : Int32} {b : Nat} (hb : b < 32) : decide (x &&& (c ||| ((1 : Int32) <<< (nI b &&& 31))) = 0) = (decide (x &&& c = 0) && !bt x b) := by
  rw [Bool.eq_iff_iff]
  simp only [decide_eq_true_eq, Bool.and_eq_true, Bool.not_eq_true']
  rw [and_or0, and_bit hb]
/-- bits of a number below 2^16, counted -/
def popN : Nat → Nat → Nat
  | 0, _ => 0
  | i + 1, k => popN i k + (if k.testBit i then 1 else 0)
def pcS (k : Nat) : Nat :=
  let a := k - ((k / 2 ^ 1) &&& 1431655765)
  let b := (a &&& 858993459) + ((a / 2 ^ 2) &&& 858993459)
  let c := (b + (b / 2 ^ 4)) &&& 252645135
  let d := c + (c / 2 ^ 8)
  let e := d + (d / 2 ^ 16)
  e &&& 63
theorem ushI_N {n : Nat} (h : n < 2 ^ 32) (s : Int32) (k : Nat) (hs : ((s.toUInt32 &&& Int32.toUInt32 31).toBitVec % 32).toNat = k) : ushI (nI n) s = nI (n / 2 ^ k) := pk_ushrN h s k hs
theorem bitC_S {k : Nat} (h : k < 65536) : bitC (nI k) = nI (pcS k) := by
  have e1 : bitC1 (nI k) = nI (k - ((k / 2 ^ 1) &&& 1431655765)) := by
    unfold bitC1
    rw [ushI_N (by omega) 1 1 (by decide), show (1431655765 : Int32) = nI 1431655765 from rfl, nx_and, pk_sub]
    exact Nat.le_trans Nat.and_le_left (Nat.div_le_self _ _)
  have ha : k - ((k / 2 ^ 1) &&& 1431655765) < 65536 := Nat.lt_of_le_of_lt (Nat.sub_le _ _) h
  unfold bitC
  rw [e1]
  show _ = nI ((_ : Nat) &&& 63)
  generalize hA : k - ((k / 2 ^ 1) &&& 1431655765) = a at ha
  have e2 : bitC2 (nI a) = nI ((a &&& 858993459) + ((a / 2 ^ 2) &&& 858993459)) := by
    unfold bitC2
    rw [ushI_N (by omega) 2 2 (by decide), show (858993459 : Int32) = nI 858993459 from rfl, nx_and, nx_and, nI_add]
  have hb : (a &&& 858993459) + ((a / 2 ^ 2) &&& 858993459) < 2 ^ 18 := by
    have q1 : a &&& 858993459 ≤ a := Nat.and_le_left
    have q2 : (a / 2 ^ 2) &&& 858993459 ≤ a / 2 ^ 2 := Nat.and_le_left
    have q3 : a / 2 ^ 2 ≤ a := Nat.div_le_self _ _
    omega
  rw [e2]
  generalize hB : (a &&& 858993459) + ((a / 2 ^ 2) &&& 858993459) = b at hb
  have e3 : bitC3 (nI b) = nI ((b + (b / 2 ^ 4)) &&& 252645135) := by
    unfold bitC3
    rw [ushI_N (by omega) 4 4 (by decide), nI_add, show (252645135 : Int32) = nI 252645135 from rfl, nx_and]
  have hc : (b + (b / 2 ^ 4)) &&& 252645135 < 2 ^ 28 := Nat.lt_of_le_of_lt Nat.and_le_right (by decide)
  rw [e3]
  generalize hC : (b + (b / 2 ^ 4)) &&& 252645135 = c at hc
  have e4 : bitC4 (nI c) = nI (c + (c / 2 ^ 8)) := by
    unfold bitC4
    rw [ushI_N (by omega) 8 8 (by decide), nI_add]
  have hd : c + c / 2 ^ 8 < 2 ^ 29 := by have := Nat.div_le_self c (2 ^ 8); omega
  rw [e4]
  generalize hD : c + c / 2 ^ 8 = d at hd
  have e5 : bitC5 (nI d) = nI (d + (d / 2 ^ 16)) := by
    unfold bitC5
    rw [ushI_N (by omega) 16 16 (by decide), nI_add]
  rw [e5, show (63 : Int32) = nI 63 from rfl, nx_and, ← hD, ← hC, ← hB, ← hA]
def pcOk (lo : Nat) : Bool := (List.range 4096).all (fun k => pcS (lo * 4096 + k) == popN 16 (lo * 4096 + k))
theorem pcOk_0 : pcOk 0 = true := by decide +kernel
theorem pcOk_1 : pcOk 1 = true := by decide +kernel
theorem pcOk_2 : pcOk 2 = true := by decide +kernel
theorem pcOk_3 : pcOk 3 = true := by decide +kernel
theorem pcOk_4 : pcOk 4 = true := by decide +kernel
theorem pcOk_5 : pcOk 5 = true := by decide +kernel
theorem pcOk_6 : pcOk 6 = true := by decide +kernel
theorem pcOk_7 : pcOk 7 = true := by decide +kernel
theorem pcOk_8 : pcOk 8 = true := by decide +kernel
theorem pcOk_9 : pcOk 9 = true := by decide +kernel
theorem pcOk_10 : pcOk 10 = true := by decide +kernel
theorem pcOk_11 : pcOk 11 = true := by decide +kernel
theorem pcOk_12 : pcOk 12 = true := by decide +kernel
theorem pcOk_13 : pcOk 13 = true := by decide +kernel
theorem pcOk_14 : pcOk 14 = true := by decide +kernel
theorem pcOk_15 : pcOk 15 = true := by decide +kernel
theorem pcOk_all : ∀ lo, lo < 16 → pcOk lo = true
  | 0, _ => pcOk_0
  | 1, _ => pcOk_1
  | 2, _ => pcOk_2
  | 3, _ => pcOk_3
  | 4, _ => pcOk_4
  | 5, _ => pcOk_5
  | 6, _ => pcOk_6
  | 7, _ => pcOk_7
  | 8, _ => pcOk_8
  | 9, _ => pcOk_9
  | 10, _ => pcOk_10
  | 11, _ => pcOk_11
  | 12, _ => pcOk_12
  | 13, _ => pcOk_13
  | 14, _ => pcOk_14
  | 15, _ => pcOk_15
  | n + 16, h => absurd h (by omega)


/-! rows on bits, shifts and unsigned numbers, to paste: each family out of a closed proof of our own, whole with what it rests on; each by itself clean at Lean in its own claim (generation 39, form 5). Take a family whole -/
/-! ===== Int32 by its bits: bt x i ===== -/
def bt (x : Int32) (i : Nat) : Bool := x.toBitVec.getLsbD i
theorem b_ext {x y : Int32} (h : ∀ i, i < 32 → bt x i = bt y i) : x = y := Int32.toBitVec_inj.mp (BitVec.eq_of_getLsbD_eq (fun i hi => h i hi))
theorem b_or (x y : Int32) (i : Nat) : bt (x ||| y) i = (bt x i || bt y i) := by unfold bt; rw [Int32.toBitVec_or, BitVec.getLsbD_or]
theorem b_and (x y : Int32) (i : Nat) : bt (x &&& y) i = (bt x i && bt y i) := by unfold bt; rw [Int32.toBitVec_and, BitVec.getLsbD_and]
theorem b_xor (x y : Int32) (i : Nat) : bt (x ^^^ y) i = (bt x i ^^ bt y i) := by unfold bt; rw [Int32.toBitVec_xor, BitVec.getLsbD_xor]
theorem b_big {x : Int32} {i : Nat} (h : 32 ≤ i) : bt x i = false := BitVec.getLsbD_of_ge _ _ h
theorem b_255 (i : Nat) : bt 255 i = decide (i < 8) := by
  rcases Nat.lt_or_ge i 32 with h | h
  · exact (by decide +kernel : ∀ i, i < 32 → bt 255 i = decide (i < 8)) i h
  · rw [b_big h, decide_eq_false (by omega)]
theorem b_65535 (i : Nat) : bt 65535 i = decide (i < 16) := by
  rcases Nat.lt_or_ge i 32 with h | h
  · exact (by decide +kernel : ∀ i, i < 32 → bt 65535 i = decide (i < 16)) i h
  · rw [b_big h, decide_eq_false (by omega)]
theorem b_m1 : ∀ i, i < 32 → bt (-1) i = true := by decide +kernel
theorem b_0 (i : Nat) : bt 0 i = false := BitVec.getLsbD_zero
theorem s_l : ∀ n, n < 32 → ((nI n &&& 31).toBitVec.smod 32).toNat = n := by decide +kernel
theorem s_u : ∀ n, n < 32 → (((nI n).toUInt32 &&& Int32.toUInt32 31).toBitVec % 32).toNat = n := by decide +kernel
theorem b_shl (n : Nat) (hn : n < 32) (x : Int32) {i : Nat} (hi : i < 32) : bt (x <<< (nI n &&& 31)) i = (decide (n ≤ i) && bt x (i - n)) := by
  unfold bt
  rw [Int32.toBitVec_shiftLeft]
  show (x.toBitVec <<< ((nI n &&& 31).toBitVec.smod 32).toNat).getLsbD i = _
  rw [s_l n hn, BitVec.getLsbD_shiftLeft]
  rcases Nat.lt_or_ge i n with h | h
  · simp [h, Nat.not_le.mpr h]
  · simp [hi, h, Nat.not_lt.mpr h]
theorem b_ushr (n : Nat) (hn : n < 32) (x : Int32) (i : Nat) : bt ((x.toUInt32 >>> ((nI n).toUInt32 &&& Int32.toUInt32 31)).toInt32) i = bt x (n + i) := by
  show (x.toUInt32 >>> ((nI n).toUInt32 &&& Int32.toUInt32 31)).toBitVec.getLsbD i = x.toUInt32.toBitVec.getLsbD (n + i)
  rw [UInt32.toBitVec_shiftRight]
  show (x.toUInt32.toBitVec >>> (((nI n).toUInt32 &&& Int32.toUInt32 31).toBitVec % 32).toNat).getLsbD i = _
  rw [s_u n hn, BitVec.getLsbD_ushiftRight]
theorem b_sshr (n : Nat) (hn : n < 32) (x : Int32) {i : Nat} (hi : i < 32) : bt (x >>> (nI n &&& 31)) i = if n + i < 32 then bt x (n + i) else bt x 31 := by
  unfold bt
  rw [Int32.toBitVec_shiftRight]
  show (x.toBitVec.sshiftRight ((nI n &&& 31).toBitVec.smod 32).toNat).getLsbD i = _
  rw [s_l n hn, BitVec.getLsbD_sshiftRight, BitVec.msb_eq_getLsbD_last]
  simp [hi]
theorem b_shl8 (x : Int32) {i : Nat} (hi : i < 32) : bt (x <<< ((8 : Int32) &&& 31)) i = (decide (8 ≤ i) && bt x (i - 8)) := b_shl 8 (by omega) x hi
theorem b_shl16 (x : Int32) {i : Nat} (hi : i < 32) : bt (x <<< ((16 : Int32) &&& 31)) i = (decide (16 ≤ i) && bt x (i - 16)) := b_shl 16 (by omega) x hi
theorem b_shl24 (x : Int32) {i : Nat} (hi : i < 32) : bt (x <<< ((24 : Int32) &&& 31)) i = (decide (24 ≤ i) && bt x (i - 24)) := b_shl 24 (by omega) x hi
theorem b_sshr8 (x : Int32) {i : Nat} (hi : i < 32) : bt (x >>> ((8 : Int32) &&& 31)) i = if 8 + i < 32 then bt x (8 + i) else bt x 31 := b_sshr 8 (by omega) x hi
/-! ===== nI under and, xor, >>>, one bit, 65535 ===== -/
theorem nx_and (a b : Nat) : nI a &&& nI b = nI (a &&& b) := by
  apply Int32.toBitVec_inj.1
  show BitVec.ofNat 32 a &&& BitVec.ofNat 32 b = BitVec.ofNat 32 (a &&& b)
  apply BitVec.eq_of_getLsbD_eq
  intro i hi
  simp [hi]
theorem nx_xor (a b : Nat) : nI a ^^^ nI b = nI (a ^^^ b) := by
  apply Int32.toBitVec_inj.1
  show BitVec.ofNat 32 a ^^^ BitVec.ofNat 32 b = BitVec.ofNat 32 (a ^^^ b)
  apply BitVec.eq_of_getLsbD_eq
  intro i hi
  simp [hi]
theorem nx_cnt : ∀ j : Fin 32, (UInt32.ofNat j.val &&& Int32.toUInt32 31).toNat % 32 = j.val := by decide +kernel
theorem nx_ush {k j : Nat} (hk : k < 65536) (hj : j < 32) : ((nI k).toUInt32 >>> ((nI j).toUInt32 &&& Int32.toUInt32 31)).toInt32 = nI (k >>> j) := by
  have hs : k >>> j ≤ k := by
    rw [Nat.shiftRight_eq_div_pow]
    exact Nat.div_le_self _ _
  have e2 : UInt32.ofNat k >>> (UInt32.ofNat j &&& Int32.toUInt32 31) = UInt32.ofNat (k >>> j) := by
    apply UInt32.toNat_inj.1
    have h1 : (UInt32.ofNat k).toNat = k := Nat.mod_eq_of_lt (by omega)
    have h2 : (UInt32.ofNat (k >>> j)).toNat = k >>> j := Nat.mod_eq_of_lt (by omega)
    rw [UInt32.toNat_shiftRight, nx_cnt ⟨j, hj⟩, h1, h2]
  show (UInt32.ofNat k >>> (UInt32.ofNat j &&& Int32.toUInt32 31)).toInt32 = _
  rw [e2]
  rfl
theorem nx_bit {k j : Nat} (hk : k < 65536) (hj : j < 16) : (((nI k).toUInt32 >>> ((nI j).toUInt32 &&& Int32.toUInt32 31)).toInt32 &&& 1) = 0 ↔ k.testBit j = false := by
  rw [nx_ush hk (by omega)]
  show nI (k >>> j) &&& nI 1 = 0 ↔ _
  rw [nx_and, Nat.and_one_is_mod, ← nI_0, nI_eq (by omega) (by omega), Nat.testBit_eq_decide_div_mod_eq, Nat.shiftRight_eq_div_pow, decide_eq_false_iff_not]
  generalize k / 2 ^ j = z
  omega
theorem nx_mod (k : Nat) : nI k &&& 65535 = nI (k % 65536) := by
  show nI k &&& nI 65535 = _
  rw [nx_and, show (65535 : Nat) = 2 ^ 16 - 1 from rfl, Nat.and_two_pow_sub_one_eq_mod]
theorem nx_m16 {k : Nat} (h : k < 65536) : nI k &&& 65535 = nI k := by rw [nx_mod, Nat.mod_eq_of_lt h]
theorem nx_mask (x : Int32) : ∃ k, k < 65536 ∧ x &&& 65535 = nI k := by
  have e : x = nI x.toBitVec.toNat := by
    apply Int32.toBitVec_inj.1
    show x.toBitVec = BitVec.ofNat 32 x.toBitVec.toNat
    simp
  refine ⟨x.toBitVec.toNat % 65536, Nat.mod_lt _ (by omega), ?_⟩
  rw [← nx_mod, ← e]
/-! PURE: bits, what is carried -/
theorem nx_or (a b : Nat) : nI a ||| nI b = nI (a ||| b) := by
  apply b_ext
  intro i hi
  rw [b_or]
  have q : ∀ n : Nat, bt (nI n) i = n.testBit i := by
    intro n
    show (nI n).toBitVec.getLsbD i = _
    rw [show (nI n).toBitVec = BitVec.ofNat 32 n from rfl, BitVec.getLsbD_ofNat]
    simp [hi]
  rw [q, q, q, Nat.testBit_or]
theorem bt_nI {n i : Nat} (hi : i < 32) : bt (nI n) i = n.testBit i := by
  show (nI n).toBitVec.getLsbD i = _
  rw [show (nI n).toBitVec = BitVec.ofNat 32 n from rfl, BitVec.getLsbD_ofNat]
  simp [hi]
theorem bt_1 : ∀ i, i < 32 → bt 1 i = decide (i = 0) := by decide
theorem tld_bt {x : Int32} {i : Nat} (hi : i < 31) : tld x (nI i) = bt x i := by
  have hb : ∀ j, j < 32 → bt ((x >>> (nI i &&& 31)) &&& 1) j = (decide (j = 0) && bt x i) := by
    intro j hj
    rw [b_and, b_sshr i (by omega) x hj, bt_1 j hj]
    by_cases e : j = 0
    · subst e; simp [show i < 32 by omega]
    · simp [e]
  unfold tld
  cases hx : bt x i with
  | true =>
    refine decide_eq_true (b_ext (fun j hj => ?_))
    rw [hb j hj, hx, bt_1 j hj, Bool.and_true]
  | false =>
    refine decide_eq_false (fun q => ?_)
    have z := hb 0 (by omega)
    rw [q, hx] at z
    exact absurd z (by decide)
theorem bt_one {i j : Nat} (hi : i < 32) (hj : j < 32) : bt ((1 : Int32) <<< (nI i &&& 31)) j = decide (j = i) := by
  rw [b_shl i hi 1 hj]
  by_cases e : i ≤ j
  · rw [bt_1 (j - i) (by omega)]
    by_cases e2 : j = i
    · subst e2; simp
    · simp [e, e2, show ¬ j - i = 0 by omega]
  · simp [e, show ¬ j = i by omega]
theorem and_bit {x : Int32} {i : Nat} (hi : i < 32) : x &&& ((1 : Int32) <<< (nI i &&& 31)) = 0 ↔ bt x i = false := by
  constructor
  · intro h
    have q : bt (x &&& ((1 : Int32) <<< (nI i &&& 31))) i = false := by rw [h, b_0]
    rw [b_and, bt_one hi hi] at q
    simpa using q
  · intro h
    refine b_ext (fun j hj => ?_)
    rw [b_and, bt_one hi hj, b_0]
    by_cases e : j = i
    · subst e; simp [h]
    · simp [e]
theorem and_or0 {x y z : Int32} : x &&& (y ||| z) = 0 ↔ x &&& y = 0 ∧ x &&& z = 0 := by
  constructor
  · intro h
    have q : ∀ i, i < 32 → (bt x i && (bt y i || bt z i)) = false := fun i hi => by
      have w : bt (x &&& (y ||| z)) i = false := by rw [h, b_0]
      rwa [b_and, b_or] at w
    constructor
    · refine b_ext (fun i hi => ?_)
      have w := q i hi
      rw [b_and, b_0]
      revert w
      cases bt x i <;> cases bt y i <;> cases bt z i <;> decide
    · refine b_ext (fun i hi => ?_)
      have w := q i hi
      rw [b_and, b_0]
      revert w
      cases bt x i <;> cases bt y i <;> cases bt z i <;> decide
  · intro h
    refine b_ext (fun i hi => ?_)
    have w1 : bt (x &&& y) i = false := by rw [h.1, b_0]
    have w2 : bt (x &&& z) i = false := by rw [h.2, b_0]
    rw [b_and] at w1 w2
    rw [b_and, b_or, b_0]
    revert w1 w2
    cases bt x i <;> cases bt y i <;> cases bt z i <;> decide
theorem dec_or {x c : Int32} {b : Nat} (hb : b < 32) : decide (x &&& (c ||| ((1 : Int32) <<< (nI b &&& 31))) = 0) = (decide (x &&& c = 0) && !bt x b) := by
  rw [Bool.eq_iff_iff]
  simp only [decide_eq_true_eq, Bool.and_eq_true, Bool.not_eq_true']
  rw [and_or0, and_bit hb]
/-- bits of a number below 2^16, counted -/
def popN : Nat → Nat → Nat
  | 0, _ => 0
  | i + 1, k => popN i k + (if k.testBit i then 1 else 0)
def pcS (k : Nat) : Nat :=
  let a := k - ((k / 2 ^ 1) &&& 1431655765)
  let b := (a &&& 858993459) + ((a / 2 ^ 2) &&& 858993459)
  let c := (b + (b / 2 ^ 4)) &&& 252645135
  let d := c + (c / 2 ^ 8)
  let e := d + (d / 2 ^ 16)
  e &&& 63
theorem ushI_N {n : Nat} (h : n < 2 ^ 32) (s : Int32) (k : Nat) (hs : ((s.toUInt32 &&& Int32.toUInt32 31).toBitVec % 32).toNat = k) : ushI (nI n) s = nI (n / 2 ^ k) := pk_ushrN h s k hs
theorem bitC_S {k : Nat} (h : k < 65536) : bitC (nI k) = nI (pcS k) := by
  have e1 : bitC1 (nI k) = nI (k - ((k / 2 ^ 1) &&& 1431655765)) := by
    unfold bitC1
    rw [ushI_N (by omega) 1 1 (by decide), show (1431655765 : Int32) = nI 1431655765 from rfl, nx_and, pk_sub]
    exact Nat.le_trans Nat.and_le_left (Nat.div_le_self _ _)
  have ha : k - ((k / 2 ^ 1) &&& 1431655765) < 65536 := Nat.lt_of_le_of_lt (Nat.sub_le _ _) h
  unfold bitC
  rw [e1]
  show _ = nI ((_ : Nat) &&& 63)
  generalize hA : k - ((k / 2 ^ 1) &&& 1431655765) = a at ha
  have e2 : bitC2 (nI a) = nI ((a &&& 858993459) + ((a / 2 ^ 2) &&& 858993459)) := by
    unfold bitC2
    rw [ushI_N (by omega) 2 2 (by decide), show (858993459 : Int32) = nI 858993459 from rfl, nx_and, nx_and, nI_add]
  have hb : (a &&& 858993459) + ((a / 2 ^ 2) &&& 858993459) < 2 ^ 18 := by
    have q1 : a &&& 858993459 ≤ a := Nat.and_le_left
    have q2 : (a / 2 ^ 2) &&& 858993459 ≤ a / 2 ^ 2 := Nat.and_le_left
    have q3 : a / 2 ^ 2 ≤ a := Nat.div_le_self _ _
    omega
  rw [e2]
  generalize hB : (a &&& 858993459) + ((a / 2 ^ 2) &&& 858993459) = b at hb
  have e3 : bitC3 (nI b) = nI ((b + (b / 2 ^ 4)) &&& 252645135) := by
    unfold bitC3
    rw [ushI_N (by omega) 4 4 (by decide), nI_add, show (252645135 : Int32) = nI 252645135 from rfl, nx_and]
  have hc : (b + (b / 2 ^ 4)) &&& 252645135 < 2 ^ 28 := Nat.lt_of_le_of_lt Nat.and_le_right (by decide)
  rw [e3]
  generalize hC : (b + (b / 2 ^ 4)) &&& 252645135 = c at hc
  have e4 : bitC4 (nI c) = nI (c + (c / 2 ^ 8)) := by
    unfold bitC4
    rw [ushI_N (by omega) 8 8 (by decide), nI_add]
  have hd : c + c / 2 ^ 8 < 2 ^ 29 := by have := Nat.div_le_self c (2 ^ 8); omega
  rw [e4]
  generalize hD : c + c / 2 ^ 8 = d at hd
  have e5 : bitC5 (nI d) = nI (d + (d / 2 ^ 16)) := by
    unfold bitC5
    rw [ushI_N (by omega) 16 16 (by decide), nI_add]
  rw [e5, show (63 : Int32) = nI 63 from rfl, nx_and, ← hD, ← hC, ← hB, ← hA]
def pcOk (lo : Nat) : Bool := (List.range 4096).all (fun k => pcS (lo * 4096 + k) == popN 16 (lo * 4096 + k))
theorem pcOk_0 : pcOk 0 = true := by decide +kernel
theorem pcOk_1 : pcOk 1 = true := by decide +kernel
theorem pcOk_2 : pcOk 2 = true := by decide +kernel
theorem pcOk_3 : pcOk 3 = true := by decide +kernel
theorem pcOk_4 : pcOk 4 = true := by decide +kernel
theorem pcOk_5 : pcOk 5 = true := by decide +kernel
theorem pcOk_6 : pcOk 6 = true := by decide +kernel
theorem pcOk_7 : pcOk 7 = true := by decide +kernel
theorem pcOk_8 : pcOk 8 = true := by decide +kernel
theorem pcOk_9 : pcOk 9 = true := by decide +kernel
theorem pcOk_10 : pcOk 10 = true := by decide +kernel
theorem pcOk_11 : pcOk 11 = true := by decide +kernel
theorem pcOk_12 : pcOk 12 = true := by decide +kernel
theorem pcOk_13 : pcOk 13 = true := by decide +kernel
theorem pcOk_14 : pcOk 14 = true := by decide +kernel
theorem pcOk_15 : pcOk 15 = true := by decide +kernel
theorem pcOk_all : ∀ lo, lo < 16 → pcOk lo = true
  | 0, _ => pcOk_0
  | 1, _ => pcOk_1
  | 2, _ => pcOk_2
  | 3, _ => pcOk_3
  | 4, _ => pcOk_4
  | 5, _ => pcOk_5
  | 6, _ => pcOk_6
  | 7, _ => pcOk_7
  | 8, _ => pcOk_8
  | 9, _ => pcOk_9
  | 10, _ => pcOk_10
  | 11, _ => pcOk_11
  | 12, _ => pcOk_12
  | 13, _ => pcOk_13
  | 14, _ => pcOk_14
  | 15, _ => pcOk_15
  | n + 16, h => absurd h (by omega)

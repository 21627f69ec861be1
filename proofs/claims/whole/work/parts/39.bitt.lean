set_option maxRecDepth 100000 in
theorem pcS_pop {k : Nat} (h : k < 65536) : pcS k = popN 16 k := by
  have q := List.all_eq_true.mp (pcOk_all (k / 4096) (by omega)) (k % 4096) (List.mem_range.mpr (Nat.mod_lt _ (by decide)))
  rw [show k / 4096 * 4096 + k % 4096 = k by have := Nat.div_add_mod k 4096; omega] at q
  exact eq_of_beq q
theorem bitC_pop {k : Nat} (h : k < 65536) : bitC (nI k) = nI (popN 16 k) := by rw [bitC_S h, pcS_pop h]
theorem tb_add {k t i : Nat} (h : k < 2 ^ t) : (k + 2 ^ t).testBit i = (k.testBit i || decide (i = t)) := by
  rw [show k + 2 ^ t = 2 ^ t ||| k by have q := Nat.two_pow_add_eq_or_of_lt h 1; simp only [Nat.mul_one] at q; rw [← q]; omega]
  rw [Nat.testBit_or, Nat.testBit_two_pow]
  cases k.testBit i <;> simp [eq_comm]
theorem pop_add {k t : Nat} (h : k < 2 ^ t) : ∀ i, popN i (k + 2 ^ t) = popN i k + (if t < i then 1 else 0) := by
  intro i
  induction i with
  | zero => simp [popN]
  | succ i ih =>
    rw [popN, popN, ih, tb_add h]
    by_cases e : i = t
    · subst e
      have z : k.testBit i = false := Nat.testBit_lt_two_pow h
      simp [z]
    · by_cases e2 : t < i
      · simp [e, e2, show t < i + 1 by omega]; omega
      · simp [e, e2, show ¬ t < i + 1 by omega]
theorem or_pow {k t : Nat} (ht : t < 16) (h : k < 2 ^ t) : nI k ||| ((1 : Int32) <<< (nI t &&& 31)) = nI (k + 2 ^ t) := by
  refine b_ext (fun i hi => ?_)
  rw [b_or, bt_nI hi, bt_one (by omega) hi, bt_nI hi, tb_add h]
/-- the carriers as a number; their count by the reference -/
def crK (B : kB) (b : Nat) : Nat → Nat
  | 0 => 0
  | t + 1 => if t ≤ b then 0 else if qCar B b (carN B b t) t then crK B b t + 2 ^ t else crK B b t
theorem crK_lt {B : kB} {b : Nat} : ∀ t, crK B b t < 2 ^ t := by
  intro t
  induction t with
  | zero => exact Nat.one_pos
  | succ t ih =>
    have q : 2 ^ (t + 1) = 2 ^ t + 2 ^ t := by rw [Nat.pow_succ]; omega
    rw [crK]
    split
    · exact Nat.two_pow_pos _
    · split <;> omega
theorem carN_K {B : kB} {b : Nat} : ∀ t, t ≤ 16 → carN B b t = nI (crK B b t) := by
  intro t
  induction t with
  | zero => intro _; rfl
  | succ t ih =>
    intro ht
    rw [carN, crK]
    by_cases e : t ≤ b
    · simp [e]; rfl
    · simp only [if_neg e]
      split
      · rw [ih (by omega), or_pow (by omega) (crK_lt t)]
      · exact ih (by omega)
def crS (B : kB) (b : Nat) : Nat → Int32
  | 0 => (1 : Int32) <<< (nI b &&& 31)
  | t + 1 => if t ≤ b then (1 : Int32) <<< (nI b &&& 31) else if decide (B t 0 = 3) && !decide (B t 2 &&& crS B b t = 0) then crS B b t ||| ((1 : Int32) <<< (nI t &&& 31)) else crS B b t
def crN (B : kB) (b : Nat) : Nat → Int32
  | 0 => 0
  | t + 1 => if t ≤ b then 0 else if decide (B t 0 = 3) && !decide (B t 2 &&& crS B b t = 0) then crN B b t + 1 else crN B b t
theorem crS_car {B : kB} {b : Nat} (hb : b < 16) : ∀ t, crS B b t = carN B b t ||| ((1 : Int32) <<< (nI b &&& 31)) := by
  intro t
  induction t with
  | zero => rw [crS, carN]; exact (Int32.zero_or).symm
  | succ t ih =>
    rw [crS, carN]
    by_cases e : t ≤ b
    · simp only [if_pos e]; exact (Int32.zero_or).symm
    · simp only [if_neg e]
      rw [show (decide (B t 0 = 3) && !decide (B t 2 &&& crS B b t = 0)) = qCar B b (carN B b t) t from ?_, ih]
      · split
        · rw [Int32.or_assoc, Int32.or_assoc, Int32.or_comm ((1 : Int32) <<< (nI t &&& 31))]
        · rfl
      · rw [ih]
        unfold qCar
        rw [tld_bt (by omega)]
        congr 1
        rw [dec_or (by omega)]
        cases bt (B t 2) b <;> simp
theorem qCar_S {B : kB} {b t : Nat} (hb : b < 16) : (decide (B t 0 = 3) && !decide (B t 2 &&& crS B b t = 0)) = qCar B b (carN B b t) t := by
  rw [crS_car hb]
  unfold qCar
  rw [tld_bt (by omega)]
  congr 1
  rw [dec_or (by omega)]
  cases bt (B t 2) b <;> simp
theorem crN_bit {B : kB} {b : Nat} (hb : b < 16) : ∀ t, t ≤ 16 → crN B b t = bitC (carN B b t) := by
  intro t ht
  have hlt : ∀ i, i ≤ 16 → crK B b i < 65536 := fun i hi => Nat.lt_of_lt_of_le (crK_lt i) (Nat.pow_le_pow_right (by decide) hi)
  rw [carN_K t ht, bitC_pop (hlt t ht)]
  induction t with
  | zero =>
    simp only [crN, crK]
    decide
  | succ t ih =>
    rw [crN, crK, qCar_S hb]
    by_cases e : t ≤ b
    · simp only [if_pos e]; rfl
    · simp only [if_neg e]
      split
      · rw [ih (by omega), pop_add (crK_lt t), if_pos (by omega), nI_1]
      · exact ih (by omega)

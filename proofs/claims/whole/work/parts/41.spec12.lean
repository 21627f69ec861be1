/-! PURE WORDS for the rest of the reference's calls -/
def cdDrop (n : Nat) : Nat := if n = 0 then 1 else 0
def cdUndo (m : Nat) : Nat := if m = 0 then 1 else 0
theorem upd_upd {f : Nat → Int32} {i : Nat} {a b : Int32} : upd (upd f i a) i b = upd f i b := by
  funext j
  simp only [upd]
  split <;> rfl
theorem upd_ne {f : Nat → Int32} {i j : Nat} {a : Int32} (h : ¬ j = i) : upd f i a j = f j := if_neg h
theorem BF_up {BF C : Nat → Int32} {t : Nat} {x : Int32} (h : ∀ j, j < t → BF j = C j) : ∀ j, j < t + 1 → upd BF t x j = upd C t x j := by
  intro j hj
  simp only [upd]
  split
  · rfl
  · exact h j (by omega)
theorem ZB.less {Z : Nat → Int32} {q : Nat} {B : kB} (h : ZB Z (q + 1) B) : ZB (upd Z 0 (nI q)) q B := ⟨if_pos rfl, fun b hb w hw => (if_neg (by omega)).trans (h.2 b (by omega) w hw)⟩
theorem wi_N {x : Int32} {k : Nat} (hk : k < 2 ^ 31 - 1) (h : wi x 0 (nI k) = true) : ∃ w, w < k + 1 ∧ x = nI w := by
  simp only [wi, Bool.and_eq_true, Bool.not_eq_true', decide_eq_false_iff_not] at h
  rcases pk_ix x (n := k + 1) (by omega) with q | q | ⟨j, hj, rfl⟩
  · exact absurd q h.1
  · have z := h.2
    rw [Int32.le_iff_toInt_le, nI_toInt (by omega)] at q
    rw [Int32.lt_iff_toInt_lt, nI_toInt (by omega)] at z
    omega
  · exact ⟨j, hj, rfl⟩
theorem crS_0 {B : kB} {b : Nat} : crS B b (b + 1) = (1 : Int32) <<< (nI b &&& 31) := by rw [crS, if_pos (Nat.le_refl b)]
theorem crN_0 {B : kB} {b : Nat} : crN B b (b + 1) = 0 := by rw [crN, if_pos (Nat.le_refl b)]
theorem l2d52 : FP.l2d 4503599627370496 = 4841369599423283200 := by decide +kernel
theorem exL : ∀ j, j < 6 → (1023 - nI j).toInt64 - 1 = (1023 - nI (j + 1)).toInt64 := by decide
def zrD (d : UInt64) : Bool := decide (Op.cmpValue (FP.dcmp d FP.dconst0) CmpOp.l = 0) == !gt0 d
theorem zrD_all : ((List.range 17).all fun a => (List.range 17).all fun b => decide (b = 0) || decide (b < a) || zrD (shD a b)) = true := by decide +kernel
theorem zr_share {a b : Nat} (h : a ≤ b) (h0 : 0 < b) (hb : b ≤ 16) : zrD (shD a b) = true := by
  have q := List.all_eq_true.mp (List.all_eq_true.mp zrD_all a (List.mem_range.mpr (by omega))) b (List.mem_range.mpr (by omega))
  simpa [show ¬ b = 0 by omega, show ¬ b < a by omega] using q
theorem zr_fil {B : kB} {n : Nat} (hn : n ≤ 16) : zrD (filD B n) = true := by
  unfold filD
  split
  · exact zr_share (Nat.sub_le _ _) (by assumption) (Nat.le_trans cnK_le hn)
  · rw [← share_11]; exact zr_share (Nat.le_refl 1) (by decide) (by decide)
theorem as64 (a b c : Int64) : a + b - c = a + (b - c) := by rw [Int64.sub_eq_add_neg, Int64.sub_eq_add_neg, Int64.add_assoc]

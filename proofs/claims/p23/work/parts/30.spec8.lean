/-! PURE WORDS for the share and its bits -/
def cnK : Nat → (Nat → Bool) → Nat
  | 0, _ => 0
  | n + 1, P => cnK n P + (if P n then 1 else 0)
theorem cntN_K {n : Nat} {P : Nat → Bool} : cntN n P = nI (cnK n P) := by
  induction n with
  | zero => rfl
  | succ n ih =>
    rw [cntN, cnK, ih]
    cases P n with
    | false => simp [bI]
    | true => simp [bI, nI_1]
theorem cnK_le {n : Nat} {P : Nat → Bool} : cnK n P ≤ n := by
  induction n with
  | zero => exact Nat.le_refl _
  | succ n ih => rw [cnK]; split <;> omega
theorem cnK_m {n : Nat} {P Q : Nat → Bool} (h : ∀ b, P b = true → Q b = true) : cnK n P ≤ cnK n Q := by
  induction n with
  | zero => exact Nat.le_refl _
  | succ n ih =>
    rw [cnK, cnK]
    cases hp : P n with
    | false => simp; omega
    | true => simp [h n hp]; omega
def shD (a b : Nat) : UInt64 := FP.ddiv (FP.i2d (nI a)) (FP.i2d (nI b))
def vfB (r : UInt64) : Bool := decide (r &&& 0x7fffffffffffffff ≤ 0x7ff0000000000000)
theorem vfB_n {r : UInt64} (h : vfB r = true) : vf_n64 r := by unfold vf_n64; exact of_decide_eq_true h
def dblN : Nat → UInt64 → UInt64
  | 0, d => d
  | j + 1, d => FP.dmul (dblN j d) 4611686018427387904
def lt1 (d : UInt64) : Bool := !decide (0 ≤ Op.cmpValue (FP.dcmp d FP.dconst1) CmpOp.g)
def gt0 (d : UInt64) : Bool := decide (0 < Op.cmpValue (FP.dcmp d FP.dconst0) CmpOp.g)
def dKn : Nat → Nat → UInt64 → Nat
  | 0, j, _ => j
  | f + 1, j, d => if lt1 (dblN j d) then dKn f (j + 1) d else j
def dK (d : UInt64) : Nat := dKn 5 0 d
def bitD (d : UInt64) : Int64 := if gt0 d then ((1023 - nI (dK d)).toInt64 <<< ((52 : Int32).toInt64 &&& 63)) + (FP.d2l (FP.dmul (dblN (dK d) d) (FP.l2d 4503599627370496)) - 4503599627370496) else 0
/-- what the walk needs of a share -/
def okD (d : UInt64) : Bool := (List.range 6).all (fun j => vfB (FP.dmul (dblN j d) 4611686018427387904) && vfB (FP.dmul (dblN j d) (FP.l2d 4503599627370496))) && (!gt0 d || !lt1 (dblN 5 d))
theorem okD_all : ((List.range 17).all fun a => (List.range 17).all fun b => decide (b = 0) || decide (b < a) || (vfB (shD a b) && okD (shD a b))) = true := by decide +kernel
theorem ok_share {a b : Nat} (h : a ≤ b) (h0 : 0 < b) (hb : b ≤ 16) : vfB (shD a b) = true ∧ okD (shD a b) = true := by
  have q := List.all_eq_true.mp (List.all_eq_true.mp okD_all a (List.mem_range.mpr (by omega))) b (List.mem_range.mpr (by omega))
  simpa [show ¬ b = 0 by omega, show ¬ b < a by omega] using q
theorem share_11 : shD 1 1 = FP.dconst1 := by decide +kernel
def filA (B : kB) (n : Nat) : Nat := cnK n (fun b => qOpn B (opm B n) b && !decide (B b 0 = 3))
def filW (B : kB) (n : Nat) : Nat := cnK n (qWts B (opm B n))
def filD (B : kB) (n : Nat) : UInt64 := if 0 < filA B n then shD (filA B n - filW B n) (filA B n) else FP.dconst1
theorem filW_le {B : kB} {n : Nat} : filW B n ≤ filA B n := by
  refine cnK_m (fun b h => ?_)
  simp only [qWts, qEmp, Bool.and_eq_true] at h ⊢
  exact ⟨h.1, h.2.1⟩
theorem filD_ok {B : kB} {n : Nat} (hn : n ≤ 16) : okD (filD B n) = true := by
  unfold filD
  split
  · exact (ok_share (Nat.sub_le _ _) (by assumption) (Nat.le_trans cnK_le hn)).2
  · rw [← share_11]; exact (ok_share (Nat.le_refl 1) (by decide) (by decide)).2
theorem ex_dec (a : Nat) : (1023 - nI a) + Int32.ofInt (-1) = 1023 - nI (a + 1) := by
  rw [← nI_1, Int32.sub_eq_add_neg, Int32.sub_eq_add_neg, Int32.neg_add, show Int32.ofInt (-1) = -(1 : Int32) from rfl, Int32.add_assoc, Int32.sub_eq_add_neg]
theorem okD_2 {d : UInt64} (h : okD d = true) {j : Nat} (hj : j < 6) : vf_n64 (FP.dmul (dblN j d) 4611686018427387904) := by
  simp only [okD, Bool.and_eq_true, List.all_eq_true] at h
  exact vfB_n (h.1 j (List.mem_range.mpr hj)).1
theorem okD_52 {d : UInt64} (h : okD d = true) {j : Nat} (hj : j < 6) : vf_n64 (FP.dmul (dblN j d) (FP.l2d 4503599627370496)) := by
  simp only [okD, Bool.and_eq_true, List.all_eq_true] at h
  exact vfB_n (h.1 j (List.mem_range.mpr hj)).2
theorem okD_5 {d : UInt64} (h : okD d = true) (hg : gt0 d = true) : lt1 (dblN 5 d) = false := by
  simp only [okD, Bool.and_eq_true] at h
  simpa [hg] using h.2

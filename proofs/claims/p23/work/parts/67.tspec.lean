/-! PURE WORDS for what the law tells -/
theorem exIA_n {c : Nat} {E : String} (h : c = 0) (q : exIA c E) : False := by
  rcases q with ⟨q, -⟩ | ⟨q, -⟩ <;> omega
theorem exIAS_n {c : Nat} {E : String} (h : c = 0) (q : exIAS c E) : False := by
  rcases q with ⟨q, -⟩ | ⟨q, -⟩ | ⟨q, -⟩ <;> omega
/-- the class and the law's rows -/
def TW (g : kG) (u : Nat → va_E) (ak ap am al aa n : Nat) (B : kB) (m : Nat) (S : Nat → kS) (t : Nat) (C K P M L A : Nat → Int32) : Prop :=
  CsB g u n B m S t C ∧ AR g u 61 ak 16 K ∧ AR g u 62 ap 16 P ∧ AR g u 63 am 16 M ∧ AR g u 64 al 16 L ∧ AR g u 65 aa 16 A
theorem CsB.keep {g : kG} {u u' : Nat → va_E} {n m t : Nat} {B : kB} {S : Nat → kS} {C : Nat → Int32} (h : CsB g u n B m S t C) (hk : ∀ j, j < 61 → u' j = u j) : CsB g u' n B m S t C := by
  obtain ⟨h0, h1, ⟨sz, G, V, h2⟩, h3, h4⟩ := h
  exact ⟨(hk 0 (by omega)).trans h0, h1.keep (fun j h1 h2 => hk j (by omega)), ⟨sz, G, V, h2.keep (fun j h1 h2 => hk j (by omega))⟩, h3.keep (fun j h1 h2 => hk j (by omega)), h4.keep (hk 59 (by omega)) (hk 60 (by omega))⟩
theorem TW.keep {g : kG} {u u' : Nat → va_E} {ak ap am al aa n n' : Nat} {B B' : kB} {m m' : Nat} {S S' : Nat → kS} {t t' : Nat} {C C' K P M L A : Nat → Int32} (h : TW g u ak ap am al aa n B m S t C K P M L A) (hc : CsB g u' n' B' m' S' t' C') (hk : ∀ j, 61 ≤ j → u' j = u j) : TW g u' ak ap am al aa n' B' m' S' t' C' K P M L A := by
  obtain ⟨-, h1, h2, h3, h4, h5⟩ := h
  exact ⟨hc, h1.keep (hk 61 (by decide)), h2.keep (hk 62 (by decide)), h3.keep (hk 63 (by decide)), h4.keep (hk 64 (by decide)), h5.keep (hk 65 (by decide))⟩
theorem cdBox_0 {n j : Nat} {w : Int32} (hn : n ≤ 16) (hj : j < n) (hw : wi w 0 7 = true) : cdBox n (nI j) w = 0 := by
  unfold cdBox
  rw [hasB_nI (by omega) (by omega), decide_eq_true hj, hw]; rfl
theorem cdPart_0 {p : Nat} {w : Int32} (hp : p < 5) (hw : wi w 0 5 = true) : cdPart (nI p) w = 0 := by
  unfold cdPart
  rw [show wi (nI p) 0 4 = true from wi_nI (m := 4) (by omega) (by decide), hw]; rfl
section TELL
variable {B : kB} {n m j : Nat} {M p : Int32}
theorem tb_0 (hj : j < 2 ^ 31) : tB B M (nI j).toNatClampNeg 0 = B j 0 := by rw [nI_clamp hj]; rfl
theorem tb_1 (hj : j < 2 ^ 31) : tB B M (nI j).toNatClampNeg 1 = B j 1 := by rw [nI_clamp hj]; rfl
theorem tb_2 (hj : j < 2 ^ 31) : tB B M (nI j).toNatClampNeg 2 = B j 2 := by rw [nI_clamp hj]; rfl
theorem tb_3 (hj : j < 2 ^ 31) : tB B M (nI j).toNatClampNeg 3 = B j 3 := by rw [nI_clamp hj]; rfl
theorem tb_4 (hj : j < 2 ^ 31) : tB B M (nI j).toNatClampNeg 4 = B j 4 := by rw [nI_clamp hj]; rfl
theorem tb_5 (hj : j < 2 ^ 31) : tB B M (nI j).toNatClampNeg 5 = valX B M j := by rw [nI_clamp hj]; rfl
theorem tb_6 (hj : j < 2 ^ 31) : tB B M (nI j).toNatClampNeg 6 = bI (qOpn B M j) := by rw [nI_clamp hj]; rfl
theorem tb_7 (hj : j < 2 ^ 31) : tB B M (nI j).toNatClampNeg 7 = bI (qWts B M j) := by rw [nI_clamp hj]; rfl
theorem tp_0 : tP B n M p 0 = bI (tld M p) := rfl
theorem tp_1 : tP B n M p 1 = cntN n (fun b => decide (B b 1 = p)) := rfl
theorem tp_2 : tP B n M p 2 = cntN n (fun b => decide (B b 1 = p) && qWts B M b) := rfl
theorem tp_3 : tP B n M p 3 = cntN n (qFor B 1 p) := rfl
theorem tp_4 : tP B n M p 4 = cntN n (qFor B 2 p) := rfl
theorem tp_5 : tP B n M p 5 = bI (anyN n (qCls B p M)) := rfl
theorem tf_0 : tF B n m M 0 = nI n := rfl
theorem tf_1 : tF B n m M 1 = cntN n (qOpn B M) := rfl
theorem tf_2 : tF B n m M 2 = cntN n (qWts B M) := rfl
theorem tf_3 : tF B n m M 3 = fstN n (qWts B M) := rfl
theorem tf_4 : tF B n m M 4 = bI (decide (cntN n (qWts B M) = 0)) := rfl
theorem tf_5 : tF B n m M 5 = bitC M := rfl
theorem tf_6 : tF B n m M 6 = M := rfl
theorem tf_7 : tF B n m M 7 = cntN n (fun b => !decide (B b 4 = -1)) := rfl
end TELL
theorem bI_1 {b : Bool} (h : bI b = 1) : b = true := by cases b with | false => exact absurd h (by decide) | true => rfl
theorem bI_n1 {b : Bool} (h : ¬ bI b = 1) : b = false := by cases b with | false => rfl | true => exact absurd rfl h
theorem fst_pos {n : Nat} {P : Nat → Bool} (hn : n < 2 ^ 31) (h : anyN n P = true) : 0 ≤ fstN n P := by
  induction n with
  | zero => exact absurd h (by simp [anyN])
  | succ n ih =>
    rw [fstN]
    by_cases e : anyN n P = true
    · rw [if_pos e]; exact ih (by omega) e
    · rw [if_neg e]
      rw [anyN] at h
      have hp : P n = true := by simpa [e] using h
      rw [if_pos hp]
      exact nI_pos' (by omega)
theorem fst_k0 {j : Nat} {P : Nat → Bool} (hp : P j = false) : fstN j P = fstN (j + 1) P := by
  rw [fstN]
  by_cases e : anyN j P = true
  · rw [if_pos e]
  · rw [if_neg e, if_neg (by rw [hp]; decide), fstN_none (by simpa using e)]
theorem fst_k1 {j : Nat} {P : Nat → Bool} (c : 0 ≤ fstN j P) : fstN j P = fstN (j + 1) P := by
  rw [fstN]
  by_cases e : anyN j P = true
  · rw [if_pos e]
  · rw [fstN_none (by simpa using e)] at c
    exact absurd c (by decide)
theorem fst_k2 {j : Nat} {P : Nat → Bool} (hj : j < 2 ^ 31) (hp : P j = true) (c : ¬ 0 ≤ fstN j P) : nI j = fstN (j + 1) P := by
  rw [fstN]
  by_cases e : anyN j P = true
  · exact absurd (fst_pos hj e) c
  · rw [if_neg e, if_pos hp]
theorem mcB_1 {B : kB} {n j : Nat} (c : ¬ bitC (carN B j n) ≤ mcM B n j) : nI j = mcB B n (j + 1) := by rw [mcB, if_pos (Int32.not_le.mp c)]
theorem mcB_0 {B : kB} {n j : Nat} (c : bitC (carN B j n) ≤ mcM B n j) : mcB B n j = mcB B n (j + 1) := by rw [mcB, if_neg (Int32.not_lt.mpr c)]
theorem mcM_1 {B : kB} {n j : Nat} (c : ¬ bitC (carN B j n) ≤ mcM B n j) : bitC (carN B j n) = mcM B n (j + 1) := by rw [mcM, if_pos (Int32.not_le.mp c)]
theorem mcM_0 {B : kB} {n j : Nat} (c : bitC (carN B j n) ≤ mcM B n j) : mcM B n j = mcM B n (j + 1) := by rw [mcM, if_neg (Int32.not_lt.mpr c)]
/-! the share -/
def dcB (d : UInt64) : Bool := decide (Op.cmpValue (FP.dcmp d d) CmpOp.l = 0)
theorem dcB_all : ((List.range 17).all fun a => (List.range 17).all fun b => decide (b = 0) || decide (b < a) || dcB (shD a b)) = true := by decide +kernel
theorem dc_share {a b : Nat} (h : a ≤ b) (h0 : 0 < b) (hb : b ≤ 16) : dcB (shD a b) = true := by
  have q := List.all_eq_true.mp (List.all_eq_true.mp dcB_all a (List.mem_range.mpr (by omega))) b (List.mem_range.mpr (by omega))
  simpa [show ¬ b = 0 by omega, show ¬ b < a by omega] using q
theorem dc_fil {B : kB} {n : Nat} (hn : n ≤ 16) : Op.cmpValue (FP.dcmp (filD B n) (filD B n)) CmpOp.l = 0 := by
  have q : dcB (filD B n) = true := by
    unfold filD
    split
    · exact dc_share (Nat.sub_le _ _) (by assumption) (Nat.le_trans cnK_le hn)
    · rw [← share_11]; exact dc_share (Nat.le_refl 1) (by decide) (by decide)
  exact of_decide_eq_true q
theorem fil_A {B : kB} {n : Nat} : cntN n (fun b => qOpn B (opm B n) b && !decide (B b 0 = 3)) = nI (filA B n) := cntN_K
theorem fil_W {B : kB} {n : Nat} : cntN n (qWts B (opm B n)) = nI (filW B n) := cntN_K
theorem fil_0 {B : kB} {n : Nat} (hn : n ≤ 16) (c : cntN n (fun b => qOpn B (opm B n) b && !decide (B b 0 = 3)) = 0) : FP.dconst1 = filD B n := by
  rw [fil_A] at c
  have h : filA B n ≤ n := cnK_le
  have z : filA B n = 0 := (nI_eq (b := 0) (by omega) (by decide)).mp c
  rw [filD, if_neg (by omega)]
theorem fil_p {B : kB} {n : Nat} (hn : n ≤ 16) (c : ¬ cntN n (fun b => qOpn B (opm B n) b && !decide (B b 0 = 3)) = 0) : 0 < filA B n ∧ filA B n ≤ 16 := by
  rw [fil_A] at c
  have h : filA B n ≤ n := cnK_le
  refine ⟨?_, by omega⟩
  rcases Nat.eq_zero_or_pos (filA B n) with z | z
  · rw [z] at c; exact absurd rfl c
  · exact z
theorem fil_1 {B : kB} {n : Nat} (hn : n ≤ 16) (c : ¬ cntN n (fun b => qOpn B (opm B n) b && !decide (B b 0 = 3)) = 0) : FP.ddiv (FP.i2d (cntN n (fun b => qOpn B (opm B n) b && !decide (B b 0 = 3)) - cntN n (qWts B (opm B n)))) (FP.i2d (cntN n (fun b => qOpn B (opm B n) b && !decide (B b 0 = 3)))) = filD B n := by
  obtain ⟨h0, h1⟩ := fil_p hn c
  rw [fil_A, fil_W, pk_sub filW_le, filD, if_pos h0]; rfl
theorem fil_v {B : kB} {n : Nat} (hn : n ≤ 16) (c : ¬ cntN n (fun b => qOpn B (opm B n) b && !decide (B b 0 = 3)) = 0) : vf_n64 (FP.ddiv (FP.i2d (cntN n (fun b => qOpn B (opm B n) b && !decide (B b 0 = 3)) - cntN n (qWts B (opm B n)))) (FP.i2d (cntN n (fun b => qOpn B (opm B n) b && !decide (B b 0 = 3))))) := by
  obtain ⟨h0, h1⟩ := fil_p hn c
  rw [fil_A, fil_W, pk_sub filW_le]
  exact vfB_n (ok_share (Nat.sub_le _ _) h0 h1).1
theorem kd_03 {x : Int32} (h : x = 0 ∨ x = 1 ∨ x = 2 ∨ x = 3) (h1 : ¬ x = 1) (h2 : ¬ x = 2) : x = 0 ∨ x = 3 := by
  rcases h with h | h | h | h
  · exact Or.inl h
  · exact absurd h h1
  · exact absurd h h2
  · exact Or.inr h
section TWUP
variable {g : kG} {u : Nat → va_E} {ak ap am al aa n m t : Nat} {B : kB} {S : Nat → kS} {C K P M L A Z : Nat → Int32}
theorem TW.upK (h : TW g u ak ap am al aa n B m S t C K P M L A) : TW g (va_up u 61 (.inl (g.2.2.1 0, 16, .inl Z))) ak ap am al aa n B m S t C Z P M L A :=
  ⟨h.1.keep (fun j hj => vne (by omega)), h.2.1.set, h.2.2.1.up (by decide), h.2.2.2.1.up (by decide), h.2.2.2.2.1.up (by decide), h.2.2.2.2.2.up (by decide)⟩
theorem TW.upP (h : TW g u ak ap am al aa n B m S t C K P M L A) : TW g (va_up u 62 (.inl (g.2.2.1 0, 16, .inl Z))) ak ap am al aa n B m S t C K Z M L A :=
  ⟨h.1.keep (fun j hj => vne (by omega)), h.2.1.up (by decide), h.2.2.1.set, h.2.2.2.1.up (by decide), h.2.2.2.2.1.up (by decide), h.2.2.2.2.2.up (by decide)⟩
theorem TW.upM (h : TW g u ak ap am al aa n B m S t C K P M L A) : TW g (va_up u 63 (.inl (g.2.2.1 0, 16, .inl Z))) ak ap am al aa n B m S t C K P Z L A :=
  ⟨h.1.keep (fun j hj => vne (by omega)), h.2.1.up (by decide), h.2.2.1.up (by decide), h.2.2.2.1.set, h.2.2.2.2.1.up (by decide), h.2.2.2.2.2.up (by decide)⟩
theorem TW.upL (h : TW g u ak ap am al aa n B m S t C K P M L A) : TW g (va_up u 64 (.inl (g.2.2.1 0, 16, .inl Z))) ak ap am al aa n B m S t C K P M Z A :=
  ⟨h.1.keep (fun j hj => vne (by omega)), h.2.1.up (by decide), h.2.2.1.up (by decide), h.2.2.2.1.up (by decide), h.2.2.2.2.1.set, h.2.2.2.2.2.up (by decide)⟩
theorem TW.upA (h : TW g u ak ap am al aa n B m S t C K P M L A) : TW g (va_up u 65 (.inl (g.2.2.1 0, 16, .inl Z))) ak ap am al aa n B m S t C K P M L Z :=
  ⟨h.1.keep (fun j hj => vne (by omega)), h.2.1.up (by decide), h.2.2.1.up (by decide), h.2.2.2.1.up (by decide), h.2.2.2.2.1.up (by decide), h.2.2.2.2.2.set⟩
end TWUP
theorem upd_back {A : Nat → Int32} {b : Nat} {v : Int32} : upd (upd A b v) b (A b) = A := by
  funext i
  by_cases e : i = b
  · subst e; exact upd_eq
  · rw [upd_ne e, upd_ne e]
theorem LR.up {n : Nat} {B : kB} {K P M L A : Nat → Int32} {b : Nat} {v : Int32} (h : LR n B K P M L A) : LR n (bUp B b 4 v) K P M L (upd A b v) := by
  intro c hc
  have e : ∀ w, ¬ w = 4 → bUp B b 4 v c w = B c w := fun w hw => if_neg (fun q => hw q.2)
  obtain ⟨h0, h1, h2, h3, h4⟩ := h c hc
  rw [e 0 (by decide), e 1 (by decide), e 2 (by decide), e 3 (by decide)]
  refine ⟨h0, h1, h2, h3, ?_⟩
  by_cases q : c = b
  · subst q
    rw [upd_eq]
    exact (if_pos ⟨rfl, rfl⟩ : bUp B c 4 v c 4 = v).symm
  · rw [upd_ne q, h4]
    exact (if_neg (fun z => q z.1) : bUp B b 4 v c 4 = B c 4).symm
theorem gA.up {n : Nat} {B : kB} {b : Nat} {v : Int32} (h : gA n B) (hv : v = -1 ∨ ¬ v < 0) : gA n (bUp B b 4 v) := by
  intro c hc
  by_cases q : c = b
  · subst q
    rw [show bUp B c 4 v c 4 = v from if_pos ⟨rfl, rfl⟩]
    exact hv
  · rw [show bUp B b 4 v c 4 = B c 4 from if_neg (fun z => q z.1)]
    exact h c hc
theorem vz_1 {B : kB} {M : Int32} {j : Nat} (h : B j 0 = 3) : valX B M j = valZ B M (lastM B (j + 1)) := by
  rw [lastM, if_pos h, valZ, if_neg (by omega), Nat.add_sub_cancel]
theorem vz_0 {B : kB} {M : Int32} {j : Nat} (h : ¬ B j 0 = 3) : valZ B M (lastM B j) = valZ B M (lastM B (j + 1)) := by
  rw [lastM, if_neg h]
theorem tt_0 {B : kB} {n b : Nat} {v : Int32} : tT B n b v 0 = cntN n (qWts (bUp B b 4 v) (opm (bUp B b 4 v) n)) := rfl
theorem tt_1 {B : kB} {n b : Nat} {v : Int32} : tT B n b v 1 = opm (bUp B b 4 v) n := rfl
theorem tt_2 {B : kB} {n b : Nat} {v : Int32} : tT B n b v 2 = valZ (bUp B b 4 v) (opm (bUp B b 4 v) n) (lastM (bUp B b 4 v) n) := rfl
theorem cdIf_0 {B : kB} {n b : Nat} {v w : Int32} (hn : n ≤ 16) (hb : b < n) (hf : fitA B b v = true) (hw : wi w 0 2 = true) : cdIf B n (nI b) v w = 0 := by
  unfold cdIf
  rw [hasB_nI (by omega) (by omega), decide_eq_true hb, nI_clamp (by omega), ifOk, hf, hw]; rfl

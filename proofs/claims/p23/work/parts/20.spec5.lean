/-! PURE WORDS for the class as a whole -/
theorem r_lookup {g : kG} {X : kX} {k n : Nat} {u : Nat → va_E} {pc : Nat} {lv : List (Nat × Value)} {st : List Value} {cc : ByteArray} {nL : Nat} {ret : Option FieldType} {ws : List Cond} {own : String} {rm : Room} (F : Fx g X cc nL ret ws own rm) {dflt : Int} {ps : Array (Int × Int)} {len : Nat} {x : Int32} {off : Int} (tgt : Nat) (hp : (ps.toList.zip (ps.toList.drop 1)).all (fun (a, next) => a.1 < next.1) = true) (ho : Op.lookupswitch.offset ps.toList dflt x.toInt = off) (ht : (pc : Int) + off = (tgt : Int)) (hdg : decode cc pc = .ok (.lookupswitch dflt ps, len)) (kk : VL g X k n u tgt lv st) : VL g X k n u pc lv (.int x :: st) := by
  obtain ⟨p, l, e, R, s, m, args, below, meth, c, Q⟩ := X
  obtain ⟨hx, hb, -⟩ := F
  intro H locs ls hP hS h
  exact lv_lookup hx hb hdg hp ho ht (kk H locs ls hP hS h)
theorem sumN_c {B : kB} {V W : Nat → Int32} {t : Nat} {mask : Int32} {b : Nat} (h : ∀ j, j < b → V j = W j) : sumN B V t mask b = sumN B W t mask b := by
  induction b with
  | zero => rfl
  | succ b ih =>
    rw [sumN, sumN, ih (fun j hj => h j (by omega)), h b (by omega)]
theorem valN_c {B : kB} {V W : Nat → Int32} {mask : Int32} {m : Nat} : ∀ j, j < m → valN B mask V m j = valN B mask W m j := by
  induction m with
  | zero => intro j hj; omega
  | succ m ih =>
    intro j hj
    rw [valN, valN]
    by_cases e : j = m
    · subst e
      simp only [upd, if_true]
      rw [sumN_c (fun i hi => ih i hi)]
    · simp only [upd, if_neg e]
      exact ih j (by omega)
theorem valN_s {B : kB} {V : Nat → Int32} {mask : Int32} {m : Nat} : ∀ d j, j < m → valN B mask V (m + d) j = valN B mask V m j := by
  intro d
  induction d with
  | zero => intro j hj; rfl
  | succ d ih =>
    intro j hj
    rw [← Nat.add_assoc, valN]
    simp only [upd, if_neg (show ¬ j = m + d by omega)]
    exact ih j hj
/-- a box's value -/
def valX (B : kB) (mask : Int32) (b : Nat) : Int32 := valN B mask (fun _ => 0) (b + 1) b
def valZ (B : kB) (mask : Int32) (m : Nat) : Int32 := if m = 0 then -1 else valX B mask (m - 1)
theorem valR_Z {B : kB} {mask : Int32} {V : Nat → Int32} {m : Nat} (h : m ≤ 16) : valR B mask V m = valZ B mask m := by
  unfold valR valZ
  cases m with
  | zero => rfl
  | succ m =>
    rw [nI_pred, atF_nI (by omega) (by decide), if_neg (by omega), Nat.add_sub_cancel, valX, valN_c m (by omega)]
/-- the last total's number and one more; 0: none -/
def lastM (B : kB) : Nat → Nat
  | 0 => 0
  | n + 1 => if B n 0 = 3 then n + 1 else lastM B n
theorem lastM_le {B : kB} {n : Nat} : lastM B n ≤ n := by
  induction n with
  | zero => exact Nat.le_refl _
  | succ n ih => rw [lastM]; split <;> omega
theorem lastT_M {B : kB} {n : Nat} : lastT B n = nI (lastM B n) - 1 := by
  induction n with
  | zero => rfl
  | succ n ih =>
    rw [lastT, lastM]
    split
    · rw [nI_pred]
    · exact ih
/-- what box(..) tells -/
def tB (B : kB) (mask : Int32) (b : Nat) (w : Int32) : Int32 :=
  if w = 0 then B b 0 else if w = 1 then B b 1 else if w = 2 then B b 2 else if w = 3 then B b 3 else if w = 4 then B b 4 else if w = 5 then valX B mask b else if w = 6 then bI (qOpn B mask b) else bI (qWts B mask b)
/-- what part(..) tells -/
def tP (B : kB) (n : Nat) (mask p w : Int32) : Int32 :=
  if w = 0 then bI (tld mask p) else if w = 1 then cntN n (fun b => decide (B b 1 = p)) else if w = 2 then cntN n (fun b => decide (B b 1 = p) && qWts B mask b) else if w = 3 then cntN n (qFor B 1 p) else if w = 4 then cntN n (qFor B 2 p) else bI (skpd B n p mask)
/-- what count(..) tells -/
def tF (B : kB) (n m : Nat) (mask w : Int32) : Int32 :=
  if w = 0 then nI n else if w = 1 then cntN n (qOpn B mask) else if w = 2 then cntN n (qWts B mask) else if w = 3 then fstN n (qWts B mask) else if w = 4 then bI (decide (cntN n (qWts B mask) = 0)) else if w = 5 then bitC mask else if w = 6 then mask else if w = 7 then cntN n (fun b => !decide (B b 4 = -1)) else nI m
/-- what an answer would bring -/
def tT (B : kB) (n b : Nat) (v w : Int32) : Int32 :=
  if w = 0 then cntN n (qWts (bUp B b 4 v) (opm (bUp B b 4 v) n)) else if w = 1 then opm (bUp B b 4 v) n else valZ (bUp B b 4 v) (opm (bUp B b 4 v) n) (lastM (bUp B b 4 v) n)
/-- the object of the class: n boxes B, m saved states S, t signs C -/
def CsB (g : kG) (u : Nat → va_E) (n : Nat) (B : kB) (m : Nat) (S : Nat → kS) (t : Nat) (C : Nat → Int32) : Prop := u 0 = .inr (3, [.ref (g.2.1 1), .ref (g.2.1 8), .ref (g.2.1 15), .ref (g.2.1 59)]) ∧ FmB g u 1 n B ∧ (∃ (sz : Int32) (G : kB) (V : Nat → Int32), FmL g u 8 sz G V) ∧ HsB g u m S ∧ TxB g u 59 t C
theorem CsB.form {g : kG} {u u' : Nat → va_E} {n n' m t : Nat} {B B' : kB} {S : Nat → kS} {C : Nat → Int32} (h : CsB g u n B m S t C) (hF : FmB g u' 1 n' B') (hk : ∀ j, ¬ (1 ≤ j ∧ j < 1 + 7) → u' j = u j) : CsB g u' n' B' m S t C := by
  obtain ⟨h0, h1, ⟨sz, G, V, h2⟩, h3, h4⟩ := h
  exact ⟨(hk 0 (by omega)).trans h0, hF, ⟨sz, G, V, h2.keep (fun j h1 h2 => hk j (by omega))⟩, h3.keep (fun j h1 h2 => hk j (by omega)), h4.keep (hk 59 (by omega)) (hk 60 (by omega))⟩
theorem CsB.trial {g : kG} {u u' : Nat → va_E} {n m t : Nat} {B : kB} {S : Nat → kS} {C : Nat → Int32} (h : CsB g u n B m S t C) (hF : ∃ (sz : Int32) (G : kB) (V : Nat → Int32), FmL g u' 8 sz G V) (hk : ∀ j, ¬ (8 ≤ j ∧ j < 8 + 7) → u' j = u j) : CsB g u' n B m S t C := by
  obtain ⟨h0, h1, -, h3, h4⟩ := h
  exact ⟨(hk 0 (by omega)).trans h0, h1.keep (fun j h1 h2 => hk j (by omega)), hF, h3.keep (fun j h1 h2 => hk j (by omega)), h4.keep (hk 59 (by omega)) (hk 60 (by omega))⟩
theorem CsB.hist {g : kG} {u u' : Nat → va_E} {n m m' t : Nat} {B : kB} {S S' : Nat → kS} {C : Nat → Int32} (h : CsB g u n B m S t C) (hH : HsB g u' m' S') (hk : ∀ j, ¬ (15 ≤ j ∧ j < 59) → u' j = u j) : CsB g u' n B m' S' t C := by
  obtain ⟨h0, h1, ⟨sz, G, V, h2⟩, -, h4⟩ := h
  exact ⟨(hk 0 (by omega)).trans h0, h1.keep (fun j h1 h2 => hk j (by omega)), ⟨sz, G, V, h2.keep (fun j h1 h2 => hk j (by omega))⟩, hH, h4.keep (hk 59 (by omega)) (hk 60 (by omega))⟩
theorem CsB.text {g : kG} {u u' : Nat → va_E} {n m t t' : Nat} {B : kB} {S : Nat → kS} {C C' : Nat → Int32} (h : CsB g u n B m S t C) (hT : TxB g u' 59 t' C') (hk : ∀ j, ¬ (j = 59 ∨ j = 59 + 1) → u' j = u j) : CsB g u' n B m S t' C' := by
  obtain ⟨h0, h1, ⟨sz, G, V, h2⟩, h3, -⟩ := h
  exact ⟨(hk 0 (by omega)).trans h0, h1.keep (fun j h1 h2 => hk j (by omega)), ⟨sz, G, V, h2.keep (fun j h1 h2 => hk j (by omega))⟩, h3.keep (fun j h1 h2 => hk j (by omega)), hT⟩

/-! PURE WORDS for the shortest list by the reference -/
theorem upd_eq {f : Nat → Int32} {i : Nat} {a : Int32} : upd f i a i = a := if_pos rfl
theorem cnK_sm {P : Nat → Bool} {b n : Nat} (hb : b < n) (hp : P b = true) : cnK b P < cnK n P := by
  obtain ⟨d, rfl⟩ : ∃ d, n = b + 1 + d := ⟨n - (b + 1), by omega⟩
  induction d with
  | zero => rw [Nat.add_zero, cnK, if_pos hp]; omega
  | succ d ih =>
    have q := ih (by omega)
    rw [← Nat.add_assoc, cnK]
    omega
theorem cnK_at {P : Nat → Bool} {n i : Nat} (h : i < cnK n P) : ∃ b, b < n ∧ P b = true ∧ cnK b P = i := by
  induction n with
  | zero => exact absurd h (by simp [cnK])
  | succ n ih =>
    rw [cnK] at h
    by_cases e : i < cnK n P
    · obtain ⟨b, h1, h2, h3⟩ := ih e
      exact ⟨b, by omega, h2, h3⟩
    · cases hp : P n with
      | false => rw [hp] at h; simp at h; omega
      | true => rw [hp] at h; simp at h; exact ⟨n, by omega, hp, by omega⟩
theorem cnK_u {P : Nat → Bool} {b c : Nat} (hb : P b = true) (hc : P c = true) (h : cnK b P = cnK c P) : b = c := by
  rcases Nat.lt_trichotomy b c with q | q | q
  · have := cnK_sm q hb; omega
  · exact q
  · have := cnK_sm q hc; omega
theorem ch_t {P : Nat → Bool} {CH : Nat → Int32} {j : Nat} (h : ∀ b, b < j → P b = true → CH (cnK b P) = nI b) (_hp : P j = true) : ∀ b, b < j + 1 → P b = true → upd CH (cnK j P) (nI j) (cnK b P) = nI b := by
  intro b hb hpb
  by_cases e : b = j
  · subst e; exact upd_eq
  · rw [upd_ne (by have := cnK_sm (n := j) (by omega : b < j) hpb; omega)]
    exact h b (by omega) hpb
theorem ch_f {P : Nat → Bool} {CH : Nat → Int32} {j k : Nat} (h : ∀ b, b < j → P b = true → CH (cnK b P) = nI b) (hp : P j = false) : ∀ b, b < j + 1 → P b = true → upd CH k (CH k) (cnK b P) = nI b := by
  intro b hb hpb
  have e : ¬ b = j := fun q => by rw [q, hp] at hpb; cases hpb
  rw [show upd CH k (CH k) = CH from by funext i; simp only [upd]; split <;> simp_all]
  exact h b (by omega) hpb
theorem we_s {Q : Nat → Bool} {WE : Nat → Int32} {j : Nat} {v : Int32} (h : ∀ b, b < j → WE b = bI (Q b)) (hv : v = bI (Q j)) : ∀ b, b < j + 1 → upd WE j v b = bI (Q b) := by
  intro b hb
  by_cases e : b = j
  · subst e; rw [upd_eq, hv]
  · rw [upd_ne e]; exact h b (by omega)
def simB (B : kB) (n : Nat) (W : kB) : Prop := ∀ b w, ¬ (w = 4 ∧ b < n ∧ mtB B b = true) → W b w = B b w
theorem simB.r {B : kB} {n : Nat} : simB B n B := fun _ _ _ => rfl
theorem simB.c {B : kB} {n c : Nat} : simB B n (asgC B n c) := fun _ _ h => if_neg h
def asgP (B : kB) (n c i : Nat) (W : kB) : kB := fun b w => if w = 4 ∧ b < n ∧ mtB B b = true ∧ cnK b (mtB B) < i then chB B b (c.testBit (cnK b (mtB B))) else W b w
theorem asgP_0 {B W : kB} {n c : Nat} : asgP B n c 0 W = W := by
  funext b w
  exact if_neg (by omega)
theorem chB_c {B W : kB} {b : Nat} {f : Bool} (h0 : W b 0 = B b 0) (h3 : W b 3 = B b 3) : chB W b f = chB B b f := by unfold chB; rw [h0, h3]
theorem asgP_s {B W : kB} {n c i b : Nat} (hS : simB B n W) (hb : b < n) (hm : mtB B b = true) (hc : cnK b (mtB B) = i) : bUp (asgP B n c i W) b 4 (chB (asgP B n c i W) b (c.testBit i)) = asgP B n c (i + 1) W := by
  have e : ∀ w, ¬ w = 4 → asgP B n c i W b w = B b w := fun w hw => (if_neg (fun q => hw q.1)).trans (hS b w (fun q => hw q.1))
  rw [chB_c (e 0 (by decide)) (e 3 (by decide))]
  funext b' w
  simp only [bUp, asgP]
  by_cases q : b' = b ∧ w = 4
  · obtain ⟨rfl, rfl⟩ := q
    rw [if_pos ⟨rfl, rfl⟩, if_pos ⟨rfl, hb, hm, by omega⟩, hc]
  · rw [if_neg q]
    by_cases q2 : w = 4 ∧ b' < n ∧ mtB B b' = true ∧ cnK b' (mtB B) < i
    · rw [if_pos q2, if_pos ⟨q2.1, q2.2.1, q2.2.2.1, by have := q2.2.2.2; omega⟩]
    · rw [if_neg q2, if_neg]
      rintro ⟨z1, z2, z3, z4⟩
      by_cases z5 : cnK b' (mtB B) < i
      · exact q2 ⟨z1, z2, z3, z5⟩
      · exact q ⟨cnK_u z3 hm (by omega), z1⟩
theorem asgP_n {B W : kB} {n c K : Nat} (hS : simB B n W) (hK : K = cnK n (mtB B)) : asgP B n c K W = asgC B n c := by
  funext b w
  simp only [asgP, asgC, asg]
  by_cases q : w = 4 ∧ b < n ∧ mtB B b = true
  · rw [if_pos q, if_pos ⟨q.1, q.2.1, q.2.2, by rw [hK]; exact cnK_sm q.2.1 q.2.2⟩]
  · rw [if_neg q, if_neg (fun z => q ⟨z.1, z.2.1, z.2.2.1⟩)]
    exact hS b w q
def clP (B : kB) (n i : Nat) (W : kB) : kB := fun b w => if w = 4 ∧ b < n ∧ mtB B b = true ∧ cnK b (mtB B) < i then -1 else W b w
theorem clP_0 {B W : kB} {n : Nat} : clP B n 0 W = W := by
  funext b w
  exact if_neg (by omega)
theorem clP_s {B W : kB} {n i b : Nat} (hb : b < n) (hm : mtB B b = true) (hc : cnK b (mtB B) = i) : bUp (clP B n i W) b 4 (-1) = clP B n (i + 1) W := by
  funext b' w
  simp only [bUp, clP]
  by_cases q : b' = b ∧ w = 4
  · obtain ⟨rfl, rfl⟩ := q
    rw [if_pos ⟨rfl, rfl⟩, if_pos ⟨rfl, hb, hm, by omega⟩]
  · rw [if_neg q]
    by_cases q2 : w = 4 ∧ b' < n ∧ mtB B b' = true ∧ cnK b' (mtB B) < i
    · rw [if_pos q2, if_pos ⟨q2.1, q2.2.1, q2.2.2.1, by have := q2.2.2.2; omega⟩]
    · rw [if_neg q2, if_neg]
      rintro ⟨z1, z2, z3, z4⟩
      by_cases z5 : cnK b' (mtB B) < i
      · exact q2 ⟨z1, z2, z3, z5⟩
      · exact q ⟨cnK_u z3 hm (by omega), z1⟩
theorem clP_n {B W : kB} {n K : Nat} (hS : simB B n W) (hK : K = cnK n (mtB B)) : clP B n K W = B := by
  funext b w
  simp only [clP]
  by_cases q : w = 4 ∧ b < n ∧ mtB B b = true
  · rw [if_pos ⟨q.1, q.2.1, q.2.2, by rw [hK]; exact cnK_sm q.2.1 q.2.2⟩]
    have z := q.2.2
    simp only [mtB, qEmp, Bool.and_eq_true, decide_eq_true_eq] at z
    rw [q.1]
    exact z.1.2.symm
  · rw [if_neg (fun z => q ⟨z.1, z.2.1, z.2.2.1⟩)]
    exact hS b w q
theorem sh1 : ∀ K, K ≤ 16 → (1 : Int32) <<< (nI K &&& 31) = nI (2 ^ K) := by decide +kernel
theorem bit_i {c i : Nat} (hi : i < 31) : (nI c >>> (nI i &&& 31)) &&& 1 = bI (c.testBit i) := by rw [tld_i, tld_N hi]
theorem qOpn_C {B : kB} {n c : Nat} {M : Int32} {b : Nat} : qOpn (asgC B n c) M b = qOpn B M b := by
  unfold qOpn asgC
  rw [asg_o (by decide)]

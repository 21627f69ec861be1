/-! PURE WORDS for fill and the hash -/
/-- the text's answers, sign by sign, k signs from the j-th on -/
def runG (n : Nat) (C : Nat → Int32) (t : Nat) : Nat → Nat → Int32 → Int32 → Int32 → Bool → kB → Int32 × kB
  | 0, _, gv, _, _, _, B => (gv, B)
  | k + 1, j, gv, bx, vl, ae, B =>
    if codC C t j = 44 ∨ codC C t j = -1 then
      (if (hasB n bx && fitA B bx.toNatClampNeg vl) = true then runG n C t k (j + 1) (gv + 1) 0 (-1) false (bUp B bx.toNatClampNeg 4 vl) else (gv, B))
    else if codC C t j = 61 then runG n C t k (j + 1) gv bx vl true B
    else if codC C t j = 45 then runG n C t k (j + 1) gv bx vl ae B
    else if ae = true then runG n C t k (j + 1) gv bx (if vl = -1 then codC C t j - 48 else vl * 10 + (codC C t j - 48)) ae B
    else runG n C t k (j + 1) gv (bx * 10 + (codC C t j - 48)) vl ae B
def filG (n : Nat) (C : Nat → Int32) (t : Nat) (B : kB) : Int32 × kB := runG n C t (t + 1) 0 0 0 (-1) false B
theorem Wt.up {n : Nat} {B : kB} {b : Nat} {v : Int32} (h : Wt n B) : Wt n (bUp B b 4 v) := by
  intro c hc h0
  have e0 : bUp B b 4 v c 0 = B c 0 := by simp [bUp]
  have e2 : bUp B b 4 v c 2 = B c 2 := by simp [bUp]
  rw [e0] at h0
  rw [e2]
  exact h c hc h0
def mixL (h v : Int64) : Int64 := 31 * h + v
def hfN (f : Nat → Int32) : Nat → Int64 → Int64
  | 0, h => h
  | k + 1, h => mixL (hfN f k h) (f k).toInt64
def hoN (f : Nat → Int64 → Int64) : Nat → Int64 → Int64
  | 0, h => h
  | k + 1, h => f k (hoN f k h)
def hCnt (B : kB) (n m : Nat) (mask : Int32) (h : Int64) : Int64 := hfN (fun w => tF B n m mask (nI w)) 9 h
def hPrt (B : kB) (n : Nat) (mask : Int32) (h : Int64) : Int64 := hoN (fun p h => hfN (fun w => tP B n mask (nI p) (nI w)) 6 h) 5 h
def hBox1 (B : kB) (n : Nat) (mask : Int32) (b : Nat) (h : Int64) : Int64 := if B b 0 = 3 then hfN (fun w => tB B mask b (nI w)) 8 h else hfN (fun w => tT B n b (-1) (nI w)) 3 (hfN (fun w => tB B mask b (nI w)) 8 h)
def hBox (B : kB) (n : Nat) (mask : Int32) (h : Int64) : Int64 := hoN (hBox1 B n mask) n h

/-! WHAT THE REFERENCE'S METHODS DO, as functions of its state of numbers. -/
abbrev inR (v lo hi : Int32) : Prop := ¬ v < lo ∧ ¬ hi < v
theorem nI_addx {x y : Int32} {a b : Nat} (hx : x = nI a) (hy : y = nI b) : x + y = nI (a + b) := by rw [hx, hy, nI_add]
theorem nI_mulx {x y : Int32} {a b : Nat} (hx : x = nI a) (hy : y = nI b) : x * y = nI (a * b) := by rw [hx, hy, pk_mul]
theorem nI_lt30 {n : Nat} {x : Int32} {b : Nat} (hx : x = nI b) (h : ¬ nI n = x) (hn : n ≤ b) (hb : b < 2 ^ 31) : n < b := by
  rcases Nat.lt_or_ge n b with q | q
  · exact q
  · have e : n = b := by omega
    subst e; exact absurd hx.symm h
theorem nI_neg1 {n : Nat} (hn : n ≤ 1000) : (nI n - 1).toInt = (n : Int) - 1 := by
  have h := pk_sub_toInt (a := n) (b := 1) (by omega) (by omega)
  exact h
theorem in_ok {o n : Nat} (h : o < n) (hn : n ≤ 1000) : inR (nI o) 0 (nI n - 1) := by
  refine ⟨nI_pos (by omega), fun q => ?_⟩
  have h1 := Int32.lt_iff_toInt_lt.mp q
  rw [nI_neg1 hn, nI_toInt (by omega)] at h1
  omega
theorem in_bad {p : Int32} {n : Nat} (h : ¬ vp_in p n) (hn : n ≤ 1000) : ¬ inR p 0 (nI n - 1) := by
  intro q
  apply h
  rw [vp_in_iff]
  have h1 : ¬ p.toInt < 0 := fun z => q.1 (Int32.lt_iff_toInt_lt.mpr z)
  have h2 : ¬ (nI n - 1).toInt < p.toInt := fun z => q.2 (Int32.lt_iff_toInt_lt.mpr z)
  rw [nI_neg1 hn] at h2
  omega
def leastI (a b : Int32) : Int32 := if b ≤ a then b else a
def sumM (M : MS) (o : Nat) : Nat → Int32
  | 0 => 0
  | j + 1 => sumM M o j + (if M 12 (8 * o + j) = 3 then 0 else M 10 (8 * o + j))
def priceM (M : MS) (o kc : Nat) : Int32 := if sumM M o kc < M 3 o then sumM M o kc else sumM M o kc - sumM M o kc * M 2 o / 100
def takenM (M : MS) (o : Nat) : Int32 := M 9 (3 * o) + M 9 (3 * o + 1) + M 9 (3 * o + 2)
def owesM (M : MS) (o kc : Nat) : Int32 := priceM M o kc + M 6 o + M 7 o
def feeM2 (M : MS) (at_ : Nat) (g : Int32) : Int32 := if g = 1 then (if M 11 at_ = 1 then M 10 at_ / 2 else M 10 at_ / 5) else M 10 at_
def feeM (M : MS) (at_ : Nat) (g : Int32) : Int32 := if g = 0 then 0 else if M 13 at_ = 1 then (if g = 3 then feeM2 M at_ g else 0) else feeM2 M at_ g
def mostM (M : MS) (at_ : Nat) (r : Int32) : Int32 := if r = 1 then 360 else if M 11 at_ = 0 then 30 else if M 11 at_ = 1 then 14 else -1
def mayM (M : MS) (o at_ : Nat) (r : Int32) : Int32 := if M 5 o ≤ 0 then 0 else if M 12 at_ = 0 then (if mostM M at_ r < M 0 0 - M 5 o + 1 then 0 else 1) else 0
abbrev th0 (M : MS) : MS := mu M 16 0 0
abbrev th2 (M : MS) (k : Int32) : MS := mu (mu M 16 0 0) 16 0 k
def mOrder (M : MS) (n : Nat) (p0 p1 : Int32) : Int32 × MS :=
  if inR p0 0 90 then (if inR p1 0 1000000 then (if nI n = 30 then (0, mu M 16 0 2) else (nI n, mu (mu (mu (mu M 16 0 0) 2 n p0) 3 n p1) 1 0 (nI (n + 1)))) else (0, mu M 16 0 1)) else (0, mu M 16 0 1)
def mAdd (M : MS) (o kc : Nat) (p1 p2 : Int32) : Int32 × MS :=
  if inR p1 1 100000 then (if inR p2 0 2 then (if 0 < M 5 o then (0, th2 M 3) else if nI kc = 8 then (0, th2 M 3) else (nI kc, mu (mu (mu (th0 M) 10 (8 * o + kc) p1) 11 (8 * o + kc) p2) 4 o (nI (kc + 1)))) else (0, th2 M 2)) else (0, th2 M 2)
def payA (M : MS) (o kc : Nat) (p1 : Int32) : Int32 := leastI p1 (priceM M o kc)
def payB (M : MS) (o kc : Nat) (p1 p2 : Int32) : Int32 := leastI p2 (priceM M o kc - payA M o kc p1)
def mPay (M : MS) (o kc : Nat) (p1 p2 : Int32) : Int32 × MS :=
  if inR p1 0 1000000 then (if inR p2 0 1000000 then (if 0 < M 5 o then (0, th2 M 3) else if nI kc = 0 then (0, th2 M 3) else
    (priceM (th0 M) o kc - payA (th0 M) o kc p1 - payB (th0 M) o kc p1 p2, mu (mu (mu (mu (th0 M) 9 (3 * o + 2) (payA (th0 M) o kc p1)) 9 (3 * o + 1) (payB (th0 M) o kc p1 p2)) 9 (3 * o) (priceM (th0 M) o kc - payA (th0 M) o kc p1 - payB (th0 M) o kc p1 p2)) 5 o (M 0 0 + 1))) else (0, th2 M 2)) else (0, th2 M 2)
def mMay (M : MS) (o j : Nat) (p2 : Int32) : Int32 × MS := if inR p2 0 1 then (if mayM (th2 M 0) o (8 * o + j) p2 = 0 then (0, th2 M 0) else (1, th2 M 0)) else (0, th2 M 2)
def mWaits (M : MS) (o j : Nat) (p2 z : Int32) : Int32 × MS := if inR p2 0 1 then (if mayM (th2 M 0) o (8 * o + j) p2 = 0 then (0, mu (th2 M 0) 16 0 3) else (M 0 0 + 21, mu (mu (mu (th2 M 0) 12 (8 * o + j) z) 13 (8 * o + j) p2) 14 (8 * o + j) (M 0 0 + 21))) else (0, th2 M 2)
def gI0 (M : MS) (o : Nat) (b : Int32) : Int32 := leastI b (M 9 (3 * o))
def gI1 (M : MS) (o : Nat) (b : Int32) : Int32 := leastI (b - gI0 M o b) (M 9 (3 * o + 1))
def gI2 (M : MS) (o : Nat) (b : Int32) : Int32 := leastI (b - gI0 M o b - gI1 M o b) (M 9 (3 * o + 2))
def gEnd (M : MS) (o : Nat) (b : Int32) : Int32 × MS := (b, mu (mu (mu (mu M 9 (3 * o) (M 9 (3 * o) - gI0 M o b)) 9 (3 * o + 1) (M 9 (3 * o + 1) - gI1 M o b)) 9 (3 * o + 2) (M 9 (3 * o + 2) - gI2 M o b)) 8 o (M 8 o + b))
def gTail (M : MS) (o kc : Nat) : Int32 × MS := gEnd M o (if takenM M o - owesM M o kc ≤ 0 then 0 else takenM M o - owesM M o kc)
def gFee (M : MS) (o at_ : Nat) (z g : Int32) : MS := mu (mu (th0 M) 12 at_ z) 6 o (M 6 o + (feeM (mu (th0 M) 12 at_ z) at_ g + (if M 13 at_ = 0 then 500 else 0)))
def gSt (M : MS) (i : Nat) : MS := mu M 15 i (M 15 i + 1)
def gMid (M : MS) (o kc at_ : Nat) (z : Int32) (g : Nat) : Int32 × MS :=
  if nI g = 3 then gTail (gFee M o at_ z (nI g)) o kc else if nI g = 1 then (if M 13 at_ = 1 then gTail (gSt (gFee M o at_ z (nI g)) 2) o kc else gTail (gSt (gFee M o at_ z (nI g)) g) o kc) else gTail (gSt (gFee M o at_ z (nI g)) g) o kc
def mGrade (M : MS) (o kc j g : Nat) : Int32 × MS := if M 12 (8 * o + j) = 1 then gMid M o kc (8 * o + j) 3 g else if M 12 (8 * o + j) = 2 then gMid M o kc (8 * o + j) 0 g else (0, th2 M 3)
def mShort (M : MS) (o kc : Nat) : Int32 := if M 5 o = 0 then 0 else if owesM (th0 M) o kc - takenM (th0 M) o ≤ 0 then 0 else owesM (th0 M) o kc - takenM (th0 M) o
def eExp (B : MS) (a : Nat) (ch : Int32) : MS := mu (mu (mu B 7 (a / 8) (B 7 (a / 8) + ch)) 9 (3 * (a / 8)) (B 9 (3 * (a / 8)) + ch)) 12 a 0
def eNext (p : Int32 × MS) (a : Nat) : Int32 × MS := if p.2 12 a = 1 then (if p.2 14 a = p.2 0 0 then (p.1 + 1, eExp p.2 a 0) else p) else if p.2 12 a = 2 then (if p.2 14 a = p.2 0 0 then (p.1 + 1, eExp p.2 a (p.2 10 a)) else p) else p
def eIt (M : MS) : Nat → Int32 × MS
  | 0 => (0, M)
  | i + 1 => eNext (eIt M i) i
def pIt (n : Nat) (M : MS) : Nat → Int32 × MS
  | 0 => (0, M)
  | k + 1 => ((pIt n M k).1 + (eIt (mu (pIt n M k).2 0 0 ((pIt n M k).2 0 0 + 1)) (8 * n)).1, (eIt (mu (pIt n M k).2 0 0 ((pIt n M k).2 0 0 + 1)) (8 * n)).2)
theorem eNext_10 (p : Int32 × MS) (a : Nat) : (eNext p a).2 1 0 = p.2 1 0 := by
  unfold eNext eExp
  split
  · split
    · rfl
    · rfl
  · split
    · split
      · rfl
      · rfl
    · rfl
theorem eIt_10 (M : MS) : ∀ i, (eIt M i).2 1 0 = M 1 0
  | 0 => rfl
  | i + 1 => (eNext_10 _ _).trans (eIt_10 M i)
theorem eNext_160 (p : Int32 × MS) (a : Nat) : (eNext p a).2 16 0 = p.2 16 0 := by
  unfold eNext eExp
  split
  · split
    · rfl
    · rfl
  · split
    · split
      · rfl
      · rfl
    · rfl
theorem eIt_160 (M : MS) : ∀ i, (eIt M i).2 16 0 = M 16 0
  | 0 => rfl
  | i + 1 => (eNext_160 _ _).trans (eIt_160 M i)
theorem pIt_10 (n : Nat) (M : MS) : ∀ k, (pIt n M k).2 1 0 = M 1 0
  | 0 => rfl
  | k + 1 => (eIt_10 _ _).trans ((mu_f _ _ _ _ (by decide)).trans (pIt_10 n M k))
theorem pIt_160 (n : Nat) (M : MS) : ∀ k, (pIt n M k).2 16 0 = M 16 0
  | 0 => rfl
  | k + 1 => (eIt_160 _ _).trans ((mu_f _ _ _ _ (by decide)).trans (pIt_160 n M k))

/-! THE DESK: what its methods do. -/
theorem in_ofN {p : Int32} {N : Nat} {x : Int32} (h0 : ¬ p < 0) (h1 : ¬ x ≤ p) (hN : N < 2 ^ 31) (hx : x = nI N := by rfl) : ∃ k : Nat, k < N ∧ p = nI k := by
  subst hx
  rcases pk_ix p hN with h | h | h
  · exact absurd h h0
  · exact absurd h h1
  · exact h
theorem vp_hi {p : Int32} {n N : Nat} {x : Int32} (h : x ≤ p) (hn : n ≤ N) (hN : N < 2 ^ 31) (hx : x = nI N := by rfl) : ¬ vp_in p n := by
  subst hx
  intro z
  have h1 := (vp_in_iff.mp z).2
  have h2 := Int32.le_iff_toInt_le.mp h
  rw [nI_toInt hN] at h2
  omega
theorem vp_out {k n : Nat} (h : n ≤ k) (hk : k < 30) : ¬ vp_in (nI k) n := by
  intro z
  have h1 := (vp_in_iff.mp z).2
  rw [nI_toInt (by omega)] at h1
  omega
def xC (g : XG) (X : MS) (n : Nat) (kc : Nat → Nat) : Prop := n ≤ 30 ∧ X 0 0 = nI n ∧ (∀ k, k < 30 → (g 0 k = none ↔ n ≤ k)) ∧ ∀ k, k < n → kc k ≤ 8 ∧ X 7 k = nI (kc k) ∧ (∃ la, g 1 k = some la) ∧ ∀ j, j < 8 → (g 2 (8 * k + j) = none ↔ kc k ≤ j)
def noO (n : Nat) (p0 : Int32) (E : String) : Prop := E = IOE ∧ ¬ vp_in p0 n
def noL (n : Nat) (kc : Nat → Nat) (p0 p1 : Int32) (E : String) : Prop := E = IOE ∧ ∃ k, k < n ∧ p0 = nI k ∧ ¬ vp_in p1 (kc k)
def isL (n : Nat) (kc : Nat → Nat) (p0 p1 : Int32) (k j : Nat) : Prop := k < n ∧ p0 = nI k ∧ j < kc k ∧ p1 = nI j
def putX (X : MS) (r g : Int32) : MS := if g = 0 then mu X 2 0 (X 2 0 + 1) else if g = 1 then (if r = 0 then mu X 3 0 (X 3 0 + 1) else if g = 3 then X else mu X 4 0 (X 4 0 + 1)) else if g = 3 then X else mu X 4 0 (X 4 0 + 1)
def shX (X : MS) (k kk : Nat) : Int32 := if X 8 k = 0 then 0 else maxI (owedX X k kk - takenX X k) 0
def stX (X : MS) (p : Int32) : Int32 := if p = 0 then X 2 0 else if p = 1 then X 3 0 else X 4 0
def tkX (X : MS) (k : Nat) (p : Int32) : Int32 := if p = 0 then X 13 k else if p = 1 then X 14 k else X 15 k
def retX (X : MS) (k j : Nat) (w : Int32) : Int32 := if X 8 k = 0 then 0 else if X 18 j = 0 then (if spanX X j w < X 1 0 - X 9 k then 0 else 1) else 0
theorem retX_01 (X : MS) (k j : Nat) (w : Int32) : retX X k j w = 0 ∨ retX X k j w = 1 := by
  unfold retX
  split
  · exact Or.inl rfl
  · split
    · split
      · exact Or.inl rfl
      · exact Or.inr rfl
    · exact Or.inl rfl
def swX (X : MS) (j : Nat) (p2 z : Int32) : MS := mu (mu (mu X 18 j z) 19 j p2) 20 j (X 1 0 + 21)
def gradeX (X : MS) (k kk j : Nat) (p2 : Int32) : Int32 × MS := refundX (mu (putX (mu X 10 k (X 10 k + feeX X j p2)) (X 19 j) p2) 18 j (if (putX (mu X 10 k (X 10 k + feeX X j p2)) (X 19 j) p2) 18 j = 1 then 3 else 0)) k kk
def qNext (p : Int32 × MS) (kc : Nat → Nat) (day : Int32) (k : Nat) : Int32 × MS := (p.1 + (wIt p.2 k day (kc k)).1, (wIt p.2 k day (kc k)).2)
def qIt (Y : MS) (kc : Nat → Nat) (day : Int32) : Nat → Int32 × MS
  | 0 => (0, Y)
  | k + 1 => qNext (qIt Y kc day k) kc day k
theorem wNext_1 (p : Int32 × MS) (k j : Nat) (day : Int32) : (wNext p k j day).2 1 0 = p.2 1 0 := by
  unfold wNext chX
  split
  · rfl
  · split
    · rfl
    · split <;> rfl
theorem wIt_1 (X : MS) (k : Nat) (day : Int32) : ∀ j, (wIt X k day j).2 1 0 = X 1 0
  | 0 => rfl
  | j + 1 => (wNext_1 _ _ _ _).trans (wIt_1 X k day j)
theorem qIt_1 (Y : MS) (kc : Nat → Nat) (day : Int32) : ∀ k, (qIt Y kc day k).2 1 0 = Y 1 0
  | 0 => rfl
  | k + 1 => (wIt_1 _ _ _ _).trans (qIt_1 Y kc day k)

/-! WHAT THE CLASS'S METHODS DO, as functions of its state of numbers. -/
abbrev maxI (x y : Int32) : Int32 := if x < y then y else x
abbrev minI (x y : Int32) : Int32 := if y < x then y else x
def wtX (X : MS) (j : Nat) : Int32 := if X 18 j = 1 then 1 else if X 18 j = 2 then 1 else 0
def spanX (X : MS) (j : Nat) (w : Int32) : Int32 := if w = 1 then 360 else if X 17 j = 2 then -1 else if X 17 j = 1 then 14 else 30
def gfX2 (X : MS) (j : Nat) (w : Int32) : Int32 := if w = 1 then (if X 17 j = 1 then X 16 j / 2 else X 16 j / 5) else X 16 j
def gfX (X : MS) (j : Nat) (w : Int32) : Int32 := if w = 0 then 0 else if X 19 j = 1 then (if w = 3 then gfX2 X j w else 0) else gfX2 X j w
def feeX (X : MS) (j : Nat) (w : Int32) : Int32 := if X 19 j = 0 then 500 + gfX X j w else 0 + gfX X j w
def takenX (X : MS) (k : Nat) : Int32 := X 13 k + X 14 k + X 15 k
def roomX (X : MS) (k : Nat) : Int32 := if 8 ≤ X 7 k then 0 else 1
def sumX (X : MS) (k : Nat) : Nat → Int32
  | 0 => 0
  | j + 1 => if X 18 (8 * k + j) = 3 then sumX X k j else sumX X k j + X 16 (8 * k + j)
def priceX (X : MS) (k kk : Nat) : Int32 := if sumX X k kk < X 6 k then sumX X k kk else sumX X k kk - sumX X k kk * X 5 k / 100
def owedX (X : MS) (k kk : Nat) : Int32 := priceX X k kk + X 10 k + X 11 k
def chX (X : MS) (k : Nat) (v : Int32) : MS := mu (mu X 11 k (X 11 k + v)) 13 k (X 13 k + v)
def stA (X : MS) (k kk : Nat) (p1 : Int32) : Int32 := minI p1 (priceX X k kk)
def stB (X : MS) (k kk : Nat) (p1 p2 : Int32) : Int32 := minI p2 (priceX X k kk - stA X k kk p1)
def settleX (X : MS) (k kk : Nat) (p1 p2 p3 : Int32) : MS := mu (mu (mu (mu (mu X 15 k (stA X k kk p1)) 14 k (stB X k kk p1 p2)) 13 k (priceX X k kk - stA X k kk p1 - stB X k kk p1 p2)) 8 k 1) 9 k p3
def surX (X : MS) (k kk : Nat) : Int32 := maxI (takenX X k - owedX X k kk) 0
def rfA (X : MS) (k kk : Nat) : Int32 := minI (surX X k kk) (X 13 k)
def rfB (X : MS) (k kk : Nat) : Int32 := minI (surX X k kk - rfA X k kk) (X 14 k)
def refundX (X : MS) (k kk : Nat) : Int32 × MS := (surX X k kk, mu (mu (mu (mu X 13 k (X 13 k - rfA X k kk)) 14 k (X 14 k - rfB X k kk)) 15 k (X 15 k - (surX X k kk - rfA X k kk - rfB X k kk))) 12 k (X 12 k + surX X k kk))
def wNext (p : Int32 × MS) (k j : Nat) (day : Int32) : Int32 × MS := if wtX p.2 (8 * k + j) = 0 then p else if day < p.2 20 (8 * k + j) then p else if p.2 18 (8 * k + j) = 2 then (p.1 + 1, mu (chX p.2 k (p.2 16 (8 * k + j))) 18 (8 * k + j) 0) else (p.1 + 1, mu p.2 18 (8 * k + j) 0)
def wIt (X : MS) (k : Nat) (day : Int32) : Nat → Int32 × MS
  | 0 => (0, X)
  | j + 1 => wNext (wIt X k day j) k j day

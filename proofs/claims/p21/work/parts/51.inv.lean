/-! WHAT HOLDS OF AN ORDER, with bounds. -/
theorem maxsub {x y : Nat} (hx : x < 2 ^ 30) (hy : y < 2 ^ 30) : maxI (nI x - nI y) 0 = nI (x - y) := by
  unfold maxI
  by_cases h : x < y
  · rw [if_pos (pk_sneg hy h), show x - y = 0 by omega]; exact nI_0.symm
  · rw [pk_sub (by omega), if_neg (nI_pos (by omega))]
theorem min_nI {x y : Nat} (hx : x < 2 ^ 31) (hy : y < 2 ^ 31) : minI (nI x) (nI y) = nI (min x y) := by
  unfold minI
  by_cases h : y < x
  · rw [if_pos ((nI_ltI hy hx).mpr h), Nat.min_eq_right (by omega)]
  · rw [if_neg (fun z => h ((nI_ltI hy hx).mp z)), Nat.min_eq_left (by omega)]
def lO (X : MS) (a : Nat) : Prop := ∃ v, 1 ≤ v ∧ v ≤ 100000 ∧ X 16 a = nI v
def oB (c f : Nat) (X : MS) (k : Nat) : Prop := Bd (X 10 k) f ∧ Bd (X 11 k) c ∧ ∃ a b p r : Nat, X 13 k = nI a ∧ X 14 k = nI b ∧ X 15 k = nI p ∧ X 12 k = nI r ∧ a + b + p + r ≤ 800000 + c
def oU (X : MS) (k kk : Nat) : Prop := (X 8 k = 1 ∧ 0 < kk) ∨ (X 8 k = 0 ∧ X 10 k = 0 ∧ X 12 k = 0 ∧ X 13 k = 0 ∧ X 14 k = 0 ∧ X 15 k = 0 ∧ ∀ j, j < kk → X 18 (8 * k + j) = 0)
def OK (c f : Nat) (X : MS) (k kk : Nat) : Prop := Bd (X 5 k) 90 ∧ oB c f X k ∧ oU X k kk ∧ ∀ j, j < kk → lO X (8 * k + j)
theorem OK.congr {c f c' f' : Nat} {X X' : MS} {k kk : Nat} (h : OK c f X k kk) (hc : c ≤ c') (hf : f ≤ f') (h5 : ∀ f, 5 ≤ f → f ≤ 15 → f ≠ 7 → f ≠ 9 → X' f k = X f k) (h16 : ∀ j, j < kk → X' 16 (8 * k + j) = X 16 (8 * k + j) ∧ X' 18 (8 * k + j) = X 18 (8 * k + j)) : OK c' f' X' k kk := by
  obtain ⟨a1, ⟨b1, b2, a, b, p, r, e1, e2, e3, e4, hb⟩, a3, a4⟩ := h
  have g : ∀ f, 5 ≤ f → f ≤ 15 → f ≠ 7 → f ≠ 9 → X' f k = X f k := h5
  refine ⟨by rw [g 5 (by decide) (by decide) (by decide) (by decide)]; exact a1, ⟨by rw [g 10 (by decide) (by decide) (by decide) (by decide)]; exact b1.mono hf, by rw [g 11 (by decide) (by decide) (by decide) (by decide)]; exact b2.mono hc, a, b, p, r, by rw [g 13 (by decide) (by decide) (by decide) (by decide)]; exact e1, by rw [g 14 (by decide) (by decide) (by decide) (by decide)]; exact e2, by rw [g 15 (by decide) (by decide) (by decide) (by decide)]; exact e3, by rw [g 12 (by decide) (by decide) (by decide) (by decide)]; exact e4, by omega⟩, ?_, ?_⟩
  · rcases a3 with ⟨h1, h2⟩ | ⟨h1, h2, h3, h4, h5, h6, h7⟩
    · exact Or.inl ⟨by rw [g 8 (by decide) (by decide) (by decide) (by decide)]; exact h1, h2⟩
    · exact Or.inr ⟨by rw [g 8 (by decide) (by decide) (by decide) (by decide)]; exact h1, by rw [g 10 (by decide) (by decide) (by decide) (by decide)]; exact h2, by rw [g 12 (by decide) (by decide) (by decide) (by decide)]; exact h3, by rw [g 13 (by decide) (by decide) (by decide) (by decide)]; exact h4, by rw [g 14 (by decide) (by decide) (by decide) (by decide)]; exact h5, by rw [g 15 (by decide) (by decide) (by decide) (by decide)]; exact h6, fun j hj => (h16 j hj).2.trans (h7 j hj)⟩
  · intro j hj
    obtain ⟨v, h1, h2, h3⟩ := a4 j hj
    exact ⟨v, h1, h2, (h16 j hj).1.trans h3⟩
theorem OK.mono {c f c' f' : Nat} {X : MS} {k kk : Nat} (h : OK c f X k kk) (hc : c ≤ c') (hf : f ≤ f') : OK c' f' X k kk := h.congr hc hf (fun _ _ _ _ _ => rfl) (fun _ _ => ⟨rfl, rfl⟩)
theorem sum_of {X : MS} {k : Nat} : ∀ kk, (∀ j, j < kk → lO X (8 * k + j)) → ∃ s, s ≤ 100000 * kk ∧ sumX X k kk = nI s ∧ ∀ i, i < kk → ¬ X 18 (8 * k + i) = 3 → 1 ≤ s := by
  intro kk
  induction kk with
  | zero => intro _; exact ⟨0, by omega, nI_0.symm, fun i hi => absurd hi (Nat.not_lt_zero i)⟩
  | succ j ih =>
    intro h
    obtain ⟨s, h1, h2, h3⟩ := ih (fun i hi => h i (by omega))
    obtain ⟨v, v1, v2, v3⟩ := h j (by omega)
    show ∃ s', s' ≤ 100000 * (j + 1) ∧ (if X 18 (8 * k + j) = 3 then sumX X k j else sumX X k j + X 16 (8 * k + j)) = nI s' ∧ _
    by_cases h9 : X 18 (8 * k + j) = 3
    · refine ⟨s, by omega, by rw [if_pos h9]; exact h2, fun i hi hn => ?_⟩
      by_cases e : i = j
      · subst e; exact absurd h9 hn
      · exact h3 i (by omega) hn
    · exact ⟨s + v, by omega, by rw [if_neg h9, h2, v3]; exact nI_add s v, fun i hi hn => by omega⟩
theorem price_of {X : MS} {k kk : Nat} (hl : ∀ j, j < kk → lO X (8 * k + j)) (h8 : kk ≤ 8) (hp : Bd (X 5 k) 90) : ∃ P, P ≤ 800000 ∧ priceX X k kk = nI P ∧ ∀ i, i < kk → ¬ X 18 (8 * k + i) = 3 → 1 ≤ P := by
  obtain ⟨s, hs, e, h3⟩ := sum_of kk hl
  obtain ⟨p, hp, e2⟩ := hp
  unfold priceX
  rw [e, e2]
  by_cases hlt : nI s < X 6 k
  · exact ⟨s, by omega, by rw [if_pos hlt], h3⟩
  · have h1 : s * p ≤ 800000 * 90 := Nat.mul_le_mul (by omega) hp
    have h2 : s * p ≤ s * 90 := Nat.mul_le_mul (Nat.le_refl _) hp
    have h4 : s * p / 100 ≤ s := by omega
    refine ⟨s - s * p / 100, by omega, ?_, fun i hi hn => ?_⟩
    · rw [if_neg hlt, pk_mul, show (100 : Int32) = nI 100 by rfl, pk_div (by omega) (by decide) (by decide), pk_sub h4]
    · have := h3 i hi hn
      omega
theorem price_0 (X : MS) (k : Nat) : priceX X k 0 = 0 := by
  show (if (0 : Int32) < X 6 k then (0 : Int32) else 0 - 0 * X 5 k / 100) = 0
  split
  · rfl
  · rw [Int32.zero_mul]; decide
theorem OK.sok {c f : Nat} {X : MS} {k kk : Nat} (h : OK c f X k kk) (h8 : kk ≤ 8) (hc : c ≤ 100000000) (hf : f ≤ 100000000) {pv : Int32} (hpv : (pv = 1 ∧ X 8 k = 1) ∨ (pv = 0 ∧ X 8 k = 0)) : SOK X k kk pv := by
  obtain ⟨a1, ⟨⟨fe, hfe, e10⟩, ⟨ch, hch, e11⟩, a, b, p, r, e1, e2, e3, e4, hb⟩, a3, a4⟩ := h
  obtain ⟨P, hP, eP, -⟩ := price_of a4 h8 a1
  have eO : owedX X k kk = nI (P + fe + ch) := by unfold owedX; rw [eP, e10, e11, nI_add, nI_add]
  have eT : takenX X k = nI (a + b + p) := by unfold takenX; rw [e1, e2, e3, nI_add, nI_add]
  refine ⟨⟨by rw [e1]; exact nI_pos (by omega), by rw [e2]; exact nI_pos (by omega), by rw [e3]; exact nI_pos (by omega), by rw [e4]; exact nI_pos (by omega), by rw [e10]; exact nI_pos (by omega), by rw [e11]; exact nI_pos (by omega)⟩, ?_⟩
  rcases hpv with ⟨rfl, h1⟩ | ⟨rfl, h1⟩
  · have eS : shX X k kk = nI (P + fe + ch - (a + b + p)) := by
      unfold shX
      rw [if_neg (by rw [h1]; decide), eO, eT, maxsub (by omega) (by omega)]
    by_cases hle : P + fe + ch ≤ a + b + p
    · exact Or.inr (Or.inl ⟨rfl, by rw [eO, eT]; exact nI_le hle (by omega), by rw [eS, show P + fe + ch - (a + b + p) = 0 by omega]; rfl⟩)
    · exact Or.inr (Or.inr ⟨rfl, by rw [eO, eT]; exact nI_ge (by omega) (by omega), by rw [eS, eO, eT, pk_sub (by omega)]⟩)
  · rcases a3 with ⟨h2, -⟩ | ⟨-, h2, h3, h4, h5, h6, -⟩
    · rw [h1] at h2; exact absurd h2 (by decide)
    · exact Or.inl ⟨rfl, by unfold shX; rw [if_pos h1], by unfold takenX; rw [h4, h5, h6]; rfl, h3, h2⟩
/-- a refund keeps the account in bounds -/
theorem OK.refund {c f : Nat} {Z : MS} {k kk : Nat} (h : OK c f Z k kk) (h8 : kk ≤ 8) (hc : c ≤ 100000000) (hf : f ≤ 100000000) (hpd : Z 8 k = 1) : OK c f (refundX Z k kk).2 k kk := by
  obtain ⟨a1, ⟨⟨fe, hfe, e10⟩, ⟨ch, hch, e11⟩, a, b, p, r, e1, e2, e3, e4, hb⟩, a3, a4⟩ := h
  obtain ⟨P, hP, eP, -⟩ := price_of a4 h8 a1
  have eO : owedX Z k kk = nI (P + fe + ch) := by unfold owedX; rw [eP, e10, e11, nI_add, nI_add]
  have eT : takenX Z k = nI (a + b + p) := by unfold takenX; rw [e1, e2, e3, nI_add, nI_add]
  have eS : surX Z k kk = nI (a + b + p - (P + fe + ch)) := by unfold surX; rw [eO, eT, maxsub (by omega) (by omega)]
  generalize hs : a + b + p - (P + fe + ch) = s at eS
  have hs2 : s ≤ a + b + p := by omega
  have wA : rfA Z k kk = nI (min s a) := by unfold rfA; rw [eS, e1, min_nI (by omega) (by omega)]
  have wB : rfB Z k kk = nI (min (s - min s a) b) := by unfold rfB; rw [eS, wA, e2, pk_sub (by omega), min_nI (by omega) (by omega)]
  have o : ∀ {f : Nat} (i : Nat), f ≠ 12 ∧ f ≠ 13 ∧ f ≠ 14 ∧ f ≠ 15 → (refundX Z k kk).2 f i = Z f i := fun i h => refundX_o Z k kk i h
  refine ⟨by rw [o k (by decide)]; exact a1, ⟨by rw [o k (by decide)]; exact ⟨fe, hfe, e10⟩, by rw [o k (by decide)]; exact ⟨ch, hch, e11⟩, a - min s a, b - min (s - min s a) b, p - (s - min s a - min (s - min s a) b), r + s, ?_, ?_, ?_, ?_, by omega⟩, ?_, fun j hj => ?_⟩
  · unfold refundX; simp only [mu_e]; simp; rw [wA, e1, pk_sub (by omega)]
  · unfold refundX; simp only [mu_e]; simp; rw [wB, e2, pk_sub (by omega)]
  · unfold refundX; simp only [mu_e]; simp; rw [eS, wA, wB, e3, pk_sub (by omega), pk_sub (by omega), pk_sub (by omega)]
  · unfold refundX; simp only [mu_e]; simp; rw [eS, e4]; exact nI_add r s
  · rcases a3 with ⟨h1, h2⟩ | ⟨h1, -⟩
    · exact Or.inl ⟨by rw [o k (by decide)]; exact h1, h2⟩
    · rw [hpd] at h1; exact absurd h1 (by decide)
  · obtain ⟨v, h1, h2, h3⟩ := a4 j hj
    exact ⟨v, h1, h2, by rw [o _ (by decide)]; exact h3⟩
theorem fee_bd {X : MS} {a : Nat} (h : lO X a) (w : Int32) : Bd (feeX X a w) 100500 := by
  obtain ⟨v, hv1, hv, e⟩ := h
  have h2 : Bd (gfX2 X a w) 100000 := by
    unfold gfX2
    rw [e]
    split
    · split
      · exact ⟨v / 2, by omega, pk_div (a := v) (d := 2) (by omega) (by decide) (by decide)⟩
      · exact ⟨v / 5, by omega, pk_div (a := v) (d := 5) (by omega) (by decide) (by decide)⟩
    · exact ⟨v, hv, rfl⟩
  have h3 : Bd (gfX X a w) 100000 := by
    unfold gfX
    split
    · exact Bd.zero _
    · split
      · split
        · exact h2
        · exact Bd.zero _
      · exact h2
  have h5 : Bd (500 : Int32) 500 := ⟨500, by omega, rfl⟩
  unfold feeX
  split
  · exact (h5.add h3).mono (by omega)
  · exact ((Bd.zero 0).add h3).mono (by omega)
theorem OK.mid {c f : Nat} {X : MS} {k kk j : Nat} (h : OK c f X k kk) (hj : j < kk) (hpd : X 8 k = 1) (w : Int32) : OK c (f + 100500) (gMidX X k (8 * k + j) w) k kk := by
  obtain ⟨a1, ⟨b1, b2, a, b, p, r, e1, e2, e3, e4, hb⟩, a3, a4⟩ := h
  have g : ∀ {f : Nat} (i : Nat), 5 ≤ f → f ≠ 10 → f ≠ 18 → gMidX X k (8 * k + j) w f i = X f i := fun i h h2 h3 => gMidX_hi _ _ _ _ i h h2 h3
  have e10 : gMidX X k (8 * k + j) w 10 k = X 10 k + feeX X (8 * k + j) w := by
    unfold gMidX
    rw [mu_f _ _ _ _ (by decide), putX_hi _ _ _ _ (by decide), mu_s]
  refine ⟨by rw [g k (by decide) (by decide) (by decide)]; exact a1, ⟨by rw [e10]; exact b1.add (fee_bd (a4 j hj) w), by rw [g k (by decide) (by decide) (by decide)]; exact b2, a, b, p, r, by rw [g k (by decide) (by decide) (by decide)]; exact e1, by rw [g k (by decide) (by decide) (by decide)]; exact e2, by rw [g k (by decide) (by decide) (by decide)]; exact e3, by rw [g k (by decide) (by decide) (by decide)]; exact e4, hb⟩, ?_, fun i hi => ?_⟩
  · exact Or.inl ⟨by rw [g k (by decide) (by decide) (by decide)]; exact hpd, by omega⟩
  · obtain ⟨v, h1, h2, h3⟩ := a4 i hi
    exact ⟨v, h1, h2, by rw [g _ (by decide) (by decide) (by decide)]; exact h3⟩
theorem OK.grade {c f : Nat} {X : MS} {k kk j : Nat} (h : OK c f X k kk) (h8 : kk ≤ 8) (hj : j < kk) (hpd : X 8 k = 1) (hc : c ≤ 100000000) (hf : f + 100500 ≤ 100000000) (w : Int32) : OK c (f + 100500) (gradeX X k kk (8 * k + j) w).2 k kk := by
  rw [gradeX_mid]
  exact (h.mid hj hpd w).refund h8 hc hf (by rw [gMidX_hi _ _ _ _ _ (by decide) (by decide) (by decide)]; exact hpd)
theorem OK.wait {c f : Nat} {X : MS} {k kk a : Nat} (h : OK c f X k kk) (hpd : X 8 k = 1) (q z : Int32) : OK c f (swX X a q z) k kk := by
  obtain ⟨a1, a2, a3, a4⟩ := h
  have h0 : 0 < kk := by
    rcases a3 with ⟨-, h⟩ | ⟨h, -⟩
    · exact h
    · rw [hpd] at h; exact absurd h (by decide)
  exact ⟨a1, a2, Or.inl ⟨hpd, h0⟩, a4⟩

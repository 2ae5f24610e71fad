/-! WHAT HOLDS OF ALL ORDERS; order, add, pay. -/
theorem OK.new {c f : Nat} {X : MS} {n : Nat} {p0 p1 v : Int32} (h0 : inR p0 0 90) : OK c f (mu (xNewO X n p0 p1) 0 0 v) n 0 := by
  obtain ⟨q, hq, rfl⟩ := inR_of h0 (N := 90) (by decide) rfl
  have z : ∀ f, 7 ≤ f → f ≤ 15 → (mu (xNewO X n (nI q) p1) 0 0 v) f n = 0 := by
    intro f h7 h15
    rcases (show f = 7 ∨ f = 8 ∨ f = 9 ∨ f = 10 ∨ f = 11 ∨ f = 12 ∨ f = 13 ∨ f = 14 ∨ f = 15 by omega) with rfl | rfl | rfl | rfl | rfl | rfl | rfl | rfl | rfl <;> simp [xNewO, mu_e]
  refine ⟨⟨q, hq, by simp [xNewO, mu_e]⟩, ⟨by rw [z 10 (by decide) (by decide)]; exact Bd.zero _, by rw [z 11 (by decide) (by decide)]; exact Bd.zero _, 0, 0, 0, 0, (z 13 (by decide) (by decide)).trans nI_0.symm, (z 14 (by decide) (by decide)).trans nI_0.symm, (z 15 (by decide) (by decide)).trans nI_0.symm, (z 12 (by decide) (by decide)).trans nI_0.symm, by omega⟩, Or.inr ⟨z 8 (by decide) (by decide), z 10 (by decide) (by decide), z 12 (by decide) (by decide), z 13 (by decide) (by decide), z 14 (by decide) (by decide), z 15 (by decide) (by decide), fun j hj => absurd hj (Nat.not_lt_zero j)⟩, fun j hj => absurd hj (Nat.not_lt_zero j)⟩
theorem xNewO_fr {X : MS} {n : Nat} {p0 p1 v : Int32} {f i : Nat} (h : f ≠ 0) (h2 : i ≠ n ∨ 16 ≤ f ∨ f < 5) : (mu (xNewO X n p0 p1) 0 0 v) f i = X f i := by
  rw [mu_f _ _ _ _ h]
  unfold xNewO
  simp only [mu_e]
  rcases h2 with h2 | h2 | h2
  · simp [h2]
  · simp [show f ≠ 5 by omega, show f ≠ 6 by omega, show f ≠ 7 by omega, show f ≠ 8 by omega, show f ≠ 9 by omega, show f ≠ 10 by omega, show f ≠ 11 by omega, show f ≠ 12 by omega, show f ≠ 13 by omega, show f ≠ 14 by omega, show f ≠ 15 by omega]
  · simp [show f ≠ 5 by omega, show f ≠ 6 by omega, show f ≠ 7 by omega, show f ≠ 8 by omega, show f ≠ 9 by omega, show f ≠ 10 by omega, show f ≠ 11 by omega, show f ≠ 12 by omega, show f ≠ 13 by omega, show f ≠ 14 by omega, show f ≠ 15 by omega]
/-- the state behind a new line -/
def addX (X : MS) (k kk : Nat) (p1 p2 : Int32) : MS := mu (xMov (xNewL X 300 p1 p2) (8 * k + kk)) 7 k (nI (kk + 1))
theorem addX_fr {X : MS} {k kk : Nat} {p1 p2 : Int32} {f i : Nat} (h : f < 16 ∨ (i ≠ 8 * k + kk ∧ i ≠ 300)) (h7 : f ≠ 7 ∨ i ≠ k) : addX X k kk p1 p2 f i = X f i := by
  unfold addX xMov xNewL
  simp only [mu_e]
  have e7 : ¬ (f = 7 ∧ i = k) := fun z => h7.elim (fun h => h z.1) (fun h => h z.2)
  rcases h with h | ⟨h1, h2⟩
  · by_cases hf : f = 7
    · have hi : i ≠ k := fun z => e7 ⟨hf, z⟩
      subst hf
      simp [hi]
    · simp [hf, show f ≠ 16 by omega, show f ≠ 17 by omega, show f ≠ 18 by omega, show f ≠ 19 by omega, show f ≠ 20 by omega]
  · by_cases hf : f = 7
    · have hi : i ≠ k := fun z => e7 ⟨hf, z⟩
      subst hf
      simp [hi]
    · simp [hf, h1, h2]
theorem addX_new {X : MS} {k kk : Nat} {p1 p2 : Int32} : addX X k kk p1 p2 16 (8 * k + kk) = p1 ∧ addX X k kk p1 p2 18 (8 * k + kk) = 0 := by
  unfold addX xMov xNewL
  constructor <;> simp [mu_e]
theorem OK.add {c f : Nat} {X : MS} {k kk : Nat} (h : OK c f X k kk) (hop : X 8 k = 0) (hk : k < 30) (h8 : kk < 8) {p1 p2 : Int32} (h1 : inR p1 1 100000) : OK c f (addX X k kk p1 p2) k (kk + 1) ∧ addX X k kk p1 p2 18 (8 * k + kk) = 0 := by
  refine ⟨?_, addX_new.2⟩
  have hfr : ∀ f, f < 16 → f ≠ 7 → addX X k kk p1 p2 f k = X f k := fun f h h7 => addX_fr (Or.inl h) (Or.inl h7)
  have hln : ∀ f j, f ≠ 7 → j < kk → addX X k kk p1 p2 f (8 * k + j) = X f (8 * k + j) := fun f j h7 hj => addX_fr (Or.inr ⟨by omega, by omega⟩) (Or.inl h7)
  obtain ⟨a1, ⟨b1, b2, a, b, p, r, e1, e2, e3, e4, hb⟩, a3, a4⟩ := h
  refine ⟨by rw [hfr 5 (by decide) (by decide)]; exact a1, ⟨by rw [hfr 10 (by decide) (by decide)]; exact b1, by rw [hfr 11 (by decide) (by decide)]; exact b2, a, b, p, r, by rw [hfr 13 (by decide) (by decide)]; exact e1, by rw [hfr 14 (by decide) (by decide)]; exact e2, by rw [hfr 15 (by decide) (by decide)]; exact e3, by rw [hfr 12 (by decide) (by decide)]; exact e4, hb⟩, ?_, fun j hj => ?_⟩
  · rcases a3 with ⟨h2, -⟩ | ⟨h2, h3, h4, h5, h6, h7, h9⟩
    · rw [hop] at h2; exact absurd h2 (by decide)
    · refine Or.inr ⟨by rw [hfr 8 (by decide) (by decide)]; exact h2, by rw [hfr 10 (by decide) (by decide)]; exact h3, by rw [hfr 12 (by decide) (by decide)]; exact h4, by rw [hfr 13 (by decide) (by decide)]; exact h5, by rw [hfr 14 (by decide) (by decide)]; exact h6, by rw [hfr 15 (by decide) (by decide)]; exact h7, fun j hj => ?_⟩
      by_cases e : j = kk
      · subst e; exact addX_new.2
      · rw [hln 18 j (by decide) (by omega)]; exact h9 j (by omega)
  · by_cases e : j = kk
    · subst e
      obtain ⟨v, hv, rfl⟩ := inR1_of h1 (N := 100000) (by decide) rfl
      refine ⟨v, ?_, hv, addX_new.1⟩
      rcases Nat.lt_or_ge v 1 with z | z
      · exact absurd (show nI v < 1 by rw [show v = 0 by omega]; decide) h1.1
      · exact z
    · obtain ⟨v, h1, h2, h3⟩ := a4 j (by omega)
      exact ⟨v, h1, h2, by rw [hln 16 j (by decide) (by omega)]; exact h3⟩
theorem OK.pay {c f : Nat} {X : MS} {k kk : Nat} (h : OK c f X k kk) (hop : X 8 k = 0) (h8 : kk ≤ 8) (h0 : 0 < kk) {p1 p2 p3 : Int32} (h1 : inR p1 0 1000000) (h2 : inR p2 0 1000000) : OK c f (settleX X k kk p1 p2 p3) k kk ∧ takenX (settleX X k kk p1 p2 p3) k = priceX X k kk := by
  obtain ⟨a1, ⟨b1, b2, -⟩, a3, a4⟩ := h
  obtain ⟨P, hP, eP, -⟩ := price_of a4 h8 a1
  obtain ⟨q1, hq1, rfl⟩ := inR_of h1 (N := 1000000) (by decide) rfl
  obtain ⟨q2, hq2, rfl⟩ := inR_of h2 (N := 1000000) (by decide) rfl
  have h12 : X 12 k = 0 := by
    rcases a3 with ⟨h2, -⟩ | ⟨-, -, h, -⟩
    · rw [hop] at h2; exact absurd h2 (by decide)
    · exact h
  have eA : stA X k kk (nI q1) = nI (min q1 P) := by unfold stA; rw [eP, min_nI (by omega) (by omega)]
  have eB : stB X k kk (nI q1) (nI q2) = nI (min q2 (P - min q1 P)) := by unfold stB; rw [eA, eP, pk_sub (by omega), min_nI (by omega) (by omega)]
  have e15 : settleX X k kk (nI q1) (nI q2) p3 15 k = nI (min q1 P) := by rw [← eA]; unfold settleX; simp [mu_e]
  have e14 : settleX X k kk (nI q1) (nI q2) p3 14 k = nI (min q2 (P - min q1 P)) := by rw [← eB]; unfold settleX; simp [mu_e]
  have e13 : settleX X k kk (nI q1) (nI q2) p3 13 k = nI (P - min q1 P - min q2 (P - min q1 P)) := by
    rw [← pk_sub (a := P - min q1 P) (by omega), ← pk_sub (a := P) (by omega), ← eA, ← eB, ← eP]; unfold settleX; simp [mu_e]
  have e12 : settleX X k kk (nI q1) (nI q2) p3 12 k = nI 0 := by rw [nI_0, ← h12]; unfold settleX; simp [mu_e]
  have e8 : settleX X k kk (nI q1) (nI q2) p3 8 k = 1 := by unfold settleX; simp [mu_e]
  have ho : ∀ f i, f ≠ 8 → f ≠ 9 → f ≠ 13 → f ≠ 14 → f ≠ 15 → settleX X k kk (nI q1) (nI q2) p3 f i = X f i := by
    intro f i h8 h9 h13 h14 h15
    unfold settleX
    simp [mu_e, h8, h9, h13, h14, h15]
  refine ⟨⟨by rw [ho 5 k (by decide) (by decide) (by decide) (by decide) (by decide)]; exact a1, ⟨by rw [ho 10 k (by decide) (by decide) (by decide) (by decide) (by decide)]; exact b1, by rw [ho 11 k (by decide) (by decide) (by decide) (by decide) (by decide)]; exact b2, _, _, _, 0, e13, e14, e15, e12, by omega⟩, Or.inl ⟨e8, h0⟩, fun j hj => ?_⟩, ?_⟩
  · obtain ⟨v, h1, h2, h3⟩ := a4 j hj
    exact ⟨v, h1, h2, by rw [ho 16 _ (by decide) (by decide) (by decide) (by decide) (by decide)]; exact h3⟩
  · unfold takenX
    rw [e13, e14, e15, eP, nI_add, nI_add]
    congr 1
    omega
theorem settleX_fr {X : MS} {k kk : Nat} {p1 p2 p3 : Int32} {f i : Nat} (h : i ≠ k ∨ f < 8 ∨ 15 < f ∨ (9 < f ∧ f < 13)) : settleX X k kk p1 p2 p3 f i = X f i := by
  unfold settleX
  simp only [mu_e]
  rcases h with h | h | h | h
  · simp [h]
  · simp [show f ≠ 8 by omega, show f ≠ 9 by omega, show f ≠ 13 by omega, show f ≠ 14 by omega, show f ≠ 15 by omega]
  · simp [show f ≠ 8 by omega, show f ≠ 9 by omega, show f ≠ 13 by omega, show f ≠ 14 by omega, show f ≠ 15 by omega]
  · simp [show f ≠ 8 by omega, show f ≠ 9 by omega, show f ≠ 13 by omega, show f ≠ 14 by omega, show f ≠ 15 by omega]

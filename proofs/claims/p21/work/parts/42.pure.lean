/-! WHAT A GRADE DOES, without bounds. -/
theorem maxI_ge (x : Int32) : ¬ maxI x 0 < 0 := by
  unfold maxI
  by_cases h : x < 0
  · rw [if_pos h]; decide
  · rw [if_neg h]; exact h
theorem sumX_congr {X Y : MS} {k : Nat} : ∀ kk, (∀ j, j < kk → Y 18 (8 * k + j) = X 18 (8 * k + j) ∧ Y 16 (8 * k + j) = X 16 (8 * k + j)) → sumX Y k kk = sumX X k kk := by
  intro kk
  induction kk with
  | zero => intro _; rfl
  | succ j ih =>
    intro h
    show (if Y 18 (8 * k + j) = 3 then sumX Y k j else sumX Y k j + Y 16 (8 * k + j)) = (if X 18 (8 * k + j) = 3 then sumX X k j else sumX X k j + X 16 (8 * k + j))
    rw [ih (fun i hi => h i (by omega)), (h j (by omega)).1, (h j (by omega)).2]
theorem priceX_congr {X Y : MS} {k kk : Nat} (h5 : Y 5 k = X 5 k) (h6 : Y 6 k = X 6 k) (h : ∀ j, j < kk → Y 18 (8 * k + j) = X 18 (8 * k + j) ∧ Y 16 (8 * k + j) = X 16 (8 * k + j)) : priceX Y k kk = priceX X k kk := by
  unfold priceX
  rw [sumX_congr kk h, h5, h6]
section PutX
variable {ao : Nat}
theorem putX_hi (X : MS) (a b : Int32) {f : Nat} (i : Nat) (hf : 5 ≤ f) : putX X a b f i = X f i := by
  unfold putX
  have h2 : f ≠ 2 := by omega
  have h3 : f ≠ 3 := by omega
  have h4 : f ≠ 4 := by omega
  split
  · exact mu_f _ _ _ _ h2
  · split
    · split
      · exact mu_f _ _ _ _ h3
      · split
        · rfl
        · exact mu_f _ _ _ _ h4
    · split
      · rfl
      · exact mu_f _ _ _ _ h4
theorem putX_01 (X : MS) (a b : Int32) : putX X a b 0 0 = X 0 0 ∧ putX X a b 1 0 = X 1 0 := by
  unfold putX
  split
  · exact ⟨rfl, rfl⟩
  · split
    · split
      · exact ⟨rfl, rfl⟩
      · split
        · exact ⟨rfl, rfl⟩
        · exact ⟨rfl, rfl⟩
    · split
      · exact ⟨rfl, rfl⟩
      · exact ⟨rfl, rfl⟩
theorem putX_st (X : MS) (a b : Int32) : putX X a b 2 0 + putX X a b 3 0 + putX X a b 4 0 = X 2 0 + X 3 0 + X 4 0 + (if b = 3 then 0 else 1) := by
  unfold putX
  by_cases h0 : b = 0
  · subst h0
    rw [if_pos rfl, if_neg (by decide)]
    show X 2 0 + 1 + X 3 0 + X 4 0 = _
    grind
  · rw [if_neg h0]
    by_cases h1 : b = 1
    · subst h1
      have h13 : ¬ (1 : Int32) = 3 := by decide
      rw [if_pos rfl]
      by_cases ha : a = 0
      · rw [if_pos ha, if_neg h13]
        show X 2 0 + (X 3 0 + 1) + X 4 0 = _
        grind
      · rw [if_neg ha, if_neg h13, if_neg h13]
        show X 2 0 + X 3 0 + (X 4 0 + 1) = _
        grind
    · rw [if_neg h1]
      by_cases h3 : b = 3
      · rw [if_pos h3, if_pos h3]
        grind
      · rw [if_neg h3, if_neg h3]
        show X 2 0 + X 3 0 + (X 4 0 + 1) = _
        grind
end PutX
theorem refundX_o (Z : MS) (k kk : Nat) {f : Nat} (i : Nat) (h : f ≠ 12 ∧ f ≠ 13 ∧ f ≠ 14 ∧ f ≠ 15) : (refundX Z k kk).2 f i = Z f i := by
  unfold refundX
  dsimp only
  rw [mu_f _ _ _ _ h.1, mu_f _ _ _ _ h.2.2.2, mu_f _ _ _ _ h.2.2.1, mu_f _ _ _ _ h.2.1]
theorem refundX_t (Z : MS) (k kk : Nat) : takenX (refundX Z k kk).2 k = takenX Z k - (refundX Z k kk).1 := by
  unfold takenX refundX
  simp only [mu_e]
  simp
  grind
theorem refundX_p (Z : MS) (k kk : Nat) : owedX (refundX Z k kk).2 k kk = owedX Z k kk := by
  unfold owedX
  rw [refundX_o Z k kk k (f := 10) (by decide), refundX_o Z k kk k (f := 11) (by decide), priceX_congr (refundX_o Z k kk k (f := 5) (by decide)) (refundX_o Z k kk k (f := 6) (by decide)) (fun j _ => ⟨refundX_o Z k kk _ (f := 18) (by decide), refundX_o Z k kk _ (f := 16) (by decide)⟩)]
theorem refundX_s (Z : MS) (k kk : Nat) : (refundX Z k kk).1 = 0 ∨ shX (refundX Z k kk).2 k kk = 0 := by
  by_cases h : takenX Z k - owedX Z k kk < 0
  · refine Or.inl ?_
    show maxI (takenX Z k - owedX Z k kk) 0 = 0
    unfold maxI
    rw [if_pos h]
  · refine Or.inr ?_
    have e : (refundX Z k kk).1 = takenX Z k - owedX Z k kk := by
      show maxI (takenX Z k - owedX Z k kk) 0 = _
      unfold maxI
      rw [if_neg h]
    unfold shX
    rw [refundX_p, refundX_t, e]
    have e2 : owedX Z k kk - (takenX Z k - (takenX Z k - owedX Z k kk)) = 0 := by grind
    rw [e2]
    split
    · rfl
    · decide
/-- the state from which a grade refunds -/
def gMidX (X : MS) (k j : Nat) (w : Int32) : MS := mu (putX (mu X 10 k (X 10 k + feeX X j w)) (X 19 j) w) 18 j (if X 18 j = 1 then 3 else 0)
theorem gradeX_mid (X : MS) (k kk j : Nat) (w : Int32) : gradeX X k kk j w = refundX (gMidX X k j w) k kk := by
  unfold gradeX gMidX
  rw [putX_hi _ _ _ _ (by decide)]
  rfl
theorem gMidX_hi (X : MS) (k j : Nat) (w : Int32) {f : Nat} (i : Nat) (h : 5 ≤ f) (h10 : f ≠ 10) (h18 : f ≠ 18) : gMidX X k j w f i = X f i := by
  unfold gMidX
  rw [mu_f _ _ _ _ h18, putX_hi _ _ _ _ h, mu_f _ _ _ _ h10]
theorem gMidX_01 (X : MS) (k j : Nat) (w : Int32) : gMidX X k j w 0 0 = X 0 0 ∧ gMidX X k j w 1 0 = X 1 0 := by
  have h := putX_01 (mu X 10 k (X 10 k + feeX X j w)) (X 19 j) w
  exact ⟨h.1, h.2⟩
theorem gr_facts (X : MS) (k kk j : Nat) (w : Int32) : ¬ (gradeX X k kk j w).1 < 0 ∧ takenX (gradeX X k kk j w).2 k = takenX X k - (gradeX X k kk j w).1 ∧ (gradeX X k kk j w).2 12 k = X 12 k + (gradeX X k kk j w).1 ∧ (gradeX X k kk j w).2 18 j = (if X 18 j = 1 then 3 else 0) ∧ (gradeX X k kk j w).2 2 0 + (gradeX X k kk j w).2 3 0 + (gradeX X k kk j w).2 4 0 = X 2 0 + X 3 0 + X 4 0 + (if w = 3 then 0 else 1) ∧ ((gradeX X k kk j w).1 = 0 ∨ shX (gradeX X k kk j w).2 k kk = 0) ∧ (gradeX X k kk j w).2 1 0 = X 1 0 ∧ (gradeX X k kk j w).2 0 0 = X 0 0 := by
  rw [gradeX_mid]
  refine ⟨maxI_ge _, ?_, ?_, ?_, ?_, refundX_s _ _ _, ?_, ?_⟩
  · rw [refundX_t]
    have e : takenX (gMidX X k j w) k = takenX X k := by
      unfold takenX
      rw [gMidX_hi _ _ _ _ _ (by decide) (by decide) (by decide), gMidX_hi _ _ _ _ _ (by decide) (by decide) (by decide), gMidX_hi _ _ _ _ _ (by decide) (by decide) (by decide)]
    rw [e]
  · show (mu _ 12 k _) 12 k = _
    rw [mu_s, gMidX_hi _ _ _ _ _ (by decide) (by decide) (by decide)]
    rfl
  · rw [refundX_o _ _ _ _ (by decide)]
    exact mu_s _ _ _ _
  · rw [refundX_o _ _ _ _ (by decide), refundX_o _ _ _ _ (by decide), refundX_o _ _ _ _ (by decide)]
    exact putX_st (mu X 10 k (X 10 k + feeX X j w)) (X 19 j) w
  · rw [refundX_o _ _ _ _ (by decide)]
    exact (gMidX_01 X k j w).2
  · rw [refundX_o _ _ _ _ (by decide)]
    exact (gMidX_01 X k j w).1
theorem xC.same {g : XG} {X X' : MS} {n : Nat} {kc : Nat → Nat} (hC : xC g X n kc) (h0 : X' 0 0 = X 0 0) (h7 : ∀ i, X' 7 i = X 7 i) : xC g X' n kc :=
  ⟨hC.1, h0.trans hC.2.1, hC.2.2.1, fun k hk => let z := hC.2.2.2 k hk; ⟨z.1, (h7 k).trans z.2.1, z.2.2⟩⟩
theorem gr_C {g : XG} {X : MS} {n : Nat} {kc : Nat → Nat} (hC : xC g X n kc) (k kk j : Nat) (w : Int32) : xC g (gradeX X k kk j w).2 n kc :=
  hC.same (gr_facts X k kk j w).2.2.2.2.2.2.2 (fun i => by rw [gradeX_mid, refundX_o _ _ _ _ (by decide), gMidX_hi _ _ _ _ _ (by decide) (by decide) (by decide)])
theorem wtX_sw (X : MS) (j : Nat) (q z : Int32) (hz : z = 1 ∨ z = 2) : ¬ wtX (swX X j q z) j = 0 := by
  have e : (swX X j q z) 18 j = z := by
    unfold swX
    rw [mu_f _ _ _ _ (by decide), mu_f _ _ _ _ (by decide), mu_s]
  unfold wtX
  rw [e]
  rcases hz with rfl | rfl <;> decide

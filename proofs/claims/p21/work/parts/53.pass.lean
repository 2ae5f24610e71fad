/-! DAYS PASS: what holds behind it. -/
def wFr (X Y : MS) (k j : Nat) : Prop := (∀ f i, f ≠ 11 → f ≠ 13 → f ≠ 18 → Y f i = X f i) ∧ (∀ f i, f ≠ 18 → i ≠ k → Y f i = X f i) ∧ ∀ a, (∀ i, i < j → a ≠ 8 * k + i) → Y 18 a = X 18 a
theorem wNext_fr (p : Int32 × MS) (k j : Nat) (day : Int32) : (∀ f i, f ≠ 11 → f ≠ 13 → f ≠ 18 → (wNext p k j day).2 f i = p.2 f i) ∧ (∀ f i, f ≠ 18 → i ≠ k → (wNext p k j day).2 f i = p.2 f i) ∧ ∀ a, a ≠ 8 * k + j → (wNext p k j day).2 18 a = p.2 18 a := by
  unfold wNext
  split
  · exact ⟨fun _ _ _ _ _ => rfl, fun _ _ _ _ => rfl, fun _ _ => rfl⟩
  · split
    · exact ⟨fun _ _ _ _ _ => rfl, fun _ _ _ _ => rfl, fun _ _ => rfl⟩
    · split
      · refine ⟨fun f i h1 h2 h3 => ?_, fun f i h1 h2 => ?_, fun a ha => ?_⟩
        · simp [chX, mu_e, h1, h2, h3]
        · simp [chX, mu_e, h1, h2]
        · simp [chX, mu_e, ha]
      · refine ⟨fun f i h1 h2 h3 => ?_, fun f i h1 h2 => ?_, fun a ha => ?_⟩
        · simp [mu_e, h3]
        · simp [mu_e, h1]
        · simp [mu_e, ha]
theorem wIt_fr (X : MS) (k : Nat) (day : Int32) : ∀ j, wFr X (wIt X k day j).2 k j
  | 0 => ⟨fun _ _ _ _ _ => rfl, fun _ _ _ _ => rfl, fun _ _ => rfl⟩
  | j + 1 => by
    obtain ⟨h1, h2, h3⟩ := wIt_fr X k day j
    obtain ⟨g1, g2, g3⟩ := wNext_fr (wIt X k day j) k j day
    exact ⟨fun f i a b c => (g1 f i a b c).trans (h1 f i a b c), fun f i a b => (g2 f i a b).trans (h2 f i a b), fun a ha => (g3 a (ha j (by omega))).trans (h3 a (fun i hi => ha i (by omega)))⟩
theorem wIt_ok {c f : Nat} {X : MS} {k kk : Nat} (h : OK c f X k kk) (day : Int32) : ∀ j, j ≤ kk → OK (c + 100000 * j) f (wIt X k day j).2 k kk ∧ ∃ q, q ≤ j ∧ (wIt X k day j).1 = nI q := by
  intro j
  induction j with
  | zero => intro _; exact ⟨h.mono (by omega) (Nat.le_refl _), 0, by omega, nI_0.symm⟩
  | succ j ih =>
    intro hj
    obtain ⟨hO, q, hq, e⟩ := ih (by omega)
    show OK (c + 100000 * (j + 1)) f (wNext (wIt X k day j) k j day).2 k kk ∧ ∃ q, q ≤ j + 1 ∧ (wNext (wIt X k day j) k j day).1 = nI q
    generalize wIt X k day j = p at hO e
    have e1 : p.1 + 1 = nI (q + 1) := by rw [e]; exact nI_1 q
    unfold wNext
    by_cases c1 : wtX p.2 (8 * k + j) = 0
    · rw [if_pos c1]; exact ⟨hO.mono (by omega) (Nat.le_refl _), q, by omega, e⟩
    · rw [if_neg c1]
      by_cases c2 : day < p.2 20 (8 * k + j)
      · rw [if_pos c2]; exact ⟨hO.mono (by omega) (Nat.le_refl _), q, by omega, e⟩
      · rw [if_neg c2]
        obtain ⟨a1, ⟨b1, b2, a, b, d, r, e13, e14, e15, e12, hb⟩, a3, a4⟩ := hO
        have hpd : p.2 8 k = 1 ∧ 0 < kk := by
          rcases a3 with h | ⟨-, -, -, -, -, -, h⟩
          · exact h
          · refine absurd ?_ c1
            unfold wtX
            rw [h j (by omega)]
            decide
        obtain ⟨v, v1, v2, v3⟩ := a4 j (by omega)
        by_cases c3 : p.2 18 (8 * k + j) = 2
        · rw [if_pos c3]
          refine ⟨⟨?_, ⟨?_, ?_, a + v, b, d, r, ?_, ?_, ?_, ?_, by omega⟩, Or.inl ⟨?_, hpd.2⟩, fun i hi => ?_⟩, q + 1, by omega, e1⟩
          · simpa [chX, mu_e] using a1
          · simpa [chX, mu_e] using b1
          · have := b2.add ⟨v, v2, v3⟩
            simp [chX, mu_e]
            exact this.mono (by omega)
          · simp [chX, mu_e]; rw [e13, v3]; exact nI_add a v
          · simpa [chX, mu_e] using e14
          · simpa [chX, mu_e] using e15
          · simpa [chX, mu_e] using e12
          · simpa [chX, mu_e] using hpd.1
          · obtain ⟨w, w1, w2, w3⟩ := a4 i hi
            exact ⟨w, w1, w2, by simpa [chX, mu_e] using w3⟩
        · rw [if_neg c3]
          refine ⟨⟨?_, ⟨?_, ?_, a, b, d, r, ?_, ?_, ?_, ?_, by omega⟩, Or.inl ⟨?_, hpd.2⟩, fun i hi => ?_⟩, q + 1, by omega, e1⟩
          · simpa [mu_e] using a1
          · simpa [mu_e] using b1
          · simp [mu_e]; exact b2.mono (by omega)
          · simpa [mu_e] using e13
          · simpa [mu_e] using e14
          · simpa [mu_e] using e15
          · simpa [mu_e] using e12
          · simpa [mu_e] using hpd.1
          · obtain ⟨w, w1, w2, w3⟩ := a4 i hi
            exact ⟨w, w1, w2, by simpa [mu_e] using w3⟩
def sK (kc : Nat → Nat) : Nat → Nat
  | 0 => 0
  | k + 1 => sK kc k + kc k
theorem qIt_ok {c f n : Nat} {Y : MS} {kc : Nat → Nat} (h : ∀ i, i < n → OK c f Y i (kc i)) (h8 : ∀ i, i < n → kc i ≤ 8) (day : Int32) : ∀ k, k ≤ n → (∀ i, i < n → (i < k → OK (c + 800000) f (qIt Y kc day k).2 i (kc i)) ∧ (k ≤ i → OK c f (qIt Y kc day k).2 i (kc i))) ∧ (∃ q, q ≤ sK kc k ∧ (qIt Y kc day k).1 = nI q) ∧ ∀ f i, f ≠ 11 → f ≠ 13 → f ≠ 18 → (qIt Y kc day k).2 f i = Y f i := by
  intro k
  induction k with
  | zero => intro _; exact ⟨fun i hi => ⟨fun z => absurd z (Nat.not_lt_zero i), fun _ => h i hi⟩, ⟨0, Nat.le_refl _, nI_0.symm⟩, fun _ _ _ _ _ => rfl⟩
  | succ k ih =>
    intro hk
    obtain ⟨hA, ⟨q, hq, e⟩, hF⟩ := ih (by omega)
    show (∀ i, i < n → (i < k + 1 → OK (c + 800000) f (wIt (qIt Y kc day k).2 k day (kc k)).2 i (kc i)) ∧ (k + 1 ≤ i → OK c f (wIt (qIt Y kc day k).2 k day (kc k)).2 i (kc i))) ∧ (∃ q, q ≤ sK kc k + kc k ∧ (qIt Y kc day k).1 + (wIt (qIt Y kc day k).2 k day (kc k)).1 = nI q) ∧ ∀ f i, f ≠ 11 → f ≠ 13 → f ≠ 18 → (wIt (qIt Y kc day k).2 k day (kc k)).2 f i = Y f i
    generalize (qIt Y kc day k).2 = Z at hA hF
    rw [e]
    have hk8 := h8 k (by omega)
    obtain ⟨hW, q2, hq2, e2⟩ := wIt_ok ((hA k (by omega)).2 (Nat.le_refl k)) day (kc k) (Nat.le_refl _)
    obtain ⟨f1, f2, f3⟩ := wIt_fr Z k day (kc k)
    have hoth : ∀ {c' : Nat} (i : Nat), i < n → i ≠ k → OK c' f Z i (kc i) → OK c' f (wIt Z k day (kc k)).2 i (kc i) := fun i hi hne hz => hz.congr (Nat.le_refl _) (Nat.le_refl _) (fun f _ h15 _ _ => f2 f i (by omega) hne) (fun j hj => ⟨f1 16 _ (by decide) (by decide) (by decide), f3 _ (fun i' hi' => by have := h8 i hi; omega)⟩)
    refine ⟨fun i hi => ⟨fun hlt => ?_, fun hge => hoth i hi (by omega) ((hA i hi).2 (by omega))⟩, ⟨q + q2, by omega, by rw [e2]; exact nI_add q q2⟩, fun f i a b d => (f1 f i a b d).trans (hF f i a b d)⟩
    by_cases ek : i = k
    · subst ek; exact hW.mono (by omega) (Nat.le_refl _)
    · exact hoth i hi ek ((hA i hi).1 (by omega))

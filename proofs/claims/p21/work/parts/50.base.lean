/-! BOUNDS, and what goes on with new orders and lines. -/
def Bd (x : Int32) (b : Nat) : Prop := ∃ v : Nat, v ≤ b ∧ x = nI v
theorem Bd.mono {x : Int32} {a b : Nat} (h : Bd x a) (hb : a ≤ b) : Bd x b := h.imp fun _ h => ⟨Nat.le_trans h.1 hb, h.2⟩
theorem Bd.add {x y : Int32} {a b : Nat} (h : Bd x a) (h' : Bd y b) : Bd (x + y) (a + b) := by
  obtain ⟨v, hv, rfl⟩ := h
  obtain ⟨w, hw, rfl⟩ := h'
  exact ⟨v + w, by omega, nI_add v w⟩
theorem Bd.zero (b : Nat) : Bd 0 b := ⟨0, by omega, nI_0.symm⟩
theorem inR_of {p : Int32} {N : Nat} {x : Int32} (h : inR p 0 x) (hN : N < 2 ^ 31) (hx : x = nI N) : ∃ z : Nat, z ≤ N ∧ p = nI z := by
  subst hx
  obtain ⟨j, hj, rfl⟩ := nI_of h.1
  refine ⟨j, ?_, rfl⟩
  have := h.2
  rw [nI_ltI hN hj] at this
  omega
theorem inR1_of {p : Int32} {N : Nat} {x : Int32} (h : inR p 1 x) (hN : N < 2 ^ 31) (hx : x = nI N) : ∃ z : Nat, z ≤ N ∧ p = nI z := by
  refine inR_of ⟨fun z => h.1 ?_, h.2⟩ hN hx
  have h1 := Int32.lt_iff_toInt_lt.mp z
  refine Int32.lt_iff_toInt_lt.mpr ?_
  have e0 : (0 : Int32).toInt = 0 := by decide
  have e1 : (1 : Int32).toInt = 1 := by decide
  rw [e0] at h1
  rw [e1]
  omega
section Shape
variable {g : XG} {X : MS} {n : Nat} {kc : Nat → Nat}
theorem xC.ord (hC : xC g X n kc) (hZ : xZ g n) {qo la : Nat} {p0 p1 : Int32} (hn : n < 30) : xC (gOrd g n qo la) (mu (xNewO X n p0 p1) 0 0 (nI (n + 1))) (n + 1) (fun k => if k = n then 0 else kc k) ∧ xZ (gOrd g n qo la) (n + 1) := by
  obtain ⟨c1, c2, c3, c4⟩ := hC
  refine ⟨⟨by omega, rfl, ?_, ?_⟩, ?_, ?_, ?_⟩
  · intro k hk
    by_cases e : k = n
    · subst e; simp [gOrd]
    · have := c3 k hk
      simp only [gOrd, e, and_false, if_false]
      rw [this]; omega
  · intro k hk
    by_cases e : k = n
    · subst e
      refine ⟨by simp, by simp [xNewO, mu_e]; exact nI_0.symm, ⟨la, by simp [gOrd]⟩, fun j hj => ?_⟩
      simp [gOrd, hZ.2.1 (8 * k + j) (by omega)]
    · obtain ⟨h1, h2, ⟨z, h3⟩, h4⟩ := c4 k (by omega)
      refine ⟨by simp [e, h1], by simp [xNewO, mu_e, e, h2], ⟨z, by simp [gOrd, e, h3]⟩, fun j hj => ?_⟩
      have := h4 j hj
      simp [gOrd, e, this]
  · intro t i a ht h
    rcases gOrd_key h with ⟨h1, _, _⟩ | ⟨h1, _, _⟩ | ⟨h1, _, _⟩
    · omega
    · omega
    · exact hZ.1 t i a ht h1
  · intro i hi
    have := hZ.2.1 i (by omega)
    simp [gOrd, this]
  · intro i a h
    rcases gOrd_key h with ⟨h1, _, _⟩ | ⟨_, h1, _⟩ | ⟨h1, _, _⟩
    · omega
    · omega
    · have := hZ.2.2 i a h1; omega
theorem xC.add (hC : xC g X n kc) (hZ : xZ g n) {k al : Nat} {p1 p2 : Int32} (hk : k < n) (h8 : kc k < 8) : xC (gMov (gLine g 300 al) (8 * k + kc k) al) (mu (xMov (xNewL X 300 p1 p2) (8 * k + kc k)) 7 k (nI (kc k + 1))) n (fun i => if i = k then kc k + 1 else kc i) ∧ xZ (gMov (gLine g 300 al) (8 * k + kc k) al) n := by
  obtain ⟨c1, c2, c3, c4⟩ := hC
  refine ⟨⟨c1, by simpa [xMov, xNewL, mu_e] using c2, ?_, ?_⟩, ?_, ?_, ?_⟩
  · intro i hi
    have := c3 i hi
    simpa [gMov, gLine] using this
  · intro i hi
    obtain ⟨h1, h2, ⟨z, h3⟩, h4⟩ := c4 i hi
    by_cases e : i = k
    · subst e
      refine ⟨by simp; omega, by simp [mu_e], ⟨z, by simp [gMov, gLine, h3]⟩, fun j hj => ?_⟩
      have h5 : ¬ (8 * i + j = 300) := by omega
      by_cases ej : j = kc i
      · subst ej; simp [gMov, gLine]
      · have := h4 j hj
        simp only [gMov, gLine, h5, and_false, if_false, true_and, if_true]
        rw [if_neg (by omega), this]
        omega
    · refine ⟨by simp [e, h1], by simp [xMov, xNewL, mu_e, e, h2], ⟨z, by simp [gMov, gLine, h3]⟩, fun j hj => ?_⟩
      have h5 : ¬ (8 * i + j = 300) := by omega
      have h6 : ¬ (8 * i + j = 8 * k + kc k) := by omega
      have := h4 j hj
      simp only [gMov, gLine, h5, h6, and_false, if_false, e]
      exact this
  · intro t i a ht h
    rcases gMov_key h with ⟨h1, _, _⟩ | ⟨h1, _, _⟩
    · omega
    · rcases gLine_key h1 with ⟨h1, _, _⟩ | ⟨h1, _⟩
      · omega
      · exact hZ.1 t i a ht h1
  · intro i hi
    have := hZ.2.1 i hi
    have h6 : ¬ (i = 8 * k + kc k) := by omega
    simp only [gMov, gLine, h6, and_false, if_false]
    by_cases e : i = 300
    · simp [e]
    · simp [e, this]
  · intro i a h
    rcases gMov_key h with ⟨h1, _, _⟩ | ⟨h1, _, _⟩
    · omega
    · rcases gLine_key h1 with ⟨h1, _, _⟩ | ⟨h1, _⟩
      · omega
      · exact hZ.2.2 i a h1
end Shape

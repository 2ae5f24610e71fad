/-! THE CLASS AGAINST THE REFERENCE: new orders, new lines, pay. -/
section Sims3
variable {l : Launch} {D : va_G} {cI cO cL cJ : ClassId} {ao : Nat} {q : Nat → Nat} {K : Nat} {g : XG} {X M : MS} {n dd sz : Nat} {kc : Nat → Nat} {r : Int32} {u : wU}
theorem xC.ord (hC : xC g X n kc) (hZ : xZ g n) {qo la : Nat} {p0 p1 : Int32} (hn : n < 30) : xC (gOrd g n qo la) (mu (xNewO X n p0 p1) 0 0 (nI (n + 1))) (n + 1) (fun k => if k = n then 0 else kc k) ∧ xZ (gOrd g n qo la) (n + 1) := by
  obtain ⟨c1, c2, c3, c4⟩ := hC
  refine ⟨⟨by omega, rfl, ?_, ?_⟩, ?_, ?_, ?_⟩
  · intro k hk
    by_cases e : k = n
    · subst e; simp [gOrd]
    · have := c3 k hk
      simp only [gOrd, e, and_false, if_false]
      rw [this]; omega
  · intro k hk
    by_cases e : k = n
    · subst e
      refine ⟨by simp, by simp [xNewO, mu_e]; exact nI_0.symm, ⟨la, by simp [gOrd]⟩, fun j hj => ?_⟩
      simp [gOrd, hZ.2.1 (8 * k + j) (by omega)]
    · obtain ⟨h1, h2, ⟨z, h3⟩, h4⟩ := c4 k (by omega)
      refine ⟨by simp [e, h1], by simp [xNewO, mu_e, e, h2], ⟨z, by simp [gOrd, e, h3]⟩, fun j hj => ?_⟩
      have := h4 j hj
      simp [gOrd, e, this]
  · intro t i a ht h
    rcases gOrd_key h with ⟨h1, _, _⟩ | ⟨h1, _, _⟩ | ⟨h1, _, _⟩
    · omega
    · omega
    · exact hZ.1 t i a ht h1
  · intro i hi
    have := hZ.2.1 i (by omega)
    simp [gOrd, this]
  · intro i a h
    rcases gOrd_key h with ⟨h1, _, _⟩ | ⟨_, h1, _⟩ | ⟨h1, _, _⟩
    · omega
    · omega
    · have := hZ.2.2 i a h1; omega
theorem Rel.ord (hR : Rel K X M n kc dd) (hn : n < 30) {p0 p1 : Int32} (hp0 : Bd p0 90) : Rel (K + 1) (mu (xNewO X n p0 p1) 0 0 (nI (n + 1))) (mu (mu (mu (mu M 16 0 0) 2 n p0) 3 n p1) 1 0 (nI (n + 1))) (n + 1) (fun k => if k = n then 0 else kc k) dd := by
  obtain ⟨a1, a2, a3, a4, a5, a6, a7, a8⟩ := hR
  refine ⟨⟨by omega, rfl, rfl, a1.2.2.2.1, a1.2.2.2.2.1, a1.2.2.2.2.2⟩, a2, ?_, ?_, ?_, ?_, ?_, ?_⟩
  · intro k hk
    by_cases e : k = n
    · subst e
      have z := a6 k (Nat.le_refl _) hk
      unfold o0 at z
      unfold oEq
      simp [xNewO, mu_e, z]
    · have z := a3 k hk
      unfold oEq at z ⊢
      simpa [xNewO, mu_e, e] using z
  · intro a ha
    have z := a4 a ha
    unfold lEq at z ⊢
    simpa [xNewO, mu_e] using z
  · intro k hk
    by_cases e : k = n
    · subst e
      have z := a6 k (Nat.le_refl _) hn
      unfold o0 at z
      refine ⟨by simp, by simp [mu_e, z]; exact nI_0.symm, by simpa [mu_e] using hp0, Or.inl ⟨by simp [xNewO, mu_e], by simp [mu_e, z]⟩, ?_⟩
      unfold oBd
      simp only [mu_e]
      simp [z, Bd.zero]
    · obtain ⟨z1, z2, z3, z4, z5⟩ := a5 k (by omega)
      refine ⟨by simp [e, z1], by simp [mu_e, e, z2], by simpa [mu_e, e] using z3, ?_, ?_⟩
      · unfold oPd at z4 ⊢
        simpa [xNewO, mu_e, e] using z4
      · have z6 := z5.mono
        unfold oBd at z6 ⊢
        simpa [mu_e, e] using z6
  · intro k hk hk3
    have z := a6 k (by omega) hk3
    unfold o0 at z ⊢
    simpa [mu_e] using z
  · intro k j hk hj
    by_cases e : k = n
    · subst e; simp at hj
    · have z := a7 k j (by omega) (by simpa [e] using hj)
      unfold lOk at z ⊢
      simpa [mu_e] using z
  · intro k j hk hj ho
    by_cases e : k = n
    · subst e
      have z := a8 k j hk hj (Or.inl (Nat.le_refl _))
      unfold l0 at z ⊢
      simpa [mu_e] using z
    · have z := a8 k j hk hj (by rcases ho with h | h; exact Or.inl (by omega); exact Or.inr (by simpa [e] using h))
      unfold l0 at z ⊢
      simpa [mu_e] using z
theorem sim_order (hI : mI ao q) (hC : xC g X n kc) (hZ : xZ g n) (hR : Rel K X M n kc dd) (p0 p1 : Int32) (h : wPost (cN_order g X n kc sz p0 p1 0) (cC_order X n kc p0 p1 0) cL_orders g X r u) : SimTo l D cI cO cL cJ ao q M yX3_order wsX3_order [.int p0, .int p1] (Gd K r u) := by
  refine sim_of (kX3_order l hI M p0 p1 n hR.n30 hR.m1) (by decide) (fun b M9 hp => ?_)
  unfold mOrder at hp
  rcases h with ⟨h0, v, ⟨qo, la, h1, h2, h3, h4, h5, rfl, hn, hi0, hi1⟩, hw⟩ | ⟨⟨E, (⟨rfl, hb⟩ | ⟨rfl, hi0, hi1, hb⟩), hcd⟩, h1, h2⟩
  · rw [if_pos hi0, if_pos hi1, if_neg (fun z => by have := (nI_eq (by omega) (by decide)).mp (show nI n = nI 30 from z); omega)] at hp
    obtain ⟨hp1, hp2⟩ := Prod.mk.inj hp
    refine ⟨by rw [hp2, h0]; rfl, fun _ => by rw [hw, hp1], ?_⟩
    dsimp only at h4 h5
    rw [h4, h5, hp2]
    have hx := xC.ord hC hZ (qo := qo) (la := la) (p0 := p0) (p1 := p1) hn
    exact ⟨n + 1, _, dd, hx.1, hx.2, hR.ord hn (inR_of hi0 (N := 90) (by decide) rfl)⟩
  · have e : (b, M9) = (0, mu M 16 0 1) := by
      rcases hb with hb | hb
      · rw [if_neg hb] at hp; exact hp
      · by_cases hi : inR p0 0 90
        · rw [if_pos hi, if_neg hb] at hp; exact hp
        · rw [if_neg hi] at hp; exact hp
    exact gd_bad hC hZ hR (cd_A2 hcd) (by decide) h1 h2 (Prod.mk.inj e).2
  · have e : n = 30 := by have := hR.n30; omega
    rw [if_pos hi0, if_pos hi1, if_pos (by rw [e]; rfl)] at hp
    exact gd_bad hC hZ hR (cd_S2 hcd) (by decide) h1 h2 (Prod.mk.inj hp).2
theorem xC.add (hC : xC g X n kc) (hZ : xZ g n) {k al : Nat} {p1 p2 : Int32} (hk : k < n) (h8 : kc k < 8) : xC (gMov (gLine g 300 al) (8 * k + kc k) al) (mu (xMov (xNewL X 300 p1 p2) (8 * k + kc k)) 7 k (nI (kc k + 1))) n (fun i => if i = k then kc k + 1 else kc i) ∧ xZ (gMov (gLine g 300 al) (8 * k + kc k) al) n := by
  obtain ⟨c1, c2, c3, c4⟩ := hC
  refine ⟨⟨c1, by simpa [xMov, xNewL, mu_e] using c2, ?_, ?_⟩, ?_, ?_, ?_⟩
  · intro i hi
    have := c3 i hi
    simpa [gMov, gLine] using this
  · intro i hi
    obtain ⟨h1, h2, ⟨z, h3⟩, h4⟩ := c4 i hi
    by_cases e : i = k
    · subst e
      refine ⟨by simp; omega, by simp [mu_e], ⟨z, by simp [gMov, gLine, h3]⟩, fun j hj => ?_⟩
      have h5 : ¬ (8 * i + j = 300) := by omega
      by_cases ej : j = kc i
      · subst ej; simp [gMov, gLine]
      · have := h4 j hj
        simp only [gMov, gLine, h5, and_false, if_false, true_and, if_true]
        rw [if_neg (by omega), this]
        omega
    · refine ⟨by simp [e, h1], by simp [xMov, xNewL, mu_e, e, h2], ⟨z, by simp [gMov, gLine, h3]⟩, fun j hj => ?_⟩
      have h5 : ¬ (8 * i + j = 300) := by omega
      have h6 : ¬ (8 * i + j = 8 * k + kc k) := by omega
      have := h4 j hj
      simp only [gMov, gLine, h5, h6, and_false, if_false, e]
      exact this
  · intro t i a ht h
    rcases gMov_key h with ⟨h1, _, _⟩ | ⟨h1, _, _⟩
    · omega
    · rcases gLine_key h1 with ⟨h1, _, _⟩ | ⟨h1, _⟩
      · omega
      · exact hZ.1 t i a ht h1
  · intro i hi
    have := hZ.2.1 i hi
    have h6 : ¬ (i = 8 * k + kc k) := by omega
    simp only [gMov, gLine, h6, and_false, if_false]
    by_cases e : i = 300
    · simp [e]
    · simp [e, this]
  · intro i a h
    rcases gMov_key h with ⟨h1, _, _⟩ | ⟨h1, _, _⟩
    · omega
    · rcases gLine_key h1 with ⟨h1, _, _⟩ | ⟨h1, _⟩
      · omega
      · exact hZ.2.2 i a h1
theorem Rel.add (hR : Rel K X M n kc dd) {k : Nat} {p1 p2 : Int32} (hk : k < n) (h8 : kc k < 8) (hp1 : Bd p1 100000) (hp2 : p2 = 0 ∨ p2 = 1 ∨ p2 = 2) : Rel (K + 1) (mu (xMov (xNewL X 300 p1 p2) (8 * k + kc k)) 7 k (nI (kc k + 1))) (mu (mu (mu (th0 M) 10 (8 * k + kc k) p1) 11 (8 * k + kc k) p2) 4 k (nI (kc k + 1))) n (fun i => if i = k then kc k + 1 else kc i) dd := by
  obtain ⟨a1, a2, a3, a4, a5, a6, a7, a8⟩ := hR
  have hn := a1.1
  have h0 := a8 k (kc k) (by omega) h8 (Or.inr (Nat.le_refl _))
  unfold l0 at h0
  refine ⟨⟨a1.1, a1.2.1, a1.2.2.1, a1.2.2.2⟩, a2, ?_, ?_, ?_, ?_, ?_, ?_⟩
  · intro i hi
    have z := a3 i hi
    unfold oEq at z ⊢
    by_cases e : i = k
    · subst e; simp [xMov, xNewL, mu_e, z]
    · simpa [xMov, xNewL, mu_e, e] using z
  · intro a ha
    have z := a4 a ha
    unfold lEq at z ⊢
    have h3 : a ≠ 300 := by omega
    by_cases e : a = 8 * k + kc k
    · subst e; simp [xMov, xNewL, mu_e, h0]
    · simpa [xMov, xNewL, mu_e, e, h3] using z
  · intro i hi
    obtain ⟨z1, z2, z3, z4, z5⟩ := a5 i hi
    have z6 := z5.mono
    by_cases e : i = k
    · subst e
      refine ⟨by simp; omega, by simp [mu_e], by simpa [mu_e] using z3, ?_, ?_⟩
      · unfold oPd at z4 ⊢
        simpa [xMov, xNewL, mu_e] using z4
      · unfold oBd at z6 ⊢
        simpa [mu_e] using z6
    · refine ⟨by simp [e, z1], by simp [mu_e, e, z2], by simpa [mu_e] using z3, ?_, ?_⟩
      · unfold oPd at z4 ⊢
        simpa [xMov, xNewL, mu_e] using z4
      · unfold oBd at z6 ⊢
        simpa [mu_e] using z6
  · intro i hi hi3
    have e : i ≠ k := by omega
    have z := a6 i hi hi3
    unfold o0 at z ⊢
    simpa [mu_e, e] using z
  · intro i j hi hj
    by_cases e : 8 * i + j = 8 * k + kc k
    · rw [e]
      unfold lOk
      simp [mu_e, h0]
      exact ⟨hp1, hp2⟩
    · have hj' : j < kc i := by
        by_cases ei : i = k
        · subst ei; simp at hj; omega
        · simpa [ei] using hj
      have z := a7 i j hi hj'
      unfold lOk at z ⊢
      simpa [mu_e, e] using z
  · intro i j hi hj ho
    have z := a8 i j hi hj (by
      rcases ho with h | h
      · exact Or.inl h
      · by_cases ei : i = k
        · subst ei; simp at h; exact Or.inr (by omega)
        · exact Or.inr (by simpa [ei] using h))
    unfold l0 at z ⊢
    simpa [mu_e] using z
theorem in012 {p : Int32} (h : inR p 0 2) : p = 0 ∨ p = 1 ∨ p = 2 := by
  obtain ⟨z, hz, rfl⟩ := inR_of h (N := 2) (by decide) rfl
  rcases (show z = 0 ∨ z = 1 ∨ z = 2 by omega) with rfl | rfl | rfl
  · exact Or.inl rfl
  · exact Or.inr (Or.inl rfl)
  · exact Or.inr (Or.inr rfl)
theorem sim_add (hI : mI ao q) (hC : xC g X n kc) (hZ : xZ g n) (hR : Rel K X M n kc dd) (p0 p1 p2 : Int32) (h : wPost (cN_add g X n kc sz p0 p1 p2) (cC_add X n kc p0 p1 p2) cL_adds g X r u) : SimTo l D cI cO cL cJ ao q M yX3_add wsX3_add [.int p0, .int p1, .int p2] (Gd K r u) := by
  have hd1 := hR.dd1
  rcases h with ⟨h0, v, ⟨k, al, hk, rfl, hi1, hi2, h8, hkc, hal, hu1, hu2, rfl⟩, hw⟩ | ⟨⟨E, (⟨rfl, hb⟩ | ⟨rfl, k, hk, rfl, hb⟩ | ⟨rfl, k, hk, rfl, hi1, hi2, hb⟩), hcd⟩, h1, h2⟩
  · refine sim_of (kX3_add_ok l hI M k n (kc k) p1 p2 hk hR.n30 hR.m1 (hR.k8 hk) (hR.m4 hk)) (by decide) (fun b M9 hp => ?_)
    have h5 : M 5 k = 0 := by
      rcases hR.pd hk with h | h
      · exact h.2
      · exact absurd (h.1.symm.trans h8) (by decide)
    unfold mAdd at hp
    rw [if_pos hi1, if_pos hi2, if_neg (by rw [h5]; decide), if_neg (fun z => by have := (nI_eq (by omega) (by decide)).mp (show nI (kc k) = nI 8 from z); omega)] at hp
    obtain ⟨hp1, hp2⟩ := Prod.mk.inj hp
    refine ⟨by rw [hp2, h0]; rfl, fun _ => by rw [hw, hp1], ?_⟩
    dsimp only at hu1 hu2
    rw [hu1, hu2, hp2]
    have hx := xC.add hC hZ (al := al) (p1 := p1) (p2 := p2) hk hkc
    exact ⟨n, _, dd, hx.1, hx.2, hR.add hk hkc (inR1_of hi1 (N := 100000) (by decide) rfl) (in012 hi2)⟩
  · exact sim_of (kX3_add_bad l hI M p0 p1 p2 n hb hR.n30 hR.m1) (by decide) (fun b M9 hp => gd_bad hC hZ hR (cd_O3 hcd) (by decide) h1 h2 hp.2)
  · refine sim_of (kX3_add_ok l hI M k n (kc k) p1 p2 hk hR.n30 hR.m1 (hR.k8 hk) (hR.m4 hk)) (by decide) (fun b M9 hp => ?_)
    unfold mAdd at hp
    have e : (b, M9) = (0, th2 M 2) := by
      rcases hb with hb | hb
      · rw [if_neg hb] at hp; exact hp
      · by_cases hi : inR p1 1 100000
        · rw [if_pos hi, if_neg hb] at hp; exact hp
        · rw [if_neg hi] at hp; exact hp
    exact gd_bad2 hC hZ hR (cd_A3 hcd) (by decide) h1 h2 (Prod.mk.inj e).2
  · refine sim_of (kX3_add_ok l hI M k n (kc k) p1 p2 hk hR.n30 hR.m1 (hR.k8 hk) (hR.m4 hk)) (by decide) (fun b M9 hp => ?_)
    unfold mAdd at hp
    rw [if_pos hi1, if_pos hi2] at hp
    have e : (b, M9) = (0, th2 M 3) := by
      by_cases h5 : 0 < M 5 k
      · rw [if_pos h5] at hp; exact hp
      · rw [if_neg h5] at hp
        have h8 : X 8 k = 0 := by
          rcases hR.pd hk with h | ⟨_, pd, hpd, _, e3⟩
          · exact h.1
          · exact absurd (by rw [e3]; exact nI_lt (a := 0) (b := pd + 1) (by omega) (by omega)) h5
        have hk8 : kc k = 8 := by
          have := hR.k8 hk
          rcases hb with hb | hb
          · exact absurd h8 hb
          · omega
        rw [if_pos (by rw [hk8]; rfl)] at hp; exact hp
    exact gd_bad2 hC hZ hR (cd_S3 hcd) (by decide) h1 h2 (Prod.mk.inj e).2
end Sims3

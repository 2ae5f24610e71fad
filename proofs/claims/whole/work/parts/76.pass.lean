/-! THE CLASS AGAINST THE REFERENCE: pass. -/
section Sims6
variable {l : Launch} {D : va_G} {cI cO cL cJ : ClassId} {ao : Nat} {q : Nat → Nat} {K : Nat} {g : XG} {X M : MS} {n dd sz : Nat} {kc : Nat → Nat} {r : Int32} {u : wU}
theorem Rel.passed (hR : Rel K X M n kc dd) {d : Nat} (hd : dd + d ≤ 10000) {hh : Nat → Bool} (hw : ∀ a, a < 8 * n → (M 12 a = 1 ∨ M 12 a = 2) → hh a = false → ∃ e, dd + d < e ∧ e ≤ 20000 ∧ M 14 a = nI e) : Rel (K + 1) (QC (mu X 1 0 (nI (dd + d))) hh (8 * n)) (mu (EC M hh (8 * n)) 0 0 (nI (dd + d))) n kc (dd + d) := by
  have hn := hR.n30
  have hln : ∀ k j, k < n → j < kc k → lOk M dd (8 * k + j) := fun k j hk hj => hR.ln hk hj
  obtain ⟨a1, a2, a3, a4, a5, a6, a7, a8⟩ := hR
  have hc : ∀ a, a < 8 * n → cX (mu X 1 0 (nI (dd + d))) a = cM M a := fun a ha => by
    have h := a4 a (by omega)
    unfold cX cM
    rw [mu_f _ _ _ _ (by decide), mu_f _ _ _ _ (by decide), h.1, h.2.2.1]
  have hs : ∀ i, sumH hh (cX (mu X 1 0 (nI (dd + d)))) i (8 * n) = sumH hh (cM M) i (8 * n) := fun i => sumH_congr (8 * n) (fun a ha => ⟨rfl, fun _ => hc a ha⟩)
  have hcb : ∀ a, a < 8 * n → Bd (cM M a) 100000 := fun a ha => by
    unfold cM
    split
    · next h2 =>
      by_cases hj : a % 8 < kc (a / 8)
      · have := (hln (a / 8) (a % 8) (by omega) hj).1
        rw [show 8 * (a / 8) + a % 8 = a by omega] at this
        exact this
      · have := (a8 (a / 8) (a % 8) (by omega) (by omega) (Or.inr (by omega))).1
        rw [show 8 * (a / 8) + a % 8 = a by omega] at this
        rw [this] at h2
        exact absurd h2 (by decide)
    · exact Bd.zero _
  have hsb : ∀ k, Bd (sumH hh (cM M) k (8 * n)) (100000 * min (8 * n - 8 * k) 8) := fun k => sumH_bd (8 * n) (fun a ha _ => hcb a ha)
  have s0 : ∀ k, n ≤ k → sumH hh (cM M) k (8 * n) = 0 := fun k hk => by
    obtain ⟨v, hv, e⟩ := hsb k
    rw [e, show v = 0 by omega]; rfl
  have M' : ∀ f i, f ≠ 0 → mu (EC M hh (8 * n)) 0 0 (nI (dd + d)) f i = EC M hh (8 * n) f i := fun f i h => mu_f _ _ _ _ h
  have Mo : ∀ f i, f ≠ 0 → f ≠ 12 → f ≠ 7 → f ≠ 9 → mu (EC M hh (8 * n)) 0 0 (nI (dd + d)) f i = M f i := fun f i h0 h1 h2 h3 => (M' f i h0).trans (EC_o _ _ _ _ h1 h2 h3)
  have M7 : ∀ k, mu (EC M hh (8 * n)) 0 0 (nI (dd + d)) 7 k = M 7 k + sumH hh (cM M) k (8 * n) := fun k => (M' 7 k (by decide)).trans (by simp [EC])
  have M90 : ∀ k, mu (EC M hh (8 * n)) 0 0 (nI (dd + d)) 9 (3 * k) = M 9 (3 * k) + sumH hh (cM M) k (8 * n) := fun k => (M' 9 _ (by decide)).trans (by simp [EC])
  have M91 : ∀ k, mu (EC M hh (8 * n)) 0 0 (nI (dd + d)) 9 (3 * k + 1) = M 9 (3 * k + 1) := fun k => (M' 9 _ (by decide)).trans (by simp [EC, show ¬ ((3 * k + 1) % 3 = 0) by omega])
  have M92 : ∀ k, mu (EC M hh (8 * n)) 0 0 (nI (dd + d)) 9 (3 * k + 2) = M 9 (3 * k + 2) := fun k => (M' 9 _ (by decide)).trans (by simp [EC, show ¬ ((3 * k + 2) % 3 = 0) by omega])
  have M12 : ∀ a, mu (EC M hh (8 * n)) 0 0 (nI (dd + d)) 12 a = if a < 8 * n ∧ hh a = true then 0 else M 12 a := fun a => (M' 12 a (by decide)).trans (by simp [EC])
  have Xo : ∀ f i, f ≠ 1 → f ≠ 18 → f ≠ 11 → f ≠ 13 → QC (mu X 1 0 (nI (dd + d))) hh (8 * n) f i = X f i := fun f i h0 h1 h2 h3 => (QC_o _ _ _ _ h1 h2 h3).trans (mu_f _ _ _ _ h0)
  have X11 : ∀ k, QC (mu X 1 0 (nI (dd + d))) hh (8 * n) 11 k = X 11 k + sumH hh (cM M) k (8 * n) := fun k => by rw [← hs k]; simp [QC, mu_e]
  have X13 : ∀ k, QC (mu X 1 0 (nI (dd + d))) hh (8 * n) 13 k = X 13 k + sumH hh (cM M) k (8 * n) := fun k => by rw [← hs k]; simp [QC, mu_e]
  have X18 : ∀ a, QC (mu X 1 0 (nI (dd + d))) hh (8 * n) 18 a = if a < 8 * n ∧ hh a = true then 0 else X 18 a := fun a => by simp [QC, mu_e]
  refine ⟨⟨a1.1, (Mo 1 0 (by decide) (by decide) (by decide) (by decide)).trans a1.2.1, (Xo 0 0 (by decide) (by decide) (by decide) (by decide)).trans a1.2.2.1, hd, mu_s _ _ _ _, ?_⟩, ?_, ?_, ?_, ?_, ?_, ?_, ?_⟩
  · exact (QC_o _ _ _ _ (by decide) (by decide) (by decide)).trans (mu_s _ _ _ _)
  · rw [Xo 2 0 (by decide) (by decide) (by decide) (by decide), Xo 3 0 (by decide) (by decide) (by decide) (by decide), Xo 4 0 (by decide) (by decide) (by decide) (by decide), Mo 15 0 (by decide) (by decide) (by decide) (by decide), Mo 15 1 (by decide) (by decide) (by decide) (by decide), Mo 15 2 (by decide) (by decide) (by decide) (by decide)]
    exact a2
  · intro k hk
    have z := a3 k hk
    unfold oEq at z ⊢
    rw [Xo 5 k (by decide) (by decide) (by decide) (by decide), Xo 6 k (by decide) (by decide) (by decide) (by decide), Xo 7 k (by decide) (by decide) (by decide) (by decide), Xo 10 k (by decide) (by decide) (by decide) (by decide), X11, Xo 12 k (by decide) (by decide) (by decide) (by decide), X13, Xo 14 k (by decide) (by decide) (by decide) (by decide), Xo 15 k (by decide) (by decide) (by decide) (by decide)]
    rw [Mo 2 k (by decide) (by decide) (by decide) (by decide), Mo 3 k (by decide) (by decide) (by decide) (by decide), Mo 4 k (by decide) (by decide) (by decide) (by decide), Mo 6 k (by decide) (by decide) (by decide) (by decide), M7, Mo 8 k (by decide) (by decide) (by decide) (by decide), M90, M91, M92]
    exact ⟨z.1, z.2.1, z.2.2.1, z.2.2.2.1, by rw [z.2.2.2.2.1], z.2.2.2.2.2.1, by rw [z.2.2.2.2.2.2.1], z.2.2.2.2.2.2.2⟩
  · intro a ha
    have z := a4 a ha
    unfold lEq at z ⊢
    rw [Xo 16 a (by decide) (by decide) (by decide) (by decide), Xo 17 a (by decide) (by decide) (by decide) (by decide), X18, Xo 19 a (by decide) (by decide) (by decide) (by decide), Xo 20 a (by decide) (by decide) (by decide) (by decide)]
    rw [Mo 10 a (by decide) (by decide) (by decide) (by decide), Mo 11 a (by decide) (by decide) (by decide) (by decide), M12, Mo 13 a (by decide) (by decide) (by decide) (by decide), Mo 14 a (by decide) (by decide) (by decide) (by decide)]
    exact ⟨z.1, z.2.1, by rw [z.2.2.1], z.2.2.2⟩
  · intro k hk
    obtain ⟨z1, z2, z3, z4, z5⟩ := a5 k hk
    refine ⟨z1, (Mo 4 k (by decide) (by decide) (by decide) (by decide)).trans z2, by rw [Mo 2 k (by decide) (by decide) (by decide) (by decide)]; exact z3, ?_, ?_⟩
    · unfold oPd at z4 ⊢
      rw [Xo 8 k (by decide) (by decide) (by decide) (by decide), Xo 9 k (by decide) (by decide) (by decide) (by decide), Mo 5 k (by decide) (by decide) (by decide) (by decide)]
      rcases z4 with h | ⟨h1, pd, h2, h3⟩
      · exact Or.inl h
      · exact Or.inr ⟨h1, pd, by omega, h3⟩
    · unfold oBd at z5 ⊢
      rw [Mo 6 k (by decide) (by decide) (by decide) (by decide), M7, M90, M91, M92]
      have hb := (hsb k).mono (b := 800000) (by omega)
      exact ⟨z5.1.mono (by omega), (z5.2.1.add hb).mono (by omega), (z5.2.2.1.add hb).mono (by omega), z5.2.2.2⟩
  · intro k hk hk3
    have z := a6 k hk hk3
    unfold o0 at z ⊢
    rw [Mo 4 k (by decide) (by decide) (by decide) (by decide), Mo 5 k (by decide) (by decide) (by decide) (by decide), Mo 6 k (by decide) (by decide) (by decide) (by decide), M7, Mo 8 k (by decide) (by decide) (by decide) (by decide), M90, M91, M92, s0 k hk]
    exact ⟨z.1, z.2.1, z.2.2.1, by rw [z.2.2.2.1]; rfl, z.2.2.2.2.1, by rw [z.2.2.2.2.2.1]; rfl, z.2.2.2.2.2.2⟩
  · intro k j hk hj
    have z := a7 k j hk hj
    have z1 := (a5 k hk).1
    unfold lOk at z ⊢
    rw [Mo 10 _ (by decide) (by decide) (by decide) (by decide), Mo 11 _ (by decide) (by decide) (by decide) (by decide), M12, Mo 13 _ (by decide) (by decide) (by decide) (by decide), Mo 14 _ (by decide) (by decide) (by decide) (by decide)]
    refine ⟨z.1, z.2.1, ?_, z.2.2.2⟩
    cases he : hh (8 * k + j)
    · simp only [Bool.false_eq_true, and_false, if_false]
      rcases z.2.2.1 with h | h | ⟨h, _⟩
      · exact Or.inl h
      · exact Or.inr (Or.inl h)
      · exact Or.inr (Or.inr ⟨h, hw _ (by omega) h he⟩)
    · rw [if_pos ⟨by omega, rfl⟩]
      exact Or.inl rfl
  · intro k j hk hj ho
    have z := a8 k j hk hj ho
    unfold l0 at z ⊢
    rw [M12, Mo 13 _ (by decide) (by decide) (by decide) (by decide), Mo 14 _ (by decide) (by decide) (by decide) (by decide)]
    refine ⟨?_, z.2⟩
    split
    · rfl
    · exact z.1
theorem sim_pass (hI : mI ao q) (hC : xC g X n kc) (hZ : xZ g n) (hR : Rel K X M n kc dd) (p0 : Int32) (h : wPost (cN_pass g X n kc sz p0 0 0) (cC_pass X n kc p0 0 0) cL_passs g X r u) : SimTo l D cI cO cL cJ ao q M yX3_pass wsX3_pass [.int p0] (Gd K r u) := by
  have hd1 := hR.dd1
  have hn := hR.n30
  have hx1 := hR.x1
  have hm0 := hR.m0
  have e10 : (10000 : Int32) - X 1 0 = nI (10000 - dd) := by rw [hx1]; exact pk_sub (a := 10000) hd1
  rcases h with ⟨h0, v, ⟨⟨hin, hle, hu2⟩, hu1⟩, hw⟩ | ⟨⟨E, (⟨rfl, hb⟩ | ⟨rfl, hin, hb⟩), hcd⟩, h1, h2⟩
  · obtain ⟨d, hd, rfl⟩ := inR1_of hin (N := 400) (by decide) rfl
    rw [e10, nI_leI (by omega) (by omega)] at hle
    refine sim_of (kX3_pass_ok l hI M n d hn hR.m1 hd hin (by rw [hm0, nI_add]; exact nI_le (b := 10000) (by omega) (by decide))) (by decide) (fun b M9 hp => ?_)
    have hwt : ∀ a, a < 8 * n → (M 12 a = 1 ∨ M 12 a = 2) → ∃ e, dd < e ∧ e ≤ 20000 ∧ M 14 a = nI e := fun a ha w => by
      have ea : 8 * (a / 8) + a % 8 = a := by omega
      by_cases hj : a % 8 < kc (a / 8)
      · have z := (hR.ln (k := a / 8) (j := a % 8) (by omega) hj).2.2.1
        rw [ea] at z
        rcases z with z | z | z
        · rw [z] at w; rcases w with w | w <;> exact absurd w (by decide)
        · rw [z] at w; rcases w with w | w <;> exact absurd w (by decide)
        · exact z.2
      · have z := (hR.2.2.2.2.2.2.2 (a / 8) (a % 8) (by omega) (by omega) (Or.inr (by omega))).1
        rw [ea] at z
        rw [z] at w; rcases w with w | w <;> exact absurd w (by decide)
    have hp' := pIt_closed n dd (th0 M) hm0 hd1 hwt d hd
    rw [hp'] at hp
    obtain ⟨hp1, hp2⟩ := hp
    dsimp only at hp1 hp2
    have hDe : X 1 0 + nI d = nI (dd + d) := by rw [hx1, nI_add]
    rw [hDe] at hu2
    have hh : ∀ a, a < 8 * n → hX (mu X 1 0 (nI (dd + d))) (nI (dd + d)) a = hP (th0 M) (nI (dd + d)) a := fun a ha => by
      have z := hR.le (a := a) (by omega)
      unfold hX hP
      rw [mu_f _ _ _ _ (by decide), mu_f _ _ _ _ (by decide), show th0 M 12 a = M 12 a from rfl, show th0 M 14 a = M 14 a from rfl, z.2.2.1, z.2.2.2.2]
    rw [qIt_closed _ kc (nI (dd + d)) n (fun k hk => hR.k8 hk) (fun k j hk hj hkj => by
      rw [hh _ (by omega)]
      have z := (hR.2.2.2.2.2.2.2 k j (by omega) hj (Or.inr hkj)).1
      unfold hP
      rw [show th0 M 12 (8 * k + j) = M 12 (8 * k + j) from rfl, z]
      exact decide_eq_false (fun w => by rcases w.1 with w | w <;> exact absurd w (by decide))) n (Nat.le_refl n)] at hu2
    obtain ⟨hv, hX9⟩ := Prod.mk.inj hu2
    have hq : QC (mu X 1 0 (nI (dd + d))) (hX (mu X 1 0 (nI (dd + d))) (nI (dd + d))) (8 * n) = QC (mu X 1 0 (nI (dd + d))) (hP (th0 M) (nI (dd + d))) (8 * n) := by
      funext f i
      unfold QC
      have s1 : sumH (hX (mu X 1 0 (nI (dd + d))) (nI (dd + d))) (cX (mu X 1 0 (nI (dd + d)))) i (8 * n) = sumH (hP (th0 M) (nI (dd + d))) (cX (mu X 1 0 (nI (dd + d)))) i (8 * n) := sumH_congr (8 * n) (fun a ha => ⟨hh a ha, fun _ => rfl⟩)
      rw [s1]
      by_cases hi : i < 8 * n
      · rw [hh i hi]
      · simp [hi]
    refine ⟨?_, fun _ => by rw [hw, hv, hp1, cntH_congr (8 * n) hh], ?_⟩
    · rw [hp2, mu_f _ _ _ _ (by decide), EC_o _ _ _ _ (by decide) (by decide) (by decide), h0]; exact mu_s _ _ _ _
    · dsimp only at hu1 hX9
      rw [hu1, hX9, hq, hp2]
      refine ⟨n, kc, dd + d, hC.same ?_ (fun i => ?_), hZ, (hR.th 0).passed (by omega) (fun a ha w hf => ?_)⟩
      · exact (QC_o _ _ _ _ (by decide) (by decide) (by decide)).trans (mu_f _ _ _ _ (by decide))
      · exact (QC_o _ _ _ _ (by decide) (by decide) (by decide)).trans (mu_f _ _ _ _ (by decide))
      · obtain ⟨e, e1, e2, e3⟩ := hwt a ha w
        refine ⟨e, ?_, e2, e3⟩
        rcases Nat.lt_or_ge (dd + d) e with z | z
        · exact z
        · exfalso
          have : hP (th0 M) (nI (dd + d)) a = true := by
            unfold hP
            refine decide_eq_true ⟨w, ?_⟩
            have e3' : th0 M 14 a = nI e := e3
            rw [e3']
            exact nI_nlt z (by omega)
          rw [this] at hf
          cases hf
  · exact sim_of (kX3_pass_bad l hI M p0 hb) (by decide) (fun b M9 hp => gd_bad hC hZ hR (cd_A2 hcd) (by decide) h1 h2 hp.2)
  · obtain ⟨d, hd, rfl⟩ := inR1_of hin (N := 400) (by decide) rfl
    rw [e10, nI_leI (by omega) (by omega)] at hb
    exact sim_of (kX3_pass_late l hI M (nI d) hin (by rw [hm0, nI_add]; exact nI_ge (a := 10000) (by omega) (by omega))) (by decide) (fun b M9 hp => gd_bad hC hZ hR (cd_S2 hcd) (by decide) h1 h2 hp.2)
end Sims6

/-! THE CLASS AGAINST THE REFERENCE: grade. -/
theorem xC.same {g : XG} {X X' : MS} {n : Nat} {kc : Nat → Nat} (hC : xC g X n kc) (h0 : X' 0 0 = X 0 0) (h7 : ∀ i, X' 7 i = X 7 i) : xC g X' n kc :=
  ⟨hC.1, h0.trans hC.2.1, hC.2.2.1, fun k hk => let z := hC.2.2.2 k hk; ⟨z.1, (h7 k).trans z.2.1, z.2.2⟩⟩
section Sims5
variable {l : Launch} {D : va_G} {cI cO cL cJ : ClassId} {ao : Nat} {q : Nat → Nat} {K : Nat} {g : XG} {X M : MS} {n dd sz : Nat} {kc : Nat → Nat} {r : Int32} {u : wU}
theorem Rel.graded (hR : Rel K X M n kc dd) {k j : Nat} (hk : k < n) (hj : j < kc k) {Y0 N : MS} {z w : Int32} (hz : z = 0 ∨ z = 3) (hN : ∀ f i, f ≤ 14 → N f i = gFee M k (8 * k + j) z w f i) (hY : ∀ f i, 5 ≤ f → Y0 f i = mu X 10 k (X 10 k + feeX X (8 * k + j) w) f i) (hY01 : Y0 0 0 = X 0 0 ∧ Y0 1 0 = X 1 0) (hst : Y0 2 0 = N 15 0 ∧ Y0 3 0 = N 15 1 ∧ Y0 4 0 = N 15 2) : Rel (K + 1) (mu Y0 18 (8 * k + j) z) N n kc dd := by
  have ho := hR.oe hk
  have hl := hR.lns hk j hj
  have hlo := hR.ln hk hj
  have hb := hR.bd hk
  have hfe : feeM (mu (th0 M) 12 (8 * k + j) z) (8 * k + j) w = feeM M (8 * k + j) w := rfl
  have hf := fee_eq hl w
  refine hR.upd1 (Nat.le_succ K) hk hj ⟨hY01.1, by rw [hN 1 0 (by decide)]; rfl, hY01.2, by rw [hN 0 0 (by decide)]; rfl⟩ hst ?_ ?_ ?_ ⟨?_, ?_, ?_, ?_, ?_⟩ ?_ ?_ ⟨?_, ?_⟩
  · intro f i h5 h15 hi
    rw [mu_f _ _ _ _ (by omega), hY f i (by omega)]
    simp [mu_e, hi]
  · intro f i h5 h15 hi
    rw [hN f i (by omega)]
    simp [gFee, mu_e, hi, show f ≠ 12 by omega, show f ≠ 16 by omega]
  · intro i w h1 h2
    rw [hN 9 _ (by decide)]
    simp [gFee, mu_e]
  · unfold oEq at ho ⊢
    rw [mu_f _ _ _ _ (by decide), mu_f _ _ _ _ (by decide), mu_f _ _ _ _ (by decide), mu_f _ _ _ _ (by decide), mu_f _ _ _ _ (by decide), mu_f _ _ _ _ (by decide), mu_f _ _ _ _ (by decide), mu_f _ _ _ _ (by decide), mu_f _ _ _ _ (by decide)]
    rw [hY 5 _ (by decide), hY 6 _ (by decide), hY 7 _ (by decide), hY 10 _ (by decide), hY 11 _ (by decide), hY 12 _ (by decide), hY 13 _ (by decide), hY 14 _ (by decide), hY 15 _ (by decide)]
    rw [hN 2 _ (by decide), hN 3 _ (by decide), hN 4 _ (by decide), hN 6 _ (by decide), hN 7 _ (by decide), hN 8 _ (by decide), hN 9 _ (by decide), hN 9 _ (by decide), hN 9 _ (by decide)]
    simp [gFee, mu_e, ho, hfe, hf]
  · rw [hN 4 _ (by decide)]; simp [gFee, mu_e]
  · rw [hN 2 _ (by decide)]; simp [gFee, mu_e]
  · have := hR.pd hk
    unfold oPd at this ⊢
    rw [mu_f _ _ _ _ (by decide), mu_f _ _ _ _ (by decide), hY 8 _ (by decide), hY 9 _ (by decide), hN 5 _ (by decide)]
    simpa [gFee, mu_e] using this
  · unfold oBd at hb ⊢
    rw [hN 6 _ (by decide), hN 7 _ (by decide), hN 9 _ (by decide), hN 9 _ (by decide), hN 9 _ (by decide)]
    have h5 : Bd (if M 13 (8 * k + j) = 0 then (500 : Int32) else 0) 500 := by
      split
      · exact ⟨500, by omega, rfl⟩
      · exact Bd.zero _
    have h6 := hb.1.add ((fee_bd (w := w) hlo.1).add h5)
    simp only [gFee, mu_e, hfe]
    simp
    exact ⟨h6.mono (by omega), hb.2.1.mono (by omega), hb.2.2.1.mono (by omega), hb.2.2.2.1, hb.2.2.2.2⟩
  · intro f a h5 h15 ha
    rw [mu_i _ _ _ _ ha, hY f a (by omega)]
    simp [mu_e, show f ≠ 10 by omega]
  · intro f a h5 h15 ha
    rw [hN f a (by omega)]
    simp [gFee, mu_e, ha, show f ≠ 16 by omega, show f ≠ 6 by omega]
  · unfold lEq at hl ⊢
    rw [mu_f _ _ _ _ (by decide), mu_f _ _ _ _ (by decide), mu_s, mu_f _ _ _ _ (by decide), mu_f _ _ _ _ (by decide), hY 16 _ (by decide), hY 17 _ (by decide), hY 19 _ (by decide), hY 20 _ (by decide)]
    rw [hN 10 _ (by decide), hN 11 _ (by decide), hN 12 _ (by decide), hN 13 _ (by decide), hN 14 _ (by decide)]
    simp [gFee, mu_e, hl]
  · unfold lOk at hlo ⊢
    rw [hN 10 _ (by decide), hN 11 _ (by decide), hN 12 _ (by decide), hN 13 _ (by decide), hN 14 _ (by decide)]
    refine ⟨by simpa [gFee, mu_e] using hlo.1, by simpa [gFee, mu_e] using hlo.2.1, ?_, by simpa [gFee, mu_e] using hlo.2.2.2⟩
    rcases hz with rfl | rfl
    · exact Or.inl (by simp [gFee, mu_e])
    · exact Or.inr (Or.inl (by simp [gFee, mu_e]))
theorem Rel.gmid (hR : Rel K X M n kc dd) {k j gr : Nat} (hk : k < n) (hj : j < kc k) (hg : gr ≤ 3) {z : Int32} (hz : z = 0 ∨ z = 3) : ∃ N : MS, gMid M k (kc k) (8 * k + j) z gr = gTail N k (kc k) ∧ Rel (K + 1) (mu (putX (mu X 10 k (X 10 k + feeX X (8 * k + j) (nI gr))) (X 19 (8 * k + j)) (nI gr)) 18 (8 * k + j) z) N n kc dd ∧ N 16 0 = 0 := by
  have hl := hR.lns hk j hj
  have hlo := hR.ln hk hj
  have hst := hR.2.1
  have hY : ∀ f i, 5 ≤ f → putX (mu X 10 k (X 10 k + feeX X (8 * k + j) (nI gr))) (X 19 (8 * k + j)) (nI gr) f i = mu X 10 k (X 10 k + feeX X (8 * k + j) (nI gr)) f i := fun f i h => putX_hi _ _ _ i h
  have hY01 := putX_01 (mu X 10 k (X 10 k + feeX X (8 * k + j) (nI gr))) (X 19 (8 * k + j)) (nI gr)
  have e19 : X 19 (8 * k + j) = M 13 (8 * k + j) := hl.2.2.2.1
  have hS : ∀ i f w, f ≤ 14 → gSt (gFee M k (8 * k + j) z (nI gr)) i f w = gFee M k (8 * k + j) z (nI gr) f w := fun i f w h => mu_f _ _ _ _ (by omega)
  have x2 : ∀ v, mu X 10 k v 2 0 = X 2 0 := fun _ => rfl
  rcases (show gr = 0 ∨ gr = 1 ∨ gr = 2 ∨ gr = 3 by omega) with rfl | rfl | rfl | rfl
  · refine ⟨gSt (gFee M k (8 * k + j) z (nI 0)) 0, ?_, hR.graded hk hj hz (hS 0) hY hY01 ?_, rfl⟩
    · unfold gMid
      rw [if_neg (by decide), if_neg (by decide)]
    · unfold putX
      rw [if_pos (show nI 0 = 0 by decide)]
      exact ⟨congrArg (· + 1) hst.1, hst.2.1, hst.2.2⟩
  · rcases hlo.2.2.2 with h13 | h13
    · refine ⟨gSt (gFee M k (8 * k + j) z (nI 1)) 1, ?_, hR.graded hk hj hz (hS 1) hY hY01 ?_, rfl⟩
      · unfold gMid
        rw [if_neg (by decide), if_pos (by decide), if_neg (by rw [h13]; decide)]
      · unfold putX
        rw [if_neg (show ¬ nI 1 = 0 by decide), if_pos (show nI 1 = 1 by decide), if_pos (e19.trans h13)]
        exact ⟨hst.1, congrArg (· + 1) hst.2.1, hst.2.2⟩
    · refine ⟨gSt (gFee M k (8 * k + j) z (nI 1)) 2, ?_, hR.graded hk hj hz (hS 2) hY hY01 ?_, rfl⟩
      · unfold gMid
        rw [if_neg (by decide), if_pos (by decide), if_pos h13]
      · unfold putX
        rw [if_neg (show ¬ nI 1 = 0 by decide), if_pos (show nI 1 = 1 by decide), if_neg (show ¬ X 19 (8 * k + j) = 0 by rw [e19, h13]; decide), if_neg (show ¬ nI 1 = 3 by decide)]
        exact ⟨hst.1, hst.2.1, congrArg (· + 1) hst.2.2⟩
  · refine ⟨gSt (gFee M k (8 * k + j) z (nI 2)) 2, ?_, hR.graded hk hj hz (hS 2) hY hY01 ?_, rfl⟩
    · unfold gMid
      rw [if_neg (by decide), if_neg (by decide)]
    · unfold putX
      rw [if_neg (show ¬ nI 2 = 0 by decide), if_neg (show ¬ nI 2 = 1 by decide), if_neg (show ¬ nI 2 = 3 by decide)]
      exact ⟨hst.1, hst.2.1, congrArg (· + 1) hst.2.2⟩
  · refine ⟨gFee M k (8 * k + j) z (nI 3), ?_, hR.graded hk hj hz (fun _ _ _ => rfl) hY hY01 ?_, rfl⟩
    · unfold gMid
      rw [if_pos (by decide)]
    · unfold putX
      rw [if_neg (show ¬ nI 3 = 0 by decide), if_neg (show ¬ nI 3 = 1 by decide), if_pos (show nI 3 = 3 by decide)]
      exact ⟨hst.1, hst.2.1, hst.2.2⟩
theorem sim_grade (hK : K ≤ 512) (hI : mI ao q) (hC : xC g X n kc) (hZ : xZ g n) (hR : Rel K X M n kc dd) (p0 p1 p2 : Int32) (h : wPost (cN_grade g X n kc sz p0 p1 p2) (cC_grade X n kc p0 p1 p2) cL_grades g X r u) : SimTo l D cI cO cL cJ ao q M yX3_grade wsX3_grade [.int p0, .int p1, .int p2] (Gd K r u) := by
  rcases h with ⟨h0, v, ⟨⟨k, j, ⟨hk, rfl, hj, rfl⟩, hin, hwt, hu2⟩, hu1⟩, hw⟩ | ⟨⟨E, (⟨rfl, hb⟩ | ⟨rfl, k, hk, rfl, hb⟩ | ⟨rfl, k, j, ⟨hk, rfl, hj, rfl⟩, hb⟩ | ⟨rfl, k, j, ⟨hk, rfl, hj, rfl⟩, hin, hwt⟩), hcd⟩, h1, h2⟩
  · obtain ⟨gr, hg, rfl⟩ := inR_of hin (N := 3) (by decide) rfl
    refine sim_of (kX3_grade_ok l hI M k n j (kc k) gr hk hR.n30 hR.m1 hj (hR.k8 hk) (hR.m4 hk) hg) (by decide) (fun b M9 hp => ?_)
    have e18 : X 18 (8 * k + j) = M 12 (8 * k + j) := (hR.lns hk j hj).2.2.1
    have key : ∀ z : Int32, (z = 0 ∨ z = 3) → (if M 12 (8 * k + j) = 1 then (3 : Int32) else 0) = z → (b, M9) = gMid M k (kc k) (8 * k + j) z gr → Gd K r u b M9 := by
      intro z hz hz2 hp
      obtain ⟨N, e1, hR2, e16⟩ := hR.gmid hk hj hg hz
      obtain ⟨k1, k2, k3⟩ := hR2.refund (by omega) hk (by omega)
      rw [e1] at hp
      unfold gradeX at hu2
      rw [putX_hi _ _ _ _ (by decide), mu_f _ _ _ _ (by decide), e18, hz2] at hu2
      have hv : v = (gTail N k (kc k)).1 := by rw [← k2, ← hu2]
      have hX : u.2.1 = (refundX (mu (putX (mu X 10 k (X 10 k + feeX X (8 * k + j) (nI gr))) (X 19 (8 * k + j)) (nI gr)) 18 (8 * k + j) z) k (kc k)).2 := by rw [← hu2]
      have hM9 : M9 = (gTail N k (kc k)).2 := by rw [← hp]
      have hb9 : b = (gTail N k (kc k)).1 := by rw [← hp]
      refine ⟨by rw [hM9, k3, e16, h0], fun _ => by rw [hw, hv, hb9], ?_⟩
      dsimp only at hu1
      rw [hu1, hX, hM9]
      refine ⟨n, kc, dd, hC.same ?_ (fun i => ?_), hZ, k1⟩
      · unfold refundX
        simp [mu_e]
        exact (putX_01 _ _ _).1
      · unfold refundX
        simp [mu_e]
        rw [putX_hi _ _ _ _ (by decide)]
        simp [mu_e]
    unfold mGrade at hp
    by_cases h1 : M 12 (8 * k + j) = 1
    · rw [if_pos h1] at hp
      exact key 3 (Or.inr rfl) (if_pos h1) hp
    · rw [if_neg h1] at hp
      by_cases h2 : M 12 (8 * k + j) = 2
      · rw [if_pos h2] at hp
        exact key 0 (Or.inl rfl) (if_neg h1) hp
      · refine absurd ?_ hwt
        unfold wtX
        rw [e18, if_neg h1, if_neg h2]
  · exact sim_of (kX3_grade_bad l hI M p0 p1 p2 n hb hR.n30 hR.m1) (by decide) (fun b M9 hp => gd_bad hC hZ hR (cd_O3 hcd) (by decide) h1 h2 hp.2)
  · exact sim_of (kX3_grade_bad2 l hI M k n (kc k) p1 p2 hk hR.n30 hR.m1 (hR.k8 hk) (hR.m4 hk) hb) (by decide) (fun b M9 hp => gd_bad hC hZ hR (cd_O3 hcd) (by decide) h1 h2 hp.2)
  · exact sim_of (kX3_grade_badg l hI M k n j (kc k) p2 hk hR.n30 hR.m1 hj (hR.k8 hk) (hR.m4 hk) hb) (by decide) (fun b M9 hp => gd_bad2 hC hZ hR (cd_A3 hcd) (by decide) h1 h2 hp.2)
  · obtain ⟨gr, hg, rfl⟩ := inR_of hin (N := 3) (by decide) rfl
    refine sim_of (kX3_grade_ok l hI M k n j (kc k) gr hk hR.n30 hR.m1 hj (hR.k8 hk) (hR.m4 hk) hg) (by decide) (fun b M9 hp => ?_)
    have e18 : X 18 (8 * k + j) = M 12 (8 * k + j) := (hR.lns hk j hj).2.2.1
    unfold wtX at hwt
    rw [e18] at hwt
    unfold mGrade at hp
    by_cases h3 : M 12 (8 * k + j) = 1
    · rw [if_pos h3] at hwt; exact absurd hwt (by decide)
    · rw [if_neg h3] at hwt hp
      by_cases h4 : M 12 (8 * k + j) = 2
      · rw [if_pos h4] at hwt; exact absurd hwt (by decide)
      · rw [if_neg h4] at hp
        exact gd_bad2 hC hZ hR (cd_S3 hcd) (by decide) h1 h2 (Prod.mk.inj hp).2
end Sims5

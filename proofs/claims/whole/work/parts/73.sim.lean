/-! THE CLASS AGAINST THE REFERENCE: pay, grade. -/
section Sims4
variable {l : Launch} {D : va_G} {cI cO cL cJ : ClassId} {ao : Nat} {q : Nat → Nat} {K : Nat} {g : XG} {X M : MS} {n dd sz : Nat} {kc : Nat → Nat} {r : Int32} {u : wU}
theorem Rel.pay (hR : Rel K X M n kc dd) {k : Nat} {z1 z2 : Nat} (hk : k < n) (h0 : ¬ kc k = 0) (hz1 : z1 ≤ 1000000) (hz2 : z2 ≤ 1000000) :
    Rel (K + 1) (settleX X k (kc k) (nI z1) (nI z2) (X 1 0)) (mu (mu (mu (mu (th0 M) 9 (3 * k + 2) (payA (th0 M) k (kc k) (nI z1))) 9 (3 * k + 1) (payB (th0 M) k (kc k) (nI z1) (nI z2))) 9 (3 * k) (priceM (th0 M) k (kc k) - payA (th0 M) k (kc k) (nI z1) - payB (th0 M) k (kc k) (nI z1) (nI z2))) 5 k (M 0 0 + 1)) n kc dd ∧ (settleX X k (kc k) (nI z1) (nI z2) (X 1 0)) 13 k = priceM (th0 M) k (kc k) - payA (th0 M) k (kc k) (nI z1) - payB (th0 M) k (kc k) (nI z1) (nI z2) := by
  have ho := hR.oe hk
  have hb := (hR.bd hk).mono
  have hd1 := hR.dd1
  have hpr : priceX X k (kc k) = priceM (th0 M) k (kc k) := (hR.th 0).pr hk
  obtain ⟨P, hP, eP⟩ := (hR.th 0).prB hk
  have eA : stA X k (kc k) (nI z1) = payA (th0 M) k (kc k) (nI z1) := by unfold stA payA; rw [minLeast, hpr]
  have eB : stB X k (kc k) (nI z1) (nI z2) = payB (th0 M) k (kc k) (nI z1) (nI z2) := by unfold stB payB; rw [minLeast, hpr, eA]
  have vA : payA (th0 M) k (kc k) (nI z1) = nI (min z1 P) := by unfold payA; rw [eP, least_nI (by omega) (by omega)]
  have vB : payB (th0 M) k (kc k) (nI z1) (nI z2) = nI (min z2 (P - min z1 P)) := by unfold payB; rw [vA, eP, pk_sub (by omega), least_nI (by omega) (by omega)]
  have vC : priceM (th0 M) k (kc k) - payA (th0 M) k (kc k) (nI z1) - payB (th0 M) k (kc k) (nI z1) (nI z2) = nI (P - min z1 P - min z2 (P - min z1 P)) := by rw [vA, vB, eP, pk_sub (by omega), pk_sub (by omega)]
  unfold settleX
  rw [eA, eB, hpr, vA, vB, eP, pk_sub (by omega), pk_sub (by omega)]
  refine ⟨?_, by simp [mu_e]⟩
  refine hR.upd1 (Nat.le_succ K) hk (j := 0) (by omega) ⟨rfl, rfl, rfl, rfl⟩ hR.2.1 ?_ ?_ ?_ ⟨?_, by simp [mu_e], by simp [mu_e], ?_, ?_⟩ ?_ ?_ ⟨?_, ?_⟩
  · intro f i h5 h15 hi
    simp [mu_e, hi]
  · intro f i h5 h15 hi
    simp [mu_e, hi, show f ≠ 9 by omega, show f ≠ 16 by omega]
  · intro i w h1 h2
    simp [mu_e, show ¬ (3 * i + w = 3 * k) by omega, show ¬ (3 * i + w = 3 * k + 1) by omega, show ¬ (3 * i + w = 3 * k + 2) by omega]
  · unfold oEq at ho ⊢
    simp [mu_e, ho]
  · refine Or.inr ⟨by simp [mu_e], dd, Nat.le_refl _, by simp [mu_e, hR.x1], ?_⟩
    simp [mu_e, hR.m0]
    exact nI_1 dd
  · unfold oBd at hb ⊢
    simp only [mu_e]
    simp [hb]
    exact ⟨⟨_, by omega, rfl⟩, ⟨_, by omega, rfl⟩, ⟨_, by omega, rfl⟩⟩
  · intro f a h5 h15 ha
    simp [mu_e, show f ≠ 15 by omega, show f ≠ 14 by omega, show f ≠ 13 by omega, show f ≠ 8 by omega, show f ≠ 9 by omega]
  · intro f a h5 h15 ha
    simp [mu_e, show f ≠ 9 by omega, show f ≠ 5 by omega, show f ≠ 16 by omega]
  · have hl := hR.lns hk 0 (by omega)
    unfold lEq at hl ⊢
    simpa [mu_e] using hl
  · have hl := hR.ln hk (j := 0) (by omega)
    unfold lOk at hl ⊢
    simpa [mu_e] using hl
theorem sim_pay (hI : mI ao q) (hC : xC g X n kc) (hZ : xZ g n) (hR : Rel K X M n kc dd) (p0 p1 p2 : Int32) (h : wPost (cN_pay g X n kc sz p0 p1 p2) (cC_pay X n kc p0 p1 p2) cL_pays g X r u) : SimTo l D cI cO cL cJ ao q M yX3_pay wsX3_pay [.int p0, .int p1, .int p2] (Gd K r u) := by
  have hd1 := hR.dd1
  rcases h with ⟨h0, v, ⟨⟨k, hk, rfl, hi1, hi2, h8, h7, hu2, hv⟩, hu1⟩, hw⟩ | ⟨⟨E, (⟨rfl, hb⟩ | ⟨rfl, k, hk, rfl, hb⟩ | ⟨rfl, k, hk, rfl, hi1, hi2, hb⟩), hcd⟩, h1, h2⟩
  · refine sim_of (kX3_pay_ok l hI M k n (kc k) p1 p2 hk hR.n30 hR.m1 (hR.k8 hk) (hR.m4 hk)) (by decide) (fun b M9 hp => ?_)
    have h5 : M 5 k = 0 := by
      rcases hR.pd hk with h | h
      · exact h.2
      · exact absurd (h.1.symm.trans h8) (by decide)
    have hX7 : X 7 k = nI (kc k) := (hR.oe hk).2.2.1.trans (hR.m4 hk)
    have hkc : ¬ kc k = 0 := fun z => h7 (by rw [hX7, z]; rfl)
    have hk8 := hR.k8 hk
    unfold mPay at hp
    rw [if_pos hi1, if_pos hi2, if_neg (show ¬ 0 < M 5 k by rw [h5]; decide), if_neg (nI_ne0 (by omega) (by omega))] at hp
    obtain ⟨hp1, hp2⟩ := Prod.mk.inj hp
    dsimp only at hu1 hu2
    obtain ⟨z1, hz1, rfl⟩ := inR_of hi1 (N := 1000000) (by decide) rfl
    obtain ⟨z2, hz2, rfl⟩ := inR_of hi2 (N := 1000000) (by decide) rfl
    obtain ⟨k1, k2⟩ := hR.pay hk hkc hz1 hz2
    refine ⟨by rw [hp2, h0]; rfl, fun _ => by rw [hw, hp1, hv, hu2]; exact congrArg Int32.toInt64 k2, ?_⟩
    rw [hu1, hu2, hp2]
    refine ⟨n, kc, dd, ⟨hC.1, hC.2.1, hC.2.2.1, fun i hi => ?_⟩, hZ, k1⟩
    have := hC.2.2.2 i hi
    refine ⟨this.1, ?_, this.2.2⟩
    simpa [settleX, mu_e] using this.2.1
  · exact sim_of (kX3_pay_bad l hI M p0 p1 p2 n hb hR.n30 hR.m1) (by decide) (fun b M9 hp => gd_bad hC hZ hR (cd_O3 hcd) (by decide) h1 h2 hp.2)
  · refine sim_of (kX3_pay_ok l hI M k n (kc k) p1 p2 hk hR.n30 hR.m1 (hR.k8 hk) (hR.m4 hk)) (by decide) (fun b M9 hp => ?_)
    unfold mPay at hp
    have e : (b, M9) = (0, th2 M 2) := by
      rcases hb with hb | hb
      · rw [if_neg hb] at hp; exact hp
      · by_cases hi : inR p1 0 1000000
        · rw [if_pos hi, if_neg hb] at hp; exact hp
        · rw [if_neg hi] at hp; exact hp
    exact gd_bad2 hC hZ hR (cd_A3 hcd) (by decide) h1 h2 (Prod.mk.inj e).2
  · refine sim_of (kX3_pay_ok l hI M k n (kc k) p1 p2 hk hR.n30 hR.m1 (hR.k8 hk) (hR.m4 hk)) (by decide) (fun b M9 hp => ?_)
    unfold mPay at hp
    rw [if_pos hi1, if_pos hi2] at hp
    have hX7 : X 7 k = nI (kc k) := (hR.oe hk).2.2.1.trans (hR.m4 hk)
    have e : (b, M9) = (0, th2 M 3) := by
      by_cases h5 : 0 < M 5 k
      · rw [if_pos h5] at hp; exact hp
      · rw [if_neg h5] at hp
        have h8 : X 8 k = 0 := by
          rcases hR.pd hk with h | ⟨_, pd, hpd, _, e3⟩
          · exact h.1
          · exact absurd (by rw [e3]; exact nI_lt (a := 0) (b := pd + 1) (by omega) (by omega)) h5
        have hk8 : nI (kc k) = 0 := by
          rcases hb with hb | hb
          · exact absurd h8 hb
          · rw [← hX7]; exact hb
        rw [if_pos hk8] at hp; exact hp
    exact gd_bad2 hC hZ hR (cd_S3 hcd) (by decide) h1 h2 (Prod.mk.inj e).2
/-- the refund -/
theorem Rel.refund (hR : Rel K X M n kc dd) (hK : K ≤ 513) {k : Nat} (hk : k < n) (h0 : ¬ kc k = 0) : Rel K (refundX X k (kc k)).2 (gTail M k (kc k)).2 n kc dd ∧ (refundX X k (kc k)).1 = (gTail M k (kc k)).1 ∧ (gTail M k (kc k)).2 16 0 = M 16 0 := by
  have ho := hR.oe hk
  have hb := hR.bd hk
  obtain ⟨P, hP, eP⟩ := hR.prB hk
  obtain ⟨⟨fe, hfe, e6⟩, ⟨ch, hch, e7⟩, ⟨c, hc, e9⟩, ⟨v, hv, e91⟩, ⟨p, hp, e92⟩⟩ := hb
  have et : takenM M k = nI (c + v + p) := by unfold takenM; rw [e9, e91, e92, nI_add, nI_add]
  have eo : owesM M k (kc k) = nI (P + fe + ch) := by unfold owesM; rw [eP, e6, e7, nI_add, nI_add]
  have eS : (if takenM M k - owesM M k (kc k) ≤ 0 then 0 else takenM M k - owesM M k (kc k)) = nI (c + v + p - (P + fe + ch)) := by
    rw [et, eo]
    by_cases h : P + fe + ch ≤ c + v + p
    · rw [pk_sub h]
      split
      · next h2 =>
        have := (nI_leI (a := c + v + p - (P + fe + ch)) (b := 0) (by omega) (by decide)).mp h2
        rw [show c + v + p - (P + fe + ch) = 0 by omega]; rfl
      · rfl
    · have h3 := pk_sneg (a := c + v + p) (b := P + fe + ch) (by omega) (by omega)
      rw [if_pos (Int32.le_of_lt h3), show c + v + p - (P + fe + ch) = 0 by omega]; rfl
  generalize hs : c + v + p - (P + fe + ch) = s at eS
  have hs2 : s ≤ c + v + p := by omega
  have xS : surX X k (kc k) = nI s := by
    unfold surX
    rw [max0, hR.taken hk, hR.owed hk]
    exact eS
  have vA : gI0 M k (nI s) = nI (min s c) := by unfold gI0; rw [e9, least_nI (by omega) (by omega)]
  have vB : gI1 M k (nI s) = nI (min (s - min s c) v) := by unfold gI1; rw [vA, e91, pk_sub (by omega), least_nI (by omega) (by omega)]
  have vC : gI2 M k (nI s) = nI (s - min s c - min (s - min s c) v) := by
    unfold gI2
    rw [vA, vB, e92, pk_sub (by omega), pk_sub (by omega), least_nI (by omega) (by omega)]
    congr 1
    omega
  have x13 : X 13 k = nI c := ho.2.2.2.2.2.2.1.trans e9
  have x14 : X 14 k = nI v := ho.2.2.2.2.2.2.2.1.trans e91
  have x15 : X 15 k = nI p := ho.2.2.2.2.2.2.2.2.trans e92
  have wA : rfA X k (kc k) = nI (min s c) := by unfold rfA; rw [xS, minLeast, x13, least_nI (by omega) (by omega)]
  have wB : rfB X k (kc k) = nI (min (s - min s c) v) := by unfold rfB; rw [xS, wA, minLeast, x14, pk_sub (by omega), least_nI (by omega) (by omega)]
  unfold refundX gTail gEnd
  rw [eS, xS, wA, wB, vA, vB, vC, x13, x14, x15, e9, e91, e92, pk_sub (by omega), pk_sub (by omega), pk_sub (by omega), pk_sub (by omega), pk_sub (by omega)]
  refine ⟨?_, rfl, by simp [mu_e]⟩
  refine hR.upd1 (Nat.le_refl K) hk (j := 0) (by omega) ⟨rfl, rfl, rfl, rfl⟩ hR.2.1 ?_ ?_ ?_ ⟨?_, by simp [mu_e], by simp [mu_e], ?_, ?_⟩ ?_ ?_ ⟨?_, ?_⟩
  · intro f i h5 h15 hi
    simp [mu_e, hi]
  · intro f i h5 h15 hi
    simp [mu_e, hi, show f ≠ 9 by omega]
  · intro i w h1 h2
    simp [mu_e, show ¬ (3 * i + w = 3 * k) by omega, show ¬ (3 * i + w = 3 * k + 1) by omega, show ¬ (3 * i + w = 3 * k + 2) by omega]
  · unfold oEq at ho ⊢
    simp [mu_e, ho]
  · have := hR.pd hk
    unfold oPd at this ⊢
    simpa [mu_e] using this
  · unfold oBd
    simp only [mu_e]
    simp
    exact ⟨⟨fe, hfe, e6⟩, ⟨ch, hch, e7⟩, ⟨_, by omega, rfl⟩, ⟨_, by omega, rfl⟩, ⟨_, by omega, rfl⟩⟩
  · intro f a h5 h15 ha
    simp [mu_e, show f ≠ 15 by omega, show f ≠ 14 by omega, show f ≠ 13 by omega, show f ≠ 12 by omega]
  · intro f a h5 h15 ha
    simp [mu_e, show f ≠ 9 by omega, show f ≠ 8 by omega]
  · have hl := hR.lns hk 0 (by omega)
    unfold lEq at hl ⊢
    simpa [mu_e] using hl
  · have hl := hR.ln hk (j := 0) (by omega)
    unfold lOk at hl ⊢
    simpa [mu_e] using hl
theorem fee_bd {M : MS} {a : Nat} {w : Int32} (h : Bd (M 10 a) 100000) : Bd (feeM M a w) 100000 := by
  obtain ⟨v, hv, e⟩ := h
  have h2 : Bd (feeM2 M a w) 100000 := by
    unfold feeM2
    rw [e]
    split
    · split
      · exact ⟨v / 2, by omega, pk_div (a := v) (d := 2) (by omega) (by decide) (by decide)⟩
      · exact ⟨v / 5, by omega, pk_div (a := v) (d := 5) (by omega) (by decide) (by decide)⟩
    · exact ⟨v, hv, rfl⟩
  unfold feeM
  split
  · exact Bd.zero _
  · split
    · split
      · exact h2
      · exact Bd.zero _
    · exact h2
theorem fee_eq {X M : MS} {a : Nat} (h : lEq X M a) (w : Int32) : feeX X a w = feeM M a w + (if M 13 a = 0 then 500 else 0) := by
  have e : gfX X a w = feeM M a w := by
    unfold gfX feeM gfX2 feeM2
    rw [h.1, h.2.1, h.2.2.2.1]
  unfold feeX
  rw [e, h.2.2.2.1]
  split
  · exact Int32.add_comm _ _
  · exact Int32.add_comm _ _
theorem putX_hi (X : MS) (a b : Int32) {f : Nat} (i : Nat) (hf : 5 ≤ f) : putX X a b f i = X f i := by
  unfold putX
  have h2 : f ≠ 2 := by omega
  have h3 : f ≠ 3 := by omega
  have h4 : f ≠ 4 := by omega
  split
  · exact mu_f _ _ _ _ h2
  · split
    · split
      · exact mu_f _ _ _ _ h3
      · split
        · rfl
        · exact mu_f _ _ _ _ h4
    · split
      · rfl
      · exact mu_f _ _ _ _ h4
theorem putX_01 (X : MS) (a b : Int32) : putX X a b 0 0 = X 0 0 ∧ putX X a b 1 0 = X 1 0 := by
  unfold putX
  split
  · exact ⟨rfl, rfl⟩
  · split
    · split
      · exact ⟨rfl, rfl⟩
      · split
        · exact ⟨rfl, rfl⟩
        · exact ⟨rfl, rfl⟩
    · split
      · exact ⟨rfl, rfl⟩
      · exact ⟨rfl, rfl⟩
end Sims4

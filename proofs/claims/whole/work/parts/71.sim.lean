/-! THE CLASS AGAINST THE REFERENCE, method by method: what writes. -/
theorem sub_step (a b : Int32) : a - (b + 1) + 1 = a - b := by
  have h : (a - (b + 1) + 1) + b = (a - b) + b := by
    rw [Int32.sub_add_cancel, Int32.add_assoc, Int32.add_comm 1 b, Int32.sub_add_cancel]
  have h2 := congrArg (fun z => z - b) h
  simpa using h2
theorem least_nI {a b : Nat} (ha : a < 2 ^ 31) (hb : b < 2 ^ 31) : leastI (nI a) (nI b) = nI (min a b) := by
  unfold leastI
  by_cases h : b ≤ a
  · rw [if_pos ((nI_leI hb ha).mpr h), Nat.min_eq_right h]
  · rw [if_neg (fun z => h ((nI_leI hb ha).mp z)), Nat.min_eq_left (by omega)]
theorem inR1_of {p : Int32} {N : Nat} {x : Int32} (h : inR p 1 x) (hN : N < 2 ^ 31) (hx : x = nI N) : ∃ z : Nat, z ≤ N ∧ p = nI z := by
  refine inR_of ⟨fun z => h.1 ?_, h.2⟩ hN hx
  have h1 := Int32.lt_iff_toInt_lt.mp z
  refine Int32.lt_iff_toInt_lt.mpr ?_
  have e0 : (0 : Int32).toInt = 0 := by decide
  have e1 : (1 : Int32).toInt = 1 := by decide
  rw [e0] at h1
  rw [e1]
  omega
theorem Rel.upd1 {K K' : Nat} {X M X' M' : MS} {n dd k j : Nat} {kc : Nat → Nat} (hR : Rel K X M n kc dd) (hK : K ≤ K') (hk : k < n) (hj : j < kc k)
    (h0 : X' 0 0 = X 0 0 ∧ M' 1 0 = M 1 0 ∧ X' 1 0 = X 1 0 ∧ M' 0 0 = M 0 0) (hst : X' 2 0 = M' 15 0 ∧ X' 3 0 = M' 15 1 ∧ X' 4 0 = M' 15 2)
    (hX : ∀ f i, 5 ≤ f → f ≤ 15 → i ≠ k → X' f i = X f i) (hM : ∀ f i, 2 ≤ f → f ≤ 8 → i ≠ k → M' f i = M f i) (hM9 : ∀ i w, w < 3 → i ≠ k → M' 9 (3 * i + w) = M 9 (3 * i + w))
    (hk2 : oEq X' M' k ∧ M' 4 k = M 4 k ∧ M' 2 k = M 2 k ∧ oPd X' M' dd k ∧ oBd K' M' k)
    (hXl : ∀ f a, 16 ≤ f → f ≤ 20 → a ≠ 8 * k + j → X' f a = X f a) (hMl : ∀ f a, 10 ≤ f → f ≤ 14 → a ≠ 8 * k + j → M' f a = M f a)
    (hl : lEq X' M' (8 * k + j) ∧ lOk M' dd (8 * k + j)) : Rel K' X' M' n kc dd := by
  obtain ⟨a1, a2, a3, a4, a5, a6, a7, a8⟩ := hR
  refine ⟨⟨a1.1, h0.2.1.trans a1.2.1, h0.1.trans a1.2.2.1, a1.2.2.2.1, h0.2.2.2.trans a1.2.2.2.2.1, h0.2.2.1.trans a1.2.2.2.2.2⟩, hst, ?_, ?_, ?_, ?_, ?_, ?_⟩
  · intro i hi
    by_cases e : i = k
    · subst e; exact hk2.1
    · have := a3 i hi
      unfold oEq at this ⊢
      have m0 := hM9 i 0 (by decide) e
      have m1 := hM9 i 1 (by decide) e
      have m2 := hM9 i 2 (by decide) e
      rw [hX 5 i (by decide) (by decide) e, hX 6 i (by decide) (by decide) e, hX 7 i (by decide) (by decide) e, hX 10 i (by decide) (by decide) e, hX 11 i (by decide) (by decide) e, hX 12 i (by decide) (by decide) e, hX 13 i (by decide) (by decide) e, hX 14 i (by decide) (by decide) e, hX 15 i (by decide) (by decide) e, hM 2 i (by decide) (by decide) e, hM 3 i (by decide) (by decide) e, hM 4 i (by decide) (by decide) e, hM 6 i (by decide) (by decide) e, hM 7 i (by decide) (by decide) e, hM 8 i (by decide) (by decide) e, m1, m2]
      rw [Nat.add_zero] at m0
      rw [m0]
      exact this
  · intro a ha
    by_cases e : a = 8 * k + j
    · subst e; exact hl.1
    · have := a4 a ha
      unfold lEq at this ⊢
      rw [hXl 16 a (by decide) (by decide) e, hXl 17 a (by decide) (by decide) e, hXl 18 a (by decide) (by decide) e, hXl 19 a (by decide) (by decide) e, hXl 20 a (by decide) (by decide) e, hMl 10 a (by decide) (by decide) e, hMl 11 a (by decide) (by decide) e, hMl 12 a (by decide) (by decide) e, hMl 13 a (by decide) (by decide) e, hMl 14 a (by decide) (by decide) e]
      exact this
  · intro i hi
    by_cases e : i = k
    · subst e
      have := a5 i hi
      exact ⟨this.1, hk2.2.1.trans this.2.1, by rw [hk2.2.2.1]; exact this.2.2.1, hk2.2.2.2.1, hk2.2.2.2.2⟩
    · have := a5 i hi
      refine ⟨this.1, (hM 4 i (by decide) (by decide) e).trans this.2.1, by rw [hM 2 i (by decide) (by decide) e]; exact this.2.2.1, ?_, ?_⟩
      · have q := this.2.2.2.1
        unfold oPd at q ⊢
        rw [hX 8 i (by decide) (by decide) e, hX 9 i (by decide) (by decide) e, hM 5 i (by decide) (by decide) e]
        exact q
      · have q := this.2.2.2.2
        have m0 := hM9 i 0 (by decide) e
        rw [Nat.add_zero] at m0
        refine ⟨?_, ?_, ?_, ?_, ?_⟩
        · rw [hM 6 i (by decide) (by decide) e]; exact q.1.mono (by omega)
        · rw [hM 7 i (by decide) (by decide) e]; exact q.2.1.mono (by omega)
        · rw [m0]; exact q.2.2.1.mono (by omega)
        · rw [hM9 i 1 (by decide) e]; exact q.2.2.2.1
        · rw [hM9 i 2 (by decide) e]; exact q.2.2.2.2
  · intro i hn hi
    have e : i ≠ k := by omega
    have := a6 i hn hi
    unfold o0 at this ⊢
    have m0 := hM9 i 0 (by decide) e
    rw [Nat.add_zero] at m0
    rw [hM 4 i (by decide) (by decide) e, hM 5 i (by decide) (by decide) e, hM 6 i (by decide) (by decide) e, hM 7 i (by decide) (by decide) e, hM 8 i (by decide) (by decide) e, m0, hM9 i 1 (by decide) e, hM9 i 2 (by decide) e]
    exact this
  · intro i w hi hw
    by_cases e : 8 * i + w = 8 * k + j
    · rw [e]; exact hl.2
    · have := a7 i w hi hw
      unfold lOk at this ⊢
      rw [hMl 10 _ (by decide) (by decide) e, hMl 11 _ (by decide) (by decide) e, hMl 12 _ (by decide) (by decide) e, hMl 13 _ (by decide) (by decide) e, hMl 14 _ (by decide) (by decide) e]
      exact this
  · intro i w hi hw ho
    have h8 : kc k ≤ 8 := (a5 k hk).1
    have e : 8 * i + w ≠ 8 * k + j := by
      intro e
      have e1 : i = k := by omega
      have e2 : w = j := by omega
      subst e1 e2
      omega
    have := a8 i w hi hw ho
    unfold l0 at this ⊢
    rw [hMl 12 _ (by decide) (by decide) e, hMl 13 _ (by decide) (by decide) e, hMl 14 _ (by decide) (by decide) e]
    exact this
section Sims2
variable {l : Launch} {D : va_G} {cI cO cL cJ : ClassId} {ao : Nat} {q : Nat → Nat} {K : Nat} {g : XG} {X M : MS} {n dd sz : Nat} {kc : Nat → Nat} {r : Int32} {u : wU}
theorem Rel.may (hR : Rel K X M n kc dd) {k j : Nat} (hk : k < n) (hj : j < kc k) (w : Int32) : retX X k (8 * k + j) w = mayM M k (8 * k + j) w := by
  have hl := hR.lns hk j hj
  have hd1 := hR.dd1
  unfold retX mayM
  rcases hR.pd hk with ⟨e1, e2⟩ | ⟨e1, pd, hpd, e2, e3⟩
  · rw [if_pos e1, e2, if_pos (by decide)]
  · rw [if_neg (show ¬ X 8 k = 0 by rw [e1]; decide), if_neg (show ¬ M 5 k ≤ 0 by rw [e3]; exact nI_nle (by omega) (by omega)), hl.2.2.1, e2, e3, hR.x1, hR.m0, nI_succ, sub_step]
    have hs : spanX X (8 * k + j) w = mostM M (8 * k + j) w := by
      unfold spanX mostM
      rw [hl.2.1]
      rcases (hR.ln hk hj).2.1 with h | h | h <;> simp [h]
    rw [hs]
theorem mayM_01 (M : MS) (o a : Nat) (w : Int32) : mayM M o a w = 0 ∨ mayM M o a w = 1 := by
  unfold mayM
  split
  · exact Or.inl rfl
  · split
    · split
      · exact Or.inl rfl
      · exact Or.inr rfl
    · exact Or.inl rfl
theorem sim_isShortBy (hI : mI ao q) (hC : xC g X n kc) (hZ : xZ g n) (hR : Rel K X M n kc dd) (p0 : Int32) (h : wPost (cN_isShortBy g X n kc sz p0 0 0) (cC_isShortBy X n kc p0 0 0) cL_isShortBys g X r u) : SimTo l D cI cO cL cJ ao q M yX3_isShortBy wsX3_isShortBy [.int p0] (Gd K r u) := by
  rcases h with ⟨h0, v, ⟨⟨k, hk, rfl, rfl⟩, hu⟩, hw⟩ | ⟨⟨E, ⟨rfl, hb⟩, hcd⟩, h1, h2⟩
  · refine sim_of (kX3_isShortBy_ok l hI M k n (kc k) hk hR.n30 hR.m1 (hR.k8 hk) (hR.m4 hk)) (by decide) (fun b M9 hp => gd_read hC hZ hR h0 hu hw (hp.1.trans ?_) hp.2)
    have hd1 := hR.dd1
    unfold shX mShort
    rcases hR.pd hk with ⟨e1, e2⟩ | ⟨e1, pd, hpd, e2, e3⟩
    · rw [if_pos e1, if_pos e2]
    · rw [if_neg (show ¬ M 5 k = 0 by rw [e3]; exact nI_ne0 (by omega) (by omega)), if_neg (show ¬ X 8 k = 0 by rw [e1]; decide), max0, (hR.th 0).owed hk, (hR.th 0).taken hk]
  · exact sim_of (kX3_isShortBy_bad l hI M p0 n hb hR.n30 hR.m1) (by decide) (fun b M9 hp => gd_bad hC hZ hR (cd_O1 hcd) (by decide) h1 h2 hp.2)
theorem sim_mayComeBack (hI : mI ao q) (hC : xC g X n kc) (hZ : xZ g n) (hR : Rel K X M n kc dd) (p0 p1 p2 : Int32) (h : wPost (cN_mayComeBack g X n kc sz p0 p1 p2) (cC_mayComeBack X n kc p0 p1 p2) cL_mayComeBacks g X r u) : SimTo l D cI cO cL cJ ao q M yX3_mayComeBack wsX3_mayComeBack [.int p0, .int p1, .int p2] (fun b M9 => Gd K r u b M9 ∧ (b = 0 ∨ b = 1)) := by
  rcases h with ⟨h0, v, ⟨⟨k, j, ⟨hk, rfl, hj, rfl⟩, hin, rfl⟩, hu⟩, hw⟩ | ⟨⟨E, (⟨rfl, hb⟩ | ⟨rfl, k, hk, rfl, hb⟩ | ⟨rfl, k, j, ⟨hk, rfl, hj, rfl⟩, hb⟩), hcd⟩, h1, h2⟩
  · refine sim_of (kX3_mayComeBack_ok l hI M k n j (kc k) p2 hk hR.n30 hR.m1 hj (hR.k8 hk) (hR.m4 hk)) (by decide) (fun b M9 hp => ?_)
    have e := hR.may hk hj p2
    have e2 : mayM (th2 M 0) k (8 * k + j) p2 = mayM M k (8 * k + j) p2 := rfl
    unfold mMay at hp
    rw [if_pos hin, e2] at hp
    rcases mayM_01 M k (8 * k + j) p2 with h9 | h9
    · rw [h9, if_pos rfl] at hp
      obtain ⟨hp1, hp2⟩ := Prod.mk.inj hp
      refine ⟨⟨by rw [hp2, h0]; exact mu_s _ _ _ _, fun _ => by rw [hw, hp1, e, h9], ?_⟩, Or.inl hp1⟩
      rw [(Prod.mk.inj hu).1, (Prod.mk.inj hu).2, hp2]
      exact ⟨n, kc, dd, hC, hZ, (hR.th 0).th' 0⟩
    · rw [h9, if_neg (by decide)] at hp
      obtain ⟨hp1, hp2⟩ := Prod.mk.inj hp
      refine ⟨⟨by rw [hp2, h0]; exact mu_s _ _ _ _, fun _ => by rw [hw, hp1, e, h9], ?_⟩, Or.inr hp1⟩
      rw [(Prod.mk.inj hu).1, (Prod.mk.inj hu).2, hp2]
      exact ⟨n, kc, dd, hC, hZ, (hR.th 0).th' 0⟩
  · exact sim_of (kX3_mayComeBack_bad l hI M p0 p1 p2 n hb hR.n30 hR.m1) (by decide) (fun b M9 hp => ⟨gd_bad hC hZ hR (cd_O2 hcd) (by decide) h1 h2 hp.2, Or.inl hp.1⟩)
  · exact sim_of (kX3_mayComeBack_bad2 l hI M k n (kc k) p1 p2 hk hR.n30 hR.m1 (hR.k8 hk) (hR.m4 hk) hb) (by decide) (fun b M9 hp => ⟨gd_bad hC hZ hR (cd_O2 hcd) (by decide) h1 h2 hp.2, Or.inl hp.1⟩)
  · refine sim_of (kX3_mayComeBack_ok l hI M k n j (kc k) p2 hk hR.n30 hR.m1 hj (hR.k8 hk) (hR.m4 hk)) (by decide) (fun b M9 hp => ?_)
    unfold mMay at hp
    rw [if_neg hb] at hp
    obtain ⟨hp1, hp2⟩ := Prod.mk.inj hp
    exact ⟨gd_bad2 hC hZ hR (cd_OA hcd) (by decide) h1 h2 hp2, Or.inl hp1⟩
theorem Rel.waits (hR : Rel K X M n kc dd) {k j : Nat} (hk : k < n) (hj : j < kc k) {p2 z : Int32} (hz : z = 1 ∨ z = 2) (hp : p2 = 0 ∨ p2 = 1) : Rel (K + 1) (swX X (8 * k + j) p2 z) (mu (mu (mu (th2 M 0) 12 (8 * k + j) z) 13 (8 * k + j) p2) 14 (8 * k + j) (M 0 0 + 21)) n kc dd := by
  have hl := hR.lns hk j hj
  have ho := hR.oe hk
  have hb := (hR.bd hk).mono
  have hlo := hR.ln hk hj
  have hd1 := hR.dd1
  refine hR.upd1 (Nat.le_succ K) hk hj ⟨rfl, rfl, rfl, rfl⟩ hR.2.1 ?_ ?_ ?_ ⟨ho, rfl, rfl, hR.pd hk, hb⟩ ?_ ?_ ⟨?_, ?_⟩
  · intro f i h5 h15 hi
    simp [swX, mu_e, show f ≠ 18 by omega, show f ≠ 19 by omega, show f ≠ 20 by omega]
  · intro f i h5 h15 hi
    simp [mu_e, show f ≠ 12 by omega, show f ≠ 13 by omega, show f ≠ 14 by omega, show f ≠ 16 by omega]
  · intro i w _ _
    simp [mu_e]
  · intro f a h5 h15 ha
    simp [swX, mu_e, ha]
  · intro f a h5 h15 ha
    simp [mu_e, ha, show f ≠ 16 by omega]
  · unfold lEq
    simp [swX, mu_e, hl.1, hl.2.1, hR.x1, hR.m0]
  · refine ⟨?_, ?_, Or.inr (Or.inr ⟨?_, dd + 21, by omega, by omega, ?_⟩), ?_⟩
    · simpa [mu_e] using hlo.1
    · simpa [mu_e] using hlo.2.1
    · simpa [mu_e] using hz
    · simp [mu_e, hR.m0]
      exact nI_add dd 21
    · simpa [mu_e] using hp
theorem in01 {p : Int32} (h : inR p 0 1) : p = 0 ∨ p = 1 := by
  obtain ⟨z, hz, rfl⟩ := inR_of h (N := 1) (by decide) rfl
  rcases (show z = 0 ∨ z = 1 by omega) with rfl | rfl
  · exact Or.inl rfl
  · exact Or.inr rfl
theorem sim_ask (hI : mI ao q) (hC : xC g X n kc) (hZ : xZ g n) (hR : Rel K X M n kc dd) (p0 p1 p2 : Int32) (h : wPost (cN_ask g X n kc sz p0 p1 p2) (cC_ask X n kc p0 p1 p2) cL_asks g X r u) : SimTo l D cI cO cL cJ ao q M yX3_ask wsX3_ask [.int p0, .int p1, .int p2] (Gd K r u) := by
  rcases h with ⟨h0, v, ⟨⟨k, j, ⟨hk, rfl, hj, rfl⟩, hin, hret, rfl, hu2⟩, hu1⟩, hw⟩ | ⟨⟨E, (⟨rfl, hb⟩ | ⟨rfl, k, hk, rfl, hb⟩ | ⟨rfl, k, j, ⟨hk, rfl, hj, rfl⟩, hb⟩ | ⟨rfl, k, j, ⟨hk, rfl, hj, rfl⟩, hin, hb⟩), hcd⟩, h1, h2⟩
  · refine sim_of (kX3_ask_ok l hI M k n j (kc k) p2 hk hR.n30 hR.m1 hj (hR.k8 hk) (hR.m4 hk)) (by decide) (fun b M9 hp => ?_)
    have e := hR.may hk hj p2
    have e2 : mayM (th2 M 0) k (8 * k + j) p2 = mayM M k (8 * k + j) p2 := rfl
    unfold mWaits at hp
    rw [if_pos hin, e2, if_neg (by rw [← e]; exact hret)] at hp
    obtain ⟨hp1, hp2⟩ := Prod.mk.inj hp
    dsimp only at hu1 hu2
    refine ⟨by rw [hp2, h0]; rfl, fun _ => by rw [hw, hp1, hR.x1, hR.m0], ?_⟩
    rw [hu1, hu2, hp2]
    exact ⟨n, kc, dd, hC, hZ, hR.waits hk hj (Or.inl rfl) (in01 hin)⟩
  · exact sim_of (kX3_ask_bad l hI M p0 p1 p2 n hb hR.n30 hR.m1) (by decide) (fun b M9 hp => gd_bad hC hZ hR (cd_O3 hcd) (by decide) h1 h2 hp.2)
  · exact sim_of (kX3_ask_bad2 l hI M k n (kc k) p1 p2 hk hR.n30 hR.m1 (hR.k8 hk) (hR.m4 hk) hb) (by decide) (fun b M9 hp => gd_bad hC hZ hR (cd_O3 hcd) (by decide) h1 h2 hp.2)
  · refine sim_of (kX3_ask_ok l hI M k n j (kc k) p2 hk hR.n30 hR.m1 hj (hR.k8 hk) (hR.m4 hk)) (by decide) (fun b M9 hp => ?_)
    unfold mWaits at hp
    rw [if_neg hb] at hp
    exact gd_bad2 hC hZ hR (cd_A3 hcd) (by decide) h1 h2 (Prod.mk.inj hp).2
  · refine sim_of (kX3_ask_ok l hI M k n j (kc k) p2 hk hR.n30 hR.m1 hj (hR.k8 hk) (hR.m4 hk)) (by decide) (fun b M9 hp => ?_)
    have e := hR.may hk hj p2
    have e2 : mayM (th2 M 0) k (8 * k + j) p2 = mayM M k (8 * k + j) p2 := rfl
    unfold mWaits at hp
    rw [if_pos hin, e2, if_pos (e.symm.trans hb)] at hp
    exact gd_bad2 (M := th0 M) hC hZ (hR.th 0) (cd_S3 hcd) (by decide) h1 h2 (Prod.mk.inj hp).2
theorem sim_exchange (hI : mI ao q) (hC : xC g X n kc) (hZ : xZ g n) (hR : Rel K X M n kc dd) (p0 p1 p2 : Int32) (h : wPost (cN_exchange g X n kc sz p0 p1 p2) (cC_exchange X n kc p0 p1 p2) cL_exchanges g X r u) : SimTo l D cI cO cL cJ ao q M yX3_exchange wsX3_exchange [.int p0, .int p1, .int p2] (Gd K r u) := by
  rcases h with ⟨h0, v, ⟨⟨k, j, ⟨hk, rfl, hj, rfl⟩, hin, hret, rfl, hu2⟩, hu1⟩, hw⟩ | ⟨⟨E, (⟨rfl, hb⟩ | ⟨rfl, k, hk, rfl, hb⟩ | ⟨rfl, k, j, ⟨hk, rfl, hj, rfl⟩, hb⟩ | ⟨rfl, k, j, ⟨hk, rfl, hj, rfl⟩, hin, hb⟩), hcd⟩, h1, h2⟩
  · refine sim_of (kX3_exchange_ok l hI M k n j (kc k) p2 hk hR.n30 hR.m1 hj (hR.k8 hk) (hR.m4 hk)) (by decide) (fun b M9 hp => ?_)
    have e := hR.may hk hj p2
    have e2 : mayM (th2 M 0) k (8 * k + j) p2 = mayM M k (8 * k + j) p2 := rfl
    unfold mWaits at hp
    rw [if_pos hin, e2, if_neg (by rw [← e]; exact hret)] at hp
    obtain ⟨hp1, hp2⟩ := Prod.mk.inj hp
    dsimp only at hu1 hu2
    refine ⟨by rw [hp2, h0]; rfl, fun _ => by rw [hw, hp1, hR.x1, hR.m0], ?_⟩
    rw [hu1, hu2, hp2]
    exact ⟨n, kc, dd, hC, hZ, hR.waits hk hj (Or.inr rfl) (in01 hin)⟩
  · exact sim_of (kX3_exchange_bad l hI M p0 p1 p2 n hb hR.n30 hR.m1) (by decide) (fun b M9 hp => gd_bad hC hZ hR (cd_O3 hcd) (by decide) h1 h2 hp.2)
  · exact sim_of (kX3_exchange_bad2 l hI M k n (kc k) p1 p2 hk hR.n30 hR.m1 (hR.k8 hk) (hR.m4 hk) hb) (by decide) (fun b M9 hp => gd_bad hC hZ hR (cd_O3 hcd) (by decide) h1 h2 hp.2)
  · refine sim_of (kX3_exchange_ok l hI M k n j (kc k) p2 hk hR.n30 hR.m1 hj (hR.k8 hk) (hR.m4 hk)) (by decide) (fun b M9 hp => ?_)
    unfold mWaits at hp
    rw [if_neg hb] at hp
    exact gd_bad2 hC hZ hR (cd_A3 hcd) (by decide) h1 h2 (Prod.mk.inj hp).2
  · refine sim_of (kX3_exchange_ok l hI M k n j (kc k) p2 hk hR.n30 hR.m1 hj (hR.k8 hk) (hR.m4 hk)) (by decide) (fun b M9 hp => ?_)
    have e := hR.may hk hj p2
    have e2 : mayM (th2 M 0) k (8 * k + j) p2 = mayM M k (8 * k + j) p2 := rfl
    unfold mWaits at hp
    rw [if_pos hin, e2, if_pos (e.symm.trans hb)] at hp
    exact gd_bad2 (M := th0 M) hC hZ (hR.th 0) (cd_S3 hcd) (by decide) h1 h2 (Prod.mk.inj hp).2
end Sims2

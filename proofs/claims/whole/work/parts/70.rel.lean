/-! THE CLASS AGAINST THE REFERENCE: what goes together. -/
def Bd (x : Int32) (b : Nat) : Prop := ∃ v : Nat, v ≤ b ∧ x = nI v
theorem Bd.mono {x : Int32} {a b : Nat} (h : Bd x a) (hb : a ≤ b) : Bd x b := h.imp fun _ h => ⟨Nat.le_trans h.1 hb, h.2⟩
theorem Bd.add {x y : Int32} {a b : Nat} (h : Bd x a) (h' : Bd y b) : Bd (x + y) (a + b) := by
  obtain ⟨v, hv, rfl⟩ := h
  obtain ⟨w, hw, rfl⟩ := h'
  exact ⟨v + w, by omega, nI_add v w⟩
theorem Bd.zero (b : Nat) : Bd 0 b := ⟨0, by omega, nI_0.symm⟩
def oEq (X M : MS) (k : Nat) : Prop := X 5 k = M 2 k ∧ X 6 k = M 3 k ∧ X 7 k = M 4 k ∧ X 10 k = M 6 k ∧ X 11 k = M 7 k ∧ X 12 k = M 8 k ∧ X 13 k = M 9 (3 * k) ∧ X 14 k = M 9 (3 * k + 1) ∧ X 15 k = M 9 (3 * k + 2)
def lEq (X M : MS) (a : Nat) : Prop := X 16 a = M 10 a ∧ X 17 a = M 11 a ∧ X 18 a = M 12 a ∧ X 19 a = M 13 a ∧ X 20 a = M 14 a
def oPd (X M : MS) (dd k : Nat) : Prop := (X 8 k = 0 ∧ M 5 k = 0) ∨ (X 8 k = 1 ∧ ∃ pd, pd ≤ dd ∧ X 9 k = nI pd ∧ M 5 k = nI (pd + 1))
def oBd (K : Nat) (M : MS) (k : Nat) : Prop := Bd (M 6 k) (100500 * K) ∧ Bd (M 7 k) (800000 * K) ∧ Bd (M 9 (3 * k)) (800000 * K) ∧ Bd (M 9 (3 * k + 1)) 1000000 ∧ Bd (M 9 (3 * k + 2)) 1000000
def o0 (M : MS) (k : Nat) : Prop := M 4 k = 0 ∧ M 5 k = 0 ∧ M 6 k = 0 ∧ M 7 k = 0 ∧ M 8 k = 0 ∧ M 9 (3 * k) = 0 ∧ M 9 (3 * k + 1) = 0 ∧ M 9 (3 * k + 2) = 0
def lOk (M : MS) (dd a : Nat) : Prop := Bd (M 10 a) 100000 ∧ (M 11 a = 0 ∨ M 11 a = 1 ∨ M 11 a = 2) ∧ (M 12 a = 0 ∨ M 12 a = 3 ∨ ((M 12 a = 1 ∨ M 12 a = 2) ∧ ∃ e, dd < e ∧ e ≤ 20000 ∧ M 14 a = nI e)) ∧ (M 13 a = 0 ∨ M 13 a = 1)
def l0 (M : MS) (a : Nat) : Prop := M 12 a = 0 ∧ M 13 a = 0 ∧ M 14 a = 0
def Rel (K : Nat) (X M : MS) (n : Nat) (kc : Nat → Nat) (dd : Nat) : Prop :=
  (n ≤ 30 ∧ M 1 0 = nI n ∧ X 0 0 = nI n ∧ dd ≤ 10000 ∧ M 0 0 = nI dd ∧ X 1 0 = nI dd) ∧ (X 2 0 = M 15 0 ∧ X 3 0 = M 15 1 ∧ X 4 0 = M 15 2) ∧
  (∀ k, k < 30 → oEq X M k) ∧ (∀ a, a < 240 → lEq X M a) ∧
  (∀ k, k < n → kc k ≤ 8 ∧ M 4 k = nI (kc k) ∧ Bd (M 2 k) 90 ∧ oPd X M dd k ∧ oBd K M k) ∧
  (∀ k, n ≤ k → k < 30 → o0 M k) ∧ (∀ k j, k < n → j < kc k → lOk M dd (8 * k + j)) ∧
  (∀ k j, k < 30 → j < 8 → (n ≤ k ∨ kc k ≤ j) → l0 M (8 * k + j))
theorem oBd.mono {K : Nat} {M : MS} {k : Nat} (h : oBd K M k) : oBd (K + 1) M k := ⟨h.1.mono (by omega), h.2.1.mono (by omega), h.2.2.1.mono (by omega), h.2.2.2⟩
theorem Rel.mono {K : Nat} {X M : MS} {n dd : Nat} {kc : Nat → Nat} (h : Rel K X M n kc dd) : Rel (K + 1) X M n kc dd :=
  ⟨h.1, h.2.1, h.2.2.1, h.2.2.2.1, fun k hk => let q := h.2.2.2.2.1 k hk; ⟨q.1, q.2.1, q.2.2.1, q.2.2.2.1, q.2.2.2.2.mono⟩, h.2.2.2.2.2⟩
theorem Rel.th {K : Nat} {X M : MS} {n dd : Nat} {kc : Nat → Nat} (h : Rel K X M n kc dd) (v : Int32) : Rel K X (mu M 16 0 v) n kc dd := h
theorem Rel.th' {K : Nat} {X M : MS} {n dd : Nat} {kc : Nat → Nat} (h : Rel K X M n kc dd) (v : Int32) : Rel (K + 1) X (mu M 16 0 v) n kc dd := h.mono
section RelParts
variable {K : Nat} {X M : MS} {n dd : Nat} {kc : Nat → Nat}
theorem Rel.n30 (h : Rel K X M n kc dd) : n ≤ 30 := h.1.1
theorem Rel.m1 (h : Rel K X M n kc dd) : M 1 0 = nI n := h.1.2.1
theorem Rel.m0 (h : Rel K X M n kc dd) : M 0 0 = nI dd := h.1.2.2.2.2.1
theorem Rel.x1 (h : Rel K X M n kc dd) : X 1 0 = nI dd := h.1.2.2.2.2.2
theorem Rel.dd1 (h : Rel K X M n kc dd) : dd ≤ 10000 := h.1.2.2.2.1
theorem Rel.oe (h : Rel K X M n kc dd) {k : Nat} (hk : k < n) : oEq X M k := h.2.2.1 k (Nat.lt_of_lt_of_le hk h.n30)
theorem Rel.le (h : Rel K X M n kc dd) {a : Nat} (ha : a < 240) : lEq X M a := h.2.2.2.1 a ha
theorem Rel.k8 (h : Rel K X M n kc dd) {k : Nat} (hk : k < n) : kc k ≤ 8 := (h.2.2.2.2.1 k hk).1
theorem Rel.m4 (h : Rel K X M n kc dd) {k : Nat} (hk : k < n) : M 4 k = nI (kc k) := (h.2.2.2.2.1 k hk).2.1
theorem Rel.pct (h : Rel K X M n kc dd) {k : Nat} (hk : k < n) : Bd (M 2 k) 90 := (h.2.2.2.2.1 k hk).2.2.1
theorem Rel.pd (h : Rel K X M n kc dd) {k : Nat} (hk : k < n) : oPd X M dd k := (h.2.2.2.2.1 k hk).2.2.2.1
theorem Rel.bd (h : Rel K X M n kc dd) {k : Nat} (hk : k < n) : oBd K M k := (h.2.2.2.2.1 k hk).2.2.2.2
theorem Rel.ln (h : Rel K X M n kc dd) {k j : Nat} (hk : k < n) (hj : j < kc k) : lOk M dd (8 * k + j) := h.2.2.2.2.2.2.1 k j hk hj
theorem Rel.at_ (h : Rel K X M n kc dd) {k j : Nat} (hk : k < n) (hj : j < kc k) : 8 * k + j < 240 := by have := h.n30; have := h.k8 hk; omega
end RelParts
def Inv (K : Nat) (g : XG) (X M : MS) : Prop := ∃ (n : Nat) (kc : Nat → Nat) (dd : Nat), xC g X n kc ∧ xZ g n ∧ Rel K X M n kc dd
def Gd (K : Nat) (r : Int32) (u : wU) (b : Int32) (M9 : MS) : Prop := M9 16 0 = r ∧ (r = 0 → u.2.2 = b.toInt64) ∧ Inv (K + 1) u.1 u.2.1 M9
def SimTo (l : Launch) (D : va_G) (cI cO cL cJ : ClassId) (ao : Nat) (q : Nat → Nat) (M : MS) (y : MethodName) (ws : List Cond) (av : List Value) (G : Int32 → MS → Prop) : Prop :=
  ∃ (rm : Room) (post : Int32 → MS → Prop), rm.cells = 0 ∧ rm.slots = 0 ∧ rm.frames ≤ 4 ∧ rm.locals ≤ 92 ∧ Met l y ws rm (mP D cI cO cL cJ ao q M av) (mQ D cI cO cL cJ ao q post) 0 0 (mA ao q) ∧ ∀ b M9, post b M9 → G b M9
theorem cd_O3 {r : Int32} (h : cd [IOE, IAE, ISE] IOE r) : r = 1 := by
  obtain ⟨i, h1, h2⟩ := h
  rcases i with _ | _ | _ | i
  · exact h2
  · exact absurd (Option.some.inj h1) (by decide)
  · exact absurd (Option.some.inj h1) (by decide)
  · cases h1
theorem cd_A3 {r : Int32} (h : cd [IOE, IAE, ISE] IAE r) : r = 2 := by
  obtain ⟨i, h1, h2⟩ := h
  rcases i with _ | _ | _ | i
  · exact absurd (Option.some.inj h1) (by decide)
  · exact h2
  · exact absurd (Option.some.inj h1) (by decide)
  · cases h1
theorem cd_S3 {r : Int32} (h : cd [IOE, IAE, ISE] ISE r) : r = 3 := by
  obtain ⟨i, h1, h2⟩ := h
  rcases i with _ | _ | _ | i
  · exact absurd (Option.some.inj h1) (by decide)
  · exact absurd (Option.some.inj h1) (by decide)
  · exact h2
  · cases h1
theorem cd_A2 {r : Int32} (h : cd [IAE, ISE] IAE r) : r = 1 := by
  obtain ⟨i, h1, h2⟩ := h
  rcases i with _ | _ | i
  · exact h2
  · exact absurd (Option.some.inj h1) (by decide)
  · cases h1
theorem cd_S2 {r : Int32} (h : cd [IAE, ISE] ISE r) : r = 2 := by
  obtain ⟨i, h1, h2⟩ := h
  rcases i with _ | _ | i
  · exact absurd (Option.some.inj h1) (by decide)
  · exact h2
  · cases h1
theorem cd_O2 {r : Int32} (h : cd [IOE, IAE] IOE r) : r = 1 := by
  obtain ⟨i, h1, h2⟩ := h
  rcases i with _ | _ | i
  · exact h2
  · exact absurd (Option.some.inj h1) (by decide)
  · cases h1
theorem cd_OA {r : Int32} (h : cd [IOE, IAE] IAE r) : r = 2 := by
  obtain ⟨i, h1, h2⟩ := h
  rcases i with _ | _ | i
  · exact absurd (Option.some.inj h1) (by decide)
  · exact h2
  · cases h1
theorem cd_O1 {r : Int32} (h : cd [IOE] IOE r) : r = 1 := by
  obtain ⟨i, h1, h2⟩ := h
  rcases i with _ | i
  · exact h2
  · cases h1
theorem cd_A1 {r : Int32} (h : cd [IAE] IAE r) : r = 1 := by
  obtain ⟨i, h1, h2⟩ := h
  rcases i with _ | i
  · exact h2
  · cases h1
theorem max0 (x : Int32) : maxI x 0 = if x ≤ 0 then 0 else x := by
  unfold maxI
  by_cases h : x < 0
  · rw [if_pos h, if_pos (Int32.le_of_lt h)]
  · rw [if_neg h]
    by_cases h2 : x ≤ 0
    · rw [if_pos h2]; exact Int32.le_antisymm h2 (Int32.not_lt.mp h)
    · rw [if_neg h2]
theorem minLeast (x y : Int32) : minI x y = leastI x y := by
  unfold minI leastI
  by_cases h : y < x
  · rw [if_pos h, if_pos (Int32.le_of_lt h)]
  · rw [if_neg h]
    by_cases h2 : y ≤ x
    · rw [if_pos h2]; exact Int32.le_antisymm (Int32.not_lt.mp h) h2
    · rw [if_neg h2]
theorem sum_eq {X M : MS} {k kk : Nat} (h : ∀ j, j < kk → lEq X M (8 * k + j)) : ∀ j, j ≤ kk → sumX X k j = sumM M k j := by
  intro j
  induction j with
  | zero => intro _; rfl
  | succ j ih =>
    intro hj
    have e := h j (by omega)
    show (if X 18 (8 * k + j) = 3 then sumX X k j else sumX X k j + X 16 (8 * k + j)) = sumM M k j + (if M 12 (8 * k + j) = 3 then 0 else M 10 (8 * k + j))
    rw [ih (by omega), e.2.2.1, e.1]
    split
    · exact (Int32.add_zero _).symm
    · rfl
theorem price_eq {X M : MS} {k kk : Nat} (h : ∀ j, j < kk → lEq X M (8 * k + j)) (ho : oEq X M k) : priceX X k kk = priceM M k kk := by
  unfold priceX priceM
  rw [sum_eq h kk (Nat.le_refl _), ho.1, ho.2.1]
theorem sum_bd {M : MS} {k : Nat} : ∀ kk, (∀ j, j < kk → Bd (M 10 (8 * k + j)) 100000) → Bd (sumM M k kk) (100000 * kk) := by
  intro kk
  induction kk with
  | zero => intro _; exact Bd.zero _
  | succ j ih =>
    intro h
    have h1 := ih (fun i hi => h i (by omega))
    have h2 : Bd (if M 12 (8 * k + j) = 3 then 0 else M 10 (8 * k + j)) 100000 := by
      split
      · exact Bd.zero _
      · exact h j (by omega)
    exact (h1.add h2).mono (by omega)
theorem price_bd {M : MS} {k kk : Nat} (h : ∀ j, j < kk → Bd (M 10 (8 * k + j)) 100000) (hk : kk ≤ 8) (hp : Bd (M 2 k) 90) : Bd (priceM M k kk) 800000 := by
  obtain ⟨s, hs, e⟩ := sum_bd kk h
  obtain ⟨p, hp, e2⟩ := hp
  unfold priceM
  rw [e, e2]
  split
  · exact ⟨s, by omega, rfl⟩
  · have h1 : s * p ≤ 800000 * 90 := Nat.mul_le_mul (by omega) hp
    have h2 : s * p / 100 ≤ s := by
      have : s * p ≤ s * 100 := Nat.mul_le_mul (Nat.le_refl _) (by omega)
      omega
    rw [pk_mul, show (100 : Int32) = nI 100 by rfl, pk_div (by omega) (by decide) (by decide), pk_sub h2]
    exact ⟨_, by omega, rfl⟩
section Sims
variable {l : Launch} {D : va_G} {cI cO cL cJ : ClassId} {ao : Nat} {q : Nat → Nat} {K : Nat} {g : XG} {X M : MS} {n dd sz : Nat} {kc : Nat → Nat} {r : Int32} {u : wU}
theorem sim_of {y : MethodName} {ws : List Cond} {av : List Value} {rm : Room} {post G : Int32 → MS → Prop} (hM : Met l y ws rm (mP D cI cO cL cJ ao q M av) (mQ D cI cO cL cJ ao q post) 0 0 (mA ao q)) (hr : rm.cells = 0 ∧ rm.slots = 0 ∧ rm.frames ≤ 4 ∧ rm.locals ≤ 92) (hG : ∀ b M9, post b M9 → G b M9) : SimTo l D cI cO cL cJ ao q M y ws av G := ⟨rm, post, hr.1, hr.2.1, hr.2.2.1, hr.2.2.2, hM, hG⟩
theorem Rel.lns (h : Rel K X M n kc dd) {k : Nat} (hk : k < n) : ∀ j, j < kc k → lEq X M (8 * k + j) := fun j hj => h.le (h.at_ hk hj)
theorem Rel.pr (h : Rel K X M n kc dd) {k : Nat} (hk : k < n) : priceX X k (kc k) = priceM M k (kc k) := price_eq (h.lns hk) (h.oe hk)
theorem Rel.prB (h : Rel K X M n kc dd) {k : Nat} (hk : k < n) : Bd (priceM M k (kc k)) 800000 := price_bd (fun j hj => (h.ln hk hj).1) (h.k8 hk) (h.pct hk)
theorem gd_bad (hC : xC g X n kc) (hZ : xZ g n) (hR : Rel K X M n kc dd) {v : Int32} (hr : r = v) (hv : ¬ v = 0) (h1 : u.1 = g) (h2 : u.2.1 = X) {b : Int32} {M9 : MS} (hM : M9 = mu M 16 0 v) : Gd K r u b M9 :=
  ⟨by rw [hM, hr]; exact mu_s _ _ _ _, fun h => absurd (hr.symm.trans h) hv, by rw [h1, h2, hM]; exact ⟨n, kc, dd, hC, hZ, hR.th' v⟩⟩
theorem gd_bad2 (hC : xC g X n kc) (hZ : xZ g n) (hR : Rel K X M n kc dd) {v : Int32} (hr : r = v) (hv : ¬ v = 0) (h1 : u.1 = g) (h2 : u.2.1 = X) {b : Int32} {M9 : MS} (hM : M9 = th2 M v) : Gd K r u b M9 :=
  ⟨by rw [hM, hr]; exact mu_s _ _ _ _, fun h => absurd (hr.symm.trans h) hv, by rw [h1, h2, hM]; exact ⟨n, kc, dd, hC, hZ, (hR.th 0).th' v⟩⟩
theorem gd_read (hC : xC g X n kc) (hZ : xZ g n) (hR : Rel K X M n kc dd) (hr : r = 0) (hu : (u.1, u.2.1) = (g, X)) {b v : Int32} (hw : u.2.2 = v.toInt64) (hb : b = v) {M9 : MS} (hM : M9 = th0 M) : Gd K r u b M9 :=
  ⟨by rw [hM, hr]; exact mu_s _ _ _ _, fun _ => by rw [hw, hb], by rw [(Prod.mk.inj hu).1, (Prod.mk.inj hu).2, hM]; exact ⟨n, kc, dd, hC, hZ, hR.th' 0⟩⟩
theorem sim_fees (hI : mI ao q) (hC : xC g X n kc) (hZ : xZ g n) (hR : Rel K X M n kc dd) (p0 : Int32) (h : wPost (cN_fees g X n kc sz p0 0 0) (cC_fees X n kc p0 0 0) cL_feess g X r u) : SimTo l D cI cO cL cJ ao q M yX3_fees wsX3_fees [.int p0] (Gd K r u) := by
  rcases h with ⟨h0, v, ⟨⟨k, hk, rfl, rfl⟩, hu⟩, hw⟩ | ⟨⟨E, ⟨rfl, hb⟩, hcd⟩, h1, h2⟩
  · exact sim_of (kX3_fees_ok l hI M k n (kc k) hk hR.n30 hR.m1 (hR.k8 hk) (hR.m4 hk)) (by decide) (fun b M9 hp => gd_read hC hZ hR h0 hu hw (hp.1.trans (hR.oe hk).2.2.2.1.symm) hp.2)
  · exact sim_of (kX3_fees_bad l hI M p0 n hb hR.n30 hR.m1) (by decide) (fun b M9 hp => gd_bad hC hZ hR (cd_O1 hcd) (by decide) h1 h2 hp.2)
theorem sim_charges (hI : mI ao q) (hC : xC g X n kc) (hZ : xZ g n) (hR : Rel K X M n kc dd) (p0 : Int32) (h : wPost (cN_charges g X n kc sz p0 0 0) (cC_charges X n kc p0 0 0) cL_chargess g X r u) : SimTo l D cI cO cL cJ ao q M yX3_charges wsX3_charges [.int p0] (Gd K r u) := by
  rcases h with ⟨h0, v, ⟨⟨k, hk, rfl, rfl⟩, hu⟩, hw⟩ | ⟨⟨E, ⟨rfl, hb⟩, hcd⟩, h1, h2⟩
  · exact sim_of (kX3_charges_ok l hI M k n (kc k) hk hR.n30 hR.m1 (hR.k8 hk) (hR.m4 hk)) (by decide) (fun b M9 hp => gd_read hC hZ hR h0 hu hw (hp.1.trans (hR.oe hk).2.2.2.2.1.symm) hp.2)
  · exact sim_of (kX3_charges_bad l hI M p0 n hb hR.n30 hR.m1) (by decide) (fun b M9 hp => gd_bad hC hZ hR (cd_O1 hcd) (by decide) h1 h2 hp.2)
theorem sim_refunded (hI : mI ao q) (hC : xC g X n kc) (hZ : xZ g n) (hR : Rel K X M n kc dd) (p0 : Int32) (h : wPost (cN_refunded g X n kc sz p0 0 0) (cC_refunded X n kc p0 0 0) cL_refundeds g X r u) : SimTo l D cI cO cL cJ ao q M yX3_refunded wsX3_refunded [.int p0] (Gd K r u) := by
  rcases h with ⟨h0, v, ⟨⟨k, hk, rfl, rfl⟩, hu⟩, hw⟩ | ⟨⟨E, ⟨rfl, hb⟩, hcd⟩, h1, h2⟩
  · exact sim_of (kX3_refunded_ok l hI M k n (kc k) hk hR.n30 hR.m1 (hR.k8 hk) (hR.m4 hk)) (by decide) (fun b M9 hp => gd_read hC hZ hR h0 hu hw (hp.1.trans (hR.oe hk).2.2.2.2.2.1.symm) hp.2)
  · exact sim_of (kX3_refunded_bad l hI M p0 n hb hR.n30 hR.m1) (by decide) (fun b M9 hp => gd_bad hC hZ hR (cd_O1 hcd) (by decide) h1 h2 hp.2)
theorem sim_price (hI : mI ao q) (hC : xC g X n kc) (hZ : xZ g n) (hR : Rel K X M n kc dd) (p0 : Int32) (h : wPost (cN_price g X n kc sz p0 0 0) (cC_price X n kc p0 0 0) cL_prices g X r u) : SimTo l D cI cO cL cJ ao q M yX3_price wsX3_price [.int p0] (Gd K r u) := by
  rcases h with ⟨h0, v, ⟨⟨k, hk, rfl, rfl⟩, hu⟩, hw⟩ | ⟨⟨E, ⟨rfl, hb⟩, hcd⟩, h1, h2⟩
  · exact sim_of (kX3_price_ok l hI M k n (kc k) hk hR.n30 hR.m1 (hR.k8 hk) (hR.m4 hk)) (by decide) (fun b M9 hp => gd_read hC hZ hR h0 hu hw (hp.1.trans ((hR.th 0).pr hk).symm) hp.2)
  · exact sim_of (kX3_price_bad l hI M p0 n hb hR.n30 hR.m1) (by decide) (fun b M9 hp => gd_bad hC hZ hR (cd_O1 hcd) (by decide) h1 h2 hp.2)
theorem sim_state (hI : mI ao q) (hC : xC g X n kc) (hZ : xZ g n) (hR : Rel K X M n kc dd) (p0 p1 : Int32) (h : wPost (cN_state g X n kc sz p0 p1 0) (cC_state X n kc p0 p1 0) cL_states g X r u) : SimTo l D cI cO cL cJ ao q M yX3_state wsX3_state [.int p0, .int p1] (Gd K r u) := by
  rcases h with ⟨h0, v, ⟨⟨k, j, ⟨hk, rfl, hj, rfl⟩, rfl⟩, hu⟩, hw⟩ | ⟨⟨E, (⟨rfl, hb⟩ | ⟨rfl, k, hk, rfl, hb⟩), hcd⟩, h1, h2⟩
  · exact sim_of (kX3_state_ok l hI M k n j (kc k) hk hR.n30 hR.m1 hj (hR.k8 hk) (hR.m4 hk)) (by decide) (fun b M9 hp => gd_read hC hZ hR h0 hu hw (hp.1.trans (hR.lns hk j hj).2.2.1.symm) hp.2)
  · exact sim_of (kX3_state_bad l hI M p0 p1 n hb hR.n30 hR.m1) (by decide) (fun b M9 hp => gd_bad hC hZ hR (cd_O1 hcd) (by decide) h1 h2 hp.2)
  · exact sim_of (kX3_state_bad2 l hI M k n (kc k) p1 hk hR.n30 hR.m1 (hR.k8 hk) (hR.m4 hk) hb) (by decide) (fun b M9 hp => gd_bad hC hZ hR (cd_O1 hcd) (by decide) h1 h2 hp.2)
theorem inR_of {p : Int32} {N : Nat} {x : Int32} (h : inR p 0 x) (hN : N < 2 ^ 31) (hx : x = nI N) : ∃ z : Nat, z ≤ N ∧ p = nI z := by
  subst hx
  obtain ⟨j, hj, rfl⟩ := nI_of h.1
  refine ⟨j, ?_, rfl⟩
  have := h.2
  rw [nI_ltI hN hj] at this
  omega
theorem sim_taken (hI : mI ao q) (hC : xC g X n kc) (hZ : xZ g n) (hR : Rel K X M n kc dd) (p0 p1 : Int32) (h : wPost (cN_taken g X n kc sz p0 p1 0) (cC_taken X n kc p0 p1 0) cL_takens g X r u) : SimTo l D cI cO cL cJ ao q M yX3_taken wsX3_taken [.int p0, .int p1] (Gd K r u) := by
  rcases h with ⟨h0, v, ⟨⟨k, hk, rfl, hin, rfl⟩, hu⟩, hw⟩ | ⟨⟨E, (⟨rfl, hb⟩ | ⟨rfl, k, hk, rfl, hb⟩), hcd⟩, h1, h2⟩
  · obtain ⟨z, hz, rfl⟩ := inR_of hin (N := 2) (by decide) rfl
    refine sim_of (kX3_taken_ok l hI M k n z hk hR.n30 hR.m1 hz) (by decide) (fun b M9 hp => gd_read hC hZ hR h0 hu hw (hp.1.trans ?_) hp.2)
    have ho := hR.oe hk
    rcases (show z = 0 ∨ z = 1 ∨ z = 2 by omega) with rfl | rfl | rfl
    · exact ho.2.2.2.2.2.2.1.symm
    · exact ho.2.2.2.2.2.2.2.1.symm
    · exact ho.2.2.2.2.2.2.2.2.symm
  · exact sim_of (kX3_taken_bad l hI M p0 p1 n hb hR.n30 hR.m1) (by decide) (fun b M9 hp => gd_bad hC hZ hR (cd_O2 hcd) (by decide) h1 h2 hp.2)
  · exact sim_of (kX3_taken_badg l hI M k n p1 hk hR.n30 hR.m1 hb) (by decide) (fun b M9 hp => gd_bad2 hC hZ hR (cd_OA hcd) (by decide) h1 h2 hp.2)
theorem sim_stock (hI : mI ao q) (hC : xC g X n kc) (hZ : xZ g n) (hR : Rel K X M n kc dd) (p0 : Int32) (h : wPost (cN_stock g X n kc sz p0 0 0) (cC_stock X n kc p0 0 0) cL_stocks g X r u) : SimTo l D cI cO cL cJ ao q M yX3_stock wsX3_stock [.int p0] (Gd K r u) := by
  rcases h with ⟨h0, v, ⟨⟨hin, rfl⟩, hu⟩, hw⟩ | ⟨⟨E, ⟨rfl, hb⟩, hcd⟩, h1, h2⟩
  · obtain ⟨z, hz, rfl⟩ := inR_of hin (N := 2) (by decide) rfl
    refine sim_of (kX3_stock_ok l hI M z hz) (by decide) (fun b M9 hp => gd_read hC hZ hR h0 hu hw (hp.1.trans ?_) hp.2)
    have ho := hR.2.1
    rcases (show z = 0 ∨ z = 1 ∨ z = 2 by omega) with rfl | rfl | rfl
    · exact ho.1.symm
    · exact ho.2.1.symm
    · exact ho.2.2.symm
  · exact sim_of (kX3_stock_bad l hI M p0 hb) (by decide) (fun b M9 hp => gd_bad hC hZ hR (cd_A1 hcd) (by decide) h1 h2 hp.2)
theorem Rel.owed (hR : Rel K X M n kc dd) {k : Nat} (hk : k < n) : owedX X k (kc k) = owesM M k (kc k) := by
  have ho := hR.oe hk
  unfold owedX owesM
  rw [hR.pr hk, ho.2.2.2.1, ho.2.2.2.2.1]
theorem Rel.taken (hR : Rel K X M n kc dd) {k : Nat} (hk : k < n) : takenX X k = takenM M k := by
  have ho := hR.oe hk
  unfold takenX takenM
  rw [ho.2.2.2.2.2.2.1, ho.2.2.2.2.2.2.2.1, ho.2.2.2.2.2.2.2.2]
end Sims

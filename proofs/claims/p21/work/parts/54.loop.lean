/-! WHAT HOLDS AT THE LAW'S LOOP, in numbers. -/
theorem s_l : ∀ n, n < 32 → ((nI n &&& 31).toBitVec.smod 32).toNat = n := by decide +kernel
theorem fa_or (a b : Nat) : nI a ||| nI b = nI (a ||| b) := by
  apply Int32.toBitVec_inj.1
  show BitVec.ofNat 32 a ||| BitVec.ofNat 32 b = BitVec.ofNat 32 (a ||| b)
  apply BitVec.eq_of_getLsbD_eq
  intro i hi
  simp [hi]
theorem bit_of {m k : Nat} (hm : m < 2 ^ 30) (hk : k < 30) : (nI m >>> (nI k &&& 31)) &&& 1 = nI (m / 2 ^ k % 2) := by
  rw [pk_shrN (by omega) _ k (s_l k (by omega))]
  have h : m / 2 ^ k ≤ m := Nat.div_le_self _ _
  exact pk_andN (by omega) 1 (by decide)
theorem bit_iff {m k : Nat} (hm : m < 2 ^ 30) (hk : k < 30) : (nI m >>> (nI k &&& 31)) &&& 1 = 1 ↔ m.testBit k = true := by
  rw [bit_of hm hk, Nat.testBit_eq_decide_div_mod_eq]
  have h : m / 2 ^ k % 2 < 2 := Nat.mod_lt _ (by decide)
  show nI (m / 2 ^ k % 2) = nI 1 ↔ _
  rw [nI_eq (by omega) (by decide)]
  simp
theorem bit_set {m k : Nat} (hk : k < 30) : nI m ||| ((1 : Int32) <<< (nI k &&& 31)) = nI (m ||| 2 ^ k) := by
  have h : 2 ^ k ≤ 2 ^ 29 := Nat.pow_le_pow_right (by decide) (by omega)
  have e : (1 : Int32) <<< (nI k &&& 31) = nI (2 ^ k) := by
    have := pk_shlN (n := 1) (nI k &&& 31) k (s_l k (by omega)) (by omega)
    rw [Nat.one_mul] at this
    exact this
  rw [e, fa_or]
theorem sK_congr {kc kc' : Nat → Nat} : ∀ n, (∀ i, i < n → kc' i = kc i) → sK kc' n = sK kc n
  | 0, _ => rfl
  | n + 1, h => by
    show sK kc' n + kc' n = sK kc n + kc n
    rw [sK_congr n (fun i hi => h i (by omega)), h n (by omega)]
theorem sK_upd {kc : Nat → Nat} {k : Nat} : ∀ n, k < n → sK (fun i => if i = k then kc k + 1 else kc i) n = sK kc n + 1
  | 0, h => absurd h (Nat.not_lt_zero k)
  | n + 1, h => by
    show sK (fun i => if i = k then kc k + 1 else kc i) n + (if n = k then kc k + 1 else kc n) = sK kc n + kc n + 1
    by_cases e : n = k
    · subst e
      rw [if_pos rfl, sK_congr (kc := kc) n (fun i hi => if_neg (by omega))]
      omega
    · rw [if_neg e, sK_upd n (by omega)]
      omega
def PI (T : Nat) (X : MS) (n : Nat) (kc : Nat → Nat) (L m : Nat) : Prop :=
  (∃ dd, dd ≤ 60 * T ∧ X 1 0 = nI dd) ∧ (∀ k, k < n → OK (800000 * T) (100500 * T) X k (kc k)) ∧ sK kc n ≤ L ∧ L ≤ T ∧ m < 2 ^ 30 ∧ ∀ k, k < 30 → (m.testBit k = true ↔ k < n ∧ X 8 k = 1)
theorem PI.mono {T n L m : Nat} {X : MS} {kc : Nat → Nat} (h : PI T X n kc L m) : PI (T + 1) X n kc L m := by
  obtain ⟨⟨dd, h1, h2⟩, h3, h4, h5, h6, h7⟩ := h
  exact ⟨⟨dd, by omega, h2⟩, fun k hk => (h3 k hk).mono (by omega) (by omega), h4, by omega, h6, h7⟩
theorem PI.bit {T n L m : Nat} {X : MS} {kc : Nat → Nat} (h : PI T X n kc L m) {k : Nat} (hn : n ≤ 30) (hk : k < n) : (nI m >>> (nI k &&& 31)) &&& 1 = 1 ↔ X 8 k = 1 := by
  rw [bit_iff h.2.2.2.2.1 (by omega), h.2.2.2.2.2 k (by omega)]
  exact ⟨fun h => h.2, fun h => ⟨hk, h⟩⟩
theorem PI.un {T n L m : Nat} {X : MS} {kc : Nat → Nat} (h : PI T X n kc L m) {k : Nat} (hk : k < n) (h1 : ¬ X 8 k = 1) : X 8 k = 0 := by
  rcases (h.2.1 k hk).2.2.1 with h9 | h9
  · exact absurd h9.1 h1
  · exact h9.1
theorem PI.pos {T n L m : Nat} {X : MS} {kc : Nat → Nat} (h : PI T X n kc L m) {k : Nat} (hk : k < n) (h1 : X 8 k = 1) : 0 < kc k := by
  rcases (h.2.1 k hk).2.2.1 with h9 | h9
  · exact h9.2
  · rw [h1] at h9; exact absurd h9.1 (by decide)
theorem PI.order {T n L m : Nat} {X : MS} {kc : Nat → Nat} (h : PI T X n kc L m) (hn : n < 30) {p0 p1 : Int32} (h0 : inR p0 0 90) : PI (T + 1) (mu (xNewO X n p0 p1) 0 0 (nI (n + 1))) (n + 1) (fun k => if k = n then 0 else kc k) L m := by
  obtain ⟨⟨dd, h1, h2⟩, h3, h4, h5, h6, h7⟩ := h
  have hfr : ∀ f i, f ≠ 0 → (i ≠ n ∨ 16 ≤ f ∨ f < 5) → (mu (xNewO X n p0 p1) 0 0 (nI (n + 1))) f i = X f i := fun f i a b => xNewO_fr a b
  refine ⟨⟨dd, by omega, (hfr 1 0 (by decide) (Or.inr (Or.inr (by decide)))).trans h2⟩, fun k hk => ?_, ?_, by omega, h6, fun k hk => ?_⟩
  · dsimp only
    by_cases e : k = n
    · subst e
      rw [if_pos rfl]
      exact OK.new h0
    · rw [if_neg e]
      exact (h3 k (by omega)).congr (by omega) (by omega) (fun f hf _ _ _ => hfr f k (by omega) (Or.inl e)) (fun j _ => ⟨hfr 16 _ (by decide) (Or.inr (Or.inl (by decide))), hfr 18 _ (by decide) (Or.inr (Or.inl (by decide)))⟩)
  · show sK (fun k => if k = n then 0 else kc k) n + (if n = n then 0 else kc n) ≤ L
    rw [if_pos rfl, sK_congr (kc := kc) n (fun i hi => if_neg (by omega))]
    exact h4
  · rw [h7 k hk]
    by_cases e : k = n
    · subst e
      refine ⟨fun z => absurd z.1 (Nat.lt_irrefl k), fun z => ?_⟩
      have e8 : (mu (xNewO X k p0 p1) 0 0 (nI (k + 1))) 8 k = 0 := by simp [xNewO, mu_e]
      rw [e8] at z
      exact absurd z.2 (by decide)
    · rw [hfr 8 k (by decide) (Or.inl e)]
      exact ⟨fun z => ⟨by omega, z.2⟩, fun z => ⟨by omega, z.2⟩⟩
theorem PI.add {T n L m : Nat} {X : MS} {kc : Nat → Nat} (h : PI T X n kc L m) (hn : n ≤ 30) (h8a : ∀ i, i < n → kc i ≤ 8) {k : Nat} (hk : k < n) (hop : X 8 k = 0) (h8 : kc k < 8) {p1 p2 : Int32} (hp : inR p1 1 100000) : PI (T + 1) (addX X k (kc k) p1 p2) n (fun i => if i = k then kc k + 1 else kc i) (L + 1) m := by
  obtain ⟨⟨dd, h1, h2⟩, h3, h4, h5, h6, h7⟩ := h
  refine ⟨⟨dd, by omega, (addX_fr (Or.inl (by decide)) (Or.inl (by decide))).trans h2⟩, fun i hi => ?_, by rw [sK_upd n hk]; omega, by omega, h6, fun i hi => ?_⟩
  · dsimp only
    by_cases e : i = k
    · subst e
      rw [if_pos rfl]
      exact ((h3 i hi).mono (by omega) (by omega)).add hop (by omega) h8 hp |>.1
    · rw [if_neg e]
      have := h8a i hi
      exact (h3 i hi).congr (by omega) (by omega) (fun f _ h15 h7 _ => addX_fr (Or.inl (by omega)) (Or.inl h7)) (fun j hj => ⟨addX_fr (Or.inr ⟨by omega, by omega⟩) (Or.inl (by decide)), addX_fr (Or.inr ⟨by omega, by omega⟩) (Or.inl (by decide))⟩)
  · rw [h7 i hi, addX_fr (Or.inl (by decide)) (Or.inl (by decide))]
theorem PI.addPr {T n L m : Nat} {X : MS} {kc : Nat → Nat} (h : PI T X n kc L m) (hn : n ≤ 30) {k : Nat} (hk : k < n) (hop : X 8 k = 0) (h8 : kc k < 8) {p1 p2 : Int32} (hp : inR p1 1 100000) : ¬ priceX (addX X k (kc k) p1 p2) k (kc k + 1) ≤ 0 := by
  obtain ⟨hO, h0⟩ := (h.2.1 k hk).add hop (by omega) h8 (p2 := p2) hp
  obtain ⟨P, hP, e, h1⟩ := price_of hO.2.2.2 (by omega) hO.1
  rw [e]
  exact nI_nle (h1 (kc k) (by omega) (by rw [h0]; decide)) (by omega)
theorem PI.pay {T n L m : Nat} {X : MS} {kc : Nat → Nat} (h : PI T X n kc L m) (hn : n ≤ 30) {k : Nat} (hk : k < n) (hop : X 8 k = 0) (h8 : kc k ≤ 8) (h0 : 0 < kc k) {p1 p2 p3 : Int32} (hp1 : inR p1 0 1000000) (hp2 : inR p2 0 1000000) : PI (T + 1) (settleX X k (kc k) p1 p2 p3) n kc L (m ||| 2 ^ k) ∧ takenX (settleX X k (kc k) p1 p2 p3) k = priceX X k (kc k) := by
  have hpay := (h.2.1 k hk).pay (p3 := p3) hop h8 h0 hp1 hp2
  obtain ⟨⟨dd, h1, h2⟩, h3, h4, h5, h6, h7⟩ := h
  have hk29 : 2 ^ k < 2 ^ 30 := Nat.pow_lt_pow_right (by decide) (by omega)
  refine ⟨⟨⟨dd, by omega, (settleX_fr (Or.inr (Or.inl (by decide)))).trans h2⟩, fun i hi => ?_, h4, by omega, Nat.or_lt_two_pow h6 hk29, fun i hi => ?_⟩, hpay.2⟩
  · by_cases e : i = k
    · subst e; exact hpay.1.mono (by omega) (by omega)
    · exact (h3 i hi).congr (by omega) (by omega) (fun f _ _ _ _ => settleX_fr (Or.inl e)) (fun j _ => ⟨settleX_fr (Or.inr (Or.inr (Or.inl (by decide)))), settleX_fr (Or.inr (Or.inr (Or.inl (by decide))))⟩)
  · rw [Nat.testBit_or, Nat.testBit_two_pow]
    by_cases e : i = k
    · subst e
      have e8 : settleX X i (kc i) p1 p2 p3 8 i = 1 := by unfold settleX; simp [mu_e]
      simp [e8, hk]
    · rw [settleX_fr (Or.inl e), ← h7 i hi]
      simp [show ¬ k = i by omega]
theorem gradeX_fr {X : MS} {k kk j : Nat} {w : Int32} {f i : Nat} (h : 5 ≤ f) (h2 : (f ≤ 15 ∧ i ≠ k) ∨ f = 8 ∨ f = 16 ∨ (f = 18 ∧ i ≠ j)) : (gradeX X k kk j w).2 f i = X f i := by
  rw [gradeX_mid]
  have e : (refundX (gMidX X k j w) k kk).2 f i = gMidX X k j w f i := by
    unfold refundX
    simp only [mu_e]
    rcases h2 with ⟨h2, h3⟩ | rfl | rfl | ⟨rfl, h3⟩
    · simp [h3]
    · simp
    · simp
    · simp
  rw [e]
  unfold gMidX
  simp only [mu_e]
  rcases h2 with ⟨h2, h3⟩ | rfl | rfl | ⟨rfl, h3⟩
  · rw [if_neg (by omega), putX_hi _ _ _ _ h]
    simp [mu_e, h3]
  · rw [if_neg (by omega), putX_hi _ _ _ _ h]
    simp [mu_e]
  · rw [if_neg (by omega), putX_hi _ _ _ _ h]
    simp [mu_e]
  · rw [if_pos rfl, if_neg h3, putX_hi _ _ _ _ h]
    simp [mu_e]
theorem PI.grade {T n L m : Nat} {X Y : MS} {kc : Nat → Nat} (h : PI T X n kc L m) (hT : T ≤ 100) (h8a : ∀ i, i < n → kc i ≤ 8) {k : Nat} (hk : k < n) (hpd : X 8 k = 1) (hj : 0 < kc k) {w : Int32} (hY : OK (800000 * T) (100500 * T) Y k (kc k) ∧ Y 8 k = 1 ∧ Y 1 0 = X 1 0 ∧ ∀ f i, 5 ≤ f → ((f ≤ 15 ∧ i ≠ k) ∨ f = 8 ∨ f = 16 ∨ (f = 18 ∧ i ≠ 8 * k + 0)) → Y f i = X f i) : PI (T + 1) (gradeX Y k (kc k) (8 * k + 0) w).2 n kc L m := by
  obtain ⟨⟨dd, h1, h2⟩, h3, h4, h5, h6, h7⟩ := h
  obtain ⟨y1, y2, y3, y4⟩ := hY
  refine ⟨⟨dd, by omega, (gr_facts Y k (kc k) (8 * k + 0) w).2.2.2.2.2.2.1.trans (y3.trans h2)⟩, fun i hi => ?_, h4, by omega, h6, fun i hi => ?_⟩
  · by_cases e : i = k
    · subst e
      exact (y1.grade (j := 0) (h8a i hi) hj y2 (by omega) (by omega) w).mono (by omega) (by omega)
    · have := h8a i hi
      exact (h3 i hi).congr (by omega) (by omega) (fun f h5 h15 _ _ => (gradeX_fr h5 (Or.inl ⟨h15, e⟩)).trans (y4 f i h5 (Or.inl ⟨h15, e⟩))) (fun j hj => ⟨(gradeX_fr (by decide) (Or.inr (Or.inr (Or.inl rfl)))).trans (y4 16 _ (by decide) (Or.inr (Or.inr (Or.inl rfl)))), (gradeX_fr (by decide) (Or.inr (Or.inr (Or.inr ⟨rfl, by omega⟩)))).trans (y4 18 _ (by decide) (Or.inr (Or.inr (Or.inr ⟨rfl, by omega⟩))))⟩)
  · rw [h7 i hi, gradeX_fr (by decide) (Or.inr (Or.inl rfl)), y4 8 i (by decide) (Or.inr (Or.inl rfl))]
theorem PI.ret {T n L m : Nat} {X X9 : MS} {kc : Nat → Nat} (h : PI T X n kc L m) (hT : T ≤ 100) (h8a : ∀ i, i < n → kc i ≤ 8) {k : Nat} (hk : k < n) (hpd : X 8 k = 1) (hr : RetTo X k (kc k) X9) : PI (T + 1) X9 n kc L m := by
  have hj := h.pos hk hpd
  rcases hr with ⟨q, hq, rfl⟩ | rfl | ⟨q, z, hq, hz, -, rfl⟩
  · exact h.grade hT h8a hk hpd hj ⟨h.2.1 k hk, hpd, rfl, fun _ _ _ _ => rfl⟩
  · exact h.mono
  · refine h.grade hT h8a hk hpd hj ⟨(h.2.1 k hk).wait hpd _ _, hpd, rfl, fun f i h5 h9 => ?_⟩
    unfold swX
    simp only [mu_e]
    rcases h9 with ⟨h2, h3⟩ | rfl | rfl | ⟨rfl, h3⟩
    · simp [show f ≠ 18 by omega, show f ≠ 19 by omega, show f ≠ 20 by omega]
    · simp
    · simp
    · simp [show i ≠ 8 * k from h3]
theorem PI.pass {T n L m : Nat} {X : MS} {kc : Nat → Nat} (h : PI T X n kc L m) (h8a : ∀ i, i < n → kc i ≤ 8) {w : Nat} (hw : w ≤ 60) : PI (T + 1) (qIt (mu X 1 0 (X 1 0 + nI w)) kc (X 1 0 + nI w) n).2 n kc L m ∧ (∃ q, q ≤ L ∧ (qIt (mu X 1 0 (X 1 0 + nI w)) kc (X 1 0 + nI w) n).1 = nI q) ∧ (qIt (mu X 1 0 (X 1 0 + nI w)) kc (X 1 0 + nI w) n).2 1 0 = X 1 0 + nI w := by
  obtain ⟨⟨dd, h1, h2⟩, h3, h4, h5, h6, h7⟩ := h
  have hY : ∀ i, i < n → OK (800000 * T) (100500 * T) (mu X 1 0 (X 1 0 + nI w)) i (kc i) := fun i hi => (h3 i hi).congr (Nat.le_refl _) (Nat.le_refl _) (fun f h5 _ _ _ => mu_f _ _ _ _ (by omega)) (fun j _ => ⟨rfl, rfl⟩)
  obtain ⟨q1, ⟨q, hq, eq⟩, q3⟩ := qIt_ok hY h8a (X 1 0 + nI w) n (Nat.le_refl n)
  have e1 : (qIt (mu X 1 0 (X 1 0 + nI w)) kc (X 1 0 + nI w) n).2 1 0 = X 1 0 + nI w := (q3 1 0 (by decide) (by decide) (by decide)).trans (mu_s _ _ _ _)
  refine ⟨⟨⟨dd + w, by omega, by rw [e1, h2]; exact nI_add dd w⟩, fun i hi => ((q1 i hi).1 hi).mono (by omega) (by omega), h4, by omega, h6, fun i hi => ?_⟩, ⟨q, by omega, eq⟩, e1⟩
  rw [h7 i hi, q3 8 i (by decide) (by decide) (by decide)]
  exact Iff.rfl
theorem PI.day {T n L m : Nat} {X : MS} {kc : Nat → Nat} (h : PI T X n kc L m) (hT : T ≤ 100) {w : Nat} (hw : w ≤ 60) : nI w ≤ 10000 - X 1 0 := by
  obtain ⟨⟨dd, h1, h2⟩, -⟩ := h
  rw [h2, show (10000 : Int32) = nI 10000 by rfl, pk_sub (by omega)]
  exact nI_le (by omega) (by omega)
theorem PI.sok {T n L m : Nat} {X : MS} {kc : Nat → Nat} (h : PI T X n kc L m) (hT : T ≤ 100) (h8a : ∀ i, i < n → kc i ≤ 8) {k : Nat} (hk : k < n) {pv : Int32} (hpv : (pv = 1 ∧ X 8 k = 1) ∨ (pv = 0 ∧ X 8 k = 0)) : SOK X k (kc k) pv := (h.2.1 k hk).sok (h8a k hk) (by omega) (by omega) hpv

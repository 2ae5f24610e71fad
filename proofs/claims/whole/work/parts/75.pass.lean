/-! THE CLASS AGAINST THE REFERENCE: pass. What is hit in the slots, summed. -/
def sumH (h : Nat → Bool) (c : Nat → Int32) (i : Nat) : Nat → Int32
  | 0 => 0
  | m + 1 => sumH h c i m + (if h m = true ∧ m / 8 = i then c m else 0)
def cntH (h : Nat → Bool) : Nat → Int32
  | 0 => 0
  | m + 1 => cntH h m + (if h m = true then 1 else 0)
theorem sumH_congr {h h' : Nat → Bool} {c c' : Nat → Int32} {i : Nat} : ∀ m, (∀ a, a < m → h a = h' a ∧ (h a = true → c a = c' a)) → sumH h c i m = sumH h' c' i m := by
  intro m
  induction m with
  | zero => intro _; rfl
  | succ m ih =>
    intro hh
    have h1 := hh m (Nat.lt_succ_self m)
    show sumH h c i m + (if h m = true ∧ m / 8 = i then c m else 0) = sumH h' c' i m + (if h' m = true ∧ m / 8 = i then c' m else 0)
    rw [ih (fun a ha => hh a (by omega)), ← h1.1]
    by_cases hm : h m = true
    · rw [h1.2 hm]
    · simp [hm]
theorem cntH_congr {h h' : Nat → Bool} : ∀ m, (∀ a, a < m → h a = h' a) → cntH h m = cntH h' m := by
  intro m
  induction m with
  | zero => intro _; rfl
  | succ m ih =>
    intro hh
    show cntH h m + (if h m = true then 1 else 0) = cntH h' m + (if h' m = true then 1 else 0)
    rw [ih (fun a ha => hh a (by omega)), hh m (Nat.lt_succ_self m)]
theorem sumH_add {h h' h2 : Nat → Bool} {c c' : Nat → Int32} {i : Nat} : ∀ m, (∀ a, a < m → h2 a = (h a || h' a) ∧ ¬ (h a = true ∧ h' a = true) ∧ (h' a = true → c' a = c a)) → sumH h c i m + sumH h' c' i m = sumH h2 c i m := by
  intro m
  induction m with
  | zero => intro _; rfl
  | succ m ih =>
    intro hh
    obtain ⟨h1, h3, h4⟩ := hh m (Nat.lt_succ_self m)
    show (sumH h c i m + (if h m = true ∧ m / 8 = i then c m else 0)) + (sumH h' c' i m + (if h' m = true ∧ m / 8 = i then c' m else 0)) = sumH h2 c i m + (if h2 m = true ∧ m / 8 = i then c m else 0)
    rw [← ih (fun a ha => hh a (by omega)), h1]
    by_cases e : m / 8 = i
    · cases a1 : h m
      · cases a2 : h' m
        · simp
        · simp [e, h4 a2, Int32.add_assoc]
      · cases a2 : h' m
        · simp [e]
          rw [Int32.add_assoc, Int32.add_comm (c m), ← Int32.add_assoc]
        · exact absurd ⟨a1, a2⟩ h3
    · simp [e]
theorem cntH_add {h h' h2 : Nat → Bool} : ∀ m, (∀ a, a < m → h2 a = (h a || h' a) ∧ ¬ (h a = true ∧ h' a = true)) → cntH h m + cntH h' m = cntH h2 m := by
  intro m
  induction m with
  | zero => intro _; rfl
  | succ m ih =>
    intro hh
    obtain ⟨h1, h3⟩ := hh m (Nat.lt_succ_self m)
    show (cntH h m + (if h m = true then 1 else 0)) + (cntH h' m + (if h' m = true then 1 else 0)) = cntH h2 m + (if h2 m = true then 1 else 0)
    rw [← ih (fun a ha => hh a (by omega)), h1]
    cases a1 : h m
    · cases a2 : h' m
      · simp
      · simp [Int32.add_assoc]
    · cases a2 : h' m
      · simp
        rw [Int32.add_assoc, Int32.add_comm 1, ← Int32.add_assoc]
      · exact absurd ⟨a1, a2⟩ h3
theorem sumH_bd {h : Nat → Bool} {c : Nat → Int32} {i : Nat} : ∀ m, (∀ a, a < m → a / 8 = i → Bd (c a) 100000) → Bd (sumH h c i m) (100000 * min (m - 8 * i) 8) := by
  intro m
  induction m with
  | zero => intro _; exact Bd.zero _
  | succ m ih =>
    intro hh
    have h1 := ih (fun a ha => hh a (by omega))
    show Bd (sumH h c i m + (if h m = true ∧ m / 8 = i then c m else 0)) _
    by_cases e : h m = true ∧ m / 8 = i
    · rw [if_pos e]
      refine (h1.add (hh m (Nat.lt_succ_self m) e.2)).mono ?_
      have := e.2
      omega
    · rw [if_neg e, Int32.add_zero]
      exact h1.mono (by omega)
theorem sumH_none {h : Nat → Bool} {c : Nat → Int32} {i m : Nat} : ∀ t, (∀ a, m ≤ a → a < m + t → h a = false) → sumH h c i (m + t) = sumH h c i m := by
  intro t
  induction t with
  | zero => intro _; rfl
  | succ t ih =>
    intro hh
    show sumH h c i (m + t) + (if h (m + t) = true ∧ (m + t) / 8 = i then c (m + t) else 0) = _
    rw [ih (fun a h1 h2 => hh a h1 (by omega)), hh (m + t) (by omega) (by omega)]
    simp
theorem cntH_none {h : Nat → Bool} {m : Nat} : ∀ t, (∀ a, m ≤ a → a < m + t → h a = false) → cntH h (m + t) = cntH h m := by
  intro t
  induction t with
  | zero => intro _; rfl
  | succ t ih =>
    intro hh
    show cntH h (m + t) + (if h (m + t) = true then 1 else 0) = _
    rw [ih (fun a h1 h2 => hh a h1 (by omega)), hh (m + t) (by omega) (by omega)]
    simp
def cM (M : MS) (a : Nat) : Int32 := if M 12 a = 2 then M 10 a else 0
def cX (X : MS) (a : Nat) : Int32 := if X 18 a = 2 then X 16 a else 0
def EC (M : MS) (h : Nat → Bool) (m : Nat) : MS := fun f i => if f = 12 then (if i < m ∧ h i = true then 0 else M 12 i) else if f = 7 then M 7 i + sumH h (cM M) i m else if f = 9 then (if i % 3 = 0 then M 9 i + sumH h (cM M) (i / 3) m else M 9 i) else M f i
def QC (Y : MS) (h : Nat → Bool) (m : Nat) : MS := fun f i => if f = 18 then (if i < m ∧ h i = true then 0 else Y 18 i) else if f = 11 then Y 11 i + sumH h (cX Y) i m else if f = 13 then Y 13 i + sumH h (cX Y) i m else Y f i
theorem EC_o (M : MS) (h : Nat → Bool) (m : Nat) {f : Nat} (i : Nat) (h12 : f ≠ 12) (h7 : f ≠ 7) (h9 : f ≠ 9) : EC M h m f i = M f i := by simp [EC, h12, h7, h9]
theorem QC_o (M : MS) (h : Nat → Bool) (m : Nat) {f : Nat} (i : Nat) (h12 : f ≠ 18) (h7 : f ≠ 11) (h9 : f ≠ 13) : QC M h m f i = M f i := by simp [QC, h12, h7, h9]
theorem EC_hit (M : MS) (h : Nat → Bool) (m : Nat) (hm : h m = true) : eExp (EC M h m) m (cM M m) = EC M h (m + 1) := by
  funext f i
  unfold eExp
  by_cases h12 : f = 12
  · subst h12
    by_cases e : i = m
    · subst e; simp [mu_e, EC, hm]
    · simp only [mu_e, EC, if_true, e, if_false]
      have : (i < m + 1 ∧ h i = true) ↔ (i < m ∧ h i = true) := by constructor <;> rintro ⟨h1, h2⟩ <;> exact ⟨by omega, h2⟩
      simp [this]
  · by_cases h7 : f = 7
    · subst h7
      by_cases e : i = m / 8
      · subst e
        simp [mu_e, EC, sumH, hm, Int32.add_assoc]
      · have e2 : ¬ (m / 8 = i) := fun z => e z.symm
        simp [mu_e, EC, sumH, e, e2]
    · by_cases h9 : f = 9
      · subst h9
        by_cases e : i = 3 * (m / 8)
        · subst e
          simp [mu_e, EC, sumH, hm, Int32.add_assoc]
        · by_cases e3 : i % 3 = 0
          · have e2 : ¬ (m / 8 = i / 3) := by omega
            simp [mu_e, EC, sumH, e, e2, e3]
          · simp [mu_e, EC, e, e3]
      · simp [mu_e, EC, h12, h7, h9]
theorem EC_no (M : MS) (h : Nat → Bool) (m : Nat) (hm : h m = false) : EC M h m = EC M h (m + 1) := by
  funext f i
  unfold EC
  have : (i < m + 1 ∧ h i = true) ↔ (i < m ∧ h i = true) := by
    constructor
    · rintro ⟨h1, h2⟩
      refine ⟨?_, h2⟩
      by_cases e : i = m
      · subst e; rw [hm] at h2; cases h2
      · omega
    · rintro ⟨h1, h2⟩; exact ⟨by omega, h2⟩
  simp [sumH, hm, this]
def hE (M : MS) (a : Nat) : Bool := decide ((M 12 a = 1 ∨ M 12 a = 2) ∧ M 14 a = M 0 0)
theorem eIt_closed (M : MS) : ∀ m, eIt M m = (cntH (hE M) m, EC M (hE M) m) := by
  intro m
  induction m with
  | zero =>
    show (0, M) = _
    refine Prod.ext rfl ?_
    funext f i
    show M f i = EC M (hE M) 0 f i
    unfold EC
    by_cases h12 : f = 12
    · subst h12; simp
    · by_cases h7 : f = 7
      · subst h7; simp [sumH]
      · by_cases h9 : f = 9
        · subst h9; simp [sumH]
        · simp [h12, h7, h9]
  | succ m ih =>
    show eNext (eIt M m) m = _
    rw [ih]
    unfold eNext
    have e12 : EC M (hE M) m 12 m = M 12 m := by simp [EC]
    have e14 : EC M (hE M) m 14 m = M 14 m := EC_o _ _ _ _ (by decide) (by decide) (by decide)
    have e0 : EC M (hE M) m 0 0 = M 0 0 := EC_o _ _ _ _ (by decide) (by decide) (by decide)
    have e10 : EC M (hE M) m 10 m = M 10 m := EC_o _ _ _ _ (by decide) (by decide) (by decide)
    dsimp only
    simp only [e12, e14, e0, e10]
    have no : hE M m = false → (cntH (hE M) m, EC M (hE M) m) = (cntH (hE M) (m + 1), EC M (hE M) (m + 1)) := fun z => by
      rw [← EC_no M (hE M) m z]; show _ = (cntH (hE M) m + (if hE M m = true then 1 else 0), _); rw [z]; simp
    have yes : hE M m = true → ∀ ch, ch = cM M m → (cntH (hE M) m + 1, eExp (EC M (hE M) m) m ch) = (cntH (hE M) (m + 1), EC M (hE M) (m + 1)) := fun z ch e => by
      rw [e, EC_hit M (hE M) m z]; show _ = (cntH (hE M) m + (if hE M m = true then 1 else 0), _); rw [z]; simp
    by_cases h1 : M 12 m = 1
    · rw [if_pos h1]
      by_cases h2 : M 14 m = M 0 0
      · rw [if_pos h2]
        exact yes (by simp [hE, h1, h2]) 0 (by simp [cM, h1])
      · rw [if_neg h2]
        exact no (by simp [hE, h2])
    · rw [if_neg h1]
      by_cases h3 : M 12 m = 2
      · rw [if_pos h3]
        by_cases h2 : M 14 m = M 0 0
        · rw [if_pos h2]
          exact yes (by simp [hE, h3, h2]) _ (by simp [cM, h3])
        · rw [if_neg h2]
          exact no (by simp [hE, h2])
      · rw [if_neg h3]
        exact no (by simp [hE, h1, h3])
theorem QC_no (M : MS) (h : Nat → Bool) (m : Nat) (hm : h m = false) : QC M h m = QC M h (m + 1) := by
  funext f i
  unfold QC
  have : (i < m + 1 ∧ h i = true) ↔ (i < m ∧ h i = true) := by
    constructor
    · rintro ⟨h1, h2⟩
      refine ⟨?_, h2⟩
      by_cases e : i = m
      · subst e; rw [hm] at h2; cases h2
      · omega
    · rintro ⟨h1, h2⟩; exact ⟨by omega, h2⟩
  simp [sumH, hm, this]
theorem QC_18 (M : MS) (h : Nat → Bool) (m : Nat) (hm : h m = true) (i : Nat) : (if i = m then (0 : Int32) else (if i < m ∧ h i = true then 0 else M 18 i)) = if i < m + 1 ∧ h i = true then 0 else M 18 i := by
  by_cases e : i = m
  · subst e; simp [hm]
  · have : (i < m + 1 ∧ h i = true) ↔ (i < m ∧ h i = true) := by constructor <;> rintro ⟨h1, h2⟩ <;> exact ⟨by omega, h2⟩
    simp [e, this]
theorem QC_hit2 (M : MS) (h : Nat → Bool) (m k : Nat) (hk : m / 8 = k) (hm : h m = true) (h2 : M 18 m = 2) : mu (chX (QC M h m) k (M 16 m)) 18 m 0 = QC M h (m + 1) := by
  funext f i
  unfold chX
  have hc : cX M m = M 16 m := if_pos h2
  by_cases h18 : f = 18
  · subst h18
    have := QC_18 M h m hm i
    simpa [mu_e, QC] using this
  · by_cases h11 : f = 11
    · subst h11
      by_cases e : i = k
      · subst e; simp [mu_e, QC, sumH, hm, hk, hc, Int32.add_assoc]
      · have e2 : ¬ (k = i) := fun z => e z.symm
        simp [mu_e, QC, sumH, e, e2, hk]
    · by_cases h13 : f = 13
      · subst h13
        by_cases e : i = k
        · subst e; simp [mu_e, QC, sumH, hm, hk, hc, Int32.add_assoc]
        · have e2 : ¬ (k = i) := fun z => e z.symm
          simp [mu_e, QC, sumH, e, e2, hk]
      · simp [mu_e, QC, h18, h11, h13]
theorem QC_hit1 (M : MS) (h : Nat → Bool) (m : Nat) (hm : h m = true) (h2 : ¬ M 18 m = 2) : mu (QC M h m) 18 m 0 = QC M h (m + 1) := by
  funext f i
  have hc : cX M m = 0 := if_neg h2
  by_cases h18 : f = 18
  · subst h18
    have := QC_18 M h m hm i
    simpa [mu_e, QC] using this
  · simp [mu_e, QC, h18, sumH, hc]
def hX (Y : MS) (D : Int32) (a : Nat) : Bool := decide ((Y 18 a = 1 ∨ Y 18 a = 2) ∧ ¬ D < Y 20 a)
theorem wIt_closed (Y : MS) (D : Int32) (k : Nat) : ∀ j, j ≤ 8 → (wIt (QC Y (hX Y D) (8 * k)) k D j).2 = QC Y (hX Y D) (8 * k + j) ∧ cntH (hX Y D) (8 * k) + (wIt (QC Y (hX Y D) (8 * k)) k D j).1 = cntH (hX Y D) (8 * k + j) := by
  intro j
  induction j with
  | zero => intro _; exact ⟨rfl, Int32.add_zero _⟩
  | succ j ih =>
    intro hj
    obtain ⟨i1, i2⟩ := ih (by omega)
    generalize hp : wIt (QC Y (hX Y D) (8 * k)) k D j = p at i1 i2
    show (wNext (wIt (QC Y (hX Y D) (8 * k)) k D j) k j D).2 = QC Y (hX Y D) (8 * k + j + 1) ∧ cntH (hX Y D) (8 * k) + (wNext (wIt (QC Y (hX Y D) (8 * k)) k D j) k j D).1 = cntH (hX Y D) (8 * k + j) + (if hX Y D (8 * k + j) = true then 1 else 0)
    rw [hp]
    unfold wNext
    have e18 : p.2 18 (8 * k + j) = Y 18 (8 * k + j) := by rw [i1]; simp [QC]
    have e20 : p.2 20 (8 * k + j) = Y 20 (8 * k + j) := by rw [i1]; exact QC_o _ _ _ _ (by decide) (by decide) (by decide)
    have e16 : p.2 16 (8 * k + j) = Y 16 (8 * k + j) := by rw [i1]; exact QC_o _ _ _ _ (by decide) (by decide) (by decide)
    have hk8 : (8 * k + j) / 8 = k := by omega
    have no : hX Y D (8 * k + j) = false → p.2 = QC Y (hX Y D) (8 * k + j + 1) ∧ cntH (hX Y D) (8 * k) + p.1 = cntH (hX Y D) (8 * k + j) + (if hX Y D (8 * k + j) = true then 1 else 0) := fun z => ⟨by rw [i1]; exact QC_no _ _ _ z, by rw [i2, z]; simp⟩
    unfold wtX
    rw [e18, e20, e16]
    by_cases h1 : Y 18 (8 * k + j) = 1
    · rw [if_pos h1, if_neg (by decide)]
      by_cases hd : D < Y 20 (8 * k + j)
      · rw [if_pos hd]; exact no (by simp [hX, hd])
      · have hh : hX Y D (8 * k + j) = true := by simp [hX, h1, hd]
        rw [if_neg hd, if_neg (by rw [h1]; decide)]
        refine ⟨by show mu p.2 18 _ 0 = _; rw [i1]; exact QC_hit1 _ _ _ hh (by rw [h1]; decide), ?_⟩
        show cntH (hX Y D) (8 * k) + (p.1 + 1) = _
        rw [← Int32.add_assoc, i2, hh]; simp
    · rw [if_neg h1]
      by_cases h3 : Y 18 (8 * k + j) = 2
      · rw [if_pos h3, if_neg (by decide)]
        by_cases hd : D < Y 20 (8 * k + j)
        · rw [if_pos hd]; exact no (by simp [hX, hd])
        · have hh : hX Y D (8 * k + j) = true := by simp [hX, h3, hd]
          rw [if_neg hd, if_pos h3]
          refine ⟨by show mu (chX p.2 k _) 18 _ 0 = _; rw [i1]; exact QC_hit2 _ _ _ _ hk8 hh h3, ?_⟩
          show cntH (hX Y D) (8 * k) + (p.1 + 1) = _
          rw [← Int32.add_assoc, i2, hh]; simp
      · rw [if_neg h3, if_pos rfl]; exact no (by simp [hX, h1, h3])
theorem QC_none {Y : MS} {h : Nat → Bool} {m : Nat} : ∀ t, (∀ a, m ≤ a → a < m + t → h a = false) → QC Y h (m + t) = QC Y h m := by
  intro t
  induction t with
  | zero => intro _; rfl
  | succ t ih =>
    intro hh
    rw [← ih (fun a h1 h2 => hh a h1 (by omega))]
    exact (QC_no _ _ _ (hh (m + t) (by omega) (by omega))).symm
theorem QC_0 (Y : MS) (h : Nat → Bool) : QC Y h 0 = Y := by
  funext f i
  unfold QC
  by_cases h18 : f = 18
  · subst h18; simp
  · by_cases h11 : f = 11
    · subst h11; simp [sumH]
    · by_cases h13 : f = 13
      · subst h13; simp [sumH]
      · simp [h18, h11, h13]
theorem EC_0 (M : MS) (h : Nat → Bool) : EC M h 0 = M := by
  funext f i
  unfold EC
  by_cases h12 : f = 12
  · subst h12; simp
  · by_cases h7 : f = 7
    · subst h7; simp [sumH]
    · by_cases h9 : f = 9
      · subst h9; simp [sumH]
      · simp [h12, h7, h9]
theorem EC_none {M : MS} {h : Nat → Bool} : ∀ m, (∀ a, a < m → h a = false) → EC M h m = M := by
  intro m
  induction m with
  | zero => intro _; exact EC_0 M h
  | succ m ih =>
    intro hh
    rw [← EC_no _ _ _ (hh m (Nat.lt_succ_self m))]
    exact ih (fun a ha => hh a (by omega))
theorem qIt_closed (Y : MS) (kc : Nat → Nat) (D : Int32) (n : Nat) (h8 : ∀ k, k < n → kc k ≤ 8) (hu : ∀ k j, k < n → j < 8 → kc k ≤ j → hX Y D (8 * k + j) = false) : ∀ k, k ≤ n → qIt Y kc D k = (cntH (hX Y D) (8 * k), QC Y (hX Y D) (8 * k)) := by
  intro k
  induction k with
  | zero => intro _; exact Prod.ext rfl (QC_0 Y _).symm
  | succ k ih =>
    intro hk
    show qNext (qIt Y kc D k) kc D k = _
    rw [ih (by omega)]
    unfold qNext
    dsimp only
    have h1 := h8 k (by omega)
    obtain ⟨w1, w2⟩ := wIt_closed Y D k (kc k) h1
    have hn : ∀ a, 8 * k + kc k ≤ a → a < 8 * k + kc k + (8 - kc k) → hX Y D a = false := fun a a1 a2 => by
      have := hu k (a - 8 * k) (by omega) (by omega) (by omega)
      rw [show 8 * k + (a - 8 * k) = a by omega] at this
      exact this
    have e : 8 * (k + 1) = 8 * k + kc k + (8 - kc k) := by omega
    rw [w1, w2, e, QC_none _ hn, cntH_none _ hn]
def hP (M : MS) (D : Int32) (a : Nat) : Bool := decide ((M 12 a = 1 ∨ M 12 a = 2) ∧ ¬ D < M 14 a)
theorem pIt_closed (n dd : Nat) (M : MS) (h0 : M 0 0 = nI dd) (hd : dd ≤ 10000) (hw : ∀ a, a < 8 * n → (M 12 a = 1 ∨ M 12 a = 2) → ∃ e, dd < e ∧ e ≤ 20000 ∧ M 14 a = nI e) : ∀ t, t ≤ 400 → pIt n M t = (cntH (hP M (nI (dd + t))) (8 * n), mu (EC M (hP M (nI (dd + t))) (8 * n)) 0 0 (nI (dd + t))) := by
  intro t
  induction t with
  | zero =>
    intro _
    have hn : ∀ a, a < 8 * n → hP M (nI (dd + 0)) a = false := fun a ha => by
      unfold hP
      refine decide_eq_false ?_
      rintro ⟨h1, h2⟩
      obtain ⟨e, e1, e2, e3⟩ := hw a ha h1
      rw [e3] at h2
      exact h2 (nI_lt (by omega) (by omega))
    show (0, M) = _
    rw [EC_none _ hn]
    have hc := cntH_none (h := hP M (nI (dd + 0))) (m := 0) (8 * n) (fun a _ h => hn a (by omega))
    rw [Nat.zero_add] at hc
    rw [hc]
    refine Prod.ext rfl ?_
    funext f i
    show M f i = mu M 0 0 (nI dd) f i
    rw [mu_e]
    by_cases e1 : f = 0
    · subst e1
      by_cases e2 : i = 0
      · subst e2; simp [h0]
      · simp [e2]
    · simp [e1]
  | succ t ih =>
    intro ht
    have hi := ih (by omega)
    generalize hM1 : mu (pIt n M t).2 0 0 ((pIt n M t).2 0 0 + 1) = M1
    show ((pIt n M t).1 + (eIt (mu (pIt n M t).2 0 0 ((pIt n M t).2 0 0 + 1)) (8 * n)).1, (eIt (mu (pIt n M t).2 0 0 ((pIt n M t).2 0 0 + 1)) (8 * n)).2) = _
    rw [hM1, eIt_closed]
    rw [hi] at hM1 ⊢
    dsimp only at hM1 ⊢
    rw [mu_s, nI_1] at hM1
    have o : ∀ f i, f ≠ 0 → M1 f i = EC M (hP M (nI (dd + t))) (8 * n) f i := fun f i hf => by rw [← hM1, mu_f _ _ _ _ hf, mu_f _ _ _ _ hf]
    have o0 : M1 0 0 = nI (dd + t + 1) := by rw [← hM1, mu_s]
    have o0i : ∀ i, i ≠ 0 → M1 0 i = M 0 i := fun i h => by rw [← hM1, mu_i _ _ _ _ h, mu_i _ _ _ _ h]; exact EC_o _ _ _ _ (by decide) (by decide) (by decide)
    have o12 : ∀ a, a < 8 * n → M1 12 a = if hP M (nI (dd + t)) a = true then 0 else M 12 a := fun a ha => by rw [o 12 a (by decide)]; simp [EC, ha]
    have o14 : ∀ a, M1 14 a = M 14 a := fun a => by rw [o 14 a (by decide)]; exact EC_o _ _ _ _ (by decide) (by decide) (by decide)
    have o10 : ∀ a, M1 10 a = M 10 a := fun a => by rw [o 10 a (by decide)]; exact EC_o _ _ _ _ (by decide) (by decide) (by decide)
    have key : ∀ a, a < 8 * n → hP M (nI (dd + (t + 1))) a = (hP M (nI (dd + t)) a || hE M1 a) ∧ ¬ (hP M (nI (dd + t)) a = true ∧ hE M1 a = true) ∧ (hE M1 a = true → cM M1 a = cM M a) := by
      intro a ha
      by_cases w : M 12 a = 1 ∨ M 12 a = 2
      · obtain ⟨e, e1, e2, e3⟩ := hw a ha w
        have p1 : hP M (nI (dd + (t + 1))) a = decide (e ≤ dd + (t + 1)) := by
          unfold hP
          rw [e3]
          refine decide_eq_decide.mpr ⟨fun h => ?_, fun h => ⟨w, nI_nlt h (by omega)⟩⟩
          rcases Nat.lt_or_ge (dd + (t + 1)) e with q | q
          · exact absurd (nI_lt q (by omega)) h.2
          · exact q
        have p2 : hP M (nI (dd + t)) a = decide (e ≤ dd + t) := by
          unfold hP
          rw [e3]
          refine decide_eq_decide.mpr ⟨fun h => ?_, fun h => ⟨w, nI_nlt h (by omega)⟩⟩
          rcases Nat.lt_or_ge (dd + t) e with q | q
          · exact absurd (nI_lt q (by omega)) h.2
          · exact q
        by_cases q : e ≤ dd + t
        · have p2' : hP M (nI (dd + t)) a = true := by rw [p2]; exact decide_eq_true q
          have p3 : hE M1 a = false := by
            unfold hE
            rw [o12 a ha, p2']
            simp
          refine ⟨by rw [p1, p2', p3, decide_eq_true (by omega)]; rfl, fun z => by rw [p3] at z; exact absurd z.2 (by decide), fun z => by rw [p3] at z; cases z⟩
        · have p2' : hP M (nI (dd + t)) a = false := by rw [p2]; exact decide_eq_false q
          have p3 : hE M1 a = decide (e = dd + (t + 1)) := by
            unfold hE
            rw [o12 a ha, p2', o14, o0, e3]
            refine decide_eq_decide.mpr ⟨fun h => (nI_eq (by omega) (by omega)).mp h.2, fun h => ⟨by simpa using w, by rw [h]; rfl⟩⟩
          refine ⟨by rw [p1, p2', p3, Bool.false_or]; exact decide_eq_decide.mpr ⟨fun _ => by omega, fun _ => by omega⟩, fun z => by rw [p2'] at z; exact absurd z.1 (by decide), fun _ => ?_⟩
          unfold cM
          rw [o12 a ha, p2', o10]
          simp
      · have p1 : ∀ D, hP M D a = false := fun D => decide_eq_false (fun z => w z.1)
        have p3 : hE M1 a = false := by
          unfold hE
          rw [o12 a ha, p1]
          exact decide_eq_false (fun z => w (by simpa using z.1))
        refine ⟨by rw [p1, p1, p3]; rfl, fun z => by rw [p3] at z; exact absurd z.2 (by decide), fun z => by rw [p3] at z; cases z⟩
    refine Prod.ext ?_ ?_
    · exact cntH_add (8 * n) (fun a ha => ⟨(key a ha).1, (key a ha).2.1⟩)
    · have hs : ∀ i, sumH (hP M (nI (dd + t))) (cM M) i (8 * n) + sumH (hE M1) (cM M1) i (8 * n) = sumH (hP M (nI (dd + (t + 1)))) (cM M) i (8 * n) := fun i => sumH_add (8 * n) key
      funext f i
      show EC M1 (hE M1) (8 * n) f i = mu (EC M (hP M (nI (dd + (t + 1)))) (8 * n)) 0 0 (nI (dd + (t + 1))) f i
      by_cases f0 : f = 0
      · subst f0
        rw [EC_o _ _ _ _ (by decide) (by decide) (by decide)]
        by_cases i0 : i = 0
        · subst i0; rw [mu_s, o0]; rfl
        · rw [mu_i _ _ _ _ i0, EC_o _ _ _ _ (by decide) (by decide) (by decide), o0i i i0]
      · rw [mu_f _ _ _ _ f0]
        by_cases f12 : f = 12
        · subst f12
          by_cases hi8 : i < 8 * n
          · have k1 := (key i hi8).1
            simp only [EC, if_true, hi8, true_and]
            rw [o12 i hi8, k1]
            cases hP M (nI (dd + t)) i <;> cases hE M1 i <;> simp
          · simp only [EC, if_true, hi8, false_and, if_false]
            rw [o 12 i (by decide)]
            simp [EC, hi8]
        · by_cases f7 : f = 7
          · subst f7
            have : EC M1 (hE M1) (8 * n) 7 i = M1 7 i + sumH (hE M1) (cM M1) i (8 * n) := by simp [EC]
            rw [this, o 7 i (by decide)]
            have : EC M (hP M (nI (dd + t))) (8 * n) 7 i = M 7 i + sumH (hP M (nI (dd + t))) (cM M) i (8 * n) := by simp [EC]
            rw [this, Int32.add_assoc, hs]
            simp [EC]
          · by_cases f9 : f = 9
            · subst f9
              by_cases i3 : i % 3 = 0
              · have : EC M1 (hE M1) (8 * n) 9 i = M1 9 i + sumH (hE M1) (cM M1) (i / 3) (8 * n) := by simp [EC, i3]
                rw [this, o 9 i (by decide)]
                have : EC M (hP M (nI (dd + t))) (8 * n) 9 i = M 9 i + sumH (hP M (nI (dd + t))) (cM M) (i / 3) (8 * n) := by simp [EC, i3]
                rw [this, Int32.add_assoc, hs]
                simp [EC, i3]
              · have : EC M1 (hE M1) (8 * n) 9 i = M1 9 i := by simp [EC, i3]
                rw [this, o 9 i (by decide)]
                simp [EC, i3]
            · rw [EC_o _ _ _ _ f12 f7 f9, EC_o _ _ _ _ f12 f7 f9, o f i f0, EC_o _ _ _ _ f12 f7 f9]

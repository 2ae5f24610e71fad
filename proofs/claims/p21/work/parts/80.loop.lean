/-! THE LAW'S LOOP: what holds at its head. -/
def AH (hz : Nat) : Nat → Prop := fun q => hz ≤ q
def Gw (g g' : XG) (sz : Nat) : Prop := (∀ t i a, g' t i = some a → (∃ t' i', g t' i' = some a) ∨ sz ≤ a) ∧ xI g' ∧ g' 3 0 = g 3 0 ∧ g' 4 0 = g 4 0
theorem Gw.refl {g g' : XG} {sz : Nat} (hI : xI g) (h : g' = g) : Gw g g' sz := by
  subst h
  exact ⟨fun t i a h => Or.inl ⟨t, i, h⟩, hI, rfl, rfl⟩
theorem ne_m3 {v : Nat} (h : v < 2 ^ 31) : ¬ nI v = -3 := fun z => by
  have h1 := nI_toInt h
  rw [z] at h1
  have h2 : (-3 : Int32).toInt = -3 := by decide
  rw [h2] at h1
  omega
theorem y_in1 (r : Nat) {N : Nat} {x : Int32} (hx : x = nI N) (h1 : 1 ≤ r) (hr : r ≤ N) (hN : N < 2 ^ 31) : inR (nI r) 1 x := by
  subst hx
  exact ⟨nI_nlt (a := r) (b := 1) h1 (by omega), nI_nlt hr hN⟩
/-- the class's world at the law's heap -/
def Wd (D : va_G) (cI cO cL cJ : ClassId) (d bk : Nat) (s : State) (g : XG) (X : MS) (H : Heap) : Prop := xW D cO cL g X H ∧ xE s.heap.size s H ∧ xI g ∧ xO g s.heap.size H.size ∧ g 3 0 = some d ∧ g 4 0 = some bk
theorem Wd.next {D : va_G} {cI cO cL cJ : ClassId} {d bk : Nat} {s : State} {g g' : XG} {X X' : MS} {H H1 : Heap} (h : Wd D cI cO cL cJ d bk s g X H) (hgr : Gw g g' H.size) (hW1 : xW D cO cL g' X' H1) (hz1 : H.size ≤ H1.size) (hk : ∀ a : Nat, a < H.size → ¬ xA g H.size a → H1[a]? = H[a]?) : Wd D cI cO cL cJ d bk s g' X' H1 := by
  obtain ⟨hW, hE, hI, hO, hd, hbk⟩ := h
  refine ⟨hW1, hE.kept (fun a h1 h2 => hk a h1 (fun z => h2 ?_)), hgr.2.1, ⟨fun t i a ha => ?_, Nat.le_trans hO.2 hz1⟩, hgr.2.2.1.trans hd, hgr.2.2.2.trans hbk⟩
  · exact hO.A z
  · rcases hgr.1 t i a ha with ⟨t', i', z⟩ | z
    · exact hO.1 t' i' a z
    · exact Nat.le_trans hO.2 z
theorem gw_order {g g' : XG} {n sz q la : Nat} (hI : xI g) (hlt : ∀ t i a, g t i = some a → a < sz) (h1 : sz ≤ q) (h2 : sz ≤ la) (h3 : q ≠ la) (h4 : g' = gOrd g n q la) : Gw g g' sz := by
  subst h4
  refine ⟨fun t i a ha => ?_, hI.ord hlt h1 h2 h3, rfl, rfl⟩
  rcases gOrd_key ha with ⟨_, _, h⟩ | ⟨_, _, h⟩ | ⟨h, _⟩
  · exact Or.inr (by omega)
  · exact Or.inr (by omega)
  · exact Or.inl ⟨t, i, h⟩
theorem gw_add {g g' : XG} {j sz al : Nat} (hI : xI g) (hlt : ∀ t i a, g t i = some a → a < sz) (h1 : sz ≤ al) (h4 : g' = gMov (gLine g 300 al) j al) : Gw g g' sz := by
  subst h4
  refine ⟨fun t i a ha => ?_, (hI.line hlt h1).mov (by simp [gLine]), by simp [gMov, gLine], by simp [gMov, gLine]⟩
  rcases gMov_key ha with ⟨_, _, h⟩ | ⟨h, _⟩
  · exact Or.inr (by omega)
  · rcases gLine_key h with ⟨_, _, h⟩ | ⟨h, _⟩
    · exact Or.inr (by omega)
    · exact Or.inl ⟨t, i, h⟩
def LI (D : va_G) (cI cO cL cJ : ClassId) (d bk : Nat) (s : State) (T n : Nat) (kc : Nat → Nat) (Lc mm : Nat) (g : XG) (X : MS) (H : Heap) : Prop := Wd D cI cO cL cJ d bk s g X H ∧ xC g X n kc ∧ xZ g n ∧ PI T X n kc Lc mm
theorem xC.h8 {g : XG} {X : MS} {n : Nat} {kc : Nat → Nat} (h : xC g X n kc) : ∀ i, i < n → kc i ≤ 8 := fun i hi => (h.2.2.2 i hi).1
def LC (p : Program) (l : Launch) (s : State) (m : MethodId) (c : Code) (D : va_G) (cI cO cL cJ : ClassId) (b L : Nat) (xs : Nat → Int32) : Prop :=
  p.tables.exec = Jvm.exec ∧ c.code = cL_law ∧ c.maxLocals = 15 ∧ s.vm.findClass RL = some m.cls ∧ (∀ w ∈ wsL_law, w.before #[Value.ref b] s = true) ∧ va_X b L xs s s.heap ∧ b < s.heap.size ∧ L ≤ 260 ∧ KK D cI cO cL cJ s ∧ l.stackTraces = false

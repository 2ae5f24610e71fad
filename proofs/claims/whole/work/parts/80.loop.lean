/-! THE LAW'S LOOP: what holds at its head. -/
def AH (hz : Nat) : Nat → Prop := fun q => hz ≤ q
def Gw (g g' : XG) (sz : Nat) : Prop := (∀ t i a, g' t i = some a → (∃ t' i', g t' i' = some a) ∨ sz ≤ a) ∧ xI g' ∧ g' 3 0 = g 3 0 ∧ g' 4 0 = g 4 0
theorem Gw.refl {g g' : XG} {sz : Nat} (hI : xI g) (h : g' = g) : Gw g g' sz := by
  subst h
  exact ⟨fun t i a h => Or.inl ⟨t, i, h⟩, hI, rfl, rfl⟩
def LI (D : va_G) (cI cO cL cJ : ClassId) (d bk ou ao : Nat) (q : Nat → Nat) (s : State) (K : Nat) (g : XG) (X M : MS) (w : Int64) (H : Heap) : Prop :=
  xW D cO cL g X H ∧ mW D cI ao q M H ∧ va_at D vwCl (wout cJ ou w) H ∧ xE s.heap.size s H ∧ xI g ∧ xO g s.heap.size H.size ∧ mI ao q ∧ (∀ t i, g t i ≠ some ou) ∧ (∀ a, mA ao q a → s.heap.size ≤ a ∧ a ≠ ou ∧ ∀ t i, g t i ≠ some a) ∧ s.heap.size ≤ ou ∧ g 3 0 = some d ∧ g 4 0 = some bk ∧ Inv K g X M
theorem LI.one {D : va_G} {cI cO cL cJ : ClassId} {d bk ou ao : Nat} {q : Nat → Nat} {s : State} {K : Nat} {g g' : XG} {X M : MS} {w : Int64} {H H1 : Heap} (h : LI D cI cO cL cJ d bk ou ao q s K g X M w H) (hgr : Gw g g' H.size) (hz1 : H.size ≤ H1.size) (hk : ∀ a, a < H.size → ¬ wA g H.size ou a → H1[a]? = H[a]?) :
    mW D cI ao q M H1 ∧ xE s.heap.size s H1 ∧ xI g' ∧ xO g' s.heap.size H1.size ∧ (∀ t i, g' t i ≠ some ou) ∧ (∀ a, mA ao q a → s.heap.size ≤ a ∧ a ≠ ou ∧ ∀ t i, g' t i ≠ some a) ∧ g' 3 0 = some d ∧ g' 4 0 = some bk := by
  obtain ⟨hW, hM, hw, hE, hI, hO, hmI, hou, hmA, hz, hd, hbk, hInv⟩ := h
  have hol : ou < H.size := hw.lt
  refine ⟨hM.kept (fun a ha => hk a (hM.lt ha) (fun z => ?_)), hE.kept (fun a h1 h2 => hk a h1 (fun z => h2 ?_)), hgr.2.1, ⟨fun t i a ha => ?_, Nat.le_trans hO.2 hz1⟩, fun t i ha => ?_, fun a ha => ⟨(hmA a ha).1, (hmA a ha).2.1, fun t i h => ?_⟩, hgr.2.2.1.trans hd, hgr.2.2.2.trans hbk⟩
  · rcases z with (⟨t, i, z⟩ | z) | z
    · exact (hmA a ha).2.2 t i z
    · exact absurd (hM.lt ha) (Nat.not_lt.mpr z)
    · exact (hmA a ha).2.1 z
  · rcases z with (⟨t, i, z⟩ | z) | z
    · exact hO.1 t i a z
    · exact Nat.le_trans hO.2 z
    · rw [z]; exact hz
  · rcases hgr.1 t i a ha with ⟨t', i', z⟩ | z
    · exact hO.1 t' i' a z
    · exact Nat.le_trans hO.2 z
  · rcases hgr.1 t i ou ha with ⟨t', i', z⟩ | z
    · exact hou t' i' z
    · exact absurd hol (Nat.not_lt.mpr z)
  · rcases hgr.1 t i a h with ⟨t', i', z⟩ | z
    · exact (hmA a ha).2.2 t' i' z
    · exact absurd (hM.lt ha) (Nat.not_lt.mpr z)
theorem LI.two {D : va_G} {cI cO cL cJ : ClassId} {d bk ou ao : Nat} {q : Nat → Nat} {s : State} {K : Nat} {g : XG} {X M : MS} {w : Int64} {H1 H2 : Heap} (hW : xW D cO cL g X H1) (hw : va_at D vwCl (wout cJ ou w) H1) (hE : xE s.heap.size s H1) (hI : xI g) (hO : xO g s.heap.size H1.size) (hmI : mI ao q) (hou : ∀ t i, g t i ≠ some ou) (hmA : ∀ a, mA ao q a → s.heap.size ≤ a ∧ a ≠ ou ∧ ∀ t i, g t i ≠ some a) (hz : s.heap.size ≤ ou) (hd : g 3 0 = some d) (hbk : g 4 0 = some bk) (hM2 : mW D cI ao q M H2) (hz2 : H1.size ≤ H2.size) (hk2 : ∀ a : Nat, a < H1.size → ¬ mA ao q a → H2[a]? = H1[a]?) (hInv : Inv K g X M) : LI D cI cO cL cJ d bk ou ao q s K g X M w H2 :=
  ⟨hW.kept (fun t i a ha => hk2 a (hW.lt ha) (fun z => (hmA a z).2.2 t i ha)), hM2, hw.kept (hk2 ou hw.lt (fun z => (hmA ou z).2.1 rfl)), hE.kept (fun a h1 h2 => hk2 a h1 (fun z => h2 (hmA a z).1)), hI, ⟨hO.1, Nat.le_trans hO.2 hz2⟩, hmI, hou, hmA, hz, hd, hbk, hInv⟩
theorem Inv.next {K : Nat} {g : XG} {X M : MS} (h : Inv K g X M) : Inv (K + 1) g X M := by
  obtain ⟨n, kc, dd, h1, h2, h3⟩ := h
  exact ⟨n, kc, dd, h1, h2, h3.mono⟩
theorem LI.next {D : va_G} {cI cO cL cJ : ClassId} {d bk ou ao : Nat} {q : Nat → Nat} {s : State} {K : Nat} {g : XG} {X M : MS} {w : Int64} {H : Heap} (h : LI D cI cO cL cJ d bk ou ao q s K g X M w H) : LI D cI cO cL cJ d bk ou ao q s (K + 1) g X M w H :=
  ⟨h.1, h.2.1, h.2.2.1, h.2.2.2.1, h.2.2.2.2.1, h.2.2.2.2.2.1, h.2.2.2.2.2.2.1, h.2.2.2.2.2.2.2.1, h.2.2.2.2.2.2.2.2.1, h.2.2.2.2.2.2.2.2.2.1, h.2.2.2.2.2.2.2.2.2.2.1, h.2.2.2.2.2.2.2.2.2.2.2.1, h.2.2.2.2.2.2.2.2.2.2.2.2.next⟩
def LC (p : Program) (l : Launch) (s : State) (m : MethodId) (c : Code) (D : va_G) (cI cO cL cJ : ClassId) (b L : Nat) (xs : Nat → Int32) : Prop :=
  p.tables.exec = Jvm.exec ∧ c.code = cL_law ∧ c.maxLocals = 7 ∧ s.vm.findClass RL = some m.cls ∧ (∀ w ∈ wsL_law, w.before #[Value.ref b] s = true) ∧ va_X b L xs s s.heap ∧ b < s.heap.size ∧ L ≤ 2048 ∧ KK D cI cO cL cJ s ∧ xNs s ∧ l.stackTraces = false
theorem cmp0 (x : Int64) : lg_cmp x x = 0 := by simp [lg_cmp]
section LRows
variable {p : Program} {l : Launch} {e : Env} {R : Room} {s : State} {m : MethodId} {args : Array Value} {below : List Frame} {meth : Method} {c : Code} {H : Heap} {locs : List Loc} {cells slots : Nat} {Q : State → Prop}
variable {cc : ByteArray} {pc : Nat} {ls : Array Slot} {rest : List Value}
theorem f_sld (hexec : p.tables.exec = Jvm.exec) (hb : c.code = cc) {b L : Nat} {xs : Nat → Int32} (hX : va_X b L xs s s.heap) (hbl : b < s.heap.size) (hL : L ≤ 2048) (hS : va_S (AH s.heap.size) s.heap H locs) {x : Int32} {i : Nat} (hxi : x = nI i) (hi : i < L) (hdg : decode cc pc = .ok (.iaload, 1))
    (kk : W p l e R s m args below meth c H locs cells slots Q (F0 m (pc + 1) ls (.int (xs i) :: rest))) : W p l e R s m args below meth c H locs cells slots Q (F0 m pc ls (.int x :: .ref b :: rest)) := by
  subst hxi
  refine va_sld hexec hb hX hbl (fun z => absurd hbl (Nat.not_lt.mpr z)) hS (vp_in_nI hi (by omega)) hdg ?_
  rw [nI_clamp (by omega)]
  exact kk
end LRows

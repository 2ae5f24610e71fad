/-! THE CLASS'S WORLD. g says where each cell lies: kind 0 the orders, 1 their arrays of lines, 2 the lines (8 k + l), 3 the desk, 4 its book (3 and 4 at place 0). X is its state of numbers: 0 .. 4 the desk's (at 0), 5 .. 15 an order's, 16 .. 20 a line's. -/
abbrev XG : Type := Nat → Nat → Option Nat
def xobD (g : XG) (X : MS) (i : Nat) : List Value := [va_rf (g 4 i), .int (X 0 i), .int (X 1 i), .int (X 2 i), .int (X 3 i), .int (X 4 i)]
def xobO (g : XG) (X : MS) (i : Nat) : List Value := [.int (X 5 i), .int (X 6 i), va_rf (g 1 i), .int (X 7 i), .int (X 8 i), .int (X 9 i), .int (X 10 i), .int (X 11 i), .int (X 12 i), .int (X 13 i), .int (X 14 i), .int (X 15 i)]
def xobL (X : MS) (i : Nat) : List Value := [.int (X 16 i), .int (X 17 i), .int (X 18 i), .int (X 19 i), .int (X 20 i)]
def xcell (cO cL : ClassId) (g : XG) (X : MS) (t i : Nat) : va_E := match t with
  | 0 => .inr (1, xobO g X i)
  | 1 => .inl (cL, 8, .inr (.inr (.inr (.inr (fun j => g 2 (8 * i + j))))))
  | 2 => .inr (0, xobL X i)
  | 3 => .inr (2, xobD g X i)
  | _ => .inl (cO, 30, .inr (.inr (.inr (.inr (fun j => g 0 j)))))
def xW (D : va_G) (cO cL : ClassId) (g : XG) (X : MS) (H : Heap) : Prop := ∀ t i a, g t i = some a → va_at D vwCl (a, xcell cO cL g X t i) H
/-- no cell has two places -/
def xI (g : XG) : Prop := ∀ t i t' i' a, g t i = some a → g t' i' = some a → t = t' ∧ i = i'
def xA (g : XG) (sz : Nat) : Nat → Prop := fun a => (∃ t i, g t i = some a) ∨ sz ≤ a
theorem xW.kept {D : va_G} {cO cL : ClassId} {g : XG} {X : MS} {H H1 : Heap} (h : xW D cO cL g X H) (hk : ∀ t i a, g t i = some a → H1[a]? = H[a]?) : xW D cO cL g X H1 := fun t i a ha => (h t i a ha).kept (hk t i a ha)
theorem xW.lt {D : va_G} {cO cL : ClassId} {g : XG} {X : MS} {H : Heap} (h : xW D cO cL g X H) {t i a : Nat} (ha : g t i = some a) : a < H.size := (h t i a ha).lt
theorem xW.more {D : va_G} {cO cL : ClassId} {g : XG} {X : MS} {H H1 : Heap} (h : xW D cO cL g X H) (hk : ∀ q, q < H.size → H1[q]? = H[q]?) : xW D cO cL g X H1 := h.kept (fun _ _ _ ha => hk _ (h.lt ha))
/-- which kind a field belongs to -/
def xkind (f : Nat) : Nat := if f < 5 then 3 else if f < 16 then 0 else 2
theorem xcell_other {cO cL : ClassId} {g : XG} {X : MS} {f i : Nat} {v : Int32} {t' i' : Nat} (hf : f ≤ 20) (h : t' ≠ xkind f ∨ i' ≠ i) : xcell cO cL g (mu X f i v) t' i' = xcell cO cL g X t' i' := by
  have key : ∀ f', f' ≤ 20 → xkind f' = t' → mu X f i v f' i' = X f' i' := by
    intro f' h' hk
    by_cases hff : f' = f
    · subst hff
      rcases h with h | h
      · exact absurd hk.symm h
      · exact mu_i _ _ _ _ h
    · exact mu_f _ _ _ _ hff
  match t', key with
  | 0, key => simp only [xcell, xobO, key 5 (by decide) rfl, key 6 (by decide) rfl, key 7 (by decide) rfl, key 8 (by decide) rfl, key 9 (by decide) rfl, key 10 (by decide) rfl, key 11 (by decide) rfl, key 12 (by decide) rfl, key 13 (by decide) rfl, key 14 (by decide) rfl, key 15 (by decide) rfl]
  | 1, key => rfl
  | 2, key => simp only [xcell, xobL, key 16 (by decide) rfl, key 17 (by decide) rfl, key 18 (by decide) rfl, key 19 (by decide) rfl, key 20 (by decide) rfl]
  | 3, key => simp only [xcell, xobD, key 0 (by decide) rfl, key 1 (by decide) rfl, key 2 (by decide) rfl, key 3 (by decide) rfl, key 4 (by decide) rfl]
  | n + 4, key => rfl
/-- one cell written, the numbers with it -/
theorem xW.upd {D : va_G} {cO cL : ClassId} {g : XG} {X : MS} {H H1 : Heap} {t i a f : Nat} {v : Int32} (h : xW D cO cL g X H) (hI : xI g) (ha : g t i = some a) (hf : f ≤ 20) (hk : t = xkind f) (hat : va_at D vwCl (a, xcell cO cL g (mu X f i v) t i) H1) (ho : ∀ q : Nat, q ≠ a → H1[q]? = H[q]?) : xW D cO cL g (mu X f i v) H1 := by
  intro t' i' a' ha'
  by_cases hti : t' = t ∧ i' = i
  · obtain ⟨rfl, rfl⟩ := hti
    rw [ha'] at ha
    cases ha
    exact hat
  · have hne : a' ≠ a := fun e => hti (hI t' i' t i a' ha' (by rw [e]; exact ha))
    rw [xcell_other hf (by rw [← hk]; by_cases h1 : t' = t
                           · exact Or.inr (fun h2 => hti ⟨h1, h2⟩)
                           · exact Or.inl h1)]
    exact (h t' i' a' ha').kept (ho a' hne)
abbrev xNames : List String := ["java/lang/RuntimeException", "java/lang/Exception"]
abbrev ISE : String := "java/lang/IllegalStateException"
abbrev IAE : String := "java/lang/IllegalArgumentException"
abbrev IOE : String := "java/lang/IndexOutOfBoundsException"
def xStr : List (Nat × String) := [(26, "no room for another order"), (47, "the order takes no more lines"), (59, "the order is paid or has no lines"), (85, "the line is not waited for"), (143, "the day would be above the last one"), (150, "an argument is out of range"), (155, "no such order"), (162, "no such line"), (170, "the line may not come back")]
/-- words of a throw that are not kept by themselves -/
def xNon : List Cond := [.castable ISE ISE, .castable IAE IAE, .castable IOE IOE, .declares (Bundle.initS "java/lang/RuntimeException"), .declares (Bundle.initS "java/lang/Exception"), .declares (Bundle.initS "java/lang/Throwable")]
theorem xNon_tab : ∀ w ∈ xNon, w.onTables = true := by decide +kernel
theorem xNon_warm {s U : State} (hW : s.WarmedH U.vm) : ∀ w ∈ xNon, va_Nw w s → va_Nw w U := by
  intro w hw
  simp only [xNon, List.mem_cons, List.not_mem_nil, or_false] at hw
  rcases hw with rfl | rfl | rfl | rfl | rfl | rfl
  · exact va_Nw.warmC hW
  · exact va_Nw.warmC hW
  · exact va_Nw.warmC hW
  · exact va_Nw.warmD hW
  · exact va_Nw.warmD hW
  · exact va_Nw.warmD hW
/-- what a throw needs of the machine, and the arrays' classes -/
def xE (hz : Nat) (U : State) (H : Heap) : Prop := vx_Zq Bundle.tN "UNASSIGNED_STACK" Bundle.steD (fun a => hz ≤ a) U H ∧ vx_Zq Bundle.tN "SUPPRESSED_SENTINEL" Bundle.listD (fun a => hz ≤ a) U H ∧ (∀ w ∈ xNon, va_Nw w U) ∧ (∀ z ∈ xStr, ∃ sa, vk_R RX2 z.1 z.2 sa U) ∧ va_AO RX0 U ∧ va_AO RX1 U
theorem xE.same {hz : Nat} {u U : State} {H : Heap} (hv : U.vm = u.vm) (h : xE hz u H) : xE hz U H := by
  obtain ⟨h1, h2, h3, h6, h7, h8⟩ := h
  have hal : u.vm.Alike U.vm := by rw [hv]; exact Vm.Alike.refl u.vm
  exact ⟨h1.moved hal, h2.moved hal, fun w hw => va_Nw.same (xNon_tab w hw) hv.symm (h3 w hw), fun z hz9 => let ⟨sa, h9⟩ := h6 z hz9; ⟨sa, h9.same hv⟩, h7.moved hal, h8.moved hal⟩
theorem xE.warm {hz : Nat} {s U : State} {H : Heap} (hW : s.WarmedH U.vm) (h : xE hz s H) : xE hz U H := by
  obtain ⟨h1, h2, h3, h6, h7, h8⟩ := h
  exact ⟨h1.moved hW.alike, h2.moved hW.alike, fun w hw => xNon_warm hW w hw (h3 w hw), fun z hz9 => let ⟨sa, h9⟩ := h6 z hz9; ⟨sa, h9.warm hW⟩, h7.moved hW.alike, h8.moved hW.alike⟩
theorem xE.kept {hz : Nat} {U : State} {H H1 : Heap} (h : xE hz U H) (hq : ∀ a : Nat, a < H.size → ¬ hz ≤ a → H1[a]? = H[a]?) : xE hz U H1 := ⟨h.1.kept hq, h.2.1.kept hq, h.2.2⟩
/-- whose cells: all at or behind hz -/
def xO (g : XG) (hz sz : Nat) : Prop := (∀ t i a, g t i = some a → hz ≤ a) ∧ hz ≤ sz
theorem xO.A {g : XG} {hz sz : Nat} (h : xO g hz sz) {a : Nat} (ha : xA g sz a) : hz ≤ a := by
  rcases ha with ⟨t, i, q⟩ | q
  · exact h.1 t i a q
  · exact Nat.le_trans h.2 q
theorem xE.S {hz sz : Nat} {g : XG} {s : State} {H : Heap} {locs : List Loc} (h : xE hz s s.heap) (hO : xO g hz sz) (hS : va_S (xA g sz) s.heap H locs) : xE hz s H := h.kept (fun a h1 h2 => hS.2.1 a h1 (fun q => h2 (hO.A q)))
def xP (D : va_G) (cI cO cL cJ : ClassId) (g : XG) (X : MS) (hz sz : Nat) (av : List Value) : Array Value → State → Prop := va_Pc av (fun U => U.heap.size = sz ∧ xW D cO cL g X U.heap ∧ KK D cI cO cL cJ U ∧ xE hz U U.heap)
theorem xP.blind {D : va_G} {cI cO cL cJ : ClassId} {g : XG} {X : MS} {hz sz : Nat} {av : List Value} : FrameBlind (xP D cI cO cL cJ g X hz sz av) := fun a U f mk h => ⟨h.1, h.2.1, h.2.2.1, va_K.moved (u := U) (U := U.calling f mk a) (Vm.Alike.refl U.vm) h.2.2.2.1, xE.same (u := U) (U := U.calling f mk a) rfl h.2.2.2.2⟩
/-- thrown: which class, and nothing old written -/
def xT (cond : String → Prop) : String → State → State → Prop := fun E st t => cond E ∧ st.heap.size ≤ t.heap.size ∧ ∀ q, q < st.heap.size → t.heap[q]? = st.heap[q]?
/-- an answer that is an old cell, nothing written -/
def xSr (post : Nat → Prop) : Array Value → State → Outcome → State → Prop := fun _ st oc t => ∃ a : Nat, oc = .returned (some (.ref a)) ∧ post a ∧ t.heap = st.heap
def xSv (post : Prop) : Array Value → State → Outcome → State → Prop := fun _ st oc t => oc = .returned none ∧ post ∧ t.heap = st.heap
def xQi (D : va_G) (cO cL : ClassId) (g : XG) (sz : Nat) (post : Int32 → MS → Prop) : Array Value → State → Outcome → State → Prop := va_Qi post (fun X' t => xW D cO cL g X' t.heap) (xA g sz)
def xQv (D : va_G) (cO cL : ClassId) (g : XG) (sz : Nat) (post : MS → Prop) : Array Value → State → Outcome → State → Prop := va_Qv post (fun X' t => xW D cO cL g X' t.heap) (xA g sz)
theorem tg_S : ∀ w ∈ Cond.classLink RX2 24 ISE :: Cond.initialized ISE :: vx_atS RX2 28 ISE xNames, vx_ot w = true := by decide +kernel
theorem tg_A : ∀ w ∈ Cond.classLink RX2 148 IAE :: Cond.initialized IAE :: vx_atS RX2 152 IAE xNames, vx_ot w = true := by decide +kernel
theorem tg_O : ∀ w ∈ Cond.classLink RX2 153 IOE :: Cond.initialized IOE :: vx_atS RX2 157 IOE xNames, vx_ot w = true := by decide +kernel
theorem tn_S : ∀ w ∈ (vx_atS RX2 28 ISE xNames).filter (fun w => !goodWord w), w ∈ xNon := by decide +kernel
theorem tn_A : ∀ w ∈ (vx_atS RX2 152 IAE xNames).filter (fun w => !goodWord w), w ∈ xNon := by decide +kernel
theorem tn_O : ∀ w ∈ (vx_atS RX2 157 IOE xNames).filter (fun w => !goodWord w), w ∈ xNon := by decide +kernel
section XRows
variable {p : Program} {l : Launch} {e : Env} {R : Room} {s : State} {m : MethodId} {args : Array Value} {below : List Frame} {meth : Method} {c : Code} {H : Heap} {locs : List Loc} {cells slots : Nat} {Q : State → Prop}
variable {cc : ByteArray} {pc : Nat} {ls : Array Slot} {rest : List Value} {D : va_G} {cI cO cL cJ : ClassId} {H0 : Heap} {A : Nat → Prop} {g : XG} {X : MS} {hz sz mc ms : Nat} {own : String} {Ts : List Cond} {a i : Nat}
theorem x_putO (hexec : p.tables.exec = Jvm.exec) (hb : c.code = cc) {ref : String} {index : Nat} (hts : ∀ w ∈ Ts, w.before args s = true) (hin : ∀ w ∈ u_ws RX1 TX1 12, w ∈ Ts) (hown : s.vm.findClass own = some m.cls) (hK : KK D cI cO cL cJ s) (hI : xI g) (hW : xW D cO cL g X H) (hS : va_S A H0 H locs) (ha : g 0 i = some a) (hA : A a) (k f : Nat) (hk : 3 ≤ k ∧ k < 12 ∧ k + 4 = f) (hlink : (Cond.fieldLink own index ref (TX1 k).2.1 (TX1 k).2.2.1).before args s = true) (hsame : ∀ x, s.fieldFound? (TX1 k).1 (TX1 k).2.1 (TX1 k).2.2.1 = some x → s.fieldFound? ref (TX1 k).2.1 (TX1 k).2.2.1 = some x) {v : Int32} (ty : FieldType) (hd : parseFieldDescriptor (TX1 k).2.2.1 = some ty) (hn : narrow ty (.int v) = .int v) (hfit : fits ty (.int v) = true) (hdg : decode cc pc = .ok (.putfield index, 3))
    (kk : ∀ (H1 : Heap) (locs1 : List Loc), xW D cO cL g (mu X f i v) H1 → H1.size = H.size → (∀ q : Nat, q ≠ a → H1[q]? = H[q]?) → va_S A H0 H1 locs1 → W p l e R s m args below meth c H1 locs1 cells slots Q (F0 m (pc + 3) ls rest)) : W p l e R s m args below meth c H locs cells slots Q (F0 m pc ls (.int v :: .ref a :: rest)) := by
  obtain ⟨h3, h12, rfl⟩ := hk
  have hfin : (TX1 k).2.2.2 = false := by
    rcases (show k = 3 ∨ k = 4 ∨ k = 5 ∨ k = 6 ∨ k = 7 ∨ k = 8 ∨ k = 9 ∨ k = 10 ∨ k = 11 by omega) with rfl | rfl | rfl | rfl | rfl | rfl | rfl | rfl | rfl <;> rfl
  have hset : xobO g (mu X (k + 4) i v) i = (xobO g X i).set k (.int v) := by
    rcases (show k = 3 ∨ k = 4 ∨ k = 5 ∨ k = 6 ∨ k = 7 ∨ k = 8 ∨ k = 9 ∨ k = 10 ∨ k = 11 by omega) with rfl | rfl | rfl | rfl | rfl | rfl | rfl | rfl | rfl <;> simp [xobO, mu_e]
  have hat : va_at D vwCl (a, .inr (1, xobO g X i)) H := hW 0 i a ha
  have hkind : (0 : Nat) = xkind (k + 4) := by unfold xkind; rw [if_neg (by omega), if_pos (by omega)]
  refine f_put hexec hb hts hin tyX1 tyX1_ok nmX1 hown hK hat hS hA rfl k h12 hlink hsame hfin hd hn hfit (show k < 12 from h12) hdg (fun H1 locs1 hat1 hz1 ho hS1 => ?_)
  refine kk H1 locs1 (hW.upd hI ha (by omega) hkind ?_ ho) hz1 ho hS1
  show va_at D vwCl (a, .inr (1, xobO g (mu X (k + 4) i v) i)) H1
  rw [hset]
  exact hat1
theorem x_putL (hexec : p.tables.exec = Jvm.exec) (hb : c.code = cc) {ref : String} {index : Nat} (hts : ∀ w ∈ Ts, w.before args s = true) (hin : ∀ w ∈ u_ws RX0 TX0 5, w ∈ Ts) (hown : s.vm.findClass own = some m.cls) (hK : KK D cI cO cL cJ s) (hI : xI g) (hW : xW D cO cL g X H) (hS : va_S A H0 H locs) (ha : g 2 i = some a) (hA : A a) (k f : Nat) (hk : 2 ≤ k ∧ k < 5 ∧ k + 16 = f) (hlink : (Cond.fieldLink own index ref (TX0 k).2.1 (TX0 k).2.2.1).before args s = true) (hsame : ∀ x, s.fieldFound? (TX0 k).1 (TX0 k).2.1 (TX0 k).2.2.1 = some x → s.fieldFound? ref (TX0 k).2.1 (TX0 k).2.2.1 = some x) {v : Int32} (hdg : decode cc pc = .ok (.putfield index, 3))
    (kk : ∀ (H1 : Heap) (locs1 : List Loc), xW D cO cL g (mu X f i v) H1 → H1.size = H.size → (∀ q : Nat, q ≠ a → H1[q]? = H[q]?) → va_S A H0 H1 locs1 → W p l e R s m args below meth c H1 locs1 cells slots Q (F0 m (pc + 3) ls rest)) : W p l e R s m args below meth c H locs cells slots Q (F0 m pc ls (.int v :: .ref a :: rest)) := by
  obtain ⟨h3, h12, rfl⟩ := hk
  have hfin : (TX0 k).2.2.2 = false := by
    rcases (show k = 2 ∨ k = 3 ∨ k = 4 by omega) with rfl | rfl | rfl <;> rfl
  have hd : parseFieldDescriptor (TX0 k).2.2.1 = some .int := by
    rcases (show k = 2 ∨ k = 3 ∨ k = 4 by omega) with rfl | rfl | rfl <;> exact tyX0_ok _ (by decide)
  have hset : xobL (mu X (k + 16) i v) i = (xobL X i).set k (.int v) := by
    rcases (show k = 2 ∨ k = 3 ∨ k = 4 by omega) with rfl | rfl | rfl <;> simp [xobL, mu_e]
  have hat : va_at D vwCl (a, .inr (0, xobL X i)) H := hW 2 i a ha
  have hkind : (2 : Nat) = xkind (k + 16) := by unfold xkind; rw [if_neg (by omega), if_neg (by omega)]
  refine f_put hexec hb hts hin tyX0 tyX0_ok nmX0 hown hK hat hS hA rfl k h12 hlink hsame hfin hd (v := .int v) rfl rfl (show k < 5 from h12) hdg (fun H1 locs1 hat1 hz1 ho hS1 => ?_)
  refine kk H1 locs1 (hW.upd hI ha (by omega) hkind ?_ ho) hz1 ho hS1
  show va_at D vwCl (a, .inr (0, xobL (mu X (k + 16) i v) i)) H1
  rw [hset]
  exact hat1
theorem x_putD (hexec : p.tables.exec = Jvm.exec) (hb : c.code = cc) {ref : String} {index : Nat} (hts : ∀ w ∈ Ts, w.before args s = true) (hin : ∀ w ∈ u_ws RX2 TX2 6, w ∈ Ts) (hown : s.vm.findClass own = some m.cls) (hK : KK D cI cO cL cJ s) (hI : xI g) (hW : xW D cO cL g X H) (hS : va_S A H0 H locs) (ha : g 3 0 = some a) (hA : A a) (k f : Nat) (hk : 1 ≤ k ∧ k < 6 ∧ f + 1 = k) (hlink : (Cond.fieldLink own index ref (TX2 k).2.1 (TX2 k).2.2.1).before args s = true) (hsame : ∀ x, s.fieldFound? (TX2 k).1 (TX2 k).2.1 (TX2 k).2.2.1 = some x → s.fieldFound? ref (TX2 k).2.1 (TX2 k).2.2.1 = some x) {v : Int32} (hdg : decode cc pc = .ok (.putfield index, 3))
    (kk : ∀ (H1 : Heap) (locs1 : List Loc), xW D cO cL g (mu X f 0 v) H1 → H1.size = H.size → (∀ q : Nat, q ≠ a → H1[q]? = H[q]?) → va_S A H0 H1 locs1 → W p l e R s m args below meth c H1 locs1 cells slots Q (F0 m (pc + 3) ls rest)) : W p l e R s m args below meth c H locs cells slots Q (F0 m pc ls (.int v :: .ref a :: rest)) := by
  obtain ⟨h3, h12, rfl⟩ := hk
  have hfin : (TX2 (f + 1)).2.2.2 = false := by
    rcases (show f = 0 ∨ f = 1 ∨ f = 2 ∨ f = 3 ∨ f = 4 by omega) with rfl | rfl | rfl | rfl | rfl <;> rfl
  have hd : parseFieldDescriptor (TX2 (f + 1)).2.2.1 = some .int := by
    rcases (show f = 0 ∨ f = 1 ∨ f = 2 ∨ f = 3 ∨ f = 4 by omega) with rfl | rfl | rfl | rfl | rfl <;> exact tyX2_ok _ (by decide)
  have hset : xobD g (mu X f 0 v) 0 = (xobD g X 0).set (f + 1) (.int v) := by
    rcases (show f = 0 ∨ f = 1 ∨ f = 2 ∨ f = 3 ∨ f = 4 by omega) with rfl | rfl | rfl | rfl | rfl <;> simp [xobD, mu_e]
  have hat : va_at D vwCl (a, .inr (2, xobD g X 0)) H := hW 3 0 a ha
  have hkind : (3 : Nat) = xkind f := by unfold xkind; rw [if_pos (by omega)]
  refine f_put hexec hb hts hin tyX2 tyX2_ok nmX2 hown hK hat hS hA rfl (f + 1) h12 hlink hsame hfin hd (v := .int v) rfl rfl (show f + 1 < 6 from h12) hdg (fun H1 locs1 hat1 hz1 ho hS1 => ?_)
  refine kk H1 locs1 (hW.upd hI ha (by omega) hkind ?_ ho) hz1 ho hS1
  show va_at D vwCl (a, .inr (2, xobD g (mu X f 0 v) 0)) H1
  rw [hset]
  exact hat1
/-- a throw of the class's own -/
theorem x_throw (hl : l.stackTraces = false) (hexec : p.tables.exec = Jvm.exec) (hb : c.code = cc) (hown : s.vm.findClass RX2 = some m.cls) (hts : ∀ w ∈ Ts, w.before args s = true) (hE : xE hz s s.heap) {Qc : Array Value → State → Outcome → State → Prop} {cond : String → Prop} {free : Nat → Prop} {cls text : String} {ik is ic : Nat} (hcls : Bundle.fit cls = true) (hnm : ∀ n ∈ xNames, Bundle.fit n = true) (hk : (Cond.classLink RX2 ik cls).before args s = true) (hini : (Cond.initialized cls).before args s = true) (hstr : (is, text) ∈ xStr) (hgw : ∀ w ∈ (vx_atS RX2 ic cls xNames).filter goodWord, w ∈ Ts) 
    (hnon : ∀ w ∈ (vx_atS RX2 ic cls xNames).filter (fun w => !goodWord w), w ∈ xNon) (hgood : ∀ w ∈ Cond.classLink RX2 ik cls :: Cond.initialized cls :: vx_atS RX2 ic cls xNames, vx_ot w = true)
    (hsize : ls.size = c.maxLocals) (htab : ∀ x ∈ c.exceptionTable.toList, False) (hlocks : meth.locks = false)
    (d0 : decode cc pc = .ok (.new ik, 3)) (d3 : decode cc (pc + 3) = .ok (.dup, 1)) (d4 : decode cc (pc + 4) = .ok (.ldc is, 2)) (d6 : decode cc (pc + 6) = .ok (.invokespecial ic, 3)) (d9 : decode cc (pc + 9) = .ok (.athrow, 1))
    (hR : 5 < R.frames ∧ (rest.map fun v => v.category).sum + 82 ≤ R.locals ∧ cells + 1 ≤ R.cells ∧ slots + 6 ≤ R.slots) (hm : cells + 1 ≤ mc ∧ slots + 6 ≤ ms) (hH : H = s.heap) (hlo : locs = []) (hc : cond cls) :
    W p l e R s m args below meth c H locs cells slots (vx_MQ below Qc (xT cond) args s mc ms free) (F0 m pc ls rest) := by
  subst hH
  subst hlo
  obtain ⟨sa, hsa⟩ := hE.2.2.2.1 _ hstr
  have hA : ∀ q, (fun a => hz ≤ a) q → (fun a => hz ≤ a) q := fun _ h => h
  refine vx_throwS (names := xNames) (A := fun a => hz ≤ a) hexec hb hl hown hcls hnm hk hini hsa (vx_hat (fun w hw => hts w (hgw w hw)) hnon (fun w hw => va_Nw.use (xNon_tab w hw) (hE.2.2.1 w hw))) hgood hE.1 hE.2.1 va_S.rf hsize d0 d3 d4 d6 d9 (fun x hx => (htab x hx).elim) hR.1 hR.2.1 hR.2.2.1 hR.2.2.2 hlocks (fun t _ h1 h2 => ⟨hc, h1, h2⟩) (fun z hz9 => by cases hz9) hm.1 hm.2
/-- a throw that goes on to the caller -/
theorem x_prop {Qc : Array Value → State → Outcome → State → Prop} {cond : String → Prop} {free : Nat → Prop} {E : String} {ce : Cell} {q9 : Nat} (htab : ∀ x ∈ c.exceptionTable.toList, False) (hlocks : meth.locks = false) (hcell : H[q9]? = some ce) (hv : ce.vm = .none) (hcl : s.vm.findClass E = some ce.cls) (hsz : s.heap.size ≤ H.size) (hq : ∀ q, q < s.heap.size → H[q]? = s.heap[q]?) (hf : ∀ z ∈ locs, free z.base) (hm : cells ≤ mc ∧ slots ≤ ms) (hc : cond E) :
    vx_W p l e R s m args below meth c H locs cells slots (vx_MQ below Qc (xT cond) args s mc ms free) (F0 m pc ls rest) q9 :=
  vx_out (fun x hx => (htab x hx).elim) hlocks hcell hv hcl (fun t ht _ => ⟨hc, by rw [ht]; exact hsz, fun q h => by rw [ht]; exact hq q h⟩) hf hm.1 hm.2
theorem x_run {Qa : State → Outcome → State → Prop} {cond : String → Prop} {free : Nat → Prop} {st0 : List Value} (hr : vx_Run p l e R s m args below meth c H locs cells slots mc ms (F0 m pc ls st0) rest Qa (xT cond) free) (hS : va_S A H0 H locs) (hf : ∀ q, free q → A q)
    (kx : ∀ (E : String) (ce : Cell) (q9 : Nat) (H1 : Heap) (locs1 : List Loc), cond E → H.size ≤ H1.size → (∀ q, q < H.size → H1[q]? = H[q]?) → va_S A H0 H1 locs1 → (∀ z ∈ locs1, z ∈ locs ∨ free z.base) → H1[q9]? = some ce → ce.vm = .none → s.vm.findClass E = some ce.cls → vx_W p l e R s m args below meth c H1 locs1 (cells + mc) (slots + ms) Q (F0 m pc ls rest) q9)
    (kk : ∀ (v : Option Value) (st₀ t : State) (T' : State) (L : List Loc), st₀.heap = H → T'.heap = t.heap → Qa st₀ (.returned v) t → (∀ q ∈ L, free q.base) → W p l e R s m args below meth c T'.heap (locs ++ L) (cells + mc) (slots + ms) Q (F0 m (pc + 3) ls (v.toList ++ rest))) : W p l e R s m args below meth c H locs cells slots Q (F0 m pc ls st0) := by
  intro T hT Xs
  rcases hr T hT Xs with ⟨v, st₀, t, T', L, h0, X', hL, e1, e2, hq, st⟩ | ⟨q, st₀, t, T', L, E, ce, h0, X', hL, e1, e2, ⟨hc, hz1, hk1⟩, hce, hcv, hcl, st⟩
  · obtain ⟨t2, a1, b1⟩ := kk v st₀ t T' L h0 e1 hq hL T' rfl X'
    exact ⟨t2, st t2 a1, b1⟩
  · rw [h0] at hz1 hk1
    have hS1 : va_S A H0 T'.heap (locs ++ L) := ⟨Nat.le_trans hS.1 (by rw [e1]; exact hz1), fun q h1 h2 => by rw [e1, hk1 q (Nat.lt_of_lt_of_le h1 hS.1)]; exact hS.2.1 q h1 h2, fun z hz9 => by
      rcases List.mem_append.mp hz9 with h | h
      · exact hS.2.2 z h
      · exact hf _ (hL z h)⟩
    obtain ⟨t2, a1, b1⟩ := kx E ce q T'.heap (locs ++ L) hc (by rw [e1]; exact hz1) (fun q h => by rw [e1]; exact hk1 q h) hS1 (fun z hz9 => (List.mem_append.mp hz9).imp id (hL z)) (by rw [e1]; exact hce) hcv hcl T' rfl X'
    exact ⟨t2, st.trans a1, b1⟩
theorem x_old {k : W p l e R s m args below meth c H locs cells slots Q (F0 m pc ls rest)} {L : List Loc} (hL : ∀ q ∈ L, False) : W p l e R s m args below meth c H (locs ++ L) cells slots Q (F0 m pc ls rest) := by
  cases L with
  | nil => rw [List.append_nil]; exact k
  | cons x L => exact (hL x List.mem_cons_self).elim
/-- after a call that reads and may throw: an int, a cell, nothing -/
theorem x_cI {post : Int32 → Prop} {cond : String → Prop} {st0 : List Value} {a0 : Array Value} (hr : vx_Run p l e R s m args below meth c H locs cells slots mc ms (F0 m pc ls st0) rest (vp_Si post a0) (xT cond) (fun _ => False)) (hS : va_S A H0 H locs)
    (kx : ∀ (E : String) (ce : Cell) (q9 : Nat) (H1 : Heap) (locs1 : List Loc), cond E → H.size ≤ H1.size → (∀ q, q < H.size → H1[q]? = H[q]?) → va_S A H0 H1 locs1 → (∀ z ∈ locs1, z ∈ locs ∨ False) → H1[q9]? = some ce → ce.vm = .none → s.vm.findClass E = some ce.cls → vx_W p l e R s m args below meth c H1 locs1 (cells + mc) (slots + ms) Q (F0 m pc ls rest) q9)
    (kk : ∀ r : Int32, post r → W p l e R s m args below meth c H locs (cells + mc) (slots + ms) Q (F0 m (pc + 3) ls (.int r :: rest))) : W p l e R s m args below meth c H locs cells slots Q (F0 m pc ls st0) := by
  refine x_run hr hS (fun _ h => h.elim) kx (fun v st₀ t T' L h0 e1 hq hL => ?_)
  obtain ⟨r, hv, hp, hh⟩ := hq
  cases hv
  rw [e1, hh, h0]
  exact x_old (k := kk r hp) hL
theorem x_cR {post : Nat → Prop} {cond : String → Prop} {st0 : List Value} {a0 : Array Value} (hr : vx_Run p l e R s m args below meth c H locs cells slots mc ms (F0 m pc ls st0) rest (xSr post a0) (xT cond) (fun _ => False)) (hS : va_S A H0 H locs)
    (kx : ∀ (E : String) (ce : Cell) (q9 : Nat) (H1 : Heap) (locs1 : List Loc), cond E → H.size ≤ H1.size → (∀ q, q < H.size → H1[q]? = H[q]?) → va_S A H0 H1 locs1 → (∀ z ∈ locs1, z ∈ locs ∨ False) → H1[q9]? = some ce → ce.vm = .none → s.vm.findClass E = some ce.cls → vx_W p l e R s m args below meth c H1 locs1 (cells + mc) (slots + ms) Q (F0 m pc ls rest) q9)
    (kk : ∀ r : Nat, post r → W p l e R s m args below meth c H locs (cells + mc) (slots + ms) Q (F0 m (pc + 3) ls (.ref r :: rest))) : W p l e R s m args below meth c H locs cells slots Q (F0 m pc ls st0) := by
  refine x_run hr hS (fun _ h => h.elim) kx (fun v st₀ t T' L h0 e1 hq hL => ?_)
  obtain ⟨r, hv, hp, hh⟩ := hq
  cases hv
  rw [e1, hh, h0]
  exact x_old (k := kk r hp) hL
theorem x_cV {post : Prop} {cond : String → Prop} {st0 : List Value} {a0 : Array Value} (hr : vx_Run p l e R s m args below meth c H locs cells slots mc ms (F0 m pc ls st0) rest (xSv post a0) (xT cond) (fun _ => False)) (hS : va_S A H0 H locs)
    (kx : ∀ (E : String) (ce : Cell) (q9 : Nat) (H1 : Heap) (locs1 : List Loc), cond E → H.size ≤ H1.size → (∀ q, q < H.size → H1[q]? = H[q]?) → va_S A H0 H1 locs1 → (∀ z ∈ locs1, z ∈ locs ∨ False) → H1[q9]? = some ce → ce.vm = .none → s.vm.findClass E = some ce.cls → vx_W p l e R s m args below meth c H1 locs1 (cells + mc) (slots + ms) Q (F0 m pc ls rest) q9)
    (kk : post → W p l e R s m args below meth c H locs (cells + mc) (slots + ms) Q (F0 m (pc + 3) ls rest)) : W p l e R s m args below meth c H locs cells slots Q (F0 m pc ls st0) := by
  refine x_run hr hS (fun _ h => h.elim) kx (fun v st₀ t T' L h0 e1 hq hL => ?_)
  obtain ⟨hv, hp, hh⟩ := hq
  cases hv
  rw [e1, hh, h0]
  exact x_old (k := kk hp) hL
end XRows

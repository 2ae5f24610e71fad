/-! BASE. One cell at a time, with what stays beside it. -/
abbrev MS : Type := Nat → Nat → Int32
/-- a state of numbers: field f at place i; mu writes one -/
def mu (M : MS) (f i : Nat) (v : Int32) : MS := fun a b => cond (Nat.beq a f) (cond (Nat.beq b i) v (M a b)) (M a b)
theorem mu_s (M : MS) (f i : Nat) (v : Int32) : mu M f i v f i = v := by simp [mu]
theorem mu_f (M : MS) {f a : Nat} (i b : Nat) (v : Int32) (h : a ≠ f) : mu M f i v a b = M a b := by
  have : Nat.beq a f = false := by cases h9 : Nat.beq a f with
    | false => rfl
    | true => exact absurd (Nat.eq_of_beq_eq_true h9) h
  simp [mu, this]
theorem mu_i (M : MS) (f a : Nat) {i b : Nat} (v : Int32) (h : b ≠ i) : mu M f i v a b = M a b := by
  have : Nat.beq b i = false := by cases h9 : Nat.beq b i with
    | false => rfl
    | true => exact absurd (Nat.eq_of_beq_eq_true h9) h
  unfold mu
  rw [this]
  cases Nat.beq a f <;> rfl
theorem mu_e (M : MS) (f i : Nat) (v : Int32) (a b : Nat) : mu M f i v a b = if a = f then (if b = i then v else M a b) else M a b := by
  by_cases h1 : a = f
  · rw [if_pos h1]
    by_cases h2 : b = i
    · rw [if_pos h2, h1, h2, mu_s]
    · rw [if_neg h2, mu_i _ _ _ _ h2]
  · rw [if_neg h1, mu_f _ _ _ _ h1]
abbrev tyL (cI cO cL cJ : ClassId) : List (ClassId × FieldType) := [(cO, .object RX1), (cO, .object RX1), (cL, .object RX0)]
/-- the classes and arrays that all worlds speak of -/
def KK (D : va_G) (cI cO cL cJ : ClassId) (U : State) : Prop := va_K D vwCl (tyL cI cO cL cJ) U
theorem KK.moved {D : va_G} {cI cO cL cJ : ClassId} {u U : State} (hvm : u.vm.Alike U.vm) (h : KK D cI cO cL cJ u) : KK D cI cO cL cJ U := va_K.moved hvm h
theorem f_one {D : va_G} {q : Nat × va_E} {H : Heap} (h : va_at D vwCl q H) : va_P D vwCl [q] H := by
  intro k x hx
  have hk : k < 1 := (List.getElem?_eq_some_iff.mp hx).1
  rw [show k = 0 by omega] at hx
  cases hx
  exact h
section BaseRows
variable {p : Program} {l : Launch} {e : Env} {R : Room} {s : State} {m : MethodId} {args : Array Value} {below : List Frame} {meth : Method} {c : Code} {H : Heap} {locs : List Loc} {cells slots : Nat} {Q : State → Prop}
variable {cc : ByteArray} {pc : Nat} {ls : Array Slot} {rest : List Value} {D : va_G} {cI cO cL cJ : ClassId} {H0 : Heap} {A : Nat → Prop} {a : Nat}
theorem cv {x y : Int32} (h : x = y) (k : W p l e R s m args below meth c H locs cells slots Q (F0 m pc ls (.int y :: rest))) : W p l e R s m args below meth c H locs cells slots Q (F0 m pc ls (.int x :: rest)) := by rw [h]; exact k
/-- two ways that meet again: what holds where they meet is shown once -/
theorem mg1 {c0 : Prop} [Decidable c0] {a b : Int32} {J : Nat} {st : List Value} (h : W p l e R s m args below meth c H locs cells slots Q (F0 m J ls (.int (if c0 then a else b) :: rest)) → W p l e R s m args below meth c H locs cells slots Q (F0 m pc ls st)) (k : W p l e R s m args below meth c H locs cells slots Q (F0 m J ls (.int (if c0 then a else b) :: rest))) : W p l e R s m args below meth c H locs cells slots Q (F0 m pc ls st) := h k
theorem f_get (hexec : p.tables.exec = Jvm.exec) (hb : c.code = cc) {own ref C : String} {T : u_T} {N ci index : Nat} {Ts : List Cond} (hts : ∀ w ∈ Ts, w.before args s = true) (hin : ∀ w ∈ u_ws C T N, w ∈ Ts) (hown : s.vm.findClass own = some m.cls) (hK : KK D cI cO cL cJ s) {fs : List Value} (hat : va_at D vwCl (a, .inr (ci, fs)) H) (hc : vwCl[ci]? = some (C, T, N)) (k : Nat) (hk : k < N) (hlink : (Cond.fieldLink own index ref (T k).2.1 (T k).2.2.1).before args s = true) (hsame : ∀ x, s.fieldFound? (T k).1 (T k).2.1 (T k).2.2.1 = some x → s.fieldFound? ref (T k).2.1 (T k).2.2.1 = some x) {v : Value} (hv : fs[k]? = some v) (hdg : decode cc pc = .ok (.getfield index, 3))
    (kk : W p l e R s m args below meth c H locs cells slots Q (F0 m (pc + 3) ls (v :: rest))) : W p l e R s m args below meth c H locs cells slots Q (F0 m pc ls (.ref a :: rest)) :=
  va_get (ws := [(a, .inr (ci, fs))]) hexec hb hts hin hown hK (f_one hat) 0 rfl hc k hk hlink hsame hv hdg kk
theorem f_put (hexec : p.tables.exec = Jvm.exec) (hb : c.code = cc) {own ref C : String} {T : u_T} {N ci index : Nat} {Ts : List Cond} (hts : ∀ w ∈ Ts, w.before args s = true) (hin : ∀ w ∈ u_ws C T N, w ∈ Ts) (ty0 : Nat → FieldType) (hty : ∀ k, k < N → parseFieldDescriptor (T k).2.2.1 = some (ty0 k)) (hnm : ∀ a, a < N → ∀ b, b < N → a ≠ b → (T a).2.1 ≠ (T b).2.1) (hown : s.vm.findClass own = some m.cls) (hK : KK D cI cO cL cJ s) {fs : List Value} (hat : va_at D vwCl (a, .inr (ci, fs)) H) (hS0 : va_S A H0 H locs) (hA : A a) (hc : vwCl[ci]? = some (C, T, N)) (k : Nat) (hk : k < N) (hlink : (Cond.fieldLink own index ref (T k).2.1 (T k).2.2.1).before args s = true) (hsame : ∀ x, s.fieldFound? (T k).1 (T k).2.1 (T k).2.2.1 = some x → s.fieldFound? ref (T k).2.1 (T k).2.2.1 = some x) (hfin : (T k).2.2.2 = false) {ty : FieldType} {v : Value} (hd : parseFieldDescriptor (T k).2.2.1 = some ty) (hn : narrow ty v = v) (hfit : fits ty v = true) (hl : k < fs.length)
    (hdg : decode cc pc = .ok (.putfield index, 3)) (kk : ∀ (H1 : Heap) (locs1 : List Loc), va_at D vwCl (a, .inr (ci, fs.set k v)) H1 → H1.size = H.size → (∀ q : Nat, q ≠ a → H1[q]? = H[q]?) → va_S A H0 H1 locs1 → W p l e R s m args below meth c H1 locs1 cells slots Q (F0 m (pc + 3) ls rest)) : W p l e R s m args below meth c H locs cells slots Q (F0 m pc ls (v :: .ref a :: rest)) := by
  have apartF := va_apart (own := own) hts hin ty0 hty hnm hK hc
  obtain ⟨r, r1, cell, g1, g2, g3, g4⟩ := hat
  cases Option.some.inj (r1.symm.trans hc)
  obtain ⟨kS, kf, kC, kC1, kC2⟩ := hK.1 ci _ hc
  obtain ⟨cf, kx, fi, f, hi, sl⟩ := kS k hk
  have lay := hts _ (hin _ (u_in_lay hk))
  unfold u_lay at lay
  rw [if_neg (by rw [hfin]; decide)] at lay
  refine W.putK hexec hb (f := f) ⟨hown, hlink, ⟨_, _, _, hsame _ hi⟩, (u_facts kf kC1 (u_lays hts hin hk) hi).1⟩ (by rw [g2]; exact u_store kf kC1 kC2 lay hi hd hn hfit) g1 g3 (by rw [sl]; exact k2_hasslot (g4 k hk)) rfl rfl hdg fun H' e1 e2 e3 => ?_
  rw [sl] at e1 ⊢
  exact kk H' _ ⟨_, hc, t_OB.to (V := updV (vp_V fs) k v) ⟨_, e1, g2, g3, t_set g4 apartF hk v⟩ (fun j _ => vp_updV_set hl v j)⟩ e2 e3 (hS0.put e2 e3 hA)
theorem f_putF (hexec : p.tables.exec = Jvm.exec) (hb : c.code = cc) {own ref C : String} {T : u_T} {N ci index : Nat} {Ts : List Cond} (hts : ∀ w ∈ Ts, w.before args s = true) (hin : ∀ w ∈ u_ws C T N, w ∈ Ts) (ty0 : Nat → FieldType) (hty : ∀ k, k < N → parseFieldDescriptor (T k).2.2.1 = some (ty0 k)) (hnm : ∀ a, a < N → ∀ b, b < N → a ≠ b → (T a).2.1 ≠ (T b).2.1) (hown : s.vm.findClass own = some m.cls) (hK : KK D cI cO cL cJ s) {fs : List Value} (hat : va_at D vwCl (a, .inr (ci, fs)) H) (hS0 : va_S A H0 H locs) (hA : A a) (hc : vwCl[ci]? = some (C, T, N)) (k : Nat) (hk : k < N) (hlink : (Cond.fieldLink own index ref (T k).2.1 (T k).2.2.1).before args s = true) (hsame : ∀ x, s.fieldFound? (T k).1 (T k).2.1 (T k).2.2.1 = some x → s.fieldFound? ref (T k).2.1 (T k).2.2.1 = some x) (hfin : (T k).2.2.2 = true) (hin2 : meth.name = "<init>") (hdecl : (T k).1 = own) {ty : FieldType} {v : Value} (hd : parseFieldDescriptor (T k).2.2.1 = some ty) (hn : narrow ty v = v) (hfit : fits ty v = true) (hl : k < fs.length)
    (hdg : decode cc pc = .ok (.putfield index, 3)) (kk : ∀ (H1 : Heap) (locs1 : List Loc), va_at D vwCl (a, .inr (ci, fs.set k v)) H1 → H1.size = H.size → (∀ q : Nat, q ≠ a → H1[q]? = H[q]?) → va_S A H0 H1 locs1 → W p l e R s m args below meth c H1 locs1 cells slots Q (F0 m (pc + 3) ls rest)) : W p l e R s m args below meth c H locs cells slots Q (F0 m pc ls (v :: .ref a :: rest)) := by
  have apartF := va_apart (own := own) hts hin ty0 hty hnm hK hc
  obtain ⟨r, r1, cell, g1, g2, g3, g4⟩ := hat
  cases Option.some.inj (r1.symm.trans hc)
  obtain ⟨kS, kf, kC, kC1, kC2⟩ := hK.1 ci _ hc
  obtain ⟨cf, kx, fi, f, hi, sl⟩ := kS k hk
  have lay := hts _ (hin _ (u_in_lay hk))
  unfold u_lay at lay
  rw [if_pos hfin] at lay
  have hcf : m.cls = cf := by
    obtain ⟨_, _, c', _, _, _, -, -, hf', -, -, -, hown2, -⟩ := Cond.laysFinal_spec lay
    have e1 : c' = cf := by have := hi.symm.trans hf'; simp at this; exact this.1.symm
    rw [hdecl] at hown2
    rw [← e1]; exact Option.some.inj (hown.symm.trans hown2)
  refine W.putFinK hexec hb hown hlink (hsame _ hi) (u_facts kf kC1 (u_lays hts hin hk) hi).1 hcf hin2 (by rw [g2]; exact u_fits kf kC1 kC2 (Or.inr lay) hi hd hn hfit) g1 g3 (by rw [sl]; exact k2_hasslot (g4 k hk)) rfl rfl hdg fun H' e1 e2 e3 => ?_
  rw [sl] at e1 ⊢
  exact kk H' _ ⟨_, hc, t_OB.to (V := updV (vp_V fs) k v) ⟨_, e1, g2, g3, t_set g4 apartF hk v⟩ (fun j _ => vp_updV_set hl v j)⟩ e2 e3 (hS0.put e2 e3 hA)
/-- an array of references is read: of Orders (t0 = 1) or Lines (t0 = 2) -/
theorem f_aald (hexec : p.tables.exec = Jvm.exec) (hb : c.code = cc) (hK : KK D cI cO cL cJ s) {cA : ClassId} {C : String} (t0 : Nat) (ht : (tyL cI cO cL cJ)[t0]? = some (cA, .object C)) {n : Nat} {f : Nat → Option Nat} (hat : va_at D vwCl (a, .inl (cA, n, .inr (.inr (.inr (.inr f))))) H) {x : Int32} {i : Nat} (hxi : x = nI i) (hi : i < n) (hn : n < 2 ^ 31) {v : Option Nat} (hv : f i = v) (hdg : decode cc pc = .ok (.aaload, 1))
    (kk : W p l e R s m args below meth c H locs cells slots Q (F0 m (pc + 1) ls (va_rf v :: rest))) : W p l e R s m args below meth c H locs cells slots Q (F0 m pc ls (.int x :: .ref a :: rest)) := by
  subst hxi
  subst hv
  refine va_aldq (ws := [(a, .inl (cA, n, .inr (.inr (.inr (.inr f)))))]) hexec hb hK (f_one hat) 0 t0 rfl ht (vp_in_nI hi hn) hdg ?_
  rw [nI_clamp (Nat.lt_trans hi hn)]
  exact kk
theorem f_aast (hexec : p.tables.exec = Jvm.exec) (hb : c.code = cc) (hK : KK D cI cO cL cJ s) {cA : ClassId} {r : vw_C} (t0 ci : Nat) (ht : (tyL cI cO cL cJ)[t0]? = some (cA, .object r.1)) (hc : vwCl[ci]? = some r) {n v : Nat} {vs : List Value} {f : Nat → Option Nat} (hat : va_at D vwCl (a, .inl (cA, n, .inr (.inr (.inr (.inr f))))) H) (hav : va_at D vwCl (v, .inr (ci, vs)) H) (hS : va_S A H0 H locs) (hA : A a) {x : Int32} {i : Nat} (hxi : x = nI i) (hi : i < n) (hn : n < 2 ^ 31) (hdg : decode cc pc = .ok (.aastore, 1))
    (kk : ∀ (H1 : Heap) (locs1 : List Loc), va_at D vwCl (a, .inl (cA, n, .inr (.inr (.inr (.inr (va_up f i (some v))))))) H1 → H1.size = H.size → (∀ q : Nat, q ≠ a → H1[q]? = H[q]?) → va_S A H0 H1 locs1 → W p l e R s m args below meth c H1 locs1 cells slots Q (F0 m (pc + 1) ls rest)) : W p l e R s m args below meth c H locs cells slots Q (F0 m pc ls (.ref v :: .int x :: .ref a :: rest)) := by
  subst hxi
  obtain ⟨r', hr', cellV, g1, g2, g3, -⟩ := hav
  have hcls := (hK.1 ci r hc).2
  obtain ⟨kA, comp, k1, k2, k3, -⟩ := (hK.2 t0 _ ht).2
  cases Option.some.inj (k3.symm.trans hcls.1)
  obtain ⟨kC, hkC, -⟩ := hcls.2
  have h0 : ¬ nI i < 0 := fun q => vp_in_nI hi hn (Or.inl q)
  refine W.aast hexec hb hat (fun q h => by cases h) (fun h => by cases h) k1 k2 rfl hkC ⟨h0, by show _ < (arrV _ _ _).slots.size; rw [arrV_size, nI_clamp (Nat.lt_trans hi hn)]; exact hi⟩ g1 (fun q h => by rw [g3] at h; cases h) (by rw [g2]; exact hkC) (by rw [g2]; exact va_assign hcls) rfl rfl hdg fun H1 e1 z1 o1 => ?_
  refine kk H1 _ ?_ z1 o1 (hS.put z1 o1 hA)
  show H1[a]? = some (vp_cell _ _)
  rw [e1]
  rw [vp_cell_q, vp_cell_q, arrV_store, nI_clamp (Nat.lt_trans hi hn)]
  congr 2
  funext q
  by_cases hq : q = i
  · subst hq
    simp [updV, va_up, va_rf]
  · simp [updV, va_up, hq]
theorem f_alen (hexec : p.tables.exec = Jvm.exec) (hb : c.code = cc) (hK : KK D cI cO cL cJ s) {cA : ClassId} {ty : FieldType} (t0 : Nat) (ht : (tyL cI cO cL cJ)[t0]? = some (cA, ty)) {x : vp_A} (hat : va_at D vwCl (a, .inl (cA, x)) H) {v : Int32} (hv : nI x.1 = v) (hdg : decode cc pc = .ok (.arraylength, 1))
    (kk : W p l e R s m args below meth c H locs cells slots Q (F0 m (pc + 1) ls (.int v :: rest))) : W p l e R s m args below meth c H locs cells slots Q (F0 m pc ls (.ref a :: rest)) :=
  va_alen (ws := [(a, .inl (cA, x))]) hexec hb hK (f_one hat) 0 t0 rfl ht hv hdg kk
end BaseRows

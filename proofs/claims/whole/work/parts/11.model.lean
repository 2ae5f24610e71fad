/-! THE REFERENCE'S WORLD: its object and its fourteen arrays, by one state of numbers (fields in the order of the class file; 0 day, 1 orders, 16 thrown; 2 .. 15 the arrays). -/
def mob (q : Nat → Nat) (M : MS) : List Value := [.int (M 0 0), .int (M 1 0), .ref (q 2), .ref (q 3), .ref (q 4), .ref (q 5), .ref (q 6), .ref (q 7), .ref (q 8), .ref (q 9), .ref (q 10), .ref (q 11), .ref (q 12), .ref (q 13), .ref (q 14), .ref (q 15), .int (M 16 0)]
def mlen (f : Nat) : Nat := match f with
  | 9 => 90
  | 10 => 240
  | 11 => 240
  | 12 => 240
  | 13 => 240
  | 14 => 240
  | 15 => 3
  | _ => 30
theorem mlen_lt (f : Nat) : mlen f < 2 ^ 31 := by unfold mlen; split <;> decide
def mW (D : va_G) (cI : ClassId) (o : Nat) (q : Nat → Nat) (M : MS) (H : Heap) : Prop := va_at D vwCl (o, .inr (3, mob q M)) H ∧ ∀ f, 2 ≤ f → f ≤ 15 → va_at D vwCl (q f, .inl (cI, mlen f, .inl (M f))) H
/-- the addresses are apart -/
def mI (o : Nat) (q : Nat → Nat) : Prop := (∀ f, 2 ≤ f → f ≤ 15 → q f ≠ o) ∧ ∀ f g, 2 ≤ f → f ≤ 15 → 2 ≤ g → g ≤ 15 → q f = q g → f = g
def mA (o : Nat) (q : Nat → Nat) : Nat → Prop := fun a => a = o ∨ ∃ f, 2 ≤ f ∧ f ≤ 15 ∧ a = q f
theorem mW.kept {D : va_G} {cI : ClassId} {o : Nat} {q : Nat → Nat} {M : MS} {H H1 : Heap} (h : mW D cI o q M H) (hk : ∀ a, mA o q a → H1[a]? = H[a]?) : mW D cI o q M H1 :=
  ⟨h.1.kept (hk o (Or.inl rfl)), fun f h2 h15 => (h.2 f h2 h15).kept (hk _ (Or.inr ⟨f, h2, h15, rfl⟩))⟩
theorem mW.lt {D : va_G} {cI : ClassId} {o : Nat} {q : Nat → Nat} {M : MS} {H : Heap} (h : mW D cI o q M H) {a : Nat} (ha : mA o q a) : a < H.size := by
  rcases ha with rfl | ⟨f, h2, h15, rfl⟩
  · exact h.1.lt
  · exact (h.2 f h2 h15).lt
def mP (D : va_G) (cI cO cL cJ : ClassId) (o : Nat) (q : Nat → Nat) (M : MS) (av : List Value) : Array Value → State → Prop := va_Pc (.ref o :: av) (fun U => mW D cI o q M U.heap ∧ KK D cI cO cL cJ U)
def mQ (D : va_G) (cI cO cL cJ : ClassId) (o : Nat) (q : Nat → Nat) (post : Int32 → MS → Prop) : Array Value → State → Outcome → State → Prop := va_Qi post (fun M' t => mW D cI o q M' t.heap ∧ KK D cI cO cL cJ t) (mA o q)
theorem mP.blind {D : va_G} {cI cO cL cJ : ClassId} {o : Nat} {q : Nat → Nat} {M : MS} {av : List Value} : FrameBlind (mP D cI cO cL cJ o q M av) := fun a U g mk h => ⟨h.1, h.2.1, va_K.moved (u := U) (U := U.calling g mk a) (Vm.Alike.refl U.vm) h.2.2⟩
/-- arguments alone -/
def sP (av : List Value) : Array Value → State → Prop := va_Pc av (fun _ => True)
theorem sP.blind {av : List Value} : FrameBlind (sP av) := fun _ _ _ _ h => h
section ModelRows
variable {p : Program} {l : Launch} {e : Env} {R : Room} {s : State} {m : MethodId} {args : Array Value} {below : List Frame} {meth : Method} {c : Code} {H : Heap} {locs : List Loc} {cells slots : Nat} {Q : State → Prop}
variable {cc : ByteArray} {pc : Nat} {ls : Array Slot} {rest : List Value} {D : va_G} {cI cO cL cJ : ClassId} {H0 : Heap} {o : Nat} {q : Nat → Nat} {M : MS}
theorem m_get (hexec : p.tables.exec = Jvm.exec) (hb : c.code = cc) {own ref : String} {index : Nat} {Ts : List Cond} (hts : ∀ w ∈ Ts, w.before args s = true) (hin : ∀ w ∈ u_ws RX3 TX3 17, w ∈ Ts) (hown : s.vm.findClass own = some m.cls) (hK : KK D cI cO cL cJ s) (hW : mW D cI o q M H) (k : Nat) (hk : k < 17) (hlink : (Cond.fieldLink own index ref (TX3 k).2.1 (TX3 k).2.2.1).before args s = true) (hsame : ∀ x, s.fieldFound? (TX3 k).1 (TX3 k).2.1 (TX3 k).2.2.1 = some x → s.fieldFound? ref (TX3 k).2.1 (TX3 k).2.2.1 = some x) {v : Value} (hv : (mob q M)[k]? = some v) (hdg : decode cc pc = .ok (.getfield index, 3))
    (kk : W p l e R s m args below meth c H locs cells slots Q (F0 m (pc + 3) ls (v :: rest))) : W p l e R s m args below meth c H locs cells slots Q (F0 m pc ls (.ref o :: rest)) :=
  f_get hexec hb hts hin hown hK hW.1 rfl k hk hlink hsame hv hdg kk
theorem m_put (hexec : p.tables.exec = Jvm.exec) (hb : c.code = cc) {own ref : String} {index : Nat} {Ts : List Cond} (hts : ∀ w ∈ Ts, w.before args s = true) (hin : ∀ w ∈ u_ws RX3 TX3 17, w ∈ Ts) (hown : s.vm.findClass own = some m.cls) (hK : KK D cI cO cL cJ s) (hI : mI o q) (hW : mW D cI o q M H) (hS : va_S (mA o q) H0 H locs) (k : Nat) (hk : k = 0 ∨ k = 1 ∨ k = 16) (hlink : (Cond.fieldLink own index ref (TX3 k).2.1 (TX3 k).2.2.1).before args s = true) (hsame : ∀ x, s.fieldFound? (TX3 k).1 (TX3 k).2.1 (TX3 k).2.2.1 = some x → s.fieldFound? ref (TX3 k).2.1 (TX3 k).2.2.1 = some x) {v : Int32} (hdg : decode cc pc = .ok (.putfield index, 3))
    (kk : ∀ (H1 : Heap) (locs1 : List Loc), mW D cI o q (mu M k 0 v) H1 → va_S (mA o q) H0 H1 locs1 → W p l e R s m args below meth c H1 locs1 cells slots Q (F0 m (pc + 3) ls rest)) : W p l e R s m args below meth c H locs cells slots Q (F0 m pc ls (.int v :: .ref o :: rest)) := by
  have hk17 : k < 17 := by omega
  have hfin : (TX3 k).2.2.2 = false := by rcases hk with rfl | rfl | rfl <;> rfl
  have hd : parseFieldDescriptor (TX3 k).2.2.1 = some .int := by rcases hk with rfl | rfl | rfl <;> exact tyX3_ok _ (by decide)
  have hob : mob q (mu M k 0 v) = (mob q M).set k (.int v) := by rcases hk with rfl | rfl | rfl <;> rfl
  have hlen : k < (mob q M).length := hk17
  refine f_put hexec hb hts hin tyX3 tyX3_ok nmX3 hown hK hW.1 hS (Or.inl rfl) rfl k hk17 hlink hsame hfin hd (v := .int v) rfl rfl hlen hdg (fun H1 locs1 hat hz ho hS1 => ?_)
  refine kk H1 locs1 ⟨by rw [hob]; exact hat, fun f h2 h15 => ?_⟩ hS1
  have hf : mu M k 0 v f = M f := by
    by_cases hfk : f = k
    · subst hfk
      have h16 : f = 16 := by omega
      omega
    · funext b; exact mu_f M 0 b v hfk
  rw [hf]
  exact (hW.2 f h2 h15).kept (ho _ (hI.1 f h2 h15))
theorem m_ald (hexec : p.tables.exec = Jvm.exec) (hb : c.code = cc) (hK : KK D cI cO cL cJ s) (hW : mW D cI o q M H) (f i : Nat) (h2 : 2 ≤ f ∧ f ≤ 15) {x v : Int32} (hxi : x = nI i) (hi : i < mlen f) (hv : M f i = v) (hdg : decode cc pc = .ok (.iaload, 1))
    (kk : W p l e R s m args below meth c H locs cells slots Q (F0 m (pc + 1) ls (.int v :: rest))) : W p l e R s m args below meth c H locs cells slots Q (F0 m pc ls (.int x :: .ref (q f) :: rest)) :=
  f_ald hexec hb hK (hW.2 f h2.1 h2.2) hxi hi (mlen_lt f) hv hdg kk
theorem m_ast (hexec : p.tables.exec = Jvm.exec) (hb : c.code = cc) (hK : KK D cI cO cL cJ s) (hI : mI o q) (hW : mW D cI o q M H) (hS : va_S (mA o q) H0 H locs) (f i : Nat) (h2 : 2 ≤ f ∧ f ≤ 15) {x v : Int32} (hxi : x = nI i) (hi : i < mlen f) (hdg : decode cc pc = .ok (.iastore, 1))
    (kk : ∀ (H1 : Heap) (locs1 : List Loc), mW D cI o q (mu M f i v) H1 → va_S (mA o q) H0 H1 locs1 → W p l e R s m args below meth c H1 locs1 cells slots Q (F0 m (pc + 1) ls rest)) : W p l e R s m args below meth c H locs cells slots Q (F0 m pc ls (.int v :: .int x :: .ref (q f) :: rest)) := by
  refine f_ast hexec hb hK (hW.2 f h2.1 h2.2) hS (Or.inr ⟨f, h2.1, h2.2, rfl⟩) hxi hi (mlen_lt f) hdg (fun H1 locs1 hat hz ho hS1 => ?_)
  refine kk H1 locs1 ⟨?_, fun g g2 g15 => ?_⟩ hS1
  · have hob : mob q (mu M f i v) = mob q M := by
      unfold mob
      rw [mu_f M i 0 v (show (0 : Nat) ≠ f by omega), mu_f M i 0 v (show (1 : Nat) ≠ f by omega), mu_f M i 0 v (show (16 : Nat) ≠ f by omega)]
    rw [hob]
    exact hW.1.kept (ho o (fun h => hI.1 f h2.1 h2.2 h.symm))
  · by_cases hg : g = f
    · subst hg
      have hf : mu M g i v g = upd (M g) i v := by
        funext b
        by_cases hb9 : b = i
        · subst hb9; rw [mu_s]; simp [upd]
        · rw [mu_i M g g v hb9]; simp [upd, hb9]
      rw [hf]
      exact hat
    · have hf : mu M f i v g = M g := by funext b; exact mu_f M i b v hg
      rw [hf]
      exact (hW.2 g g2 g15).kept (ho _ (fun h => hg (hI.2 g f g2 g15 h2.1 h2.2 h)))
theorem m_body {y : MethodName} {ws ws' : List Cond} {rm : Room} {maxL : Nat} {ret : Option FieldType} {Qc : Array Value → State → Outcome → State → Prop} {free : Addr → Prop} (hy : plainName y.cls = true) (hw : ws = Cond.code y cc maxL ret :: ws') (av : List Value) (hlen : (lg_sl (.ref o :: av)).length ≤ maxL)
    (k : ∀ (p : Program) (e : Env) (s : State) (m : MethodId) (args : Array Value) (below : List Frame) (meth : Method) (c : Code), p.tables.exec = Jvm.exec → c.code = cc → meth.sig.returnType = ret → (∀ w ∈ ws, w.before args s = true) → s.vm.findClass y.cls = some m.cls → c.maxLocals = maxL → meth.locks = false → mW D cI o q M s.heap → KK D cI cO cL cJ s → ∀ ls : Array Slot, lv_has ls maxL (lv_args 0 (.ref o :: av)) → W p l e rm s m args below meth c s.heap [] 0 0 (MQ below Qc args s 0 0 free) (F0 m 0 ls [])) :
    Met l y ws rm (mP D cI cO cL cJ o q M av) Qc 0 0 free := by
  refine Met.ofW (cc := cc) (maxL := maxL) (ret := ret) hy hw ?_
  intro p e s m args below meth c s₁ B hml hv
  obtain ⟨rfl, hP, hK⟩ := hv
  have hl := lv_entry (.ref o :: av) (n := maxL) hlen
  rw [lg_entry_eq]
  exact k p e s m _ below meth c B.exec B.bytes B.returns (atoms_spec (ws := ws) B.pre) (findClass_of_methodNamed B.named) hml B.notSynchronized hP hK _ hl
theorem s_body {y : MethodName} {ws ws' : List Cond} {rm : Room} {maxL : Nat} {ret : Option FieldType} {Qc : Array Value → State → Outcome → State → Prop} {free : Addr → Prop} (hy : plainName y.cls = true) (hw : ws = Cond.code y cc maxL ret :: ws') (av : List Value) (hlen : (lg_sl av).length ≤ maxL)
    (k : ∀ (p : Program) (e : Env) (s : State) (m : MethodId) (args : Array Value) (below : List Frame) (meth : Method) (c : Code), p.tables.exec = Jvm.exec → c.code = cc → meth.sig.returnType = ret → (∀ w ∈ ws, w.before args s = true) → s.vm.findClass y.cls = some m.cls → c.maxLocals = maxL → meth.locks = false → ∀ ls : Array Slot, lv_has ls maxL (lv_args 0 av) → W p l e rm s m args below meth c s.heap [] 0 0 (MQ below Qc args s 0 0 free) (F0 m 0 ls [])) :
    Met l y ws rm (sP av) Qc 0 0 free := by
  refine Met.ofW (cc := cc) (maxL := maxL) (ret := ret) hy hw ?_
  intro p e s m args below meth c s₁ B hml hv
  obtain ⟨rfl, -⟩ := hv
  have hl := lv_entry av (n := maxL) hlen
  rw [lg_entry_eq]
  exact k p e s m _ below meth c B.exec B.bytes B.returns (atoms_spec (ws := ws) B.pre) (findClass_of_methodNamed B.named) hml B.notSynchronized _ hl
theorem m_ret (hexec : p.tables.exec = Jvm.exec) (hb : c.code = cc) (hr : meth.sig.returnType = some .int) (hlocks : meth.locks = false) (hK : KK D cI cO cL cJ s) (hW : mW D cI o q M H) (hS : va_S (mA o q) s.heap H locs) {post : Int32 → MS → Prop} {v : Int32} (hp : post v M) (hdg : decode cc pc = .ok (.ireturn, 1)) : W p l e R s m args below meth c H locs 0 0 (MQ below (mQ D cI cO cL cJ o q post) args s 0 0 (mA o q)) (F0 m pc ls [.int v]) :=
  W.iret (v := v) hexec hb hr (fun t ht hWm => ⟨⟨v, M, rfl, hp, by rw [ht]; exact hW, hK.moved hWm.alike⟩, hS.F ht⟩) hS.2.2 hdg hlocks
theorem m_zret (hexec : p.tables.exec = Jvm.exec) (hb : c.code = cc) (hr : meth.sig.returnType = some .boolean) (hlocks : meth.locks = false) (hK : KK D cI cO cL cJ s) (hW : mW D cI o q M H) (hS : va_S (mA o q) s.heap H locs) {post : Int32 → MS → Prop} {v : Int32} (hv : v = 0 ∨ v = 1) (hp : post v M) (hdg : decode cc pc = .ok (.ireturn, 1)) : W p l e R s m args below meth c H locs 0 0 (MQ below (mQ D cI cO cL cJ o q post) args s 0 0 (mA o q)) (F0 m pc ls [.int v]) :=
  W.zret (v := v) hexec hb hr (by rcases hv with rfl | rfl <;> rfl) (fun t ht hWm => ⟨⟨v, M, rfl, hp, by rw [ht]; exact hW, hK.moved hWm.alike⟩, hS.F ht⟩) hS.2.2 hdg hlocks
theorem r_ret (hexec : p.tables.exec = Jvm.exec) (hb : c.code = cc) (hr : meth.sig.returnType = some .int) (hlocks : meth.locks = false) {post : Int32 → Prop} {v : Int32} (hp : post v) (hdg : decode cc pc = .ok (.ireturn, 1)) : W p l e R s m args below meth c s.heap [] 0 0 (MQ below (vp_Si post) args s 0 0 (fun _ => False)) (F0 m pc ls [.int v]) :=
  W.iret (v := v) hexec hb hr (fun t ht _ => ⟨v, rfl, hp, ht⟩) (fun q h => by cases h) hdg hlocks
theorem r_zret (hexec : p.tables.exec = Jvm.exec) (hb : c.code = cc) (hr : meth.sig.returnType = some .boolean) (hlocks : meth.locks = false) {post : Int32 → Prop} {v : Int32} (hv : v = 0 ∨ v = 1) (hp : post v) (hdg : decode cc pc = .ok (.ireturn, 1)) : W p l e R s m args below meth c s.heap [] 0 0 (MQ below (vp_Si post) args s 0 0 (fun _ => False)) (F0 m pc ls [.int v]) :=
  W.zret (v := v) hexec hb hr (by rcases hv with rfl | rfl <;> rfl) (fun t ht _ => ⟨v, rfl, hp, ht⟩) (fun q h => by cases h) hdg hlocks
variable {y : MethodName} {bytes : ByteArray} {maxL nL index : Nat} {ret : Option FieldType} {wsY wsY' Ts : List Cond} {rmY : Room} {av st : List Value} {own : String}
theorem m_recv (hK : KK D cI cO cL cJ s) (hW : mW D cI o q M H) : ∃ cell : Cell, H[o]? = some cell ∧ cell.vm.isStatics = false ∧ s.vm.findClass RX3 = some cell.cls := va_recv hK (f_one hW.1) (ci := 3) (q0 := 0) (q := (RX3, TX3, 17)) rfl rfl
theorem m_call {post : Int32 → MS → Prop} (n : Nat) (hexec : p.tables.exec = Jvm.exec) (hb : c.code = cc) (hts : ∀ w ∈ Ts, w.before args s = true) (hown : s.vm.findClass own = some m.cls) (hml : c.maxLocals = nL) (hM : Met l y wsY rmY (mP D cI cO cL cJ o q M av) (mQ D cI cO cL cJ o q post) 0 0 (mA o q)) (hn : av.length = n) (hT : GoodIn Ts (wsV own index RX3 y wsY)) (hw : wsY = Cond.code y bytes maxL ret :: wsY') (hrc : rmY.cells = 0) (hrs : rmY.slots = 0) (hd : y.cls = RX3 ∧ y.cls ≠ "java/lang/invoke/MethodHandle" ∧ y.cls ≠ "java/lang/invoke/VarHandle" ∧ (parseMethodDescriptor y.desc).map (fun d => d.parameters.length) = some n) (hR : rmY.frames + 1 ≤ R.frames ∧ 8 + (maxL + 11) + rmY.locals ≤ R.locals)
    (hls : ls.size = nL) (hW : mW D cI o q M H) (hK : KK D cI cO cL cJ s) {A : Nat → Prop} (hS : va_S A H0 H locs) (hA : ∀ a, mA o q a → A a) (hst : st = av.reverse ++ .ref o :: rest) (hrest : (rest.map fun v => v.category).sum ≤ 8) (hdg : decode cc pc = .ok (.invokevirtual index, 3)) (hcs : cells ≤ R.cells ∧ slots ≤ R.slots)
    (kk : ∀ (r : Int32) (M' : MS) (H1 : Heap) (locs1 : List Loc), post r M' → mW D cI o q M' H1 → H.size ≤ H1.size → (∀ a : Nat, a < H.size → ¬ mA o q a → H1[a]? = H[a]?) → va_S A H0 H1 locs1 → W p l e R s m args below meth c H1 locs1 cells slots Q (F0 m (pc + 3) ls (.int r :: rest))) : W p l e R s m args below meth c H locs cells slots Q (F0 m pc ls st) := by
  refine va_calli (va_runV (As := av) (rest := rest) (b := o) ⟨hexec, hb, hml, hown, hts⟩ hM (cwV n hts hT hw hrc hrs hd hR) ⟨mP.blind, m_recv hK hW, fun U hU hWm => ⟨rfl, by rw [hU]; exact hW, hK.moved hWm.alike⟩⟩ rfl hn hls hst (lv_room hrest) hdg hcs) hS (fun a _ h => hA a h) (fun a h => hA a h) (fun r u t H1 locs1 ht hvm hp hB hz hk hS1 => ?_)
  obtain ⟨hB1, hB2⟩ := hB
  rw [ht] at hB1
  exact kk r u H1 locs1 hp hB1 hz hk hS1
theorem m_call0 {post : Int32 → Prop} (n : Nat) (hexec : p.tables.exec = Jvm.exec) (hb : c.code = cc) (hts : ∀ w ∈ Ts, w.before args s = true) (hown : s.vm.findClass own = some m.cls) (hml : c.maxLocals = nL) (hM : Met l y wsY rmY (mP D cI cO cL cJ o q M av) (vp_Si post) 0 0 (fun _ => False)) (hn : av.length = n) (hT : GoodIn Ts (wsV own index RX3 y wsY)) (hw : wsY = Cond.code y bytes maxL ret :: wsY') (hrc : rmY.cells = 0) (hrs : rmY.slots = 0) (hd : y.cls = RX3 ∧ y.cls ≠ "java/lang/invoke/MethodHandle" ∧ y.cls ≠ "java/lang/invoke/VarHandle" ∧ (parseMethodDescriptor y.desc).map (fun d => d.parameters.length) = some n) (hR : rmY.frames + 1 ≤ R.frames ∧ 8 + (maxL + 11) + rmY.locals ≤ R.locals)
    (hls : ls.size = nL) (hW : mW D cI o q M H) (hK : KK D cI cO cL cJ s) (hst : st = av.reverse ++ .ref o :: rest) (hrest : (rest.map fun v => v.category).sum ≤ 8) (hdg : decode cc pc = .ok (.invokevirtual index, 3)) (hcs : cells ≤ R.cells ∧ slots ≤ R.slots)
    (kk : ∀ r : Int32, post r → W p l e R s m args below meth c H locs cells slots Q (F0 m (pc + 3) ls (.int r :: rest))) : W p l e R s m args below meth c H locs cells slots Q (F0 m pc ls st) :=
  vp_callSi (va_runV (As := av) (rest := rest) (b := o) ⟨hexec, hb, hml, hown, hts⟩ hM (cwV n hts hT hw hrc hrs hd hR) ⟨mP.blind, m_recv hK hW, fun U hU hWm => ⟨rfl, by rw [hU]; exact hW, hK.moved hWm.alike⟩⟩ rfl hn hls hst (lv_room hrest) hdg hcs).run kk
theorem s_call0 {post : Int32 → Prop} (n : Nat) (hexec : p.tables.exec = Jvm.exec) (hb : c.code = cc) (hts : ∀ w ∈ Ts, w.before args s = true) (hown : s.vm.findClass own = some m.cls) (hml : c.maxLocals = nL) (hM : Met l y wsY rmY (sP av) (vp_Si post) 0 0 (fun _ => False)) (hn : av.length = n) (hT : GoodIn Ts (va_wsS own index y wsY)) (hw : wsY = Cond.code y bytes maxL ret :: wsY') (hrc : rmY.cells = 0) (hrs : rmY.slots = 0) (hd : y.cls ≠ "java/lang/invoke/MethodHandle" ∧ y.cls ≠ "java/lang/invoke/VarHandle" ∧ (parseMethodDescriptor y.desc).map (fun d => d.parameters.length) = some n) (hR : rmY.frames + 1 ≤ R.frames ∧ 8 + (maxL + 11) + rmY.locals ≤ R.locals)
    (hls : ls.size = nL) (hst : st = av.reverse ++ rest) (hrest : (rest.map fun v => v.category).sum ≤ 8) (hdg : decode cc pc = .ok (.invokestatic index, 3)) (hcs : cells ≤ R.cells ∧ slots ≤ R.slots)
    (kk : ∀ r : Int32, post r → W p l e R s m args below meth c H locs cells slots Q (F0 m (pc + 3) ls (.int r :: rest))) : W p l e R s m args below meth c H locs cells slots Q (F0 m pc ls st) :=
  vp_callSi (va_runS (As := av) (rest := rest) ⟨hexec, hb, hml, hown, hts⟩ hM (va_cwS n hts hT hw hrc hrs hd hR) ⟨sP.blind, fun U hU hWm => ⟨rfl, trivial⟩⟩ rfl hn hls hst (lv_room hrest) hdg hcs).run kk
end ModelRows

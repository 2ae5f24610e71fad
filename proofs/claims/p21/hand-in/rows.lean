section
-- ===== PART A: goes FIRST, ahead of the names: the tables' words, and 'selects' of the private methods out of them =====
/-- a private method of a class that the tables say can be made, by its rows of tables_1 -/
def lw_okq (q : MethodName × Nat) : Prop := (q.1.cls ≠ "java/lang/invoke/MethodHandle" ∧ q.1.cls ≠ "java/lang/invoke/VarHandle") ∧ Cond.instantiable q.1.cls q.2 ∈ tables_1 ∧ Cond.privateMethod q.1 ∈ tables_1 ∧ Cond.instanceMethod q.1 ∈ tables_1
theorem lw_p0 : lw_okq (⟨"ReturnsDesk", "findOrder", "(I)LReturnsDesk$Order;"⟩, 6) := ⟨⟨by decide +kernel, by decide +kernel⟩, List.mem_of_getElem? (i := 12) (by decide +kernel), List.mem_of_getElem? (i := 49) (by decide +kernel), List.mem_of_getElem? (i := 50) (by decide +kernel)⟩
theorem lw_p1 : lw_okq (⟨"java/lang/Throwable", "fillInStackTrace", "(I)Ljava/lang/Throwable;"⟩, 6) := ⟨⟨by decide +kernel, by decide +kernel⟩, List.mem_of_getElem? (i := 91) (by decide +kernel), List.mem_of_getElem? (i := 89) (by decide +kernel), List.mem_of_getElem? (i := 90) (by decide +kernel)⟩
theorem lw_p2 : lw_okq (⟨"ReturnsDesk$Order", "charge", "(I)V"⟩, 12) := ⟨⟨by decide +kernel, by decide +kernel⟩, List.mem_of_getElem? (i := 190) (by decide +kernel), List.mem_of_getElem? (i := 188) (by decide +kernel), List.mem_of_getElem? (i := 189) (by decide +kernel)⟩
theorem lw_p3 : lw_okq (⟨"ReturnsDesk$Line", "gradeFee", "(I)I"⟩, 5) := ⟨⟨by decide +kernel, by decide +kernel⟩, List.mem_of_getElem? (i := 281) (by decide +kernel), List.mem_of_getElem? (i := 374) (by decide +kernel), List.mem_of_getElem? (i := 375) (by decide +kernel)⟩
theorem lw_p4 : lw_okq (⟨"ReturnsDesk", "putIntoStock", "(II)V"⟩, 6) := ⟨⟨by decide +kernel, by decide +kernel⟩, List.mem_of_getElem? (i := 12) (by decide +kernel), List.mem_of_getElem? (i := 378) (by decide +kernel), List.mem_of_getElem? (i := 379) (by decide +kernel)⟩
theorem lw_p5 : lw_okq (⟨"ReturnsDesk", "isReturnable", "(LReturnsDesk$Order;LReturnsDesk$Line;I)Z"⟩, 6) := ⟨⟨by decide +kernel, by decide +kernel⟩, List.mem_of_getElem? (i := 12) (by decide +kernel), List.mem_of_getElem? (i := 393) (by decide +kernel), List.mem_of_getElem? (i := 394) (by decide +kernel)⟩
theorem lw_p6 : lw_okq (⟨"ReturnsDesk", "startWait", "(IIII)I"⟩, 6) := ⟨⟨by decide +kernel, by decide +kernel⟩, List.mem_of_getElem? (i := 12) (by decide +kernel), List.mem_of_getElem? (i := 408) (by decide +kernel), List.mem_of_getElem? (i := 409) (by decide +kernel)⟩
def lw_privs_1 : List (MethodName × Nat) := [(⟨"ReturnsDesk", "findOrder", "(I)LReturnsDesk$Order;"⟩, 6), (⟨"java/lang/Throwable", "fillInStackTrace", "(I)Ljava/lang/Throwable;"⟩, 6), (⟨"ReturnsDesk$Order", "charge", "(I)V"⟩, 12), (⟨"ReturnsDesk$Line", "gradeFee", "(I)I"⟩, 5), (⟨"ReturnsDesk", "putIntoStock", "(II)V"⟩, 6), (⟨"ReturnsDesk", "isReturnable", "(LReturnsDesk$Order;LReturnsDesk$Line;I)Z"⟩, 6), (⟨"ReturnsDesk", "startWait", "(IIII)I"⟩, 6)]
theorem lw_r1 : ∀ q ∈ lw_privs_1, lw_okq q := List.forall_mem_cons.mpr ⟨lw_p0, List.forall_mem_cons.mpr ⟨lw_p1, List.forall_mem_cons.mpr ⟨lw_p2, List.forall_mem_cons.mpr ⟨lw_p3, List.forall_mem_cons.mpr ⟨lw_p4, List.forall_mem_cons.mpr ⟨lw_p5, List.forall_mem_cons.mpr ⟨lw_p6, fun _ h => absurd h List.not_mem_nil⟩⟩⟩⟩⟩⟩⟩
def lw_privs : List (MethodName × Nat) := lw_privs_1
def lw_tbl : List Cond := k2_sels lw_privs ++ tables_1
theorem lw_privs_ok : ∀ q ∈ lw_privs, lw_okq q := lw_r1
end
section
/-! ===== BEGIN words of one list among another's, by their places ===== -/
theorem goodIn_r {big : List Cond} (ws : List Cond) (ps : List Nat) (hp : ws = ps.filterMap (fun i => big[i]?)) (h : ws.all goodWord = true) : GoodIn big ws := by
  intro w hw
  have h1 := List.all_eq_true.mp h w hw
  rw [hp] at hw
  obtain ⟨i, -, hi⟩ := List.mem_filterMap.mp hw
  have hm : w ∈ big := by first | exact List.mem_of_getElem? hi | exact List.getElem?_mem hi
  exact ⟨hm, good_of_word h1⟩
theorem goodIn_app {big a b : List Cond} (ha : GoodIn big a) (hb : GoodIn big b) : GoodIn big (a ++ b) := fun w h => (List.mem_append.mp h).elim (ha w) (hb w)
theorem goodIn_ca {big a b : List Cond} {c : Cond} (ha : GoodIn big (c :: a)) (hb : GoodIn big b) : GoodIn big (c :: (a ++ b)) := fun w h => (List.mem_cons.mp h).elim (fun e => ha w (List.mem_cons.mpr (Or.inl e))) (fun h => (List.mem_append.mp h).elim (fun h => ha w (List.mem_cons.mpr (Or.inr h))) (hb w))
theorem goodIn_sub {big ws : List Cond} (hm : ∀ w ∈ ws, w ∈ big) (h : ws.all goodWord = true) : GoodIn big ws := fun w hw => ⟨hm w hw, good_of_word (List.all_eq_true.mp h w hw)⟩
/-! ===== END ===== -/

/-! ===== BEGIN exceptions that leave a method, and their catching by the caller (launches without stack traces) ===== -/
section VXA
/-! The laws vx_back, vx_callV, vx_callS, vx_callSW, vx_throw0, vx_throwS follow proofs of the library, with one case more: JvmDerived/Free/Laws.lean (Back.of_free), Shelf42/LK1.lean (callV, callS), Shelf/KitTraced.lean (throwNew0V, throwNewS). -/
/-- where a method has thrown q: the class by its name, the cell, what was written, the world -/
def vx_T (XC : String → State → State → Prop) (st : State) (q : Addr) (t : State) (mc ms : Nat) (free : Addr → Prop) : Prop :=
  ∃ (E : String) (ce : Cell) (L : List Loc), XC E st t ∧ t.heap[q]? = some ce ∧ ce.vm = .none ∧ st.vm.findClass E = some ce.cls ∧ st.WarmedH t.vm ∧ st.sameButNew ({ t with vm := st.vm } : State) L mc ms ∧ ∀ z ∈ L, free z.base
def vx_Q (Qc : Array Value → State → Outcome → State → Prop) (XC : String → State → State → Prop) (mc ms : Nat) (free : Addr → Prop) : Array Value → State → Outcome → State → Prop := fun a st o t =>
  (Qc a st o t ∧ ∃ L, FrameEnd st o t L mc ms ∧ ∀ q ∈ L, free q.base) ∨ ∃ q, o = .threw q ∧ vx_T XC st q t mc ms free
/-- a callee that returns or throws -/
def vx_Met (l : Launch) (y : MethodName) (ws : List Cond) (rm : Room) (Pc : Array Value → State → Prop) (Qc : Array Value → State → Outcome → State → Prop) (XC : String → State → State → Prop) (mc ms : Nat) (free : Addr → Prop) : Prop :=
  MetFree l y (headSpec ws rm) Pc (fun _ _ _ _ _ => True) (vx_Q Qc XC mc ms free)
def vx_Post (XC : String → State → State → Prop) (mc ms : Nat) (free : Addr → Prop) : Pt → Array Value → Addr → Pt → Prop := fun A a q B =>
  ∃ (g : JFrame) (mk : MethodId) (t : State) (L : List Loc) (E : String) (ce : Cell), B.U.heap = t.heap ∧ B.U.vm = t.vm ∧ XC E (A.U.calling g mk a) t ∧ t.heap[q]? = some ce ∧ ce.vm = .none ∧ A.U.vm.findClass E = some ce.cls ∧ B.locs = A.locs ++ L ∧ (∀ z ∈ L, free z.base) ∧ B.cells = A.cells + mc ∧ B.slots = A.slots + ms
def vx_Back (l : Launch) (R : Room) (p : Program) (e : Env) (below : List Frame) (s : State) (sargs : Array Value) (y : MethodName) (len W9 : Nat)
    (Pre : Pt → Array Value → Prop) (Post : Pt → Array Value → Option Value → Pt → Prop) (PostX : Pt → Array Value → Addr → Pt → Prop) : Prop :=
  ∀ (m : MethodId) (meth : Method) (c : Code) (A : Pt) (g : JFrame) (ig : Instr) (mk : MethodId) (a : Array Value),
    Stand p l e R s m sargs below meth c A.U A.locs A.cells A.slots → g.method = m → g.locals.size = c.maxLocals → decode c.code g.pc = .ok (ig, len) →
    2 * g.monitorRoom + (g.stack.map fun v => v.category).sum ≤ W9 → A.U.methodNamed? y = some mk → Pre A a →
    (∃ (v : Option Value) (B : Pt), Stand p l e R s m sargs below meth c B.U B.locs B.cells B.slots ∧ Post A a v B ∧
      Steps p.tables e below (doInvoke e (A.U.setTop g) [] mk a).1 (B.U.setTop { g with pc := g.pc + len, stack := v.toList ++ g.stack })) ∨
    (∃ (q : Addr) (B : Pt), Stand p l e R s m sargs below meth c B.U B.locs B.cells B.slots ∧ PostX A a q B ∧
      Steps p.tables e below (doInvoke e (A.U.setTop g) [] mk a).1 ((B.U.setTop g).pushFrame (.throwing q)))
section Payer
variable {l : Launch} {R : Room} {p : Program} {e : Env} {below : List Frame} {s : State} {sargs : Array Value} {y : MethodName} {len W9 : Nat}
theorem vx_back {ws : List Cond} {rm : Room} {Pc : Array Value → State → Prop} {Qc : Array Value → State → Outcome → State → Prop} {XC : String → State → State → Prop} {mc ms : Nat} {free : Addr → Prop} {bytes : ByteArray} {maxL : Nat} {ret : Option FieldType}
    (hM : vx_Met l y ws rm Pc Qc XC mc ms free) (hblind : FrameBlind Pc) (hrc : rm.cells = mc) (hrs : rm.slots = ms)
    (hframes : rm.frames + 1 ≤ R.frames) (hlocals : W9 + (maxL + 11) + rm.locals ≤ R.locals)
    (hws : ∀ w ∈ ws, ∀ a' U, s.WarmedH U.vm → w.before a' U = true) (hcode : Cond.code y bytes maxL ret ∈ ws) (hinit : ∀ a' U, s.WarmedH U.vm → (Cond.initialized y.cls).before a' U = true) :
    vx_Back l R p e below s sargs y len W9 (PreOf R mc ms Pc) (PostOf Qc mc ms free) (vx_Post XC mc ms free) := by
  intro m meth c A g ig mk a X hg hsize hdg hW hn hp
  have h1 : (headSpec ws rm).pre.before a A.U = true := atoms_intro fun w hw => hws w hw _ _ X.warmed
  have h2 : (Cond.code y bytes maxL ret).before a A.U = true := hws _ hcode _ _ X.warmed
  have h3 : (Cond.initialized y.cls).before a A.U = true := hinit _ _ X.warmed
  have h4 : A.cells + (headSpec ws rm).room.cells ≤ R.cells := by rw [show (headSpec ws rm).room.cells = mc from hrc]; exact hp.1
  have h5 : A.slots + (headSpec ws rm).room.slots ≤ R.slots := by rw [show (headSpec ws rm).room.slots = ms from hrs]; exact hp.2.1
  have hPc : Pc a (A.U.calling g mk a) := hblind _ _ _ _ hp.2.2
  obtain ⟨U, Ls, c0, s0⟩ := A
  dsimp only [Pt.U, Pt.locs, Pt.cells, Pt.slots] at h1 h2 h3 h4 h5 X hn hPc ⊢
  obtain ⟨methY, cY, hmY, hcY, -, hlY, -, -, -, -⟩ := Cond.code_spec hn h2
  obtain ⟨kY, hkY, -⟩ := className_of_methodNamed hn
  have hinitY : kY.init = .initialized := Cond.initialized_spec (findClass_of_methodNamed hn) hkY h3
  have h : At U g.method c below := by rw [hg]; exact X.here
  have hlocals9 : W9 + (maxL + 11) + (headSpec ws rm).room.locals ≤ R.locals := hlocals
  have happ : (headSpec ws rm).appliesLoose y e.platform (U.calling g mk a) = true :=
    Spec.appliesLoose_calling (g := g) h hdg hn hkY hinitY
      (X.room_calling (g := g) (R' := (headSpec ws rm).room) hsize hmY hcY hframes (by rw [hlY]; omega) h4 h5) h1
  obtain ⟨mid, hmid⟩ := h.above
  have hfr : (U.setTop g).frames = (.java g :: mid) ++ below := by rw [State.frames_setTop' g h.top, hmid]; rfl
  obtain ⟨o, s₂, hsteps, -, hend, hq⟩ := Steps.callFree hM p X.admits X.cas X.clock (acts := []) hfr happ hPc trivial
  have hq' : vx_Q Qc XC mc ms free a (U.calling g mk a) o s₂ := hq
  rw [State.frames_setTop' g h.top] at hend
  obtain ⟨g₀, hg0⟩ := Option.isSome_iff_exists.mp h.top
  obtain ⟨r, hr⟩ := State.topJava?_eq_some.mp hg0
  have hr' : (({ U with heap := s₂.heap, slotsUsed := s₂.slotsUsed } : State).setVm s₂.vm).frames = .java g₀ :: r := hr
  rcases hq' with ⟨hqc, L, hfe, hL⟩ | ⟨q, rfl, E, ce, L, hx, hce, hcv, hcl, hW₂, hsm, hL⟩
  · obtain ⟨⟨v, rfl⟩, hW₂, e2, q2, q3, q4, q5, q6⟩ := id hfe
    have e3 : s₂ = ({ (U.calling g mk a).setFrames s₂.frames with heap := s₂.heap, slotsUsed := s₂.slotsUsed } : State).setVm s₂.vm := by
      have : s₂ = ({ s₂ with vm := (U.calling g mk a).vm } : State).setVm s₂.vm := rfl
      rw [e2] at this
      exact this
    obtain ⟨c₂, i₂, len₂, hc₂, hd₂, hf₂⟩ := hend
    have hW' : U.WarmedH s₂.vm := hW₂
    have hcc : c₂ = c := by
      have h1 : s₂.code? g.method = U.code? g.method := by
        rw [State.code?_eq, State.code?_eq, hW'.alike.method?]
      exact Option.some.inj (hc₂.symm.trans (h1.trans h.code))
    subst hcc
    have hlen : len₂ = len := by rw [hdg] at hd₂; cases hd₂; rfl
    subst hlen
    have hs₂ : s₂ = (({ U with heap := s₂.heap, slotsUsed := s₂.slotsUsed } : State).setVm s₂.vm).setTop { g with pc := g.pc + len₂, stack := v.toList ++ g.stack } := by
      refine e3.trans ?_
      rw [hf₂, State.calling_eq h.top, State.setFrames_setFrames, State.setTop_of_frames _ hr', hr]
      rfl
    have hsame : U.sameButNew ({ U with heap := s₂.heap, slotsUsed := s₂.slotsUsed } : State) L mc ms := by
      refine ⟨?_, q2, q3, q4, q5, q6⟩
      obtain ⟨t, ht, -⟩ := State.frames_cons hr
      show ({ U with heap := s₂.heap, slotsUsed := s₂.slotsUsed } : State) = { U.setFrames U.frames with heap := s₂.heap, slotsUsed := s₂.slotsUsed }
      rw [State.setFrames_self ht]
    subst hg
    refine Or.inl ⟨v, ⟨(({ U with heap := s₂.heap, slotsUsed := s₂.slotsUsed } : State).setVm s₂.vm), Ls ++ L, c0 + mc, s0 + ms⟩,
      ⟨X.admits, X.cas, X.clock, X.frames, X.room, X.hears, X.method, X.code, (X.here.setHeapUsed s₂.heap s₂.slotsUsed).setVm hW'.alike, X.tail, State.WarmedH.trans X.warmed hW', X.limits, X.bytes, X.same.trans (hsame.setVm s.vm)⟩,
      ⟨g, mk, s₂, L, rfl, rfl, hqc, rfl, hL, rfl, rfl⟩, ?_⟩
    show Steps p.tables e below _ ((({ U with heap := s₂.heap, slotsUsed := s₂.slotsUsed } : State).setVm s₂.vm).setTop { g with pc := g.pc + len₂, stack := v.toList ++ g.stack })
    rw [← hs₂]
    exact hsteps
  · obtain ⟨e2, q2, q3, q4, q5, q6⟩ := id hsm
    have e3 : s₂ = ({ (U.calling g mk a).setFrames s₂.frames with heap := s₂.heap, slotsUsed := s₂.slotsUsed } : State).setVm s₂.vm := by
      have : s₂ = ({ s₂ with vm := (U.calling g mk a).vm } : State).setVm s₂.vm := rfl
      rw [e2] at this
      exact this
    have hf₂ : s₂.frames = .throwing q :: .java g :: U.frames.tail := hend
    have hW' : U.WarmedH s₂.vm := hW₂
    have hs₂ : s₂ = ((({ U with heap := s₂.heap, slotsUsed := s₂.slotsUsed } : State).setVm s₂.vm).setTop g).pushFrame (.throwing q) := by
      refine e3.trans ?_
      rw [hf₂, State.calling_eq h.top, State.setFrames_setFrames, State.pushFrame, State.frames_setTop _ hr', State.setTop_of_frames _ hr', State.setFrames_setFrames, hr]
      rfl
    have hsame : U.sameButNew ({ U with heap := s₂.heap, slotsUsed := s₂.slotsUsed } : State) L mc ms := by
      refine ⟨?_, q2, q3, q4, q5, q6⟩
      obtain ⟨t, ht, -⟩ := State.frames_cons hr
      show ({ U with heap := s₂.heap, slotsUsed := s₂.slotsUsed } : State) = { U.setFrames U.frames with heap := s₂.heap, slotsUsed := s₂.slotsUsed }
      rw [State.setFrames_self ht]
    subst hg
    refine Or.inr ⟨q, ⟨(({ U with heap := s₂.heap, slotsUsed := s₂.slotsUsed } : State).setVm s₂.vm), Ls ++ L, c0 + mc, s0 + ms⟩,
      ⟨X.admits, X.cas, X.clock, X.frames, X.room, X.hears, X.method, X.code, (X.here.setHeapUsed s₂.heap s₂.slotsUsed).setVm hW'.alike, X.tail, State.WarmedH.trans X.warmed hW', X.limits, X.bytes, X.same.trans (hsame.setVm s.vm)⟩,
      ⟨g, mk, s₂, L, E, ce, rfl, rfl, hx, hce, hcv, hcl, rfl, hL, rfl, rfl⟩, ?_⟩
    show Steps p.tables e below _ (((({ U with heap := s₂.heap, slotsUsed := s₂.slotsUsed } : State).setVm s₂.vm).setTop g).pushFrame (.throwing q))
    rw [← hs₂]
    exact hsteps
end Payer
section Calls
variable {p : Program} {l : Launch} {e : Env} {R : Room} {s : State} {m : MethodId} {args : Array Value} {below : List Frame} {meth : Method} {c : Code} {T : State} {locs : List Loc} {cells slots : Nat}
theorem vx_callV (X : Stand p l e R s m args below meth c T locs cells slots) (hexec : p.tables.exec = Jvm.exec) {own C : String} {index : Nat} {y : MethodName} {bytes : ByteArray} {maxL : Nat} {ret : Option FieldType}
    (hown : s.vm.findClass own = some m.cls) (hlink : (Cond.methodLink own index y).before args s = true) (hinst : (Cond.instanceMethod y).before args s = true) (hsel : (Cond.selects C y y).before args s = true)
    (hcode : (Cond.code y bytes maxL ret).before args s = true) (hy : y.cls ≠ "java/lang/invoke/MethodHandle" ∧ y.cls ≠ "java/lang/invoke/VarHandle")
    {W9 : Nat} {Pre : Pt → Array Value → Prop} {Post : Pt → Array Value → Option Value → Pt → Prop} {PostX : Pt → Array Value → Addr → Pt → Prop} (hK : vx_Back l R p e below s args y 3 W9 Pre Post PostX)
    {b : Addr} {cellB : Cell} (hcell : T.heap[b]? = some cellB) (hobj : cellB.vm.isStatics = false) (hcls : s.vm.findClass C = some cellB.cls)
    {g : JFrame} (hg : g.method = m) (hsize : g.locals.size = c.maxLocals) {argsL rest : List Value} (hlen : ∀ sig, parseMethodDescriptor y.desc = some sig → argsL.length = sig.parameters.length)
    (hstack : g.stack = argsL.reverse ++ .ref b :: rest) (hW : 2 * g.monitorRoom + (rest.map fun v => v.category).sum ≤ W9) (hdg : decode c.code g.pc = .ok (.invokevirtual index, 3))
    (hpre : ∀ vm₁, s.WarmedH vm₁ → Pre ⟨T.setVm vm₁, locs, cells, slots⟩ (Value.ref b :: argsL).toArray) :
    (∃ (v : Option Value) (vm₁ : Vm) (B : Pt), s.WarmedH vm₁ ∧ Stand p l e R s m args below meth c B.U B.locs B.cells B.slots ∧ Post ⟨T.setVm vm₁, locs, cells, slots⟩ (Value.ref b :: argsL).toArray v B ∧
      ∀ target, Steps p.tables e below (B.U.setTop { g with pc := g.pc + 3, stack := v.toList ++ rest }) target → Steps p.tables e below (T.setTop g) target) ∨
    (∃ (q : Addr) (vm₁ : Vm) (B : Pt), s.WarmedH vm₁ ∧ Stand p l e R s m args below meth c B.U B.locs B.cells B.slots ∧ PostX ⟨T.setVm vm₁, locs, cells, slots⟩ (Value.ref b :: argsL).toArray q B ∧
      Steps p.tables e below (T.setTop g) ((B.U.setTop { g with stack := rest }).pushFrame (.throwing q))) := by
  obtain ⟨mk, methM, hnamed, hmethM, hstM, habM⟩ := Cond.instanceMethod_spec hinst
  obtain ⟨methM', cM, hmethM', -, -, -, -, -, -, hsigM⟩ := Cond.code_spec hnamed hcode
  cases hmethM.symm.trans hmethM'
  obtain ⟨c2, r2, m2, q1, q2, q3, q4, kP, hkP, hkPi⟩ := Cond.selects_spec hsel
  cases hcls.symm.trans q1
  cases (State.methodFound?_of_named hnamed hy).symm.trans q2
  cases hnamed.symm.trans q3
  have hselP : selectMethod e.platform s.vm cellB.cls mk = .method mk := by rw [Launch.admits_selectMethod X.admits]; exact q4
  obtain ⟨vm₁, X₁, hstep₁⟩ := X.invokevirtual hexec hown hlink hnamed hmethM hstM hkP hkPi hy (a := b) (cell := cellB) hcell
    (fun z h => by rw [h] at hobj; cases hobj) hselP hmethM habM hkP hkPi (g := g) hg (argsL := argsL) (rest := rest) (hlen _ hsigM) hstack hdg
  rcases hK m meth c ⟨T.setVm vm₁, locs, cells, slots⟩ { g with stack := rest } (.invokevirtual index) mk (Value.ref b :: argsL).toArray X₁ hg hsize hdg hW (X₁.named hnamed) (hpre vm₁ X₁.warmed) with ⟨v, B, X', hpost, hsteps⟩ | ⟨q, B, X', hpost, hsteps⟩
  · exact Or.inl ⟨v, vm₁, B, X₁.warmed, X', hpost, fun target h => hstep₁ _ fun acts => by rw [doInvoke_state]; exact hsteps.trans h⟩
  · exact Or.inr ⟨q, vm₁, B, X₁.warmed, X', hpost, hstep₁ _ fun acts => by rw [doInvoke_state]; exact hsteps⟩
theorem vx_callS (X : Stand p l e R s m args below meth c T locs cells slots) (hexec : p.tables.exec = Jvm.exec) {own : String} {index : Nat} {y : MethodName} {bytes : ByteArray} {maxL : Nat} {ret : Option FieldType}
    (hown : s.vm.findClass own = some m.cls) (hlink : (Cond.methodLink own index y).before args s = true) (hstat : (Cond.static y).before args s = true) (hinit : (Cond.initialized y.cls).before args s = true)
    (hcode : (Cond.code y bytes maxL ret).before args s = true) (hy : y.cls ≠ "java/lang/invoke/MethodHandle" ∧ y.cls ≠ "java/lang/invoke/VarHandle")
    {W9 : Nat} {Pre : Pt → Array Value → Prop} {Post : Pt → Array Value → Option Value → Pt → Prop} {PostX : Pt → Array Value → Addr → Pt → Prop} (hK : vx_Back l R p e below s args y 3 W9 Pre Post PostX)
    {g : JFrame} (hg : g.method = m) (hsize : g.locals.size = c.maxLocals) {argsL rest : List Value} (hlen : ∀ sig, parseMethodDescriptor y.desc = some sig → argsL.length = sig.parameters.length)
    (hstack : g.stack = argsL.reverse ++ rest) (hW : 2 * g.monitorRoom + (rest.map fun v => v.category).sum ≤ W9) (hdg : decode c.code g.pc = .ok (.invokestatic index, 3))
    (hpre : ∀ vm₁, s.WarmedH vm₁ → Pre ⟨T.setVm vm₁, locs, cells, slots⟩ argsL.toArray) :
    (∃ (v : Option Value) (vm₁ : Vm) (B : Pt), s.WarmedH vm₁ ∧ Stand p l e R s m args below meth c B.U B.locs B.cells B.slots ∧ Post ⟨T.setVm vm₁, locs, cells, slots⟩ argsL.toArray v B ∧
      ∀ target, Steps p.tables e below (B.U.setTop { g with pc := g.pc + 3, stack := v.toList ++ rest }) target → Steps p.tables e below (T.setTop g) target) ∨
    (∃ (q : Addr) (vm₁ : Vm) (B : Pt), s.WarmedH vm₁ ∧ Stand p l e R s m args below meth c B.U B.locs B.cells B.slots ∧ PostX ⟨T.setVm vm₁, locs, cells, slots⟩ argsL.toArray q B ∧
      Steps p.tables e below (T.setTop g) ((B.U.setTop { g with stack := rest }).pushFrame (.throwing q))) := by
  obtain ⟨mk, hnamed⟩ := Cond.code_named hcode
  obtain ⟨methM, cM, hmethM, -, -, -, -, -, -, hsigM⟩ := Cond.code_spec hnamed hcode
  have hstatic : methM.isStatic = true := Cond.static_spec hnamed hmethM hstat
  obtain ⟨kP, hkP, -⟩ := className_of_methodNamed hnamed
  have hinitP : kP.init = .initialized := Cond.initialized_spec (findClass_of_methodNamed hnamed) hkP hinit
  obtain ⟨vm₁, X₁, hstep₁⟩ := X.invokestatic hexec hown hlink hnamed hmethM hstatic hkP hinitP hy (g := g) hg (argsL := argsL) (rest := rest) (hlen _ hsigM) hstack hdg
  rcases hK m meth c ⟨T.setVm vm₁, locs, cells, slots⟩ { g with stack := rest } (.invokestatic index) mk argsL.toArray X₁ hg hsize hdg hW (X₁.named hnamed) (hpre vm₁ X₁.warmed) with ⟨v, B, X', hpost, hsteps⟩ | ⟨q, B, X', hpost, hsteps⟩
  · exact Or.inl ⟨v, vm₁, B, X₁.warmed, X', hpost, fun target h => hstep₁ _ fun acts => by rw [doInvoke_state]; exact hsteps.trans h⟩
  · exact Or.inr ⟨q, vm₁, B, X₁.warmed, X', hpost, hstep₁ _ fun acts => by rw [doInvoke_state]; exact hsteps⟩
end Calls
theorem vx_cls {s : State} {T : State} {vm₁ : Vm} {E : String} {k : ClassId} (hW : s.WarmedH vm₁) (h : (T.setVm vm₁).vm.findClass E = some k) : s.vm.findClass E = some k := by
  have h1 : vm₁.findClass E = some k := h
  rw [hW.alike.findClass] at h1
  exact h1
/-- the method's frame g, with q thrown over it -/
def vx_W (p : Program) (l : Launch) (e : Env) (R : Room) (s : State) (m : MethodId) (args : Array Value) (below : List Frame) (meth : Method) (c : Code) (H : Heap) (locs : List Loc) (cells slots : Nat) (Q : State → Prop) (g : JFrame) (q : Addr) : Prop :=
  ∀ T : State, T.heap = H → Stand p l e R s m args below meth c T locs cells slots → ∃ t, Steps p.tables e below ((T.setTop g).pushFrame (.throwing q)) t ∧ Q t
def vx_Run (p : Program) (l : Launch) (e : Env) (R : Room) (s : State) (m : MethodId) (args : Array Value) (below : List Frame) (meth : Method) (c : Code) (H : Heap) (locs : List Loc) (cells slots mc ms : Nat) (g : JFrame) (rest : List Value) (Qa : State → Outcome → State → Prop) (XC : String → State → State → Prop) (free : Addr → Prop) : Prop :=
  ∀ T : State, T.heap = H → Stand p l e R s m args below meth c T locs cells slots →
    (∃ (v : Option Value) (st₀ t T' : State) (L : List Loc), st₀.heap = H ∧ Stand p l e R s m args below meth c T' (locs ++ L) (cells + mc) (slots + ms) ∧ (∀ q ∈ L, free q.base) ∧ T'.heap = t.heap ∧ T'.vm = t.vm ∧ Qa st₀ (.returned v) t ∧
      Goes p e below T g T' { g with pc := g.pc + 3, stack := v.toList ++ rest }) ∨
    (∃ (q : Addr) (st₀ t T' : State) (L : List Loc) (E : String) (ce : Cell), st₀.heap = H ∧ Stand p l e R s m args below meth c T' (locs ++ L) (cells + mc) (slots + ms) ∧ (∀ z ∈ L, free z.base) ∧ T'.heap = t.heap ∧ T'.vm = t.vm ∧ XC E st₀ t ∧ t.heap[q]? = some ce ∧ ce.vm = .none ∧ s.vm.findClass E = some ce.cls ∧
      Steps p.tables e below (T.setTop g) ((T'.setTop { g with stack := rest }).pushFrame (.throwing q)))
def vx_X {S : Type} (px : S → Prop) (B : String → S → State → Prop) (A : Nat → Prop) : String → State → State → Prop := fun E st t => ∃ u : S, px u ∧ B E u t ∧ va_F A st t
section Runs
variable {p : Program} {l : Launch} {e : Env} {R : Room} {s : State} {m : MethodId} {args : Array Value} {below : List Frame} {meth : Method} {c : Code} {H : Heap} {locs : List Loc} {cells slots : Nat}
variable {y : MethodName} {bytes cc : ByteArray} {maxL nL mc ms n index : Nat} {ret : Option FieldType} {ws : List Cond} {rm : Room} {Pc : Array Value → State → Prop} {Qc : Array Value → State → Outcome → State → Prop} {XC : String → State → State → Prop} {free : Addr → Prop} {Ts : List Cond} {own C : String} {b : Addr} {As rest : List Value} {g : JFrame}
theorem vx_callBack (cb : CallB R s args own index y bytes maxL ret ws rm mc ms n) (hM : vx_Met l y ws rm Pc Qc XC mc ms free) (hbl : FrameBlind Pc) : vx_Back l R p e below s args y 3 8 (PreOf R mc ms Pc) (PostOf Qc mc ms free) (vx_Post XC mc ms free) := by
  obtain ⟨hrc, hrs, hfr, hlo, hws, hcw, -, hini, -⟩ := cb
  exact vx_back (bytes := bytes) (maxL := maxL) (ret := ret) hM hbl hrc hrs hfr hlo hws hcw (fun a' U hW => word_at hW (Or.inl (by first | rfl | simp [Cond.onTables, Cond.keeps, Cond.steady])) hini)
theorem vx_runV (S : CallFix p m c cc nL s args Ts own) (hM : vx_Met l y ws rm Pc Qc XC mc ms free) (cw : CallW R s args own C index y bytes maxL ret ws rm mc ms n) (hp : PreV s H C b Pc As)
    (hg : g.method = m) (hn : As.length = n) (hsize : g.locals.size = nL) (hstack : g.stack = As.reverse ++ .ref b :: rest) (hW : 2 * g.monitorRoom + (rest.map fun v => v.category).sum ≤ 8) (hdg : decode cc g.pc = .ok (.invokevirtual index, 3)) (hf : cells + mc ≤ R.cells ∧ slots + ms ≤ R.slots) :
    vx_Run p l e R s m args below meth c H locs cells slots mc ms g rest (Qc (Value.ref b :: As).toArray) XC free := by
  have hK : vx_Back l R p e below s args y 3 8 (PreOf R mc ms Pc) (PostOf Qc mc ms free) (vx_Post XC mc ms free) := vx_callBack cw.1 hM hp.1
  obtain ⟨⟨-, -, -, -, -, -, hcode, -, hy, hlen, hl⟩, hin, hse⟩ := cw
  obtain ⟨hx, hb, hml, ho, -⟩ := S
  obtain ⟨-, ⟨cellB, hcB, hoB, hclB⟩, hPc⟩ := hp
  intro T hT X
  rcases vx_callV X hx (C := C) (bytes := bytes) (maxL := maxL) (ret := ret) ho hl hin hse hcode hy hK (by rw [hT]; exact hcB) hoB hclB hg (hsize.trans hml.symm) (argsL := As) (rest := rest) (fun sig h => hn.trans (hlen sig h)) hstack hW (by rw [hb]; exact hdg)
    (fun vm₁ hW₁ => ⟨hf.1, hf.2, hPc (T.setVm vm₁) hT hW₁⟩) with ⟨v, vm₁, ⟨U', l2, c2, s2⟩, hW₁, X', ⟨g', mk, t, L, e1, e2, hq, h1, hL, h2, h3⟩, st⟩ | ⟨q, vm₁, ⟨U', l2, c2, s2⟩, hW₁, X', ⟨g', mk, t, L, E, ce, e1, e2, hq, hce, hcv, hcl, h1, hL, h2, h3⟩, st⟩
  · dsimp only [Pt.U, Pt.locs, Pt.cells, Pt.slots] at X' e1 e2 h1 h2 h3 st
    subst h1; subst h2; subst h3
    exact Or.inl ⟨v, (T.setVm vm₁).calling g' mk (Value.ref b :: As).toArray, t, U', L, hT, X', hL, e1, e2, hq, st⟩
  · dsimp only [Pt.U, Pt.locs, Pt.cells, Pt.slots] at X' e1 e2 h1 h2 h3 st hcl
    subst h1; subst h2; subst h3
    exact Or.inr ⟨q, (T.setVm vm₁).calling g' mk (Value.ref b :: As).toArray, t, U', L, E, ce, hT, X', hL, e1, e2, hq, hce, hcv, vx_cls hW₁ hcl, st⟩
theorem vx_runS (S : CallFix p m c cc nL s args Ts own) (hM : vx_Met l y ws rm Pc Qc XC mc ms free) (cw : CallB R s args own index y bytes maxL ret ws rm mc ms n ∧ (Cond.static y).before args s = true) (hp : PreS s H Pc As)
    (hg : g.method = m) (hn : As.length = n) (hsize : g.locals.size = nL) (hstack : g.stack = As.reverse ++ rest) (hW : 2 * g.monitorRoom + (rest.map fun v => v.category).sum ≤ 8) (hdg : decode cc g.pc = .ok (.invokestatic index, 3)) (hf : cells + mc ≤ R.cells ∧ slots + ms ≤ R.slots) :
    vx_Run p l e R s m args below meth c H locs cells slots mc ms g rest (Qc As.toArray) XC free := by
  have hK : vx_Back l R p e below s args y 3 8 (PreOf R mc ms Pc) (PostOf Qc mc ms free) (vx_Post XC mc ms free) := vx_callBack cw.1 hM hp.1
  obtain ⟨⟨-, -, -, -, -, -, hcode, hini, hy, hlen, hl⟩, hstt⟩ := cw
  obtain ⟨hx, hb, hml, ho, -⟩ := S
  intro T hT X
  rcases vx_callS X hx (bytes := bytes) (maxL := maxL) (ret := ret) ho hl hstt hini hcode hy hK hg (hsize.trans hml.symm) (argsL := As) (rest := rest) (fun sig h => hn.trans (hlen sig h)) hstack hW (by rw [hb]; exact hdg)
    (fun vm₁ hW₁ => ⟨hf.1, hf.2, hp.2 (T.setVm vm₁) hT hW₁⟩) with ⟨v, vm₁, ⟨U', l2, c2, s2⟩, hW₁, X', ⟨g', mk, t, L, e1, e2, hq, h1, hL, h2, h3⟩, st⟩ | ⟨q, vm₁, ⟨U', l2, c2, s2⟩, hW₁, X', ⟨g', mk, t, L, E, ce, e1, e2, hq, hce, hcv, hcl, h1, hL, h2, h3⟩, st⟩
  · dsimp only [Pt.U, Pt.locs, Pt.cells, Pt.slots] at X' e1 e2 h1 h2 h3 st
    subst h1; subst h2; subst h3
    exact Or.inl ⟨v, (T.setVm vm₁).calling g' mk As.toArray, t, U', L, hT, X', hL, e1, e2, hq, st⟩
  · dsimp only [Pt.U, Pt.locs, Pt.cells, Pt.slots] at X' e1 e2 h1 h2 h3 st hcl
    subst h1; subst h2; subst h3
    exact Or.inr ⟨q, (T.setVm vm₁).calling g' mk As.toArray, t, U', L, E, ce, hT, X', hL, e1, e2, hq, hce, hcv, vx_cls hW₁ hcl, st⟩
end Runs
section Rows
variable {p : Program} {l : Launch} {e : Env} {R : Room} {s : State} {m : MethodId} {args : Array Value} {below : List Frame} {meth : Method} {c : Code} {H : Heap} {locs : List Loc} {cells slots : Nat} {Q : State → Prop}
variable {mc ms : Nat} {free : Addr → Prop} {A0 A1 : Nat → Prop} {H0 : Heap} {a : Array Value} {pc : Nat} {ls : Array Slot} {st0 rest : List Value}
theorem vx_keep {st₀ t T' : State} {L : List Loc} (h0 : st₀.heap = H) (e1 : T'.heap = t.heap) (hS : va_S A0 H0 H locs) (hA : ∀ q, q < H.size → A1 q → A0 q) (hf : ∀ q, free q → A0 q) (hL : ∀ q ∈ L, free q.base) (hF : va_F A1 st₀ t) :
    H.size ≤ T'.heap.size ∧ (∀ q : Nat, q < H.size → ¬ A1 q → T'.heap[q]? = H[q]?) ∧ va_S A0 H0 T'.heap (locs ++ L) := by
  obtain ⟨hz, hk⟩ := hF
  rw [h0] at hz hk
  exact ⟨by rw [e1]; exact hz, fun q h1 h2 => by rw [e1]; exact hk q h1 h2,
    ⟨Nat.le_trans hS.1 (by rw [e1]; exact hz), fun q h1 h2 => by rw [e1, hk q (Nat.lt_of_lt_of_le h1 hS.1) (fun z => h2 (hA q (Nat.lt_of_lt_of_le h1 hS.1) z))]; exact hS.2.1 q h1 h2, fun q hq => by
      rcases List.mem_append.mp hq with h | h
      · exact hS.2.2 q h
      · exact hf _ (hL q h)⟩⟩
theorem vx_calli {S SX : Type} {post : Int32 → S → Prop} {px : SX → Prop} {B : S → State → Prop} {BX : String → SX → State → Prop} {AX : Nat → Prop} (hr : vx_Run p l e R s m args below meth c H locs cells slots mc ms (F0 m pc ls st0) rest (va_Qi post B A1 a) (vx_X px BX AX) free) (hS : va_S A0 H0 H locs) (hA : ∀ q, q < H.size → A1 q → A0 q) (hf : ∀ q, free q → A0 q) (hAX : ∀ q, q < H.size → AX q → A0 q)
    (kx : ∀ (E : String) (ce : Cell) (q9 : Addr) (u : SX) (t : State) (H1 : Heap) (locs1 : List Loc), t.heap = H1 → s.vm.Alike t.vm → px u → BX E u t → H.size ≤ H1.size → (∀ q : Nat, q < H.size → ¬ AX q → H1[q]? = H[q]?) → va_S A0 H0 H1 locs1 → H1[q9]? = some ce → ce.vm = .none → s.vm.findClass E = some ce.cls → vx_W p l e R s m args below meth c H1 locs1 (cells + mc) (slots + ms) Q (F0 m pc ls rest) q9)
    (kk : ∀ (r : Int32) (u : S) (t : State) (H1 : Heap) (locs1 : List Loc), t.heap = H1 → s.vm.Alike t.vm → post r u → B u t → H.size ≤ H1.size → (∀ q : Nat, q < H.size → ¬ A1 q → H1[q]? = H[q]?) → va_S A0 H0 H1 locs1 → W p l e R s m args below meth c H1 locs1 (cells + mc) (slots + ms) Q (F0 m (pc + 3) ls (.int r :: rest))) : W p l e R s m args below meth c H locs cells slots Q (F0 m pc ls st0) := by
  intro T hT X
  rcases hr T hT X with ⟨v, st₀, t, T', L, h0, X', hL, e1, e2, ⟨⟨r, u, hv, hp, hb⟩, hF⟩, st⟩ | ⟨q, st₀, t, T', L, E, ce, h0, X', hL, e1, e2, ⟨u, hp, hb, hF⟩, hce, hcv, hcl, st⟩
  · cases hv
    obtain ⟨k1, k2, k3⟩ := vx_keep h0 e1 hS hA hf hL hF
    obtain ⟨t2, a1, b1⟩ := kk r u t T'.heap (locs ++ L) e1.symm (by rw [← e2]; exact X'.warmed.alike) hp hb k1 k2 k3 T' rfl X'
    exact ⟨t2, st t2 a1, b1⟩
  · obtain ⟨k1, k2, k3⟩ := vx_keep h0 e1 hS hAX hf hL hF
    obtain ⟨t2, a1, b1⟩ := kx E ce q u t T'.heap (locs ++ L) e1.symm (by rw [← e2]; exact X'.warmed.alike) hp hb k1 k2 k3 (by rw [e1]; exact hce) hcv hcl T' rfl X'
    exact ⟨t2, st.trans a1, b1⟩
theorem vx_calll {S SX : Type} {post : Int64 → S → Prop} {px : SX → Prop} {B : S → State → Prop} {BX : String → SX → State → Prop} {AX : Nat → Prop} (hr : vx_Run p l e R s m args below meth c H locs cells slots mc ms (F0 m pc ls st0) rest (va_Ql post B A1 a) (vx_X px BX AX) free) (hS : va_S A0 H0 H locs) (hA : ∀ q, q < H.size → A1 q → A0 q) (hf : ∀ q, free q → A0 q) (hAX : ∀ q, q < H.size → AX q → A0 q)
    (kx : ∀ (E : String) (ce : Cell) (q9 : Addr) (u : SX) (t : State) (H1 : Heap) (locs1 : List Loc), t.heap = H1 → s.vm.Alike t.vm → px u → BX E u t → H.size ≤ H1.size → (∀ q : Nat, q < H.size → ¬ AX q → H1[q]? = H[q]?) → va_S A0 H0 H1 locs1 → H1[q9]? = some ce → ce.vm = .none → s.vm.findClass E = some ce.cls → vx_W p l e R s m args below meth c H1 locs1 (cells + mc) (slots + ms) Q (F0 m pc ls rest) q9)
    (kk : ∀ (r : Int64) (u : S) (t : State) (H1 : Heap) (locs1 : List Loc), t.heap = H1 → s.vm.Alike t.vm → post r u → B u t → H.size ≤ H1.size → (∀ q : Nat, q < H.size → ¬ A1 q → H1[q]? = H[q]?) → va_S A0 H0 H1 locs1 → W p l e R s m args below meth c H1 locs1 (cells + mc) (slots + ms) Q (F0 m (pc + 3) ls (.long r :: rest))) : W p l e R s m args below meth c H locs cells slots Q (F0 m pc ls st0) := by
  intro T hT X
  rcases hr T hT X with ⟨v, st₀, t, T', L, h0, X', hL, e1, e2, ⟨⟨r, u, hv, hp, hb⟩, hF⟩, st⟩ | ⟨q, st₀, t, T', L, E, ce, h0, X', hL, e1, e2, ⟨u, hp, hb, hF⟩, hce, hcv, hcl, st⟩
  · cases hv
    obtain ⟨k1, k2, k3⟩ := vx_keep h0 e1 hS hA hf hL hF
    obtain ⟨t2, a1, b1⟩ := kk r u t T'.heap (locs ++ L) e1.symm (by rw [← e2]; exact X'.warmed.alike) hp hb k1 k2 k3 T' rfl X'
    exact ⟨t2, st t2 a1, b1⟩
  · obtain ⟨k1, k2, k3⟩ := vx_keep h0 e1 hS hAX hf hL hF
    obtain ⟨t2, a1, b1⟩ := kx E ce q u t T'.heap (locs ++ L) e1.symm (by rw [← e2]; exact X'.warmed.alike) hp hb k1 k2 k3 (by rw [e1]; exact hce) hcv hcl T' rfl X'
    exact ⟨t2, st.trans a1, b1⟩
theorem vx_callf {S SX : Type} {post : UInt32 → S → Prop} {px : SX → Prop} {B : S → State → Prop} {BX : String → SX → State → Prop} {AX : Nat → Prop} (hr : vx_Run p l e R s m args below meth c H locs cells slots mc ms (F0 m pc ls st0) rest (va_Qf post B A1 a) (vx_X px BX AX) free) (hS : va_S A0 H0 H locs) (hA : ∀ q, q < H.size → A1 q → A0 q) (hf : ∀ q, free q → A0 q) (hAX : ∀ q, q < H.size → AX q → A0 q)
    (kx : ∀ (E : String) (ce : Cell) (q9 : Addr) (u : SX) (t : State) (H1 : Heap) (locs1 : List Loc), t.heap = H1 → s.vm.Alike t.vm → px u → BX E u t → H.size ≤ H1.size → (∀ q : Nat, q < H.size → ¬ AX q → H1[q]? = H[q]?) → va_S A0 H0 H1 locs1 → H1[q9]? = some ce → ce.vm = .none → s.vm.findClass E = some ce.cls → vx_W p l e R s m args below meth c H1 locs1 (cells + mc) (slots + ms) Q (F0 m pc ls rest) q9)
    (kk : ∀ (r : UInt32) (u : S) (t : State) (H1 : Heap) (locs1 : List Loc), t.heap = H1 → s.vm.Alike t.vm → post r u → B u t → H.size ≤ H1.size → (∀ q : Nat, q < H.size → ¬ A1 q → H1[q]? = H[q]?) → va_S A0 H0 H1 locs1 → W p l e R s m args below meth c H1 locs1 (cells + mc) (slots + ms) Q (F0 m (pc + 3) ls (.float r :: rest))) : W p l e R s m args below meth c H locs cells slots Q (F0 m pc ls st0) := by
  intro T hT X
  rcases hr T hT X with ⟨v, st₀, t, T', L, h0, X', hL, e1, e2, ⟨⟨r, u, hv, hp, hb⟩, hF⟩, st⟩ | ⟨q, st₀, t, T', L, E, ce, h0, X', hL, e1, e2, ⟨u, hp, hb, hF⟩, hce, hcv, hcl, st⟩
  · cases hv
    obtain ⟨k1, k2, k3⟩ := vx_keep h0 e1 hS hA hf hL hF
    obtain ⟨t2, a1, b1⟩ := kk r u t T'.heap (locs ++ L) e1.symm (by rw [← e2]; exact X'.warmed.alike) hp hb k1 k2 k3 T' rfl X'
    exact ⟨t2, st t2 a1, b1⟩
  · obtain ⟨k1, k2, k3⟩ := vx_keep h0 e1 hS hAX hf hL hF
    obtain ⟨t2, a1, b1⟩ := kx E ce q u t T'.heap (locs ++ L) e1.symm (by rw [← e2]; exact X'.warmed.alike) hp hb k1 k2 k3 (by rw [e1]; exact hce) hcv hcl T' rfl X'
    exact ⟨t2, st.trans a1, b1⟩
theorem vx_calld {S SX : Type} {post : UInt64 → S → Prop} {px : SX → Prop} {B : S → State → Prop} {BX : String → SX → State → Prop} {AX : Nat → Prop} (hr : vx_Run p l e R s m args below meth c H locs cells slots mc ms (F0 m pc ls st0) rest (va_Qd post B A1 a) (vx_X px BX AX) free) (hS : va_S A0 H0 H locs) (hA : ∀ q, q < H.size → A1 q → A0 q) (hf : ∀ q, free q → A0 q) (hAX : ∀ q, q < H.size → AX q → A0 q)
    (kx : ∀ (E : String) (ce : Cell) (q9 : Addr) (u : SX) (t : State) (H1 : Heap) (locs1 : List Loc), t.heap = H1 → s.vm.Alike t.vm → px u → BX E u t → H.size ≤ H1.size → (∀ q : Nat, q < H.size → ¬ AX q → H1[q]? = H[q]?) → va_S A0 H0 H1 locs1 → H1[q9]? = some ce → ce.vm = .none → s.vm.findClass E = some ce.cls → vx_W p l e R s m args below meth c H1 locs1 (cells + mc) (slots + ms) Q (F0 m pc ls rest) q9)
    (kk : ∀ (r : UInt64) (u : S) (t : State) (H1 : Heap) (locs1 : List Loc), t.heap = H1 → s.vm.Alike t.vm → post r u → B u t → H.size ≤ H1.size → (∀ q : Nat, q < H.size → ¬ A1 q → H1[q]? = H[q]?) → va_S A0 H0 H1 locs1 → W p l e R s m args below meth c H1 locs1 (cells + mc) (slots + ms) Q (F0 m (pc + 3) ls (.double r :: rest))) : W p l e R s m args below meth c H locs cells slots Q (F0 m pc ls st0) := by
  intro T hT X
  rcases hr T hT X with ⟨v, st₀, t, T', L, h0, X', hL, e1, e2, ⟨⟨r, u, hv, hp, hb⟩, hF⟩, st⟩ | ⟨q, st₀, t, T', L, E, ce, h0, X', hL, e1, e2, ⟨u, hp, hb, hF⟩, hce, hcv, hcl, st⟩
  · cases hv
    obtain ⟨k1, k2, k3⟩ := vx_keep h0 e1 hS hA hf hL hF
    obtain ⟨t2, a1, b1⟩ := kk r u t T'.heap (locs ++ L) e1.symm (by rw [← e2]; exact X'.warmed.alike) hp hb k1 k2 k3 T' rfl X'
    exact ⟨t2, st t2 a1, b1⟩
  · obtain ⟨k1, k2, k3⟩ := vx_keep h0 e1 hS hAX hf hL hF
    obtain ⟨t2, a1, b1⟩ := kx E ce q u t T'.heap (locs ++ L) e1.symm (by rw [← e2]; exact X'.warmed.alike) hp hb k1 k2 k3 (by rw [e1]; exact hce) hcv hcl T' rfl X'
    exact ⟨t2, st.trans a1, b1⟩
theorem vx_callv {S SX : Type} {post : S → Prop} {px : SX → Prop} {B : S → State → Prop} {BX : String → SX → State → Prop} {AX : Nat → Prop} (hr : vx_Run p l e R s m args below meth c H locs cells slots mc ms (F0 m pc ls st0) rest (va_Qv post B A1 a) (vx_X px BX AX) free) (hS : va_S A0 H0 H locs) (hA : ∀ q, q < H.size → A1 q → A0 q) (hf : ∀ q, free q → A0 q) (hAX : ∀ q, q < H.size → AX q → A0 q)
    (kx : ∀ (E : String) (ce : Cell) (q9 : Addr) (u : SX) (t : State) (H1 : Heap) (locs1 : List Loc), t.heap = H1 → s.vm.Alike t.vm → px u → BX E u t → H.size ≤ H1.size → (∀ q : Nat, q < H.size → ¬ AX q → H1[q]? = H[q]?) → va_S A0 H0 H1 locs1 → H1[q9]? = some ce → ce.vm = .none → s.vm.findClass E = some ce.cls → vx_W p l e R s m args below meth c H1 locs1 (cells + mc) (slots + ms) Q (F0 m pc ls rest) q9)
    (kk : ∀ (u : S) (t : State) (H1 : Heap) (locs1 : List Loc), t.heap = H1 → s.vm.Alike t.vm → post u → B u t → H.size ≤ H1.size → (∀ q : Nat, q < H.size → ¬ A1 q → H1[q]? = H[q]?) → va_S A0 H0 H1 locs1 → W p l e R s m args below meth c H1 locs1 (cells + mc) (slots + ms) Q (F0 m (pc + 3) ls (rest))) : W p l e R s m args below meth c H locs cells slots Q (F0 m pc ls st0) := by
  intro T hT X
  rcases hr T hT X with ⟨v, st₀, t, T', L, h0, X', hL, e1, e2, ⟨⟨u, hv, hp, hb⟩, hF⟩, st⟩ | ⟨q, st₀, t, T', L, E, ce, h0, X', hL, e1, e2, ⟨u, hp, hb, hF⟩, hce, hcv, hcl, st⟩
  · cases hv
    obtain ⟨k1, k2, k3⟩ := vx_keep h0 e1 hS hA hf hL hF
    obtain ⟨t2, a1, b1⟩ := kk u t T'.heap (locs ++ L) e1.symm (by rw [← e2]; exact X'.warmed.alike) hp hb k1 k2 k3 T' rfl X'
    exact ⟨t2, st t2 a1, b1⟩
  · obtain ⟨k1, k2, k3⟩ := vx_keep h0 e1 hS hAX hf hL hF
    obtain ⟨t2, a1, b1⟩ := kx E ce q u t T'.heap (locs ++ L) e1.symm (by rw [← e2]; exact X'.warmed.alike) hp hb k1 k2 k3 (by rw [e1]; exact hce) hcv hcl T' rfl X'
    exact ⟨t2, st.trans a1, b1⟩
/-- caught by the row x of this method's table; the rows ahead don't take it -/
theorem vx_catch {own name : String} {E : String} {ce : Cell} {q : Addr} (hown : s.vm.findClass own = some m.cls) (pre : List ExceptionTableEntry) (x : ExceptionTableEntry) (suf : List ExceptionTableEntry) (hsplit : c.exceptionTable.toList = pre ++ x :: suf)
    (hpass : ∀ z ∈ pre, covers z pc = false ∨ (z.catchType ≠ 0 ∧ ∃ nm : String, (Cond.classLink own z.catchType nm).before args s = true ∧ va_Nc E nm s)) (hx : covers x pc = true) (h0 : x.catchType ≠ 0)
    (hlink : (Cond.classLink own x.catchType name).before args s = true) (hcast : (Cond.castable E name).before args s = true) (hcell : H[q]? = some ce) (hv : ce.vm = .none) (hcl : s.vm.findClass E = some ce.cls)
    (kk : W p l e R s m args below meth c H locs cells slots Q (F0 m x.handlerPc ls [.ref q])) : vx_W p l e R s m args below meth c H locs cells slots Q (F0 m pc ls rest) q := by
  intro T hT X
  have hpl : e.platform.magicAccessors = ({} : Platform).magicAccessors := by rw [X.admits.platform]
  obtain ⟨c3, c4, hc3, hc4, hasg⟩ := Cond.castable_spec hcast
  cases Option.some.inj (hc3.symm.trans hcl)
  obtain ⟨c5, hc5, hcl5⟩ := Cond.classLink_spec hown hlink e.platform hpl
  cases Option.some.inj (hc4.symm.trans hc5)
  obtain ⟨vm', X', st⟩ := X.thenCaughtThrough q (g := F0 m pc ls rest) rfl (Steps.refl _) (by rw [hT]; exact hcell) (by rw [hv]; rfl) (by obtain ⟨k9, h9, -⟩ := Vm.findClass_spec hcl; exact ⟨k9, h9⟩) pre x suf hsplit
    (fun z hz => by
      rcases hpass z hz with h | ⟨hz0, nm, hl1, hn1⟩
      · exact Or.inl h
      · obtain ⟨c6, hc6, hcl6⟩ := Cond.classLink_spec hown hl1 e.platform hpl
        obtain ⟨a8, b8, h1, h2, h3⟩ := hn1
        cases Option.some.inj (h1.symm.trans hcl)
        cases Option.some.inj (h2.symm.trans hc6)
        exact Or.inr ⟨hz0, _, hcl6, h3⟩) hx (Or.inr ⟨h0, c4, hcl5, hasg⟩)
  obtain ⟨t, a1, b1⟩ := kk (T.setVm vm') hT X'
  exact ⟨t, st.trans a1, b1⟩
end Rows
section Ends
variable {p : Program} {l : Launch} {e : Env} {R : Room} {s : State} {m : MethodId} {args : Array Value} {below : List Frame} {meth : Method} {c : Code} {H : Heap} {locs : List Loc} {cells slots : Nat} {Q : State → Prop}
variable {mc ms : Nat} {free : Addr → Prop} {A0 A1 : Nat → Prop} {H0 : Heap} {a : Array Value} {ls : Array Slot} {st0 rest : List Value}
variable {Qc : Array Value → State → Outcome → State → Prop} {XC : String → State → State → Prop}
/-- what a body that may throw owes at its end -/
def vx_MQ (below : List Frame) (Qc : Array Value → State → Outcome → State → Prop) (XC : String → State → State → Prop) (a : Array Value) (s : State) (mc ms : Nat) (free : Addr → Prop) : State → Prop := fun t =>
  ∃ o, t.status = .running ∧ Ended t below o ∧ vx_Q Qc XC mc ms free a s o t
theorem vx_ret {g : JFrame} {mc ms : Nat} (k : W p l e R s m args below meth c H locs cells slots (MQ below Qc args s mc ms free) g) : W p l e R s m args below meth c H locs cells slots (vx_MQ below Qc XC args s mc ms free) g := by
  intro T hT X
  obtain ⟨t, a1, o, b1, b2, b3, b4⟩ := k T hT X
  exact ⟨t, a1, o, b1, b2, Or.inl ⟨b3, b4⟩⟩
/-- not caught here: it goes on to the caller -/
theorem vx_widen {g : JFrame} {q : Addr} {k n : Nat} (h1 : cells ≤ k) (h2 : slots ≤ n) (kk : vx_W p l e R s m args below meth c H locs k n Q g q) : vx_W p l e R s m args below meth c H locs cells slots Q g q := fun T hT X => kk T hT (stand_widen X h1 h2)
theorem vx_out {pc : Nat} {E : String} {ce : Cell} {q : Addr} {mc ms : Nat} (hout : ∀ x ∈ c.exceptionTable.toList, covers x pc = false) (hlocks : meth.locks = false) (hcell : H[q]? = some ce) (hv : ce.vm = .none) (hcl : s.vm.findClass E = some ce.cls)
    (hx : ∀ t : State, t.heap = H → s.vm.Alike t.vm → XC E s t) (hf : ∀ z ∈ locs, free z.base) (hc : cells ≤ mc) (hs : slots ≤ ms) :
    vx_W p l e R s m args below meth c H locs cells slots (vx_MQ below Qc XC args s mc ms free) (F0 m pc ls rest) q := by
  intro T hT X
  obtain ⟨st1, hrun, hend, hW, hsm⟩ := X.leaveThrown q (g := F0 m pc ls rest) rfl rfl rfl hout hlocks
  have hcell9 : (T.setFrames (.throwing q :: below)).heap[q]? = some ce := by
    show T.heap[q]? = some ce
    rw [hT]; exact hcell
  exact ⟨_, st1, .threw q, hrun, hend, Or.inr ⟨q, rfl, E, ce, locs, hx _ hT hW.alike, hcell9, hv, hcl, hW, hsm.mono hc hs, hf⟩⟩
theorem vx_frame {U : State} {k n : Nat} (h : s.sameButNew ({ U with vm := s.vm } : State) locs k n) : s.heap.size ≤ U.heap.size ∧ ∀ q : Nat, q < s.heap.size → (∀ z ∈ locs, z.base ≠ q) → U.heap[q]? = s.heap[q]? := by
  obtain ⟨-, h2, -, -, -, h6⟩ := h
  refine ⟨h2, fun q hq hz => ?_⟩
  obtain ⟨c9, e1, e2, e3, e4⟩ := h6 q _ (Array.getElem?_eq_getElem hq)
  have hs : c9.slots = (s.heap[q]).slots := Array.ext_getElem? fun i => e4 i fun hm => hz _ hm rfl
  have h9 : c9 = s.heap[q] := by
    rw [hs] at e2
    exact e2
  have e5 : U.heap[q]? = some c9 := e1
  rw [e5, h9, Array.getElem?_eq_getElem hq]
/-- the words of a throw but the four that speak of the heap -/
def vx_no (w : Cond) : Bool := decide (w ≠ .isRef (.static Bundle.tN "UNASSIGNED_STACK" Bundle.steD)) && decide (w ≠ .isRef (.static Bundle.tN "SUPPRESSED_SENTINEL" Bundle.listD)) && decide (w ≠ .laysStatic Bundle.tN "UNASSIGNED_STACK" Bundle.steD) && decide (w ≠ .laysStatic Bundle.tN "SUPPRESSED_SENTINEL" Bundle.listD)
def vx_at0 (own : String) (ic : Nat) (X : String) (names : List String) : List Cond := (Bundle.ownAtoms0 own ic X names).filter vx_no
def vx_atS (own : String) (ic : Nat) (X : String) (names : List String) : List Cond := (Bundle.ownAtoms own ic X names).filter vx_no
/-- a word that the tables alone decide, or a good one -/
def vx_ot (w : Cond) : Bool := w.onTables || goodWord w
theorem vx_ot_at {args a' : Array Value} {s U : State} {w : Cond} (hW : s.WarmedH U.vm) (hvm : s.vm = U.vm) (hg : vx_ot w = true) (h : w.before args s = true) : w.before a' U = true := by
  simp only [vx_ot, Bool.or_eq_true] at hg
  rcases hg with hg | hg
  · exact va_tabs hg hvm h
  · exact word_at hW (good_of_word hg) h
/-- a list's words: the good ones out of the method's own list, the others by premises of their own -/
theorem vx_hat {args : Array Value} {s : State} {L B : List Cond} (h1 : ∀ w ∈ L.filter goodWord, w.before args s = true) (h2 : ∀ w ∈ L.filter (fun w => !goodWord w), w ∈ B) (h3 : ∀ w ∈ B, w.before args s = true) : ∀ w ∈ L, w.before args s = true := by
  intro w hw
  by_cases g : goodWord w = true
  · exact h1 w (List.mem_filter.mpr ⟨hw, g⟩)
  · refine h3 w (h2 w (List.mem_filter.mpr ⟨hw, ?_⟩))
    show (!goodWord w) = true
    cases hgw : goodWord w
    · rfl
    · exact absurd hgw g
theorem vx_c {args : Array Value} {s : State} {w : Cond} {B : List Cond} (h : w.before args s = true) (t : ∀ w ∈ B, w.before args s = true) : ∀ w' ∈ w :: B, w'.before args s = true := fun w' h' => (List.mem_cons.mp h').elim (fun e => by rw [e]; exact h) (t w')
theorem vx_n {args : Array Value} {s : State} : ∀ w ∈ ([] : List Cond), w.before args s = true := fun _ h => nomatch h
theorem vx_own {args : Array Value} {s : State} {L : List Cond} (h1 : ∀ w ∈ L.filter vx_no, w.before args s = true)
    (hU : (Cond.isRef (.static Bundle.tN "UNASSIGNED_STACK" Bundle.steD)).before args s = true) (hN : (Cond.isRef (.static Bundle.tN "SUPPRESSED_SENTINEL" Bundle.listD)).before args s = true)
    (lU : (Cond.laysStatic Bundle.tN "UNASSIGNED_STACK" Bundle.steD).before args s = true) (lN : (Cond.laysStatic Bundle.tN "SUPPRESSED_SENTINEL" Bundle.listD).before args s = true) : ∀ w ∈ L, w.before args s = true := by
  intro w hw
  by_cases e1 : w = .isRef (.static Bundle.tN "UNASSIGNED_STACK" Bundle.steD)
  · rw [e1]; exact hU
  · by_cases e2 : w = .isRef (.static Bundle.tN "SUPPRESSED_SENTINEL" Bundle.listD)
    · rw [e2]; exact hN
    · by_cases e3 : w = .laysStatic Bundle.tN "UNASSIGNED_STACK" Bundle.steD
      · rw [e3]; exact lU
      · by_cases e4 : w = .laysStatic Bundle.tN "SUPPRESSED_SENTINEL" Bundle.listD
        · rw [e4]; exact lN
        · exact h1 w (List.mem_filter.mpr ⟨hw, by unfold vx_no; rw [decide_eq_true e1, decide_eq_true e2, decide_eq_true e3, decide_eq_true e4]; rfl⟩)
/-- where a static field lies, its class's statics cell in H -/
def vx_L (C n d : String) (A : Nat → Prop) (U : State) (H : Heap) : Prop := ∃ (c : ClassId) (k : Class) (i : Nat) (f : Field) (a : Nat) (cell : Cell), U.vm.findClass C = some c ∧ U.fieldFound? C n d = some (c, k, i, f) ∧ f.isStatic = true ∧ k.statics = some a ∧ H[a]? = some cell ∧ cell.vm.isStatics = true ∧ cell.cls = c ∧ f.slot < cell.slots.size ∧ k.staticTypes[f.slot]? = some f.type ∧ ¬ A a
theorem vx_L.moved {C n d : String} {A : Nat → Prop} {u U : State} {H : Heap} (hvm : u.vm.Alike U.vm) (h : vx_L C n d A u H) : vx_L C n d A U H := by
  obtain ⟨c, k, i, f, a, cell, h1, h2, h3, h4, h5, h6, h7, h8, h9, h10⟩ := h
  obtain ⟨k', hi', he⟩ := State.fieldFound?_setVm hvm h2
  exact ⟨c, k', i, f, a, cell, by rw [hvm.findClass]; exact h1, hi', h3, by rw [he]; exact h4, h5, h6, h7, h8, by rw [he]; exact h9, h10⟩
theorem vx_L.kept {C n d : String} {A : Nat → Prop} {U : State} {H H1 : Heap} (h : vx_L C n d A U H) (hq : ∀ a : Nat, a < H.size → ¬ A a → H1[a]? = H[a]?) : vx_L C n d A U H1 := by
  obtain ⟨c, k, i, f, a, cell, h1, h2, h3, h4, h5, h6, h7, h8, h9, h10⟩ := h
  exact ⟨c, k, i, f, a, cell, h1, h2, h3, h4, by rw [hq a (Array.getElem?_eq_some_iff.mp h5).1 h10]; exact h5, h6, h7, h8, h9, h10⟩
theorem vx_L.narrow {C n d : String} {A B : Nat → Prop} {U : State} {H : Heap} (h : vx_L C n d A U H) (hAB : ∀ q, B q → A q) : vx_L C n d B U H := by
  obtain ⟨c, k, i, f, a, cell, h1, h2, h3, h4, h5, h6, h7, h8, h9, h10⟩ := h
  exact ⟨c, k, i, f, a, cell, h1, h2, h3, h4, h5, h6, h7, h8, h9, fun z => h10 (hAB _ z)⟩
theorem vx_L.word {C n d : String} {A : Nat → Prop} {s : State} {args : Array Value} (h : vx_L C n d A s s.heap) : (Cond.laysStatic C n d).before args s = true := by
  obtain ⟨c, k, i, f, a, cell, h1, h2, h3, h4, h5, h6, h7, h8, h9, -⟩ := h
  show (Cond.laysStatic C n d).holds args s none s [] = true
  exact Cond.laysStatic_of h1 h2 h3 h4 h5 h6 h7 h8 h9
/-- .. and what it holds: null or some reference -/
def vx_Zq (C n d : String) (A : Nat → Prop) (U : State) (H : Heap) : Prop := va_Zq C n d A U H ∧ vx_L C n d A U H
theorem vx_Zq.moved {C n d : String} {A : Nat → Prop} {u U : State} {H : Heap} (hvm : u.vm.Alike U.vm) (h : vx_Zq C n d A u H) : vx_Zq C n d A U H := ⟨va_Zq.moved hvm h.1, vx_L.moved hvm h.2⟩
theorem vx_Zq.kept {C n d : String} {A : Nat → Prop} {U : State} {H H1 : Heap} (h : vx_Zq C n d A U H) (hq : ∀ a : Nat, a < H.size → ¬ A a → H1[a]? = H[a]?) : vx_Zq C n d A U H1 := ⟨va_Zq.kept h.1 hq, vx_L.kept h.2 hq⟩
theorem vx_Zq.narrow {C n d : String} {A B : Nat → Prop} {U : State} {H : Heap} (h : vx_Zq C n d A U H) (hAB : ∀ q, B q → A q) : vx_Zq C n d B U H := ⟨va_Zq.narrow h.1 hAB, vx_L.narrow h.2 hAB⟩
theorem vx_Zqof {args : Array Value} {s : State} {C n d : String} {A : Nat → Prop} (hl : (Cond.laysStatic C n d).before args s = true) (hini : (Cond.initialized C).before args s = true) (h : (Cond.isRef (.static C n d)).before args s = true) (hA : ∀ a : Nat, a < s.heap.size → ¬ A a) : vx_Zq C n d A s s.heap := by
  refine ⟨va_Zqof hl hini h hA, ?_⟩
  obtain ⟨c, k, i, f, a, cell, h1, h2, h3, h4, h5, h6, h7, h8, h9⟩ := Cond.laysStatic_spec hl
  exact ⟨c, k, i, f, a, cell, h1, h2, h3, h4, h5, h6, h7, h8, h9, hA a (Array.getElem?_eq_some_iff.mp h5).1⟩
theorem vx_isRef {C n d : String} {v : Value} {A : Nat → Prop} {s : State} {args : Array Value} (h : va_Z C n d v A s s.heap) (hv : v.isRef = true) : (Cond.isRef (.static C n d)).before args s = true := by
  obtain ⟨cf, kf, fi, f, a, cell, h1, h2, h3, h4, h5, h6, h7, -⟩ := h
  have he : (Term.static C n d).eval args s none [] s = some v := by
    simp [Term.eval, State.fieldNamed?, h1, h2, h4, h5, h6, h7]
  simp only [Cond.before, Cond.holds, Cond.value, he]
  cases v <;> simp_all [Value.isRef]
theorem vx_isRefq {C n d : String} {A : Nat → Prop} {s : State} {args : Array Value} (h : va_Zq C n d A s s.heap) : (Cond.isRef (.static C n d)).before args s = true := by
  rcases h with h | ⟨t, h⟩
  · exact vx_isRef h rfl
  · exact vx_isRef h rfl
/-- the same frame, seen from here: as if the method were called anew in this heap -/
theorem vx_rebase {T : State} (X : Stand p l e R s m args below meth c T locs cells slots) {R' : Room} (hf : R'.frames ≤ R.frames) (hl : R'.locals ≤ R.locals) (hc : cells + R'.cells ≤ R.cells) (hs : slots + R'.slots ≤ R.slots) :
    Stand p l e R' ((T.setVm s.vm).setFrames (.invoking m args :: below)) m args below meth c T [] 0 0 := by
  have htop : (T.setVm s.vm).topJava?.isSome := X.here.top
  have hF : ((T.setVm s.vm).setFrames (.invoking m args :: below)).frames = .invoking m args :: below := State.frames_setFrames _ (State.cur_lt_of_top htop)
  obtain ⟨g₀, hg0⟩ := Option.isSome_iff_exists.mp htop
  obtain ⟨r, hr⟩ := State.topJava?_eq_some.mp hg0
  have hl9 : e.platform.stackLimits (T.setVm s.vm).me = e.platform.stackLimits s.me := X.limits
  have hb9 : (T.setVm s.vm).me.stackBytes = s.me.stackBytes := X.bytes
  refine ⟨X.admits, X.cas, X.clock, hF, ?_, X.hears, X.method, X.code, X.here, X.tail, X.warmed, ?_, ?_, ?_⟩
  · have h := X.room
    have hU : ((T.setVm s.vm).setFrames (.invoking m args :: below)).localsInUse = s.localsInUse := by
      rw [State.localsInUse_invoking hF (meth := meth) (c := c) X.method X.code, State.localsInUse_invoking X.frames X.method X.code]
    simp only [State.hasRoom, Bool.and_eq_true, decide_eq_true_eq] at h ⊢
    obtain ⟨⟨⟨⟨h1, h2, h3, h4, h5, h6⟩, h7⟩, h8⟩, h9⟩ := h
    rw [X.frames, List.length_cons] at h2 h3
    have q1 := X.heapSize
    have q2 := X.used
    simp only [hF, hU, List.length_cons, State.stackLimits_setFrames, State.stackBytes_setFrames, hl9, hb9]
    refine ⟨⟨⟨⟨by omega, by omega, by omega, by omega, by omega, h6⟩, ?_⟩, ?_⟩, X.book⟩
    · show T.heap.size + R'.cells ≤ e.platform.maxCells
      omega
    · show T.slotsUsed + R'.slots ≤ e.platform.maxSlots
      omega
  · rw [State.stackLimits_setFrames]; rfl
  · rw [State.stackBytes_setFrames]; rfl
  · refine ⟨?_, Nat.le_refl _, Nat.le_refl _, ?_, ?_, fun a c9 h9 => ⟨c9, h9, rfl, rfl, fun _ _ => rfl⟩⟩
    · obtain ⟨t, ht, -⟩ := State.frames_cons hr
      show T.setVm s.vm = { ((T.setVm s.vm).setFrames (.invoking m args :: below)).setFrames (T.setVm s.vm).frames with heap := T.heap, slotsUsed := T.slotsUsed }
      rw [State.setFrames_setFrames, State.setFrames_self ht]
      rfl
    · show T.slotsUsed = T.slotsUsed + ((T.heap.toList.drop T.heap.size).map (·.slots.size)).sum
      rw [List.drop_eq_nil_of_le (Nat.le_of_eq Array.length_toList)]
      rfl
    · show ((T.heap.toList.drop T.heap.size).map (·.slots.size)).sum ≤ 0
      rw [List.drop_eq_nil_of_le (Nat.le_of_eq Array.length_toList)]
      exact Nat.le_refl _
/-- 'throw new E()': new; dup; invokespecial; athrow -/
theorem vx_throw0 {cc : ByteArray} {pc : Nat} (hexec : p.tables.exec = Jvm.exec) (hb : c.code = cc) (hl : l.stackTraces = false) {own cls : String} {names : List String} {ik ic mc ms : Nat} {A : Nat → Prop}
    (hown : s.vm.findClass own = some m.cls) (hcls : Bundle.fit cls = true) (hnames : ∀ n ∈ names, Bundle.fit n = true)
    (hk : (Cond.classLink own ik cls).before args s = true) (hini : (Cond.initialized cls).before args s = true) (hat : ∀ w ∈ vx_at0 own ic cls names, w.before args s = true)
    (hgood : ∀ w ∈ Cond.classLink own ik cls :: Cond.initialized cls :: vx_at0 own ic cls names, vx_ot w = true)
    (hU : vx_Zq Bundle.tN "UNASSIGNED_STACK" Bundle.steD A s s.heap) (hN : vx_Zq Bundle.tN "SUPPRESSED_SENTINEL" Bundle.listD A s s.heap) (hS : va_S A s.heap H locs) (hsize : ls.size = c.maxLocals)
    (d0 : decode cc pc = .ok (.new ik, 3)) (d3 : decode cc (pc + 3) = .ok (.dup, 1)) (d4 : decode cc (pc + 4) = .ok (.invokespecial ic, 3)) (d7 : decode cc (pc + 7) = .ok (.athrow, 1))
    (hout : ∀ x ∈ c.exceptionTable.toList, covers x (pc + 7) = false)
    (hRframes : names.length + 3 < R.frames) (hRlocals : (rest.map fun v => v.category).sum + (13 * (names.length + 1) + 42) ≤ R.locals) (hRcells : cells + 1 ≤ R.cells) (hRslots : slots + 6 ≤ R.slots) (hlocks : meth.locks = false)
    (hx : ∀ t : State, s.vm.Alike t.vm → H.size ≤ t.heap.size → (∀ q : Nat, q < H.size → t.heap[q]? = H[q]?) → XC cls s t)
    (hf : ∀ z ∈ locs, free z.base) (hc : cells + 1 ≤ mc) (hs : slots + 6 ≤ ms) :
    W p l e R s m args below meth c H locs cells slots (vx_MQ below Qc XC args s mc ms free) (F0 m pc ls rest) := by
  intro T hT X
  have htr : e.platform.stackTraces = false := (show e.platform.stackTraces = l.stackTraces by rw [X.admits.platform]).trans hl
  have Y := vx_rebase X (R' := { frames := R.frames, locals := R.locals, cells := 1, slots := 6 }) (Nat.le_refl _) (Nat.le_refl _) hRcells hRslots
  obtain ⟨s', hA⟩ : ∃ z, z = (T.setVm s.vm).setFrames (.invoking m args :: below) := ⟨_, rfl⟩
  rw [← hA] at Y
  have hvm : s'.vm = s.vm := by rw [hA]; rfl
  have hhp : s'.heap = H := by rw [hA]; exact hT
  have hW0 : s.WarmedH s'.vm := by rw [hvm]; exact State.WarmedH.refl s
  have hat' : ∀ w ∈ vx_at0 own ic cls names, w.before args s' = true := fun w hw => vx_ot_at hW0 hvm.symm (hgood w (List.mem_cons_of_mem _ (List.mem_cons_of_mem _ hw))) (hat w hw)
  have hk' : (Cond.classLink own ik cls).before args s' = true := vx_ot_at hW0 hvm.symm (hgood _ List.mem_cons_self) hk
  have hini' : (Cond.initialized cls).before args s' = true := vx_ot_at hW0 hvm.symm (hgood _ (List.mem_cons_of_mem _ List.mem_cons_self)) hini
  have hU' : vx_Zq Bundle.tN "UNASSIGNED_STACK" Bundle.steD A s' s'.heap := by rw [hhp]; exact vx_Zq.moved hW0.alike (hU.kept hS.2.1)
  have hN' : vx_Zq Bundle.tN "SUPPRESSED_SENTINEL" Bundle.listD A s' s'.heap := by rw [hhp]; exact vx_Zq.moved hW0.alike (hN.kept hS.2.1)
  have h : ∀ w ∈ Bundle.ownAtoms0 own ic cls names, w.before args s' = true := vx_own hat' (vx_isRefq hU'.1) (vx_isRefq hN'.1) hU'.2.word hN'.2.word
  have hown' : s'.vm.findClass own = some m.cls := by rw [hvm]; exact hown
  have hins : (Cond.instantiable cls 6).before args s' = true := h _ (by simp [Bundle.ownAtoms0])
  obtain ⟨vm₁, cX, kX, hfX, hkX, -, -, X₁, st1⟩ := Y.newCold hexec (own := own) (C := cls) (index := ik) (n := 6) hown' hk' hins hini'
    (g := F0 m pc ls rest) rfl (by rw [hb]; exact d0) (Nat.le_refl _) (Nat.le_refl _)
  generalize hT1 : (T.setVm vm₁).pushCell { cls := cX, slots := kX.instanceTypes.map defaultValue, vm := .none } = T1 at X₁ st1
  have hcat : (Value.ref T.heap.size).category = 1 := rfl
  have hcellA : T1.heap[T.heap.size]? = some (freshCell cX kX) := by rw [← hT1]; exact State.heap_pushCell_size _ _
  have d3' : decode c.code (pc + 3) = .ok (.dup, 1) := by rw [hb]; exact d3
  obtain ⟨U, hsteps, hrun, hend, hW, hsame, ce, hce, hO⟩ := X₁.ctorThrow0 hexec htr (own := own) (cls := cls) (names := names) (ic := ic) hown' hcls hnames h (fun x hx => nomatch hx) hfX hkX hcellA (by rw [hhp, hT]; exact Nat.le_refl _)
    (g := { method := m, pc := pc + 4, locals := ls, stack := .ref T.heap.size :: .ref T.heap.size :: rest, locked := none }) rfl hsize rfl rfl (rest := rest) rfl
    (by rw [hb]; exact d4) (by rw [hb]; exact d7) hout hRframes (by simp only [List.map_cons, List.sum_cons, hcat]; omega) hlocks
  obtain ⟨f1, f2⟩ := vx_frame hsame
  rw [hhp] at f1 f2
  have hWs : s.WarmedH U.vm := State.WarmedH.trans hW0 hW
  have hcl : s.vm.findClass cls = some ce.cls := by
    have h9 := hO.cls
    rw [hvm] at h9
    exact h9
  have hall : s.sameButNew ({ U with vm := s.vm } : State) locs mc ms := by
    subst hA
    obtain ⟨e1, e2⟩ := hsame
    rw [State.setFrames_setFrames] at e1
    have h2 : (T.setVm s.vm).sameButNew ({ U with vm := s.vm } : State) [] (0 + 1) (0 + 6) := ⟨e1, e2⟩
    have h3 := X.same.trans h2
    rw [List.append_nil] at h3
    exact h3.mono hc hs
  refine ⟨U, ?_, .threw T.heap.size, hrun, hend, Or.inr ⟨T.heap.size, rfl, cls, ce, locs, hx U hWs.alike f1 (fun q hq => f2 q hq (fun z hz => nomatch hz)), hce, hO.vm, hcl, hWs, hall, hf⟩⟩
  refine st1 _ ?_
  show Steps p.tables e below (T1.setTop { method := m, pc := pc + 3, locals := ls, stack := .ref T.heap.size :: rest, locked := none }) _
  jvm_step X₁.here [X₁.here.top, hexec, d3', Value.category]
  exact hsteps
/-- 'throw new E("text")': new; dup; ldc; invokespecial; athrow -/
theorem vx_throwS {cc : ByteArray} {pc : Nat} (hexec : p.tables.exec = Jvm.exec) (hb : c.code = cc) (hl : l.stackTraces = false) {own cls text : String} {names : List String} {ik is ic mc ms sa : Nat} {A : Nat → Prop}
    (hown : s.vm.findClass own = some m.cls) (hcls : Bundle.fit cls = true) (hnames : ∀ n ∈ names, Bundle.fit n = true)
    (hk : (Cond.classLink own ik cls).before args s = true) (hini : (Cond.initialized cls).before args s = true) (hstr : vk_R own is text sa s) (hat : ∀ w ∈ vx_atS own ic cls names, w.before args s = true)
    (hgood : ∀ w ∈ Cond.classLink own ik cls :: Cond.initialized cls :: vx_atS own ic cls names, vx_ot w = true)
    (hU : vx_Zq Bundle.tN "UNASSIGNED_STACK" Bundle.steD A s s.heap) (hN : vx_Zq Bundle.tN "SUPPRESSED_SENTINEL" Bundle.listD A s s.heap) (hS : va_S A s.heap H locs) (hsize : ls.size = c.maxLocals)
    (d0 : decode cc pc = .ok (.new ik, 3)) (d3 : decode cc (pc + 3) = .ok (.dup, 1)) (d4 : decode cc (pc + 4) = .ok (.ldc is, 2)) (d6 : decode cc (pc + 6) = .ok (.invokespecial ic, 3)) (d9 : decode cc (pc + 9) = .ok (.athrow, 1))
    (hout : ∀ x ∈ c.exceptionTable.toList, covers x (pc + 9) = false)
    (hRframes : names.length + 3 < R.frames) (hRlocals : (rest.map fun v => v.category).sum + (13 * (names.length + 1) + 43) ≤ R.locals) (hRcells : cells + 1 ≤ R.cells) (hRslots : slots + 6 ≤ R.slots) (hlocks : meth.locks = false)
    (hx : ∀ t : State, s.vm.Alike t.vm → H.size ≤ t.heap.size → (∀ q : Nat, q < H.size → t.heap[q]? = H[q]?) → XC cls s t)
    (hf : ∀ z ∈ locs, free z.base) (hc : cells + 1 ≤ mc) (hs : slots + 6 ≤ ms) :
    W p l e R s m args below meth c H locs cells slots (vx_MQ below Qc XC args s mc ms free) (F0 m pc ls rest) := by
  intro T hT X
  have htr : e.platform.stackTraces = false := (show e.platform.stackTraces = l.stackTraces by rw [X.admits.platform]).trans hl
  have Y := vx_rebase X (R' := { frames := R.frames, locals := R.locals, cells := 1, slots := 6 }) (Nat.le_refl _) (Nat.le_refl _) hRcells hRslots
  obtain ⟨s', hA⟩ : ∃ z, z = (T.setVm s.vm).setFrames (.invoking m args :: below) := ⟨_, rfl⟩
  rw [← hA] at Y
  have hvm : s'.vm = s.vm := by rw [hA]; rfl
  have hhp : s'.heap = H := by rw [hA]; exact hT
  have hW0 : s.WarmedH s'.vm := by rw [hvm]; exact State.WarmedH.refl s
  have hat' : ∀ w ∈ vx_atS own ic cls names, w.before args s' = true := fun w hw => vx_ot_at hW0 hvm.symm (hgood w (List.mem_cons_of_mem _ (List.mem_cons_of_mem _ hw))) (hat w hw)
  have hk' : (Cond.classLink own ik cls).before args s' = true := vx_ot_at hW0 hvm.symm (hgood _ List.mem_cons_self) hk
  have hini' : (Cond.initialized cls).before args s' = true := vx_ot_at hW0 hvm.symm (hgood _ (List.mem_cons_of_mem _ List.mem_cons_self)) hini
  have hU' : vx_Zq Bundle.tN "UNASSIGNED_STACK" Bundle.steD A s' s'.heap := by rw [hhp]; exact vx_Zq.moved hW0.alike (hU.kept hS.2.1)
  have hN' : vx_Zq Bundle.tN "SUPPRESSED_SENTINEL" Bundle.listD A s' s'.heap := by rw [hhp]; exact vx_Zq.moved hW0.alike (hN.kept hS.2.1)
  have h : ∀ w ∈ Bundle.ownAtoms own ic cls names, w.before args s' = true := vx_own hat' (vx_isRefq hU'.1) (vx_isRefq hN'.1) hU'.2.word hN'.2.word
  have hown' : s'.vm.findClass own = some m.cls := by rw [hvm]; exact hown
  have hins : (Cond.instantiable cls 6).before args s' = true := h _ (by simp [Bundle.ownAtoms])
  obtain ⟨vm₁, cX, kX, hfX, hkX, -, -, X₁, st1⟩ := Y.newCold hexec (own := own) (C := cls) (index := ik) (n := 6) hown' hk' hins hini'
    (g := F0 m pc ls rest) rfl (by rw [hb]; exact d0) (Nat.le_refl _) (Nat.le_refl _)
  generalize hT1 : (T.setVm vm₁).pushCell { cls := cX, slots := kX.instanceTypes.map defaultValue, vm := .none } = T1 at X₁ st1
  have hcat : (Value.ref T.heap.size).category = 1 := rfl
  have hcellA : T1.heap[T.heap.size]? = some (freshCell cX kX) := by rw [← hT1]; exact State.heap_pushCell_size _ _
  have d3' : decode c.code (pc + 3) = .ok (.dup, 1) := by rw [hb]; exact d3
  have d4' : decode c.code (pc + 4) = .ok (.ldc is, 2) := by rw [hb]; exact d4
  have hstr' : vk_R own is text sa s' := vk_R.warm hW0 hstr
  obtain ⟨U, hsteps, hrun, hend, hW, hsame, ce, hce, hO⟩ := X₁.ctorThrowS hexec htr (own := own) (cls := cls) (names := names) (ic := ic) hown' hcls hnames h (fun x hx => nomatch hx) hfX hkX hcellA (by rw [hhp, hT]; exact Nat.le_refl _) (msg := .ref sa) rfl
    (g := { method := m, pc := pc + 6, locals := ls, stack := .ref sa :: .ref T.heap.size :: .ref T.heap.size :: rest, locked := none }) rfl hsize rfl rfl (rest := rest) rfl
    (by rw [hb]; exact d6) (by rw [hb]; exact d9) hout hRframes (by simp only [List.map_cons, List.sum_cons, hcat]; omega) hlocks
  obtain ⟨f1, f2⟩ := vx_frame hsame
  rw [hhp] at f1 f2
  have hWs : s.WarmedH U.vm := State.WarmedH.trans hW0 hW
  have hcl : s.vm.findClass cls = some ce.cls := by
    have h9 := hO.cls
    rw [hvm] at h9
    exact h9
  have hall : s.sameButNew ({ U with vm := s.vm } : State) locs mc ms := by
    subst hA
    obtain ⟨e1, e2⟩ := hsame
    rw [State.setFrames_setFrames] at e1
    have h2 : (T.setVm s.vm).sameButNew ({ U with vm := s.vm } : State) [] (0 + 1) (0 + 6) := ⟨e1, e2⟩
    have h3 := X.same.trans h2
    rw [List.append_nil] at h3
    exact h3.mono hc hs
  refine ⟨U, ?_, .threw T.heap.size, hrun, hend, Or.inr ⟨T.heap.size, rfl, cls, ce, locs, hx U hWs.alike f1 (fun q hq => f2 q hq (fun z hz => nomatch hz)), hce, hO.vm, hcl, hWs, hall, hf⟩⟩
  refine st1 _ ?_
  show Steps p.tables e below (T1.setTop { method := m, pc := pc + 3, locals := ls, stack := .ref T.heap.size :: rest, locked := none }) _
  jvm_step X₁.here [X₁.here.top, hexec, d3', Value.category]
  exact X₁.ldcString hexec (own := own) (text := text) (index := is) (a := sa) hown' hstr'.1 hstr'.2
    (g := { method := m, pc := pc + 4, locals := ls, stack := .ref T.heap.size :: .ref T.heap.size :: rest, locked := none }) rfl d4' _ hsteps
/-- 'throw new E("text")', the text by a wide index -/
theorem vx_throwSW {cc : ByteArray} {pc : Nat} (hexec : p.tables.exec = Jvm.exec) (hb : c.code = cc) (hl : l.stackTraces = false) {own cls text : String} {names : List String} {ik is ic mc ms sa : Nat} {A : Nat → Prop}
    (hown : s.vm.findClass own = some m.cls) (hcls : Bundle.fit cls = true) (hnames : ∀ n ∈ names, Bundle.fit n = true)
    (hk : (Cond.classLink own ik cls).before args s = true) (hini : (Cond.initialized cls).before args s = true) (hstr : vk_R own is text sa s) (hat : ∀ w ∈ vx_atS own ic cls names, w.before args s = true)
    (hgood : ∀ w ∈ Cond.classLink own ik cls :: Cond.initialized cls :: vx_atS own ic cls names, vx_ot w = true)
    (hU : vx_Zq Bundle.tN "UNASSIGNED_STACK" Bundle.steD A s s.heap) (hN : vx_Zq Bundle.tN "SUPPRESSED_SENTINEL" Bundle.listD A s s.heap) (hS : va_S A s.heap H locs) (hsize : ls.size = c.maxLocals)
    (d0 : decode cc pc = .ok (.new ik, 3)) (d3 : decode cc (pc + 3) = .ok (.dup, 1)) (d4 : decode cc (pc + 4) = .ok (.ldc_w is, 3)) (d7 : decode cc (pc + 7) = .ok (.invokespecial ic, 3)) (d10 : decode cc (pc + 10) = .ok (.athrow, 1))
    (hout : ∀ x ∈ c.exceptionTable.toList, covers x (pc + 10) = false)
    (hRframes : names.length + 3 < R.frames) (hRlocals : (rest.map fun v => v.category).sum + (13 * (names.length + 1) + 43) ≤ R.locals) (hRcells : cells + 1 ≤ R.cells) (hRslots : slots + 6 ≤ R.slots) (hlocks : meth.locks = false)
    (hx : ∀ t : State, s.vm.Alike t.vm → H.size ≤ t.heap.size → (∀ q : Nat, q < H.size → t.heap[q]? = H[q]?) → XC cls s t)
    (hf : ∀ z ∈ locs, free z.base) (hc : cells + 1 ≤ mc) (hs : slots + 6 ≤ ms) :
    W p l e R s m args below meth c H locs cells slots (vx_MQ below Qc XC args s mc ms free) (F0 m pc ls rest) := by
  intro T hT X
  have htr : e.platform.stackTraces = false := (show e.platform.stackTraces = l.stackTraces by rw [X.admits.platform]).trans hl
  have Y := vx_rebase X (R' := { frames := R.frames, locals := R.locals, cells := 1, slots := 6 }) (Nat.le_refl _) (Nat.le_refl _) hRcells hRslots
  obtain ⟨s', hA⟩ : ∃ z, z = (T.setVm s.vm).setFrames (.invoking m args :: below) := ⟨_, rfl⟩
  rw [← hA] at Y
  have hvm : s'.vm = s.vm := by rw [hA]; rfl
  have hhp : s'.heap = H := by rw [hA]; exact hT
  have hW0 : s.WarmedH s'.vm := by rw [hvm]; exact State.WarmedH.refl s
  have hat' : ∀ w ∈ vx_atS own ic cls names, w.before args s' = true := fun w hw => vx_ot_at hW0 hvm.symm (hgood w (List.mem_cons_of_mem _ (List.mem_cons_of_mem _ hw))) (hat w hw)
  have hk' : (Cond.classLink own ik cls).before args s' = true := vx_ot_at hW0 hvm.symm (hgood _ List.mem_cons_self) hk
  have hini' : (Cond.initialized cls).before args s' = true := vx_ot_at hW0 hvm.symm (hgood _ (List.mem_cons_of_mem _ List.mem_cons_self)) hini
  have hU' : vx_Zq Bundle.tN "UNASSIGNED_STACK" Bundle.steD A s' s'.heap := by rw [hhp]; exact vx_Zq.moved hW0.alike (hU.kept hS.2.1)
  have hN' : vx_Zq Bundle.tN "SUPPRESSED_SENTINEL" Bundle.listD A s' s'.heap := by rw [hhp]; exact vx_Zq.moved hW0.alike (hN.kept hS.2.1)
  have h : ∀ w ∈ Bundle.ownAtoms own ic cls names, w.before args s' = true := vx_own hat' (vx_isRefq hU'.1) (vx_isRefq hN'.1) hU'.2.word hN'.2.word
  have hown' : s'.vm.findClass own = some m.cls := by rw [hvm]; exact hown
  have hins : (Cond.instantiable cls 6).before args s' = true := h _ (by simp [Bundle.ownAtoms])
  obtain ⟨vm₁, cX, kX, hfX, hkX, -, -, X₁, st1⟩ := Y.newCold hexec (own := own) (C := cls) (index := ik) (n := 6) hown' hk' hins hini'
    (g := F0 m pc ls rest) rfl (by rw [hb]; exact d0) (Nat.le_refl _) (Nat.le_refl _)
  generalize hT1 : (T.setVm vm₁).pushCell { cls := cX, slots := kX.instanceTypes.map defaultValue, vm := .none } = T1 at X₁ st1
  have hcat : (Value.ref T.heap.size).category = 1 := rfl
  have hcellA : T1.heap[T.heap.size]? = some (freshCell cX kX) := by rw [← hT1]; exact State.heap_pushCell_size _ _
  have d3' : decode c.code (pc + 3) = .ok (.dup, 1) := by rw [hb]; exact d3
  have d4' : decode c.code (pc + 4) = .ok (.ldc_w is, 3) := by rw [hb]; exact d4
  have hstr' : vk_R own is text sa s' := vk_R.warm hW0 hstr
  obtain ⟨U, hsteps, hrun, hend, hW, hsame, ce, hce, hO⟩ := X₁.ctorThrowS hexec htr (own := own) (cls := cls) (names := names) (ic := ic) hown' hcls hnames h (fun x hx => nomatch hx) hfX hkX hcellA (by rw [hhp, hT]; exact Nat.le_refl _) (msg := .ref sa) rfl
    (g := { method := m, pc := pc + 7, locals := ls, stack := .ref sa :: .ref T.heap.size :: .ref T.heap.size :: rest, locked := none }) rfl hsize rfl rfl (rest := rest) rfl
    (by rw [hb]; exact d7) (by rw [hb]; exact d10) hout hRframes (by simp only [List.map_cons, List.sum_cons, hcat]; omega) hlocks
  obtain ⟨f1, f2⟩ := vx_frame hsame
  rw [hhp] at f1 f2
  have hWs : s.WarmedH U.vm := State.WarmedH.trans hW0 hW
  have hcl : s.vm.findClass cls = some ce.cls := by
    have h9 := hO.cls
    rw [hvm] at h9
    exact h9
  have hall : s.sameButNew ({ U with vm := s.vm } : State) locs mc ms := by
    subst hA
    obtain ⟨e1, e2⟩ := hsame
    rw [State.setFrames_setFrames] at e1
    have h2 : (T.setVm s.vm).sameButNew ({ U with vm := s.vm } : State) [] (0 + 1) (0 + 6) := ⟨e1, e2⟩
    have h3 := X.same.trans h2
    rw [List.append_nil] at h3
    exact h3.mono hc hs
  refine ⟨U, ?_, .threw T.heap.size, hrun, hend, Or.inr ⟨T.heap.size, rfl, cls, ce, locs, hx U hWs.alike f1 (fun q hq => f2 q hq (fun z hz => nomatch hz)), hce, hO.vm, hcl, hWs, hall, hf⟩⟩
  refine st1 _ ?_
  show Steps p.tables e below (T1.setTop { method := m, pc := pc + 3, locals := ls, stack := .ref T.heap.size :: rest, locked := none }) _
  jvm_step X₁.here [X₁.here.top, hexec, d3', Value.category]
  exact X₁.ldcStringW hexec (own := own) (text := text) (index := is) (a := sa) hown' hstr'.1 hstr'.2
    (g := { method := m, pc := pc + 4, locals := ls, stack := .ref T.heap.size :: .ref T.heap.size :: rest, locked := none }) rfl d4' _ hsteps
end Ends
section Bodies
variable {l : Launch}
theorem vx_ofW {y : MethodName} {ws ws' : List Cond} {rm : Room} {Pc : Array Value → State → Prop} {Qc : Array Value → State → Outcome → State → Prop} {XC : String → State → State → Prop} {mc ms : Nat} {free : Addr → Prop} {cc : ByteArray} {maxL : Nat} {ret : Option FieldType}
    (hy : plainName y.cls = true) (hw : ws = Cond.code y cc maxL ret :: ws')
    (body : ∀ p e s m args below meth c s₁, BodyLoose p l y (headSpec ws rm) cc maxL ret e s m args below meth c s₁ → c.maxLocals = maxL → (∀ x ∈ c.exceptionTable.toList, False) → Pc args s →
      W p l e (headSpec ws rm).room s m args below meth c s.heap [] 0 0 (vx_MQ below Qc XC args s mc ms free) (entryFrame m args maxL)) : vx_Met l y ws rm Pc Qc XC mc ms free := by
  refine MetFree.of_bodyS (code := cc) (maxLocals := maxL) (ret := ret) hy ?_ ?_
  · intro args s m h hn
    obtain ⟨meth, c, h1, h2, h3, h4, h5, h6, -, -⟩ := Cond.code_spec hn (atoms_spec (ws := ws) h _ (by rw [hw]; exact List.mem_cons_self))
    exact ⟨meth, c, h1, h2, h3, h4, h5, h6⟩
  · intro p e s m args below meth c s₁ B hml hP _
    have hh0 : s₁.heap = s.heap := by rw [B.state]; rfl
    have ht : ∀ x ∈ c.exceptionTable.toList, False := by
      obtain ⟨meth9, c9, h1, h2, -, -, -, -, h7, -⟩ := Cond.code_spec B.named (atoms_spec (ws := ws) B.pre _ (by rw [hw]; exact List.mem_cons_self))
      cases Option.some.inj (h1.symm.trans B.method)
      cases Option.some.inj (h2.symm.trans (Stand.of_body B).code)
      intro x hx
      rw [Array.isEmpty_iff.mp h7] at hx
      cases hx
    obtain ⟨t, a1, o, b1, b2, b3⟩ := body p e s m args below meth c s₁ B hml ht hP s₁ hh0 (Stand.of_body B)
    exact ⟨t, o, a1, b1, b2, b3⟩
/-- the table of a body with handlers -/
theorem vx_table {p : Program} {x y : MethodName} {S : Spec} {cc bytes : ByteArray} {maxL maxL' : Nat} {ret ret' : Option FieldType} {e : Env} {s s₁ : State} {m : MethodId} {args : Array Value} {below : List Frame} {meth : Method} {c : Code} {hh : List (Nat × Nat × Nat × Nat)}
    (B : BodyLoose p l y S cc maxL ret e s m args below meth c s₁) (h : (Cond.codeWith y bytes maxL' ret' hh).before args s = true) : c.exceptionTable.toList = tableOf hh := by
  obtain ⟨m9, meth9, c9, hn9, h1, h2, -, -, h6, -⟩ := Cond.codeWith_spec h
  cases Option.some.inj (hn9.symm.trans B.named)
  cases Option.some.inj (h1.symm.trans B.method)
  cases Option.some.inj (h2.symm.trans (Stand.of_body B).code)
  rw [← h6, table_eq]
end Bodies
end VXA
/-! ===== END ===== -/
/-! ===== BEGIN a static call of a method with an exception table ===== -/
section VXS
variable {p : Program} {l : Launch} {e : Env} {R : Room} {s : State} {m : MethodId} {args : Array Value} {below : List Frame} {meth : Method} {c : Code} {T : State} {H : Heap} {locs : List Loc} {cells slots : Nat}
abbrev vx_CSW (R : Room) (s : State) (args : Array Value) (own : String) (index : Nat) (y : MethodName) (bytes : ByteArray) (maxL : Nat) (ret : Option FieldType) (hh : List (Nat × Nat × Nat × Nat)) (ws : List Cond) (rm : Room) (mc ms n : Nat) : Prop :=
  (rm.cells = mc ∧ rm.slots = ms ∧ rm.frames + 1 ≤ R.frames ∧ 8 + (maxL + 11) + rm.locals ≤ R.locals ∧ (∀ w ∈ ws, ∀ (a' : Array Value) (U : State), s.WarmedH U.vm → w.before a' U = true) ∧ Cond.codeWith y bytes maxL ret hh ∈ ws) ∧
  (Cond.codeWith y bytes maxL ret hh).before args s = true ∧ (Cond.initialized y.cls).before args s = true ∧ (y.cls ≠ "java/lang/invoke/MethodHandle" ∧ y.cls ≠ "java/lang/invoke/VarHandle") ∧
  (∀ sig, parseMethodDescriptor y.desc = some sig → n = sig.parameters.length) ∧ (Cond.methodLink own index y).before args s = true ∧ (Cond.static y).before args s = true
theorem vx_cwSW {own : String} {index maxL mc ms : Nat} {y : MethodName} {bytes : ByteArray} {ret : Option FieldType} {hh : List (Nat × Nat × Nat × Nat)} {Ts ws ws' : List Cond} {rm : Room} (n : Nat) (ht : ∀ w ∈ Ts, w.before args s = true) (hT : GoodIn Ts (va_wsS own index y ws)) (hw : ws = Cond.codeWith y bytes maxL ret hh :: ws') (hrc : rm.cells = mc) (hrs : rm.slots = ms)
    (hd : y.cls ≠ "java/lang/invoke/MethodHandle" ∧ y.cls ≠ "java/lang/invoke/VarHandle" ∧ (parseMethodDescriptor y.desc).map (fun d => d.parameters.length) = some n) (hR : rm.frames + 1 ≤ R.frames ∧ 8 + (maxL + 11) + rm.locals ≤ R.locals) :
    vx_CSW R s args own index y bytes maxL ret hh ws rm mc ms n := by
  have ok : ∀ w ∈ va_wsS own index y ws, w.before args s = true := fun w h => ht w (hT w h).1
  have hG : GoodIn Ts ws := fun w h => hT w (by unfold va_wsS; exact List.mem_append_right _ h)
  have hc : Cond.codeWith y bytes maxL ret hh ∈ ws := by rw [hw]; exact List.mem_cons_self
  refine ⟨⟨hrc, hrs, hR.1, hR.2, pay_in ht hG, hc⟩, ht _ (hG _ hc).1, ok _ (by simp [va_wsS]), ⟨hd.1, hd.2.1⟩, fun sig h => ?_, ok _ (by simp [va_wsS]), ok _ (by simp [va_wsS])⟩
  have h2 := hd.2.2
  rw [h] at h2
  exact (Option.some.inj h2).symm
theorem vx_callSW (X : Stand p l e R s m args below meth c T locs cells slots) (hexec : p.tables.exec = Jvm.exec) {own : String} {index : Nat} {y : MethodName} {bytes : ByteArray} {maxL : Nat} {ret : Option FieldType} {hh : List (Nat × Nat × Nat × Nat)}
    (hown : s.vm.findClass own = some m.cls) (hlink : (Cond.methodLink own index y).before args s = true) (hstat : (Cond.static y).before args s = true) (hinit : (Cond.initialized y.cls).before args s = true)
    (hcode : (Cond.codeWith y bytes maxL ret hh).before args s = true) (hy : y.cls ≠ "java/lang/invoke/MethodHandle" ∧ y.cls ≠ "java/lang/invoke/VarHandle")
    {W9 : Nat} {Pre : Pt → Array Value → Prop} {Post : Pt → Array Value → Option Value → Pt → Prop} (hK : Back l R p e below s args y 3 W9 Pre Post)
    {g : JFrame} (hg : g.method = m) (hsize : g.locals.size = c.maxLocals) {argsL rest : List Value} (hlen : ∀ sig, parseMethodDescriptor y.desc = some sig → argsL.length = sig.parameters.length)
    (hstack : g.stack = argsL.reverse ++ rest) (hW : 2 * g.monitorRoom + (rest.map fun v => v.category).sum ≤ W9) (hdg : decode c.code g.pc = .ok (.invokestatic index, 3))
    (hpre : ∀ vm₁, s.WarmedH vm₁ → Pre ⟨T.setVm vm₁, locs, cells, slots⟩ argsL.toArray) :
    ∃ (v : Option Value) (vm₁ : Vm) (B : Pt), s.WarmedH vm₁ ∧ Stand p l e R s m args below meth c B.U B.locs B.cells B.slots ∧ Post ⟨T.setVm vm₁, locs, cells, slots⟩ argsL.toArray v B ∧
      ∀ target, Steps p.tables e below (B.U.setTop { g with pc := g.pc + 3, stack := v.toList ++ rest }) target → Steps p.tables e below (T.setTop g) target := by
  obtain ⟨mk, methM, cM, hnamed, hmethM, -, -, -, -, -, -, hsigM⟩ := Cond.codeWith_spec hcode
  have hstatic : methM.isStatic = true := Cond.static_spec hnamed hmethM hstat
  obtain ⟨kP, hkP, -⟩ := className_of_methodNamed hnamed
  have hinitP : kP.init = .initialized := Cond.initialized_spec (findClass_of_methodNamed hnamed) hkP hinit
  obtain ⟨vm₁, X₁, hstep₁⟩ := X.invokestatic hexec hown hlink hnamed hmethM hstatic hkP hinitP hy (g := g) hg (argsL := argsL) (rest := rest) (hlen _ hsigM) hstack hdg
  obtain ⟨v, B, X', hpost, hsteps⟩ := hK m meth c ⟨T.setVm vm₁, locs, cells, slots⟩ { g with stack := rest } (.invokestatic index) mk argsL.toArray X₁ hg hsize hdg hW (X₁.named hnamed) (hpre vm₁ X₁.warmed)
  exact ⟨v, vm₁, B, X₁.warmed, X', hpost, fun target h => hstep₁ _ fun acts => by rw [doInvoke_state]; exact hsteps.trans h⟩
theorem vx_runSW {y : MethodName} {bytes cc : ByteArray} {maxL nL mc ms n index : Nat} {ret : Option FieldType} {hh : List (Nat × Nat × Nat × Nat)} {ws : List Cond} {rm : Room} {Pc : Array Value → State → Prop} {Qc : Array Value → State → Outcome → State → Prop} {free : Addr → Prop} {Ts : List Cond} {own : String} {As rest : List Value} {g : JFrame}
    (S : CallFix p m c cc nL s args Ts own) (hM : Met l y ws rm Pc Qc mc ms free) (cw : vx_CSW R s args own index y bytes maxL ret hh ws rm mc ms n) (hp : PreS s H Pc As)
    (hg : g.method = m) (hn : As.length = n) (hsize : g.locals.size = nL) (hstack : g.stack = As.reverse ++ rest) (hW : 2 * g.monitorRoom + (rest.map fun v => v.category).sum ≤ 8) (hdg : decode cc g.pc = .ok (.invokestatic index, 3)) (hf : cells + mc ≤ R.cells ∧ slots + ms ≤ R.slots) :
    va_Run p l e R s m args below meth c H locs cells slots mc ms g rest (Qc As.toArray) (free) := by
  obtain ⟨⟨hrc, hrs, hfr, hlo, hws, hcw⟩, hcode, hini, hy, hlen, hl, hstt⟩ := cw
  have hK : Back l R p e below s args y 3 8 (PreOf R mc ms Pc) (PostOf Qc mc ms free) := va_backW (hh := hh) (bytes := bytes) (maxL := maxL) (ret := ret) hM hp.1 hrc hrs hfr hlo hws hcw (fun a' U hW => word_at hW (Or.inl (by first | rfl | simp [Cond.onTables, Cond.keeps, Cond.steady])) hini)
  obtain ⟨hx, hb, hml, ho, -⟩ := S
  intro T hT X
  obtain ⟨v, vm₁, ⟨U', l2, c2, s2⟩, hW₁, X', ⟨g', mk, t, L, e1, e2, hq, h1, hL, h2, h3⟩, st⟩ := vx_callSW X hx (hh := hh) (bytes := bytes) (maxL := maxL) (ret := ret) ho hl hstt hini hcode hy hK hg (hsize.trans hml.symm) (argsL := As) (rest := rest) (fun sig h => hn.trans (hlen sig h)) hstack hW (by rw [hb]; exact hdg)
    (fun vm₁ hW₁ => ⟨hf.1, hf.2, hp.2 (T.setVm vm₁) hT hW₁⟩)
  dsimp only [Pt.U, Pt.locs, Pt.cells, Pt.slots] at X' e1 e2 h1 h2 h3 st
  subst h1; subst h2; subst h3
  exact ⟨v, (T.setVm vm₁).calling g' mk As.toArray, t, U', L, hT, X', hL, e1, e2, hq, st⟩
/-- not caught here, past rows that name other classes: it goes on to the caller -/
theorem vx_outP {p : Program} {l : Launch} {e : Env} {R : Room} {s : State} {m : MethodId} {args : Array Value} {below : List Frame} {meth : Method} {c : Code} {H : Heap} {locs : List Loc} {cells slots : Nat} {free : Addr → Prop} {ls : Array Slot} {rest : List Value} {Qc : Array Value → State → Outcome → State → Prop} {XC : String → State → State → Prop}
    {pc : Nat} {own E : String} {ce : Cell} {q : Addr} {mc ms : Nat} (hown : s.vm.findClass own = some m.cls) (hlocks : meth.locks = false)
    (hpass : ∀ z ∈ c.exceptionTable.toList, covers z pc = false ∨ (z.catchType ≠ 0 ∧ ∃ nm : String, (Cond.classLink own z.catchType nm).before args s = true ∧ va_Nc E nm s)) (hcell : H[q]? = some ce) (hv : ce.vm = .none) (hcl : s.vm.findClass E = some ce.cls)
    (hx : ∀ t : State, t.heap = H → s.vm.Alike t.vm → XC E s t) (hf : ∀ z ∈ locs, free z.base) (hc : cells ≤ mc) (hs : slots ≤ ms) :
    vx_W p l e R s m args below meth c H locs cells slots (vx_MQ below Qc XC args s mc ms free) (F0 m pc ls rest) q := by
  intro T hT X
  have hpl : e.platform.magicAccessors = ({} : Platform).magicAccessors := by rw [X.admits.platform]
  obtain ⟨vm', hW', X', st⟩ := X.outThrough hlocks q (g := F0 m pc ls rest) rfl rfl rfl (cell := ce) (by rw [hT]; exact hcell) (by rw [hv]; rfl)
    (by obtain ⟨k9, h9, -⟩ := Vm.findClass_spec hcl; exact ⟨k9, h9⟩) (fun z hz => by
      rcases hpass z hz with h | ⟨hz0, nm, hl1, hn1⟩
      · exact Or.inl h
      · obtain ⟨c6, hc6, hcl6⟩ := Cond.classLink_spec hown hl1 e.platform hpl
        obtain ⟨a8, b8, h1, h2, h3⟩ := hn1
        cases Option.some.inj (h1.symm.trans hcl)
        cases Option.some.inj (h2.symm.trans hc6)
        exact Or.inr ⟨hz0, _, hcl6, h3⟩)
  obtain ⟨g₀, hfr⟩ := X'.frames_eq
  have hcell9 : ((T.setVm vm').setFrames (.throwing q :: below)).heap[q]? = some ce := by
    show T.heap[q]? = some ce
    rw [hT]; exact hcell
  have hend : Ended ((T.setVm vm').setFrames (.throwing q :: below)) below (.threw q) := State.frames_setFrames _ (State.cur_lt_of_frames hfr)
  refine ⟨(T.setVm vm').setFrames (.throwing q :: below), ?_, .threw q, X'.here.running, hend, Or.inr ⟨q, rfl, E, ce, locs, hx _ hT (X'.ends _).1.alike, hcell9, hv, hcl, (X'.ends _).1, (X'.ends _).2.mono hc hs, hf⟩⟩
  rw [X.pushThrowing_eq]
  exact st
/-- a thing of a world lies in the heap -/
theorem vx_lt {D : va_G} {cl : List vw_C} {ws : va_W} {H1 : Heap} (h : va_P D cl ws H1) {k : Nat} {q : Nat × va_E} (hk : ws[k]? = some q) : q.1 < H1.size := (h k q hk).lt
end VXS
/-! ===== END ===== -/
/-! ===== BEGIN methods with a table of their own: called by a name, returning or throwing ===== -/
section VXH
/-! vx_backW, vx_callVX, vx_callSX, vx_callVW, vx_runVW, vx_runVX, vx_runSX, vx_ofWH follow the same proofs as their sisters above (Free/Laws.lean, Shelf42/LK1.lean); vx_outP calls Shelf42/NT130.lean (outThrough). -/
section
variable {l : Launch} {R : Room} {p : Program} {e : Env} {below : List Frame} {s : State} {sargs : Array Value} {y : MethodName} {len W9 : Nat}
theorem vx_backW {ws : List Cond} {rm : Room} {Pc : Array Value → State → Prop} {Qc : Array Value → State → Outcome → State → Prop} {XC : String → State → State → Prop} {mc ms : Nat} {free : Addr → Prop} {bytes : ByteArray} {maxL : Nat} {ret : Option FieldType} {hh : List (Nat × Nat × Nat × Nat)}
    (hM : vx_Met l y ws rm Pc Qc XC mc ms free) (hblind : FrameBlind Pc) (hrc : rm.cells = mc) (hrs : rm.slots = ms)
    (hframes : rm.frames + 1 ≤ R.frames) (hlocals : W9 + (maxL + 11) + rm.locals ≤ R.locals)
    (hws : ∀ w ∈ ws, ∀ a' U, s.WarmedH U.vm → w.before a' U = true) (hcode : Cond.codeWith y bytes maxL ret hh ∈ ws) (hinit : ∀ a' U, s.WarmedH U.vm → (Cond.initialized y.cls).before a' U = true) :
    vx_Back l R p e below s sargs y len W9 (PreOf R mc ms Pc) (PostOf Qc mc ms free) (vx_Post XC mc ms free) := by
  intro m meth c A g ig mk a X hg hsize hdg hW hn hp
  have h1 : (headSpec ws rm).pre.before a A.U = true := atoms_intro fun w hw => hws w hw _ _ X.warmed
  have h2 : (Cond.codeWith y bytes maxL ret hh).before a A.U = true := hws _ hcode _ _ X.warmed
  have h3 : (Cond.initialized y.cls).before a A.U = true := hinit _ _ X.warmed
  have h4 : A.cells + (headSpec ws rm).room.cells ≤ R.cells := by rw [show (headSpec ws rm).room.cells = mc from hrc]; exact hp.1
  have h5 : A.slots + (headSpec ws rm).room.slots ≤ R.slots := by rw [show (headSpec ws rm).room.slots = ms from hrs]; exact hp.2.1
  have hPc : Pc a (A.U.calling g mk a) := hblind _ _ _ _ hp.2.2
  obtain ⟨U, Ls, c0, s0⟩ := A
  dsimp only [Pt.U, Pt.locs, Pt.cells, Pt.slots] at h1 h2 h3 h4 h5 X hn hPc ⊢
  obtain ⟨m9, methY, cY, hn9, hmY, hcY, -, hlY, -⟩ := Cond.codeWith_spec h2
  cases Option.some.inj (hn9.symm.trans hn)
  obtain ⟨kY, hkY, -⟩ := className_of_methodNamed hn
  have hinitY : kY.init = .initialized := Cond.initialized_spec (findClass_of_methodNamed hn) hkY h3
  have h : At U g.method c below := by rw [hg]; exact X.here
  have hlocals9 : W9 + (maxL + 11) + (headSpec ws rm).room.locals ≤ R.locals := hlocals
  have happ : (headSpec ws rm).appliesLoose y e.platform (U.calling g mk a) = true :=
    Spec.appliesLoose_calling (g := g) h hdg hn hkY hinitY
      (X.room_calling (g := g) (R' := (headSpec ws rm).room) hsize hmY hcY hframes (by rw [hlY]; omega) h4 h5) h1
  obtain ⟨mid, hmid⟩ := h.above
  have hfr : (U.setTop g).frames = (.java g :: mid) ++ below := by rw [State.frames_setTop' g h.top, hmid]; rfl
  obtain ⟨o, s₂, hsteps, -, hend, hq⟩ := Steps.callFree hM p X.admits X.cas X.clock (acts := []) hfr happ hPc trivial
  have hq' : vx_Q Qc XC mc ms free a (U.calling g mk a) o s₂ := hq
  rw [State.frames_setTop' g h.top] at hend
  obtain ⟨g₀, hg0⟩ := Option.isSome_iff_exists.mp h.top
  obtain ⟨r, hr⟩ := State.topJava?_eq_some.mp hg0
  have hr' : (({ U with heap := s₂.heap, slotsUsed := s₂.slotsUsed } : State).setVm s₂.vm).frames = .java g₀ :: r := hr
  rcases hq' with ⟨hqc, L, hfe, hL⟩ | ⟨q, rfl, E, ce, L, hx, hce, hcv, hcl, hW₂, hsm, hL⟩
  · obtain ⟨⟨v, rfl⟩, hW₂, e2, q2, q3, q4, q5, q6⟩ := id hfe
    have e3 : s₂ = ({ (U.calling g mk a).setFrames s₂.frames with heap := s₂.heap, slotsUsed := s₂.slotsUsed } : State).setVm s₂.vm := by
      have : s₂ = ({ s₂ with vm := (U.calling g mk a).vm } : State).setVm s₂.vm := rfl
      rw [e2] at this
      exact this
    obtain ⟨c₂, i₂, len₂, hc₂, hd₂, hf₂⟩ := hend
    have hW' : U.WarmedH s₂.vm := hW₂
    have hcc : c₂ = c := by
      have h1 : s₂.code? g.method = U.code? g.method := by
        rw [State.code?_eq, State.code?_eq, hW'.alike.method?]
      exact Option.some.inj (hc₂.symm.trans (h1.trans h.code))
    subst hcc
    have hlen : len₂ = len := by rw [hdg] at hd₂; cases hd₂; rfl
    subst hlen
    have hs₂ : s₂ = (({ U with heap := s₂.heap, slotsUsed := s₂.slotsUsed } : State).setVm s₂.vm).setTop { g with pc := g.pc + len₂, stack := v.toList ++ g.stack } := by
      refine e3.trans ?_
      rw [hf₂, State.calling_eq h.top, State.setFrames_setFrames, State.setTop_of_frames _ hr', hr]
      rfl
    have hsame : U.sameButNew ({ U with heap := s₂.heap, slotsUsed := s₂.slotsUsed } : State) L mc ms := by
      refine ⟨?_, q2, q3, q4, q5, q6⟩
      obtain ⟨t, ht, -⟩ := State.frames_cons hr
      show ({ U with heap := s₂.heap, slotsUsed := s₂.slotsUsed } : State) = { U.setFrames U.frames with heap := s₂.heap, slotsUsed := s₂.slotsUsed }
      rw [State.setFrames_self ht]
    subst hg
    refine Or.inl ⟨v, ⟨(({ U with heap := s₂.heap, slotsUsed := s₂.slotsUsed } : State).setVm s₂.vm), Ls ++ L, c0 + mc, s0 + ms⟩,
      ⟨X.admits, X.cas, X.clock, X.frames, X.room, X.hears, X.method, X.code, (X.here.setHeapUsed s₂.heap s₂.slotsUsed).setVm hW'.alike, X.tail, State.WarmedH.trans X.warmed hW', X.limits, X.bytes, X.same.trans (hsame.setVm s.vm)⟩,
      ⟨g, mk, s₂, L, rfl, rfl, hqc, rfl, hL, rfl, rfl⟩, ?_⟩
    show Steps p.tables e below _ ((({ U with heap := s₂.heap, slotsUsed := s₂.slotsUsed } : State).setVm s₂.vm).setTop { g with pc := g.pc + len₂, stack := v.toList ++ g.stack })
    rw [← hs₂]
    exact hsteps
  · obtain ⟨e2, q2, q3, q4, q5, q6⟩ := id hsm
    have e3 : s₂ = ({ (U.calling g mk a).setFrames s₂.frames with heap := s₂.heap, slotsUsed := s₂.slotsUsed } : State).setVm s₂.vm := by
      have : s₂ = ({ s₂ with vm := (U.calling g mk a).vm } : State).setVm s₂.vm := rfl
      rw [e2] at this
      exact this
    have hf₂ : s₂.frames = .throwing q :: .java g :: U.frames.tail := hend
    have hW' : U.WarmedH s₂.vm := hW₂
    have hs₂ : s₂ = ((({ U with heap := s₂.heap, slotsUsed := s₂.slotsUsed } : State).setVm s₂.vm).setTop g).pushFrame (.throwing q) := by
      refine e3.trans ?_
      rw [hf₂, State.calling_eq h.top, State.setFrames_setFrames, State.pushFrame, State.frames_setTop _ hr', State.setTop_of_frames _ hr', State.setFrames_setFrames, hr]
      rfl
    have hsame : U.sameButNew ({ U with heap := s₂.heap, slotsUsed := s₂.slotsUsed } : State) L mc ms := by
      refine ⟨?_, q2, q3, q4, q5, q6⟩
      obtain ⟨t, ht, -⟩ := State.frames_cons hr
      show ({ U with heap := s₂.heap, slotsUsed := s₂.slotsUsed } : State) = { U.setFrames U.frames with heap := s₂.heap, slotsUsed := s₂.slotsUsed }
      rw [State.setFrames_self ht]
    subst hg
    refine Or.inr ⟨q, ⟨(({ U with heap := s₂.heap, slotsUsed := s₂.slotsUsed } : State).setVm s₂.vm), Ls ++ L, c0 + mc, s0 + ms⟩,
      ⟨X.admits, X.cas, X.clock, X.frames, X.room, X.hears, X.method, X.code, (X.here.setHeapUsed s₂.heap s₂.slotsUsed).setVm hW'.alike, X.tail, State.WarmedH.trans X.warmed hW', X.limits, X.bytes, X.same.trans (hsame.setVm s.vm)⟩,
      ⟨g, mk, s₂, L, E, ce, rfl, rfl, hx, hce, hcv, hcl, rfl, hL, rfl, rfl⟩, ?_⟩
    show Steps p.tables e below _ (((({ U with heap := s₂.heap, slotsUsed := s₂.slotsUsed } : State).setVm s₂.vm).setTop g).pushFrame (.throwing q))
    rw [← hs₂]
    exact hsteps
end
variable {p : Program} {l : Launch} {e : Env} {R : Room} {s : State} {m : MethodId} {args : Array Value} {below : List Frame} {meth : Method} {c : Code} {T : State} {H : Heap} {locs : List Loc} {cells slots : Nat}
theorem vx_callVX (X : Stand p l e R s m args below meth c T locs cells slots) (hexec : p.tables.exec = Jvm.exec) {own C : String} {index : Nat} {y : MethodName} {bytes : ByteArray} {maxL : Nat} {ret : Option FieldType} {hh : List (Nat × Nat × Nat × Nat)}
    (hown : s.vm.findClass own = some m.cls) (hlink : (Cond.methodLink own index y).before args s = true) (hinst : (Cond.instanceMethod y).before args s = true) (hsel : (Cond.selects C y y).before args s = true)
    (hcode : (Cond.codeWith y bytes maxL ret hh).before args s = true) (hy : y.cls ≠ "java/lang/invoke/MethodHandle" ∧ y.cls ≠ "java/lang/invoke/VarHandle")
    {W9 : Nat} {Pre : Pt → Array Value → Prop} {Post : Pt → Array Value → Option Value → Pt → Prop} {PostX : Pt → Array Value → Addr → Pt → Prop} (hK : vx_Back l R p e below s args y 3 W9 Pre Post PostX)
    {b : Addr} {cellB : Cell} (hcell : T.heap[b]? = some cellB) (hobj : cellB.vm.isStatics = false) (hcls : s.vm.findClass C = some cellB.cls)
    {g : JFrame} (hg : g.method = m) (hsize : g.locals.size = c.maxLocals) {argsL rest : List Value} (hlen : ∀ sig, parseMethodDescriptor y.desc = some sig → argsL.length = sig.parameters.length)
    (hstack : g.stack = argsL.reverse ++ .ref b :: rest) (hW : 2 * g.monitorRoom + (rest.map fun v => v.category).sum ≤ W9) (hdg : decode c.code g.pc = .ok (.invokevirtual index, 3))
    (hpre : ∀ vm₁, s.WarmedH vm₁ → Pre ⟨T.setVm vm₁, locs, cells, slots⟩ (Value.ref b :: argsL).toArray) :
    (∃ (v : Option Value) (vm₁ : Vm) (B : Pt), s.WarmedH vm₁ ∧ Stand p l e R s m args below meth c B.U B.locs B.cells B.slots ∧ Post ⟨T.setVm vm₁, locs, cells, slots⟩ (Value.ref b :: argsL).toArray v B ∧
      ∀ target, Steps p.tables e below (B.U.setTop { g with pc := g.pc + 3, stack := v.toList ++ rest }) target → Steps p.tables e below (T.setTop g) target) ∨
    (∃ (q : Addr) (vm₁ : Vm) (B : Pt), s.WarmedH vm₁ ∧ Stand p l e R s m args below meth c B.U B.locs B.cells B.slots ∧ PostX ⟨T.setVm vm₁, locs, cells, slots⟩ (Value.ref b :: argsL).toArray q B ∧
      Steps p.tables e below (T.setTop g) ((B.U.setTop { g with stack := rest }).pushFrame (.throwing q))) := by
  obtain ⟨mk, methM, hnamed, hmethM, hstM, habM⟩ := Cond.instanceMethod_spec hinst
  obtain ⟨m8, methM', cM, hn8, hmethM', -, -, -, -, -, -, hsigM⟩ := Cond.codeWith_spec hcode
  cases Option.some.inj (hn8.symm.trans hnamed)
  cases hmethM.symm.trans hmethM'
  obtain ⟨c2, r2, m2, q1, q2, q3, q4, kP, hkP, hkPi⟩ := Cond.selects_spec hsel
  cases hcls.symm.trans q1
  cases (State.methodFound?_of_named hnamed hy).symm.trans q2
  cases hnamed.symm.trans q3
  have hselP : selectMethod e.platform s.vm cellB.cls mk = .method mk := by rw [Launch.admits_selectMethod X.admits]; exact q4
  obtain ⟨vm₁, X₁, hstep₁⟩ := X.invokevirtual hexec hown hlink hnamed hmethM hstM hkP hkPi hy (a := b) (cell := cellB) hcell
    (fun z h => by rw [h] at hobj; cases hobj) hselP hmethM habM hkP hkPi (g := g) hg (argsL := argsL) (rest := rest) (hlen _ hsigM) hstack hdg
  rcases hK m meth c ⟨T.setVm vm₁, locs, cells, slots⟩ { g with stack := rest } (.invokevirtual index) mk (Value.ref b :: argsL).toArray X₁ hg hsize hdg hW (X₁.named hnamed) (hpre vm₁ X₁.warmed) with ⟨v, B, X', hpost, hsteps⟩ | ⟨q, B, X', hpost, hsteps⟩
  · exact Or.inl ⟨v, vm₁, B, X₁.warmed, X', hpost, fun target h => hstep₁ _ fun acts => by rw [doInvoke_state]; exact hsteps.trans h⟩
  · exact Or.inr ⟨q, vm₁, B, X₁.warmed, X', hpost, hstep₁ _ fun acts => by rw [doInvoke_state]; exact hsteps⟩
theorem vx_callSX (X : Stand p l e R s m args below meth c T locs cells slots) (hexec : p.tables.exec = Jvm.exec) {own : String} {index : Nat} {y : MethodName} {bytes : ByteArray} {maxL : Nat} {ret : Option FieldType} {hh : List (Nat × Nat × Nat × Nat)}
    (hown : s.vm.findClass own = some m.cls) (hlink : (Cond.methodLink own index y).before args s = true) (hstat : (Cond.static y).before args s = true) (hinit : (Cond.initialized y.cls).before args s = true)
    (hcode : (Cond.codeWith y bytes maxL ret hh).before args s = true) (hy : y.cls ≠ "java/lang/invoke/MethodHandle" ∧ y.cls ≠ "java/lang/invoke/VarHandle")
    {W9 : Nat} {Pre : Pt → Array Value → Prop} {Post : Pt → Array Value → Option Value → Pt → Prop} {PostX : Pt → Array Value → Addr → Pt → Prop} (hK : vx_Back l R p e below s args y 3 W9 Pre Post PostX)
    {g : JFrame} (hg : g.method = m) (hsize : g.locals.size = c.maxLocals) {argsL rest : List Value} (hlen : ∀ sig, parseMethodDescriptor y.desc = some sig → argsL.length = sig.parameters.length)
    (hstack : g.stack = argsL.reverse ++ rest) (hW : 2 * g.monitorRoom + (rest.map fun v => v.category).sum ≤ W9) (hdg : decode c.code g.pc = .ok (.invokestatic index, 3))
    (hpre : ∀ vm₁, s.WarmedH vm₁ → Pre ⟨T.setVm vm₁, locs, cells, slots⟩ argsL.toArray) :
    (∃ (v : Option Value) (vm₁ : Vm) (B : Pt), s.WarmedH vm₁ ∧ Stand p l e R s m args below meth c B.U B.locs B.cells B.slots ∧ Post ⟨T.setVm vm₁, locs, cells, slots⟩ argsL.toArray v B ∧
      ∀ target, Steps p.tables e below (B.U.setTop { g with pc := g.pc + 3, stack := v.toList ++ rest }) target → Steps p.tables e below (T.setTop g) target) ∨
    (∃ (q : Addr) (vm₁ : Vm) (B : Pt), s.WarmedH vm₁ ∧ Stand p l e R s m args below meth c B.U B.locs B.cells B.slots ∧ PostX ⟨T.setVm vm₁, locs, cells, slots⟩ argsL.toArray q B ∧
      Steps p.tables e below (T.setTop g) ((B.U.setTop { g with stack := rest }).pushFrame (.throwing q))) := by
  obtain ⟨mk, methM, cM, hnamed, hmethM, -, -, -, -, -, -, hsigM⟩ := Cond.codeWith_spec hcode
  have hstatic : methM.isStatic = true := Cond.static_spec hnamed hmethM hstat
  obtain ⟨kP, hkP, -⟩ := className_of_methodNamed hnamed
  have hinitP : kP.init = .initialized := Cond.initialized_spec (findClass_of_methodNamed hnamed) hkP hinit
  obtain ⟨vm₁, X₁, hstep₁⟩ := X.invokestatic hexec hown hlink hnamed hmethM hstatic hkP hinitP hy (g := g) hg (argsL := argsL) (rest := rest) (hlen _ hsigM) hstack hdg
  rcases hK m meth c ⟨T.setVm vm₁, locs, cells, slots⟩ { g with stack := rest } (.invokestatic index) mk argsL.toArray X₁ hg hsize hdg hW (X₁.named hnamed) (hpre vm₁ X₁.warmed) with ⟨v, B, X', hpost, hsteps⟩ | ⟨q, B, X', hpost, hsteps⟩
  · exact Or.inl ⟨v, vm₁, B, X₁.warmed, X', hpost, fun target h => hstep₁ _ fun acts => by rw [doInvoke_state]; exact hsteps.trans h⟩
  · exact Or.inr ⟨q, vm₁, B, X₁.warmed, X', hpost, hstep₁ _ fun acts => by rw [doInvoke_state]; exact hsteps⟩
theorem vx_callVW (X : Stand p l e R s m args below meth c T locs cells slots) (hexec : p.tables.exec = Jvm.exec) {own C : String} {index : Nat} {y : MethodName} {bytes : ByteArray} {maxL : Nat} {ret : Option FieldType} {hh : List (Nat × Nat × Nat × Nat)}
    (hown : s.vm.findClass own = some m.cls) (hlink : (Cond.methodLink own index y).before args s = true) (hinst : (Cond.instanceMethod y).before args s = true) (hsel : (Cond.selects C y y).before args s = true)
    (hcode : (Cond.codeWith y bytes maxL ret hh).before args s = true) (hy : y.cls ≠ "java/lang/invoke/MethodHandle" ∧ y.cls ≠ "java/lang/invoke/VarHandle")
    {W9 : Nat} {Pre : Pt → Array Value → Prop} {Post : Pt → Array Value → Option Value → Pt → Prop} (hK : Back l R p e below s args y 3 W9 Pre Post)
    {b : Addr} {cellB : Cell} (hcell : T.heap[b]? = some cellB) (hobj : cellB.vm.isStatics = false) (hcls : s.vm.findClass C = some cellB.cls)
    {g : JFrame} (hg : g.method = m) (hsize : g.locals.size = c.maxLocals) {argsL rest : List Value} (hlen : ∀ sig, parseMethodDescriptor y.desc = some sig → argsL.length = sig.parameters.length)
    (hstack : g.stack = argsL.reverse ++ .ref b :: rest) (hW : 2 * g.monitorRoom + (rest.map fun v => v.category).sum ≤ W9) (hdg : decode c.code g.pc = .ok (.invokevirtual index, 3))
    (hpre : ∀ vm₁, s.WarmedH vm₁ → Pre ⟨T.setVm vm₁, locs, cells, slots⟩ (Value.ref b :: argsL).toArray) :
    ∃ (v : Option Value) (vm₁ : Vm) (B : Pt), s.WarmedH vm₁ ∧ Stand p l e R s m args below meth c B.U B.locs B.cells B.slots ∧ Post ⟨T.setVm vm₁, locs, cells, slots⟩ (Value.ref b :: argsL).toArray v B ∧
      ∀ target, Steps p.tables e below (B.U.setTop { g with pc := g.pc + 3, stack := v.toList ++ rest }) target → Steps p.tables e below (T.setTop g) target := by
  obtain ⟨mk, methM, hnamed, hmethM, hstM, habM⟩ := Cond.instanceMethod_spec hinst
  obtain ⟨m8, methM', cM, hn8, hmethM', -, -, -, -, -, -, hsigM⟩ := Cond.codeWith_spec hcode
  cases Option.some.inj (hn8.symm.trans hnamed)
  cases hmethM.symm.trans hmethM'
  obtain ⟨c2, r2, m2, q1, q2, q3, q4, kP, hkP, hkPi⟩ := Cond.selects_spec hsel
  cases hcls.symm.trans q1
  cases (State.methodFound?_of_named hnamed hy).symm.trans q2
  cases hnamed.symm.trans q3
  have hselP : selectMethod e.platform s.vm cellB.cls mk = .method mk := by rw [Launch.admits_selectMethod X.admits]; exact q4
  obtain ⟨vm₁, X₁, hstep₁⟩ := X.invokevirtual hexec hown hlink hnamed hmethM hstM hkP hkPi hy (a := b) (cell := cellB) hcell
    (fun z h => by rw [h] at hobj; cases hobj) hselP hmethM habM hkP hkPi (g := g) hg (argsL := argsL) (rest := rest) (hlen _ hsigM) hstack hdg
  obtain ⟨v, B, X', hpost, hsteps⟩ := hK m meth c ⟨T.setVm vm₁, locs, cells, slots⟩ { g with stack := rest } (.invokevirtual index) mk (Value.ref b :: argsL).toArray X₁ hg hsize hdg hW (X₁.named hnamed) (hpre vm₁ X₁.warmed)
  exact ⟨v, vm₁, B, X₁.warmed, X', hpost, fun target h => hstep₁ _ fun acts => by rw [doInvoke_state]; exact hsteps.trans h⟩
abbrev vx_CVW (R : Room) (s : State) (args : Array Value) (own C : String) (index : Nat) (y : MethodName) (bytes : ByteArray) (maxL : Nat) (ret : Option FieldType) (hh : List (Nat × Nat × Nat × Nat)) (ws : List Cond) (rm : Room) (mc ms n : Nat) : Prop :=
  (rm.cells = mc ∧ rm.slots = ms ∧ rm.frames + 1 ≤ R.frames ∧ 8 + (maxL + 11) + rm.locals ≤ R.locals ∧ (∀ w ∈ ws, ∀ (a' : Array Value) (U : State), s.WarmedH U.vm → w.before a' U = true) ∧ Cond.codeWith y bytes maxL ret hh ∈ ws) ∧
  (Cond.codeWith y bytes maxL ret hh).before args s = true ∧ (Cond.initialized y.cls).before args s = true ∧ (y.cls ≠ "java/lang/invoke/MethodHandle" ∧ y.cls ≠ "java/lang/invoke/VarHandle") ∧
  (∀ sig, parseMethodDescriptor y.desc = some sig → n = sig.parameters.length) ∧ (Cond.methodLink own index y).before args s = true ∧ (Cond.instanceMethod y).before args s = true ∧ (Cond.selects C y y).before args s = true
theorem vx_cwVW {own C : String} {index maxL mc ms : Nat} {y : MethodName} {bytes : ByteArray} {ret : Option FieldType} {hh : List (Nat × Nat × Nat × Nat)} {Ts ws ws' : List Cond} {rm : Room} (n : Nat) (ht : ∀ w ∈ Ts, w.before args s = true) (hT : GoodIn Ts (wsV own index C y ws)) (hw : ws = Cond.codeWith y bytes maxL ret hh :: ws') (hrc : rm.cells = mc) (hrs : rm.slots = ms)
    (hd : y.cls = C ∧ y.cls ≠ "java/lang/invoke/MethodHandle" ∧ y.cls ≠ "java/lang/invoke/VarHandle" ∧ (parseMethodDescriptor y.desc).map (fun d => d.parameters.length) = some n) (hR : rm.frames + 1 ≤ R.frames ∧ 8 + (maxL + 11) + rm.locals ≤ R.locals) :
    vx_CVW R s args own C index y bytes maxL ret hh ws rm mc ms n := by
  obtain ⟨hC, hd⟩ := hd
  subst hC
  have ok : ∀ w ∈ wsV own index y.cls y ws, w.before args s = true := fun w h => ht w (hT w h).1
  have hG : GoodIn Ts ws := fun w h => hT w (by unfold wsV; exact List.mem_append_right _ h)
  have hc : Cond.codeWith y bytes maxL ret hh ∈ ws := by rw [hw]; exact List.mem_cons_self
  refine ⟨⟨hrc, hrs, hR.1, hR.2, pay_in ht hG, hc⟩, ht _ (hG _ hc).1, ok _ (by simp [wsV]), ⟨hd.1, hd.2.1⟩, fun sig h => ?_, ok _ (by simp [wsV]), ok _ (by simp [wsV]), ok _ (by simp [wsV])⟩
  have h2 := hd.2.2
  rw [h] at h2
  exact (Option.some.inj h2).symm
theorem vx_runVW {y : MethodName} {bytes cc : ByteArray} {maxL nL mc ms n index : Nat} {ret : Option FieldType} {hh : List (Nat × Nat × Nat × Nat)} {ws : List Cond} {rm : Room} {Pc : Array Value → State → Prop} {Qc : Array Value → State → Outcome → State → Prop} {free : Addr → Prop} {Ts : List Cond} {own C : String} {b : Addr} {As rest : List Value} {g : JFrame}
    (S : CallFix p m c cc nL s args Ts own) (hM : Met l y ws rm Pc Qc mc ms free) (cw : vx_CVW R s args own C index y bytes maxL ret hh ws rm mc ms n) (hp : PreV s H C b Pc As)
    (hg : g.method = m) (hn : As.length = n) (hsize : g.locals.size = nL) (hstack : g.stack = As.reverse ++ .ref b :: rest) (hW : 2 * g.monitorRoom + (rest.map fun v => v.category).sum ≤ 8) (hdg : decode cc g.pc = .ok (.invokevirtual index, 3)) (hf : cells + mc ≤ R.cells ∧ slots + ms ≤ R.slots) :
    va_Run p l e R s m args below meth c H locs cells slots mc ms g rest (Qc (Value.ref b :: As).toArray) free := by
  obtain ⟨⟨hrc, hrs, hfr, hlo, hws, hcw⟩, hcode, hini, hy, hlen, hl, hin, hse⟩ := cw
  have hK : Back l R p e below s args y 3 8 (PreOf R mc ms Pc) (PostOf Qc mc ms free) := va_backW (hh := hh) (bytes := bytes) (maxL := maxL) (ret := ret) hM hp.1 hrc hrs hfr hlo hws hcw (fun a' U hW => word_at hW (Or.inl (by first | rfl | simp [Cond.onTables, Cond.keeps, Cond.steady])) hini)
  obtain ⟨hx, hb, hml, ho, -⟩ := S
  obtain ⟨-, ⟨cellB, hcB, hoB, hclB⟩, hPc⟩ := hp
  intro T hT X
  obtain ⟨v, vm₁, ⟨U', l2, c2, s2⟩, hW₁, X', ⟨g', mk, t, L, e1, e2, hq, h1, hL, h2, h3⟩, st⟩ := vx_callVW X hx (C := C) (hh := hh) (bytes := bytes) (maxL := maxL) (ret := ret) ho hl hin hse hcode hy hK (by rw [hT]; exact hcB) hoB hclB hg (hsize.trans hml.symm) (argsL := As) (rest := rest) (fun sig h => hn.trans (hlen sig h)) hstack hW (by rw [hb]; exact hdg)
    (fun vm₁ hW₁ => ⟨hf.1, hf.2, hPc (T.setVm vm₁) hT hW₁⟩)
  dsimp only [Pt.U, Pt.locs, Pt.cells, Pt.slots] at X' e1 e2 h1 h2 h3 st
  subst h1; subst h2; subst h3
  exact ⟨v, (T.setVm vm₁).calling g' mk (Value.ref b :: As).toArray, t, U', L, hT, X', hL, e1, e2, hq, st⟩
section
variable {y : MethodName} {bytes cc : ByteArray} {maxL nL mc ms n index : Nat} {ret : Option FieldType} {ws : List Cond} {rm : Room} {Pc : Array Value → State → Prop} {Qc : Array Value → State → Outcome → State → Prop} {XC : String → State → State → Prop} {free : Addr → Prop} {Ts : List Cond} {own C : String} {b : Addr} {As rest : List Value} {g : JFrame}
theorem vx_runVX {hh : List (Nat × Nat × Nat × Nat)} (S : CallFix p m c cc nL s args Ts own) (hM : vx_Met l y ws rm Pc Qc XC mc ms free) (cw : vx_CVW R s args own C index y bytes maxL ret hh ws rm mc ms n) (hp : PreV s H C b Pc As)
    (hg : g.method = m) (hn : As.length = n) (hsize : g.locals.size = nL) (hstack : g.stack = As.reverse ++ .ref b :: rest) (hW : 2 * g.monitorRoom + (rest.map fun v => v.category).sum ≤ 8) (hdg : decode cc g.pc = .ok (.invokevirtual index, 3)) (hf : cells + mc ≤ R.cells ∧ slots + ms ≤ R.slots) :
    vx_Run p l e R s m args below meth c H locs cells slots mc ms g rest (Qc (Value.ref b :: As).toArray) XC free := by
  obtain ⟨⟨hrc, hrs, hfr, hlo, hws, hcw⟩, hcode, hini, hy, hlen, hl, hin, hse⟩ := cw
  have hK : vx_Back l R p e below s args y 3 8 (PreOf R mc ms Pc) (PostOf Qc mc ms free) (vx_Post XC mc ms free) := vx_backW (hh := hh) (bytes := bytes) (maxL := maxL) (ret := ret) hM hp.1 hrc hrs hfr hlo hws hcw (fun a' U hW => word_at hW (Or.inl (by first | rfl | simp [Cond.onTables, Cond.keeps, Cond.steady])) hini)
  obtain ⟨hx, hb, hml, ho, -⟩ := S
  obtain ⟨-, ⟨cellB, hcB, hoB, hclB⟩, hPc⟩ := hp
  intro T hT X
  rcases vx_callVX X hx (C := C) (hh := hh) (bytes := bytes) (maxL := maxL) (ret := ret) ho hl hin hse hcode hy hK (by rw [hT]; exact hcB) hoB hclB hg (hsize.trans hml.symm) (argsL := As) (rest := rest) (fun sig h => hn.trans (hlen sig h)) hstack hW (by rw [hb]; exact hdg)
    (fun vm₁ hW₁ => ⟨hf.1, hf.2, hPc (T.setVm vm₁) hT hW₁⟩) with ⟨v, vm₁, ⟨U', l2, c2, s2⟩, hW₁, X', ⟨g', mk, t, L, e1, e2, hq, h1, hL, h2, h3⟩, st⟩ | ⟨q, vm₁, ⟨U', l2, c2, s2⟩, hW₁, X', ⟨g', mk, t, L, E, ce, e1, e2, hq, hce, hcv, hcl, h1, hL, h2, h3⟩, st⟩
  · dsimp only [Pt.U, Pt.locs, Pt.cells, Pt.slots] at X' e1 e2 h1 h2 h3 st
    subst h1; subst h2; subst h3
    exact Or.inl ⟨v, (T.setVm vm₁).calling g' mk (Value.ref b :: As).toArray, t, U', L, hT, X', hL, e1, e2, hq, st⟩
  · dsimp only [Pt.U, Pt.locs, Pt.cells, Pt.slots] at X' e1 e2 h1 h2 h3 st hcl
    subst h1; subst h2; subst h3
    exact Or.inr ⟨q, (T.setVm vm₁).calling g' mk (Value.ref b :: As).toArray, t, U', L, E, ce, hT, X', hL, e1, e2, hq, hce, hcv, vx_cls hW₁ hcl, st⟩
theorem vx_runSX {hh : List (Nat × Nat × Nat × Nat)} (S : CallFix p m c cc nL s args Ts own) (hM : vx_Met l y ws rm Pc Qc XC mc ms free) (cw : vx_CSW R s args own index y bytes maxL ret hh ws rm mc ms n) (hp : PreS s H Pc As)
    (hg : g.method = m) (hn : As.length = n) (hsize : g.locals.size = nL) (hstack : g.stack = As.reverse ++ rest) (hW : 2 * g.monitorRoom + (rest.map fun v => v.category).sum ≤ 8) (hdg : decode cc g.pc = .ok (.invokestatic index, 3)) (hf : cells + mc ≤ R.cells ∧ slots + ms ≤ R.slots) :
    vx_Run p l e R s m args below meth c H locs cells slots mc ms g rest (Qc As.toArray) XC free := by
  obtain ⟨⟨hrc, hrs, hfr, hlo, hws, hcw⟩, hcode, hini, hy, hlen, hl, hstt⟩ := cw
  have hK : vx_Back l R p e below s args y 3 8 (PreOf R mc ms Pc) (PostOf Qc mc ms free) (vx_Post XC mc ms free) := vx_backW (hh := hh) (bytes := bytes) (maxL := maxL) (ret := ret) hM hp.1 hrc hrs hfr hlo hws hcw (fun a' U hW => word_at hW (Or.inl (by first | rfl | simp [Cond.onTables, Cond.keeps, Cond.steady])) hini)
  obtain ⟨hx, hb, hml, ho, -⟩ := S
  intro T hT X
  rcases vx_callSX X hx (hh := hh) (bytes := bytes) (maxL := maxL) (ret := ret) ho hl hstt hini hcode hy hK hg (hsize.trans hml.symm) (argsL := As) (rest := rest) (fun sig h => hn.trans (hlen sig h)) hstack hW (by rw [hb]; exact hdg)
    (fun vm₁ hW₁ => ⟨hf.1, hf.2, hp.2 (T.setVm vm₁) hT hW₁⟩) with ⟨v, vm₁, ⟨U', l2, c2, s2⟩, hW₁, X', ⟨g', mk, t, L, e1, e2, hq, h1, hL, h2, h3⟩, st⟩ | ⟨q, vm₁, ⟨U', l2, c2, s2⟩, hW₁, X', ⟨g', mk, t, L, E, ce, e1, e2, hq, hce, hcv, hcl, h1, hL, h2, h3⟩, st⟩
  · dsimp only [Pt.U, Pt.locs, Pt.cells, Pt.slots] at X' e1 e2 h1 h2 h3 st
    subst h1; subst h2; subst h3
    exact Or.inl ⟨v, (T.setVm vm₁).calling g' mk As.toArray, t, U', L, hT, X', hL, e1, e2, hq, st⟩
  · dsimp only [Pt.U, Pt.locs, Pt.cells, Pt.slots] at X' e1 e2 h1 h2 h3 st hcl
    subst h1; subst h2; subst h3
    exact Or.inr ⟨q, (T.setVm vm₁).calling g' mk As.toArray, t, U', L, E, ce, hT, X', hL, e1, e2, hq, hce, hcv, vx_cls hW₁ hcl, st⟩
end
end VXH
theorem vx_ofWH {l : Launch} {y : MethodName} {ws ws' : List Cond} {rm : Room} {Pc : Array Value → State → Prop} {Qc : Array Value → State → Outcome → State → Prop} {XC : String → State → State → Prop} {mc ms : Nat} {free : Addr → Prop} {cc : ByteArray} {maxL : Nat} {ret : Option FieldType} {hh : List (Nat × Nat × Nat × Nat)}
    (hy : plainName y.cls = true) (hw : ws = Cond.codeWith y cc maxL ret hh :: ws')
    (body : ∀ p e s m args below meth c s₁, BodyLoose p l y (headSpec ws rm) cc maxL ret e s m args below meth c s₁ → c.maxLocals = maxL → Pc args s →
      W p l e (headSpec ws rm).room s m args below meth c s.heap [] 0 0 (vx_MQ below Qc XC args s mc ms free) (entryFrame m args maxL)) : vx_Met l y ws rm Pc Qc XC mc ms free := by
  refine MetFree.of_bodyS (code := cc) (maxLocals := maxL) (ret := ret) hy ?_ ?_
  · intro args s m h hn
    obtain ⟨m9, meth, c, hn9, h1, h2, h3, h4, -, h5, h6, -⟩ := Cond.codeWith_spec (atoms_spec (ws := ws) h _ (by rw [hw]; exact List.mem_cons_self))
    cases hn.symm.trans hn9
    exact ⟨meth, c, h1, h2, h3, h4, h5, h6⟩
  · intro p e s m args below meth c s₁ B hml hP _
    have hh0 : s₁.heap = s.heap := by rw [B.state]; rfl
    obtain ⟨t, a1, o, b1, b2, b3⟩ := body p e s m args below meth c s₁ B hml hP s₁ hh0 (Stand.of_body B)
    exact ⟨t, o, a1, b1, b2, b3⟩
/-! ===== END ===== -/
end
section
/-! ===== BEGIN printed: names, fields, word lists, decode rows ===== -/
def RX0 : String := "ReturnsDesk$Line"
def TX0 : u_T := fun k => match k with
  | 0 => ("ReturnsDesk$Line", "price", "I", true)
  | 1 => ("ReturnsDesk$Line", "kind", "I", true)
  | 2 => ("ReturnsDesk$Line", "state", "I", false)
  | 3 => ("ReturnsDesk$Line", "reason", "I", false)
  | _ => ("ReturnsDesk$Line", "waitEnds", "I", false)
def tyX0 : Nat → FieldType := fun k => match k with
  | 0 => .int
  | 1 => .int
  | 2 => .int
  | 3 => .int
  | _ => .int
abbrev wsX00 : List Cond := u_ws RX0 TX0 5
theorem nmX0 : ∀ a, a < 5 → ∀ b, b < 5 → a ≠ b → (TX0 a).2.1 ≠ (TX0 b).2.1 := by decide +kernel
theorem tyX0_ok : ∀ k, k < 5 → parseFieldDescriptor (TX0 k).2.2.1 = some (tyX0 k) := by decide +kernel
abbrev cX0_init : ByteArray := prog_2_method_1_code
def yX0_init : MethodName := ⟨RX0, "<init>", "(II)V"⟩
abbrev cX0_isWaitedFor : ByteArray := prog_2_method_2_code
def yX0_isWaitedFor : MethodName := ⟨RX0, "isWaitedFor", "()Z"⟩
abbrev cX0_spanFor : ByteArray := prog_2_method_3_code
def yX0_spanFor : MethodName := ⟨RX0, "spanFor", "(I)I"⟩
abbrev cX0_feeFor : ByteArray := prog_2_method_4_code
def yX0_feeFor : MethodName := ⟨RX0, "feeFor", "(I)I"⟩
abbrev cX0_gradeFee : ByteArray := prog_2_method_5_code
def yX0_gradeFee : MethodName := ⟨RX0, "gradeFee", "(I)I"⟩
def RX1 : String := "ReturnsDesk$Order"
def TX1 : u_T := fun k => match k with
  | 0 => ("ReturnsDesk$Order", "percent", "I", true)
  | 1 => ("ReturnsDesk$Order", "least", "I", true)
  | 2 => ("ReturnsDesk$Order", "lines", "[LReturnsDesk$Line;", true)
  | 3 => ("ReturnsDesk$Order", "lineCount", "I", false)
  | 4 => ("ReturnsDesk$Order", "isPaid", "Z", false)
  | 5 => ("ReturnsDesk$Order", "paidOn", "I", false)
  | 6 => ("ReturnsDesk$Order", "fees", "I", false)
  | 7 => ("ReturnsDesk$Order", "charges", "I", false)
  | 8 => ("ReturnsDesk$Order", "refunded", "I", false)
  | 9 => ("ReturnsDesk$Order", "byCard", "I", false)
  | 10 => ("ReturnsDesk$Order", "byVoucher", "I", false)
  | _ => ("ReturnsDesk$Order", "byPoints", "I", false)
def tyX1 : Nat → FieldType := fun k => match k with
  | 0 => .int
  | 1 => .int
  | 2 => .array (.object "ReturnsDesk$Line")
  | 3 => .int
  | 4 => .boolean
  | 5 => .int
  | 6 => .int
  | 7 => .int
  | 8 => .int
  | 9 => .int
  | 10 => .int
  | _ => .int
abbrev wsX10 : List Cond := u_ws RX1 TX1 12
theorem nmX1 : ∀ a, a < 12 → ∀ b, b < 12 → a ≠ b → (TX1 a).2.1 ≠ (TX1 b).2.1 := by decide +kernel
theorem tyX1_ok : ∀ k, k < 12 → parseFieldDescriptor (TX1 k).2.2.1 = some (tyX1 k) := by decide +kernel
abbrev cX1_init : ByteArray := prog_3_method_1_code
def yX1_init : MethodName := ⟨RX1, "<init>", "(II)V"⟩
abbrev cX1_hasRoom : ByteArray := prog_3_method_2_code
def yX1_hasRoom : MethodName := ⟨RX1, "hasRoom", "()Z"⟩
abbrev cX1_addLine : ByteArray := prog_3_method_3_code
def yX1_addLine : MethodName := ⟨RX1, "addLine", "(LReturnsDesk$Line;)I"⟩
abbrev cX1_settle : ByteArray := prog_3_method_4_code
def yX1_settle : MethodName := ⟨RX1, "settle", "(III)V"⟩
abbrev cX1_priceAnew : ByteArray := prog_3_method_5_code
def yX1_priceAnew : MethodName := ⟨RX1, "priceAnew", "()I"⟩
abbrev cX1_owed : ByteArray := prog_3_method_6_code
def yX1_owed : MethodName := ⟨RX1, "owed", "()I"⟩
abbrev cX1_allTaken : ByteArray := prog_3_method_7_code
def yX1_allTaken : MethodName := ⟨RX1, "allTaken", "()I"⟩
abbrev cX1_refundSurplus : ByteArray := prog_3_method_8_code
def yX1_refundSurplus : MethodName := ⟨RX1, "refundSurplus", "()I"⟩
abbrev cX1_endWaits : ByteArray := prog_3_method_9_code
def yX1_endWaits : MethodName := ⟨RX1, "endWaits", "(I)I"⟩
abbrev cX1_charge : ByteArray := prog_3_method_10_code
def yX1_charge : MethodName := ⟨RX1, "charge", "(I)V"⟩
def RX2 : String := "ReturnsDesk"
def TX2 : u_T := fun k => match k with
  | 0 => ("ReturnsDesk", "book", "[LReturnsDesk$Order;", true)
  | 1 => ("ReturnsDesk", "orderCount", "I", false)
  | 2 => ("ReturnsDesk", "today", "I", false)
  | 3 => ("ReturnsDesk", "newThings", "I", false)
  | 4 => ("ReturnsDesk", "secondThings", "I", false)
  | _ => ("ReturnsDesk", "wasteThings", "I", false)
def tyX2 : Nat → FieldType := fun k => match k with
  | 0 => .array (.object "ReturnsDesk$Order")
  | 1 => .int
  | 2 => .int
  | 3 => .int
  | 4 => .int
  | _ => .int
abbrev wsX20 : List Cond := u_ws RX2 TX2 6
theorem nmX2 : ∀ a, a < 6 → ∀ b, b < 6 → a ≠ b → (TX2 a).2.1 ≠ (TX2 b).2.1 := by decide +kernel
theorem tyX2_ok : ∀ k, k < 6 → parseFieldDescriptor (TX2 k).2.2.1 = some (tyX2 k) := by decide +kernel
abbrev cX2_init : ByteArray := prog_1_method_1_code
def yX2_init : MethodName := ⟨RX2, "<init>", "()V"⟩
abbrev cX2_order : ByteArray := prog_1_method_2_code
def yX2_order : MethodName := ⟨RX2, "order", "(II)I"⟩
abbrev cX2_add : ByteArray := prog_1_method_3_code
def yX2_add : MethodName := ⟨RX2, "add", "(III)I"⟩
abbrev cX2_pay : ByteArray := prog_1_method_4_code
def yX2_pay : MethodName := ⟨RX2, "pay", "(III)I"⟩
abbrev cX2_orders : ByteArray := prog_1_method_5_code
def yX2_orders : MethodName := ⟨RX2, "orders", "()I"⟩
abbrev cX2_mayComeBack : ByteArray := prog_1_method_6_code
def yX2_mayComeBack : MethodName := ⟨RX2, "mayComeBack", "(III)Z"⟩
abbrev cX2_ask : ByteArray := prog_1_method_7_code
def yX2_ask : MethodName := ⟨RX2, "ask", "(III)I"⟩
abbrev cX2_exchange : ByteArray := prog_1_method_8_code
def yX2_exchange : MethodName := ⟨RX2, "exchange", "(III)I"⟩
abbrev cX2_grade : ByteArray := prog_1_method_9_code
def yX2_grade : MethodName := ⟨RX2, "grade", "(III)I"⟩
abbrev cX2_state : ByteArray := prog_1_method_10_code
def yX2_state : MethodName := ⟨RX2, "state", "(II)I"⟩
abbrev cX2_price : ByteArray := prog_1_method_11_code
def yX2_price : MethodName := ⟨RX2, "price", "(I)I"⟩
abbrev cX2_fees : ByteArray := prog_1_method_12_code
def yX2_fees : MethodName := ⟨RX2, "fees", "(I)I"⟩
abbrev cX2_charges : ByteArray := prog_1_method_13_code
def yX2_charges : MethodName := ⟨RX2, "charges", "(I)I"⟩
abbrev cX2_taken : ByteArray := prog_1_method_14_code
def yX2_taken : MethodName := ⟨RX2, "taken", "(II)I"⟩
abbrev cX2_refunded : ByteArray := prog_1_method_15_code
def yX2_refunded : MethodName := ⟨RX2, "refunded", "(I)I"⟩
abbrev cX2_isShortBy : ByteArray := prog_1_method_16_code
def yX2_isShortBy : MethodName := ⟨RX2, "isShortBy", "(I)I"⟩
abbrev cX2_stock : ByteArray := prog_1_method_17_code
def yX2_stock : MethodName := ⟨RX2, "stock", "(I)I"⟩
abbrev cX2_pass : ByteArray := prog_1_method_18_code
def yX2_pass : MethodName := ⟨RX2, "pass", "(I)I"⟩
abbrev cX2_day : ByteArray := prog_1_method_19_code
def yX2_day : MethodName := ⟨RX2, "day", "()I"⟩
abbrev cX2_requireRange : ByteArray := prog_1_method_20_code
def yX2_requireRange : MethodName := ⟨RX2, "requireRange", "(III)V"⟩
abbrev cX2_findOrder : ByteArray := prog_1_method_21_code
def yX2_findOrder : MethodName := ⟨RX2, "findOrder", "(I)LReturnsDesk$Order;"⟩
abbrev cX2_findLine : ByteArray := prog_1_method_22_code
def yX2_findLine : MethodName := ⟨RX2, "findLine", "(LReturnsDesk$Order;I)LReturnsDesk$Line;"⟩
abbrev cX2_isReturnable : ByteArray := prog_1_method_23_code
def yX2_isReturnable : MethodName := ⟨RX2, "isReturnable", "(LReturnsDesk$Order;LReturnsDesk$Line;I)Z"⟩
abbrev cX2_startWait : ByteArray := prog_1_method_24_code
def yX2_startWait : MethodName := ⟨RX2, "startWait", "(IIII)I"⟩
abbrev cX2_putIntoStock : ByteArray := prog_1_method_25_code
def yX2_putIntoStock : MethodName := ⟨RX2, "putIntoStock", "(II)V"⟩
def RX3 : String := "ReturnsDeskModel"
def TX3 : u_T := fun k => match k with
  | _ => ("", "", "", false)
def tyX3 : Nat → FieldType := fun k => match k with
  | _ => .int
abbrev wsX30 : List Cond := u_ws RX3 TX3 0
theorem nmX3 : ∀ a, a < 0 → ∀ b, b < 0 → a ≠ b → (TX3 a).2.1 ≠ (TX3 b).2.1 := by decide +kernel
theorem tyX3_ok : ∀ k, k < 0 → parseFieldDescriptor (TX3 k).2.2.1 = some (tyX3 k) := by decide +kernel
def RJ9 : String := "java/lang/Math"
def TJ9 : u_T := fun k => match k with
  | _ => ("", "", "", false)
def tyJ9 : Nat → FieldType := fun k => match k with
  | _ => .int
abbrev wsJ90 : List Cond := u_ws RJ9 TJ9 0
theorem nmJ9 : ∀ a, a < 0 → ∀ b, b < 0 → a ≠ b → (TJ9 a).2.1 ≠ (TJ9 b).2.1 := by decide +kernel
theorem tyJ9_ok : ∀ k, k < 0 → parseFieldDescriptor (TJ9 k).2.2.1 = some (tyJ9 k) := by decide +kernel
abbrev cJ9_max_7cf53 : ByteArray := prog_10_method_65_code
def yJ9_max_7cf53 : MethodName := ⟨RJ9, "max", "(II)I"⟩
abbrev cJ9_min_7cf53 : ByteArray := prog_10_method_69_code
def yJ9_min_7cf53 : MethodName := ⟨RJ9, "min", "(II)I"⟩
def RJ0 : String := "java/lang/String"
def TJ0 : u_T := fun k => match k with
  | _ => ("", "", "", false)
def tyJ0 : Nat → FieldType := fun k => match k with
  | _ => .int
abbrev wsJ00 : List Cond := u_ws RJ0 TJ0 0
theorem nmJ0 : ∀ a, a < 0 → ∀ b, b < 0 → a ≠ b → (TJ0 a).2.1 ≠ (TJ0 b).2.1 := by decide +kernel
theorem tyJ0_ok : ∀ k, k < 0 → parseFieldDescriptor (TJ0 k).2.2.1 = some (tyJ0 k) := by decide +kernel
def RL : String := "ReturnsDeskLaw"
abbrev cL_low : ByteArray := method_2_code
def yL_low : MethodName := ⟨RL, "low", "(II)I"⟩
abbrev cL_cell : ByteArray := method_3_code
def yL_cell : MethodName := ⟨RL, "cell", "([II)I"⟩
abbrev cL_order : ByteArray := method_4_code
def yL_order : MethodName := ⟨RL, "order", "(LReturnsDesk;II)I"⟩
abbrev cL_add : ByteArray := method_5_code
def yL_add : MethodName := ⟨RL, "add", "(LReturnsDesk;III)I"⟩
abbrev cL_pay : ByteArray := method_6_code
def yL_pay : MethodName := ⟨RL, "pay", "(LReturnsDesk;III)I"⟩
abbrev cL_ask : ByteArray := method_7_code
def yL_ask : MethodName := ⟨RL, "ask", "(LReturnsDesk;III)I"⟩
abbrev cL_exchange : ByteArray := method_8_code
def yL_exchange : MethodName := ⟨RL, "exchange", "(LReturnsDesk;III)I"⟩
abbrev cL_grade : ByteArray := method_9_code
def yL_grade : MethodName := ⟨RL, "grade", "(LReturnsDesk;III)I"⟩
abbrev cL_all : ByteArray := method_10_code
def yL_all : MethodName := ⟨RL, "all", "(LReturnsDesk;I)I"⟩
abbrev cL_sums : ByteArray := method_11_code
def yL_sums : MethodName := ⟨RL, "sums", "(LReturnsDesk;IZ)Z"⟩
abbrev cL_returns : ByteArray := method_12_code
def yL_returns : MethodName := ⟨RL, "returns", "(LReturnsDesk;III)Z"⟩
abbrev cL_law : ByteArray := code
def yL_law : MethodName := ⟨RL, "law", "([I)Z"⟩
def wsX0_init : List Cond := .code yX0_init cX0_init 3 none :: ([.methodLink RX0 3 objectInit, .instanceMethod objectInit, .code objectInit ⟨#[0xb1]⟩ 1 none, .fieldLink RX0 9 "ReturnsDesk$Line" "state" "I", .fieldLink RX0 15 "ReturnsDesk$Line" "price" "I", .fieldLink RX0 18 "ReturnsDesk$Line" "kind" "I"] ++ wsX00)
def wsX0_isWaitedFor : List Cond := .code yX0_isWaitedFor cX0_isWaitedFor 1 (some .boolean) :: ([.fieldLink RX0 9 "ReturnsDesk$Line" "state" "I"] ++ wsX00)
def wsX0_spanFor : List Cond := .code yX0_spanFor cX0_spanFor 2 (some .int) :: ([.fieldLink RX0 18 "ReturnsDesk$Line" "kind" "I"] ++ wsX00)
def wsX0_gradeFee : List Cond := .code yX0_gradeFee cX0_gradeFee 2 (some .int) :: ([.fieldLink RX0 21 "ReturnsDesk$Line" "reason" "I", .fieldLink RX0 18 "ReturnsDesk$Line" "kind" "I", .fieldLink RX0 15 "ReturnsDesk$Line" "price" "I"] ++ wsX00)
def wsX0_feeFor : List Cond := .code yX0_feeFor cX0_feeFor 3 (some .int) :: ([.fieldLink RX0 21 "ReturnsDesk$Line" "reason" "I", .methodLink RX0 24 yX0_gradeFee, .instanceMethod yX0_gradeFee, .selects RX0 yX0_gradeFee yX0_gradeFee, .initialized RX0, .code yX0_gradeFee cX0_gradeFee 2 (some .int), .fieldLink RX0 18 "ReturnsDesk$Line" "kind" "I", .fieldLink RX0 15 "ReturnsDesk$Line" "price" "I"] ++ wsX00)
def wsX1_init : List Cond := .code yX1_init cX1_init 3 none :: ([.methodLink RX1 3 objectInit, .instanceMethod objectInit, .code objectInit ⟨#[0xb1]⟩ 1 none, .classLink RX1 9 RX0, .fieldLink RX1 11 "ReturnsDesk$Order" "lines" "[LReturnsDesk$Line;", .fieldLink RX1 17 "ReturnsDesk$Order" "percent" "I", .fieldLink RX1 21 "ReturnsDesk$Order" "least" "I"] ++ wsX10)
def wsX1_hasRoom : List Cond := .code yX1_hasRoom cX1_hasRoom 1 (some .boolean) :: ([.fieldLink RX1 24 "ReturnsDesk$Order" "lineCount" "I", .fieldLink RX1 11 "ReturnsDesk$Order" "lines" "[LReturnsDesk$Line;"] ++ wsX10)
def wsX1_addLine : List Cond := .code yX1_addLine cX1_addLine 3 (some .int) :: ([.fieldLink RX1 24 "ReturnsDesk$Order" "lineCount" "I", .fieldLink RX1 11 "ReturnsDesk$Order" "lines" "[LReturnsDesk$Line;"] ++ wsX10)
def wsX1_priceAnew : List Cond := .code yX1_priceAnew cX1_priceAnew 6 (some .int) :: ([.fieldLink RX1 11 "ReturnsDesk$Order" "lines" "[LReturnsDesk$Line;", .fieldLink RX1 53 "ReturnsDesk$Line" "state" "I", .fieldLink RX1 56 "ReturnsDesk$Line" "price" "I", .fieldLink RX1 21 "ReturnsDesk$Order" "least" "I", .fieldLink RX1 17 "ReturnsDesk$Order" "percent" "I"] ++ wsX10 ++ wsX00)
def wsX1_settle : List Cond := .code yX1_settle cX1_settle 5 none :: ([.methodLink RX1 31 Lib.Math.min.name, .static Lib.Math.min.name, .initialized "java/lang/Math", .code Lib.Math.min.name Lib.Math.min.code 2 (some .int), .fieldLink RX1 37 "ReturnsDesk$Order" "byPoints" "I", .fieldLink RX1 40 "ReturnsDesk$Order" "byVoucher" "I", .fieldLink RX1 43 "ReturnsDesk$Order" "byCard" "I", .fieldLink RX1 46 "ReturnsDesk$Order" "isPaid" "Z", .fieldLink RX1 50 "ReturnsDesk$Order" "paidOn" "I", .methodLink RX1 27 yX1_priceAnew, .instanceMethod yX1_priceAnew, .selects RX1 yX1_priceAnew yX1_priceAnew, .initialized RX1, .code yX1_priceAnew cX1_priceAnew 6 (some .int), .fieldLink RX1 11 "ReturnsDesk$Order" "lines" "[LReturnsDesk$Line;", .fieldLink RX1 53 "ReturnsDesk$Line" "state" "I", .fieldLink RX1 56 "ReturnsDesk$Line" "price" "I", .fieldLink RX1 21 "ReturnsDesk$Order" "least" "I", .fieldLink RX1 17 "ReturnsDesk$Order" "percent" "I"] ++ wsX10 ++ wsX00)
def wsX1_owed : List Cond := .code yX1_owed cX1_owed 1 (some .int) :: ([.fieldLink RX1 59 "ReturnsDesk$Order" "fees" "I", .fieldLink RX1 62 "ReturnsDesk$Order" "charges" "I", .methodLink RX1 27 yX1_priceAnew, .instanceMethod yX1_priceAnew, .selects RX1 yX1_priceAnew yX1_priceAnew, .initialized RX1, .code yX1_priceAnew cX1_priceAnew 6 (some .int), .fieldLink RX1 11 "ReturnsDesk$Order" "lines" "[LReturnsDesk$Line;", .fieldLink RX1 53 "ReturnsDesk$Line" "state" "I", .fieldLink RX1 56 "ReturnsDesk$Line" "price" "I", .fieldLink RX1 21 "ReturnsDesk$Order" "least" "I", .fieldLink RX1 17 "ReturnsDesk$Order" "percent" "I"] ++ wsX10 ++ wsX00)
def wsX1_allTaken : List Cond := .code yX1_allTaken cX1_allTaken 1 (some .int) :: ([.fieldLink RX1 43 "ReturnsDesk$Order" "byCard" "I", .fieldLink RX1 40 "ReturnsDesk$Order" "byVoucher" "I", .fieldLink RX1 37 "ReturnsDesk$Order" "byPoints" "I"] ++ wsX10)
def wsX1_refundSurplus_r1 : List Cond := [Cond.methodLink RX1 71 Lib.Math.max.name, Cond.static Lib.Math.max.name, Cond.initialized "java/lang/Math", Cond.code Lib.Math.max.name Lib.Math.max.code 2 (some .int), Cond.fieldLink RX1 43 "ReturnsDesk$Order" "byCard" "I", Cond.methodLink RX1 31 Lib.Math.min.name, Cond.static Lib.Math.min.name, Cond.code Lib.Math.min.name Lib.Math.min.code 2 (some .int), Cond.fieldLink RX1 40 "ReturnsDesk$Order" "byVoucher" "I", Cond.fieldLink RX1 37 "ReturnsDesk$Order" "byPoints" "I", Cond.fieldLink RX1 74 "ReturnsDesk$Order" "refunded" "I", Cond.methodLink RX1 65 yX1_allTaken, Cond.instanceMethod yX1_allTaken, Cond.selects RX1 yX1_allTaken yX1_allTaken, Cond.initialized RX1, Cond.code yX1_allTaken cX1_allTaken 1 (some .int), Cond.methodLink RX1 68 yX1_owed, Cond.instanceMethod yX1_owed, Cond.selects RX1 yX1_owed yX1_owed, Cond.code yX1_owed cX1_owed 1 (some .int), Cond.fieldLink RX1 59 "ReturnsDesk$Order" "fees" "I", Cond.fieldLink RX1 62 "ReturnsDesk$Order" "charges" "I", Cond.methodLink RX1 27 yX1_priceAnew, Cond.instanceMethod yX1_priceAnew]
def wsX1_refundSurplus_r2 : List Cond := [Cond.selects RX1 yX1_priceAnew yX1_priceAnew, Cond.code yX1_priceAnew cX1_priceAnew 6 (some .int), Cond.fieldLink RX1 11 "ReturnsDesk$Order" "lines" "[LReturnsDesk$Line;", Cond.fieldLink RX1 53 "ReturnsDesk$Line" "state" "I", Cond.fieldLink RX1 56 "ReturnsDesk$Line" "price" "I", Cond.fieldLink RX1 21 "ReturnsDesk$Order" "least" "I", Cond.fieldLink RX1 17 "ReturnsDesk$Order" "percent" "I"]
def wsX1_refundSurplus : List Cond := .code yX1_refundSurplus cX1_refundSurplus 4 (some .int) :: ((wsX1_refundSurplus_r1 ++ wsX1_refundSurplus_r2) ++ wsX10 ++ wsX00)
def wsX1_charge : List Cond := .code yX1_charge cX1_charge 2 none :: ([.fieldLink RX1 62 "ReturnsDesk$Order" "charges" "I", .fieldLink RX1 43 "ReturnsDesk$Order" "byCard" "I"] ++ wsX10)
def wsX1_endWaits : List Cond := .code yX1_endWaits cX1_endWaits 7 (some .int) :: ([.fieldLink RX1 11 "ReturnsDesk$Order" "lines" "[LReturnsDesk$Line;", .fieldLink RX1 81 "ReturnsDesk$Line" "waitEnds" "I", .fieldLink RX1 53 "ReturnsDesk$Line" "state" "I", .fieldLink RX1 56 "ReturnsDesk$Line" "price" "I", .methodLink RX1 77 yX0_isWaitedFor, .instanceMethod yX0_isWaitedFor, .selects RX0 yX0_isWaitedFor yX0_isWaitedFor, .initialized RX0, .code yX0_isWaitedFor cX0_isWaitedFor 1 (some .boolean), .fieldLink RX0 9 "ReturnsDesk$Line" "state" "I", .methodLink RX1 84 yX1_charge, .instanceMethod yX1_charge, .selects RX1 yX1_charge yX1_charge, .initialized RX1, .code yX1_charge cX1_charge 2 none, .fieldLink RX1 62 "ReturnsDesk$Order" "charges" "I", .fieldLink RX1 43 "ReturnsDesk$Order" "byCard" "I"] ++ wsX10 ++ wsX00)
def wsX2_init : List Cond := .code yX2_init cX2_init 1 none :: ([.methodLink RX2 1 objectInit, .instanceMethod objectInit, .code objectInit ⟨#[0xb1]⟩ 1 none, .classLink RX2 9 RX1, .fieldLink RX2 11 "ReturnsDesk" "book" "[LReturnsDesk$Order;"] ++ wsX20)
def wsX2_requireRange : List Cond := .code yX2_requireRange cX2_requireRange 3 none :: ([.classLink RX2 148 "java/lang/IllegalArgumentException", .initialized "java/lang/IllegalArgumentException"] ++ (vx_atS RX2 152 "java/lang/IllegalArgumentException" ["java/lang/RuntimeException", "java/lang/Exception"]).filter goodWord)
def wsX2_order : List Cond := .code yX2_order cX2_order 3 (some .int) :: ([.classLink RX2 24 "java/lang/IllegalStateException", .initialized "java/lang/IllegalStateException", .constant RX2 19 (1000000), .fieldLink RX2 20 "ReturnsDesk" "orderCount" "I", .fieldLink RX2 11 "ReturnsDesk" "book" "[LReturnsDesk$Order;", .classLink RX2 9 RX1, .instantiable RX1 12, .initialized RX1, .methodLink RX2 15 yX2_requireRange, .static yX2_requireRange, .initialized RX2, .code yX2_requireRange cX2_requireRange 3 none, .classLink RX2 148 "java/lang/IllegalArgumentException", .initialized "java/lang/IllegalArgumentException", .methodLink RX2 31 yX1_init, .instanceMethod yX1_init, .code yX1_init cX1_init 3 none, .methodLink RX1 3 objectInit, .instanceMethod objectInit, .code objectInit ⟨#[0xb1]⟩ 1 none, .classLink RX1 9 RX0, .fieldLink RX1 11 "ReturnsDesk$Order" "lines" "[LReturnsDesk$Line;", .fieldLink RX1 17 "ReturnsDesk$Order" "percent" "I", .fieldLink RX1 21 "ReturnsDesk$Order" "least" "I"] ++ wsX20 ++ wsX10 ++ (vx_atS RX2 28 "java/lang/IllegalStateException" ["java/lang/RuntimeException", "java/lang/Exception"]).filter goodWord ++ (vx_atS RX2 152 "java/lang/IllegalArgumentException" ["java/lang/RuntimeException", "java/lang/Exception"]).filter goodWord)
def wsX2_findOrder : List Cond := .code yX2_findOrder cX2_findOrder 3 (some (.object "ReturnsDesk$Order")) :: ([.classLink RX2 153 "java/lang/IndexOutOfBoundsException", .initialized "java/lang/IndexOutOfBoundsException", .fieldLink RX2 11 "ReturnsDesk" "book" "[LReturnsDesk$Order;"] ++ wsX20 ++ (vx_atS RX2 157 "java/lang/IndexOutOfBoundsException" ["java/lang/RuntimeException", "java/lang/Exception"]).filter goodWord)
def wsX2_add_r1 : List Cond := [Cond.classLink RX2 24 "java/lang/IllegalStateException", Cond.initialized "java/lang/IllegalStateException", Cond.constant RX2 38 (100000), Cond.fieldLink RX2 39 "ReturnsDesk$Order" "isPaid" "Z", Cond.classLink RX2 49 RX0, Cond.instantiable RX0 5, Cond.initialized RX0, Cond.methodLink RX2 34 yX2_findOrder, Cond.instanceMethod yX2_findOrder, Cond.selects RX2 yX2_findOrder yX2_findOrder, Cond.initialized RX2, Cond.code yX2_findOrder cX2_findOrder 3 (some (.object "ReturnsDesk$Order")), Cond.classLink RX2 153 "java/lang/IndexOutOfBoundsException", Cond.initialized "java/lang/IndexOutOfBoundsException", Cond.fieldLink RX2 11 "ReturnsDesk" "book" "[LReturnsDesk$Order;", Cond.methodLink RX2 15 yX2_requireRange, Cond.static yX2_requireRange, Cond.code yX2_requireRange cX2_requireRange 3 none, Cond.classLink RX2 148 "java/lang/IllegalArgumentException", Cond.initialized "java/lang/IllegalArgumentException", Cond.methodLink RX2 43 yX1_hasRoom, Cond.instanceMethod yX1_hasRoom, Cond.selects RX1 yX1_hasRoom yX1_hasRoom, Cond.initialized RX1]
def wsX2_add_r2 : List Cond := [Cond.code yX1_hasRoom cX1_hasRoom 1 (some .boolean), Cond.fieldLink RX1 24 "ReturnsDesk$Order" "lineCount" "I", Cond.fieldLink RX1 11 "ReturnsDesk$Order" "lines" "[LReturnsDesk$Line;", Cond.methodLink RX2 51 yX0_init, Cond.instanceMethod yX0_init, Cond.code yX0_init cX0_init 3 none, Cond.methodLink RX0 3 objectInit, Cond.instanceMethod objectInit, Cond.code objectInit ⟨#[0xb1]⟩ 1 none, Cond.fieldLink RX0 9 "ReturnsDesk$Line" "state" "I", Cond.fieldLink RX0 15 "ReturnsDesk$Line" "price" "I", Cond.fieldLink RX0 18 "ReturnsDesk$Line" "kind" "I", Cond.methodLink RX2 52 yX1_addLine, Cond.instanceMethod yX1_addLine, Cond.selects RX1 yX1_addLine yX1_addLine, Cond.code yX1_addLine cX1_addLine 3 (some .int)]
def wsX2_add : List Cond := .code yX2_add cX2_add 5 (some .int) :: ((wsX2_add_r1 ++ wsX2_add_r2) ++ wsX10 ++ wsX00 ++ wsX20 ++ (vx_atS RX2 28 "java/lang/IllegalStateException" ["java/lang/RuntimeException", "java/lang/Exception"]).filter goodWord ++ (vx_atS RX2 157 "java/lang/IndexOutOfBoundsException" ["java/lang/RuntimeException", "java/lang/Exception"]).filter goodWord ++ (vx_atS RX2 152 "java/lang/IllegalArgumentException" ["java/lang/RuntimeException", "java/lang/Exception"]).filter goodWord)
def wsX2_pay_r1 : List Cond := [Cond.classLink RX2 24 "java/lang/IllegalStateException", Cond.initialized "java/lang/IllegalStateException", Cond.constant RX2 19 (1000000), Cond.fieldLink RX2 39 "ReturnsDesk$Order" "isPaid" "Z", Cond.fieldLink RX2 56 "ReturnsDesk$Order" "lineCount" "I", Cond.fieldLink RX2 61 "ReturnsDesk" "today" "I", Cond.fieldLink RX2 67 "ReturnsDesk$Order" "byCard" "I", Cond.methodLink RX2 34 yX2_findOrder, Cond.instanceMethod yX2_findOrder, Cond.selects RX2 yX2_findOrder yX2_findOrder, Cond.initialized RX2, Cond.code yX2_findOrder cX2_findOrder 3 (some (.object "ReturnsDesk$Order")), Cond.classLink RX2 153 "java/lang/IndexOutOfBoundsException", Cond.initialized "java/lang/IndexOutOfBoundsException", Cond.fieldLink RX2 11 "ReturnsDesk" "book" "[LReturnsDesk$Order;", Cond.methodLink RX2 15 yX2_requireRange, Cond.static yX2_requireRange, Cond.code yX2_requireRange cX2_requireRange 3 none, Cond.classLink RX2 148 "java/lang/IllegalArgumentException", Cond.initialized "java/lang/IllegalArgumentException", Cond.methodLink RX2 64 yX1_settle, Cond.instanceMethod yX1_settle, Cond.selects RX1 yX1_settle yX1_settle, Cond.initialized RX1]
def wsX2_pay_r2 : List Cond := [Cond.code yX1_settle cX1_settle 5 none, Cond.methodLink RX1 31 Lib.Math.min.name, Cond.static Lib.Math.min.name, Cond.initialized "java/lang/Math", Cond.code Lib.Math.min.name Lib.Math.min.code 2 (some .int), Cond.fieldLink RX1 37 "ReturnsDesk$Order" "byPoints" "I", Cond.fieldLink RX1 40 "ReturnsDesk$Order" "byVoucher" "I", Cond.fieldLink RX1 43 "ReturnsDesk$Order" "byCard" "I", Cond.fieldLink RX1 46 "ReturnsDesk$Order" "isPaid" "Z", Cond.fieldLink RX1 50 "ReturnsDesk$Order" "paidOn" "I", Cond.methodLink RX1 27 yX1_priceAnew, Cond.instanceMethod yX1_priceAnew, Cond.selects RX1 yX1_priceAnew yX1_priceAnew, Cond.code yX1_priceAnew cX1_priceAnew 6 (some .int), Cond.fieldLink RX1 11 "ReturnsDesk$Order" "lines" "[LReturnsDesk$Line;", Cond.fieldLink RX1 53 "ReturnsDesk$Line" "state" "I", Cond.fieldLink RX1 56 "ReturnsDesk$Line" "price" "I", Cond.fieldLink RX1 21 "ReturnsDesk$Order" "least" "I", Cond.fieldLink RX1 17 "ReturnsDesk$Order" "percent" "I"]
def wsX2_pay : List Cond := .code yX2_pay cX2_pay 5 (some .int) :: ((wsX2_pay_r1 ++ wsX2_pay_r2) ++ wsX10 ++ wsX20 ++ wsX00 ++ (vx_atS RX2 28 "java/lang/IllegalStateException" ["java/lang/RuntimeException", "java/lang/Exception"]).filter goodWord ++ (vx_atS RX2 157 "java/lang/IndexOutOfBoundsException" ["java/lang/RuntimeException", "java/lang/Exception"]).filter goodWord ++ (vx_atS RX2 152 "java/lang/IllegalArgumentException" ["java/lang/RuntimeException", "java/lang/Exception"]).filter goodWord)
def wsX2_orders : List Cond := .code yX2_orders cX2_orders 1 (some .int) :: ([.fieldLink RX2 20 "ReturnsDesk" "orderCount" "I"] ++ wsX20)
def wsX2_findLine : List Cond := .code yX2_findLine cX2_findLine 3 (some (.object "ReturnsDesk$Line")) :: ([.classLink RX2 153 "java/lang/IndexOutOfBoundsException", .initialized "java/lang/IndexOutOfBoundsException", .fieldLink RX2 158 "ReturnsDesk$Order" "lines" "[LReturnsDesk$Line;"] ++ wsX10 ++ (vx_atS RX2 157 "java/lang/IndexOutOfBoundsException" ["java/lang/RuntimeException", "java/lang/Exception"]).filter goodWord)
def wsX2_isReturnable : List Cond := .code yX2_isReturnable cX2_isReturnable 4 (some .boolean) :: ([.fieldLink RX2 39 "ReturnsDesk$Order" "isPaid" "Z", .fieldLink RX2 100 "ReturnsDesk$Line" "state" "I", .fieldLink RX2 61 "ReturnsDesk" "today" "I", .fieldLink RX2 164 "ReturnsDesk$Order" "paidOn" "I", .methodLink RX2 167 yX0_spanFor, .instanceMethod yX0_spanFor, .selects RX0 yX0_spanFor yX0_spanFor, .initialized RX0, .code yX0_spanFor cX0_spanFor 2 (some .int), .fieldLink RX0 18 "ReturnsDesk$Line" "kind" "I"] ++ wsX10 ++ wsX00 ++ wsX20)
def wsX2_mayComeBack_r1 : List Cond := [Cond.methodLink RX2 34 yX2_findOrder, Cond.instanceMethod yX2_findOrder, Cond.selects RX2 yX2_findOrder yX2_findOrder, Cond.initialized RX2, Cond.code yX2_findOrder cX2_findOrder 3 (some (.object "ReturnsDesk$Order")), Cond.classLink RX2 153 "java/lang/IndexOutOfBoundsException", Cond.initialized "java/lang/IndexOutOfBoundsException", Cond.fieldLink RX2 11 "ReturnsDesk" "book" "[LReturnsDesk$Order;", Cond.methodLink RX2 70 yX2_findLine, Cond.static yX2_findLine, Cond.code yX2_findLine cX2_findLine 3 (some (.object "ReturnsDesk$Line")), Cond.fieldLink RX2 158 "ReturnsDesk$Order" "lines" "[LReturnsDesk$Line;", Cond.methodLink RX2 15 yX2_requireRange, Cond.static yX2_requireRange, Cond.code yX2_requireRange cX2_requireRange 3 none, Cond.classLink RX2 148 "java/lang/IllegalArgumentException", Cond.initialized "java/lang/IllegalArgumentException", Cond.methodLink RX2 74 yX2_isReturnable, Cond.instanceMethod yX2_isReturnable, Cond.selects RX2 yX2_isReturnable yX2_isReturnable, Cond.code yX2_isReturnable cX2_isReturnable 4 (some .boolean), Cond.fieldLink RX2 39 "ReturnsDesk$Order" "isPaid" "Z", Cond.fieldLink RX2 100 "ReturnsDesk$Line" "state" "I", Cond.fieldLink RX2 61 "ReturnsDesk" "today" "I"]
def wsX2_mayComeBack_r2 : List Cond := [Cond.fieldLink RX2 164 "ReturnsDesk$Order" "paidOn" "I", Cond.methodLink RX2 167 yX0_spanFor, Cond.instanceMethod yX0_spanFor, Cond.selects RX0 yX0_spanFor yX0_spanFor, Cond.initialized RX0, Cond.code yX0_spanFor cX0_spanFor 2 (some .int), Cond.fieldLink RX0 18 "ReturnsDesk$Line" "kind" "I"]
def wsX2_mayComeBack : List Cond := .code yX2_mayComeBack cX2_mayComeBack 6 (some .boolean) :: ((wsX2_mayComeBack_r1 ++ wsX2_mayComeBack_r2) ++ wsX20 ++ wsX10 ++ wsX00 ++ (vx_atS RX2 157 "java/lang/IndexOutOfBoundsException" ["java/lang/RuntimeException", "java/lang/Exception"]).filter goodWord ++ (vx_atS RX2 152 "java/lang/IllegalArgumentException" ["java/lang/RuntimeException", "java/lang/Exception"]).filter goodWord)
def wsX2_startWait_r1 : List Cond := [Cond.classLink RX2 24 "java/lang/IllegalStateException", Cond.initialized "java/lang/IllegalStateException", Cond.fieldLink RX2 100 "ReturnsDesk$Line" "state" "I", Cond.fieldLink RX2 94 "ReturnsDesk$Line" "reason" "I", Cond.fieldLink RX2 61 "ReturnsDesk" "today" "I", Cond.fieldLink RX2 172 "ReturnsDesk$Line" "waitEnds" "I", Cond.methodLink RX2 34 yX2_findOrder, Cond.instanceMethod yX2_findOrder, Cond.selects RX2 yX2_findOrder yX2_findOrder, Cond.initialized RX2, Cond.code yX2_findOrder cX2_findOrder 3 (some (.object "ReturnsDesk$Order")), Cond.classLink RX2 153 "java/lang/IndexOutOfBoundsException", Cond.initialized "java/lang/IndexOutOfBoundsException", Cond.fieldLink RX2 11 "ReturnsDesk" "book" "[LReturnsDesk$Order;", Cond.methodLink RX2 70 yX2_findLine, Cond.static yX2_findLine, Cond.code yX2_findLine cX2_findLine 3 (some (.object "ReturnsDesk$Line")), Cond.fieldLink RX2 158 "ReturnsDesk$Order" "lines" "[LReturnsDesk$Line;", Cond.methodLink RX2 15 yX2_requireRange, Cond.static yX2_requireRange, Cond.code yX2_requireRange cX2_requireRange 3 none, Cond.classLink RX2 148 "java/lang/IllegalArgumentException", Cond.initialized "java/lang/IllegalArgumentException", Cond.methodLink RX2 74 yX2_isReturnable]
def wsX2_startWait_r2 : List Cond := [Cond.instanceMethod yX2_isReturnable, Cond.selects RX2 yX2_isReturnable yX2_isReturnable, Cond.code yX2_isReturnable cX2_isReturnable 4 (some .boolean), Cond.fieldLink RX2 39 "ReturnsDesk$Order" "isPaid" "Z", Cond.fieldLink RX2 164 "ReturnsDesk$Order" "paidOn" "I", Cond.methodLink RX2 167 yX0_spanFor, Cond.instanceMethod yX0_spanFor, Cond.selects RX0 yX0_spanFor yX0_spanFor, Cond.initialized RX0, Cond.code yX0_spanFor cX0_spanFor 2 (some .int), Cond.fieldLink RX0 18 "ReturnsDesk$Line" "kind" "I"]
def wsX2_startWait : List Cond := .code yX2_startWait cX2_startWait 7 (some .int) :: ((wsX2_startWait_r1 ++ wsX2_startWait_r2) ++ wsX00 ++ wsX20 ++ wsX10 ++ (vx_atS RX2 28 "java/lang/IllegalStateException" ["java/lang/RuntimeException", "java/lang/Exception"]).filter goodWord ++ (vx_atS RX2 157 "java/lang/IndexOutOfBoundsException" ["java/lang/RuntimeException", "java/lang/Exception"]).filter goodWord ++ (vx_atS RX2 152 "java/lang/IllegalArgumentException" ["java/lang/RuntimeException", "java/lang/Exception"]).filter goodWord)
def wsX2_ask_r1 : List Cond := [Cond.methodLink RX2 78 yX2_startWait, Cond.instanceMethod yX2_startWait, Cond.selects RX2 yX2_startWait yX2_startWait, Cond.initialized RX2, Cond.code yX2_startWait cX2_startWait 7 (some .int), Cond.classLink RX2 24 "java/lang/IllegalStateException", Cond.initialized "java/lang/IllegalStateException", Cond.fieldLink RX2 100 "ReturnsDesk$Line" "state" "I", Cond.fieldLink RX2 94 "ReturnsDesk$Line" "reason" "I", Cond.fieldLink RX2 61 "ReturnsDesk" "today" "I", Cond.fieldLink RX2 172 "ReturnsDesk$Line" "waitEnds" "I", Cond.methodLink RX2 34 yX2_findOrder, Cond.instanceMethod yX2_findOrder, Cond.selects RX2 yX2_findOrder yX2_findOrder, Cond.code yX2_findOrder cX2_findOrder 3 (some (.object "ReturnsDesk$Order")), Cond.classLink RX2 153 "java/lang/IndexOutOfBoundsException", Cond.initialized "java/lang/IndexOutOfBoundsException", Cond.fieldLink RX2 11 "ReturnsDesk" "book" "[LReturnsDesk$Order;", Cond.methodLink RX2 70 yX2_findLine, Cond.static yX2_findLine, Cond.code yX2_findLine cX2_findLine 3 (some (.object "ReturnsDesk$Line")), Cond.fieldLink RX2 158 "ReturnsDesk$Order" "lines" "[LReturnsDesk$Line;", Cond.methodLink RX2 15 yX2_requireRange, Cond.static yX2_requireRange]
def wsX2_ask_r2 : List Cond := [Cond.code yX2_requireRange cX2_requireRange 3 none, Cond.classLink RX2 148 "java/lang/IllegalArgumentException", Cond.initialized "java/lang/IllegalArgumentException", Cond.methodLink RX2 74 yX2_isReturnable, Cond.instanceMethod yX2_isReturnable, Cond.selects RX2 yX2_isReturnable yX2_isReturnable, Cond.code yX2_isReturnable cX2_isReturnable 4 (some .boolean), Cond.fieldLink RX2 39 "ReturnsDesk$Order" "isPaid" "Z", Cond.fieldLink RX2 164 "ReturnsDesk$Order" "paidOn" "I", Cond.methodLink RX2 167 yX0_spanFor, Cond.instanceMethod yX0_spanFor, Cond.selects RX0 yX0_spanFor yX0_spanFor, Cond.initialized RX0, Cond.code yX0_spanFor cX0_spanFor 2 (some .int), Cond.fieldLink RX0 18 "ReturnsDesk$Line" "kind" "I"]
def wsX2_ask : List Cond := .code yX2_ask cX2_ask 4 (some .int) :: ((wsX2_ask_r1 ++ wsX2_ask_r2) ++ wsX00 ++ wsX20 ++ wsX10 ++ (vx_atS RX2 28 "java/lang/IllegalStateException" ["java/lang/RuntimeException", "java/lang/Exception"]).filter goodWord ++ (vx_atS RX2 157 "java/lang/IndexOutOfBoundsException" ["java/lang/RuntimeException", "java/lang/Exception"]).filter goodWord ++ (vx_atS RX2 152 "java/lang/IllegalArgumentException" ["java/lang/RuntimeException", "java/lang/Exception"]).filter goodWord)
def wsX2_exchange_r1 : List Cond := [Cond.methodLink RX2 78 yX2_startWait, Cond.instanceMethod yX2_startWait, Cond.selects RX2 yX2_startWait yX2_startWait, Cond.initialized RX2, Cond.code yX2_startWait cX2_startWait 7 (some .int), Cond.classLink RX2 24 "java/lang/IllegalStateException", Cond.initialized "java/lang/IllegalStateException", Cond.fieldLink RX2 100 "ReturnsDesk$Line" "state" "I", Cond.fieldLink RX2 94 "ReturnsDesk$Line" "reason" "I", Cond.fieldLink RX2 61 "ReturnsDesk" "today" "I", Cond.fieldLink RX2 172 "ReturnsDesk$Line" "waitEnds" "I", Cond.methodLink RX2 34 yX2_findOrder, Cond.instanceMethod yX2_findOrder, Cond.selects RX2 yX2_findOrder yX2_findOrder, Cond.code yX2_findOrder cX2_findOrder 3 (some (.object "ReturnsDesk$Order")), Cond.classLink RX2 153 "java/lang/IndexOutOfBoundsException", Cond.initialized "java/lang/IndexOutOfBoundsException", Cond.fieldLink RX2 11 "ReturnsDesk" "book" "[LReturnsDesk$Order;", Cond.methodLink RX2 70 yX2_findLine, Cond.static yX2_findLine, Cond.code yX2_findLine cX2_findLine 3 (some (.object "ReturnsDesk$Line")), Cond.fieldLink RX2 158 "ReturnsDesk$Order" "lines" "[LReturnsDesk$Line;", Cond.methodLink RX2 15 yX2_requireRange, Cond.static yX2_requireRange]
def wsX2_exchange_r2 : List Cond := [Cond.code yX2_requireRange cX2_requireRange 3 none, Cond.classLink RX2 148 "java/lang/IllegalArgumentException", Cond.initialized "java/lang/IllegalArgumentException", Cond.methodLink RX2 74 yX2_isReturnable, Cond.instanceMethod yX2_isReturnable, Cond.selects RX2 yX2_isReturnable yX2_isReturnable, Cond.code yX2_isReturnable cX2_isReturnable 4 (some .boolean), Cond.fieldLink RX2 39 "ReturnsDesk$Order" "isPaid" "Z", Cond.fieldLink RX2 164 "ReturnsDesk$Order" "paidOn" "I", Cond.methodLink RX2 167 yX0_spanFor, Cond.instanceMethod yX0_spanFor, Cond.selects RX0 yX0_spanFor yX0_spanFor, Cond.initialized RX0, Cond.code yX0_spanFor cX0_spanFor 2 (some .int), Cond.fieldLink RX0 18 "ReturnsDesk$Line" "kind" "I"]
def wsX2_exchange : List Cond := .code yX2_exchange cX2_exchange 4 (some .int) :: ((wsX2_exchange_r1 ++ wsX2_exchange_r2) ++ wsX00 ++ wsX20 ++ wsX10 ++ (vx_atS RX2 28 "java/lang/IllegalStateException" ["java/lang/RuntimeException", "java/lang/Exception"]).filter goodWord ++ (vx_atS RX2 157 "java/lang/IndexOutOfBoundsException" ["java/lang/RuntimeException", "java/lang/Exception"]).filter goodWord ++ (vx_atS RX2 152 "java/lang/IllegalArgumentException" ["java/lang/RuntimeException", "java/lang/Exception"]).filter goodWord)
def wsX2_putIntoStock : List Cond := .code yX2_putIntoStock cX2_putIntoStock 3 none :: ([.fieldLink RX2 134 "ReturnsDesk" "newThings" "I", .fieldLink RX2 137 "ReturnsDesk" "secondThings" "I", .fieldLink RX2 140 "ReturnsDesk" "wasteThings" "I"] ++ wsX20)
def wsX2_grade_r1 : List Cond := [Cond.classLink RX2 24 "java/lang/IllegalStateException", Cond.initialized "java/lang/IllegalStateException", Cond.fieldLink RX2 87 "ReturnsDesk$Order" "fees" "I", Cond.fieldLink RX2 94 "ReturnsDesk$Line" "reason" "I", Cond.fieldLink RX2 100 "ReturnsDesk$Line" "state" "I", Cond.methodLink RX2 34 yX2_findOrder, Cond.instanceMethod yX2_findOrder, Cond.selects RX2 yX2_findOrder yX2_findOrder, Cond.initialized RX2, Cond.code yX2_findOrder cX2_findOrder 3 (some (.object "ReturnsDesk$Order")), Cond.classLink RX2 153 "java/lang/IndexOutOfBoundsException", Cond.initialized "java/lang/IndexOutOfBoundsException", Cond.fieldLink RX2 11 "ReturnsDesk" "book" "[LReturnsDesk$Order;", Cond.methodLink RX2 70 yX2_findLine, Cond.static yX2_findLine, Cond.code yX2_findLine cX2_findLine 3 (some (.object "ReturnsDesk$Line")), Cond.fieldLink RX2 158 "ReturnsDesk$Order" "lines" "[LReturnsDesk$Line;", Cond.methodLink RX2 15 yX2_requireRange, Cond.static yX2_requireRange, Cond.code yX2_requireRange cX2_requireRange 3 none, Cond.classLink RX2 148 "java/lang/IllegalArgumentException", Cond.initialized "java/lang/IllegalArgumentException", Cond.methodLink RX2 82 yX0_isWaitedFor, Cond.instanceMethod yX0_isWaitedFor]
def wsX2_grade_r2 : List Cond := [Cond.selects RX0 yX0_isWaitedFor yX0_isWaitedFor, Cond.initialized RX0, Cond.code yX0_isWaitedFor cX0_isWaitedFor 1 (some .boolean), Cond.fieldLink RX0 9 "ReturnsDesk$Line" "state" "I", Cond.methodLink RX2 90 yX0_feeFor, Cond.instanceMethod yX0_feeFor, Cond.selects RX0 yX0_feeFor yX0_feeFor, Cond.code yX0_feeFor cX0_feeFor 3 (some .int), Cond.fieldLink RX0 21 "ReturnsDesk$Line" "reason" "I", Cond.methodLink RX0 24 yX0_gradeFee, Cond.instanceMethod yX0_gradeFee, Cond.selects RX0 yX0_gradeFee yX0_gradeFee, Cond.code yX0_gradeFee cX0_gradeFee 2 (some .int), Cond.fieldLink RX0 18 "ReturnsDesk$Line" "kind" "I", Cond.fieldLink RX0 15 "ReturnsDesk$Line" "price" "I", Cond.methodLink RX2 97 yX2_putIntoStock, Cond.instanceMethod yX2_putIntoStock, Cond.selects RX2 yX2_putIntoStock yX2_putIntoStock, Cond.code yX2_putIntoStock cX2_putIntoStock 3 none, Cond.fieldLink RX2 134 "ReturnsDesk" "newThings" "I", Cond.fieldLink RX2 137 "ReturnsDesk" "secondThings" "I", Cond.fieldLink RX2 140 "ReturnsDesk" "wasteThings" "I", Cond.methodLink RX2 103 yX1_refundSurplus, Cond.instanceMethod yX1_refundSurplus]
def wsX2_grade_r3 : List Cond := [Cond.selects RX1 yX1_refundSurplus yX1_refundSurplus, Cond.initialized RX1, Cond.code yX1_refundSurplus cX1_refundSurplus 4 (some .int), Cond.methodLink RX1 71 Lib.Math.max.name, Cond.static Lib.Math.max.name, Cond.initialized "java/lang/Math", Cond.code Lib.Math.max.name Lib.Math.max.code 2 (some .int), Cond.fieldLink RX1 43 "ReturnsDesk$Order" "byCard" "I", Cond.methodLink RX1 31 Lib.Math.min.name, Cond.static Lib.Math.min.name, Cond.code Lib.Math.min.name Lib.Math.min.code 2 (some .int), Cond.fieldLink RX1 40 "ReturnsDesk$Order" "byVoucher" "I", Cond.fieldLink RX1 37 "ReturnsDesk$Order" "byPoints" "I", Cond.fieldLink RX1 74 "ReturnsDesk$Order" "refunded" "I", Cond.methodLink RX1 65 yX1_allTaken, Cond.instanceMethod yX1_allTaken, Cond.selects RX1 yX1_allTaken yX1_allTaken, Cond.code yX1_allTaken cX1_allTaken 1 (some .int), Cond.methodLink RX1 68 yX1_owed, Cond.instanceMethod yX1_owed, Cond.selects RX1 yX1_owed yX1_owed, Cond.code yX1_owed cX1_owed 1 (some .int), Cond.fieldLink RX1 59 "ReturnsDesk$Order" "fees" "I", Cond.fieldLink RX1 62 "ReturnsDesk$Order" "charges" "I"]
def wsX2_grade_r4 : List Cond := [Cond.methodLink RX1 27 yX1_priceAnew, Cond.instanceMethod yX1_priceAnew, Cond.selects RX1 yX1_priceAnew yX1_priceAnew, Cond.code yX1_priceAnew cX1_priceAnew 6 (some .int), Cond.fieldLink RX1 11 "ReturnsDesk$Order" "lines" "[LReturnsDesk$Line;", Cond.fieldLink RX1 53 "ReturnsDesk$Line" "state" "I", Cond.fieldLink RX1 56 "ReturnsDesk$Line" "price" "I", Cond.fieldLink RX1 21 "ReturnsDesk$Order" "least" "I", Cond.fieldLink RX1 17 "ReturnsDesk$Order" "percent" "I"]
def wsX2_grade : List Cond := .code yX2_grade cX2_grade 6 (some .int) :: ((wsX2_grade_r1 ++ (wsX2_grade_r2 ++ (wsX2_grade_r3 ++ wsX2_grade_r4))) ++ wsX10 ++ wsX00 ++ wsX20 ++ (vx_atS RX2 28 "java/lang/IllegalStateException" ["java/lang/RuntimeException", "java/lang/Exception"]).filter goodWord ++ (vx_atS RX2 157 "java/lang/IndexOutOfBoundsException" ["java/lang/RuntimeException", "java/lang/Exception"]).filter goodWord ++ (vx_atS RX2 152 "java/lang/IllegalArgumentException" ["java/lang/RuntimeException", "java/lang/Exception"]).filter goodWord)
def wsX2_state : List Cond := .code yX2_state cX2_state 3 (some .int) :: ([.fieldLink RX2 100 "ReturnsDesk$Line" "state" "I", .methodLink RX2 34 yX2_findOrder, .instanceMethod yX2_findOrder, .selects RX2 yX2_findOrder yX2_findOrder, .initialized RX2, .code yX2_findOrder cX2_findOrder 3 (some (.object "ReturnsDesk$Order")), .classLink RX2 153 "java/lang/IndexOutOfBoundsException", .initialized "java/lang/IndexOutOfBoundsException", .fieldLink RX2 11 "ReturnsDesk" "book" "[LReturnsDesk$Order;", .methodLink RX2 70 yX2_findLine, .static yX2_findLine, .code yX2_findLine cX2_findLine 3 (some (.object "ReturnsDesk$Line")), .fieldLink RX2 158 "ReturnsDesk$Order" "lines" "[LReturnsDesk$Line;"] ++ wsX00 ++ wsX20 ++ wsX10 ++ (vx_atS RX2 157 "java/lang/IndexOutOfBoundsException" ["java/lang/RuntimeException", "java/lang/Exception"]).filter goodWord)
def wsX2_price : List Cond := .code yX2_price cX2_price 2 (some .int) :: ([.methodLink RX2 34 yX2_findOrder, .instanceMethod yX2_findOrder, .selects RX2 yX2_findOrder yX2_findOrder, .initialized RX2, .code yX2_findOrder cX2_findOrder 3 (some (.object "ReturnsDesk$Order")), .classLink RX2 153 "java/lang/IndexOutOfBoundsException", .initialized "java/lang/IndexOutOfBoundsException", .fieldLink RX2 11 "ReturnsDesk" "book" "[LReturnsDesk$Order;", .methodLink RX2 107 yX1_priceAnew, .instanceMethod yX1_priceAnew, .selects RX1 yX1_priceAnew yX1_priceAnew, .initialized RX1, .code yX1_priceAnew cX1_priceAnew 6 (some .int), .fieldLink RX1 11 "ReturnsDesk$Order" "lines" "[LReturnsDesk$Line;", .fieldLink RX1 53 "ReturnsDesk$Line" "state" "I", .fieldLink RX1 56 "ReturnsDesk$Line" "price" "I", .fieldLink RX1 21 "ReturnsDesk$Order" "least" "I", .fieldLink RX1 17 "ReturnsDesk$Order" "percent" "I"] ++ wsX20 ++ wsX10 ++ wsX00 ++ (vx_atS RX2 157 "java/lang/IndexOutOfBoundsException" ["java/lang/RuntimeException", "java/lang/Exception"]).filter goodWord)
def wsX2_fees : List Cond := .code yX2_fees cX2_fees 2 (some .int) :: ([.fieldLink RX2 87 "ReturnsDesk$Order" "fees" "I", .methodLink RX2 34 yX2_findOrder, .instanceMethod yX2_findOrder, .selects RX2 yX2_findOrder yX2_findOrder, .initialized RX2, .code yX2_findOrder cX2_findOrder 3 (some (.object "ReturnsDesk$Order")), .classLink RX2 153 "java/lang/IndexOutOfBoundsException", .initialized "java/lang/IndexOutOfBoundsException", .fieldLink RX2 11 "ReturnsDesk" "book" "[LReturnsDesk$Order;"] ++ wsX10 ++ wsX20 ++ (vx_atS RX2 157 "java/lang/IndexOutOfBoundsException" ["java/lang/RuntimeException", "java/lang/Exception"]).filter goodWord)
def wsX2_charges : List Cond := .code yX2_charges cX2_charges 2 (some .int) :: ([.fieldLink RX2 110 "ReturnsDesk$Order" "charges" "I", .methodLink RX2 34 yX2_findOrder, .instanceMethod yX2_findOrder, .selects RX2 yX2_findOrder yX2_findOrder, .initialized RX2, .code yX2_findOrder cX2_findOrder 3 (some (.object "ReturnsDesk$Order")), .classLink RX2 153 "java/lang/IndexOutOfBoundsException", .initialized "java/lang/IndexOutOfBoundsException", .fieldLink RX2 11 "ReturnsDesk" "book" "[LReturnsDesk$Order;"] ++ wsX10 ++ wsX20 ++ (vx_atS RX2 157 "java/lang/IndexOutOfBoundsException" ["java/lang/RuntimeException", "java/lang/Exception"]).filter goodWord)
def wsX2_taken : List Cond := .code yX2_taken cX2_taken 4 (some .int) :: ([.fieldLink RX2 67 "ReturnsDesk$Order" "byCard" "I", .fieldLink RX2 113 "ReturnsDesk$Order" "byVoucher" "I", .fieldLink RX2 116 "ReturnsDesk$Order" "byPoints" "I", .methodLink RX2 34 yX2_findOrder, .instanceMethod yX2_findOrder, .selects RX2 yX2_findOrder yX2_findOrder, .initialized RX2, .code yX2_findOrder cX2_findOrder 3 (some (.object "ReturnsDesk$Order")), .classLink RX2 153 "java/lang/IndexOutOfBoundsException", .initialized "java/lang/IndexOutOfBoundsException", .fieldLink RX2 11 "ReturnsDesk" "book" "[LReturnsDesk$Order;", .methodLink RX2 15 yX2_requireRange, .static yX2_requireRange, .code yX2_requireRange cX2_requireRange 3 none, .classLink RX2 148 "java/lang/IllegalArgumentException", .initialized "java/lang/IllegalArgumentException"] ++ wsX10 ++ wsX20 ++ (vx_atS RX2 157 "java/lang/IndexOutOfBoundsException" ["java/lang/RuntimeException", "java/lang/Exception"]).filter goodWord ++ (vx_atS RX2 152 "java/lang/IllegalArgumentException" ["java/lang/RuntimeException", "java/lang/Exception"]).filter goodWord)
def wsX2_refunded : List Cond := .code yX2_refunded cX2_refunded 2 (some .int) :: ([.fieldLink RX2 119 "ReturnsDesk$Order" "refunded" "I", .methodLink RX2 34 yX2_findOrder, .instanceMethod yX2_findOrder, .selects RX2 yX2_findOrder yX2_findOrder, .initialized RX2, .code yX2_findOrder cX2_findOrder 3 (some (.object "ReturnsDesk$Order")), .classLink RX2 153 "java/lang/IndexOutOfBoundsException", .initialized "java/lang/IndexOutOfBoundsException", .fieldLink RX2 11 "ReturnsDesk" "book" "[LReturnsDesk$Order;"] ++ wsX10 ++ wsX20 ++ (vx_atS RX2 157 "java/lang/IndexOutOfBoundsException" ["java/lang/RuntimeException", "java/lang/Exception"]).filter goodWord)
def wsX2_isShortBy_r1 : List Cond := [Cond.fieldLink RX2 39 "ReturnsDesk$Order" "isPaid" "Z", Cond.methodLink RX2 128 Lib.Math.max.name, Cond.static Lib.Math.max.name, Cond.initialized "java/lang/Math", Cond.code Lib.Math.max.name Lib.Math.max.code 2 (some .int), Cond.methodLink RX2 34 yX2_findOrder, Cond.instanceMethod yX2_findOrder, Cond.selects RX2 yX2_findOrder yX2_findOrder, Cond.initialized RX2, Cond.code yX2_findOrder cX2_findOrder 3 (some (.object "ReturnsDesk$Order")), Cond.classLink RX2 153 "java/lang/IndexOutOfBoundsException", Cond.initialized "java/lang/IndexOutOfBoundsException", Cond.fieldLink RX2 11 "ReturnsDesk" "book" "[LReturnsDesk$Order;", Cond.methodLink RX2 122 yX1_owed, Cond.instanceMethod yX1_owed, Cond.selects RX1 yX1_owed yX1_owed, Cond.initialized RX1, Cond.code yX1_owed cX1_owed 1 (some .int), Cond.fieldLink RX1 59 "ReturnsDesk$Order" "fees" "I", Cond.fieldLink RX1 62 "ReturnsDesk$Order" "charges" "I", Cond.methodLink RX1 27 yX1_priceAnew, Cond.instanceMethod yX1_priceAnew, Cond.selects RX1 yX1_priceAnew yX1_priceAnew, Cond.code yX1_priceAnew cX1_priceAnew 6 (some .int)]
def wsX2_isShortBy_r2 : List Cond := [Cond.fieldLink RX1 11 "ReturnsDesk$Order" "lines" "[LReturnsDesk$Line;", Cond.fieldLink RX1 53 "ReturnsDesk$Line" "state" "I", Cond.fieldLink RX1 56 "ReturnsDesk$Line" "price" "I", Cond.fieldLink RX1 21 "ReturnsDesk$Order" "least" "I", Cond.fieldLink RX1 17 "ReturnsDesk$Order" "percent" "I", Cond.methodLink RX2 125 yX1_allTaken, Cond.instanceMethod yX1_allTaken, Cond.selects RX1 yX1_allTaken yX1_allTaken, Cond.code yX1_allTaken cX1_allTaken 1 (some .int), Cond.fieldLink RX1 43 "ReturnsDesk$Order" "byCard" "I", Cond.fieldLink RX1 40 "ReturnsDesk$Order" "byVoucher" "I", Cond.fieldLink RX1 37 "ReturnsDesk$Order" "byPoints" "I"]
def wsX2_isShortBy : List Cond := .code yX2_isShortBy cX2_isShortBy 3 (some .int) :: ((wsX2_isShortBy_r1 ++ wsX2_isShortBy_r2) ++ wsX10 ++ wsX20 ++ wsX00 ++ (vx_atS RX2 157 "java/lang/IndexOutOfBoundsException" ["java/lang/RuntimeException", "java/lang/Exception"]).filter goodWord)
def wsX2_stock : List Cond := .code yX2_stock cX2_stock 2 (some .int) :: ([.fieldLink RX2 134 "ReturnsDesk" "newThings" "I", .fieldLink RX2 137 "ReturnsDesk" "secondThings" "I", .fieldLink RX2 140 "ReturnsDesk" "wasteThings" "I", .methodLink RX2 15 yX2_requireRange, .static yX2_requireRange, .initialized RX2, .code yX2_requireRange cX2_requireRange 3 none, .classLink RX2 148 "java/lang/IllegalArgumentException", .initialized "java/lang/IllegalArgumentException"] ++ wsX20 ++ (vx_atS RX2 152 "java/lang/IllegalArgumentException" ["java/lang/RuntimeException", "java/lang/Exception"]).filter goodWord)
def wsX2_pass_r1 : List Cond := [Cond.classLink RX2 24 "java/lang/IllegalStateException", Cond.initialized "java/lang/IllegalStateException", Cond.fieldLink RX2 61 "ReturnsDesk" "today" "I", Cond.fieldLink RX2 11 "ReturnsDesk" "book" "[LReturnsDesk$Order;", Cond.methodLink RX2 15 yX2_requireRange, Cond.static yX2_requireRange, Cond.initialized RX2, Cond.code yX2_requireRange cX2_requireRange 3 none, Cond.classLink RX2 148 "java/lang/IllegalArgumentException", Cond.initialized "java/lang/IllegalArgumentException", Cond.methodLink RX2 145 yX1_endWaits, Cond.instanceMethod yX1_endWaits, Cond.selects RX1 yX1_endWaits yX1_endWaits, Cond.initialized RX1, Cond.code yX1_endWaits cX1_endWaits 7 (some .int), Cond.fieldLink RX1 11 "ReturnsDesk$Order" "lines" "[LReturnsDesk$Line;", Cond.fieldLink RX1 81 "ReturnsDesk$Line" "waitEnds" "I", Cond.fieldLink RX1 53 "ReturnsDesk$Line" "state" "I", Cond.fieldLink RX1 56 "ReturnsDesk$Line" "price" "I", Cond.methodLink RX1 77 yX0_isWaitedFor, Cond.instanceMethod yX0_isWaitedFor, Cond.selects RX0 yX0_isWaitedFor yX0_isWaitedFor, Cond.initialized RX0, Cond.code yX0_isWaitedFor cX0_isWaitedFor 1 (some .boolean)]
def wsX2_pass_r2 : List Cond := [Cond.fieldLink RX0 9 "ReturnsDesk$Line" "state" "I", Cond.methodLink RX1 84 yX1_charge, Cond.instanceMethod yX1_charge, Cond.selects RX1 yX1_charge yX1_charge, Cond.code yX1_charge cX1_charge 2 none, Cond.fieldLink RX1 62 "ReturnsDesk$Order" "charges" "I", Cond.fieldLink RX1 43 "ReturnsDesk$Order" "byCard" "I"]
def wsX2_pass : List Cond := .code yX2_pass cX2_pass 7 (some .int) :: ((wsX2_pass_r1 ++ wsX2_pass_r2) ++ wsX20 ++ wsX10 ++ wsX00 ++ (vx_atS RX2 28 "java/lang/IllegalStateException" ["java/lang/RuntimeException", "java/lang/Exception"]).filter goodWord ++ (vx_atS RX2 152 "java/lang/IllegalArgumentException" ["java/lang/RuntimeException", "java/lang/Exception"]).filter goodWord)
def wsX2_day : List Cond := .code yX2_day cX2_day 1 (some .int) :: ([.fieldLink RX2 61 "ReturnsDesk" "today" "I"] ++ wsX20)
def wsJ9_max_7cf53 : List Cond := .code yJ9_max_7cf53 cJ9_max_7cf53 2 (some .int) :: ([])
def wsJ9_min_7cf53 : List Cond := .code yJ9_min_7cf53 cJ9_min_7cf53 2 (some .int) :: ([])
def wsL_low : List Cond := .code yL_low cL_low 2 (some .int) :: ([.constant RL 7 (2147483647)])
def wsL_cell : List Cond := .code yL_cell cL_cell 2 (some .int) :: ([.constant RL 8 (40503)])
def wsL_order_r1 : List Cond := [Cond.classLink RL 15 "java/lang/IllegalStateException", Cond.methodLink RL 9 yX2_order, Cond.instanceMethod yX2_order, Cond.selects RX2 yX2_order yX2_order, Cond.initialized RX2, Cond.code yX2_order cX2_order 3 (some .int), Cond.classLink RX2 24 "java/lang/IllegalStateException", Cond.initialized "java/lang/IllegalStateException", Cond.constant RX2 19 (1000000), Cond.fieldLink RX2 20 "ReturnsDesk" "orderCount" "I", Cond.fieldLink RX2 11 "ReturnsDesk" "book" "[LReturnsDesk$Order;", Cond.classLink RX2 9 RX1, Cond.instantiable RX1 12, Cond.initialized RX1, Cond.methodLink RX2 15 yX2_requireRange, Cond.static yX2_requireRange, Cond.code yX2_requireRange cX2_requireRange 3 none, Cond.classLink RX2 148 "java/lang/IllegalArgumentException", Cond.initialized "java/lang/IllegalArgumentException", Cond.methodLink RX2 31 yX1_init, Cond.instanceMethod yX1_init, Cond.code yX1_init cX1_init 3 none, Cond.methodLink RX1 3 objectInit, Cond.instanceMethod objectInit]
def wsL_order_r2 : List Cond := [Cond.code objectInit ⟨#[0xb1]⟩ 1 none, Cond.classLink RX1 9 RX0, Cond.fieldLink RX1 11 "ReturnsDesk$Order" "lines" "[LReturnsDesk$Line;", Cond.fieldLink RX1 17 "ReturnsDesk$Order" "percent" "I", Cond.fieldLink RX1 21 "ReturnsDesk$Order" "least" "I"]
def wsL_order : List Cond := .codeWith yL_order cL_order 4 (some .int) [(0, 6, 7, 15)] :: ((wsL_order_r1 ++ wsL_order_r2) ++ wsX20 ++ wsX10 ++ (vx_atS RX2 28 "java/lang/IllegalStateException" ["java/lang/RuntimeException", "java/lang/Exception"]).filter goodWord ++ (vx_atS RX2 152 "java/lang/IllegalArgumentException" ["java/lang/RuntimeException", "java/lang/Exception"]).filter goodWord)
def wsL_add_r1 : List Cond := [Cond.classLink RL 15 "java/lang/IllegalStateException", Cond.methodLink RL 17 yX2_add, Cond.instanceMethod yX2_add, Cond.selects RX2 yX2_add yX2_add, Cond.initialized RX2, Cond.code yX2_add cX2_add 5 (some .int), Cond.classLink RX2 24 "java/lang/IllegalStateException", Cond.initialized "java/lang/IllegalStateException", Cond.constant RX2 38 (100000), Cond.fieldLink RX2 39 "ReturnsDesk$Order" "isPaid" "Z", Cond.classLink RX2 49 RX0, Cond.instantiable RX0 5, Cond.initialized RX0, Cond.methodLink RX2 34 yX2_findOrder, Cond.instanceMethod yX2_findOrder, Cond.selects RX2 yX2_findOrder yX2_findOrder, Cond.code yX2_findOrder cX2_findOrder 3 (some (.object "ReturnsDesk$Order")), Cond.classLink RX2 153 "java/lang/IndexOutOfBoundsException", Cond.initialized "java/lang/IndexOutOfBoundsException", Cond.fieldLink RX2 11 "ReturnsDesk" "book" "[LReturnsDesk$Order;", Cond.methodLink RX2 15 yX2_requireRange, Cond.static yX2_requireRange, Cond.code yX2_requireRange cX2_requireRange 3 none, Cond.classLink RX2 148 "java/lang/IllegalArgumentException"]
def wsL_add_r2 : List Cond := [Cond.initialized "java/lang/IllegalArgumentException", Cond.methodLink RX2 43 yX1_hasRoom, Cond.instanceMethod yX1_hasRoom, Cond.selects RX1 yX1_hasRoom yX1_hasRoom, Cond.initialized RX1, Cond.code yX1_hasRoom cX1_hasRoom 1 (some .boolean), Cond.fieldLink RX1 24 "ReturnsDesk$Order" "lineCount" "I", Cond.fieldLink RX1 11 "ReturnsDesk$Order" "lines" "[LReturnsDesk$Line;", Cond.methodLink RX2 51 yX0_init, Cond.instanceMethod yX0_init, Cond.code yX0_init cX0_init 3 none, Cond.methodLink RX0 3 objectInit, Cond.instanceMethod objectInit, Cond.code objectInit ⟨#[0xb1]⟩ 1 none, Cond.fieldLink RX0 9 "ReturnsDesk$Line" "state" "I", Cond.fieldLink RX0 15 "ReturnsDesk$Line" "price" "I", Cond.fieldLink RX0 18 "ReturnsDesk$Line" "kind" "I", Cond.methodLink RX2 52 yX1_addLine, Cond.instanceMethod yX1_addLine, Cond.selects RX1 yX1_addLine yX1_addLine, Cond.code yX1_addLine cX1_addLine 3 (some .int)]
def wsL_add : List Cond := .codeWith yL_add cL_add 5 (some .int) [(0, 7, 8, 15)] :: ((wsL_add_r1 ++ wsL_add_r2) ++ wsX10 ++ wsX00 ++ wsX20 ++ (vx_atS RX2 28 "java/lang/IllegalStateException" ["java/lang/RuntimeException", "java/lang/Exception"]).filter goodWord ++ (vx_atS RX2 157 "java/lang/IndexOutOfBoundsException" ["java/lang/RuntimeException", "java/lang/Exception"]).filter goodWord ++ (vx_atS RX2 152 "java/lang/IllegalArgumentException" ["java/lang/RuntimeException", "java/lang/Exception"]).filter goodWord)
def wsL_pay_r1 : List Cond := [Cond.classLink RL 15 "java/lang/IllegalStateException", Cond.methodLink RL 21 yX2_pay, Cond.instanceMethod yX2_pay, Cond.selects RX2 yX2_pay yX2_pay, Cond.initialized RX2, Cond.code yX2_pay cX2_pay 5 (some .int), Cond.classLink RX2 24 "java/lang/IllegalStateException", Cond.initialized "java/lang/IllegalStateException", Cond.constant RX2 19 (1000000), Cond.fieldLink RX2 39 "ReturnsDesk$Order" "isPaid" "Z", Cond.fieldLink RX2 56 "ReturnsDesk$Order" "lineCount" "I", Cond.fieldLink RX2 61 "ReturnsDesk" "today" "I", Cond.fieldLink RX2 67 "ReturnsDesk$Order" "byCard" "I", Cond.methodLink RX2 34 yX2_findOrder, Cond.instanceMethod yX2_findOrder, Cond.selects RX2 yX2_findOrder yX2_findOrder, Cond.code yX2_findOrder cX2_findOrder 3 (some (.object "ReturnsDesk$Order")), Cond.classLink RX2 153 "java/lang/IndexOutOfBoundsException", Cond.initialized "java/lang/IndexOutOfBoundsException", Cond.fieldLink RX2 11 "ReturnsDesk" "book" "[LReturnsDesk$Order;", Cond.methodLink RX2 15 yX2_requireRange, Cond.static yX2_requireRange, Cond.code yX2_requireRange cX2_requireRange 3 none, Cond.classLink RX2 148 "java/lang/IllegalArgumentException"]
def wsL_pay_r2 : List Cond := [Cond.initialized "java/lang/IllegalArgumentException", Cond.methodLink RX2 64 yX1_settle, Cond.instanceMethod yX1_settle, Cond.selects RX1 yX1_settle yX1_settle, Cond.initialized RX1, Cond.code yX1_settle cX1_settle 5 none, Cond.methodLink RX1 31 Lib.Math.min.name, Cond.static Lib.Math.min.name, Cond.initialized "java/lang/Math", Cond.code Lib.Math.min.name Lib.Math.min.code 2 (some .int), Cond.fieldLink RX1 37 "ReturnsDesk$Order" "byPoints" "I", Cond.fieldLink RX1 40 "ReturnsDesk$Order" "byVoucher" "I", Cond.fieldLink RX1 43 "ReturnsDesk$Order" "byCard" "I", Cond.fieldLink RX1 46 "ReturnsDesk$Order" "isPaid" "Z", Cond.fieldLink RX1 50 "ReturnsDesk$Order" "paidOn" "I", Cond.methodLink RX1 27 yX1_priceAnew, Cond.instanceMethod yX1_priceAnew, Cond.selects RX1 yX1_priceAnew yX1_priceAnew, Cond.code yX1_priceAnew cX1_priceAnew 6 (some .int), Cond.fieldLink RX1 11 "ReturnsDesk$Order" "lines" "[LReturnsDesk$Line;", Cond.fieldLink RX1 53 "ReturnsDesk$Line" "state" "I", Cond.fieldLink RX1 56 "ReturnsDesk$Line" "price" "I", Cond.fieldLink RX1 21 "ReturnsDesk$Order" "least" "I", Cond.fieldLink RX1 17 "ReturnsDesk$Order" "percent" "I"]
def wsL_pay : List Cond := .codeWith yL_pay cL_pay 5 (some .int) [(0, 7, 8, 15)] :: ((wsL_pay_r1 ++ wsL_pay_r2) ++ wsX10 ++ wsX20 ++ wsX00 ++ (vx_atS RX2 28 "java/lang/IllegalStateException" ["java/lang/RuntimeException", "java/lang/Exception"]).filter goodWord ++ (vx_atS RX2 157 "java/lang/IndexOutOfBoundsException" ["java/lang/RuntimeException", "java/lang/Exception"]).filter goodWord ++ (vx_atS RX2 152 "java/lang/IllegalArgumentException" ["java/lang/RuntimeException", "java/lang/Exception"]).filter goodWord)
def wsL_ask_r1 : List Cond := [Cond.classLink RL 15 "java/lang/IllegalStateException", Cond.methodLink RL 24 yX2_ask, Cond.instanceMethod yX2_ask, Cond.selects RX2 yX2_ask yX2_ask, Cond.initialized RX2, Cond.code yX2_ask cX2_ask 4 (some .int), Cond.methodLink RX2 78 yX2_startWait, Cond.instanceMethod yX2_startWait, Cond.selects RX2 yX2_startWait yX2_startWait, Cond.code yX2_startWait cX2_startWait 7 (some .int), Cond.classLink RX2 24 "java/lang/IllegalStateException", Cond.initialized "java/lang/IllegalStateException", Cond.fieldLink RX2 100 "ReturnsDesk$Line" "state" "I", Cond.fieldLink RX2 94 "ReturnsDesk$Line" "reason" "I", Cond.fieldLink RX2 61 "ReturnsDesk" "today" "I", Cond.fieldLink RX2 172 "ReturnsDesk$Line" "waitEnds" "I", Cond.methodLink RX2 34 yX2_findOrder, Cond.instanceMethod yX2_findOrder, Cond.selects RX2 yX2_findOrder yX2_findOrder, Cond.code yX2_findOrder cX2_findOrder 3 (some (.object "ReturnsDesk$Order")), Cond.classLink RX2 153 "java/lang/IndexOutOfBoundsException", Cond.initialized "java/lang/IndexOutOfBoundsException", Cond.fieldLink RX2 11 "ReturnsDesk" "book" "[LReturnsDesk$Order;", Cond.methodLink RX2 70 yX2_findLine]
def wsL_ask_r2 : List Cond := [Cond.static yX2_findLine, Cond.code yX2_findLine cX2_findLine 3 (some (.object "ReturnsDesk$Line")), Cond.fieldLink RX2 158 "ReturnsDesk$Order" "lines" "[LReturnsDesk$Line;", Cond.methodLink RX2 15 yX2_requireRange, Cond.static yX2_requireRange, Cond.code yX2_requireRange cX2_requireRange 3 none, Cond.classLink RX2 148 "java/lang/IllegalArgumentException", Cond.initialized "java/lang/IllegalArgumentException", Cond.methodLink RX2 74 yX2_isReturnable, Cond.instanceMethod yX2_isReturnable, Cond.selects RX2 yX2_isReturnable yX2_isReturnable, Cond.code yX2_isReturnable cX2_isReturnable 4 (some .boolean), Cond.fieldLink RX2 39 "ReturnsDesk$Order" "isPaid" "Z", Cond.fieldLink RX2 164 "ReturnsDesk$Order" "paidOn" "I", Cond.methodLink RX2 167 yX0_spanFor, Cond.instanceMethod yX0_spanFor, Cond.selects RX0 yX0_spanFor yX0_spanFor, Cond.initialized RX0, Cond.code yX0_spanFor cX0_spanFor 2 (some .int), Cond.fieldLink RX0 18 "ReturnsDesk$Line" "kind" "I"]
def wsL_ask : List Cond := .codeWith yL_ask cL_ask 5 (some .int) [(0, 7, 8, 15)] :: ((wsL_ask_r1 ++ wsL_ask_r2) ++ wsX00 ++ wsX20 ++ wsX10 ++ (vx_atS RX2 28 "java/lang/IllegalStateException" ["java/lang/RuntimeException", "java/lang/Exception"]).filter goodWord ++ (vx_atS RX2 157 "java/lang/IndexOutOfBoundsException" ["java/lang/RuntimeException", "java/lang/Exception"]).filter goodWord ++ (vx_atS RX2 152 "java/lang/IllegalArgumentException" ["java/lang/RuntimeException", "java/lang/Exception"]).filter goodWord)
def wsL_exchange_r1 : List Cond := [Cond.classLink RL 15 "java/lang/IllegalStateException", Cond.methodLink RL 27 yX2_exchange, Cond.instanceMethod yX2_exchange, Cond.selects RX2 yX2_exchange yX2_exchange, Cond.initialized RX2, Cond.code yX2_exchange cX2_exchange 4 (some .int), Cond.methodLink RX2 78 yX2_startWait, Cond.instanceMethod yX2_startWait, Cond.selects RX2 yX2_startWait yX2_startWait, Cond.code yX2_startWait cX2_startWait 7 (some .int), Cond.classLink RX2 24 "java/lang/IllegalStateException", Cond.initialized "java/lang/IllegalStateException", Cond.fieldLink RX2 100 "ReturnsDesk$Line" "state" "I", Cond.fieldLink RX2 94 "ReturnsDesk$Line" "reason" "I", Cond.fieldLink RX2 61 "ReturnsDesk" "today" "I", Cond.fieldLink RX2 172 "ReturnsDesk$Line" "waitEnds" "I", Cond.methodLink RX2 34 yX2_findOrder, Cond.instanceMethod yX2_findOrder, Cond.selects RX2 yX2_findOrder yX2_findOrder, Cond.code yX2_findOrder cX2_findOrder 3 (some (.object "ReturnsDesk$Order")), Cond.classLink RX2 153 "java/lang/IndexOutOfBoundsException", Cond.initialized "java/lang/IndexOutOfBoundsException", Cond.fieldLink RX2 11 "ReturnsDesk" "book" "[LReturnsDesk$Order;", Cond.methodLink RX2 70 yX2_findLine]
def wsL_exchange_r2 : List Cond := [Cond.static yX2_findLine, Cond.code yX2_findLine cX2_findLine 3 (some (.object "ReturnsDesk$Line")), Cond.fieldLink RX2 158 "ReturnsDesk$Order" "lines" "[LReturnsDesk$Line;", Cond.methodLink RX2 15 yX2_requireRange, Cond.static yX2_requireRange, Cond.code yX2_requireRange cX2_requireRange 3 none, Cond.classLink RX2 148 "java/lang/IllegalArgumentException", Cond.initialized "java/lang/IllegalArgumentException", Cond.methodLink RX2 74 yX2_isReturnable, Cond.instanceMethod yX2_isReturnable, Cond.selects RX2 yX2_isReturnable yX2_isReturnable, Cond.code yX2_isReturnable cX2_isReturnable 4 (some .boolean), Cond.fieldLink RX2 39 "ReturnsDesk$Order" "isPaid" "Z", Cond.fieldLink RX2 164 "ReturnsDesk$Order" "paidOn" "I", Cond.methodLink RX2 167 yX0_spanFor, Cond.instanceMethod yX0_spanFor, Cond.selects RX0 yX0_spanFor yX0_spanFor, Cond.initialized RX0, Cond.code yX0_spanFor cX0_spanFor 2 (some .int), Cond.fieldLink RX0 18 "ReturnsDesk$Line" "kind" "I"]
def wsL_exchange : List Cond := .codeWith yL_exchange cL_exchange 5 (some .int) [(0, 7, 8, 15)] :: ((wsL_exchange_r1 ++ wsL_exchange_r2) ++ wsX00 ++ wsX20 ++ wsX10 ++ (vx_atS RX2 28 "java/lang/IllegalStateException" ["java/lang/RuntimeException", "java/lang/Exception"]).filter goodWord ++ (vx_atS RX2 157 "java/lang/IndexOutOfBoundsException" ["java/lang/RuntimeException", "java/lang/Exception"]).filter goodWord ++ (vx_atS RX2 152 "java/lang/IllegalArgumentException" ["java/lang/RuntimeException", "java/lang/Exception"]).filter goodWord)
def wsL_grade_r1 : List Cond := [Cond.classLink RL 15 "java/lang/IllegalStateException", Cond.methodLink RL 30 yX2_grade, Cond.instanceMethod yX2_grade, Cond.selects RX2 yX2_grade yX2_grade, Cond.initialized RX2, Cond.code yX2_grade cX2_grade 6 (some .int), Cond.classLink RX2 24 "java/lang/IllegalStateException", Cond.initialized "java/lang/IllegalStateException", Cond.fieldLink RX2 87 "ReturnsDesk$Order" "fees" "I", Cond.fieldLink RX2 94 "ReturnsDesk$Line" "reason" "I", Cond.fieldLink RX2 100 "ReturnsDesk$Line" "state" "I", Cond.methodLink RX2 34 yX2_findOrder, Cond.instanceMethod yX2_findOrder, Cond.selects RX2 yX2_findOrder yX2_findOrder, Cond.code yX2_findOrder cX2_findOrder 3 (some (.object "ReturnsDesk$Order")), Cond.classLink RX2 153 "java/lang/IndexOutOfBoundsException", Cond.initialized "java/lang/IndexOutOfBoundsException", Cond.fieldLink RX2 11 "ReturnsDesk" "book" "[LReturnsDesk$Order;", Cond.methodLink RX2 70 yX2_findLine, Cond.static yX2_findLine, Cond.code yX2_findLine cX2_findLine 3 (some (.object "ReturnsDesk$Line")), Cond.fieldLink RX2 158 "ReturnsDesk$Order" "lines" "[LReturnsDesk$Line;", Cond.methodLink RX2 15 yX2_requireRange, Cond.static yX2_requireRange]
def wsL_grade_r2 : List Cond := [Cond.code yX2_requireRange cX2_requireRange 3 none, Cond.classLink RX2 148 "java/lang/IllegalArgumentException", Cond.initialized "java/lang/IllegalArgumentException", Cond.methodLink RX2 82 yX0_isWaitedFor, Cond.instanceMethod yX0_isWaitedFor, Cond.selects RX0 yX0_isWaitedFor yX0_isWaitedFor, Cond.initialized RX0, Cond.code yX0_isWaitedFor cX0_isWaitedFor 1 (some .boolean), Cond.fieldLink RX0 9 "ReturnsDesk$Line" "state" "I", Cond.methodLink RX2 90 yX0_feeFor, Cond.instanceMethod yX0_feeFor, Cond.selects RX0 yX0_feeFor yX0_feeFor, Cond.code yX0_feeFor cX0_feeFor 3 (some .int), Cond.fieldLink RX0 21 "ReturnsDesk$Line" "reason" "I", Cond.methodLink RX0 24 yX0_gradeFee, Cond.instanceMethod yX0_gradeFee, Cond.selects RX0 yX0_gradeFee yX0_gradeFee, Cond.code yX0_gradeFee cX0_gradeFee 2 (some .int), Cond.fieldLink RX0 18 "ReturnsDesk$Line" "kind" "I", Cond.fieldLink RX0 15 "ReturnsDesk$Line" "price" "I", Cond.methodLink RX2 97 yX2_putIntoStock, Cond.instanceMethod yX2_putIntoStock, Cond.selects RX2 yX2_putIntoStock yX2_putIntoStock, Cond.code yX2_putIntoStock cX2_putIntoStock 3 none]
def wsL_grade_r3 : List Cond := [Cond.fieldLink RX2 134 "ReturnsDesk" "newThings" "I", Cond.fieldLink RX2 137 "ReturnsDesk" "secondThings" "I", Cond.fieldLink RX2 140 "ReturnsDesk" "wasteThings" "I", Cond.methodLink RX2 103 yX1_refundSurplus, Cond.instanceMethod yX1_refundSurplus, Cond.selects RX1 yX1_refundSurplus yX1_refundSurplus, Cond.initialized RX1, Cond.code yX1_refundSurplus cX1_refundSurplus 4 (some .int), Cond.methodLink RX1 71 Lib.Math.max.name, Cond.static Lib.Math.max.name, Cond.initialized "java/lang/Math", Cond.code Lib.Math.max.name Lib.Math.max.code 2 (some .int), Cond.fieldLink RX1 43 "ReturnsDesk$Order" "byCard" "I", Cond.methodLink RX1 31 Lib.Math.min.name, Cond.static Lib.Math.min.name, Cond.code Lib.Math.min.name Lib.Math.min.code 2 (some .int), Cond.fieldLink RX1 40 "ReturnsDesk$Order" "byVoucher" "I", Cond.fieldLink RX1 37 "ReturnsDesk$Order" "byPoints" "I", Cond.fieldLink RX1 74 "ReturnsDesk$Order" "refunded" "I", Cond.methodLink RX1 65 yX1_allTaken, Cond.instanceMethod yX1_allTaken, Cond.selects RX1 yX1_allTaken yX1_allTaken, Cond.code yX1_allTaken cX1_allTaken 1 (some .int), Cond.methodLink RX1 68 yX1_owed]
def wsL_grade_r4 : List Cond := [Cond.instanceMethod yX1_owed, Cond.selects RX1 yX1_owed yX1_owed, Cond.code yX1_owed cX1_owed 1 (some .int), Cond.fieldLink RX1 59 "ReturnsDesk$Order" "fees" "I", Cond.fieldLink RX1 62 "ReturnsDesk$Order" "charges" "I", Cond.methodLink RX1 27 yX1_priceAnew, Cond.instanceMethod yX1_priceAnew, Cond.selects RX1 yX1_priceAnew yX1_priceAnew, Cond.code yX1_priceAnew cX1_priceAnew 6 (some .int), Cond.fieldLink RX1 11 "ReturnsDesk$Order" "lines" "[LReturnsDesk$Line;", Cond.fieldLink RX1 53 "ReturnsDesk$Line" "state" "I", Cond.fieldLink RX1 56 "ReturnsDesk$Line" "price" "I", Cond.fieldLink RX1 21 "ReturnsDesk$Order" "least" "I", Cond.fieldLink RX1 17 "ReturnsDesk$Order" "percent" "I"]
def wsL_grade : List Cond := .codeWith yL_grade cL_grade 5 (some .int) [(0, 7, 8, 15)] :: ((wsL_grade_r1 ++ (wsL_grade_r2 ++ (wsL_grade_r3 ++ wsL_grade_r4))) ++ wsX10 ++ wsX00 ++ wsX20 ++ (vx_atS RX2 28 "java/lang/IllegalStateException" ["java/lang/RuntimeException", "java/lang/Exception"]).filter goodWord ++ (vx_atS RX2 157 "java/lang/IndexOutOfBoundsException" ["java/lang/RuntimeException", "java/lang/Exception"]).filter goodWord ++ (vx_atS RX2 152 "java/lang/IllegalArgumentException" ["java/lang/RuntimeException", "java/lang/Exception"]).filter goodWord)
def wsL_all : List Cond := .code yL_all cL_all 2 (some .int) :: ([.methodLink RL 33 yX2_taken, .instanceMethod yX2_taken, .selects RX2 yX2_taken yX2_taken, .initialized RX2, .code yX2_taken cX2_taken 4 (some .int), .fieldLink RX2 67 "ReturnsDesk$Order" "byCard" "I", .fieldLink RX2 113 "ReturnsDesk$Order" "byVoucher" "I", .fieldLink RX2 116 "ReturnsDesk$Order" "byPoints" "I", .methodLink RX2 34 yX2_findOrder, .instanceMethod yX2_findOrder, .selects RX2 yX2_findOrder yX2_findOrder, .code yX2_findOrder cX2_findOrder 3 (some (.object "ReturnsDesk$Order")), .classLink RX2 153 "java/lang/IndexOutOfBoundsException", .initialized "java/lang/IndexOutOfBoundsException", .fieldLink RX2 11 "ReturnsDesk" "book" "[LReturnsDesk$Order;", .methodLink RX2 15 yX2_requireRange, .static yX2_requireRange, .code yX2_requireRange cX2_requireRange 3 none, .classLink RX2 148 "java/lang/IllegalArgumentException", .initialized "java/lang/IllegalArgumentException"] ++ wsX10 ++ wsX20 ++ (vx_atS RX2 157 "java/lang/IndexOutOfBoundsException" ["java/lang/RuntimeException", "java/lang/Exception"]).filter goodWord ++ (vx_atS RX2 152 "java/lang/IllegalArgumentException" ["java/lang/RuntimeException", "java/lang/Exception"]).filter goodWord)
def wsL_sums_r1 : List Cond := [Cond.methodLink RL 36 yX2_price, Cond.instanceMethod yX2_price, Cond.selects RX2 yX2_price yX2_price, Cond.initialized RX2, Cond.code yX2_price cX2_price 2 (some .int), Cond.methodLink RX2 34 yX2_findOrder, Cond.instanceMethod yX2_findOrder, Cond.selects RX2 yX2_findOrder yX2_findOrder, Cond.code yX2_findOrder cX2_findOrder 3 (some (.object "ReturnsDesk$Order")), Cond.classLink RX2 153 "java/lang/IndexOutOfBoundsException", Cond.initialized "java/lang/IndexOutOfBoundsException", Cond.fieldLink RX2 11 "ReturnsDesk" "book" "[LReturnsDesk$Order;", Cond.methodLink RX2 107 yX1_priceAnew, Cond.instanceMethod yX1_priceAnew, Cond.selects RX1 yX1_priceAnew yX1_priceAnew, Cond.initialized RX1, Cond.code yX1_priceAnew cX1_priceAnew 6 (some .int), Cond.fieldLink RX1 11 "ReturnsDesk$Order" "lines" "[LReturnsDesk$Line;", Cond.fieldLink RX1 53 "ReturnsDesk$Line" "state" "I", Cond.fieldLink RX1 56 "ReturnsDesk$Line" "price" "I", Cond.fieldLink RX1 21 "ReturnsDesk$Order" "least" "I", Cond.fieldLink RX1 17 "ReturnsDesk$Order" "percent" "I", Cond.methodLink RL 40 yX2_fees, Cond.instanceMethod yX2_fees]
def wsL_sums_r2 : List Cond := [Cond.selects RX2 yX2_fees yX2_fees, Cond.code yX2_fees cX2_fees 2 (some .int), Cond.fieldLink RX2 87 "ReturnsDesk$Order" "fees" "I", Cond.methodLink RL 43 yX2_charges, Cond.instanceMethod yX2_charges, Cond.selects RX2 yX2_charges yX2_charges, Cond.code yX2_charges cX2_charges 2 (some .int), Cond.fieldLink RX2 110 "ReturnsDesk$Order" "charges" "I", Cond.methodLink RL 46 yL_all, Cond.static yL_all, Cond.initialized RL, Cond.code yL_all cL_all 2 (some .int), Cond.methodLink RL 33 yX2_taken, Cond.instanceMethod yX2_taken, Cond.selects RX2 yX2_taken yX2_taken, Cond.code yX2_taken cX2_taken 4 (some .int), Cond.fieldLink RX2 67 "ReturnsDesk$Order" "byCard" "I", Cond.fieldLink RX2 113 "ReturnsDesk$Order" "byVoucher" "I", Cond.fieldLink RX2 116 "ReturnsDesk$Order" "byPoints" "I", Cond.methodLink RX2 15 yX2_requireRange, Cond.static yX2_requireRange, Cond.code yX2_requireRange cX2_requireRange 3 none, Cond.classLink RX2 148 "java/lang/IllegalArgumentException", Cond.initialized "java/lang/IllegalArgumentException"]
def wsL_sums_r3 : List Cond := [Cond.methodLink RL 52 yX2_refunded, Cond.instanceMethod yX2_refunded, Cond.selects RX2 yX2_refunded yX2_refunded, Cond.code yX2_refunded cX2_refunded 2 (some .int), Cond.fieldLink RX2 119 "ReturnsDesk$Order" "refunded" "I", Cond.methodLink RL 55 yX2_isShortBy, Cond.instanceMethod yX2_isShortBy, Cond.selects RX2 yX2_isShortBy yX2_isShortBy, Cond.code yX2_isShortBy cX2_isShortBy 3 (some .int), Cond.fieldLink RX2 39 "ReturnsDesk$Order" "isPaid" "Z", Cond.methodLink RX2 128 Lib.Math.max.name, Cond.static Lib.Math.max.name, Cond.initialized "java/lang/Math", Cond.code Lib.Math.max.name Lib.Math.max.code 2 (some .int), Cond.methodLink RX2 122 yX1_owed, Cond.instanceMethod yX1_owed, Cond.selects RX1 yX1_owed yX1_owed, Cond.code yX1_owed cX1_owed 1 (some .int), Cond.fieldLink RX1 59 "ReturnsDesk$Order" "fees" "I", Cond.fieldLink RX1 62 "ReturnsDesk$Order" "charges" "I", Cond.methodLink RX1 27 yX1_priceAnew, Cond.methodLink RX2 125 yX1_allTaken, Cond.instanceMethod yX1_allTaken, Cond.selects RX1 yX1_allTaken yX1_allTaken]
def wsL_sums_r4 : List Cond := [Cond.code yX1_allTaken cX1_allTaken 1 (some .int), Cond.fieldLink RX1 43 "ReturnsDesk$Order" "byCard" "I", Cond.fieldLink RX1 40 "ReturnsDesk$Order" "byVoucher" "I", Cond.fieldLink RX1 37 "ReturnsDesk$Order" "byPoints" "I"]
def wsL_sums : List Cond := .code yL_sums cL_sums 6 (some .boolean) :: ((wsL_sums_r1 ++ (wsL_sums_r2 ++ (wsL_sums_r3 ++ wsL_sums_r4))) ++ wsX20 ++ wsX10 ++ wsX00 ++ (vx_atS RX2 157 "java/lang/IndexOutOfBoundsException" ["java/lang/RuntimeException", "java/lang/Exception"]).filter goodWord ++ (vx_atS RX2 152 "java/lang/IllegalArgumentException" ["java/lang/RuntimeException", "java/lang/Exception"]).filter goodWord)
def wsL_returns_r1 : List Cond := [Cond.methodLink RL 58 yX2_state, Cond.instanceMethod yX2_state, Cond.selects RX2 yX2_state yX2_state, Cond.initialized RX2, Cond.code yX2_state cX2_state 3 (some .int), Cond.fieldLink RX2 100 "ReturnsDesk$Line" "state" "I", Cond.methodLink RX2 34 yX2_findOrder, Cond.instanceMethod yX2_findOrder, Cond.selects RX2 yX2_findOrder yX2_findOrder, Cond.code yX2_findOrder cX2_findOrder 3 (some (.object "ReturnsDesk$Order")), Cond.classLink RX2 153 "java/lang/IndexOutOfBoundsException", Cond.initialized "java/lang/IndexOutOfBoundsException", Cond.fieldLink RX2 11 "ReturnsDesk" "book" "[LReturnsDesk$Order;", Cond.methodLink RX2 70 yX2_findLine, Cond.static yX2_findLine, Cond.code yX2_findLine cX2_findLine 3 (some (.object "ReturnsDesk$Line")), Cond.fieldLink RX2 158 "ReturnsDesk$Order" "lines" "[LReturnsDesk$Line;", Cond.methodLink RL 61 yL_low, Cond.static yL_low, Cond.initialized RL, Cond.code yL_low cL_low 2 (some .int), Cond.constant RL 7 (2147483647), Cond.methodLink RL 46 yL_all, Cond.static yL_all]
def wsL_returns_r2 : List Cond := [Cond.code yL_all cL_all 2 (some .int), Cond.methodLink RL 33 yX2_taken, Cond.instanceMethod yX2_taken, Cond.selects RX2 yX2_taken yX2_taken, Cond.code yX2_taken cX2_taken 4 (some .int), Cond.fieldLink RX2 67 "ReturnsDesk$Order" "byCard" "I", Cond.fieldLink RX2 113 "ReturnsDesk$Order" "byVoucher" "I", Cond.fieldLink RX2 116 "ReturnsDesk$Order" "byPoints" "I", Cond.methodLink RX2 15 yX2_requireRange, Cond.static yX2_requireRange, Cond.code yX2_requireRange cX2_requireRange 3 none, Cond.classLink RX2 148 "java/lang/IllegalArgumentException", Cond.initialized "java/lang/IllegalArgumentException", Cond.methodLink RL 52 yX2_refunded, Cond.instanceMethod yX2_refunded, Cond.selects RX2 yX2_refunded yX2_refunded, Cond.code yX2_refunded cX2_refunded 2 (some .int), Cond.fieldLink RX2 119 "ReturnsDesk$Order" "refunded" "I", Cond.methodLink RL 64 yX2_stock, Cond.instanceMethod yX2_stock, Cond.selects RX2 yX2_stock yX2_stock, Cond.code yX2_stock cX2_stock 2 (some .int), Cond.fieldLink RX2 134 "ReturnsDesk" "newThings" "I", Cond.fieldLink RX2 137 "ReturnsDesk" "secondThings" "I"]
def wsL_returns_r3 : List Cond := [Cond.fieldLink RX2 140 "ReturnsDesk" "wasteThings" "I", Cond.methodLink RL 30 yX2_grade, Cond.instanceMethod yX2_grade, Cond.selects RX2 yX2_grade yX2_grade, Cond.code yX2_grade cX2_grade 6 (some .int), Cond.classLink RX2 24 "java/lang/IllegalStateException", Cond.initialized "java/lang/IllegalStateException", Cond.fieldLink RX2 87 "ReturnsDesk$Order" "fees" "I", Cond.fieldLink RX2 94 "ReturnsDesk$Line" "reason" "I", Cond.methodLink RX2 82 yX0_isWaitedFor, Cond.instanceMethod yX0_isWaitedFor, Cond.selects RX0 yX0_isWaitedFor yX0_isWaitedFor, Cond.initialized RX0, Cond.code yX0_isWaitedFor cX0_isWaitedFor 1 (some .boolean), Cond.fieldLink RX0 9 "ReturnsDesk$Line" "state" "I", Cond.methodLink RX2 90 yX0_feeFor, Cond.instanceMethod yX0_feeFor, Cond.selects RX0 yX0_feeFor yX0_feeFor, Cond.code yX0_feeFor cX0_feeFor 3 (some .int), Cond.fieldLink RX0 21 "ReturnsDesk$Line" "reason" "I", Cond.methodLink RX0 24 yX0_gradeFee, Cond.instanceMethod yX0_gradeFee, Cond.selects RX0 yX0_gradeFee yX0_gradeFee, Cond.code yX0_gradeFee cX0_gradeFee 2 (some .int)]
def wsL_returns_r4 : List Cond := [Cond.fieldLink RX0 18 "ReturnsDesk$Line" "kind" "I", Cond.fieldLink RX0 15 "ReturnsDesk$Line" "price" "I", Cond.methodLink RX2 97 yX2_putIntoStock, Cond.instanceMethod yX2_putIntoStock, Cond.selects RX2 yX2_putIntoStock yX2_putIntoStock, Cond.code yX2_putIntoStock cX2_putIntoStock 3 none, Cond.methodLink RX2 103 yX1_refundSurplus, Cond.instanceMethod yX1_refundSurplus, Cond.selects RX1 yX1_refundSurplus yX1_refundSurplus, Cond.initialized RX1, Cond.code yX1_refundSurplus cX1_refundSurplus 4 (some .int), Cond.methodLink RX1 71 Lib.Math.max.name, Cond.static Lib.Math.max.name, Cond.initialized "java/lang/Math", Cond.code Lib.Math.max.name Lib.Math.max.code 2 (some .int), Cond.fieldLink RX1 43 "ReturnsDesk$Order" "byCard" "I", Cond.methodLink RX1 31 Lib.Math.min.name, Cond.static Lib.Math.min.name, Cond.code Lib.Math.min.name Lib.Math.min.code 2 (some .int), Cond.fieldLink RX1 40 "ReturnsDesk$Order" "byVoucher" "I", Cond.fieldLink RX1 37 "ReturnsDesk$Order" "byPoints" "I", Cond.fieldLink RX1 74 "ReturnsDesk$Order" "refunded" "I", Cond.methodLink RX1 65 yX1_allTaken, Cond.instanceMethod yX1_allTaken]
def wsL_returns_r5 : List Cond := [Cond.selects RX1 yX1_allTaken yX1_allTaken, Cond.code yX1_allTaken cX1_allTaken 1 (some .int), Cond.methodLink RX1 68 yX1_owed, Cond.instanceMethod yX1_owed, Cond.selects RX1 yX1_owed yX1_owed, Cond.code yX1_owed cX1_owed 1 (some .int), Cond.fieldLink RX1 59 "ReturnsDesk$Order" "fees" "I", Cond.fieldLink RX1 62 "ReturnsDesk$Order" "charges" "I", Cond.methodLink RX1 27 yX1_priceAnew, Cond.instanceMethod yX1_priceAnew, Cond.selects RX1 yX1_priceAnew yX1_priceAnew, Cond.code yX1_priceAnew cX1_priceAnew 6 (some .int), Cond.fieldLink RX1 11 "ReturnsDesk$Order" "lines" "[LReturnsDesk$Line;", Cond.fieldLink RX1 53 "ReturnsDesk$Line" "state" "I", Cond.fieldLink RX1 56 "ReturnsDesk$Line" "price" "I", Cond.fieldLink RX1 21 "ReturnsDesk$Order" "least" "I", Cond.fieldLink RX1 17 "ReturnsDesk$Order" "percent" "I", Cond.methodLink RL 55 yX2_isShortBy, Cond.instanceMethod yX2_isShortBy, Cond.selects RX2 yX2_isShortBy yX2_isShortBy, Cond.code yX2_isShortBy cX2_isShortBy 3 (some .int), Cond.fieldLink RX2 39 "ReturnsDesk$Order" "isPaid" "Z", Cond.methodLink RX2 128 Lib.Math.max.name, Cond.methodLink RX2 122 yX1_owed]
def wsL_returns_r6 : List Cond := [Cond.methodLink RX2 125 yX1_allTaken, Cond.methodLink RL 67 yX2_mayComeBack, Cond.instanceMethod yX2_mayComeBack, Cond.selects RX2 yX2_mayComeBack yX2_mayComeBack, Cond.code yX2_mayComeBack cX2_mayComeBack 6 (some .boolean), Cond.methodLink RX2 74 yX2_isReturnable, Cond.instanceMethod yX2_isReturnable, Cond.selects RX2 yX2_isReturnable yX2_isReturnable, Cond.code yX2_isReturnable cX2_isReturnable 4 (some .boolean), Cond.fieldLink RX2 61 "ReturnsDesk" "today" "I", Cond.fieldLink RX2 164 "ReturnsDesk$Order" "paidOn" "I", Cond.methodLink RX2 167 yX0_spanFor, Cond.instanceMethod yX0_spanFor, Cond.selects RX0 yX0_spanFor yX0_spanFor, Cond.code yX0_spanFor cX0_spanFor 2 (some .int), Cond.methodLink RL 71 yL_ask, Cond.static yL_ask, Cond.codeWith yL_ask cL_ask 5 (some .int) [(0, 7, 8, 15)], Cond.classLink RL 15 "java/lang/IllegalStateException", Cond.methodLink RL 24 yX2_ask, Cond.instanceMethod yX2_ask, Cond.selects RX2 yX2_ask yX2_ask, Cond.code yX2_ask cX2_ask 4 (some .int), Cond.methodLink RX2 78 yX2_startWait]
def wsL_returns_r7 : List Cond := [Cond.instanceMethod yX2_startWait, Cond.selects RX2 yX2_startWait yX2_startWait, Cond.code yX2_startWait cX2_startWait 7 (some .int), Cond.fieldLink RX2 172 "ReturnsDesk$Line" "waitEnds" "I", Cond.methodLink RL 74 yL_exchange, Cond.static yL_exchange, Cond.codeWith yL_exchange cL_exchange 5 (some .int) [(0, 7, 8, 15)], Cond.methodLink RL 27 yX2_exchange, Cond.instanceMethod yX2_exchange, Cond.selects RX2 yX2_exchange yX2_exchange, Cond.code yX2_exchange cX2_exchange 4 (some .int), Cond.methodLink RL 76 yL_grade, Cond.static yL_grade, Cond.codeWith yL_grade cL_grade 5 (some .int) [(0, 7, 8, 15)], Cond.methodLink RL 78 yX2_day, Cond.instanceMethod yX2_day, Cond.selects RX2 yX2_day yX2_day, Cond.code yX2_day cX2_day 1 (some .int)]
def wsL_returns : List Cond := .code yL_returns cL_returns 11 (some .boolean) :: ((wsL_returns_r1 ++ (wsL_returns_r2 ++ (wsL_returns_r3 ++ (wsL_returns_r4 ++ (wsL_returns_r5 ++ (wsL_returns_r6 ++ wsL_returns_r7)))))) ++ wsX00 ++ wsX20 ++ wsX10 ++ (vx_atS RX2 157 "java/lang/IndexOutOfBoundsException" ["java/lang/RuntimeException", "java/lang/Exception"]).filter goodWord ++ (vx_atS RX2 152 "java/lang/IllegalArgumentException" ["java/lang/RuntimeException", "java/lang/Exception"]).filter goodWord ++ (vx_atS RX2 28 "java/lang/IllegalStateException" ["java/lang/RuntimeException", "java/lang/Exception"]).filter goodWord)
theorem inJ9 : ∀ w ∈ wsJ90, w ∈ lw_tbl := by decide +kernel
theorem inJ0 : ∀ w ∈ wsJ00, w ∈ lw_tbl := by decide +kernel
theorem dJ9_max_7cf53_0 : decode cJ9_max_7cf53 0 = .ok (.iload_n 0, 1) := by decide +kernel
theorem dJ9_max_7cf53_1 : decode cJ9_max_7cf53 1 = .ok (.iload_n 1, 1) := by decide +kernel
theorem dJ9_max_7cf53_2 : decode cJ9_max_7cf53 2 = .ok (.if_icmp .lt 7, 3) := by decide +kernel
theorem dJ9_max_7cf53_5 : decode cJ9_max_7cf53 5 = .ok (.iload_n 0, 1) := by decide +kernel
theorem dJ9_max_7cf53_6 : decode cJ9_max_7cf53 6 = .ok (.goto 4, 3) := by decide +kernel
theorem dJ9_max_7cf53_9 : decode cJ9_max_7cf53 9 = .ok (.iload_n 1, 1) := by decide +kernel
theorem dJ9_max_7cf53_10 : decode cJ9_max_7cf53 10 = .ok (.ireturn, 1) := by decide +kernel
theorem dJ9_min_7cf53_0 : decode cJ9_min_7cf53 0 = .ok (.iload_n 0, 1) := by decide +kernel
theorem dJ9_min_7cf53_1 : decode cJ9_min_7cf53 1 = .ok (.iload_n 1, 1) := by decide +kernel
theorem dJ9_min_7cf53_2 : decode cJ9_min_7cf53 2 = .ok (.if_icmp .gt 7, 3) := by decide +kernel
theorem dJ9_min_7cf53_5 : decode cJ9_min_7cf53 5 = .ok (.iload_n 0, 1) := by decide +kernel
theorem dJ9_min_7cf53_6 : decode cJ9_min_7cf53 6 = .ok (.goto 4, 3) := by decide +kernel
theorem dJ9_min_7cf53_9 : decode cJ9_min_7cf53 9 = .ok (.iload_n 1, 1) := by decide +kernel
theorem dJ9_min_7cf53_10 : decode cJ9_min_7cf53 10 = .ok (.ireturn, 1) := by decide +kernel
abbrev vwCl : List vw_C := [(RX0, TX0, 5), (RX1, TX1, 12), (RX2, TX2, 6)]
end
section
theorem dX0_init_0 : decode cX0_init 0 = .ok (.aload_n 0, 1) := by decide +kernel
theorem dX0_init_1 : decode cX0_init 1 = .ok (.invokespecial 3, 3) := by decide +kernel
theorem dX0_init_4 : decode cX0_init 4 = .ok (.aload_n 0, 1) := by decide +kernel
theorem dX0_init_5 : decode cX0_init 5 = .ok (.iconst 0, 1) := by decide +kernel
theorem dX0_init_6 : decode cX0_init 6 = .ok (.putfield 9, 3) := by decide +kernel
theorem dX0_init_9 : decode cX0_init 9 = .ok (.aload_n 0, 1) := by decide +kernel
theorem dX0_init_10 : decode cX0_init 10 = .ok (.iload_n 1, 1) := by decide +kernel
theorem dX0_init_11 : decode cX0_init 11 = .ok (.putfield 15, 3) := by decide +kernel
theorem dX0_init_14 : decode cX0_init 14 = .ok (.aload_n 0, 1) := by decide +kernel
theorem dX0_init_15 : decode cX0_init 15 = .ok (.iload_n 2, 1) := by decide +kernel
theorem dX0_init_16 : decode cX0_init 16 = .ok (.putfield 18, 3) := by decide +kernel
theorem dX0_init_19 : decode cX0_init 19 = .ok (.return_, 1) := by decide +kernel
theorem dX0_isWaitedFor_0 : decode cX0_isWaitedFor 0 = .ok (.aload_n 0, 1) := by decide +kernel
theorem dX0_isWaitedFor_1 : decode cX0_isWaitedFor 1 = .ok (.getfield 9, 3) := by decide +kernel
theorem dX0_isWaitedFor_4 : decode cX0_isWaitedFor 4 = .ok (.iconst 1, 1) := by decide +kernel
theorem dX0_isWaitedFor_5 : decode cX0_isWaitedFor 5 = .ok (.if_icmp .eq 11, 3) := by decide +kernel
theorem dX0_isWaitedFor_8 : decode cX0_isWaitedFor 8 = .ok (.aload_n 0, 1) := by decide +kernel
theorem dX0_isWaitedFor_9 : decode cX0_isWaitedFor 9 = .ok (.getfield 9, 3) := by decide +kernel
theorem dX0_isWaitedFor_12 : decode cX0_isWaitedFor 12 = .ok (.iconst 2, 1) := by decide +kernel
theorem dX0_isWaitedFor_13 : decode cX0_isWaitedFor 13 = .ok (.if_icmp .ne 7, 3) := by decide +kernel
theorem dX0_isWaitedFor_16 : decode cX0_isWaitedFor 16 = .ok (.iconst 1, 1) := by decide +kernel
theorem dX0_isWaitedFor_17 : decode cX0_isWaitedFor 17 = .ok (.goto 4, 3) := by decide +kernel
theorem dX0_isWaitedFor_20 : decode cX0_isWaitedFor 20 = .ok (.iconst 0, 1) := by decide +kernel
theorem dX0_isWaitedFor_21 : decode cX0_isWaitedFor 21 = .ok (.ireturn, 1) := by decide +kernel
theorem dX0_spanFor_0 : decode cX0_spanFor 0 = .ok (.iload_n 1, 1) := by decide +kernel
theorem dX0_spanFor_1 : decode cX0_spanFor 1 = .ok (.iconst 1, 1) := by decide +kernel
theorem dX0_spanFor_2 : decode cX0_spanFor 2 = .ok (.if_icmp .ne 7, 3) := by decide +kernel
theorem dX0_spanFor_5 : decode cX0_spanFor 5 = .ok (.sipush 360, 3) := by decide +kernel
theorem dX0_spanFor_8 : decode cX0_spanFor 8 = .ok (.ireturn, 1) := by decide +kernel
theorem dX0_spanFor_9 : decode cX0_spanFor 9 = .ok (.aload_n 0, 1) := by decide +kernel
theorem dX0_spanFor_10 : decode cX0_spanFor 10 = .ok (.getfield 18, 3) := by decide +kernel
theorem dX0_spanFor_13 : decode cX0_spanFor 13 = .ok (.iconst 2, 1) := by decide +kernel
theorem dX0_spanFor_14 : decode cX0_spanFor 14 = .ok (.if_icmp .ne 5, 3) := by decide +kernel
theorem dX0_spanFor_17 : decode cX0_spanFor 17 = .ok (.iconst (-1), 1) := by decide +kernel
theorem dX0_spanFor_18 : decode cX0_spanFor 18 = .ok (.ireturn, 1) := by decide +kernel
theorem dX0_spanFor_19 : decode cX0_spanFor 19 = .ok (.aload_n 0, 1) := by decide +kernel
theorem dX0_spanFor_20 : decode cX0_spanFor 20 = .ok (.getfield 18, 3) := by decide +kernel
theorem dX0_spanFor_23 : decode cX0_spanFor 23 = .ok (.iconst 1, 1) := by decide +kernel
theorem dX0_spanFor_24 : decode cX0_spanFor 24 = .ok (.if_icmp .ne 8, 3) := by decide +kernel
theorem dX0_spanFor_27 : decode cX0_spanFor 27 = .ok (.bipush 14, 2) := by decide +kernel
theorem dX0_spanFor_29 : decode cX0_spanFor 29 = .ok (.goto 5, 3) := by decide +kernel
theorem dX0_spanFor_32 : decode cX0_spanFor 32 = .ok (.bipush 30, 2) := by decide +kernel
theorem dX0_spanFor_34 : decode cX0_spanFor 34 = .ok (.ireturn, 1) := by decide +kernel
set_option maxRecDepth 20000 in
theorem ggX0_feeFor_X0_gradeFee : GoodIn wsX0_feeFor wsX0_gradeFee := goodIn_r _ [6, 1, 7, 8, 9, 10, 11, 12, 13] (by decide +kernel) (by decide +kernel)
set_option maxRecDepth 20000 in
theorem gX0_feeFor_X0_gradeFee : GoodIn wsX0_feeFor (wsV RX0 24 RX0 yX0_gradeFee wsX0_gradeFee) := goodIn_app (goodIn_of _ (by decide +kernel)) ggX0_feeFor_X0_gradeFee
theorem dX0_feeFor_0 : decode cX0_feeFor 0 = .ok (.aload_n 0, 1) := by decide +kernel
theorem dX0_feeFor_1 : decode cX0_feeFor 1 = .ok (.getfield 21, 3) := by decide +kernel
theorem dX0_feeFor_4 : decode cX0_feeFor 4 = .ok (.ifCond .ne 9, 3) := by decide +kernel
theorem dX0_feeFor_7 : decode cX0_feeFor 7 = .ok (.sipush 500, 3) := by decide +kernel
theorem dX0_feeFor_10 : decode cX0_feeFor 10 = .ok (.goto 4, 3) := by decide +kernel
theorem dX0_feeFor_13 : decode cX0_feeFor 13 = .ok (.iconst 0, 1) := by decide +kernel
theorem dX0_feeFor_14 : decode cX0_feeFor 14 = .ok (.istore_n 2, 1) := by decide +kernel
theorem dX0_feeFor_15 : decode cX0_feeFor 15 = .ok (.iload_n 2, 1) := by decide +kernel
theorem dX0_feeFor_16 : decode cX0_feeFor 16 = .ok (.aload_n 0, 1) := by decide +kernel
theorem dX0_feeFor_17 : decode cX0_feeFor 17 = .ok (.iload_n 1, 1) := by decide +kernel
theorem dX0_feeFor_18 : decode cX0_feeFor 18 = .ok (.invokevirtual 24, 3) := by decide +kernel
theorem dX0_feeFor_21 : decode cX0_feeFor 21 = .ok (.iadd, 1) := by decide +kernel
theorem dX0_feeFor_22 : decode cX0_feeFor 22 = .ok (.ireturn, 1) := by decide +kernel
theorem dX0_gradeFee_0 : decode cX0_gradeFee 0 = .ok (.iload_n 1, 1) := by decide +kernel
theorem dX0_gradeFee_1 : decode cX0_gradeFee 1 = .ok (.ifCond .eq 16, 3) := by decide +kernel
theorem dX0_gradeFee_4 : decode cX0_gradeFee 4 = .ok (.aload_n 0, 1) := by decide +kernel
theorem dX0_gradeFee_5 : decode cX0_gradeFee 5 = .ok (.getfield 21, 3) := by decide +kernel
theorem dX0_gradeFee_8 : decode cX0_gradeFee 8 = .ok (.iconst 1, 1) := by decide +kernel
theorem dX0_gradeFee_9 : decode cX0_gradeFee 9 = .ok (.if_icmp .ne 10, 3) := by decide +kernel
theorem dX0_gradeFee_12 : decode cX0_gradeFee 12 = .ok (.iload_n 1, 1) := by decide +kernel
theorem dX0_gradeFee_13 : decode cX0_gradeFee 13 = .ok (.iconst 3, 1) := by decide +kernel
theorem dX0_gradeFee_14 : decode cX0_gradeFee 14 = .ok (.if_icmp .eq 5, 3) := by decide +kernel
theorem dX0_gradeFee_17 : decode cX0_gradeFee 17 = .ok (.iconst 0, 1) := by decide +kernel
theorem dX0_gradeFee_18 : decode cX0_gradeFee 18 = .ok (.ireturn, 1) := by decide +kernel
theorem dX0_gradeFee_19 : decode cX0_gradeFee 19 = .ok (.iload_n 1, 1) := by decide +kernel
theorem dX0_gradeFee_20 : decode cX0_gradeFee 20 = .ok (.iconst 1, 1) := by decide +kernel
theorem dX0_gradeFee_21 : decode cX0_gradeFee 21 = .ok (.if_icmp .ne 27, 3) := by decide +kernel
theorem dX0_gradeFee_24 : decode cX0_gradeFee 24 = .ok (.aload_n 0, 1) := by decide +kernel
theorem dX0_gradeFee_25 : decode cX0_gradeFee 25 = .ok (.getfield 18, 3) := by decide +kernel
theorem dX0_gradeFee_28 : decode cX0_gradeFee 28 = .ok (.iconst 1, 1) := by decide +kernel
theorem dX0_gradeFee_29 : decode cX0_gradeFee 29 = .ok (.if_icmp .ne 12, 3) := by decide +kernel
theorem dX0_gradeFee_32 : decode cX0_gradeFee 32 = .ok (.aload_n 0, 1) := by decide +kernel
theorem dX0_gradeFee_33 : decode cX0_gradeFee 33 = .ok (.getfield 15, 3) := by decide +kernel
theorem dX0_gradeFee_36 : decode cX0_gradeFee 36 = .ok (.iconst 2, 1) := by decide +kernel
theorem dX0_gradeFee_37 : decode cX0_gradeFee 37 = .ok (.idiv, 1) := by decide +kernel
theorem dX0_gradeFee_38 : decode cX0_gradeFee 38 = .ok (.goto 9, 3) := by decide +kernel
theorem dX0_gradeFee_41 : decode cX0_gradeFee 41 = .ok (.aload_n 0, 1) := by decide +kernel
theorem dX0_gradeFee_42 : decode cX0_gradeFee 42 = .ok (.getfield 15, 3) := by decide +kernel
theorem dX0_gradeFee_45 : decode cX0_gradeFee 45 = .ok (.iconst 5, 1) := by decide +kernel
theorem dX0_gradeFee_46 : decode cX0_gradeFee 46 = .ok (.idiv, 1) := by decide +kernel
theorem dX0_gradeFee_47 : decode cX0_gradeFee 47 = .ok (.ireturn, 1) := by decide +kernel
theorem dX0_gradeFee_48 : decode cX0_gradeFee 48 = .ok (.aload_n 0, 1) := by decide +kernel
theorem dX0_gradeFee_49 : decode cX0_gradeFee 49 = .ok (.getfield 15, 3) := by decide +kernel
theorem dX0_gradeFee_52 : decode cX0_gradeFee 52 = .ok (.ireturn, 1) := by decide +kernel
theorem dX1_init_0 : decode cX1_init 0 = .ok (.aload_n 0, 1) := by decide +kernel
theorem dX1_init_1 : decode cX1_init 1 = .ok (.invokespecial 3, 3) := by decide +kernel
theorem dX1_init_4 : decode cX1_init 4 = .ok (.aload_n 0, 1) := by decide +kernel
theorem dX1_init_5 : decode cX1_init 5 = .ok (.bipush 8, 2) := by decide +kernel
theorem dX1_init_7 : decode cX1_init 7 = .ok (.anewarray 9, 3) := by decide +kernel
theorem dX1_init_10 : decode cX1_init 10 = .ok (.putfield 11, 3) := by decide +kernel
theorem dX1_init_13 : decode cX1_init 13 = .ok (.aload_n 0, 1) := by decide +kernel
theorem dX1_init_14 : decode cX1_init 14 = .ok (.iload_n 1, 1) := by decide +kernel
theorem dX1_init_15 : decode cX1_init 15 = .ok (.putfield 17, 3) := by decide +kernel
theorem dX1_init_18 : decode cX1_init 18 = .ok (.aload_n 0, 1) := by decide +kernel
theorem dX1_init_19 : decode cX1_init 19 = .ok (.iload_n 2, 1) := by decide +kernel
theorem dX1_init_20 : decode cX1_init 20 = .ok (.putfield 21, 3) := by decide +kernel
theorem dX1_init_23 : decode cX1_init 23 = .ok (.return_, 1) := by decide +kernel
theorem dX1_hasRoom_0 : decode cX1_hasRoom 0 = .ok (.aload_n 0, 1) := by decide +kernel
theorem dX1_hasRoom_1 : decode cX1_hasRoom 1 = .ok (.getfield 24, 3) := by decide +kernel
theorem dX1_hasRoom_4 : decode cX1_hasRoom 4 = .ok (.aload_n 0, 1) := by decide +kernel
theorem dX1_hasRoom_5 : decode cX1_hasRoom 5 = .ok (.getfield 11, 3) := by decide +kernel
theorem dX1_hasRoom_8 : decode cX1_hasRoom 8 = .ok (.arraylength, 1) := by decide +kernel
theorem dX1_hasRoom_9 : decode cX1_hasRoom 9 = .ok (.if_icmp .ge 7, 3) := by decide +kernel
theorem dX1_hasRoom_12 : decode cX1_hasRoom 12 = .ok (.iconst 1, 1) := by decide +kernel
theorem dX1_hasRoom_13 : decode cX1_hasRoom 13 = .ok (.goto 4, 3) := by decide +kernel
theorem dX1_hasRoom_16 : decode cX1_hasRoom 16 = .ok (.iconst 0, 1) := by decide +kernel
theorem dX1_hasRoom_17 : decode cX1_hasRoom 17 = .ok (.ireturn, 1) := by decide +kernel
theorem dX1_addLine_0 : decode cX1_addLine 0 = .ok (.aload_n 0, 1) := by decide +kernel
theorem dX1_addLine_1 : decode cX1_addLine 1 = .ok (.getfield 24, 3) := by decide +kernel
theorem dX1_addLine_4 : decode cX1_addLine 4 = .ok (.istore_n 2, 1) := by decide +kernel
theorem dX1_addLine_5 : decode cX1_addLine 5 = .ok (.iload_n 2, 1) := by decide +kernel
theorem dX1_addLine_6 : decode cX1_addLine 6 = .ok (.ifCond .lt 29, 3) := by decide +kernel
theorem dX1_addLine_9 : decode cX1_addLine 9 = .ok (.iload_n 2, 1) := by decide +kernel
theorem dX1_addLine_10 : decode cX1_addLine 10 = .ok (.aload_n 0, 1) := by decide +kernel
theorem dX1_addLine_11 : decode cX1_addLine 11 = .ok (.getfield 11, 3) := by decide +kernel
theorem dX1_addLine_14 : decode cX1_addLine 14 = .ok (.arraylength, 1) := by decide +kernel
theorem dX1_addLine_15 : decode cX1_addLine 15 = .ok (.if_icmp .ge 20, 3) := by decide +kernel
theorem dX1_addLine_18 : decode cX1_addLine 18 = .ok (.aload_n 0, 1) := by decide +kernel
theorem dX1_addLine_19 : decode cX1_addLine 19 = .ok (.getfield 11, 3) := by decide +kernel
theorem dX1_addLine_22 : decode cX1_addLine 22 = .ok (.iload_n 2, 1) := by decide +kernel
theorem dX1_addLine_23 : decode cX1_addLine 23 = .ok (.aload_n 1, 1) := by decide +kernel
theorem dX1_addLine_24 : decode cX1_addLine 24 = .ok (.aastore, 1) := by decide +kernel
theorem dX1_addLine_25 : decode cX1_addLine 25 = .ok (.aload_n 0, 1) := by decide +kernel
theorem dX1_addLine_26 : decode cX1_addLine 26 = .ok (.dup, 1) := by decide +kernel
theorem dX1_addLine_27 : decode cX1_addLine 27 = .ok (.getfield 24, 3) := by decide +kernel
theorem dX1_addLine_30 : decode cX1_addLine 30 = .ok (.iconst 1, 1) := by decide +kernel
theorem dX1_addLine_31 : decode cX1_addLine 31 = .ok (.iadd, 1) := by decide +kernel
theorem dX1_addLine_32 : decode cX1_addLine 32 = .ok (.putfield 24, 3) := by decide +kernel
theorem dX1_addLine_35 : decode cX1_addLine 35 = .ok (.iload_n 2, 1) := by decide +kernel
theorem dX1_addLine_36 : decode cX1_addLine 36 = .ok (.ireturn, 1) := by decide +kernel
set_option maxRecDepth 20000 in
theorem ggX1_settle_X1_priceAnew : GoodIn wsX1_settle wsX1_priceAnew := goodIn_r _ [14, 15, 16, 17, 18, 19, 20, 21, 22, 23, 24, 25, 26, 27, 28, 29, 30, 31, 32, 33, 34, 35, 36] (by decide +kernel) (by decide +kernel)
set_option maxRecDepth 20000 in
theorem gX1_settle_X1_priceAnew : GoodIn wsX1_settle (wsV RX1 27 RX1 yX1_priceAnew wsX1_priceAnew) := goodIn_app (goodIn_of _ (by decide +kernel)) ggX1_settle_X1_priceAnew
theorem dX1_settle_0 : decode cX1_settle 0 = .ok (.aload_n 0, 1) := by decide +kernel
theorem dX1_settle_1 : decode cX1_settle 1 = .ok (.invokevirtual 27, 3) := by decide +kernel
theorem dX1_settle_4 : decode cX1_settle 4 = .ok (.istore 4, 2) := by decide +kernel
theorem dX1_settle_6 : decode cX1_settle 6 = .ok (.aload_n 0, 1) := by decide +kernel
theorem dX1_settle_7 : decode cX1_settle 7 = .ok (.iload_n 1, 1) := by decide +kernel
theorem dX1_settle_8 : decode cX1_settle 8 = .ok (.iload 4, 2) := by decide +kernel
theorem dX1_settle_10 : decode cX1_settle 10 = .ok (.invokestatic 31, 3) := by decide +kernel
theorem dX1_settle_13 : decode cX1_settle 13 = .ok (.putfield 37, 3) := by decide +kernel
theorem dX1_settle_16 : decode cX1_settle 16 = .ok (.aload_n 0, 1) := by decide +kernel
theorem dX1_settle_17 : decode cX1_settle 17 = .ok (.iload_n 2, 1) := by decide +kernel
theorem dX1_settle_18 : decode cX1_settle 18 = .ok (.iload 4, 2) := by decide +kernel
theorem dX1_settle_20 : decode cX1_settle 20 = .ok (.aload_n 0, 1) := by decide +kernel
theorem dX1_settle_21 : decode cX1_settle 21 = .ok (.getfield 37, 3) := by decide +kernel
theorem dX1_settle_24 : decode cX1_settle 24 = .ok (.isub, 1) := by decide +kernel
theorem dX1_settle_25 : decode cX1_settle 25 = .ok (.invokestatic 31, 3) := by decide +kernel
theorem dX1_settle_28 : decode cX1_settle 28 = .ok (.putfield 40, 3) := by decide +kernel
theorem dX1_settle_31 : decode cX1_settle 31 = .ok (.aload_n 0, 1) := by decide +kernel
theorem dX1_settle_32 : decode cX1_settle 32 = .ok (.iload 4, 2) := by decide +kernel
theorem dX1_settle_34 : decode cX1_settle 34 = .ok (.aload_n 0, 1) := by decide +kernel
theorem dX1_settle_35 : decode cX1_settle 35 = .ok (.getfield 37, 3) := by decide +kernel
theorem dX1_settle_38 : decode cX1_settle 38 = .ok (.isub, 1) := by decide +kernel
theorem dX1_settle_39 : decode cX1_settle 39 = .ok (.aload_n 0, 1) := by decide +kernel
theorem dX1_settle_40 : decode cX1_settle 40 = .ok (.getfield 40, 3) := by decide +kernel
theorem dX1_settle_43 : decode cX1_settle 43 = .ok (.isub, 1) := by decide +kernel
theorem dX1_settle_44 : decode cX1_settle 44 = .ok (.putfield 43, 3) := by decide +kernel
theorem dX1_settle_47 : decode cX1_settle 47 = .ok (.aload_n 0, 1) := by decide +kernel
theorem dX1_settle_48 : decode cX1_settle 48 = .ok (.iconst 1, 1) := by decide +kernel
theorem dX1_settle_49 : decode cX1_settle 49 = .ok (.putfield 46, 3) := by decide +kernel
theorem dX1_settle_52 : decode cX1_settle 52 = .ok (.aload_n 0, 1) := by decide +kernel
theorem dX1_settle_53 : decode cX1_settle 53 = .ok (.iload_n 3, 1) := by decide +kernel
theorem dX1_settle_54 : decode cX1_settle 54 = .ok (.putfield 50, 3) := by decide +kernel
theorem dX1_settle_57 : decode cX1_settle 57 = .ok (.return_, 1) := by decide +kernel
theorem dX1_priceAnew_0 : decode cX1_priceAnew 0 = .ok (.iconst 0, 1) := by decide +kernel
theorem dX1_priceAnew_1 : decode cX1_priceAnew 1 = .ok (.istore_n 1, 1) := by decide +kernel
theorem dX1_priceAnew_2 : decode cX1_priceAnew 2 = .ok (.aload_n 0, 1) := by decide +kernel
theorem dX1_priceAnew_3 : decode cX1_priceAnew 3 = .ok (.getfield 11, 3) := by decide +kernel
theorem dX1_priceAnew_6 : decode cX1_priceAnew 6 = .ok (.astore_n 2, 1) := by decide +kernel
theorem dX1_priceAnew_7 : decode cX1_priceAnew 7 = .ok (.aload_n 2, 1) := by decide +kernel
theorem dX1_priceAnew_8 : decode cX1_priceAnew 8 = .ok (.arraylength, 1) := by decide +kernel
theorem dX1_priceAnew_9 : decode cX1_priceAnew 9 = .ok (.istore_n 3, 1) := by decide +kernel
theorem dX1_priceAnew_10 : decode cX1_priceAnew 10 = .ok (.iconst 0, 1) := by decide +kernel
theorem dX1_priceAnew_11 : decode cX1_priceAnew 11 = .ok (.istore 4, 2) := by decide +kernel
theorem dX1_priceAnew_13 : decode cX1_priceAnew 13 = .ok (.iload 4, 2) := by decide +kernel
theorem dX1_priceAnew_15 : decode cX1_priceAnew 15 = .ok (.iload_n 3, 1) := by decide +kernel
theorem dX1_priceAnew_16 : decode cX1_priceAnew 16 = .ok (.if_icmp .ge 37, 3) := by decide +kernel
theorem dX1_priceAnew_19 : decode cX1_priceAnew 19 = .ok (.aload_n 2, 1) := by decide +kernel
theorem dX1_priceAnew_20 : decode cX1_priceAnew 20 = .ok (.iload 4, 2) := by decide +kernel
theorem dX1_priceAnew_22 : decode cX1_priceAnew 22 = .ok (.aaload, 1) := by decide +kernel
theorem dX1_priceAnew_23 : decode cX1_priceAnew 23 = .ok (.astore 5, 2) := by decide +kernel
theorem dX1_priceAnew_25 : decode cX1_priceAnew 25 = .ok (.aload 5, 2) := by decide +kernel
theorem dX1_priceAnew_27 : decode cX1_priceAnew 27 = .ok (.ifnull 20, 3) := by decide +kernel
theorem dX1_priceAnew_30 : decode cX1_priceAnew 30 = .ok (.aload 5, 2) := by decide +kernel
theorem dX1_priceAnew_32 : decode cX1_priceAnew 32 = .ok (.getfield 53, 3) := by decide +kernel
theorem dX1_priceAnew_35 : decode cX1_priceAnew 35 = .ok (.iconst 3, 1) := by decide +kernel
theorem dX1_priceAnew_36 : decode cX1_priceAnew 36 = .ok (.if_icmp .eq 11, 3) := by decide +kernel
theorem dX1_priceAnew_39 : decode cX1_priceAnew 39 = .ok (.iload_n 1, 1) := by decide +kernel
theorem dX1_priceAnew_40 : decode cX1_priceAnew 40 = .ok (.aload 5, 2) := by decide +kernel
theorem dX1_priceAnew_42 : decode cX1_priceAnew 42 = .ok (.getfield 56, 3) := by decide +kernel
theorem dX1_priceAnew_45 : decode cX1_priceAnew 45 = .ok (.iadd, 1) := by decide +kernel
theorem dX1_priceAnew_46 : decode cX1_priceAnew 46 = .ok (.istore_n 1, 1) := by decide +kernel
theorem dX1_priceAnew_47 : decode cX1_priceAnew 47 = .ok (.iinc 4 1, 3) := by decide +kernel
theorem dX1_priceAnew_50 : decode cX1_priceAnew 50 = .ok (.goto (-37), 3) := by decide +kernel
theorem dX1_priceAnew_53 : decode cX1_priceAnew 53 = .ok (.iload_n 1, 1) := by decide +kernel
theorem dX1_priceAnew_54 : decode cX1_priceAnew 54 = .ok (.aload_n 0, 1) := by decide +kernel
theorem dX1_priceAnew_55 : decode cX1_priceAnew 55 = .ok (.getfield 21, 3) := by decide +kernel
theorem dX1_priceAnew_58 : decode cX1_priceAnew 58 = .ok (.if_icmp .lt 17, 3) := by decide +kernel
theorem dX1_priceAnew_61 : decode cX1_priceAnew 61 = .ok (.iload_n 1, 1) := by decide +kernel
theorem dX1_priceAnew_62 : decode cX1_priceAnew 62 = .ok (.iload_n 1, 1) := by decide +kernel
theorem dX1_priceAnew_63 : decode cX1_priceAnew 63 = .ok (.aload_n 0, 1) := by decide +kernel
theorem dX1_priceAnew_64 : decode cX1_priceAnew 64 = .ok (.getfield 17, 3) := by decide +kernel
theorem dX1_priceAnew_67 : decode cX1_priceAnew 67 = .ok (.imul, 1) := by decide +kernel
theorem dX1_priceAnew_68 : decode cX1_priceAnew 68 = .ok (.bipush 100, 2) := by decide +kernel
theorem dX1_priceAnew_70 : decode cX1_priceAnew 70 = .ok (.idiv, 1) := by decide +kernel
theorem dX1_priceAnew_71 : decode cX1_priceAnew 71 = .ok (.isub, 1) := by decide +kernel
theorem dX1_priceAnew_72 : decode cX1_priceAnew 72 = .ok (.goto 4, 3) := by decide +kernel
theorem dX1_priceAnew_75 : decode cX1_priceAnew 75 = .ok (.iload_n 1, 1) := by decide +kernel
theorem dX1_priceAnew_76 : decode cX1_priceAnew 76 = .ok (.ireturn, 1) := by decide +kernel
set_option maxRecDepth 20000 in
theorem ggX1_owed_X1_priceAnew : GoodIn wsX1_owed wsX1_priceAnew := goodIn_r _ [7, 8, 9, 10, 11, 12, 13, 14, 15, 16, 17, 18, 19, 20, 21, 22, 23, 24, 25, 26, 27, 28, 29] (by decide +kernel) (by decide +kernel)
set_option maxRecDepth 20000 in
theorem gX1_owed_X1_priceAnew : GoodIn wsX1_owed (wsV RX1 27 RX1 yX1_priceAnew wsX1_priceAnew) := goodIn_app (goodIn_of _ (by decide +kernel)) ggX1_owed_X1_priceAnew
theorem dX1_owed_0 : decode cX1_owed 0 = .ok (.aload_n 0, 1) := by decide +kernel
theorem dX1_owed_1 : decode cX1_owed 1 = .ok (.invokevirtual 27, 3) := by decide +kernel
theorem dX1_owed_4 : decode cX1_owed 4 = .ok (.aload_n 0, 1) := by decide +kernel
theorem dX1_owed_5 : decode cX1_owed 5 = .ok (.getfield 59, 3) := by decide +kernel
theorem dX1_owed_8 : decode cX1_owed 8 = .ok (.iadd, 1) := by decide +kernel
theorem dX1_owed_9 : decode cX1_owed 9 = .ok (.aload_n 0, 1) := by decide +kernel
theorem dX1_owed_10 : decode cX1_owed 10 = .ok (.getfield 62, 3) := by decide +kernel
theorem dX1_owed_13 : decode cX1_owed 13 = .ok (.iadd, 1) := by decide +kernel
theorem dX1_owed_14 : decode cX1_owed 14 = .ok (.ireturn, 1) := by decide +kernel
theorem dX1_allTaken_0 : decode cX1_allTaken 0 = .ok (.aload_n 0, 1) := by decide +kernel
theorem dX1_allTaken_1 : decode cX1_allTaken 1 = .ok (.getfield 43, 3) := by decide +kernel
theorem dX1_allTaken_4 : decode cX1_allTaken 4 = .ok (.aload_n 0, 1) := by decide +kernel
theorem dX1_allTaken_5 : decode cX1_allTaken 5 = .ok (.getfield 40, 3) := by decide +kernel
theorem dX1_allTaken_8 : decode cX1_allTaken 8 = .ok (.iadd, 1) := by decide +kernel
theorem dX1_allTaken_9 : decode cX1_allTaken 9 = .ok (.aload_n 0, 1) := by decide +kernel
theorem dX1_allTaken_10 : decode cX1_allTaken 10 = .ok (.getfield 37, 3) := by decide +kernel
theorem dX1_allTaken_13 : decode cX1_allTaken 13 = .ok (.iadd, 1) := by decide +kernel
theorem dX1_allTaken_14 : decode cX1_allTaken 14 = .ok (.ireturn, 1) := by decide +kernel
set_option maxRecDepth 20000 in
theorem ggX1_refundSurplus_X1_allTaken : GoodIn wsX1_refundSurplus wsX1_allTaken := goodIn_r _ [16, 5, 9, 10, 32, 33, 34, 35, 36, 37, 38, 39, 40, 41, 42, 43] (by decide +kernel) (by decide +kernel)
set_option maxRecDepth 20000 in
theorem gX1_refundSurplus_X1_allTaken : GoodIn wsX1_refundSurplus (wsV RX1 65 RX1 yX1_allTaken wsX1_allTaken) := goodIn_app (goodIn_of _ (by decide +kernel)) ggX1_refundSurplus_X1_allTaken
set_option maxRecDepth 20000 in
theorem ggX1_refundSurplus_X1_owed : GoodIn wsX1_refundSurplus wsX1_owed := goodIn_r _ [20, 21, 22, 23, 24, 25, 15, 26, 27, 28, 29, 30, 31, 32, 33, 34, 35, 36, 37, 38, 39, 40, 41, 42, 43, 44, 45, 46, 47, 48] (by decide +kernel) (by decide +kernel)
set_option maxRecDepth 20000 in
theorem gX1_refundSurplus_X1_owed : GoodIn wsX1_refundSurplus (wsV RX1 68 RX1 yX1_owed wsX1_owed) := goodIn_app (goodIn_of _ (by decide +kernel)) ggX1_refundSurplus_X1_owed
theorem dX1_refundSurplus_0 : decode cX1_refundSurplus 0 = .ok (.aload_n 0, 1) := by decide +kernel
theorem dX1_refundSurplus_1 : decode cX1_refundSurplus 1 = .ok (.invokevirtual 65, 3) := by decide +kernel
theorem dX1_refundSurplus_4 : decode cX1_refundSurplus 4 = .ok (.aload_n 0, 1) := by decide +kernel
theorem dX1_refundSurplus_5 : decode cX1_refundSurplus 5 = .ok (.invokevirtual 68, 3) := by decide +kernel
theorem dX1_refundSurplus_8 : decode cX1_refundSurplus 8 = .ok (.isub, 1) := by decide +kernel
theorem dX1_refundSurplus_9 : decode cX1_refundSurplus 9 = .ok (.iconst 0, 1) := by decide +kernel
theorem dX1_refundSurplus_10 : decode cX1_refundSurplus 10 = .ok (.invokestatic 71, 3) := by decide +kernel
theorem dX1_refundSurplus_13 : decode cX1_refundSurplus 13 = .ok (.istore_n 1, 1) := by decide +kernel
theorem dX1_refundSurplus_14 : decode cX1_refundSurplus 14 = .ok (.iload_n 1, 1) := by decide +kernel
theorem dX1_refundSurplus_15 : decode cX1_refundSurplus 15 = .ok (.aload_n 0, 1) := by decide +kernel
theorem dX1_refundSurplus_16 : decode cX1_refundSurplus 16 = .ok (.getfield 43, 3) := by decide +kernel
theorem dX1_refundSurplus_19 : decode cX1_refundSurplus 19 = .ok (.invokestatic 31, 3) := by decide +kernel
theorem dX1_refundSurplus_22 : decode cX1_refundSurplus 22 = .ok (.istore_n 2, 1) := by decide +kernel
theorem dX1_refundSurplus_23 : decode cX1_refundSurplus 23 = .ok (.iload_n 1, 1) := by decide +kernel
theorem dX1_refundSurplus_24 : decode cX1_refundSurplus 24 = .ok (.iload_n 2, 1) := by decide +kernel
theorem dX1_refundSurplus_25 : decode cX1_refundSurplus 25 = .ok (.isub, 1) := by decide +kernel
theorem dX1_refundSurplus_26 : decode cX1_refundSurplus 26 = .ok (.aload_n 0, 1) := by decide +kernel
theorem dX1_refundSurplus_27 : decode cX1_refundSurplus 27 = .ok (.getfield 40, 3) := by decide +kernel
theorem dX1_refundSurplus_30 : decode cX1_refundSurplus 30 = .ok (.invokestatic 31, 3) := by decide +kernel
theorem dX1_refundSurplus_33 : decode cX1_refundSurplus 33 = .ok (.istore_n 3, 1) := by decide +kernel
theorem dX1_refundSurplus_34 : decode cX1_refundSurplus 34 = .ok (.aload_n 0, 1) := by decide +kernel
theorem dX1_refundSurplus_35 : decode cX1_refundSurplus 35 = .ok (.dup, 1) := by decide +kernel
theorem dX1_refundSurplus_36 : decode cX1_refundSurplus 36 = .ok (.getfield 43, 3) := by decide +kernel
theorem dX1_refundSurplus_39 : decode cX1_refundSurplus 39 = .ok (.iload_n 2, 1) := by decide +kernel
theorem dX1_refundSurplus_40 : decode cX1_refundSurplus 40 = .ok (.isub, 1) := by decide +kernel
theorem dX1_refundSurplus_41 : decode cX1_refundSurplus 41 = .ok (.putfield 43, 3) := by decide +kernel
theorem dX1_refundSurplus_44 : decode cX1_refundSurplus 44 = .ok (.aload_n 0, 1) := by decide +kernel
theorem dX1_refundSurplus_45 : decode cX1_refundSurplus 45 = .ok (.dup, 1) := by decide +kernel
theorem dX1_refundSurplus_46 : decode cX1_refundSurplus 46 = .ok (.getfield 40, 3) := by decide +kernel
theorem dX1_refundSurplus_49 : decode cX1_refundSurplus 49 = .ok (.iload_n 3, 1) := by decide +kernel
theorem dX1_refundSurplus_50 : decode cX1_refundSurplus 50 = .ok (.isub, 1) := by decide +kernel
theorem dX1_refundSurplus_51 : decode cX1_refundSurplus 51 = .ok (.putfield 40, 3) := by decide +kernel
theorem dX1_refundSurplus_54 : decode cX1_refundSurplus 54 = .ok (.aload_n 0, 1) := by decide +kernel
theorem dX1_refundSurplus_55 : decode cX1_refundSurplus 55 = .ok (.dup, 1) := by decide +kernel
theorem dX1_refundSurplus_56 : decode cX1_refundSurplus 56 = .ok (.getfield 37, 3) := by decide +kernel
theorem dX1_refundSurplus_59 : decode cX1_refundSurplus 59 = .ok (.iload_n 1, 1) := by decide +kernel
theorem dX1_refundSurplus_60 : decode cX1_refundSurplus 60 = .ok (.iload_n 2, 1) := by decide +kernel
theorem dX1_refundSurplus_61 : decode cX1_refundSurplus 61 = .ok (.isub, 1) := by decide +kernel
theorem dX1_refundSurplus_62 : decode cX1_refundSurplus 62 = .ok (.iload_n 3, 1) := by decide +kernel
theorem dX1_refundSurplus_63 : decode cX1_refundSurplus 63 = .ok (.isub, 1) := by decide +kernel
theorem dX1_refundSurplus_64 : decode cX1_refundSurplus 64 = .ok (.isub, 1) := by decide +kernel
theorem dX1_refundSurplus_65 : decode cX1_refundSurplus 65 = .ok (.putfield 37, 3) := by decide +kernel
theorem dX1_refundSurplus_68 : decode cX1_refundSurplus 68 = .ok (.aload_n 0, 1) := by decide +kernel
theorem dX1_refundSurplus_69 : decode cX1_refundSurplus 69 = .ok (.dup, 1) := by decide +kernel
theorem dX1_refundSurplus_70 : decode cX1_refundSurplus 70 = .ok (.getfield 74, 3) := by decide +kernel
theorem dX1_refundSurplus_73 : decode cX1_refundSurplus 73 = .ok (.iload_n 1, 1) := by decide +kernel
theorem dX1_refundSurplus_74 : decode cX1_refundSurplus 74 = .ok (.iadd, 1) := by decide +kernel
theorem dX1_refundSurplus_75 : decode cX1_refundSurplus 75 = .ok (.putfield 74, 3) := by decide +kernel
theorem dX1_refundSurplus_78 : decode cX1_refundSurplus 78 = .ok (.iload_n 1, 1) := by decide +kernel
theorem dX1_refundSurplus_79 : decode cX1_refundSurplus 79 = .ok (.ireturn, 1) := by decide +kernel
set_option maxRecDepth 20000 in
theorem ggX1_endWaits_X0_isWaitedFor : GoodIn wsX1_endWaits wsX0_isWaitedFor := goodIn_r _ [9, 10, 30, 31, 32, 33, 34] (by decide +kernel) (by decide +kernel)
set_option maxRecDepth 20000 in
theorem gX1_endWaits_X0_isWaitedFor : GoodIn wsX1_endWaits (wsV RX1 77 RX0 yX0_isWaitedFor wsX0_isWaitedFor) := goodIn_app (goodIn_of _ (by decide +kernel)) ggX1_endWaits_X0_isWaitedFor
set_option maxRecDepth 20000 in
theorem ggX1_endWaits_X1_charge : GoodIn wsX1_endWaits wsX1_charge := goodIn_r _ [15, 16, 17, 18, 19, 20, 21, 22, 23, 24, 25, 26, 27, 28, 29] (by decide +kernel) (by decide +kernel)
set_option maxRecDepth 20000 in
theorem gX1_endWaits_X1_charge : GoodIn wsX1_endWaits (wsV RX1 84 RX1 yX1_charge wsX1_charge) := goodIn_app (goodIn_of _ (by decide +kernel)) ggX1_endWaits_X1_charge
theorem dX1_endWaits_0 : decode cX1_endWaits 0 = .ok (.iconst 0, 1) := by decide +kernel
theorem dX1_endWaits_1 : decode cX1_endWaits 1 = .ok (.istore_n 2, 1) := by decide +kernel
theorem dX1_endWaits_2 : decode cX1_endWaits 2 = .ok (.aload_n 0, 1) := by decide +kernel
theorem dX1_endWaits_3 : decode cX1_endWaits 3 = .ok (.getfield 11, 3) := by decide +kernel
theorem dX1_endWaits_6 : decode cX1_endWaits 6 = .ok (.astore_n 3, 1) := by decide +kernel
theorem dX1_endWaits_7 : decode cX1_endWaits 7 = .ok (.aload_n 3, 1) := by decide +kernel
theorem dX1_endWaits_8 : decode cX1_endWaits 8 = .ok (.arraylength, 1) := by decide +kernel
theorem dX1_endWaits_9 : decode cX1_endWaits 9 = .ok (.istore 4, 2) := by decide +kernel
theorem dX1_endWaits_11 : decode cX1_endWaits 11 = .ok (.iconst 0, 1) := by decide +kernel
theorem dX1_endWaits_12 : decode cX1_endWaits 12 = .ok (.istore 5, 2) := by decide +kernel
theorem dX1_endWaits_14 : decode cX1_endWaits 14 = .ok (.iload 5, 2) := by decide +kernel
theorem dX1_endWaits_16 : decode cX1_endWaits 16 = .ok (.iload 4, 2) := by decide +kernel
theorem dX1_endWaits_18 : decode cX1_endWaits 18 = .ok (.if_icmp .ge 64, 3) := by decide +kernel
theorem dX1_endWaits_21 : decode cX1_endWaits 21 = .ok (.aload_n 3, 1) := by decide +kernel
theorem dX1_endWaits_22 : decode cX1_endWaits 22 = .ok (.iload 5, 2) := by decide +kernel
theorem dX1_endWaits_24 : decode cX1_endWaits 24 = .ok (.aaload, 1) := by decide +kernel
theorem dX1_endWaits_25 : decode cX1_endWaits 25 = .ok (.astore 6, 2) := by decide +kernel
theorem dX1_endWaits_27 : decode cX1_endWaits 27 = .ok (.aload 6, 2) := by decide +kernel
theorem dX1_endWaits_29 : decode cX1_endWaits 29 = .ok (.ifnull 47, 3) := by decide +kernel
theorem dX1_endWaits_32 : decode cX1_endWaits 32 = .ok (.aload 6, 2) := by decide +kernel
theorem dX1_endWaits_34 : decode cX1_endWaits 34 = .ok (.invokevirtual 77, 3) := by decide +kernel
theorem dX1_endWaits_37 : decode cX1_endWaits 37 = .ok (.ifCond .eq 39, 3) := by decide +kernel
theorem dX1_endWaits_40 : decode cX1_endWaits 40 = .ok (.aload 6, 2) := by decide +kernel
theorem dX1_endWaits_42 : decode cX1_endWaits 42 = .ok (.getfield 81, 3) := by decide +kernel
theorem dX1_endWaits_45 : decode cX1_endWaits 45 = .ok (.iload_n 1, 1) := by decide +kernel
theorem dX1_endWaits_46 : decode cX1_endWaits 46 = .ok (.if_icmp .gt 30, 3) := by decide +kernel
theorem dX1_endWaits_49 : decode cX1_endWaits 49 = .ok (.aload 6, 2) := by decide +kernel
theorem dX1_endWaits_51 : decode cX1_endWaits 51 = .ok (.getfield 53, 3) := by decide +kernel
theorem dX1_endWaits_54 : decode cX1_endWaits 54 = .ok (.iconst 2, 1) := by decide +kernel
theorem dX1_endWaits_55 : decode cX1_endWaits 55 = .ok (.if_icmp .ne 12, 3) := by decide +kernel
theorem dX1_endWaits_58 : decode cX1_endWaits 58 = .ok (.aload_n 0, 1) := by decide +kernel
theorem dX1_endWaits_59 : decode cX1_endWaits 59 = .ok (.aload 6, 2) := by decide +kernel
theorem dX1_endWaits_61 : decode cX1_endWaits 61 = .ok (.getfield 56, 3) := by decide +kernel
theorem dX1_endWaits_64 : decode cX1_endWaits 64 = .ok (.invokevirtual 84, 3) := by decide +kernel
theorem dX1_endWaits_67 : decode cX1_endWaits 67 = .ok (.aload 6, 2) := by decide +kernel
theorem dX1_endWaits_69 : decode cX1_endWaits 69 = .ok (.iconst 0, 1) := by decide +kernel
theorem dX1_endWaits_70 : decode cX1_endWaits 70 = .ok (.putfield 53, 3) := by decide +kernel
theorem dX1_endWaits_73 : decode cX1_endWaits 73 = .ok (.iinc 2 1, 3) := by decide +kernel
theorem dX1_endWaits_76 : decode cX1_endWaits 76 = .ok (.iinc 5 1, 3) := by decide +kernel
theorem dX1_endWaits_79 : decode cX1_endWaits 79 = .ok (.goto (-65), 3) := by decide +kernel
theorem dX1_endWaits_82 : decode cX1_endWaits 82 = .ok (.iload_n 2, 1) := by decide +kernel
theorem dX1_endWaits_83 : decode cX1_endWaits 83 = .ok (.ireturn, 1) := by decide +kernel
theorem dX1_charge_0 : decode cX1_charge 0 = .ok (.aload_n 0, 1) := by decide +kernel
theorem dX1_charge_1 : decode cX1_charge 1 = .ok (.dup, 1) := by decide +kernel
theorem dX1_charge_2 : decode cX1_charge 2 = .ok (.getfield 62, 3) := by decide +kernel
theorem dX1_charge_5 : decode cX1_charge 5 = .ok (.iload_n 1, 1) := by decide +kernel
theorem dX1_charge_6 : decode cX1_charge 6 = .ok (.iadd, 1) := by decide +kernel
theorem dX1_charge_7 : decode cX1_charge 7 = .ok (.putfield 62, 3) := by decide +kernel
theorem dX1_charge_10 : decode cX1_charge 10 = .ok (.aload_n 0, 1) := by decide +kernel
theorem dX1_charge_11 : decode cX1_charge 11 = .ok (.dup, 1) := by decide +kernel
theorem dX1_charge_12 : decode cX1_charge 12 = .ok (.getfield 43, 3) := by decide +kernel
theorem dX1_charge_15 : decode cX1_charge 15 = .ok (.iload_n 1, 1) := by decide +kernel
theorem dX1_charge_16 : decode cX1_charge 16 = .ok (.iadd, 1) := by decide +kernel
theorem dX1_charge_17 : decode cX1_charge 17 = .ok (.putfield 43, 3) := by decide +kernel
theorem dX1_charge_20 : decode cX1_charge 20 = .ok (.return_, 1) := by decide +kernel
theorem dX2_init_0 : decode cX2_init 0 = .ok (.aload_n 0, 1) := by decide +kernel
theorem dX2_init_1 : decode cX2_init 1 = .ok (.invokespecial 1, 3) := by decide +kernel
theorem dX2_init_4 : decode cX2_init 4 = .ok (.aload_n 0, 1) := by decide +kernel
theorem dX2_init_5 : decode cX2_init 5 = .ok (.bipush 30, 2) := by decide +kernel
theorem dX2_init_7 : decode cX2_init 7 = .ok (.anewarray 9, 3) := by decide +kernel
theorem dX2_init_10 : decode cX2_init 10 = .ok (.putfield 11, 3) := by decide +kernel
theorem dX2_init_13 : decode cX2_init 13 = .ok (.return_, 1) := by decide +kernel
set_option maxRecDepth 20000 in
theorem ggX2_order_X2_requireRange : GoodIn wsX2_order wsX2_requireRange := goodIn_ca (goodIn_r _ [12, 13, 14] (by decide +kernel) (by decide +kernel)) (goodIn_sub (fun _ h => List.mem_cons_of_mem _ (List.mem_append_right _ h)) (by decide +kernel))
set_option maxRecDepth 20000 in
theorem gX2_order_X2_requireRange : GoodIn wsX2_order (va_wsS RX2 15 yX2_requireRange wsX2_requireRange) := goodIn_app (goodIn_of _ (by decide +kernel)) ggX2_order_X2_requireRange
set_option maxRecDepth 20000 in
theorem ggX2_order_X1_init : GoodIn wsX2_order wsX1_init := goodIn_r _ [17, 18, 19, 20, 21, 22, 23, 24, 31, 32, 33, 34, 35, 36, 37, 38, 39, 40, 41, 42] (by decide +kernel) (by decide +kernel)
set_option maxRecDepth 20000 in
theorem gX2_order_X1_init : GoodIn wsX2_order (wsX1_init) := ggX2_order_X1_init
theorem dX2_order_0 : decode cX2_order 0 = .ok (.iload_n 1, 1) := by decide +kernel
theorem dX2_order_1 : decode cX2_order 1 = .ok (.iconst 0, 1) := by decide +kernel
theorem dX2_order_2 : decode cX2_order 2 = .ok (.bipush 90, 2) := by decide +kernel
theorem dX2_order_4 : decode cX2_order 4 = .ok (.invokestatic 15, 3) := by decide +kernel
theorem dX2_order_7 : decode cX2_order 7 = .ok (.iload_n 2, 1) := by decide +kernel
theorem dX2_order_8 : decode cX2_order 8 = .ok (.iconst 0, 1) := by decide +kernel
theorem dX2_order_9 : decode cX2_order 9 = .ok (.ldc 19, 2) := by decide +kernel
theorem dX2_order_11 : decode cX2_order 11 = .ok (.invokestatic 15, 3) := by decide +kernel
theorem dX2_order_14 : decode cX2_order 14 = .ok (.aload_n 0, 1) := by decide +kernel
theorem dX2_order_15 : decode cX2_order 15 = .ok (.getfield 20, 3) := by decide +kernel
theorem dX2_order_18 : decode cX2_order 18 = .ok (.ifCond .lt 15, 3) := by decide +kernel
theorem dX2_order_21 : decode cX2_order 21 = .ok (.aload_n 0, 1) := by decide +kernel
theorem dX2_order_22 : decode cX2_order 22 = .ok (.getfield 20, 3) := by decide +kernel
theorem dX2_order_25 : decode cX2_order 25 = .ok (.aload_n 0, 1) := by decide +kernel
theorem dX2_order_26 : decode cX2_order 26 = .ok (.getfield 11, 3) := by decide +kernel
theorem dX2_order_29 : decode cX2_order 29 = .ok (.arraylength, 1) := by decide +kernel
theorem dX2_order_30 : decode cX2_order 30 = .ok (.if_icmp .lt 13, 3) := by decide +kernel
theorem dX2_order_33 : decode cX2_order 33 = .ok (.new 24, 3) := by decide +kernel
theorem dX2_order_36 : decode cX2_order 36 = .ok (.dup, 1) := by decide +kernel
theorem dX2_order_37 : decode cX2_order 37 = .ok (.ldc 26, 2) := by decide +kernel
theorem dX2_order_39 : decode cX2_order 39 = .ok (.invokespecial 28, 3) := by decide +kernel
theorem dX2_order_42 : decode cX2_order 42 = .ok (.athrow, 1) := by decide +kernel
theorem dX2_order_43 : decode cX2_order 43 = .ok (.aload_n 0, 1) := by decide +kernel
theorem dX2_order_44 : decode cX2_order 44 = .ok (.getfield 11, 3) := by decide +kernel
theorem dX2_order_47 : decode cX2_order 47 = .ok (.aload_n 0, 1) := by decide +kernel
theorem dX2_order_48 : decode cX2_order 48 = .ok (.getfield 20, 3) := by decide +kernel
theorem dX2_order_51 : decode cX2_order 51 = .ok (.new 9, 3) := by decide +kernel
theorem dX2_order_54 : decode cX2_order 54 = .ok (.dup, 1) := by decide +kernel
theorem dX2_order_55 : decode cX2_order 55 = .ok (.iload_n 1, 1) := by decide +kernel
theorem dX2_order_56 : decode cX2_order 56 = .ok (.iload_n 2, 1) := by decide +kernel
theorem dX2_order_57 : decode cX2_order 57 = .ok (.invokespecial 31, 3) := by decide +kernel
theorem dX2_order_60 : decode cX2_order 60 = .ok (.aastore, 1) := by decide +kernel
theorem dX2_order_61 : decode cX2_order 61 = .ok (.aload_n 0, 1) := by decide +kernel
theorem dX2_order_62 : decode cX2_order 62 = .ok (.dup, 1) := by decide +kernel
theorem dX2_order_63 : decode cX2_order 63 = .ok (.getfield 20, 3) := by decide +kernel
theorem dX2_order_66 : decode cX2_order 66 = .ok (.dup_x1, 1) := by decide +kernel
theorem dX2_order_67 : decode cX2_order 67 = .ok (.iconst 1, 1) := by decide +kernel
theorem dX2_order_68 : decode cX2_order 68 = .ok (.iadd, 1) := by decide +kernel
theorem dX2_order_69 : decode cX2_order 69 = .ok (.putfield 20, 3) := by decide +kernel
theorem dX2_order_72 : decode cX2_order 72 = .ok (.ireturn, 1) := by decide +kernel
set_option maxRecDepth 20000 in
theorem ggX2_add_X2_findOrder : GoodIn wsX2_add wsX2_findOrder := goodIn_ca (goodIn_r _ [12, 13, 14, 15, 58, 59, 60, 61, 62, 63] (by decide +kernel) (by decide +kernel)) (goodIn_sub (fun _ h => List.mem_cons_of_mem _ (List.mem_append_left _ (List.mem_append_right _ h))) (by decide +kernel))
set_option maxRecDepth 20000 in
theorem gX2_add_X2_findOrder : GoodIn wsX2_add (wsV RX2 34 RX2 yX2_findOrder wsX2_findOrder) := goodIn_app (goodIn_of _ (by decide +kernel)) ggX2_add_X2_findOrder
set_option maxRecDepth 20000 in
theorem ggX2_add_X2_requireRange : GoodIn wsX2_add wsX2_requireRange := goodIn_ca (goodIn_r _ [18, 19, 20] (by decide +kernel) (by decide +kernel)) (goodIn_sub (fun _ h => List.mem_cons_of_mem _ (List.mem_append_right _ h)) (by decide +kernel))
set_option maxRecDepth 20000 in
theorem gX2_add_X2_requireRange : GoodIn wsX2_add (va_wsS RX2 15 yX2_requireRange wsX2_requireRange) := goodIn_app (goodIn_of _ (by decide +kernel)) ggX2_add_X2_requireRange
set_option maxRecDepth 20000 in
theorem ggX2_add_X1_hasRoom : GoodIn wsX2_add wsX1_hasRoom := goodIn_r _ [25, 26, 27, 41, 42, 43, 44, 45, 46, 47, 48, 49, 50, 51, 52] (by decide +kernel) (by decide +kernel)
set_option maxRecDepth 20000 in
theorem gX2_add_X1_hasRoom : GoodIn wsX2_add (wsV RX2 43 RX1 yX1_hasRoom wsX1_hasRoom) := goodIn_app (goodIn_of _ (by decide +kernel)) ggX2_add_X1_hasRoom
set_option maxRecDepth 20000 in
theorem ggX2_add_X0_init : GoodIn wsX2_add wsX0_init := goodIn_r _ [30, 31, 32, 33, 34, 35, 36, 53, 54, 55, 56, 57] (by decide +kernel) (by decide +kernel)
set_option maxRecDepth 20000 in
theorem gX2_add_X0_init : GoodIn wsX2_add (wsX0_init) := ggX2_add_X0_init
set_option maxRecDepth 20000 in
theorem ggX2_add_X1_addLine : GoodIn wsX2_add wsX1_addLine := goodIn_r _ [40, 26, 27, 41, 42, 43, 44, 45, 46, 47, 48, 49, 50, 51, 52] (by decide +kernel) (by decide +kernel)
set_option maxRecDepth 20000 in
theorem gX2_add_X1_addLine : GoodIn wsX2_add (wsV RX2 52 RX1 yX1_addLine wsX1_addLine) := goodIn_app (goodIn_of _ (by decide +kernel)) ggX2_add_X1_addLine
theorem dX2_add_0 : decode cX2_add 0 = .ok (.aload_n 0, 1) := by decide +kernel
theorem dX2_add_1 : decode cX2_add 1 = .ok (.iload_n 1, 1) := by decide +kernel
theorem dX2_add_2 : decode cX2_add 2 = .ok (.invokevirtual 34, 3) := by decide +kernel
theorem dX2_add_5 : decode cX2_add 5 = .ok (.astore 4, 2) := by decide +kernel
theorem dX2_add_7 : decode cX2_add 7 = .ok (.iload_n 2, 1) := by decide +kernel
theorem dX2_add_8 : decode cX2_add 8 = .ok (.iconst 1, 1) := by decide +kernel
theorem dX2_add_9 : decode cX2_add 9 = .ok (.ldc 38, 2) := by decide +kernel
theorem dX2_add_11 : decode cX2_add 11 = .ok (.invokestatic 15, 3) := by decide +kernel
theorem dX2_add_14 : decode cX2_add 14 = .ok (.iload_n 3, 1) := by decide +kernel
theorem dX2_add_15 : decode cX2_add 15 = .ok (.iconst 0, 1) := by decide +kernel
theorem dX2_add_16 : decode cX2_add 16 = .ok (.iconst 2, 1) := by decide +kernel
theorem dX2_add_17 : decode cX2_add 17 = .ok (.invokestatic 15, 3) := by decide +kernel
theorem dX2_add_20 : decode cX2_add 20 = .ok (.aload 4, 2) := by decide +kernel
theorem dX2_add_22 : decode cX2_add 22 = .ok (.getfield 39, 3) := by decide +kernel
theorem dX2_add_25 : decode cX2_add 25 = .ok (.ifCond .ne 11, 3) := by decide +kernel
theorem dX2_add_28 : decode cX2_add 28 = .ok (.aload 4, 2) := by decide +kernel
theorem dX2_add_30 : decode cX2_add 30 = .ok (.invokevirtual 43, 3) := by decide +kernel
theorem dX2_add_33 : decode cX2_add 33 = .ok (.ifCond .ne 13, 3) := by decide +kernel
theorem dX2_add_36 : decode cX2_add 36 = .ok (.new 24, 3) := by decide +kernel
theorem dX2_add_39 : decode cX2_add 39 = .ok (.dup, 1) := by decide +kernel
theorem dX2_add_40 : decode cX2_add 40 = .ok (.ldc 47, 2) := by decide +kernel
theorem dX2_add_42 : decode cX2_add 42 = .ok (.invokespecial 28, 3) := by decide +kernel
theorem dX2_add_45 : decode cX2_add 45 = .ok (.athrow, 1) := by decide +kernel
theorem dX2_add_46 : decode cX2_add 46 = .ok (.aload 4, 2) := by decide +kernel
theorem dX2_add_48 : decode cX2_add 48 = .ok (.new 49, 3) := by decide +kernel
theorem dX2_add_51 : decode cX2_add 51 = .ok (.dup, 1) := by decide +kernel
theorem dX2_add_52 : decode cX2_add 52 = .ok (.iload_n 2, 1) := by decide +kernel
theorem dX2_add_53 : decode cX2_add 53 = .ok (.iload_n 3, 1) := by decide +kernel
theorem dX2_add_54 : decode cX2_add 54 = .ok (.invokespecial 51, 3) := by decide +kernel
theorem dX2_add_57 : decode cX2_add 57 = .ok (.invokevirtual 52, 3) := by decide +kernel
theorem dX2_add_60 : decode cX2_add 60 = .ok (.ireturn, 1) := by decide +kernel
set_option maxRecDepth 20000 in
theorem ggX2_pay_X2_findOrder : GoodIn wsX2_pay wsX2_findOrder := goodIn_ca (goodIn_r _ [12, 13, 14, 15, 56, 57, 58, 59, 60, 61] (by decide +kernel) (by decide +kernel)) (goodIn_sub (fun _ h => List.mem_cons_of_mem _ (List.mem_append_left _ (List.mem_append_right _ h))) (by decide +kernel))
set_option maxRecDepth 20000 in
theorem gX2_pay_X2_findOrder : GoodIn wsX2_pay (wsV RX2 34 RX2 yX2_findOrder wsX2_findOrder) := goodIn_app (goodIn_of _ (by decide +kernel)) ggX2_pay_X2_findOrder
set_option maxRecDepth 20000 in
theorem ggX2_pay_X2_requireRange : GoodIn wsX2_pay wsX2_requireRange := goodIn_ca (goodIn_r _ [18, 19, 20] (by decide +kernel) (by decide +kernel)) (goodIn_sub (fun _ h => List.mem_cons_of_mem _ (List.mem_append_right _ h)) (by decide +kernel))
set_option maxRecDepth 20000 in
theorem gX2_pay_X2_requireRange : GoodIn wsX2_pay (va_wsS RX2 15 yX2_requireRange wsX2_requireRange) := goodIn_app (goodIn_of _ (by decide +kernel)) ggX2_pay_X2_requireRange
set_option maxRecDepth 20000 in
theorem ggX2_pay_X1_settle : GoodIn wsX2_pay wsX1_settle := goodIn_r _ [25, 26, 27, 28, 29, 30, 31, 32, 33, 34, 35, 36, 37, 24, 38, 39, 40, 41, 42, 43, 44, 45, 46, 47, 48, 49, 50, 51, 52, 53, 54, 55, 62, 63, 64, 65, 66] (by decide +kernel) (by decide +kernel)
set_option maxRecDepth 20000 in
theorem gX2_pay_X1_settle : GoodIn wsX2_pay (wsV RX2 64 RX1 yX1_settle wsX1_settle) := goodIn_app (goodIn_of _ (by decide +kernel)) ggX2_pay_X1_settle
theorem dX2_pay_0 : decode cX2_pay 0 = .ok (.aload_n 0, 1) := by decide +kernel
theorem dX2_pay_1 : decode cX2_pay 1 = .ok (.iload_n 1, 1) := by decide +kernel
theorem dX2_pay_2 : decode cX2_pay 2 = .ok (.invokevirtual 34, 3) := by decide +kernel
theorem dX2_pay_5 : decode cX2_pay 5 = .ok (.astore 4, 2) := by decide +kernel
theorem dX2_pay_7 : decode cX2_pay 7 = .ok (.iload_n 2, 1) := by decide +kernel
theorem dX2_pay_8 : decode cX2_pay 8 = .ok (.iconst 0, 1) := by decide +kernel
theorem dX2_pay_9 : decode cX2_pay 9 = .ok (.ldc 19, 2) := by decide +kernel
theorem dX2_pay_11 : decode cX2_pay 11 = .ok (.invokestatic 15, 3) := by decide +kernel
theorem dX2_pay_14 : decode cX2_pay 14 = .ok (.iload_n 3, 1) := by decide +kernel
theorem dX2_pay_15 : decode cX2_pay 15 = .ok (.iconst 0, 1) := by decide +kernel
theorem dX2_pay_16 : decode cX2_pay 16 = .ok (.ldc 19, 2) := by decide +kernel
theorem dX2_pay_18 : decode cX2_pay 18 = .ok (.invokestatic 15, 3) := by decide +kernel
theorem dX2_pay_21 : decode cX2_pay 21 = .ok (.aload 4, 2) := by decide +kernel
theorem dX2_pay_23 : decode cX2_pay 23 = .ok (.getfield 39, 3) := by decide +kernel
theorem dX2_pay_26 : decode cX2_pay 26 = .ok (.ifCond .ne 11, 3) := by decide +kernel
theorem dX2_pay_29 : decode cX2_pay 29 = .ok (.aload 4, 2) := by decide +kernel
theorem dX2_pay_31 : decode cX2_pay 31 = .ok (.getfield 56, 3) := by decide +kernel
theorem dX2_pay_34 : decode cX2_pay 34 = .ok (.ifCond .ne 13, 3) := by decide +kernel
theorem dX2_pay_37 : decode cX2_pay 37 = .ok (.new 24, 3) := by decide +kernel
theorem dX2_pay_40 : decode cX2_pay 40 = .ok (.dup, 1) := by decide +kernel
theorem dX2_pay_41 : decode cX2_pay 41 = .ok (.ldc 59, 2) := by decide +kernel
theorem dX2_pay_43 : decode cX2_pay 43 = .ok (.invokespecial 28, 3) := by decide +kernel
theorem dX2_pay_46 : decode cX2_pay 46 = .ok (.athrow, 1) := by decide +kernel
theorem dX2_pay_47 : decode cX2_pay 47 = .ok (.aload 4, 2) := by decide +kernel
theorem dX2_pay_49 : decode cX2_pay 49 = .ok (.iload_n 2, 1) := by decide +kernel
theorem dX2_pay_50 : decode cX2_pay 50 = .ok (.iload_n 3, 1) := by decide +kernel
theorem dX2_pay_51 : decode cX2_pay 51 = .ok (.aload_n 0, 1) := by decide +kernel
theorem dX2_pay_52 : decode cX2_pay 52 = .ok (.getfield 61, 3) := by decide +kernel
theorem dX2_pay_55 : decode cX2_pay 55 = .ok (.invokevirtual 64, 3) := by decide +kernel
theorem dX2_pay_58 : decode cX2_pay 58 = .ok (.aload 4, 2) := by decide +kernel
theorem dX2_pay_60 : decode cX2_pay 60 = .ok (.getfield 67, 3) := by decide +kernel
theorem dX2_pay_63 : decode cX2_pay 63 = .ok (.ireturn, 1) := by decide +kernel
theorem dX2_orders_0 : decode cX2_orders 0 = .ok (.aload_n 0, 1) := by decide +kernel
theorem dX2_orders_1 : decode cX2_orders 1 = .ok (.getfield 20, 3) := by decide +kernel
theorem dX2_orders_4 : decode cX2_orders 4 = .ok (.ireturn, 1) := by decide +kernel
set_option maxRecDepth 20000 in
theorem ggX2_mayComeBack_X2_findOrder : GoodIn wsX2_mayComeBack wsX2_findOrder := goodIn_ca (goodIn_r _ [5, 6, 7, 8, 32, 33, 34, 35, 36, 37] (by decide +kernel) (by decide +kernel)) (goodIn_sub (fun _ h => List.mem_cons_of_mem _ (List.mem_append_left _ (List.mem_append_right _ h))) (by decide +kernel))
set_option maxRecDepth 20000 in
theorem gX2_mayComeBack_X2_findOrder : GoodIn wsX2_mayComeBack (wsV RX2 34 RX2 yX2_findOrder wsX2_findOrder) := goodIn_app (goodIn_of _ (by decide +kernel)) ggX2_mayComeBack_X2_findOrder
set_option maxRecDepth 20000 in
theorem ggX2_mayComeBack_X2_findLine : GoodIn wsX2_mayComeBack wsX2_findLine := goodIn_ca (goodIn_r _ [11, 6, 7, 12, 38, 39, 40, 41, 42, 43, 44, 45, 46, 47, 48, 49] (by decide +kernel) (by decide +kernel)) (goodIn_sub (fun _ h => List.mem_cons_of_mem _ (List.mem_append_left _ (List.mem_append_right _ h))) (by decide +kernel))
set_option maxRecDepth 20000 in
theorem gX2_mayComeBack_X2_findLine : GoodIn wsX2_mayComeBack (va_wsS RX2 70 yX2_findLine wsX2_findLine) := goodIn_app (goodIn_of _ (by decide +kernel)) ggX2_mayComeBack_X2_findLine
set_option maxRecDepth 20000 in
theorem ggX2_mayComeBack_X2_requireRange : GoodIn wsX2_mayComeBack wsX2_requireRange := goodIn_ca (goodIn_r _ [15, 16, 17] (by decide +kernel) (by decide +kernel)) (goodIn_sub (fun _ h => List.mem_cons_of_mem _ (List.mem_append_right _ h)) (by decide +kernel))
set_option maxRecDepth 20000 in
theorem gX2_mayComeBack_X2_requireRange : GoodIn wsX2_mayComeBack (va_wsS RX2 15 yX2_requireRange wsX2_requireRange) := goodIn_app (goodIn_of _ (by decide +kernel)) ggX2_mayComeBack_X2_requireRange
set_option maxRecDepth 20000 in
theorem ggX2_mayComeBack_X2_isReturnable : GoodIn wsX2_mayComeBack wsX2_isReturnable := goodIn_r _ [21, 22, 23, 24, 25, 26, 27, 28, 29, 30, 31, 38, 39, 40, 41, 42, 43, 44, 45, 46, 47, 48, 49, 50, 51, 52, 53, 54, 32, 33, 34, 35, 36, 37] (by decide +kernel) (by decide +kernel)
set_option maxRecDepth 20000 in
theorem gX2_mayComeBack_X2_isReturnable : GoodIn wsX2_mayComeBack (wsV RX2 74 RX2 yX2_isReturnable wsX2_isReturnable) := goodIn_app (goodIn_of _ (by decide +kernel)) ggX2_mayComeBack_X2_isReturnable
theorem dX2_mayComeBack_0 : decode cX2_mayComeBack 0 = .ok (.aload_n 0, 1) := by decide +kernel
theorem dX2_mayComeBack_1 : decode cX2_mayComeBack 1 = .ok (.iload_n 1, 1) := by decide +kernel
theorem dX2_mayComeBack_2 : decode cX2_mayComeBack 2 = .ok (.invokevirtual 34, 3) := by decide +kernel
theorem dX2_mayComeBack_5 : decode cX2_mayComeBack 5 = .ok (.astore 4, 2) := by decide +kernel
theorem dX2_mayComeBack_7 : decode cX2_mayComeBack 7 = .ok (.aload 4, 2) := by decide +kernel
theorem dX2_mayComeBack_9 : decode cX2_mayComeBack 9 = .ok (.iload_n 2, 1) := by decide +kernel
theorem dX2_mayComeBack_10 : decode cX2_mayComeBack 10 = .ok (.invokestatic 70, 3) := by decide +kernel
theorem dX2_mayComeBack_13 : decode cX2_mayComeBack 13 = .ok (.astore 5, 2) := by decide +kernel
theorem dX2_mayComeBack_15 : decode cX2_mayComeBack 15 = .ok (.iload_n 3, 1) := by decide +kernel
theorem dX2_mayComeBack_16 : decode cX2_mayComeBack 16 = .ok (.iconst 0, 1) := by decide +kernel
theorem dX2_mayComeBack_17 : decode cX2_mayComeBack 17 = .ok (.iconst 1, 1) := by decide +kernel
theorem dX2_mayComeBack_18 : decode cX2_mayComeBack 18 = .ok (.invokestatic 15, 3) := by decide +kernel
theorem dX2_mayComeBack_21 : decode cX2_mayComeBack 21 = .ok (.aload_n 0, 1) := by decide +kernel
theorem dX2_mayComeBack_22 : decode cX2_mayComeBack 22 = .ok (.aload 4, 2) := by decide +kernel
theorem dX2_mayComeBack_24 : decode cX2_mayComeBack 24 = .ok (.aload 5, 2) := by decide +kernel
theorem dX2_mayComeBack_26 : decode cX2_mayComeBack 26 = .ok (.iload_n 3, 1) := by decide +kernel
theorem dX2_mayComeBack_27 : decode cX2_mayComeBack 27 = .ok (.invokevirtual 74, 3) := by decide +kernel
theorem dX2_mayComeBack_30 : decode cX2_mayComeBack 30 = .ok (.ireturn, 1) := by decide +kernel
set_option maxRecDepth 20000 in
theorem ggX2_ask_X2_startWait : GoodIn wsX2_ask wsX2_startWait := goodIn_ca (goodIn_ca (goodIn_ca (goodIn_r _ [5, 6, 7, 8, 9, 10, 11, 12, 13, 14, 4, 15, 16, 17, 18, 19, 20, 21, 22, 23, 24, 25, 26, 27, 28, 29, 30, 31, 32, 33, 34, 35, 36, 37, 38, 39, 40, 41, 42, 43, 44, 45, 46, 47, 48, 49, 50, 51, 52, 53, 54, 55, 56, 57, 58, 59, 60, 61, 62] (by decide +kernel) (by decide +kernel)) (goodIn_sub (fun _ h => List.mem_cons_of_mem _ (List.mem_append_left _ (List.mem_append_left _ (List.mem_append_right _ h)))) (by decide +kernel))) (goodIn_sub (fun _ h => List.mem_cons_of_mem _ (List.mem_append_left _ (List.mem_append_right _ h))) (by decide +kernel))) (goodIn_sub (fun _ h => List.mem_cons_of_mem _ (List.mem_append_right _ h)) (by decide +kernel))
set_option maxRecDepth 20000 in
theorem gX2_ask_X2_startWait : GoodIn wsX2_ask (wsV RX2 78 RX2 yX2_startWait wsX2_startWait) := goodIn_app (goodIn_of _ (by decide +kernel)) ggX2_ask_X2_startWait
theorem dX2_ask_0 : decode cX2_ask 0 = .ok (.aload_n 0, 1) := by decide +kernel
theorem dX2_ask_1 : decode cX2_ask 1 = .ok (.iload_n 1, 1) := by decide +kernel
theorem dX2_ask_2 : decode cX2_ask 2 = .ok (.iload_n 2, 1) := by decide +kernel
theorem dX2_ask_3 : decode cX2_ask 3 = .ok (.iload_n 3, 1) := by decide +kernel
theorem dX2_ask_4 : decode cX2_ask 4 = .ok (.iconst 1, 1) := by decide +kernel
theorem dX2_ask_5 : decode cX2_ask 5 = .ok (.invokevirtual 78, 3) := by decide +kernel
theorem dX2_ask_8 : decode cX2_ask 8 = .ok (.ireturn, 1) := by decide +kernel
set_option maxRecDepth 20000 in
theorem ggX2_exchange_X2_startWait : GoodIn wsX2_exchange wsX2_startWait := goodIn_ca (goodIn_ca (goodIn_ca (goodIn_r _ [5, 6, 7, 8, 9, 10, 11, 12, 13, 14, 4, 15, 16, 17, 18, 19, 20, 21, 22, 23, 24, 25, 26, 27, 28, 29, 30, 31, 32, 33, 34, 35, 36, 37, 38, 39, 40, 41, 42, 43, 44, 45, 46, 47, 48, 49, 50, 51, 52, 53, 54, 55, 56, 57, 58, 59, 60, 61, 62] (by decide +kernel) (by decide +kernel)) (goodIn_sub (fun _ h => List.mem_cons_of_mem _ (List.mem_append_left _ (List.mem_append_left _ (List.mem_append_right _ h)))) (by decide +kernel))) (goodIn_sub (fun _ h => List.mem_cons_of_mem _ (List.mem_append_left _ (List.mem_append_right _ h))) (by decide +kernel))) (goodIn_sub (fun _ h => List.mem_cons_of_mem _ (List.mem_append_right _ h)) (by decide +kernel))
set_option maxRecDepth 20000 in
theorem gX2_exchange_X2_startWait : GoodIn wsX2_exchange (wsV RX2 78 RX2 yX2_startWait wsX2_startWait) := goodIn_app (goodIn_of _ (by decide +kernel)) ggX2_exchange_X2_startWait
theorem dX2_exchange_0 : decode cX2_exchange 0 = .ok (.aload_n 0, 1) := by decide +kernel
theorem dX2_exchange_1 : decode cX2_exchange 1 = .ok (.iload_n 1, 1) := by decide +kernel
theorem dX2_exchange_2 : decode cX2_exchange 2 = .ok (.iload_n 2, 1) := by decide +kernel
theorem dX2_exchange_3 : decode cX2_exchange 3 = .ok (.iload_n 3, 1) := by decide +kernel
theorem dX2_exchange_4 : decode cX2_exchange 4 = .ok (.iconst 2, 1) := by decide +kernel
theorem dX2_exchange_5 : decode cX2_exchange 5 = .ok (.invokevirtual 78, 3) := by decide +kernel
theorem dX2_exchange_8 : decode cX2_exchange 8 = .ok (.ireturn, 1) := by decide +kernel
set_option maxRecDepth 20000 in
theorem ggX2_grade_X2_findOrder : GoodIn wsX2_grade wsX2_findOrder := goodIn_ca (goodIn_r _ [10, 11, 12, 13, 99, 100, 101, 102, 103, 104] (by decide +kernel) (by decide +kernel)) (goodIn_sub (fun _ h => List.mem_cons_of_mem _ (List.mem_append_left _ (List.mem_append_right _ h))) (by decide +kernel))
set_option maxRecDepth 20000 in
theorem gX2_grade_X2_findOrder : GoodIn wsX2_grade (wsV RX2 34 RX2 yX2_findOrder wsX2_findOrder) := goodIn_app (goodIn_of _ (by decide +kernel)) ggX2_grade_X2_findOrder
set_option maxRecDepth 20000 in
theorem ggX2_grade_X2_findLine : GoodIn wsX2_grade wsX2_findLine := goodIn_ca (goodIn_r _ [16, 11, 12, 17, 82, 83, 84, 85, 86, 87, 88, 89, 90, 91, 92, 93] (by decide +kernel) (by decide +kernel)) (goodIn_sub (fun _ h => List.mem_cons_of_mem _ (List.mem_append_left _ (List.mem_append_right _ h))) (by decide +kernel))
set_option maxRecDepth 20000 in
theorem gX2_grade_X2_findLine : GoodIn wsX2_grade (va_wsS RX2 70 yX2_findLine wsX2_findLine) := goodIn_app (goodIn_of _ (by decide +kernel)) ggX2_grade_X2_findLine
set_option maxRecDepth 20000 in
theorem ggX2_grade_X2_requireRange : GoodIn wsX2_grade wsX2_requireRange := goodIn_ca (goodIn_r _ [20, 21, 22] (by decide +kernel) (by decide +kernel)) (goodIn_sub (fun _ h => List.mem_cons_of_mem _ (List.mem_append_right _ h)) (by decide +kernel))
set_option maxRecDepth 20000 in
theorem gX2_grade_X2_requireRange : GoodIn wsX2_grade (va_wsS RX2 15 yX2_requireRange wsX2_requireRange) := goodIn_app (goodIn_of _ (by decide +kernel)) ggX2_grade_X2_requireRange
set_option maxRecDepth 20000 in
theorem ggX2_grade_X0_isWaitedFor : GoodIn wsX2_grade wsX0_isWaitedFor := goodIn_r _ [27, 28, 94, 95, 96, 97, 98] (by decide +kernel) (by decide +kernel)
set_option maxRecDepth 20000 in
theorem gX2_grade_X0_isWaitedFor : GoodIn wsX2_grade (wsV RX2 82 RX0 yX0_isWaitedFor wsX0_isWaitedFor) := goodIn_app (goodIn_of _ (by decide +kernel)) ggX2_grade_X0_isWaitedFor
set_option maxRecDepth 20000 in
theorem ggX2_grade_X0_feeFor : GoodIn wsX2_grade wsX0_feeFor := goodIn_r _ [32, 33, 34, 35, 36, 26, 37, 38, 39, 94, 95, 96, 97, 98] (by decide +kernel) (by decide +kernel)
set_option maxRecDepth 20000 in
theorem gX2_grade_X0_feeFor : GoodIn wsX2_grade (wsV RX2 90 RX0 yX0_feeFor wsX0_feeFor) := goodIn_app (goodIn_of _ (by decide +kernel)) ggX2_grade_X0_feeFor
set_option maxRecDepth 20000 in
theorem ggX2_grade_X2_putIntoStock : GoodIn wsX2_grade wsX2_putIntoStock := goodIn_r _ [43, 44, 45, 46, 99, 100, 101, 102, 103, 104] (by decide +kernel) (by decide +kernel)
set_option maxRecDepth 20000 in
theorem gX2_grade_X2_putIntoStock : GoodIn wsX2_grade (wsV RX2 97 RX2 yX2_putIntoStock wsX2_putIntoStock) := goodIn_app (goodIn_of _ (by decide +kernel)) ggX2_grade_X2_putIntoStock
set_option maxRecDepth 20000 in
theorem ggX2_grade_X1_refundSurplus : GoodIn wsX2_grade wsX1_refundSurplus := goodIn_r _ [51, 52, 53, 54, 55, 56, 57, 58, 59, 60, 61, 62, 63, 64, 65, 50, 66, 67, 68, 69, 70, 71, 72, 73, 74, 75, 76, 77, 78, 79, 80, 81, 82, 83, 84, 85, 86, 87, 88, 89, 90, 91, 92, 93, 94, 95, 96, 97, 98] (by decide +kernel) (by decide +kernel)
set_option maxRecDepth 20000 in
theorem gX2_grade_X1_refundSurplus : GoodIn wsX2_grade (wsV RX2 103 RX1 yX1_refundSurplus wsX1_refundSurplus) := goodIn_app (goodIn_of _ (by decide +kernel)) ggX2_grade_X1_refundSurplus
theorem dX2_grade_0 : decode cX2_grade 0 = .ok (.aload_n 0, 1) := by decide +kernel
theorem dX2_grade_1 : decode cX2_grade 1 = .ok (.iload_n 1, 1) := by decide +kernel
theorem dX2_grade_2 : decode cX2_grade 2 = .ok (.invokevirtual 34, 3) := by decide +kernel
theorem dX2_grade_5 : decode cX2_grade 5 = .ok (.astore 4, 2) := by decide +kernel
theorem dX2_grade_7 : decode cX2_grade 7 = .ok (.aload 4, 2) := by decide +kernel
theorem dX2_grade_9 : decode cX2_grade 9 = .ok (.iload_n 2, 1) := by decide +kernel
theorem dX2_grade_10 : decode cX2_grade 10 = .ok (.invokestatic 70, 3) := by decide +kernel
theorem dX2_grade_13 : decode cX2_grade 13 = .ok (.astore 5, 2) := by decide +kernel
theorem dX2_grade_15 : decode cX2_grade 15 = .ok (.iload_n 3, 1) := by decide +kernel
theorem dX2_grade_16 : decode cX2_grade 16 = .ok (.iconst 0, 1) := by decide +kernel
theorem dX2_grade_17 : decode cX2_grade 17 = .ok (.iconst 3, 1) := by decide +kernel
theorem dX2_grade_18 : decode cX2_grade 18 = .ok (.invokestatic 15, 3) := by decide +kernel
theorem dX2_grade_21 : decode cX2_grade 21 = .ok (.aload 5, 2) := by decide +kernel
theorem dX2_grade_23 : decode cX2_grade 23 = .ok (.invokevirtual 82, 3) := by decide +kernel
theorem dX2_grade_26 : decode cX2_grade 26 = .ok (.ifCond .ne 13, 3) := by decide +kernel
theorem dX2_grade_29 : decode cX2_grade 29 = .ok (.new 24, 3) := by decide +kernel
theorem dX2_grade_32 : decode cX2_grade 32 = .ok (.dup, 1) := by decide +kernel
theorem dX2_grade_33 : decode cX2_grade 33 = .ok (.ldc 85, 2) := by decide +kernel
theorem dX2_grade_35 : decode cX2_grade 35 = .ok (.invokespecial 28, 3) := by decide +kernel
theorem dX2_grade_38 : decode cX2_grade 38 = .ok (.athrow, 1) := by decide +kernel
theorem dX2_grade_39 : decode cX2_grade 39 = .ok (.aload 4, 2) := by decide +kernel
theorem dX2_grade_41 : decode cX2_grade 41 = .ok (.dup, 1) := by decide +kernel
theorem dX2_grade_42 : decode cX2_grade 42 = .ok (.getfield 87, 3) := by decide +kernel
theorem dX2_grade_45 : decode cX2_grade 45 = .ok (.aload 5, 2) := by decide +kernel
theorem dX2_grade_47 : decode cX2_grade 47 = .ok (.iload_n 3, 1) := by decide +kernel
theorem dX2_grade_48 : decode cX2_grade 48 = .ok (.invokevirtual 90, 3) := by decide +kernel
theorem dX2_grade_51 : decode cX2_grade 51 = .ok (.iadd, 1) := by decide +kernel
theorem dX2_grade_52 : decode cX2_grade 52 = .ok (.putfield 87, 3) := by decide +kernel
theorem dX2_grade_55 : decode cX2_grade 55 = .ok (.aload_n 0, 1) := by decide +kernel
theorem dX2_grade_56 : decode cX2_grade 56 = .ok (.aload 5, 2) := by decide +kernel
theorem dX2_grade_58 : decode cX2_grade 58 = .ok (.getfield 94, 3) := by decide +kernel
theorem dX2_grade_61 : decode cX2_grade 61 = .ok (.iload_n 3, 1) := by decide +kernel
theorem dX2_grade_62 : decode cX2_grade 62 = .ok (.invokevirtual 97, 3) := by decide +kernel
theorem dX2_grade_65 : decode cX2_grade 65 = .ok (.aload 5, 2) := by decide +kernel
theorem dX2_grade_67 : decode cX2_grade 67 = .ok (.aload 5, 2) := by decide +kernel
theorem dX2_grade_69 : decode cX2_grade 69 = .ok (.getfield 100, 3) := by decide +kernel
theorem dX2_grade_72 : decode cX2_grade 72 = .ok (.iconst 1, 1) := by decide +kernel
theorem dX2_grade_73 : decode cX2_grade 73 = .ok (.if_icmp .ne 7, 3) := by decide +kernel
theorem dX2_grade_76 : decode cX2_grade 76 = .ok (.iconst 3, 1) := by decide +kernel
theorem dX2_grade_77 : decode cX2_grade 77 = .ok (.goto 4, 3) := by decide +kernel
theorem dX2_grade_80 : decode cX2_grade 80 = .ok (.iconst 0, 1) := by decide +kernel
theorem dX2_grade_81 : decode cX2_grade 81 = .ok (.putfield 100, 3) := by decide +kernel
theorem dX2_grade_84 : decode cX2_grade 84 = .ok (.aload 4, 2) := by decide +kernel
theorem dX2_grade_86 : decode cX2_grade 86 = .ok (.invokevirtual 103, 3) := by decide +kernel
theorem dX2_grade_89 : decode cX2_grade 89 = .ok (.ireturn, 1) := by decide +kernel
set_option maxRecDepth 20000 in
theorem ggX2_state_X2_findOrder : GoodIn wsX2_state wsX2_findOrder := goodIn_ca (goodIn_r _ [6, 7, 8, 9, 19, 20, 21, 22, 23, 24] (by decide +kernel) (by decide +kernel)) (goodIn_sub (fun _ h => List.mem_cons_of_mem _ (List.mem_append_right _ h)) (by decide +kernel))
set_option maxRecDepth 20000 in
theorem gX2_state_X2_findOrder : GoodIn wsX2_state (wsV RX2 34 RX2 yX2_findOrder wsX2_findOrder) := goodIn_app (goodIn_of _ (by decide +kernel)) ggX2_state_X2_findOrder
set_option maxRecDepth 20000 in
theorem ggX2_state_X2_findLine : GoodIn wsX2_state wsX2_findLine := goodIn_ca (goodIn_r _ [12, 7, 8, 13, 25, 26, 27, 28, 29, 30, 31, 32, 33, 34, 35, 36] (by decide +kernel) (by decide +kernel)) (goodIn_sub (fun _ h => List.mem_cons_of_mem _ (List.mem_append_right _ h)) (by decide +kernel))
set_option maxRecDepth 20000 in
theorem gX2_state_X2_findLine : GoodIn wsX2_state (va_wsS RX2 70 yX2_findLine wsX2_findLine) := goodIn_app (goodIn_of _ (by decide +kernel)) ggX2_state_X2_findLine
theorem dX2_state_0 : decode cX2_state 0 = .ok (.aload_n 0, 1) := by decide +kernel
theorem dX2_state_1 : decode cX2_state 1 = .ok (.iload_n 1, 1) := by decide +kernel
theorem dX2_state_2 : decode cX2_state 2 = .ok (.invokevirtual 34, 3) := by decide +kernel
theorem dX2_state_5 : decode cX2_state 5 = .ok (.iload_n 2, 1) := by decide +kernel
theorem dX2_state_6 : decode cX2_state 6 = .ok (.invokestatic 70, 3) := by decide +kernel
theorem dX2_state_9 : decode cX2_state 9 = .ok (.getfield 100, 3) := by decide +kernel
theorem dX2_state_12 : decode cX2_state 12 = .ok (.ireturn, 1) := by decide +kernel
set_option maxRecDepth 20000 in
theorem ggX2_price_X2_findOrder : GoodIn wsX2_price wsX2_findOrder := goodIn_ca (goodIn_r _ [5, 6, 7, 8, 19, 20, 21, 22, 23, 24] (by decide +kernel) (by decide +kernel)) (goodIn_sub (fun _ h => List.mem_cons_of_mem _ (List.mem_append_right _ h)) (by decide +kernel))
set_option maxRecDepth 20000 in
theorem gX2_price_X2_findOrder : GoodIn wsX2_price (wsV RX2 34 RX2 yX2_findOrder wsX2_findOrder) := goodIn_app (goodIn_of _ (by decide +kernel)) ggX2_price_X2_findOrder
set_option maxRecDepth 20000 in
theorem ggX2_price_X1_priceAnew : GoodIn wsX2_price wsX1_priceAnew := goodIn_r _ [13, 14, 15, 16, 17, 18, 25, 26, 27, 28, 29, 30, 31, 32, 33, 34, 35, 36, 37, 38, 39, 40, 41] (by decide +kernel) (by decide +kernel)
set_option maxRecDepth 20000 in
theorem gX2_price_X1_priceAnew : GoodIn wsX2_price (wsV RX2 107 RX1 yX1_priceAnew wsX1_priceAnew) := goodIn_app (goodIn_of _ (by decide +kernel)) ggX2_price_X1_priceAnew
theorem dX2_price_0 : decode cX2_price 0 = .ok (.aload_n 0, 1) := by decide +kernel
theorem dX2_price_1 : decode cX2_price 1 = .ok (.iload_n 1, 1) := by decide +kernel
theorem dX2_price_2 : decode cX2_price 2 = .ok (.invokevirtual 34, 3) := by decide +kernel
theorem dX2_price_5 : decode cX2_price 5 = .ok (.invokevirtual 107, 3) := by decide +kernel
theorem dX2_price_8 : decode cX2_price 8 = .ok (.ireturn, 1) := by decide +kernel
set_option maxRecDepth 20000 in
theorem ggX2_fees_X2_findOrder : GoodIn wsX2_fees wsX2_findOrder := goodIn_ca (goodIn_r _ [6, 7, 8, 9, 22, 23, 24, 25, 26, 27] (by decide +kernel) (by decide +kernel)) (goodIn_sub (fun _ h => List.mem_cons_of_mem _ (List.mem_append_right _ h)) (by decide +kernel))
set_option maxRecDepth 20000 in
theorem gX2_fees_X2_findOrder : GoodIn wsX2_fees (wsV RX2 34 RX2 yX2_findOrder wsX2_findOrder) := goodIn_app (goodIn_of _ (by decide +kernel)) ggX2_fees_X2_findOrder
theorem dX2_fees_0 : decode cX2_fees 0 = .ok (.aload_n 0, 1) := by decide +kernel
theorem dX2_fees_1 : decode cX2_fees 1 = .ok (.iload_n 1, 1) := by decide +kernel
theorem dX2_fees_2 : decode cX2_fees 2 = .ok (.invokevirtual 34, 3) := by decide +kernel
theorem dX2_fees_5 : decode cX2_fees 5 = .ok (.getfield 87, 3) := by decide +kernel
theorem dX2_fees_8 : decode cX2_fees 8 = .ok (.ireturn, 1) := by decide +kernel
set_option maxRecDepth 20000 in
theorem ggX2_charges_X2_findOrder : GoodIn wsX2_charges wsX2_findOrder := goodIn_ca (goodIn_r _ [6, 7, 8, 9, 22, 23, 24, 25, 26, 27] (by decide +kernel) (by decide +kernel)) (goodIn_sub (fun _ h => List.mem_cons_of_mem _ (List.mem_append_right _ h)) (by decide +kernel))
set_option maxRecDepth 20000 in
theorem gX2_charges_X2_findOrder : GoodIn wsX2_charges (wsV RX2 34 RX2 yX2_findOrder wsX2_findOrder) := goodIn_app (goodIn_of _ (by decide +kernel)) ggX2_charges_X2_findOrder
theorem dX2_charges_0 : decode cX2_charges 0 = .ok (.aload_n 0, 1) := by decide +kernel
theorem dX2_charges_1 : decode cX2_charges 1 = .ok (.iload_n 1, 1) := by decide +kernel
theorem dX2_charges_2 : decode cX2_charges 2 = .ok (.invokevirtual 34, 3) := by decide +kernel
theorem dX2_charges_5 : decode cX2_charges 5 = .ok (.getfield 110, 3) := by decide +kernel
theorem dX2_charges_8 : decode cX2_charges 8 = .ok (.ireturn, 1) := by decide +kernel
set_option maxRecDepth 20000 in
theorem ggX2_taken_X2_findOrder : GoodIn wsX2_taken wsX2_findOrder := goodIn_ca (goodIn_r _ [8, 9, 10, 11, 29, 30, 31, 32, 33, 34] (by decide +kernel) (by decide +kernel)) (goodIn_sub (fun _ h => List.mem_cons_of_mem _ (List.mem_append_left _ (List.mem_append_right _ h))) (by decide +kernel))
set_option maxRecDepth 20000 in
theorem gX2_taken_X2_findOrder : GoodIn wsX2_taken (wsV RX2 34 RX2 yX2_findOrder wsX2_findOrder) := goodIn_app (goodIn_of _ (by decide +kernel)) ggX2_taken_X2_findOrder
set_option maxRecDepth 20000 in
theorem ggX2_taken_X2_requireRange : GoodIn wsX2_taken wsX2_requireRange := goodIn_ca (goodIn_r _ [14, 15, 16] (by decide +kernel) (by decide +kernel)) (goodIn_sub (fun _ h => List.mem_cons_of_mem _ (List.mem_append_right _ h)) (by decide +kernel))
set_option maxRecDepth 20000 in
theorem gX2_taken_X2_requireRange : GoodIn wsX2_taken (va_wsS RX2 15 yX2_requireRange wsX2_requireRange) := goodIn_app (goodIn_of _ (by decide +kernel)) ggX2_taken_X2_requireRange
theorem dX2_taken_0 : decode cX2_taken 0 = .ok (.aload_n 0, 1) := by decide +kernel
theorem dX2_taken_1 : decode cX2_taken 1 = .ok (.iload_n 1, 1) := by decide +kernel
theorem dX2_taken_2 : decode cX2_taken 2 = .ok (.invokevirtual 34, 3) := by decide +kernel
theorem dX2_taken_5 : decode cX2_taken 5 = .ok (.astore_n 3, 1) := by decide +kernel
theorem dX2_taken_6 : decode cX2_taken 6 = .ok (.iload_n 2, 1) := by decide +kernel
theorem dX2_taken_7 : decode cX2_taken 7 = .ok (.iconst 0, 1) := by decide +kernel
theorem dX2_taken_8 : decode cX2_taken 8 = .ok (.iconst 2, 1) := by decide +kernel
theorem dX2_taken_9 : decode cX2_taken 9 = .ok (.invokestatic 15, 3) := by decide +kernel
theorem dX2_taken_12 : decode cX2_taken 12 = .ok (.iload_n 2, 1) := by decide +kernel
theorem dX2_taken_13 : decode cX2_taken 13 = .ok (.ifCond .ne 8, 3) := by decide +kernel
theorem dX2_taken_16 : decode cX2_taken 16 = .ok (.aload_n 3, 1) := by decide +kernel
theorem dX2_taken_17 : decode cX2_taken 17 = .ok (.getfield 67, 3) := by decide +kernel
theorem dX2_taken_20 : decode cX2_taken 20 = .ok (.ireturn, 1) := by decide +kernel
theorem dX2_taken_21 : decode cX2_taken 21 = .ok (.iload_n 2, 1) := by decide +kernel
theorem dX2_taken_22 : decode cX2_taken 22 = .ok (.iconst 1, 1) := by decide +kernel
theorem dX2_taken_23 : decode cX2_taken 23 = .ok (.if_icmp .ne 10, 3) := by decide +kernel
theorem dX2_taken_26 : decode cX2_taken 26 = .ok (.aload_n 3, 1) := by decide +kernel
theorem dX2_taken_27 : decode cX2_taken 27 = .ok (.getfield 113, 3) := by decide +kernel
theorem dX2_taken_30 : decode cX2_taken 30 = .ok (.goto 7, 3) := by decide +kernel
theorem dX2_taken_33 : decode cX2_taken 33 = .ok (.aload_n 3, 1) := by decide +kernel
theorem dX2_taken_34 : decode cX2_taken 34 = .ok (.getfield 116, 3) := by decide +kernel
theorem dX2_taken_37 : decode cX2_taken 37 = .ok (.ireturn, 1) := by decide +kernel
set_option maxRecDepth 20000 in
theorem ggX2_refunded_X2_findOrder : GoodIn wsX2_refunded wsX2_findOrder := goodIn_ca (goodIn_r _ [6, 7, 8, 9, 22, 23, 24, 25, 26, 27] (by decide +kernel) (by decide +kernel)) (goodIn_sub (fun _ h => List.mem_cons_of_mem _ (List.mem_append_right _ h)) (by decide +kernel))
set_option maxRecDepth 20000 in
theorem gX2_refunded_X2_findOrder : GoodIn wsX2_refunded (wsV RX2 34 RX2 yX2_findOrder wsX2_findOrder) := goodIn_app (goodIn_of _ (by decide +kernel)) ggX2_refunded_X2_findOrder
theorem dX2_refunded_0 : decode cX2_refunded 0 = .ok (.aload_n 0, 1) := by decide +kernel
end
section
theorem dX2_refunded_1 : decode cX2_refunded 1 = .ok (.iload_n 1, 1) := by decide +kernel
theorem dX2_refunded_2 : decode cX2_refunded 2 = .ok (.invokevirtual 34, 3) := by decide +kernel
theorem dX2_refunded_5 : decode cX2_refunded 5 = .ok (.getfield 119, 3) := by decide +kernel
theorem dX2_refunded_8 : decode cX2_refunded 8 = .ok (.ireturn, 1) := by decide +kernel
set_option maxRecDepth 20000 in
theorem ggX2_isShortBy_X2_findOrder : GoodIn wsX2_isShortBy wsX2_findOrder := goodIn_ca (goodIn_r _ [10, 11, 12, 13, 49, 50, 51, 52, 53, 54] (by decide +kernel) (by decide +kernel)) (goodIn_sub (fun _ h => List.mem_cons_of_mem _ (List.mem_append_right _ h)) (by decide +kernel))
set_option maxRecDepth 20000 in
theorem gX2_isShortBy_X2_findOrder : GoodIn wsX2_isShortBy (wsV RX2 34 RX2 yX2_findOrder wsX2_findOrder) := goodIn_app (goodIn_of _ (by decide +kernel)) ggX2_isShortBy_X2_findOrder
set_option maxRecDepth 20000 in
theorem ggX2_isShortBy_X1_owed : GoodIn wsX2_isShortBy wsX1_owed := goodIn_r _ [18, 19, 20, 21, 22, 23, 17, 24, 25, 26, 27, 28, 29, 37, 38, 39, 40, 41, 42, 43, 44, 45, 46, 47, 48, 55, 56, 57, 58, 59] (by decide +kernel) (by decide +kernel)
set_option maxRecDepth 20000 in
theorem gX2_isShortBy_X1_owed : GoodIn wsX2_isShortBy (wsV RX2 122 RX1 yX1_owed wsX1_owed) := goodIn_app (goodIn_of _ (by decide +kernel)) ggX2_isShortBy_X1_owed
set_option maxRecDepth 20000 in
theorem ggX2_isShortBy_X1_allTaken : GoodIn wsX2_isShortBy wsX1_allTaken := goodIn_r _ [33, 34, 35, 36, 37, 38, 39, 40, 41, 42, 43, 44, 45, 46, 47, 48] (by decide +kernel) (by decide +kernel)
set_option maxRecDepth 20000 in
theorem gX2_isShortBy_X1_allTaken : GoodIn wsX2_isShortBy (wsV RX2 125 RX1 yX1_allTaken wsX1_allTaken) := goodIn_app (goodIn_of _ (by decide +kernel)) ggX2_isShortBy_X1_allTaken
theorem dX2_isShortBy_0 : decode cX2_isShortBy 0 = .ok (.aload_n 0, 1) := by decide +kernel
theorem dX2_isShortBy_1 : decode cX2_isShortBy 1 = .ok (.iload_n 1, 1) := by decide +kernel
theorem dX2_isShortBy_2 : decode cX2_isShortBy 2 = .ok (.invokevirtual 34, 3) := by decide +kernel
theorem dX2_isShortBy_5 : decode cX2_isShortBy 5 = .ok (.astore_n 2, 1) := by decide +kernel
theorem dX2_isShortBy_6 : decode cX2_isShortBy 6 = .ok (.aload_n 2, 1) := by decide +kernel
theorem dX2_isShortBy_7 : decode cX2_isShortBy 7 = .ok (.getfield 39, 3) := by decide +kernel
theorem dX2_isShortBy_10 : decode cX2_isShortBy 10 = .ok (.ifCond .eq 19, 3) := by decide +kernel
theorem dX2_isShortBy_13 : decode cX2_isShortBy 13 = .ok (.aload_n 2, 1) := by decide +kernel
theorem dX2_isShortBy_14 : decode cX2_isShortBy 14 = .ok (.invokevirtual 122, 3) := by decide +kernel
theorem dX2_isShortBy_17 : decode cX2_isShortBy 17 = .ok (.aload_n 2, 1) := by decide +kernel
theorem dX2_isShortBy_18 : decode cX2_isShortBy 18 = .ok (.invokevirtual 125, 3) := by decide +kernel
theorem dX2_isShortBy_21 : decode cX2_isShortBy 21 = .ok (.isub, 1) := by decide +kernel
theorem dX2_isShortBy_22 : decode cX2_isShortBy 22 = .ok (.iconst 0, 1) := by decide +kernel
theorem dX2_isShortBy_23 : decode cX2_isShortBy 23 = .ok (.invokestatic 128, 3) := by decide +kernel
theorem dX2_isShortBy_26 : decode cX2_isShortBy 26 = .ok (.goto 4, 3) := by decide +kernel
theorem dX2_isShortBy_29 : decode cX2_isShortBy 29 = .ok (.iconst 0, 1) := by decide +kernel
theorem dX2_isShortBy_30 : decode cX2_isShortBy 30 = .ok (.ireturn, 1) := by decide +kernel
set_option maxRecDepth 20000 in
theorem ggX2_stock_X2_requireRange : GoodIn wsX2_stock wsX2_requireRange := goodIn_ca (goodIn_r _ [7, 8, 9] (by decide +kernel) (by decide +kernel)) (goodIn_sub (fun _ h => List.mem_cons_of_mem _ (List.mem_append_right _ h)) (by decide +kernel))
set_option maxRecDepth 20000 in
theorem gX2_stock_X2_requireRange : GoodIn wsX2_stock (va_wsS RX2 15 yX2_requireRange wsX2_requireRange) := goodIn_app (goodIn_of _ (by decide +kernel)) ggX2_stock_X2_requireRange
theorem dX2_stock_0 : decode cX2_stock 0 = .ok (.iload_n 1, 1) := by decide +kernel
theorem dX2_stock_1 : decode cX2_stock 1 = .ok (.iconst 0, 1) := by decide +kernel
theorem dX2_stock_2 : decode cX2_stock 2 = .ok (.iconst 2, 1) := by decide +kernel
theorem dX2_stock_3 : decode cX2_stock 3 = .ok (.invokestatic 15, 3) := by decide +kernel
theorem dX2_stock_6 : decode cX2_stock 6 = .ok (.iload_n 1, 1) := by decide +kernel
theorem dX2_stock_7 : decode cX2_stock 7 = .ok (.ifCond .ne 8, 3) := by decide +kernel
theorem dX2_stock_10 : decode cX2_stock 10 = .ok (.aload_n 0, 1) := by decide +kernel
theorem dX2_stock_11 : decode cX2_stock 11 = .ok (.getfield 134, 3) := by decide +kernel
theorem dX2_stock_14 : decode cX2_stock 14 = .ok (.ireturn, 1) := by decide +kernel
theorem dX2_stock_15 : decode cX2_stock 15 = .ok (.iload_n 1, 1) := by decide +kernel
theorem dX2_stock_16 : decode cX2_stock 16 = .ok (.iconst 1, 1) := by decide +kernel
theorem dX2_stock_17 : decode cX2_stock 17 = .ok (.if_icmp .ne 10, 3) := by decide +kernel
theorem dX2_stock_20 : decode cX2_stock 20 = .ok (.aload_n 0, 1) := by decide +kernel
theorem dX2_stock_21 : decode cX2_stock 21 = .ok (.getfield 137, 3) := by decide +kernel
theorem dX2_stock_24 : decode cX2_stock 24 = .ok (.goto 7, 3) := by decide +kernel
theorem dX2_stock_27 : decode cX2_stock 27 = .ok (.aload_n 0, 1) := by decide +kernel
theorem dX2_stock_28 : decode cX2_stock 28 = .ok (.getfield 140, 3) := by decide +kernel
theorem dX2_stock_31 : decode cX2_stock 31 = .ok (.ireturn, 1) := by decide +kernel
set_option maxRecDepth 20000 in
theorem ggX2_pass_X2_requireRange : GoodIn wsX2_pass wsX2_requireRange := goodIn_ca (goodIn_r _ [8, 9, 10] (by decide +kernel) (by decide +kernel)) (goodIn_sub (fun _ h => List.mem_cons_of_mem _ (List.mem_append_right _ h)) (by decide +kernel))
set_option maxRecDepth 20000 in
theorem gX2_pass_X2_requireRange : GoodIn wsX2_pass (va_wsS RX2 15 yX2_requireRange wsX2_requireRange) := goodIn_app (goodIn_of _ (by decide +kernel)) ggX2_pass_X2_requireRange
set_option maxRecDepth 20000 in
theorem ggX2_pass_X1_endWaits : GoodIn wsX2_pass wsX1_endWaits := goodIn_r _ [15, 16, 17, 18, 19, 20, 21, 22, 23, 24, 25, 26, 27, 28, 14, 29, 30, 31, 38, 39, 40, 41, 42, 43, 44, 45, 46, 47, 48, 49, 50, 51, 52, 53, 54] (by decide +kernel) (by decide +kernel)
set_option maxRecDepth 20000 in
theorem gX2_pass_X1_endWaits : GoodIn wsX2_pass (wsV RX2 145 RX1 yX1_endWaits wsX1_endWaits) := goodIn_app (goodIn_of _ (by decide +kernel)) ggX2_pass_X1_endWaits
theorem dX2_pass_0 : decode cX2_pass 0 = .ok (.iload_n 1, 1) := by decide +kernel
theorem dX2_pass_1 : decode cX2_pass 1 = .ok (.iconst 1, 1) := by decide +kernel
theorem dX2_pass_2 : decode cX2_pass 2 = .ok (.sipush 400, 3) := by decide +kernel
theorem dX2_pass_5 : decode cX2_pass 5 = .ok (.invokestatic 15, 3) := by decide +kernel
theorem dX2_pass_8 : decode cX2_pass 8 = .ok (.iload_n 1, 1) := by decide +kernel
theorem dX2_pass_9 : decode cX2_pass 9 = .ok (.sipush 10000, 3) := by decide +kernel
theorem dX2_pass_12 : decode cX2_pass 12 = .ok (.aload_n 0, 1) := by decide +kernel
theorem dX2_pass_13 : decode cX2_pass 13 = .ok (.getfield 61, 3) := by decide +kernel
theorem dX2_pass_16 : decode cX2_pass 16 = .ok (.isub, 1) := by decide +kernel
theorem dX2_pass_17 : decode cX2_pass 17 = .ok (.if_icmp .le 13, 3) := by decide +kernel
theorem dX2_pass_20 : decode cX2_pass 20 = .ok (.new 24, 3) := by decide +kernel
theorem dX2_pass_23 : decode cX2_pass 23 = .ok (.dup, 1) := by decide +kernel
theorem dX2_pass_24 : decode cX2_pass 24 = .ok (.ldc 143, 2) := by decide +kernel
theorem dX2_pass_26 : decode cX2_pass 26 = .ok (.invokespecial 28, 3) := by decide +kernel
theorem dX2_pass_29 : decode cX2_pass 29 = .ok (.athrow, 1) := by decide +kernel
theorem dX2_pass_30 : decode cX2_pass 30 = .ok (.aload_n 0, 1) := by decide +kernel
theorem dX2_pass_31 : decode cX2_pass 31 = .ok (.dup, 1) := by decide +kernel
theorem dX2_pass_32 : decode cX2_pass 32 = .ok (.getfield 61, 3) := by decide +kernel
theorem dX2_pass_35 : decode cX2_pass 35 = .ok (.iload_n 1, 1) := by decide +kernel
theorem dX2_pass_36 : decode cX2_pass 36 = .ok (.iadd, 1) := by decide +kernel
theorem dX2_pass_37 : decode cX2_pass 37 = .ok (.putfield 61, 3) := by decide +kernel
theorem dX2_pass_40 : decode cX2_pass 40 = .ok (.iconst 0, 1) := by decide +kernel
theorem dX2_pass_41 : decode cX2_pass 41 = .ok (.istore_n 2, 1) := by decide +kernel
theorem dX2_pass_42 : decode cX2_pass 42 = .ok (.aload_n 0, 1) := by decide +kernel
theorem dX2_pass_43 : decode cX2_pass 43 = .ok (.getfield 11, 3) := by decide +kernel
theorem dX2_pass_46 : decode cX2_pass 46 = .ok (.astore_n 3, 1) := by decide +kernel
theorem dX2_pass_47 : decode cX2_pass 47 = .ok (.aload_n 3, 1) := by decide +kernel
theorem dX2_pass_48 : decode cX2_pass 48 = .ok (.arraylength, 1) := by decide +kernel
theorem dX2_pass_49 : decode cX2_pass 49 = .ok (.istore 4, 2) := by decide +kernel
theorem dX2_pass_51 : decode cX2_pass 51 = .ok (.iconst 0, 1) := by decide +kernel
theorem dX2_pass_52 : decode cX2_pass 52 = .ok (.istore 5, 2) := by decide +kernel
theorem dX2_pass_54 : decode cX2_pass 54 = .ok (.iload 5, 2) := by decide +kernel
theorem dX2_pass_56 : decode cX2_pass 56 = .ok (.iload 4, 2) := by decide +kernel
theorem dX2_pass_58 : decode cX2_pass 58 = .ok (.if_icmp .ge 32, 3) := by decide +kernel
theorem dX2_pass_61 : decode cX2_pass 61 = .ok (.aload_n 3, 1) := by decide +kernel
theorem dX2_pass_62 : decode cX2_pass 62 = .ok (.iload 5, 2) := by decide +kernel
theorem dX2_pass_64 : decode cX2_pass 64 = .ok (.aaload, 1) := by decide +kernel
theorem dX2_pass_65 : decode cX2_pass 65 = .ok (.astore 6, 2) := by decide +kernel
theorem dX2_pass_67 : decode cX2_pass 67 = .ok (.aload 6, 2) := by decide +kernel
theorem dX2_pass_69 : decode cX2_pass 69 = .ok (.ifnull 15, 3) := by decide +kernel
theorem dX2_pass_72 : decode cX2_pass 72 = .ok (.iload_n 2, 1) := by decide +kernel
theorem dX2_pass_73 : decode cX2_pass 73 = .ok (.aload 6, 2) := by decide +kernel
theorem dX2_pass_75 : decode cX2_pass 75 = .ok (.aload_n 0, 1) := by decide +kernel
theorem dX2_pass_76 : decode cX2_pass 76 = .ok (.getfield 61, 3) := by decide +kernel
theorem dX2_pass_79 : decode cX2_pass 79 = .ok (.invokevirtual 145, 3) := by decide +kernel
theorem dX2_pass_82 : decode cX2_pass 82 = .ok (.iadd, 1) := by decide +kernel
theorem dX2_pass_83 : decode cX2_pass 83 = .ok (.istore_n 2, 1) := by decide +kernel
theorem dX2_pass_84 : decode cX2_pass 84 = .ok (.iinc 5 1, 3) := by decide +kernel
theorem dX2_pass_87 : decode cX2_pass 87 = .ok (.goto (-33), 3) := by decide +kernel
theorem dX2_pass_90 : decode cX2_pass 90 = .ok (.iload_n 2, 1) := by decide +kernel
theorem dX2_pass_91 : decode cX2_pass 91 = .ok (.ireturn, 1) := by decide +kernel
theorem dX2_day_0 : decode cX2_day 0 = .ok (.aload_n 0, 1) := by decide +kernel
theorem dX2_day_1 : decode cX2_day 1 = .ok (.getfield 61, 3) := by decide +kernel
theorem dX2_day_4 : decode cX2_day 4 = .ok (.ireturn, 1) := by decide +kernel
theorem dX2_requireRange_0 : decode cX2_requireRange 0 = .ok (.iload_n 0, 1) := by decide +kernel
theorem dX2_requireRange_1 : decode cX2_requireRange 1 = .ok (.iload_n 1, 1) := by decide +kernel
theorem dX2_requireRange_2 : decode cX2_requireRange 2 = .ok (.if_icmp .lt 8, 3) := by decide +kernel
theorem dX2_requireRange_5 : decode cX2_requireRange 5 = .ok (.iload_n 0, 1) := by decide +kernel
theorem dX2_requireRange_6 : decode cX2_requireRange 6 = .ok (.iload_n 2, 1) := by decide +kernel
theorem dX2_requireRange_7 : decode cX2_requireRange 7 = .ok (.if_icmp .le 13, 3) := by decide +kernel
theorem dX2_requireRange_10 : decode cX2_requireRange 10 = .ok (.new 148, 3) := by decide +kernel
theorem dX2_requireRange_13 : decode cX2_requireRange 13 = .ok (.dup, 1) := by decide +kernel
theorem dX2_requireRange_14 : decode cX2_requireRange 14 = .ok (.ldc 150, 2) := by decide +kernel
theorem dX2_requireRange_16 : decode cX2_requireRange 16 = .ok (.invokespecial 152, 3) := by decide +kernel
theorem dX2_requireRange_19 : decode cX2_requireRange 19 = .ok (.athrow, 1) := by decide +kernel
theorem dX2_requireRange_20 : decode cX2_requireRange 20 = .ok (.return_, 1) := by decide +kernel
theorem dX2_findOrder_0 : decode cX2_findOrder 0 = .ok (.iload_n 1, 1) := by decide +kernel
theorem dX2_findOrder_1 : decode cX2_findOrder 1 = .ok (.ifCond .lt 21, 3) := by decide +kernel
theorem dX2_findOrder_4 : decode cX2_findOrder 4 = .ok (.iload_n 1, 1) := by decide +kernel
theorem dX2_findOrder_5 : decode cX2_findOrder 5 = .ok (.aload_n 0, 1) := by decide +kernel
theorem dX2_findOrder_6 : decode cX2_findOrder 6 = .ok (.getfield 11, 3) := by decide +kernel
theorem dX2_findOrder_9 : decode cX2_findOrder 9 = .ok (.arraylength, 1) := by decide +kernel
theorem dX2_findOrder_10 : decode cX2_findOrder 10 = .ok (.if_icmp .ge 12, 3) := by decide +kernel
theorem dX2_findOrder_13 : decode cX2_findOrder 13 = .ok (.aload_n 0, 1) := by decide +kernel
theorem dX2_findOrder_14 : decode cX2_findOrder 14 = .ok (.getfield 11, 3) := by decide +kernel
theorem dX2_findOrder_17 : decode cX2_findOrder 17 = .ok (.iload_n 1, 1) := by decide +kernel
theorem dX2_findOrder_18 : decode cX2_findOrder 18 = .ok (.aaload, 1) := by decide +kernel
theorem dX2_findOrder_19 : decode cX2_findOrder 19 = .ok (.goto 4, 3) := by decide +kernel
theorem dX2_findOrder_22 : decode cX2_findOrder 22 = .ok (.aconst_null, 1) := by decide +kernel
theorem dX2_findOrder_23 : decode cX2_findOrder 23 = .ok (.astore_n 2, 1) := by decide +kernel
theorem dX2_findOrder_24 : decode cX2_findOrder 24 = .ok (.aload_n 2, 1) := by decide +kernel
theorem dX2_findOrder_25 : decode cX2_findOrder 25 = .ok (.ifnonnull 13, 3) := by decide +kernel
theorem dX2_findOrder_28 : decode cX2_findOrder 28 = .ok (.new 153, 3) := by decide +kernel
theorem dX2_findOrder_31 : decode cX2_findOrder 31 = .ok (.dup, 1) := by decide +kernel
theorem dX2_findOrder_32 : decode cX2_findOrder 32 = .ok (.ldc 155, 2) := by decide +kernel
theorem dX2_findOrder_34 : decode cX2_findOrder 34 = .ok (.invokespecial 157, 3) := by decide +kernel
theorem dX2_findOrder_37 : decode cX2_findOrder 37 = .ok (.athrow, 1) := by decide +kernel
theorem dX2_findOrder_38 : decode cX2_findOrder 38 = .ok (.aload_n 2, 1) := by decide +kernel
theorem dX2_findOrder_39 : decode cX2_findOrder 39 = .ok (.areturn, 1) := by decide +kernel
theorem dX2_findLine_0 : decode cX2_findLine 0 = .ok (.iload_n 1, 1) := by decide +kernel
theorem dX2_findLine_1 : decode cX2_findLine 1 = .ok (.ifCond .lt 21, 3) := by decide +kernel
theorem dX2_findLine_4 : decode cX2_findLine 4 = .ok (.iload_n 1, 1) := by decide +kernel
theorem dX2_findLine_5 : decode cX2_findLine 5 = .ok (.aload_n 0, 1) := by decide +kernel
theorem dX2_findLine_6 : decode cX2_findLine 6 = .ok (.getfield 158, 3) := by decide +kernel
theorem dX2_findLine_9 : decode cX2_findLine 9 = .ok (.arraylength, 1) := by decide +kernel
theorem dX2_findLine_10 : decode cX2_findLine 10 = .ok (.if_icmp .ge 12, 3) := by decide +kernel
theorem dX2_findLine_13 : decode cX2_findLine 13 = .ok (.aload_n 0, 1) := by decide +kernel
theorem dX2_findLine_14 : decode cX2_findLine 14 = .ok (.getfield 158, 3) := by decide +kernel
theorem dX2_findLine_17 : decode cX2_findLine 17 = .ok (.iload_n 1, 1) := by decide +kernel
theorem dX2_findLine_18 : decode cX2_findLine 18 = .ok (.aaload, 1) := by decide +kernel
theorem dX2_findLine_19 : decode cX2_findLine 19 = .ok (.goto 4, 3) := by decide +kernel
theorem dX2_findLine_22 : decode cX2_findLine 22 = .ok (.aconst_null, 1) := by decide +kernel
theorem dX2_findLine_23 : decode cX2_findLine 23 = .ok (.astore_n 2, 1) := by decide +kernel
theorem dX2_findLine_24 : decode cX2_findLine 24 = .ok (.aload_n 2, 1) := by decide +kernel
theorem dX2_findLine_25 : decode cX2_findLine 25 = .ok (.ifnonnull 13, 3) := by decide +kernel
theorem dX2_findLine_28 : decode cX2_findLine 28 = .ok (.new 153, 3) := by decide +kernel
theorem dX2_findLine_31 : decode cX2_findLine 31 = .ok (.dup, 1) := by decide +kernel
theorem dX2_findLine_32 : decode cX2_findLine 32 = .ok (.ldc 162, 2) := by decide +kernel
theorem dX2_findLine_34 : decode cX2_findLine 34 = .ok (.invokespecial 157, 3) := by decide +kernel
theorem dX2_findLine_37 : decode cX2_findLine 37 = .ok (.athrow, 1) := by decide +kernel
theorem dX2_findLine_38 : decode cX2_findLine 38 = .ok (.aload_n 2, 1) := by decide +kernel
theorem dX2_findLine_39 : decode cX2_findLine 39 = .ok (.areturn, 1) := by decide +kernel
set_option maxRecDepth 20000 in
theorem ggX2_isReturnable_X0_spanFor : GoodIn wsX2_isReturnable wsX0_spanFor := goodIn_r _ [9, 10, 23, 24, 25, 26, 27] (by decide +kernel) (by decide +kernel)
set_option maxRecDepth 20000 in
theorem gX2_isReturnable_X0_spanFor : GoodIn wsX2_isReturnable (wsV RX2 167 RX0 yX0_spanFor wsX0_spanFor) := goodIn_app (goodIn_of _ (by decide +kernel)) ggX2_isReturnable_X0_spanFor
theorem dX2_isReturnable_0 : decode cX2_isReturnable 0 = .ok (.aload_n 1, 1) := by decide +kernel
theorem dX2_isReturnable_1 : decode cX2_isReturnable 1 = .ok (.getfield 39, 3) := by decide +kernel
theorem dX2_isReturnable_4 : decode cX2_isReturnable 4 = .ok (.ifCond .eq 31, 3) := by decide +kernel
theorem dX2_isReturnable_7 : decode cX2_isReturnable 7 = .ok (.aload_n 2, 1) := by decide +kernel
theorem dX2_isReturnable_8 : decode cX2_isReturnable 8 = .ok (.getfield 100, 3) := by decide +kernel
theorem dX2_isReturnable_11 : decode cX2_isReturnable 11 = .ok (.ifCond .ne 24, 3) := by decide +kernel
theorem dX2_isReturnable_14 : decode cX2_isReturnable 14 = .ok (.aload_n 0, 1) := by decide +kernel
theorem dX2_isReturnable_15 : decode cX2_isReturnable 15 = .ok (.getfield 61, 3) := by decide +kernel
theorem dX2_isReturnable_18 : decode cX2_isReturnable 18 = .ok (.aload_n 1, 1) := by decide +kernel
theorem dX2_isReturnable_19 : decode cX2_isReturnable 19 = .ok (.getfield 164, 3) := by decide +kernel
theorem dX2_isReturnable_22 : decode cX2_isReturnable 22 = .ok (.isub, 1) := by decide +kernel
theorem dX2_isReturnable_23 : decode cX2_isReturnable 23 = .ok (.aload_n 2, 1) := by decide +kernel
theorem dX2_isReturnable_24 : decode cX2_isReturnable 24 = .ok (.iload_n 3, 1) := by decide +kernel
theorem dX2_isReturnable_25 : decode cX2_isReturnable 25 = .ok (.invokevirtual 167, 3) := by decide +kernel
theorem dX2_isReturnable_28 : decode cX2_isReturnable 28 = .ok (.if_icmp .gt 7, 3) := by decide +kernel
theorem dX2_isReturnable_31 : decode cX2_isReturnable 31 = .ok (.iconst 1, 1) := by decide +kernel
theorem dX2_isReturnable_32 : decode cX2_isReturnable 32 = .ok (.goto 4, 3) := by decide +kernel
theorem dX2_isReturnable_35 : decode cX2_isReturnable 35 = .ok (.iconst 0, 1) := by decide +kernel
theorem dX2_isReturnable_36 : decode cX2_isReturnable 36 = .ok (.ireturn, 1) := by decide +kernel
set_option maxRecDepth 20000 in
theorem ggX2_startWait_X2_findOrder : GoodIn wsX2_startWait wsX2_findOrder := goodIn_ca (goodIn_r _ [11, 12, 13, 14, 41, 42, 43, 44, 45, 46] (by decide +kernel) (by decide +kernel)) (goodIn_sub (fun _ h => List.mem_cons_of_mem _ (List.mem_append_left _ (List.mem_append_right _ h))) (by decide +kernel))
set_option maxRecDepth 20000 in
theorem gX2_startWait_X2_findOrder : GoodIn wsX2_startWait (wsV RX2 34 RX2 yX2_findOrder wsX2_findOrder) := goodIn_app (goodIn_of _ (by decide +kernel)) ggX2_startWait_X2_findOrder
set_option maxRecDepth 20000 in
theorem ggX2_startWait_X2_findLine : GoodIn wsX2_startWait wsX2_findLine := goodIn_ca (goodIn_r _ [17, 12, 13, 18, 47, 48, 49, 50, 51, 52, 53, 54, 55, 56, 57, 58] (by decide +kernel) (by decide +kernel)) (goodIn_sub (fun _ h => List.mem_cons_of_mem _ (List.mem_append_left _ (List.mem_append_right _ h))) (by decide +kernel))
set_option maxRecDepth 20000 in
theorem gX2_startWait_X2_findLine : GoodIn wsX2_startWait (va_wsS RX2 70 yX2_findLine wsX2_findLine) := goodIn_app (goodIn_of _ (by decide +kernel)) ggX2_startWait_X2_findLine
set_option maxRecDepth 20000 in
theorem ggX2_startWait_X2_requireRange : GoodIn wsX2_startWait wsX2_requireRange := goodIn_ca (goodIn_r _ [21, 22, 23] (by decide +kernel) (by decide +kernel)) (goodIn_sub (fun _ h => List.mem_cons_of_mem _ (List.mem_append_right _ h)) (by decide +kernel))
set_option maxRecDepth 20000 in
theorem gX2_startWait_X2_requireRange : GoodIn wsX2_startWait (va_wsS RX2 15 yX2_requireRange wsX2_requireRange) := goodIn_app (goodIn_of _ (by decide +kernel)) ggX2_startWait_X2_requireRange
set_option maxRecDepth 20000 in
theorem ggX2_startWait_X2_isReturnable : GoodIn wsX2_startWait wsX2_isReturnable := goodIn_r _ [27, 28, 3, 5, 29, 30, 31, 32, 33, 34, 35, 47, 48, 49, 50, 51, 52, 53, 54, 55, 56, 57, 58, 36, 37, 38, 39, 40, 41, 42, 43, 44, 45, 46] (by decide +kernel) (by decide +kernel)
set_option maxRecDepth 20000 in
theorem gX2_startWait_X2_isReturnable : GoodIn wsX2_startWait (wsV RX2 74 RX2 yX2_isReturnable wsX2_isReturnable) := goodIn_app (goodIn_of _ (by decide +kernel)) ggX2_startWait_X2_isReturnable
theorem dX2_startWait_0 : decode cX2_startWait 0 = .ok (.aload_n 0, 1) := by decide +kernel
theorem dX2_startWait_1 : decode cX2_startWait 1 = .ok (.iload_n 1, 1) := by decide +kernel
theorem dX2_startWait_2 : decode cX2_startWait 2 = .ok (.invokevirtual 34, 3) := by decide +kernel
theorem dX2_startWait_5 : decode cX2_startWait 5 = .ok (.astore 5, 2) := by decide +kernel
theorem dX2_startWait_7 : decode cX2_startWait 7 = .ok (.aload 5, 2) := by decide +kernel
theorem dX2_startWait_9 : decode cX2_startWait 9 = .ok (.iload_n 2, 1) := by decide +kernel
theorem dX2_startWait_10 : decode cX2_startWait 10 = .ok (.invokestatic 70, 3) := by decide +kernel
theorem dX2_startWait_13 : decode cX2_startWait 13 = .ok (.astore 6, 2) := by decide +kernel
theorem dX2_startWait_15 : decode cX2_startWait 15 = .ok (.iload_n 3, 1) := by decide +kernel
theorem dX2_startWait_16 : decode cX2_startWait 16 = .ok (.iconst 0, 1) := by decide +kernel
theorem dX2_startWait_17 : decode cX2_startWait 17 = .ok (.iconst 1, 1) := by decide +kernel
theorem dX2_startWait_18 : decode cX2_startWait 18 = .ok (.invokestatic 15, 3) := by decide +kernel
theorem dX2_startWait_21 : decode cX2_startWait 21 = .ok (.aload_n 0, 1) := by decide +kernel
theorem dX2_startWait_22 : decode cX2_startWait 22 = .ok (.aload 5, 2) := by decide +kernel
theorem dX2_startWait_24 : decode cX2_startWait 24 = .ok (.aload 6, 2) := by decide +kernel
theorem dX2_startWait_26 : decode cX2_startWait 26 = .ok (.iload_n 3, 1) := by decide +kernel
theorem dX2_startWait_27 : decode cX2_startWait 27 = .ok (.invokevirtual 74, 3) := by decide +kernel
theorem dX2_startWait_30 : decode cX2_startWait 30 = .ok (.ifCond .ne 13, 3) := by decide +kernel
theorem dX2_startWait_33 : decode cX2_startWait 33 = .ok (.new 24, 3) := by decide +kernel
theorem dX2_startWait_36 : decode cX2_startWait 36 = .ok (.dup, 1) := by decide +kernel
theorem dX2_startWait_37 : decode cX2_startWait 37 = .ok (.ldc 170, 2) := by decide +kernel
theorem dX2_startWait_39 : decode cX2_startWait 39 = .ok (.invokespecial 28, 3) := by decide +kernel
theorem dX2_startWait_42 : decode cX2_startWait 42 = .ok (.athrow, 1) := by decide +kernel
theorem dX2_startWait_43 : decode cX2_startWait 43 = .ok (.aload 6, 2) := by decide +kernel
theorem dX2_startWait_45 : decode cX2_startWait 45 = .ok (.iload 4, 2) := by decide +kernel
theorem dX2_startWait_47 : decode cX2_startWait 47 = .ok (.putfield 100, 3) := by decide +kernel
theorem dX2_startWait_50 : decode cX2_startWait 50 = .ok (.aload 6, 2) := by decide +kernel
theorem dX2_startWait_52 : decode cX2_startWait 52 = .ok (.iload_n 3, 1) := by decide +kernel
theorem dX2_startWait_53 : decode cX2_startWait 53 = .ok (.putfield 94, 3) := by decide +kernel
theorem dX2_startWait_56 : decode cX2_startWait 56 = .ok (.aload 6, 2) := by decide +kernel
theorem dX2_startWait_58 : decode cX2_startWait 58 = .ok (.aload_n 0, 1) := by decide +kernel
theorem dX2_startWait_59 : decode cX2_startWait 59 = .ok (.getfield 61, 3) := by decide +kernel
theorem dX2_startWait_62 : decode cX2_startWait 62 = .ok (.bipush 21, 2) := by decide +kernel
theorem dX2_startWait_64 : decode cX2_startWait 64 = .ok (.iadd, 1) := by decide +kernel
theorem dX2_startWait_65 : decode cX2_startWait 65 = .ok (.putfield 172, 3) := by decide +kernel
theorem dX2_startWait_68 : decode cX2_startWait 68 = .ok (.aload 6, 2) := by decide +kernel
theorem dX2_startWait_70 : decode cX2_startWait 70 = .ok (.getfield 172, 3) := by decide +kernel
theorem dX2_startWait_73 : decode cX2_startWait 73 = .ok (.ireturn, 1) := by decide +kernel
theorem dX2_putIntoStock_0 : decode cX2_putIntoStock 0 = .ok (.iload_n 2, 1) := by decide +kernel
theorem dX2_putIntoStock_1 : decode cX2_putIntoStock 1 = .ok (.ifCond .ne 16, 3) := by decide +kernel
theorem dX2_putIntoStock_4 : decode cX2_putIntoStock 4 = .ok (.aload_n 0, 1) := by decide +kernel
theorem dX2_putIntoStock_5 : decode cX2_putIntoStock 5 = .ok (.dup, 1) := by decide +kernel
theorem dX2_putIntoStock_6 : decode cX2_putIntoStock 6 = .ok (.getfield 134, 3) := by decide +kernel
theorem dX2_putIntoStock_9 : decode cX2_putIntoStock 9 = .ok (.iconst 1, 1) := by decide +kernel
theorem dX2_putIntoStock_10 : decode cX2_putIntoStock 10 = .ok (.iadd, 1) := by decide +kernel
theorem dX2_putIntoStock_11 : decode cX2_putIntoStock 11 = .ok (.putfield 134, 3) := by decide +kernel
theorem dX2_putIntoStock_14 : decode cX2_putIntoStock 14 = .ok (.goto 40, 3) := by decide +kernel
theorem dX2_putIntoStock_17 : decode cX2_putIntoStock 17 = .ok (.iload_n 2, 1) := by decide +kernel
theorem dX2_putIntoStock_18 : decode cX2_putIntoStock 18 = .ok (.iconst 1, 1) := by decide +kernel
theorem dX2_putIntoStock_19 : decode cX2_putIntoStock 19 = .ok (.if_icmp .ne 20, 3) := by decide +kernel
theorem dX2_putIntoStock_22 : decode cX2_putIntoStock 22 = .ok (.iload_n 1, 1) := by decide +kernel
theorem dX2_putIntoStock_23 : decode cX2_putIntoStock 23 = .ok (.ifCond .ne 16, 3) := by decide +kernel
theorem dX2_putIntoStock_26 : decode cX2_putIntoStock 26 = .ok (.aload_n 0, 1) := by decide +kernel
theorem dX2_putIntoStock_27 : decode cX2_putIntoStock 27 = .ok (.dup, 1) := by decide +kernel
theorem dX2_putIntoStock_28 : decode cX2_putIntoStock 28 = .ok (.getfield 137, 3) := by decide +kernel
theorem dX2_putIntoStock_31 : decode cX2_putIntoStock 31 = .ok (.iconst 1, 1) := by decide +kernel
theorem dX2_putIntoStock_32 : decode cX2_putIntoStock 32 = .ok (.iadd, 1) := by decide +kernel
theorem dX2_putIntoStock_33 : decode cX2_putIntoStock 33 = .ok (.putfield 137, 3) := by decide +kernel
theorem dX2_putIntoStock_36 : decode cX2_putIntoStock 36 = .ok (.goto 18, 3) := by decide +kernel
theorem dX2_putIntoStock_39 : decode cX2_putIntoStock 39 = .ok (.iload_n 2, 1) := by decide +kernel
theorem dX2_putIntoStock_40 : decode cX2_putIntoStock 40 = .ok (.iconst 3, 1) := by decide +kernel
theorem dX2_putIntoStock_41 : decode cX2_putIntoStock 41 = .ok (.if_icmp .eq 13, 3) := by decide +kernel
theorem dX2_putIntoStock_44 : decode cX2_putIntoStock 44 = .ok (.aload_n 0, 1) := by decide +kernel
theorem dX2_putIntoStock_45 : decode cX2_putIntoStock 45 = .ok (.dup, 1) := by decide +kernel
theorem dX2_putIntoStock_46 : decode cX2_putIntoStock 46 = .ok (.getfield 140, 3) := by decide +kernel
theorem dX2_putIntoStock_49 : decode cX2_putIntoStock 49 = .ok (.iconst 1, 1) := by decide +kernel
theorem dX2_putIntoStock_50 : decode cX2_putIntoStock 50 = .ok (.iadd, 1) := by decide +kernel
theorem dX2_putIntoStock_51 : decode cX2_putIntoStock 51 = .ok (.putfield 140, 3) := by decide +kernel
theorem dX2_putIntoStock_54 : decode cX2_putIntoStock 54 = .ok (.return_, 1) := by decide +kernel
theorem dL_low_0 : decode cL_low 0 = .ok (.iload_n 0, 1) := by decide +kernel
theorem dL_low_1 : decode cL_low 1 = .ok (.ldc 7, 2) := by decide +kernel
theorem dL_low_3 : decode cL_low 3 = .ok (.iand, 1) := by decide +kernel
theorem dL_low_4 : decode cL_low 4 = .ok (.iload_n 1, 1) := by decide +kernel
theorem dL_low_5 : decode cL_low 5 = .ok (.irem, 1) := by decide +kernel
theorem dL_low_6 : decode cL_low 6 = .ok (.ireturn, 1) := by decide +kernel
theorem dL_cell_0 : decode cL_cell 0 = .ok (.iload_n 1, 1) := by decide +kernel
theorem dL_cell_1 : decode cL_cell 1 = .ok (.aload_n 0, 1) := by decide +kernel
theorem dL_cell_2 : decode cL_cell 2 = .ok (.arraylength, 1) := by decide +kernel
theorem dL_cell_3 : decode cL_cell 3 = .ok (.if_icmp .ge 9, 3) := by decide +kernel
theorem dL_cell_6 : decode cL_cell 6 = .ok (.aload_n 0, 1) := by decide +kernel
theorem dL_cell_7 : decode cL_cell 7 = .ok (.iload_n 1, 1) := by decide +kernel
theorem dL_cell_8 : decode cL_cell 8 = .ok (.iaload, 1) := by decide +kernel
theorem dL_cell_9 : decode cL_cell 9 = .ok (.goto 11, 3) := by decide +kernel
theorem dL_cell_12 : decode cL_cell 12 = .ok (.ldc 8, 2) := by decide +kernel
theorem dL_cell_14 : decode cL_cell 14 = .ok (.iload_n 1, 1) := by decide +kernel
theorem dL_cell_15 : decode cL_cell 15 = .ok (.imul, 1) := by decide +kernel
theorem dL_cell_16 : decode cL_cell 16 = .ok (.sipush 977, 3) := by decide +kernel
theorem dL_cell_19 : decode cL_cell 19 = .ok (.iadd, 1) := by decide +kernel
theorem dL_cell_20 : decode cL_cell 20 = .ok (.ireturn, 1) := by decide +kernel
set_option maxRecDepth 20000 in
theorem ggL_order_X2_order : GoodIn wsL_order wsX2_order := goodIn_ca (goodIn_ca (goodIn_r _ [6, 7, 8, 9, 10, 11, 12, 13, 14, 15, 16, 5, 17, 18, 19, 20, 21, 22, 23, 24, 25, 26, 27, 28, 29, 30, 31, 32, 33, 34, 35, 36, 37, 38, 39, 40, 41, 42, 43, 44, 45, 46, 47] (by decide +kernel) (by decide +kernel)) (goodIn_sub (fun _ h => List.mem_cons_of_mem _ (List.mem_append_left _ (List.mem_append_right _ h))) (by decide +kernel))) (goodIn_sub (fun _ h => List.mem_cons_of_mem _ (List.mem_append_right _ h)) (by decide +kernel))
set_option maxRecDepth 20000 in
theorem gL_order_X2_order : GoodIn wsL_order (wsV RL 9 RX2 yX2_order wsX2_order) := goodIn_app (goodIn_of _ (by decide +kernel)) ggL_order_X2_order
theorem dL_order_0 : decode cL_order 0 = .ok (.aload_n 0, 1) := by decide +kernel
theorem dL_order_1 : decode cL_order 1 = .ok (.iload_n 1, 1) := by decide +kernel
theorem dL_order_2 : decode cL_order 2 = .ok (.iload_n 2, 1) := by decide +kernel
theorem dL_order_3 : decode cL_order 3 = .ok (.invokevirtual 9, 3) := by decide +kernel
theorem dL_order_6 : decode cL_order 6 = .ok (.ireturn, 1) := by decide +kernel
theorem dL_order_7 : decode cL_order 7 = .ok (.astore_n 3, 1) := by decide +kernel
theorem dL_order_8 : decode cL_order 8 = .ok (.bipush (-3), 2) := by decide +kernel
theorem dL_order_10 : decode cL_order 10 = .ok (.ireturn, 1) := by decide +kernel
set_option maxRecDepth 20000 in
theorem ggL_add_X2_add : GoodIn wsL_add wsX2_add := goodIn_ca (goodIn_ca (goodIn_ca (goodIn_r _ [6, 7, 8, 9, 10, 11, 12, 13, 14, 15, 16, 5, 17, 18, 19, 20, 21, 22, 23, 24, 25, 26, 27, 28, 29, 30, 31, 32, 33, 34, 35, 36, 37, 38, 39, 40, 41, 42, 43, 44, 45, 46, 47, 48, 49, 50, 51, 52, 53, 54, 55, 56, 57, 58, 59, 60, 61, 62, 63, 64, 65, 66, 67, 68] (by decide +kernel) (by decide +kernel)) (goodIn_sub (fun _ h => List.mem_cons_of_mem _ (List.mem_append_left _ (List.mem_append_left _ (List.mem_append_right _ h)))) (by decide +kernel))) (goodIn_sub (fun _ h => List.mem_cons_of_mem _ (List.mem_append_left _ (List.mem_append_right _ h))) (by decide +kernel))) (goodIn_sub (fun _ h => List.mem_cons_of_mem _ (List.mem_append_right _ h)) (by decide +kernel))
set_option maxRecDepth 20000 in
theorem gL_add_X2_add : GoodIn wsL_add (wsV RL 17 RX2 yX2_add wsX2_add) := goodIn_app (goodIn_of _ (by decide +kernel)) ggL_add_X2_add
theorem dL_add_0 : decode cL_add 0 = .ok (.aload_n 0, 1) := by decide +kernel
theorem dL_add_1 : decode cL_add 1 = .ok (.iload_n 1, 1) := by decide +kernel
theorem dL_add_2 : decode cL_add 2 = .ok (.iload_n 2, 1) := by decide +kernel
theorem dL_add_3 : decode cL_add 3 = .ok (.iload_n 3, 1) := by decide +kernel
theorem dL_add_4 : decode cL_add 4 = .ok (.invokevirtual 17, 3) := by decide +kernel
theorem dL_add_7 : decode cL_add 7 = .ok (.ireturn, 1) := by decide +kernel
theorem dL_add_8 : decode cL_add 8 = .ok (.astore 4, 2) := by decide +kernel
theorem dL_add_10 : decode cL_add 10 = .ok (.bipush (-3), 2) := by decide +kernel
theorem dL_add_12 : decode cL_add 12 = .ok (.ireturn, 1) := by decide +kernel
set_option maxRecDepth 20000 in
theorem ggL_pay_X2_pay : GoodIn wsL_pay wsX2_pay := goodIn_ca (goodIn_ca (goodIn_ca (goodIn_r _ [6, 7, 8, 9, 10, 11, 12, 13, 14, 15, 16, 5, 17, 18, 19, 20, 21, 22, 23, 24, 25, 26, 27, 28, 29, 30, 31, 32, 33, 34, 35, 36, 37, 38, 39, 40, 41, 42, 43, 44, 45, 46, 47, 48, 49, 50, 51, 52, 53, 54, 55, 56, 57, 58, 59, 60, 61, 62, 63, 64, 65, 66, 67, 68, 69, 70, 71] (by decide +kernel) (by decide +kernel)) (goodIn_sub (fun _ h => List.mem_cons_of_mem _ (List.mem_append_left _ (List.mem_append_left _ (List.mem_append_right _ h)))) (by decide +kernel))) (goodIn_sub (fun _ h => List.mem_cons_of_mem _ (List.mem_append_left _ (List.mem_append_right _ h))) (by decide +kernel))) (goodIn_sub (fun _ h => List.mem_cons_of_mem _ (List.mem_append_right _ h)) (by decide +kernel))
set_option maxRecDepth 20000 in
theorem gL_pay_X2_pay : GoodIn wsL_pay (wsV RL 21 RX2 yX2_pay wsX2_pay) := goodIn_app (goodIn_of _ (by decide +kernel)) ggL_pay_X2_pay
theorem dL_pay_0 : decode cL_pay 0 = .ok (.aload_n 0, 1) := by decide +kernel
theorem dL_pay_1 : decode cL_pay 1 = .ok (.iload_n 1, 1) := by decide +kernel
theorem dL_pay_2 : decode cL_pay 2 = .ok (.iload_n 2, 1) := by decide +kernel
theorem dL_pay_3 : decode cL_pay 3 = .ok (.iload_n 3, 1) := by decide +kernel
theorem dL_pay_4 : decode cL_pay 4 = .ok (.invokevirtual 21, 3) := by decide +kernel
theorem dL_pay_7 : decode cL_pay 7 = .ok (.ireturn, 1) := by decide +kernel
theorem dL_pay_8 : decode cL_pay 8 = .ok (.astore 4, 2) := by decide +kernel
theorem dL_pay_10 : decode cL_pay 10 = .ok (.bipush (-3), 2) := by decide +kernel
theorem dL_pay_12 : decode cL_pay 12 = .ok (.ireturn, 1) := by decide +kernel
set_option maxRecDepth 20000 in
theorem ggL_ask_X2_ask : GoodIn wsL_ask wsX2_ask := goodIn_ca (goodIn_ca (goodIn_ca (goodIn_r _ [6, 7, 8, 9, 5, 10, 11, 12, 13, 14, 15, 16, 17, 18, 19, 20, 21, 22, 23, 24, 25, 26, 27, 28, 29, 30, 31, 32, 33, 34, 35, 36, 37, 38, 39, 40, 41, 42, 43, 44, 45, 46, 47, 48, 49, 50, 51, 52, 53, 54, 55, 56, 57, 58, 59, 60, 61, 62, 63, 64, 65, 66, 67] (by decide +kernel) (by decide +kernel)) (goodIn_sub (fun _ h => List.mem_cons_of_mem _ (List.mem_append_left _ (List.mem_append_left _ (List.mem_append_right _ h)))) (by decide +kernel))) (goodIn_sub (fun _ h => List.mem_cons_of_mem _ (List.mem_append_left _ (List.mem_append_right _ h))) (by decide +kernel))) (goodIn_sub (fun _ h => List.mem_cons_of_mem _ (List.mem_append_right _ h)) (by decide +kernel))
set_option maxRecDepth 20000 in
theorem gL_ask_X2_ask : GoodIn wsL_ask (wsV RL 24 RX2 yX2_ask wsX2_ask) := goodIn_app (goodIn_of _ (by decide +kernel)) ggL_ask_X2_ask
theorem dL_ask_0 : decode cL_ask 0 = .ok (.aload_n 0, 1) := by decide +kernel
theorem dL_ask_1 : decode cL_ask 1 = .ok (.iload_n 1, 1) := by decide +kernel
theorem dL_ask_2 : decode cL_ask 2 = .ok (.iload_n 2, 1) := by decide +kernel
theorem dL_ask_3 : decode cL_ask 3 = .ok (.iload_n 3, 1) := by decide +kernel
theorem dL_ask_4 : decode cL_ask 4 = .ok (.invokevirtual 24, 3) := by decide +kernel
theorem dL_ask_7 : decode cL_ask 7 = .ok (.ireturn, 1) := by decide +kernel
theorem dL_ask_8 : decode cL_ask 8 = .ok (.astore 4, 2) := by decide +kernel
theorem dL_ask_10 : decode cL_ask 10 = .ok (.bipush (-3), 2) := by decide +kernel
theorem dL_ask_12 : decode cL_ask 12 = .ok (.ireturn, 1) := by decide +kernel
set_option maxRecDepth 20000 in
theorem ggL_exchange_X2_exchange : GoodIn wsL_exchange wsX2_exchange := goodIn_ca (goodIn_ca (goodIn_ca (goodIn_r _ [6, 7, 8, 9, 5, 10, 11, 12, 13, 14, 15, 16, 17, 18, 19, 20, 21, 22, 23, 24, 25, 26, 27, 28, 29, 30, 31, 32, 33, 34, 35, 36, 37, 38, 39, 40, 41, 42, 43, 44, 45, 46, 47, 48, 49, 50, 51, 52, 53, 54, 55, 56, 57, 58, 59, 60, 61, 62, 63, 64, 65, 66, 67] (by decide +kernel) (by decide +kernel)) (goodIn_sub (fun _ h => List.mem_cons_of_mem _ (List.mem_append_left _ (List.mem_append_left _ (List.mem_append_right _ h)))) (by decide +kernel))) (goodIn_sub (fun _ h => List.mem_cons_of_mem _ (List.mem_append_left _ (List.mem_append_right _ h))) (by decide +kernel))) (goodIn_sub (fun _ h => List.mem_cons_of_mem _ (List.mem_append_right _ h)) (by decide +kernel))
set_option maxRecDepth 20000 in
theorem gL_exchange_X2_exchange : GoodIn wsL_exchange (wsV RL 27 RX2 yX2_exchange wsX2_exchange) := goodIn_app (goodIn_of _ (by decide +kernel)) ggL_exchange_X2_exchange
theorem dL_exchange_0 : decode cL_exchange 0 = .ok (.aload_n 0, 1) := by decide +kernel
theorem dL_exchange_1 : decode cL_exchange 1 = .ok (.iload_n 1, 1) := by decide +kernel
theorem dL_exchange_2 : decode cL_exchange 2 = .ok (.iload_n 2, 1) := by decide +kernel
theorem dL_exchange_3 : decode cL_exchange 3 = .ok (.iload_n 3, 1) := by decide +kernel
theorem dL_exchange_4 : decode cL_exchange 4 = .ok (.invokevirtual 27, 3) := by decide +kernel
theorem dL_exchange_7 : decode cL_exchange 7 = .ok (.ireturn, 1) := by decide +kernel
theorem dL_exchange_8 : decode cL_exchange 8 = .ok (.astore 4, 2) := by decide +kernel
theorem dL_exchange_10 : decode cL_exchange 10 = .ok (.bipush (-3), 2) := by decide +kernel
theorem dL_exchange_12 : decode cL_exchange 12 = .ok (.ireturn, 1) := by decide +kernel
set_option maxRecDepth 20000 in
theorem ggL_grade_X2_grade : GoodIn wsL_grade wsX2_grade := goodIn_ca (goodIn_ca (goodIn_ca (goodIn_r _ [6, 7, 8, 9, 10, 11, 12, 13, 14, 5, 15, 16, 17, 18, 19, 20, 21, 22, 23, 24, 25, 26, 27, 28, 29, 30, 31, 32, 33, 34, 35, 36, 37, 38, 39, 40, 41, 42, 43, 44, 45, 46, 47, 48, 49, 50, 51, 52, 53, 54, 55, 56, 57, 58, 59, 60, 61, 62, 63, 64, 65, 66, 67, 68, 69, 70, 71, 72, 73, 74, 75, 76, 77, 78, 79, 80, 81, 82, 83, 84, 85, 86, 87, 88, 89, 90, 91, 92, 93, 94, 95, 96, 97, 98, 99, 100, 101, 102, 103, 104, 105, 106, 107, 108, 109] (by decide +kernel) (by decide +kernel)) (goodIn_sub (fun _ h => List.mem_cons_of_mem _ (List.mem_append_left _ (List.mem_append_left _ (List.mem_append_right _ h)))) (by decide +kernel))) (goodIn_sub (fun _ h => List.mem_cons_of_mem _ (List.mem_append_left _ (List.mem_append_right _ h))) (by decide +kernel))) (goodIn_sub (fun _ h => List.mem_cons_of_mem _ (List.mem_append_right _ h)) (by decide +kernel))
set_option maxRecDepth 20000 in
theorem gL_grade_X2_grade : GoodIn wsL_grade (wsV RL 30 RX2 yX2_grade wsX2_grade) := goodIn_app (goodIn_of _ (by decide +kernel)) ggL_grade_X2_grade
theorem dL_grade_0 : decode cL_grade 0 = .ok (.aload_n 0, 1) := by decide +kernel
theorem dL_grade_1 : decode cL_grade 1 = .ok (.iload_n 1, 1) := by decide +kernel
theorem dL_grade_2 : decode cL_grade 2 = .ok (.iload_n 2, 1) := by decide +kernel
theorem dL_grade_3 : decode cL_grade 3 = .ok (.iload_n 3, 1) := by decide +kernel
theorem dL_grade_4 : decode cL_grade 4 = .ok (.invokevirtual 30, 3) := by decide +kernel
theorem dL_grade_7 : decode cL_grade 7 = .ok (.ireturn, 1) := by decide +kernel
theorem dL_grade_8 : decode cL_grade 8 = .ok (.astore 4, 2) := by decide +kernel
theorem dL_grade_10 : decode cL_grade 10 = .ok (.bipush (-3), 2) := by decide +kernel
theorem dL_grade_12 : decode cL_grade 12 = .ok (.ireturn, 1) := by decide +kernel
set_option maxRecDepth 20000 in
theorem ggL_all_X2_taken : GoodIn wsL_all wsX2_taken := goodIn_ca (goodIn_ca (goodIn_r _ [5, 6, 7, 8, 9, 10, 11, 4, 12, 13, 14, 15, 16, 17, 18, 19, 20, 21, 22, 23, 24, 25, 26, 27, 28, 29, 30, 31, 32, 33, 34, 35, 36, 37, 38] (by decide +kernel) (by decide +kernel)) (goodIn_sub (fun _ h => List.mem_cons_of_mem _ (List.mem_append_left _ (List.mem_append_right _ h))) (by decide +kernel))) (goodIn_sub (fun _ h => List.mem_cons_of_mem _ (List.mem_append_right _ h)) (by decide +kernel))
set_option maxRecDepth 20000 in
theorem gL_all_X2_taken : GoodIn wsL_all (wsV RL 33 RX2 yX2_taken wsX2_taken) := goodIn_app (goodIn_of _ (by decide +kernel)) ggL_all_X2_taken
theorem dL_all_0 : decode cL_all 0 = .ok (.aload_n 0, 1) := by decide +kernel
theorem dL_all_1 : decode cL_all 1 = .ok (.iload_n 1, 1) := by decide +kernel
theorem dL_all_2 : decode cL_all 2 = .ok (.iconst 0, 1) := by decide +kernel
theorem dL_all_3 : decode cL_all 3 = .ok (.invokevirtual 33, 3) := by decide +kernel
theorem dL_all_6 : decode cL_all 6 = .ok (.aload_n 0, 1) := by decide +kernel
theorem dL_all_7 : decode cL_all 7 = .ok (.iload_n 1, 1) := by decide +kernel
theorem dL_all_8 : decode cL_all 8 = .ok (.iconst 1, 1) := by decide +kernel
theorem dL_all_9 : decode cL_all 9 = .ok (.invokevirtual 33, 3) := by decide +kernel
theorem dL_all_12 : decode cL_all 12 = .ok (.iadd, 1) := by decide +kernel
theorem dL_all_13 : decode cL_all 13 = .ok (.aload_n 0, 1) := by decide +kernel
theorem dL_all_14 : decode cL_all 14 = .ok (.iload_n 1, 1) := by decide +kernel
theorem dL_all_15 : decode cL_all 15 = .ok (.iconst 2, 1) := by decide +kernel
theorem dL_all_16 : decode cL_all 16 = .ok (.invokevirtual 33, 3) := by decide +kernel
theorem dL_all_19 : decode cL_all 19 = .ok (.iadd, 1) := by decide +kernel
theorem dL_all_20 : decode cL_all 20 = .ok (.ireturn, 1) := by decide +kernel
set_option maxRecDepth 20000 in
theorem ggL_sums_X2_price : GoodIn wsL_sums wsX2_price := goodIn_ca (goodIn_r _ [5, 6, 7, 8, 4, 9, 10, 11, 12, 13, 14, 15, 16, 17, 18, 19, 20, 21, 22, 77, 78, 79, 80, 81, 82, 83, 84, 85, 86, 87, 88, 89, 90, 91, 92, 93, 94, 95, 96, 97, 98, 99] (by decide +kernel) (by decide +kernel)) (goodIn_sub (fun _ h => List.mem_cons_of_mem _ (List.mem_append_left _ (List.mem_append_right _ h))) (by decide +kernel))
set_option maxRecDepth 20000 in
theorem gL_sums_X2_price : GoodIn wsL_sums (wsV RL 36 RX2 yX2_price wsX2_price) := goodIn_app (goodIn_of _ (by decide +kernel)) ggL_sums_X2_price
set_option maxRecDepth 20000 in
theorem ggL_sums_X2_fees : GoodIn wsL_sums wsX2_fees := goodIn_ca (goodIn_r _ [26, 27, 6, 7, 8, 4, 9, 10, 11, 12, 83, 84, 85, 86, 87, 88, 89, 90, 91, 92, 93, 94, 77, 78, 79, 80, 81, 82] (by decide +kernel) (by decide +kernel)) (goodIn_sub (fun _ h => List.mem_cons_of_mem _ (List.mem_append_left _ (List.mem_append_right _ h))) (by decide +kernel))
set_option maxRecDepth 20000 in
theorem gL_sums_X2_fees : GoodIn wsL_sums (wsV RL 40 RX2 yX2_fees wsX2_fees) := goodIn_app (goodIn_of _ (by decide +kernel)) ggL_sums_X2_fees
set_option maxRecDepth 20000 in
theorem ggL_sums_X2_charges : GoodIn wsL_sums wsX2_charges := goodIn_ca (goodIn_r _ [31, 32, 6, 7, 8, 4, 9, 10, 11, 12, 83, 84, 85, 86, 87, 88, 89, 90, 91, 92, 93, 94, 77, 78, 79, 80, 81, 82] (by decide +kernel) (by decide +kernel)) (goodIn_sub (fun _ h => List.mem_cons_of_mem _ (List.mem_append_left _ (List.mem_append_right _ h))) (by decide +kernel))
set_option maxRecDepth 20000 in
theorem gL_sums_X2_charges : GoodIn wsL_sums (wsV RL 43 RX2 yX2_charges wsX2_charges) := goodIn_app (goodIn_of _ (by decide +kernel)) ggL_sums_X2_charges
set_option maxRecDepth 20000 in
theorem ggL_sums_L_all : GoodIn wsL_sums wsL_all := goodIn_ca (goodIn_ca (goodIn_r _ [36, 37, 38, 39, 4, 40, 41, 42, 43, 6, 7, 8, 9, 10, 11, 12, 44, 45, 46, 47, 48, 83, 84, 85, 86, 87, 88, 89, 90, 91, 92, 93, 94, 77, 78, 79, 80, 81, 82] (by decide +kernel) (by decide +kernel)) (goodIn_sub (fun _ h => List.mem_cons_of_mem _ (List.mem_append_left _ (List.mem_append_right _ h))) (by decide +kernel))) (goodIn_sub (fun _ h => List.mem_cons_of_mem _ (List.mem_append_right _ h)) (by decide +kernel))
set_option maxRecDepth 20000 in
theorem gL_sums_L_all : GoodIn wsL_sums (va_wsS RL 46 yL_all wsL_all) := goodIn_app (goodIn_of _ (by decide +kernel)) ggL_sums_L_all
set_option maxRecDepth 20000 in
theorem ggL_sums_X2_taken : GoodIn wsL_sums wsX2_taken := goodIn_ca (goodIn_ca (goodIn_r _ [40, 41, 42, 43, 6, 7, 8, 4, 9, 10, 11, 12, 44, 45, 46, 47, 48, 83, 84, 85, 86, 87, 88, 89, 90, 91, 92, 93, 94, 77, 78, 79, 80, 81, 82] (by decide +kernel) (by decide +kernel)) (goodIn_sub (fun _ h => List.mem_cons_of_mem _ (List.mem_append_left _ (List.mem_append_right _ h))) (by decide +kernel))) (goodIn_sub (fun _ h => List.mem_cons_of_mem _ (List.mem_append_right _ h)) (by decide +kernel))
set_option maxRecDepth 20000 in
theorem gL_sums_X2_taken : GoodIn wsL_sums (wsV RL 33 RX2 yX2_taken wsX2_taken) := goodIn_app (goodIn_of _ (by decide +kernel)) ggL_sums_X2_taken
set_option maxRecDepth 20000 in
theorem ggL_sums_X2_refunded : GoodIn wsL_sums wsX2_refunded := goodIn_ca (goodIn_r _ [52, 53, 6, 7, 8, 4, 9, 10, 11, 12, 83, 84, 85, 86, 87, 88, 89, 90, 91, 92, 93, 94, 77, 78, 79, 80, 81, 82] (by decide +kernel) (by decide +kernel)) (goodIn_sub (fun _ h => List.mem_cons_of_mem _ (List.mem_append_left _ (List.mem_append_right _ h))) (by decide +kernel))
set_option maxRecDepth 20000 in
theorem gL_sums_X2_refunded : GoodIn wsL_sums (wsV RL 52 RX2 yX2_refunded wsX2_refunded) := goodIn_app (goodIn_of _ (by decide +kernel)) ggL_sums_X2_refunded
set_option maxRecDepth 20000 in
theorem ggL_sums_X2_isShortBy : GoodIn wsL_sums wsX2_isShortBy := goodIn_ca (goodIn_r _ [57, 58, 59, 60, 61, 62, 6, 7, 8, 4, 9, 10, 11, 12, 63, 64, 65, 16, 66, 67, 68, 69, 14, 15, 17, 18, 19, 20, 21, 22, 70, 71, 72, 73, 74, 75, 76, 83, 84, 85, 86, 87, 88, 89, 90, 91, 92, 93, 94, 77, 78, 79, 80, 81, 82, 95, 96, 97, 98, 99] (by decide +kernel) (by decide +kernel)) (goodIn_sub (fun _ h => List.mem_cons_of_mem _ (List.mem_append_left _ (List.mem_append_right _ h))) (by decide +kernel))
set_option maxRecDepth 20000 in
theorem gL_sums_X2_isShortBy : GoodIn wsL_sums (wsV RL 55 RX2 yX2_isShortBy wsX2_isShortBy) := goodIn_app (goodIn_of _ (by decide +kernel)) ggL_sums_X2_isShortBy
theorem dL_sums_0 : decode cL_sums 0 = .ok (.aload_n 0, 1) := by decide +kernel
theorem dL_sums_1 : decode cL_sums 1 = .ok (.iload_n 1, 1) := by decide +kernel
theorem dL_sums_2 : decode cL_sums 2 = .ok (.invokevirtual 36, 3) := by decide +kernel
theorem dL_sums_5 : decode cL_sums 5 = .ok (.aload_n 0, 1) := by decide +kernel
theorem dL_sums_6 : decode cL_sums 6 = .ok (.iload_n 1, 1) := by decide +kernel
theorem dL_sums_7 : decode cL_sums 7 = .ok (.invokevirtual 40, 3) := by decide +kernel
theorem dL_sums_10 : decode cL_sums 10 = .ok (.iadd, 1) := by decide +kernel
theorem dL_sums_11 : decode cL_sums 11 = .ok (.aload_n 0, 1) := by decide +kernel
theorem dL_sums_12 : decode cL_sums 12 = .ok (.iload_n 1, 1) := by decide +kernel
theorem dL_sums_13 : decode cL_sums 13 = .ok (.invokevirtual 43, 3) := by decide +kernel
theorem dL_sums_16 : decode cL_sums 16 = .ok (.iadd, 1) := by decide +kernel
theorem dL_sums_17 : decode cL_sums 17 = .ok (.istore_n 3, 1) := by decide +kernel
theorem dL_sums_18 : decode cL_sums 18 = .ok (.aload_n 0, 1) := by decide +kernel
theorem dL_sums_19 : decode cL_sums 19 = .ok (.iload_n 1, 1) := by decide +kernel
theorem dL_sums_20 : decode cL_sums 20 = .ok (.invokestatic 46, 3) := by decide +kernel
theorem dL_sums_23 : decode cL_sums 23 = .ok (.istore 4, 2) := by decide +kernel
theorem dL_sums_25 : decode cL_sums 25 = .ok (.aload_n 0, 1) := by decide +kernel
theorem dL_sums_26 : decode cL_sums 26 = .ok (.iload_n 1, 1) := by decide +kernel
theorem dL_sums_27 : decode cL_sums 27 = .ok (.iconst 0, 1) := by decide +kernel
theorem dL_sums_28 : decode cL_sums 28 = .ok (.invokevirtual 33, 3) := by decide +kernel
theorem dL_sums_31 : decode cL_sums 31 = .ok (.ifCond .lt 49, 3) := by decide +kernel
theorem dL_sums_34 : decode cL_sums 34 = .ok (.aload_n 0, 1) := by decide +kernel
theorem dL_sums_35 : decode cL_sums 35 = .ok (.iload_n 1, 1) := by decide +kernel
theorem dL_sums_36 : decode cL_sums 36 = .ok (.iconst 1, 1) := by decide +kernel
theorem dL_sums_37 : decode cL_sums 37 = .ok (.invokevirtual 33, 3) := by decide +kernel
theorem dL_sums_40 : decode cL_sums 40 = .ok (.ifCond .lt 40, 3) := by decide +kernel
theorem dL_sums_43 : decode cL_sums 43 = .ok (.aload_n 0, 1) := by decide +kernel
theorem dL_sums_44 : decode cL_sums 44 = .ok (.iload_n 1, 1) := by decide +kernel
theorem dL_sums_45 : decode cL_sums 45 = .ok (.iconst 2, 1) := by decide +kernel
theorem dL_sums_46 : decode cL_sums 46 = .ok (.invokevirtual 33, 3) := by decide +kernel
theorem dL_sums_49 : decode cL_sums 49 = .ok (.ifCond .lt 31, 3) := by decide +kernel
theorem dL_sums_52 : decode cL_sums 52 = .ok (.aload_n 0, 1) := by decide +kernel
theorem dL_sums_53 : decode cL_sums 53 = .ok (.iload_n 1, 1) := by decide +kernel
theorem dL_sums_54 : decode cL_sums 54 = .ok (.invokevirtual 52, 3) := by decide +kernel
theorem dL_sums_57 : decode cL_sums 57 = .ok (.ifCond .lt 23, 3) := by decide +kernel
theorem dL_sums_60 : decode cL_sums 60 = .ok (.aload_n 0, 1) := by decide +kernel
theorem dL_sums_61 : decode cL_sums 61 = .ok (.iload_n 1, 1) := by decide +kernel
theorem dL_sums_62 : decode cL_sums 62 = .ok (.invokevirtual 40, 3) := by decide +kernel
theorem dL_sums_65 : decode cL_sums 65 = .ok (.ifCond .lt 15, 3) := by decide +kernel
theorem dL_sums_68 : decode cL_sums 68 = .ok (.aload_n 0, 1) := by decide +kernel
theorem dL_sums_69 : decode cL_sums 69 = .ok (.iload_n 1, 1) := by decide +kernel
theorem dL_sums_70 : decode cL_sums 70 = .ok (.invokevirtual 43, 3) := by decide +kernel
theorem dL_sums_73 : decode cL_sums 73 = .ok (.ifCond .lt 7, 3) := by decide +kernel
theorem dL_sums_76 : decode cL_sums 76 = .ok (.iconst 1, 1) := by decide +kernel
theorem dL_sums_77 : decode cL_sums 77 = .ok (.goto 4, 3) := by decide +kernel
theorem dL_sums_80 : decode cL_sums 80 = .ok (.iconst 0, 1) := by decide +kernel
theorem dL_sums_81 : decode cL_sums 81 = .ok (.istore 5, 2) := by decide +kernel
theorem dL_sums_83 : decode cL_sums 83 = .ok (.iload 5, 2) := by decide +kernel
theorem dL_sums_85 : decode cL_sums 85 = .ok (.ifCond .eq 58, 3) := by decide +kernel
theorem dL_sums_88 : decode cL_sums 88 = .ok (.aload_n 0, 1) := by decide +kernel
theorem dL_sums_89 : decode cL_sums 89 = .ok (.iload_n 1, 1) := by decide +kernel
theorem dL_sums_90 : decode cL_sums 90 = .ok (.invokevirtual 55, 3) := by decide +kernel
theorem dL_sums_93 : decode cL_sums 93 = .ok (.iload_n 2, 1) := by decide +kernel
theorem dL_sums_94 : decode cL_sums 94 = .ok (.ifCond .eq 16, 3) := by decide +kernel
theorem dL_sums_97 : decode cL_sums 97 = .ok (.iload_n 3, 1) := by decide +kernel
theorem dL_sums_98 : decode cL_sums 98 = .ok (.iload 4, 2) := by decide +kernel
theorem dL_sums_100 : decode cL_sums 100 = .ok (.if_icmp .le 10, 3) := by decide +kernel
theorem dL_sums_103 : decode cL_sums 103 = .ok (.iload_n 3, 1) := by decide +kernel
theorem dL_sums_104 : decode cL_sums 104 = .ok (.iload 4, 2) := by decide +kernel
theorem dL_sums_106 : decode cL_sums 106 = .ok (.isub, 1) := by decide +kernel
theorem dL_sums_107 : decode cL_sums 107 = .ok (.goto 4, 3) := by decide +kernel
theorem dL_sums_110 : decode cL_sums 110 = .ok (.iconst 0, 1) := by decide +kernel
theorem dL_sums_111 : decode cL_sums 111 = .ok (.if_icmp .ne 32, 3) := by decide +kernel
theorem dL_sums_114 : decode cL_sums 114 = .ok (.iload_n 2, 1) := by decide +kernel
theorem dL_sums_115 : decode cL_sums 115 = .ok (.ifCond .ne 24, 3) := by decide +kernel
theorem dL_sums_118 : decode cL_sums 118 = .ok (.iload 4, 2) := by decide +kernel
theorem dL_sums_120 : decode cL_sums 120 = .ok (.ifCond .ne 23, 3) := by decide +kernel
theorem dL_sums_123 : decode cL_sums 123 = .ok (.aload_n 0, 1) := by decide +kernel
theorem dL_sums_124 : decode cL_sums 124 = .ok (.iload_n 1, 1) := by decide +kernel
theorem dL_sums_125 : decode cL_sums 125 = .ok (.invokevirtual 52, 3) := by decide +kernel
theorem dL_sums_128 : decode cL_sums 128 = .ok (.ifCond .ne 15, 3) := by decide +kernel
theorem dL_sums_131 : decode cL_sums 131 = .ok (.aload_n 0, 1) := by decide +kernel
theorem dL_sums_132 : decode cL_sums 132 = .ok (.iload_n 1, 1) := by decide +kernel
theorem dL_sums_133 : decode cL_sums 133 = .ok (.invokevirtual 40, 3) := by decide +kernel
theorem dL_sums_136 : decode cL_sums 136 = .ok (.ifCond .ne 7, 3) := by decide +kernel
theorem dL_sums_139 : decode cL_sums 139 = .ok (.iconst 1, 1) := by decide +kernel
theorem dL_sums_140 : decode cL_sums 140 = .ok (.goto 4, 3) := by decide +kernel
theorem dL_sums_143 : decode cL_sums 143 = .ok (.iconst 0, 1) := by decide +kernel
theorem dL_sums_144 : decode cL_sums 144 = .ok (.ireturn, 1) := by decide +kernel
set_option maxRecDepth 20000 in
theorem ggL_returns_X2_state : GoodIn wsL_returns wsX2_state := goodIn_ca (goodIn_r _ [5, 6, 7, 8, 9, 4, 10, 11, 12, 13, 14, 15, 16, 17, 163, 164, 165, 166, 167, 168, 169, 170, 171, 172, 173, 174, 175, 176, 177, 178, 179, 180, 181, 182, 183, 184, 185] (by decide +kernel) (by decide +kernel)) (goodIn_sub (fun _ h => List.mem_cons_of_mem _ (List.mem_append_left _ (List.mem_append_left _ (List.mem_append_right _ h)))) (by decide +kernel))
set_option maxRecDepth 20000 in
theorem gL_returns_X2_state : GoodIn wsL_returns (wsV RL 58 RX2 yX2_state wsX2_state) := goodIn_app (goodIn_of _ (by decide +kernel)) ggL_returns_X2_state
set_option maxRecDepth 20000 in
theorem ggL_returns_L_low : GoodIn wsL_returns wsL_low := goodIn_r _ [21, 22] (by decide +kernel) (by decide +kernel)
set_option maxRecDepth 20000 in
theorem gL_returns_L_low : GoodIn wsL_returns (va_wsS RL 61 yL_low wsL_low) := goodIn_app (goodIn_of _ (by decide +kernel)) ggL_returns_L_low
set_option maxRecDepth 20000 in
theorem ggL_returns_L_all : GoodIn wsL_returns wsL_all := goodIn_ca (goodIn_ca (goodIn_r _ [25, 26, 27, 28, 4, 29, 30, 31, 32, 7, 8, 9, 10, 11, 12, 13, 33, 34, 35, 36, 37, 174, 175, 176, 177, 178, 179, 180, 181, 182, 183, 184, 185, 168, 169, 170, 171, 172, 173] (by decide +kernel) (by decide +kernel)) (goodIn_sub (fun _ h => List.mem_cons_of_mem _ (List.mem_append_left _ (List.mem_append_left _ (List.mem_append_right _ h)))) (by decide +kernel))) (goodIn_sub (fun _ h => List.mem_cons_of_mem _ (List.mem_append_left _ (List.mem_append_right _ h))) (by decide +kernel))
set_option maxRecDepth 20000 in
theorem gL_returns_L_all : GoodIn wsL_returns (va_wsS RL 46 yL_all wsL_all) := goodIn_app (goodIn_of _ (by decide +kernel)) ggL_returns_L_all
set_option maxRecDepth 20000 in
theorem ggL_returns_X2_refunded : GoodIn wsL_returns wsX2_refunded := goodIn_ca (goodIn_r _ [41, 42, 7, 8, 9, 4, 10, 11, 12, 13, 174, 175, 176, 177, 178, 179, 180, 181, 182, 183, 184, 185, 168, 169, 170, 171, 172, 173] (by decide +kernel) (by decide +kernel)) (goodIn_sub (fun _ h => List.mem_cons_of_mem _ (List.mem_append_left _ (List.mem_append_left _ (List.mem_append_right _ h)))) (by decide +kernel))
set_option maxRecDepth 20000 in
theorem gL_returns_X2_refunded : GoodIn wsL_returns (wsV RL 52 RX2 yX2_refunded wsX2_refunded) := goodIn_app (goodIn_of _ (by decide +kernel)) ggL_returns_X2_refunded
set_option maxRecDepth 20000 in
theorem ggL_returns_X2_stock : GoodIn wsL_returns wsX2_stock := goodIn_ca (goodIn_r _ [46, 47, 48, 49, 33, 34, 4, 35, 36, 37, 168, 169, 170, 171, 172, 173] (by decide +kernel) (by decide +kernel)) (goodIn_sub (fun _ h => List.mem_cons_of_mem _ (List.mem_append_left _ (List.mem_append_right _ h))) (by decide +kernel))
set_option maxRecDepth 20000 in
theorem gL_returns_X2_stock : GoodIn wsL_returns (wsV RL 64 RX2 yX2_stock wsX2_stock) := goodIn_app (goodIn_of _ (by decide +kernel)) ggL_returns_X2_stock
set_option maxRecDepth 20000 in
theorem ggL_returns_X2_grade : GoodIn wsL_returns wsX2_grade := goodIn_ca (goodIn_ca (goodIn_ca (goodIn_r _ [53, 54, 55, 56, 57, 6, 7, 8, 9, 4, 10, 11, 12, 13, 14, 15, 16, 17, 33, 34, 35, 36, 37, 58, 59, 60, 61, 62, 63, 64, 65, 66, 67, 68, 69, 70, 71, 72, 73, 74, 75, 76, 77, 78, 47, 48, 49, 79, 80, 81, 82, 83, 84, 85, 86, 87, 88, 89, 90, 91, 92, 93, 94, 95, 96, 97, 98, 99, 100, 101, 102, 103, 104, 105, 106, 107, 108, 109, 110, 111, 112, 113, 174, 175, 176, 177, 178, 179, 180, 181, 182, 183, 184, 185, 163, 164, 165, 166, 167, 168, 169, 170, 171, 172, 173] (by decide +kernel) (by decide +kernel)) (goodIn_sub (fun _ h => List.mem_cons_of_mem _ (List.mem_append_right _ h)) (by decide +kernel))) (goodIn_sub (fun _ h => List.mem_cons_of_mem _ (List.mem_append_left _ (List.mem_append_left _ (List.mem_append_right _ h)))) (by decide +kernel))) (goodIn_sub (fun _ h => List.mem_cons_of_mem _ (List.mem_append_left _ (List.mem_append_right _ h))) (by decide +kernel))
set_option maxRecDepth 20000 in
theorem gL_returns_X2_grade : GoodIn wsL_returns (wsV RL 30 RX2 yX2_grade wsX2_grade) := goodIn_app (goodIn_of _ (by decide +kernel)) ggL_returns_X2_grade
set_option maxRecDepth 20000 in
theorem ggL_returns_X2_isShortBy : GoodIn wsL_returns wsX2_isShortBy := goodIn_ca (goodIn_r _ [117, 118, 119, 85, 86, 87, 7, 8, 9, 4, 10, 11, 12, 13, 120, 100, 101, 82, 102, 103, 104, 105, 106, 107, 108, 109, 110, 111, 112, 113, 121, 96, 97, 98, 88, 92, 93, 174, 175, 176, 177, 178, 179, 180, 181, 182, 183, 184, 185, 168, 169, 170, 171, 172, 173, 163, 164, 165, 166, 167] (by decide +kernel) (by decide +kernel)) (goodIn_sub (fun _ h => List.mem_cons_of_mem _ (List.mem_append_left _ (List.mem_append_left _ (List.mem_append_right _ h)))) (by decide +kernel))
set_option maxRecDepth 20000 in
theorem gL_returns_X2_isShortBy : GoodIn wsL_returns (wsV RL 55 RX2 yX2_isShortBy wsX2_isShortBy) := goodIn_app (goodIn_of _ (by decide +kernel)) ggL_returns_X2_isShortBy
set_option maxRecDepth 20000 in
theorem ggL_returns_X2_mayComeBack : GoodIn wsL_returns wsX2_mayComeBack := goodIn_ca (goodIn_ca (goodIn_r _ [125, 7, 8, 9, 4, 10, 11, 12, 13, 14, 15, 16, 17, 33, 34, 35, 36, 37, 126, 127, 128, 129, 118, 6, 130, 131, 132, 133, 134, 61, 135, 73, 168, 169, 170, 171, 172, 173, 174, 175, 176, 177, 178, 179, 180, 181, 182, 183, 184, 185, 163, 164, 165, 166, 167] (by decide +kernel) (by decide +kernel)) (goodIn_sub (fun _ h => List.mem_cons_of_mem _ (List.mem_append_left _ (List.mem_append_left _ (List.mem_append_right _ h)))) (by decide +kernel))) (goodIn_sub (fun _ h => List.mem_cons_of_mem _ (List.mem_append_left _ (List.mem_append_right _ h))) (by decide +kernel))
set_option maxRecDepth 20000 in
theorem gL_returns_X2_mayComeBack : GoodIn wsL_returns (wsV RL 67 RX2 yX2_mayComeBack wsX2_mayComeBack) := goodIn_app (goodIn_of _ (by decide +kernel)) ggL_returns_X2_mayComeBack
set_option maxRecDepth 20000 in
theorem ggL_returns_L_ask : GoodIn wsL_returns wsL_ask := goodIn_ca (goodIn_ca (goodIn_ca (goodIn_r _ [138, 139, 140, 141, 142, 4, 143, 144, 145, 146, 147, 54, 55, 6, 57, 130, 148, 7, 8, 9, 10, 11, 12, 13, 14, 15, 16, 17, 33, 34, 35, 36, 37, 126, 127, 128, 129, 118, 131, 132, 133, 134, 61, 135, 73, 163, 164, 165, 166, 167, 168, 169, 170, 171, 172, 173, 174, 175, 176, 177, 178, 179, 180, 181, 182, 183, 184, 185] (by decide +kernel) (by decide +kernel)) (goodIn_sub (fun _ h => List.mem_cons_of_mem _ (List.mem_append_right _ h)) (by decide +kernel))) (goodIn_sub (fun _ h => List.mem_cons_of_mem _ (List.mem_append_left _ (List.mem_append_left _ (List.mem_append_right _ h)))) (by decide +kernel))) (goodIn_sub (fun _ h => List.mem_cons_of_mem _ (List.mem_append_left _ (List.mem_append_right _ h))) (by decide +kernel))
set_option maxRecDepth 20000 in
theorem gL_returns_L_ask : GoodIn wsL_returns (va_wsS RL 71 yL_ask wsL_ask) := goodIn_app (goodIn_of _ (by decide +kernel)) ggL_returns_L_ask
set_option maxRecDepth 20000 in
theorem ggL_returns_L_exchange : GoodIn wsL_returns wsL_exchange := goodIn_ca (goodIn_ca (goodIn_ca (goodIn_r _ [151, 139, 152, 153, 154, 4, 155, 144, 145, 146, 147, 54, 55, 6, 57, 130, 148, 7, 8, 9, 10, 11, 12, 13, 14, 15, 16, 17, 33, 34, 35, 36, 37, 126, 127, 128, 129, 118, 131, 132, 133, 134, 61, 135, 73, 163, 164, 165, 166, 167, 168, 169, 170, 171, 172, 173, 174, 175, 176, 177, 178, 179, 180, 181, 182, 183, 184, 185] (by decide +kernel) (by decide +kernel)) (goodIn_sub (fun _ h => List.mem_cons_of_mem _ (List.mem_append_right _ h)) (by decide +kernel))) (goodIn_sub (fun _ h => List.mem_cons_of_mem _ (List.mem_append_left _ (List.mem_append_left _ (List.mem_append_right _ h)))) (by decide +kernel))) (goodIn_sub (fun _ h => List.mem_cons_of_mem _ (List.mem_append_left _ (List.mem_append_right _ h))) (by decide +kernel))
set_option maxRecDepth 20000 in
theorem gL_returns_L_exchange : GoodIn wsL_returns (va_wsS RL 74 yL_exchange wsL_exchange) := goodIn_app (goodIn_of _ (by decide +kernel)) ggL_returns_L_exchange
set_option maxRecDepth 20000 in
theorem ggL_returns_L_grade : GoodIn wsL_returns wsL_grade := goodIn_ca (goodIn_ca (goodIn_ca (goodIn_r _ [158, 139, 50, 51, 52, 4, 53, 54, 55, 56, 57, 6, 7, 8, 9, 10, 11, 12, 13, 14, 15, 16, 17, 33, 34, 35, 36, 37, 58, 59, 60, 61, 62, 63, 64, 65, 66, 67, 68, 69, 70, 71, 72, 73, 74, 75, 76, 77, 78, 47, 48, 49, 79, 80, 81, 82, 83, 84, 85, 86, 87, 88, 89, 90, 91, 92, 93, 94, 95, 96, 97, 98, 99, 100, 101, 102, 103, 104, 105, 106, 107, 108, 109, 110, 111, 112, 113, 174, 175, 176, 177, 178, 179, 180, 181, 182, 183, 184, 185, 163, 164, 165, 166, 167, 168, 169, 170, 171, 172, 173] (by decide +kernel) (by decide +kernel)) (goodIn_sub (fun _ h => List.mem_cons_of_mem _ (List.mem_append_right _ h)) (by decide +kernel))) (goodIn_sub (fun _ h => List.mem_cons_of_mem _ (List.mem_append_left _ (List.mem_append_left _ (List.mem_append_right _ h)))) (by decide +kernel))) (goodIn_sub (fun _ h => List.mem_cons_of_mem _ (List.mem_append_left _ (List.mem_append_right _ h))) (by decide +kernel))
set_option maxRecDepth 20000 in
theorem gL_returns_L_grade : GoodIn wsL_returns (va_wsS RL 76 yL_grade wsL_grade) := goodIn_app (goodIn_of _ (by decide +kernel)) ggL_returns_L_grade
set_option maxRecDepth 20000 in
theorem ggL_returns_X2_day : GoodIn wsL_returns wsX2_day := goodIn_r _ [162, 130, 168, 169, 170, 171, 172, 173] (by decide +kernel) (by decide +kernel)
set_option maxRecDepth 20000 in
theorem gL_returns_X2_day : GoodIn wsL_returns (wsV RL 78 RX2 yX2_day wsX2_day) := goodIn_app (goodIn_of _ (by decide +kernel)) ggL_returns_X2_day
theorem dL_returns_0 : decode cL_returns 0 = .ok (.aload_n 0, 1) := by decide +kernel
theorem dL_returns_1 : decode cL_returns 1 = .ok (.iload_n 1, 1) := by decide +kernel
theorem dL_returns_2 : decode cL_returns 2 = .ok (.iload_n 2, 1) := by decide +kernel
theorem dL_returns_3 : decode cL_returns 3 = .ok (.invokevirtual 58, 3) := by decide +kernel
theorem dL_returns_6 : decode cL_returns 6 = .ok (.istore 4, 2) := by decide +kernel
theorem dL_returns_8 : decode cL_returns 8 = .ok (.iload_n 3, 1) := by decide +kernel
theorem dL_returns_9 : decode cL_returns 9 = .ok (.iconst 2, 1) := by decide +kernel
theorem dL_returns_10 : decode cL_returns 10 = .ok (.invokestatic 61, 3) := by decide +kernel
theorem dL_returns_13 : decode cL_returns 13 = .ok (.istore 5, 2) := by decide +kernel
theorem dL_returns_15 : decode cL_returns 15 = .ok (.iload 4, 2) := by decide +kernel
theorem dL_returns_17 : decode cL_returns 17 = .ok (.iconst 1, 1) := by decide +kernel
theorem dL_returns_18 : decode cL_returns 18 = .ok (.if_icmp .eq 9, 3) := by decide +kernel
theorem dL_returns_21 : decode cL_returns 21 = .ok (.iload 4, 2) := by decide +kernel
theorem dL_returns_23 : decode cL_returns 23 = .ok (.iconst 2, 1) := by decide +kernel
theorem dL_returns_24 : decode cL_returns 24 = .ok (.if_icmp .ne 159, 3) := by decide +kernel
theorem dL_returns_27 : decode cL_returns 27 = .ok (.aload_n 0, 1) := by decide +kernel
theorem dL_returns_28 : decode cL_returns 28 = .ok (.iload_n 1, 1) := by decide +kernel
theorem dL_returns_29 : decode cL_returns 29 = .ok (.invokestatic 46, 3) := by decide +kernel
theorem dL_returns_32 : decode cL_returns 32 = .ok (.istore 6, 2) := by decide +kernel
theorem dL_returns_34 : decode cL_returns 34 = .ok (.aload_n 0, 1) := by decide +kernel
theorem dL_returns_35 : decode cL_returns 35 = .ok (.iload_n 1, 1) := by decide +kernel
theorem dL_returns_36 : decode cL_returns 36 = .ok (.invokevirtual 52, 3) := by decide +kernel
theorem dL_returns_39 : decode cL_returns 39 = .ok (.istore 7, 2) := by decide +kernel
theorem dL_returns_41 : decode cL_returns 41 = .ok (.aload_n 0, 1) := by decide +kernel
theorem dL_returns_42 : decode cL_returns 42 = .ok (.iconst 0, 1) := by decide +kernel
theorem dL_returns_43 : decode cL_returns 43 = .ok (.invokevirtual 64, 3) := by decide +kernel
theorem dL_returns_46 : decode cL_returns 46 = .ok (.aload_n 0, 1) := by decide +kernel
theorem dL_returns_47 : decode cL_returns 47 = .ok (.iconst 1, 1) := by decide +kernel
theorem dL_returns_48 : decode cL_returns 48 = .ok (.invokevirtual 64, 3) := by decide +kernel
theorem dL_returns_51 : decode cL_returns 51 = .ok (.iadd, 1) := by decide +kernel
theorem dL_returns_52 : decode cL_returns 52 = .ok (.aload_n 0, 1) := by decide +kernel
theorem dL_returns_53 : decode cL_returns 53 = .ok (.iconst 2, 1) := by decide +kernel
theorem dL_returns_54 : decode cL_returns 54 = .ok (.invokevirtual 64, 3) := by decide +kernel
theorem dL_returns_57 : decode cL_returns 57 = .ok (.iadd, 1) := by decide +kernel
theorem dL_returns_58 : decode cL_returns 58 = .ok (.istore 8, 2) := by decide +kernel
theorem dL_returns_60 : decode cL_returns 60 = .ok (.iload_n 3, 1) := by decide +kernel
theorem dL_returns_61 : decode cL_returns 61 = .ok (.iconst 3, 1) := by decide +kernel
theorem dL_returns_62 : decode cL_returns 62 = .ok (.ishr, 1) := by decide +kernel
theorem dL_returns_63 : decode cL_returns 63 = .ok (.iconst 4, 1) := by decide +kernel
theorem dL_returns_64 : decode cL_returns 64 = .ok (.invokestatic 61, 3) := by decide +kernel
theorem dL_returns_67 : decode cL_returns 67 = .ok (.istore 9, 2) := by decide +kernel
theorem dL_returns_69 : decode cL_returns 69 = .ok (.aload_n 0, 1) := by decide +kernel
theorem dL_returns_70 : decode cL_returns 70 = .ok (.iload_n 1, 1) := by decide +kernel
theorem dL_returns_71 : decode cL_returns 71 = .ok (.iload_n 2, 1) := by decide +kernel
theorem dL_returns_72 : decode cL_returns 72 = .ok (.iload 9, 2) := by decide +kernel
theorem dL_returns_74 : decode cL_returns 74 = .ok (.invokevirtual 30, 3) := by decide +kernel
theorem dL_returns_77 : decode cL_returns 77 = .ok (.istore 10, 2) := by decide +kernel
theorem dL_returns_79 : decode cL_returns 79 = .ok (.iload 10, 2) := by decide +kernel
theorem dL_returns_81 : decode cL_returns 81 = .ok (.ifCond .lt 100, 3) := by decide +kernel
theorem dL_returns_84 : decode cL_returns 84 = .ok (.aload_n 0, 1) := by decide +kernel
theorem dL_returns_85 : decode cL_returns 85 = .ok (.iload_n 1, 1) := by decide +kernel
theorem dL_returns_86 : decode cL_returns 86 = .ok (.invokestatic 46, 3) := by decide +kernel
theorem dL_returns_89 : decode cL_returns 89 = .ok (.iload 6, 2) := by decide +kernel
theorem dL_returns_91 : decode cL_returns 91 = .ok (.iload 10, 2) := by decide +kernel
theorem dL_returns_93 : decode cL_returns 93 = .ok (.isub, 1) := by decide +kernel
theorem dL_returns_94 : decode cL_returns 94 = .ok (.if_icmp .ne 87, 3) := by decide +kernel
theorem dL_returns_97 : decode cL_returns 97 = .ok (.aload_n 0, 1) := by decide +kernel
theorem dL_returns_98 : decode cL_returns 98 = .ok (.iload_n 1, 1) := by decide +kernel
theorem dL_returns_99 : decode cL_returns 99 = .ok (.invokevirtual 52, 3) := by decide +kernel
theorem dL_returns_102 : decode cL_returns 102 = .ok (.iload 7, 2) := by decide +kernel
theorem dL_returns_104 : decode cL_returns 104 = .ok (.iload 10, 2) := by decide +kernel
theorem dL_returns_106 : decode cL_returns 106 = .ok (.iadd, 1) := by decide +kernel
theorem dL_returns_107 : decode cL_returns 107 = .ok (.if_icmp .ne 74, 3) := by decide +kernel
theorem dL_returns_110 : decode cL_returns 110 = .ok (.aload_n 0, 1) := by decide +kernel
theorem dL_returns_111 : decode cL_returns 111 = .ok (.iload_n 1, 1) := by decide +kernel
theorem dL_returns_112 : decode cL_returns 112 = .ok (.iload_n 2, 1) := by decide +kernel
theorem dL_returns_113 : decode cL_returns 113 = .ok (.invokevirtual 58, 3) := by decide +kernel
theorem dL_returns_116 : decode cL_returns 116 = .ok (.iload 4, 2) := by decide +kernel
theorem dL_returns_118 : decode cL_returns 118 = .ok (.iconst 1, 1) := by decide +kernel
theorem dL_returns_119 : decode cL_returns 119 = .ok (.if_icmp .ne 7, 3) := by decide +kernel
theorem dL_returns_122 : decode cL_returns 122 = .ok (.iconst 3, 1) := by decide +kernel
theorem dL_returns_123 : decode cL_returns 123 = .ok (.goto 4, 3) := by decide +kernel
theorem dL_returns_126 : decode cL_returns 126 = .ok (.iconst 0, 1) := by decide +kernel
theorem dL_returns_127 : decode cL_returns 127 = .ok (.if_icmp .ne 54, 3) := by decide +kernel
theorem dL_returns_130 : decode cL_returns 130 = .ok (.aload_n 0, 1) := by decide +kernel
theorem dL_returns_131 : decode cL_returns 131 = .ok (.iconst 0, 1) := by decide +kernel
theorem dL_returns_132 : decode cL_returns 132 = .ok (.invokevirtual 64, 3) := by decide +kernel
theorem dL_returns_135 : decode cL_returns 135 = .ok (.aload_n 0, 1) := by decide +kernel
theorem dL_returns_136 : decode cL_returns 136 = .ok (.iconst 1, 1) := by decide +kernel
theorem dL_returns_137 : decode cL_returns 137 = .ok (.invokevirtual 64, 3) := by decide +kernel
theorem dL_returns_140 : decode cL_returns 140 = .ok (.iadd, 1) := by decide +kernel
theorem dL_returns_141 : decode cL_returns 141 = .ok (.aload_n 0, 1) := by decide +kernel
theorem dL_returns_142 : decode cL_returns 142 = .ok (.iconst 2, 1) := by decide +kernel
theorem dL_returns_143 : decode cL_returns 143 = .ok (.invokevirtual 64, 3) := by decide +kernel
theorem dL_returns_146 : decode cL_returns 146 = .ok (.iadd, 1) := by decide +kernel
theorem dL_returns_147 : decode cL_returns 147 = .ok (.iload 8, 2) := by decide +kernel
theorem dL_returns_149 : decode cL_returns 149 = .ok (.iload 9, 2) := by decide +kernel
theorem dL_returns_151 : decode cL_returns 151 = .ok (.iconst 3, 1) := by decide +kernel
theorem dL_returns_152 : decode cL_returns 152 = .ok (.if_icmp .ne 7, 3) := by decide +kernel
theorem dL_returns_155 : decode cL_returns 155 = .ok (.iconst 0, 1) := by decide +kernel
theorem dL_returns_156 : decode cL_returns 156 = .ok (.goto 4, 3) := by decide +kernel
theorem dL_returns_159 : decode cL_returns 159 = .ok (.iconst 1, 1) := by decide +kernel
theorem dL_returns_160 : decode cL_returns 160 = .ok (.iadd, 1) := by decide +kernel
theorem dL_returns_161 : decode cL_returns 161 = .ok (.if_icmp .ne 20, 3) := by decide +kernel
theorem dL_returns_164 : decode cL_returns 164 = .ok (.iload 10, 2) := by decide +kernel
theorem dL_returns_166 : decode cL_returns 166 = .ok (.ifCond .eq 11, 3) := by decide +kernel
theorem dL_returns_169 : decode cL_returns 169 = .ok (.aload_n 0, 1) := by decide +kernel
theorem dL_returns_170 : decode cL_returns 170 = .ok (.iload_n 1, 1) := by decide +kernel
theorem dL_returns_171 : decode cL_returns 171 = .ok (.invokevirtual 55, 3) := by decide +kernel
theorem dL_returns_174 : decode cL_returns 174 = .ok (.ifCond .ne 7, 3) := by decide +kernel
theorem dL_returns_177 : decode cL_returns 177 = .ok (.iconst 1, 1) := by decide +kernel
theorem dL_returns_178 : decode cL_returns 178 = .ok (.goto 4, 3) := by decide +kernel
theorem dL_returns_181 : decode cL_returns 181 = .ok (.iconst 0, 1) := by decide +kernel
theorem dL_returns_182 : decode cL_returns 182 = .ok (.ireturn, 1) := by decide +kernel
theorem dL_returns_183 : decode cL_returns 183 = .ok (.aload_n 0, 1) := by decide +kernel
theorem dL_returns_184 : decode cL_returns 184 = .ok (.iload_n 1, 1) := by decide +kernel
theorem dL_returns_185 : decode cL_returns 185 = .ok (.iload_n 2, 1) := by decide +kernel
theorem dL_returns_186 : decode cL_returns 186 = .ok (.iload 5, 2) := by decide +kernel
theorem dL_returns_188 : decode cL_returns 188 = .ok (.invokevirtual 67, 3) := by decide +kernel
theorem dL_returns_191 : decode cL_returns 191 = .ok (.istore 6, 2) := by decide +kernel
theorem dL_returns_193 : decode cL_returns 193 = .ok (.iload_n 3, 1) := by decide +kernel
theorem dL_returns_194 : decode cL_returns 194 = .ok (.iconst 5, 1) := by decide +kernel
theorem dL_returns_195 : decode cL_returns 195 = .ok (.ishr, 1) := by decide +kernel
theorem dL_returns_196 : decode cL_returns 196 = .ok (.iconst 2, 1) := by decide +kernel
theorem dL_returns_197 : decode cL_returns 197 = .ok (.invokestatic 61, 3) := by decide +kernel
theorem dL_returns_200 : decode cL_returns 200 = .ok (.ifCond .ne 14, 3) := by decide +kernel
theorem dL_returns_203 : decode cL_returns 203 = .ok (.aload_n 0, 1) := by decide +kernel
theorem dL_returns_204 : decode cL_returns 204 = .ok (.iload_n 1, 1) := by decide +kernel
theorem dL_returns_205 : decode cL_returns 205 = .ok (.iload_n 2, 1) := by decide +kernel
theorem dL_returns_206 : decode cL_returns 206 = .ok (.iload 5, 2) := by decide +kernel
theorem dL_returns_208 : decode cL_returns 208 = .ok (.invokestatic 71, 3) := by decide +kernel
theorem dL_returns_211 : decode cL_returns 211 = .ok (.goto 11, 3) := by decide +kernel
theorem dL_returns_214 : decode cL_returns 214 = .ok (.aload_n 0, 1) := by decide +kernel
theorem dL_returns_215 : decode cL_returns 215 = .ok (.iload_n 1, 1) := by decide +kernel
theorem dL_returns_216 : decode cL_returns 216 = .ok (.iload_n 2, 1) := by decide +kernel
theorem dL_returns_217 : decode cL_returns 217 = .ok (.iload 5, 2) := by decide +kernel
theorem dL_returns_219 : decode cL_returns 219 = .ok (.invokestatic 74, 3) := by decide +kernel
theorem dL_returns_222 : decode cL_returns 222 = .ok (.istore 7, 2) := by decide +kernel
theorem dL_returns_224 : decode cL_returns 224 = .ok (.aload_n 0, 1) := by decide +kernel
theorem dL_returns_225 : decode cL_returns 225 = .ok (.iload_n 1, 1) := by decide +kernel
theorem dL_returns_226 : decode cL_returns 226 = .ok (.iload_n 2, 1) := by decide +kernel
theorem dL_returns_227 : decode cL_returns 227 = .ok (.iconst 0, 1) := by decide +kernel
theorem dL_returns_228 : decode cL_returns 228 = .ok (.invokestatic 76, 3) := by decide +kernel
theorem dL_returns_231 : decode cL_returns 231 = .ok (.bipush (-3), 2) := by decide +kernel
theorem dL_returns_233 : decode cL_returns 233 = .ok (.if_icmp .ne 7, 3) := by decide +kernel
theorem dL_returns_236 : decode cL_returns 236 = .ok (.iconst 1, 1) := by decide +kernel
theorem dL_returns_237 : decode cL_returns 237 = .ok (.goto 4, 3) := by decide +kernel
theorem dL_returns_240 : decode cL_returns 240 = .ok (.iconst 0, 1) := by decide +kernel
theorem dL_returns_241 : decode cL_returns 241 = .ok (.iload 6, 2) := by decide +kernel
theorem dL_returns_243 : decode cL_returns 243 = .ok (.ifCond .ne 7, 3) := by decide +kernel
theorem dL_returns_246 : decode cL_returns 246 = .ok (.iconst 1, 1) := by decide +kernel
theorem dL_returns_247 : decode cL_returns 247 = .ok (.goto 4, 3) := by decide +kernel
theorem dL_returns_250 : decode cL_returns 250 = .ok (.iconst 0, 1) := by decide +kernel
theorem dL_returns_251 : decode cL_returns 251 = .ok (.if_icmp .ne 45, 3) := by decide +kernel
theorem dL_returns_254 : decode cL_returns 254 = .ok (.iload 6, 2) := by decide +kernel
theorem dL_returns_256 : decode cL_returns 256 = .ok (.ifCond .eq 18, 3) := by decide +kernel
theorem dL_returns_259 : decode cL_returns 259 = .ok (.iload 7, 2) := by decide +kernel
theorem dL_returns_261 : decode cL_returns 261 = .ok (.aload_n 0, 1) := by decide +kernel
theorem dL_returns_262 : decode cL_returns 262 = .ok (.invokevirtual 78, 3) := by decide +kernel
theorem dL_returns_265 : decode cL_returns 265 = .ok (.bipush 21, 2) := by decide +kernel
theorem dL_returns_267 : decode cL_returns 267 = .ok (.iadd, 1) := by decide +kernel
theorem dL_returns_268 : decode cL_returns 268 = .ok (.if_icmp .ne 28, 3) := by decide +kernel
theorem dL_returns_271 : decode cL_returns 271 = .ok (.goto 21, 3) := by decide +kernel
theorem dL_returns_274 : decode cL_returns 274 = .ok (.iload 7, 2) := by decide +kernel
theorem dL_returns_276 : decode cL_returns 276 = .ok (.bipush (-3), 2) := by decide +kernel
theorem dL_returns_278 : decode cL_returns 278 = .ok (.if_icmp .ne 18, 3) := by decide +kernel
theorem dL_returns_281 : decode cL_returns 281 = .ok (.aload_n 0, 1) := by decide +kernel
theorem dL_returns_282 : decode cL_returns 282 = .ok (.iload_n 1, 1) := by decide +kernel
theorem dL_returns_283 : decode cL_returns 283 = .ok (.iload_n 2, 1) := by decide +kernel
theorem dL_returns_284 : decode cL_returns 284 = .ok (.invokevirtual 58, 3) := by decide +kernel
theorem dL_returns_287 : decode cL_returns 287 = .ok (.iload 4, 2) := by decide +kernel
theorem dL_returns_289 : decode cL_returns 289 = .ok (.if_icmp .ne 7, 3) := by decide +kernel
theorem dL_returns_292 : decode cL_returns 292 = .ok (.iconst 1, 1) := by decide +kernel
theorem dL_returns_293 : decode cL_returns 293 = .ok (.goto 4, 3) := by decide +kernel
theorem dL_returns_296 : decode cL_returns 296 = .ok (.iconst 0, 1) := by decide +kernel
theorem dL_returns_297 : decode cL_returns 297 = .ok (.ireturn, 1) := by decide +kernel
end
section
/-! BASE. One cell at a time, with what stays beside it. -/
abbrev MS : Type := Nat → Nat → Int32
/-- a state of numbers: field f at place i; mu writes one -/
def mu (M : MS) (f i : Nat) (v : Int32) : MS := fun a b => cond (Nat.beq a f) (cond (Nat.beq b i) v (M a b)) (M a b)
theorem mu_s (M : MS) (f i : Nat) (v : Int32) : mu M f i v f i = v := by simp [mu]
theorem mu_f (M : MS) {f a : Nat} (i b : Nat) (v : Int32) (h : a ≠ f) : mu M f i v a b = M a b := by
  have : Nat.beq a f = false := by cases h9 : Nat.beq a f with
    | false => rfl
    | true => exact absurd (Nat.eq_of_beq_eq_true h9) h
  simp [mu, this]
theorem mu_i (M : MS) (f a : Nat) {i b : Nat} (v : Int32) (h : b ≠ i) : mu M f i v a b = M a b := by
  have : Nat.beq b i = false := by cases h9 : Nat.beq b i with
    | false => rfl
    | true => exact absurd (Nat.eq_of_beq_eq_true h9) h
  unfold mu
  rw [this]
  cases Nat.beq a f <;> rfl
theorem mu_e (M : MS) (f i : Nat) (v : Int32) (a b : Nat) : mu M f i v a b = if a = f then (if b = i then v else M a b) else M a b := by
  by_cases h1 : a = f
  · rw [if_pos h1]
    by_cases h2 : b = i
    · rw [if_pos h2, h1, h2, mu_s]
    · rw [if_neg h2, mu_i _ _ _ _ h2]
  · rw [if_neg h1, mu_f _ _ _ _ h1]
abbrev tyL (cI cO cL cJ : ClassId) : List (ClassId × FieldType) := [(cO, .object RX1), (cO, .object RX1), (cL, .object RX0)]
/-- the classes and arrays that all worlds speak of -/
def KK (D : va_G) (cI cO cL cJ : ClassId) (U : State) : Prop := va_K D vwCl (tyL cI cO cL cJ) U
theorem KK.moved {D : va_G} {cI cO cL cJ : ClassId} {u U : State} (hvm : u.vm.Alike U.vm) (h : KK D cI cO cL cJ u) : KK D cI cO cL cJ U := va_K.moved hvm h
theorem f_one {D : va_G} {q : Nat × va_E} {H : Heap} (h : va_at D vwCl q H) : va_P D vwCl [q] H := by
  intro k x hx
  have hk : k < 1 := (List.getElem?_eq_some_iff.mp hx).1
  rw [show k = 0 by omega] at hx
  cases hx
  exact h
section BaseRows
variable {p : Program} {l : Launch} {e : Env} {R : Room} {s : State} {m : MethodId} {args : Array Value} {below : List Frame} {meth : Method} {c : Code} {H : Heap} {locs : List Loc} {cells slots : Nat} {Q : State → Prop}
variable {cc : ByteArray} {pc : Nat} {ls : Array Slot} {rest : List Value} {D : va_G} {cI cO cL cJ : ClassId} {H0 : Heap} {A : Nat → Prop} {a : Nat}
theorem cv {x y : Int32} (h : x = y) (k : W p l e R s m args below meth c H locs cells slots Q (F0 m pc ls (.int y :: rest))) : W p l e R s m args below meth c H locs cells slots Q (F0 m pc ls (.int x :: rest)) := by rw [h]; exact k
/-- two ways that meet again: what holds where they meet is shown once -/
theorem mg1 {c0 : Prop} [Decidable c0] {a b : Int32} {J : Nat} {st : List Value} (h : W p l e R s m args below meth c H locs cells slots Q (F0 m J ls (.int (if c0 then a else b) :: rest)) → W p l e R s m args below meth c H locs cells slots Q (F0 m pc ls st)) (k : W p l e R s m args below meth c H locs cells slots Q (F0 m J ls (.int (if c0 then a else b) :: rest))) : W p l e R s m args below meth c H locs cells slots Q (F0 m pc ls st) := h k
theorem f_get (hexec : p.tables.exec = Jvm.exec) (hb : c.code = cc) {own ref C : String} {T : u_T} {N ci index : Nat} {Ts : List Cond} (hts : ∀ w ∈ Ts, w.before args s = true) (hin : ∀ w ∈ u_ws C T N, w ∈ Ts) (hown : s.vm.findClass own = some m.cls) (hK : KK D cI cO cL cJ s) {fs : List Value} (hat : va_at D vwCl (a, .inr (ci, fs)) H) (hc : vwCl[ci]? = some (C, T, N)) (k : Nat) (hk : k < N) (hlink : (Cond.fieldLink own index ref (T k).2.1 (T k).2.2.1).before args s = true) (hsame : ∀ x, s.fieldFound? (T k).1 (T k).2.1 (T k).2.2.1 = some x → s.fieldFound? ref (T k).2.1 (T k).2.2.1 = some x) {v : Value} (hv : fs[k]? = some v) (hdg : decode cc pc = .ok (.getfield index, 3))
    (kk : W p l e R s m args below meth c H locs cells slots Q (F0 m (pc + 3) ls (v :: rest))) : W p l e R s m args below meth c H locs cells slots Q (F0 m pc ls (.ref a :: rest)) :=
  va_get (ws := [(a, .inr (ci, fs))]) hexec hb hts hin hown hK (f_one hat) 0 rfl hc k hk hlink hsame hv hdg kk
theorem f_put (hexec : p.tables.exec = Jvm.exec) (hb : c.code = cc) {own ref C : String} {T : u_T} {N ci index : Nat} {Ts : List Cond} (hts : ∀ w ∈ Ts, w.before args s = true) (hin : ∀ w ∈ u_ws C T N, w ∈ Ts) (ty0 : Nat → FieldType) (hty : ∀ k, k < N → parseFieldDescriptor (T k).2.2.1 = some (ty0 k)) (hnm : ∀ a, a < N → ∀ b, b < N → a ≠ b → (T a).2.1 ≠ (T b).2.1) (hown : s.vm.findClass own = some m.cls) (hK : KK D cI cO cL cJ s) {fs : List Value} (hat : va_at D vwCl (a, .inr (ci, fs)) H) (hS0 : va_S A H0 H locs) (hA : A a) (hc : vwCl[ci]? = some (C, T, N)) (k : Nat) (hk : k < N) (hlink : (Cond.fieldLink own index ref (T k).2.1 (T k).2.2.1).before args s = true) (hsame : ∀ x, s.fieldFound? (T k).1 (T k).2.1 (T k).2.2.1 = some x → s.fieldFound? ref (T k).2.1 (T k).2.2.1 = some x) (hfin : (T k).2.2.2 = false) {ty : FieldType} {v : Value} (hd : parseFieldDescriptor (T k).2.2.1 = some ty) (hn : narrow ty v = v) (hfit : fits ty v = true) (hl : k < fs.length)
    (hdg : decode cc pc = .ok (.putfield index, 3)) (kk : ∀ (H1 : Heap) (locs1 : List Loc), va_at D vwCl (a, .inr (ci, fs.set k v)) H1 → H1.size = H.size → (∀ q : Nat, q ≠ a → H1[q]? = H[q]?) → va_S A H0 H1 locs1 → W p l e R s m args below meth c H1 locs1 cells slots Q (F0 m (pc + 3) ls rest)) : W p l e R s m args below meth c H locs cells slots Q (F0 m pc ls (v :: .ref a :: rest)) := by
  have apartF := va_apart (own := own) hts hin ty0 hty hnm hK hc
  obtain ⟨r, r1, cell, g1, g2, g3, g4⟩ := hat
  cases Option.some.inj (r1.symm.trans hc)
  obtain ⟨kS, kf, kC, kC1, kC2⟩ := hK.1 ci _ hc
  obtain ⟨cf, kx, fi, f, hi, sl⟩ := kS k hk
  have lay := hts _ (hin _ (u_in_lay hk))
  unfold u_lay at lay
  rw [if_neg (by rw [hfin]; decide)] at lay
  refine W.putK hexec hb (f := f) ⟨hown, hlink, ⟨_, _, _, hsame _ hi⟩, (u_facts kf kC1 (u_lays hts hin hk) hi).1⟩ (by rw [g2]; exact u_store kf kC1 kC2 lay hi hd hn hfit) g1 g3 (by rw [sl]; exact k2_hasslot (g4 k hk)) rfl rfl hdg fun H' e1 e2 e3 => ?_
  rw [sl] at e1 ⊢
  exact kk H' _ ⟨_, hc, t_OB.to (V := updV (vp_V fs) k v) ⟨_, e1, g2, g3, t_set g4 apartF hk v⟩ (fun j _ => vp_updV_set hl v j)⟩ e2 e3 (hS0.put e2 e3 hA)
theorem f_putF (hexec : p.tables.exec = Jvm.exec) (hb : c.code = cc) {own ref C : String} {T : u_T} {N ci index : Nat} {Ts : List Cond} (hts : ∀ w ∈ Ts, w.before args s = true) (hin : ∀ w ∈ u_ws C T N, w ∈ Ts) (ty0 : Nat → FieldType) (hty : ∀ k, k < N → parseFieldDescriptor (T k).2.2.1 = some (ty0 k)) (hnm : ∀ a, a < N → ∀ b, b < N → a ≠ b → (T a).2.1 ≠ (T b).2.1) (hown : s.vm.findClass own = some m.cls) (hK : KK D cI cO cL cJ s) {fs : List Value} (hat : va_at D vwCl (a, .inr (ci, fs)) H) (hS0 : va_S A H0 H locs) (hA : A a) (hc : vwCl[ci]? = some (C, T, N)) (k : Nat) (hk : k < N) (hlink : (Cond.fieldLink own index ref (T k).2.1 (T k).2.2.1).before args s = true) (hsame : ∀ x, s.fieldFound? (T k).1 (T k).2.1 (T k).2.2.1 = some x → s.fieldFound? ref (T k).2.1 (T k).2.2.1 = some x) (hfin : (T k).2.2.2 = true) (hin2 : meth.name = "<init>") (hdecl : (T k).1 = own) {ty : FieldType} {v : Value} (hd : parseFieldDescriptor (T k).2.2.1 = some ty) (hn : narrow ty v = v) (hfit : fits ty v = true) (hl : k < fs.length)
    (hdg : decode cc pc = .ok (.putfield index, 3)) (kk : ∀ (H1 : Heap) (locs1 : List Loc), va_at D vwCl (a, .inr (ci, fs.set k v)) H1 → H1.size = H.size → (∀ q : Nat, q ≠ a → H1[q]? = H[q]?) → va_S A H0 H1 locs1 → W p l e R s m args below meth c H1 locs1 cells slots Q (F0 m (pc + 3) ls rest)) : W p l e R s m args below meth c H locs cells slots Q (F0 m pc ls (v :: .ref a :: rest)) := by
  have apartF := va_apart (own := own) hts hin ty0 hty hnm hK hc
  obtain ⟨r, r1, cell, g1, g2, g3, g4⟩ := hat
  cases Option.some.inj (r1.symm.trans hc)
  obtain ⟨kS, kf, kC, kC1, kC2⟩ := hK.1 ci _ hc
  obtain ⟨cf, kx, fi, f, hi, sl⟩ := kS k hk
  have lay := hts _ (hin _ (u_in_lay hk))
  unfold u_lay at lay
  rw [if_pos hfin] at lay
  have hcf : m.cls = cf := by
    obtain ⟨_, _, c', _, _, _, -, -, hf', -, -, -, hown2, -⟩ := Cond.laysFinal_spec lay
    have e1 : c' = cf := by have := hi.symm.trans hf'; simp at this; exact this.1.symm
    rw [hdecl] at hown2
    rw [← e1]; exact Option.some.inj (hown.symm.trans hown2)
  refine W.putFinK hexec hb hown hlink (hsame _ hi) (u_facts kf kC1 (u_lays hts hin hk) hi).1 hcf hin2 (by rw [g2]; exact u_fits kf kC1 kC2 (Or.inr lay) hi hd hn hfit) g1 g3 (by rw [sl]; exact k2_hasslot (g4 k hk)) rfl rfl hdg fun H' e1 e2 e3 => ?_
  rw [sl] at e1 ⊢
  exact kk H' _ ⟨_, hc, t_OB.to (V := updV (vp_V fs) k v) ⟨_, e1, g2, g3, t_set g4 apartF hk v⟩ (fun j _ => vp_updV_set hl v j)⟩ e2 e3 (hS0.put e2 e3 hA)
/-- an array of references is read: of Orders (t0 = 1) or Lines (t0 = 2) -/
theorem f_aald (hexec : p.tables.exec = Jvm.exec) (hb : c.code = cc) (hK : KK D cI cO cL cJ s) {cA : ClassId} {C : String} (t0 : Nat) (ht : (tyL cI cO cL cJ)[t0]? = some (cA, .object C)) {n : Nat} {f : Nat → Option Nat} (hat : va_at D vwCl (a, .inl (cA, n, .inr (.inr (.inr (.inr f))))) H) {x : Int32} {i : Nat} (hxi : x = nI i) (hi : i < n) (hn : n < 2 ^ 31) {v : Option Nat} (hv : f i = v) (hdg : decode cc pc = .ok (.aaload, 1))
    (kk : W p l e R s m args below meth c H locs cells slots Q (F0 m (pc + 1) ls (va_rf v :: rest))) : W p l e R s m args below meth c H locs cells slots Q (F0 m pc ls (.int x :: .ref a :: rest)) := by
  subst hxi
  subst hv
  refine va_aldq (ws := [(a, .inl (cA, n, .inr (.inr (.inr (.inr f)))))]) hexec hb hK (f_one hat) 0 t0 rfl ht (vp_in_nI hi hn) hdg ?_
  rw [nI_clamp (Nat.lt_trans hi hn)]
  exact kk
theorem f_aast (hexec : p.tables.exec = Jvm.exec) (hb : c.code = cc) (hK : KK D cI cO cL cJ s) {cA : ClassId} {r : vw_C} (t0 ci : Nat) (ht : (tyL cI cO cL cJ)[t0]? = some (cA, .object r.1)) (hc : vwCl[ci]? = some r) {n v : Nat} {vs : List Value} {f : Nat → Option Nat} (hat : va_at D vwCl (a, .inl (cA, n, .inr (.inr (.inr (.inr f))))) H) (hav : va_at D vwCl (v, .inr (ci, vs)) H) (hS : va_S A H0 H locs) (hA : A a) {x : Int32} {i : Nat} (hxi : x = nI i) (hi : i < n) (hn : n < 2 ^ 31) (hdg : decode cc pc = .ok (.aastore, 1))
    (kk : ∀ (H1 : Heap) (locs1 : List Loc), va_at D vwCl (a, .inl (cA, n, .inr (.inr (.inr (.inr (va_up f i (some v))))))) H1 → H1.size = H.size → (∀ q : Nat, q ≠ a → H1[q]? = H[q]?) → va_S A H0 H1 locs1 → W p l e R s m args below meth c H1 locs1 cells slots Q (F0 m (pc + 1) ls rest)) : W p l e R s m args below meth c H locs cells slots Q (F0 m pc ls (.ref v :: .int x :: .ref a :: rest)) := by
  subst hxi
  obtain ⟨r', hr', cellV, g1, g2, g3, -⟩ := hav
  have hcls := (hK.1 ci r hc).2
  obtain ⟨kA, comp, k1, k2, k3, -⟩ := (hK.2 t0 _ ht).2
  cases Option.some.inj (k3.symm.trans hcls.1)
  obtain ⟨kC, hkC, -⟩ := hcls.2
  have h0 : ¬ nI i < 0 := fun q => vp_in_nI hi hn (Or.inl q)
  refine W.aast hexec hb hat (fun q h => by cases h) (fun h => by cases h) k1 k2 rfl hkC ⟨h0, by show _ < (arrV _ _ _).slots.size; rw [arrV_size, nI_clamp (Nat.lt_trans hi hn)]; exact hi⟩ g1 (fun q h => by rw [g3] at h; cases h) (by rw [g2]; exact hkC) (by rw [g2]; exact va_assign hcls) rfl rfl hdg fun H1 e1 z1 o1 => ?_
  refine kk H1 _ ?_ z1 o1 (hS.put z1 o1 hA)
  show H1[a]? = some (vp_cell _ _)
  rw [e1]
  rw [vp_cell_q, vp_cell_q, arrV_store, nI_clamp (Nat.lt_trans hi hn)]
  congr 2
  funext q
  by_cases hq : q = i
  · subst hq
    simp [updV, va_up, va_rf]
  · simp [updV, va_up, hq]
theorem f_alen (hexec : p.tables.exec = Jvm.exec) (hb : c.code = cc) (hK : KK D cI cO cL cJ s) {cA : ClassId} {ty : FieldType} (t0 : Nat) (ht : (tyL cI cO cL cJ)[t0]? = some (cA, ty)) {x : vp_A} (hat : va_at D vwCl (a, .inl (cA, x)) H) {v : Int32} (hv : nI x.1 = v) (hdg : decode cc pc = .ok (.arraylength, 1))
    (kk : W p l e R s m args below meth c H locs cells slots Q (F0 m (pc + 1) ls (.int v :: rest))) : W p l e R s m args below meth c H locs cells slots Q (F0 m pc ls (.ref a :: rest)) :=
  va_alen (ws := [(a, .inl (cA, x))]) hexec hb hK (f_one hat) 0 t0 rfl ht hv hdg kk
end BaseRows
end
section
/-! ROWS of bodies and ends, of arguments alone. -/
abbrev inR (v lo hi : Int32) : Prop := ¬ v < lo ∧ ¬ hi < v
theorem nI_addx {x y : Int32} {a b : Nat} (hx : x = nI a) (hy : y = nI b) : x + y = nI (a + b) := by rw [hx, hy, nI_add]
theorem nI_mulx {x y : Int32} {a b : Nat} (hx : x = nI a) (hy : y = nI b) : x * y = nI (a * b) := by rw [hx, hy, pk_mul]
theorem nI_lt30 {n : Nat} {x : Int32} {b : Nat} (hx : x = nI b) (h : ¬ nI n = x) (hn : n ≤ b) (hb : b < 2 ^ 31) : n < b := by
  rcases Nat.lt_or_ge n b with q | q
  · exact q
  · have e : n = b := by omega
    subst e; exact absurd hx.symm h
def sP (av : List Value) : Array Value → State → Prop := va_Pc av (fun _ => True)
theorem sP.blind {av : List Value} : FrameBlind (sP av) := fun _ _ _ _ h => h
section SRows
variable {p : Program} {l : Launch} {e : Env} {R : Room} {s : State} {m : MethodId} {args : Array Value} {below : List Frame} {meth : Method} {c : Code} {H : Heap} {locs : List Loc} {cells slots : Nat} {Q : State → Prop}
variable {cc : ByteArray} {pc : Nat} {ls : Array Slot} {rest : List Value}
theorem s_body {y : MethodName} {ws ws' : List Cond} {rm : Room} {maxL : Nat} {ret : Option FieldType} {Qc : Array Value → State → Outcome → State → Prop} {free : Addr → Prop} (hy : plainName y.cls = true) (hw : ws = Cond.code y cc maxL ret :: ws') (av : List Value) (hlen : (lg_sl av).length ≤ maxL)
    (k : ∀ (p : Program) (e : Env) (s : State) (m : MethodId) (args : Array Value) (below : List Frame) (meth : Method) (c : Code), p.tables.exec = Jvm.exec → c.code = cc → meth.sig.returnType = ret → (∀ w ∈ ws, w.before args s = true) → s.vm.findClass y.cls = some m.cls → c.maxLocals = maxL → meth.locks = false → ∀ ls : Array Slot, lv_has ls maxL (lv_args 0 av) → W p l e rm s m args below meth c s.heap [] 0 0 (MQ below Qc args s 0 0 free) (F0 m 0 ls [])) :
    Met l y ws rm (sP av) Qc 0 0 free := by
  refine Met.ofW (cc := cc) (maxL := maxL) (ret := ret) hy hw ?_
  intro p e s m args below meth c s₁ B hml hv
  obtain ⟨rfl, -⟩ := hv
  have hl := lv_entry av (n := maxL) hlen
  rw [lg_entry_eq]
  exact k p e s m _ below meth c B.exec B.bytes B.returns (atoms_spec (ws := ws) B.pre) (findClass_of_methodNamed B.named) hml B.notSynchronized _ hl
theorem r_ret (hexec : p.tables.exec = Jvm.exec) (hb : c.code = cc) (hr : meth.sig.returnType = some .int) (hlocks : meth.locks = false) {post : Int32 → Prop} {v : Int32} (hp : post v) (hdg : decode cc pc = .ok (.ireturn, 1)) : W p l e R s m args below meth c s.heap [] 0 0 (MQ below (vp_Si post) args s 0 0 (fun _ => False)) (F0 m pc ls [.int v]) :=
  W.iret (v := v) hexec hb hr (fun t ht _ => ⟨v, rfl, hp, ht⟩) (fun q h => by cases h) hdg hlocks
theorem r_zret (hexec : p.tables.exec = Jvm.exec) (hb : c.code = cc) (hr : meth.sig.returnType = some .boolean) (hlocks : meth.locks = false) {post : Int32 → Prop} {v : Int32} (hv : v = 0 ∨ v = 1) (hp : post v) (hdg : decode cc pc = .ok (.ireturn, 1)) : W p l e R s m args below meth c s.heap [] 0 0 (MQ below (vp_Si post) args s 0 0 (fun _ => False)) (F0 m pc ls [.int v]) :=
  W.zret (v := v) hexec hb hr (by rcases hv with rfl | rfl <;> rfl) (fun t ht _ => ⟨v, rfl, hp, ht⟩) (fun q h => by cases h) hdg hlocks
variable {y : MethodName} {bytes : ByteArray} {maxL nL index : Nat} {ret : Option FieldType} {wsY wsY' Ts : List Cond} {rmY : Room} {av st : List Value} {own : String}
theorem s_call0 {post : Int32 → Prop} (n : Nat) (hexec : p.tables.exec = Jvm.exec) (hb : c.code = cc) (hts : ∀ w ∈ Ts, w.before args s = true) (hown : s.vm.findClass own = some m.cls) (hml : c.maxLocals = nL) (hM : Met l y wsY rmY (sP av) (vp_Si post) 0 0 (fun _ => False)) (hn : av.length = n) (hT : GoodIn Ts (va_wsS own index y wsY)) (hw : wsY = Cond.code y bytes maxL ret :: wsY') (hrc : rmY.cells = 0) (hrs : rmY.slots = 0) (hd : y.cls ≠ "java/lang/invoke/MethodHandle" ∧ y.cls ≠ "java/lang/invoke/VarHandle" ∧ (parseMethodDescriptor y.desc).map (fun d => d.parameters.length) = some n) (hR : rmY.frames + 1 ≤ R.frames ∧ 8 + (maxL + 11) + rmY.locals ≤ R.locals)
    (hls : ls.size = nL) (hst : st = av.reverse ++ rest) (hrest : (rest.map fun v => v.category).sum ≤ 8) (hdg : decode cc pc = .ok (.invokestatic index, 3)) (hcs : cells ≤ R.cells ∧ slots ≤ R.slots)
    (kk : ∀ r : Int32, post r → W p l e R s m args below meth c H locs cells slots Q (F0 m (pc + 3) ls (.int r :: rest))) : W p l e R s m args below meth c H locs cells slots Q (F0 m pc ls st) :=
  vp_callSi (va_runS (As := av) (rest := rest) ⟨hexec, hb, hml, hown, hts⟩ hM (va_cwS n hts hT hw hrc hrs hd hR) ⟨sP.blind, fun U hU hWm => ⟨rfl, trivial⟩⟩ rfl hn hls hst (lv_room hrest) hdg hcs).run kk
end SRows
end
section
/-! THE CLASS'S WORLD. g says where each cell lies: kind 0 the orders, 1 their arrays of lines, 2 the lines (8 k + l), 3 the desk, 4 its book (3 and 4 at place 0). X is its state of numbers: 0 .. 4 the desk's (at 0), 5 .. 15 an order's, 16 .. 20 a line's. -/
abbrev XG : Type := Nat → Nat → Option Nat
def xobD (g : XG) (X : MS) (i : Nat) : List Value := [va_rf (g 4 i), .int (X 0 i), .int (X 1 i), .int (X 2 i), .int (X 3 i), .int (X 4 i)]
def xobO (g : XG) (X : MS) (i : Nat) : List Value := [.int (X 5 i), .int (X 6 i), va_rf (g 1 i), .int (X 7 i), .int (X 8 i), .int (X 9 i), .int (X 10 i), .int (X 11 i), .int (X 12 i), .int (X 13 i), .int (X 14 i), .int (X 15 i)]
def xobL (X : MS) (i : Nat) : List Value := [.int (X 16 i), .int (X 17 i), .int (X 18 i), .int (X 19 i), .int (X 20 i)]
def xcell (cO cL : ClassId) (g : XG) (X : MS) (t i : Nat) : va_E := match t with
  | 0 => .inr (1, xobO g X i)
  | 1 => .inl (cL, 8, .inr (.inr (.inr (.inr (fun j => g 2 (8 * i + j))))))
  | 2 => .inr (0, xobL X i)
  | 3 => .inr (2, xobD g X i)
  | _ => .inl (cO, 30, .inr (.inr (.inr (.inr (fun j => g 0 j)))))
def xW (D : va_G) (cO cL : ClassId) (g : XG) (X : MS) (H : Heap) : Prop := ∀ t i a, g t i = some a → va_at D vwCl (a, xcell cO cL g X t i) H
/-- no cell has two places -/
def xI (g : XG) : Prop := ∀ t i t' i' a, g t i = some a → g t' i' = some a → t = t' ∧ i = i'
def xA (g : XG) (sz : Nat) : Nat → Prop := fun a => (∃ t i, g t i = some a) ∨ sz ≤ a
theorem xW.kept {D : va_G} {cO cL : ClassId} {g : XG} {X : MS} {H H1 : Heap} (h : xW D cO cL g X H) (hk : ∀ t i a, g t i = some a → H1[a]? = H[a]?) : xW D cO cL g X H1 := fun t i a ha => (h t i a ha).kept (hk t i a ha)
theorem xW.lt {D : va_G} {cO cL : ClassId} {g : XG} {X : MS} {H : Heap} (h : xW D cO cL g X H) {t i a : Nat} (ha : g t i = some a) : a < H.size := (h t i a ha).lt
theorem xW.more {D : va_G} {cO cL : ClassId} {g : XG} {X : MS} {H H1 : Heap} (h : xW D cO cL g X H) (hk : ∀ q, q < H.size → H1[q]? = H[q]?) : xW D cO cL g X H1 := h.kept (fun _ _ _ ha => hk _ (h.lt ha))
/-- which kind a field belongs to -/
def xkind (f : Nat) : Nat := if f < 5 then 3 else if f < 16 then 0 else 2
theorem xcell_other {cO cL : ClassId} {g : XG} {X : MS} {f i : Nat} {v : Int32} {t' i' : Nat} (hf : f ≤ 20) (h : t' ≠ xkind f ∨ i' ≠ i) : xcell cO cL g (mu X f i v) t' i' = xcell cO cL g X t' i' := by
  have key : ∀ f', f' ≤ 20 → xkind f' = t' → mu X f i v f' i' = X f' i' := by
    intro f' h' hk
    by_cases hff : f' = f
    · subst hff
      rcases h with h | h
      · exact absurd hk.symm h
      · exact mu_i _ _ _ _ h
    · exact mu_f _ _ _ _ hff
  match t', key with
  | 0, key => simp only [xcell, xobO, key 5 (by decide) rfl, key 6 (by decide) rfl, key 7 (by decide) rfl, key 8 (by decide) rfl, key 9 (by decide) rfl, key 10 (by decide) rfl, key 11 (by decide) rfl, key 12 (by decide) rfl, key 13 (by decide) rfl, key 14 (by decide) rfl, key 15 (by decide) rfl]
  | 1, key => rfl
  | 2, key => simp only [xcell, xobL, key 16 (by decide) rfl, key 17 (by decide) rfl, key 18 (by decide) rfl, key 19 (by decide) rfl, key 20 (by decide) rfl]
  | 3, key => simp only [xcell, xobD, key 0 (by decide) rfl, key 1 (by decide) rfl, key 2 (by decide) rfl, key 3 (by decide) rfl, key 4 (by decide) rfl]
  | n + 4, key => rfl
/-- one cell written, the numbers with it -/
theorem xW.upd {D : va_G} {cO cL : ClassId} {g : XG} {X : MS} {H H1 : Heap} {t i a f : Nat} {v : Int32} (h : xW D cO cL g X H) (hI : xI g) (ha : g t i = some a) (hf : f ≤ 20) (hk : t = xkind f) (hat : va_at D vwCl (a, xcell cO cL g (mu X f i v) t i) H1) (ho : ∀ q : Nat, q ≠ a → H1[q]? = H[q]?) : xW D cO cL g (mu X f i v) H1 := by
  intro t' i' a' ha'
  by_cases hti : t' = t ∧ i' = i
  · obtain ⟨rfl, rfl⟩ := hti
    rw [ha'] at ha
    cases ha
    exact hat
  · have hne : a' ≠ a := fun e => hti (hI t' i' t i a' ha' (by rw [e]; exact ha))
    rw [xcell_other hf (by rw [← hk]; by_cases h1 : t' = t
                           · exact Or.inr (fun h2 => hti ⟨h1, h2⟩)
                           · exact Or.inl h1)]
    exact (h t' i' a' ha').kept (ho a' hne)
abbrev xNames : List String := ["java/lang/RuntimeException", "java/lang/Exception"]
abbrev ISE : String := "java/lang/IllegalStateException"
abbrev IAE : String := "java/lang/IllegalArgumentException"
abbrev IOE : String := "java/lang/IndexOutOfBoundsException"
def xStr : List (Nat × String) := [(26, "no room for another order"), (47, "the order takes no more lines"), (59, "the order is paid or has no lines"), (85, "the line is not waited for"), (143, "the day would be above the last one"), (150, "an argument is out of range"), (155, "no such order"), (162, "no such line"), (170, "the line may not come back")]
/-- words of a throw that are not kept by themselves -/
def xNon : List Cond := [.castable ISE ISE, .castable IAE IAE, .castable IOE IOE, .declares (Bundle.initS "java/lang/RuntimeException"), .declares (Bundle.initS "java/lang/Exception"), .declares (Bundle.initS "java/lang/Throwable")]
theorem xNon_tab : ∀ w ∈ xNon, w.onTables = true := by decide +kernel
theorem xNon_warm {s U : State} (hW : s.WarmedH U.vm) : ∀ w ∈ xNon, va_Nw w s → va_Nw w U := by
  intro w hw
  simp only [xNon, List.mem_cons, List.not_mem_nil, or_false] at hw
  rcases hw with rfl | rfl | rfl | rfl | rfl | rfl
  · exact va_Nw.warmC hW
  · exact va_Nw.warmC hW
  · exact va_Nw.warmC hW
  · exact va_Nw.warmD hW
  · exact va_Nw.warmD hW
  · exact va_Nw.warmD hW
/-- what a throw needs of the machine, and the arrays' classes -/
def xE (hz : Nat) (U : State) (H : Heap) : Prop := vx_Zq Bundle.tN "UNASSIGNED_STACK" Bundle.steD (fun a => hz ≤ a) U H ∧ vx_Zq Bundle.tN "SUPPRESSED_SENTINEL" Bundle.listD (fun a => hz ≤ a) U H ∧ (∀ w ∈ xNon, va_Nw w U) ∧ (∀ z ∈ xStr, ∃ sa, vk_R RX2 z.1 z.2 sa U) ∧ va_AO RX0 U ∧ va_AO RX1 U
theorem xE.same {hz : Nat} {u U : State} {H : Heap} (hv : U.vm = u.vm) (h : xE hz u H) : xE hz U H := by
  obtain ⟨h1, h2, h3, h6, h7, h8⟩ := h
  have hal : u.vm.Alike U.vm := by rw [hv]; exact Vm.Alike.refl u.vm
  exact ⟨h1.moved hal, h2.moved hal, fun w hw => va_Nw.same (xNon_tab w hw) hv.symm (h3 w hw), fun z hz9 => let ⟨sa, h9⟩ := h6 z hz9; ⟨sa, h9.same hv⟩, h7.moved hal, h8.moved hal⟩
theorem xE.warm {hz : Nat} {s U : State} {H : Heap} (hW : s.WarmedH U.vm) (h : xE hz s H) : xE hz U H := by
  obtain ⟨h1, h2, h3, h6, h7, h8⟩ := h
  exact ⟨h1.moved hW.alike, h2.moved hW.alike, fun w hw => xNon_warm hW w hw (h3 w hw), fun z hz9 => let ⟨sa, h9⟩ := h6 z hz9; ⟨sa, h9.warm hW⟩, h7.moved hW.alike, h8.moved hW.alike⟩
theorem xE.kept {hz : Nat} {U : State} {H H1 : Heap} (h : xE hz U H) (hq : ∀ a : Nat, a < H.size → ¬ hz ≤ a → H1[a]? = H[a]?) : xE hz U H1 := ⟨h.1.kept hq, h.2.1.kept hq, h.2.2⟩
/-- whose cells: all at or behind hz -/
def xO (g : XG) (hz sz : Nat) : Prop := (∀ t i a, g t i = some a → hz ≤ a) ∧ hz ≤ sz
theorem xO.A {g : XG} {hz sz : Nat} (h : xO g hz sz) {a : Nat} (ha : xA g sz a) : hz ≤ a := by
  rcases ha with ⟨t, i, q⟩ | q
  · exact h.1 t i a q
  · exact Nat.le_trans h.2 q
theorem xE.S {hz sz : Nat} {g : XG} {s : State} {H : Heap} {locs : List Loc} (h : xE hz s s.heap) (hO : xO g hz sz) (hS : va_S (xA g sz) s.heap H locs) : xE hz s H := h.kept (fun a h1 h2 => hS.2.1 a h1 (fun q => h2 (hO.A q)))
def xP (D : va_G) (cI cO cL cJ : ClassId) (g : XG) (X : MS) (hz sz : Nat) (av : List Value) : Array Value → State → Prop := va_Pc av (fun U => U.heap.size = sz ∧ xW D cO cL g X U.heap ∧ KK D cI cO cL cJ U ∧ xE hz U U.heap)
theorem xP.blind {D : va_G} {cI cO cL cJ : ClassId} {g : XG} {X : MS} {hz sz : Nat} {av : List Value} : FrameBlind (xP D cI cO cL cJ g X hz sz av) := fun a U f mk h => ⟨h.1, h.2.1, h.2.2.1, va_K.moved (u := U) (U := U.calling f mk a) (Vm.Alike.refl U.vm) h.2.2.2.1, xE.same (u := U) (U := U.calling f mk a) rfl h.2.2.2.2⟩
/-- thrown: which class, and nothing old written -/
def xT (cond : String → Prop) : String → State → State → Prop := fun E st t => cond E ∧ st.heap.size ≤ t.heap.size ∧ ∀ q, q < st.heap.size → t.heap[q]? = st.heap[q]?
/-- an answer that is an old cell, nothing written -/
def xSr (post : Nat → Prop) : Array Value → State → Outcome → State → Prop := fun _ st oc t => ∃ a : Nat, oc = .returned (some (.ref a)) ∧ post a ∧ t.heap = st.heap
def xSv (post : Prop) : Array Value → State → Outcome → State → Prop := fun _ st oc t => oc = .returned none ∧ post ∧ t.heap = st.heap
def xQi (D : va_G) (cO cL : ClassId) (g : XG) (sz : Nat) (post : Int32 → MS → Prop) : Array Value → State → Outcome → State → Prop := va_Qi post (fun X' t => xW D cO cL g X' t.heap) (xA g sz)
def xQv (D : va_G) (cO cL : ClassId) (g : XG) (sz : Nat) (post : MS → Prop) : Array Value → State → Outcome → State → Prop := va_Qv post (fun X' t => xW D cO cL g X' t.heap) (xA g sz)
theorem tg_S : ∀ w ∈ Cond.classLink RX2 24 ISE :: Cond.initialized ISE :: vx_atS RX2 28 ISE xNames, vx_ot w = true := by decide +kernel
theorem tg_A : ∀ w ∈ Cond.classLink RX2 148 IAE :: Cond.initialized IAE :: vx_atS RX2 152 IAE xNames, vx_ot w = true := by decide +kernel
theorem tg_O : ∀ w ∈ Cond.classLink RX2 153 IOE :: Cond.initialized IOE :: vx_atS RX2 157 IOE xNames, vx_ot w = true := by decide +kernel
theorem tn_S : ∀ w ∈ (vx_atS RX2 28 ISE xNames).filter (fun w => !goodWord w), w ∈ xNon := by decide +kernel
theorem tn_A : ∀ w ∈ (vx_atS RX2 152 IAE xNames).filter (fun w => !goodWord w), w ∈ xNon := by decide +kernel
theorem tn_O : ∀ w ∈ (vx_atS RX2 157 IOE xNames).filter (fun w => !goodWord w), w ∈ xNon := by decide +kernel
section XRows
variable {p : Program} {l : Launch} {e : Env} {R : Room} {s : State} {m : MethodId} {args : Array Value} {below : List Frame} {meth : Method} {c : Code} {H : Heap} {locs : List Loc} {cells slots : Nat} {Q : State → Prop}
variable {cc : ByteArray} {pc : Nat} {ls : Array Slot} {rest : List Value} {D : va_G} {cI cO cL cJ : ClassId} {H0 : Heap} {A : Nat → Prop} {g : XG} {X : MS} {hz sz mc ms : Nat} {own : String} {Ts : List Cond} {a i : Nat}
theorem x_putO (hexec : p.tables.exec = Jvm.exec) (hb : c.code = cc) {ref : String} {index : Nat} (hts : ∀ w ∈ Ts, w.before args s = true) (hin : ∀ w ∈ u_ws RX1 TX1 12, w ∈ Ts) (hown : s.vm.findClass own = some m.cls) (hK : KK D cI cO cL cJ s) (hI : xI g) (hW : xW D cO cL g X H) (hS : va_S A H0 H locs) (ha : g 0 i = some a) (hA : A a) (k f : Nat) (hk : 3 ≤ k ∧ k < 12 ∧ k + 4 = f) (hlink : (Cond.fieldLink own index ref (TX1 k).2.1 (TX1 k).2.2.1).before args s = true) (hsame : ∀ x, s.fieldFound? (TX1 k).1 (TX1 k).2.1 (TX1 k).2.2.1 = some x → s.fieldFound? ref (TX1 k).2.1 (TX1 k).2.2.1 = some x) {v : Int32} (ty : FieldType) (hd : parseFieldDescriptor (TX1 k).2.2.1 = some ty) (hn : narrow ty (.int v) = .int v) (hfit : fits ty (.int v) = true) (hdg : decode cc pc = .ok (.putfield index, 3))
    (kk : ∀ (H1 : Heap) (locs1 : List Loc), xW D cO cL g (mu X f i v) H1 → H1.size = H.size → (∀ q : Nat, q ≠ a → H1[q]? = H[q]?) → va_S A H0 H1 locs1 → W p l e R s m args below meth c H1 locs1 cells slots Q (F0 m (pc + 3) ls rest)) : W p l e R s m args below meth c H locs cells slots Q (F0 m pc ls (.int v :: .ref a :: rest)) := by
  obtain ⟨h3, h12, rfl⟩ := hk
  have hfin : (TX1 k).2.2.2 = false := by
    rcases (show k = 3 ∨ k = 4 ∨ k = 5 ∨ k = 6 ∨ k = 7 ∨ k = 8 ∨ k = 9 ∨ k = 10 ∨ k = 11 by omega) with rfl | rfl | rfl | rfl | rfl | rfl | rfl | rfl | rfl <;> rfl
  have hset : xobO g (mu X (k + 4) i v) i = (xobO g X i).set k (.int v) := by
    rcases (show k = 3 ∨ k = 4 ∨ k = 5 ∨ k = 6 ∨ k = 7 ∨ k = 8 ∨ k = 9 ∨ k = 10 ∨ k = 11 by omega) with rfl | rfl | rfl | rfl | rfl | rfl | rfl | rfl | rfl <;> simp [xobO, mu_e]
  have hat : va_at D vwCl (a, .inr (1, xobO g X i)) H := hW 0 i a ha
  have hkind : (0 : Nat) = xkind (k + 4) := by unfold xkind; rw [if_neg (by omega), if_pos (by omega)]
  refine f_put hexec hb hts hin tyX1 tyX1_ok nmX1 hown hK hat hS hA rfl k h12 hlink hsame hfin hd hn hfit (show k < 12 from h12) hdg (fun H1 locs1 hat1 hz1 ho hS1 => ?_)
  refine kk H1 locs1 (hW.upd hI ha (by omega) hkind ?_ ho) hz1 ho hS1
  show va_at D vwCl (a, .inr (1, xobO g (mu X (k + 4) i v) i)) H1
  rw [hset]
  exact hat1
theorem x_putL (hexec : p.tables.exec = Jvm.exec) (hb : c.code = cc) {ref : String} {index : Nat} (hts : ∀ w ∈ Ts, w.before args s = true) (hin : ∀ w ∈ u_ws RX0 TX0 5, w ∈ Ts) (hown : s.vm.findClass own = some m.cls) (hK : KK D cI cO cL cJ s) (hI : xI g) (hW : xW D cO cL g X H) (hS : va_S A H0 H locs) (ha : g 2 i = some a) (hA : A a) (k f : Nat) (hk : 2 ≤ k ∧ k < 5 ∧ k + 16 = f) (hlink : (Cond.fieldLink own index ref (TX0 k).2.1 (TX0 k).2.2.1).before args s = true) (hsame : ∀ x, s.fieldFound? (TX0 k).1 (TX0 k).2.1 (TX0 k).2.2.1 = some x → s.fieldFound? ref (TX0 k).2.1 (TX0 k).2.2.1 = some x) {v : Int32} (hdg : decode cc pc = .ok (.putfield index, 3))
    (kk : ∀ (H1 : Heap) (locs1 : List Loc), xW D cO cL g (mu X f i v) H1 → H1.size = H.size → (∀ q : Nat, q ≠ a → H1[q]? = H[q]?) → va_S A H0 H1 locs1 → W p l e R s m args below meth c H1 locs1 cells slots Q (F0 m (pc + 3) ls rest)) : W p l e R s m args below meth c H locs cells slots Q (F0 m pc ls (.int v :: .ref a :: rest)) := by
  obtain ⟨h3, h12, rfl⟩ := hk
  have hfin : (TX0 k).2.2.2 = false := by
    rcases (show k = 2 ∨ k = 3 ∨ k = 4 by omega) with rfl | rfl | rfl <;> rfl
  have hd : parseFieldDescriptor (TX0 k).2.2.1 = some .int := by
    rcases (show k = 2 ∨ k = 3 ∨ k = 4 by omega) with rfl | rfl | rfl <;> exact tyX0_ok _ (by decide)
  have hset : xobL (mu X (k + 16) i v) i = (xobL X i).set k (.int v) := by
    rcases (show k = 2 ∨ k = 3 ∨ k = 4 by omega) with rfl | rfl | rfl <;> simp [xobL, mu_e]
  have hat : va_at D vwCl (a, .inr (0, xobL X i)) H := hW 2 i a ha
  have hkind : (2 : Nat) = xkind (k + 16) := by unfold xkind; rw [if_neg (by omega), if_neg (by omega)]
  refine f_put hexec hb hts hin tyX0 tyX0_ok nmX0 hown hK hat hS hA rfl k h12 hlink hsame hfin hd (v := .int v) rfl rfl (show k < 5 from h12) hdg (fun H1 locs1 hat1 hz1 ho hS1 => ?_)
  refine kk H1 locs1 (hW.upd hI ha (by omega) hkind ?_ ho) hz1 ho hS1
  show va_at D vwCl (a, .inr (0, xobL (mu X (k + 16) i v) i)) H1
  rw [hset]
  exact hat1
theorem x_putD (hexec : p.tables.exec = Jvm.exec) (hb : c.code = cc) {ref : String} {index : Nat} (hts : ∀ w ∈ Ts, w.before args s = true) (hin : ∀ w ∈ u_ws RX2 TX2 6, w ∈ Ts) (hown : s.vm.findClass own = some m.cls) (hK : KK D cI cO cL cJ s) (hI : xI g) (hW : xW D cO cL g X H) (hS : va_S A H0 H locs) (ha : g 3 0 = some a) (hA : A a) (k f : Nat) (hk : 1 ≤ k ∧ k < 6 ∧ f + 1 = k) (hlink : (Cond.fieldLink own index ref (TX2 k).2.1 (TX2 k).2.2.1).before args s = true) (hsame : ∀ x, s.fieldFound? (TX2 k).1 (TX2 k).2.1 (TX2 k).2.2.1 = some x → s.fieldFound? ref (TX2 k).2.1 (TX2 k).2.2.1 = some x) {v : Int32} (hdg : decode cc pc = .ok (.putfield index, 3))
    (kk : ∀ (H1 : Heap) (locs1 : List Loc), xW D cO cL g (mu X f 0 v) H1 → H1.size = H.size → (∀ q : Nat, q ≠ a → H1[q]? = H[q]?) → va_S A H0 H1 locs1 → W p l e R s m args below meth c H1 locs1 cells slots Q (F0 m (pc + 3) ls rest)) : W p l e R s m args below meth c H locs cells slots Q (F0 m pc ls (.int v :: .ref a :: rest)) := by
  obtain ⟨h3, h12, rfl⟩ := hk
  have hfin : (TX2 (f + 1)).2.2.2 = false := by
    rcases (show f = 0 ∨ f = 1 ∨ f = 2 ∨ f = 3 ∨ f = 4 by omega) with rfl | rfl | rfl | rfl | rfl <;> rfl
  have hd : parseFieldDescriptor (TX2 (f + 1)).2.2.1 = some .int := by
    rcases (show f = 0 ∨ f = 1 ∨ f = 2 ∨ f = 3 ∨ f = 4 by omega) with rfl | rfl | rfl | rfl | rfl <;> exact tyX2_ok _ (by decide)
  have hset : xobD g (mu X f 0 v) 0 = (xobD g X 0).set (f + 1) (.int v) := by
    rcases (show f = 0 ∨ f = 1 ∨ f = 2 ∨ f = 3 ∨ f = 4 by omega) with rfl | rfl | rfl | rfl | rfl <;> simp [xobD, mu_e]
  have hat : va_at D vwCl (a, .inr (2, xobD g X 0)) H := hW 3 0 a ha
  have hkind : (3 : Nat) = xkind f := by unfold xkind; rw [if_pos (by omega)]
  refine f_put hexec hb hts hin tyX2 tyX2_ok nmX2 hown hK hat hS hA rfl (f + 1) h12 hlink hsame hfin hd (v := .int v) rfl rfl (show f + 1 < 6 from h12) hdg (fun H1 locs1 hat1 hz1 ho hS1 => ?_)
  refine kk H1 locs1 (hW.upd hI ha (by omega) hkind ?_ ho) hz1 ho hS1
  show va_at D vwCl (a, .inr (2, xobD g (mu X f 0 v) 0)) H1
  rw [hset]
  exact hat1
/-- a throw of the class's own -/
theorem x_throw (hl : l.stackTraces = false) (hexec : p.tables.exec = Jvm.exec) (hb : c.code = cc) (hown : s.vm.findClass RX2 = some m.cls) (hts : ∀ w ∈ Ts, w.before args s = true) (hE : xE hz s s.heap) {Qc : Array Value → State → Outcome → State → Prop} {cond : String → Prop} {free : Nat → Prop} {cls text : String} {ik is ic : Nat} (hcls : Bundle.fit cls = true) (hnm : ∀ n ∈ xNames, Bundle.fit n = true) (hk : (Cond.classLink RX2 ik cls).before args s = true) (hini : (Cond.initialized cls).before args s = true) (hstr : (is, text) ∈ xStr) (hgw : ∀ w ∈ (vx_atS RX2 ic cls xNames).filter goodWord, w ∈ Ts) 
    (hnon : ∀ w ∈ (vx_atS RX2 ic cls xNames).filter (fun w => !goodWord w), w ∈ xNon) (hgood : ∀ w ∈ Cond.classLink RX2 ik cls :: Cond.initialized cls :: vx_atS RX2 ic cls xNames, vx_ot w = true)
    (hsize : ls.size = c.maxLocals) (htab : ∀ x ∈ c.exceptionTable.toList, False) (hlocks : meth.locks = false)
    (d0 : decode cc pc = .ok (.new ik, 3)) (d3 : decode cc (pc + 3) = .ok (.dup, 1)) (d4 : decode cc (pc + 4) = .ok (.ldc is, 2)) (d6 : decode cc (pc + 6) = .ok (.invokespecial ic, 3)) (d9 : decode cc (pc + 9) = .ok (.athrow, 1))
    (hR : 5 < R.frames ∧ (rest.map fun v => v.category).sum + 82 ≤ R.locals ∧ cells + 1 ≤ R.cells ∧ slots + 6 ≤ R.slots) (hm : cells + 1 ≤ mc ∧ slots + 6 ≤ ms) (hH : H = s.heap) (hlo : locs = []) (hc : cond cls) :
    W p l e R s m args below meth c H locs cells slots (vx_MQ below Qc (xT cond) args s mc ms free) (F0 m pc ls rest) := by
  subst hH
  subst hlo
  obtain ⟨sa, hsa⟩ := hE.2.2.2.1 _ hstr
  have hA : ∀ q, (fun a => hz ≤ a) q → (fun a => hz ≤ a) q := fun _ h => h
  refine vx_throwS (names := xNames) (A := fun a => hz ≤ a) hexec hb hl hown hcls hnm hk hini hsa (vx_hat (fun w hw => hts w (hgw w hw)) hnon (fun w hw => va_Nw.use (xNon_tab w hw) (hE.2.2.1 w hw))) hgood hE.1 hE.2.1 va_S.rf hsize d0 d3 d4 d6 d9 (fun x hx => (htab x hx).elim) hR.1 hR.2.1 hR.2.2.1 hR.2.2.2 hlocks (fun t _ h1 h2 => ⟨hc, h1, h2⟩) (fun z hz9 => by cases hz9) hm.1 hm.2
/-- a throw that goes on to the caller -/
theorem x_prop {Qc : Array Value → State → Outcome → State → Prop} {cond : String → Prop} {free : Nat → Prop} {E : String} {ce : Cell} {q9 : Nat} (htab : ∀ x ∈ c.exceptionTable.toList, False) (hlocks : meth.locks = false) (hcell : H[q9]? = some ce) (hv : ce.vm = .none) (hcl : s.vm.findClass E = some ce.cls) (hsz : s.heap.size ≤ H.size) (hq : ∀ q, q < s.heap.size → H[q]? = s.heap[q]?) (hf : ∀ z ∈ locs, free z.base) (hm : cells ≤ mc ∧ slots ≤ ms) (hc : cond E) :
    vx_W p l e R s m args below meth c H locs cells slots (vx_MQ below Qc (xT cond) args s mc ms free) (F0 m pc ls rest) q9 :=
  vx_out (fun x hx => (htab x hx).elim) hlocks hcell hv hcl (fun t ht _ => ⟨hc, by rw [ht]; exact hsz, fun q h => by rw [ht]; exact hq q h⟩) hf hm.1 hm.2
theorem x_run {Qa : State → Outcome → State → Prop} {cond : String → Prop} {free : Nat → Prop} {st0 : List Value} (hr : vx_Run p l e R s m args below meth c H locs cells slots mc ms (F0 m pc ls st0) rest Qa (xT cond) free) (hS : va_S A H0 H locs) (hf : ∀ q, free q → A q)
    (kx : ∀ (E : String) (ce : Cell) (q9 : Nat) (H1 : Heap) (locs1 : List Loc), cond E → H.size ≤ H1.size → (∀ q, q < H.size → H1[q]? = H[q]?) → va_S A H0 H1 locs1 → (∀ z ∈ locs1, z ∈ locs ∨ free z.base) → H1[q9]? = some ce → ce.vm = .none → s.vm.findClass E = some ce.cls → vx_W p l e R s m args below meth c H1 locs1 (cells + mc) (slots + ms) Q (F0 m pc ls rest) q9)
    (kk : ∀ (v : Option Value) (st₀ t : State) (T' : State) (L : List Loc), st₀.heap = H → T'.heap = t.heap → Qa st₀ (.returned v) t → (∀ q ∈ L, free q.base) → W p l e R s m args below meth c T'.heap (locs ++ L) (cells + mc) (slots + ms) Q (F0 m (pc + 3) ls (v.toList ++ rest))) : W p l e R s m args below meth c H locs cells slots Q (F0 m pc ls st0) := by
  intro T hT Xs
  rcases hr T hT Xs with ⟨v, st₀, t, T', L, h0, X', hL, e1, e2, hq, st⟩ | ⟨q, st₀, t, T', L, E, ce, h0, X', hL, e1, e2, ⟨hc, hz1, hk1⟩, hce, hcv, hcl, st⟩
  · obtain ⟨t2, a1, b1⟩ := kk v st₀ t T' L h0 e1 hq hL T' rfl X'
    exact ⟨t2, st t2 a1, b1⟩
  · rw [h0] at hz1 hk1
    have hS1 : va_S A H0 T'.heap (locs ++ L) := ⟨Nat.le_trans hS.1 (by rw [e1]; exact hz1), fun q h1 h2 => by rw [e1, hk1 q (Nat.lt_of_lt_of_le h1 hS.1)]; exact hS.2.1 q h1 h2, fun z hz9 => by
      rcases List.mem_append.mp hz9 with h | h
      · exact hS.2.2 z h
      · exact hf _ (hL z h)⟩
    obtain ⟨t2, a1, b1⟩ := kx E ce q T'.heap (locs ++ L) hc (by rw [e1]; exact hz1) (fun q h => by rw [e1]; exact hk1 q h) hS1 (fun z hz9 => (List.mem_append.mp hz9).imp id (hL z)) (by rw [e1]; exact hce) hcv hcl T' rfl X'
    exact ⟨t2, st.trans a1, b1⟩
theorem x_old {k : W p l e R s m args below meth c H locs cells slots Q (F0 m pc ls rest)} {L : List Loc} (hL : ∀ q ∈ L, False) : W p l e R s m args below meth c H (locs ++ L) cells slots Q (F0 m pc ls rest) := by
  cases L with
  | nil => rw [List.append_nil]; exact k
  | cons x L => exact (hL x List.mem_cons_self).elim
/-- after a call that reads and may throw: an int, a cell, nothing -/
theorem x_cI {post : Int32 → Prop} {cond : String → Prop} {st0 : List Value} {a0 : Array Value} (hr : vx_Run p l e R s m args below meth c H locs cells slots mc ms (F0 m pc ls st0) rest (vp_Si post a0) (xT cond) (fun _ => False)) (hS : va_S A H0 H locs)
    (kx : ∀ (E : String) (ce : Cell) (q9 : Nat) (H1 : Heap) (locs1 : List Loc), cond E → H.size ≤ H1.size → (∀ q, q < H.size → H1[q]? = H[q]?) → va_S A H0 H1 locs1 → (∀ z ∈ locs1, z ∈ locs ∨ False) → H1[q9]? = some ce → ce.vm = .none → s.vm.findClass E = some ce.cls → vx_W p l e R s m args below meth c H1 locs1 (cells + mc) (slots + ms) Q (F0 m pc ls rest) q9)
    (kk : ∀ r : Int32, post r → W p l e R s m args below meth c H locs (cells + mc) (slots + ms) Q (F0 m (pc + 3) ls (.int r :: rest))) : W p l e R s m args below meth c H locs cells slots Q (F0 m pc ls st0) := by
  refine x_run hr hS (fun _ h => h.elim) kx (fun v st₀ t T' L h0 e1 hq hL => ?_)
  obtain ⟨r, hv, hp, hh⟩ := hq
  cases hv
  rw [e1, hh, h0]
  exact x_old (k := kk r hp) hL
theorem x_cR {post : Nat → Prop} {cond : String → Prop} {st0 : List Value} {a0 : Array Value} (hr : vx_Run p l e R s m args below meth c H locs cells slots mc ms (F0 m pc ls st0) rest (xSr post a0) (xT cond) (fun _ => False)) (hS : va_S A H0 H locs)
    (kx : ∀ (E : String) (ce : Cell) (q9 : Nat) (H1 : Heap) (locs1 : List Loc), cond E → H.size ≤ H1.size → (∀ q, q < H.size → H1[q]? = H[q]?) → va_S A H0 H1 locs1 → (∀ z ∈ locs1, z ∈ locs ∨ False) → H1[q9]? = some ce → ce.vm = .none → s.vm.findClass E = some ce.cls → vx_W p l e R s m args below meth c H1 locs1 (cells + mc) (slots + ms) Q (F0 m pc ls rest) q9)
    (kk : ∀ r : Nat, post r → W p l e R s m args below meth c H locs (cells + mc) (slots + ms) Q (F0 m (pc + 3) ls (.ref r :: rest))) : W p l e R s m args below meth c H locs cells slots Q (F0 m pc ls st0) := by
  refine x_run hr hS (fun _ h => h.elim) kx (fun v st₀ t T' L h0 e1 hq hL => ?_)
  obtain ⟨r, hv, hp, hh⟩ := hq
  cases hv
  rw [e1, hh, h0]
  exact x_old (k := kk r hp) hL
theorem x_cV {post : Prop} {cond : String → Prop} {st0 : List Value} {a0 : Array Value} (hr : vx_Run p l e R s m args below meth c H locs cells slots mc ms (F0 m pc ls st0) rest (xSv post a0) (xT cond) (fun _ => False)) (hS : va_S A H0 H locs)
    (kx : ∀ (E : String) (ce : Cell) (q9 : Nat) (H1 : Heap) (locs1 : List Loc), cond E → H.size ≤ H1.size → (∀ q, q < H.size → H1[q]? = H[q]?) → va_S A H0 H1 locs1 → (∀ z ∈ locs1, z ∈ locs ∨ False) → H1[q9]? = some ce → ce.vm = .none → s.vm.findClass E = some ce.cls → vx_W p l e R s m args below meth c H1 locs1 (cells + mc) (slots + ms) Q (F0 m pc ls rest) q9)
    (kk : post → W p l e R s m args below meth c H locs (cells + mc) (slots + ms) Q (F0 m (pc + 3) ls rest)) : W p l e R s m args below meth c H locs cells slots Q (F0 m pc ls st0) := by
  refine x_run hr hS (fun _ h => h.elim) kx (fun v st₀ t T' L h0 e1 hq hL => ?_)
  obtain ⟨hv, hp, hh⟩ := hq
  cases hv
  rw [e1, hh, h0]
  exact x_old (k := kk hp) hL
end XRows
end
section
/-! BODIES, ENDS AND CALLS of the class's methods. -/
theorem x_body {l : Launch} {cc : ByteArray} {D : va_G} {cI cO cL cJ : ClassId} {g : XG} {X : MS} {hz sz mc ms : Nat} {y : MethodName} {ws ws' : List Cond} {rm : Room} {maxL : Nat} {ret : Option FieldType} {Qc : Array Value → State → Outcome → State → Prop} {cond : String → Prop} {free : Addr → Prop} (hy : plainName y.cls = true) (hw : ws = Cond.code y cc maxL ret :: ws') (av : List Value) (hlen : (lg_sl av).length ≤ maxL)
    (k : ∀ (p : Program) (e : Env) (s : State) (m : MethodId) (args : Array Value) (below : List Frame) (meth : Method) (c : Code), p.tables.exec = Jvm.exec → c.code = cc → meth.sig.returnType = ret → (∀ w ∈ ws, w.before args s = true) → s.vm.findClass y.cls = some m.cls → c.maxLocals = maxL → meth.locks = false → (∀ x ∈ c.exceptionTable.toList, False) → s.heap.size = sz → xW D cO cL g X s.heap → KK D cI cO cL cJ s → xE hz s s.heap → ∀ ls : Array Slot, lv_has ls maxL (lv_args 0 av) → W p l e rm s m args below meth c s.heap [] 0 0 (vx_MQ below Qc (xT cond) args s mc ms free) (F0 m 0 ls [])) :
    vx_Met l y ws rm (xP D cI cO cL cJ g X hz sz av) Qc (xT cond) mc ms free := by
  refine vx_ofW (cc := cc) (maxL := maxL) (ret := ret) hy hw ?_
  intro p e s m args below meth c s₁ B hml htab hv
  obtain ⟨rfl, hsz, hP, hK, hE⟩ := hv
  have hl := lv_entry av (n := maxL) hlen
  rw [lg_entry_eq]
  exact k p e s m _ below meth c B.exec B.bytes B.returns (atoms_spec (ws := ws) B.pre) (findClass_of_methodNamed B.named) hml B.notSynchronized htab hsz hP hK hE _ hl
theorem x_bodyM {l : Launch} {cc : ByteArray} {D : va_G} {cI cO cL cJ : ClassId} {g : XG} {X : MS} {hz sz mc ms : Nat} {y : MethodName} {ws ws' : List Cond} {rm : Room} {maxL : Nat} {ret : Option FieldType} {Qc : Array Value → State → Outcome → State → Prop} {free : Addr → Prop} (hy : plainName y.cls = true) (hw : ws = Cond.code y cc maxL ret :: ws') (av : List Value) (hlen : (lg_sl av).length ≤ maxL)
    (k : ∀ (p : Program) (e : Env) (s : State) (m : MethodId) (args : Array Value) (below : List Frame) (meth : Method) (c : Code), p.tables.exec = Jvm.exec → c.code = cc → meth.sig.returnType = ret → (∀ w ∈ ws, w.before args s = true) → s.vm.findClass y.cls = some m.cls → c.maxLocals = maxL → meth.locks = false → s.heap.size = sz → xW D cO cL g X s.heap → KK D cI cO cL cJ s → xE hz s s.heap → ∀ ls : Array Slot, lv_has ls maxL (lv_args 0 av) → W p l e rm s m args below meth c s.heap [] 0 0 (MQ below Qc args s mc ms free) (F0 m 0 ls [])) :
    Met l y ws rm (xP D cI cO cL cJ g X hz sz av) Qc mc ms free := by
  refine Met.ofW (cc := cc) (maxL := maxL) (ret := ret) hy hw ?_
  intro p e s m args below meth c s₁ B hml hv
  obtain ⟨rfl, hsz, hP, hK, hE⟩ := hv
  have hl := lv_entry av (n := maxL) hlen
  rw [lg_entry_eq]
  exact k p e s m _ below meth c B.exec B.bytes B.returns (atoms_spec (ws := ws) B.pre) (findClass_of_methodNamed B.named) hml B.notSynchronized hsz hP hK hE _ hl
section XEnds
variable {p : Program} {l : Launch} {e : Env} {R : Room} {s : State} {m : MethodId} {args : Array Value} {below : List Frame} {meth : Method} {c : Code} {H : Heap} {locs : List Loc} {cells slots : Nat} {Q : State → Prop}
variable {cc : ByteArray} {pc : Nat} {ls : Array Slot} {rest : List Value} {D : va_G} {cI cO cL cJ : ClassId} {H0 : Heap} {A : Nat → Prop} {g : XG} {X : MS} {hz sz mc ms : Nat} {cond : String → Prop}
theorem f_aaldV (hexec : p.tables.exec = Jvm.exec) (hb : c.code = cc) (hK : KK D cI cO cL cJ s) {a : Nat} {cA : ClassId} {C : String} (t0 : Nat) (ht : (tyL cI cO cL cJ)[t0]? = some (cA, .object C)) {n : Nat} {f : Nat → Option Nat} (hat : va_at D vwCl (a, .inl (cA, n, .inr (.inr (.inr (.inr f))))) H) {x : Int32} {i : Nat} (hxi : x = nI i) (hi : i < n) (hn : n < 2 ^ 31) {v : Value} (hv : va_rf (f i) = v) (hdg : decode cc pc = .ok (.aaload, 1))
    (kk : W p l e R s m args below meth c H locs cells slots Q (F0 m (pc + 1) ls (v :: rest))) : W p l e R s m args below meth c H locs cells slots Q (F0 m pc ls (.int x :: .ref a :: rest)) := by
  subst hv
  exact f_aald hexec hb hK t0 ht hat hxi hi hn rfl hdg kk
/-- ends that read alone: an int, a truth value, a cell, nothing -/
theorem xr_ret (hexec : p.tables.exec = Jvm.exec) (hb : c.code = cc) (hr : meth.sig.returnType = some .int) (hlocks : meth.locks = false) (hm : cells ≤ mc ∧ slots ≤ ms) {post : Int32 → Prop} {v : Int32} (hp : post v) (hdg : decode cc pc = .ok (.ireturn, 1)) : W p l e R s m args below meth c s.heap [] cells slots (vx_MQ below (vp_Si post) (xT cond) args s mc ms (fun _ => False)) (F0 m pc ls [.int v]) :=
  vx_ret (W.widen hm.1 hm.2 (W.iret (v := v) hexec hb hr (fun t ht _ => ⟨v, rfl, hp, ht⟩) (fun q h => by cases h) hdg hlocks))
theorem xr_zret (hexec : p.tables.exec = Jvm.exec) (hb : c.code = cc) (hr : meth.sig.returnType = some .boolean) (hlocks : meth.locks = false) (hm : cells ≤ mc ∧ slots ≤ ms) {post : Int32 → Prop} {v : Int32} (hv : v = 0 ∨ v = 1) (hp : post v) (hdg : decode cc pc = .ok (.ireturn, 1)) : W p l e R s m args below meth c s.heap [] cells slots (vx_MQ below (vp_Si post) (xT cond) args s mc ms (fun _ => False)) (F0 m pc ls [.int v]) :=
  vx_ret (W.widen hm.1 hm.2 (W.zret (v := v) hexec hb hr (by rcases hv with rfl | rfl <;> rfl) (fun t ht _ => ⟨v, rfl, hp, ht⟩) (fun q h => by cases h) hdg hlocks))
theorem xr_aret (hexec : p.tables.exec = Jvm.exec) (hb : c.code = cc) {C : String} (hr : meth.sig.returnType = some (.object C)) (hlocks : meth.locks = false) (hm : cells ≤ mc ∧ slots ≤ ms) {post : Nat → Prop} {v : Nat} (hp : post v) (hdg : decode cc pc = .ok (.areturn, 1)) : W p l e R s m args below meth c s.heap [] cells slots (vx_MQ below (xSr post) (xT cond) args s mc ms (fun _ => False)) (F0 m pc ls [.ref v]) :=
  vx_ret (W.widen hm.1 hm.2 (W.aret (v := .ref v) hexec hb hr (Or.inl ⟨C, rfl⟩) (Or.inr ⟨v, rfl⟩) (fun t ht _ => ⟨v, rfl, hp, ht⟩) (fun q h => by cases h) hdg hlocks))
theorem xr_vret (hexec : p.tables.exec = Jvm.exec) (hb : c.code = cc) (hr : meth.sig.returnType = none) (hlocks : meth.locks = false) (hm : cells ≤ mc ∧ slots ≤ ms) {post : Prop} (hp : post) (hdg : decode cc pc = .ok (.return_, 1)) : W p l e R s m args below meth c s.heap [] cells slots (vx_MQ below (xSv post) (xT cond) args s mc ms (fun _ => False)) (F0 m pc ls []) :=
  vx_ret (W.widen hm.1 hm.2 (W.vret hexec hb hr (fun t ht _ => ⟨rfl, hp, ht⟩) (fun q h => by cases h) hdg hlocks))
/-- ends that have written -/
theorem xw_retM (hexec : p.tables.exec = Jvm.exec) (hb : c.code = cc) (hr : meth.sig.returnType = some .int) (hlocks : meth.locks = false) (hm : cells ≤ mc ∧ slots ≤ ms) (hW : xW D cO cL g X H) (hS : va_S (xA g sz) s.heap H locs) {post : Int32 → MS → Prop} {v : Int32} (hp : post v X) (hdg : decode cc pc = .ok (.ireturn, 1)) : W p l e R s m args below meth c H locs cells slots (MQ below (xQi D cO cL g sz post) args s mc ms (xA g sz)) (F0 m pc ls [.int v]) :=
  W.widen hm.1 hm.2 (W.iret (v := v) hexec hb hr (fun t ht _ => ⟨⟨v, X, rfl, hp, by show xW D cO cL g X t.heap; rw [ht]; exact hW⟩, hS.F ht⟩) hS.2.2 hdg hlocks)
theorem xw_ret (hexec : p.tables.exec = Jvm.exec) (hb : c.code = cc) (hr : meth.sig.returnType = some .int) (hlocks : meth.locks = false) (hm : cells ≤ mc ∧ slots ≤ ms) (hW : xW D cO cL g X H) (hS : va_S (xA g sz) s.heap H locs) {post : Int32 → MS → Prop} {v : Int32} (hp : post v X) (hdg : decode cc pc = .ok (.ireturn, 1)) : W p l e R s m args below meth c H locs cells slots (vx_MQ below (xQi D cO cL g sz post) (xT cond) args s mc ms (xA g sz)) (F0 m pc ls [.int v]) := vx_ret (xw_retM hexec hb hr hlocks hm hW hS hp hdg)
theorem xw_vretM (hexec : p.tables.exec = Jvm.exec) (hb : c.code = cc) (hr : meth.sig.returnType = none) (hlocks : meth.locks = false) (hm : cells ≤ mc ∧ slots ≤ ms) (hW : xW D cO cL g X H) (hS : va_S (xA g sz) s.heap H locs) {post : MS → Prop} (hp : post X) (hdg : decode cc pc = .ok (.return_, 1)) : W p l e R s m args below meth c H locs cells slots (MQ below (xQv D cO cL g sz post) args s mc ms (xA g sz)) (F0 m pc ls []) :=
  W.widen hm.1 hm.2 (W.vret hexec hb hr (fun t ht _ => ⟨⟨X, rfl, hp, by show xW D cO cL g X t.heap; rw [ht]; exact hW⟩, hS.F ht⟩) hS.2.2 hdg hlocks)
/-- what a callee asks of the caller's state -/
theorem x_preV {C : String} {b : Nat} {As : List Value} (hW : xW D cO cL g X H) (hK : KK D cI cO cL cJ s) (hE : xE hz s H) (hrecv : ∃ cell : Cell, H[b]? = some cell ∧ cell.vm.isStatics = false ∧ s.vm.findClass C = some cell.cls) : PreV s H C b (xP D cI cO cL cJ g X hz H.size (.ref b :: As)) As :=
  ⟨xP.blind, hrecv, fun U hU hWm => ⟨rfl, by rw [hU], by rw [hU]; exact hW, hK.moved hWm.alike, by rw [hU]; exact hE.warm hWm⟩⟩
theorem x_preS {As : List Value} (hW : xW D cO cL g X H) (hK : KK D cI cO cL cJ s) (hE : xE hz s H) : PreS s H (xP D cI cO cL cJ g X hz H.size As) As :=
  ⟨xP.blind, fun U hU hWm => ⟨rfl, by rw [hU], by rw [hU]; exact hW, hK.moved hWm.alike, by rw [hU]; exact hE.warm hWm⟩⟩
theorem x_recvO {a i : Nat} (hK : KK D cI cO cL cJ s) (hW : xW D cO cL g X H) (ha : g 0 i = some a) : ∃ cell : Cell, H[a]? = some cell ∧ cell.vm.isStatics = false ∧ s.vm.findClass RX1 = some cell.cls := va_recv hK (f_one (hW 0 i a ha)) (ci := 1) (q0 := 0) (q := (RX1, TX1, 12)) rfl rfl
theorem x_recvL {a i : Nat} (hK : KK D cI cO cL cJ s) (hW : xW D cO cL g X H) (ha : g 2 i = some a) : ∃ cell : Cell, H[a]? = some cell ∧ cell.vm.isStatics = false ∧ s.vm.findClass RX0 = some cell.cls := va_recv hK (f_one (hW 2 i a ha)) (ci := 0) (q0 := 0) (q := (RX0, TX0, 5)) rfl rfl
theorem x_recvD {a i : Nat} (hK : KK D cI cO cL cJ s) (hW : xW D cO cL g X H) (ha : g 3 i = some a) : ∃ cell : Cell, H[a]? = some cell ∧ cell.vm.isStatics = false ∧ s.vm.findClass RX2 = some cell.cls := va_recv hK (f_one (hW 3 i a ha)) (ci := 2) (q0 := 0) (q := (RX2, TX2, 6)) rfl rfl
/-- after a call that writes: an int or nothing; the callee's cells are mine -/
theorem x_wI {post : Int32 → MS → Prop} {st0 : List Value} {a0 : Array Value} {szA : Nat} (hr : va_Run p l e R s m args below meth c H locs cells slots mc ms (F0 m pc ls st0) rest (xQi D cO cL g H.size post a0) (xA g H.size)) (hS : va_S (xA g szA) H0 H locs) (hsz : szA ≤ H.size)
    (kk : ∀ (r : Int32) (X' : MS) (H1 : Heap) (locs1 : List Loc), post r X' → xW D cO cL g X' H1 → H.size ≤ H1.size → va_S (xA g szA) H0 H1 locs1 → W p l e R s m args below meth c H1 locs1 (cells + mc) (slots + ms) Q (F0 m (pc + 3) ls (.int r :: rest))) : W p l e R s m args below meth c H locs cells slots Q (F0 m pc ls st0) := by
  have hAA : ∀ q, xA g H.size q → xA g szA q := fun q h => h.imp id (fun h => Nat.le_trans hsz h)
  refine va_calli hr hS (fun q _ h => hAA q h) hAA (fun r u t H1 locs1 ht hvm hp hB hz1 hk hS1 => ?_)
  rw [ht] at hB
  exact kk r u H1 locs1 hp hB hz1 hS1
theorem x_wV {post : MS → Prop} {st0 : List Value} {a0 : Array Value} {szA : Nat} (hr : va_Run p l e R s m args below meth c H locs cells slots mc ms (F0 m pc ls st0) rest (xQv D cO cL g H.size post a0) (xA g H.size)) (hS : va_S (xA g szA) H0 H locs) (hsz : szA ≤ H.size)
    (kk : ∀ (X' : MS) (H1 : Heap) (locs1 : List Loc), post X' → xW D cO cL g X' H1 → H.size ≤ H1.size → va_S (xA g szA) H0 H1 locs1 → W p l e R s m args below meth c H1 locs1 (cells + mc) (slots + ms) Q (F0 m (pc + 3) ls rest)) : W p l e R s m args below meth c H locs cells slots Q (F0 m pc ls st0) := by
  have hAA : ∀ q, xA g H.size q → xA g szA q := fun q h => h.imp id (fun h => Nat.le_trans hsz h)
  refine va_callv hr hS (fun q _ h => hAA q h) hAA (fun u t H1 locs1 ht hvm hp hB hz1 hk hS1 => ?_)
  rw [ht] at hB
  exact kk u H1 locs1 hp hB hz1 hS1
/-- the same of a callee that may throw -/
theorem x_cWI {post : Int32 → MS → Prop} {st0 : List Value} {a0 : Array Value} {szA : Nat} (hr : vx_Run p l e R s m args below meth c H locs cells slots mc ms (F0 m pc ls st0) rest (xQi D cO cL g H.size post a0) (xT cond) (xA g H.size)) (hS : va_S (xA g szA) H0 H locs) (hsz : szA ≤ H.size)
    (kx : ∀ (E : String) (ce : Cell) (q9 : Nat) (H1 : Heap) (locs1 : List Loc), cond E → H.size ≤ H1.size → (∀ q, q < H.size → H1[q]? = H[q]?) → va_S (xA g szA) H0 H1 locs1 → (∀ z ∈ locs1, z ∈ locs ∨ xA g H.size z.base) → H1[q9]? = some ce → ce.vm = .none → s.vm.findClass E = some ce.cls → vx_W p l e R s m args below meth c H1 locs1 (cells + mc) (slots + ms) Q (F0 m pc ls rest) q9)
    (kk : ∀ (r : Int32) (X' : MS) (H1 : Heap) (locs1 : List Loc), post r X' → xW D cO cL g X' H1 → H.size ≤ H1.size → (∀ q : Nat, q < H.size → ¬ xA g H.size q → H1[q]? = H[q]?) → va_S (xA g szA) H0 H1 locs1 → W p l e R s m args below meth c H1 locs1 (cells + mc) (slots + ms) Q (F0 m (pc + 3) ls (.int r :: rest))) : W p l e R s m args below meth c H locs cells slots Q (F0 m pc ls st0) := by
  have hAA : ∀ q, xA g H.size q → xA g szA q := fun q h => h.imp id (fun h => Nat.le_trans hsz h)
  refine x_run hr hS hAA kx (fun v st₀ t T' L h0 e1 hq hL => ?_)
  obtain ⟨⟨r, u, hv, hp, hB⟩, hF⟩ := hq
  cases hv
  obtain ⟨k1, k2, k3⟩ := vx_keep h0 e1 hS (fun q _ h => hAA q h) hAA hL hF
  exact kk r u T'.heap (locs ++ L) hp (by rw [e1]; exact hB) k1 k2 k3
end XEnds
end
section
/-! WHAT THE CLASS'S METHODS DO, as functions of its state of numbers. -/
abbrev maxI (x y : Int32) : Int32 := if x < y then y else x
abbrev minI (x y : Int32) : Int32 := if y < x then y else x
def wtX (X : MS) (j : Nat) : Int32 := if X 18 j = 1 then 1 else if X 18 j = 2 then 1 else 0
def spanX (X : MS) (j : Nat) (w : Int32) : Int32 := if w = 1 then 360 else if X 17 j = 2 then -1 else if X 17 j = 1 then 14 else 30
def gfX2 (X : MS) (j : Nat) (w : Int32) : Int32 := if w = 1 then (if X 17 j = 1 then X 16 j / 2 else X 16 j / 5) else X 16 j
def gfX (X : MS) (j : Nat) (w : Int32) : Int32 := if w = 0 then 0 else if X 19 j = 1 then (if w = 3 then gfX2 X j w else 0) else gfX2 X j w
def feeX (X : MS) (j : Nat) (w : Int32) : Int32 := if X 19 j = 0 then 500 + gfX X j w else 0 + gfX X j w
def takenX (X : MS) (k : Nat) : Int32 := X 13 k + X 14 k + X 15 k
def roomX (X : MS) (k : Nat) : Int32 := if 8 ≤ X 7 k then 0 else 1
def sumX (X : MS) (k : Nat) : Nat → Int32
  | 0 => 0
  | j + 1 => if X 18 (8 * k + j) = 3 then sumX X k j else sumX X k j + X 16 (8 * k + j)
def priceX (X : MS) (k kk : Nat) : Int32 := if sumX X k kk < X 6 k then sumX X k kk else sumX X k kk - sumX X k kk * X 5 k / 100
def owedX (X : MS) (k kk : Nat) : Int32 := priceX X k kk + X 10 k + X 11 k
def chX (X : MS) (k : Nat) (v : Int32) : MS := mu (mu X 11 k (X 11 k + v)) 13 k (X 13 k + v)
def stA (X : MS) (k kk : Nat) (p1 : Int32) : Int32 := minI p1 (priceX X k kk)
def stB (X : MS) (k kk : Nat) (p1 p2 : Int32) : Int32 := minI p2 (priceX X k kk - stA X k kk p1)
def settleX (X : MS) (k kk : Nat) (p1 p2 p3 : Int32) : MS := mu (mu (mu (mu (mu X 15 k (stA X k kk p1)) 14 k (stB X k kk p1 p2)) 13 k (priceX X k kk - stA X k kk p1 - stB X k kk p1 p2)) 8 k 1) 9 k p3
def surX (X : MS) (k kk : Nat) : Int32 := maxI (takenX X k - owedX X k kk) 0
def rfA (X : MS) (k kk : Nat) : Int32 := minI (surX X k kk) (X 13 k)
def rfB (X : MS) (k kk : Nat) : Int32 := minI (surX X k kk - rfA X k kk) (X 14 k)
def refundX (X : MS) (k kk : Nat) : Int32 × MS := (surX X k kk, mu (mu (mu (mu X 13 k (X 13 k - rfA X k kk)) 14 k (X 14 k - rfB X k kk)) 15 k (X 15 k - (surX X k kk - rfA X k kk - rfB X k kk))) 12 k (X 12 k + surX X k kk))
def wNext (p : Int32 × MS) (k j : Nat) (day : Int32) : Int32 × MS := if wtX p.2 (8 * k + j) = 0 then p else if day < p.2 20 (8 * k + j) then p else if p.2 18 (8 * k + j) = 2 then (p.1 + 1, mu (chX p.2 k (p.2 16 (8 * k + j))) 18 (8 * k + j) 0) else (p.1 + 1, mu p.2 18 (8 * k + j) 0)
def wIt (X : MS) (k : Nat) (day : Int32) : Nat → Int32 × MS
  | 0 => (0, X)
  | j + 1 => wNext (wIt X k day j) k j day
end
section
/-! THE CLASS: lines and orders. -/
set_option maxHeartbeats 4000000 in
set_option maxRecDepth 100000 in
theorem kX0_isWaitedFor (l : Launch) {D : va_G} {cI cO cL cJ : ClassId} (g : XG) (X : MS) (hz sz : Nat) (al jj : Nat) (hal : g 2 jj = some al)  : Met l yX0_isWaitedFor wsX0_isWaitedFor ({ frames := 0, cells := 0, slots := 0, locals := 0 } : Room) (xP D cI cO cL cJ g X hz sz [.ref al]) (vp_Si (fun r : Int32 => r = wtX X jj)) 0 0 (fun _ => False) := by
  refine x_bodyM (cc := cX0_isWaitedFor) (maxL := 1) (ret := some .boolean) (by decide) rfl [.ref al] (Nat.le_of_ble_eq_true rfl) ?_
  intro p e s m args below meth c hx hb hr hts hown hml hlocks hsz hW hK hE ls hl
  subst hsz
  have hown : s.vm.findClass RX0 = some m.cls := hown
  have hl : lv_has ls 1 [(0, .ref al)] := hl
  have hin0 : ∀ w ∈ u_ws RX0 TX0 5, w ∈ wsX0_isWaitedFor := (fun w h => List.mem_cons_of_mem _ (List.mem_append_right _ (h)))
  refine lv_aload_n hx hb dX0_isWaitedFor_0 rfl (lv_at hl 0 rfl) ?_
  refine f_get (ci := 0) (fs := xobL X jj) (v := .int (X 18 jj)) hx hb hts hin0 hown hK (hW 2 jj _ hal) rfl 2 (by decide) (hts (.fieldLink RX0 9 "ReturnsDesk$Line" "state" "I") (List.mem_of_getElem? (i := 1) rfl)) (fun _ h9 => h9) rfl dX0_isWaitedFor_1 ?_
  refine lv_iconst (v := 1) hx hb dX0_isWaitedFor_4 (by decide) ?_
  refine lv_icmp_eq (tgt := 16) hx hb dX0_isWaitedFor_5 (by decide) (fun c5 => ?_) (fun c5 => ?_)
  · skip
    refine lv_iconst (v := 1) hx hb dX0_isWaitedFor_16 (by decide) ?_
    refine lv_goto (tgt := 21) hx hb dX0_isWaitedFor_17 (by decide) ?_
    exact r_zret hx hb hr hlocks (by decide) (by unfold wtX; rw [if_pos c5] <;> rfl) dX0_isWaitedFor_21
  · skip
    refine lv_aload_n hx hb dX0_isWaitedFor_8 rfl (lv_at hl 0 rfl) ?_
    refine f_get (ci := 0) (fs := xobL X jj) (v := .int (X 18 jj)) hx hb hts hin0 hown hK (hW 2 jj _ hal) rfl 2 (by decide) (hts (.fieldLink RX0 9 "ReturnsDesk$Line" "state" "I") (List.mem_of_getElem? (i := 1) rfl)) (fun _ h9 => h9) rfl dX0_isWaitedFor_9 ?_
    refine lv_iconst (v := 2) hx hb dX0_isWaitedFor_12 (by decide) ?_
    refine lv_icmp_ne (tgt := 20) hx hb dX0_isWaitedFor_13 (by decide) (fun c13 => ?_) (fun c13 => ?_)
    · skip
      refine lv_iconst (v := 0) hx hb dX0_isWaitedFor_20 (by decide) ?_
      exact r_zret hx hb hr hlocks (by decide) (by unfold wtX; rw [if_neg c5, if_neg c13] <;> rfl) dX0_isWaitedFor_21
    · skip
      refine lv_iconst (v := 1) hx hb dX0_isWaitedFor_16 (by decide) ?_
      refine lv_goto (tgt := 21) hx hb dX0_isWaitedFor_17 (by decide) ?_
      exact r_zret hx hb hr hlocks (by decide) (by unfold wtX; rw [if_neg c5, if_pos c13] <;> rfl) dX0_isWaitedFor_21
set_option maxHeartbeats 4000000 in
set_option maxRecDepth 100000 in
theorem kX0_spanFor (l : Launch) {D : va_G} {cI cO cL cJ : ClassId} (g : XG) (X : MS) (hz sz : Nat) (al jj : Nat) (hal : g 2 jj = some al) (w : Int32) : Met l yX0_spanFor wsX0_spanFor ({ frames := 0, cells := 0, slots := 0, locals := 0 } : Room) (xP D cI cO cL cJ g X hz sz [.ref al, .int w]) (vp_Si (fun r : Int32 => r = spanX X jj w)) 0 0 (fun _ => False) := by
  refine x_bodyM (cc := cX0_spanFor) (maxL := 2) (ret := some .int) (by decide) rfl [.ref al, .int w] (Nat.le_of_ble_eq_true rfl) ?_
  intro p e s m args below meth c hx hb hr hts hown hml hlocks hsz hW hK hE ls hl
  subst hsz
  have hown : s.vm.findClass RX0 = some m.cls := hown
  have hl : lv_has ls 2 [(0, .ref al), (1, .int w)] := hl
  have hin0 : ∀ w ∈ u_ws RX0 TX0 5, w ∈ wsX0_spanFor := (fun w h => List.mem_cons_of_mem _ (List.mem_append_right _ (h)))
  refine lv_iload_n hx hb dX0_spanFor_0 rfl (lv_at hl 1 rfl) ?_
  refine lv_iconst (v := 1) hx hb dX0_spanFor_1 (by decide) ?_
  refine lv_icmp_ne (tgt := 9) hx hb dX0_spanFor_2 (by decide) (fun c2 => ?_) (fun c2 => ?_)
  · skip
    refine lv_aload_n hx hb dX0_spanFor_9 rfl (lv_at hl 0 rfl) ?_
    refine f_get (ci := 0) (fs := xobL X jj) (v := .int (X 17 jj)) hx hb hts hin0 hown hK (hW 2 jj _ hal) rfl 1 (by decide) (hts (.fieldLink RX0 18 "ReturnsDesk$Line" "kind" "I") (List.mem_of_getElem? (i := 1) rfl)) (fun _ h9 => h9) rfl dX0_spanFor_10 ?_
    refine lv_iconst (v := 2) hx hb dX0_spanFor_13 (by decide) ?_
    refine lv_icmp_ne (tgt := 19) hx hb dX0_spanFor_14 (by decide) (fun c14 => ?_) (fun c14 => ?_)
    · skip
      refine lv_aload_n hx hb dX0_spanFor_19 rfl (lv_at hl 0 rfl) ?_
      refine f_get (ci := 0) (fs := xobL X jj) (v := .int (X 17 jj)) hx hb hts hin0 hown hK (hW 2 jj _ hal) rfl 1 (by decide) (hts (.fieldLink RX0 18 "ReturnsDesk$Line" "kind" "I") (List.mem_of_getElem? (i := 1) rfl)) (fun _ h9 => h9) rfl dX0_spanFor_20 ?_
      refine lv_iconst (v := 1) hx hb dX0_spanFor_23 (by decide) ?_
      refine lv_icmp_ne (tgt := 32) hx hb dX0_spanFor_24 (by decide) (fun c24 => ?_) (fun c24 => ?_)
      · skip
        refine lv_bipush (v := 30) hx hb dX0_spanFor_32 (by decide) ?_
        exact r_ret hx hb hr hlocks (by unfold spanX; rw [if_neg c2, if_neg c14, if_neg c24] <;> rfl) dX0_spanFor_34
      · skip
        refine lv_bipush (v := 14) hx hb dX0_spanFor_27 (by decide) ?_
        refine lv_goto (tgt := 34) hx hb dX0_spanFor_29 (by decide) ?_
        exact r_ret hx hb hr hlocks (by unfold spanX; rw [if_neg c2, if_neg c14, if_pos c24] <;> rfl) dX0_spanFor_34
    · skip
      refine lv_iconst (v := (-1)) hx hb dX0_spanFor_17 (by decide) ?_
      exact r_ret hx hb hr hlocks (by unfold spanX; rw [if_neg c2, if_pos c14] <;> rfl) dX0_spanFor_18
  · skip
    refine lv_sipush (v := 360) hx hb dX0_spanFor_5 (by decide) ?_
    exact r_ret hx hb hr hlocks (by unfold spanX; rw [if_pos c2] <;> rfl) dX0_spanFor_8
set_option maxHeartbeats 4000000 in
set_option maxRecDepth 100000 in
theorem kX0_gradeFee (l : Launch) {D : va_G} {cI cO cL cJ : ClassId} (g : XG) (X : MS) (hz sz : Nat) (al jj : Nat) (hal : g 2 jj = some al) (w : Int32) : Met l yX0_gradeFee wsX0_gradeFee ({ frames := 0, cells := 0, slots := 0, locals := 0 } : Room) (xP D cI cO cL cJ g X hz sz [.ref al, .int w]) (vp_Si (fun r : Int32 => r = gfX X jj w)) 0 0 (fun _ => False) := by
  refine x_bodyM (cc := cX0_gradeFee) (maxL := 2) (ret := some .int) (by decide) rfl [.ref al, .int w] (Nat.le_of_ble_eq_true rfl) ?_
  intro p e s m args below meth c hx hb hr hts hown hml hlocks hsz hW hK hE ls hl
  subst hsz
  have hown : s.vm.findClass RX0 = some m.cls := hown
  have hl : lv_has ls 2 [(0, .ref al), (1, .int w)] := hl
  have hin0 : ∀ w ∈ u_ws RX0 TX0 5, w ∈ wsX0_gradeFee := (fun w h => List.mem_cons_of_mem _ (List.mem_append_right _ (h)))
  refine lv_iload_n hx hb dX0_gradeFee_0 rfl (lv_at hl 1 rfl) ?_
  refine lv_if_eq (tgt := 17) hx hb dX0_gradeFee_1 (by decide) (fun c1 => ?_) (fun c1 => ?_)
  · skip
    refine lv_iconst (v := 0) hx hb dX0_gradeFee_17 (by decide) ?_
    exact r_ret hx hb hr hlocks (by unfold gfX gfX2; rw [if_pos c1] <;> rfl) dX0_gradeFee_18
  · skip
    refine lv_aload_n hx hb dX0_gradeFee_4 rfl (lv_at hl 0 rfl) ?_
    refine f_get (ci := 0) (fs := xobL X jj) (v := .int (X 19 jj)) hx hb hts hin0 hown hK (hW 2 jj _ hal) rfl 3 (by decide) (hts (.fieldLink RX0 21 "ReturnsDesk$Line" "reason" "I") (List.mem_of_getElem? (i := 1) rfl)) (fun _ h9 => h9) rfl dX0_gradeFee_5 ?_
    refine lv_iconst (v := 1) hx hb dX0_gradeFee_8 (by decide) ?_
    refine lv_icmp_ne (tgt := 19) hx hb dX0_gradeFee_9 (by decide) (fun c9 => ?_) (fun c9 => ?_)
    · skip
      refine lv_iload_n hx hb dX0_gradeFee_19 rfl (lv_at hl 1 rfl) ?_
      refine lv_iconst (v := 1) hx hb dX0_gradeFee_20 (by decide) ?_
      refine lv_icmp_ne (tgt := 48) hx hb dX0_gradeFee_21 (by decide) (fun c21 => ?_) (fun c21 => ?_)
      · skip
        refine lv_aload_n hx hb dX0_gradeFee_48 rfl (lv_at hl 0 rfl) ?_
        refine f_get (ci := 0) (fs := xobL X jj) (v := .int (X 16 jj)) hx hb hts hin0 hown hK (hW 2 jj _ hal) rfl 0 (by decide) (hts (.fieldLink RX0 15 "ReturnsDesk$Line" "price" "I") (List.mem_of_getElem? (i := 3) rfl)) (fun _ h9 => h9) rfl dX0_gradeFee_49 ?_
        exact r_ret hx hb hr hlocks (by unfold gfX gfX2; rw [if_neg c1, if_neg c9, if_neg c21] <;> rfl) dX0_gradeFee_52
      · skip
        refine lv_aload_n hx hb dX0_gradeFee_24 rfl (lv_at hl 0 rfl) ?_
        refine f_get (ci := 0) (fs := xobL X jj) (v := .int (X 17 jj)) hx hb hts hin0 hown hK (hW 2 jj _ hal) rfl 1 (by decide) (hts (.fieldLink RX0 18 "ReturnsDesk$Line" "kind" "I") (List.mem_of_getElem? (i := 2) rfl)) (fun _ h9 => h9) rfl dX0_gradeFee_25 ?_
        refine lv_iconst (v := 1) hx hb dX0_gradeFee_28 (by decide) ?_
        refine lv_icmp_ne (tgt := 41) hx hb dX0_gradeFee_29 (by decide) (fun c29 => ?_) (fun c29 => ?_)
        · skip
          refine lv_aload_n hx hb dX0_gradeFee_41 rfl (lv_at hl 0 rfl) ?_
          refine f_get (ci := 0) (fs := xobL X jj) (v := .int (X 16 jj)) hx hb hts hin0 hown hK (hW 2 jj _ hal) rfl 0 (by decide) (hts (.fieldLink RX0 15 "ReturnsDesk$Line" "price" "I") (List.mem_of_getElem? (i := 3) rfl)) (fun _ h9 => h9) rfl dX0_gradeFee_42 ?_
          refine lv_iconst (v := 5) hx hb dX0_gradeFee_45 (by decide) ?_
          refine lv_idiv hx hb dX0_gradeFee_46 (by decide) ?_
          exact r_ret hx hb hr hlocks (by unfold gfX gfX2; rw [if_neg c1, if_neg c9, if_pos c21, if_neg c29] <;> rfl) dX0_gradeFee_47
        · skip
          refine lv_aload_n hx hb dX0_gradeFee_32 rfl (lv_at hl 0 rfl) ?_
          refine f_get (ci := 0) (fs := xobL X jj) (v := .int (X 16 jj)) hx hb hts hin0 hown hK (hW 2 jj _ hal) rfl 0 (by decide) (hts (.fieldLink RX0 15 "ReturnsDesk$Line" "price" "I") (List.mem_of_getElem? (i := 3) rfl)) (fun _ h9 => h9) rfl dX0_gradeFee_33 ?_
          refine lv_iconst (v := 2) hx hb dX0_gradeFee_36 (by decide) ?_
          refine lv_idiv hx hb dX0_gradeFee_37 (by decide) ?_
          refine lv_goto (tgt := 47) hx hb dX0_gradeFee_38 (by decide) ?_
          exact r_ret hx hb hr hlocks (by unfold gfX gfX2; rw [if_neg c1, if_neg c9, if_pos c21, if_pos c29] <;> rfl) dX0_gradeFee_47
    · skip
      refine lv_iload_n hx hb dX0_gradeFee_12 rfl (lv_at hl 1 rfl) ?_
      refine lv_iconst (v := 3) hx hb dX0_gradeFee_13 (by decide) ?_
      refine lv_icmp_eq (tgt := 19) hx hb dX0_gradeFee_14 (by decide) (fun c14 => ?_) (fun c14 => ?_)
      · skip
        refine lv_iload_n hx hb dX0_gradeFee_19 rfl (lv_at hl 1 rfl) ?_
        refine lv_iconst (v := 1) hx hb dX0_gradeFee_20 (by decide) ?_
        refine lv_icmp_ne (tgt := 48) hx hb dX0_gradeFee_21 (by decide) (fun c21 => ?_) (fun c21 => ?_)
        · skip
          refine lv_aload_n hx hb dX0_gradeFee_48 rfl (lv_at hl 0 rfl) ?_
          refine f_get (ci := 0) (fs := xobL X jj) (v := .int (X 16 jj)) hx hb hts hin0 hown hK (hW 2 jj _ hal) rfl 0 (by decide) (hts (.fieldLink RX0 15 "ReturnsDesk$Line" "price" "I") (List.mem_of_getElem? (i := 3) rfl)) (fun _ h9 => h9) rfl dX0_gradeFee_49 ?_
          exact r_ret hx hb hr hlocks (by unfold gfX gfX2; rw [if_neg c1, if_pos c9, if_pos c14, if_neg c21] <;> rfl) dX0_gradeFee_52
        · skip
          refine lv_aload_n hx hb dX0_gradeFee_24 rfl (lv_at hl 0 rfl) ?_
          refine f_get (ci := 0) (fs := xobL X jj) (v := .int (X 17 jj)) hx hb hts hin0 hown hK (hW 2 jj _ hal) rfl 1 (by decide) (hts (.fieldLink RX0 18 "ReturnsDesk$Line" "kind" "I") (List.mem_of_getElem? (i := 2) rfl)) (fun _ h9 => h9) rfl dX0_gradeFee_25 ?_
          refine lv_iconst (v := 1) hx hb dX0_gradeFee_28 (by decide) ?_
          refine lv_icmp_ne (tgt := 41) hx hb dX0_gradeFee_29 (by decide) (fun c29 => ?_) (fun c29 => ?_)
          · skip
            refine lv_aload_n hx hb dX0_gradeFee_41 rfl (lv_at hl 0 rfl) ?_
            refine f_get (ci := 0) (fs := xobL X jj) (v := .int (X 16 jj)) hx hb hts hin0 hown hK (hW 2 jj _ hal) rfl 0 (by decide) (hts (.fieldLink RX0 15 "ReturnsDesk$Line" "price" "I") (List.mem_of_getElem? (i := 3) rfl)) (fun _ h9 => h9) rfl dX0_gradeFee_42 ?_
            refine lv_iconst (v := 5) hx hb dX0_gradeFee_45 (by decide) ?_
            refine lv_idiv hx hb dX0_gradeFee_46 (by decide) ?_
            exact r_ret hx hb hr hlocks (by unfold gfX gfX2; rw [if_neg c1, if_pos c9, if_pos c14, if_pos c21, if_neg c29] <;> rfl) dX0_gradeFee_47
          · skip
            refine lv_aload_n hx hb dX0_gradeFee_32 rfl (lv_at hl 0 rfl) ?_
            refine f_get (ci := 0) (fs := xobL X jj) (v := .int (X 16 jj)) hx hb hts hin0 hown hK (hW 2 jj _ hal) rfl 0 (by decide) (hts (.fieldLink RX0 15 "ReturnsDesk$Line" "price" "I") (List.mem_of_getElem? (i := 3) rfl)) (fun _ h9 => h9) rfl dX0_gradeFee_33 ?_
            refine lv_iconst (v := 2) hx hb dX0_gradeFee_36 (by decide) ?_
            refine lv_idiv hx hb dX0_gradeFee_37 (by decide) ?_
            refine lv_goto (tgt := 47) hx hb dX0_gradeFee_38 (by decide) ?_
            exact r_ret hx hb hr hlocks (by unfold gfX gfX2; rw [if_neg c1, if_pos c9, if_pos c14, if_pos c21, if_pos c29] <;> rfl) dX0_gradeFee_47
      · skip
        refine lv_iconst (v := 0) hx hb dX0_gradeFee_17 (by decide) ?_
        exact r_ret hx hb hr hlocks (by unfold gfX gfX2; rw [if_neg c1, if_pos c9, if_neg c14] <;> rfl) dX0_gradeFee_18
set_option maxHeartbeats 4000000 in
set_option maxRecDepth 100000 in
theorem kX0_feeFor (l : Launch) {D : va_G} {cI cO cL cJ : ClassId} (g : XG) (X : MS) (hz sz : Nat) (al jj : Nat) (hal : g 2 jj = some al) (w : Int32) : Met l yX0_feeFor wsX0_feeFor ({ frames := 1, cells := 0, slots := 0, locals := 21 } : Room) (xP D cI cO cL cJ g X hz sz [.ref al, .int w]) (vp_Si (fun r : Int32 => r = feeX X jj w)) 0 0 (fun _ => False) := by
  refine x_bodyM (cc := cX0_feeFor) (maxL := 3) (ret := some .int) (by decide) rfl [.ref al, .int w] (Nat.le_of_ble_eq_true rfl) ?_
  intro p e s m args below meth c hx hb hr hts hown hml hlocks hsz hW hK hE ls hl
  subst hsz
  have hown : s.vm.findClass RX0 = some m.cls := hown
  have hl : lv_has ls 3 [(0, .ref al), (1, .int w)] := hl
  have hin0 : ∀ w ∈ u_ws RX0 TX0 5, w ∈ wsX0_feeFor := (fun w h => List.mem_cons_of_mem _ (List.mem_append_right _ (h)))
  refine lv_aload_n hx hb dX0_feeFor_0 rfl (lv_at hl 0 rfl) ?_
  refine f_get (ci := 0) (fs := xobL X jj) (v := .int (X 19 jj)) hx hb hts hin0 hown hK (hW 2 jj _ hal) rfl 3 (by decide) (hts (.fieldLink RX0 21 "ReturnsDesk$Line" "reason" "I") (List.mem_of_getElem? (i := 1) rfl)) (fun _ h9 => h9) rfl dX0_feeFor_1 ?_
  refine lv_if_ne (tgt := 13) hx hb dX0_feeFor_4 (by decide) (fun c4 => ?_) (fun c4 => ?_)
  · skip
    refine lv_iconst (v := 0) hx hb dX0_feeFor_13 (by decide) ?_
    refine lv_istore_n (lv' := [(2, .int 0), (0, .ref al), (1, .int w)]) hx hb dX0_feeFor_14 rfl hl (by decide) rfl (fun ls hl => ?_)
    refine lv_iload_n hx hb dX0_feeFor_15 rfl (lv_at hl 0 rfl) ?_
    refine lv_aload_n hx hb dX0_feeFor_16 rfl (lv_at hl 1 rfl) ?_
    refine lv_iload_n hx hb dX0_feeFor_17 rfl (lv_at hl 2 rfl) ?_
    refine vp_callSi (va_runV (As := [.int w]) (rest := [.int 0]) (b := al) ⟨hx, hb, hml, hown, hts⟩ (kX0_gradeFee l g X hz _ al jj hal w) (cwV 1 hts gX0_feeFor_X0_gradeFee rfl rfl rfl (by decide +kernel) ⟨Nat.le_of_ble_eq_true rfl, Nat.le_of_ble_eq_true rfl⟩) (x_preV hW hK hE (x_recvL hK hW hal)) rfl rfl hl.1 rfl (lv_room (Nat.le_of_ble_eq_true rfl)) dX0_feeFor_18 ⟨Nat.le_of_ble_eq_true rfl, Nat.le_of_ble_eq_true rfl⟩).run (fun r hp => ?_)
    subst hp
    refine lv_iadd hx hb dX0_feeFor_21 ?_
    exact r_ret hx hb hr hlocks (by unfold feeX; rw [if_neg c4] <;> rfl) dX0_feeFor_22
  · skip
    refine lv_sipush (v := 500) hx hb dX0_feeFor_7 (by decide) ?_
    refine lv_goto (tgt := 14) hx hb dX0_feeFor_10 (by decide) ?_
    refine lv_istore_n (lv' := [(2, .int 500), (0, .ref al), (1, .int w)]) hx hb dX0_feeFor_14 rfl hl (by decide) rfl (fun ls hl => ?_)
    refine lv_iload_n hx hb dX0_feeFor_15 rfl (lv_at hl 0 rfl) ?_
    refine lv_aload_n hx hb dX0_feeFor_16 rfl (lv_at hl 1 rfl) ?_
    refine lv_iload_n hx hb dX0_feeFor_17 rfl (lv_at hl 2 rfl) ?_
    refine vp_callSi (va_runV (As := [.int w]) (rest := [.int 500]) (b := al) ⟨hx, hb, hml, hown, hts⟩ (kX0_gradeFee l g X hz _ al jj hal w) (cwV 1 hts gX0_feeFor_X0_gradeFee rfl rfl rfl (by decide +kernel) ⟨Nat.le_of_ble_eq_true rfl, Nat.le_of_ble_eq_true rfl⟩) (x_preV hW hK hE (x_recvL hK hW hal)) rfl rfl hl.1 rfl (lv_room (Nat.le_of_ble_eq_true rfl)) dX0_feeFor_18 ⟨Nat.le_of_ble_eq_true rfl, Nat.le_of_ble_eq_true rfl⟩).run (fun r hp => ?_)
    subst hp
    refine lv_iadd hx hb dX0_feeFor_21 ?_
    exact r_ret hx hb hr hlocks (by unfold feeX; rw [if_pos c4] <;> rfl) dX0_feeFor_22
set_option maxHeartbeats 4000000 in
set_option maxRecDepth 100000 in
theorem kX1_allTaken (l : Launch) {D : va_G} {cI cO cL cJ : ClassId} (g : XG) (X : MS) (hz sz : Nat) (ao la k : Nat) (ho : g 0 k = some ao) (hla : g 1 k = some la)  : Met l yX1_allTaken wsX1_allTaken ({ frames := 0, cells := 0, slots := 0, locals := 0 } : Room) (xP D cI cO cL cJ g X hz sz [.ref ao]) (vp_Si (fun r : Int32 => r = takenX X k)) 0 0 (fun _ => False) := by
  refine x_bodyM (cc := cX1_allTaken) (maxL := 1) (ret := some .int) (by decide) rfl [.ref ao] (Nat.le_of_ble_eq_true rfl) ?_
  intro p e s m args below meth c hx hb hr hts hown hml hlocks hsz hW hK hE ls hl
  subst hsz
  have hown : s.vm.findClass RX1 = some m.cls := hown
  have hl : lv_has ls 1 [(0, .ref ao)] := hl
  have hin1 : ∀ w ∈ u_ws RX1 TX1 12, w ∈ wsX1_allTaken := (fun w h => List.mem_cons_of_mem _ (List.mem_append_right _ (h)))
  refine lv_aload_n hx hb dX1_allTaken_0 rfl (lv_at hl 0 rfl) ?_
  refine f_get (ci := 1) (fs := xobO g X k) (v := .int (X 13 k)) hx hb hts hin1 hown hK (hW 0 k _ ho) rfl 9 (by decide) (hts (.fieldLink RX1 43 "ReturnsDesk$Order" "byCard" "I") (List.mem_of_getElem? (i := 1) rfl)) (fun _ h9 => h9) rfl dX1_allTaken_1 ?_
  refine lv_aload_n hx hb dX1_allTaken_4 rfl (lv_at hl 0 rfl) ?_
  refine f_get (ci := 1) (fs := xobO g X k) (v := .int (X 14 k)) hx hb hts hin1 hown hK (hW 0 k _ ho) rfl 10 (by decide) (hts (.fieldLink RX1 40 "ReturnsDesk$Order" "byVoucher" "I") (List.mem_of_getElem? (i := 2) rfl)) (fun _ h9 => h9) rfl dX1_allTaken_5 ?_
  refine lv_iadd hx hb dX1_allTaken_8 ?_
  refine lv_aload_n hx hb dX1_allTaken_9 rfl (lv_at hl 0 rfl) ?_
  refine f_get (ci := 1) (fs := xobO g X k) (v := .int (X 15 k)) hx hb hts hin1 hown hK (hW 0 k _ ho) rfl 11 (by decide) (hts (.fieldLink RX1 37 "ReturnsDesk$Order" "byPoints" "I") (List.mem_of_getElem? (i := 3) rfl)) (fun _ h9 => h9) rfl dX1_allTaken_10 ?_
  refine lv_iadd hx hb dX1_allTaken_13 ?_
  exact r_ret hx hb hr hlocks rfl dX1_allTaken_14
set_option maxHeartbeats 4000000 in
set_option maxRecDepth 100000 in
theorem kX1_hasRoom (l : Launch) {D : va_G} {cI cO cL cJ : ClassId} (g : XG) (X : MS) (hz sz : Nat) (ao la k : Nat) (ho : g 0 k = some ao) (hla : g 1 k = some la)  : Met l yX1_hasRoom wsX1_hasRoom ({ frames := 0, cells := 0, slots := 0, locals := 0 } : Room) (xP D cI cO cL cJ g X hz sz [.ref ao]) (vp_Si (fun r : Int32 => r = roomX X k)) 0 0 (fun _ => False) := by
  refine x_bodyM (cc := cX1_hasRoom) (maxL := 1) (ret := some .boolean) (by decide) rfl [.ref ao] (Nat.le_of_ble_eq_true rfl) ?_
  intro p e s m args below meth c hx hb hr hts hown hml hlocks hsz hW hK hE ls hl
  subst hsz
  have hown : s.vm.findClass RX1 = some m.cls := hown
  have hl : lv_has ls 1 [(0, .ref ao)] := hl
  have hin1 : ∀ w ∈ u_ws RX1 TX1 12, w ∈ wsX1_hasRoom := (fun w h => List.mem_cons_of_mem _ (List.mem_append_right _ (h)))
  refine lv_aload_n hx hb dX1_hasRoom_0 rfl (lv_at hl 0 rfl) ?_
  refine f_get (ci := 1) (fs := xobO g X k) (v := .int (X 7 k)) hx hb hts hin1 hown hK (hW 0 k _ ho) rfl 3 (by decide) (hts (.fieldLink RX1 24 "ReturnsDesk$Order" "lineCount" "I") (List.mem_of_getElem? (i := 1) rfl)) (fun _ h9 => h9) rfl dX1_hasRoom_1 ?_
  refine lv_aload_n hx hb dX1_hasRoom_4 rfl (lv_at hl 0 rfl) ?_
  refine f_get (ci := 1) (fs := xobO g X k) (v := .ref la) hx hb hts hin1 hown hK (hW 0 k _ ho) rfl 2 (by decide) (hts (.fieldLink RX1 11 "ReturnsDesk$Order" "lines" "[LReturnsDesk$Line;") (List.mem_of_getElem? (i := 2) rfl)) (fun _ h9 => h9) (congrArg (fun z => some (va_rf z)) hla) dX1_hasRoom_5 ?_
  refine f_alen (v := 8) hx hb hK 2 rfl (hW 1 k _ hla) rfl dX1_hasRoom_8 ?_
  refine lv_icmp_ge (tgt := 16) hx hb dX1_hasRoom_9 (by decide) (fun c9 => ?_) (fun c9 => ?_)
  · skip
    refine lv_iconst (v := 0) hx hb dX1_hasRoom_16 (by decide) ?_
    exact r_zret hx hb hr hlocks (by decide) (by unfold roomX; rw [if_pos c9] <;> rfl) dX1_hasRoom_17
  · skip
    refine lv_iconst (v := 1) hx hb dX1_hasRoom_12 (by decide) ?_
    refine lv_goto (tgt := 17) hx hb dX1_hasRoom_13 (by decide) ?_
    exact r_zret hx hb hr hlocks (by decide) (by unfold roomX; rw [if_neg c9] <;> rfl) dX1_hasRoom_17
set_option maxHeartbeats 4000000 in
set_option maxRecDepth 100000 in
theorem kX1_priceAnew (l : Launch) {D : va_G} {cI cO cL cJ : ClassId} (g : XG) (X : MS) (hz sz : Nat) (ao la k : Nat) (ho : g 0 k = some ao) (hla : g 1 k = some la) (kk : Nat) (hkk : kk ≤ 8) (hln : ∀ j, j < 8 → (g 2 (8 * k + j) = none ↔ kk ≤ j)) : Met l yX1_priceAnew wsX1_priceAnew ({ frames := 0, cells := 0, slots := 0, locals := 0 } : Room) (xP D cI cO cL cJ g X hz sz [.ref ao]) (vp_Si (fun r : Int32 => r = priceX X k kk)) 0 0 (fun _ => False) := by
  refine x_bodyM (cc := cX1_priceAnew) (maxL := 6) (ret := some .int) (by decide) rfl [.ref ao] (Nat.le_of_ble_eq_true rfl) ?_
  intro p e s m args below meth c hx hb hr hts hown hml hlocks hsz hW hK hE ls hl
  subst hsz
  have hown : s.vm.findClass RX1 = some m.cls := hown
  have hl : lv_has ls 6 [(0, .ref ao)] := hl
  have hin0 : ∀ w ∈ u_ws RX0 TX0 5, w ∈ wsX1_priceAnew := (fun w h => List.mem_cons_of_mem _ (List.mem_append_right _ (h)))
  have hin1 : ∀ w ∈ u_ws RX1 TX1 12, w ∈ wsX1_priceAnew := (fun w h => List.mem_cons_of_mem _ (List.mem_append_left _ (List.mem_append_right _ (h))))
  refine lv_iconst (v := 0) hx hb dX1_priceAnew_0 (by decide) ?_
  refine lv_istore_n (lv' := [(1, .int 0), (0, .ref ao)]) hx hb dX1_priceAnew_1 rfl hl (by decide) rfl (fun ls hl => ?_)
  refine lv_aload_n hx hb dX1_priceAnew_2 rfl (lv_at hl 1 rfl) ?_
  refine f_get (ci := 1) (fs := xobO g X k) (v := .ref la) hx hb hts hin1 hown hK (hW 0 k _ ho) rfl 2 (by decide) (hts (.fieldLink RX1 11 "ReturnsDesk$Order" "lines" "[LReturnsDesk$Line;") (List.mem_of_getElem? (i := 1) rfl)) (fun _ h9 => h9) (congrArg (fun z => some (va_rf z)) hla) dX1_priceAnew_3 ?_
  refine lv_astore_n (lv' := [(2, .ref la), (1, .int 0), (0, .ref ao)]) hx hb dX1_priceAnew_6 rfl hl (by decide) rfl (fun ls hl => ?_)
  refine lv_aload_n hx hb dX1_priceAnew_7 rfl (lv_at hl 0 rfl) ?_
  refine f_alen (v := 8) hx hb hK 2 rfl (hW 1 k _ hla) rfl dX1_priceAnew_8 ?_
  refine lv_istore_n (lv' := [(3, .int 8), (2, .ref la), (1, .int 0), (0, .ref ao)]) hx hb dX1_priceAnew_9 rfl hl (by decide) rfl (fun ls hl => ?_)
  refine lv_iconst (v := 0) hx hb dX1_priceAnew_10 (by decide) ?_
  refine lv_istore (lv' := [(4, .int 0), (3, .int 8), (2, .ref la), (1, .int 0), (0, .ref ao)]) hx hb dX1_priceAnew_11 hl (by decide) rfl (fun ls hl => ?_)
  have loop : ∀ (z i : Nat) (ls : Array Slot), i ≤ 8 → 8 - i < z → lv_has ls 6 [(4, .int (nI i)), (1, .int (sumX X k (min i kk))), (3, .int 8), (2, .ref la), (0, .ref ao)] → W p l e ({ frames := 0, cells := 0, slots := 0, locals := 0 } : Room) s m args below meth c s.heap [] 0 0 (MQ below (vp_Si (fun r : Int32 => r = priceX X k kk)) args s 0 0 (fun _ => False)) (F0 m 13 ls []) := by
    intro z
    induction z with
    | zero => intro i ls h1 h2; exact absurd h2 (by omega)
    | succ z ih =>
      intro i ls hi hz9 hl
      refine lv_iload hx hb dX1_priceAnew_13 (lv_at hl 0 rfl) ?_
      refine lv_iload_n hx hb dX1_priceAnew_15 rfl (lv_at hl 2 rfl) ?_
      refine lv_icmp_ge (tgt := 53) hx hb dX1_priceAnew_16 (by decide) (fun c16 => ?_) (fun c16 => ?_)
      · skip
        have hie : min i kk = kk := by
          rcases Nat.lt_or_ge i 8 with z | z
          · exact absurd c16 (nI_ge z (by decide))
          · omega
        rw [hie] at hl
        refine lv_iload_n hx hb dX1_priceAnew_53 rfl (lv_at hl 1 rfl) ?_
        refine lv_aload_n hx hb dX1_priceAnew_54 rfl (lv_at hl 4 rfl) ?_
        refine f_get (ci := 1) (fs := xobO g X k) (v := .int (X 6 k)) hx hb hts hin1 hown hK (hW 0 k _ ho) rfl 1 (by decide) (hts (.fieldLink RX1 21 "ReturnsDesk$Order" "least" "I") (List.mem_of_getElem? (i := 4) rfl)) (fun _ h9 => h9) rfl dX1_priceAnew_55 ?_
        refine lv_icmp_lt (tgt := 75) hx hb dX1_priceAnew_58 (by decide) (fun c58 => ?_) (fun c58 => ?_)
        · skip
          refine lv_iload_n hx hb dX1_priceAnew_75 rfl (lv_at hl 1 rfl) ?_
          exact r_ret hx hb hr hlocks (by unfold priceX; rw [if_pos c58] <;> rfl) dX1_priceAnew_76
        · skip
          refine lv_iload_n hx hb dX1_priceAnew_61 rfl (lv_at hl 1 rfl) ?_
          refine lv_iload_n hx hb dX1_priceAnew_62 rfl (lv_at hl 1 rfl) ?_
          refine lv_aload_n hx hb dX1_priceAnew_63 rfl (lv_at hl 4 rfl) ?_
          refine f_get (ci := 1) (fs := xobO g X k) (v := .int (X 5 k)) hx hb hts hin1 hown hK (hW 0 k _ ho) rfl 0 (by decide) (hts (.fieldLink RX1 17 "ReturnsDesk$Order" "percent" "I") (List.mem_of_getElem? (i := 5) rfl)) (fun _ h9 => h9) rfl dX1_priceAnew_64 ?_
          refine lv_imul hx hb dX1_priceAnew_67 ?_
          refine lv_bipush (v := 100) hx hb dX1_priceAnew_68 (by decide) ?_
          refine lv_idiv hx hb dX1_priceAnew_70 (by decide) ?_
          refine lv_isub hx hb dX1_priceAnew_71 ?_
          refine lv_goto (tgt := 76) hx hb dX1_priceAnew_72 (by decide) ?_
          exact r_ret hx hb hr hlocks (by unfold priceX; rw [if_neg c58] <;> rfl) dX1_priceAnew_76
      · skip
        have hi9 : i < 8 := Nat.not_le.mp (fun z => c16 (nI_le (a := 8) z (by omega)))
        refine lv_aload_n hx hb dX1_priceAnew_19 rfl (lv_at hl 3 rfl) ?_
        refine lv_iload hx hb dX1_priceAnew_20 (lv_at hl 0 rfl) ?_
        rcases hq22 : g 2 (8 * k + i) with _ | al
        · skip
          have hmn : min (i + 1) kk = min i kk := by have := (hln i hi9).mp hq22; omega
          refine f_aaldV (v := .null) hx hb hK 2 rfl (hW 1 k _ hla) rfl (show i < 8 by omega) (by decide) (congrArg va_rf hq22) dX1_priceAnew_22 ?_
          refine lv_astoreN (lv' := [(5, .null), (4, .int (nI i)), (1, .int (sumX X k (min i kk))), (3, .int 8), (2, .ref la), (0, .ref ao)]) hx hb dX1_priceAnew_23 hl (by decide) rfl (fun ls hl => ?_)
          refine lv_aloadN hx hb dX1_priceAnew_25 (lv_at hl 0 rfl) ?_
          refine lv_ifnullN (tgt := 47) hx hb dX1_priceAnew_27 (by decide) ?_
          refine lv_iinc (v := nI (i + 1)) (lv' := [(4, .int (nI (i + 1))), (5, .null), (1, .int (sumX X k (min i kk))), (3, .int 8), (2, .ref la), (0, .ref ao)]) hx hb dX1_priceAnew_47 hl (k := 1) rfl (nI_addx (a := i) (b := 1) rfl rfl) (by decide) rfl (fun ls hl => ?_)
          refine lv_goto (tgt := 13) hx hb dX1_priceAnew_50 (by decide) ?_
          have hse : sumX X k (min (i + 1) kk) = sumX X k (min i kk) := (by rw [hmn])
          exact ih (i + 1) ls (by omega) (by omega) (by rw [hse]; exact lv_sub hl [0, 2, 3, 4, 5] rfl)
        · skip
          have hik : i < kk := by rcases Nat.lt_or_ge i kk with z | z; exact z; exact absurd ((hln i hi9).mpr z) (by rw [hq22]; intro h; cases h)
          have hmi : min i kk = i := by omega
          have hmn : min (i + 1) kk = i + 1 := by omega
          refine f_aaldV (v := .ref al) hx hb hK 2 rfl (hW 1 k _ hla) rfl (show i < 8 by omega) (by decide) (congrArg va_rf hq22) dX1_priceAnew_22 ?_
          refine lv_astore (lv' := [(5, .ref al), (4, .int (nI i)), (1, .int (sumX X k (min i kk))), (3, .int 8), (2, .ref la), (0, .ref ao)]) hx hb dX1_priceAnew_23 hl (by decide) rfl (fun ls hl => ?_)
          refine lv_aload hx hb dX1_priceAnew_25 (lv_at hl 0 rfl) ?_
          refine lv_ifnull hx hb dX1_priceAnew_27 ?_
          refine lv_aload hx hb dX1_priceAnew_30 (lv_at hl 0 rfl) ?_
          refine f_get (ci := 0) (fs := xobL X (8 * k + i)) (v := .int (X 18 (8 * k + i))) hx hb hts hin0 hown hK (hW 2 (8 * k + i) _ hq22) rfl 2 (by decide) (hts (.fieldLink RX1 53 "ReturnsDesk$Line" "state" "I") (List.mem_of_getElem? (i := 2) rfl)) (fun _ h9 => h9) rfl dX1_priceAnew_32 ?_
          refine lv_iconst (v := 3) hx hb dX1_priceAnew_35 (by decide) ?_
          refine lv_icmp_eq (tgt := 47) hx hb dX1_priceAnew_36 (by decide) (fun c36 => ?_) (fun c36 => ?_)
          · skip
            refine lv_iinc (v := nI (i + 1)) (lv' := [(4, .int (nI (i + 1))), (5, .ref al), (1, .int (sumX X k (min i kk))), (3, .int 8), (2, .ref la), (0, .ref ao)]) hx hb dX1_priceAnew_47 hl (k := 1) rfl (nI_addx (a := i) (b := 1) rfl rfl) (by decide) rfl (fun ls hl => ?_)
            refine lv_goto (tgt := 13) hx hb dX1_priceAnew_50 (by decide) ?_
            have hse : sumX X k (min (i + 1) kk) = sumX X k (min i kk) := (by rw [hmn, hmi]; rw [sumX, if_pos c36])
            exact ih (i + 1) ls (by omega) (by omega) (by rw [hse]; exact lv_sub hl [0, 2, 3, 4, 5] rfl)
          · skip
            refine lv_iload_n hx hb dX1_priceAnew_39 rfl (lv_at hl 2 rfl) ?_
            refine lv_aload hx hb dX1_priceAnew_40 (lv_at hl 0 rfl) ?_
            refine f_get (ci := 0) (fs := xobL X (8 * k + i)) (v := .int (X 16 (8 * k + i))) hx hb hts hin0 hown hK (hW 2 (8 * k + i) _ hq22) rfl 0 (by decide) (hts (.fieldLink RX1 56 "ReturnsDesk$Line" "price" "I") (List.mem_of_getElem? (i := 3) rfl)) (fun _ h9 => h9) rfl dX1_priceAnew_42 ?_
            refine lv_iadd hx hb dX1_priceAnew_45 ?_
            refine lv_istore_n (lv' := [(1, .int ((sumX X k (min i kk)) + (X 16 (8 * k + i)))), (5, .ref al), (4, .int (nI i)), (3, .int 8), (2, .ref la), (0, .ref ao)]) hx hb dX1_priceAnew_46 rfl hl (by decide) rfl (fun ls hl => ?_)
            refine lv_iinc (v := nI (i + 1)) (lv' := [(4, .int (nI (i + 1))), (1, .int ((sumX X k (min i kk)) + (X 16 (8 * k + i)))), (5, .ref al), (3, .int 8), (2, .ref la), (0, .ref ao)]) hx hb dX1_priceAnew_47 hl (k := 2) rfl (nI_addx (a := i) (b := 1) rfl rfl) (by decide) rfl (fun ls hl => ?_)
            refine lv_goto (tgt := 13) hx hb dX1_priceAnew_50 (by decide) ?_
            have hse : sumX X k (min (i + 1) kk) = (sumX X k (min i kk)) + (X 16 (8 * k + i)) := (by rw [hmn, hmi]; rw [sumX, if_neg c36])
            exact ih (i + 1) ls (by omega) (by omega) (by rw [hse]; exact lv_sub hl [0, 1, 3, 4, 5] rfl)
  exact loop 9 0 ls (by decide) (by decide) (lv_sub hl [0, 3, 1, 2, 4] rfl)
set_option maxHeartbeats 4000000 in
set_option maxRecDepth 100000 in
theorem kX1_owed (l : Launch) {D : va_G} {cI cO cL cJ : ClassId} (g : XG) (X : MS) (hz sz : Nat) (ao la k : Nat) (ho : g 0 k = some ao) (hla : g 1 k = some la) (kk : Nat) (hkk : kk ≤ 8) (hln : ∀ j, j < 8 → (g 2 (8 * k + j) = none ↔ kk ≤ j)) : Met l yX1_owed wsX1_owed ({ frames := 1, cells := 0, slots := 0, locals := 25 } : Room) (xP D cI cO cL cJ g X hz sz [.ref ao]) (vp_Si (fun r : Int32 => r = owedX X k kk)) 0 0 (fun _ => False) := by
  refine x_bodyM (cc := cX1_owed) (maxL := 1) (ret := some .int) (by decide) rfl [.ref ao] (Nat.le_of_ble_eq_true rfl) ?_
  intro p e s m args below meth c hx hb hr hts hown hml hlocks hsz hW hK hE ls hl
  subst hsz
  have hown : s.vm.findClass RX1 = some m.cls := hown
  have hl : lv_has ls 1 [(0, .ref ao)] := hl
  have hin0 : ∀ w ∈ u_ws RX0 TX0 5, w ∈ wsX1_owed := (fun w h => List.mem_cons_of_mem _ (List.mem_append_right _ (h)))
  have hin1 : ∀ w ∈ u_ws RX1 TX1 12, w ∈ wsX1_owed := (fun w h => List.mem_cons_of_mem _ (List.mem_append_left _ (List.mem_append_right _ (h))))
  refine lv_aload_n hx hb dX1_owed_0 rfl (lv_at hl 0 rfl) ?_
  refine vp_callSi (va_runV (As := []) (rest := []) (b := ao) ⟨hx, hb, hml, hown, hts⟩ (kX1_priceAnew l g X hz _ ao la k ho hla kk hkk hln) (cwV 0 hts gX1_owed_X1_priceAnew rfl rfl rfl (by decide +kernel) ⟨Nat.le_of_ble_eq_true rfl, Nat.le_of_ble_eq_true rfl⟩) (x_preV hW hK hE (x_recvO hK hW ho)) rfl rfl hl.1 rfl (lv_room (Nat.le_of_ble_eq_true rfl)) dX1_owed_1 ⟨Nat.le_of_ble_eq_true rfl, Nat.le_of_ble_eq_true rfl⟩).run (fun r hp => ?_)
  subst hp
  refine lv_aload_n hx hb dX1_owed_4 rfl (lv_at hl 0 rfl) ?_
  refine f_get (ci := 1) (fs := xobO g X k) (v := .int (X 10 k)) hx hb hts hin1 hown hK (hW 0 k _ ho) rfl 6 (by decide) (hts (.fieldLink RX1 59 "ReturnsDesk$Order" "fees" "I") (List.mem_of_getElem? (i := 1) rfl)) (fun _ h9 => h9) rfl dX1_owed_5 ?_
  refine lv_iadd hx hb dX1_owed_8 ?_
  refine lv_aload_n hx hb dX1_owed_9 rfl (lv_at hl 0 rfl) ?_
  refine f_get (ci := 1) (fs := xobO g X k) (v := .int (X 11 k)) hx hb hts hin1 hown hK (hW 0 k _ ho) rfl 7 (by decide) (hts (.fieldLink RX1 62 "ReturnsDesk$Order" "charges" "I") (List.mem_of_getElem? (i := 2) rfl)) (fun _ h9 => h9) rfl dX1_owed_10 ?_
  refine lv_iadd hx hb dX1_owed_13 ?_
  exact r_ret hx hb hr hlocks rfl dX1_owed_14
set_option maxHeartbeats 4000000 in
set_option maxRecDepth 100000 in
theorem kX1_charge (l : Launch) {D : va_G} {cI cO cL cJ : ClassId} (g : XG) (X : MS) (hz sz : Nat) (hI : xI g) (hO : xO g hz sz) (ao la k : Nat) (ho : g 0 k = some ao) (hla : g 1 k = some la) (v : Int32) : Met l yX1_charge wsX1_charge ({ frames := 0, cells := 0, slots := 0, locals := 0 } : Room) (xP D cI cO cL cJ g X hz sz [.ref ao, .int v]) (xQv D cO cL g sz (fun X9 : MS => X9 = chX X k v)) 0 0 (xA g sz) := by
  refine x_bodyM (cc := cX1_charge) (maxL := 2) (ret := none) (by decide) rfl [.ref ao, .int v] (Nat.le_of_ble_eq_true rfl) ?_
  intro p e s m args below meth c hx hb hr hts hown hml hlocks hsz hW hK hE ls hl
  subst hsz
  have hown : s.vm.findClass RX1 = some m.cls := hown
  have hl : lv_has ls 2 [(0, .ref ao), (1, .int v)] := hl
  have hin1 : ∀ w ∈ u_ws RX1 TX1 12, w ∈ wsX1_charge := (fun w h => List.mem_cons_of_mem _ (List.mem_append_right _ (h)))
  have hS : va_S (xA g s.heap.size) s.heap s.heap [] := va_S.rf
  refine lv_aload_n hx hb dX1_charge_0 rfl (lv_at hl 0 rfl) ?_
  refine lv_dup hx hb dX1_charge_1 rfl ?_
  refine f_get (ci := 1) (fs := xobO g X k) (v := .int (X 11 k)) hx hb hts hin1 hown hK (hW 0 k _ ho) rfl 7 (by decide) (hts (.fieldLink RX1 62 "ReturnsDesk$Order" "charges" "I") (List.mem_of_getElem? (i := 1) rfl)) (fun _ h9 => h9) rfl dX1_charge_2 ?_
  refine lv_iload_n hx hb dX1_charge_5 rfl (lv_at hl 1 rfl) ?_
  refine lv_iadd hx hb dX1_charge_6 ?_
  refine x_putO hx hb hts hin1 hown hK hI hW hS ho (Or.inl ⟨0, k, ho⟩) 7 11 (by decide) (hts (.fieldLink RX1 62 "ReturnsDesk$Order" "charges" "I") (List.mem_of_getElem? (i := 1) rfl)) (fun _ h9 => h9) .int (tyX1_ok 7 (by decide)) rfl rfl dX1_charge_7 (fun H locs hW hz1 _ hS => ?_)
  refine lv_aload_n hx hb dX1_charge_10 rfl (lv_at hl 0 rfl) ?_
  refine lv_dup hx hb dX1_charge_11 rfl ?_
  refine f_get (ci := 1) (fs := xobO g (mu X 11 k ((X 11 k) + v)) k) (v := .int (X 13 k)) hx hb hts hin1 hown hK (hW 0 k _ ho) rfl 9 (by decide) (hts (.fieldLink RX1 43 "ReturnsDesk$Order" "byCard" "I") (List.mem_of_getElem? (i := 2) rfl)) (fun _ h9 => h9) (congrArg (fun z => some (Value.int z)) (mu_f _ _ _ _ (by decide))) dX1_charge_12 ?_
  refine lv_iload_n hx hb dX1_charge_15 rfl (lv_at hl 1 rfl) ?_
  refine lv_iadd hx hb dX1_charge_16 ?_
  refine x_putO hx hb hts hin1 hown hK hI hW hS ho (Or.inl ⟨0, k, ho⟩) 9 13 (by decide) (hts (.fieldLink RX1 43 "ReturnsDesk$Order" "byCard" "I") (List.mem_of_getElem? (i := 2) rfl)) (fun _ h9 => h9) .int (tyX1_ok 9 (by decide)) rfl rfl dX1_charge_17 (fun H locs hW hz1 _ hS => ?_)
  exact xw_vretM hx hb hr hlocks ⟨Nat.le_of_ble_eq_true rfl, Nat.le_of_ble_eq_true rfl⟩ hW hS rfl dX1_charge_20
set_option maxHeartbeats 4000000 in
set_option maxRecDepth 100000 in
theorem kX1_settle (l : Launch) {D : va_G} {cI cO cL cJ : ClassId} (g : XG) (X : MS) (hz sz : Nat) (hI : xI g) (hO : xO g hz sz) (ao la k : Nat) (ho : g 0 k = some ao) (hla : g 1 k = some la) (kk : Nat) (hkk : kk ≤ 8) (hln : ∀ j, j < 8 → (g 2 (8 * k + j) = none ↔ kk ≤ j)) (p1 p2 p3 : Int32) : Met l yX1_settle wsX1_settle ({ frames := 1, cells := 0, slots := 0, locals := 25 } : Room) (xP D cI cO cL cJ g X hz sz [.ref ao, .int p1, .int p2, .int p3]) (xQv D cO cL g sz (fun X9 : MS => X9 = settleX X k kk p1 p2 p3)) 0 0 (xA g sz) := by
  refine x_bodyM (cc := cX1_settle) (maxL := 5) (ret := none) (by decide) rfl [.ref ao, .int p1, .int p2, .int p3] (Nat.le_of_ble_eq_true rfl) ?_
  intro p e s m args below meth c hx hb hr hts hown hml hlocks hsz hW hK hE ls hl
  subst hsz
  have hown : s.vm.findClass RX1 = some m.cls := hown
  have hl : lv_has ls 5 [(0, .ref ao), (1, .int p1), (2, .int p2), (3, .int p3)] := hl
  have hin0 : ∀ w ∈ u_ws RX0 TX0 5, w ∈ wsX1_settle := (fun w h => List.mem_cons_of_mem _ (List.mem_append_right _ (h)))
  have hin1 : ∀ w ∈ u_ws RX1 TX1 12, w ∈ wsX1_settle := (fun w h => List.mem_cons_of_mem _ (List.mem_append_left _ (List.mem_append_right _ (h))))
  have hS : va_S (xA g s.heap.size) s.heap s.heap [] := va_S.rf
  refine lv_aload_n hx hb dX1_settle_0 rfl (lv_at hl 0 rfl) ?_
  refine vp_callSi (va_runV (As := []) (rest := []) (b := ao) ⟨hx, hb, hml, hown, hts⟩ (kX1_priceAnew l g X hz _ ao la k ho hla kk hkk hln) (cwV 0 hts gX1_settle_X1_priceAnew rfl rfl rfl (by decide +kernel) ⟨Nat.le_of_ble_eq_true rfl, Nat.le_of_ble_eq_true rfl⟩) (x_preV hW hK hE (x_recvO hK hW ho)) rfl rfl hl.1 rfl (lv_room (Nat.le_of_ble_eq_true rfl)) dX1_settle_1 ⟨Nat.le_of_ble_eq_true rfl, Nat.le_of_ble_eq_true rfl⟩).run (fun r hp => ?_)
  subst hp
  refine lv_istore (lv' := [(4, .int (priceX X k kk)), (0, .ref ao), (1, .int p1), (2, .int p2), (3, .int p3)]) hx hb dX1_settle_4 hl (by decide) rfl (fun ls hl => ?_)
  refine lv_aload_n hx hb dX1_settle_6 rfl (lv_at hl 1 rfl) ?_
  refine lv_iload_n hx hb dX1_settle_7 rfl (lv_at hl 2 rfl) ?_
  refine lv_iload hx hb dX1_settle_8 (lv_at hl 0 rfl) ?_
  refine va_mmin hx hb (hml.trans hl.1.symm) hown (hts (.methodLink RX1 31 Lib.Math.min.name) (List.mem_of_getElem? (i := 1) rfl)) (hts (.static Lib.Math.min.name) (List.mem_of_getElem? (i := 2) rfl)) (hts (.initialized "java/lang/Math") (List.mem_of_getElem? (i := 3) rfl)) (hts (.code Lib.Math.min.name Lib.Math.min.code 2 (some .int)) (List.mem_of_getElem? (i := 4) rfl)) (Nat.le_of_ble_eq_true rfl) (Nat.le_of_ble_eq_true rfl) (Nat.zero_le _) (Nat.zero_le _) dX1_settle_10 ?_
  refine cv (y := minI p1 (priceX X k kk)) rfl ?_
  refine x_putO hx hb hts hin1 hown hK hI hW hS ho (Or.inl ⟨0, k, ho⟩) 11 15 (by decide) (hts (.fieldLink RX1 37 "ReturnsDesk$Order" "byPoints" "I") (List.mem_of_getElem? (i := 5) rfl)) (fun _ h9 => h9) .int (tyX1_ok 11 (by decide)) rfl rfl dX1_settle_13 (fun H locs hW hz1 _ hS => ?_)
  refine lv_aload_n hx hb dX1_settle_16 rfl (lv_at hl 1 rfl) ?_
  refine lv_iload_n hx hb dX1_settle_17 rfl (lv_at hl 3 rfl) ?_
  refine lv_iload hx hb dX1_settle_18 (lv_at hl 0 rfl) ?_
  refine lv_aload_n hx hb dX1_settle_20 rfl (lv_at hl 1 rfl) ?_
  refine f_get (ci := 1) (fs := xobO g (mu X 15 k (minI p1 (priceX X k kk))) k) (v := .int (minI p1 (priceX X k kk))) hx hb hts hin1 hown hK (hW 0 k _ ho) rfl 11 (by decide) (hts (.fieldLink RX1 37 "ReturnsDesk$Order" "byPoints" "I") (List.mem_of_getElem? (i := 5) rfl)) (fun _ h9 => h9) (congrArg (fun z => some (Value.int z)) (mu_s _ _ _ _)) dX1_settle_21 ?_
  refine lv_isub hx hb dX1_settle_24 ?_
  refine va_mmin hx hb (hml.trans hl.1.symm) hown (hts (.methodLink RX1 31 Lib.Math.min.name) (List.mem_of_getElem? (i := 1) rfl)) (hts (.static Lib.Math.min.name) (List.mem_of_getElem? (i := 2) rfl)) (hts (.initialized "java/lang/Math") (List.mem_of_getElem? (i := 3) rfl)) (hts (.code Lib.Math.min.name Lib.Math.min.code 2 (some .int)) (List.mem_of_getElem? (i := 4) rfl)) (Nat.le_of_ble_eq_true rfl) (Nat.le_of_ble_eq_true rfl) (Nat.zero_le _) (Nat.zero_le _) dX1_settle_25 ?_
  refine cv (y := minI p2 ((priceX X k kk) - (minI p1 (priceX X k kk)))) rfl ?_
  refine x_putO hx hb hts hin1 hown hK hI hW hS ho (Or.inl ⟨0, k, ho⟩) 10 14 (by decide) (hts (.fieldLink RX1 40 "ReturnsDesk$Order" "byVoucher" "I") (List.mem_of_getElem? (i := 6) rfl)) (fun _ h9 => h9) .int (tyX1_ok 10 (by decide)) rfl rfl dX1_settle_28 (fun H locs hW hz1 _ hS => ?_)
  refine lv_aload_n hx hb dX1_settle_31 rfl (lv_at hl 1 rfl) ?_
  refine lv_iload hx hb dX1_settle_32 (lv_at hl 0 rfl) ?_
  refine lv_aload_n hx hb dX1_settle_34 rfl (lv_at hl 1 rfl) ?_
  refine f_get (ci := 1) (fs := xobO g (mu (mu X 15 k (minI p1 (priceX X k kk))) 14 k (minI p2 ((priceX X k kk) - (minI p1 (priceX X k kk))))) k) (v := .int (minI p1 (priceX X k kk))) hx hb hts hin1 hown hK (hW 0 k _ ho) rfl 11 (by decide) (hts (.fieldLink RX1 37 "ReturnsDesk$Order" "byPoints" "I") (List.mem_of_getElem? (i := 5) rfl)) (fun _ h9 => h9) (congrArg (fun z => some (Value.int z)) ((mu_f _ _ _ _ (by decide)).trans (mu_s _ _ _ _))) dX1_settle_35 ?_
  refine lv_isub hx hb dX1_settle_38 ?_
  refine lv_aload_n hx hb dX1_settle_39 rfl (lv_at hl 1 rfl) ?_
  refine f_get (ci := 1) (fs := xobO g (mu (mu X 15 k (minI p1 (priceX X k kk))) 14 k (minI p2 ((priceX X k kk) - (minI p1 (priceX X k kk))))) k) (v := .int (minI p2 ((priceX X k kk) - (minI p1 (priceX X k kk))))) hx hb hts hin1 hown hK (hW 0 k _ ho) rfl 10 (by decide) (hts (.fieldLink RX1 40 "ReturnsDesk$Order" "byVoucher" "I") (List.mem_of_getElem? (i := 6) rfl)) (fun _ h9 => h9) (congrArg (fun z => some (Value.int z)) (mu_s _ _ _ _)) dX1_settle_40 ?_
  refine lv_isub hx hb dX1_settle_43 ?_
  refine x_putO hx hb hts hin1 hown hK hI hW hS ho (Or.inl ⟨0, k, ho⟩) 9 13 (by decide) (hts (.fieldLink RX1 43 "ReturnsDesk$Order" "byCard" "I") (List.mem_of_getElem? (i := 7) rfl)) (fun _ h9 => h9) .int (tyX1_ok 9 (by decide)) rfl rfl dX1_settle_44 (fun H locs hW hz1 _ hS => ?_)
  refine lv_aload_n hx hb dX1_settle_47 rfl (lv_at hl 1 rfl) ?_
  refine lv_iconst (v := 1) hx hb dX1_settle_48 (by decide) ?_
  refine x_putO hx hb hts hin1 hown hK hI hW hS ho (Or.inl ⟨0, k, ho⟩) 4 8 (by decide) (hts (.fieldLink RX1 46 "ReturnsDesk$Order" "isPaid" "Z") (List.mem_of_getElem? (i := 8) rfl)) (fun _ h9 => h9) .boolean (tyX1_ok 4 (by decide)) rfl rfl dX1_settle_49 (fun H locs hW hz1 _ hS => ?_)
  refine lv_aload_n hx hb dX1_settle_52 rfl (lv_at hl 1 rfl) ?_
  refine lv_iload_n hx hb dX1_settle_53 rfl (lv_at hl 4 rfl) ?_
  refine x_putO hx hb hts hin1 hown hK hI hW hS ho (Or.inl ⟨0, k, ho⟩) 5 9 (by decide) (hts (.fieldLink RX1 50 "ReturnsDesk$Order" "paidOn" "I") (List.mem_of_getElem? (i := 9) rfl)) (fun _ h9 => h9) .int (tyX1_ok 5 (by decide)) rfl rfl dX1_settle_54 (fun H locs hW hz1 _ hS => ?_)
  exact xw_vretM hx hb hr hlocks ⟨Nat.le_of_ble_eq_true rfl, Nat.le_of_ble_eq_true rfl⟩ hW hS rfl dX1_settle_57
set_option maxHeartbeats 4000000 in
set_option maxRecDepth 100000 in
theorem kX1_refundSurplus (l : Launch) {D : va_G} {cI cO cL cJ : ClassId} (g : XG) (X : MS) (hz sz : Nat) (hI : xI g) (hO : xO g hz sz) (ao la k : Nat) (ho : g 0 k = some ao) (hla : g 1 k = some la) (kk : Nat) (hkk : kk ≤ 8) (hln : ∀ j, j < 8 → (g 2 (8 * k + j) = none ↔ kk ≤ j)) : Met l yX1_refundSurplus wsX1_refundSurplus ({ frames := 2, cells := 0, slots := 0, locals := 45 } : Room) (xP D cI cO cL cJ g X hz sz [.ref ao]) (xQi D cO cL g sz (fun (r : Int32) (X9 : MS) => (r, X9) = refundX X k kk)) 0 0 (xA g sz) := by
  refine x_bodyM (cc := cX1_refundSurplus) (maxL := 4) (ret := some .int) (by decide) rfl [.ref ao] (Nat.le_of_ble_eq_true rfl) ?_
  intro p e s m args below meth c hx hb hr hts hown hml hlocks hsz hW hK hE ls hl
  subst hsz
  have hown : s.vm.findClass RX1 = some m.cls := hown
  have hl : lv_has ls 4 [(0, .ref ao)] := hl
  have hin0 : ∀ w ∈ u_ws RX0 TX0 5, w ∈ wsX1_refundSurplus := (fun w h => List.mem_cons_of_mem _ (List.mem_append_right _ (h)))
  have hin1 : ∀ w ∈ u_ws RX1 TX1 12, w ∈ wsX1_refundSurplus := (fun w h => List.mem_cons_of_mem _ (List.mem_append_left _ (List.mem_append_right _ (h))))
  have hS : va_S (xA g s.heap.size) s.heap s.heap [] := va_S.rf
  refine lv_aload_n hx hb dX1_refundSurplus_0 rfl (lv_at hl 0 rfl) ?_
  refine vp_callSi (va_runV (As := []) (rest := []) (b := ao) ⟨hx, hb, hml, hown, hts⟩ (kX1_allTaken l g X hz _ ao la k ho hla) (cwV 0 hts gX1_refundSurplus_X1_allTaken rfl rfl rfl (by decide +kernel) ⟨Nat.le_of_ble_eq_true rfl, Nat.le_of_ble_eq_true rfl⟩) (x_preV hW hK hE (x_recvO hK hW ho)) rfl rfl hl.1 rfl (lv_room (Nat.le_of_ble_eq_true rfl)) dX1_refundSurplus_1 ⟨Nat.le_of_ble_eq_true rfl, Nat.le_of_ble_eq_true rfl⟩).run (fun r hp => ?_)
  subst hp
  refine lv_aload_n hx hb dX1_refundSurplus_4 rfl (lv_at hl 0 rfl) ?_
  refine vp_callSi (va_runV (As := []) (rest := [.int (takenX X k)]) (b := ao) ⟨hx, hb, hml, hown, hts⟩ (kX1_owed l g X hz _ ao la k ho hla kk hkk hln) (cwV 0 hts gX1_refundSurplus_X1_owed rfl rfl rfl (by decide +kernel) ⟨Nat.le_of_ble_eq_true rfl, Nat.le_of_ble_eq_true rfl⟩) (x_preV hW hK hE (x_recvO hK hW ho)) rfl rfl hl.1 rfl (lv_room (Nat.le_of_ble_eq_true rfl)) dX1_refundSurplus_5 ⟨Nat.le_of_ble_eq_true rfl, Nat.le_of_ble_eq_true rfl⟩).run (fun r hp => ?_)
  subst hp
  refine lv_isub hx hb dX1_refundSurplus_8 ?_
  refine lv_iconst (v := 0) hx hb dX1_refundSurplus_9 (by decide) ?_
  refine va_mmax hx hb (hml.trans hl.1.symm) hown (hts (.methodLink RX1 71 Lib.Math.max.name) (List.mem_of_getElem? (i := 1) rfl)) (hts (.static Lib.Math.max.name) (List.mem_of_getElem? (i := 2) rfl)) (hts (.initialized "java/lang/Math") (List.mem_of_getElem? (i := 3) rfl)) (hts (.code Lib.Math.max.name Lib.Math.max.code 2 (some .int)) (List.mem_of_getElem? (i := 4) rfl)) (Nat.le_of_ble_eq_true rfl) (Nat.le_of_ble_eq_true rfl) (Nat.zero_le _) (Nat.zero_le _) dX1_refundSurplus_10 ?_
  refine cv (y := maxI ((takenX X k) - (owedX X k kk)) 0) rfl ?_
  refine lv_istore_n (lv' := [(1, .int (maxI ((takenX X k) - (owedX X k kk)) 0)), (0, .ref ao)]) hx hb dX1_refundSurplus_13 rfl hl (by decide) rfl (fun ls hl => ?_)
  refine lv_iload_n hx hb dX1_refundSurplus_14 rfl (lv_at hl 0 rfl) ?_
  refine lv_aload_n hx hb dX1_refundSurplus_15 rfl (lv_at hl 1 rfl) ?_
  refine f_get (ci := 1) (fs := xobO g X k) (v := .int (X 13 k)) hx hb hts hin1 hown hK (hW 0 k _ ho) rfl 9 (by decide) (hts (.fieldLink RX1 43 "ReturnsDesk$Order" "byCard" "I") (List.mem_of_getElem? (i := 5) rfl)) (fun _ h9 => h9) rfl dX1_refundSurplus_16 ?_
  refine va_mmin hx hb (hml.trans hl.1.symm) hown (hts (.methodLink RX1 31 Lib.Math.min.name) (List.mem_of_getElem? (i := 6) rfl)) (hts (.static Lib.Math.min.name) (List.mem_of_getElem? (i := 7) rfl)) (hts (.initialized "java/lang/Math") (List.mem_of_getElem? (i := 3) rfl)) (hts (.code Lib.Math.min.name Lib.Math.min.code 2 (some .int)) (List.mem_of_getElem? (i := 8) rfl)) (Nat.le_of_ble_eq_true rfl) (Nat.le_of_ble_eq_true rfl) (Nat.zero_le _) (Nat.zero_le _) dX1_refundSurplus_19 ?_
  refine cv (y := minI (maxI ((takenX X k) - (owedX X k kk)) 0) (X 13 k)) rfl ?_
  refine lv_istore_n (lv' := [(2, .int (minI (maxI ((takenX X k) - (owedX X k kk)) 0) (X 13 k))), (1, .int (maxI ((takenX X k) - (owedX X k kk)) 0)), (0, .ref ao)]) hx hb dX1_refundSurplus_22 rfl hl (by decide) rfl (fun ls hl => ?_)
  refine lv_iload_n hx hb dX1_refundSurplus_23 rfl (lv_at hl 1 rfl) ?_
  refine lv_iload_n hx hb dX1_refundSurplus_24 rfl (lv_at hl 0 rfl) ?_
  refine lv_isub hx hb dX1_refundSurplus_25 ?_
  refine lv_aload_n hx hb dX1_refundSurplus_26 rfl (lv_at hl 2 rfl) ?_
  refine f_get (ci := 1) (fs := xobO g X k) (v := .int (X 14 k)) hx hb hts hin1 hown hK (hW 0 k _ ho) rfl 10 (by decide) (hts (.fieldLink RX1 40 "ReturnsDesk$Order" "byVoucher" "I") (List.mem_of_getElem? (i := 9) rfl)) (fun _ h9 => h9) rfl dX1_refundSurplus_27 ?_
  refine va_mmin hx hb (hml.trans hl.1.symm) hown (hts (.methodLink RX1 31 Lib.Math.min.name) (List.mem_of_getElem? (i := 6) rfl)) (hts (.static Lib.Math.min.name) (List.mem_of_getElem? (i := 7) rfl)) (hts (.initialized "java/lang/Math") (List.mem_of_getElem? (i := 3) rfl)) (hts (.code Lib.Math.min.name Lib.Math.min.code 2 (some .int)) (List.mem_of_getElem? (i := 8) rfl)) (Nat.le_of_ble_eq_true rfl) (Nat.le_of_ble_eq_true rfl) (Nat.zero_le _) (Nat.zero_le _) dX1_refundSurplus_30 ?_
  refine cv (y := minI ((maxI ((takenX X k) - (owedX X k kk)) 0) - (minI (maxI ((takenX X k) - (owedX X k kk)) 0) (X 13 k))) (X 14 k)) rfl ?_
  refine lv_istore_n (lv' := [(3, .int (minI ((maxI ((takenX X k) - (owedX X k kk)) 0) - (minI (maxI ((takenX X k) - (owedX X k kk)) 0) (X 13 k))) (X 14 k))), (2, .int (minI (maxI ((takenX X k) - (owedX X k kk)) 0) (X 13 k))), (1, .int (maxI ((takenX X k) - (owedX X k kk)) 0)), (0, .ref ao)]) hx hb dX1_refundSurplus_33 rfl hl (by decide) rfl (fun ls hl => ?_)
  refine lv_aload_n hx hb dX1_refundSurplus_34 rfl (lv_at hl 3 rfl) ?_
  refine lv_dup hx hb dX1_refundSurplus_35 rfl ?_
  refine f_get (ci := 1) (fs := xobO g X k) (v := .int (X 13 k)) hx hb hts hin1 hown hK (hW 0 k _ ho) rfl 9 (by decide) (hts (.fieldLink RX1 43 "ReturnsDesk$Order" "byCard" "I") (List.mem_of_getElem? (i := 5) rfl)) (fun _ h9 => h9) rfl dX1_refundSurplus_36 ?_
  refine lv_iload_n hx hb dX1_refundSurplus_39 rfl (lv_at hl 1 rfl) ?_
  refine lv_isub hx hb dX1_refundSurplus_40 ?_
  refine x_putO hx hb hts hin1 hown hK hI hW hS ho (Or.inl ⟨0, k, ho⟩) 9 13 (by decide) (hts (.fieldLink RX1 43 "ReturnsDesk$Order" "byCard" "I") (List.mem_of_getElem? (i := 5) rfl)) (fun _ h9 => h9) .int (tyX1_ok 9 (by decide)) rfl rfl dX1_refundSurplus_41 (fun H locs hW hz1 _ hS => ?_)
  refine lv_aload_n hx hb dX1_refundSurplus_44 rfl (lv_at hl 3 rfl) ?_
  refine lv_dup hx hb dX1_refundSurplus_45 rfl ?_
  refine f_get (ci := 1) (fs := xobO g (mu X 13 k ((X 13 k) - (minI (maxI ((takenX X k) - (owedX X k kk)) 0) (X 13 k)))) k) (v := .int (X 14 k)) hx hb hts hin1 hown hK (hW 0 k _ ho) rfl 10 (by decide) (hts (.fieldLink RX1 40 "ReturnsDesk$Order" "byVoucher" "I") (List.mem_of_getElem? (i := 9) rfl)) (fun _ h9 => h9) (congrArg (fun z => some (Value.int z)) (mu_f _ _ _ _ (by decide))) dX1_refundSurplus_46 ?_
  refine lv_iload_n hx hb dX1_refundSurplus_49 rfl (lv_at hl 0 rfl) ?_
  refine lv_isub hx hb dX1_refundSurplus_50 ?_
  refine x_putO hx hb hts hin1 hown hK hI hW hS ho (Or.inl ⟨0, k, ho⟩) 10 14 (by decide) (hts (.fieldLink RX1 40 "ReturnsDesk$Order" "byVoucher" "I") (List.mem_of_getElem? (i := 9) rfl)) (fun _ h9 => h9) .int (tyX1_ok 10 (by decide)) rfl rfl dX1_refundSurplus_51 (fun H locs hW hz1 _ hS => ?_)
  refine lv_aload_n hx hb dX1_refundSurplus_54 rfl (lv_at hl 3 rfl) ?_
  refine lv_dup hx hb dX1_refundSurplus_55 rfl ?_
  refine f_get (ci := 1) (fs := xobO g (mu (mu X 13 k ((X 13 k) - (minI (maxI ((takenX X k) - (owedX X k kk)) 0) (X 13 k)))) 14 k ((X 14 k) - (minI ((maxI ((takenX X k) - (owedX X k kk)) 0) - (minI (maxI ((takenX X k) - (owedX X k kk)) 0) (X 13 k))) (X 14 k)))) k) (v := .int (X 15 k)) hx hb hts hin1 hown hK (hW 0 k _ ho) rfl 11 (by decide) (hts (.fieldLink RX1 37 "ReturnsDesk$Order" "byPoints" "I") (List.mem_of_getElem? (i := 10) rfl)) (fun _ h9 => h9) (congrArg (fun z => some (Value.int z)) ((mu_f _ _ _ _ (by decide)).trans (mu_f _ _ _ _ (by decide)))) dX1_refundSurplus_56 ?_
  refine lv_iload_n hx hb dX1_refundSurplus_59 rfl (lv_at hl 2 rfl) ?_
  refine lv_iload_n hx hb dX1_refundSurplus_60 rfl (lv_at hl 1 rfl) ?_
  refine lv_isub hx hb dX1_refundSurplus_61 ?_
  refine lv_iload_n hx hb dX1_refundSurplus_62 rfl (lv_at hl 0 rfl) ?_
  refine lv_isub hx hb dX1_refundSurplus_63 ?_
  refine lv_isub hx hb dX1_refundSurplus_64 ?_
  refine x_putO hx hb hts hin1 hown hK hI hW hS ho (Or.inl ⟨0, k, ho⟩) 11 15 (by decide) (hts (.fieldLink RX1 37 "ReturnsDesk$Order" "byPoints" "I") (List.mem_of_getElem? (i := 10) rfl)) (fun _ h9 => h9) .int (tyX1_ok 11 (by decide)) rfl rfl dX1_refundSurplus_65 (fun H locs hW hz1 _ hS => ?_)
  refine lv_aload_n hx hb dX1_refundSurplus_68 rfl (lv_at hl 3 rfl) ?_
  refine lv_dup hx hb dX1_refundSurplus_69 rfl ?_
  refine f_get (ci := 1) (fs := xobO g (mu (mu (mu X 13 k ((X 13 k) - (minI (maxI ((takenX X k) - (owedX X k kk)) 0) (X 13 k)))) 14 k ((X 14 k) - (minI ((maxI ((takenX X k) - (owedX X k kk)) 0) - (minI (maxI ((takenX X k) - (owedX X k kk)) 0) (X 13 k))) (X 14 k)))) 15 k ((X 15 k) - (((maxI ((takenX X k) - (owedX X k kk)) 0) - (minI (maxI ((takenX X k) - (owedX X k kk)) 0) (X 13 k))) - (minI ((maxI ((takenX X k) - (owedX X k kk)) 0) - (minI (maxI ((takenX X k) - (owedX X k kk)) 0) (X 13 k))) (X 14 k))))) k) (v := .int (X 12 k)) hx hb hts hin1 hown hK (hW 0 k _ ho) rfl 8 (by decide) (hts (.fieldLink RX1 74 "ReturnsDesk$Order" "refunded" "I") (List.mem_of_getElem? (i := 11) rfl)) (fun _ h9 => h9) (congrArg (fun z => some (Value.int z)) ((mu_f _ _ _ _ (by decide)).trans ((mu_f _ _ _ _ (by decide)).trans (mu_f _ _ _ _ (by decide))))) dX1_refundSurplus_70 ?_
  refine lv_iload_n hx hb dX1_refundSurplus_73 rfl (lv_at hl 2 rfl) ?_
  refine lv_iadd hx hb dX1_refundSurplus_74 ?_
  refine x_putO hx hb hts hin1 hown hK hI hW hS ho (Or.inl ⟨0, k, ho⟩) 8 12 (by decide) (hts (.fieldLink RX1 74 "ReturnsDesk$Order" "refunded" "I") (List.mem_of_getElem? (i := 11) rfl)) (fun _ h9 => h9) .int (tyX1_ok 8 (by decide)) rfl rfl dX1_refundSurplus_75 (fun H locs hW hz1 _ hS => ?_)
  refine lv_iload_n hx hb dX1_refundSurplus_78 rfl (lv_at hl 2 rfl) ?_
  exact xw_retM hx hb hr hlocks ⟨Nat.le_of_ble_eq_true rfl, Nat.le_of_ble_eq_true rfl⟩ hW hS rfl dX1_refundSurplus_79
set_option maxHeartbeats 4000000 in
set_option maxRecDepth 100000 in
theorem kX1_endWaits (l : Launch) {D : va_G} {cI cO cL cJ : ClassId} (g : XG) (X : MS) (hz sz : Nat) (hI : xI g) (hO : xO g hz sz) (ao la k : Nat) (ho : g 0 k = some ao) (hla : g 1 k = some la) (kk : Nat) (hkk : kk ≤ 8) (hln : ∀ j, j < 8 → (g 2 (8 * k + j) = none ↔ kk ≤ j)) (p1 : Int32) : Met l yX1_endWaits wsX1_endWaits ({ frames := 1, cells := 0, slots := 0, locals := 21 } : Room) (xP D cI cO cL cJ g X hz sz [.ref ao, .int p1]) (xQi D cO cL g sz (fun (r : Int32) (X9 : MS) => (r, X9) = wIt X k p1 kk)) 0 0 (xA g sz) := by
  refine x_bodyM (cc := cX1_endWaits) (maxL := 7) (ret := some .int) (by decide) rfl [.ref ao, .int p1] (Nat.le_of_ble_eq_true rfl) ?_
  intro p e s m args below meth c hx hb hr hts hown hml hlocks hsz hW hK hE ls hl
  subst hsz
  have hown : s.vm.findClass RX1 = some m.cls := hown
  have hl : lv_has ls 7 [(0, .ref ao), (1, .int p1)] := hl
  have hin0 : ∀ w ∈ u_ws RX0 TX0 5, w ∈ wsX1_endWaits := (fun w h => List.mem_cons_of_mem _ (List.mem_append_right _ (h)))
  have hin1 : ∀ w ∈ u_ws RX1 TX1 12, w ∈ wsX1_endWaits := (fun w h => List.mem_cons_of_mem _ (List.mem_append_left _ (List.mem_append_right _ (h))))
  have hS : va_S (xA g s.heap.size) s.heap s.heap [] := va_S.rf
  refine lv_iconst (v := 0) hx hb dX1_endWaits_0 (by decide) ?_
  refine lv_istore_n (lv' := [(2, .int 0), (0, .ref ao), (1, .int p1)]) hx hb dX1_endWaits_1 rfl hl (by decide) rfl (fun ls hl => ?_)
  refine lv_aload_n hx hb dX1_endWaits_2 rfl (lv_at hl 1 rfl) ?_
  refine f_get (ci := 1) (fs := xobO g X k) (v := .ref la) hx hb hts hin1 hown hK (hW 0 k _ ho) rfl 2 (by decide) (hts (.fieldLink RX1 11 "ReturnsDesk$Order" "lines" "[LReturnsDesk$Line;") (List.mem_of_getElem? (i := 1) rfl)) (fun _ h9 => h9) (congrArg (fun z => some (va_rf z)) hla) dX1_endWaits_3 ?_
  refine lv_astore_n (lv' := [(3, .ref la), (2, .int 0), (0, .ref ao), (1, .int p1)]) hx hb dX1_endWaits_6 rfl hl (by decide) rfl (fun ls hl => ?_)
  refine lv_aload_n hx hb dX1_endWaits_7 rfl (lv_at hl 0 rfl) ?_
  refine f_alen (v := 8) hx hb hK 2 rfl (hW 1 k _ hla) rfl dX1_endWaits_8 ?_
  refine lv_istore (lv' := [(4, .int 8), (3, .ref la), (2, .int 0), (0, .ref ao), (1, .int p1)]) hx hb dX1_endWaits_9 hl (by decide) rfl (fun ls hl => ?_)
  refine lv_iconst (v := 0) hx hb dX1_endWaits_11 (by decide) ?_
  refine lv_istore (lv' := [(5, .int 0), (4, .int 8), (3, .ref la), (2, .int 0), (0, .ref ao), (1, .int p1)]) hx hb dX1_endWaits_12 hl (by decide) rfl (fun ls hl => ?_)
  have loop : ∀ (z i : Nat) (B : Int32 × MS) (H : Heap) (locs : List Loc) (ls : Array Slot), B = wIt X k p1 (min i kk) → i ≤ 8 → 8 - i < z → xW D cO cL g B.2 H → va_S (xA g s.heap.size) s.heap H locs → lv_has ls 7 [(5, .int (nI i)), (2, .int B.1), (4, .int 8), (3, .ref la), (0, .ref ao), (1, .int p1)] → W p l e ({ frames := 1, cells := 0, slots := 0, locals := 21 } : Room) s m args below meth c H locs 0 0 (MQ below (xQi D cO cL g s.heap.size (fun (r : Int32) (X9 : MS) => (r, X9) = wIt X k p1 kk)) args s 0 0 (xA g s.heap.size)) (F0 m 14 ls []) := by
    intro z
    induction z with
    | zero => intro i B H locs ls h0 h1 h2; exact absurd h2 (by omega)
    | succ z ih =>
      intro i B H locs ls hB hi hz9 hW hS hl
      refine lv_iload hx hb dX1_endWaits_14 (lv_at hl 0 rfl) ?_
      refine lv_iload hx hb dX1_endWaits_16 (lv_at hl 2 rfl) ?_
      refine lv_icmp_ge (tgt := 82) hx hb dX1_endWaits_18 (by decide) (fun c18 => ?_) (fun c18 => ?_)
      · skip
        have hie : min i kk = kk := by
          rcases Nat.lt_or_ge i 8 with z | z
          · exact absurd c18 (nI_ge z (by decide))
          · omega
        rw [hie] at hB
        refine lv_iload_n hx hb dX1_endWaits_82 rfl (lv_at hl 1 rfl) ?_
        exact xw_retM hx hb hr hlocks ⟨Nat.le_of_ble_eq_true rfl, Nat.le_of_ble_eq_true rfl⟩ hW hS (by show (B.1, B.2) = wIt X k p1 kk; rw [← hB]) dX1_endWaits_83
      · skip
        have hi9 : i < 8 := Nat.not_le.mp (fun z => c18 (nI_le (a := 8) z (by omega)))
        refine lv_aload_n hx hb dX1_endWaits_21 rfl (lv_at hl 3 rfl) ?_
        refine lv_iload hx hb dX1_endWaits_22 (lv_at hl 0 rfl) ?_
        rcases hq24 : g 2 (8 * k + i) with _ | al
        · skip
          have hmn : min (i + 1) kk = min i kk := by have := (hln i hi9).mp hq24; omega
          refine f_aaldV (v := .null) hx hb hK 2 rfl (hW 1 k _ hla) rfl (show i < 8 by omega) (by decide) (congrArg va_rf hq24) dX1_endWaits_24 ?_
          refine lv_astoreN (lv' := [(6, .null), (5, .int (nI i)), (2, .int B.1), (4, .int 8), (3, .ref la), (0, .ref ao), (1, .int p1)]) hx hb dX1_endWaits_25 hl (by decide) rfl (fun ls hl => ?_)
          refine lv_aloadN hx hb dX1_endWaits_27 (lv_at hl 0 rfl) ?_
          refine lv_ifnullN (tgt := 76) hx hb dX1_endWaits_29 (by decide) ?_
          refine lv_iinc (v := nI (i + 1)) (lv' := [(5, .int (nI (i + 1))), (6, .null), (2, .int B.1), (4, .int 8), (3, .ref la), (0, .ref ao), (1, .int p1)]) hx hb dX1_endWaits_76 hl (k := 1) rfl (nI_addx (a := i) (b := 1) rfl rfl) (by decide) rfl (fun ls hl => ?_)
          refine lv_goto (tgt := 14) hx hb dX1_endWaits_79 (by decide) ?_
          exact ih (i + 1) (B.1, B.2) H locs ls (by rw [hmn]; exact hB) (by omega) (by omega) hW hS (lv_sub hl [0, 2, 3, 4, 5, 6] rfl)
        · skip
          have hik : i < kk := by rcases Nat.lt_or_ge i kk with z | z; exact z; exact absurd ((hln i hi9).mpr z) (by rw [hq24]; intro h; cases h)
          have hmi : min i kk = i := by omega
          have hmn : min (i + 1) kk = i + 1 := by omega
          rw [hmi] at hB
          refine f_aaldV (v := .ref al) hx hb hK 2 rfl (hW 1 k _ hla) rfl (show i < 8 by omega) (by decide) (congrArg va_rf hq24) dX1_endWaits_24 ?_
          refine lv_astore (lv' := [(6, .ref al), (5, .int (nI i)), (2, .int B.1), (4, .int 8), (3, .ref la), (0, .ref ao), (1, .int p1)]) hx hb dX1_endWaits_25 hl (by decide) rfl (fun ls hl => ?_)
          refine lv_aload hx hb dX1_endWaits_27 (lv_at hl 0 rfl) ?_
          refine lv_ifnull hx hb dX1_endWaits_29 ?_
          refine lv_aload hx hb dX1_endWaits_32 (lv_at hl 0 rfl) ?_
          refine vp_callSi (va_runV (As := []) (rest := []) (b := al) ⟨hx, hb, hml, hown, hts⟩ (kX0_isWaitedFor l g B.2 hz _ al (8 * k + i) hq24) (cwV 0 hts gX1_endWaits_X0_isWaitedFor rfl rfl rfl (by decide +kernel) ⟨Nat.le_of_ble_eq_true rfl, Nat.le_of_ble_eq_true rfl⟩) (x_preV hW hK (hE.S hO hS) (x_recvL hK hW hq24)) rfl rfl hl.1 rfl (lv_room (Nat.le_of_ble_eq_true rfl)) dX1_endWaits_34 ⟨Nat.le_of_ble_eq_true rfl, Nat.le_of_ble_eq_true rfl⟩).run (fun r hp => ?_)
          subst hp
          refine lv_if_eq (tgt := 76) hx hb dX1_endWaits_37 (by decide) (fun c37 => ?_) (fun c37 => ?_)
          · skip
            refine lv_iinc (v := nI (i + 1)) (lv' := [(5, .int (nI (i + 1))), (6, .ref al), (2, .int B.1), (4, .int 8), (3, .ref la), (0, .ref ao), (1, .int p1)]) hx hb dX1_endWaits_76 hl (k := 1) rfl (nI_addx (a := i) (b := 1) rfl rfl) (by decide) rfl (fun ls hl => ?_)
            refine lv_goto (tgt := 14) hx hb dX1_endWaits_79 (by decide) ?_
            exact ih (i + 1) (B.1, B.2) H locs ls (by rw [hmn]; show _ = wNext (wIt X k p1 i) k i p1; rw [← hB]; unfold wNext; rw [if_pos c37] <;> rfl) (by omega) (by omega) hW hS (lv_sub hl [0, 2, 3, 4, 5, 6] rfl)
          · skip
            refine lv_aload hx hb dX1_endWaits_40 (lv_at hl 0 rfl) ?_
            refine f_get (ci := 0) (fs := xobL B.2 (8 * k + i)) (v := .int (B.2 20 (8 * k + i))) hx hb hts hin0 hown hK (hW 2 (8 * k + i) _ hq24) rfl 4 (by decide) (hts (.fieldLink RX1 81 "ReturnsDesk$Line" "waitEnds" "I") (List.mem_of_getElem? (i := 2) rfl)) (fun _ h9 => h9) rfl dX1_endWaits_42 ?_
            refine lv_iload_n hx hb dX1_endWaits_45 rfl (lv_at hl 6 rfl) ?_
            refine lv_icmp_gt (tgt := 76) hx hb dX1_endWaits_46 (by decide) (fun c46 => ?_) (fun c46 => ?_)
            · skip
              refine lv_iinc (v := nI (i + 1)) (lv' := [(5, .int (nI (i + 1))), (6, .ref al), (2, .int B.1), (4, .int 8), (3, .ref la), (0, .ref ao), (1, .int p1)]) hx hb dX1_endWaits_76 hl (k := 1) rfl (nI_addx (a := i) (b := 1) rfl rfl) (by decide) rfl (fun ls hl => ?_)
              refine lv_goto (tgt := 14) hx hb dX1_endWaits_79 (by decide) ?_
              exact ih (i + 1) (B.1, B.2) H locs ls (by rw [hmn]; show _ = wNext (wIt X k p1 i) k i p1; rw [← hB]; unfold wNext; rw [if_neg c37, if_pos c46] <;> rfl) (by omega) (by omega) hW hS (lv_sub hl [0, 2, 3, 4, 5, 6] rfl)
            · skip
              refine lv_aload hx hb dX1_endWaits_49 (lv_at hl 0 rfl) ?_
              refine f_get (ci := 0) (fs := xobL B.2 (8 * k + i)) (v := .int (B.2 18 (8 * k + i))) hx hb hts hin0 hown hK (hW 2 (8 * k + i) _ hq24) rfl 2 (by decide) (hts (.fieldLink RX1 53 "ReturnsDesk$Line" "state" "I") (List.mem_of_getElem? (i := 3) rfl)) (fun _ h9 => h9) rfl dX1_endWaits_51 ?_
              refine lv_iconst (v := 2) hx hb dX1_endWaits_54 (by decide) ?_
              refine lv_icmp_ne (tgt := 67) hx hb dX1_endWaits_55 (by decide) (fun c55 => ?_) (fun c55 => ?_)
              · skip
                refine lv_aload hx hb dX1_endWaits_67 (lv_at hl 0 rfl) ?_
                refine lv_iconst (v := 0) hx hb dX1_endWaits_69 (by decide) ?_
                refine x_putL hx hb hts hin0 hown hK hI hW hS hq24 (Or.inl ⟨2, 8 * k + i, hq24⟩) 2 18 (by decide) (hts (.fieldLink RX1 53 "ReturnsDesk$Line" "state" "I") (List.mem_of_getElem? (i := 3) rfl)) (fun _ h9 => h9) dX1_endWaits_70 (fun H locs hW hz1 _ hS => ?_)
                refine lv_iinc (v := B.1 + 1) (lv' := [(2, .int (B.1 + 1)), (6, .ref al), (5, .int (nI i)), (4, .int 8), (3, .ref la), (0, .ref ao), (1, .int p1)]) hx hb dX1_endWaits_73 hl (k := 2) rfl rfl (by decide) rfl (fun ls hl => ?_)
                refine lv_iinc (v := nI (i + 1)) (lv' := [(5, .int (nI (i + 1))), (2, .int (B.1 + 1)), (6, .ref al), (4, .int 8), (3, .ref la), (0, .ref ao), (1, .int p1)]) hx hb dX1_endWaits_76 hl (k := 2) rfl (nI_addx (a := i) (b := 1) rfl rfl) (by decide) rfl (fun ls hl => ?_)
                refine lv_goto (tgt := 14) hx hb dX1_endWaits_79 (by decide) ?_
                exact ih (i + 1) (B.1 + 1, (mu B.2 18 (8 * k + i) 0)) H locs ls (by rw [hmn]; show _ = wNext (wIt X k p1 i) k i p1; rw [← hB]; unfold wNext; rw [if_neg c37, if_neg c46, if_neg c55] <;> rfl) (by omega) (by omega) hW hS (lv_sub hl [0, 1, 3, 4, 5, 6] rfl)
              · skip
                refine lv_aload_n hx hb dX1_endWaits_58 rfl (lv_at hl 5 rfl) ?_
                refine lv_aload hx hb dX1_endWaits_59 (lv_at hl 0 rfl) ?_
                refine f_get (ci := 0) (fs := xobL B.2 (8 * k + i)) (v := .int (B.2 16 (8 * k + i))) hx hb hts hin0 hown hK (hW 2 (8 * k + i) _ hq24) rfl 0 (by decide) (hts (.fieldLink RX1 56 "ReturnsDesk$Line" "price" "I") (List.mem_of_getElem? (i := 4) rfl)) (fun _ h9 => h9) rfl dX1_endWaits_61 ?_
                refine x_wV (va_runV (As := [.int (B.2 16 (8 * k + i))]) (rest := []) (b := ao) ⟨hx, hb, hml, hown, hts⟩ (kX1_charge l g B.2 hz _ hI ⟨hO.1, Nat.le_trans hO.2 hS.1⟩ ao la k ho hla (B.2 16 (8 * k + i))) (cwV 1 hts gX1_endWaits_X1_charge rfl rfl rfl (by decide +kernel) ⟨Nat.le_of_ble_eq_true rfl, Nat.le_of_ble_eq_true rfl⟩) (x_preV hW hK (hE.S hO hS) (x_recvO hK hW ho)) rfl rfl hl.1 rfl (lv_room (Nat.le_of_ble_eq_true rfl)) dX1_endWaits_64 ⟨Nat.le_of_ble_eq_true rfl, Nat.le_of_ble_eq_true rfl⟩) hS hS.1 (fun X9 H locs hp hW hz1 hS => ?_)
                subst hp
                refine lv_aload hx hb dX1_endWaits_67 (lv_at hl 0 rfl) ?_
                refine lv_iconst (v := 0) hx hb dX1_endWaits_69 (by decide) ?_
                refine x_putL hx hb hts hin0 hown hK hI hW hS hq24 (Or.inl ⟨2, 8 * k + i, hq24⟩) 2 18 (by decide) (hts (.fieldLink RX1 53 "ReturnsDesk$Line" "state" "I") (List.mem_of_getElem? (i := 3) rfl)) (fun _ h9 => h9) dX1_endWaits_70 (fun H locs hW hz1 _ hS => ?_)
                refine lv_iinc (v := B.1 + 1) (lv' := [(2, .int (B.1 + 1)), (6, .ref al), (5, .int (nI i)), (4, .int 8), (3, .ref la), (0, .ref ao), (1, .int p1)]) hx hb dX1_endWaits_73 hl (k := 2) rfl rfl (by decide) rfl (fun ls hl => ?_)
                refine lv_iinc (v := nI (i + 1)) (lv' := [(5, .int (nI (i + 1))), (2, .int (B.1 + 1)), (6, .ref al), (4, .int 8), (3, .ref la), (0, .ref ao), (1, .int p1)]) hx hb dX1_endWaits_76 hl (k := 2) rfl (nI_addx (a := i) (b := 1) rfl rfl) (by decide) rfl (fun ls hl => ?_)
                refine lv_goto (tgt := 14) hx hb dX1_endWaits_79 (by decide) ?_
                exact ih (i + 1) (B.1 + 1, (mu (mu (mu B.2 11 k (B.2 11 k + B.2 16 (8 * k + i))) 13 k (B.2 13 k + B.2 16 (8 * k + i))) 18 (8 * k + i) 0)) H locs ls (by rw [hmn]; show _ = wNext (wIt X k p1 i) k i p1; rw [← hB]; unfold wNext; rw [if_neg c37, if_neg c46, if_pos c55] <;> rfl) (by omega) (by omega) hW hS (lv_sub hl [0, 1, 3, 4, 5, 6] rfl)
  exact loop 9 0 (0, X) s.heap [] ls (by rw [Nat.zero_min]; rfl) (by decide) (by decide) hW hS (lv_sub hl [0, 3, 1, 2, 4, 5] rfl)
end
section
/-! THE DESK: what its methods do. -/
theorem in_ofN {p : Int32} {N : Nat} {x : Int32} (h0 : ¬ p < 0) (h1 : ¬ x ≤ p) (hN : N < 2 ^ 31) (hx : x = nI N := by rfl) : ∃ k : Nat, k < N ∧ p = nI k := by
  subst hx
  rcases pk_ix p hN with h | h | h
  · exact absurd h h0
  · exact absurd h h1
  · exact h
theorem vp_hi {p : Int32} {n N : Nat} {x : Int32} (h : x ≤ p) (hn : n ≤ N) (hN : N < 2 ^ 31) (hx : x = nI N := by rfl) : ¬ vp_in p n := by
  subst hx
  intro z
  have h1 := (vp_in_iff.mp z).2
  have h2 := Int32.le_iff_toInt_le.mp h
  rw [nI_toInt hN] at h2
  omega
theorem vp_out {k n : Nat} (h : n ≤ k) (hk : k < 30) : ¬ vp_in (nI k) n := by
  intro z
  have h1 := (vp_in_iff.mp z).2
  rw [nI_toInt (by omega)] at h1
  omega
def xC (g : XG) (X : MS) (n : Nat) (kc : Nat → Nat) : Prop := n ≤ 30 ∧ X 0 0 = nI n ∧ (∀ k, k < 30 → (g 0 k = none ↔ n ≤ k)) ∧ ∀ k, k < n → kc k ≤ 8 ∧ X 7 k = nI (kc k) ∧ (∃ la, g 1 k = some la) ∧ ∀ j, j < 8 → (g 2 (8 * k + j) = none ↔ kc k ≤ j)
def noO (n : Nat) (p0 : Int32) (E : String) : Prop := E = IOE ∧ ¬ vp_in p0 n
def noL (n : Nat) (kc : Nat → Nat) (p0 p1 : Int32) (E : String) : Prop := E = IOE ∧ ∃ k, k < n ∧ p0 = nI k ∧ ¬ vp_in p1 (kc k)
def isL (n : Nat) (kc : Nat → Nat) (p0 p1 : Int32) (k j : Nat) : Prop := k < n ∧ p0 = nI k ∧ j < kc k ∧ p1 = nI j
def putX (X : MS) (r g : Int32) : MS := if g = 0 then mu X 2 0 (X 2 0 + 1) else if g = 1 then (if r = 0 then mu X 3 0 (X 3 0 + 1) else if g = 3 then X else mu X 4 0 (X 4 0 + 1)) else if g = 3 then X else mu X 4 0 (X 4 0 + 1)
def shX (X : MS) (k kk : Nat) : Int32 := if X 8 k = 0 then 0 else maxI (owedX X k kk - takenX X k) 0
def stX (X : MS) (p : Int32) : Int32 := if p = 0 then X 2 0 else if p = 1 then X 3 0 else X 4 0
def tkX (X : MS) (k : Nat) (p : Int32) : Int32 := if p = 0 then X 13 k else if p = 1 then X 14 k else X 15 k
def retX (X : MS) (k j : Nat) (w : Int32) : Int32 := if X 8 k = 0 then 0 else if X 18 j = 0 then (if spanX X j w < X 1 0 - X 9 k then 0 else 1) else 0
theorem retX_01 (X : MS) (k j : Nat) (w : Int32) : retX X k j w = 0 ∨ retX X k j w = 1 := by
  unfold retX
  split
  · exact Or.inl rfl
  · split
    · split
      · exact Or.inl rfl
      · exact Or.inr rfl
    · exact Or.inl rfl
def swX (X : MS) (j : Nat) (p2 z : Int32) : MS := mu (mu (mu X 18 j z) 19 j p2) 20 j (X 1 0 + 21)
def gradeX (X : MS) (k kk j : Nat) (p2 : Int32) : Int32 × MS := refundX (mu (putX (mu X 10 k (X 10 k + feeX X j p2)) (X 19 j) p2) 18 j (if (putX (mu X 10 k (X 10 k + feeX X j p2)) (X 19 j) p2) 18 j = 1 then 3 else 0)) k kk
def qNext (p : Int32 × MS) (kc : Nat → Nat) (day : Int32) (k : Nat) : Int32 × MS := (p.1 + (wIt p.2 k day (kc k)).1, (wIt p.2 k day (kc k)).2)
def qIt (Y : MS) (kc : Nat → Nat) (day : Int32) : Nat → Int32 × MS
  | 0 => (0, Y)
  | k + 1 => qNext (qIt Y kc day k) kc day k
theorem wNext_1 (p : Int32 × MS) (k j : Nat) (day : Int32) : (wNext p k j day).2 1 0 = p.2 1 0 := by
  unfold wNext chX
  split
  · rfl
  · split
    · rfl
    · split <;> rfl
theorem wIt_1 (X : MS) (k : Nat) (day : Int32) : ∀ j, (wIt X k day j).2 1 0 = X 1 0
  | 0 => rfl
  | j + 1 => (wNext_1 _ _ _ _).trans (wIt_1 X k day j)
theorem qIt_1 (Y : MS) (kc : Nat → Nat) (day : Int32) : ∀ k, (qIt Y kc day k).2 1 0 = Y 1 0
  | 0 => rfl
  | k + 1 => (wIt_1 _ _ _ _).trans (qIt_1 Y kc day k)
end
section
/-! THE CLASS: the desk, what reads. -/
set_option maxHeartbeats 4000000 in
set_option maxRecDepth 100000 in
theorem kX2_putIntoStock (l : Launch) {D : va_G} {cI cO cL cJ : ClassId} (g : XG) (X : MS) (hz sz : Nat) (hI : xI g) (hO : xO g hz sz) (d bk : Nat) (hd : g 3 0 = some d) (hbk : g 4 0 = some bk) (p0 p1 : Int32) : Met l yX2_putIntoStock wsX2_putIntoStock ({ frames := 0, cells := 0, slots := 0, locals := 0 } : Room) (xP D cI cO cL cJ g X hz sz [.ref d, .int p0, .int p1]) (xQv D cO cL g sz (fun X9 : MS => X9 = putX X p0 p1)) 0 0 (xA g sz) := by
  refine x_bodyM (cc := cX2_putIntoStock) (maxL := 3) (ret := none) (by decide) rfl [.ref d, .int p0, .int p1] (Nat.le_of_ble_eq_true rfl) ?_
  intro p e s m args below meth c hx hb hr hts hown hml hlocks hsz hW hK hE ls hl
  subst hsz
  have hown : s.vm.findClass RX2 = some m.cls := hown
  have hl : lv_has ls 3 [(0, .ref d), (1, .int p0), (2, .int p1)] := hl
  have hin2 : ∀ w ∈ u_ws RX2 TX2 6, w ∈ wsX2_putIntoStock := (fun w h => List.mem_cons_of_mem _ (List.mem_append_right _ (h)))
  have hS : va_S (xA g s.heap.size) s.heap s.heap [] := va_S.rf
  refine lv_iload_n hx hb dX2_putIntoStock_0 rfl (lv_at hl 2 rfl) ?_
  refine lv_if_ne (tgt := 17) hx hb dX2_putIntoStock_1 (by decide) (fun c1 => ?_) (fun c1 => ?_)
  · skip
    refine lv_iload_n hx hb dX2_putIntoStock_17 rfl (lv_at hl 2 rfl) ?_
    refine lv_iconst (v := 1) hx hb dX2_putIntoStock_18 (by decide) ?_
    refine lv_icmp_ne (tgt := 39) hx hb dX2_putIntoStock_19 (by decide) (fun c19 => ?_) (fun c19 => ?_)
    · skip
      refine lv_iload_n hx hb dX2_putIntoStock_39 rfl (lv_at hl 2 rfl) ?_
      refine lv_iconst (v := 3) hx hb dX2_putIntoStock_40 (by decide) ?_
      refine lv_icmp_eq (tgt := 54) hx hb dX2_putIntoStock_41 (by decide) (fun c41 => ?_) (fun c41 => ?_)
      · skip
        exact xw_vretM hx hb hr hlocks ⟨Nat.le_of_ble_eq_true rfl, Nat.le_of_ble_eq_true rfl⟩ hW hS (by unfold putX; rw [if_neg c1, if_neg c19, if_pos c41] <;> rfl) dX2_putIntoStock_54
      · skip
        refine lv_aload_n hx hb dX2_putIntoStock_44 rfl (lv_at hl 0 rfl) ?_
        refine lv_dup hx hb dX2_putIntoStock_45 rfl ?_
        refine f_get (ci := 2) (fs := xobD g X 0) (v := .int (X 4 0)) hx hb hts hin2 hown hK (hW 3 0 _ hd) rfl 5 (by decide) (hts (.fieldLink RX2 140 "ReturnsDesk" "wasteThings" "I") (List.mem_of_getElem? (i := 3) rfl)) (fun _ h9 => h9) rfl dX2_putIntoStock_46 ?_
        refine lv_iconst (v := 1) hx hb dX2_putIntoStock_49 (by decide) ?_
        refine lv_iadd hx hb dX2_putIntoStock_50 ?_
        refine x_putD hx hb hts hin2 hown hK hI hW hS hd (Or.inl ⟨3, 0, hd⟩) 5 4 (by decide) (hts (.fieldLink RX2 140 "ReturnsDesk" "wasteThings" "I") (List.mem_of_getElem? (i := 3) rfl)) (fun _ h9 => h9) dX2_putIntoStock_51 (fun H locs hW hz1 _ hS => ?_)
        exact xw_vretM hx hb hr hlocks ⟨Nat.le_of_ble_eq_true rfl, Nat.le_of_ble_eq_true rfl⟩ hW hS (by unfold putX; rw [if_neg c1, if_neg c19, if_neg c41] <;> rfl) dX2_putIntoStock_54
    · skip
      refine lv_iload_n hx hb dX2_putIntoStock_22 rfl (lv_at hl 1 rfl) ?_
      refine lv_if_ne (tgt := 39) hx hb dX2_putIntoStock_23 (by decide) (fun c23 => ?_) (fun c23 => ?_)
      · skip
        refine lv_iload_n hx hb dX2_putIntoStock_39 rfl (lv_at hl 2 rfl) ?_
        refine lv_iconst (v := 3) hx hb dX2_putIntoStock_40 (by decide) ?_
        refine lv_icmp_eq (tgt := 54) hx hb dX2_putIntoStock_41 (by decide) (fun c41 => ?_) (fun c41 => ?_)
        · skip
          exact xw_vretM hx hb hr hlocks ⟨Nat.le_of_ble_eq_true rfl, Nat.le_of_ble_eq_true rfl⟩ hW hS (by unfold putX; rw [if_neg c1, if_pos c19, if_neg c23, if_pos c41] <;> rfl) dX2_putIntoStock_54
        · skip
          refine lv_aload_n hx hb dX2_putIntoStock_44 rfl (lv_at hl 0 rfl) ?_
          refine lv_dup hx hb dX2_putIntoStock_45 rfl ?_
          refine f_get (ci := 2) (fs := xobD g X 0) (v := .int (X 4 0)) hx hb hts hin2 hown hK (hW 3 0 _ hd) rfl 5 (by decide) (hts (.fieldLink RX2 140 "ReturnsDesk" "wasteThings" "I") (List.mem_of_getElem? (i := 3) rfl)) (fun _ h9 => h9) rfl dX2_putIntoStock_46 ?_
          refine lv_iconst (v := 1) hx hb dX2_putIntoStock_49 (by decide) ?_
          refine lv_iadd hx hb dX2_putIntoStock_50 ?_
          refine x_putD hx hb hts hin2 hown hK hI hW hS hd (Or.inl ⟨3, 0, hd⟩) 5 4 (by decide) (hts (.fieldLink RX2 140 "ReturnsDesk" "wasteThings" "I") (List.mem_of_getElem? (i := 3) rfl)) (fun _ h9 => h9) dX2_putIntoStock_51 (fun H locs hW hz1 _ hS => ?_)
          exact xw_vretM hx hb hr hlocks ⟨Nat.le_of_ble_eq_true rfl, Nat.le_of_ble_eq_true rfl⟩ hW hS (by unfold putX; rw [if_neg c1, if_pos c19, if_neg c23, if_neg c41] <;> rfl) dX2_putIntoStock_54
      · skip
        refine lv_aload_n hx hb dX2_putIntoStock_26 rfl (lv_at hl 0 rfl) ?_
        refine lv_dup hx hb dX2_putIntoStock_27 rfl ?_
        refine f_get (ci := 2) (fs := xobD g X 0) (v := .int (X 3 0)) hx hb hts hin2 hown hK (hW 3 0 _ hd) rfl 4 (by decide) (hts (.fieldLink RX2 137 "ReturnsDesk" "secondThings" "I") (List.mem_of_getElem? (i := 2) rfl)) (fun _ h9 => h9) rfl dX2_putIntoStock_28 ?_
        refine lv_iconst (v := 1) hx hb dX2_putIntoStock_31 (by decide) ?_
        refine lv_iadd hx hb dX2_putIntoStock_32 ?_
        refine x_putD hx hb hts hin2 hown hK hI hW hS hd (Or.inl ⟨3, 0, hd⟩) 4 3 (by decide) (hts (.fieldLink RX2 137 "ReturnsDesk" "secondThings" "I") (List.mem_of_getElem? (i := 2) rfl)) (fun _ h9 => h9) dX2_putIntoStock_33 (fun H locs hW hz1 _ hS => ?_)
        refine lv_goto (tgt := 54) hx hb dX2_putIntoStock_36 (by decide) ?_
        exact xw_vretM hx hb hr hlocks ⟨Nat.le_of_ble_eq_true rfl, Nat.le_of_ble_eq_true rfl⟩ hW hS (by unfold putX; rw [if_neg c1, if_pos c19, if_pos c23] <;> rfl) dX2_putIntoStock_54
  · skip
    refine lv_aload_n hx hb dX2_putIntoStock_4 rfl (lv_at hl 0 rfl) ?_
    refine lv_dup hx hb dX2_putIntoStock_5 rfl ?_
    refine f_get (ci := 2) (fs := xobD g X 0) (v := .int (X 2 0)) hx hb hts hin2 hown hK (hW 3 0 _ hd) rfl 3 (by decide) (hts (.fieldLink RX2 134 "ReturnsDesk" "newThings" "I") (List.mem_of_getElem? (i := 1) rfl)) (fun _ h9 => h9) rfl dX2_putIntoStock_6 ?_
    refine lv_iconst (v := 1) hx hb dX2_putIntoStock_9 (by decide) ?_
    refine lv_iadd hx hb dX2_putIntoStock_10 ?_
    refine x_putD hx hb hts hin2 hown hK hI hW hS hd (Or.inl ⟨3, 0, hd⟩) 3 2 (by decide) (hts (.fieldLink RX2 134 "ReturnsDesk" "newThings" "I") (List.mem_of_getElem? (i := 1) rfl)) (fun _ h9 => h9) dX2_putIntoStock_11 (fun H locs hW hz1 _ hS => ?_)
    refine lv_goto (tgt := 54) hx hb dX2_putIntoStock_14 (by decide) ?_
    exact xw_vretM hx hb hr hlocks ⟨Nat.le_of_ble_eq_true rfl, Nat.le_of_ble_eq_true rfl⟩ hW hS (by unfold putX; rw [if_pos c1] <;> rfl) dX2_putIntoStock_54
set_option maxHeartbeats 4000000 in
set_option maxRecDepth 100000 in
theorem kX2_requireRange (l : Launch) (hlt : l.stackTraces = false) {D : va_G} {cI cO cL cJ : ClassId} (g : XG) (X : MS) (hz sz : Nat)  (v lo hi : Int32) : vx_Met l yX2_requireRange wsX2_requireRange ({ frames := 6, cells := 1, slots := 6, locals := 82 } : Room) (xP D cI cO cL cJ g X hz sz [.int v, .int lo, .int hi]) (xSv (inR v lo hi)) (xT (fun E : String => E = IAE ∧ ¬ inR v lo hi)) 1 6 (fun _ => False) := by
  refine x_body (cc := cX2_requireRange) (maxL := 3) (ret := none) (by decide) rfl [.int v, .int lo, .int hi] (Nat.le_of_ble_eq_true rfl) ?_
  intro p e s m args below meth c hx hb hr hts hown hml hlocks htab hsz hW hK hE ls hl
  subst hsz
  have hown : s.vm.findClass RX2 = some m.cls := hown
  have hl : lv_has ls 3 [(0, .int v), (1, .int lo), (2, .int hi)] := hl
  refine lv_iload_n hx hb dX2_requireRange_0 rfl (lv_at hl 0 rfl) ?_
  refine lv_iload_n hx hb dX2_requireRange_1 rfl (lv_at hl 1 rfl) ?_
  refine lv_icmp_lt (tgt := 10) hx hb dX2_requireRange_2 (by decide) (fun c2 => ?_) (fun c2 => ?_)
  · skip
    exact x_throw (cls := IAE) (text := "an argument is out of range") (ik := 148) (is := 150) (ic := 152) hlt hx hb hown hts hE (by decide +kernel) (by decide +kernel) (hts (.classLink RX2 148 "java/lang/IllegalArgumentException") (List.mem_of_getElem? (i := 1) rfl)) (hts (.initialized "java/lang/IllegalArgumentException") (List.mem_of_getElem? (i := 2) rfl)) (List.mem_of_getElem? (i := 5) rfl) (fun w h => List.mem_cons_of_mem _ (List.mem_append_right _ (h))) tn_A tg_A (hl.1.trans hml.symm) htab hlocks dX2_requireRange_10 dX2_requireRange_13 dX2_requireRange_14 dX2_requireRange_16 dX2_requireRange_19 ⟨(Nat.le_of_ble_eq_true rfl), (Nat.le_of_ble_eq_true rfl), (Nat.le_of_ble_eq_true rfl), (Nat.le_of_ble_eq_true rfl)⟩ ⟨(Nat.le_of_ble_eq_true rfl), (Nat.le_of_ble_eq_true rfl)⟩ rfl rfl ⟨rfl, fun h => h.1 c2⟩
  · skip
    refine lv_iload_n hx hb dX2_requireRange_5 rfl (lv_at hl 0 rfl) ?_
    refine lv_iload_n hx hb dX2_requireRange_6 rfl (lv_at hl 2 rfl) ?_
    refine lv_icmp_le (tgt := 20) hx hb dX2_requireRange_7 (by decide) (fun c7 => ?_) (fun c7 => ?_)
    · skip
      exact xr_vret hx hb hr hlocks ⟨Nat.le_of_ble_eq_true rfl, Nat.le_of_ble_eq_true rfl⟩ ⟨c2, Int32.not_lt.mpr c7⟩ dX2_requireRange_20
    · skip
      exact x_throw (cls := IAE) (text := "an argument is out of range") (ik := 148) (is := 150) (ic := 152) hlt hx hb hown hts hE (by decide +kernel) (by decide +kernel) (hts (.classLink RX2 148 "java/lang/IllegalArgumentException") (List.mem_of_getElem? (i := 1) rfl)) (hts (.initialized "java/lang/IllegalArgumentException") (List.mem_of_getElem? (i := 2) rfl)) (List.mem_of_getElem? (i := 5) rfl) (fun w h => List.mem_cons_of_mem _ (List.mem_append_right _ (h))) tn_A tg_A (hl.1.trans hml.symm) htab hlocks dX2_requireRange_10 dX2_requireRange_13 dX2_requireRange_14 dX2_requireRange_16 dX2_requireRange_19 ⟨(Nat.le_of_ble_eq_true rfl), (Nat.le_of_ble_eq_true rfl), (Nat.le_of_ble_eq_true rfl), (Nat.le_of_ble_eq_true rfl)⟩ ⟨(Nat.le_of_ble_eq_true rfl), (Nat.le_of_ble_eq_true rfl)⟩ rfl rfl ⟨rfl, fun h => h.2 (Int32.not_le.mp c7)⟩
set_option maxHeartbeats 4000000 in
set_option maxRecDepth 100000 in
theorem kX2_findOrder (l : Launch) (hlt : l.stackTraces = false) {D : va_G} {cI cO cL cJ : ClassId} (g : XG) (X : MS) (hz sz : Nat) (d bk : Nat) (hd : g 3 0 = some d) (hbk : g 4 0 = some bk) (n : Nat) (hn30 : n ≤ 30) (hbn : ∀ k, k < 30 → (g 0 k = none ↔ n ≤ k)) (p0 : Int32) : vx_Met l yX2_findOrder wsX2_findOrder ({ frames := 6, cells := 1, slots := 6, locals := 82 } : Room) (xP D cI cO cL cJ g X hz sz [.ref d, .int p0]) (xSr (fun a => ∃ k, k < n ∧ p0 = nI k ∧ g 0 k = some a)) (xT (fun E : String => noO n p0 E)) 1 6 (fun _ => False) := by
  refine x_body (cc := cX2_findOrder) (maxL := 3) (ret := some (.object "ReturnsDesk$Order")) (by decide) rfl [.ref d, .int p0] (Nat.le_of_ble_eq_true rfl) ?_
  intro p e s m args below meth c hx hb hr hts hown hml hlocks htab hsz hW hK hE ls hl
  subst hsz
  have hown : s.vm.findClass RX2 = some m.cls := hown
  have hl : lv_has ls 3 [(0, .ref d), (1, .int p0)] := hl
  have hin2 : ∀ w ∈ u_ws RX2 TX2 6, w ∈ wsX2_findOrder := (fun w h => List.mem_cons_of_mem _ (List.mem_append_left _ (List.mem_append_right _ (h))))
  refine lv_iload_n hx hb dX2_findOrder_0 rfl (lv_at hl 1 rfl) ?_
  refine lv_if_lt (tgt := 22) hx hb dX2_findOrder_1 (by decide) (fun c1 => ?_) (fun c1 => ?_)
  · skip
    refine lv_null hx hb dX2_findOrder_22 ?_
    refine lv_astore_nN (lv' := [(2, .null), (0, .ref d), (1, .int p0)]) hx hb dX2_findOrder_23 rfl hl (by decide) rfl (fun ls hl => ?_)
    refine lv_aload_nN hx hb dX2_findOrder_24 rfl (lv_at hl 0 rfl) ?_
    refine lv_ifnonnullN hx hb dX2_findOrder_25 ?_
    exact x_throw (cls := IOE) (text := "no such order") (ik := 153) (is := 155) (ic := 157) hlt hx hb hown hts hE (by decide +kernel) (by decide +kernel) (hts (.classLink RX2 153 "java/lang/IndexOutOfBoundsException") (List.mem_of_getElem? (i := 1) rfl)) (hts (.initialized "java/lang/IndexOutOfBoundsException") (List.mem_of_getElem? (i := 2) rfl)) (List.mem_of_getElem? (i := 6) rfl) (fun w h => List.mem_cons_of_mem _ (List.mem_append_right _ (h))) tn_O tg_O (hl.1.trans hml.symm) htab hlocks dX2_findOrder_28 dX2_findOrder_31 dX2_findOrder_32 dX2_findOrder_34 dX2_findOrder_37 ⟨(Nat.le_of_ble_eq_true rfl), (Nat.le_of_ble_eq_true rfl), (Nat.le_of_ble_eq_true rfl), (Nat.le_of_ble_eq_true rfl)⟩ ⟨(Nat.le_of_ble_eq_true rfl), (Nat.le_of_ble_eq_true rfl)⟩ rfl rfl ⟨rfl, fun h => h (Or.inl c1)⟩
  · skip
    refine lv_iload_n hx hb dX2_findOrder_4 rfl (lv_at hl 1 rfl) ?_
    refine lv_aload_n hx hb dX2_findOrder_5 rfl (lv_at hl 0 rfl) ?_
    refine f_get (ci := 2) (fs := xobD g X 0) (v := .ref bk) hx hb hts hin2 hown hK (hW 3 0 _ hd) rfl 0 (by decide) (hts (.fieldLink RX2 11 "ReturnsDesk" "book" "[LReturnsDesk$Order;") (List.mem_of_getElem? (i := 3) rfl)) (fun _ h9 => h9) (congrArg (fun z => some (va_rf z)) hbk) dX2_findOrder_6 ?_
    refine f_alen (v := 30) hx hb hK 1 rfl (hW 4 0 _ hbk) rfl dX2_findOrder_9 ?_
    refine lv_icmp_ge (tgt := 22) hx hb dX2_findOrder_10 (by decide) (fun c10 => ?_) (fun c10 => ?_)
    · skip
      refine lv_null hx hb dX2_findOrder_22 ?_
      refine lv_astore_nN (lv' := [(2, .null), (0, .ref d), (1, .int p0)]) hx hb dX2_findOrder_23 rfl hl (by decide) rfl (fun ls hl => ?_)
      refine lv_aload_nN hx hb dX2_findOrder_24 rfl (lv_at hl 0 rfl) ?_
      refine lv_ifnonnullN hx hb dX2_findOrder_25 ?_
      exact x_throw (cls := IOE) (text := "no such order") (ik := 153) (is := 155) (ic := 157) hlt hx hb hown hts hE (by decide +kernel) (by decide +kernel) (hts (.classLink RX2 153 "java/lang/IndexOutOfBoundsException") (List.mem_of_getElem? (i := 1) rfl)) (hts (.initialized "java/lang/IndexOutOfBoundsException") (List.mem_of_getElem? (i := 2) rfl)) (List.mem_of_getElem? (i := 6) rfl) (fun w h => List.mem_cons_of_mem _ (List.mem_append_right _ (h))) tn_O tg_O (hl.1.trans hml.symm) htab hlocks dX2_findOrder_28 dX2_findOrder_31 dX2_findOrder_32 dX2_findOrder_34 dX2_findOrder_37 ⟨(Nat.le_of_ble_eq_true rfl), (Nat.le_of_ble_eq_true rfl), (Nat.le_of_ble_eq_true rfl), (Nat.le_of_ble_eq_true rfl)⟩ ⟨(Nat.le_of_ble_eq_true rfl), (Nat.le_of_ble_eq_true rfl)⟩ rfl rfl ⟨rfl, vp_hi c10 hn30 (by decide)⟩
    · skip
      obtain ⟨k, hk30, hpk⟩ := in_ofN (N := 30) c1 c10 (by decide)
      subst hpk
      refine lv_aload_n hx hb dX2_findOrder_13 rfl (lv_at hl 0 rfl) ?_
      refine f_get (ci := 2) (fs := xobD g X 0) (v := .ref bk) hx hb hts hin2 hown hK (hW 3 0 _ hd) rfl 0 (by decide) (hts (.fieldLink RX2 11 "ReturnsDesk" "book" "[LReturnsDesk$Order;") (List.mem_of_getElem? (i := 3) rfl)) (fun _ h9 => h9) (congrArg (fun z => some (va_rf z)) hbk) dX2_findOrder_14 ?_
      refine lv_iload_n hx hb dX2_findOrder_17 rfl (lv_at hl 1 rfl) ?_
      rcases hq18 : g 0 k with _ | ao
      · skip
        refine f_aaldV (v := .null) hx hb hK 1 rfl (hW 4 0 _ hbk) rfl (show k < 30 by omega) (by decide) (congrArg va_rf hq18) dX2_findOrder_18 ?_
        refine lv_goto (tgt := 23) hx hb dX2_findOrder_19 (by decide) ?_
        refine lv_astore_nN (lv' := [(2, .null), (0, .ref d), (1, .int (nI k))]) hx hb dX2_findOrder_23 rfl hl (by decide) rfl (fun ls hl => ?_)
        refine lv_aload_nN hx hb dX2_findOrder_24 rfl (lv_at hl 0 rfl) ?_
        refine lv_ifnonnullN hx hb dX2_findOrder_25 ?_
        exact x_throw (cls := IOE) (text := "no such order") (ik := 153) (is := 155) (ic := 157) hlt hx hb hown hts hE (by decide +kernel) (by decide +kernel) (hts (.classLink RX2 153 "java/lang/IndexOutOfBoundsException") (List.mem_of_getElem? (i := 1) rfl)) (hts (.initialized "java/lang/IndexOutOfBoundsException") (List.mem_of_getElem? (i := 2) rfl)) (List.mem_of_getElem? (i := 6) rfl) (fun w h => List.mem_cons_of_mem _ (List.mem_append_right _ (h))) tn_O tg_O (hl.1.trans hml.symm) htab hlocks dX2_findOrder_28 dX2_findOrder_31 dX2_findOrder_32 dX2_findOrder_34 dX2_findOrder_37 ⟨(Nat.le_of_ble_eq_true rfl), (Nat.le_of_ble_eq_true rfl), (Nat.le_of_ble_eq_true rfl), (Nat.le_of_ble_eq_true rfl)⟩ ⟨(Nat.le_of_ble_eq_true rfl), (Nat.le_of_ble_eq_true rfl)⟩ rfl rfl ⟨rfl, vp_out ((hbn k hk30).mp hq18) hk30⟩
      · skip
        refine f_aaldV (v := .ref ao) hx hb hK 1 rfl (hW 4 0 _ hbk) rfl (show k < 30 by omega) (by decide) (congrArg va_rf hq18) dX2_findOrder_18 ?_
        refine lv_goto (tgt := 23) hx hb dX2_findOrder_19 (by decide) ?_
        refine lv_astore_n (lv' := [(2, .ref ao), (0, .ref d), (1, .int (nI k))]) hx hb dX2_findOrder_23 rfl hl (by decide) rfl (fun ls hl => ?_)
        refine lv_aload_n hx hb dX2_findOrder_24 rfl (lv_at hl 0 rfl) ?_
        refine lv_ifnonnull (tgt := 38) hx hb dX2_findOrder_25 (by decide) ?_
        refine lv_aload_n hx hb dX2_findOrder_38 rfl (lv_at hl 0 rfl) ?_
        exact xr_aret hx hb hr hlocks ⟨Nat.le_of_ble_eq_true rfl, Nat.le_of_ble_eq_true rfl⟩ ⟨k, Nat.lt_of_not_le (fun z => by rw [(hbn k hk30).mpr z] at hq18; cases hq18), rfl, hq18⟩ dX2_findOrder_39
set_option maxHeartbeats 4000000 in
set_option maxRecDepth 100000 in
theorem kX2_findLine (l : Launch) (hlt : l.stackTraces = false) {D : va_G} {cI cO cL cJ : ClassId} (g : XG) (X : MS) (hz sz : Nat) (ao la k : Nat) (ho : g 0 k = some ao) (hla : g 1 k = some la) (p1 : Int32) (kk : Nat) (hkk : kk ≤ 8) (hln : ∀ j, j < 8 → (g 2 (8 * k + j) = none ↔ kk ≤ j)) : vx_Met l yX2_findLine wsX2_findLine ({ frames := 6, cells := 1, slots := 6, locals := 82 } : Room) (xP D cI cO cL cJ g X hz sz [.ref ao, .int p1]) (xSr (fun a => ∃ j, j < kk ∧ p1 = nI j ∧ g 2 (8 * k + j) = some a)) (xT (fun E : String => E = IOE ∧ ¬ vp_in p1 kk)) 1 6 (fun _ => False) := by
  refine x_body (cc := cX2_findLine) (maxL := 3) (ret := some (.object "ReturnsDesk$Line")) (by decide) rfl [.ref ao, .int p1] (Nat.le_of_ble_eq_true rfl) ?_
  intro p e s m args below meth c hx hb hr hts hown hml hlocks htab hsz hW hK hE ls hl
  subst hsz
  have hown : s.vm.findClass RX2 = some m.cls := hown
  have hl : lv_has ls 3 [(0, .ref ao), (1, .int p1)] := hl
  have hin1 : ∀ w ∈ u_ws RX1 TX1 12, w ∈ wsX2_findLine := (fun w h => List.mem_cons_of_mem _ (List.mem_append_left _ (List.mem_append_right _ (h))))
  refine lv_iload_n hx hb dX2_findLine_0 rfl (lv_at hl 1 rfl) ?_
  refine lv_if_lt (tgt := 22) hx hb dX2_findLine_1 (by decide) (fun c1 => ?_) (fun c1 => ?_)
  · skip
    refine lv_null hx hb dX2_findLine_22 ?_
    refine lv_astore_nN (lv' := [(2, .null), (0, .ref ao), (1, .int p1)]) hx hb dX2_findLine_23 rfl hl (by decide) rfl (fun ls hl => ?_)
    refine lv_aload_nN hx hb dX2_findLine_24 rfl (lv_at hl 0 rfl) ?_
    refine lv_ifnonnullN hx hb dX2_findLine_25 ?_
    exact x_throw (cls := IOE) (text := "no such line") (ik := 153) (is := 162) (ic := 157) hlt hx hb hown hts hE (by decide +kernel) (by decide +kernel) (hts (.classLink RX2 153 "java/lang/IndexOutOfBoundsException") (List.mem_of_getElem? (i := 1) rfl)) (hts (.initialized "java/lang/IndexOutOfBoundsException") (List.mem_of_getElem? (i := 2) rfl)) (List.mem_of_getElem? (i := 7) rfl) (fun w h => List.mem_cons_of_mem _ (List.mem_append_right _ (h))) tn_O tg_O (hl.1.trans hml.symm) htab hlocks dX2_findLine_28 dX2_findLine_31 dX2_findLine_32 dX2_findLine_34 dX2_findLine_37 ⟨(Nat.le_of_ble_eq_true rfl), (Nat.le_of_ble_eq_true rfl), (Nat.le_of_ble_eq_true rfl), (Nat.le_of_ble_eq_true rfl)⟩ ⟨(Nat.le_of_ble_eq_true rfl), (Nat.le_of_ble_eq_true rfl)⟩ rfl rfl ⟨rfl, fun h => h (Or.inl c1)⟩
  · skip
    refine lv_iload_n hx hb dX2_findLine_4 rfl (lv_at hl 1 rfl) ?_
    refine lv_aload_n hx hb dX2_findLine_5 rfl (lv_at hl 0 rfl) ?_
    refine f_get (ci := 1) (fs := xobO g X k) (v := .ref la) hx hb hts hin1 hown hK (hW 0 k _ ho) rfl 2 (by decide) (hts (.fieldLink RX2 158 "ReturnsDesk$Order" "lines" "[LReturnsDesk$Line;") (List.mem_of_getElem? (i := 3) rfl)) (fun _ h9 => h9) (congrArg (fun z => some (va_rf z)) hla) dX2_findLine_6 ?_
    refine f_alen (v := 8) hx hb hK 2 rfl (hW 1 k _ hla) rfl dX2_findLine_9 ?_
    refine lv_icmp_ge (tgt := 22) hx hb dX2_findLine_10 (by decide) (fun c10 => ?_) (fun c10 => ?_)
    · skip
      refine lv_null hx hb dX2_findLine_22 ?_
      refine lv_astore_nN (lv' := [(2, .null), (0, .ref ao), (1, .int p1)]) hx hb dX2_findLine_23 rfl hl (by decide) rfl (fun ls hl => ?_)
      refine lv_aload_nN hx hb dX2_findLine_24 rfl (lv_at hl 0 rfl) ?_
      refine lv_ifnonnullN hx hb dX2_findLine_25 ?_
      exact x_throw (cls := IOE) (text := "no such line") (ik := 153) (is := 162) (ic := 157) hlt hx hb hown hts hE (by decide +kernel) (by decide +kernel) (hts (.classLink RX2 153 "java/lang/IndexOutOfBoundsException") (List.mem_of_getElem? (i := 1) rfl)) (hts (.initialized "java/lang/IndexOutOfBoundsException") (List.mem_of_getElem? (i := 2) rfl)) (List.mem_of_getElem? (i := 7) rfl) (fun w h => List.mem_cons_of_mem _ (List.mem_append_right _ (h))) tn_O tg_O (hl.1.trans hml.symm) htab hlocks dX2_findLine_28 dX2_findLine_31 dX2_findLine_32 dX2_findLine_34 dX2_findLine_37 ⟨(Nat.le_of_ble_eq_true rfl), (Nat.le_of_ble_eq_true rfl), (Nat.le_of_ble_eq_true rfl), (Nat.le_of_ble_eq_true rfl)⟩ ⟨(Nat.le_of_ble_eq_true rfl), (Nat.le_of_ble_eq_true rfl)⟩ rfl rfl ⟨rfl, vp_hi c10 hkk (by decide)⟩
    · skip
      obtain ⟨j, hj8, hpj⟩ := in_ofN (N := 8) c1 c10 (by decide)
      subst hpj
      refine lv_aload_n hx hb dX2_findLine_13 rfl (lv_at hl 0 rfl) ?_
      refine f_get (ci := 1) (fs := xobO g X k) (v := .ref la) hx hb hts hin1 hown hK (hW 0 k _ ho) rfl 2 (by decide) (hts (.fieldLink RX2 158 "ReturnsDesk$Order" "lines" "[LReturnsDesk$Line;") (List.mem_of_getElem? (i := 3) rfl)) (fun _ h9 => h9) (congrArg (fun z => some (va_rf z)) hla) dX2_findLine_14 ?_
      refine lv_iload_n hx hb dX2_findLine_17 rfl (lv_at hl 1 rfl) ?_
      rcases hq18 : g 2 (8 * k + j) with _ | al
      · skip
        refine f_aaldV (v := .null) hx hb hK 2 rfl (hW 1 k _ hla) rfl (show j < 8 by omega) (by decide) (congrArg va_rf hq18) dX2_findLine_18 ?_
        refine lv_goto (tgt := 23) hx hb dX2_findLine_19 (by decide) ?_
        refine lv_astore_nN (lv' := [(2, .null), (0, .ref ao), (1, .int (nI j))]) hx hb dX2_findLine_23 rfl hl (by decide) rfl (fun ls hl => ?_)
        refine lv_aload_nN hx hb dX2_findLine_24 rfl (lv_at hl 0 rfl) ?_
        refine lv_ifnonnullN hx hb dX2_findLine_25 ?_
        exact x_throw (cls := IOE) (text := "no such line") (ik := 153) (is := 162) (ic := 157) hlt hx hb hown hts hE (by decide +kernel) (by decide +kernel) (hts (.classLink RX2 153 "java/lang/IndexOutOfBoundsException") (List.mem_of_getElem? (i := 1) rfl)) (hts (.initialized "java/lang/IndexOutOfBoundsException") (List.mem_of_getElem? (i := 2) rfl)) (List.mem_of_getElem? (i := 7) rfl) (fun w h => List.mem_cons_of_mem _ (List.mem_append_right _ (h))) tn_O tg_O (hl.1.trans hml.symm) htab hlocks dX2_findLine_28 dX2_findLine_31 dX2_findLine_32 dX2_findLine_34 dX2_findLine_37 ⟨(Nat.le_of_ble_eq_true rfl), (Nat.le_of_ble_eq_true rfl), (Nat.le_of_ble_eq_true rfl), (Nat.le_of_ble_eq_true rfl)⟩ ⟨(Nat.le_of_ble_eq_true rfl), (Nat.le_of_ble_eq_true rfl)⟩ rfl rfl ⟨rfl, vp_out ((hln j hj8).mp hq18) (Nat.lt_trans hj8 (by decide))⟩
      · skip
        refine f_aaldV (v := .ref al) hx hb hK 2 rfl (hW 1 k _ hla) rfl (show j < 8 by omega) (by decide) (congrArg va_rf hq18) dX2_findLine_18 ?_
        refine lv_goto (tgt := 23) hx hb dX2_findLine_19 (by decide) ?_
        refine lv_astore_n (lv' := [(2, .ref al), (0, .ref ao), (1, .int (nI j))]) hx hb dX2_findLine_23 rfl hl (by decide) rfl (fun ls hl => ?_)
        refine lv_aload_n hx hb dX2_findLine_24 rfl (lv_at hl 0 rfl) ?_
        refine lv_ifnonnull (tgt := 38) hx hb dX2_findLine_25 (by decide) ?_
        refine lv_aload_n hx hb dX2_findLine_38 rfl (lv_at hl 0 rfl) ?_
        exact xr_aret hx hb hr hlocks ⟨Nat.le_of_ble_eq_true rfl, Nat.le_of_ble_eq_true rfl⟩ ⟨j, Nat.lt_of_not_le (fun z => by rw [(hln j hj8).mpr z] at hq18; cases hq18), rfl, hq18⟩ dX2_findLine_39
set_option maxHeartbeats 4000000 in
set_option maxRecDepth 100000 in
theorem kX2_price (l : Launch) (hlt : l.stackTraces = false) {D : va_G} {cI cO cL cJ : ClassId} (g : XG) (X : MS) (hz sz : Nat) (d bk : Nat) (hd : g 3 0 = some d) (hbk : g 4 0 = some bk) (n : Nat) (kc : Nat → Nat) (hC : xC g X n kc) (p0 : Int32) : vx_Met l yX2_price wsX2_price ({ frames := 7, cells := 1, slots := 6, locals := 104 } : Room) (xP D cI cO cL cJ g X hz sz [.ref d, .int p0]) (vp_Si (fun r : Int32 => ∃ k, k < n ∧ p0 = nI k ∧ r = priceX X k (kc k))) (xT (fun E : String => noO n p0 E)) 1 6 (fun _ => False) := by
  refine x_body (cc := cX2_price) (maxL := 2) (ret := some .int) (by decide) rfl [.ref d, .int p0] (Nat.le_of_ble_eq_true rfl) ?_
  intro p e s m args below meth c hx hb hr hts hown hml hlocks htab hsz hW hK hE ls hl
  subst hsz
  have hown : s.vm.findClass RX2 = some m.cls := hown
  have hl : lv_has ls 2 [(0, .ref d), (1, .int p0)] := hl
  have hin0 : ∀ w ∈ u_ws RX0 TX0 5, w ∈ wsX2_price := (fun w h => List.mem_cons_of_mem _ (List.mem_append_left _ (List.mem_append_right _ (h))))
  have hin1 : ∀ w ∈ u_ws RX1 TX1 12, w ∈ wsX2_price := (fun w h => List.mem_cons_of_mem _ (List.mem_append_left _ (List.mem_append_left _ (List.mem_append_right _ (h)))))
  have hin2 : ∀ w ∈ u_ws RX2 TX2 6, w ∈ wsX2_price := (fun w h => List.mem_cons_of_mem _ (List.mem_append_left _ (List.mem_append_left _ (List.mem_append_left _ (List.mem_append_right _ (h))))))
  refine lv_aload_n hx hb dX2_price_0 rfl (lv_at hl 0 rfl) ?_
  refine lv_iload_n hx hb dX2_price_1 rfl (lv_at hl 1 rfl) ?_
  refine x_cR (vx_runV (As := [.int p0]) (rest := []) (b := d) ⟨hx, hb, hml, hown, hts⟩ (kX2_findOrder l hlt g X hz _ d bk hd hbk n hC.1 hC.2.2.1 p0) (cwV 1 hts gX2_price_X2_findOrder rfl rfl rfl (by decide +kernel) ⟨Nat.le_of_ble_eq_true rfl, Nat.le_of_ble_eq_true rfl⟩) (x_preV hW hK hE (x_recvD hK hW hd)) rfl rfl hl.1 rfl (lv_room (Nat.le_of_ble_eq_true rfl)) dX2_price_2 ⟨Nat.le_of_ble_eq_true rfl, Nat.le_of_ble_eq_true rfl⟩) (va_S.rf (A := fun _ => True)) (fun E ce q9 H1 locs1 hc hz1 hk1 hS1 hL1 hce hcv hcl => x_prop htab hlocks hce hcv hcl hz1 hk1 (fun z h => (hL1 z h).elim (fun h => nomatch h) (fun h => h.elim)) ⟨Nat.le_of_ble_eq_true rfl, Nat.le_of_ble_eq_true rfl⟩ hc) (fun ao hp => ?_)
  obtain ⟨k, hk, hp0, ho⟩ := hp
  subst hp0
  obtain ⟨hkk, hX7, ⟨la, hla⟩, hln⟩ := hC.2.2.2 k hk
  refine vp_callSi (va_runV (As := []) (rest := []) (b := ao) ⟨hx, hb, hml, hown, hts⟩ (kX1_priceAnew l g X hz _ ao la k ho hla (kc k) hkk hln) (cwV 0 hts gX2_price_X1_priceAnew rfl rfl rfl (by decide +kernel) ⟨Nat.le_of_ble_eq_true rfl, Nat.le_of_ble_eq_true rfl⟩) (x_preV hW hK hE (x_recvO hK hW ho)) rfl rfl hl.1 rfl (lv_room (Nat.le_of_ble_eq_true rfl)) dX2_price_5 ⟨Nat.le_of_ble_eq_true rfl, Nat.le_of_ble_eq_true rfl⟩).run (fun r hp => ?_)
  subst hp
  exact xr_ret hx hb hr hlocks ⟨Nat.le_of_ble_eq_true rfl, Nat.le_of_ble_eq_true rfl⟩ ⟨k, hk, rfl, rfl⟩ dX2_price_8
set_option maxHeartbeats 4000000 in
set_option maxRecDepth 100000 in
theorem kX2_fees (l : Launch) (hlt : l.stackTraces = false) {D : va_G} {cI cO cL cJ : ClassId} (g : XG) (X : MS) (hz sz : Nat) (d bk : Nat) (hd : g 3 0 = some d) (hbk : g 4 0 = some bk) (n : Nat) (kc : Nat → Nat) (hC : xC g X n kc) (p0 : Int32) : vx_Met l yX2_fees wsX2_fees ({ frames := 7, cells := 1, slots := 6, locals := 104 } : Room) (xP D cI cO cL cJ g X hz sz [.ref d, .int p0]) (vp_Si (fun r : Int32 => ∃ k, k < n ∧ p0 = nI k ∧ r = X 10 k)) (xT (fun E : String => noO n p0 E)) 1 6 (fun _ => False) := by
  refine x_body (cc := cX2_fees) (maxL := 2) (ret := some .int) (by decide) rfl [.ref d, .int p0] (Nat.le_of_ble_eq_true rfl) ?_
  intro p e s m args below meth c hx hb hr hts hown hml hlocks htab hsz hW hK hE ls hl
  subst hsz
  have hown : s.vm.findClass RX2 = some m.cls := hown
  have hl : lv_has ls 2 [(0, .ref d), (1, .int p0)] := hl
  have hin1 : ∀ w ∈ u_ws RX1 TX1 12, w ∈ wsX2_fees := (fun w h => List.mem_cons_of_mem _ (List.mem_append_left _ (List.mem_append_left _ (List.mem_append_right _ (h)))))
  have hin2 : ∀ w ∈ u_ws RX2 TX2 6, w ∈ wsX2_fees := (fun w h => List.mem_cons_of_mem _ (List.mem_append_left _ (List.mem_append_right _ (h))))
  refine lv_aload_n hx hb dX2_fees_0 rfl (lv_at hl 0 rfl) ?_
  refine lv_iload_n hx hb dX2_fees_1 rfl (lv_at hl 1 rfl) ?_
  refine x_cR (vx_runV (As := [.int p0]) (rest := []) (b := d) ⟨hx, hb, hml, hown, hts⟩ (kX2_findOrder l hlt g X hz _ d bk hd hbk n hC.1 hC.2.2.1 p0) (cwV 1 hts gX2_fees_X2_findOrder rfl rfl rfl (by decide +kernel) ⟨Nat.le_of_ble_eq_true rfl, Nat.le_of_ble_eq_true rfl⟩) (x_preV hW hK hE (x_recvD hK hW hd)) rfl rfl hl.1 rfl (lv_room (Nat.le_of_ble_eq_true rfl)) dX2_fees_2 ⟨Nat.le_of_ble_eq_true rfl, Nat.le_of_ble_eq_true rfl⟩) (va_S.rf (A := fun _ => True)) (fun E ce q9 H1 locs1 hc hz1 hk1 hS1 hL1 hce hcv hcl => x_prop htab hlocks hce hcv hcl hz1 hk1 (fun z h => (hL1 z h).elim (fun h => nomatch h) (fun h => h.elim)) ⟨Nat.le_of_ble_eq_true rfl, Nat.le_of_ble_eq_true rfl⟩ hc) (fun ao hp => ?_)
  obtain ⟨k, hk, hp0, ho⟩ := hp
  subst hp0
  obtain ⟨hkk, hX7, ⟨la, hla⟩, hln⟩ := hC.2.2.2 k hk
  refine f_get (ci := 1) (fs := xobO g X k) (v := .int (X 10 k)) hx hb hts hin1 hown hK (hW 0 k _ ho) rfl 6 (by decide) (hts (.fieldLink RX2 87 "ReturnsDesk$Order" "fees" "I") (List.mem_of_getElem? (i := 1) rfl)) (fun _ h9 => h9) rfl dX2_fees_5 ?_
  exact xr_ret hx hb hr hlocks ⟨Nat.le_of_ble_eq_true rfl, Nat.le_of_ble_eq_true rfl⟩ ⟨k, hk, rfl, rfl⟩ dX2_fees_8
set_option maxHeartbeats 4000000 in
set_option maxRecDepth 100000 in
theorem kX2_charges (l : Launch) (hlt : l.stackTraces = false) {D : va_G} {cI cO cL cJ : ClassId} (g : XG) (X : MS) (hz sz : Nat) (d bk : Nat) (hd : g 3 0 = some d) (hbk : g 4 0 = some bk) (n : Nat) (kc : Nat → Nat) (hC : xC g X n kc) (p0 : Int32) : vx_Met l yX2_charges wsX2_charges ({ frames := 7, cells := 1, slots := 6, locals := 104 } : Room) (xP D cI cO cL cJ g X hz sz [.ref d, .int p0]) (vp_Si (fun r : Int32 => ∃ k, k < n ∧ p0 = nI k ∧ r = X 11 k)) (xT (fun E : String => noO n p0 E)) 1 6 (fun _ => False) := by
  refine x_body (cc := cX2_charges) (maxL := 2) (ret := some .int) (by decide) rfl [.ref d, .int p0] (Nat.le_of_ble_eq_true rfl) ?_
  intro p e s m args below meth c hx hb hr hts hown hml hlocks htab hsz hW hK hE ls hl
  subst hsz
  have hown : s.vm.findClass RX2 = some m.cls := hown
  have hl : lv_has ls 2 [(0, .ref d), (1, .int p0)] := hl
  have hin1 : ∀ w ∈ u_ws RX1 TX1 12, w ∈ wsX2_charges := (fun w h => List.mem_cons_of_mem _ (List.mem_append_left _ (List.mem_append_left _ (List.mem_append_right _ (h)))))
  have hin2 : ∀ w ∈ u_ws RX2 TX2 6, w ∈ wsX2_charges := (fun w h => List.mem_cons_of_mem _ (List.mem_append_left _ (List.mem_append_right _ (h))))
  refine lv_aload_n hx hb dX2_charges_0 rfl (lv_at hl 0 rfl) ?_
  refine lv_iload_n hx hb dX2_charges_1 rfl (lv_at hl 1 rfl) ?_
  refine x_cR (vx_runV (As := [.int p0]) (rest := []) (b := d) ⟨hx, hb, hml, hown, hts⟩ (kX2_findOrder l hlt g X hz _ d bk hd hbk n hC.1 hC.2.2.1 p0) (cwV 1 hts gX2_charges_X2_findOrder rfl rfl rfl (by decide +kernel) ⟨Nat.le_of_ble_eq_true rfl, Nat.le_of_ble_eq_true rfl⟩) (x_preV hW hK hE (x_recvD hK hW hd)) rfl rfl hl.1 rfl (lv_room (Nat.le_of_ble_eq_true rfl)) dX2_charges_2 ⟨Nat.le_of_ble_eq_true rfl, Nat.le_of_ble_eq_true rfl⟩) (va_S.rf (A := fun _ => True)) (fun E ce q9 H1 locs1 hc hz1 hk1 hS1 hL1 hce hcv hcl => x_prop htab hlocks hce hcv hcl hz1 hk1 (fun z h => (hL1 z h).elim (fun h => nomatch h) (fun h => h.elim)) ⟨Nat.le_of_ble_eq_true rfl, Nat.le_of_ble_eq_true rfl⟩ hc) (fun ao hp => ?_)
  obtain ⟨k, hk, hp0, ho⟩ := hp
  subst hp0
  obtain ⟨hkk, hX7, ⟨la, hla⟩, hln⟩ := hC.2.2.2 k hk
  refine f_get (ci := 1) (fs := xobO g X k) (v := .int (X 11 k)) hx hb hts hin1 hown hK (hW 0 k _ ho) rfl 7 (by decide) (hts (.fieldLink RX2 110 "ReturnsDesk$Order" "charges" "I") (List.mem_of_getElem? (i := 1) rfl)) (fun _ h9 => h9) rfl dX2_charges_5 ?_
  exact xr_ret hx hb hr hlocks ⟨Nat.le_of_ble_eq_true rfl, Nat.le_of_ble_eq_true rfl⟩ ⟨k, hk, rfl, rfl⟩ dX2_charges_8
set_option maxHeartbeats 4000000 in
set_option maxRecDepth 100000 in
theorem kX2_refunded (l : Launch) (hlt : l.stackTraces = false) {D : va_G} {cI cO cL cJ : ClassId} (g : XG) (X : MS) (hz sz : Nat) (d bk : Nat) (hd : g 3 0 = some d) (hbk : g 4 0 = some bk) (n : Nat) (kc : Nat → Nat) (hC : xC g X n kc) (p0 : Int32) : vx_Met l yX2_refunded wsX2_refunded ({ frames := 7, cells := 1, slots := 6, locals := 104 } : Room) (xP D cI cO cL cJ g X hz sz [.ref d, .int p0]) (vp_Si (fun r : Int32 => ∃ k, k < n ∧ p0 = nI k ∧ r = X 12 k)) (xT (fun E : String => noO n p0 E)) 1 6 (fun _ => False) := by
  refine x_body (cc := cX2_refunded) (maxL := 2) (ret := some .int) (by decide) rfl [.ref d, .int p0] (Nat.le_of_ble_eq_true rfl) ?_
  intro p e s m args below meth c hx hb hr hts hown hml hlocks htab hsz hW hK hE ls hl
  subst hsz
  have hown : s.vm.findClass RX2 = some m.cls := hown
  have hl : lv_has ls 2 [(0, .ref d), (1, .int p0)] := hl
  have hin1 : ∀ w ∈ u_ws RX1 TX1 12, w ∈ wsX2_refunded := (fun w h => List.mem_cons_of_mem _ (List.mem_append_left _ (List.mem_append_left _ (List.mem_append_right _ (h)))))
  have hin2 : ∀ w ∈ u_ws RX2 TX2 6, w ∈ wsX2_refunded := (fun w h => List.mem_cons_of_mem _ (List.mem_append_left _ (List.mem_append_right _ (h))))
  refine lv_aload_n hx hb dX2_refunded_0 rfl (lv_at hl 0 rfl) ?_
  refine lv_iload_n hx hb dX2_refunded_1 rfl (lv_at hl 1 rfl) ?_
  refine x_cR (vx_runV (As := [.int p0]) (rest := []) (b := d) ⟨hx, hb, hml, hown, hts⟩ (kX2_findOrder l hlt g X hz _ d bk hd hbk n hC.1 hC.2.2.1 p0) (cwV 1 hts gX2_refunded_X2_findOrder rfl rfl rfl (by decide +kernel) ⟨Nat.le_of_ble_eq_true rfl, Nat.le_of_ble_eq_true rfl⟩) (x_preV hW hK hE (x_recvD hK hW hd)) rfl rfl hl.1 rfl (lv_room (Nat.le_of_ble_eq_true rfl)) dX2_refunded_2 ⟨Nat.le_of_ble_eq_true rfl, Nat.le_of_ble_eq_true rfl⟩) (va_S.rf (A := fun _ => True)) (fun E ce q9 H1 locs1 hc hz1 hk1 hS1 hL1 hce hcv hcl => x_prop htab hlocks hce hcv hcl hz1 hk1 (fun z h => (hL1 z h).elim (fun h => nomatch h) (fun h => h.elim)) ⟨Nat.le_of_ble_eq_true rfl, Nat.le_of_ble_eq_true rfl⟩ hc) (fun ao hp => ?_)
  obtain ⟨k, hk, hp0, ho⟩ := hp
  subst hp0
  obtain ⟨hkk, hX7, ⟨la, hla⟩, hln⟩ := hC.2.2.2 k hk
  refine f_get (ci := 1) (fs := xobO g X k) (v := .int (X 12 k)) hx hb hts hin1 hown hK (hW 0 k _ ho) rfl 8 (by decide) (hts (.fieldLink RX2 119 "ReturnsDesk$Order" "refunded" "I") (List.mem_of_getElem? (i := 1) rfl)) (fun _ h9 => h9) rfl dX2_refunded_5 ?_
  exact xr_ret hx hb hr hlocks ⟨Nat.le_of_ble_eq_true rfl, Nat.le_of_ble_eq_true rfl⟩ ⟨k, hk, rfl, rfl⟩ dX2_refunded_8
set_option maxHeartbeats 4000000 in
set_option maxRecDepth 100000 in
theorem kX2_orders (l : Launch) {D : va_G} {cI cO cL cJ : ClassId} (g : XG) (X : MS) (hz sz : Nat) (d bk : Nat) (hd : g 3 0 = some d) (hbk : g 4 0 = some bk)  : Met l yX2_orders wsX2_orders ({ frames := 0, cells := 0, slots := 0, locals := 0 } : Room) (xP D cI cO cL cJ g X hz sz [.ref d]) (vp_Si (fun r : Int32 => r = X 0 0)) 0 0 (fun _ => False) := by
  refine x_bodyM (cc := cX2_orders) (maxL := 1) (ret := some .int) (by decide) rfl [.ref d] (Nat.le_of_ble_eq_true rfl) ?_
  intro p e s m args below meth c hx hb hr hts hown hml hlocks hsz hW hK hE ls hl
  subst hsz
  have hown : s.vm.findClass RX2 = some m.cls := hown
  have hl : lv_has ls 1 [(0, .ref d)] := hl
  have hin2 : ∀ w ∈ u_ws RX2 TX2 6, w ∈ wsX2_orders := (fun w h => List.mem_cons_of_mem _ (List.mem_append_right _ (h)))
  refine lv_aload_n hx hb dX2_orders_0 rfl (lv_at hl 0 rfl) ?_
  refine f_get (ci := 2) (fs := xobD g X 0) (v := .int (X 0 0)) hx hb hts hin2 hown hK (hW 3 0 _ hd) rfl 1 (by decide) (hts (.fieldLink RX2 20 "ReturnsDesk" "orderCount" "I") (List.mem_of_getElem? (i := 1) rfl)) (fun _ h9 => h9) rfl dX2_orders_1 ?_
  exact r_ret hx hb hr hlocks rfl dX2_orders_4
set_option maxHeartbeats 4000000 in
set_option maxRecDepth 100000 in
theorem kX2_day (l : Launch) {D : va_G} {cI cO cL cJ : ClassId} (g : XG) (X : MS) (hz sz : Nat) (d bk : Nat) (hd : g 3 0 = some d) (hbk : g 4 0 = some bk)  : Met l yX2_day wsX2_day ({ frames := 0, cells := 0, slots := 0, locals := 0 } : Room) (xP D cI cO cL cJ g X hz sz [.ref d]) (vp_Si (fun r : Int32 => r = X 1 0)) 0 0 (fun _ => False) := by
  refine x_bodyM (cc := cX2_day) (maxL := 1) (ret := some .int) (by decide) rfl [.ref d] (Nat.le_of_ble_eq_true rfl) ?_
  intro p e s m args below meth c hx hb hr hts hown hml hlocks hsz hW hK hE ls hl
  subst hsz
  have hown : s.vm.findClass RX2 = some m.cls := hown
  have hl : lv_has ls 1 [(0, .ref d)] := hl
  have hin2 : ∀ w ∈ u_ws RX2 TX2 6, w ∈ wsX2_day := (fun w h => List.mem_cons_of_mem _ (List.mem_append_right _ (h)))
  refine lv_aload_n hx hb dX2_day_0 rfl (lv_at hl 0 rfl) ?_
  refine f_get (ci := 2) (fs := xobD g X 0) (v := .int (X 1 0)) hx hb hts hin2 hown hK (hW 3 0 _ hd) rfl 2 (by decide) (hts (.fieldLink RX2 61 "ReturnsDesk" "today" "I") (List.mem_of_getElem? (i := 1) rfl)) (fun _ h9 => h9) rfl dX2_day_1 ?_
  exact r_ret hx hb hr hlocks rfl dX2_day_4
set_option maxHeartbeats 4000000 in
set_option maxRecDepth 100000 in
theorem kX2_isShortBy (l : Launch) (hlt : l.stackTraces = false) {D : va_G} {cI cO cL cJ : ClassId} (g : XG) (X : MS) (hz sz : Nat) (d bk : Nat) (hd : g 3 0 = some d) (hbk : g 4 0 = some bk) (n : Nat) (kc : Nat → Nat) (hC : xC g X n kc) (p0 : Int32) : vx_Met l yX2_isShortBy wsX2_isShortBy ({ frames := 7, cells := 1, slots := 6, locals := 104 } : Room) (xP D cI cO cL cJ g X hz sz [.ref d, .int p0]) (vp_Si (fun r : Int32 => ∃ k, k < n ∧ p0 = nI k ∧ r = shX X k (kc k))) (xT (fun E : String => noO n p0 E)) 1 6 (fun _ => False) := by
  refine x_body (cc := cX2_isShortBy) (maxL := 3) (ret := some .int) (by decide) rfl [.ref d, .int p0] (Nat.le_of_ble_eq_true rfl) ?_
  intro p e s m args below meth c hx hb hr hts hown hml hlocks htab hsz hW hK hE ls hl
  subst hsz
  have hown : s.vm.findClass RX2 = some m.cls := hown
  have hl : lv_has ls 3 [(0, .ref d), (1, .int p0)] := hl
  have hin0 : ∀ w ∈ u_ws RX0 TX0 5, w ∈ wsX2_isShortBy := (fun w h => List.mem_cons_of_mem _ (List.mem_append_left _ (List.mem_append_right _ (h))))
  have hin1 : ∀ w ∈ u_ws RX1 TX1 12, w ∈ wsX2_isShortBy := (fun w h => List.mem_cons_of_mem _ (List.mem_append_left _ (List.mem_append_left _ (List.mem_append_left _ (List.mem_append_right _ (h))))))
  have hin2 : ∀ w ∈ u_ws RX2 TX2 6, w ∈ wsX2_isShortBy := (fun w h => List.mem_cons_of_mem _ (List.mem_append_left _ (List.mem_append_left _ (List.mem_append_right _ (h)))))
  refine lv_aload_n hx hb dX2_isShortBy_0 rfl (lv_at hl 0 rfl) ?_
  refine lv_iload_n hx hb dX2_isShortBy_1 rfl (lv_at hl 1 rfl) ?_
  refine x_cR (vx_runV (As := [.int p0]) (rest := []) (b := d) ⟨hx, hb, hml, hown, hts⟩ (kX2_findOrder l hlt g X hz _ d bk hd hbk n hC.1 hC.2.2.1 p0) (cwV 1 hts gX2_isShortBy_X2_findOrder rfl rfl rfl (by decide +kernel) ⟨Nat.le_of_ble_eq_true rfl, Nat.le_of_ble_eq_true rfl⟩) (x_preV hW hK hE (x_recvD hK hW hd)) rfl rfl hl.1 rfl (lv_room (Nat.le_of_ble_eq_true rfl)) dX2_isShortBy_2 ⟨Nat.le_of_ble_eq_true rfl, Nat.le_of_ble_eq_true rfl⟩) (va_S.rf (A := fun _ => True)) (fun E ce q9 H1 locs1 hc hz1 hk1 hS1 hL1 hce hcv hcl => x_prop htab hlocks hce hcv hcl hz1 hk1 (fun z h => (hL1 z h).elim (fun h => nomatch h) (fun h => h.elim)) ⟨Nat.le_of_ble_eq_true rfl, Nat.le_of_ble_eq_true rfl⟩ hc) (fun ao hp => ?_)
  obtain ⟨k, hk, hp0, ho⟩ := hp
  subst hp0
  obtain ⟨hkk, hX7, ⟨la, hla⟩, hln⟩ := hC.2.2.2 k hk
  refine lv_astore_n (lv' := [(2, .ref ao), (0, .ref d), (1, .int (nI k))]) hx hb dX2_isShortBy_5 rfl hl (by decide) rfl (fun ls hl => ?_)
  refine lv_aload_n hx hb dX2_isShortBy_6 rfl (lv_at hl 0 rfl) ?_
  refine f_get (ci := 1) (fs := xobO g X k) (v := .int (X 8 k)) hx hb hts hin1 hown hK (hW 0 k _ ho) rfl 4 (by decide) (hts (.fieldLink RX2 39 "ReturnsDesk$Order" "isPaid" "Z") (List.mem_of_getElem? (i := 1) rfl)) (fun _ h9 => h9) rfl dX2_isShortBy_7 ?_
  refine lv_if_eq (tgt := 29) hx hb dX2_isShortBy_10 (by decide) (fun c10 => ?_) (fun c10 => ?_)
  · skip
    refine lv_iconst (v := 0) hx hb dX2_isShortBy_29 (by decide) ?_
    exact xr_ret hx hb hr hlocks ⟨Nat.le_of_ble_eq_true rfl, Nat.le_of_ble_eq_true rfl⟩ ⟨k, hk, rfl, (by unfold shX; rw [if_pos c10] <;> rfl)⟩ dX2_isShortBy_30
  · skip
    refine lv_aload_n hx hb dX2_isShortBy_13 rfl (lv_at hl 0 rfl) ?_
    refine vp_callSi (va_runV (As := []) (rest := []) (b := ao) ⟨hx, hb, hml, hown, hts⟩ (kX1_owed l g X hz _ ao la k ho hla (kc k) hkk hln) (cwV 0 hts gX2_isShortBy_X1_owed rfl rfl rfl (by decide +kernel) ⟨Nat.le_of_ble_eq_true rfl, Nat.le_of_ble_eq_true rfl⟩) (x_preV hW hK hE (x_recvO hK hW ho)) rfl rfl hl.1 rfl (lv_room (Nat.le_of_ble_eq_true rfl)) dX2_isShortBy_14 ⟨Nat.le_of_ble_eq_true rfl, Nat.le_of_ble_eq_true rfl⟩).run (fun r hp => ?_)
    subst hp
    refine lv_aload_n hx hb dX2_isShortBy_17 rfl (lv_at hl 0 rfl) ?_
    refine vp_callSi (va_runV (As := []) (rest := [.int (owedX X k (kc k))]) (b := ao) ⟨hx, hb, hml, hown, hts⟩ (kX1_allTaken l g X hz _ ao la k ho hla) (cwV 0 hts gX2_isShortBy_X1_allTaken rfl rfl rfl (by decide +kernel) ⟨Nat.le_of_ble_eq_true rfl, Nat.le_of_ble_eq_true rfl⟩) (x_preV hW hK hE (x_recvO hK hW ho)) rfl rfl hl.1 rfl (lv_room (Nat.le_of_ble_eq_true rfl)) dX2_isShortBy_18 ⟨Nat.le_of_ble_eq_true rfl, Nat.le_of_ble_eq_true rfl⟩).run (fun r hp => ?_)
    subst hp
    refine lv_isub hx hb dX2_isShortBy_21 ?_
    refine lv_iconst (v := 0) hx hb dX2_isShortBy_22 (by decide) ?_
    refine va_mmax hx hb (hml.trans hl.1.symm) hown (hts (.methodLink RX2 128 Lib.Math.max.name) (List.mem_of_getElem? (i := 2) rfl)) (hts (.static Lib.Math.max.name) (List.mem_of_getElem? (i := 3) rfl)) (hts (.initialized "java/lang/Math") (List.mem_of_getElem? (i := 4) rfl)) (hts (.code Lib.Math.max.name Lib.Math.max.code 2 (some .int)) (List.mem_of_getElem? (i := 5) rfl)) (Nat.le_of_ble_eq_true rfl) (Nat.le_of_ble_eq_true rfl) (Nat.le_of_ble_eq_true rfl) (Nat.le_of_ble_eq_true rfl) dX2_isShortBy_23 ?_
    refine cv (y := maxI ((owedX X k (kc k)) - (takenX X k)) 0) rfl ?_
    refine lv_goto (tgt := 30) hx hb dX2_isShortBy_26 (by decide) ?_
    exact xr_ret hx hb hr hlocks ⟨Nat.le_of_ble_eq_true rfl, Nat.le_of_ble_eq_true rfl⟩ ⟨k, hk, rfl, (by unfold shX; rw [if_neg c10] <;> rfl)⟩ dX2_isShortBy_30
set_option maxHeartbeats 4000000 in
set_option maxRecDepth 100000 in
theorem kX2_stock (l : Launch) (hlt : l.stackTraces = false) {D : va_G} {cI cO cL cJ : ClassId} (g : XG) (X : MS) (hz sz : Nat) (d bk : Nat) (hd : g 3 0 = some d) (hbk : g 4 0 = some bk) (p0 : Int32) : vx_Met l yX2_stock wsX2_stock ({ frames := 7, cells := 1, slots := 6, locals := 104 } : Room) (xP D cI cO cL cJ g X hz sz [.ref d, .int p0]) (vp_Si (fun r : Int32 => inR p0 0 2 ∧ r = stX X p0)) (xT (fun E : String => E = IAE ∧ ¬ inR p0 0 2)) 1 6 (fun _ => False) := by
  refine x_body (cc := cX2_stock) (maxL := 2) (ret := some .int) (by decide) rfl [.ref d, .int p0] (Nat.le_of_ble_eq_true rfl) ?_
  intro p e s m args below meth c hx hb hr hts hown hml hlocks htab hsz hW hK hE ls hl
  subst hsz
  have hown : s.vm.findClass RX2 = some m.cls := hown
  have hl : lv_has ls 2 [(0, .ref d), (1, .int p0)] := hl
  have hin2 : ∀ w ∈ u_ws RX2 TX2 6, w ∈ wsX2_stock := (fun w h => List.mem_cons_of_mem _ (List.mem_append_left _ (List.mem_append_right _ (h))))
  refine lv_iload_n hx hb dX2_stock_0 rfl (lv_at hl 1 rfl) ?_
  refine lv_iconst (v := 0) hx hb dX2_stock_1 (by decide) ?_
  refine lv_iconst (v := 2) hx hb dX2_stock_2 (by decide) ?_
  refine x_cV (vx_runS (As := [.int p0, .int 0, .int 2]) (rest := []) ⟨hx, hb, hml, hown, hts⟩ (kX2_requireRange l hlt g X hz _ p0 0 2) (va_cwS 3 hts gX2_stock_X2_requireRange rfl rfl rfl (by decide +kernel) ⟨Nat.le_of_ble_eq_true rfl, Nat.le_of_ble_eq_true rfl⟩) (x_preS hW hK hE) rfl rfl hl.1 rfl (lv_room (Nat.le_of_ble_eq_true rfl)) dX2_stock_3 ⟨Nat.le_of_ble_eq_true rfl, Nat.le_of_ble_eq_true rfl⟩) (va_S.rf (A := fun _ => True)) (fun E ce q9 H1 locs1 hc hz1 hk1 hS1 hL1 hce hcv hcl => x_prop htab hlocks hce hcv hcl hz1 hk1 (fun z h => (hL1 z h).elim (fun h => nomatch h) (fun h => h.elim)) ⟨Nat.le_of_ble_eq_true rfl, Nat.le_of_ble_eq_true rfl⟩ hc) (fun h3 => ?_)
  refine lv_iload_n hx hb dX2_stock_6 rfl (lv_at hl 1 rfl) ?_
  refine lv_if_ne (tgt := 15) hx hb dX2_stock_7 (by decide) (fun c7 => ?_) (fun c7 => ?_)
  · skip
    refine lv_iload_n hx hb dX2_stock_15 rfl (lv_at hl 1 rfl) ?_
    refine lv_iconst (v := 1) hx hb dX2_stock_16 (by decide) ?_
    refine lv_icmp_ne (tgt := 27) hx hb dX2_stock_17 (by decide) (fun c17 => ?_) (fun c17 => ?_)
    · skip
      refine lv_aload_n hx hb dX2_stock_27 rfl (lv_at hl 0 rfl) ?_
      refine f_get (ci := 2) (fs := xobD g X 0) (v := .int (X 4 0)) hx hb hts hin2 hown hK (hW 3 0 _ hd) rfl 5 (by decide) (hts (.fieldLink RX2 140 "ReturnsDesk" "wasteThings" "I") (List.mem_of_getElem? (i := 3) rfl)) (fun _ h9 => h9) rfl dX2_stock_28 ?_
      exact xr_ret hx hb hr hlocks ⟨Nat.le_of_ble_eq_true rfl, Nat.le_of_ble_eq_true rfl⟩ ⟨h3, (by unfold stX; rw [if_neg c7, if_neg c17] <;> rfl)⟩ dX2_stock_31
    · skip
      refine lv_aload_n hx hb dX2_stock_20 rfl (lv_at hl 0 rfl) ?_
      refine f_get (ci := 2) (fs := xobD g X 0) (v := .int (X 3 0)) hx hb hts hin2 hown hK (hW 3 0 _ hd) rfl 4 (by decide) (hts (.fieldLink RX2 137 "ReturnsDesk" "secondThings" "I") (List.mem_of_getElem? (i := 2) rfl)) (fun _ h9 => h9) rfl dX2_stock_21 ?_
      refine lv_goto (tgt := 31) hx hb dX2_stock_24 (by decide) ?_
      exact xr_ret hx hb hr hlocks ⟨Nat.le_of_ble_eq_true rfl, Nat.le_of_ble_eq_true rfl⟩ ⟨h3, (by unfold stX; rw [if_neg c7, if_pos c17] <;> rfl)⟩ dX2_stock_31
  · skip
    refine lv_aload_n hx hb dX2_stock_10 rfl (lv_at hl 0 rfl) ?_
    refine f_get (ci := 2) (fs := xobD g X 0) (v := .int (X 2 0)) hx hb hts hin2 hown hK (hW 3 0 _ hd) rfl 3 (by decide) (hts (.fieldLink RX2 134 "ReturnsDesk" "newThings" "I") (List.mem_of_getElem? (i := 1) rfl)) (fun _ h9 => h9) rfl dX2_stock_11 ?_
    exact xr_ret hx hb hr hlocks ⟨Nat.le_of_ble_eq_true rfl, Nat.le_of_ble_eq_true rfl⟩ ⟨h3, (by unfold stX; rw [if_pos c7] <;> rfl)⟩ dX2_stock_14
set_option maxHeartbeats 4000000 in
set_option maxRecDepth 100000 in
theorem kX2_taken (l : Launch) (hlt : l.stackTraces = false) {D : va_G} {cI cO cL cJ : ClassId} (g : XG) (X : MS) (hz sz : Nat) (d bk : Nat) (hd : g 3 0 = some d) (hbk : g 4 0 = some bk) (n : Nat) (kc : Nat → Nat) (hC : xC g X n kc) (p0 p1 : Int32) : vx_Met l yX2_taken wsX2_taken ({ frames := 7, cells := 2, slots := 12, locals := 104 } : Room) (xP D cI cO cL cJ g X hz sz [.ref d, .int p0, .int p1]) (vp_Si (fun r : Int32 => ∃ k, k < n ∧ p0 = nI k ∧ inR p1 0 2 ∧ r = tkX X k p1)) (xT (fun E : String => noO n p0 E ∨ (E = IAE ∧ ∃ k, k < n ∧ p0 = nI k ∧ ¬ inR p1 0 2))) 2 12 (fun _ => False) := by
  refine x_body (cc := cX2_taken) (maxL := 4) (ret := some .int) (by decide) rfl [.ref d, .int p0, .int p1] (Nat.le_of_ble_eq_true rfl) ?_
  intro p e s m args below meth c hx hb hr hts hown hml hlocks htab hsz hW hK hE ls hl
  subst hsz
  have hown : s.vm.findClass RX2 = some m.cls := hown
  have hl : lv_has ls 4 [(0, .ref d), (1, .int p0), (2, .int p1)] := hl
  have hin1 : ∀ w ∈ u_ws RX1 TX1 12, w ∈ wsX2_taken := (fun w h => List.mem_cons_of_mem _ (List.mem_append_left _ (List.mem_append_left _ (List.mem_append_left _ (List.mem_append_right _ (h))))))
  have hin2 : ∀ w ∈ u_ws RX2 TX2 6, w ∈ wsX2_taken := (fun w h => List.mem_cons_of_mem _ (List.mem_append_left _ (List.mem_append_left _ (List.mem_append_right _ (h)))))
  refine lv_aload_n hx hb dX2_taken_0 rfl (lv_at hl 0 rfl) ?_
  refine lv_iload_n hx hb dX2_taken_1 rfl (lv_at hl 1 rfl) ?_
  refine x_cR (vx_runV (As := [.int p0]) (rest := []) (b := d) ⟨hx, hb, hml, hown, hts⟩ (kX2_findOrder l hlt g X hz _ d bk hd hbk n hC.1 hC.2.2.1 p0) (cwV 1 hts gX2_taken_X2_findOrder rfl rfl rfl (by decide +kernel) ⟨Nat.le_of_ble_eq_true rfl, Nat.le_of_ble_eq_true rfl⟩) (x_preV hW hK hE (x_recvD hK hW hd)) rfl rfl hl.1 rfl (lv_room (Nat.le_of_ble_eq_true rfl)) dX2_taken_2 ⟨Nat.le_of_ble_eq_true rfl, Nat.le_of_ble_eq_true rfl⟩) (va_S.rf (A := fun _ => True)) (fun E ce q9 H1 locs1 hc hz1 hk1 hS1 hL1 hce hcv hcl => x_prop htab hlocks hce hcv hcl hz1 hk1 (fun z h => (hL1 z h).elim (fun h => nomatch h) (fun h => h.elim)) ⟨Nat.le_of_ble_eq_true rfl, Nat.le_of_ble_eq_true rfl⟩ (Or.inl hc)) (fun ao hp => ?_)
  obtain ⟨k, hk, hp0, ho⟩ := hp
  subst hp0
  obtain ⟨hkk, hX7, ⟨la, hla⟩, hln⟩ := hC.2.2.2 k hk
  refine lv_astore_n (lv' := [(3, .ref ao), (0, .ref d), (1, .int (nI k)), (2, .int p1)]) hx hb dX2_taken_5 rfl hl (by decide) rfl (fun ls hl => ?_)
  refine lv_iload_n hx hb dX2_taken_6 rfl (lv_at hl 3 rfl) ?_
  refine lv_iconst (v := 0) hx hb dX2_taken_7 (by decide) ?_
  refine lv_iconst (v := 2) hx hb dX2_taken_8 (by decide) ?_
  refine x_cV (vx_runS (As := [.int p1, .int 0, .int 2]) (rest := []) ⟨hx, hb, hml, hown, hts⟩ (kX2_requireRange l hlt g X hz _ p1 0 2) (va_cwS 3 hts gX2_taken_X2_requireRange rfl rfl rfl (by decide +kernel) ⟨Nat.le_of_ble_eq_true rfl, Nat.le_of_ble_eq_true rfl⟩) (x_preS hW hK hE) rfl rfl hl.1 rfl (lv_room (Nat.le_of_ble_eq_true rfl)) dX2_taken_9 ⟨Nat.le_of_ble_eq_true rfl, Nat.le_of_ble_eq_true rfl⟩) (va_S.rf (A := fun _ => True)) (fun E ce q9 H1 locs1 hc hz1 hk1 hS1 hL1 hce hcv hcl => x_prop htab hlocks hce hcv hcl hz1 hk1 (fun z h => (hL1 z h).elim (fun h => nomatch h) (fun h => h.elim)) ⟨Nat.le_of_ble_eq_true rfl, Nat.le_of_ble_eq_true rfl⟩ (Or.inr ⟨hc.1, k, hk, rfl, hc.2⟩)) (fun h9 => ?_)
  refine lv_iload_n hx hb dX2_taken_12 rfl (lv_at hl 3 rfl) ?_
  refine lv_if_ne (tgt := 21) hx hb dX2_taken_13 (by decide) (fun c13 => ?_) (fun c13 => ?_)
  · skip
    refine lv_iload_n hx hb dX2_taken_21 rfl (lv_at hl 3 rfl) ?_
    refine lv_iconst (v := 1) hx hb dX2_taken_22 (by decide) ?_
    refine lv_icmp_ne (tgt := 33) hx hb dX2_taken_23 (by decide) (fun c23 => ?_) (fun c23 => ?_)
    · skip
      refine lv_aload_n hx hb dX2_taken_33 rfl (lv_at hl 0 rfl) ?_
      refine f_get (ci := 1) (fs := xobO g X k) (v := .int (X 15 k)) hx hb hts hin1 hown hK (hW 0 k _ ho) rfl 11 (by decide) (hts (.fieldLink RX2 116 "ReturnsDesk$Order" "byPoints" "I") (List.mem_of_getElem? (i := 3) rfl)) (fun _ h9 => h9) rfl dX2_taken_34 ?_
      exact xr_ret hx hb hr hlocks ⟨Nat.le_of_ble_eq_true rfl, Nat.le_of_ble_eq_true rfl⟩ ⟨k, hk, rfl, h9, (by unfold tkX; rw [if_neg c13, if_neg c23] <;> rfl)⟩ dX2_taken_37
    · skip
      refine lv_aload_n hx hb dX2_taken_26 rfl (lv_at hl 0 rfl) ?_
      refine f_get (ci := 1) (fs := xobO g X k) (v := .int (X 14 k)) hx hb hts hin1 hown hK (hW 0 k _ ho) rfl 10 (by decide) (hts (.fieldLink RX2 113 "ReturnsDesk$Order" "byVoucher" "I") (List.mem_of_getElem? (i := 2) rfl)) (fun _ h9 => h9) rfl dX2_taken_27 ?_
      refine lv_goto (tgt := 37) hx hb dX2_taken_30 (by decide) ?_
      exact xr_ret hx hb hr hlocks ⟨Nat.le_of_ble_eq_true rfl, Nat.le_of_ble_eq_true rfl⟩ ⟨k, hk, rfl, h9, (by unfold tkX; rw [if_neg c13, if_pos c23] <;> rfl)⟩ dX2_taken_37
  · skip
    refine lv_aload_n hx hb dX2_taken_16 rfl (lv_at hl 0 rfl) ?_
    refine f_get (ci := 1) (fs := xobO g X k) (v := .int (X 13 k)) hx hb hts hin1 hown hK (hW 0 k _ ho) rfl 9 (by decide) (hts (.fieldLink RX2 67 "ReturnsDesk$Order" "byCard" "I") (List.mem_of_getElem? (i := 1) rfl)) (fun _ h9 => h9) rfl dX2_taken_17 ?_
    exact xr_ret hx hb hr hlocks ⟨Nat.le_of_ble_eq_true rfl, Nat.le_of_ble_eq_true rfl⟩ ⟨k, hk, rfl, h9, (by unfold tkX; rw [if_pos c13] <;> rfl)⟩ dX2_taken_20
set_option maxHeartbeats 4000000 in
set_option maxRecDepth 100000 in
theorem kX2_state (l : Launch) (hlt : l.stackTraces = false) {D : va_G} {cI cO cL cJ : ClassId} (g : XG) (X : MS) (hz sz : Nat) (d bk : Nat) (hd : g 3 0 = some d) (hbk : g 4 0 = some bk) (n : Nat) (kc : Nat → Nat) (hC : xC g X n kc) (p0 p1 : Int32) : vx_Met l yX2_state wsX2_state ({ frames := 7, cells := 2, slots := 12, locals := 104 } : Room) (xP D cI cO cL cJ g X hz sz [.ref d, .int p0, .int p1]) (vp_Si (fun r : Int32 => ∃ k j, isL n kc p0 p1 k j ∧ r = X 18 (8 * k + j))) (xT (fun E : String => noO n p0 E ∨ noL n kc p0 p1 E)) 2 12 (fun _ => False) := by
  refine x_body (cc := cX2_state) (maxL := 3) (ret := some .int) (by decide) rfl [.ref d, .int p0, .int p1] (Nat.le_of_ble_eq_true rfl) ?_
  intro p e s m args below meth c hx hb hr hts hown hml hlocks htab hsz hW hK hE ls hl
  subst hsz
  have hown : s.vm.findClass RX2 = some m.cls := hown
  have hl : lv_has ls 3 [(0, .ref d), (1, .int p0), (2, .int p1)] := hl
  have hin0 : ∀ w ∈ u_ws RX0 TX0 5, w ∈ wsX2_state := (fun w h => List.mem_cons_of_mem _ (List.mem_append_left _ (List.mem_append_left _ (List.mem_append_left _ (List.mem_append_right _ (h))))))
  have hin1 : ∀ w ∈ u_ws RX1 TX1 12, w ∈ wsX2_state := (fun w h => List.mem_cons_of_mem _ (List.mem_append_left _ (List.mem_append_right _ (h))))
  have hin2 : ∀ w ∈ u_ws RX2 TX2 6, w ∈ wsX2_state := (fun w h => List.mem_cons_of_mem _ (List.mem_append_left _ (List.mem_append_left _ (List.mem_append_right _ (h)))))
  refine lv_aload_n hx hb dX2_state_0 rfl (lv_at hl 0 rfl) ?_
  refine lv_iload_n hx hb dX2_state_1 rfl (lv_at hl 1 rfl) ?_
  refine x_cR (vx_runV (As := [.int p0]) (rest := []) (b := d) ⟨hx, hb, hml, hown, hts⟩ (kX2_findOrder l hlt g X hz _ d bk hd hbk n hC.1 hC.2.2.1 p0) (cwV 1 hts gX2_state_X2_findOrder rfl rfl rfl (by decide +kernel) ⟨Nat.le_of_ble_eq_true rfl, Nat.le_of_ble_eq_true rfl⟩) (x_preV hW hK hE (x_recvD hK hW hd)) rfl rfl hl.1 rfl (lv_room (Nat.le_of_ble_eq_true rfl)) dX2_state_2 ⟨Nat.le_of_ble_eq_true rfl, Nat.le_of_ble_eq_true rfl⟩) (va_S.rf (A := fun _ => True)) (fun E ce q9 H1 locs1 hc hz1 hk1 hS1 hL1 hce hcv hcl => x_prop htab hlocks hce hcv hcl hz1 hk1 (fun z h => (hL1 z h).elim (fun h => nomatch h) (fun h => h.elim)) ⟨Nat.le_of_ble_eq_true rfl, Nat.le_of_ble_eq_true rfl⟩ (Or.inl hc)) (fun ao hp => ?_)
  obtain ⟨k, hk, hp0, ho⟩ := hp
  subst hp0
  obtain ⟨hkk, hX7, ⟨la, hla⟩, hln⟩ := hC.2.2.2 k hk
  refine lv_iload_n hx hb dX2_state_5 rfl (lv_at hl 2 rfl) ?_
  refine x_cR (vx_runS (As := [.ref ao, .int p1]) (rest := []) ⟨hx, hb, hml, hown, hts⟩ (kX2_findLine l hlt g X hz _ ao la k ho hla p1 (kc k) hkk hln) (va_cwS 2 hts gX2_state_X2_findLine rfl rfl rfl (by decide +kernel) ⟨Nat.le_of_ble_eq_true rfl, Nat.le_of_ble_eq_true rfl⟩) (x_preS hW hK hE) rfl rfl hl.1 rfl (lv_room (Nat.le_of_ble_eq_true rfl)) dX2_state_6 ⟨Nat.le_of_ble_eq_true rfl, Nat.le_of_ble_eq_true rfl⟩) (va_S.rf (A := fun _ => True)) (fun E ce q9 H1 locs1 hc hz1 hk1 hS1 hL1 hce hcv hcl => x_prop htab hlocks hce hcv hcl hz1 hk1 (fun z h => (hL1 z h).elim (fun h => nomatch h) (fun h => h.elim)) ⟨Nat.le_of_ble_eq_true rfl, Nat.le_of_ble_eq_true rfl⟩ (Or.inr ⟨hc.1, k, hk, rfl, hc.2⟩)) (fun al hp => ?_)
  obtain ⟨j, hj, hp1, hal⟩ := hp
  subst hp1
  refine f_get (ci := 0) (fs := xobL X (8 * k + j)) (v := .int (X 18 (8 * k + j))) hx hb hts hin0 hown hK (hW 2 (8 * k + j) _ hal) rfl 2 (by decide) (hts (.fieldLink RX2 100 "ReturnsDesk$Line" "state" "I") (List.mem_of_getElem? (i := 1) rfl)) (fun _ h9 => h9) rfl dX2_state_9 ?_
  exact xr_ret hx hb hr hlocks ⟨Nat.le_of_ble_eq_true rfl, Nat.le_of_ble_eq_true rfl⟩ ⟨k, j, ⟨hk, rfl, hj, rfl⟩, rfl⟩ dX2_state_12
set_option maxHeartbeats 4000000 in
set_option maxRecDepth 100000 in
theorem kX2_isReturnable (l : Launch) {D : va_G} {cI cO cL cJ : ClassId} (g : XG) (X : MS) (hz sz : Nat) (d bk : Nat) (hd : g 3 0 = some d) (hbk : g 4 0 = some bk) (ao la k : Nat) (ho : g 0 k = some ao) (hla : g 1 k = some la) (al jj : Nat) (hal : g 2 jj = some al) (w : Int32) : Met l yX2_isReturnable wsX2_isReturnable ({ frames := 1, cells := 0, slots := 0, locals := 21 } : Room) (xP D cI cO cL cJ g X hz sz [.ref d, .ref ao, .ref al, .int w]) (vp_Si (fun r : Int32 => r = retX X k jj w)) 0 0 (fun _ => False) := by
  refine x_bodyM (cc := cX2_isReturnable) (maxL := 4) (ret := some .boolean) (by decide) rfl [.ref d, .ref ao, .ref al, .int w] (Nat.le_of_ble_eq_true rfl) ?_
  intro p e s m args below meth c hx hb hr hts hown hml hlocks hsz hW hK hE ls hl
  subst hsz
  have hown : s.vm.findClass RX2 = some m.cls := hown
  have hl : lv_has ls 4 [(0, .ref d), (1, .ref ao), (2, .ref al), (3, .int w)] := hl
  have hin0 : ∀ w ∈ u_ws RX0 TX0 5, w ∈ wsX2_isReturnable := (fun w h => List.mem_cons_of_mem _ (List.mem_append_left _ (List.mem_append_right _ (h))))
  have hin1 : ∀ w ∈ u_ws RX1 TX1 12, w ∈ wsX2_isReturnable := (fun w h => List.mem_cons_of_mem _ (List.mem_append_left _ (List.mem_append_left _ (List.mem_append_right _ (h)))))
  have hin2 : ∀ w ∈ u_ws RX2 TX2 6, w ∈ wsX2_isReturnable := (fun w h => List.mem_cons_of_mem _ (List.mem_append_right _ (h)))
  refine lv_aload_n hx hb dX2_isReturnable_0 rfl (lv_at hl 1 rfl) ?_
  refine f_get (ci := 1) (fs := xobO g X k) (v := .int (X 8 k)) hx hb hts hin1 hown hK (hW 0 k _ ho) rfl 4 (by decide) (hts (.fieldLink RX2 39 "ReturnsDesk$Order" "isPaid" "Z") (List.mem_of_getElem? (i := 1) rfl)) (fun _ h9 => h9) rfl dX2_isReturnable_1 ?_
  refine lv_if_eq (tgt := 35) hx hb dX2_isReturnable_4 (by decide) (fun c4 => ?_) (fun c4 => ?_)
  · skip
    refine lv_iconst (v := 0) hx hb dX2_isReturnable_35 (by decide) ?_
    exact r_zret hx hb hr hlocks (by decide) (by unfold retX; rw [if_pos c4] <;> rfl) dX2_isReturnable_36
  · skip
    refine lv_aload_n hx hb dX2_isReturnable_7 rfl (lv_at hl 2 rfl) ?_
    refine f_get (ci := 0) (fs := xobL X jj) (v := .int (X 18 jj)) hx hb hts hin0 hown hK (hW 2 jj _ hal) rfl 2 (by decide) (hts (.fieldLink RX2 100 "ReturnsDesk$Line" "state" "I") (List.mem_of_getElem? (i := 2) rfl)) (fun _ h9 => h9) rfl dX2_isReturnable_8 ?_
    refine lv_if_ne (tgt := 35) hx hb dX2_isReturnable_11 (by decide) (fun c11 => ?_) (fun c11 => ?_)
    · skip
      refine lv_iconst (v := 0) hx hb dX2_isReturnable_35 (by decide) ?_
      exact r_zret hx hb hr hlocks (by decide) (by unfold retX; rw [if_neg c4, if_neg c11] <;> rfl) dX2_isReturnable_36
    · skip
      refine lv_aload_n hx hb dX2_isReturnable_14 rfl (lv_at hl 0 rfl) ?_
      refine f_get (ci := 2) (fs := xobD g X 0) (v := .int (X 1 0)) hx hb hts hin2 hown hK (hW 3 0 _ hd) rfl 2 (by decide) (hts (.fieldLink RX2 61 "ReturnsDesk" "today" "I") (List.mem_of_getElem? (i := 3) rfl)) (fun _ h9 => h9) rfl dX2_isReturnable_15 ?_
      refine lv_aload_n hx hb dX2_isReturnable_18 rfl (lv_at hl 1 rfl) ?_
      refine f_get (ci := 1) (fs := xobO g X k) (v := .int (X 9 k)) hx hb hts hin1 hown hK (hW 0 k _ ho) rfl 5 (by decide) (hts (.fieldLink RX2 164 "ReturnsDesk$Order" "paidOn" "I") (List.mem_of_getElem? (i := 4) rfl)) (fun _ h9 => h9) rfl dX2_isReturnable_19 ?_
      refine lv_isub hx hb dX2_isReturnable_22 ?_
      refine lv_aload_n hx hb dX2_isReturnable_23 rfl (lv_at hl 2 rfl) ?_
      refine lv_iload_n hx hb dX2_isReturnable_24 rfl (lv_at hl 3 rfl) ?_
      refine vp_callSi (va_runV (As := [.int w]) (rest := [.int ((X 1 0) - (X 9 k))]) (b := al) ⟨hx, hb, hml, hown, hts⟩ (kX0_spanFor l g X hz _ al jj hal w) (cwV 1 hts gX2_isReturnable_X0_spanFor rfl rfl rfl (by decide +kernel) ⟨Nat.le_of_ble_eq_true rfl, Nat.le_of_ble_eq_true rfl⟩) (x_preV hW hK hE (x_recvL hK hW hal)) rfl rfl hl.1 rfl (lv_room (Nat.le_of_ble_eq_true rfl)) dX2_isReturnable_25 ⟨Nat.le_of_ble_eq_true rfl, Nat.le_of_ble_eq_true rfl⟩).run (fun r hp => ?_)
      subst hp
      refine lv_icmp_gt (tgt := 35) hx hb dX2_isReturnable_28 (by decide) (fun c28 => ?_) (fun c28 => ?_)
      · skip
        refine lv_iconst (v := 0) hx hb dX2_isReturnable_35 (by decide) ?_
        exact r_zret hx hb hr hlocks (by decide) (by unfold retX; rw [if_neg c4, if_pos c11, if_pos c28] <;> rfl) dX2_isReturnable_36
      · skip
        refine lv_iconst (v := 1) hx hb dX2_isReturnable_31 (by decide) ?_
        refine lv_goto (tgt := 36) hx hb dX2_isReturnable_32 (by decide) ?_
        exact r_zret hx hb hr hlocks (by decide) (by unfold retX; rw [if_neg c4, if_pos c11, if_neg c28] <;> rfl) dX2_isReturnable_36
set_option maxHeartbeats 4000000 in
set_option maxRecDepth 100000 in
theorem kX2_mayComeBack (l : Launch) (hlt : l.stackTraces = false) {D : va_G} {cI cO cL cJ : ClassId} (g : XG) (X : MS) (hz sz : Nat) (d bk : Nat) (hd : g 3 0 = some d) (hbk : g 4 0 = some bk) (n : Nat) (kc : Nat → Nat) (hC : xC g X n kc) (p0 p1 p2 : Int32) : vx_Met l yX2_mayComeBack wsX2_mayComeBack ({ frames := 7, cells := 3, slots := 18, locals := 104 } : Room) (xP D cI cO cL cJ g X hz sz [.ref d, .int p0, .int p1, .int p2]) (vp_Si (fun r : Int32 => ∃ k j, isL n kc p0 p1 k j ∧ inR p2 0 1 ∧ r = retX X k (8 * k + j) p2)) (xT (fun E : String => noO n p0 E ∨ noL n kc p0 p1 E ∨ (E = IAE ∧ ∃ k j, isL n kc p0 p1 k j ∧ ¬ inR p2 0 1))) 3 18 (fun _ => False) := by
  refine x_body (cc := cX2_mayComeBack) (maxL := 6) (ret := some .boolean) (by decide) rfl [.ref d, .int p0, .int p1, .int p2] (Nat.le_of_ble_eq_true rfl) ?_
  intro p e s m args below meth c hx hb hr hts hown hml hlocks htab hsz hW hK hE ls hl
  subst hsz
  have hown : s.vm.findClass RX2 = some m.cls := hown
  have hl : lv_has ls 6 [(0, .ref d), (1, .int p0), (2, .int p1), (3, .int p2)] := hl
  have hin0 : ∀ w ∈ u_ws RX0 TX0 5, w ∈ wsX2_mayComeBack := (fun w h => List.mem_cons_of_mem _ (List.mem_append_left _ (List.mem_append_left _ (List.mem_append_right _ (h)))))
  have hin1 : ∀ w ∈ u_ws RX1 TX1 12, w ∈ wsX2_mayComeBack := (fun w h => List.mem_cons_of_mem _ (List.mem_append_left _ (List.mem_append_left _ (List.mem_append_left _ (List.mem_append_right _ (h))))))
  have hin2 : ∀ w ∈ u_ws RX2 TX2 6, w ∈ wsX2_mayComeBack := (fun w h => List.mem_cons_of_mem _ (List.mem_append_left _ (List.mem_append_left _ (List.mem_append_left _ (List.mem_append_left _ (List.mem_append_right _ (h)))))))
  refine lv_aload_n hx hb dX2_mayComeBack_0 rfl (lv_at hl 0 rfl) ?_
  refine lv_iload_n hx hb dX2_mayComeBack_1 rfl (lv_at hl 1 rfl) ?_
  refine x_cR (vx_runV (As := [.int p0]) (rest := []) (b := d) ⟨hx, hb, hml, hown, hts⟩ (kX2_findOrder l hlt g X hz _ d bk hd hbk n hC.1 hC.2.2.1 p0) (cwV 1 hts gX2_mayComeBack_X2_findOrder rfl rfl rfl (by decide +kernel) ⟨Nat.le_of_ble_eq_true rfl, Nat.le_of_ble_eq_true rfl⟩) (x_preV hW hK hE (x_recvD hK hW hd)) rfl rfl hl.1 rfl (lv_room (Nat.le_of_ble_eq_true rfl)) dX2_mayComeBack_2 ⟨Nat.le_of_ble_eq_true rfl, Nat.le_of_ble_eq_true rfl⟩) (va_S.rf (A := fun _ => True)) (fun E ce q9 H1 locs1 hc hz1 hk1 hS1 hL1 hce hcv hcl => x_prop htab hlocks hce hcv hcl hz1 hk1 (fun z h => (hL1 z h).elim (fun h => nomatch h) (fun h => h.elim)) ⟨Nat.le_of_ble_eq_true rfl, Nat.le_of_ble_eq_true rfl⟩ (Or.inl hc)) (fun ao hp => ?_)
  obtain ⟨k, hk, hp0, ho⟩ := hp
  subst hp0
  obtain ⟨hkk, hX7, ⟨la, hla⟩, hln⟩ := hC.2.2.2 k hk
  refine lv_astore (lv' := [(4, .ref ao), (0, .ref d), (1, .int (nI k)), (2, .int p1), (3, .int p2)]) hx hb dX2_mayComeBack_5 hl (by decide) rfl (fun ls hl => ?_)
  refine lv_aload hx hb dX2_mayComeBack_7 (lv_at hl 0 rfl) ?_
  refine lv_iload_n hx hb dX2_mayComeBack_9 rfl (lv_at hl 3 rfl) ?_
  refine x_cR (vx_runS (As := [.ref ao, .int p1]) (rest := []) ⟨hx, hb, hml, hown, hts⟩ (kX2_findLine l hlt g X hz _ ao la k ho hla p1 (kc k) hkk hln) (va_cwS 2 hts gX2_mayComeBack_X2_findLine rfl rfl rfl (by decide +kernel) ⟨Nat.le_of_ble_eq_true rfl, Nat.le_of_ble_eq_true rfl⟩) (x_preS hW hK hE) rfl rfl hl.1 rfl (lv_room (Nat.le_of_ble_eq_true rfl)) dX2_mayComeBack_10 ⟨Nat.le_of_ble_eq_true rfl, Nat.le_of_ble_eq_true rfl⟩) (va_S.rf (A := fun _ => True)) (fun E ce q9 H1 locs1 hc hz1 hk1 hS1 hL1 hce hcv hcl => x_prop htab hlocks hce hcv hcl hz1 hk1 (fun z h => (hL1 z h).elim (fun h => nomatch h) (fun h => h.elim)) ⟨Nat.le_of_ble_eq_true rfl, Nat.le_of_ble_eq_true rfl⟩ (Or.inr (Or.inl ⟨hc.1, k, hk, rfl, hc.2⟩))) (fun al hp => ?_)
  obtain ⟨j, hj, hp1, hal⟩ := hp
  subst hp1
  refine lv_astore (lv' := [(5, .ref al), (4, .ref ao), (0, .ref d), (1, .int (nI k)), (2, .int (nI j)), (3, .int p2)]) hx hb dX2_mayComeBack_13 hl (by decide) rfl (fun ls hl => ?_)
  refine lv_iload_n hx hb dX2_mayComeBack_15 rfl (lv_at hl 5 rfl) ?_
  refine lv_iconst (v := 0) hx hb dX2_mayComeBack_16 (by decide) ?_
  refine lv_iconst (v := 1) hx hb dX2_mayComeBack_17 (by decide) ?_
  refine x_cV (vx_runS (As := [.int p2, .int 0, .int 1]) (rest := []) ⟨hx, hb, hml, hown, hts⟩ (kX2_requireRange l hlt g X hz _ p2 0 1) (va_cwS 3 hts gX2_mayComeBack_X2_requireRange rfl rfl rfl (by decide +kernel) ⟨Nat.le_of_ble_eq_true rfl, Nat.le_of_ble_eq_true rfl⟩) (x_preS hW hK hE) rfl rfl hl.1 rfl (lv_room (Nat.le_of_ble_eq_true rfl)) dX2_mayComeBack_18 ⟨Nat.le_of_ble_eq_true rfl, Nat.le_of_ble_eq_true rfl⟩) (va_S.rf (A := fun _ => True)) (fun E ce q9 H1 locs1 hc hz1 hk1 hS1 hL1 hce hcv hcl => x_prop htab hlocks hce hcv hcl hz1 hk1 (fun z h => (hL1 z h).elim (fun h => nomatch h) (fun h => h.elim)) ⟨Nat.le_of_ble_eq_true rfl, Nat.le_of_ble_eq_true rfl⟩ (Or.inr (Or.inr ⟨hc.1, k, j, ⟨hk, rfl, hj, rfl⟩, hc.2⟩))) (fun h18 => ?_)
  refine lv_aload_n hx hb dX2_mayComeBack_21 rfl (lv_at hl 2 rfl) ?_
  refine lv_aload hx hb dX2_mayComeBack_22 (lv_at hl 1 rfl) ?_
  refine lv_aload hx hb dX2_mayComeBack_24 (lv_at hl 0 rfl) ?_
  refine lv_iload_n hx hb dX2_mayComeBack_26 rfl (lv_at hl 5 rfl) ?_
  refine vp_callSi (va_runV (As := [.ref ao, .ref al, .int p2]) (rest := []) (b := d) ⟨hx, hb, hml, hown, hts⟩ (kX2_isReturnable l g X hz _ d bk hd hbk ao la k ho hla al (8 * k + j) hal p2) (cwV 3 hts gX2_mayComeBack_X2_isReturnable rfl rfl rfl (by decide +kernel) ⟨Nat.le_of_ble_eq_true rfl, Nat.le_of_ble_eq_true rfl⟩) (x_preV hW hK hE (x_recvD hK hW hd)) rfl rfl hl.1 rfl (lv_room (Nat.le_of_ble_eq_true rfl)) dX2_mayComeBack_27 ⟨Nat.le_of_ble_eq_true rfl, Nat.le_of_ble_eq_true rfl⟩).run (fun r hp => ?_)
  subst hp
  exact xr_zret hx hb hr hlocks ⟨Nat.le_of_ble_eq_true rfl, Nat.le_of_ble_eq_true rfl⟩ (retX_01 _ _ _ _) ⟨k, j, ⟨hk, rfl, hj, rfl⟩, h18, rfl⟩ dX2_mayComeBack_30
end
section
/-! THE CLASS: the desk, what writes. -/
set_option maxHeartbeats 4000000 in
set_option maxRecDepth 100000 in
theorem kX2_startWait (l : Launch) (hlt : l.stackTraces = false) {D : va_G} {cI cO cL cJ : ClassId} (g : XG) (X : MS) (hz sz : Nat) (hI : xI g) (hO : xO g hz sz) (d bk : Nat) (hd : g 3 0 = some d) (hbk : g 4 0 = some bk) (n : Nat) (kc : Nat → Nat) (hC : xC g X n kc) (p0 p1 p2 z : Int32) : vx_Met l yX2_startWait wsX2_startWait ({ frames := 7, cells := 4, slots := 24, locals := 104 } : Room) (xP D cI cO cL cJ g X hz sz [.ref d, .int p0, .int p1, .int p2, .int z]) (xQi D cO cL g sz (fun (r : Int32) (X9 : MS) => ∃ k j, isL n kc p0 p1 k j ∧ inR p2 0 1 ∧ ¬ retX X k (8 * k + j) p2 = 0 ∧ r = X 1 0 + 21 ∧ X9 = swX X (8 * k + j) p2 z)) (xT (fun E : String => noO n p0 E ∨ noL n kc p0 p1 E ∨ (E = IAE ∧ ∃ k j, isL n kc p0 p1 k j ∧ ¬ inR p2 0 1) ∨ (E = ISE ∧ ∃ k j, isL n kc p0 p1 k j ∧ inR p2 0 1 ∧ retX X k (8 * k + j) p2 = 0))) 4 24 (xA g sz) := by
  refine x_body (cc := cX2_startWait) (maxL := 7) (ret := some .int) (by decide) rfl [.ref d, .int p0, .int p1, .int p2, .int z] (Nat.le_of_ble_eq_true rfl) ?_
  intro p e s m args below meth c hx hb hr hts hown hml hlocks htab hsz hW hK hE ls hl
  subst hsz
  have hown : s.vm.findClass RX2 = some m.cls := hown
  have hl : lv_has ls 7 [(0, .ref d), (1, .int p0), (2, .int p1), (3, .int p2), (4, .int z)] := hl
  have hin0 : ∀ w ∈ u_ws RX0 TX0 5, w ∈ wsX2_startWait := (fun w h => List.mem_cons_of_mem _ (List.mem_append_left _ (List.mem_append_left _ (List.mem_append_left _ (List.mem_append_left _ (List.mem_append_left _ (List.mem_append_right _ (h))))))))
  have hin1 : ∀ w ∈ u_ws RX1 TX1 12, w ∈ wsX2_startWait := (fun w h => List.mem_cons_of_mem _ (List.mem_append_left _ (List.mem_append_left _ (List.mem_append_left _ (List.mem_append_right _ (h))))))
  have hin2 : ∀ w ∈ u_ws RX2 TX2 6, w ∈ wsX2_startWait := (fun w h => List.mem_cons_of_mem _ (List.mem_append_left _ (List.mem_append_left _ (List.mem_append_left _ (List.mem_append_left _ (List.mem_append_right _ (h)))))))
  have hS : va_S (xA g s.heap.size) s.heap s.heap [] := va_S.rf
  refine lv_aload_n hx hb dX2_startWait_0 rfl (lv_at hl 0 rfl) ?_
  refine lv_iload_n hx hb dX2_startWait_1 rfl (lv_at hl 1 rfl) ?_
  refine x_cR (vx_runV (As := [.int p0]) (rest := []) (b := d) ⟨hx, hb, hml, hown, hts⟩ (kX2_findOrder l hlt g X hz _ d bk hd hbk n hC.1 hC.2.2.1 p0) (cwV 1 hts gX2_startWait_X2_findOrder rfl rfl rfl (by decide +kernel) ⟨Nat.le_of_ble_eq_true rfl, Nat.le_of_ble_eq_true rfl⟩) (x_preV hW hK hE (x_recvD hK hW hd)) rfl rfl hl.1 rfl (lv_room (Nat.le_of_ble_eq_true rfl)) dX2_startWait_2 ⟨Nat.le_of_ble_eq_true rfl, Nat.le_of_ble_eq_true rfl⟩) hS (fun E ce q9 H1 locs1 hc hz1 hk1 hS1 hL1 hce hcv hcl => x_prop htab hlocks hce hcv hcl hz1 hk1 (fun z h => (hL1 z h).elim (fun h => nomatch h) (fun h => h.elim)) ⟨Nat.le_of_ble_eq_true rfl, Nat.le_of_ble_eq_true rfl⟩ (Or.inl hc)) (fun ao hp => ?_)
  obtain ⟨k, hk, hp0, ho⟩ := hp
  subst hp0
  obtain ⟨hkk, hX7, ⟨la, hla⟩, hln⟩ := hC.2.2.2 k hk
  refine lv_astore (lv' := [(5, .ref ao), (0, .ref d), (1, .int (nI k)), (2, .int p1), (3, .int p2), (4, .int z)]) hx hb dX2_startWait_5 hl (by decide) rfl (fun ls hl => ?_)
  refine lv_aload hx hb dX2_startWait_7 (lv_at hl 0 rfl) ?_
  refine lv_iload_n hx hb dX2_startWait_9 rfl (lv_at hl 3 rfl) ?_
  refine x_cR (vx_runS (As := [.ref ao, .int p1]) (rest := []) ⟨hx, hb, hml, hown, hts⟩ (kX2_findLine l hlt g X hz _ ao la k ho hla p1 (kc k) hkk hln) (va_cwS 2 hts gX2_startWait_X2_findLine rfl rfl rfl (by decide +kernel) ⟨Nat.le_of_ble_eq_true rfl, Nat.le_of_ble_eq_true rfl⟩) (x_preS hW hK hE) rfl rfl hl.1 rfl (lv_room (Nat.le_of_ble_eq_true rfl)) dX2_startWait_10 ⟨Nat.le_of_ble_eq_true rfl, Nat.le_of_ble_eq_true rfl⟩) hS (fun E ce q9 H1 locs1 hc hz1 hk1 hS1 hL1 hce hcv hcl => x_prop htab hlocks hce hcv hcl hz1 hk1 (fun z h => (hL1 z h).elim (fun h => nomatch h) (fun h => h.elim)) ⟨Nat.le_of_ble_eq_true rfl, Nat.le_of_ble_eq_true rfl⟩ (Or.inr (Or.inl ⟨hc.1, k, hk, rfl, hc.2⟩))) (fun al hp => ?_)
  obtain ⟨j, hj, hp1, hal⟩ := hp
  subst hp1
  refine lv_astore (lv' := [(6, .ref al), (5, .ref ao), (0, .ref d), (1, .int (nI k)), (2, .int (nI j)), (3, .int p2), (4, .int z)]) hx hb dX2_startWait_13 hl (by decide) rfl (fun ls hl => ?_)
  refine lv_iload_n hx hb dX2_startWait_15 rfl (lv_at hl 5 rfl) ?_
  refine lv_iconst (v := 0) hx hb dX2_startWait_16 (by decide) ?_
  refine lv_iconst (v := 1) hx hb dX2_startWait_17 (by decide) ?_
  refine x_cV (vx_runS (As := [.int p2, .int 0, .int 1]) (rest := []) ⟨hx, hb, hml, hown, hts⟩ (kX2_requireRange l hlt g X hz _ p2 0 1) (va_cwS 3 hts gX2_startWait_X2_requireRange rfl rfl rfl (by decide +kernel) ⟨Nat.le_of_ble_eq_true rfl, Nat.le_of_ble_eq_true rfl⟩) (x_preS hW hK hE) rfl rfl hl.1 rfl (lv_room (Nat.le_of_ble_eq_true rfl)) dX2_startWait_18 ⟨Nat.le_of_ble_eq_true rfl, Nat.le_of_ble_eq_true rfl⟩) hS (fun E ce q9 H1 locs1 hc hz1 hk1 hS1 hL1 hce hcv hcl => x_prop htab hlocks hce hcv hcl hz1 hk1 (fun z h => (hL1 z h).elim (fun h => nomatch h) (fun h => h.elim)) ⟨Nat.le_of_ble_eq_true rfl, Nat.le_of_ble_eq_true rfl⟩ (Or.inr (Or.inr (Or.inl ⟨hc.1, k, j, ⟨hk, rfl, hj, rfl⟩, hc.2⟩)))) (fun h18 => ?_)
  refine lv_aload_n hx hb dX2_startWait_21 rfl (lv_at hl 2 rfl) ?_
  refine lv_aload hx hb dX2_startWait_22 (lv_at hl 1 rfl) ?_
  refine lv_aload hx hb dX2_startWait_24 (lv_at hl 0 rfl) ?_
  refine lv_iload_n hx hb dX2_startWait_26 rfl (lv_at hl 5 rfl) ?_
  refine vp_callSi (va_runV (As := [.ref ao, .ref al, .int p2]) (rest := []) (b := d) ⟨hx, hb, hml, hown, hts⟩ (kX2_isReturnable l g X hz _ d bk hd hbk ao la k ho hla al (8 * k + j) hal p2) (cwV 3 hts gX2_startWait_X2_isReturnable rfl rfl rfl (by decide +kernel) ⟨Nat.le_of_ble_eq_true rfl, Nat.le_of_ble_eq_true rfl⟩) (x_preV hW hK hE (x_recvD hK hW hd)) rfl rfl hl.1 rfl (lv_room (Nat.le_of_ble_eq_true rfl)) dX2_startWait_27 ⟨Nat.le_of_ble_eq_true rfl, Nat.le_of_ble_eq_true rfl⟩).run (fun r hp => ?_)
  subst hp
  refine lv_if_ne (tgt := 43) hx hb dX2_startWait_30 (by decide) (fun c30 => ?_) (fun c30 => ?_)
  · skip
    refine lv_aload hx hb dX2_startWait_43 (lv_at hl 0 rfl) ?_
    refine lv_iload hx hb dX2_startWait_45 (lv_at hl 6 rfl) ?_
    refine x_putL hx hb hts hin0 hown hK hI hW hS hal (Or.inl ⟨2, 8 * k + j, hal⟩) 2 18 (by decide) (hts (.fieldLink RX2 100 "ReturnsDesk$Line" "state" "I") (List.mem_of_getElem? (i := 3) rfl)) (fun _ h9 => h9) dX2_startWait_47 (fun H locs hW hz1 _ hS => ?_)
    refine lv_aload hx hb dX2_startWait_50 (lv_at hl 0 rfl) ?_
    refine lv_iload_n hx hb dX2_startWait_52 rfl (lv_at hl 5 rfl) ?_
    refine x_putL hx hb hts hin0 hown hK hI hW hS hal (Or.inl ⟨2, 8 * k + j, hal⟩) 3 19 (by decide) (hts (.fieldLink RX2 94 "ReturnsDesk$Line" "reason" "I") (List.mem_of_getElem? (i := 4) rfl)) (fun _ h9 => h9) dX2_startWait_53 (fun H locs hW hz1 _ hS => ?_)
    refine lv_aload hx hb dX2_startWait_56 (lv_at hl 0 rfl) ?_
    refine lv_aload_n hx hb dX2_startWait_58 rfl (lv_at hl 2 rfl) ?_
    refine f_get (ci := 2) (fs := xobD g (mu (mu X 18 (8 * k + j) z) 19 (8 * k + j) p2) 0) (v := .int (X 1 0)) hx hb hts hin2 hown hK (hW 3 0 _ hd) rfl 2 (by decide) (hts (.fieldLink RX2 61 "ReturnsDesk" "today" "I") (List.mem_of_getElem? (i := 5) rfl)) (fun _ h9 => h9) (congrArg (fun z => some (Value.int z)) ((mu_f _ _ _ _ (by decide)).trans (mu_f _ _ _ _ (by decide)))) dX2_startWait_59 ?_
    refine lv_bipush (v := 21) hx hb dX2_startWait_62 (by decide) ?_
    refine lv_iadd hx hb dX2_startWait_64 ?_
    refine x_putL hx hb hts hin0 hown hK hI hW hS hal (Or.inl ⟨2, 8 * k + j, hal⟩) 4 20 (by decide) (hts (.fieldLink RX2 172 "ReturnsDesk$Line" "waitEnds" "I") (List.mem_of_getElem? (i := 6) rfl)) (fun _ h9 => h9) dX2_startWait_65 (fun H locs hW hz1 _ hS => ?_)
    refine lv_aload hx hb dX2_startWait_68 (lv_at hl 0 rfl) ?_
    refine f_get (ci := 0) (fs := xobL (mu (mu (mu X 18 (8 * k + j) z) 19 (8 * k + j) p2) 20 (8 * k + j) ((X 1 0) + 21)) (8 * k + j)) (v := .int ((X 1 0) + 21)) hx hb hts hin0 hown hK (hW 2 (8 * k + j) _ hal) rfl 4 (by decide) (hts (.fieldLink RX2 172 "ReturnsDesk$Line" "waitEnds" "I") (List.mem_of_getElem? (i := 6) rfl)) (fun _ h9 => h9) (congrArg (fun z => some (Value.int z)) (mu_s _ _ _ _)) dX2_startWait_70 ?_
    exact xw_ret hx hb hr hlocks ⟨Nat.le_of_ble_eq_true rfl, Nat.le_of_ble_eq_true rfl⟩ hW hS ⟨k, j, ⟨hk, rfl, hj, rfl⟩, h18, c30, rfl, rfl⟩ dX2_startWait_73
  · skip
    exact x_throw (cls := ISE) (text := "the line may not come back") (ik := 24) (is := 170) (ic := 28) hlt hx hb hown hts hE (by decide +kernel) (by decide +kernel) (hts (.classLink RX2 24 "java/lang/IllegalStateException") (List.mem_of_getElem? (i := 1) rfl)) (hts (.initialized "java/lang/IllegalStateException") (List.mem_of_getElem? (i := 2) rfl)) (List.mem_of_getElem? (i := 8) rfl) (fun w h => List.mem_cons_of_mem _ (List.mem_append_left _ (List.mem_append_left _ (List.mem_append_right _ (h))))) tn_S tg_S (hl.1.trans hml.symm) htab hlocks dX2_startWait_33 dX2_startWait_36 dX2_startWait_37 dX2_startWait_39 dX2_startWait_42 ⟨(Nat.le_of_ble_eq_true rfl), (Nat.le_of_ble_eq_true rfl), (Nat.le_of_ble_eq_true rfl), (Nat.le_of_ble_eq_true rfl)⟩ ⟨(Nat.le_of_ble_eq_true rfl), (Nat.le_of_ble_eq_true rfl)⟩ rfl rfl (Or.inr (Or.inr (Or.inr ⟨rfl, k, j, ⟨hk, rfl, hj, rfl⟩, h18, c30⟩)))
set_option maxHeartbeats 4000000 in
set_option maxRecDepth 100000 in
theorem kX2_ask (l : Launch) (hlt : l.stackTraces = false) {D : va_G} {cI cO cL cJ : ClassId} (g : XG) (X : MS) (hz sz : Nat) (hI : xI g) (hO : xO g hz sz) (d bk : Nat) (hd : g 3 0 = some d) (hbk : g 4 0 = some bk) (n : Nat) (kc : Nat → Nat) (hC : xC g X n kc) (p0 p1 p2 : Int32) : vx_Met l yX2_ask wsX2_ask ({ frames := 8, cells := 4, slots := 24, locals := 130 } : Room) (xP D cI cO cL cJ g X hz sz [.ref d, .int p0, .int p1, .int p2]) (xQi D cO cL g sz (fun (r : Int32) (X9 : MS) => ∃ k j, isL n kc p0 p1 k j ∧ inR p2 0 1 ∧ ¬ retX X k (8 * k + j) p2 = 0 ∧ r = X 1 0 + 21 ∧ X9 = swX X (8 * k + j) p2 1)) (xT (fun E : String => noO n p0 E ∨ noL n kc p0 p1 E ∨ (E = IAE ∧ ∃ k j, isL n kc p0 p1 k j ∧ ¬ inR p2 0 1) ∨ (E = ISE ∧ ∃ k j, isL n kc p0 p1 k j ∧ inR p2 0 1 ∧ retX X k (8 * k + j) p2 = 0))) 4 24 (xA g sz) := by
  refine x_body (cc := cX2_ask) (maxL := 4) (ret := some .int) (by decide) rfl [.ref d, .int p0, .int p1, .int p2] (Nat.le_of_ble_eq_true rfl) ?_
  intro p e s m args below meth c hx hb hr hts hown hml hlocks htab hsz hW hK hE ls hl
  subst hsz
  have hown : s.vm.findClass RX2 = some m.cls := hown
  have hl : lv_has ls 4 [(0, .ref d), (1, .int p0), (2, .int p1), (3, .int p2)] := hl
  have hin0 : ∀ w ∈ u_ws RX0 TX0 5, w ∈ wsX2_ask := (fun w h => List.mem_cons_of_mem _ (List.mem_append_left _ (List.mem_append_left _ (List.mem_append_left _ (List.mem_append_left _ (List.mem_append_left _ (List.mem_append_right _ (h))))))))
  have hin1 : ∀ w ∈ u_ws RX1 TX1 12, w ∈ wsX2_ask := (fun w h => List.mem_cons_of_mem _ (List.mem_append_left _ (List.mem_append_left _ (List.mem_append_left _ (List.mem_append_right _ (h))))))
  have hin2 : ∀ w ∈ u_ws RX2 TX2 6, w ∈ wsX2_ask := (fun w h => List.mem_cons_of_mem _ (List.mem_append_left _ (List.mem_append_left _ (List.mem_append_left _ (List.mem_append_left _ (List.mem_append_right _ (h)))))))
  have hS : va_S (xA g s.heap.size) s.heap s.heap [] := va_S.rf
  refine lv_aload_n hx hb dX2_ask_0 rfl (lv_at hl 0 rfl) ?_
  refine lv_iload_n hx hb dX2_ask_1 rfl (lv_at hl 1 rfl) ?_
  refine lv_iload_n hx hb dX2_ask_2 rfl (lv_at hl 2 rfl) ?_
  refine lv_iload_n hx hb dX2_ask_3 rfl (lv_at hl 3 rfl) ?_
  refine lv_iconst (v := 1) hx hb dX2_ask_4 (by decide) ?_
  refine x_cWI (vx_runV (As := [.int p0, .int p1, .int p2, .int 1]) (rest := []) (b := d) ⟨hx, hb, hml, hown, hts⟩ (kX2_startWait l hlt g X hz _ hI ⟨hO.1, Nat.le_trans hO.2 hS.1⟩ d bk hd hbk n kc hC p0 p1 p2 1) (cwV 4 hts gX2_ask_X2_startWait rfl rfl rfl (by decide +kernel) ⟨Nat.le_of_ble_eq_true rfl, Nat.le_of_ble_eq_true rfl⟩) (x_preV hW hK hE (x_recvD hK hW hd)) rfl rfl hl.1 rfl (lv_room (Nat.le_of_ble_eq_true rfl)) dX2_ask_5 ⟨Nat.le_of_ble_eq_true rfl, Nat.le_of_ble_eq_true rfl⟩) hS hS.1 (fun E ce q9 H1 locs1 hc hz1 hk1 hS1 hL1 hce hcv hcl => x_prop htab hlocks hce hcv hcl hz1 hk1 (fun z h => (hL1 z h).elim (fun h => nomatch h) (fun h => h)) ⟨Nat.le_of_ble_eq_true rfl, Nat.le_of_ble_eq_true rfl⟩ hc) (fun r X9 H locs hp hW hz1 _ hS => ?_)
  exact xw_ret hx hb hr hlocks ⟨Nat.le_of_ble_eq_true rfl, Nat.le_of_ble_eq_true rfl⟩ hW hS hp dX2_ask_8
set_option maxHeartbeats 4000000 in
set_option maxRecDepth 100000 in
theorem kX2_exchange (l : Launch) (hlt : l.stackTraces = false) {D : va_G} {cI cO cL cJ : ClassId} (g : XG) (X : MS) (hz sz : Nat) (hI : xI g) (hO : xO g hz sz) (d bk : Nat) (hd : g 3 0 = some d) (hbk : g 4 0 = some bk) (n : Nat) (kc : Nat → Nat) (hC : xC g X n kc) (p0 p1 p2 : Int32) : vx_Met l yX2_exchange wsX2_exchange ({ frames := 8, cells := 4, slots := 24, locals := 130 } : Room) (xP D cI cO cL cJ g X hz sz [.ref d, .int p0, .int p1, .int p2]) (xQi D cO cL g sz (fun (r : Int32) (X9 : MS) => ∃ k j, isL n kc p0 p1 k j ∧ inR p2 0 1 ∧ ¬ retX X k (8 * k + j) p2 = 0 ∧ r = X 1 0 + 21 ∧ X9 = swX X (8 * k + j) p2 2)) (xT (fun E : String => noO n p0 E ∨ noL n kc p0 p1 E ∨ (E = IAE ∧ ∃ k j, isL n kc p0 p1 k j ∧ ¬ inR p2 0 1) ∨ (E = ISE ∧ ∃ k j, isL n kc p0 p1 k j ∧ inR p2 0 1 ∧ retX X k (8 * k + j) p2 = 0))) 4 24 (xA g sz) := by
  refine x_body (cc := cX2_exchange) (maxL := 4) (ret := some .int) (by decide) rfl [.ref d, .int p0, .int p1, .int p2] (Nat.le_of_ble_eq_true rfl) ?_
  intro p e s m args below meth c hx hb hr hts hown hml hlocks htab hsz hW hK hE ls hl
  subst hsz
  have hown : s.vm.findClass RX2 = some m.cls := hown
  have hl : lv_has ls 4 [(0, .ref d), (1, .int p0), (2, .int p1), (3, .int p2)] := hl
  have hin0 : ∀ w ∈ u_ws RX0 TX0 5, w ∈ wsX2_exchange := (fun w h => List.mem_cons_of_mem _ (List.mem_append_left _ (List.mem_append_left _ (List.mem_append_left _ (List.mem_append_left _ (List.mem_append_left _ (List.mem_append_right _ (h))))))))
  have hin1 : ∀ w ∈ u_ws RX1 TX1 12, w ∈ wsX2_exchange := (fun w h => List.mem_cons_of_mem _ (List.mem_append_left _ (List.mem_append_left _ (List.mem_append_left _ (List.mem_append_right _ (h))))))
  have hin2 : ∀ w ∈ u_ws RX2 TX2 6, w ∈ wsX2_exchange := (fun w h => List.mem_cons_of_mem _ (List.mem_append_left _ (List.mem_append_left _ (List.mem_append_left _ (List.mem_append_left _ (List.mem_append_right _ (h)))))))
  have hS : va_S (xA g s.heap.size) s.heap s.heap [] := va_S.rf
  refine lv_aload_n hx hb dX2_exchange_0 rfl (lv_at hl 0 rfl) ?_
  refine lv_iload_n hx hb dX2_exchange_1 rfl (lv_at hl 1 rfl) ?_
  refine lv_iload_n hx hb dX2_exchange_2 rfl (lv_at hl 2 rfl) ?_
  refine lv_iload_n hx hb dX2_exchange_3 rfl (lv_at hl 3 rfl) ?_
  refine lv_iconst (v := 2) hx hb dX2_exchange_4 (by decide) ?_
  refine x_cWI (vx_runV (As := [.int p0, .int p1, .int p2, .int 2]) (rest := []) (b := d) ⟨hx, hb, hml, hown, hts⟩ (kX2_startWait l hlt g X hz _ hI ⟨hO.1, Nat.le_trans hO.2 hS.1⟩ d bk hd hbk n kc hC p0 p1 p2 2) (cwV 4 hts gX2_exchange_X2_startWait rfl rfl rfl (by decide +kernel) ⟨Nat.le_of_ble_eq_true rfl, Nat.le_of_ble_eq_true rfl⟩) (x_preV hW hK hE (x_recvD hK hW hd)) rfl rfl hl.1 rfl (lv_room (Nat.le_of_ble_eq_true rfl)) dX2_exchange_5 ⟨Nat.le_of_ble_eq_true rfl, Nat.le_of_ble_eq_true rfl⟩) hS hS.1 (fun E ce q9 H1 locs1 hc hz1 hk1 hS1 hL1 hce hcv hcl => x_prop htab hlocks hce hcv hcl hz1 hk1 (fun z h => (hL1 z h).elim (fun h => nomatch h) (fun h => h)) ⟨Nat.le_of_ble_eq_true rfl, Nat.le_of_ble_eq_true rfl⟩ hc) (fun r X9 H locs hp hW hz1 _ hS => ?_)
  exact xw_ret hx hb hr hlocks ⟨Nat.le_of_ble_eq_true rfl, Nat.le_of_ble_eq_true rfl⟩ hW hS hp dX2_exchange_8
set_option maxHeartbeats 4000000 in
set_option maxRecDepth 100000 in
theorem kX2_pay (l : Launch) (hlt : l.stackTraces = false) {D : va_G} {cI cO cL cJ : ClassId} (g : XG) (X : MS) (hz sz : Nat) (hI : xI g) (hO : xO g hz sz) (d bk : Nat) (hd : g 3 0 = some d) (hbk : g 4 0 = some bk) (n : Nat) (kc : Nat → Nat) (hC : xC g X n kc) (p0 p1 p2 : Int32) : vx_Met l yX2_pay wsX2_pay ({ frames := 7, cells := 4, slots := 24, locals := 104 } : Room) (xP D cI cO cL cJ g X hz sz [.ref d, .int p0, .int p1, .int p2]) (xQi D cO cL g sz (fun (r : Int32) (X9 : MS) => ∃ k, k < n ∧ p0 = nI k ∧ inR p1 0 1000000 ∧ inR p2 0 1000000 ∧ X 8 k = 0 ∧ ¬ X 7 k = 0 ∧ X9 = settleX X k (kc k) p1 p2 (X 1 0) ∧ r = X9 13 k)) (xT (fun E : String => noO n p0 E ∨ (E = IAE ∧ ∃ k, k < n ∧ p0 = nI k ∧ (¬ inR p1 0 1000000 ∨ ¬ inR p2 0 1000000)) ∨ (E = ISE ∧ ∃ k, k < n ∧ p0 = nI k ∧ inR p1 0 1000000 ∧ inR p2 0 1000000 ∧ (¬ X 8 k = 0 ∨ X 7 k = 0)))) 4 24 (xA g sz) := by
  refine x_body (cc := cX2_pay) (maxL := 5) (ret := some .int) (by decide) rfl [.ref d, .int p0, .int p1, .int p2] (Nat.le_of_ble_eq_true rfl) ?_
  intro p e s m args below meth c hx hb hr hts hown hml hlocks htab hsz hW hK hE ls hl
  subst hsz
  have hown : s.vm.findClass RX2 = some m.cls := hown
  have hl : lv_has ls 5 [(0, .ref d), (1, .int p0), (2, .int p1), (3, .int p2)] := hl
  have hin0 : ∀ w ∈ u_ws RX0 TX0 5, w ∈ wsX2_pay := (fun w h => List.mem_cons_of_mem _ (List.mem_append_left _ (List.mem_append_left _ (List.mem_append_left _ (List.mem_append_right _ (h))))))
  have hin1 : ∀ w ∈ u_ws RX1 TX1 12, w ∈ wsX2_pay := (fun w h => List.mem_cons_of_mem _ (List.mem_append_left _ (List.mem_append_left _ (List.mem_append_left _ (List.mem_append_left _ (List.mem_append_left _ (List.mem_append_right _ (h))))))))
  have hin2 : ∀ w ∈ u_ws RX2 TX2 6, w ∈ wsX2_pay := (fun w h => List.mem_cons_of_mem _ (List.mem_append_left _ (List.mem_append_left _ (List.mem_append_left _ (List.mem_append_left _ (List.mem_append_right _ (h)))))))
  have hS : va_S (xA g s.heap.size) s.heap s.heap [] := va_S.rf
  refine lv_aload_n hx hb dX2_pay_0 rfl (lv_at hl 0 rfl) ?_
  refine lv_iload_n hx hb dX2_pay_1 rfl (lv_at hl 1 rfl) ?_
  refine x_cR (vx_runV (As := [.int p0]) (rest := []) (b := d) ⟨hx, hb, hml, hown, hts⟩ (kX2_findOrder l hlt g X hz _ d bk hd hbk n hC.1 hC.2.2.1 p0) (cwV 1 hts gX2_pay_X2_findOrder rfl rfl rfl (by decide +kernel) ⟨Nat.le_of_ble_eq_true rfl, Nat.le_of_ble_eq_true rfl⟩) (x_preV hW hK hE (x_recvD hK hW hd)) rfl rfl hl.1 rfl (lv_room (Nat.le_of_ble_eq_true rfl)) dX2_pay_2 ⟨Nat.le_of_ble_eq_true rfl, Nat.le_of_ble_eq_true rfl⟩) hS (fun E ce q9 H1 locs1 hc hz1 hk1 hS1 hL1 hce hcv hcl => x_prop htab hlocks hce hcv hcl hz1 hk1 (fun z h => (hL1 z h).elim (fun h => nomatch h) (fun h => h.elim)) ⟨Nat.le_of_ble_eq_true rfl, Nat.le_of_ble_eq_true rfl⟩ (Or.inl hc)) (fun ao hp => ?_)
  obtain ⟨k, hk, hp0, ho⟩ := hp
  subst hp0
  obtain ⟨hkk, hX7, ⟨la, hla⟩, hln⟩ := hC.2.2.2 k hk
  refine lv_astore (lv' := [(4, .ref ao), (0, .ref d), (1, .int (nI k)), (2, .int p1), (3, .int p2)]) hx hb dX2_pay_5 hl (by decide) rfl (fun ls hl => ?_)
  refine lv_iload_n hx hb dX2_pay_7 rfl (lv_at hl 3 rfl) ?_
  refine lv_iconst (v := 0) hx hb dX2_pay_8 (by decide) ?_
  refine lv_ldc (v := 1000000) hx hb hown (hts (.constant RX2 19 (1000000)) (List.mem_of_getElem? (i := 3) rfl)) dX2_pay_9 ?_
  refine x_cV (vx_runS (As := [.int p1, .int 0, .int 1000000]) (rest := []) ⟨hx, hb, hml, hown, hts⟩ (kX2_requireRange l hlt g X hz _ p1 0 1000000) (va_cwS 3 hts gX2_pay_X2_requireRange rfl rfl rfl (by decide +kernel) ⟨Nat.le_of_ble_eq_true rfl, Nat.le_of_ble_eq_true rfl⟩) (x_preS hW hK hE) rfl rfl hl.1 rfl (lv_room (Nat.le_of_ble_eq_true rfl)) dX2_pay_11 ⟨Nat.le_of_ble_eq_true rfl, Nat.le_of_ble_eq_true rfl⟩) hS (fun E ce q9 H1 locs1 hc hz1 hk1 hS1 hL1 hce hcv hcl => x_prop htab hlocks hce hcv hcl hz1 hk1 (fun z h => (hL1 z h).elim (fun h => nomatch h) (fun h => h.elim)) ⟨Nat.le_of_ble_eq_true rfl, Nat.le_of_ble_eq_true rfl⟩ (Or.inr (Or.inl ⟨hc.1, k, hk, rfl, Or.inl hc.2⟩))) (fun h11 => ?_)
  refine lv_iload_n hx hb dX2_pay_14 rfl (lv_at hl 4 rfl) ?_
  refine lv_iconst (v := 0) hx hb dX2_pay_15 (by decide) ?_
  refine lv_ldc (v := 1000000) hx hb hown (hts (.constant RX2 19 (1000000)) (List.mem_of_getElem? (i := 3) rfl)) dX2_pay_16 ?_
  refine x_cV (vx_runS (As := [.int p2, .int 0, .int 1000000]) (rest := []) ⟨hx, hb, hml, hown, hts⟩ (kX2_requireRange l hlt g X hz _ p2 0 1000000) (va_cwS 3 hts gX2_pay_X2_requireRange rfl rfl rfl (by decide +kernel) ⟨Nat.le_of_ble_eq_true rfl, Nat.le_of_ble_eq_true rfl⟩) (x_preS hW hK hE) rfl rfl hl.1 rfl (lv_room (Nat.le_of_ble_eq_true rfl)) dX2_pay_18 ⟨Nat.le_of_ble_eq_true rfl, Nat.le_of_ble_eq_true rfl⟩) hS (fun E ce q9 H1 locs1 hc hz1 hk1 hS1 hL1 hce hcv hcl => x_prop htab hlocks hce hcv hcl hz1 hk1 (fun z h => (hL1 z h).elim (fun h => nomatch h) (fun h => h.elim)) ⟨Nat.le_of_ble_eq_true rfl, Nat.le_of_ble_eq_true rfl⟩ (Or.inr (Or.inl ⟨hc.1, k, hk, rfl, Or.inr hc.2⟩))) (fun h18 => ?_)
  refine lv_aload hx hb dX2_pay_21 (lv_at hl 0 rfl) ?_
  refine f_get (ci := 1) (fs := xobO g X k) (v := .int (X 8 k)) hx hb hts hin1 hown hK (hW 0 k _ ho) rfl 4 (by decide) (hts (.fieldLink RX2 39 "ReturnsDesk$Order" "isPaid" "Z") (List.mem_of_getElem? (i := 4) rfl)) (fun _ h9 => h9) rfl dX2_pay_23 ?_
  refine lv_if_ne (tgt := 37) hx hb dX2_pay_26 (by decide) (fun c26 => ?_) (fun c26 => ?_)
  · skip
    exact x_throw (cls := ISE) (text := "the order is paid or has no lines") (ik := 24) (is := 59) (ic := 28) hlt hx hb hown hts hE (by decide +kernel) (by decide +kernel) (hts (.classLink RX2 24 "java/lang/IllegalStateException") (List.mem_of_getElem? (i := 1) rfl)) (hts (.initialized "java/lang/IllegalStateException") (List.mem_of_getElem? (i := 2) rfl)) (List.mem_of_getElem? (i := 2) rfl) (fun w h => List.mem_cons_of_mem _ (List.mem_append_left _ (List.mem_append_left _ (List.mem_append_right _ (h))))) tn_S tg_S (hl.1.trans hml.symm) htab hlocks dX2_pay_37 dX2_pay_40 dX2_pay_41 dX2_pay_43 dX2_pay_46 ⟨(Nat.le_of_ble_eq_true rfl), (Nat.le_of_ble_eq_true rfl), (Nat.le_of_ble_eq_true rfl), (Nat.le_of_ble_eq_true rfl)⟩ ⟨(Nat.le_of_ble_eq_true rfl), (Nat.le_of_ble_eq_true rfl)⟩ rfl rfl (Or.inr (Or.inr ⟨rfl, k, hk, rfl, h11, h18, Or.inl c26⟩))
  · skip
    refine lv_aload hx hb dX2_pay_29 (lv_at hl 0 rfl) ?_
    refine f_get (ci := 1) (fs := xobO g X k) (v := .int (X 7 k)) hx hb hts hin1 hown hK (hW 0 k _ ho) rfl 3 (by decide) (hts (.fieldLink RX2 56 "ReturnsDesk$Order" "lineCount" "I") (List.mem_of_getElem? (i := 5) rfl)) (fun _ h9 => h9) rfl dX2_pay_31 ?_
    refine lv_if_ne (tgt := 47) hx hb dX2_pay_34 (by decide) (fun c34 => ?_) (fun c34 => ?_)
    · skip
      refine lv_aload hx hb dX2_pay_47 (lv_at hl 0 rfl) ?_
      refine lv_iload_n hx hb dX2_pay_49 rfl (lv_at hl 3 rfl) ?_
      refine lv_iload_n hx hb dX2_pay_50 rfl (lv_at hl 4 rfl) ?_
      refine lv_aload_n hx hb dX2_pay_51 rfl (lv_at hl 1 rfl) ?_
      refine f_get (ci := 2) (fs := xobD g X 0) (v := .int (X 1 0)) hx hb hts hin2 hown hK (hW 3 0 _ hd) rfl 2 (by decide) (hts (.fieldLink RX2 61 "ReturnsDesk" "today" "I") (List.mem_of_getElem? (i := 6) rfl)) (fun _ h9 => h9) rfl dX2_pay_52 ?_
      refine x_wV (va_runV (As := [.int p1, .int p2, .int (X 1 0)]) (rest := []) (b := ao) ⟨hx, hb, hml, hown, hts⟩ (kX1_settle l g X hz _ hI ⟨hO.1, Nat.le_trans hO.2 hS.1⟩ ao la k ho hla (kc k) hkk hln p1 p2 (X 1 0)) (cwV 3 hts gX2_pay_X1_settle rfl rfl rfl (by decide +kernel) ⟨Nat.le_of_ble_eq_true rfl, Nat.le_of_ble_eq_true rfl⟩) (x_preV hW hK hE (x_recvO hK hW ho)) rfl rfl hl.1 rfl (lv_room (Nat.le_of_ble_eq_true rfl)) dX2_pay_55 ⟨Nat.le_of_ble_eq_true rfl, Nat.le_of_ble_eq_true rfl⟩) hS hS.1 (fun X9 H locs hp hW hz1 hS => ?_)
      subst hp
      refine lv_aload hx hb dX2_pay_58 (lv_at hl 0 rfl) ?_
      refine f_get (ci := 1) (fs := xobO g (settleX X k (kc k) p1 p2 (X 1 0)) k) (v := .int ((settleX X k (kc k) p1 p2 (X 1 0)) 13 k)) hx hb hts hin1 hown hK (hW 0 k _ ho) rfl 9 (by decide) (hts (.fieldLink RX2 67 "ReturnsDesk$Order" "byCard" "I") (List.mem_of_getElem? (i := 7) rfl)) (fun _ h9 => h9) rfl dX2_pay_60 ?_
      exact xw_ret hx hb hr hlocks ⟨Nat.le_of_ble_eq_true rfl, Nat.le_of_ble_eq_true rfl⟩ hW hS ⟨k, hk, rfl, h11, h18, c26, c34, rfl, rfl⟩ dX2_pay_63
    · skip
      exact x_throw (cls := ISE) (text := "the order is paid or has no lines") (ik := 24) (is := 59) (ic := 28) hlt hx hb hown hts hE (by decide +kernel) (by decide +kernel) (hts (.classLink RX2 24 "java/lang/IllegalStateException") (List.mem_of_getElem? (i := 1) rfl)) (hts (.initialized "java/lang/IllegalStateException") (List.mem_of_getElem? (i := 2) rfl)) (List.mem_of_getElem? (i := 2) rfl) (fun w h => List.mem_cons_of_mem _ (List.mem_append_left _ (List.mem_append_left _ (List.mem_append_right _ (h))))) tn_S tg_S (hl.1.trans hml.symm) htab hlocks dX2_pay_37 dX2_pay_40 dX2_pay_41 dX2_pay_43 dX2_pay_46 ⟨(Nat.le_of_ble_eq_true rfl), (Nat.le_of_ble_eq_true rfl), (Nat.le_of_ble_eq_true rfl), (Nat.le_of_ble_eq_true rfl)⟩ ⟨(Nat.le_of_ble_eq_true rfl), (Nat.le_of_ble_eq_true rfl)⟩ rfl rfl (Or.inr (Or.inr ⟨rfl, k, hk, rfl, h11, h18, Or.inr c34⟩))
set_option maxHeartbeats 4000000 in
set_option maxRecDepth 100000 in
theorem kX2_grade (l : Launch) (hlt : l.stackTraces = false) {D : va_G} {cI cO cL cJ : ClassId} (g : XG) (X : MS) (hz sz : Nat) (hI : xI g) (hO : xO g hz sz) (d bk : Nat) (hd : g 3 0 = some d) (hbk : g 4 0 = some bk) (n : Nat) (kc : Nat → Nat) (hC : xC g X n kc) (p0 p1 p2 : Int32) : vx_Met l yX2_grade wsX2_grade ({ frames := 7, cells := 4, slots := 24, locals := 104 } : Room) (xP D cI cO cL cJ g X hz sz [.ref d, .int p0, .int p1, .int p2]) (xQi D cO cL g sz (fun (r : Int32) (X9 : MS) => ∃ k j, isL n kc p0 p1 k j ∧ inR p2 0 3 ∧ ¬ wtX X (8 * k + j) = 0 ∧ (r, X9) = gradeX X k (kc k) (8 * k + j) p2)) (xT (fun E : String => noO n p0 E ∨ noL n kc p0 p1 E ∨ (E = IAE ∧ ∃ k j, isL n kc p0 p1 k j ∧ ¬ inR p2 0 3) ∨ (E = ISE ∧ ∃ k j, isL n kc p0 p1 k j ∧ inR p2 0 3 ∧ wtX X (8 * k + j) = 0))) 4 24 (xA g sz) := by
  refine x_body (cc := cX2_grade) (maxL := 6) (ret := some .int) (by decide) rfl [.ref d, .int p0, .int p1, .int p2] (Nat.le_of_ble_eq_true rfl) ?_
  intro p e s m args below meth c hx hb hr hts hown hml hlocks htab hsz hW hK hE ls hl
  subst hsz
  have hown : s.vm.findClass RX2 = some m.cls := hown
  have hl : lv_has ls 6 [(0, .ref d), (1, .int p0), (2, .int p1), (3, .int p2)] := hl
  have hin0 : ∀ w ∈ u_ws RX0 TX0 5, w ∈ wsX2_grade := (fun w h => List.mem_cons_of_mem _ (List.mem_append_left _ (List.mem_append_left _ (List.mem_append_left _ (List.mem_append_left _ (List.mem_append_right _ (h)))))))
  have hin1 : ∀ w ∈ u_ws RX1 TX1 12, w ∈ wsX2_grade := (fun w h => List.mem_cons_of_mem _ (List.mem_append_left _ (List.mem_append_left _ (List.mem_append_left _ (List.mem_append_left _ (List.mem_append_left _ (List.mem_append_right _ (h))))))))
  have hin2 : ∀ w ∈ u_ws RX2 TX2 6, w ∈ wsX2_grade := (fun w h => List.mem_cons_of_mem _ (List.mem_append_left _ (List.mem_append_left _ (List.mem_append_left _ (List.mem_append_right _ (h))))))
  have hS : va_S (xA g s.heap.size) s.heap s.heap [] := va_S.rf
  refine lv_aload_n hx hb dX2_grade_0 rfl (lv_at hl 0 rfl) ?_
  refine lv_iload_n hx hb dX2_grade_1 rfl (lv_at hl 1 rfl) ?_
  refine x_cR (vx_runV (As := [.int p0]) (rest := []) (b := d) ⟨hx, hb, hml, hown, hts⟩ (kX2_findOrder l hlt g X hz _ d bk hd hbk n hC.1 hC.2.2.1 p0) (cwV 1 hts gX2_grade_X2_findOrder rfl rfl rfl (by decide +kernel) ⟨Nat.le_of_ble_eq_true rfl, Nat.le_of_ble_eq_true rfl⟩) (x_preV hW hK hE (x_recvD hK hW hd)) rfl rfl hl.1 rfl (lv_room (Nat.le_of_ble_eq_true rfl)) dX2_grade_2 ⟨Nat.le_of_ble_eq_true rfl, Nat.le_of_ble_eq_true rfl⟩) hS (fun E ce q9 H1 locs1 hc hz1 hk1 hS1 hL1 hce hcv hcl => x_prop htab hlocks hce hcv hcl hz1 hk1 (fun z h => (hL1 z h).elim (fun h => nomatch h) (fun h => h.elim)) ⟨Nat.le_of_ble_eq_true rfl, Nat.le_of_ble_eq_true rfl⟩ (Or.inl hc)) (fun ao hp => ?_)
  obtain ⟨k, hk, hp0, ho⟩ := hp
  subst hp0
  obtain ⟨hkk, hX7, ⟨la, hla⟩, hln⟩ := hC.2.2.2 k hk
  refine lv_astore (lv' := [(4, .ref ao), (0, .ref d), (1, .int (nI k)), (2, .int p1), (3, .int p2)]) hx hb dX2_grade_5 hl (by decide) rfl (fun ls hl => ?_)
  refine lv_aload hx hb dX2_grade_7 (lv_at hl 0 rfl) ?_
  refine lv_iload_n hx hb dX2_grade_9 rfl (lv_at hl 3 rfl) ?_
  refine x_cR (vx_runS (As := [.ref ao, .int p1]) (rest := []) ⟨hx, hb, hml, hown, hts⟩ (kX2_findLine l hlt g X hz _ ao la k ho hla p1 (kc k) hkk hln) (va_cwS 2 hts gX2_grade_X2_findLine rfl rfl rfl (by decide +kernel) ⟨Nat.le_of_ble_eq_true rfl, Nat.le_of_ble_eq_true rfl⟩) (x_preS hW hK hE) rfl rfl hl.1 rfl (lv_room (Nat.le_of_ble_eq_true rfl)) dX2_grade_10 ⟨Nat.le_of_ble_eq_true rfl, Nat.le_of_ble_eq_true rfl⟩) hS (fun E ce q9 H1 locs1 hc hz1 hk1 hS1 hL1 hce hcv hcl => x_prop htab hlocks hce hcv hcl hz1 hk1 (fun z h => (hL1 z h).elim (fun h => nomatch h) (fun h => h.elim)) ⟨Nat.le_of_ble_eq_true rfl, Nat.le_of_ble_eq_true rfl⟩ (Or.inr (Or.inl ⟨hc.1, k, hk, rfl, hc.2⟩))) (fun al hp => ?_)
  obtain ⟨j, hj, hp1, hal⟩ := hp
  subst hp1
  refine lv_astore (lv' := [(5, .ref al), (4, .ref ao), (0, .ref d), (1, .int (nI k)), (2, .int (nI j)), (3, .int p2)]) hx hb dX2_grade_13 hl (by decide) rfl (fun ls hl => ?_)
  refine lv_iload_n hx hb dX2_grade_15 rfl (lv_at hl 5 rfl) ?_
  refine lv_iconst (v := 0) hx hb dX2_grade_16 (by decide) ?_
  refine lv_iconst (v := 3) hx hb dX2_grade_17 (by decide) ?_
  refine x_cV (vx_runS (As := [.int p2, .int 0, .int 3]) (rest := []) ⟨hx, hb, hml, hown, hts⟩ (kX2_requireRange l hlt g X hz _ p2 0 3) (va_cwS 3 hts gX2_grade_X2_requireRange rfl rfl rfl (by decide +kernel) ⟨Nat.le_of_ble_eq_true rfl, Nat.le_of_ble_eq_true rfl⟩) (x_preS hW hK hE) rfl rfl hl.1 rfl (lv_room (Nat.le_of_ble_eq_true rfl)) dX2_grade_18 ⟨Nat.le_of_ble_eq_true rfl, Nat.le_of_ble_eq_true rfl⟩) hS (fun E ce q9 H1 locs1 hc hz1 hk1 hS1 hL1 hce hcv hcl => x_prop htab hlocks hce hcv hcl hz1 hk1 (fun z h => (hL1 z h).elim (fun h => nomatch h) (fun h => h.elim)) ⟨Nat.le_of_ble_eq_true rfl, Nat.le_of_ble_eq_true rfl⟩ (Or.inr (Or.inr (Or.inl ⟨hc.1, k, j, ⟨hk, rfl, hj, rfl⟩, hc.2⟩)))) (fun h18 => ?_)
  refine lv_aload hx hb dX2_grade_21 (lv_at hl 0 rfl) ?_
  refine vp_callSi (va_runV (As := []) (rest := []) (b := al) ⟨hx, hb, hml, hown, hts⟩ (kX0_isWaitedFor l g X hz _ al (8 * k + j) hal) (cwV 0 hts gX2_grade_X0_isWaitedFor rfl rfl rfl (by decide +kernel) ⟨Nat.le_of_ble_eq_true rfl, Nat.le_of_ble_eq_true rfl⟩) (x_preV hW hK hE (x_recvL hK hW hal)) rfl rfl hl.1 rfl (lv_room (Nat.le_of_ble_eq_true rfl)) dX2_grade_23 ⟨Nat.le_of_ble_eq_true rfl, Nat.le_of_ble_eq_true rfl⟩).run (fun r hp => ?_)
  subst hp
  refine lv_if_ne (tgt := 39) hx hb dX2_grade_26 (by decide) (fun c26 => ?_) (fun c26 => ?_)
  · skip
    refine lv_aload hx hb dX2_grade_39 (lv_at hl 1 rfl) ?_
    refine lv_dup hx hb dX2_grade_41 rfl ?_
    refine f_get (ci := 1) (fs := xobO g X k) (v := .int (X 10 k)) hx hb hts hin1 hown hK (hW 0 k _ ho) rfl 6 (by decide) (hts (.fieldLink RX2 87 "ReturnsDesk$Order" "fees" "I") (List.mem_of_getElem? (i := 3) rfl)) (fun _ h9 => h9) rfl dX2_grade_42 ?_
    refine lv_aload hx hb dX2_grade_45 (lv_at hl 0 rfl) ?_
    refine lv_iload_n hx hb dX2_grade_47 rfl (lv_at hl 5 rfl) ?_
    refine vp_callSi (va_runV (As := [.int p2]) (rest := [.int (X 10 k), .ref ao]) (b := al) ⟨hx, hb, hml, hown, hts⟩ (kX0_feeFor l g X hz _ al (8 * k + j) hal p2) (cwV 1 hts gX2_grade_X0_feeFor rfl rfl rfl (by decide +kernel) ⟨Nat.le_of_ble_eq_true rfl, Nat.le_of_ble_eq_true rfl⟩) (x_preV hW hK hE (x_recvL hK hW hal)) rfl rfl hl.1 rfl (lv_room (Nat.le_of_ble_eq_true rfl)) dX2_grade_48 ⟨Nat.le_of_ble_eq_true rfl, Nat.le_of_ble_eq_true rfl⟩).run (fun r hp => ?_)
    subst hp
    refine lv_iadd hx hb dX2_grade_51 ?_
    refine x_putO hx hb hts hin1 hown hK hI hW hS ho (Or.inl ⟨0, k, ho⟩) 6 10 (by decide) (hts (.fieldLink RX2 87 "ReturnsDesk$Order" "fees" "I") (List.mem_of_getElem? (i := 3) rfl)) (fun _ h9 => h9) .int (tyX1_ok 6 (by decide)) rfl rfl dX2_grade_52 (fun H locs hW hz1 _ hS => ?_)
    refine lv_aload_n hx hb dX2_grade_55 rfl (lv_at hl 2 rfl) ?_
    refine lv_aload hx hb dX2_grade_56 (lv_at hl 0 rfl) ?_
    refine f_get (ci := 0) (fs := xobL (mu X 10 k ((X 10 k) + (feeX X (8 * k + j) p2))) (8 * k + j)) (v := .int (X 19 (8 * k + j))) hx hb hts hin0 hown hK (hW 2 (8 * k + j) _ hal) rfl 3 (by decide) (hts (.fieldLink RX2 94 "ReturnsDesk$Line" "reason" "I") (List.mem_of_getElem? (i := 4) rfl)) (fun _ h9 => h9) (congrArg (fun z => some (Value.int z)) (mu_f _ _ _ _ (by decide))) dX2_grade_58 ?_
    refine lv_iload_n hx hb dX2_grade_61 rfl (lv_at hl 5 rfl) ?_
    refine x_wV (va_runV (As := [.int (X 19 (8 * k + j)), .int p2]) (rest := []) (b := d) ⟨hx, hb, hml, hown, hts⟩ (kX2_putIntoStock l g (mu X 10 k ((X 10 k) + (feeX X (8 * k + j) p2))) hz _ hI ⟨hO.1, Nat.le_trans hO.2 hS.1⟩ d bk hd hbk (X 19 (8 * k + j)) p2) (cwV 2 hts gX2_grade_X2_putIntoStock rfl rfl rfl (by decide +kernel) ⟨Nat.le_of_ble_eq_true rfl, Nat.le_of_ble_eq_true rfl⟩) (x_preV hW hK (hE.S hO hS) (x_recvD hK hW hd)) rfl rfl hl.1 rfl (lv_room (Nat.le_of_ble_eq_true rfl)) dX2_grade_62 ⟨Nat.le_of_ble_eq_true rfl, Nat.le_of_ble_eq_true rfl⟩) hS hS.1 (fun X9 H locs hp hW hz1 hS => ?_)
    subst hp
    refine lv_aload hx hb dX2_grade_65 (lv_at hl 0 rfl) ?_
    refine lv_aload hx hb dX2_grade_67 (lv_at hl 0 rfl) ?_
    refine f_get (ci := 0) (fs := xobL (putX (mu X 10 k ((X 10 k) + (feeX X (8 * k + j) p2))) (X 19 (8 * k + j)) p2) (8 * k + j)) (v := .int ((putX (mu X 10 k ((X 10 k) + (feeX X (8 * k + j) p2))) (X 19 (8 * k + j)) p2) 18 (8 * k + j))) hx hb hts hin0 hown hK (hW 2 (8 * k + j) _ hal) rfl 2 (by decide) (hts (.fieldLink RX2 100 "ReturnsDesk$Line" "state" "I") (List.mem_of_getElem? (i := 5) rfl)) (fun _ h9 => h9) rfl dX2_grade_69 ?_
    refine lv_iconst (v := 1) hx hb dX2_grade_72 (by decide) ?_
    refine mg1 (c0 := (putX (mu X 10 k ((X 10 k) + (feeX X (8 * k + j) p2))) (X 19 (8 * k + j)) p2) 18 (8 * k + j) = 1) (a := 3) (b := 0) (J := 81) (rest := [.ref al]) (fun kj => ?_) ?_
    · skip
      refine lv_icmp_ne (tgt := 80) hx hb dX2_grade_73 (by decide) (fun c73 => ?_) (fun c73 => ?_)
      · skip
        refine lv_iconst (v := 0) hx hb dX2_grade_80 (by decide) ?_
        rw [if_neg c73] at kj; exact kj
      · skip
        refine lv_iconst (v := 3) hx hb dX2_grade_76 (by decide) ?_
        refine lv_goto (tgt := 81) hx hb dX2_grade_77 (by decide) ?_
        rw [if_pos c73] at kj; exact kj
    · skip
      refine x_putL hx hb hts hin0 hown hK hI hW hS hal (Or.inl ⟨2, 8 * k + j, hal⟩) 2 18 (by decide) (hts (.fieldLink RX2 100 "ReturnsDesk$Line" "state" "I") (List.mem_of_getElem? (i := 5) rfl)) (fun _ h9 => h9) dX2_grade_81 (fun H locs hW hz1 _ hS => ?_)
      refine lv_aload hx hb dX2_grade_84 (lv_at hl 1 rfl) ?_
      refine x_wI (va_runV (As := []) (rest := []) (b := ao) ⟨hx, hb, hml, hown, hts⟩ (kX1_refundSurplus l g (mu (putX (mu X 10 k ((X 10 k) + (feeX X (8 * k + j) p2))) (X 19 (8 * k + j)) p2) 18 (8 * k + j) (if (putX (mu X 10 k ((X 10 k) + (feeX X (8 * k + j) p2))) (X 19 (8 * k + j)) p2) 18 (8 * k + j) = 1 then 3 else 0)) hz _ hI ⟨hO.1, Nat.le_trans hO.2 hS.1⟩ ao la k ho hla (kc k) hkk hln) (cwV 0 hts gX2_grade_X1_refundSurplus rfl rfl rfl (by decide +kernel) ⟨Nat.le_of_ble_eq_true rfl, Nat.le_of_ble_eq_true rfl⟩) (x_preV hW hK (hE.S hO hS) (x_recvO hK hW ho)) rfl rfl hl.1 rfl (lv_room (Nat.le_of_ble_eq_true rfl)) dX2_grade_86 ⟨Nat.le_of_ble_eq_true rfl, Nat.le_of_ble_eq_true rfl⟩) hS hS.1 (fun r X9 H locs hp hW hz1 hS => ?_)
      exact xw_ret hx hb hr hlocks ⟨Nat.le_of_ble_eq_true rfl, Nat.le_of_ble_eq_true rfl⟩ hW hS ⟨k, j, ⟨hk, rfl, hj, rfl⟩, h18, c26, hp⟩ dX2_grade_89
  · skip
    exact x_throw (cls := ISE) (text := "the line is not waited for") (ik := 24) (is := 85) (ic := 28) hlt hx hb hown hts hE (by decide +kernel) (by decide +kernel) (hts (.classLink RX2 24 "java/lang/IllegalStateException") (List.mem_of_getElem? (i := 1) rfl)) (hts (.initialized "java/lang/IllegalStateException") (List.mem_of_getElem? (i := 2) rfl)) (List.mem_of_getElem? (i := 3) rfl) (fun w h => List.mem_cons_of_mem _ (List.mem_append_left _ (List.mem_append_left _ (List.mem_append_right _ (h))))) tn_S tg_S (hl.1.trans hml.symm) htab hlocks dX2_grade_29 dX2_grade_32 dX2_grade_33 dX2_grade_35 dX2_grade_38 ⟨(Nat.le_of_ble_eq_true rfl), (Nat.le_of_ble_eq_true rfl), (Nat.le_of_ble_eq_true rfl), (Nat.le_of_ble_eq_true rfl)⟩ ⟨(Nat.le_of_ble_eq_true rfl), (Nat.le_of_ble_eq_true rfl)⟩ rfl rfl (Or.inr (Or.inr (Or.inr ⟨rfl, k, j, ⟨hk, rfl, hj, rfl⟩, h18, c26⟩)))
set_option maxHeartbeats 4000000 in
set_option maxRecDepth 100000 in
theorem kX2_pass (l : Launch) (hlt : l.stackTraces = false) {D : va_G} {cI cO cL cJ : ClassId} (g : XG) (X : MS) (hz sz : Nat) (hI : xI g) (hO : xO g hz sz) (d bk : Nat) (hd : g 3 0 = some d) (hbk : g 4 0 = some bk) (n : Nat) (kc : Nat → Nat) (hC : xC g X n kc) (p0 : Int32) : vx_Met l yX2_pass wsX2_pass ({ frames := 7, cells := 2, slots := 12, locals := 104 } : Room) (xP D cI cO cL cJ g X hz sz [.ref d, .int p0]) (xQi D cO cL g sz (fun (r : Int32) (X9 : MS) => inR p0 1 400 ∧ p0 ≤ 10000 - X 1 0 ∧ (r, X9) = qIt (mu X 1 0 (X 1 0 + p0)) kc (X 1 0 + p0) n)) (xT (fun E : String => (E = IAE ∧ ¬ inR p0 1 400) ∨ (E = ISE ∧ inR p0 1 400 ∧ ¬ p0 ≤ 10000 - X 1 0))) 2 12 (xA g sz) := by
  refine x_body (cc := cX2_pass) (maxL := 7) (ret := some .int) (by decide) rfl [.ref d, .int p0] (Nat.le_of_ble_eq_true rfl) ?_
  intro p e s m args below meth c hx hb hr hts hown hml hlocks htab hsz hW hK hE ls hl
  subst hsz
  have hown : s.vm.findClass RX2 = some m.cls := hown
  have hl : lv_has ls 7 [(0, .ref d), (1, .int p0)] := hl
  have hin0 : ∀ w ∈ u_ws RX0 TX0 5, w ∈ wsX2_pass := (fun w h => List.mem_cons_of_mem _ (List.mem_append_left _ (List.mem_append_left _ (List.mem_append_right _ (h)))))
  have hin1 : ∀ w ∈ u_ws RX1 TX1 12, w ∈ wsX2_pass := (fun w h => List.mem_cons_of_mem _ (List.mem_append_left _ (List.mem_append_left _ (List.mem_append_left _ (List.mem_append_right _ (h))))))
  have hin2 : ∀ w ∈ u_ws RX2 TX2 6, w ∈ wsX2_pass := (fun w h => List.mem_cons_of_mem _ (List.mem_append_left _ (List.mem_append_left _ (List.mem_append_left _ (List.mem_append_left _ (List.mem_append_right _ (h)))))))
  have hS : va_S (xA g s.heap.size) s.heap s.heap [] := va_S.rf
  refine lv_iload_n hx hb dX2_pass_0 rfl (lv_at hl 1 rfl) ?_
  refine lv_iconst (v := 1) hx hb dX2_pass_1 (by decide) ?_
  refine lv_sipush (v := 400) hx hb dX2_pass_2 (by decide) ?_
  refine x_cV (vx_runS (As := [.int p0, .int 1, .int 400]) (rest := []) ⟨hx, hb, hml, hown, hts⟩ (kX2_requireRange l hlt g X hz _ p0 1 400) (va_cwS 3 hts gX2_pass_X2_requireRange rfl rfl rfl (by decide +kernel) ⟨Nat.le_of_ble_eq_true rfl, Nat.le_of_ble_eq_true rfl⟩) (x_preS hW hK hE) rfl rfl hl.1 rfl (lv_room (Nat.le_of_ble_eq_true rfl)) dX2_pass_5 ⟨Nat.le_of_ble_eq_true rfl, Nat.le_of_ble_eq_true rfl⟩) hS (fun E ce q9 H1 locs1 hc hz1 hk1 hS1 hL1 hce hcv hcl => x_prop htab hlocks hce hcv hcl hz1 hk1 (fun z h => (hL1 z h).elim (fun h => nomatch h) (fun h => h.elim)) ⟨Nat.le_of_ble_eq_true rfl, Nat.le_of_ble_eq_true rfl⟩ (Or.inl hc)) (fun h5 => ?_)
  refine lv_iload_n hx hb dX2_pass_8 rfl (lv_at hl 1 rfl) ?_
  refine lv_sipush (v := 10000) hx hb dX2_pass_9 (by decide) ?_
  refine lv_aload_n hx hb dX2_pass_12 rfl (lv_at hl 0 rfl) ?_
  refine f_get (ci := 2) (fs := xobD g X 0) (v := .int (X 1 0)) hx hb hts hin2 hown hK (hW 3 0 _ hd) rfl 2 (by decide) (hts (.fieldLink RX2 61 "ReturnsDesk" "today" "I") (List.mem_of_getElem? (i := 3) rfl)) (fun _ h9 => h9) rfl dX2_pass_13 ?_
  refine lv_isub hx hb dX2_pass_16 ?_
  refine lv_icmp_le (tgt := 30) hx hb dX2_pass_17 (by decide) (fun c17 => ?_) (fun c17 => ?_)
  · skip
    refine lv_aload_n hx hb dX2_pass_30 rfl (lv_at hl 0 rfl) ?_
    refine lv_dup hx hb dX2_pass_31 rfl ?_
    refine f_get (ci := 2) (fs := xobD g X 0) (v := .int (X 1 0)) hx hb hts hin2 hown hK (hW 3 0 _ hd) rfl 2 (by decide) (hts (.fieldLink RX2 61 "ReturnsDesk" "today" "I") (List.mem_of_getElem? (i := 3) rfl)) (fun _ h9 => h9) rfl dX2_pass_32 ?_
    refine lv_iload_n hx hb dX2_pass_35 rfl (lv_at hl 1 rfl) ?_
    refine lv_iadd hx hb dX2_pass_36 ?_
    refine x_putD hx hb hts hin2 hown hK hI hW hS hd (Or.inl ⟨3, 0, hd⟩) 2 1 (by decide) (hts (.fieldLink RX2 61 "ReturnsDesk" "today" "I") (List.mem_of_getElem? (i := 3) rfl)) (fun _ h9 => h9) dX2_pass_37 (fun H locs hW hz1 _ hS => ?_)
    refine lv_iconst (v := 0) hx hb dX2_pass_40 (by decide) ?_
    refine lv_istore_n (lv' := [(2, .int 0), (0, .ref d), (1, .int p0)]) hx hb dX2_pass_41 rfl hl (by decide) rfl (fun ls hl => ?_)
    refine lv_aload_n hx hb dX2_pass_42 rfl (lv_at hl 1 rfl) ?_
    refine f_get (ci := 2) (fs := xobD g (mu X 1 0 ((X 1 0) + p0)) 0) (v := .ref bk) hx hb hts hin2 hown hK (hW 3 0 _ hd) rfl 0 (by decide) (hts (.fieldLink RX2 11 "ReturnsDesk" "book" "[LReturnsDesk$Order;") (List.mem_of_getElem? (i := 4) rfl)) (fun _ h9 => h9) (congrArg (fun z => some (va_rf z)) hbk) dX2_pass_43 ?_
    refine lv_astore_n (lv' := [(3, .ref bk), (2, .int 0), (0, .ref d), (1, .int p0)]) hx hb dX2_pass_46 rfl hl (by decide) rfl (fun ls hl => ?_)
    refine lv_aload_n hx hb dX2_pass_47 rfl (lv_at hl 0 rfl) ?_
    refine f_alen (v := 30) hx hb hK 1 rfl (hW 4 0 _ hbk) rfl dX2_pass_48 ?_
    refine lv_istore (lv' := [(4, .int 30), (3, .ref bk), (2, .int 0), (0, .ref d), (1, .int p0)]) hx hb dX2_pass_49 hl (by decide) rfl (fun ls hl => ?_)
    refine lv_iconst (v := 0) hx hb dX2_pass_51 (by decide) ?_
    refine lv_istore (lv' := [(5, .int 0), (4, .int 30), (3, .ref bk), (2, .int 0), (0, .ref d), (1, .int p0)]) hx hb dX2_pass_52 hl (by decide) rfl (fun ls hl => ?_)
    have loop : ∀ (z i : Nat) (B : Int32 × MS) (H : Heap) (locs : List Loc) (ls : Array Slot), B = qIt (mu X 1 0 (X 1 0 + p0)) kc (X 1 0 + p0) (min i n) → i ≤ 30 → 30 - i < z → xW D cO cL g B.2 H → va_S (xA g s.heap.size) s.heap H locs → lv_has ls 7 [(5, .int (nI i)), (2, .int B.1), (4, .int 30), (3, .ref bk), (0, .ref d), (1, .int p0)] → W p l e ({ frames := 7, cells := 2, slots := 12, locals := 104 } : Room) s m args below meth c H locs 1 6 (vx_MQ below (xQi D cO cL g s.heap.size (fun (r : Int32) (X9 : MS) => inR p0 1 400 ∧ p0 ≤ 10000 - X 1 0 ∧ (r, X9) = qIt (mu X 1 0 (X 1 0 + p0)) kc (X 1 0 + p0) n)) (xT (fun E : String => (E = IAE ∧ ¬ inR p0 1 400) ∨ (E = ISE ∧ inR p0 1 400 ∧ ¬ p0 ≤ 10000 - X 1 0))) args s 2 12 (xA g s.heap.size)) (F0 m 54 ls []) := by
      intro z
      induction z with
      | zero => intro i B H locs ls h0 h1 h2; exact absurd h2 (by omega)
      | succ z ih =>
        intro i B H locs ls hB hi hz9 hW hS hl
        refine lv_iload hx hb dX2_pass_54 (lv_at hl 0 rfl) ?_
        refine lv_iload hx hb dX2_pass_56 (lv_at hl 2 rfl) ?_
        refine lv_icmp_ge (tgt := 90) hx hb dX2_pass_58 (by decide) (fun c58 => ?_) (fun c58 => ?_)
        · skip
          have hie : min i n = n := by
            have h0 := hC.1
            rcases Nat.lt_or_ge i 30 with z | z
            · exact absurd c58 (nI_ge z (by decide))
            · omega
          rw [hie] at hB
          refine lv_iload_n hx hb dX2_pass_90 rfl (lv_at hl 1 rfl) ?_
          exact xw_ret hx hb hr hlocks ⟨Nat.le_of_ble_eq_true rfl, Nat.le_of_ble_eq_true rfl⟩ hW hS ⟨h5, c17, by show (B.1, B.2) = _; rw [← hB]⟩ dX2_pass_91
        · skip
          have hi9 : i < 30 := Nat.not_le.mp (fun z => c58 (nI_le (a := 30) z (by omega)))
          refine lv_aload_n hx hb dX2_pass_61 rfl (lv_at hl 3 rfl) ?_
          refine lv_iload hx hb dX2_pass_62 (lv_at hl 0 rfl) ?_
          rcases hq64 : g 0 i with _ | ao
          · skip
            have hmn : min (i + 1) n = min i n := by have := (hC.2.2.1 i hi9).mp hq64; omega
            refine f_aaldV (v := .null) hx hb hK 1 rfl (hW 4 0 _ hbk) rfl (show i < 30 by omega) (by decide) (congrArg va_rf hq64) dX2_pass_64 ?_
            refine lv_astoreN (lv' := [(6, .null), (5, .int (nI i)), (2, .int B.1), (4, .int 30), (3, .ref bk), (0, .ref d), (1, .int p0)]) hx hb dX2_pass_65 hl (by decide) rfl (fun ls hl => ?_)
            refine lv_aloadN hx hb dX2_pass_67 (lv_at hl 0 rfl) ?_
            refine lv_ifnullN (tgt := 84) hx hb dX2_pass_69 (by decide) ?_
            refine lv_iinc (v := nI (i + 1)) (lv' := [(5, .int (nI (i + 1))), (6, .null), (2, .int B.1), (4, .int 30), (3, .ref bk), (0, .ref d), (1, .int p0)]) hx hb dX2_pass_84 hl (k := 1) rfl (nI_addx (a := i) (b := 1) rfl rfl) (by decide) rfl (fun ls hl => ?_)
            refine lv_goto (tgt := 54) hx hb dX2_pass_87 (by decide) ?_
            exact ih (i + 1) B H locs ls (by rw [hmn]; exact hB) (by omega) (by omega) hW hS (lv_sub hl [0, 2, 3, 4, 5, 6] rfl)
          · skip
            have hik : i < n := by rcases Nat.lt_or_ge i n with z | z; exact z; exact absurd ((hC.2.2.1 i hi9).mpr z) (by rw [hq64]; intro h; cases h)
            have hmi : min i n = i := by omega
            have hmn : min (i + 1) n = i + 1 := by omega
            rw [hmi] at hB
            obtain ⟨hkk, hX7, ⟨la, hla⟩, hln⟩ := hC.2.2.2 i hik
            have hB1 : B.2 1 0 = (X 1 0 + p0) := by rw [hB, qIt_1]; exact mu_s _ _ _ _
            refine f_aaldV (v := .ref ao) hx hb hK 1 rfl (hW 4 0 _ hbk) rfl (show i < 30 by omega) (by decide) (congrArg va_rf hq64) dX2_pass_64 ?_
            refine lv_astore (lv' := [(6, .ref ao), (5, .int (nI i)), (2, .int B.1), (4, .int 30), (3, .ref bk), (0, .ref d), (1, .int p0)]) hx hb dX2_pass_65 hl (by decide) rfl (fun ls hl => ?_)
            refine lv_aload hx hb dX2_pass_67 (lv_at hl 0 rfl) ?_
            refine lv_ifnull hx hb dX2_pass_69 ?_
            refine lv_iload_n hx hb dX2_pass_72 rfl (lv_at hl 2 rfl) ?_
            refine lv_aload hx hb dX2_pass_73 (lv_at hl 0 rfl) ?_
            refine lv_aload_n hx hb dX2_pass_75 rfl (lv_at hl 5 rfl) ?_
            refine f_get (ci := 2) (fs := xobD g B.2 0) (v := .int (B.2 1 0)) hx hb hts hin2 hown hK (hW 3 0 _ hd) rfl 2 (by decide) (hts (.fieldLink RX2 61 "ReturnsDesk" "today" "I") (List.mem_of_getElem? (i := 3) rfl)) (fun _ h9 => h9) rfl dX2_pass_76 ?_
            refine cv (y := (X 1 0 + p0)) hB1 ?_
            refine x_wI (va_runV (As := [.int (X 1 0 + p0)]) (rest := [.int B.1]) (b := ao) ⟨hx, hb, hml, hown, hts⟩ (kX1_endWaits l g B.2 hz _ hI ⟨hO.1, Nat.le_trans hO.2 hS.1⟩ ao la i hq64 hla (kc i) hkk hln (X 1 0 + p0)) (cwV 1 hts gX2_pass_X1_endWaits rfl rfl rfl (by decide +kernel) ⟨Nat.le_of_ble_eq_true rfl, Nat.le_of_ble_eq_true rfl⟩) (x_preV hW hK (hE.S hO hS) (x_recvO hK hW hq64)) rfl rfl hl.1 rfl (lv_room (Nat.le_of_ble_eq_true rfl)) dX2_pass_79 ⟨Nat.le_of_ble_eq_true rfl, Nat.le_of_ble_eq_true rfl⟩) hS hS.1 (fun r X9 H locs hp hW hz1 hS => ?_)
            refine lv_iadd hx hb dX2_pass_82 ?_
            refine lv_istore_n (lv' := [(2, .int (B.1 + r)), (6, .ref ao), (5, .int (nI i)), (4, .int 30), (3, .ref bk), (0, .ref d), (1, .int p0)]) hx hb dX2_pass_83 rfl hl (by decide) rfl (fun ls hl => ?_)
            refine lv_iinc (v := nI (i + 1)) (lv' := [(5, .int (nI (i + 1))), (2, .int (B.1 + r)), (6, .ref ao), (4, .int 30), (3, .ref bk), (0, .ref d), (1, .int p0)]) hx hb dX2_pass_84 hl (k := 2) rfl (nI_addx (a := i) (b := 1) rfl rfl) (by decide) rfl (fun ls hl => ?_)
            refine lv_goto (tgt := 54) hx hb dX2_pass_87 (by decide) ?_
            exact ih (i + 1) (B.1 + r, X9) H locs ls (by rw [hmn]; show _ = qNext (qIt (mu X 1 0 (X 1 0 + p0)) kc (X 1 0 + p0) i) kc (X 1 0 + p0) i; rw [← hB]; unfold qNext; rw [← hp]) (by omega) (by omega) hW hS (lv_sub hl [0, 1, 3, 4, 5, 6] rfl)
    exact loop 31 0 (0, (mu X 1 0 (X 1 0 + p0))) H locs ls (by rw [Nat.zero_min]; rfl) (by decide) (by decide) hW hS (lv_sub hl [0, 3, 1, 2, 4, 5] rfl)
  · skip
    exact x_throw (cls := ISE) (text := "the day would be above the last one") (ik := 24) (is := 143) (ic := 28) hlt hx hb hown hts hE (by decide +kernel) (by decide +kernel) (hts (.classLink RX2 24 "java/lang/IllegalStateException") (List.mem_of_getElem? (i := 1) rfl)) (hts (.initialized "java/lang/IllegalStateException") (List.mem_of_getElem? (i := 2) rfl)) (List.mem_of_getElem? (i := 4) rfl) (fun w h => List.mem_cons_of_mem _ (List.mem_append_left _ (List.mem_append_right _ (h)))) tn_S tg_S (hl.1.trans hml.symm) htab hlocks dX2_pass_20 dX2_pass_23 dX2_pass_24 dX2_pass_26 dX2_pass_29 ⟨(Nat.le_of_ble_eq_true rfl), (Nat.le_of_ble_eq_true rfl), (Nat.le_of_ble_eq_true rfl), (Nat.le_of_ble_eq_true rfl)⟩ ⟨(Nat.le_of_ble_eq_true rfl), (Nat.le_of_ble_eq_true rfl)⟩ rfl rfl (Or.inr ⟨rfl, h5, c17⟩)
end
section
/-! WHAT IS MADE: new objects and arrays, the constructors. -/
theorem arr_congr {cA : ClassId} {n : Nat} {f f' : Nat → Option Nat} (h : ∀ j, j < n → f j = f' j) : vp_cell cA (n, .inr (.inr (.inr (.inr f)))) = vp_cell cA (n, .inr (.inr (.inr (.inr f')))) := by
  rw [vp_cell_q, vp_cell_q]
  unfold arrV
  congr 2
  funext j
  show va_rf (f j.val) = va_rf (f' j.val)
  rw [h j.val j.isLt]
theorem at_congr {D : va_G} {cA : ClassId} {a n : Nat} {f f' : Nat → Option Nat} {H : Heap} (h : va_at D vwCl (a, .inl (cA, n, .inr (.inr (.inr (.inr f))))) H) (hf : ∀ j, j < n → f j = f' j) : va_at D vwCl (a, .inl (cA, n, .inr (.inr (.inr (.inr f'))))) H := by
  have h1 : H[a]? = some (vp_cell cA (n, .inr (.inr (.inr (.inr f))))) := h
  rw [arr_congr hf] at h1
  exact h1
section Fnew
variable {p : Program} {l : Launch} {e : Env} {R : Room} {s : State} {m : MethodId} {args : Array Value} {below : List Frame} {meth : Method} {c : Code} {H : Heap} {locs : List Loc} {cells slots : Nat} {Q : State → Prop}
variable {cc : ByteArray} {pc : Nat} {ls : Array Slot} {rest : List Value} {D : va_G} {cI cO cL cJ : ClassId} {H0 : Heap} {A : Nat → Prop}
theorem s_new {H1 : Heap} (hS : va_S A H0 H locs) (z : H1.size = H.size + 1) (o : ∀ q, q < H.size → H1[q]? = H[q]?) : va_S A H0 H1 locs := ⟨Nat.le_trans hS.1 (by omega), fun x h1 h2 => (o x (Nat.lt_of_lt_of_le h1 hS.1)).trans (hS.2.1 x h1 h2), hS.2.2⟩
theorem f_new (hexec : p.tables.exec = Jvm.exec) (hb : c.code = cc) {own C : String} {T : u_T} {N ci index : Nat} {Ts : List Cond} (hts : ∀ w ∈ Ts, w.before args s = true) (hin : ∀ w ∈ u_ws C T N, w ∈ Ts) (ty : Nat → FieldType) (hty : ∀ k, k < N → parseFieldDescriptor (T k).2.2.1 = some (ty k)) (hown : s.vm.findClass own = some m.cls) (hcl : (Cond.classLink own index C).before args s = true) (hinst : (Cond.instantiable C N).before args s = true) (hini : (Cond.initialized C).before args s = true)
    (hK : KK D cI cO cL cJ s) (hS : va_S A H0 H locs) (hc : vwCl[ci]? = some (C, T, N)) {fs : List Value} (hfs : ∀ j, j < N → defaultValue (ty j) = vp_V fs j) (hcells : cells + 1 ≤ R.cells) (hslots : slots + N ≤ R.slots) (hdg : decode cc pc = .ok (.new index, 3))
    (kk : ∀ H1 : Heap, va_at D vwCl (H.size, .inr (ci, fs)) H1 → H1.size = H.size + 1 → (∀ q, q < H.size → H1[q]? = H[q]?) → va_S A H0 H1 locs →
      W p l e R s m args below meth c H1 locs (cells + 1) (slots + N) Q (F0 m (pc + 3) ls (.ref H.size :: rest))) : W p l e R s m args below meth c H locs cells slots Q (F0 m pc ls rest) := by
  have hKn := hK.1 ci _ hc
  refine W.newcK hexec hb hown hcl hinst hini rfl hdg hcells hslots hKn.2.1 rfl fun H1 kC hkC e1 z1 o1 => ?_
  exact kk H1 ⟨_, hc, (u_born ty hts hin hKn hkC e1 hty).to hfs⟩ z1 o1 (s_new hS z1 o1)
theorem f_anew (hexec : p.tables.exec = Jvm.exec) (hb : c.code = cc) {own C : String} {index : Nat} (hown : s.vm.findClass own = some m.cls) (hclink : (Cond.classLink own index C).before args s = true) (hover : va_AO C s) (hK : KK D cI cO cL cJ s) {cA : ClassId} (t0 : Nat) (ht : (tyL cI cO cL cJ)[t0]? = some (cA, .object C)) (hS : va_S A H0 H locs) {n : Int32} {N' : Nat} (hn : n = nI N') (hN : N' ≤ 1000) (hcells : cells + 1 ≤ R.cells) (hslots : slots + N' ≤ R.slots) (hdg : decode cc pc = .ok (.anewarray index, 3))
    (kk : ∀ H1 : Heap, va_at D vwCl (H.size, .inl (cA, N', .inr (.inr (.inr (.inr (fun _ => none)))))) H1 → H1.size = H.size + 1 → (∀ q, q < H.size → H1[q]? = H[q]?) → va_S A H0 H1 locs →
      W p l e R s m args below meth c H1 locs (cells + 1) (slots + N') Q (F0 m (pc + 3) ls (.ref H.size :: rest))) : W p l e R s m args below meth c H locs cells slots Q (F0 m pc ls (.int n :: rest)) := by
  subst hn
  have hc := nI_clamp (n := N') (by omega)
  refine W.anew hexec hb hown hclink (va_AO.use hover) rfl hdg rfl (nI_pos (by omega)) (by rw [hc]; omega) hcells (by rw [hc]; exact hslots) fun cA' kA comp f1 f2 f3 f4 => ?_
  obtain ⟨kA', comp', k1, k2, k3, k4⟩ := (hK.2 t0 _ ht).2
  cases Option.some.inj (k4.symm.trans f1)
  rw [hc]
  generalize hH1 : H.push ({ cls := cA, slots := Array.replicate N' .null, vm := .none } : Cell) = H1
  have z1 : H1.size = H.size + 1 := by rw [← hH1, Array.size_push]
  have o1 : ∀ q : Nat, q < H.size → H1[q]? = H[q]? := fun q hq => by rw [← hH1, Array.getElem?_push, if_neg (Nat.ne_of_lt hq)]
  refine kk H1 ?_ z1 o1 (s_new hS z1 o1)
  show H1[H.size]? = some (vp_cell _ _)
  rw [← hH1, Array.getElem?_push_size, vp_cell_q]
  exact congrArg some (arrV_new _ _ _)
end Fnew
/-- a constructor's start: the blank object -/
def cP (D : va_G) (cI cO cL cJ : ClassId) (sz : Nat) (q0 : Nat × va_E) (av : List Value) : Array Value → State → Prop := va_Pc av (fun U => U.heap.size = sz ∧ va_at D vwCl q0 U.heap ∧ KK D cI cO cL cJ U ∧ va_AO RX0 U ∧ va_AO RX1 U)
theorem cP.blind {D : va_G} {cI cO cL cJ : ClassId} {sz : Nat} {q0 : Nat × va_E} {av : List Value} : FrameBlind (cP D cI cO cL cJ sz q0 av) := fun a U f mk h => ⟨h.1, h.2.1, h.2.2.1, va_K.moved (u := U) (U := U.calling f mk a) (Vm.Alike.refl U.vm) h.2.2.2.1, va_AO.moved (u := U) (U := U.calling f mk a) (Vm.Alike.refl U.vm) h.2.2.2.2.1, va_AO.moved (u := U) (U := U.calling f mk a) (Vm.Alike.refl U.vm) h.2.2.2.2.2⟩
theorem c_pre {D : va_G} {cI cO cL cJ : ClassId} {s : State} {H : Heap} {q0 : Nat × va_E} {As : List Value} (hat : va_at D vwCl q0 H) (hK : KK D cI cO cL cJ s) (h0 : va_AO RX0 s) (h1 : va_AO RX1 s) : PreS s H (cP D cI cO cL cJ H.size q0 As) As :=
  ⟨cP.blind, fun U hU hWm => ⟨rfl, by rw [hU], by rw [hU]; exact hat, hK.moved hWm.alike, h0.moved hWm.alike, h1.moved hWm.alike⟩⟩
set_option maxHeartbeats 4000000 in
set_option maxRecDepth 100000 in
theorem kX0_init (l : Launch) {D : va_G} {cI cO cL cJ : ClassId} (sz a : Nat) (p1 p2 : Int32) : Met l yX0_init wsX0_init ({ frames := 1, cells := 0, slots := 0, locals := 12 } : Room) (cP D cI cO cL cJ sz (a, .inr (0, [.int 0, .int 0, .int 0, .int 0, .int 0])) [.ref a, .int p1, .int p2]) (va_Qv (fun _ : Unit => True) (fun _ t => va_at D vwCl (a, .inr (0, [.int p1, .int p2, .int 0, .int 0, .int 0])) t.heap) (fun q => q = a)) 0 0 (fun q => q = a) := by
  refine Met.ofW (cc := cX0_init) (maxL := 3) (ret := none) (by decide) rfl ?_
  intro p e s m args below meth c s₁ B hml hv
  obtain ⟨rfl, hsz, hat, hK, hA0, hA1⟩ := hv
  subst hsz
  have hx := B.exec
  have hb := B.bytes
  have hr := B.returns
  have hts := atoms_spec (ws := wsX0_init) B.pre
  have hown : s.vm.findClass RX0 = some m.cls := findClass_of_methodNamed B.named
  have hlocks := B.notSynchronized
  have hin2 : meth.name = "<init>" := (name_of_methodNamed B.named B.method).1
  have hl := lv_entry ([.ref a, .int p1, .int p2] : List Value) (n := 3) (Nat.le_of_ble_eq_true rfl)
  rw [lg_entry_eq]
  generalize (lg_sl ([.ref a, .int p1, .int p2] : List Value) ++ List.replicate (3 - (lg_sl ([.ref a, .int p1, .int p2] : List Value)).length) Slot.unset).toArray = ls at hl ⊢
  have hl : lv_has ls 3 [(0, .ref a), (1, .int p1), (2, .int p2)] := hl
  have hS : va_S (fun q => q = a) s.heap s.heap [] := va_S.rf
  have hin : ∀ w ∈ u_ws RX0 TX0 5, w ∈ wsX0_init := (fun w h => List.mem_cons_of_mem _ (List.mem_append_right _ (h)))
  refine lv_aload_n hx hb dX0_init_0 rfl (lv_at hl 0 rfl) ?_
  refine W.objInit hx hb hown (hts (.methodLink RX0 3 objectInit) (List.mem_of_getElem? (i := 1) rfl)) (hts (.instanceMethod objectInit) (List.mem_of_getElem? (i := 2) rfl)) (hts (.code objectInit ⟨#[0xb1]⟩ 1 none) (List.mem_of_getElem? (i := 3) rfl)) rfl (by rw [hml]; exact hl.1) rfl dX0_init_1 (Nat.le_of_ble_eq_true rfl) (Nat.le_of_ble_eq_true rfl) ?_
  refine W.eq (g2 := F0 m 4 ls []) rfl ?_
  refine lv_aload_n hx hb dX0_init_4 rfl (lv_at hl 0 rfl) ?_
  refine lv_iconst (v := 0) hx hb dX0_init_5 (by decide) ?_
  refine f_put (fs := [.int 0, .int 0, .int 0, .int 0, .int 0]) hx hb hts hin tyX0 tyX0_ok nmX0 hown hK hat hS rfl rfl 2 (by decide) (hts (.fieldLink RX0 9 "ReturnsDesk$Line" "state" "I") (List.mem_of_getElem? (i := 4) rfl)) (fun _ h9 => h9) rfl (tyX0_ok 2 (by decide)) rfl rfl (show (2 : Nat) < 5 by decide) dX0_init_6 (fun H1 locs hat hz1 ho hS => ?_)
  refine lv_aload_n hx hb dX0_init_9 rfl (lv_at hl 0 rfl) ?_
  refine lv_iload_n hx hb dX0_init_10 rfl (lv_at hl 1 rfl) ?_
  refine f_putF (fs := [.int 0, .int 0, .int 0, .int 0, .int 0]) hx hb hts hin tyX0 tyX0_ok nmX0 hown hK hat hS rfl rfl 0 (by decide) (hts (.fieldLink RX0 15 "ReturnsDesk$Line" "price" "I") (List.mem_of_getElem? (i := 5) rfl)) (fun _ h9 => h9) rfl hin2 rfl (tyX0_ok 0 (by decide)) rfl rfl (show (0 : Nat) < 5 by decide) dX0_init_11 (fun H1 locs hat hz1 ho hS => ?_)
  refine lv_aload_n hx hb dX0_init_14 rfl (lv_at hl 0 rfl) ?_
  refine lv_iload_n hx hb dX0_init_15 rfl (lv_at hl 2 rfl) ?_
  refine f_putF (fs := [.int p1, .int 0, .int 0, .int 0, .int 0]) hx hb hts hin tyX0 tyX0_ok nmX0 hown hK hat hS rfl rfl 1 (by decide) (hts (.fieldLink RX0 18 "ReturnsDesk$Line" "kind" "I") (List.mem_of_getElem? (i := 6) rfl)) (fun _ h9 => h9) rfl hin2 rfl (tyX0_ok 1 (by decide)) rfl rfl (show (1 : Nat) < 5 by decide) dX0_init_16 (fun H1 locs hat hz1 ho hS => ?_)
  exact W.vret hx hb hr (fun t ht _ => ⟨⟨(), rfl, trivial, by show va_at D vwCl _ t.heap; rw [ht]; exact hat⟩, hS.F ht⟩) hS.2.2 dX0_init_19 hlocks
set_option maxHeartbeats 4000000 in
set_option maxRecDepth 100000 in
theorem kX1_init (l : Launch) {D : va_G} {cI cO cL cJ : ClassId} (sz a : Nat) (p1 p2 : Int32) (haz : a < sz) : Met l yX1_init wsX1_init ({ frames := 1, cells := 1, slots := 8, locals := 12 } : Room) (cP D cI cO cL cJ sz (a, .inr (1, [.int 0, .int 0, .null, .int 0, .int 0, .int 0, .int 0, .int 0, .int 0, .int 0, .int 0, .int 0])) [.ref a, .int p1, .int p2]) (va_Qv (fun la : Nat => sz ≤ la) (fun la t => va_at D vwCl (a, .inr (1, [.int p1, .int p2, .ref la, .int 0, .int 0, .int 0, .int 0, .int 0, .int 0, .int 0, .int 0, .int 0])) t.heap ∧ va_at D vwCl (la, .inl (cL, 8, .inr (.inr (.inr (.inr (fun _ => none)))))) t.heap) (fun q => q = a ∨ sz ≤ q)) 1 8 (fun q => q = a ∨ sz ≤ q) := by
  refine Met.ofW (cc := cX1_init) (maxL := 3) (ret := none) (by decide) rfl ?_
  intro p e s m args below meth c s₁ B hml hv
  obtain ⟨rfl, hsz, hat, hK, hA0, hA1⟩ := hv
  subst hsz
  have hx := B.exec
  have hb := B.bytes
  have hr := B.returns
  have hts := atoms_spec (ws := wsX1_init) B.pre
  have hown : s.vm.findClass RX1 = some m.cls := findClass_of_methodNamed B.named
  have hlocks := B.notSynchronized
  have hin2 : meth.name = "<init>" := (name_of_methodNamed B.named B.method).1
  have hl := lv_entry ([.ref a, .int p1, .int p2] : List Value) (n := 3) (Nat.le_of_ble_eq_true rfl)
  rw [lg_entry_eq]
  generalize (lg_sl ([.ref a, .int p1, .int p2] : List Value) ++ List.replicate (3 - (lg_sl ([.ref a, .int p1, .int p2] : List Value)).length) Slot.unset).toArray = ls at hl ⊢
  have hl : lv_has ls 3 [(0, .ref a), (1, .int p1), (2, .int p2)] := hl
  have hS : va_S (fun q => q = a ∨ s.heap.size ≤ q) s.heap s.heap [] := va_S.rf
  have hin : ∀ w ∈ u_ws RX1 TX1 12, w ∈ wsX1_init := (fun w h => List.mem_cons_of_mem _ (List.mem_append_right _ (h)))
  refine lv_aload_n hx hb dX1_init_0 rfl (lv_at hl 0 rfl) ?_
  refine W.objInit hx hb hown (hts (.methodLink RX1 3 objectInit) (List.mem_of_getElem? (i := 1) rfl)) (hts (.instanceMethod objectInit) (List.mem_of_getElem? (i := 2) rfl)) (hts (.code objectInit ⟨#[0xb1]⟩ 1 none) (List.mem_of_getElem? (i := 3) rfl)) rfl (by rw [hml]; exact hl.1) rfl dX1_init_1 (Nat.le_of_ble_eq_true rfl) (Nat.le_of_ble_eq_true rfl) ?_
  refine W.eq (g2 := F0 m 4 ls []) rfl ?_
  refine lv_aload_n hx hb dX1_init_4 rfl (lv_at hl 0 rfl) ?_
  refine lv_bipush (v := 8) hx hb dX1_init_5 (by decide) ?_
  refine f_anew hx hb hown (hts (.classLink RX1 9 RX0) (List.mem_of_getElem? (i := 4) rfl)) hA0 hK 2 rfl hS (N' := 8) rfl (by decide) (Nat.le_of_ble_eq_true rfl) (Nat.le_of_ble_eq_true rfl) dX1_init_7 (fun H1 hla hz1 ho1 hS => ?_)
  have hat : va_at D vwCl (a, .inr (1, [.int 0, .int 0, .null, .int 0, .int 0, .int 0, .int 0, .int 0, .int 0, .int 0, .int 0, .int 0])) H1 := hat.kept (ho1 a haz)
  refine f_putF (fs := [.int 0, .int 0, .null, .int 0, .int 0, .int 0, .int 0, .int 0, .int 0, .int 0, .int 0, .int 0]) hx hb hts hin tyX1 tyX1_ok nmX1 hown hK hat hS (Or.inl rfl) rfl 2 (by decide) (hts (.fieldLink RX1 11 "ReturnsDesk$Order" "lines" "[LReturnsDesk$Line;") (List.mem_of_getElem? (i := 5) rfl)) (fun _ h9 => h9) rfl hin2 rfl (v := .ref s.heap.size) (tyX1_ok 2 (by decide)) rfl rfl (show (2 : Nat) < 12 by decide) dX1_init_10 (fun H1 locs hat hz1 ho hS => ?_)
  have hla : va_at D vwCl (s.heap.size, .inl (cL, 8, .inr (.inr (.inr (.inr (fun _ => none)))))) _ := hla.kept (ho s.heap.size (fun h => by have h9 : s.heap.size = a := h; omega))
  refine lv_aload_n hx hb dX1_init_13 rfl (lv_at hl 0 rfl) ?_
  refine lv_iload_n hx hb dX1_init_14 rfl (lv_at hl 1 rfl) ?_
  refine f_putF (fs := [.int 0, .int 0, .ref s.heap.size, .int 0, .int 0, .int 0, .int 0, .int 0, .int 0, .int 0, .int 0, .int 0]) hx hb hts hin tyX1 tyX1_ok nmX1 hown hK hat hS (Or.inl rfl) rfl 0 (by decide) (hts (.fieldLink RX1 17 "ReturnsDesk$Order" "percent" "I") (List.mem_of_getElem? (i := 6) rfl)) (fun _ h9 => h9) rfl hin2 rfl (tyX1_ok 0 (by decide)) rfl rfl (show (0 : Nat) < 12 by decide) dX1_init_15 (fun H1 locs hat hz1 ho hS => ?_)
  have hla : va_at D vwCl (s.heap.size, .inl (cL, 8, .inr (.inr (.inr (.inr (fun _ => none)))))) _ := hla.kept (ho s.heap.size (fun h => by have h9 : s.heap.size = a := h; omega))
  refine lv_aload_n hx hb dX1_init_18 rfl (lv_at hl 0 rfl) ?_
  refine lv_iload_n hx hb dX1_init_19 rfl (lv_at hl 2 rfl) ?_
  refine f_putF (fs := [.int p1, .int 0, .ref s.heap.size, .int 0, .int 0, .int 0, .int 0, .int 0, .int 0, .int 0, .int 0, .int 0]) hx hb hts hin tyX1 tyX1_ok nmX1 hown hK hat hS (Or.inl rfl) rfl 1 (by decide) (hts (.fieldLink RX1 21 "ReturnsDesk$Order" "least" "I") (List.mem_of_getElem? (i := 7) rfl)) (fun _ h9 => h9) rfl hin2 rfl (tyX1_ok 1 (by decide)) rfl rfl (show (1 : Nat) < 12 by decide) dX1_init_20 (fun H1 locs hat hz1 ho hS => ?_)
  have hla : va_at D vwCl (s.heap.size, .inl (cL, 8, .inr (.inr (.inr (.inr (fun _ => none)))))) _ := hla.kept (ho s.heap.size (fun h => by have h9 : s.heap.size = a := h; omega))
  exact W.vret hx hb hr (fun t ht _ => ⟨⟨s.heap.size, rfl, Nat.le_refl _, by show va_at D vwCl _ t.heap ∧ va_at D vwCl _ t.heap; rw [ht]; exact ⟨hat, hla⟩⟩, hS.F ht⟩) hS.2.2 dX1_init_23 hlocks
set_option maxHeartbeats 4000000 in
set_option maxRecDepth 100000 in
theorem kX2_init (l : Launch) {D : va_G} {cI cO cL cJ : ClassId} (sz a : Nat) (haz : a < sz) : Met l yX2_init wsX2_init ({ frames := 1, cells := 1, slots := 30, locals := 12 } : Room) (cP D cI cO cL cJ sz (a, .inr (2, [.null, .int 0, .int 0, .int 0, .int 0, .int 0])) [.ref a]) (va_Qv (fun bk : Nat => sz ≤ bk) (fun bk t => va_at D vwCl (a, .inr (2, [.ref bk, .int 0, .int 0, .int 0, .int 0, .int 0])) t.heap ∧ va_at D vwCl (bk, .inl (cO, 30, .inr (.inr (.inr (.inr (fun _ => none)))))) t.heap) (fun q => q = a ∨ sz ≤ q)) 1 30 (fun q => q = a ∨ sz ≤ q) := by
  refine Met.ofW (cc := cX2_init) (maxL := 1) (ret := none) (by decide) rfl ?_
  intro p e s m args below meth c s₁ B hml hv
  obtain ⟨rfl, hsz, hat, hK, hA0, hA1⟩ := hv
  subst hsz
  have hx := B.exec
  have hb := B.bytes
  have hr := B.returns
  have hts := atoms_spec (ws := wsX2_init) B.pre
  have hown : s.vm.findClass RX2 = some m.cls := findClass_of_methodNamed B.named
  have hlocks := B.notSynchronized
  have hin2 : meth.name = "<init>" := (name_of_methodNamed B.named B.method).1
  have hl := lv_entry ([.ref a] : List Value) (n := 1) (Nat.le_of_ble_eq_true rfl)
  rw [lg_entry_eq]
  generalize (lg_sl ([.ref a] : List Value) ++ List.replicate (1 - (lg_sl ([.ref a] : List Value)).length) Slot.unset).toArray = ls at hl ⊢
  have hl : lv_has ls 1 [(0, .ref a)] := hl
  have hS : va_S (fun q => q = a ∨ s.heap.size ≤ q) s.heap s.heap [] := va_S.rf
  have hin : ∀ w ∈ u_ws RX2 TX2 6, w ∈ wsX2_init := (fun w h => List.mem_cons_of_mem _ (List.mem_append_right _ (h)))
  refine lv_aload_n hx hb dX2_init_0 rfl (lv_at hl 0 rfl) ?_
  refine W.objInit hx hb hown (hts (.methodLink RX2 1 objectInit) (List.mem_of_getElem? (i := 1) rfl)) (hts (.instanceMethod objectInit) (List.mem_of_getElem? (i := 2) rfl)) (hts (.code objectInit ⟨#[0xb1]⟩ 1 none) (List.mem_of_getElem? (i := 3) rfl)) rfl (by rw [hml]; exact hl.1) rfl dX2_init_1 (Nat.le_of_ble_eq_true rfl) (Nat.le_of_ble_eq_true rfl) ?_
  refine W.eq (g2 := F0 m 4 ls []) rfl ?_
  refine lv_aload_n hx hb dX2_init_4 rfl (lv_at hl 0 rfl) ?_
  refine lv_bipush (v := 30) hx hb dX2_init_5 (by decide) ?_
  refine f_anew hx hb hown (hts (.classLink RX2 9 RX1) (List.mem_of_getElem? (i := 4) rfl)) hA1 hK 1 rfl hS (N' := 30) rfl (by decide) (Nat.le_of_ble_eq_true rfl) (Nat.le_of_ble_eq_true rfl) dX2_init_7 (fun H1 hla hz1 ho1 hS => ?_)
  have hat : va_at D vwCl (a, .inr (2, [.null, .int 0, .int 0, .int 0, .int 0, .int 0])) H1 := hat.kept (ho1 a haz)
  refine f_putF (fs := [.null, .int 0, .int 0, .int 0, .int 0, .int 0]) hx hb hts hin tyX2 tyX2_ok nmX2 hown hK hat hS (Or.inl rfl) rfl 0 (by decide) (hts (.fieldLink RX2 11 "ReturnsDesk" "book" "[LReturnsDesk$Order;") (List.mem_of_getElem? (i := 5) rfl)) (fun _ h9 => h9) rfl hin2 rfl (v := .ref s.heap.size) (tyX2_ok 0 (by decide)) rfl rfl (show (0 : Nat) < 6 by decide) dX2_init_10 (fun H1 locs hat hz1 ho hS => ?_)
  have hla : va_at D vwCl (s.heap.size, .inl (cO, 30, .inr (.inr (.inr (.inr (fun _ => none)))))) _ := hla.kept (ho s.heap.size (fun h => by have h9 : s.heap.size = a := h; omega))
  exact W.vret hx hb hr (fun t ht _ => ⟨⟨s.heap.size, rfl, Nat.le_refl _, by show va_at D vwCl _ t.heap ∧ va_at D vwCl _ t.heap; rw [ht]; exact ⟨hat, hla⟩⟩, hS.F ht⟩) hS.2.2 dX2_init_13 hlocks
end
section
/-! NEW ORDERS AND LINES: the world grows. -/
def gOrd (g : XG) (n q la : Nat) : XG := fun t i => if t = 0 ∧ i = n then some q else if t = 1 ∧ i = n then some la else g t i
def gLine (g : XG) (j al : Nat) : XG := fun t i => if t = 2 ∧ i = j then some al else g t i
def gMov (g : XG) (j al : Nat) : XG := fun t i => if t = 2 ∧ i = j then some al else if t = 2 ∧ i = 300 then none else g t i
def xNewO (X : MS) (n : Nat) (p0 p1 : Int32) : MS := mu (mu (mu (mu (mu (mu (mu (mu (mu (mu (mu X 5 n p0) 6 n p1) 7 n 0) 8 n 0) 9 n 0) 10 n 0) 11 n 0) 12 n 0) 13 n 0) 14 n 0) 15 n 0
def xNewL (X : MS) (j : Nat) (p kd : Int32) : MS := mu (mu (mu (mu (mu X 16 j p) 17 j kd) 18 j 0) 19 j 0) 20 j 0
def xMov (X : MS) (j : Nat) : MS := mu (mu (mu (mu (mu X 16 j (X 16 300)) 17 j (X 17 300)) 18 j (X 18 300)) 19 j (X 19 300)) 20 j (X 20 300)
def xZ (g : XG) (n : Nat) : Prop := (∀ t i a, 4 ≤ t → g t i = some a → t = 4 ∧ i = 0) ∧ (∀ i, 8 * n ≤ i → g 2 i = none) ∧ ∀ i a, g 1 i = some a → i < n
theorem ge_of {q a b : Nat} (h : q = a ∨ b ≤ q) (hb : a ≤ b) : a ≤ q := by omega
theorem gOrd_key {g : XG} {n q la t i a : Nat} (h : gOrd g n q la t i = some a) : (t = 0 ∧ i = n ∧ a = q) ∨ (t = 1 ∧ i = n ∧ a = la) ∨ (g t i = some a ∧ ¬ (t = 0 ∧ i = n) ∧ ¬ (t = 1 ∧ i = n)) := by
  unfold gOrd at h
  split at h
  · next h1 => exact Or.inl ⟨h1.1, h1.2, (Option.some.inj h).symm⟩
  · next h1 =>
    split at h
    · next h2 => exact Or.inr (Or.inl ⟨h2.1, h2.2, (Option.some.inj h).symm⟩)
    · next h2 => exact Or.inr (Or.inr ⟨h, h1, h2⟩)
theorem gLine_key {g : XG} {j al t i a : Nat} (h : gLine g j al t i = some a) : (t = 2 ∧ i = j ∧ a = al) ∨ (g t i = some a ∧ ¬ (t = 2 ∧ i = j)) := by
  unfold gLine at h
  split at h
  · next h1 => exact Or.inl ⟨h1.1, h1.2, (Option.some.inj h).symm⟩
  · next h1 => exact Or.inr ⟨h, h1⟩
theorem gMov_key {g : XG} {j al t i a : Nat} (h : gMov g j al t i = some a) : (t = 2 ∧ i = j ∧ a = al) ∨ (g t i = some a ∧ ¬ (t = 2 ∧ i = j) ∧ ¬ (t = 2 ∧ i = 300)) := by
  unfold gMov at h
  split at h
  · next h1 => exact Or.inl ⟨h1.1, h1.2, (Option.some.inj h).symm⟩
  · next h1 =>
    split at h
    · cases h
    · next h2 => exact Or.inr ⟨h, h1, h2⟩
theorem xI.ord {g : XG} {n q la sz : Nat} (hI : xI g) (hl : ∀ t i a, g t i = some a → a < sz) (hq : sz ≤ q) (hla : sz ≤ la) (hne : q ≠ la) : xI (gOrd g n q la) := by
  intro t i t' i' a h h'
  rcases gOrd_key h with ⟨h1, h2, h3⟩ | ⟨h1, h2, h3⟩ | ⟨h1, h2, h3⟩ <;> rcases gOrd_key h' with ⟨k1, k2, k3⟩ | ⟨k1, k2, k3⟩ | ⟨k1, k2, k3⟩
  · omega
  · omega
  · have := hl _ _ _ k1; omega
  · omega
  · omega
  · have := hl _ _ _ k1; omega
  · have := hl _ _ _ h1; omega
  · have := hl _ _ _ h1; omega
  · exact hI _ _ _ _ _ h1 k1
theorem xI.line {g : XG} {j al sz : Nat} (hI : xI g) (hl : ∀ t i a, g t i = some a → a < sz) (hal : sz ≤ al) : xI (gLine g j al) := by
  intro t i t' i' a h h'
  rcases gLine_key h with ⟨h1, h2, h3⟩ | ⟨h1, h2⟩ <;> rcases gLine_key h' with ⟨k1, k2, k3⟩ | ⟨k1, k2⟩
  · omega
  · have := hl _ _ _ k1; omega
  · have := hl _ _ _ h1; omega
  · exact hI _ _ _ _ _ h1 k1
theorem xI.mov {g : XG} {j al : Nat} (hI : xI g) (hal : g 2 300 = some al) : xI (gMov g j al) := by
  intro t i t' i' a h h'
  rcases gMov_key h with ⟨h1, h2, h3⟩ | ⟨h1, h2, h3⟩ <;> rcases gMov_key h' with ⟨k1, k2, k3⟩ | ⟨k1, k2, k3⟩
  · omega
  · subst h3; exact absurd (hI _ _ _ _ _ k1 hal) k3
  · subst k3; exact absurd (hI _ _ _ _ _ h1 hal) h3
  · exact hI _ _ _ _ _ h1 k1
theorem xNewO_o {X : MS} {n : Nat} {p0 p1 : Int32} {g : XG} {q la i : Nat} (h : i ≠ n) : xobO (gOrd g n q la) (xNewO X n p0 p1) i = xobO g X i := by
  simp [xobO, gOrd, xNewO, mu_e, h]
theorem xNewO_s {X : MS} {n : Nat} {p0 p1 : Int32} {g : XG} {q la : Nat} : xobO (gOrd g n q la) (xNewO X n p0 p1) n = [.int p0, .int p1, .ref la, .int 0, .int 0, .int 0, .int 0, .int 0, .int 0, .int 0, .int 0, .int 0] := by
  simp [xobO, gOrd, xNewO, mu_e, va_rf]
theorem xW.ord {D : va_G} {cO cL : ClassId} {g : XG} {X : MS} {H H3 : Heap} {n q la bk : Nat} {p0 p1 : Int32} (hW : xW D cO cL g X H) (hI : xI g) (hbk : g 4 0 = some bk) (hZ : xZ g n) (hold : ∀ a : Nat, a < H.size → a ≠ bk → H3[a]? = H[a]?) (hq : va_at D vwCl (q, .inr (1, [.int p0, .int p1, .ref la, .int 0, .int 0, .int 0, .int 0, .int 0, .int 0, .int 0, .int 0, .int 0])) H3) (hla : va_at D vwCl (la, .inl (cL, 8, .inr (.inr (.inr (.inr (fun _ => none)))))) H3) (hb : va_at D vwCl (bk, .inl (cO, 30, .inr (.inr (.inr (.inr (va_up (fun j => g 0 j) n (some q))))))) H3) : xW D cO cL (gOrd g n q la) (xNewO X n p0 p1) H3 := by
  intro t i a ha
  rcases gOrd_key ha with ⟨rfl, rfl, rfl⟩ | ⟨rfl, rfl, rfl⟩ | ⟨h1, h2, h3⟩
  · show va_at D vwCl (a, .inr (1, xobO (gOrd g i a la) (xNewO X i p0 p1) i)) H3
    rw [xNewO_s]; exact hq
  · refine at_congr hla (fun j hj => ?_)
    show none = gOrd g i q a 2 (8 * i + j)
    simp [gOrd, hZ.2.1 (8 * i + j) (by omega)]
  · by_cases h4 : 4 ≤ t
    · obtain ⟨rfl, rfl⟩ := hZ.1 t i a h4 h1
      rw [hbk] at h1; cases h1
      refine at_congr hb (fun j hj => ?_)
      by_cases hj : j = n <;> simp [va_up, gOrd, hj]
    · have hk : va_at D vwCl (a, xcell cO cL g X t i) H3 := (hW t i a h1).kept (hold a (hW.lt h1) (fun e => by subst e; have := hI _ _ _ _ _ h1 hbk; omega))
      rcases (show t = 0 ∨ t = 1 ∨ t = 2 ∨ t = 3 by omega) with rfl | rfl | rfl | rfl
      · show va_at D vwCl (a, .inr (1, xobO (gOrd g n q la) (xNewO X n p0 p1) i)) H3
        rw [xNewO_o (fun e => h2 ⟨rfl, e⟩)]; exact hk
      · refine at_congr hk (fun j hj => ?_)
        simp [gOrd]
      · show va_at D vwCl (a, .inr (0, xobL (xNewO X n p0 p1) i)) H3
        rw [show xobL (xNewO X n p0 p1) i = xobL X i by simp [xobL, xNewO, mu_e]]; exact hk
      · show va_at D vwCl (a, .inr (2, xobD (gOrd g n q la) (xNewO X n p0 p1) i)) H3
        rw [show xobD (gOrd g n q la) (xNewO X n p0 p1) i = xobD g X i by simp [xobD, gOrd, xNewO, mu_e]]; exact hk
theorem xW.line {D : va_G} {cO cL : ClassId} {g : XG} {X : MS} {H H3 : Heap} {al : Nat} {p kd : Int32} (hW : xW D cO cL g X H) (h30 : ∀ i a, g 1 i = some a → i < 30) (hold : ∀ a : Nat, a < H.size → H3[a]? = H[a]?) (hal : va_at D vwCl (al, .inr (0, [.int p, .int kd, .int 0, .int 0, .int 0])) H3) : xW D cO cL (gLine g 300 al) (xNewL X 300 p kd) H3 := by
  intro t i a ha
  rcases gLine_key ha with ⟨rfl, rfl, rfl⟩ | ⟨h1, h2⟩
  · show va_at D vwCl (a, .inr (0, xobL (xNewL X 300 p kd) 300)) H3
    rw [show xobL (xNewL X 300 p kd) 300 = [.int p, .int kd, .int 0, .int 0, .int 0] by simp [xobL, xNewL, mu_e]]; exact hal
  · have hk : va_at D vwCl (a, xcell cO cL g X t i) H3 := (hW t i a h1).kept (hold a (hW.lt h1))
    by_cases h4 : 4 ≤ t
    · obtain ⟨t, rfl⟩ : ∃ z, t = z + 4 := ⟨t - 4, by omega⟩
      refine at_congr hk (fun j hj => ?_)
      simp [gLine]
    · rcases (show t = 0 ∨ t = 1 ∨ t = 2 ∨ t = 3 by omega) with rfl | rfl | rfl | rfl
      · show va_at D vwCl (a, .inr (1, xobO (gLine g 300 al) (xNewL X 300 p kd) i)) H3
        rw [show xobO (gLine g 300 al) (xNewL X 300 p kd) i = xobO g X i by simp [xobO, gLine, xNewL, mu_e]]; exact hk
      · refine at_congr hk (fun j hj => ?_)
        have := h30 i a h1
        have : ¬ (8 * i + j = 300) := by omega
        simp [gLine, this]
      · have hi : i ≠ 300 := fun e => h2 ⟨rfl, e⟩
        show va_at D vwCl (a, .inr (0, xobL (xNewL X 300 p kd) i)) H3
        rw [show xobL (xNewL X 300 p kd) i = xobL X i by simp [xobL, xNewL, mu_e, hi]]; exact hk
      · show va_at D vwCl (a, .inr (2, xobD (gLine g 300 al) (xNewL X 300 p kd) i)) H3
        rw [show xobD (gLine g 300 al) (xNewL X 300 p kd) i = xobD g X i by simp [xobD, gLine, xNewL, mu_e]]; exact hk
theorem xW.mov {D : va_G} {cO cL : ClassId} {g : XG} {X : MS} {H H3 : Heap} {al la k kk : Nat} (hW : xW D cO cL g X H) (hI : xI g) (h30 : ∀ i a, g 1 i = some a → i < 30) (hla : g 1 k = some la) (hal : g 2 300 = some al) (hkk : kk < 8) (hold : ∀ a : Nat, a ≠ la → H3[a]? = H[a]?) (hb : va_at D vwCl (la, .inl (cL, 8, .inr (.inr (.inr (.inr (va_up (fun j => g 2 (8 * k + j)) kk (some al))))))) H3) : xW D cO cL (gMov g (8 * k + kk) al) (xMov X (8 * k + kk)) H3 := by
  intro t i a ha
  have hk30 := h30 k la hla
  rcases gMov_key ha with ⟨rfl, rfl, rfl⟩ | ⟨h1, h2, h3⟩
  · show va_at D vwCl (a, .inr (0, xobL (xMov X (8 * k + kk)) (8 * k + kk))) H3
    rw [show xobL (xMov X (8 * k + kk)) (8 * k + kk) = xobL X 300 by simp [xobL, xMov, mu_e]]
    exact (hW 2 300 a hal).kept (hold a (fun e => by subst e; have := hI _ _ _ _ _ hal hla; omega))
  · by_cases hkt : t = 1 ∧ i = k
    · obtain ⟨rfl, rfl⟩ := hkt
      rw [hla] at h1; cases h1
      refine at_congr hb (fun j hj => ?_)
      have h5 : ¬ (8 * i + j = 300) := by omega
      by_cases hjk : j = kk
      · subst hjk; simp [va_up, gMov]
      · have h6 : ¬ (8 * i + j = 8 * i + kk) := by omega
        simp [va_up, gMov, hjk, h5]
    · have hk : va_at D vwCl (a, xcell cO cL g X t i) H3 := (hW t i a h1).kept (hold a (fun e => by subst e; exact hkt (hI _ _ _ _ _ h1 hla)))
      by_cases h4 : 4 ≤ t
      · obtain ⟨t, rfl⟩ : ∃ z, t = z + 4 := ⟨t - 4, by omega⟩
        refine at_congr hk (fun j hj => ?_)
        simp [gMov]
      · rcases (show t = 0 ∨ t = 1 ∨ t = 2 ∨ t = 3 by omega) with rfl | rfl | rfl | rfl
        · show va_at D vwCl (a, .inr (1, xobO (gMov g (8 * k + kk) al) (xMov X (8 * k + kk)) i)) H3
          rw [show xobO (gMov g (8 * k + kk) al) (xMov X (8 * k + kk)) i = xobO g X i by simp [xobO, gMov, xMov, mu_e]]; exact hk
        · refine at_congr hk (fun j hj => ?_)
          have h5 := h30 i a h1
          have h6 : ¬ (8 * i + j = 300) := by omega
          have h7 : ¬ (8 * i + j = 8 * k + kk) := fun e => hkt ⟨rfl, by omega⟩
          simp [gMov, h6, h7]
        · have hi : i ≠ 8 * k + kk := fun e => h2 ⟨rfl, e⟩
          show va_at D vwCl (a, .inr (0, xobL (xMov X (8 * k + kk)) i)) H3
          rw [show xobL (xMov X (8 * k + kk)) i = xobL X i by simp [xobL, xMov, mu_e, hi]]; exact hk
        · show va_at D vwCl (a, .inr (2, xobD (gMov g (8 * k + kk) al) (xMov X (8 * k + kk)) i)) H3
          rw [show xobD (gMov g (8 * k + kk) al) (xMov X (8 * k + kk)) i = xobD g X i by simp [xobD, gMov, xMov, mu_e]]; exact hk
/-- answers with a world that has grown -/
def xGi (D : va_G) (cO cL : ClassId) (g : XG) (sz : Nat) (post : Int32 → XG × MS → Prop) : Array Value → State → Outcome → State → Prop := va_Qi post (fun u t => xW D cO cL u.1 u.2 t.heap) (xA g sz)
section GEnds
variable {p : Program} {l : Launch} {e : Env} {R : Room} {s : State} {m : MethodId} {args : Array Value} {below : List Frame} {meth : Method} {c : Code} {H : Heap} {locs : List Loc} {cells slots : Nat} {Q : State → Prop}
variable {cc : ByteArray} {pc : Nat} {ls : Array Slot} {rest : List Value} {D : va_G} {cI cO cL cJ : ClassId} {g g' : XG} {X : MS} {hz sz mc ms : Nat} {cond : String → Prop}
theorem xg_retM (hexec : p.tables.exec = Jvm.exec) (hb : c.code = cc) (hr : meth.sig.returnType = some .int) (hlocks : meth.locks = false) (hm : cells ≤ mc ∧ slots ≤ ms) (hW : xW D cO cL g' X H) (hS : va_S (xA g sz) s.heap H locs) {post : Int32 → XG × MS → Prop} {v : Int32} (hp : post v (g', X)) (hdg : decode cc pc = .ok (.ireturn, 1)) : W p l e R s m args below meth c H locs cells slots (MQ below (xGi D cO cL g sz post) args s mc ms (xA g sz)) (F0 m pc ls [.int v]) :=
  W.widen hm.1 hm.2 (W.iret (v := v) hexec hb hr (fun t ht _ => ⟨⟨v, (g', X), rfl, hp, by show xW D cO cL g' X t.heap; rw [ht]; exact hW⟩, hS.F ht⟩) hS.2.2 hdg hlocks)
theorem xg_ret (hexec : p.tables.exec = Jvm.exec) (hb : c.code = cc) (hr : meth.sig.returnType = some .int) (hlocks : meth.locks = false) (hm : cells ≤ mc ∧ slots ≤ ms) (hW : xW D cO cL g' X H) (hS : va_S (xA g sz) s.heap H locs) {post : Int32 → XG × MS → Prop} {v : Int32} (hp : post v (g', X)) (hdg : decode cc pc = .ok (.ireturn, 1)) : W p l e R s m args below meth c H locs cells slots (vx_MQ below (xGi D cO cL g sz post) (xT cond) args s mc ms (xA g sz)) (F0 m pc ls [.int v]) := vx_ret (xg_retM hexec hb hr hlocks hm hW hS hp hdg)
end GEnds
theorem nwX1 : ∀ j, j < 12 → defaultValue (tyX1 j) = vp_V ([.int 0, .int 0, .null, .int 0, .int 0, .int 0, .int 0, .int 0, .int 0, .int 0, .int 0, .int 0] : List Value) j := by
  intro j hj
  rcases (show j = 0 ∨ j = 1 ∨ j = 2 ∨ j = 3 ∨ j = 4 ∨ j = 5 ∨ j = 6 ∨ j = 7 ∨ j = 8 ∨ j = 9 ∨ j = 10 ∨ j = 11 by omega) with rfl | rfl | rfl | rfl | rfl | rfl | rfl | rfl | rfl | rfl | rfl | rfl <;> rfl
theorem nwX0 : ∀ j, j < 5 → defaultValue (tyX0 j) = vp_V ([.int 0, .int 0, .int 0, .int 0, .int 0] : List Value) j := by
  intro j hj
  rcases (show j = 0 ∨ j = 1 ∨ j = 2 ∨ j = 3 ∨ j = 4 by omega) with rfl | rfl | rfl | rfl | rfl <;> rfl
theorem nwX2 : ∀ j, j < 6 → defaultValue (tyX2 j) = vp_V ([.null, .int 0, .int 0, .int 0, .int 0, .int 0] : List Value) j := by
  intro j hj
  rcases (show j = 0 ∨ j = 1 ∨ j = 2 ∨ j = 3 ∨ j = 4 ∨ j = 5 by omega) with rfl | rfl | rfl | rfl | rfl | rfl <;> rfl
theorem room_no {X : MS} {k kk : Nat} (hX7 : X 7 k = nI kk) (hkk : kk ≤ 8) (h : roomX X k = 0) : ¬ kk < 8 := by
  intro z
  unfold roomX at h
  rw [if_neg (by rw [hX7]; exact nI_ge (b := 8) z (by decide))] at h
  exact absurd h (by decide)
set_option maxHeartbeats 4000000 in
set_option maxRecDepth 100000 in
theorem kX2_order (l : Launch) (hlt : l.stackTraces = false) {D : va_G} {cI cO cL cJ : ClassId} (g : XG) (X : MS) (hz sz : Nat) (hI : xI g) (hO : xO g hz sz) (d bk : Nat) (hd : g 3 0 = some d) (hbk : g 4 0 = some bk) (n : Nat) (kc : Nat → Nat) (hC : xC g X n kc) (hZ : xZ g n) (p0 p1 : Int32) : vx_Met l yX2_order wsX2_order ({ frames := 7, cells := 4, slots := 32, locals := 104 } : Room) (xP D cI cO cL cJ g X hz sz [.ref d, .int p0, .int p1]) (xGi D cO cL g sz (fun r u => ∃ q la, sz ≤ q ∧ sz ≤ la ∧ q ≠ la ∧ u.1 = gOrd g n q la ∧ u.2 = mu (xNewO X n p0 p1) 0 0 (nI (n + 1)) ∧ r = nI n ∧ n < 30 ∧ inR p0 0 90 ∧ inR p1 0 1000000)) (xT (fun E : String => (E = IAE ∧ (¬ inR p0 0 90 ∨ ¬ inR p1 0 1000000)) ∨ (E = ISE ∧ inR p0 0 90 ∧ inR p1 0 1000000 ∧ ¬ n < 30))) 4 32 (xA g sz) := by
  refine x_body (cc := cX2_order) (maxL := 3) (ret := some .int) (by decide) rfl [.ref d, .int p0, .int p1] (Nat.le_of_ble_eq_true rfl) ?_
  intro p e s m args below meth c hx hb hr hts hown hml hlocks htab hsz hW hK hE ls hl
  subst hsz
  have hown : s.vm.findClass RX2 = some m.cls := hown
  have hl : lv_has ls 3 [(0, .ref d), (1, .int p0), (2, .int p1)] := hl
  have hin1 : ∀ w ∈ u_ws RX1 TX1 12, w ∈ wsX2_order := (fun w h => List.mem_cons_of_mem _ (List.mem_append_left _ (List.mem_append_left _ (List.mem_append_right _ (h)))))
  have hin2 : ∀ w ∈ u_ws RX2 TX2 6, w ∈ wsX2_order := (fun w h => List.mem_cons_of_mem _ (List.mem_append_left _ (List.mem_append_left _ (List.mem_append_left _ (List.mem_append_right _ (h))))))
  have hS : va_S (xA g s.heap.size) s.heap s.heap [] := va_S.rf
  refine lv_iload_n hx hb dX2_order_0 rfl (lv_at hl 1 rfl) ?_
  refine lv_iconst (v := 0) hx hb dX2_order_1 (by decide) ?_
  refine lv_bipush (v := 90) hx hb dX2_order_2 (by decide) ?_
  refine x_cV (vx_runS (As := [.int p0, .int 0, .int 90]) (rest := []) ⟨hx, hb, hml, hown, hts⟩ (kX2_requireRange l hlt g X hz _ p0 0 90) (va_cwS 3 hts gX2_order_X2_requireRange rfl rfl rfl (by decide +kernel) ⟨Nat.le_of_ble_eq_true rfl, Nat.le_of_ble_eq_true rfl⟩) (x_preS hW hK hE) rfl rfl hl.1 rfl (lv_room (Nat.le_of_ble_eq_true rfl)) dX2_order_4 ⟨Nat.le_of_ble_eq_true rfl, Nat.le_of_ble_eq_true rfl⟩) hS (fun E ce q9 H1 locs1 hc hz1 hk1 hS1 hL1 hce hcv hcl => x_prop htab hlocks hce hcv hcl hz1 hk1 (fun z h => (hL1 z h).elim (fun h => nomatch h) (fun h => h.elim)) ⟨Nat.le_of_ble_eq_true rfl, Nat.le_of_ble_eq_true rfl⟩ (Or.inl ⟨hc.1, Or.inl hc.2⟩)) (fun h4 => ?_)
  refine lv_iload_n hx hb dX2_order_7 rfl (lv_at hl 2 rfl) ?_
  refine lv_iconst (v := 0) hx hb dX2_order_8 (by decide) ?_
  refine lv_ldc (v := 1000000) hx hb hown (hts (.constant RX2 19 (1000000)) (List.mem_of_getElem? (i := 3) rfl)) dX2_order_9 ?_
  refine x_cV (vx_runS (As := [.int p1, .int 0, .int 1000000]) (rest := []) ⟨hx, hb, hml, hown, hts⟩ (kX2_requireRange l hlt g X hz _ p1 0 1000000) (va_cwS 3 hts gX2_order_X2_requireRange rfl rfl rfl (by decide +kernel) ⟨Nat.le_of_ble_eq_true rfl, Nat.le_of_ble_eq_true rfl⟩) (x_preS hW hK hE) rfl rfl hl.1 rfl (lv_room (Nat.le_of_ble_eq_true rfl)) dX2_order_11 ⟨Nat.le_of_ble_eq_true rfl, Nat.le_of_ble_eq_true rfl⟩) hS (fun E ce q9 H1 locs1 hc hz1 hk1 hS1 hL1 hce hcv hcl => x_prop htab hlocks hce hcv hcl hz1 hk1 (fun z h => (hL1 z h).elim (fun h => nomatch h) (fun h => h.elim)) ⟨Nat.le_of_ble_eq_true rfl, Nat.le_of_ble_eq_true rfl⟩ (Or.inl ⟨hc.1, Or.inr hc.2⟩)) (fun h11 => ?_)
  refine lv_aload_n hx hb dX2_order_14 rfl (lv_at hl 0 rfl) ?_
  refine f_get (ci := 2) (fs := xobD g X 0) (v := .int (X 0 0)) hx hb hts hin2 hown hK (hW 3 0 _ hd) rfl 1 (by decide) (hts (.fieldLink RX2 20 "ReturnsDesk" "orderCount" "I") (List.mem_of_getElem? (i := 4) rfl)) (fun _ h9 => h9) rfl dX2_order_15 ?_
  refine lv_if_lt (tgt := 33) hx hb dX2_order_18 (by decide) (fun h9 => absurd h9 (by rw [hC.2.1]; exact nI_pos (by have := hC.1; omega))) (fun _ => ?_)
  refine lv_aload_n hx hb dX2_order_21 rfl (lv_at hl 0 rfl) ?_
  refine f_get (ci := 2) (fs := xobD g X 0) (v := .int (X 0 0)) hx hb hts hin2 hown hK (hW 3 0 _ hd) rfl 1 (by decide) (hts (.fieldLink RX2 20 "ReturnsDesk" "orderCount" "I") (List.mem_of_getElem? (i := 4) rfl)) (fun _ h9 => h9) rfl dX2_order_22 ?_
  refine lv_aload_n hx hb dX2_order_25 rfl (lv_at hl 0 rfl) ?_
  refine f_get (ci := 2) (fs := xobD g X 0) (v := .ref bk) hx hb hts hin2 hown hK (hW 3 0 _ hd) rfl 0 (by decide) (hts (.fieldLink RX2 11 "ReturnsDesk" "book" "[LReturnsDesk$Order;") (List.mem_of_getElem? (i := 5) rfl)) (fun _ h9 => h9) (congrArg (fun z => some (va_rf z)) hbk) dX2_order_26 ?_
  refine f_alen (v := 30) hx hb hK 1 rfl (hW 4 0 _ hbk) rfl dX2_order_29 ?_
  refine lv_icmp_lt (tgt := 43) hx hb dX2_order_30 (by decide) (fun c30 => ?_) (fun c30 => ?_)
  · skip
    have hn30 : n < 30 := Nat.lt_of_not_le (fun z => by rw [hC.2.1] at c30; exact nI_nlt (a := n) (b := 30) z (by have := hC.1; omega) c30)
    refine lv_aload_n hx hb dX2_order_43 rfl (lv_at hl 0 rfl) ?_
    refine f_get (ci := 2) (fs := xobD g X 0) (v := .ref bk) hx hb hts hin2 hown hK (hW 3 0 _ hd) rfl 0 (by decide) (hts (.fieldLink RX2 11 "ReturnsDesk" "book" "[LReturnsDesk$Order;") (List.mem_of_getElem? (i := 5) rfl)) (fun _ h9 => h9) (congrArg (fun z => some (va_rf z)) hbk) dX2_order_44 ?_
    refine lv_aload_n hx hb dX2_order_47 rfl (lv_at hl 0 rfl) ?_
    refine f_get (ci := 2) (fs := xobD g X 0) (v := .int (nI n)) hx hb hts hin2 hown hK (hW 3 0 _ hd) rfl 1 (by decide) (hts (.fieldLink RX2 20 "ReturnsDesk" "orderCount" "I") (List.mem_of_getElem? (i := 4) rfl)) (fun _ h9 => h9) (congrArg (fun z => some (Value.int z)) hC.2.1) dX2_order_48 ?_
    refine f_new (own := RX2) (C := RX1) (T := TX1) (N := 12) (ci := 1) (fs := [.int 0, .int 0, .null, .int 0, .int 0, .int 0, .int 0, .int 0, .int 0, .int 0, .int 0, .int 0]) hx hb hts hin1 tyX1 tyX1_ok hown (hts (.classLink RX2 9 RX1) (List.mem_of_getElem? (i := 6) rfl)) (hts (.instantiable RX1 12) (List.mem_of_getElem? (i := 7) rfl)) (hts (.initialized RX1) (List.mem_of_getElem? (i := 8) rfl)) hK hS rfl nwX1 (Nat.le_of_ble_eq_true rfl) (Nat.le_of_ble_eq_true rfl) dX2_order_51 (fun H1 hq1 hz1 ho1 hS => ?_)
    refine lv_dup hx hb dX2_order_54 rfl ?_
    refine lv_iload_n hx hb dX2_order_55 rfl (lv_at hl 1 rfl) ?_
    refine lv_iload_n hx hb dX2_order_56 rfl (lv_at hl 2 rfl) ?_
    refine va_callv (va_runI (As := [.int p0, .int p1]) (rest := [.ref s.heap.size, .int (nI n), .ref bk]) ⟨hx, hb, hml, hown, hts⟩ (kX1_init l H1.size s.heap.size p0 p1 (by omega)) (cwI 2 hts gX2_order_X1_init rfl rfl rfl (hts (.initialized RX1) (List.mem_of_getElem? (i := 8) rfl)) (hts (.methodLink RX2 31 yX1_init) (List.mem_of_getElem? (i := 15) rfl)) (hts (.instanceMethod yX1_init) (List.mem_of_getElem? (i := 16) rfl)) rfl (by decide +kernel) ⟨Nat.le_of_ble_eq_true rfl, Nat.le_of_ble_eq_true rfl⟩) (c_pre hq1 hK hE.2.2.2.2.1 hE.2.2.2.2.2) rfl rfl hl.1 rfl (lv_room (Nat.le_of_ble_eq_true rfl)) dX2_order_57 ⟨Nat.le_of_ble_eq_true rfl, Nat.le_of_ble_eq_true rfl⟩) hS (fun q _ h => Or.inr (ge_of h (by omega))) (fun q h => Or.inr (ge_of h (by omega))) (fun la t H2 locs ht hvm hp hB hz2 hk2 hS => ?_)
    obtain ⟨hq2, hla2⟩ := hB
    rw [ht] at hq2 hla2
    have hla2' : la < H2.size := hla2.lt
    have hold2 : ∀ a : Nat, a < s.heap.size → H2[a]? = s.heap[a]? := fun a h => (hk2 a (by omega) (fun z => absurd (ge_of z (by omega)) (Nat.not_le.mpr h))).trans (ho1 a h)
    have hbk2 : va_at D vwCl (bk, .inl (cO, 30, .inr (.inr (.inr (.inr (fun j => g 0 j)))))) H2 := (hW 4 0 bk hbk).kept (hold2 bk (hW.lt hbk))
    have hbklt := hW.lt hbk
    refine f_aast (r := (RX1, TX1, 12)) hx hb hK 1 1 rfl rfl hbk2 hq2 hS (Or.inl ⟨4, 0, hbk⟩) rfl hn30 (by decide) dX2_order_60 (fun H3 locs hb3 hz3 ho3 hS => ?_)
    have hW3 : xW D cO cL (gOrd g n s.heap.size la) (xNewO X n p0 p1) H3 := xW.ord hW hI hbk hZ (fun a h1 h2 => (ho3 a h2).trans (hold2 a h1)) (hq2.kept (ho3 _ (by omega))) (hla2.kept (ho3 _ (by omega))) hb3
    have hI3 : xI (gOrd g n s.heap.size la) := hI.ord (fun t i a h => hW.lt h) (Nat.le_refl _) (by omega) (by omega)
    have hd3 : gOrd g n s.heap.size la 3 0 = some d := hd
    refine lv_aload_n hx hb dX2_order_61 rfl (lv_at hl 0 rfl) ?_
    refine lv_dup hx hb dX2_order_62 rfl ?_
    refine f_get (ci := 2) (fs := xobD (gOrd g n s.heap.size la) (xNewO X n p0 p1) 0) (v := .int (nI n)) hx hb hts hin2 hown hK (hW3 3 0 _ hd3) rfl 1 (by decide) (hts (.fieldLink RX2 20 "ReturnsDesk" "orderCount" "I") (List.mem_of_getElem? (i := 4) rfl)) (fun _ h9 => h9) (congrArg (fun z => some (Value.int z)) hC.2.1) dX2_order_63 ?_
    refine lv_dup_x1 hx hb dX2_order_66 rfl rfl ?_
    refine lv_iconst (v := 1) hx hb dX2_order_67 (by decide) ?_
    refine lv_iadd hx hb dX2_order_68 ?_
    refine cv (y := nI (n + 1)) (nI_1 n) ?_
    refine x_putD hx hb hts hin2 hown hK hI3 hW3 hS hd3 (Or.inl ⟨3, 0, hd⟩) 1 0 (by decide) (hts (.fieldLink RX2 20 "ReturnsDesk" "orderCount" "I") (List.mem_of_getElem? (i := 4) rfl)) (fun _ h9 => h9) dX2_order_69 (fun H locs hW hz4 _ hS => ?_)
    exact xg_ret hx hb hr hlocks ⟨Nat.le_of_ble_eq_true rfl, Nat.le_of_ble_eq_true rfl⟩ hW hS ⟨s.heap.size, la, Nat.le_refl _, by omega, by omega, rfl, rfl, rfl, hn30, h4, h11⟩ dX2_order_72
  · skip
    exact x_throw (cls := ISE) (text := "no room for another order") (ik := 24) (is := 26) (ic := 28) hlt hx hb hown hts hE (by decide +kernel) (by decide +kernel) (hts (.classLink RX2 24 "java/lang/IllegalStateException") (List.mem_of_getElem? (i := 1) rfl)) (hts (.initialized "java/lang/IllegalStateException") (List.mem_of_getElem? (i := 2) rfl)) (List.mem_of_getElem? (i := 0) rfl) (fun w h => List.mem_cons_of_mem _ (List.mem_append_left _ (List.mem_append_right _ (h)))) tn_S tg_S (hl.1.trans hml.symm) htab hlocks dX2_order_33 dX2_order_36 dX2_order_37 dX2_order_39 dX2_order_42 ⟨(Nat.le_of_ble_eq_true rfl), (Nat.le_of_ble_eq_true rfl), (Nat.le_of_ble_eq_true rfl), (Nat.le_of_ble_eq_true rfl)⟩ ⟨(Nat.le_of_ble_eq_true rfl), (Nat.le_of_ble_eq_true rfl)⟩ rfl rfl (Or.inr ⟨rfl, h4, h11, fun z => c30 (by rw [hC.2.1]; exact nI_lt (b := 30) z (by decide))⟩)
set_option maxHeartbeats 4000000 in
set_option maxRecDepth 100000 in
theorem kX1_addLine (l : Launch) {D : va_G} {cI cO cL cJ : ClassId} (g : XG) (X : MS) (hz sz : Nat) (hI : xI g) (hO : xO g hz sz) (ao la k : Nat) (ho : g 0 k = some ao) (hla : g 1 k = some la) (al : Nat) (hal : g 2 300 = some al) (kk : Nat) (hkk : kk < 8) (hX7 : X 7 k = nI kk) (h30 : ∀ i a, g 1 i = some a → i < 30) : Met l yX1_addLine wsX1_addLine ({ frames := 1, cells := 0, slots := 0, locals := 22 } : Room) (xP D cI cO cL cJ g X hz sz [.ref ao, .ref al]) (xGi D cO cL g sz (fun r u => u.1 = gMov g (8 * k + kk) al ∧ u.2 = mu (xMov X (8 * k + kk)) 7 k (nI (kk + 1)) ∧ r = nI kk)) 0 0 (xA g sz) := by
  refine x_bodyM (cc := cX1_addLine) (maxL := 3) (ret := some .int) (by decide) rfl [.ref ao, .ref al] (Nat.le_of_ble_eq_true rfl) ?_
  intro p e s m args below meth c hx hb hr hts hown hml hlocks hsz hW hK hE ls hl
  subst hsz
  have hown : s.vm.findClass RX1 = some m.cls := hown
  have hl : lv_has ls 3 [(0, .ref ao), (1, .ref al)] := hl
  have hin1 : ∀ w ∈ u_ws RX1 TX1 12, w ∈ wsX1_addLine := (fun w h => List.mem_cons_of_mem _ (List.mem_append_right _ (h)))
  have hS : va_S (xA g s.heap.size) s.heap s.heap [] := va_S.rf
  refine lv_aload_n hx hb dX1_addLine_0 rfl (lv_at hl 0 rfl) ?_
  refine f_get (ci := 1) (fs := xobO g X k) (v := .int (nI kk)) hx hb hts hin1 hown hK (hW 0 k _ ho) rfl 3 (by decide) (hts (.fieldLink RX1 24 "ReturnsDesk$Order" "lineCount" "I") (List.mem_of_getElem? (i := 1) rfl)) (fun _ h9 => h9) (congrArg (fun z => some (Value.int z)) hX7) dX1_addLine_1 ?_
  refine lv_istore_n (lv' := [(2, .int (nI kk)), (0, .ref ao), (1, .ref al)]) hx hb dX1_addLine_4 rfl hl (by decide) rfl (fun ls hl => ?_)
  refine lv_iload_n hx hb dX1_addLine_5 rfl (lv_at hl 0 rfl) ?_
  refine lv_if_lt (tgt := 35) hx hb dX1_addLine_6 (by decide) (fun h9 => absurd h9 (nI_pos (by omega))) (fun _ => ?_)
  refine lv_iload_n hx hb dX1_addLine_9 rfl (lv_at hl 0 rfl) ?_
  refine lv_aload_n hx hb dX1_addLine_10 rfl (lv_at hl 1 rfl) ?_
  refine f_get (ci := 1) (fs := xobO g X k) (v := .ref la) hx hb hts hin1 hown hK (hW 0 k _ ho) rfl 2 (by decide) (hts (.fieldLink RX1 11 "ReturnsDesk$Order" "lines" "[LReturnsDesk$Line;") (List.mem_of_getElem? (i := 2) rfl)) (fun _ h9 => h9) (congrArg (fun z => some (va_rf z)) hla) dX1_addLine_11 ?_
  refine f_alen (v := 8) hx hb hK 2 rfl (hW 1 k _ hla) rfl dX1_addLine_14 ?_
  refine lv_icmp_ge (tgt := 35) hx hb dX1_addLine_15 (by decide) (fun h9 => absurd h9 (nI_ge (a := kk) (b := 8) hkk (by decide))) (fun _ => ?_)
  refine lv_aload_n hx hb dX1_addLine_18 rfl (lv_at hl 1 rfl) ?_
  refine f_get (ci := 1) (fs := xobO g X k) (v := .ref la) hx hb hts hin1 hown hK (hW 0 k _ ho) rfl 2 (by decide) (hts (.fieldLink RX1 11 "ReturnsDesk$Order" "lines" "[LReturnsDesk$Line;") (List.mem_of_getElem? (i := 2) rfl)) (fun _ h9 => h9) (congrArg (fun z => some (va_rf z)) hla) dX1_addLine_19 ?_
  refine lv_iload_n hx hb dX1_addLine_22 rfl (lv_at hl 0 rfl) ?_
  refine lv_aload_n hx hb dX1_addLine_23 rfl (lv_at hl 2 rfl) ?_
  refine f_aast (r := (RX0, TX0, 5)) hx hb hK 2 0 rfl rfl (hW 1 k _ hla) (hW 2 300 _ hal) hS (Or.inl ⟨1, k, hla⟩) rfl hkk (by decide) dX1_addLine_24 (fun H3 locs hb3 hz3 ho3 hS => ?_)
  have hk30 := h30 k la hla
  have hW3 : xW D cO cL (gMov g (8 * k + kk) al) (xMov X (8 * k + kk)) H3 := xW.mov hW hI h30 hla hal hkk ho3 hb3
  have hI3 : xI (gMov g (8 * k + kk) al) := hI.mov hal
  have ho' : gMov g (8 * k + kk) al 0 k = some ao := ho
  refine lv_aload_n hx hb dX1_addLine_25 rfl (lv_at hl 1 rfl) ?_
  refine lv_dup hx hb dX1_addLine_26 rfl ?_
  refine f_get (ci := 1) (fs := xobO (gMov g (8 * k + kk) al) (xMov X (8 * k + kk)) k) (v := .int (nI kk)) hx hb hts hin1 hown hK (hW3 0 k _ ho') rfl 3 (by decide) (hts (.fieldLink RX1 24 "ReturnsDesk$Order" "lineCount" "I") (List.mem_of_getElem? (i := 1) rfl)) (fun _ h9 => h9) (congrArg (fun z => some (Value.int z)) hX7) dX1_addLine_27 ?_
  refine lv_iconst (v := 1) hx hb dX1_addLine_30 (by decide) ?_
  refine lv_iadd hx hb dX1_addLine_31 ?_
  refine cv (y := nI (kk + 1)) (nI_1 kk) ?_
  refine x_putO hx hb hts hin1 hown hK hI3 hW3 hS ho' (Or.inl ⟨0, k, ho⟩) 3 7 (by decide) (hts (.fieldLink RX1 24 "ReturnsDesk$Order" "lineCount" "I") (List.mem_of_getElem? (i := 1) rfl)) (fun _ h9 => h9) .int (tyX1_ok 3 (by decide)) rfl rfl dX1_addLine_32 (fun H locs hW hz4 _ hS => ?_)
  refine lv_iload_n hx hb dX1_addLine_35 rfl (lv_at hl 0 rfl) ?_
  exact xg_retM hx hb hr hlocks ⟨Nat.le_of_ble_eq_true rfl, Nat.le_of_ble_eq_true rfl⟩ hW hS ⟨rfl, rfl, rfl⟩ dX1_addLine_36
set_option maxHeartbeats 4000000 in
set_option maxRecDepth 100000 in
theorem kX2_add (l : Launch) (hlt : l.stackTraces = false) {D : va_G} {cI cO cL cJ : ClassId} (g : XG) (X : MS) (hz sz : Nat) (hI : xI g) (hO : xO g hz sz) (d bk : Nat) (hd : g 3 0 = some d) (hbk : g 4 0 = some bk) (n : Nat) (kc : Nat → Nat) (hC : xC g X n kc) (hZ : xZ g n) (p0 p1 p2 : Int32) : vx_Met l yX2_add wsX2_add ({ frames := 7, cells := 4, slots := 24, locals := 104 } : Room) (xP D cI cO cL cJ g X hz sz [.ref d, .int p0, .int p1, .int p2]) (xGi D cO cL g sz (fun r u => ∃ k al, k < n ∧ p0 = nI k ∧ inR p1 1 100000 ∧ inR p2 0 2 ∧ X 8 k = 0 ∧ kc k < 8 ∧ sz ≤ al ∧ u.1 = gMov (gLine g 300 al) (8 * k + kc k) al ∧ u.2 = mu (xMov (xNewL X 300 p1 p2) (8 * k + kc k)) 7 k (nI (kc k + 1)) ∧ r = nI (kc k))) (xT (fun E : String => noO n p0 E ∨ (E = IAE ∧ ∃ k, k < n ∧ p0 = nI k ∧ (¬ inR p1 1 100000 ∨ ¬ inR p2 0 2)) ∨ (E = ISE ∧ ∃ k, k < n ∧ p0 = nI k ∧ inR p1 1 100000 ∧ inR p2 0 2 ∧ (¬ X 8 k = 0 ∨ ¬ kc k < 8)))) 4 24 (xA g sz) := by
  refine x_body (cc := cX2_add) (maxL := 5) (ret := some .int) (by decide) rfl [.ref d, .int p0, .int p1, .int p2] (Nat.le_of_ble_eq_true rfl) ?_
  intro p e s m args below meth c hx hb hr hts hown hml hlocks htab hsz hW hK hE ls hl
  subst hsz
  have hown : s.vm.findClass RX2 = some m.cls := hown
  have hl : lv_has ls 5 [(0, .ref d), (1, .int p0), (2, .int p1), (3, .int p2)] := hl
  have hin0 : ∀ w ∈ u_ws RX0 TX0 5, w ∈ wsX2_add := (fun w h => List.mem_cons_of_mem _ (List.mem_append_left _ (List.mem_append_left _ (List.mem_append_left _ (List.mem_append_left _ (List.mem_append_right _ (h)))))))
  have hin1 : ∀ w ∈ u_ws RX1 TX1 12, w ∈ wsX2_add := (fun w h => List.mem_cons_of_mem _ (List.mem_append_left _ (List.mem_append_left _ (List.mem_append_left _ (List.mem_append_left _ (List.mem_append_left _ (List.mem_append_right _ (h))))))))
  have hin2 : ∀ w ∈ u_ws RX2 TX2 6, w ∈ wsX2_add := (fun w h => List.mem_cons_of_mem _ (List.mem_append_left _ (List.mem_append_left _ (List.mem_append_left _ (List.mem_append_right _ (h))))))
  have hS : va_S (xA g s.heap.size) s.heap s.heap [] := va_S.rf
  refine lv_aload_n hx hb dX2_add_0 rfl (lv_at hl 0 rfl) ?_
  refine lv_iload_n hx hb dX2_add_1 rfl (lv_at hl 1 rfl) ?_
  refine x_cR (vx_runV (As := [.int p0]) (rest := []) (b := d) ⟨hx, hb, hml, hown, hts⟩ (kX2_findOrder l hlt g X hz _ d bk hd hbk n hC.1 hC.2.2.1 p0) (cwV 1 hts gX2_add_X2_findOrder rfl rfl rfl (by decide +kernel) ⟨Nat.le_of_ble_eq_true rfl, Nat.le_of_ble_eq_true rfl⟩) (x_preV hW hK hE (x_recvD hK hW hd)) rfl rfl hl.1 rfl (lv_room (Nat.le_of_ble_eq_true rfl)) dX2_add_2 ⟨Nat.le_of_ble_eq_true rfl, Nat.le_of_ble_eq_true rfl⟩) hS (fun E ce q9 H1 locs1 hc hz1 hk1 hS1 hL1 hce hcv hcl => x_prop htab hlocks hce hcv hcl hz1 hk1 (fun z h => (hL1 z h).elim (fun h => nomatch h) (fun h => h.elim)) ⟨Nat.le_of_ble_eq_true rfl, Nat.le_of_ble_eq_true rfl⟩ (Or.inl hc)) (fun ao hp => ?_)
  obtain ⟨k, hk, hp0, ho⟩ := hp
  subst hp0
  obtain ⟨hkk, hX7, ⟨la, hla⟩, hln⟩ := hC.2.2.2 k hk
  refine lv_astore (lv' := [(4, .ref ao), (0, .ref d), (1, .int (nI k)), (2, .int p1), (3, .int p2)]) hx hb dX2_add_5 hl (by decide) rfl (fun ls hl => ?_)
  refine lv_iload_n hx hb dX2_add_7 rfl (lv_at hl 3 rfl) ?_
  refine lv_iconst (v := 1) hx hb dX2_add_8 (by decide) ?_
  refine lv_ldc (v := 100000) hx hb hown (hts (.constant RX2 38 (100000)) (List.mem_of_getElem? (i := 3) rfl)) dX2_add_9 ?_
  refine x_cV (vx_runS (As := [.int p1, .int 1, .int 100000]) (rest := []) ⟨hx, hb, hml, hown, hts⟩ (kX2_requireRange l hlt g X hz _ p1 1 100000) (va_cwS 3 hts gX2_add_X2_requireRange rfl rfl rfl (by decide +kernel) ⟨Nat.le_of_ble_eq_true rfl, Nat.le_of_ble_eq_true rfl⟩) (x_preS hW hK hE) rfl rfl hl.1 rfl (lv_room (Nat.le_of_ble_eq_true rfl)) dX2_add_11 ⟨Nat.le_of_ble_eq_true rfl, Nat.le_of_ble_eq_true rfl⟩) hS (fun E ce q9 H1 locs1 hc hz1 hk1 hS1 hL1 hce hcv hcl => x_prop htab hlocks hce hcv hcl hz1 hk1 (fun z h => (hL1 z h).elim (fun h => nomatch h) (fun h => h.elim)) ⟨Nat.le_of_ble_eq_true rfl, Nat.le_of_ble_eq_true rfl⟩ (Or.inr (Or.inl ⟨hc.1, k, hk, rfl, Or.inl hc.2⟩))) (fun h11 => ?_)
  refine lv_iload_n hx hb dX2_add_14 rfl (lv_at hl 4 rfl) ?_
  refine lv_iconst (v := 0) hx hb dX2_add_15 (by decide) ?_
  refine lv_iconst (v := 2) hx hb dX2_add_16 (by decide) ?_
  refine x_cV (vx_runS (As := [.int p2, .int 0, .int 2]) (rest := []) ⟨hx, hb, hml, hown, hts⟩ (kX2_requireRange l hlt g X hz _ p2 0 2) (va_cwS 3 hts gX2_add_X2_requireRange rfl rfl rfl (by decide +kernel) ⟨Nat.le_of_ble_eq_true rfl, Nat.le_of_ble_eq_true rfl⟩) (x_preS hW hK hE) rfl rfl hl.1 rfl (lv_room (Nat.le_of_ble_eq_true rfl)) dX2_add_17 ⟨Nat.le_of_ble_eq_true rfl, Nat.le_of_ble_eq_true rfl⟩) hS (fun E ce q9 H1 locs1 hc hz1 hk1 hS1 hL1 hce hcv hcl => x_prop htab hlocks hce hcv hcl hz1 hk1 (fun z h => (hL1 z h).elim (fun h => nomatch h) (fun h => h.elim)) ⟨Nat.le_of_ble_eq_true rfl, Nat.le_of_ble_eq_true rfl⟩ (Or.inr (Or.inl ⟨hc.1, k, hk, rfl, Or.inr hc.2⟩))) (fun h17 => ?_)
  refine lv_aload hx hb dX2_add_20 (lv_at hl 0 rfl) ?_
  refine f_get (ci := 1) (fs := xobO g X k) (v := .int (X 8 k)) hx hb hts hin1 hown hK (hW 0 k _ ho) rfl 4 (by decide) (hts (.fieldLink RX2 39 "ReturnsDesk$Order" "isPaid" "Z") (List.mem_of_getElem? (i := 4) rfl)) (fun _ h9 => h9) rfl dX2_add_22 ?_
  refine lv_if_ne (tgt := 36) hx hb dX2_add_25 (by decide) (fun c25 => ?_) (fun c25 => ?_)
  · skip
    exact x_throw (cls := ISE) (text := "the order takes no more lines") (ik := 24) (is := 47) (ic := 28) hlt hx hb hown hts hE (by decide +kernel) (by decide +kernel) (hts (.classLink RX2 24 "java/lang/IllegalStateException") (List.mem_of_getElem? (i := 1) rfl)) (hts (.initialized "java/lang/IllegalStateException") (List.mem_of_getElem? (i := 2) rfl)) (List.mem_of_getElem? (i := 1) rfl) (fun w h => List.mem_cons_of_mem _ (List.mem_append_left _ (List.mem_append_left _ (List.mem_append_right _ (h))))) tn_S tg_S (hl.1.trans hml.symm) htab hlocks dX2_add_36 dX2_add_39 dX2_add_40 dX2_add_42 dX2_add_45 ⟨(Nat.le_of_ble_eq_true rfl), (Nat.le_of_ble_eq_true rfl), (Nat.le_of_ble_eq_true rfl), (Nat.le_of_ble_eq_true rfl)⟩ ⟨(Nat.le_of_ble_eq_true rfl), (Nat.le_of_ble_eq_true rfl)⟩ rfl rfl (Or.inr (Or.inr ⟨rfl, k, hk, rfl, h11, h17, Or.inl c25⟩))
  · skip
    refine lv_aload hx hb dX2_add_28 (lv_at hl 0 rfl) ?_
    refine vp_callSi (va_runV (As := []) (rest := []) (b := ao) ⟨hx, hb, hml, hown, hts⟩ (kX1_hasRoom l g X hz _ ao la k ho hla) (cwV 0 hts gX2_add_X1_hasRoom rfl rfl rfl (by decide +kernel) ⟨Nat.le_of_ble_eq_true rfl, Nat.le_of_ble_eq_true rfl⟩) (x_preV hW hK hE (x_recvO hK hW ho)) rfl rfl hl.1 rfl (lv_room (Nat.le_of_ble_eq_true rfl)) dX2_add_30 ⟨Nat.le_of_ble_eq_true rfl, Nat.le_of_ble_eq_true rfl⟩).run (fun r hp => ?_)
    subst hp
    refine lv_if_ne (tgt := 46) hx hb dX2_add_33 (by decide) (fun c33 => ?_) (fun c33 => ?_)
    · skip
      have hk8 : kc k < 8 := Nat.lt_of_not_le (fun z => c33 (by unfold roomX; rw [hX7]; exact if_pos (nI_le (a := 8) z (by omega))))
      have h30 : ∀ i a, g 1 i = some a → i < 30 := fun i a h => Nat.lt_of_lt_of_le (hZ.2.2 i a h) hC.1
      refine lv_aload hx hb dX2_add_46 (lv_at hl 0 rfl) ?_
      refine f_new (own := RX2) (C := RX0) (T := TX0) (N := 5) (ci := 0) (fs := [.int 0, .int 0, .int 0, .int 0, .int 0]) hx hb hts hin0 tyX0 tyX0_ok hown (hts (.classLink RX2 49 RX0) (List.mem_of_getElem? (i := 5) rfl)) (hts (.instantiable RX0 5) (List.mem_of_getElem? (i := 6) rfl)) (hts (.initialized RX0) (List.mem_of_getElem? (i := 7) rfl)) hK hS rfl nwX0 (Nat.le_of_ble_eq_true rfl) (Nat.le_of_ble_eq_true rfl) dX2_add_48 (fun H1 hq1 hz1 ho1 hS => ?_)
      refine lv_dup hx hb dX2_add_51 rfl ?_
      refine lv_iload_n hx hb dX2_add_52 rfl (lv_at hl 3 rfl) ?_
      refine lv_iload_n hx hb dX2_add_53 rfl (lv_at hl 4 rfl) ?_
      refine va_callv (va_runI (As := [.int p1, .int p2]) (rest := [.ref s.heap.size, .ref ao]) ⟨hx, hb, hml, hown, hts⟩ (kX0_init l H1.size s.heap.size p1 p2) (cwI 2 hts gX2_add_X0_init rfl rfl rfl (hts (.initialized RX0) (List.mem_of_getElem? (i := 7) rfl)) (hts (.methodLink RX2 51 yX0_init) (List.mem_of_getElem? (i := 28) rfl)) (hts (.instanceMethod yX0_init) (List.mem_of_getElem? (i := 29) rfl)) rfl (by decide +kernel) ⟨Nat.le_of_ble_eq_true rfl, Nat.le_of_ble_eq_true rfl⟩) (c_pre hq1 hK hE.2.2.2.2.1 hE.2.2.2.2.2) rfl rfl hl.1 rfl (lv_room (Nat.le_of_ble_eq_true rfl)) dX2_add_54 ⟨Nat.le_of_ble_eq_true rfl, Nat.le_of_ble_eq_true rfl⟩) hS (fun q _ h => Or.inr (Nat.le_of_eq h.symm)) (fun q h => Or.inr (Nat.le_of_eq h.symm)) (fun _ t H2 locs ht hvm hp hB hz2 hk2 hS => ?_)
      rw [ht] at hB
      have hold2 : ∀ a : Nat, a < s.heap.size → H2[a]? = s.heap[a]? := fun a h => (hk2 a (by omega) (fun z => absurd (Nat.le_of_eq (Eq.symm z)) (Nat.not_le.mpr h))).trans (ho1 a h)
      have hW2 : xW D cO cL (gLine g 300 s.heap.size) (xNewL X 300 p1 p2) H2 := hW.line h30 hold2 hB
      have hI2 : xI (gLine g 300 s.heap.size) := hI.line (fun t i a h => hW.lt h) (Nat.le_refl _)
      have ho2 : gLine g 300 s.heap.size 0 k = some ao := ho
      have hE2 : xE hz s H2 := hE.kept (fun a h1 h2 => hold2 a h1)
      have hO2 : xO (gLine g 300 s.heap.size) hz H2.size := ⟨fun t i a h => by rcases gLine_key h with ⟨_, _, h⟩ | ⟨h, _⟩; exact h ▸ hO.2; exact hO.1 t i a h, Nat.le_trans hO.2 (by omega)⟩
      have hAA : ∀ q, xA (gLine g 300 s.heap.size) H2.size q → xA g s.heap.size q := fun q h => by
        rcases h with ⟨t, i, h⟩ | h
        · rcases gLine_key h with ⟨_, _, h⟩ | ⟨h, _⟩
          · exact Or.inr (Nat.le_of_eq h.symm)
          · exact Or.inl ⟨t, i, h⟩
        · exact Or.inr (by omega)
      refine va_calli (va_runV (As := [.ref s.heap.size]) (rest := []) (b := ao) ⟨hx, hb, hml, hown, hts⟩ (kX1_addLine l (gLine g 300 s.heap.size) (xNewL X 300 p1 p2) hz _ hI2 hO2 ao la k ho2 hla s.heap.size (by simp [gLine]) (kc k) hk8 (by simp [xNewL, mu_e]; exact hX7) (fun i a h => h30 i a (by simpa [gLine] using h))) (cwV 1 hts gX2_add_X1_addLine rfl rfl rfl (by decide +kernel) ⟨Nat.le_of_ble_eq_true rfl, Nat.le_of_ble_eq_true rfl⟩) (x_preV hW2 hK hE2 (x_recvO hK hW2 ho2)) rfl rfl hl.1 rfl (lv_room (Nat.le_of_ble_eq_true rfl)) dX2_add_57 ⟨Nat.le_of_ble_eq_true rfl, Nat.le_of_ble_eq_true rfl⟩) hS (fun q _ h => hAA q h) hAA (fun r u t H4 locs ht4 hvm4 hp4 hB4 hz4 hk4 hS => ?_)
      obtain ⟨u1, u2⟩ := u
      obtain ⟨h5, h6, h7⟩ := hp4
      dsimp only at h5 h6 hB4
      subst h5 h6 h7
      rw [ht4] at hB4
      exact xg_ret hx hb hr hlocks ⟨Nat.le_of_ble_eq_true rfl, Nat.le_of_ble_eq_true rfl⟩ hB4 hS ⟨k, s.heap.size, hk, rfl, h11, h17, c25, hk8, Nat.le_refl _, rfl, rfl, rfl⟩ dX2_add_60
    · skip
      exact x_throw (cls := ISE) (text := "the order takes no more lines") (ik := 24) (is := 47) (ic := 28) hlt hx hb hown hts hE (by decide +kernel) (by decide +kernel) (hts (.classLink RX2 24 "java/lang/IllegalStateException") (List.mem_of_getElem? (i := 1) rfl)) (hts (.initialized "java/lang/IllegalStateException") (List.mem_of_getElem? (i := 2) rfl)) (List.mem_of_getElem? (i := 1) rfl) (fun w h => List.mem_cons_of_mem _ (List.mem_append_left _ (List.mem_append_left _ (List.mem_append_right _ (h))))) tn_S tg_S (hl.1.trans hml.symm) htab hlocks dX2_add_36 dX2_add_39 dX2_add_40 dX2_add_42 dX2_add_45 ⟨(Nat.le_of_ble_eq_true rfl), (Nat.le_of_ble_eq_true rfl), (Nat.le_of_ble_eq_true rfl), (Nat.le_of_ble_eq_true rfl)⟩ ⟨(Nat.le_of_ble_eq_true rfl), (Nat.le_of_ble_eq_true rfl)⟩ rfl rfl (Or.inr (Or.inr ⟨rfl, k, hk, rfl, h11, h17, Or.inr (room_no hX7 hkk c33)⟩))
end
section
/-! ROWS for the law's methods: calls that can't throw where they are made. -/
theorem nI30 {a b : Nat} (ha : a < 30) (hb : b < 30) (h : nI a = nI b) : a = b := (nI_eq (by omega) (by omega)).mp h
section YRows
variable {p : Program} {l : Launch} {e : Env} {R : Room} {s : State} {m : MethodId} {args : Array Value} {below : List Frame} {meth : Method} {c : Code} {H : Heap} {locs : List Loc} {cells slots : Nat} {Q : State → Prop}
variable {cc : ByteArray} {pc nL ix : Nat} {ls : Array Slot} {rest : List Value} {D : va_G} {cI cO cL cJ : ClassId} {H0 : Heap} {A : Nat → Prop} {g : XG} {X : MS} {hz sz mc ms n : Nat} {kc : Nat → Nat} {d bk : Nat} {cond : String → Prop} {Ts : List Cond} {own : String}
theorem y_cI {post : Int32 → Prop} {st0 : List Value} {a0 : Array Value} (hr : vx_Run p l e R s m args below meth c H locs cells slots mc ms (F0 m pc ls st0) rest (vp_Si post a0) (xT cond) (fun _ => False)) (hc : ∀ E, ¬ cond E)
    (kk : ∀ r : Int32, post r → W p l e R s m args below meth c H locs (cells + mc) (slots + ms) Q (F0 m (pc + 3) ls (.int r :: rest))) : W p l e R s m args below meth c H locs cells slots Q (F0 m pc ls st0) :=
  x_cI (A := fun _ => True) (H0 := H) hr ⟨Nat.le_refl _, fun _ _ _ => rfl, fun _ _ => trivial⟩ (fun E _ _ _ _ hE => absurd hE (hc E)) kk
theorem y_cWI {post : Int32 → MS → Prop} {st0 : List Value} {a0 : Array Value} (hr : vx_Run p l e R s m args below meth c H locs cells slots mc ms (F0 m pc ls st0) rest (xQi D cO cL g H.size post a0) (xT cond) (xA g H.size)) (hS : va_S A H0 H locs) (hA : ∀ q, xA g H.size q → A q) (hc : ∀ E, ¬ cond E)
    (kk : ∀ (r : Int32) (X' : MS) (H1 : Heap) (locs1 : List Loc), post r X' → xW D cO cL g X' H1 → H.size ≤ H1.size → (∀ q : Nat, q < H.size → ¬ xA g H.size q → H1[q]? = H[q]?) → va_S A H0 H1 locs1 → W p l e R s m args below meth c H1 locs1 (cells + mc) (slots + ms) Q (F0 m (pc + 3) ls (.int r :: rest))) : W p l e R s m args below meth c H locs cells slots Q (F0 m pc ls st0) := by
  refine x_run hr hS hA (fun E _ _ _ _ hE => absurd hE (hc E)) (fun v st₀ t T' L h0 e1 hq hL => ?_)
  obtain ⟨⟨r, u, hv, hp, hB⟩, hF⟩ := hq
  cases hv
  obtain ⟨k1, k2, k3⟩ := vx_keep h0 e1 hS (fun q _ h => hA q h) hA hL hF
  exact kk r u T'.heap (locs ++ L) hp (by rw [e1]; exact hB) k1 k2 k3
theorem y_sWI {post : Int32 → MS → Prop} {st0 : List Value} {a0 : Array Value} (hr : va_Run p l e R s m args below meth c H locs cells slots mc ms (F0 m pc ls st0) rest (xQi D cO cL g H.size post a0) (xA g H.size)) (hS : va_S A H0 H locs) (hA : ∀ q, xA g H.size q → A q)
    (kk : ∀ (r : Int32) (X' : MS) (H1 : Heap) (locs1 : List Loc), post r X' → xW D cO cL g X' H1 → H.size ≤ H1.size → (∀ q : Nat, q < H.size → ¬ xA g H.size q → H1[q]? = H[q]?) → va_S A H0 H1 locs1 → W p l e R s m args below meth c H1 locs1 (cells + mc) (slots + ms) Q (F0 m (pc + 3) ls (.int r :: rest))) : W p l e R s m args below meth c H locs cells slots Q (F0 m pc ls st0) := by
  refine va_calli hr hS (fun q _ h => hA q h) hA (fun r u t H1 locs1 ht hvm hp hB hz1 hk hS1 => ?_)
  rw [ht] at hB
  exact kk r u H1 locs1 hp hB hz1 hk hS1
theorem y_sGI {post : Int32 → XG × MS → Prop} {st0 : List Value} {a0 : Array Value} (hr : va_Run p l e R s m args below meth c H locs cells slots mc ms (F0 m pc ls st0) rest (xGi D cO cL g H.size post a0) (xA g H.size)) (hS : va_S A H0 H locs) (hA : ∀ q, xA g H.size q → A q)
    (kk : ∀ (r : Int32) (u : XG × MS) (H1 : Heap) (locs1 : List Loc), post r u → xW D cO cL u.1 u.2 H1 → H.size ≤ H1.size → (∀ q : Nat, q < H.size → ¬ xA g H.size q → H1[q]? = H[q]?) → va_S A H0 H1 locs1 → W p l e R s m args below meth c H1 locs1 (cells + mc) (slots + ms) Q (F0 m (pc + 3) ls (.int r :: rest))) : W p l e R s m args below meth c H locs cells slots Q (F0 m pc ls st0) := by
  refine va_calli hr hS (fun q _ h => hA q h) hA (fun r u t H1 locs1 ht hvm hp hB hz1 hk hS1 => ?_)
  rw [ht] at hB
  exact kk r u H1 locs1 hp hB hz1 hk hS1
theorem y_sI {post : Int32 → Prop} {st0 : List Value} {a0 : Array Value} (hr : va_Run p l e R s m args below meth c H locs cells slots mc ms (F0 m pc ls st0) rest (vp_Si post a0) (fun _ => False))
    (kk : ∀ r : Int32, post r → W p l e R s m args below meth c H locs (cells + mc) (slots + ms) Q (F0 m (pc + 3) ls (.int r :: rest))) : W p l e R s m args below meth c H locs cells slots Q (F0 m pc ls st0) := by
  intro T hT Xs
  obtain ⟨v, st₀, t, T', L, h0, X', hL, e1, e2, ⟨r, hv, hp, hh⟩, st⟩ := hr T hT Xs
  cases hv
  obtain ⟨t2, a1, b1⟩ := kk r hp T' (by rw [e1, hh, h0]) (Stand.forget X' (fun q h => (hL q h).elim))
  exact ⟨t2, st t2 a1, b1⟩
theorem y_ret (hexec : p.tables.exec = Jvm.exec) (hb : c.code = cc) (hr : meth.sig.returnType = some .int) (hlocks : meth.locks = false) (hm : cells ≤ mc ∧ slots ≤ ms) {post : Int32 → Prop} {v : Int32} (hp : post v) (hdg : decode cc pc = .ok (.ireturn, 1)) : W p l e R s m args below meth c s.heap [] cells slots (MQ below (vp_Si post) args s mc ms (fun _ => False)) (F0 m pc ls [.int v]) :=
  W.widen hm.1 hm.2 (W.iret (v := v) hexec hb hr (fun t ht _ => ⟨v, rfl, hp, ht⟩) (fun q h => by cases h) hdg hlocks)
theorem y_zret (hexec : p.tables.exec = Jvm.exec) (hb : c.code = cc) (hr : meth.sig.returnType = some .boolean) (hlocks : meth.locks = false) (hm : cells ≤ mc ∧ slots ≤ ms) {post : Int32 → Prop} {v : Int32} (hv : v = 0 ∨ v = 1) (hp : post v) (hdg : decode cc pc = .ok (.ireturn, 1)) : W p l e R s m args below meth c s.heap [] cells slots (MQ below (vp_Si post) args s mc ms (fun _ => False)) (F0 m pc ls [.int v]) :=
  W.widen hm.1 hm.2 (W.zret (v := v) hexec hb hr (by rcases hv with rfl | rfl <;> rfl) (fun t ht _ => ⟨v, rfl, hp, ht⟩) (fun q h => by cases h) hdg hlocks)
theorem y_wzret (hexec : p.tables.exec = Jvm.exec) (hb : c.code = cc) (hr : meth.sig.returnType = some .boolean) (hlocks : meth.locks = false) (hm : cells ≤ mc ∧ slots ≤ ms) (hW : xW D cO cL g X H) (hS : va_S (xA g sz) s.heap H locs) {post : Int32 → MS → Prop} {v : Int32} (hv : v = 0 ∨ v = 1) (hp : post v X) (hdg : decode cc pc = .ok (.ireturn, 1)) : W p l e R s m args below meth c H locs cells slots (MQ below (xQi D cO cL g sz post) args s mc ms (xA g sz)) (F0 m pc ls [.int v]) :=
  W.widen hm.1 hm.2 (W.zret (v := v) hexec hb hr (by rcases hv with rfl | rfl <;> rfl) (fun t ht _ => ⟨⟨v, X, rfl, hp, by show xW D cO cL g X t.heap; rw [ht]; exact hW⟩, hS.F ht⟩) hS.2.2 hdg hlocks)
theorem cast_of (hE : xE hz s H) {E : String} (h : Cond.castable E E ∈ xNon) : (Cond.castable E E).before args s = true := va_Nw.use (xNon_tab _ h) (hE.2.2.1 _ h)
theorem y_noO {k : Nat} (hn : n ≤ 30) (hk : k < n) {E : String} : ¬ noO n (nI k) E := fun h => h.2 (vp_in_nI hk (by omega))
theorem y_noL {k j : Nat} (hn : n ≤ 30) (hk : k < n) (h8 : kc k ≤ 8) (hj : j < kc k) {E : String} : ¬ noL n kc (nI k) (nI j) E := by
  rintro ⟨-, k', hk', e, h⟩
  have := nI30 (by omega) (by omega) e
  subst this
  exact h (vp_in_nI hj (by omega))
theorem y_isL {k j k' j' : Nat} (hC : xC g X n kc) (hk : k < n) (hj : j < kc k) (h : isL n kc (nI k) (nI j) k' j') : k' = k ∧ j' = j := by
  obtain ⟨h1, h2, h3, h4⟩ := h
  have hn := hC.1
  have e := nI30 (by omega) (by omega) h2
  subst e
  have h8 := (hC.2.2.2 k h1).1
  exact ⟨rfl, (nI30 (by omega) (by omega) h4).symm⟩
theorem y_in (r : Nat) {N : Nat} {x : Int32} (hx : x = nI N) (hr : r ≤ N) (hN : N < 2 ^ 31) : inR (nI r) 0 x := by
  subst hx
  exact ⟨nI_pos (by omega), nI_nlt hr hN⟩

variable {g' : XG} {X' : MS}
theorem x_cGI {post : Int32 → XG × MS → Prop} {st0 : List Value} {a0 : Array Value} {szA : Nat} (hr : vx_Run p l e R s m args below meth c H locs cells slots mc ms (F0 m pc ls st0) rest (xGi D cO cL g H.size post a0) (xT cond) (xA g H.size)) (hS : va_S (xA g szA) H0 H locs) (hsz : szA ≤ H.size)
    (kx : ∀ (E : String) (ce : Cell) (q9 : Nat) (H1 : Heap) (locs1 : List Loc), cond E → H.size ≤ H1.size → (∀ q, q < H.size → H1[q]? = H[q]?) → va_S (xA g szA) H0 H1 locs1 → (∀ z ∈ locs1, z ∈ locs ∨ xA g H.size z.base) → H1[q9]? = some ce → ce.vm = .none → s.vm.findClass E = some ce.cls → vx_W p l e R s m args below meth c H1 locs1 (cells + mc) (slots + ms) Q (F0 m pc ls rest) q9)
    (kk : ∀ (r : Int32) (u : XG × MS) (H1 : Heap) (locs1 : List Loc), post r u → xW D cO cL u.1 u.2 H1 → H.size ≤ H1.size → (∀ q : Nat, q < H.size → ¬ xA g H.size q → H1[q]? = H[q]?) → va_S (xA g szA) H0 H1 locs1 → W p l e R s m args below meth c H1 locs1 (cells + mc) (slots + ms) Q (F0 m (pc + 3) ls (.int r :: rest))) : W p l e R s m args below meth c H locs cells slots Q (F0 m pc ls st0) := by
  have hAA : ∀ q, xA g H.size q → xA g szA q := fun q h => h.imp id (fun h => Nat.le_trans hsz h)
  refine x_run hr hS hAA kx (fun v st₀ t T' L h0 e1 hq hL => ?_)
  obtain ⟨⟨r, u, hv, hp, hB⟩, hF⟩ := hq
  cases hv
  obtain ⟨k1, k2, k3⟩ := vx_keep h0 e1 hS (fun q _ h => hAA q h) hAA hL hF
  exact kk r u T'.heap (locs ++ L) hp (by rw [e1]; exact hB) k1 k2 k3
set_option maxHeartbeats 1000000 in
theorem z_price (hlt : l.stackTraces = false) (S : CallFix p m c cc nL s args Ts RL) (hT : GoodIn Ts (wsV RL ix RX2 yX2_price wsX2_price)) (hW : xW D cO cL g X H) (hK : KK D cI cO cL cJ s) (hE : xE hz s H) (hd : g 3 0 = some d) (hbk : g 4 0 = some bk) (hC : xC g X n kc) {k : Nat} (hk : k < n) (hls : ls.size = nL) (hrest : (rest.map fun v => v.category).sum ≤ 8) (hdg : decode cc pc = .ok (.invokevirtual ix, 3)) (hR : 8 ≤ R.frames ∧ 125 ≤ R.locals) (hcs : cells + 1 ≤ R.cells ∧ slots + 6 ≤ R.slots)
    (kk : W p l e R s m args below meth c H locs (cells + 1) (slots + 6) Q (F0 m (pc + 3) ls (.int (priceX X k (kc k)) :: rest))) : W p l e R s m args below meth c H locs cells slots Q (F0 m pc ls (.int (nI k) :: .ref d :: rest)) := by
  refine y_cI (vx_runV (As := [.int (nI k)]) (rest := rest) (b := d) S (kX2_price l hlt g X hz _ d bk hd hbk n kc hC (nI k)) (cwV 1 S.2.2.2.2 hT rfl rfl rfl (by decide +kernel) hR) (x_preV hW hK hE (x_recvD hK hW hd)) rfl rfl hls rfl (lv_room hrest) hdg hcs) (fun E => y_noO hC.1 hk) (fun r hp => ?_)
  obtain ⟨k', hk', e, rfl⟩ := hp
  have hn := hC.1
  have := nI30 (by omega) (by omega) e
  subst this
  exact kk
set_option maxHeartbeats 1000000 in
theorem z_fees (hlt : l.stackTraces = false) (S : CallFix p m c cc nL s args Ts RL) (hT : GoodIn Ts (wsV RL ix RX2 yX2_fees wsX2_fees)) (hW : xW D cO cL g X H) (hK : KK D cI cO cL cJ s) (hE : xE hz s H) (hd : g 3 0 = some d) (hbk : g 4 0 = some bk) (hC : xC g X n kc) {k : Nat} (hk : k < n) (hls : ls.size = nL) (hrest : (rest.map fun v => v.category).sum ≤ 8) (hdg : decode cc pc = .ok (.invokevirtual ix, 3)) (hR : 8 ≤ R.frames ∧ 125 ≤ R.locals) (hcs : cells + 1 ≤ R.cells ∧ slots + 6 ≤ R.slots)
    (kk : W p l e R s m args below meth c H locs (cells + 1) (slots + 6) Q (F0 m (pc + 3) ls (.int (X 10 k) :: rest))) : W p l e R s m args below meth c H locs cells slots Q (F0 m pc ls (.int (nI k) :: .ref d :: rest)) := by
  refine y_cI (vx_runV (As := [.int (nI k)]) (rest := rest) (b := d) S (kX2_fees l hlt g X hz _ d bk hd hbk n kc hC (nI k)) (cwV 1 S.2.2.2.2 hT rfl rfl rfl (by decide +kernel) hR) (x_preV hW hK hE (x_recvD hK hW hd)) rfl rfl hls rfl (lv_room hrest) hdg hcs) (fun E => y_noO hC.1 hk) (fun r hp => ?_)
  obtain ⟨k', hk', e, rfl⟩ := hp
  have hn := hC.1
  have := nI30 (by omega) (by omega) e
  subst this
  exact kk
set_option maxHeartbeats 1000000 in
theorem z_charges (hlt : l.stackTraces = false) (S : CallFix p m c cc nL s args Ts RL) (hT : GoodIn Ts (wsV RL ix RX2 yX2_charges wsX2_charges)) (hW : xW D cO cL g X H) (hK : KK D cI cO cL cJ s) (hE : xE hz s H) (hd : g 3 0 = some d) (hbk : g 4 0 = some bk) (hC : xC g X n kc) {k : Nat} (hk : k < n) (hls : ls.size = nL) (hrest : (rest.map fun v => v.category).sum ≤ 8) (hdg : decode cc pc = .ok (.invokevirtual ix, 3)) (hR : 8 ≤ R.frames ∧ 125 ≤ R.locals) (hcs : cells + 1 ≤ R.cells ∧ slots + 6 ≤ R.slots)
    (kk : W p l e R s m args below meth c H locs (cells + 1) (slots + 6) Q (F0 m (pc + 3) ls (.int (X 11 k) :: rest))) : W p l e R s m args below meth c H locs cells slots Q (F0 m pc ls (.int (nI k) :: .ref d :: rest)) := by
  refine y_cI (vx_runV (As := [.int (nI k)]) (rest := rest) (b := d) S (kX2_charges l hlt g X hz _ d bk hd hbk n kc hC (nI k)) (cwV 1 S.2.2.2.2 hT rfl rfl rfl (by decide +kernel) hR) (x_preV hW hK hE (x_recvD hK hW hd)) rfl rfl hls rfl (lv_room hrest) hdg hcs) (fun E => y_noO hC.1 hk) (fun r hp => ?_)
  obtain ⟨k', hk', e, rfl⟩ := hp
  have hn := hC.1
  have := nI30 (by omega) (by omega) e
  subst this
  exact kk
set_option maxHeartbeats 1000000 in
theorem z_refunded (hlt : l.stackTraces = false) (S : CallFix p m c cc nL s args Ts RL) (hT : GoodIn Ts (wsV RL ix RX2 yX2_refunded wsX2_refunded)) (hW : xW D cO cL g X H) (hK : KK D cI cO cL cJ s) (hE : xE hz s H) (hd : g 3 0 = some d) (hbk : g 4 0 = some bk) (hC : xC g X n kc) {k : Nat} (hk : k < n) (hls : ls.size = nL) (hrest : (rest.map fun v => v.category).sum ≤ 8) (hdg : decode cc pc = .ok (.invokevirtual ix, 3)) (hR : 8 ≤ R.frames ∧ 125 ≤ R.locals) (hcs : cells + 1 ≤ R.cells ∧ slots + 6 ≤ R.slots)
    (kk : W p l e R s m args below meth c H locs (cells + 1) (slots + 6) Q (F0 m (pc + 3) ls (.int (X 12 k) :: rest))) : W p l e R s m args below meth c H locs cells slots Q (F0 m pc ls (.int (nI k) :: .ref d :: rest)) := by
  refine y_cI (vx_runV (As := [.int (nI k)]) (rest := rest) (b := d) S (kX2_refunded l hlt g X hz _ d bk hd hbk n kc hC (nI k)) (cwV 1 S.2.2.2.2 hT rfl rfl rfl (by decide +kernel) hR) (x_preV hW hK hE (x_recvD hK hW hd)) rfl rfl hls rfl (lv_room hrest) hdg hcs) (fun E => y_noO hC.1 hk) (fun r hp => ?_)
  obtain ⟨k', hk', e, rfl⟩ := hp
  have hn := hC.1
  have := nI30 (by omega) (by omega) e
  subst this
  exact kk
set_option maxHeartbeats 1000000 in
theorem z_isShortBy (hlt : l.stackTraces = false) (S : CallFix p m c cc nL s args Ts RL) (hT : GoodIn Ts (wsV RL ix RX2 yX2_isShortBy wsX2_isShortBy)) (hW : xW D cO cL g X H) (hK : KK D cI cO cL cJ s) (hE : xE hz s H) (hd : g 3 0 = some d) (hbk : g 4 0 = some bk) (hC : xC g X n kc) {k : Nat} (hk : k < n) (hls : ls.size = nL) (hrest : (rest.map fun v => v.category).sum ≤ 8) (hdg : decode cc pc = .ok (.invokevirtual ix, 3)) (hR : 8 ≤ R.frames ∧ 126 ≤ R.locals) (hcs : cells + 1 ≤ R.cells ∧ slots + 6 ≤ R.slots)
    (kk : W p l e R s m args below meth c H locs (cells + 1) (slots + 6) Q (F0 m (pc + 3) ls (.int (shX X k (kc k)) :: rest))) : W p l e R s m args below meth c H locs cells slots Q (F0 m pc ls (.int (nI k) :: .ref d :: rest)) := by
  refine y_cI (vx_runV (As := [.int (nI k)]) (rest := rest) (b := d) S (kX2_isShortBy l hlt g X hz _ d bk hd hbk n kc hC (nI k)) (cwV 1 S.2.2.2.2 hT rfl rfl rfl (by decide +kernel) hR) (x_preV hW hK hE (x_recvD hK hW hd)) rfl rfl hls rfl (lv_room hrest) hdg hcs) (fun E => y_noO hC.1 hk) (fun r hp => ?_)
  obtain ⟨k', hk', e, rfl⟩ := hp
  have hn := hC.1
  have := nI30 (by omega) (by omega) e
  subst this
  exact kk
set_option maxHeartbeats 1000000 in
theorem z_taken (hlt : l.stackTraces = false) (S : CallFix p m c cc nL s args Ts RL) (hT : GoodIn Ts (wsV RL ix RX2 yX2_taken wsX2_taken)) (hW : xW D cO cL g X H) (hK : KK D cI cO cL cJ s) (hE : xE hz s H) (hd : g 3 0 = some d) (hbk : g 4 0 = some bk) (hC : xC g X n kc) {k : Nat} (hk : k < n) {w v : Int32} (hw : inR w 0 2) (hv : tkX X k w = v) (hls : ls.size = nL) (hrest : (rest.map fun v => v.category).sum ≤ 8) (hdg : decode cc pc = .ok (.invokevirtual ix, 3)) (hR : 8 ≤ R.frames ∧ 127 ≤ R.locals) (hcs : cells + 2 ≤ R.cells ∧ slots + 12 ≤ R.slots)
    (kk : W p l e R s m args below meth c H locs (cells + 2) (slots + 12) Q (F0 m (pc + 3) ls (.int v :: rest))) : W p l e R s m args below meth c H locs cells slots Q (F0 m pc ls (.int w :: .int (nI k) :: .ref d :: rest)) := by
  refine y_cI (vx_runV (As := [.int (nI k), .int w]) (rest := rest) (b := d) S (kX2_taken l hlt g X hz _ d bk hd hbk n kc hC (nI k) w) (cwV 2 S.2.2.2.2 hT rfl rfl rfl (by decide +kernel) hR) (x_preV hW hK hE (x_recvD hK hW hd)) rfl rfl hls rfl (lv_room hrest) hdg hcs) (fun E h => h.elim (y_noO hC.1 hk) (fun h => by obtain ⟨-, k9, -, -, h⟩ := h; exact h hw)) (fun r hp => ?_)
  obtain ⟨k', hk', e, -, rfl⟩ := hp
  have hn := hC.1
  have := nI30 (by omega) (by omega) e
  subst this
  rw [hv]
  exact kk
set_option maxHeartbeats 1000000 in
theorem z_stock (hlt : l.stackTraces = false) (S : CallFix p m c cc nL s args Ts RL) (hT : GoodIn Ts (wsV RL ix RX2 yX2_stock wsX2_stock)) (hW : xW D cO cL g X H) (hK : KK D cI cO cL cJ s) (hE : xE hz s H) (hd : g 3 0 = some d) (hbk : g 4 0 = some bk) {w v : Int32} (hw : inR w 0 2) (hv : stX X w = v) (hls : ls.size = nL) (hrest : (rest.map fun v => v.category).sum ≤ 8) (hdg : decode cc pc = .ok (.invokevirtual ix, 3)) (hR : 8 ≤ R.frames ∧ 125 ≤ R.locals) (hcs : cells + 1 ≤ R.cells ∧ slots + 6 ≤ R.slots)
    (kk : W p l e R s m args below meth c H locs (cells + 1) (slots + 6) Q (F0 m (pc + 3) ls (.int v :: rest))) : W p l e R s m args below meth c H locs cells slots Q (F0 m pc ls (.int w :: .ref d :: rest)) := by
  refine y_cI (vx_runV (As := [.int w]) (rest := rest) (b := d) S (kX2_stock l hlt g X hz _ d bk hd hbk w) (cwV 1 S.2.2.2.2 hT rfl rfl rfl (by decide +kernel) hR) (x_preV hW hK hE (x_recvD hK hW hd)) rfl rfl hls rfl (lv_room hrest) hdg hcs) (fun E h => h.2 hw) (fun r hp => ?_)
  obtain ⟨-, rfl⟩ := hp
  rw [hv]
  exact kk
set_option maxHeartbeats 1000000 in
theorem z_state (hlt : l.stackTraces = false) (S : CallFix p m c cc nL s args Ts RL) (hT : GoodIn Ts (wsV RL ix RX2 yX2_state wsX2_state)) (hW : xW D cO cL g X H) (hK : KK D cI cO cL cJ s) (hE : xE hz s H) (hd : g 3 0 = some d) (hbk : g 4 0 = some bk) (hC : xC g X n kc) {k j : Nat} (hk : k < n) (hj : j < kc k) (hls : ls.size = nL) (hrest : (rest.map fun v => v.category).sum ≤ 8) (hdg : decode cc pc = .ok (.invokevirtual ix, 3)) (hR : 8 ≤ R.frames ∧ 126 ≤ R.locals) (hcs : cells + 2 ≤ R.cells ∧ slots + 12 ≤ R.slots)
    (kk : W p l e R s m args below meth c H locs (cells + 2) (slots + 12) Q (F0 m (pc + 3) ls (.int (X 18 (8 * k + j)) :: rest))) : W p l e R s m args below meth c H locs cells slots Q (F0 m pc ls (.int (nI j) :: .int (nI k) :: .ref d :: rest)) := by
  refine y_cI (vx_runV (As := [.int (nI k), .int (nI j)]) (rest := rest) (b := d) S (kX2_state l hlt g X hz _ d bk hd hbk n kc hC (nI k) (nI j)) (cwV 2 S.2.2.2.2 hT rfl rfl rfl (by decide +kernel) hR) (x_preV hW hK hE (x_recvD hK hW hd)) rfl rfl hls rfl (lv_room hrest) hdg hcs) (fun E h => h.elim (y_noO hC.1 hk) (y_noL hC.1 hk (hC.2.2.2 k hk).1 hj)) (fun r hp => ?_)
  obtain ⟨k', j', hL, hp⟩ := hp
  obtain ⟨rfl, rfl⟩ := y_isL hC hk hj hL
  subst hp
  exact kk
set_option maxHeartbeats 1000000 in
theorem z_mayComeBack (hlt : l.stackTraces = false) (S : CallFix p m c cc nL s args Ts RL) (hT : GoodIn Ts (wsV RL ix RX2 yX2_mayComeBack wsX2_mayComeBack)) (hW : xW D cO cL g X H) (hK : KK D cI cO cL cJ s) (hE : xE hz s H) (hd : g 3 0 = some d) (hbk : g 4 0 = some bk) (hC : xC g X n kc) {k j : Nat} (hk : k < n) (hj : j < kc k) {w : Int32} (hw : inR w 0 1) (hls : ls.size = nL) (hrest : (rest.map fun v => v.category).sum ≤ 8) (hdg : decode cc pc = .ok (.invokevirtual ix, 3)) (hR : 8 ≤ R.frames ∧ 129 ≤ R.locals) (hcs : cells + 3 ≤ R.cells ∧ slots + 18 ≤ R.slots)
    (kk : W p l e R s m args below meth c H locs (cells + 3) (slots + 18) Q (F0 m (pc + 3) ls (.int (retX X k (8 * k + j) w) :: rest))) : W p l e R s m args below meth c H locs cells slots Q (F0 m pc ls (.int w :: .int (nI j) :: .int (nI k) :: .ref d :: rest)) := by
  refine y_cI (vx_runV (As := [.int (nI k), .int (nI j), .int w]) (rest := rest) (b := d) S (kX2_mayComeBack l hlt g X hz _ d bk hd hbk n kc hC (nI k) (nI j) w) (cwV 3 S.2.2.2.2 hT rfl rfl rfl (by decide +kernel) hR) (x_preV hW hK hE (x_recvD hK hW hd)) rfl rfl hls rfl (lv_room hrest) hdg hcs) (fun E h => h.elim (y_noO hC.1 hk) (fun h => h.elim (y_noL hC.1 hk (hC.2.2.2 k hk).1 hj) (fun h => by obtain ⟨-, k9, j9, -, h⟩ := h; exact h hw))) (fun r hp => ?_)
  obtain ⟨k', j', hL, hp⟩ := hp
  obtain ⟨rfl, rfl⟩ := y_isL hC hk hj hL
  obtain ⟨-, rfl⟩ := hp
  exact kk
theorem z_orders (hlt : l.stackTraces = false) (S : CallFix p m c cc nL s args Ts RL) (hT : GoodIn Ts (wsV RL ix RX2 yX2_orders wsX2_orders)) (hW : xW D cO cL g X H) (hK : KK D cI cO cL cJ s) (hE : xE hz s H) (hd : g 3 0 = some d) (hbk : g 4 0 = some bk) (hls : ls.size = nL) (hrest : (rest.map fun v => v.category).sum ≤ 8) (hdg : decode cc pc = .ok (.invokevirtual ix, 3)) (hR : 1 ≤ R.frames ∧ 20 ≤ R.locals) (hcs : cells ≤ R.cells ∧ slots ≤ R.slots)
    (kk : W p l e R s m args below meth c H locs cells slots Q (F0 m (pc + 3) ls (.int (X 0 0) :: rest))) : W p l e R s m args below meth c H locs cells slots Q (F0 m pc ls (.ref d :: rest)) := by
  refine vp_callSi (va_runV (As := []) (rest := rest) (b := d) S (kX2_orders l g X hz H.size d bk hd hbk) (cwV 0 S.2.2.2.2 hT rfl rfl rfl (by decide +kernel) hR) (x_preV hW hK hE (x_recvD hK hW hd)) rfl rfl hls rfl (lv_room hrest) hdg hcs).run (fun r hr => ?_)
  subst hr
  exact kk
theorem z_day (hlt : l.stackTraces = false) (S : CallFix p m c cc nL s args Ts RL) (hT : GoodIn Ts (wsV RL ix RX2 yX2_day wsX2_day)) (hW : xW D cO cL g X H) (hK : KK D cI cO cL cJ s) (hE : xE hz s H) (hd : g 3 0 = some d) (hbk : g 4 0 = some bk) (hls : ls.size = nL) (hrest : (rest.map fun v => v.category).sum ≤ 8) (hdg : decode cc pc = .ok (.invokevirtual ix, 3)) (hR : 1 ≤ R.frames ∧ 20 ≤ R.locals) (hcs : cells ≤ R.cells ∧ slots ≤ R.slots)
    (kk : W p l e R s m args below meth c H locs cells slots Q (F0 m (pc + 3) ls (.int (X 1 0) :: rest))) : W p l e R s m args below meth c H locs cells slots Q (F0 m pc ls (.ref d :: rest)) := by
  refine vp_callSi (va_runV (As := []) (rest := rest) (b := d) S (kX2_day l g X hz H.size d bk hd hbk) (cwV 0 S.2.2.2.2 hT rfl rfl rfl (by decide +kernel) hR) (x_preV hW hK hE (x_recvD hK hW hd)) rfl rfl hls rfl (lv_room hrest) hdg hcs).run (fun r hr => ?_)
  subst hr
  exact kk
theorem z_grade (hlt : l.stackTraces = false) (S : CallFix p m c cc nL s args Ts RL) (hT : GoodIn Ts (wsV RL ix RX2 yX2_grade wsX2_grade)) (hW : xW D cO cL g X H) (hK : KK D cI cO cL cJ s) (hE : xE hz s H) (hd : g 3 0 = some d) (hbk : g 4 0 = some bk) (hI : xI g) (hO : xO g hz H.size) (hS : va_S A H0 H locs) (hA : ∀ q, xA g H.size q → A q) (hC : xC g X n kc) {k j : Nat} (hk : k < n) (hj : j < kc k) {w : Int32} (hw : inR w 0 3) (hwt : ¬ wtX X (8 * k + j) = 0) (hls : ls.size = nL) (hrest : (rest.map fun v => v.category).sum ≤ 8) (hdg : decode cc pc = .ok (.invokevirtual ix, 3)) (hR : 8 ≤ R.frames ∧ 129 ≤ R.locals) (hcs : cells + 4 ≤ R.cells ∧ slots + 24 ≤ R.slots)
    (kk : ∀ (H1 : Heap) (locs1 : List Loc), xW D cO cL g ((gradeX X k (kc k) (8 * k + j) w).2) H1 → H.size ≤ H1.size → (∀ q : Nat, q < H.size → ¬ xA g H.size q → H1[q]? = H[q]?) → va_S A H0 H1 locs1 → W p l e R s m args below meth c H1 locs1 (cells + 4) (slots + 24) Q (F0 m (pc + 3) ls (.int ((gradeX X k (kc k) (8 * k + j) w).1) :: rest))) : W p l e R s m args below meth c H locs cells slots Q (F0 m pc ls (.int w :: .int (nI j) :: .int (nI k) :: .ref d :: rest)) := by
  refine y_cWI (vx_runV (As := [.int (nI k), .int (nI j), .int w]) (rest := rest) (b := d) S (kX2_grade l hlt g X hz _ hI hO d bk hd hbk n kc hC (nI k) (nI j) w) (cwV 3 S.2.2.2.2 hT rfl rfl rfl (by decide +kernel) hR) (x_preV hW hK hE (x_recvD hK hW hd)) rfl rfl hls rfl (lv_room hrest) hdg hcs) hS hA (fun E h => ?_) (fun r X9 H1 locs1 hp hW1 hz1 hk1 hS1 => ?_)
  · rcases h with h | h | ⟨-, k9, j9, -, h⟩ | ⟨-, k9, j9, hL, -, h⟩
    · exact y_noO hC.1 hk h
    · exact y_noL hC.1 hk (hC.2.2.2 k hk).1 hj h
    · exact h hw
    · obtain ⟨rfl, rfl⟩ := y_isL hC hk hj hL
      exact hwt h
  · obtain ⟨k', j', hL, -, -, hp⟩ := hp
    obtain ⟨rfl, rfl⟩ := y_isL hC hk hj hL
    have e1 : r = (gradeX X k' (kc k') (8 * k' + j') w).1 := congrArg Prod.fst hp
    have e2 : X9 = (gradeX X k' (kc k') (8 * k' + j') w).2 := congrArg Prod.snd hp
    subst e1 e2
    exact kk H1 locs1 hW1 hz1 hk1 hS1
theorem z_pass (hlt : l.stackTraces = false) (S : CallFix p m c cc nL s args Ts RL) (hT : GoodIn Ts (wsV RL ix RX2 yX2_pass wsX2_pass)) (hW : xW D cO cL g X H) (hK : KK D cI cO cL cJ s) (hE : xE hz s H) (hd : g 3 0 = some d) (hbk : g 4 0 = some bk) (hI : xI g) (hO : xO g hz H.size) (hS : va_S A H0 H locs) (hA : ∀ q, xA g H.size q → A q) (hC : xC g X n kc) {w : Int32} (hw : inR w 1 400) (hwd : w ≤ 10000 - X 1 0) (hls : ls.size = nL) (hrest : (rest.map fun v => v.category).sum ≤ 8) (hdg : decode cc pc = .ok (.invokevirtual ix, 3)) (hR : 8 ≤ R.frames ∧ 130 ≤ R.locals) (hcs : cells + 2 ≤ R.cells ∧ slots + 12 ≤ R.slots)
    (kk : ∀ (H1 : Heap) (locs1 : List Loc), xW D cO cL g ((qIt (mu X 1 0 (X 1 0 + w)) kc (X 1 0 + w) n).2) H1 → H.size ≤ H1.size → (∀ q : Nat, q < H.size → ¬ xA g H.size q → H1[q]? = H[q]?) → va_S A H0 H1 locs1 → W p l e R s m args below meth c H1 locs1 (cells + 2) (slots + 12) Q (F0 m (pc + 3) ls (.int ((qIt (mu X 1 0 (X 1 0 + w)) kc (X 1 0 + w) n).1) :: rest))) : W p l e R s m args below meth c H locs cells slots Q (F0 m pc ls (.int w :: .ref d :: rest)) := by
  refine y_cWI (vx_runV (As := [.int w]) (rest := rest) (b := d) S (kX2_pass l hlt g X hz _ hI hO d bk hd hbk n kc hC w) (cwV 1 S.2.2.2.2 hT rfl rfl rfl (by decide +kernel) hR) (x_preV hW hK hE (x_recvD hK hW hd)) rfl rfl hls rfl (lv_room hrest) hdg hcs) hS hA (fun E h => ?_) (fun r X9 H1 locs1 hp hW1 hz1 hk1 hS1 => ?_)
  · rcases h with ⟨-, h⟩ | ⟨-, -, h⟩
    · exact h hw
    · exact h hwd
  · obtain ⟨-, -, hp⟩ := hp
    have e1 : r = (qIt (mu X 1 0 (X 1 0 + w)) kc (X 1 0 + w) n).1 := congrArg Prod.fst hp
    have e2 : X9 = (qIt (mu X 1 0 (X 1 0 + w)) kc (X 1 0 + w) n).2 := congrArg Prod.snd hp
    subst e1 e2
    exact kk H1 locs1 hW1 hz1 hk1 hS1
end YRows
end
section
/-! THE LAW'S SMALL METHODS: low, cell, all; and the calls that are caught. -/
theorem low_of (v : Int32) {N : Nat} (h0 : 0 < N) (hN : N < 2 ^ 31) : ∃ q, q < N ∧ (v &&& 2147483647) - (v &&& 2147483647) / nI N * nI N = nI q := by
  obtain ⟨j, hj, e⟩ := pk_andE v (m := 2147483647) 31 (by decide)
  refine ⟨j % N, Nat.mod_lt _ h0, ?_⟩
  rw [e, pk_rem (by omega) h0 hN]
set_option maxHeartbeats 4000000 in
set_option maxRecDepth 100000 in
theorem kL_low (l : Launch) (v : Int32) {N : Nat} (h0 : 0 < N) (hN : N < 2 ^ 31) : Met l yL_low wsL_low ({ frames := 0, cells := 0, slots := 0, locals := 0 } : Room) (sP [.int v, .int (nI N)]) (vp_Si (fun r : Int32 => ∃ q, q < N ∧ r = nI q)) 0 0 (fun _ => False) := by
  refine s_body (cc := cL_low) (maxL := 2) (ret := some .int) (by decide) rfl [.int v, .int (nI N)] (Nat.le_of_ble_eq_true rfl) ?_
  intro p e s m args below meth c hx hb hr hts hown hml hlocks ls hl
  have hown : s.vm.findClass RL = some m.cls := hown
  have hl : lv_has ls 2 [(0, .int v), (1, .int (nI N))] := hl
  refine lv_iload_n hx hb dL_low_0 rfl (lv_at hl 0 rfl) ?_
  refine lv_ldc (v := 2147483647) hx hb hown (hts (.constant RL 7 (2147483647)) (List.mem_of_getElem? (i := 1) rfl)) dL_low_1 ?_
  refine lv_iand hx hb dL_low_3 ?_
  refine lv_iload_n hx hb dL_low_4 rfl (lv_at hl 1 rfl) ?_
  refine lv_irem hx hb dL_low_5 (nI_ne0 h0 hN) ?_
  exact r_ret hx hb hr hlocks (low_of v h0 hN) dL_low_6
/-- the script, handed on -/
def scP (b L : Nat) (xs : Nat → Int32) (av : List Value) : Array Value → State → Prop := va_Pc av (fun U => va_X b L xs U U.heap)
theorem scP.blind {b L : Nat} {xs : Nat → Int32} {av : List Value} : FrameBlind (scP b L xs av) := fun a U f mk h => ⟨h.1, va_X.moved (u := U) (U := U.calling f mk a) (Vm.Alike.refl U.vm) h.2⟩
set_option maxHeartbeats 4000000 in
set_option maxRecDepth 100000 in
theorem kL_cell (l : Launch) (b L : Nat) (xs : Nat → Int32) (hL : L ≤ 260) {k : Nat} (hk : k < 2 ^ 31) : Met l yL_cell wsL_cell ({ frames := 0, cells := 0, slots := 0, locals := 0 } : Room) (scP b L xs [.ref b, .int (nI k)]) (vp_Si (fun _ : Int32 => True)) 0 0 (fun _ => False) := by
  refine Met.ofW (cc := cL_cell) (maxL := 2) (ret := some .int) (by decide) rfl ?_
  intro p e s m args below meth c s₁ B hml hv
  obtain ⟨rfl, hX⟩ := hv
  have hx := B.exec
  have hb := B.bytes
  have hr := B.returns
  have hts := atoms_spec (ws := wsL_cell) B.pre
  have hown : s.vm.findClass RL = some m.cls := findClass_of_methodNamed B.named
  have hlocks := B.notSynchronized
  have hl := lv_entry ([.ref b, .int (nI k)] : List Value) (n := 2) (Nat.le_of_ble_eq_true rfl)
  rw [lg_entry_eq]
  generalize (lg_sl ([.ref b, .int (nI k)] : List Value) ++ List.replicate (2 - (lg_sl ([.ref b, .int (nI k)] : List Value)).length) Slot.unset).toArray = ls at hl ⊢
  have hl : lv_has ls 2 [(0, .ref b), (1, .int (nI k))] := hl
  have hbl : b < s.heap.size := by
    obtain ⟨scr, h, -⟩ := hX
    exact (Array.getElem?_eq_some_iff.mp h).1
  have hS : va_S (fun _ => False) s.heap s.heap [] := va_S.rf
  refine lv_iload_n hx hb dL_cell_0 rfl (lv_at hl 1 rfl) ?_
  refine lv_aload_n hx hb dL_cell_1 rfl (lv_at hl 0 rfl) ?_
  refine va_slen hx hb hX hbl (fun z => z) hS dL_cell_2 ?_
  refine lv_icmp_ge (tgt := 12) hx hb dL_cell_3 (by decide) (fun c3 => ?_) (fun c3 => ?_)
  · refine lv_ldc (v := 40503) hx hb hown (hts (.constant RL 8 (40503)) (List.mem_of_getElem? (i := 1) rfl)) dL_cell_12 ?_
    refine lv_iload_n hx hb dL_cell_14 rfl (lv_at hl 1 rfl) ?_
    refine lv_imul hx hb dL_cell_15 ?_
    refine lv_sipush (v := 977) hx hb dL_cell_16 (by decide) ?_
    refine lv_iadd hx hb dL_cell_19 ?_
    exact r_ret hx hb hr hlocks trivial dL_cell_20
  · have hkL : k < L := by
      rcases Nat.lt_or_ge k L with h | h
      · exact h
      · exact absurd (nI_le h hk) c3
    refine lv_aload_n hx hb dL_cell_6 rfl (lv_at hl 0 rfl) ?_
    refine lv_iload_n hx hb dL_cell_7 rfl (lv_at hl 1 rfl) ?_
    refine va_sld hx hb hX hbl (fun z => z) hS (vp_in_nI hkL (by omega)) dL_cell_8 ?_
    refine lv_goto (tgt := 20) hx hb dL_cell_9 (by decide) ?_
    exact r_ret hx hb hr hlocks trivial dL_cell_20
set_option maxHeartbeats 4000000 in
set_option maxRecDepth 100000 in
theorem kL_all (l : Launch) (hlt : l.stackTraces = false) {D : va_G} {cI cO cL cJ : ClassId} (g : XG) (X : MS) (hz sz : Nat) (d bk : Nat) (hd : g 3 0 = some d) (hbk : g 4 0 = some bk) (n : Nat) (kc : Nat → Nat) (hC : xC g X n kc) (k : Nat) (hk : k < n) : Met l yL_all wsL_all ({ frames := 8, cells := 6, slots := 36, locals := 127 } : Room) (xP D cI cO cL cJ g X hz sz [.ref d, .int (nI k)]) (vp_Si (fun r : Int32 => r = takenX X k)) 6 36 (fun _ => False) := by
  refine x_bodyM (cc := cL_all) (maxL := 2) (ret := some .int) (by decide) rfl [.ref d, .int (nI k)] (Nat.le_of_ble_eq_true rfl) ?_
  intro p e s m args below meth c hx hb hr hts hown hml hlocks hsz hW hK hE ls hl
  subst hsz
  have hown : s.vm.findClass RL = some m.cls := hown
  have hl : lv_has ls 2 [(0, .ref d), (1, .int (nI k))] := hl
  refine lv_aload_n hx hb dL_all_0 rfl (lv_at hl 0 rfl) ?_
  refine lv_iload_n hx hb dL_all_1 rfl (lv_at hl 1 rfl) ?_
  refine lv_iconst (v := 0) hx hb dL_all_2 (by decide) ?_
  refine z_taken hlt ⟨hx, hb, hml, hown, hts⟩ gL_all_X2_taken hW hK hE hd hbk hC hk (v := X 13 k) (y_in 0 (N := 2) rfl (by decide) (by decide)) rfl hl.1 (Nat.le_of_ble_eq_true rfl) dL_all_3 ⟨Nat.le_of_ble_eq_true rfl, Nat.le_of_ble_eq_true rfl⟩ ⟨Nat.le_of_ble_eq_true rfl, Nat.le_of_ble_eq_true rfl⟩ ?_
  refine lv_aload_n hx hb dL_all_6 rfl (lv_at hl 0 rfl) ?_
  refine lv_iload_n hx hb dL_all_7 rfl (lv_at hl 1 rfl) ?_
  refine lv_iconst (v := 1) hx hb dL_all_8 (by decide) ?_
  refine z_taken hlt ⟨hx, hb, hml, hown, hts⟩ gL_all_X2_taken hW hK hE hd hbk hC hk (v := X 14 k) (y_in 1 (N := 2) rfl (by decide) (by decide)) rfl hl.1 (Nat.le_of_ble_eq_true rfl) dL_all_9 ⟨Nat.le_of_ble_eq_true rfl, Nat.le_of_ble_eq_true rfl⟩ ⟨Nat.le_of_ble_eq_true rfl, Nat.le_of_ble_eq_true rfl⟩ ?_
  refine lv_iadd hx hb dL_all_12 ?_
  refine lv_aload_n hx hb dL_all_13 rfl (lv_at hl 0 rfl) ?_
  refine lv_iload_n hx hb dL_all_14 rfl (lv_at hl 1 rfl) ?_
  refine lv_iconst (v := 2) hx hb dL_all_15 (by decide) ?_
  refine z_taken hlt ⟨hx, hb, hml, hown, hts⟩ gL_all_X2_taken hW hK hE hd hbk hC hk (v := X 15 k) (y_in 2 (N := 2) rfl (by decide) (by decide)) rfl hl.1 (Nat.le_of_ble_eq_true rfl) dL_all_16 ⟨Nat.le_of_ble_eq_true rfl, Nat.le_of_ble_eq_true rfl⟩ ⟨Nat.le_of_ble_eq_true rfl, Nat.le_of_ble_eq_true rfl⟩ ?_
  refine lv_iadd hx hb dL_all_19 ?_
  exact y_ret hx hb hr hlocks ⟨Nat.le_of_ble_eq_true rfl, Nat.le_of_ble_eq_true rfl⟩ rfl dL_all_20
set_option maxHeartbeats 4000000 in
set_option maxRecDepth 100000 in
theorem kL_order (l : Launch) (hlt : l.stackTraces = false) {D : va_G} {cI cO cL cJ : ClassId} (g : XG) (X : MS) (hz sz : Nat) (hI : xI g) (hO : xO g hz sz) (d bk : Nat) (hd : g 3 0 = some d) (hbk : g 4 0 = some bk) (n : Nat) (kc : Nat → Nat) (hC : xC g X n kc) (hZ : xZ g n) (p0 p1 : Int32) (h0 : inR p0 0 90) (h1 : inR p1 0 1000000) : Met l yL_order wsL_order ({ frames := 8, cells := 4, slots := 32, locals := 126 } : Room) (xP D cI cO cL cJ g X hz sz [.ref d, .int p0, .int p1]) (xGi D cO cL g sz (fun (r : Int32) (u : XG × MS) => (∃ q la, sz ≤ q ∧ sz ≤ la ∧ q ≠ la ∧ u.1 = gOrd g n q la ∧ u.2 = mu (xNewO X n p0 p1) 0 0 (nI (n + 1)) ∧ r = nI n ∧ n < 30) ∨ (r = -3 ∧ ¬ n < 30 ∧ u = (g, X)))) 4 32 (xA g sz) := by
  refine va_MetW (cc := cL_order) (maxL := 4) (ret := some .int) (hh := [(0, 6, 7, 15)]) (by decide) rfl ?_
  intro p e s m args below meth c s₁ B hml hv
  obtain ⟨rfl, hsz, hW, hK, hE⟩ := hv
  subst hsz
  have hx := B.exec
  have hb := B.bytes
  have hr := B.returns
  have hts := atoms_spec (ws := wsL_order) B.pre
  have hown : s.vm.findClass RL = some m.cls := findClass_of_methodNamed B.named
  have hlocks := B.notSynchronized
  have htab := vx_table (x := yL_order) B (hts (.codeWith yL_order cL_order 4 (some .int) [(0, 6, 7, 15)]) (List.mem_of_getElem? (i := 0) rfl))
  have hl := lv_entry ([.ref d, .int p0, .int p1] : List Value) (n := 4) (Nat.le_of_ble_eq_true rfl)
  rw [lg_entry_eq]
  generalize (lg_sl ([.ref d, .int p0, .int p1] : List Value) ++ List.replicate (4 - (lg_sl ([.ref d, .int p0, .int p1] : List Value)).length) Slot.unset).toArray = ls at hl ⊢
  have hl : lv_has ls 4 [(0, .ref d), (1, .int p0), (2, .int p1)] := hl
  have hS : va_S (xA g s.heap.size) s.heap s.heap [] := va_S.rf
  have hn30 := hC.1
  refine lv_aload_n hx hb dL_order_0 rfl (lv_at hl 0 rfl) ?_
  refine lv_iload_n hx hb dL_order_1 rfl (lv_at hl 1 rfl) ?_
  refine lv_iload_n hx hb dL_order_2 rfl (lv_at hl 2 rfl) ?_
  refine x_cGI (vx_runV (As := [.int p0, .int p1]) (rest := []) (b := d) ⟨hx, hb, hml, hown, hts⟩ (kX2_order l hlt g X hz _ hI hO d bk hd hbk n kc hC hZ p0 p1) (cwV 2 hts gL_order_X2_order rfl rfl rfl (by decide +kernel) ⟨Nat.le_of_ble_eq_true rfl, Nat.le_of_ble_eq_true rfl⟩) (x_preV hW hK hE (x_recvD hK hW hd)) rfl rfl hl.1 rfl (lv_room (Nat.le_of_ble_eq_true rfl)) dL_order_3 ⟨Nat.le_of_ble_eq_true rfl, Nat.le_of_ble_eq_true rfl⟩) hS (Nat.le_refl _) (fun E ce q9 H1 locs1 hc hz1 hk1 hS1 hL1 hce hcv hcl => ?_) (fun r u H2 locs2 hp hW2 hz2 hk2 hS2 => ?_)
  · have hEe : E = ISE ∧ _ := (show E = ISE ∧ ¬ n < 30 from by
      rcases hc with ⟨-, h | h⟩ | ⟨h, -, -, h3⟩
      · exact absurd h0 h
      · exact absurd h1 h
      · exact ⟨h, h3⟩)
    obtain ⟨rfl, hbad⟩ := hEe
    exact vx_catch (own := RL) (name := ISE) hown [] ⟨0, 6, 7, 15⟩ [] htab (fun _ h => nomatch h) rfl (by decide) (hts (.classLink RL 15 "java/lang/IllegalStateException") (List.mem_of_getElem? (i := 1) rfl)) (cast_of hE (List.mem_of_getElem? (i := 0) rfl)) hce hcv hcl
      (lv_astore_n (lv' := (3, .ref q9) :: [(0, .ref d), (1, .int p0), (2, .int p1)]) hx hb dL_order_7 rfl hl (by decide) rfl (fun ls hl => lv_bipush (v := -3) hx hb dL_order_8 (by decide) (xg_retM hx hb hr hlocks ⟨Nat.le_of_ble_eq_true rfl, Nat.le_of_ble_eq_true rfl⟩ (hW.more hk1) hS1 (Or.inr ⟨rfl, hbad, rfl⟩) dL_order_10)))
  · have hp : ∃ q la, s.heap.size ≤ q ∧ s.heap.size ≤ la ∧ q ≠ la ∧ u.1 = gOrd g n q la ∧ u.2 = mu (xNewO X n p0 p1) 0 0 (nI (n + 1)) ∧ r = nI n ∧ n < 30 := by
      obtain ⟨q, la, a1, a2, a3, a4, a5, a6, a7, -⟩ := hp
      exact ⟨q, la, a1, a2, a3, a4, a5, a6, a7⟩
    exact xg_retM hx hb hr hlocks ⟨Nat.le_of_ble_eq_true rfl, Nat.le_of_ble_eq_true rfl⟩ hW2 hS2 (Or.inl hp) dL_order_6
set_option maxHeartbeats 4000000 in
set_option maxRecDepth 100000 in
theorem kL_add (l : Launch) (hlt : l.stackTraces = false) {D : va_G} {cI cO cL cJ : ClassId} (g : XG) (X : MS) (hz sz : Nat) (hI : xI g) (hO : xO g hz sz) (d bk : Nat) (hd : g 3 0 = some d) (hbk : g 4 0 = some bk) (n : Nat) (kc : Nat → Nat) (hC : xC g X n kc) (hZ : xZ g n) (k : Nat) (hk : k < n) (hop : X 8 k = 0) (p1 p2 : Int32) (h1 : inR p1 1 100000) (h2 : inR p2 0 2) : Met l yL_add wsL_add ({ frames := 8, cells := 4, slots := 24, locals := 128 } : Room) (xP D cI cO cL cJ g X hz sz [.ref d, .int (nI k), .int p1, .int p2]) (xGi D cO cL g sz (fun (r : Int32) (u : XG × MS) => (∃ al, kc k < 8 ∧ sz ≤ al ∧ u.1 = gMov (gLine g 300 al) (8 * k + kc k) al ∧ u.2 = mu (xMov (xNewL X 300 p1 p2) (8 * k + kc k)) 7 k (nI (kc k + 1)) ∧ r = nI (kc k)) ∨ (r = -3 ∧ ¬ kc k < 8 ∧ u = (g, X)))) 4 24 (xA g sz) := by
  refine va_MetW (cc := cL_add) (maxL := 5) (ret := some .int) (hh := [(0, 7, 8, 15)]) (by decide) rfl ?_
  intro p e s m args below meth c s₁ B hml hv
  obtain ⟨rfl, hsz, hW, hK, hE⟩ := hv
  subst hsz
  have hx := B.exec
  have hb := B.bytes
  have hr := B.returns
  have hts := atoms_spec (ws := wsL_add) B.pre
  have hown : s.vm.findClass RL = some m.cls := findClass_of_methodNamed B.named
  have hlocks := B.notSynchronized
  have htab := vx_table (x := yL_add) B (hts (.codeWith yL_add cL_add 5 (some .int) [(0, 7, 8, 15)]) (List.mem_of_getElem? (i := 0) rfl))
  have hl := lv_entry ([.ref d, .int (nI k), .int p1, .int p2] : List Value) (n := 5) (Nat.le_of_ble_eq_true rfl)
  rw [lg_entry_eq]
  generalize (lg_sl ([.ref d, .int (nI k), .int p1, .int p2] : List Value) ++ List.replicate (5 - (lg_sl ([.ref d, .int (nI k), .int p1, .int p2] : List Value)).length) Slot.unset).toArray = ls at hl ⊢
  have hl : lv_has ls 5 [(0, .ref d), (1, .int (nI k)), (2, .int p1), (3, .int p2)] := hl
  have hS : va_S (xA g s.heap.size) s.heap s.heap [] := va_S.rf
  have hn30 := hC.1
  refine lv_aload_n hx hb dL_add_0 rfl (lv_at hl 0 rfl) ?_
  refine lv_iload_n hx hb dL_add_1 rfl (lv_at hl 1 rfl) ?_
  refine lv_iload_n hx hb dL_add_2 rfl (lv_at hl 2 rfl) ?_
  refine lv_iload_n hx hb dL_add_3 rfl (lv_at hl 3 rfl) ?_
  refine x_cGI (vx_runV (As := [.int (nI k), .int p1, .int p2]) (rest := []) (b := d) ⟨hx, hb, hml, hown, hts⟩ (kX2_add l hlt g X hz _ hI hO d bk hd hbk n kc hC hZ (nI k) p1 p2) (cwV 3 hts gL_add_X2_add rfl rfl rfl (by decide +kernel) ⟨Nat.le_of_ble_eq_true rfl, Nat.le_of_ble_eq_true rfl⟩) (x_preV hW hK hE (x_recvD hK hW hd)) rfl rfl hl.1 rfl (lv_room (Nat.le_of_ble_eq_true rfl)) dL_add_4 ⟨Nat.le_of_ble_eq_true rfl, Nat.le_of_ble_eq_true rfl⟩) hS (Nat.le_refl _) (fun E ce q9 H1 locs1 hc hz1 hk1 hS1 hL1 hce hcv hcl => ?_) (fun r u H2 locs2 hp hW2 hz2 hk2 hS2 => ?_)
  · have hEe : E = ISE ∧ _ := (show E = ISE ∧ ¬ kc k < 8 from by
      rcases hc with h | ⟨-, k9, hk9, e9, h | h⟩ | ⟨h, k9, hk9, e9, -, -, h3⟩
      · exact absurd h (y_noO hn30 hk)
      · exact absurd h1 h
      · exact absurd h2 h
      · have := nI30 (by omega) (by omega) e9
        subst this
        exact ⟨h, h3.elim (fun h => absurd hop h) id⟩)
    obtain ⟨rfl, hbad⟩ := hEe
    exact vx_catch (own := RL) (name := ISE) hown [] ⟨0, 7, 8, 15⟩ [] htab (fun _ h => nomatch h) rfl (by decide) (hts (.classLink RL 15 "java/lang/IllegalStateException") (List.mem_of_getElem? (i := 1) rfl)) (cast_of hE (List.mem_of_getElem? (i := 0) rfl)) hce hcv hcl
      (lv_astore (lv' := (4, .ref q9) :: [(0, .ref d), (1, .int (nI k)), (2, .int p1), (3, .int p2)]) hx hb dL_add_8 hl (by decide) rfl (fun ls hl => lv_bipush (v := -3) hx hb dL_add_10 (by decide) (xg_retM hx hb hr hlocks ⟨Nat.le_of_ble_eq_true rfl, Nat.le_of_ble_eq_true rfl⟩ (hW.more hk1) hS1 (Or.inr ⟨rfl, hbad, rfl⟩) dL_add_12)))
  · have hp : ∃ al, kc k < 8 ∧ s.heap.size ≤ al ∧ u.1 = gMov (gLine g 300 al) (8 * k + kc k) al ∧ u.2 = mu (xMov (xNewL X 300 p1 p2) (8 * k + kc k)) 7 k (nI (kc k + 1)) ∧ r = nI (kc k) := by
      obtain ⟨k9, al, hk9, e9, -, -, -, a1, a2, a3, a4, a5⟩ := hp
      have := nI30 (by omega) (by omega) e9
      subst this
      exact ⟨al, a1, a2, a3, a4, a5⟩
    exact xg_retM hx hb hr hlocks ⟨Nat.le_of_ble_eq_true rfl, Nat.le_of_ble_eq_true rfl⟩ hW2 hS2 (Or.inl hp) dL_add_7
set_option maxHeartbeats 4000000 in
set_option maxRecDepth 100000 in
theorem kL_pay (l : Launch) (hlt : l.stackTraces = false) {D : va_G} {cI cO cL cJ : ClassId} (g : XG) (X : MS) (hz sz : Nat) (hI : xI g) (hO : xO g hz sz) (d bk : Nat) (hd : g 3 0 = some d) (hbk : g 4 0 = some bk) (n : Nat) (kc : Nat → Nat) (hC : xC g X n kc) (k : Nat) (hk : k < n) (hop : X 8 k = 0) (p1 p2 : Int32) (h1 : inR p1 0 1000000) (h2 : inR p2 0 1000000) : Met l yL_pay wsL_pay ({ frames := 8, cells := 4, slots := 24, locals := 128 } : Room) (xP D cI cO cL cJ g X hz sz [.ref d, .int (nI k), .int p1, .int p2]) (xQi D cO cL g sz (fun (r : Int32) (X9 : MS) => (¬ X 7 k = 0 ∧ X9 = settleX X k (kc k) p1 p2 (X 1 0) ∧ r = X9 13 k) ∨ (r = -3 ∧ X 7 k = 0 ∧ X9 = X))) 4 24 (xA g sz) := by
  refine va_MetW (cc := cL_pay) (maxL := 5) (ret := some .int) (hh := [(0, 7, 8, 15)]) (by decide) rfl ?_
  intro p e s m args below meth c s₁ B hml hv
  obtain ⟨rfl, hsz, hW, hK, hE⟩ := hv
  subst hsz
  have hx := B.exec
  have hb := B.bytes
  have hr := B.returns
  have hts := atoms_spec (ws := wsL_pay) B.pre
  have hown : s.vm.findClass RL = some m.cls := findClass_of_methodNamed B.named
  have hlocks := B.notSynchronized
  have htab := vx_table (x := yL_pay) B (hts (.codeWith yL_pay cL_pay 5 (some .int) [(0, 7, 8, 15)]) (List.mem_of_getElem? (i := 0) rfl))
  have hl := lv_entry ([.ref d, .int (nI k), .int p1, .int p2] : List Value) (n := 5) (Nat.le_of_ble_eq_true rfl)
  rw [lg_entry_eq]
  generalize (lg_sl ([.ref d, .int (nI k), .int p1, .int p2] : List Value) ++ List.replicate (5 - (lg_sl ([.ref d, .int (nI k), .int p1, .int p2] : List Value)).length) Slot.unset).toArray = ls at hl ⊢
  have hl : lv_has ls 5 [(0, .ref d), (1, .int (nI k)), (2, .int p1), (3, .int p2)] := hl
  have hS : va_S (xA g s.heap.size) s.heap s.heap [] := va_S.rf
  have hn30 := hC.1
  refine lv_aload_n hx hb dL_pay_0 rfl (lv_at hl 0 rfl) ?_
  refine lv_iload_n hx hb dL_pay_1 rfl (lv_at hl 1 rfl) ?_
  refine lv_iload_n hx hb dL_pay_2 rfl (lv_at hl 2 rfl) ?_
  refine lv_iload_n hx hb dL_pay_3 rfl (lv_at hl 3 rfl) ?_
  refine x_cWI (vx_runV (As := [.int (nI k), .int p1, .int p2]) (rest := []) (b := d) ⟨hx, hb, hml, hown, hts⟩ (kX2_pay l hlt g X hz _ hI hO d bk hd hbk n kc hC (nI k) p1 p2) (cwV 3 hts gL_pay_X2_pay rfl rfl rfl (by decide +kernel) ⟨Nat.le_of_ble_eq_true rfl, Nat.le_of_ble_eq_true rfl⟩) (x_preV hW hK hE (x_recvD hK hW hd)) rfl rfl hl.1 rfl (lv_room (Nat.le_of_ble_eq_true rfl)) dL_pay_4 ⟨Nat.le_of_ble_eq_true rfl, Nat.le_of_ble_eq_true rfl⟩) hS (Nat.le_refl _) (fun E ce q9 H1 locs1 hc hz1 hk1 hS1 hL1 hce hcv hcl => ?_) (fun r X9 H2 locs2 hp hW2 hz2 hk2 hS2 => ?_)
  · have hEe : E = ISE ∧ _ := (show E = ISE ∧ X 7 k = 0 from by
      rcases hc with h | ⟨-, k9, hk9, e9, h | h⟩ | ⟨h, k9, hk9, e9, -, -, h3⟩
      · exact absurd h (y_noO hn30 hk)
      · exact absurd h1 h
      · exact absurd h2 h
      · have := nI30 (by omega) (by omega) e9
        subst this
        exact ⟨h, h3.elim (fun h => absurd hop h) id⟩)
    obtain ⟨rfl, hbad⟩ := hEe
    exact vx_catch (own := RL) (name := ISE) hown [] ⟨0, 7, 8, 15⟩ [] htab (fun _ h => nomatch h) rfl (by decide) (hts (.classLink RL 15 "java/lang/IllegalStateException") (List.mem_of_getElem? (i := 1) rfl)) (cast_of hE (List.mem_of_getElem? (i := 0) rfl)) hce hcv hcl
      (lv_astore (lv' := (4, .ref q9) :: [(0, .ref d), (1, .int (nI k)), (2, .int p1), (3, .int p2)]) hx hb dL_pay_8 hl (by decide) rfl (fun ls hl => lv_bipush (v := -3) hx hb dL_pay_10 (by decide) (xw_retM hx hb hr hlocks ⟨Nat.le_of_ble_eq_true rfl, Nat.le_of_ble_eq_true rfl⟩ (hW.more hk1) hS1 (Or.inr ⟨rfl, hbad, rfl⟩) dL_pay_12)))
  · have hp : ¬ X 7 k = 0 ∧ X9 = settleX X k (kc k) p1 p2 (X 1 0) ∧ r = X9 13 k := by
      obtain ⟨k9, hk9, e9, -, -, -, a1, a2, a3⟩ := hp
      have := nI30 (by omega) (by omega) e9
      subst this
      exact ⟨a1, a2, a3⟩
    exact xw_retM hx hb hr hlocks ⟨Nat.le_of_ble_eq_true rfl, Nat.le_of_ble_eq_true rfl⟩ hW2 hS2 (Or.inl hp) dL_pay_7
set_option maxHeartbeats 4000000 in
set_option maxRecDepth 100000 in
theorem kL_ask (l : Launch) (hlt : l.stackTraces = false) {D : va_G} {cI cO cL cJ : ClassId} (g : XG) (X : MS) (hz sz : Nat) (hI : xI g) (hO : xO g hz sz) (d bk : Nat) (hd : g 3 0 = some d) (hbk : g 4 0 = some bk) (n : Nat) (kc : Nat → Nat) (hC : xC g X n kc) (k j : Nat) (hk : k < n) (hj : j < kc k) (p2 : Int32) (h2 : inR p2 0 1) : Met l yL_ask wsL_ask ({ frames := 9, cells := 4, slots := 24, locals := 153 } : Room) (xP D cI cO cL cJ g X hz sz [.ref d, .int (nI k), .int (nI j), .int p2]) (xQi D cO cL g sz (fun (r : Int32) (X9 : MS) => (¬ retX X k (8 * k + j) p2 = 0 ∧ r = X 1 0 + 21 ∧ X9 = swX X (8 * k + j) p2 1) ∨ (r = -3 ∧ retX X k (8 * k + j) p2 = 0 ∧ X9 = X))) 4 24 (xA g sz) := by
  refine va_MetW (cc := cL_ask) (maxL := 5) (ret := some .int) (hh := [(0, 7, 8, 15)]) (by decide) rfl ?_
  intro p e s m args below meth c s₁ B hml hv
  obtain ⟨rfl, hsz, hW, hK, hE⟩ := hv
  subst hsz
  have hx := B.exec
  have hb := B.bytes
  have hr := B.returns
  have hts := atoms_spec (ws := wsL_ask) B.pre
  have hown : s.vm.findClass RL = some m.cls := findClass_of_methodNamed B.named
  have hlocks := B.notSynchronized
  have htab := vx_table (x := yL_ask) B (hts (.codeWith yL_ask cL_ask 5 (some .int) [(0, 7, 8, 15)]) (List.mem_of_getElem? (i := 0) rfl))
  have hl := lv_entry ([.ref d, .int (nI k), .int (nI j), .int p2] : List Value) (n := 5) (Nat.le_of_ble_eq_true rfl)
  rw [lg_entry_eq]
  generalize (lg_sl ([.ref d, .int (nI k), .int (nI j), .int p2] : List Value) ++ List.replicate (5 - (lg_sl ([.ref d, .int (nI k), .int (nI j), .int p2] : List Value)).length) Slot.unset).toArray = ls at hl ⊢
  have hl : lv_has ls 5 [(0, .ref d), (1, .int (nI k)), (2, .int (nI j)), (3, .int p2)] := hl
  have hS : va_S (xA g s.heap.size) s.heap s.heap [] := va_S.rf
  have hn30 := hC.1
  refine lv_aload_n hx hb dL_ask_0 rfl (lv_at hl 0 rfl) ?_
  refine lv_iload_n hx hb dL_ask_1 rfl (lv_at hl 1 rfl) ?_
  refine lv_iload_n hx hb dL_ask_2 rfl (lv_at hl 2 rfl) ?_
  refine lv_iload_n hx hb dL_ask_3 rfl (lv_at hl 3 rfl) ?_
  refine x_cWI (vx_runV (As := [.int (nI k), .int (nI j), .int p2]) (rest := []) (b := d) ⟨hx, hb, hml, hown, hts⟩ (kX2_ask l hlt g X hz _ hI hO d bk hd hbk n kc hC (nI k) (nI j) p2) (cwV 3 hts gL_ask_X2_ask rfl rfl rfl (by decide +kernel) ⟨Nat.le_of_ble_eq_true rfl, Nat.le_of_ble_eq_true rfl⟩) (x_preV hW hK hE (x_recvD hK hW hd)) rfl rfl hl.1 rfl (lv_room (Nat.le_of_ble_eq_true rfl)) dL_ask_4 ⟨Nat.le_of_ble_eq_true rfl, Nat.le_of_ble_eq_true rfl⟩) hS (Nat.le_refl _) (fun E ce q9 H1 locs1 hc hz1 hk1 hS1 hL1 hce hcv hcl => ?_) (fun r X9 H2 locs2 hp hW2 hz2 hk2 hS2 => ?_)
  · have hEe : E = ISE ∧ _ := (show E = ISE ∧ retX X k (8 * k + j) p2 = 0 from by
      rcases hc with h | h | ⟨-, k9, j9, -, h⟩ | ⟨h, k9, j9, hL, -, h3⟩
      · exact absurd h (y_noO hn30 hk)
      · exact absurd h (y_noL hn30 hk (hC.2.2.2 k hk).1 hj)
      · exact absurd h2 h
      · obtain ⟨rfl, rfl⟩ := y_isL hC hk hj hL
        exact ⟨h, h3⟩)
    obtain ⟨rfl, hbad⟩ := hEe
    exact vx_catch (own := RL) (name := ISE) hown [] ⟨0, 7, 8, 15⟩ [] htab (fun _ h => nomatch h) rfl (by decide) (hts (.classLink RL 15 "java/lang/IllegalStateException") (List.mem_of_getElem? (i := 1) rfl)) (cast_of hE (List.mem_of_getElem? (i := 0) rfl)) hce hcv hcl
      (lv_astore (lv' := (4, .ref q9) :: [(0, .ref d), (1, .int (nI k)), (2, .int (nI j)), (3, .int p2)]) hx hb dL_ask_8 hl (by decide) rfl (fun ls hl => lv_bipush (v := -3) hx hb dL_ask_10 (by decide) (xw_retM hx hb hr hlocks ⟨Nat.le_of_ble_eq_true rfl, Nat.le_of_ble_eq_true rfl⟩ (hW.more hk1) hS1 (Or.inr ⟨rfl, hbad, rfl⟩) dL_ask_12)))
  · have hp : ¬ retX X k (8 * k + j) p2 = 0 ∧ r = X 1 0 + 21 ∧ X9 = swX X (8 * k + j) p2 1 := by
      obtain ⟨k9, j9, hL, -, a1, a2, a3⟩ := hp
      obtain ⟨rfl, rfl⟩ := y_isL hC hk hj hL
      exact ⟨a1, a2, a3⟩
    exact xw_retM hx hb hr hlocks ⟨Nat.le_of_ble_eq_true rfl, Nat.le_of_ble_eq_true rfl⟩ hW2 hS2 (Or.inl hp) dL_ask_7
set_option maxHeartbeats 4000000 in
set_option maxRecDepth 100000 in
theorem kL_exchange (l : Launch) (hlt : l.stackTraces = false) {D : va_G} {cI cO cL cJ : ClassId} (g : XG) (X : MS) (hz sz : Nat) (hI : xI g) (hO : xO g hz sz) (d bk : Nat) (hd : g 3 0 = some d) (hbk : g 4 0 = some bk) (n : Nat) (kc : Nat → Nat) (hC : xC g X n kc) (k j : Nat) (hk : k < n) (hj : j < kc k) (p2 : Int32) (h2 : inR p2 0 1) : Met l yL_exchange wsL_exchange ({ frames := 9, cells := 4, slots := 24, locals := 153 } : Room) (xP D cI cO cL cJ g X hz sz [.ref d, .int (nI k), .int (nI j), .int p2]) (xQi D cO cL g sz (fun (r : Int32) (X9 : MS) => (¬ retX X k (8 * k + j) p2 = 0 ∧ r = X 1 0 + 21 ∧ X9 = swX X (8 * k + j) p2 2) ∨ (r = -3 ∧ retX X k (8 * k + j) p2 = 0 ∧ X9 = X))) 4 24 (xA g sz) := by
  refine va_MetW (cc := cL_exchange) (maxL := 5) (ret := some .int) (hh := [(0, 7, 8, 15)]) (by decide) rfl ?_
  intro p e s m args below meth c s₁ B hml hv
  obtain ⟨rfl, hsz, hW, hK, hE⟩ := hv
  subst hsz
  have hx := B.exec
  have hb := B.bytes
  have hr := B.returns
  have hts := atoms_spec (ws := wsL_exchange) B.pre
  have hown : s.vm.findClass RL = some m.cls := findClass_of_methodNamed B.named
  have hlocks := B.notSynchronized
  have htab := vx_table (x := yL_exchange) B (hts (.codeWith yL_exchange cL_exchange 5 (some .int) [(0, 7, 8, 15)]) (List.mem_of_getElem? (i := 0) rfl))
  have hl := lv_entry ([.ref d, .int (nI k), .int (nI j), .int p2] : List Value) (n := 5) (Nat.le_of_ble_eq_true rfl)
  rw [lg_entry_eq]
  generalize (lg_sl ([.ref d, .int (nI k), .int (nI j), .int p2] : List Value) ++ List.replicate (5 - (lg_sl ([.ref d, .int (nI k), .int (nI j), .int p2] : List Value)).length) Slot.unset).toArray = ls at hl ⊢
  have hl : lv_has ls 5 [(0, .ref d), (1, .int (nI k)), (2, .int (nI j)), (3, .int p2)] := hl
  have hS : va_S (xA g s.heap.size) s.heap s.heap [] := va_S.rf
  have hn30 := hC.1
  refine lv_aload_n hx hb dL_exchange_0 rfl (lv_at hl 0 rfl) ?_
  refine lv_iload_n hx hb dL_exchange_1 rfl (lv_at hl 1 rfl) ?_
  refine lv_iload_n hx hb dL_exchange_2 rfl (lv_at hl 2 rfl) ?_
  refine lv_iload_n hx hb dL_exchange_3 rfl (lv_at hl 3 rfl) ?_
  refine x_cWI (vx_runV (As := [.int (nI k), .int (nI j), .int p2]) (rest := []) (b := d) ⟨hx, hb, hml, hown, hts⟩ (kX2_exchange l hlt g X hz _ hI hO d bk hd hbk n kc hC (nI k) (nI j) p2) (cwV 3 hts gL_exchange_X2_exchange rfl rfl rfl (by decide +kernel) ⟨Nat.le_of_ble_eq_true rfl, Nat.le_of_ble_eq_true rfl⟩) (x_preV hW hK hE (x_recvD hK hW hd)) rfl rfl hl.1 rfl (lv_room (Nat.le_of_ble_eq_true rfl)) dL_exchange_4 ⟨Nat.le_of_ble_eq_true rfl, Nat.le_of_ble_eq_true rfl⟩) hS (Nat.le_refl _) (fun E ce q9 H1 locs1 hc hz1 hk1 hS1 hL1 hce hcv hcl => ?_) (fun r X9 H2 locs2 hp hW2 hz2 hk2 hS2 => ?_)
  · have hEe : E = ISE ∧ _ := (show E = ISE ∧ retX X k (8 * k + j) p2 = 0 from by
      rcases hc with h | h | ⟨-, k9, j9, -, h⟩ | ⟨h, k9, j9, hL, -, h3⟩
      · exact absurd h (y_noO hn30 hk)
      · exact absurd h (y_noL hn30 hk (hC.2.2.2 k hk).1 hj)
      · exact absurd h2 h
      · obtain ⟨rfl, rfl⟩ := y_isL hC hk hj hL
        exact ⟨h, h3⟩)
    obtain ⟨rfl, hbad⟩ := hEe
    exact vx_catch (own := RL) (name := ISE) hown [] ⟨0, 7, 8, 15⟩ [] htab (fun _ h => nomatch h) rfl (by decide) (hts (.classLink RL 15 "java/lang/IllegalStateException") (List.mem_of_getElem? (i := 1) rfl)) (cast_of hE (List.mem_of_getElem? (i := 0) rfl)) hce hcv hcl
      (lv_astore (lv' := (4, .ref q9) :: [(0, .ref d), (1, .int (nI k)), (2, .int (nI j)), (3, .int p2)]) hx hb dL_exchange_8 hl (by decide) rfl (fun ls hl => lv_bipush (v := -3) hx hb dL_exchange_10 (by decide) (xw_retM hx hb hr hlocks ⟨Nat.le_of_ble_eq_true rfl, Nat.le_of_ble_eq_true rfl⟩ (hW.more hk1) hS1 (Or.inr ⟨rfl, hbad, rfl⟩) dL_exchange_12)))
  · have hp : ¬ retX X k (8 * k + j) p2 = 0 ∧ r = X 1 0 + 21 ∧ X9 = swX X (8 * k + j) p2 2 := by
      obtain ⟨k9, j9, hL, -, a1, a2, a3⟩ := hp
      obtain ⟨rfl, rfl⟩ := y_isL hC hk hj hL
      exact ⟨a1, a2, a3⟩
    exact xw_retM hx hb hr hlocks ⟨Nat.le_of_ble_eq_true rfl, Nat.le_of_ble_eq_true rfl⟩ hW2 hS2 (Or.inl hp) dL_exchange_7
set_option maxHeartbeats 4000000 in
set_option maxRecDepth 100000 in
theorem kL_grade (l : Launch) (hlt : l.stackTraces = false) {D : va_G} {cI cO cL cJ : ClassId} (g : XG) (X : MS) (hz sz : Nat) (hI : xI g) (hO : xO g hz sz) (d bk : Nat) (hd : g 3 0 = some d) (hbk : g 4 0 = some bk) (n : Nat) (kc : Nat → Nat) (hC : xC g X n kc) (k j : Nat) (hk : k < n) (hj : j < kc k) (p2 : Int32) (h2 : inR p2 0 3) : Met l yL_grade wsL_grade ({ frames := 8, cells := 4, slots := 24, locals := 129 } : Room) (xP D cI cO cL cJ g X hz sz [.ref d, .int (nI k), .int (nI j), .int p2]) (xQi D cO cL g sz (fun (r : Int32) (X9 : MS) => (¬ wtX X (8 * k + j) = 0 ∧ (r, X9) = gradeX X k (kc k) (8 * k + j) p2) ∨ (r = -3 ∧ wtX X (8 * k + j) = 0 ∧ X9 = X))) 4 24 (xA g sz) := by
  refine va_MetW (cc := cL_grade) (maxL := 5) (ret := some .int) (hh := [(0, 7, 8, 15)]) (by decide) rfl ?_
  intro p e s m args below meth c s₁ B hml hv
  obtain ⟨rfl, hsz, hW, hK, hE⟩ := hv
  subst hsz
  have hx := B.exec
  have hb := B.bytes
  have hr := B.returns
  have hts := atoms_spec (ws := wsL_grade) B.pre
  have hown : s.vm.findClass RL = some m.cls := findClass_of_methodNamed B.named
  have hlocks := B.notSynchronized
  have htab := vx_table (x := yL_grade) B (hts (.codeWith yL_grade cL_grade 5 (some .int) [(0, 7, 8, 15)]) (List.mem_of_getElem? (i := 0) rfl))
  have hl := lv_entry ([.ref d, .int (nI k), .int (nI j), .int p2] : List Value) (n := 5) (Nat.le_of_ble_eq_true rfl)
  rw [lg_entry_eq]
  generalize (lg_sl ([.ref d, .int (nI k), .int (nI j), .int p2] : List Value) ++ List.replicate (5 - (lg_sl ([.ref d, .int (nI k), .int (nI j), .int p2] : List Value)).length) Slot.unset).toArray = ls at hl ⊢
  have hl : lv_has ls 5 [(0, .ref d), (1, .int (nI k)), (2, .int (nI j)), (3, .int p2)] := hl
  have hS : va_S (xA g s.heap.size) s.heap s.heap [] := va_S.rf
  have hn30 := hC.1
  refine lv_aload_n hx hb dL_grade_0 rfl (lv_at hl 0 rfl) ?_
  refine lv_iload_n hx hb dL_grade_1 rfl (lv_at hl 1 rfl) ?_
  refine lv_iload_n hx hb dL_grade_2 rfl (lv_at hl 2 rfl) ?_
  refine lv_iload_n hx hb dL_grade_3 rfl (lv_at hl 3 rfl) ?_
  refine x_cWI (vx_runV (As := [.int (nI k), .int (nI j), .int p2]) (rest := []) (b := d) ⟨hx, hb, hml, hown, hts⟩ (kX2_grade l hlt g X hz _ hI hO d bk hd hbk n kc hC (nI k) (nI j) p2) (cwV 3 hts gL_grade_X2_grade rfl rfl rfl (by decide +kernel) ⟨Nat.le_of_ble_eq_true rfl, Nat.le_of_ble_eq_true rfl⟩) (x_preV hW hK hE (x_recvD hK hW hd)) rfl rfl hl.1 rfl (lv_room (Nat.le_of_ble_eq_true rfl)) dL_grade_4 ⟨Nat.le_of_ble_eq_true rfl, Nat.le_of_ble_eq_true rfl⟩) hS (Nat.le_refl _) (fun E ce q9 H1 locs1 hc hz1 hk1 hS1 hL1 hce hcv hcl => ?_) (fun r X9 H2 locs2 hp hW2 hz2 hk2 hS2 => ?_)
  · have hEe : E = ISE ∧ _ := (show E = ISE ∧ wtX X (8 * k + j) = 0 from by
      rcases hc with h | h | ⟨-, k9, j9, -, h⟩ | ⟨h, k9, j9, hL, -, h3⟩
      · exact absurd h (y_noO hn30 hk)
      · exact absurd h (y_noL hn30 hk (hC.2.2.2 k hk).1 hj)
      · exact absurd h2 h
      · obtain ⟨rfl, rfl⟩ := y_isL hC hk hj hL
        exact ⟨h, h3⟩)
    obtain ⟨rfl, hbad⟩ := hEe
    exact vx_catch (own := RL) (name := ISE) hown [] ⟨0, 7, 8, 15⟩ [] htab (fun _ h => nomatch h) rfl (by decide) (hts (.classLink RL 15 "java/lang/IllegalStateException") (List.mem_of_getElem? (i := 1) rfl)) (cast_of hE (List.mem_of_getElem? (i := 0) rfl)) hce hcv hcl
      (lv_astore (lv' := (4, .ref q9) :: [(0, .ref d), (1, .int (nI k)), (2, .int (nI j)), (3, .int p2)]) hx hb dL_grade_8 hl (by decide) rfl (fun ls hl => lv_bipush (v := -3) hx hb dL_grade_10 (by decide) (xw_retM hx hb hr hlocks ⟨Nat.le_of_ble_eq_true rfl, Nat.le_of_ble_eq_true rfl⟩ (hW.more hk1) hS1 (Or.inr ⟨rfl, hbad, rfl⟩) dL_grade_12)))
  · have hp : ¬ wtX X (8 * k + j) = 0 ∧ (r, X9) = gradeX X k (kc k) (8 * k + j) p2 := by
      obtain ⟨k9, j9, hL, -, a1, a2⟩ := hp
      obtain ⟨rfl, rfl⟩ := y_isL hC hk hj hL
      exact ⟨a1, a2⟩
    exact xw_retM hx hb hr hlocks ⟨Nat.le_of_ble_eq_true rfl, Nat.le_of_ble_eq_true rfl⟩ hW2 hS2 (Or.inl hp) dL_grade_7
end
section
/-! WHAT A GRADE DOES, without bounds. -/
theorem maxI_ge (x : Int32) : ¬ maxI x 0 < 0 := by
  unfold maxI
  by_cases h : x < 0
  · rw [if_pos h]; decide
  · rw [if_neg h]; exact h
theorem sumX_congr {X Y : MS} {k : Nat} : ∀ kk, (∀ j, j < kk → Y 18 (8 * k + j) = X 18 (8 * k + j) ∧ Y 16 (8 * k + j) = X 16 (8 * k + j)) → sumX Y k kk = sumX X k kk := by
  intro kk
  induction kk with
  | zero => intro _; rfl
  | succ j ih =>
    intro h
    show (if Y 18 (8 * k + j) = 3 then sumX Y k j else sumX Y k j + Y 16 (8 * k + j)) = (if X 18 (8 * k + j) = 3 then sumX X k j else sumX X k j + X 16 (8 * k + j))
    rw [ih (fun i hi => h i (by omega)), (h j (by omega)).1, (h j (by omega)).2]
theorem priceX_congr {X Y : MS} {k kk : Nat} (h5 : Y 5 k = X 5 k) (h6 : Y 6 k = X 6 k) (h : ∀ j, j < kk → Y 18 (8 * k + j) = X 18 (8 * k + j) ∧ Y 16 (8 * k + j) = X 16 (8 * k + j)) : priceX Y k kk = priceX X k kk := by
  unfold priceX
  rw [sumX_congr kk h, h5, h6]
section PutX
variable {ao : Nat}
theorem putX_hi (X : MS) (a b : Int32) {f : Nat} (i : Nat) (hf : 5 ≤ f) : putX X a b f i = X f i := by
  unfold putX
  have h2 : f ≠ 2 := by omega
  have h3 : f ≠ 3 := by omega
  have h4 : f ≠ 4 := by omega
  split
  · exact mu_f _ _ _ _ h2
  · split
    · split
      · exact mu_f _ _ _ _ h3
      · split
        · rfl
        · exact mu_f _ _ _ _ h4
    · split
      · rfl
      · exact mu_f _ _ _ _ h4
theorem putX_01 (X : MS) (a b : Int32) : putX X a b 0 0 = X 0 0 ∧ putX X a b 1 0 = X 1 0 := by
  unfold putX
  split
  · exact ⟨rfl, rfl⟩
  · split
    · split
      · exact ⟨rfl, rfl⟩
      · split
        · exact ⟨rfl, rfl⟩
        · exact ⟨rfl, rfl⟩
    · split
      · exact ⟨rfl, rfl⟩
      · exact ⟨rfl, rfl⟩
theorem putX_st (X : MS) (a b : Int32) : putX X a b 2 0 + putX X a b 3 0 + putX X a b 4 0 = X 2 0 + X 3 0 + X 4 0 + (if b = 3 then 0 else 1) := by
  unfold putX
  by_cases h0 : b = 0
  · subst h0
    rw [if_pos rfl, if_neg (by decide)]
    show X 2 0 + 1 + X 3 0 + X 4 0 = _
    grind
  · rw [if_neg h0]
    by_cases h1 : b = 1
    · subst h1
      have h13 : ¬ (1 : Int32) = 3 := by decide
      rw [if_pos rfl]
      by_cases ha : a = 0
      · rw [if_pos ha, if_neg h13]
        show X 2 0 + (X 3 0 + 1) + X 4 0 = _
        grind
      · rw [if_neg ha, if_neg h13, if_neg h13]
        show X 2 0 + X 3 0 + (X 4 0 + 1) = _
        grind
    · rw [if_neg h1]
      by_cases h3 : b = 3
      · rw [if_pos h3, if_pos h3]
        grind
      · rw [if_neg h3, if_neg h3]
        show X 2 0 + X 3 0 + (X 4 0 + 1) = _
        grind
end PutX
theorem refundX_o (Z : MS) (k kk : Nat) {f : Nat} (i : Nat) (h : f ≠ 12 ∧ f ≠ 13 ∧ f ≠ 14 ∧ f ≠ 15) : (refundX Z k kk).2 f i = Z f i := by
  unfold refundX
  dsimp only
  rw [mu_f _ _ _ _ h.1, mu_f _ _ _ _ h.2.2.2, mu_f _ _ _ _ h.2.2.1, mu_f _ _ _ _ h.2.1]
theorem refundX_t (Z : MS) (k kk : Nat) : takenX (refundX Z k kk).2 k = takenX Z k - (refundX Z k kk).1 := by
  unfold takenX refundX
  simp only [mu_e]
  simp
  grind
theorem refundX_p (Z : MS) (k kk : Nat) : owedX (refundX Z k kk).2 k kk = owedX Z k kk := by
  unfold owedX
  rw [refundX_o Z k kk k (f := 10) (by decide), refundX_o Z k kk k (f := 11) (by decide), priceX_congr (refundX_o Z k kk k (f := 5) (by decide)) (refundX_o Z k kk k (f := 6) (by decide)) (fun j _ => ⟨refundX_o Z k kk _ (f := 18) (by decide), refundX_o Z k kk _ (f := 16) (by decide)⟩)]
theorem refundX_s (Z : MS) (k kk : Nat) : (refundX Z k kk).1 = 0 ∨ shX (refundX Z k kk).2 k kk = 0 := by
  by_cases h : takenX Z k - owedX Z k kk < 0
  · refine Or.inl ?_
    show maxI (takenX Z k - owedX Z k kk) 0 = 0
    unfold maxI
    rw [if_pos h]
  · refine Or.inr ?_
    have e : (refundX Z k kk).1 = takenX Z k - owedX Z k kk := by
      show maxI (takenX Z k - owedX Z k kk) 0 = _
      unfold maxI
      rw [if_neg h]
    unfold shX
    rw [refundX_p, refundX_t, e]
    have e2 : owedX Z k kk - (takenX Z k - (takenX Z k - owedX Z k kk)) = 0 := by grind
    rw [e2]
    split
    · rfl
    · decide
/-- the state from which a grade refunds -/
def gMidX (X : MS) (k j : Nat) (w : Int32) : MS := mu (putX (mu X 10 k (X 10 k + feeX X j w)) (X 19 j) w) 18 j (if X 18 j = 1 then 3 else 0)
theorem gradeX_mid (X : MS) (k kk j : Nat) (w : Int32) : gradeX X k kk j w = refundX (gMidX X k j w) k kk := by
  unfold gradeX gMidX
  rw [putX_hi _ _ _ _ (by decide)]
  rfl
theorem gMidX_hi (X : MS) (k j : Nat) (w : Int32) {f : Nat} (i : Nat) (h : 5 ≤ f) (h10 : f ≠ 10) (h18 : f ≠ 18) : gMidX X k j w f i = X f i := by
  unfold gMidX
  rw [mu_f _ _ _ _ h18, putX_hi _ _ _ _ h, mu_f _ _ _ _ h10]
theorem gMidX_01 (X : MS) (k j : Nat) (w : Int32) : gMidX X k j w 0 0 = X 0 0 ∧ gMidX X k j w 1 0 = X 1 0 := by
  have h := putX_01 (mu X 10 k (X 10 k + feeX X j w)) (X 19 j) w
  exact ⟨h.1, h.2⟩
theorem gr_facts (X : MS) (k kk j : Nat) (w : Int32) : ¬ (gradeX X k kk j w).1 < 0 ∧ takenX (gradeX X k kk j w).2 k = takenX X k - (gradeX X k kk j w).1 ∧ (gradeX X k kk j w).2 12 k = X 12 k + (gradeX X k kk j w).1 ∧ (gradeX X k kk j w).2 18 j = (if X 18 j = 1 then 3 else 0) ∧ (gradeX X k kk j w).2 2 0 + (gradeX X k kk j w).2 3 0 + (gradeX X k kk j w).2 4 0 = X 2 0 + X 3 0 + X 4 0 + (if w = 3 then 0 else 1) ∧ ((gradeX X k kk j w).1 = 0 ∨ shX (gradeX X k kk j w).2 k kk = 0) ∧ (gradeX X k kk j w).2 1 0 = X 1 0 ∧ (gradeX X k kk j w).2 0 0 = X 0 0 := by
  rw [gradeX_mid]
  refine ⟨maxI_ge _, ?_, ?_, ?_, ?_, refundX_s _ _ _, ?_, ?_⟩
  · rw [refundX_t]
    have e : takenX (gMidX X k j w) k = takenX X k := by
      unfold takenX
      rw [gMidX_hi _ _ _ _ _ (by decide) (by decide) (by decide), gMidX_hi _ _ _ _ _ (by decide) (by decide) (by decide), gMidX_hi _ _ _ _ _ (by decide) (by decide) (by decide)]
    rw [e]
  · show (mu _ 12 k _) 12 k = _
    rw [mu_s, gMidX_hi _ _ _ _ _ (by decide) (by decide) (by decide)]
    rfl
  · rw [refundX_o _ _ _ _ (by decide)]
    exact mu_s _ _ _ _
  · rw [refundX_o _ _ _ _ (by decide), refundX_o _ _ _ _ (by decide), refundX_o _ _ _ _ (by decide)]
    exact putX_st (mu X 10 k (X 10 k + feeX X j w)) (X 19 j) w
  · rw [refundX_o _ _ _ _ (by decide)]
    exact (gMidX_01 X k j w).2
  · rw [refundX_o _ _ _ _ (by decide)]
    exact (gMidX_01 X k j w).1
theorem xC.same {g : XG} {X X' : MS} {n : Nat} {kc : Nat → Nat} (hC : xC g X n kc) (h0 : X' 0 0 = X 0 0) (h7 : ∀ i, X' 7 i = X 7 i) : xC g X' n kc :=
  ⟨hC.1, h0.trans hC.2.1, hC.2.2.1, fun k hk => let z := hC.2.2.2 k hk; ⟨z.1, (h7 k).trans z.2.1, z.2.2⟩⟩
theorem gr_C {g : XG} {X : MS} {n : Nat} {kc : Nat → Nat} (hC : xC g X n kc) (k kk j : Nat) (w : Int32) : xC g (gradeX X k kk j w).2 n kc :=
  hC.same (gr_facts X k kk j w).2.2.2.2.2.2.2 (fun i => by rw [gradeX_mid, refundX_o _ _ _ _ (by decide), gMidX_hi _ _ _ _ _ (by decide) (by decide) (by decide)])
theorem wtX_sw (X : MS) (j : Nat) (q z : Int32) (hz : z = 1 ∨ z = 2) : ¬ wtX (swX X j q z) j = 0 := by
  have e : (swX X j q z) 18 j = z := by
    unfold swX
    rw [mu_f _ _ _ _ (by decide), mu_f _ _ _ _ (by decide), mu_s]
  unfold wtX
  rw [e]
  rcases hz with rfl | rfl <;> decide
end
section
/-! ROWS: the law's calls of its own methods. -/
section ZRows
variable {p : Program} {l : Launch} {e : Env} {R : Room} {s : State} {m : MethodId} {args : Array Value} {below : List Frame} {meth : Method} {c : Code} {H : Heap} {locs : List Loc} {cells slots : Nat} {Q : State → Prop}
variable {cc : ByteArray} {pc nL ix : Nat} {ls : Array Slot} {rest : List Value} {D : va_G} {cI cO cL cJ : ClassId} {H0 : Heap} {A : Nat → Prop} {g : XG} {X : MS} {hz sz mc ms n : Nat} {kc : Nat → Nat} {d bk : Nat} {cond : String → Prop} {Ts : List Cond} {own : String}
theorem z_low (S : CallFix p m c cc nL s args Ts RL) (hT : GoodIn Ts (va_wsS RL ix yL_low wsL_low)) {v : Int32} {N : Nat} (h0 : 0 < N) (hN : N < 2 ^ 31) (hls : ls.size = nL) (hrest : (rest.map fun v => v.category).sum ≤ 8) (hdg : decode cc pc = .ok (.invokestatic ix, 3)) (hR : 1 ≤ R.frames ∧ 21 ≤ R.locals) (hcs : cells ≤ R.cells ∧ slots ≤ R.slots)
    (kk : ∀ q : Nat, q < N → W p l e R s m args below meth c H locs cells slots Q (F0 m (pc + 3) ls (.int (nI q) :: rest))) : W p l e R s m args below meth c H locs cells slots Q (F0 m pc ls (.int (nI N) :: .int v :: rest)) := by
  refine s_call0 (av := [.int v, .int (nI N)]) (bytes := cL_low) (maxL := 2) (ret := some .int) 2 S.1 S.2.1 S.2.2.2.2 S.2.2.2.1 S.2.2.1 (kL_low l v h0 hN) rfl hT rfl rfl rfl (by decide +kernel) hR hls rfl hrest hdg hcs (fun r hr => ?_)
  obtain ⟨q, hq, rfl⟩ := hr
  exact kk q hq
theorem z_cell (S : CallFix p m c cc nL s args Ts RL) (hT : GoodIn Ts (va_wsS RL ix yL_cell wsL_cell)) {b L : Nat} {xs : Nat → Int32} (hL : L ≤ 260) (hX : va_X b L xs s H) {k : Nat} (hk : k < 2 ^ 31) (hls : ls.size = nL) (hrest : (rest.map fun v => v.category).sum ≤ 8) (hdg : decode cc pc = .ok (.invokestatic ix, 3)) (hR : 1 ≤ R.frames ∧ 21 ≤ R.locals) (hcs : cells ≤ R.cells ∧ slots ≤ R.slots)
    (kk : ∀ r : Int32, W p l e R s m args below meth c H locs cells slots Q (F0 m (pc + 3) ls (.int r :: rest))) : W p l e R s m args below meth c H locs cells slots Q (F0 m pc ls (.int (nI k) :: .ref b :: rest)) := by
  refine vp_callSi (va_runS (As := [.ref b, .int (nI k)]) (rest := rest) S (kL_cell l b L xs hL hk) (va_cwS 2 S.2.2.2.2 hT rfl rfl rfl (by decide +kernel) hR) ⟨scP.blind, fun U hU hWm => ⟨rfl, va_X.moved hWm.alike (by rw [hU]; exact hX)⟩⟩ rfl rfl hls rfl (lv_room hrest) hdg hcs).run (fun r _ => kk r)
theorem z_all (hlt : l.stackTraces = false) (S : CallFix p m c cc nL s args Ts RL) (hT : GoodIn Ts (va_wsS RL ix yL_all wsL_all)) (hW : xW D cO cL g X H) (hK : KK D cI cO cL cJ s) (hE : xE hz s H) (hd : g 3 0 = some d) (hbk : g 4 0 = some bk) (hC : xC g X n kc) {k : Nat} (hk : k < n) (hls : ls.size = nL) (hrest : (rest.map fun v => v.category).sum ≤ 8) (hdg : decode cc pc = .ok (.invokestatic ix, 3)) (hR : 9 ≤ R.frames ∧ 148 ≤ R.locals) (hcs : cells + 6 ≤ R.cells ∧ slots + 36 ≤ R.slots)
    (kk : W p l e R s m args below meth c H locs (cells + 6) (slots + 36) Q (F0 m (pc + 3) ls (.int (takenX X k) :: rest))) : W p l e R s m args below meth c H locs cells slots Q (F0 m pc ls (.int (nI k) :: .ref d :: rest)) := by
  refine y_sI (va_runS (As := [.ref d, .int (nI k)]) (rest := rest) S (kL_all l hlt g X hz _ d bk hd hbk n kc hC k hk) (va_cwS 2 S.2.2.2.2 hT rfl rfl rfl (by decide +kernel) hR) (x_preS hW hK hE) rfl rfl hls rfl (lv_room hrest) hdg hcs) (fun r hr => ?_)
  subst hr
  exact kk
theorem z_order (hlt : l.stackTraces = false) (S : CallFix p m c cc nL s args Ts RL) (hT : GoodIn Ts (va_wsS RL ix yL_order wsL_order)) (hW : xW D cO cL g X H) (hK : KK D cI cO cL cJ s) (hE : xE hz s H) (hd : g 3 0 = some d) (hbk : g 4 0 = some bk) (hI : xI g) (hO : xO g hz H.size) (hS : va_S A H0 H locs) (hA : ∀ q, xA g H.size q → A q) (hC : xC g X n kc) (hZ : xZ g n) {p0 p1 : Int32} (h0 : inR p0 0 90) (h1 : inR p1 0 1000000) (hls : ls.size = nL) (hrest : (rest.map fun v => v.category).sum ≤ 8) (hdg : decode cc pc = .ok (.invokestatic ix, 3)) (hR : 9 ≤ R.frames ∧ 149 ≤ R.locals) (hcs : cells + 4 ≤ R.cells ∧ slots + 32 ≤ R.slots)
    (kk : ∀ (r : Int32) (u : XG × MS) (H1 : Heap) (locs1 : List Loc), ((∃ q la, H.size ≤ q ∧ H.size ≤ la ∧ q ≠ la ∧ u.1 = gOrd g n q la ∧ u.2 = mu (xNewO X n p0 p1) 0 0 (nI (n + 1)) ∧ r = nI n ∧ n < 30) ∨ (r = -3 ∧ ¬ n < 30 ∧ u = (g, X))) → xW D cO cL u.1 u.2 H1 → H.size ≤ H1.size → (∀ q : Nat, q < H.size → ¬ xA g H.size q → H1[q]? = H[q]?) → va_S A H0 H1 locs1 → W p l e R s m args below meth c H1 locs1 (cells + 4) (slots + 32) Q (F0 m (pc + 3) ls (.int r :: rest))) : W p l e R s m args below meth c H locs cells slots Q (F0 m pc ls (.int p1 :: .int p0 :: .ref d :: rest)) :=
  y_sGI (vx_runSW (As := [.ref d, .int p0, .int p1]) (rest := rest) S (kL_order l hlt g X hz _ hI hO d bk hd hbk n kc hC hZ p0 p1 h0 h1) (vx_cwSW 3 S.2.2.2.2 hT rfl rfl rfl (by decide +kernel) hR) (x_preS hW hK hE) rfl rfl hls rfl (lv_room hrest) hdg hcs) hS hA kk
theorem z_add (hlt : l.stackTraces = false) (S : CallFix p m c cc nL s args Ts RL) (hT : GoodIn Ts (va_wsS RL ix yL_add wsL_add)) (hW : xW D cO cL g X H) (hK : KK D cI cO cL cJ s) (hE : xE hz s H) (hd : g 3 0 = some d) (hbk : g 4 0 = some bk) (hI : xI g) (hO : xO g hz H.size) (hS : va_S A H0 H locs) (hA : ∀ q, xA g H.size q → A q) (hC : xC g X n kc) (hZ : xZ g n) {k : Nat} (hk : k < n) (hop : X 8 k = 0) {p1 p2 : Int32} (h1 : inR p1 1 100000) (h2 : inR p2 0 2) (hls : ls.size = nL) (hrest : (rest.map fun v => v.category).sum ≤ 8) (hdg : decode cc pc = .ok (.invokestatic ix, 3)) (hR : 9 ≤ R.frames ∧ 152 ≤ R.locals) (hcs : cells + 4 ≤ R.cells ∧ slots + 24 ≤ R.slots)
    (kk : ∀ (r : Int32) (u : XG × MS) (H1 : Heap) (locs1 : List Loc), ((∃ al, kc k < 8 ∧ H.size ≤ al ∧ u.1 = gMov (gLine g 300 al) (8 * k + kc k) al ∧ u.2 = mu (xMov (xNewL X 300 p1 p2) (8 * k + kc k)) 7 k (nI (kc k + 1)) ∧ r = nI (kc k)) ∨ (r = -3 ∧ ¬ kc k < 8 ∧ u = (g, X))) → xW D cO cL u.1 u.2 H1 → H.size ≤ H1.size → (∀ q : Nat, q < H.size → ¬ xA g H.size q → H1[q]? = H[q]?) → va_S A H0 H1 locs1 → W p l e R s m args below meth c H1 locs1 (cells + 4) (slots + 24) Q (F0 m (pc + 3) ls (.int r :: rest))) : W p l e R s m args below meth c H locs cells slots Q (F0 m pc ls (.int p2 :: .int p1 :: .int (nI k) :: .ref d :: rest)) :=
  y_sGI (vx_runSW (As := [.ref d, .int (nI k), .int p1, .int p2]) (rest := rest) S (kL_add l hlt g X hz _ hI hO d bk hd hbk n kc hC hZ k hk hop p1 p2 h1 h2) (vx_cwSW 4 S.2.2.2.2 hT rfl rfl rfl (by decide +kernel) hR) (x_preS hW hK hE) rfl rfl hls rfl (lv_room hrest) hdg hcs) hS hA kk
theorem z_pay (hlt : l.stackTraces = false) (S : CallFix p m c cc nL s args Ts RL) (hT : GoodIn Ts (va_wsS RL ix yL_pay wsL_pay)) (hW : xW D cO cL g X H) (hK : KK D cI cO cL cJ s) (hE : xE hz s H) (hd : g 3 0 = some d) (hbk : g 4 0 = some bk) (hI : xI g) (hO : xO g hz H.size) (hS : va_S A H0 H locs) (hA : ∀ q, xA g H.size q → A q) (hC : xC g X n kc) {k : Nat} (hk : k < n) (hop : X 8 k = 0) {p1 p2 : Int32} (h1 : inR p1 0 1000000) (h2 : inR p2 0 1000000) (hls : ls.size = nL) (hrest : (rest.map fun v => v.category).sum ≤ 8) (hdg : decode cc pc = .ok (.invokestatic ix, 3)) (hR : 9 ≤ R.frames ∧ 152 ≤ R.locals) (hcs : cells + 4 ≤ R.cells ∧ slots + 24 ≤ R.slots)
    (kk : ∀ (r : Int32) (X9 : MS) (H1 : Heap) (locs1 : List Loc), ((¬ X 7 k = 0 ∧ X9 = settleX X k (kc k) p1 p2 (X 1 0) ∧ r = X9 13 k) ∨ (r = -3 ∧ X 7 k = 0 ∧ X9 = X)) → xW D cO cL g X9 H1 → H.size ≤ H1.size → (∀ q : Nat, q < H.size → ¬ xA g H.size q → H1[q]? = H[q]?) → va_S A H0 H1 locs1 → W p l e R s m args below meth c H1 locs1 (cells + 4) (slots + 24) Q (F0 m (pc + 3) ls (.int r :: rest))) : W p l e R s m args below meth c H locs cells slots Q (F0 m pc ls (.int p2 :: .int p1 :: .int (nI k) :: .ref d :: rest)) :=
  y_sWI (vx_runSW (As := [.ref d, .int (nI k), .int p1, .int p2]) (rest := rest) S (kL_pay l hlt g X hz _ hI hO d bk hd hbk n kc hC k hk hop p1 p2 h1 h2) (vx_cwSW 4 S.2.2.2.2 hT rfl rfl rfl (by decide +kernel) hR) (x_preS hW hK hE) rfl rfl hls rfl (lv_room hrest) hdg hcs) hS hA kk
theorem z_ask (hlt : l.stackTraces = false) (S : CallFix p m c cc nL s args Ts RL) (hT : GoodIn Ts (va_wsS RL ix yL_ask wsL_ask)) (hW : xW D cO cL g X H) (hK : KK D cI cO cL cJ s) (hE : xE hz s H) (hd : g 3 0 = some d) (hbk : g 4 0 = some bk) (hI : xI g) (hO : xO g hz H.size) (hS : va_S A H0 H locs) (hA : ∀ q, xA g H.size q → A q) (hC : xC g X n kc) {k j : Nat} (hk : k < n) (hj : j < kc k) {p2 : Int32} (h2 : inR p2 0 1) (hls : ls.size = nL) (hrest : (rest.map fun v => v.category).sum ≤ 8) (hdg : decode cc pc = .ok (.invokestatic ix, 3)) (hR : 10 ≤ R.frames ∧ 177 ≤ R.locals) (hcs : cells + 4 ≤ R.cells ∧ slots + 24 ≤ R.slots)
    (kk : ∀ (r : Int32) (X9 : MS) (H1 : Heap) (locs1 : List Loc), ((¬ retX X k (8 * k + j) p2 = 0 ∧ r = X 1 0 + 21 ∧ X9 = swX X (8 * k + j) p2 1) ∨ (r = -3 ∧ retX X k (8 * k + j) p2 = 0 ∧ X9 = X)) → xW D cO cL g X9 H1 → H.size ≤ H1.size → (∀ q : Nat, q < H.size → ¬ xA g H.size q → H1[q]? = H[q]?) → va_S A H0 H1 locs1 → W p l e R s m args below meth c H1 locs1 (cells + 4) (slots + 24) Q (F0 m (pc + 3) ls (.int r :: rest))) : W p l e R s m args below meth c H locs cells slots Q (F0 m pc ls (.int p2 :: .int (nI j) :: .int (nI k) :: .ref d :: rest)) :=
  y_sWI (vx_runSW (As := [.ref d, .int (nI k), .int (nI j), .int p2]) (rest := rest) S (kL_ask l hlt g X hz _ hI hO d bk hd hbk n kc hC k j hk hj p2 h2) (vx_cwSW 4 S.2.2.2.2 hT rfl rfl rfl (by decide +kernel) hR) (x_preS hW hK hE) rfl rfl hls rfl (lv_room hrest) hdg hcs) hS hA kk
theorem z_exchange (hlt : l.stackTraces = false) (S : CallFix p m c cc nL s args Ts RL) (hT : GoodIn Ts (va_wsS RL ix yL_exchange wsL_exchange)) (hW : xW D cO cL g X H) (hK : KK D cI cO cL cJ s) (hE : xE hz s H) (hd : g 3 0 = some d) (hbk : g 4 0 = some bk) (hI : xI g) (hO : xO g hz H.size) (hS : va_S A H0 H locs) (hA : ∀ q, xA g H.size q → A q) (hC : xC g X n kc) {k j : Nat} (hk : k < n) (hj : j < kc k) {p2 : Int32} (h2 : inR p2 0 1) (hls : ls.size = nL) (hrest : (rest.map fun v => v.category).sum ≤ 8) (hdg : decode cc pc = .ok (.invokestatic ix, 3)) (hR : 10 ≤ R.frames ∧ 177 ≤ R.locals) (hcs : cells + 4 ≤ R.cells ∧ slots + 24 ≤ R.slots)
    (kk : ∀ (r : Int32) (X9 : MS) (H1 : Heap) (locs1 : List Loc), ((¬ retX X k (8 * k + j) p2 = 0 ∧ r = X 1 0 + 21 ∧ X9 = swX X (8 * k + j) p2 2) ∨ (r = -3 ∧ retX X k (8 * k + j) p2 = 0 ∧ X9 = X)) → xW D cO cL g X9 H1 → H.size ≤ H1.size → (∀ q : Nat, q < H.size → ¬ xA g H.size q → H1[q]? = H[q]?) → va_S A H0 H1 locs1 → W p l e R s m args below meth c H1 locs1 (cells + 4) (slots + 24) Q (F0 m (pc + 3) ls (.int r :: rest))) : W p l e R s m args below meth c H locs cells slots Q (F0 m pc ls (.int p2 :: .int (nI j) :: .int (nI k) :: .ref d :: rest)) :=
  y_sWI (vx_runSW (As := [.ref d, .int (nI k), .int (nI j), .int p2]) (rest := rest) S (kL_exchange l hlt g X hz _ hI hO d bk hd hbk n kc hC k j hk hj p2 h2) (vx_cwSW 4 S.2.2.2.2 hT rfl rfl rfl (by decide +kernel) hR) (x_preS hW hK hE) rfl rfl hls rfl (lv_room hrest) hdg hcs) hS hA kk
theorem z_wgrade (hlt : l.stackTraces = false) (S : CallFix p m c cc nL s args Ts RL) (hT : GoodIn Ts (va_wsS RL ix yL_grade wsL_grade)) (hW : xW D cO cL g X H) (hK : KK D cI cO cL cJ s) (hE : xE hz s H) (hd : g 3 0 = some d) (hbk : g 4 0 = some bk) (hI : xI g) (hO : xO g hz H.size) (hS : va_S A H0 H locs) (hA : ∀ q, xA g H.size q → A q) (hC : xC g X n kc) {k j : Nat} (hk : k < n) (hj : j < kc k) {p2 : Int32} (h2 : inR p2 0 3) (hls : ls.size = nL) (hrest : (rest.map fun v => v.category).sum ≤ 8) (hdg : decode cc pc = .ok (.invokestatic ix, 3)) (hR : 9 ≤ R.frames ∧ 153 ≤ R.locals) (hcs : cells + 4 ≤ R.cells ∧ slots + 24 ≤ R.slots)
    (kk : ∀ (r : Int32) (X9 : MS) (H1 : Heap) (locs1 : List Loc), ((¬ wtX X (8 * k + j) = 0 ∧ (r, X9) = gradeX X k (kc k) (8 * k + j) p2) ∨ (r = -3 ∧ wtX X (8 * k + j) = 0 ∧ X9 = X)) → xW D cO cL g X9 H1 → H.size ≤ H1.size → (∀ q : Nat, q < H.size → ¬ xA g H.size q → H1[q]? = H[q]?) → va_S A H0 H1 locs1 → W p l e R s m args below meth c H1 locs1 (cells + 4) (slots + 24) Q (F0 m (pc + 3) ls (.int r :: rest))) : W p l e R s m args below meth c H locs cells slots Q (F0 m pc ls (.int p2 :: .int (nI j) :: .int (nI k) :: .ref d :: rest)) :=
  y_sWI (vx_runSW (As := [.ref d, .int (nI k), .int (nI j), .int p2]) (rest := rest) S (kL_grade l hlt g X hz _ hI hO d bk hd hbk n kc hC k j hk hj p2 h2) (vx_cwSW 4 S.2.2.2.2 hT rfl rfl rfl (by decide +kernel) hR) (x_preS hW hK hE) rfl rfl hls rfl (lv_room hrest) hdg hcs) hS hA kk
end ZRows
end
section
/-! THE LAW'S CHECK OF AN ORDER'S SUMS. -/
def SOK (X : MS) (k kk : Nat) (pv : Int32) : Prop := (¬ X 13 k < 0 ∧ ¬ X 14 k < 0 ∧ ¬ X 15 k < 0 ∧ ¬ X 12 k < 0 ∧ ¬ X 10 k < 0 ∧ ¬ X 11 k < 0) ∧ ((pv = 0 ∧ shX X k kk = 0 ∧ takenX X k = 0 ∧ X 12 k = 0 ∧ X 10 k = 0) ∨ (pv = 1 ∧ owedX X k kk ≤ takenX X k ∧ shX X k kk = 0) ∨ (pv = 1 ∧ ¬ owedX X k kk ≤ takenX X k ∧ shX X k kk = owedX X k kk - takenX X k))
set_option maxHeartbeats 4000000 in
set_option maxRecDepth 100000 in
theorem kL_sums (l : Launch) (hlt : l.stackTraces = false) {D : va_G} {cI cO cL cJ : ClassId} (g : XG) (X : MS) (hz sz : Nat) (d bk : Nat) (hd : g 3 0 = some d) (hbk : g 4 0 = some bk) (n : Nat) (kc : Nat → Nat) (hC : xC g X n kc) (k : Nat) (hk : k < n) (pv : Int32) (hs : SOK X k (kc k) pv) : Met l yL_sums wsL_sums ({ frames := 9, cells := 21, slots := 126, locals := 148 } : Room) (xP D cI cO cL cJ g X hz sz [.ref d, .int (nI k), .int pv]) (vp_Si (fun r : Int32 => r = 1)) 21 126 (fun _ => False) := by
  refine x_bodyM (cc := cL_sums) (maxL := 6) (ret := some .boolean) (by decide) rfl [.ref d, .int (nI k), .int pv] (Nat.le_of_ble_eq_true rfl) ?_
  intro p e s m args below meth c hx hb hr hts hown hml hlocks hsz hW hK hE ls hl
  subst hsz
  have hown : s.vm.findClass RL = some m.cls := hown
  obtain ⟨⟨h13, h14, h15, h12, h10, h11⟩, hs⟩ := hs
  rcases hs with ⟨rfl, hsh, ht0, hr0, hf0⟩ | ⟨rfl, hle, hsh⟩ | ⟨rfl, hle, hsh⟩
  · skip
    have hl : lv_has ls 6 [(0, .ref d), (1, .int (nI k)), (2, .int 0)] := hl
    refine lv_aload_n hx hb dL_sums_0 rfl (lv_at hl 0 rfl) ?_
    refine lv_iload_n hx hb dL_sums_1 rfl (lv_at hl 1 rfl) ?_
    refine z_price hlt ⟨hx, hb, hml, hown, hts⟩ gL_sums_X2_price hW hK hE hd hbk hC hk hl.1 (Nat.le_of_ble_eq_true rfl) dL_sums_2 ⟨Nat.le_of_ble_eq_true rfl, Nat.le_of_ble_eq_true rfl⟩ ⟨Nat.le_of_ble_eq_true rfl, Nat.le_of_ble_eq_true rfl⟩ ?_
    refine lv_aload_n hx hb dL_sums_5 rfl (lv_at hl 0 rfl) ?_
    refine lv_iload_n hx hb dL_sums_6 rfl (lv_at hl 1 rfl) ?_
    refine z_fees hlt ⟨hx, hb, hml, hown, hts⟩ gL_sums_X2_fees hW hK hE hd hbk hC hk hl.1 (Nat.le_of_ble_eq_true rfl) dL_sums_7 ⟨Nat.le_of_ble_eq_true rfl, Nat.le_of_ble_eq_true rfl⟩ ⟨Nat.le_of_ble_eq_true rfl, Nat.le_of_ble_eq_true rfl⟩ ?_
    refine lv_iadd hx hb dL_sums_10 ?_
    refine lv_aload_n hx hb dL_sums_11 rfl (lv_at hl 0 rfl) ?_
    refine lv_iload_n hx hb dL_sums_12 rfl (lv_at hl 1 rfl) ?_
    refine z_charges hlt ⟨hx, hb, hml, hown, hts⟩ gL_sums_X2_charges hW hK hE hd hbk hC hk hl.1 (Nat.le_of_ble_eq_true rfl) dL_sums_13 ⟨Nat.le_of_ble_eq_true rfl, Nat.le_of_ble_eq_true rfl⟩ ⟨Nat.le_of_ble_eq_true rfl, Nat.le_of_ble_eq_true rfl⟩ ?_
    refine lv_iadd hx hb dL_sums_16 ?_
    refine cv (y := owedX X k (kc k)) rfl ?_
    refine lv_istore_n (lv' := [(3, .int (owedX X k (kc k))), (0, .ref d), (1, .int (nI k)), (2, .int 0)]) hx hb dL_sums_17 rfl hl (by decide) rfl (fun ls hl => ?_)
    refine lv_aload_n hx hb dL_sums_18 rfl (lv_at hl 1 rfl) ?_
    refine lv_iload_n hx hb dL_sums_19 rfl (lv_at hl 2 rfl) ?_
    refine z_all hlt ⟨hx, hb, hml, hown, hts⟩ gL_sums_L_all hW hK hE hd hbk hC hk hl.1 (Nat.le_of_ble_eq_true rfl) dL_sums_20 ⟨Nat.le_of_ble_eq_true rfl, Nat.le_of_ble_eq_true rfl⟩ ⟨Nat.le_of_ble_eq_true rfl, Nat.le_of_ble_eq_true rfl⟩ ?_
    refine lv_istore (lv' := [(4, .int (takenX X k)), (3, .int (owedX X k (kc k))), (0, .ref d), (1, .int (nI k)), (2, .int 0)]) hx hb dL_sums_23 hl (by decide) rfl (fun ls hl => ?_)
    refine lv_aload_n hx hb dL_sums_25 rfl (lv_at hl 2 rfl) ?_
    refine lv_iload_n hx hb dL_sums_26 rfl (lv_at hl 3 rfl) ?_
    refine lv_iconst (v := 0) hx hb dL_sums_27 (by decide) ?_
    refine z_taken hlt ⟨hx, hb, hml, hown, hts⟩ gL_sums_X2_taken hW hK hE hd hbk hC hk (v := X 13 k) (y_in 0 (N := 2) rfl (by decide) (by decide)) rfl hl.1 (Nat.le_of_ble_eq_true rfl) dL_sums_28 ⟨Nat.le_of_ble_eq_true rfl, Nat.le_of_ble_eq_true rfl⟩ ⟨Nat.le_of_ble_eq_true rfl, Nat.le_of_ble_eq_true rfl⟩ ?_
    refine lv_if_lt (tgt := 80) hx hb dL_sums_31 (by decide) (fun h9 => absurd h9 h13) (fun _ => ?_)
    refine lv_aload_n hx hb dL_sums_34 rfl (lv_at hl 2 rfl) ?_
    refine lv_iload_n hx hb dL_sums_35 rfl (lv_at hl 3 rfl) ?_
    refine lv_iconst (v := 1) hx hb dL_sums_36 (by decide) ?_
    refine z_taken hlt ⟨hx, hb, hml, hown, hts⟩ gL_sums_X2_taken hW hK hE hd hbk hC hk (v := X 14 k) (y_in 1 (N := 2) rfl (by decide) (by decide)) rfl hl.1 (Nat.le_of_ble_eq_true rfl) dL_sums_37 ⟨Nat.le_of_ble_eq_true rfl, Nat.le_of_ble_eq_true rfl⟩ ⟨Nat.le_of_ble_eq_true rfl, Nat.le_of_ble_eq_true rfl⟩ ?_
    refine lv_if_lt (tgt := 80) hx hb dL_sums_40 (by decide) (fun h9 => absurd h9 h14) (fun _ => ?_)
    refine lv_aload_n hx hb dL_sums_43 rfl (lv_at hl 2 rfl) ?_
    refine lv_iload_n hx hb dL_sums_44 rfl (lv_at hl 3 rfl) ?_
    refine lv_iconst (v := 2) hx hb dL_sums_45 (by decide) ?_
    refine z_taken hlt ⟨hx, hb, hml, hown, hts⟩ gL_sums_X2_taken hW hK hE hd hbk hC hk (v := X 15 k) (y_in 2 (N := 2) rfl (by decide) (by decide)) rfl hl.1 (Nat.le_of_ble_eq_true rfl) dL_sums_46 ⟨Nat.le_of_ble_eq_true rfl, Nat.le_of_ble_eq_true rfl⟩ ⟨Nat.le_of_ble_eq_true rfl, Nat.le_of_ble_eq_true rfl⟩ ?_
    refine lv_if_lt (tgt := 80) hx hb dL_sums_49 (by decide) (fun h9 => absurd h9 h15) (fun _ => ?_)
    refine lv_aload_n hx hb dL_sums_52 rfl (lv_at hl 2 rfl) ?_
    refine lv_iload_n hx hb dL_sums_53 rfl (lv_at hl 3 rfl) ?_
    refine z_refunded hlt ⟨hx, hb, hml, hown, hts⟩ gL_sums_X2_refunded hW hK hE hd hbk hC hk hl.1 (Nat.le_of_ble_eq_true rfl) dL_sums_54 ⟨Nat.le_of_ble_eq_true rfl, Nat.le_of_ble_eq_true rfl⟩ ⟨Nat.le_of_ble_eq_true rfl, Nat.le_of_ble_eq_true rfl⟩ ?_
    refine lv_if_lt (tgt := 80) hx hb dL_sums_57 (by decide) (fun h9 => absurd h9 h12) (fun _ => ?_)
    refine lv_aload_n hx hb dL_sums_60 rfl (lv_at hl 2 rfl) ?_
    refine lv_iload_n hx hb dL_sums_61 rfl (lv_at hl 3 rfl) ?_
    refine z_fees hlt ⟨hx, hb, hml, hown, hts⟩ gL_sums_X2_fees hW hK hE hd hbk hC hk hl.1 (Nat.le_of_ble_eq_true rfl) dL_sums_62 ⟨Nat.le_of_ble_eq_true rfl, Nat.le_of_ble_eq_true rfl⟩ ⟨Nat.le_of_ble_eq_true rfl, Nat.le_of_ble_eq_true rfl⟩ ?_
    refine lv_if_lt (tgt := 80) hx hb dL_sums_65 (by decide) (fun h9 => absurd h9 h10) (fun _ => ?_)
    refine lv_aload_n hx hb dL_sums_68 rfl (lv_at hl 2 rfl) ?_
    refine lv_iload_n hx hb dL_sums_69 rfl (lv_at hl 3 rfl) ?_
    refine z_charges hlt ⟨hx, hb, hml, hown, hts⟩ gL_sums_X2_charges hW hK hE hd hbk hC hk hl.1 (Nat.le_of_ble_eq_true rfl) dL_sums_70 ⟨Nat.le_of_ble_eq_true rfl, Nat.le_of_ble_eq_true rfl⟩ ⟨Nat.le_of_ble_eq_true rfl, Nat.le_of_ble_eq_true rfl⟩ ?_
    refine lv_if_lt (tgt := 80) hx hb dL_sums_73 (by decide) (fun h9 => absurd h9 h11) (fun _ => ?_)
    refine lv_iconst (v := 1) hx hb dL_sums_76 (by decide) ?_
    refine lv_goto (tgt := 81) hx hb dL_sums_77 (by decide) ?_
    refine lv_istore (lv' := [(5, .int 1), (4, .int (takenX X k)), (3, .int (owedX X k (kc k))), (0, .ref d), (1, .int (nI k)), (2, .int 0)]) hx hb dL_sums_81 hl (by decide) rfl (fun ls hl => ?_)
    refine lv_iload hx hb dL_sums_83 (lv_at hl 0 rfl) ?_
    refine lv_if_eq (tgt := 143) hx hb dL_sums_85 (by decide) (fun h9 => absurd h9 (by decide)) (fun _ => ?_)
    refine lv_aload_n hx hb dL_sums_88 rfl (lv_at hl 3 rfl) ?_
    refine lv_iload_n hx hb dL_sums_89 rfl (lv_at hl 4 rfl) ?_
    refine z_isShortBy hlt ⟨hx, hb, hml, hown, hts⟩ gL_sums_X2_isShortBy hW hK hE hd hbk hC hk hl.1 (Nat.le_of_ble_eq_true rfl) dL_sums_90 ⟨Nat.le_of_ble_eq_true rfl, Nat.le_of_ble_eq_true rfl⟩ ⟨Nat.le_of_ble_eq_true rfl, Nat.le_of_ble_eq_true rfl⟩ ?_
    refine lv_iload_n hx hb dL_sums_93 rfl (lv_at hl 5 rfl) ?_
    refine lv_if_eq (tgt := 110) hx hb dL_sums_94 (by decide) (fun _ => ?_) (fun h9 => absurd (by decide) h9)
    refine lv_iconst (v := 0) hx hb dL_sums_110 (by decide) ?_
    refine lv_icmp_ne (tgt := 143) hx hb dL_sums_111 (by decide) (fun h9 => absurd hsh h9) (fun _ => ?_)
    refine lv_iload_n hx hb dL_sums_114 rfl (lv_at hl 5 rfl) ?_
    refine lv_if_ne (tgt := 139) hx hb dL_sums_115 (by decide) (fun h9 => absurd (by decide) h9) (fun _ => ?_)
    refine lv_iload hx hb dL_sums_118 (lv_at hl 1 rfl) ?_
    refine lv_if_ne (tgt := 143) hx hb dL_sums_120 (by decide) (fun h9 => absurd ht0 h9) (fun _ => ?_)
    refine lv_aload_n hx hb dL_sums_123 rfl (lv_at hl 3 rfl) ?_
    refine lv_iload_n hx hb dL_sums_124 rfl (lv_at hl 4 rfl) ?_
    refine z_refunded hlt ⟨hx, hb, hml, hown, hts⟩ gL_sums_X2_refunded hW hK hE hd hbk hC hk hl.1 (Nat.le_of_ble_eq_true rfl) dL_sums_125 ⟨Nat.le_of_ble_eq_true rfl, Nat.le_of_ble_eq_true rfl⟩ ⟨Nat.le_of_ble_eq_true rfl, Nat.le_of_ble_eq_true rfl⟩ ?_
    refine lv_if_ne (tgt := 143) hx hb dL_sums_128 (by decide) (fun h9 => absurd hr0 h9) (fun _ => ?_)
    refine lv_aload_n hx hb dL_sums_131 rfl (lv_at hl 3 rfl) ?_
    refine lv_iload_n hx hb dL_sums_132 rfl (lv_at hl 4 rfl) ?_
    refine z_fees hlt ⟨hx, hb, hml, hown, hts⟩ gL_sums_X2_fees hW hK hE hd hbk hC hk hl.1 (Nat.le_of_ble_eq_true rfl) dL_sums_133 ⟨Nat.le_of_ble_eq_true rfl, Nat.le_of_ble_eq_true rfl⟩ ⟨Nat.le_of_ble_eq_true rfl, Nat.le_of_ble_eq_true rfl⟩ ?_
    refine lv_if_ne (tgt := 143) hx hb dL_sums_136 (by decide) (fun h9 => absurd hf0 h9) (fun _ => ?_)
    refine lv_iconst (v := 1) hx hb dL_sums_139 (by decide) ?_
    refine lv_goto (tgt := 144) hx hb dL_sums_140 (by decide) ?_
    exact y_zret hx hb hr hlocks ⟨Nat.le_of_ble_eq_true rfl, Nat.le_of_ble_eq_true rfl⟩ (Or.inr rfl) rfl dL_sums_144
  · skip
    have hl : lv_has ls 6 [(0, .ref d), (1, .int (nI k)), (2, .int 1)] := hl
    refine lv_aload_n hx hb dL_sums_0 rfl (lv_at hl 0 rfl) ?_
    refine lv_iload_n hx hb dL_sums_1 rfl (lv_at hl 1 rfl) ?_
    refine z_price hlt ⟨hx, hb, hml, hown, hts⟩ gL_sums_X2_price hW hK hE hd hbk hC hk hl.1 (Nat.le_of_ble_eq_true rfl) dL_sums_2 ⟨Nat.le_of_ble_eq_true rfl, Nat.le_of_ble_eq_true rfl⟩ ⟨Nat.le_of_ble_eq_true rfl, Nat.le_of_ble_eq_true rfl⟩ ?_
    refine lv_aload_n hx hb dL_sums_5 rfl (lv_at hl 0 rfl) ?_
    refine lv_iload_n hx hb dL_sums_6 rfl (lv_at hl 1 rfl) ?_
    refine z_fees hlt ⟨hx, hb, hml, hown, hts⟩ gL_sums_X2_fees hW hK hE hd hbk hC hk hl.1 (Nat.le_of_ble_eq_true rfl) dL_sums_7 ⟨Nat.le_of_ble_eq_true rfl, Nat.le_of_ble_eq_true rfl⟩ ⟨Nat.le_of_ble_eq_true rfl, Nat.le_of_ble_eq_true rfl⟩ ?_
    refine lv_iadd hx hb dL_sums_10 ?_
    refine lv_aload_n hx hb dL_sums_11 rfl (lv_at hl 0 rfl) ?_
    refine lv_iload_n hx hb dL_sums_12 rfl (lv_at hl 1 rfl) ?_
    refine z_charges hlt ⟨hx, hb, hml, hown, hts⟩ gL_sums_X2_charges hW hK hE hd hbk hC hk hl.1 (Nat.le_of_ble_eq_true rfl) dL_sums_13 ⟨Nat.le_of_ble_eq_true rfl, Nat.le_of_ble_eq_true rfl⟩ ⟨Nat.le_of_ble_eq_true rfl, Nat.le_of_ble_eq_true rfl⟩ ?_
    refine lv_iadd hx hb dL_sums_16 ?_
    refine cv (y := owedX X k (kc k)) rfl ?_
    refine lv_istore_n (lv' := [(3, .int (owedX X k (kc k))), (0, .ref d), (1, .int (nI k)), (2, .int 1)]) hx hb dL_sums_17 rfl hl (by decide) rfl (fun ls hl => ?_)
    refine lv_aload_n hx hb dL_sums_18 rfl (lv_at hl 1 rfl) ?_
    refine lv_iload_n hx hb dL_sums_19 rfl (lv_at hl 2 rfl) ?_
    refine z_all hlt ⟨hx, hb, hml, hown, hts⟩ gL_sums_L_all hW hK hE hd hbk hC hk hl.1 (Nat.le_of_ble_eq_true rfl) dL_sums_20 ⟨Nat.le_of_ble_eq_true rfl, Nat.le_of_ble_eq_true rfl⟩ ⟨Nat.le_of_ble_eq_true rfl, Nat.le_of_ble_eq_true rfl⟩ ?_
    refine lv_istore (lv' := [(4, .int (takenX X k)), (3, .int (owedX X k (kc k))), (0, .ref d), (1, .int (nI k)), (2, .int 1)]) hx hb dL_sums_23 hl (by decide) rfl (fun ls hl => ?_)
    refine lv_aload_n hx hb dL_sums_25 rfl (lv_at hl 2 rfl) ?_
    refine lv_iload_n hx hb dL_sums_26 rfl (lv_at hl 3 rfl) ?_
    refine lv_iconst (v := 0) hx hb dL_sums_27 (by decide) ?_
    refine z_taken hlt ⟨hx, hb, hml, hown, hts⟩ gL_sums_X2_taken hW hK hE hd hbk hC hk (v := X 13 k) (y_in 0 (N := 2) rfl (by decide) (by decide)) rfl hl.1 (Nat.le_of_ble_eq_true rfl) dL_sums_28 ⟨Nat.le_of_ble_eq_true rfl, Nat.le_of_ble_eq_true rfl⟩ ⟨Nat.le_of_ble_eq_true rfl, Nat.le_of_ble_eq_true rfl⟩ ?_
    refine lv_if_lt (tgt := 80) hx hb dL_sums_31 (by decide) (fun h9 => absurd h9 h13) (fun _ => ?_)
    refine lv_aload_n hx hb dL_sums_34 rfl (lv_at hl 2 rfl) ?_
    refine lv_iload_n hx hb dL_sums_35 rfl (lv_at hl 3 rfl) ?_
    refine lv_iconst (v := 1) hx hb dL_sums_36 (by decide) ?_
    refine z_taken hlt ⟨hx, hb, hml, hown, hts⟩ gL_sums_X2_taken hW hK hE hd hbk hC hk (v := X 14 k) (y_in 1 (N := 2) rfl (by decide) (by decide)) rfl hl.1 (Nat.le_of_ble_eq_true rfl) dL_sums_37 ⟨Nat.le_of_ble_eq_true rfl, Nat.le_of_ble_eq_true rfl⟩ ⟨Nat.le_of_ble_eq_true rfl, Nat.le_of_ble_eq_true rfl⟩ ?_
    refine lv_if_lt (tgt := 80) hx hb dL_sums_40 (by decide) (fun h9 => absurd h9 h14) (fun _ => ?_)
    refine lv_aload_n hx hb dL_sums_43 rfl (lv_at hl 2 rfl) ?_
    refine lv_iload_n hx hb dL_sums_44 rfl (lv_at hl 3 rfl) ?_
    refine lv_iconst (v := 2) hx hb dL_sums_45 (by decide) ?_
    refine z_taken hlt ⟨hx, hb, hml, hown, hts⟩ gL_sums_X2_taken hW hK hE hd hbk hC hk (v := X 15 k) (y_in 2 (N := 2) rfl (by decide) (by decide)) rfl hl.1 (Nat.le_of_ble_eq_true rfl) dL_sums_46 ⟨Nat.le_of_ble_eq_true rfl, Nat.le_of_ble_eq_true rfl⟩ ⟨Nat.le_of_ble_eq_true rfl, Nat.le_of_ble_eq_true rfl⟩ ?_
    refine lv_if_lt (tgt := 80) hx hb dL_sums_49 (by decide) (fun h9 => absurd h9 h15) (fun _ => ?_)
    refine lv_aload_n hx hb dL_sums_52 rfl (lv_at hl 2 rfl) ?_
    refine lv_iload_n hx hb dL_sums_53 rfl (lv_at hl 3 rfl) ?_
    refine z_refunded hlt ⟨hx, hb, hml, hown, hts⟩ gL_sums_X2_refunded hW hK hE hd hbk hC hk hl.1 (Nat.le_of_ble_eq_true rfl) dL_sums_54 ⟨Nat.le_of_ble_eq_true rfl, Nat.le_of_ble_eq_true rfl⟩ ⟨Nat.le_of_ble_eq_true rfl, Nat.le_of_ble_eq_true rfl⟩ ?_
    refine lv_if_lt (tgt := 80) hx hb dL_sums_57 (by decide) (fun h9 => absurd h9 h12) (fun _ => ?_)
    refine lv_aload_n hx hb dL_sums_60 rfl (lv_at hl 2 rfl) ?_
    refine lv_iload_n hx hb dL_sums_61 rfl (lv_at hl 3 rfl) ?_
    refine z_fees hlt ⟨hx, hb, hml, hown, hts⟩ gL_sums_X2_fees hW hK hE hd hbk hC hk hl.1 (Nat.le_of_ble_eq_true rfl) dL_sums_62 ⟨Nat.le_of_ble_eq_true rfl, Nat.le_of_ble_eq_true rfl⟩ ⟨Nat.le_of_ble_eq_true rfl, Nat.le_of_ble_eq_true rfl⟩ ?_
    refine lv_if_lt (tgt := 80) hx hb dL_sums_65 (by decide) (fun h9 => absurd h9 h10) (fun _ => ?_)
    refine lv_aload_n hx hb dL_sums_68 rfl (lv_at hl 2 rfl) ?_
    refine lv_iload_n hx hb dL_sums_69 rfl (lv_at hl 3 rfl) ?_
    refine z_charges hlt ⟨hx, hb, hml, hown, hts⟩ gL_sums_X2_charges hW hK hE hd hbk hC hk hl.1 (Nat.le_of_ble_eq_true rfl) dL_sums_70 ⟨Nat.le_of_ble_eq_true rfl, Nat.le_of_ble_eq_true rfl⟩ ⟨Nat.le_of_ble_eq_true rfl, Nat.le_of_ble_eq_true rfl⟩ ?_
    refine lv_if_lt (tgt := 80) hx hb dL_sums_73 (by decide) (fun h9 => absurd h9 h11) (fun _ => ?_)
    refine lv_iconst (v := 1) hx hb dL_sums_76 (by decide) ?_
    refine lv_goto (tgt := 81) hx hb dL_sums_77 (by decide) ?_
    refine lv_istore (lv' := [(5, .int 1), (4, .int (takenX X k)), (3, .int (owedX X k (kc k))), (0, .ref d), (1, .int (nI k)), (2, .int 1)]) hx hb dL_sums_81 hl (by decide) rfl (fun ls hl => ?_)
    refine lv_iload hx hb dL_sums_83 (lv_at hl 0 rfl) ?_
    refine lv_if_eq (tgt := 143) hx hb dL_sums_85 (by decide) (fun h9 => absurd h9 (by decide)) (fun _ => ?_)
    refine lv_aload_n hx hb dL_sums_88 rfl (lv_at hl 3 rfl) ?_
    refine lv_iload_n hx hb dL_sums_89 rfl (lv_at hl 4 rfl) ?_
    refine z_isShortBy hlt ⟨hx, hb, hml, hown, hts⟩ gL_sums_X2_isShortBy hW hK hE hd hbk hC hk hl.1 (Nat.le_of_ble_eq_true rfl) dL_sums_90 ⟨Nat.le_of_ble_eq_true rfl, Nat.le_of_ble_eq_true rfl⟩ ⟨Nat.le_of_ble_eq_true rfl, Nat.le_of_ble_eq_true rfl⟩ ?_
    refine lv_iload_n hx hb dL_sums_93 rfl (lv_at hl 5 rfl) ?_
    refine lv_if_eq (tgt := 110) hx hb dL_sums_94 (by decide) (fun h9 => absurd h9 (by decide)) (fun _ => ?_)
    refine lv_iload_n hx hb dL_sums_97 rfl (lv_at hl 2 rfl) ?_
    refine lv_iload hx hb dL_sums_98 (lv_at hl 1 rfl) ?_
    refine lv_icmp_le (tgt := 110) hx hb dL_sums_100 (by decide) (fun _ => ?_) (fun h9 => absurd hle h9)
    refine lv_iconst (v := 0) hx hb dL_sums_110 (by decide) ?_
    refine lv_icmp_ne (tgt := 143) hx hb dL_sums_111 (by decide) (fun h9 => absurd hsh h9) (fun _ => ?_)
    refine lv_iload_n hx hb dL_sums_114 rfl (lv_at hl 5 rfl) ?_
    refine lv_if_ne (tgt := 139) hx hb dL_sums_115 (by decide) (fun _ => ?_) (fun h9 => absurd h9 (by decide))
    refine lv_iconst (v := 1) hx hb dL_sums_139 (by decide) ?_
    refine lv_goto (tgt := 144) hx hb dL_sums_140 (by decide) ?_
    exact y_zret hx hb hr hlocks ⟨Nat.le_of_ble_eq_true rfl, Nat.le_of_ble_eq_true rfl⟩ (Or.inr rfl) rfl dL_sums_144
  · skip
    have hl : lv_has ls 6 [(0, .ref d), (1, .int (nI k)), (2, .int 1)] := hl
    refine lv_aload_n hx hb dL_sums_0 rfl (lv_at hl 0 rfl) ?_
    refine lv_iload_n hx hb dL_sums_1 rfl (lv_at hl 1 rfl) ?_
    refine z_price hlt ⟨hx, hb, hml, hown, hts⟩ gL_sums_X2_price hW hK hE hd hbk hC hk hl.1 (Nat.le_of_ble_eq_true rfl) dL_sums_2 ⟨Nat.le_of_ble_eq_true rfl, Nat.le_of_ble_eq_true rfl⟩ ⟨Nat.le_of_ble_eq_true rfl, Nat.le_of_ble_eq_true rfl⟩ ?_
    refine lv_aload_n hx hb dL_sums_5 rfl (lv_at hl 0 rfl) ?_
    refine lv_iload_n hx hb dL_sums_6 rfl (lv_at hl 1 rfl) ?_
    refine z_fees hlt ⟨hx, hb, hml, hown, hts⟩ gL_sums_X2_fees hW hK hE hd hbk hC hk hl.1 (Nat.le_of_ble_eq_true rfl) dL_sums_7 ⟨Nat.le_of_ble_eq_true rfl, Nat.le_of_ble_eq_true rfl⟩ ⟨Nat.le_of_ble_eq_true rfl, Nat.le_of_ble_eq_true rfl⟩ ?_
    refine lv_iadd hx hb dL_sums_10 ?_
    refine lv_aload_n hx hb dL_sums_11 rfl (lv_at hl 0 rfl) ?_
    refine lv_iload_n hx hb dL_sums_12 rfl (lv_at hl 1 rfl) ?_
    refine z_charges hlt ⟨hx, hb, hml, hown, hts⟩ gL_sums_X2_charges hW hK hE hd hbk hC hk hl.1 (Nat.le_of_ble_eq_true rfl) dL_sums_13 ⟨Nat.le_of_ble_eq_true rfl, Nat.le_of_ble_eq_true rfl⟩ ⟨Nat.le_of_ble_eq_true rfl, Nat.le_of_ble_eq_true rfl⟩ ?_
    refine lv_iadd hx hb dL_sums_16 ?_
    refine cv (y := owedX X k (kc k)) rfl ?_
    refine lv_istore_n (lv' := [(3, .int (owedX X k (kc k))), (0, .ref d), (1, .int (nI k)), (2, .int 1)]) hx hb dL_sums_17 rfl hl (by decide) rfl (fun ls hl => ?_)
    refine lv_aload_n hx hb dL_sums_18 rfl (lv_at hl 1 rfl) ?_
    refine lv_iload_n hx hb dL_sums_19 rfl (lv_at hl 2 rfl) ?_
    refine z_all hlt ⟨hx, hb, hml, hown, hts⟩ gL_sums_L_all hW hK hE hd hbk hC hk hl.1 (Nat.le_of_ble_eq_true rfl) dL_sums_20 ⟨Nat.le_of_ble_eq_true rfl, Nat.le_of_ble_eq_true rfl⟩ ⟨Nat.le_of_ble_eq_true rfl, Nat.le_of_ble_eq_true rfl⟩ ?_
    refine lv_istore (lv' := [(4, .int (takenX X k)), (3, .int (owedX X k (kc k))), (0, .ref d), (1, .int (nI k)), (2, .int 1)]) hx hb dL_sums_23 hl (by decide) rfl (fun ls hl => ?_)
    refine lv_aload_n hx hb dL_sums_25 rfl (lv_at hl 2 rfl) ?_
    refine lv_iload_n hx hb dL_sums_26 rfl (lv_at hl 3 rfl) ?_
    refine lv_iconst (v := 0) hx hb dL_sums_27 (by decide) ?_
    refine z_taken hlt ⟨hx, hb, hml, hown, hts⟩ gL_sums_X2_taken hW hK hE hd hbk hC hk (v := X 13 k) (y_in 0 (N := 2) rfl (by decide) (by decide)) rfl hl.1 (Nat.le_of_ble_eq_true rfl) dL_sums_28 ⟨Nat.le_of_ble_eq_true rfl, Nat.le_of_ble_eq_true rfl⟩ ⟨Nat.le_of_ble_eq_true rfl, Nat.le_of_ble_eq_true rfl⟩ ?_
    refine lv_if_lt (tgt := 80) hx hb dL_sums_31 (by decide) (fun h9 => absurd h9 h13) (fun _ => ?_)
    refine lv_aload_n hx hb dL_sums_34 rfl (lv_at hl 2 rfl) ?_
    refine lv_iload_n hx hb dL_sums_35 rfl (lv_at hl 3 rfl) ?_
    refine lv_iconst (v := 1) hx hb dL_sums_36 (by decide) ?_
    refine z_taken hlt ⟨hx, hb, hml, hown, hts⟩ gL_sums_X2_taken hW hK hE hd hbk hC hk (v := X 14 k) (y_in 1 (N := 2) rfl (by decide) (by decide)) rfl hl.1 (Nat.le_of_ble_eq_true rfl) dL_sums_37 ⟨Nat.le_of_ble_eq_true rfl, Nat.le_of_ble_eq_true rfl⟩ ⟨Nat.le_of_ble_eq_true rfl, Nat.le_of_ble_eq_true rfl⟩ ?_
    refine lv_if_lt (tgt := 80) hx hb dL_sums_40 (by decide) (fun h9 => absurd h9 h14) (fun _ => ?_)
    refine lv_aload_n hx hb dL_sums_43 rfl (lv_at hl 2 rfl) ?_
    refine lv_iload_n hx hb dL_sums_44 rfl (lv_at hl 3 rfl) ?_
    refine lv_iconst (v := 2) hx hb dL_sums_45 (by decide) ?_
    refine z_taken hlt ⟨hx, hb, hml, hown, hts⟩ gL_sums_X2_taken hW hK hE hd hbk hC hk (v := X 15 k) (y_in 2 (N := 2) rfl (by decide) (by decide)) rfl hl.1 (Nat.le_of_ble_eq_true rfl) dL_sums_46 ⟨Nat.le_of_ble_eq_true rfl, Nat.le_of_ble_eq_true rfl⟩ ⟨Nat.le_of_ble_eq_true rfl, Nat.le_of_ble_eq_true rfl⟩ ?_
    refine lv_if_lt (tgt := 80) hx hb dL_sums_49 (by decide) (fun h9 => absurd h9 h15) (fun _ => ?_)
    refine lv_aload_n hx hb dL_sums_52 rfl (lv_at hl 2 rfl) ?_
    refine lv_iload_n hx hb dL_sums_53 rfl (lv_at hl 3 rfl) ?_
    refine z_refunded hlt ⟨hx, hb, hml, hown, hts⟩ gL_sums_X2_refunded hW hK hE hd hbk hC hk hl.1 (Nat.le_of_ble_eq_true rfl) dL_sums_54 ⟨Nat.le_of_ble_eq_true rfl, Nat.le_of_ble_eq_true rfl⟩ ⟨Nat.le_of_ble_eq_true rfl, Nat.le_of_ble_eq_true rfl⟩ ?_
    refine lv_if_lt (tgt := 80) hx hb dL_sums_57 (by decide) (fun h9 => absurd h9 h12) (fun _ => ?_)
    refine lv_aload_n hx hb dL_sums_60 rfl (lv_at hl 2 rfl) ?_
    refine lv_iload_n hx hb dL_sums_61 rfl (lv_at hl 3 rfl) ?_
    refine z_fees hlt ⟨hx, hb, hml, hown, hts⟩ gL_sums_X2_fees hW hK hE hd hbk hC hk hl.1 (Nat.le_of_ble_eq_true rfl) dL_sums_62 ⟨Nat.le_of_ble_eq_true rfl, Nat.le_of_ble_eq_true rfl⟩ ⟨Nat.le_of_ble_eq_true rfl, Nat.le_of_ble_eq_true rfl⟩ ?_
    refine lv_if_lt (tgt := 80) hx hb dL_sums_65 (by decide) (fun h9 => absurd h9 h10) (fun _ => ?_)
    refine lv_aload_n hx hb dL_sums_68 rfl (lv_at hl 2 rfl) ?_
    refine lv_iload_n hx hb dL_sums_69 rfl (lv_at hl 3 rfl) ?_
    refine z_charges hlt ⟨hx, hb, hml, hown, hts⟩ gL_sums_X2_charges hW hK hE hd hbk hC hk hl.1 (Nat.le_of_ble_eq_true rfl) dL_sums_70 ⟨Nat.le_of_ble_eq_true rfl, Nat.le_of_ble_eq_true rfl⟩ ⟨Nat.le_of_ble_eq_true rfl, Nat.le_of_ble_eq_true rfl⟩ ?_
    refine lv_if_lt (tgt := 80) hx hb dL_sums_73 (by decide) (fun h9 => absurd h9 h11) (fun _ => ?_)
    refine lv_iconst (v := 1) hx hb dL_sums_76 (by decide) ?_
    refine lv_goto (tgt := 81) hx hb dL_sums_77 (by decide) ?_
    refine lv_istore (lv' := [(5, .int 1), (4, .int (takenX X k)), (3, .int (owedX X k (kc k))), (0, .ref d), (1, .int (nI k)), (2, .int 1)]) hx hb dL_sums_81 hl (by decide) rfl (fun ls hl => ?_)
    refine lv_iload hx hb dL_sums_83 (lv_at hl 0 rfl) ?_
    refine lv_if_eq (tgt := 143) hx hb dL_sums_85 (by decide) (fun h9 => absurd h9 (by decide)) (fun _ => ?_)
    refine lv_aload_n hx hb dL_sums_88 rfl (lv_at hl 3 rfl) ?_
    refine lv_iload_n hx hb dL_sums_89 rfl (lv_at hl 4 rfl) ?_
    refine z_isShortBy hlt ⟨hx, hb, hml, hown, hts⟩ gL_sums_X2_isShortBy hW hK hE hd hbk hC hk hl.1 (Nat.le_of_ble_eq_true rfl) dL_sums_90 ⟨Nat.le_of_ble_eq_true rfl, Nat.le_of_ble_eq_true rfl⟩ ⟨Nat.le_of_ble_eq_true rfl, Nat.le_of_ble_eq_true rfl⟩ ?_
    refine lv_iload_n hx hb dL_sums_93 rfl (lv_at hl 5 rfl) ?_
    refine lv_if_eq (tgt := 110) hx hb dL_sums_94 (by decide) (fun h9 => absurd h9 (by decide)) (fun _ => ?_)
    refine lv_iload_n hx hb dL_sums_97 rfl (lv_at hl 2 rfl) ?_
    refine lv_iload hx hb dL_sums_98 (lv_at hl 1 rfl) ?_
    refine lv_icmp_le (tgt := 110) hx hb dL_sums_100 (by decide) (fun h9 => absurd h9 hle) (fun _ => ?_)
    refine lv_iload_n hx hb dL_sums_103 rfl (lv_at hl 2 rfl) ?_
    refine lv_iload hx hb dL_sums_104 (lv_at hl 1 rfl) ?_
    refine lv_isub hx hb dL_sums_106 ?_
    refine lv_goto (tgt := 111) hx hb dL_sums_107 (by decide) ?_
    refine lv_icmp_ne (tgt := 143) hx hb dL_sums_111 (by decide) (fun h9 => absurd hsh h9) (fun _ => ?_)
    refine lv_iload_n hx hb dL_sums_114 rfl (lv_at hl 5 rfl) ?_
    refine lv_if_ne (tgt := 139) hx hb dL_sums_115 (by decide) (fun _ => ?_) (fun h9 => absurd h9 (by decide))
    refine lv_iconst (v := 1) hx hb dL_sums_139 (by decide) ?_
    refine lv_goto (tgt := 144) hx hb dL_sums_140 (by decide) ?_
    exact y_zret hx hb hr hlocks ⟨Nat.le_of_ble_eq_true rfl, Nat.le_of_ble_eq_true rfl⟩ (Or.inr rfl) rfl dL_sums_144
end
section
/-! THE LAW'S RETURNS: a line is asked back or exchanged, or graded. -/
def RetTo (X : MS) (k kk : Nat) (X9 : MS) : Prop := (∃ q, q < 4 ∧ X9 = (gradeX X k kk (8 * k + 0) (nI q)).2) ∨ X9 = X ∨ ∃ (q : Nat) (z : Int32), q < 2 ∧ (z = 1 ∨ z = 2) ∧ ¬ retX X k (8 * k + 0) (nI q) = 0 ∧ X9 = (gradeX (swX X (8 * k + 0) (nI q) z) k kk (8 * k + 0) 0).2
set_option maxHeartbeats 4000000 in
set_option maxRecDepth 100000 in
theorem kL_returns (l : Launch) (hlt : l.stackTraces = false) {D : va_G} {cI cO cL cJ : ClassId} (g : XG) (X : MS) (hz sz : Nat) (hI : xI g) (hO : xO g hz sz) (d bk : Nat) (hd : g 3 0 = some d) (hbk : g 4 0 = some bk) (n : Nat) (kc : Nat → Nat) (hC : xC g X n kc) (k : Nat) (hk : k < n) (hj : 0 < kc k) (v : Int32) : Met l yL_returns wsL_returns ({ frames := 10, cells := 29, slots := 174, locals := 177 } : Room) (xP D cI cO cL cJ g X hz sz [.ref d, .int (nI k), .int (nI 0), .int v]) (xQi D cO cL g sz (fun (r : Int32) (X9 : MS) => r = 1 ∧ RetTo X k (kc k) X9)) 29 174 (xA g sz) := by
  refine x_bodyM (cc := cL_returns) (maxL := 11) (ret := some .boolean) (by decide) rfl [.ref d, .int (nI k), .int (nI 0), .int v] (Nat.le_of_ble_eq_true rfl) ?_
  intro p e s m args below meth c hx hb hr hts hown hml hlocks hsz hW hK hE ls hl
  subst hsz
  have hown : s.vm.findClass RL = some m.cls := hown
  have hl : lv_has ls 11 [(0, .ref d), (1, .int (nI k)), (2, .int (nI 0)), (3, .int v)] := hl
  have hS : va_S (xA g s.heap.size) s.heap s.heap [] := va_S.rf
  have hA : ∀ q, xA g s.heap.size q → xA g s.heap.size q := fun _ h => h
  have hE0 := hE
  have hO0 := hO
  refine lv_aload_n hx hb dL_returns_0 rfl (lv_at hl 0 rfl) ?_
  refine lv_iload_n hx hb dL_returns_1 rfl (lv_at hl 1 rfl) ?_
  refine lv_iload_n hx hb dL_returns_2 rfl (lv_at hl 2 rfl) ?_
  refine z_state hlt ⟨hx, hb, hml, hown, hts⟩ gL_returns_X2_state hW hK hE hd hbk hC hk hj hl.1 (Nat.le_of_ble_eq_true rfl) dL_returns_3 ⟨Nat.le_of_ble_eq_true rfl, Nat.le_of_ble_eq_true rfl⟩ ⟨Nat.le_of_ble_eq_true rfl, Nat.le_of_ble_eq_true rfl⟩ ?_
  refine lv_istore (lv' := [(4, .int (X 18 (8 * k + 0))), (0, .ref d), (1, .int (nI k)), (2, .int (nI 0)), (3, .int v)]) hx hb dL_returns_6 hl (by decide) rfl (fun ls hl => ?_)
  refine lv_iload_n hx hb dL_returns_8 rfl (lv_at hl 4 rfl) ?_
  refine lv_iconst (v := 2) hx hb dL_returns_9 (by decide) ?_
  refine z_low ⟨hx, hb, hml, hown, hts⟩ gL_returns_L_low (N := 2) (by decide) (by decide) hl.1 (Nat.le_of_ble_eq_true rfl) dL_returns_10 ⟨Nat.le_of_ble_eq_true rfl, Nat.le_of_ble_eq_true rfl⟩ ⟨Nat.le_of_ble_eq_true rfl, Nat.le_of_ble_eq_true rfl⟩ (fun q1 hq1 => ?_)
  refine lv_istore (lv' := [(5, .int (nI q1)), (4, .int (X 18 (8 * k + 0))), (0, .ref d), (1, .int (nI k)), (2, .int (nI 0)), (3, .int v)]) hx hb dL_returns_13 hl (by decide) rfl (fun ls hl => ?_)
  refine lv_iload hx hb dL_returns_15 (lv_at hl 1 rfl) ?_
  refine lv_iconst (v := 1) hx hb dL_returns_17 (by decide) ?_
  refine lv_icmp_eq (tgt := 27) hx hb dL_returns_18 (by decide) (fun c18 => ?_) (fun c18 => ?_)
  · skip
    refine lv_aload_n hx hb dL_returns_27 rfl (lv_at hl 2 rfl) ?_
    refine lv_iload_n hx hb dL_returns_28 rfl (lv_at hl 3 rfl) ?_
    refine z_all hlt ⟨hx, hb, hml, hown, hts⟩ gL_returns_L_all hW hK hE hd hbk hC hk hl.1 (Nat.le_of_ble_eq_true rfl) dL_returns_29 ⟨Nat.le_of_ble_eq_true rfl, Nat.le_of_ble_eq_true rfl⟩ ⟨Nat.le_of_ble_eq_true rfl, Nat.le_of_ble_eq_true rfl⟩ ?_
    refine lv_istore (lv' := [(6, .int (takenX X k)), (5, .int (nI q1)), (4, .int (X 18 (8 * k + 0))), (0, .ref d), (1, .int (nI k)), (2, .int (nI 0)), (3, .int v)]) hx hb dL_returns_32 hl (by decide) rfl (fun ls hl => ?_)
    refine lv_aload_n hx hb dL_returns_34 rfl (lv_at hl 3 rfl) ?_
    refine lv_iload_n hx hb dL_returns_35 rfl (lv_at hl 4 rfl) ?_
    refine z_refunded hlt ⟨hx, hb, hml, hown, hts⟩ gL_returns_X2_refunded hW hK hE hd hbk hC hk hl.1 (Nat.le_of_ble_eq_true rfl) dL_returns_36 ⟨Nat.le_of_ble_eq_true rfl, Nat.le_of_ble_eq_true rfl⟩ ⟨Nat.le_of_ble_eq_true rfl, Nat.le_of_ble_eq_true rfl⟩ ?_
    refine lv_istore (lv' := [(7, .int (X 12 k)), (6, .int (takenX X k)), (5, .int (nI q1)), (4, .int (X 18 (8 * k + 0))), (0, .ref d), (1, .int (nI k)), (2, .int (nI 0)), (3, .int v)]) hx hb dL_returns_39 hl (by decide) rfl (fun ls hl => ?_)
    refine lv_aload_n hx hb dL_returns_41 rfl (lv_at hl 4 rfl) ?_
    refine lv_iconst (v := 0) hx hb dL_returns_42 (by decide) ?_
    refine z_stock hlt ⟨hx, hb, hml, hown, hts⟩ gL_returns_X2_stock hW hK hE hd hbk (v := X 2 0) (y_in 0 (N := 2) rfl (by decide) (by decide)) rfl hl.1 (Nat.le_of_ble_eq_true rfl) dL_returns_43 ⟨Nat.le_of_ble_eq_true rfl, Nat.le_of_ble_eq_true rfl⟩ ⟨Nat.le_of_ble_eq_true rfl, Nat.le_of_ble_eq_true rfl⟩ ?_
    refine lv_aload_n hx hb dL_returns_46 rfl (lv_at hl 4 rfl) ?_
    refine lv_iconst (v := 1) hx hb dL_returns_47 (by decide) ?_
    refine z_stock hlt ⟨hx, hb, hml, hown, hts⟩ gL_returns_X2_stock hW hK hE hd hbk (v := X 3 0) (y_in 1 (N := 2) rfl (by decide) (by decide)) rfl hl.1 (Nat.le_of_ble_eq_true rfl) dL_returns_48 ⟨Nat.le_of_ble_eq_true rfl, Nat.le_of_ble_eq_true rfl⟩ ⟨Nat.le_of_ble_eq_true rfl, Nat.le_of_ble_eq_true rfl⟩ ?_
    refine lv_iadd hx hb dL_returns_51 ?_
    refine lv_aload_n hx hb dL_returns_52 rfl (lv_at hl 4 rfl) ?_
    refine lv_iconst (v := 2) hx hb dL_returns_53 (by decide) ?_
    refine z_stock hlt ⟨hx, hb, hml, hown, hts⟩ gL_returns_X2_stock hW hK hE hd hbk (v := X 4 0) (y_in 2 (N := 2) rfl (by decide) (by decide)) rfl hl.1 (Nat.le_of_ble_eq_true rfl) dL_returns_54 ⟨Nat.le_of_ble_eq_true rfl, Nat.le_of_ble_eq_true rfl⟩ ⟨Nat.le_of_ble_eq_true rfl, Nat.le_of_ble_eq_true rfl⟩ ?_
    refine lv_iadd hx hb dL_returns_57 ?_
    refine lv_istore (lv' := [(8, .int (((X 2 0) + (X 3 0)) + (X 4 0))), (7, .int (X 12 k)), (6, .int (takenX X k)), (5, .int (nI q1)), (4, .int (X 18 (8 * k + 0))), (0, .ref d), (1, .int (nI k)), (2, .int (nI 0)), (3, .int v)]) hx hb dL_returns_58 hl (by decide) rfl (fun ls hl => ?_)
    refine lv_iload_n hx hb dL_returns_60 rfl (lv_at hl 8 rfl) ?_
    refine lv_iconst (v := 3) hx hb dL_returns_61 (by decide) ?_
    refine lv_ishr hx hb dL_returns_62 ?_
    refine lv_iconst (v := 4) hx hb dL_returns_63 (by decide) ?_
    refine z_low ⟨hx, hb, hml, hown, hts⟩ gL_returns_L_low (N := 4) (by decide) (by decide) hl.1 (Nat.le_of_ble_eq_true rfl) dL_returns_64 ⟨Nat.le_of_ble_eq_true rfl, Nat.le_of_ble_eq_true rfl⟩ ⟨Nat.le_of_ble_eq_true rfl, Nat.le_of_ble_eq_true rfl⟩ (fun q2 hq2 => ?_)
    refine lv_istore (lv' := [(9, .int (nI q2)), (8, .int (((X 2 0) + (X 3 0)) + (X 4 0))), (7, .int (X 12 k)), (6, .int (takenX X k)), (5, .int (nI q1)), (4, .int (X 18 (8 * k + 0))), (0, .ref d), (1, .int (nI k)), (2, .int (nI 0)), (3, .int v)]) hx hb dL_returns_67 hl (by decide) rfl (fun ls hl => ?_)
    refine lv_aload_n hx hb dL_returns_69 rfl (lv_at hl 6 rfl) ?_
    refine lv_iload_n hx hb dL_returns_70 rfl (lv_at hl 7 rfl) ?_
    refine lv_iload_n hx hb dL_returns_71 rfl (lv_at hl 8 rfl) ?_
    refine lv_iload hx hb dL_returns_72 (lv_at hl 0 rfl) ?_
    refine z_grade hlt ⟨hx, hb, hml, hown, hts⟩ gL_returns_X2_grade hW hK hE hd hbk hI hO hS hA hC hk hj (y_in q2 (N := 3) rfl (by omega) (by decide)) (by unfold wtX; rw [if_pos c18]; decide) hl.1 (Nat.le_of_ble_eq_true rfl) dL_returns_74 ⟨Nat.le_of_ble_eq_true rfl, Nat.le_of_ble_eq_true rfl⟩ ⟨Nat.le_of_ble_eq_true rfl, Nat.le_of_ble_eq_true rfl⟩ (fun H locs hW hz9 hk9 hS => ?_)
    have hf := gr_facts X k (kc k) (8 * k + 0) (nI q2)
    have hC2 := gr_C hC k (kc k) (8 * k + 0) (nI q2)
    generalize hG : gradeX X k (kc k) (8 * k + 0) (nI q2) = G at hW hf hC2 ⊢
    obtain ⟨f1, f2, f3, f4, f5, f6, f7, f8⟩ := hf
    have hE := hE0.S hO0 hS
    have hO : xO g hz H.size := ⟨hO0.1, Nat.le_trans hO0.2 hS.1⟩
    have hA : ∀ q, xA g H.size q → xA g s.heap.size q := fun q h => h.imp id (fun h => Nat.le_trans hS.1 h)
    have hC : xC g G.2 n kc := hC2
    refine lv_istore (lv' := [(10, .int G.1), (9, .int (nI q2)), (8, .int (((X 2 0) + (X 3 0)) + (X 4 0))), (7, .int (X 12 k)), (6, .int (takenX X k)), (5, .int (nI q1)), (4, .int (X 18 (8 * k + 0))), (0, .ref d), (1, .int (nI k)), (2, .int (nI 0)), (3, .int v)]) hx hb dL_returns_77 hl (by decide) rfl (fun ls hl => ?_)
    refine lv_iload hx hb dL_returns_79 (lv_at hl 0 rfl) ?_
    refine lv_if_lt (tgt := 181) hx hb dL_returns_81 (by decide) (fun h9 => absurd h9 f1) (fun _ => ?_)
    refine lv_aload_n hx hb dL_returns_84 rfl (lv_at hl 7 rfl) ?_
    refine lv_iload_n hx hb dL_returns_85 rfl (lv_at hl 8 rfl) ?_
    refine z_all hlt ⟨hx, hb, hml, hown, hts⟩ gL_returns_L_all hW hK hE hd hbk hC hk hl.1 (Nat.le_of_ble_eq_true rfl) dL_returns_86 ⟨Nat.le_of_ble_eq_true rfl, Nat.le_of_ble_eq_true rfl⟩ ⟨Nat.le_of_ble_eq_true rfl, Nat.le_of_ble_eq_true rfl⟩ ?_
    refine lv_iload hx hb dL_returns_89 (lv_at hl 4 rfl) ?_
    refine lv_iload hx hb dL_returns_91 (lv_at hl 0 rfl) ?_
    refine lv_isub hx hb dL_returns_93 ?_
    refine lv_icmp_ne (tgt := 181) hx hb dL_returns_94 (by decide) (fun h9 => absurd f2 h9) (fun _ => ?_)
    refine lv_aload_n hx hb dL_returns_97 rfl (lv_at hl 7 rfl) ?_
    refine lv_iload_n hx hb dL_returns_98 rfl (lv_at hl 8 rfl) ?_
    refine z_refunded hlt ⟨hx, hb, hml, hown, hts⟩ gL_returns_X2_refunded hW hK hE hd hbk hC hk hl.1 (Nat.le_of_ble_eq_true rfl) dL_returns_99 ⟨Nat.le_of_ble_eq_true rfl, Nat.le_of_ble_eq_true rfl⟩ ⟨Nat.le_of_ble_eq_true rfl, Nat.le_of_ble_eq_true rfl⟩ ?_
    refine lv_iload hx hb dL_returns_102 (lv_at hl 3 rfl) ?_
    refine lv_iload hx hb dL_returns_104 (lv_at hl 0 rfl) ?_
    refine lv_iadd hx hb dL_returns_106 ?_
    refine lv_icmp_ne (tgt := 181) hx hb dL_returns_107 (by decide) (fun h9 => absurd f3 h9) (fun _ => ?_)
    refine lv_aload_n hx hb dL_returns_110 rfl (lv_at hl 7 rfl) ?_
    refine lv_iload_n hx hb dL_returns_111 rfl (lv_at hl 8 rfl) ?_
    refine lv_iload_n hx hb dL_returns_112 rfl (lv_at hl 9 rfl) ?_
    refine z_state hlt ⟨hx, hb, hml, hown, hts⟩ gL_returns_X2_state hW hK hE hd hbk hC hk hj hl.1 (Nat.le_of_ble_eq_true rfl) dL_returns_113 ⟨Nat.le_of_ble_eq_true rfl, Nat.le_of_ble_eq_true rfl⟩ ⟨Nat.le_of_ble_eq_true rfl, Nat.le_of_ble_eq_true rfl⟩ ?_
    refine lv_iload hx hb dL_returns_116 (lv_at hl 6 rfl) ?_
    refine lv_iconst (v := 1) hx hb dL_returns_118 (by decide) ?_
    refine lv_icmp_ne (tgt := 126) hx hb dL_returns_119 (by decide) (fun h9 => absurd c18 h9) (fun _ => ?_)
    refine lv_iconst (v := 3) hx hb dL_returns_122 (by decide) ?_
    refine lv_goto (tgt := 127) hx hb dL_returns_123 (by decide) ?_
    refine lv_icmp_ne (tgt := 181) hx hb dL_returns_127 (by decide) (fun h9 => absurd (f4.trans (if_pos c18)) h9) (fun _ => ?_)
    refine lv_aload_n hx hb dL_returns_130 rfl (lv_at hl 7 rfl) ?_
    refine lv_iconst (v := 0) hx hb dL_returns_131 (by decide) ?_
    refine z_stock hlt ⟨hx, hb, hml, hown, hts⟩ gL_returns_X2_stock hW hK hE hd hbk (v := G.2 2 0) (y_in 0 (N := 2) rfl (by decide) (by decide)) rfl hl.1 (Nat.le_of_ble_eq_true rfl) dL_returns_132 ⟨Nat.le_of_ble_eq_true rfl, Nat.le_of_ble_eq_true rfl⟩ ⟨Nat.le_of_ble_eq_true rfl, Nat.le_of_ble_eq_true rfl⟩ ?_
    refine lv_aload_n hx hb dL_returns_135 rfl (lv_at hl 7 rfl) ?_
    refine lv_iconst (v := 1) hx hb dL_returns_136 (by decide) ?_
    refine z_stock hlt ⟨hx, hb, hml, hown, hts⟩ gL_returns_X2_stock hW hK hE hd hbk (v := G.2 3 0) (y_in 1 (N := 2) rfl (by decide) (by decide)) rfl hl.1 (Nat.le_of_ble_eq_true rfl) dL_returns_137 ⟨Nat.le_of_ble_eq_true rfl, Nat.le_of_ble_eq_true rfl⟩ ⟨Nat.le_of_ble_eq_true rfl, Nat.le_of_ble_eq_true rfl⟩ ?_
    refine lv_iadd hx hb dL_returns_140 ?_
    refine lv_aload_n hx hb dL_returns_141 rfl (lv_at hl 7 rfl) ?_
    refine lv_iconst (v := 2) hx hb dL_returns_142 (by decide) ?_
    refine z_stock hlt ⟨hx, hb, hml, hown, hts⟩ gL_returns_X2_stock hW hK hE hd hbk (v := G.2 4 0) (y_in 2 (N := 2) rfl (by decide) (by decide)) rfl hl.1 (Nat.le_of_ble_eq_true rfl) dL_returns_143 ⟨Nat.le_of_ble_eq_true rfl, Nat.le_of_ble_eq_true rfl⟩ ⟨Nat.le_of_ble_eq_true rfl, Nat.le_of_ble_eq_true rfl⟩ ?_
    refine lv_iadd hx hb dL_returns_146 ?_
    refine lv_iload hx hb dL_returns_147 (lv_at hl 2 rfl) ?_
    refine lv_iload hx hb dL_returns_149 (lv_at hl 1 rfl) ?_
    refine lv_iconst (v := 3) hx hb dL_returns_151 (by decide) ?_
    refine lv_icmp_ne (tgt := 159) hx hb dL_returns_152 (by decide) (fun c152 => ?_) (fun c152 => ?_)
    · skip
      refine lv_iconst (v := 1) hx hb dL_returns_159 (by decide) ?_
      refine lv_iadd hx hb dL_returns_160 ?_
      refine lv_icmp_ne (tgt := 181) hx hb dL_returns_161 (by decide) (fun h9 => absurd (f5.trans (by rw [if_neg c152])) h9) (fun _ => ?_)
      refine lv_iload hx hb dL_returns_164 (lv_at hl 0 rfl) ?_
      refine lv_if_eq (tgt := 177) hx hb dL_returns_166 (by decide) (fun c166 => ?_) (fun c166 => ?_)
      · skip
        refine lv_iconst (v := 1) hx hb dL_returns_177 (by decide) ?_
        refine lv_goto (tgt := 182) hx hb dL_returns_178 (by decide) ?_
        exact y_wzret hx hb hr hlocks ⟨Nat.le_of_ble_eq_true rfl, Nat.le_of_ble_eq_true rfl⟩ hW hS (Or.inr rfl) ⟨rfl, Or.inl ⟨q2, by omega, by rw [hG]⟩⟩ dL_returns_182
      · skip
        refine lv_aload_n hx hb dL_returns_169 rfl (lv_at hl 7 rfl) ?_
        refine lv_iload_n hx hb dL_returns_170 rfl (lv_at hl 8 rfl) ?_
        refine z_isShortBy hlt ⟨hx, hb, hml, hown, hts⟩ gL_returns_X2_isShortBy hW hK hE hd hbk hC hk hl.1 (Nat.le_of_ble_eq_true rfl) dL_returns_171 ⟨Nat.le_of_ble_eq_true rfl, Nat.le_of_ble_eq_true rfl⟩ ⟨Nat.le_of_ble_eq_true rfl, Nat.le_of_ble_eq_true rfl⟩ ?_
        refine lv_if_ne (tgt := 181) hx hb dL_returns_174 (by decide) (fun h9 => absurd (f6.resolve_left c166) h9) (fun _ => ?_)
        refine lv_iconst (v := 1) hx hb dL_returns_177 (by decide) ?_
        refine lv_goto (tgt := 182) hx hb dL_returns_178 (by decide) ?_
        exact y_wzret hx hb hr hlocks ⟨Nat.le_of_ble_eq_true rfl, Nat.le_of_ble_eq_true rfl⟩ hW hS (Or.inr rfl) ⟨rfl, Or.inl ⟨q2, by omega, by rw [hG]⟩⟩ dL_returns_182
    · skip
      refine lv_iconst (v := 0) hx hb dL_returns_155 (by decide) ?_
      refine lv_goto (tgt := 160) hx hb dL_returns_156 (by decide) ?_
      refine lv_iadd hx hb dL_returns_160 ?_
      refine lv_icmp_ne (tgt := 181) hx hb dL_returns_161 (by decide) (fun h9 => absurd (f5.trans (by rw [if_pos c152])) h9) (fun _ => ?_)
      refine lv_iload hx hb dL_returns_164 (lv_at hl 0 rfl) ?_
      refine lv_if_eq (tgt := 177) hx hb dL_returns_166 (by decide) (fun c166 => ?_) (fun c166 => ?_)
      · skip
        refine lv_iconst (v := 1) hx hb dL_returns_177 (by decide) ?_
        refine lv_goto (tgt := 182) hx hb dL_returns_178 (by decide) ?_
        exact y_wzret hx hb hr hlocks ⟨Nat.le_of_ble_eq_true rfl, Nat.le_of_ble_eq_true rfl⟩ hW hS (Or.inr rfl) ⟨rfl, Or.inl ⟨q2, by omega, by rw [hG]⟩⟩ dL_returns_182
      · skip
        refine lv_aload_n hx hb dL_returns_169 rfl (lv_at hl 7 rfl) ?_
        refine lv_iload_n hx hb dL_returns_170 rfl (lv_at hl 8 rfl) ?_
        refine z_isShortBy hlt ⟨hx, hb, hml, hown, hts⟩ gL_returns_X2_isShortBy hW hK hE hd hbk hC hk hl.1 (Nat.le_of_ble_eq_true rfl) dL_returns_171 ⟨Nat.le_of_ble_eq_true rfl, Nat.le_of_ble_eq_true rfl⟩ ⟨Nat.le_of_ble_eq_true rfl, Nat.le_of_ble_eq_true rfl⟩ ?_
        refine lv_if_ne (tgt := 181) hx hb dL_returns_174 (by decide) (fun h9 => absurd (f6.resolve_left c166) h9) (fun _ => ?_)
        refine lv_iconst (v := 1) hx hb dL_returns_177 (by decide) ?_
        refine lv_goto (tgt := 182) hx hb dL_returns_178 (by decide) ?_
        exact y_wzret hx hb hr hlocks ⟨Nat.le_of_ble_eq_true rfl, Nat.le_of_ble_eq_true rfl⟩ hW hS (Or.inr rfl) ⟨rfl, Or.inl ⟨q2, by omega, by rw [hG]⟩⟩ dL_returns_182
  · skip
    refine lv_iload hx hb dL_returns_21 (lv_at hl 1 rfl) ?_
    refine lv_iconst (v := 2) hx hb dL_returns_23 (by decide) ?_
    refine lv_icmp_ne (tgt := 183) hx hb dL_returns_24 (by decide) (fun c24 => ?_) (fun c24 => ?_)
    · skip
      refine lv_aload_n hx hb dL_returns_183 rfl (lv_at hl 2 rfl) ?_
      refine lv_iload_n hx hb dL_returns_184 rfl (lv_at hl 3 rfl) ?_
      refine lv_iload_n hx hb dL_returns_185 rfl (lv_at hl 4 rfl) ?_
      refine lv_iload hx hb dL_returns_186 (lv_at hl 0 rfl) ?_
      refine z_mayComeBack hlt ⟨hx, hb, hml, hown, hts⟩ gL_returns_X2_mayComeBack hW hK hE hd hbk hC hk hj (y_in q1 (N := 1) rfl (by omega) (by decide)) hl.1 (Nat.le_of_ble_eq_true rfl) dL_returns_188 ⟨Nat.le_of_ble_eq_true rfl, Nat.le_of_ble_eq_true rfl⟩ ⟨Nat.le_of_ble_eq_true rfl, Nat.le_of_ble_eq_true rfl⟩ ?_
      refine lv_istore (lv' := [(6, .int (retX X k (8 * k + 0) (nI q1))), (5, .int (nI q1)), (4, .int (X 18 (8 * k + 0))), (0, .ref d), (1, .int (nI k)), (2, .int (nI 0)), (3, .int v)]) hx hb dL_returns_191 hl (by decide) rfl (fun ls hl => ?_)
      refine lv_iload_n hx hb dL_returns_193 rfl (lv_at hl 6 rfl) ?_
      refine lv_iconst (v := 5) hx hb dL_returns_194 (by decide) ?_
      refine lv_ishr hx hb dL_returns_195 ?_
      refine lv_iconst (v := 2) hx hb dL_returns_196 (by decide) ?_
      refine z_low ⟨hx, hb, hml, hown, hts⟩ gL_returns_L_low (N := 2) (by decide) (by decide) hl.1 (Nat.le_of_ble_eq_true rfl) dL_returns_197 ⟨Nat.le_of_ble_eq_true rfl, Nat.le_of_ble_eq_true rfl⟩ ⟨Nat.le_of_ble_eq_true rfl, Nat.le_of_ble_eq_true rfl⟩ (fun q3 hq3 => ?_)
      refine lv_if_ne (tgt := 214) hx hb dL_returns_200 (by decide) (fun c200 => ?_) (fun c200 => ?_)
      · skip
        refine lv_aload_n hx hb dL_returns_214 rfl (lv_at hl 3 rfl) ?_
        refine lv_iload_n hx hb dL_returns_215 rfl (lv_at hl 4 rfl) ?_
        refine lv_iload_n hx hb dL_returns_216 rfl (lv_at hl 5 rfl) ?_
        refine lv_iload hx hb dL_returns_217 (lv_at hl 1 rfl) ?_
        refine z_exchange hlt ⟨hx, hb, hml, hown, hts⟩ gL_returns_L_exchange hW hK hE hd hbk hI hO hS hA hC hk hj (y_in q1 (N := 1) rfl (by omega) (by decide)) hl.1 (Nat.le_of_ble_eq_true rfl) dL_returns_219 ⟨Nat.le_of_ble_eq_true rfl, Nat.le_of_ble_eq_true rfl⟩ ⟨Nat.le_of_ble_eq_true rfl, Nat.le_of_ble_eq_true rfl⟩ (fun r X9 H locs hp hW hz9 hk9 hS => ?_)
        rcases hp with ⟨hmay, rfl, rfl⟩ | ⟨rfl, hmay, hX⟩
        · skip
          have hE := hE0.S hO0 hS
          have hO : xO g hz H.size := ⟨hO0.1, Nat.le_trans hO0.2 hS.1⟩
          have hA : ∀ q, xA g H.size q → xA g s.heap.size q := fun q h => h.imp id (fun h => Nat.le_trans hS.1 h)
          have hC : xC g (swX X (8 * k + 0) (nI q1) 2) n kc := hC.same rfl (fun _ => rfl)
          refine lv_istore (lv' := [(7, .int (X 1 0 + 21)), (6, .int (retX X k (8 * k + 0) (nI q1))), (5, .int (nI q1)), (4, .int (X 18 (8 * k + 0))), (0, .ref d), (1, .int (nI k)), (2, .int (nI 0)), (3, .int v)]) hx hb dL_returns_222 hl (by decide) rfl (fun ls hl => ?_)
          refine lv_aload_n hx hb dL_returns_224 rfl (lv_at hl 4 rfl) ?_
          refine lv_iload_n hx hb dL_returns_225 rfl (lv_at hl 5 rfl) ?_
          refine lv_iload_n hx hb dL_returns_226 rfl (lv_at hl 6 rfl) ?_
          refine lv_iconst (v := 0) hx hb dL_returns_227 (by decide) ?_
          refine z_wgrade hlt ⟨hx, hb, hml, hown, hts⟩ gL_returns_L_grade hW hK hE hd hbk hI hO hS hA hC hk hj (p2 := 0) (y_in 0 (N := 3) rfl (by decide) (by decide)) hl.1 (Nat.le_of_ble_eq_true rfl) dL_returns_228 ⟨Nat.le_of_ble_eq_true rfl, Nat.le_of_ble_eq_true rfl⟩ ⟨Nat.le_of_ble_eq_true rfl, Nat.le_of_ble_eq_true rfl⟩ (fun r Y H locs hp hW hz9 hk9 hS => ?_)
          have hG : (r, Y) = gradeX (swX X (8 * k + 0) (nI q1) 2) k (kc k) (8 * k + 0) 0 := hp.elim (fun h => h.2) (fun h => absurd h.2.1 (wtX_sw _ _ _ _ (by decide)))
          have hf := gr_facts (swX X (8 * k + 0) (nI q1) 2) k (kc k) (8 * k + 0) 0
          have hC2 := gr_C hC k (kc k) (8 * k + 0) 0
          rw [← hG] at hf hC2
          obtain ⟨f1, f2, f3, f4, f5, f6, f7, f8⟩ := hf
          dsimp only at f1 f7 hC2
          have hE := hE0.S hO0 hS
          have hO : xO g hz H.size := ⟨hO0.1, Nat.le_trans hO0.2 hS.1⟩
          have hA : ∀ q, xA g H.size q → xA g s.heap.size q := fun q h => h.imp id (fun h => Nat.le_trans hS.1 h)
          have hC : xC g Y n kc := hC2
          refine lv_bipush (v := (-3)) hx hb dL_returns_231 (by decide) ?_
          refine lv_icmp_ne (tgt := 240) hx hb dL_returns_233 (by decide) (fun _ => ?_) (fun h9 => absurd h9 (fun h => f1 (by rw [h]; decide)))
          refine lv_iconst (v := 0) hx hb dL_returns_240 (by decide) ?_
          refine lv_iload hx hb dL_returns_241 (lv_at hl 1 rfl) ?_
          refine lv_if_ne (tgt := 250) hx hb dL_returns_243 (by decide) (fun _ => ?_) (fun h9 => absurd h9 hmay)
          refine lv_iconst (v := 0) hx hb dL_returns_250 (by decide) ?_
          refine lv_icmp_ne (tgt := 296) hx hb dL_returns_251 (by decide) (fun h9 => absurd (by decide) h9) (fun _ => ?_)
          refine lv_iload hx hb dL_returns_254 (lv_at hl 1 rfl) ?_
          refine lv_if_eq (tgt := 274) hx hb dL_returns_256 (by decide) (fun h9 => absurd h9 hmay) (fun _ => ?_)
          refine lv_iload hx hb dL_returns_259 (lv_at hl 0 rfl) ?_
          refine lv_aload_n hx hb dL_returns_261 rfl (lv_at hl 4 rfl) ?_
          refine z_day hlt ⟨hx, hb, hml, hown, hts⟩ gL_returns_X2_day hW hK hE hd hbk hl.1 (Nat.le_of_ble_eq_true rfl) dL_returns_262 ⟨Nat.le_of_ble_eq_true rfl, Nat.le_of_ble_eq_true rfl⟩ ⟨Nat.le_of_ble_eq_true rfl, Nat.le_of_ble_eq_true rfl⟩ ?_
          refine lv_bipush (v := 21) hx hb dL_returns_265 (by decide) ?_
          refine lv_iadd hx hb dL_returns_267 ?_
          refine lv_icmp_ne (tgt := 296) hx hb dL_returns_268 (by decide) (fun h9 => absurd (by rw [f7]; rfl) h9) (fun _ => ?_)
          refine lv_goto (tgt := 292) hx hb dL_returns_271 (by decide) ?_
          refine lv_iconst (v := 1) hx hb dL_returns_292 (by decide) ?_
          refine lv_goto (tgt := 297) hx hb dL_returns_293 (by decide) ?_
          exact y_wzret hx hb hr hlocks ⟨Nat.le_of_ble_eq_true rfl, Nat.le_of_ble_eq_true rfl⟩ hW hS (Or.inr rfl) ⟨rfl, Or.inr (Or.inr ⟨q1, 2, by omega, by decide, hmay, by rw [← hG]⟩)⟩ dL_returns_297
        · skip
          have hX := hX.symm
          subst hX
          have hE := hE0.S hO0 hS
          have hO : xO g hz H.size := ⟨hO0.1, Nat.le_trans hO0.2 hS.1⟩
          have hA : ∀ q, xA g H.size q → xA g s.heap.size q := fun q h => h.imp id (fun h => Nat.le_trans hS.1 h)
          have hC : xC g X n kc := hC
          refine lv_istore (lv' := [(7, .int (-3)), (6, .int (retX X k (8 * k + 0) (nI q1))), (5, .int (nI q1)), (4, .int (X 18 (8 * k + 0))), (0, .ref d), (1, .int (nI k)), (2, .int (nI 0)), (3, .int v)]) hx hb dL_returns_222 hl (by decide) rfl (fun ls hl => ?_)
          refine lv_aload_n hx hb dL_returns_224 rfl (lv_at hl 4 rfl) ?_
          refine lv_iload_n hx hb dL_returns_225 rfl (lv_at hl 5 rfl) ?_
          refine lv_iload_n hx hb dL_returns_226 rfl (lv_at hl 6 rfl) ?_
          refine lv_iconst (v := 0) hx hb dL_returns_227 (by decide) ?_
          refine z_wgrade hlt ⟨hx, hb, hml, hown, hts⟩ gL_returns_L_grade hW hK hE hd hbk hI hO hS hA hC hk hj (p2 := 0) (y_in 0 (N := 3) rfl (by decide) (by decide)) hl.1 (Nat.le_of_ble_eq_true rfl) dL_returns_228 ⟨Nat.le_of_ble_eq_true rfl, Nat.le_of_ble_eq_true rfl⟩ ⟨Nat.le_of_ble_eq_true rfl, Nat.le_of_ble_eq_true rfl⟩ (fun r Y H locs hp hW hz9 hk9 hS => ?_)
          obtain ⟨rfl, hX⟩ : r = -3 ∧ X = Y := hp.elim (fun h => absurd (by unfold wtX; rw [if_neg c18, if_neg c24]) h.1) (fun h => ⟨h.1, h.2.2.symm⟩)
          subst hX
          have hE := hE0.S hO0 hS
          have hO : xO g hz H.size := ⟨hO0.1, Nat.le_trans hO0.2 hS.1⟩
          have hA : ∀ q, xA g H.size q → xA g s.heap.size q := fun q h => h.imp id (fun h => Nat.le_trans hS.1 h)
          have hC : xC g X n kc := hC
          refine lv_bipush (v := (-3)) hx hb dL_returns_231 (by decide) ?_
          refine lv_icmp_ne (tgt := 240) hx hb dL_returns_233 (by decide) (fun h9 => absurd rfl h9) (fun _ => ?_)
          refine lv_iconst (v := 1) hx hb dL_returns_236 (by decide) ?_
          refine lv_goto (tgt := 241) hx hb dL_returns_237 (by decide) ?_
          refine lv_iload hx hb dL_returns_241 (lv_at hl 1 rfl) ?_
          refine lv_if_ne (tgt := 250) hx hb dL_returns_243 (by decide) (fun h9 => absurd hmay h9) (fun _ => ?_)
          refine lv_iconst (v := 1) hx hb dL_returns_246 (by decide) ?_
          refine lv_goto (tgt := 251) hx hb dL_returns_247 (by decide) ?_
          refine lv_icmp_ne (tgt := 296) hx hb dL_returns_251 (by decide) (fun h9 => absurd (by decide) h9) (fun _ => ?_)
          refine lv_iload hx hb dL_returns_254 (lv_at hl 1 rfl) ?_
          refine lv_if_eq (tgt := 274) hx hb dL_returns_256 (by decide) (fun _ => ?_) (fun h9 => absurd hmay h9)
          refine lv_iload hx hb dL_returns_274 (lv_at hl 0 rfl) ?_
          refine lv_bipush (v := (-3)) hx hb dL_returns_276 (by decide) ?_
          refine lv_icmp_ne (tgt := 296) hx hb dL_returns_278 (by decide) (fun h9 => absurd (by decide) h9) (fun _ => ?_)
          refine lv_aload_n hx hb dL_returns_281 rfl (lv_at hl 4 rfl) ?_
          refine lv_iload_n hx hb dL_returns_282 rfl (lv_at hl 5 rfl) ?_
          refine lv_iload_n hx hb dL_returns_283 rfl (lv_at hl 6 rfl) ?_
          refine z_state hlt ⟨hx, hb, hml, hown, hts⟩ gL_returns_X2_state hW hK hE hd hbk hC hk hj hl.1 (Nat.le_of_ble_eq_true rfl) dL_returns_284 ⟨Nat.le_of_ble_eq_true rfl, Nat.le_of_ble_eq_true rfl⟩ ⟨Nat.le_of_ble_eq_true rfl, Nat.le_of_ble_eq_true rfl⟩ ?_
          refine lv_iload hx hb dL_returns_287 (lv_at hl 3 rfl) ?_
          refine lv_icmp_ne (tgt := 296) hx hb dL_returns_289 (by decide) (fun h9 => absurd rfl h9) (fun _ => ?_)
          refine lv_iconst (v := 1) hx hb dL_returns_292 (by decide) ?_
          refine lv_goto (tgt := 297) hx hb dL_returns_293 (by decide) ?_
          exact y_wzret hx hb hr hlocks ⟨Nat.le_of_ble_eq_true rfl, Nat.le_of_ble_eq_true rfl⟩ hW hS (Or.inr rfl) ⟨rfl, Or.inr (Or.inl rfl)⟩ dL_returns_297
      · skip
        refine lv_aload_n hx hb dL_returns_203 rfl (lv_at hl 3 rfl) ?_
        refine lv_iload_n hx hb dL_returns_204 rfl (lv_at hl 4 rfl) ?_
        refine lv_iload_n hx hb dL_returns_205 rfl (lv_at hl 5 rfl) ?_
        refine lv_iload hx hb dL_returns_206 (lv_at hl 1 rfl) ?_
        refine z_ask hlt ⟨hx, hb, hml, hown, hts⟩ gL_returns_L_ask hW hK hE hd hbk hI hO hS hA hC hk hj (y_in q1 (N := 1) rfl (by omega) (by decide)) hl.1 (Nat.le_of_ble_eq_true rfl) dL_returns_208 ⟨Nat.le_of_ble_eq_true rfl, Nat.le_of_ble_eq_true rfl⟩ ⟨Nat.le_of_ble_eq_true rfl, Nat.le_of_ble_eq_true rfl⟩ (fun r X9 H locs hp hW hz9 hk9 hS => ?_)
        rcases hp with ⟨hmay, rfl, rfl⟩ | ⟨rfl, hmay, hX⟩
        · skip
          have hE := hE0.S hO0 hS
          have hO : xO g hz H.size := ⟨hO0.1, Nat.le_trans hO0.2 hS.1⟩
          have hA : ∀ q, xA g H.size q → xA g s.heap.size q := fun q h => h.imp id (fun h => Nat.le_trans hS.1 h)
          have hC : xC g (swX X (8 * k + 0) (nI q1) 1) n kc := hC.same rfl (fun _ => rfl)
          refine lv_goto (tgt := 222) hx hb dL_returns_211 (by decide) ?_
          refine lv_istore (lv' := [(7, .int (X 1 0 + 21)), (6, .int (retX X k (8 * k + 0) (nI q1))), (5, .int (nI q1)), (4, .int (X 18 (8 * k + 0))), (0, .ref d), (1, .int (nI k)), (2, .int (nI 0)), (3, .int v)]) hx hb dL_returns_222 hl (by decide) rfl (fun ls hl => ?_)
          refine lv_aload_n hx hb dL_returns_224 rfl (lv_at hl 4 rfl) ?_
          refine lv_iload_n hx hb dL_returns_225 rfl (lv_at hl 5 rfl) ?_
          refine lv_iload_n hx hb dL_returns_226 rfl (lv_at hl 6 rfl) ?_
          refine lv_iconst (v := 0) hx hb dL_returns_227 (by decide) ?_
          refine z_wgrade hlt ⟨hx, hb, hml, hown, hts⟩ gL_returns_L_grade hW hK hE hd hbk hI hO hS hA hC hk hj (p2 := 0) (y_in 0 (N := 3) rfl (by decide) (by decide)) hl.1 (Nat.le_of_ble_eq_true rfl) dL_returns_228 ⟨Nat.le_of_ble_eq_true rfl, Nat.le_of_ble_eq_true rfl⟩ ⟨Nat.le_of_ble_eq_true rfl, Nat.le_of_ble_eq_true rfl⟩ (fun r Y H locs hp hW hz9 hk9 hS => ?_)
          have hG : (r, Y) = gradeX (swX X (8 * k + 0) (nI q1) 1) k (kc k) (8 * k + 0) 0 := hp.elim (fun h => h.2) (fun h => absurd h.2.1 (wtX_sw _ _ _ _ (by decide)))
          have hf := gr_facts (swX X (8 * k + 0) (nI q1) 1) k (kc k) (8 * k + 0) 0
          have hC2 := gr_C hC k (kc k) (8 * k + 0) 0
          rw [← hG] at hf hC2
          obtain ⟨f1, f2, f3, f4, f5, f6, f7, f8⟩ := hf
          dsimp only at f1 f7 hC2
          have hE := hE0.S hO0 hS
          have hO : xO g hz H.size := ⟨hO0.1, Nat.le_trans hO0.2 hS.1⟩
          have hA : ∀ q, xA g H.size q → xA g s.heap.size q := fun q h => h.imp id (fun h => Nat.le_trans hS.1 h)
          have hC : xC g Y n kc := hC2
          refine lv_bipush (v := (-3)) hx hb dL_returns_231 (by decide) ?_
          refine lv_icmp_ne (tgt := 240) hx hb dL_returns_233 (by decide) (fun _ => ?_) (fun h9 => absurd h9 (fun h => f1 (by rw [h]; decide)))
          refine lv_iconst (v := 0) hx hb dL_returns_240 (by decide) ?_
          refine lv_iload hx hb dL_returns_241 (lv_at hl 1 rfl) ?_
          refine lv_if_ne (tgt := 250) hx hb dL_returns_243 (by decide) (fun _ => ?_) (fun h9 => absurd h9 hmay)
          refine lv_iconst (v := 0) hx hb dL_returns_250 (by decide) ?_
          refine lv_icmp_ne (tgt := 296) hx hb dL_returns_251 (by decide) (fun h9 => absurd (by decide) h9) (fun _ => ?_)
          refine lv_iload hx hb dL_returns_254 (lv_at hl 1 rfl) ?_
          refine lv_if_eq (tgt := 274) hx hb dL_returns_256 (by decide) (fun h9 => absurd h9 hmay) (fun _ => ?_)
          refine lv_iload hx hb dL_returns_259 (lv_at hl 0 rfl) ?_
          refine lv_aload_n hx hb dL_returns_261 rfl (lv_at hl 4 rfl) ?_
          refine z_day hlt ⟨hx, hb, hml, hown, hts⟩ gL_returns_X2_day hW hK hE hd hbk hl.1 (Nat.le_of_ble_eq_true rfl) dL_returns_262 ⟨Nat.le_of_ble_eq_true rfl, Nat.le_of_ble_eq_true rfl⟩ ⟨Nat.le_of_ble_eq_true rfl, Nat.le_of_ble_eq_true rfl⟩ ?_
          refine lv_bipush (v := 21) hx hb dL_returns_265 (by decide) ?_
          refine lv_iadd hx hb dL_returns_267 ?_
          refine lv_icmp_ne (tgt := 296) hx hb dL_returns_268 (by decide) (fun h9 => absurd (by rw [f7]; rfl) h9) (fun _ => ?_)
          refine lv_goto (tgt := 292) hx hb dL_returns_271 (by decide) ?_
          refine lv_iconst (v := 1) hx hb dL_returns_292 (by decide) ?_
          refine lv_goto (tgt := 297) hx hb dL_returns_293 (by decide) ?_
          exact y_wzret hx hb hr hlocks ⟨Nat.le_of_ble_eq_true rfl, Nat.le_of_ble_eq_true rfl⟩ hW hS (Or.inr rfl) ⟨rfl, Or.inr (Or.inr ⟨q1, 1, by omega, by decide, hmay, by rw [← hG]⟩)⟩ dL_returns_297
        · skip
          have hX := hX.symm
          subst hX
          have hE := hE0.S hO0 hS
          have hO : xO g hz H.size := ⟨hO0.1, Nat.le_trans hO0.2 hS.1⟩
          have hA : ∀ q, xA g H.size q → xA g s.heap.size q := fun q h => h.imp id (fun h => Nat.le_trans hS.1 h)
          have hC : xC g X n kc := hC
          refine lv_goto (tgt := 222) hx hb dL_returns_211 (by decide) ?_
          refine lv_istore (lv' := [(7, .int (-3)), (6, .int (retX X k (8 * k + 0) (nI q1))), (5, .int (nI q1)), (4, .int (X 18 (8 * k + 0))), (0, .ref d), (1, .int (nI k)), (2, .int (nI 0)), (3, .int v)]) hx hb dL_returns_222 hl (by decide) rfl (fun ls hl => ?_)
          refine lv_aload_n hx hb dL_returns_224 rfl (lv_at hl 4 rfl) ?_
          refine lv_iload_n hx hb dL_returns_225 rfl (lv_at hl 5 rfl) ?_
          refine lv_iload_n hx hb dL_returns_226 rfl (lv_at hl 6 rfl) ?_
          refine lv_iconst (v := 0) hx hb dL_returns_227 (by decide) ?_
          refine z_wgrade hlt ⟨hx, hb, hml, hown, hts⟩ gL_returns_L_grade hW hK hE hd hbk hI hO hS hA hC hk hj (p2 := 0) (y_in 0 (N := 3) rfl (by decide) (by decide)) hl.1 (Nat.le_of_ble_eq_true rfl) dL_returns_228 ⟨Nat.le_of_ble_eq_true rfl, Nat.le_of_ble_eq_true rfl⟩ ⟨Nat.le_of_ble_eq_true rfl, Nat.le_of_ble_eq_true rfl⟩ (fun r Y H locs hp hW hz9 hk9 hS => ?_)
          obtain ⟨rfl, hX⟩ : r = -3 ∧ X = Y := hp.elim (fun h => absurd (by unfold wtX; rw [if_neg c18, if_neg c24]) h.1) (fun h => ⟨h.1, h.2.2.symm⟩)
          subst hX
          have hE := hE0.S hO0 hS
          have hO : xO g hz H.size := ⟨hO0.1, Nat.le_trans hO0.2 hS.1⟩
          have hA : ∀ q, xA g H.size q → xA g s.heap.size q := fun q h => h.imp id (fun h => Nat.le_trans hS.1 h)
          have hC : xC g X n kc := hC
          refine lv_bipush (v := (-3)) hx hb dL_returns_231 (by decide) ?_
          refine lv_icmp_ne (tgt := 240) hx hb dL_returns_233 (by decide) (fun h9 => absurd rfl h9) (fun _ => ?_)
          refine lv_iconst (v := 1) hx hb dL_returns_236 (by decide) ?_
          refine lv_goto (tgt := 241) hx hb dL_returns_237 (by decide) ?_
          refine lv_iload hx hb dL_returns_241 (lv_at hl 1 rfl) ?_
          refine lv_if_ne (tgt := 250) hx hb dL_returns_243 (by decide) (fun h9 => absurd hmay h9) (fun _ => ?_)
          refine lv_iconst (v := 1) hx hb dL_returns_246 (by decide) ?_
          refine lv_goto (tgt := 251) hx hb dL_returns_247 (by decide) ?_
          refine lv_icmp_ne (tgt := 296) hx hb dL_returns_251 (by decide) (fun h9 => absurd (by decide) h9) (fun _ => ?_)
          refine lv_iload hx hb dL_returns_254 (lv_at hl 1 rfl) ?_
          refine lv_if_eq (tgt := 274) hx hb dL_returns_256 (by decide) (fun _ => ?_) (fun h9 => absurd hmay h9)
          refine lv_iload hx hb dL_returns_274 (lv_at hl 0 rfl) ?_
          refine lv_bipush (v := (-3)) hx hb dL_returns_276 (by decide) ?_
          refine lv_icmp_ne (tgt := 296) hx hb dL_returns_278 (by decide) (fun h9 => absurd (by decide) h9) (fun _ => ?_)
          refine lv_aload_n hx hb dL_returns_281 rfl (lv_at hl 4 rfl) ?_
          refine lv_iload_n hx hb dL_returns_282 rfl (lv_at hl 5 rfl) ?_
          refine lv_iload_n hx hb dL_returns_283 rfl (lv_at hl 6 rfl) ?_
          refine z_state hlt ⟨hx, hb, hml, hown, hts⟩ gL_returns_X2_state hW hK hE hd hbk hC hk hj hl.1 (Nat.le_of_ble_eq_true rfl) dL_returns_284 ⟨Nat.le_of_ble_eq_true rfl, Nat.le_of_ble_eq_true rfl⟩ ⟨Nat.le_of_ble_eq_true rfl, Nat.le_of_ble_eq_true rfl⟩ ?_
          refine lv_iload hx hb dL_returns_287 (lv_at hl 3 rfl) ?_
          refine lv_icmp_ne (tgt := 296) hx hb dL_returns_289 (by decide) (fun h9 => absurd rfl h9) (fun _ => ?_)
          refine lv_iconst (v := 1) hx hb dL_returns_292 (by decide) ?_
          refine lv_goto (tgt := 297) hx hb dL_returns_293 (by decide) ?_
          exact y_wzret hx hb hr hlocks ⟨Nat.le_of_ble_eq_true rfl, Nat.le_of_ble_eq_true rfl⟩ hW hS (Or.inr rfl) ⟨rfl, Or.inr (Or.inl rfl)⟩ dL_returns_297
    · skip
      refine lv_aload_n hx hb dL_returns_27 rfl (lv_at hl 2 rfl) ?_
      refine lv_iload_n hx hb dL_returns_28 rfl (lv_at hl 3 rfl) ?_
      refine z_all hlt ⟨hx, hb, hml, hown, hts⟩ gL_returns_L_all hW hK hE hd hbk hC hk hl.1 (Nat.le_of_ble_eq_true rfl) dL_returns_29 ⟨Nat.le_of_ble_eq_true rfl, Nat.le_of_ble_eq_true rfl⟩ ⟨Nat.le_of_ble_eq_true rfl, Nat.le_of_ble_eq_true rfl⟩ ?_
      refine lv_istore (lv' := [(6, .int (takenX X k)), (5, .int (nI q1)), (4, .int (X 18 (8 * k + 0))), (0, .ref d), (1, .int (nI k)), (2, .int (nI 0)), (3, .int v)]) hx hb dL_returns_32 hl (by decide) rfl (fun ls hl => ?_)
      refine lv_aload_n hx hb dL_returns_34 rfl (lv_at hl 3 rfl) ?_
      refine lv_iload_n hx hb dL_returns_35 rfl (lv_at hl 4 rfl) ?_
      refine z_refunded hlt ⟨hx, hb, hml, hown, hts⟩ gL_returns_X2_refunded hW hK hE hd hbk hC hk hl.1 (Nat.le_of_ble_eq_true rfl) dL_returns_36 ⟨Nat.le_of_ble_eq_true rfl, Nat.le_of_ble_eq_true rfl⟩ ⟨Nat.le_of_ble_eq_true rfl, Nat.le_of_ble_eq_true rfl⟩ ?_
      refine lv_istore (lv' := [(7, .int (X 12 k)), (6, .int (takenX X k)), (5, .int (nI q1)), (4, .int (X 18 (8 * k + 0))), (0, .ref d), (1, .int (nI k)), (2, .int (nI 0)), (3, .int v)]) hx hb dL_returns_39 hl (by decide) rfl (fun ls hl => ?_)
      refine lv_aload_n hx hb dL_returns_41 rfl (lv_at hl 4 rfl) ?_
      refine lv_iconst (v := 0) hx hb dL_returns_42 (by decide) ?_
      refine z_stock hlt ⟨hx, hb, hml, hown, hts⟩ gL_returns_X2_stock hW hK hE hd hbk (v := X 2 0) (y_in 0 (N := 2) rfl (by decide) (by decide)) rfl hl.1 (Nat.le_of_ble_eq_true rfl) dL_returns_43 ⟨Nat.le_of_ble_eq_true rfl, Nat.le_of_ble_eq_true rfl⟩ ⟨Nat.le_of_ble_eq_true rfl, Nat.le_of_ble_eq_true rfl⟩ ?_
      refine lv_aload_n hx hb dL_returns_46 rfl (lv_at hl 4 rfl) ?_
      refine lv_iconst (v := 1) hx hb dL_returns_47 (by decide) ?_
      refine z_stock hlt ⟨hx, hb, hml, hown, hts⟩ gL_returns_X2_stock hW hK hE hd hbk (v := X 3 0) (y_in 1 (N := 2) rfl (by decide) (by decide)) rfl hl.1 (Nat.le_of_ble_eq_true rfl) dL_returns_48 ⟨Nat.le_of_ble_eq_true rfl, Nat.le_of_ble_eq_true rfl⟩ ⟨Nat.le_of_ble_eq_true rfl, Nat.le_of_ble_eq_true rfl⟩ ?_
      refine lv_iadd hx hb dL_returns_51 ?_
      refine lv_aload_n hx hb dL_returns_52 rfl (lv_at hl 4 rfl) ?_
      refine lv_iconst (v := 2) hx hb dL_returns_53 (by decide) ?_
      refine z_stock hlt ⟨hx, hb, hml, hown, hts⟩ gL_returns_X2_stock hW hK hE hd hbk (v := X 4 0) (y_in 2 (N := 2) rfl (by decide) (by decide)) rfl hl.1 (Nat.le_of_ble_eq_true rfl) dL_returns_54 ⟨Nat.le_of_ble_eq_true rfl, Nat.le_of_ble_eq_true rfl⟩ ⟨Nat.le_of_ble_eq_true rfl, Nat.le_of_ble_eq_true rfl⟩ ?_
      refine lv_iadd hx hb dL_returns_57 ?_
      refine lv_istore (lv' := [(8, .int (((X 2 0) + (X 3 0)) + (X 4 0))), (7, .int (X 12 k)), (6, .int (takenX X k)), (5, .int (nI q1)), (4, .int (X 18 (8 * k + 0))), (0, .ref d), (1, .int (nI k)), (2, .int (nI 0)), (3, .int v)]) hx hb dL_returns_58 hl (by decide) rfl (fun ls hl => ?_)
      refine lv_iload_n hx hb dL_returns_60 rfl (lv_at hl 8 rfl) ?_
      refine lv_iconst (v := 3) hx hb dL_returns_61 (by decide) ?_
      refine lv_ishr hx hb dL_returns_62 ?_
      refine lv_iconst (v := 4) hx hb dL_returns_63 (by decide) ?_
      refine z_low ⟨hx, hb, hml, hown, hts⟩ gL_returns_L_low (N := 4) (by decide) (by decide) hl.1 (Nat.le_of_ble_eq_true rfl) dL_returns_64 ⟨Nat.le_of_ble_eq_true rfl, Nat.le_of_ble_eq_true rfl⟩ ⟨Nat.le_of_ble_eq_true rfl, Nat.le_of_ble_eq_true rfl⟩ (fun q4 hq4 => ?_)
      refine lv_istore (lv' := [(9, .int (nI q4)), (8, .int (((X 2 0) + (X 3 0)) + (X 4 0))), (7, .int (X 12 k)), (6, .int (takenX X k)), (5, .int (nI q1)), (4, .int (X 18 (8 * k + 0))), (0, .ref d), (1, .int (nI k)), (2, .int (nI 0)), (3, .int v)]) hx hb dL_returns_67 hl (by decide) rfl (fun ls hl => ?_)
      refine lv_aload_n hx hb dL_returns_69 rfl (lv_at hl 6 rfl) ?_
      refine lv_iload_n hx hb dL_returns_70 rfl (lv_at hl 7 rfl) ?_
      refine lv_iload_n hx hb dL_returns_71 rfl (lv_at hl 8 rfl) ?_
      refine lv_iload hx hb dL_returns_72 (lv_at hl 0 rfl) ?_
      refine z_grade hlt ⟨hx, hb, hml, hown, hts⟩ gL_returns_X2_grade hW hK hE hd hbk hI hO hS hA hC hk hj (y_in q4 (N := 3) rfl (by omega) (by decide)) (by unfold wtX; rw [if_neg c18, if_pos c24]; decide) hl.1 (Nat.le_of_ble_eq_true rfl) dL_returns_74 ⟨Nat.le_of_ble_eq_true rfl, Nat.le_of_ble_eq_true rfl⟩ ⟨Nat.le_of_ble_eq_true rfl, Nat.le_of_ble_eq_true rfl⟩ (fun H locs hW hz9 hk9 hS => ?_)
      have hf := gr_facts X k (kc k) (8 * k + 0) (nI q4)
      have hC2 := gr_C hC k (kc k) (8 * k + 0) (nI q4)
      generalize hG : gradeX X k (kc k) (8 * k + 0) (nI q4) = G at hW hf hC2 ⊢
      obtain ⟨f1, f2, f3, f4, f5, f6, f7, f8⟩ := hf
      have hE := hE0.S hO0 hS
      have hO : xO g hz H.size := ⟨hO0.1, Nat.le_trans hO0.2 hS.1⟩
      have hA : ∀ q, xA g H.size q → xA g s.heap.size q := fun q h => h.imp id (fun h => Nat.le_trans hS.1 h)
      have hC : xC g G.2 n kc := hC2
      refine lv_istore (lv' := [(10, .int G.1), (9, .int (nI q4)), (8, .int (((X 2 0) + (X 3 0)) + (X 4 0))), (7, .int (X 12 k)), (6, .int (takenX X k)), (5, .int (nI q1)), (4, .int (X 18 (8 * k + 0))), (0, .ref d), (1, .int (nI k)), (2, .int (nI 0)), (3, .int v)]) hx hb dL_returns_77 hl (by decide) rfl (fun ls hl => ?_)
      refine lv_iload hx hb dL_returns_79 (lv_at hl 0 rfl) ?_
      refine lv_if_lt (tgt := 181) hx hb dL_returns_81 (by decide) (fun h9 => absurd h9 f1) (fun _ => ?_)
      refine lv_aload_n hx hb dL_returns_84 rfl (lv_at hl 7 rfl) ?_
      refine lv_iload_n hx hb dL_returns_85 rfl (lv_at hl 8 rfl) ?_
      refine z_all hlt ⟨hx, hb, hml, hown, hts⟩ gL_returns_L_all hW hK hE hd hbk hC hk hl.1 (Nat.le_of_ble_eq_true rfl) dL_returns_86 ⟨Nat.le_of_ble_eq_true rfl, Nat.le_of_ble_eq_true rfl⟩ ⟨Nat.le_of_ble_eq_true rfl, Nat.le_of_ble_eq_true rfl⟩ ?_
      refine lv_iload hx hb dL_returns_89 (lv_at hl 4 rfl) ?_
      refine lv_iload hx hb dL_returns_91 (lv_at hl 0 rfl) ?_
      refine lv_isub hx hb dL_returns_93 ?_
      refine lv_icmp_ne (tgt := 181) hx hb dL_returns_94 (by decide) (fun h9 => absurd f2 h9) (fun _ => ?_)
      refine lv_aload_n hx hb dL_returns_97 rfl (lv_at hl 7 rfl) ?_
      refine lv_iload_n hx hb dL_returns_98 rfl (lv_at hl 8 rfl) ?_
      refine z_refunded hlt ⟨hx, hb, hml, hown, hts⟩ gL_returns_X2_refunded hW hK hE hd hbk hC hk hl.1 (Nat.le_of_ble_eq_true rfl) dL_returns_99 ⟨Nat.le_of_ble_eq_true rfl, Nat.le_of_ble_eq_true rfl⟩ ⟨Nat.le_of_ble_eq_true rfl, Nat.le_of_ble_eq_true rfl⟩ ?_
      refine lv_iload hx hb dL_returns_102 (lv_at hl 3 rfl) ?_
      refine lv_iload hx hb dL_returns_104 (lv_at hl 0 rfl) ?_
      refine lv_iadd hx hb dL_returns_106 ?_
      refine lv_icmp_ne (tgt := 181) hx hb dL_returns_107 (by decide) (fun h9 => absurd f3 h9) (fun _ => ?_)
      refine lv_aload_n hx hb dL_returns_110 rfl (lv_at hl 7 rfl) ?_
      refine lv_iload_n hx hb dL_returns_111 rfl (lv_at hl 8 rfl) ?_
      refine lv_iload_n hx hb dL_returns_112 rfl (lv_at hl 9 rfl) ?_
      refine z_state hlt ⟨hx, hb, hml, hown, hts⟩ gL_returns_X2_state hW hK hE hd hbk hC hk hj hl.1 (Nat.le_of_ble_eq_true rfl) dL_returns_113 ⟨Nat.le_of_ble_eq_true rfl, Nat.le_of_ble_eq_true rfl⟩ ⟨Nat.le_of_ble_eq_true rfl, Nat.le_of_ble_eq_true rfl⟩ ?_
      refine lv_iload hx hb dL_returns_116 (lv_at hl 6 rfl) ?_
      refine lv_iconst (v := 1) hx hb dL_returns_118 (by decide) ?_
      refine lv_icmp_ne (tgt := 126) hx hb dL_returns_119 (by decide) (fun _ => ?_) (fun h9 => absurd h9 c18)
      refine lv_iconst (v := 0) hx hb dL_returns_126 (by decide) ?_
      refine lv_icmp_ne (tgt := 181) hx hb dL_returns_127 (by decide) (fun h9 => absurd (f4.trans (if_neg c18)) h9) (fun _ => ?_)
      refine lv_aload_n hx hb dL_returns_130 rfl (lv_at hl 7 rfl) ?_
      refine lv_iconst (v := 0) hx hb dL_returns_131 (by decide) ?_
      refine z_stock hlt ⟨hx, hb, hml, hown, hts⟩ gL_returns_X2_stock hW hK hE hd hbk (v := G.2 2 0) (y_in 0 (N := 2) rfl (by decide) (by decide)) rfl hl.1 (Nat.le_of_ble_eq_true rfl) dL_returns_132 ⟨Nat.le_of_ble_eq_true rfl, Nat.le_of_ble_eq_true rfl⟩ ⟨Nat.le_of_ble_eq_true rfl, Nat.le_of_ble_eq_true rfl⟩ ?_
      refine lv_aload_n hx hb dL_returns_135 rfl (lv_at hl 7 rfl) ?_
      refine lv_iconst (v := 1) hx hb dL_returns_136 (by decide) ?_
      refine z_stock hlt ⟨hx, hb, hml, hown, hts⟩ gL_returns_X2_stock hW hK hE hd hbk (v := G.2 3 0) (y_in 1 (N := 2) rfl (by decide) (by decide)) rfl hl.1 (Nat.le_of_ble_eq_true rfl) dL_returns_137 ⟨Nat.le_of_ble_eq_true rfl, Nat.le_of_ble_eq_true rfl⟩ ⟨Nat.le_of_ble_eq_true rfl, Nat.le_of_ble_eq_true rfl⟩ ?_
      refine lv_iadd hx hb dL_returns_140 ?_
      refine lv_aload_n hx hb dL_returns_141 rfl (lv_at hl 7 rfl) ?_
      refine lv_iconst (v := 2) hx hb dL_returns_142 (by decide) ?_
      refine z_stock hlt ⟨hx, hb, hml, hown, hts⟩ gL_returns_X2_stock hW hK hE hd hbk (v := G.2 4 0) (y_in 2 (N := 2) rfl (by decide) (by decide)) rfl hl.1 (Nat.le_of_ble_eq_true rfl) dL_returns_143 ⟨Nat.le_of_ble_eq_true rfl, Nat.le_of_ble_eq_true rfl⟩ ⟨Nat.le_of_ble_eq_true rfl, Nat.le_of_ble_eq_true rfl⟩ ?_
      refine lv_iadd hx hb dL_returns_146 ?_
      refine lv_iload hx hb dL_returns_147 (lv_at hl 2 rfl) ?_
      refine lv_iload hx hb dL_returns_149 (lv_at hl 1 rfl) ?_
      refine lv_iconst (v := 3) hx hb dL_returns_151 (by decide) ?_
      refine lv_icmp_ne (tgt := 159) hx hb dL_returns_152 (by decide) (fun c152 => ?_) (fun c152 => ?_)
      · skip
        refine lv_iconst (v := 1) hx hb dL_returns_159 (by decide) ?_
        refine lv_iadd hx hb dL_returns_160 ?_
        refine lv_icmp_ne (tgt := 181) hx hb dL_returns_161 (by decide) (fun h9 => absurd (f5.trans (by rw [if_neg c152])) h9) (fun _ => ?_)
        refine lv_iload hx hb dL_returns_164 (lv_at hl 0 rfl) ?_
        refine lv_if_eq (tgt := 177) hx hb dL_returns_166 (by decide) (fun c166 => ?_) (fun c166 => ?_)
        · skip
          refine lv_iconst (v := 1) hx hb dL_returns_177 (by decide) ?_
          refine lv_goto (tgt := 182) hx hb dL_returns_178 (by decide) ?_
          exact y_wzret hx hb hr hlocks ⟨Nat.le_of_ble_eq_true rfl, Nat.le_of_ble_eq_true rfl⟩ hW hS (Or.inr rfl) ⟨rfl, Or.inl ⟨q4, by omega, by rw [hG]⟩⟩ dL_returns_182
        · skip
          refine lv_aload_n hx hb dL_returns_169 rfl (lv_at hl 7 rfl) ?_
          refine lv_iload_n hx hb dL_returns_170 rfl (lv_at hl 8 rfl) ?_
          refine z_isShortBy hlt ⟨hx, hb, hml, hown, hts⟩ gL_returns_X2_isShortBy hW hK hE hd hbk hC hk hl.1 (Nat.le_of_ble_eq_true rfl) dL_returns_171 ⟨Nat.le_of_ble_eq_true rfl, Nat.le_of_ble_eq_true rfl⟩ ⟨Nat.le_of_ble_eq_true rfl, Nat.le_of_ble_eq_true rfl⟩ ?_
          refine lv_if_ne (tgt := 181) hx hb dL_returns_174 (by decide) (fun h9 => absurd (f6.resolve_left c166) h9) (fun _ => ?_)
          refine lv_iconst (v := 1) hx hb dL_returns_177 (by decide) ?_
          refine lv_goto (tgt := 182) hx hb dL_returns_178 (by decide) ?_
          exact y_wzret hx hb hr hlocks ⟨Nat.le_of_ble_eq_true rfl, Nat.le_of_ble_eq_true rfl⟩ hW hS (Or.inr rfl) ⟨rfl, Or.inl ⟨q4, by omega, by rw [hG]⟩⟩ dL_returns_182
      · skip
        refine lv_iconst (v := 0) hx hb dL_returns_155 (by decide) ?_
        refine lv_goto (tgt := 160) hx hb dL_returns_156 (by decide) ?_
        refine lv_iadd hx hb dL_returns_160 ?_
        refine lv_icmp_ne (tgt := 181) hx hb dL_returns_161 (by decide) (fun h9 => absurd (f5.trans (by rw [if_pos c152])) h9) (fun _ => ?_)
        refine lv_iload hx hb dL_returns_164 (lv_at hl 0 rfl) ?_
        refine lv_if_eq (tgt := 177) hx hb dL_returns_166 (by decide) (fun c166 => ?_) (fun c166 => ?_)
        · skip
          refine lv_iconst (v := 1) hx hb dL_returns_177 (by decide) ?_
          refine lv_goto (tgt := 182) hx hb dL_returns_178 (by decide) ?_
          exact y_wzret hx hb hr hlocks ⟨Nat.le_of_ble_eq_true rfl, Nat.le_of_ble_eq_true rfl⟩ hW hS (Or.inr rfl) ⟨rfl, Or.inl ⟨q4, by omega, by rw [hG]⟩⟩ dL_returns_182
        · skip
          refine lv_aload_n hx hb dL_returns_169 rfl (lv_at hl 7 rfl) ?_
          refine lv_iload_n hx hb dL_returns_170 rfl (lv_at hl 8 rfl) ?_
          refine z_isShortBy hlt ⟨hx, hb, hml, hown, hts⟩ gL_returns_X2_isShortBy hW hK hE hd hbk hC hk hl.1 (Nat.le_of_ble_eq_true rfl) dL_returns_171 ⟨Nat.le_of_ble_eq_true rfl, Nat.le_of_ble_eq_true rfl⟩ ⟨Nat.le_of_ble_eq_true rfl, Nat.le_of_ble_eq_true rfl⟩ ?_
          refine lv_if_ne (tgt := 181) hx hb dL_returns_174 (by decide) (fun h9 => absurd (f6.resolve_left c166) h9) (fun _ => ?_)
          refine lv_iconst (v := 1) hx hb dL_returns_177 (by decide) ?_
          refine lv_goto (tgt := 182) hx hb dL_returns_178 (by decide) ?_
          exact y_wzret hx hb hr hlocks ⟨Nat.le_of_ble_eq_true rfl, Nat.le_of_ble_eq_true rfl⟩ hW hS (Or.inr rfl) ⟨rfl, Or.inl ⟨q4, by omega, by rw [hG]⟩⟩ dL_returns_182
end
section
/-! ROWS: the law's calls of sums and returns. -/
section ZRows2
variable {p : Program} {l : Launch} {e : Env} {R : Room} {s : State} {m : MethodId} {args : Array Value} {below : List Frame} {meth : Method} {c : Code} {H : Heap} {locs : List Loc} {cells slots : Nat} {Q : State → Prop}
variable {cc : ByteArray} {pc nL ix : Nat} {ls : Array Slot} {rest : List Value} {D : va_G} {cI cO cL cJ : ClassId} {H0 : Heap} {A : Nat → Prop} {g : XG} {X : MS} {hz sz mc ms n : Nat} {kc : Nat → Nat} {d bk : Nat} {cond : String → Prop} {Ts : List Cond} {own : String}
theorem z_sums (hlt : l.stackTraces = false) (S : CallFix p m c cc nL s args Ts RL) (hT : GoodIn Ts (va_wsS RL ix yL_sums wsL_sums)) (hW : xW D cO cL g X H) (hK : KK D cI cO cL cJ s) (hE : xE hz s H) (hd : g 3 0 = some d) (hbk : g 4 0 = some bk) (hC : xC g X n kc) {k : Nat} (hk : k < n) {pv : Int32} (hs : SOK X k (kc k) pv) (hls : ls.size = nL) (hrest : (rest.map fun v => v.category).sum ≤ 8) (hdg : decode cc pc = .ok (.invokestatic ix, 3)) (hR : 10 ≤ R.frames ∧ 173 ≤ R.locals) (hcs : cells + 21 ≤ R.cells ∧ slots + 126 ≤ R.slots)
    (kk : W p l e R s m args below meth c H locs (cells + 21) (slots + 126) Q (F0 m (pc + 3) ls (.int 1 :: rest))) : W p l e R s m args below meth c H locs cells slots Q (F0 m pc ls (.int pv :: .int (nI k) :: .ref d :: rest)) := by
  refine y_sI (va_runS (As := [.ref d, .int (nI k), .int pv]) (rest := rest) S (kL_sums l hlt g X hz _ d bk hd hbk n kc hC k hk pv hs) (va_cwS 3 S.2.2.2.2 hT rfl rfl rfl (by decide +kernel) hR) (x_preS hW hK hE) rfl rfl hls rfl (lv_room hrest) hdg hcs) (fun r hr => ?_)
  subst hr
  exact kk
theorem z_returns (hlt : l.stackTraces = false) (S : CallFix p m c cc nL s args Ts RL) (hT : GoodIn Ts (va_wsS RL ix yL_returns wsL_returns)) (hW : xW D cO cL g X H) (hK : KK D cI cO cL cJ s) (hE : xE hz s H) (hd : g 3 0 = some d) (hbk : g 4 0 = some bk) (hI : xI g) (hO : xO g hz H.size) (hS : va_S A H0 H locs) (hA : ∀ q, xA g H.size q → A q) (hC : xC g X n kc) {k : Nat} (hk : k < n) (hj : 0 < kc k) {v : Int32} (hls : ls.size = nL) (hrest : (rest.map fun v => v.category).sum ≤ 8) (hdg : decode cc pc = .ok (.invokestatic ix, 3)) (hR : 11 ≤ R.frames ∧ 207 ≤ R.locals) (hcs : cells + 29 ≤ R.cells ∧ slots + 174 ≤ R.slots)
    (kk : ∀ (X9 : MS) (H1 : Heap) (locs1 : List Loc), (RetTo X k (kc k) X9) → xW D cO cL g X9 H1 → H.size ≤ H1.size → (∀ q : Nat, q < H.size → ¬ xA g H.size q → H1[q]? = H[q]?) → va_S A H0 H1 locs1 → W p l e R s m args below meth c H1 locs1 (cells + 29) (slots + 174) Q (F0 m (pc + 3) ls (.int 1 :: rest))) : W p l e R s m args below meth c H locs cells slots Q (F0 m pc ls (.int v :: .int (nI 0) :: .int (nI k) :: .ref d :: rest)) := by
  refine y_sWI (va_runS (As := [.ref d, .int (nI k), .int (nI 0), .int v]) (rest := rest) S (kL_returns l hlt g X hz _ hI hO d bk hd hbk n kc hC k hk hj v) (va_cwS 4 S.2.2.2.2 hT rfl rfl rfl (by decide +kernel) hR) (x_preS hW hK hE) rfl rfl hls rfl (lv_room hrest) hdg hcs) hS hA (fun r X9 H1 locs1 hp hW1 hz1 hk1 hS1 => ?_)
  obtain ⟨rfl, hp⟩ := hp
  exact kk X9 H1 locs1 hp hW1 hz1 hk1 hS1
end ZRows2
end
section
/-! BOUNDS, and what goes on with new orders and lines. -/
def Bd (x : Int32) (b : Nat) : Prop := ∃ v : Nat, v ≤ b ∧ x = nI v
theorem Bd.mono {x : Int32} {a b : Nat} (h : Bd x a) (hb : a ≤ b) : Bd x b := h.imp fun _ h => ⟨Nat.le_trans h.1 hb, h.2⟩
theorem Bd.add {x y : Int32} {a b : Nat} (h : Bd x a) (h' : Bd y b) : Bd (x + y) (a + b) := by
  obtain ⟨v, hv, rfl⟩ := h
  obtain ⟨w, hw, rfl⟩ := h'
  exact ⟨v + w, by omega, nI_add v w⟩
theorem Bd.zero (b : Nat) : Bd 0 b := ⟨0, by omega, nI_0.symm⟩
theorem inR_of {p : Int32} {N : Nat} {x : Int32} (h : inR p 0 x) (hN : N < 2 ^ 31) (hx : x = nI N) : ∃ z : Nat, z ≤ N ∧ p = nI z := by
  subst hx
  obtain ⟨j, hj, rfl⟩ := nI_of h.1
  refine ⟨j, ?_, rfl⟩
  have := h.2
  rw [nI_ltI hN hj] at this
  omega
theorem inR1_of {p : Int32} {N : Nat} {x : Int32} (h : inR p 1 x) (hN : N < 2 ^ 31) (hx : x = nI N) : ∃ z : Nat, z ≤ N ∧ p = nI z := by
  refine inR_of ⟨fun z => h.1 ?_, h.2⟩ hN hx
  have h1 := Int32.lt_iff_toInt_lt.mp z
  refine Int32.lt_iff_toInt_lt.mpr ?_
  have e0 : (0 : Int32).toInt = 0 := by decide
  have e1 : (1 : Int32).toInt = 1 := by decide
  rw [e0] at h1
  rw [e1]
  omega
section Shape
variable {g : XG} {X : MS} {n : Nat} {kc : Nat → Nat}
theorem xC.ord (hC : xC g X n kc) (hZ : xZ g n) {qo la : Nat} {p0 p1 : Int32} (hn : n < 30) : xC (gOrd g n qo la) (mu (xNewO X n p0 p1) 0 0 (nI (n + 1))) (n + 1) (fun k => if k = n then 0 else kc k) ∧ xZ (gOrd g n qo la) (n + 1) := by
  obtain ⟨c1, c2, c3, c4⟩ := hC
  refine ⟨⟨by omega, rfl, ?_, ?_⟩, ?_, ?_, ?_⟩
  · intro k hk
    by_cases e : k = n
    · subst e; simp [gOrd]
    · have := c3 k hk
      simp only [gOrd, e, and_false, if_false]
      rw [this]; omega
  · intro k hk
    by_cases e : k = n
    · subst e
      refine ⟨by simp, by simp [xNewO, mu_e]; exact nI_0.symm, ⟨la, by simp [gOrd]⟩, fun j hj => ?_⟩
      simp [gOrd, hZ.2.1 (8 * k + j) (by omega)]
    · obtain ⟨h1, h2, ⟨z, h3⟩, h4⟩ := c4 k (by omega)
      refine ⟨by simp [e, h1], by simp [xNewO, mu_e, e, h2], ⟨z, by simp [gOrd, e, h3]⟩, fun j hj => ?_⟩
      have := h4 j hj
      simp [gOrd, e, this]
  · intro t i a ht h
    rcases gOrd_key h with ⟨h1, _, _⟩ | ⟨h1, _, _⟩ | ⟨h1, _, _⟩
    · omega
    · omega
    · exact hZ.1 t i a ht h1
  · intro i hi
    have := hZ.2.1 i (by omega)
    simp [gOrd, this]
  · intro i a h
    rcases gOrd_key h with ⟨h1, _, _⟩ | ⟨_, h1, _⟩ | ⟨h1, _, _⟩
    · omega
    · omega
    · have := hZ.2.2 i a h1; omega
theorem xC.add (hC : xC g X n kc) (hZ : xZ g n) {k al : Nat} {p1 p2 : Int32} (hk : k < n) (h8 : kc k < 8) : xC (gMov (gLine g 300 al) (8 * k + kc k) al) (mu (xMov (xNewL X 300 p1 p2) (8 * k + kc k)) 7 k (nI (kc k + 1))) n (fun i => if i = k then kc k + 1 else kc i) ∧ xZ (gMov (gLine g 300 al) (8 * k + kc k) al) n := by
  obtain ⟨c1, c2, c3, c4⟩ := hC
  refine ⟨⟨c1, by simpa [xMov, xNewL, mu_e] using c2, ?_, ?_⟩, ?_, ?_, ?_⟩
  · intro i hi
    have := c3 i hi
    simpa [gMov, gLine] using this
  · intro i hi
    obtain ⟨h1, h2, ⟨z, h3⟩, h4⟩ := c4 i hi
    by_cases e : i = k
    · subst e
      refine ⟨by simp; omega, by simp [mu_e], ⟨z, by simp [gMov, gLine, h3]⟩, fun j hj => ?_⟩
      have h5 : ¬ (8 * i + j = 300) := by omega
      by_cases ej : j = kc i
      · subst ej; simp [gMov, gLine]
      · have := h4 j hj
        simp only [gMov, gLine, h5, and_false, if_false, true_and, if_true]
        rw [if_neg (by omega), this]
        omega
    · refine ⟨by simp [e, h1], by simp [xMov, xNewL, mu_e, e, h2], ⟨z, by simp [gMov, gLine, h3]⟩, fun j hj => ?_⟩
      have h5 : ¬ (8 * i + j = 300) := by omega
      have h6 : ¬ (8 * i + j = 8 * k + kc k) := by omega
      have := h4 j hj
      simp only [gMov, gLine, h5, h6, and_false, if_false, e]
      exact this
  · intro t i a ht h
    rcases gMov_key h with ⟨h1, _, _⟩ | ⟨h1, _, _⟩
    · omega
    · rcases gLine_key h1 with ⟨h1, _, _⟩ | ⟨h1, _⟩
      · omega
      · exact hZ.1 t i a ht h1
  · intro i hi
    have := hZ.2.1 i hi
    have h6 : ¬ (i = 8 * k + kc k) := by omega
    simp only [gMov, gLine, h6, and_false, if_false]
    by_cases e : i = 300
    · simp [e]
    · simp [e, this]
  · intro i a h
    rcases gMov_key h with ⟨h1, _, _⟩ | ⟨h1, _, _⟩
    · omega
    · rcases gLine_key h1 with ⟨h1, _, _⟩ | ⟨h1, _⟩
      · omega
      · exact hZ.2.2 i a h1
end Shape
end
section
/-! WHAT HOLDS OF AN ORDER, with bounds. -/
theorem maxsub {x y : Nat} (hx : x < 2 ^ 30) (hy : y < 2 ^ 30) : maxI (nI x - nI y) 0 = nI (x - y) := by
  unfold maxI
  by_cases h : x < y
  · rw [if_pos (pk_sneg hy h), show x - y = 0 by omega]; exact nI_0.symm
  · rw [pk_sub (by omega), if_neg (nI_pos (by omega))]
theorem min_nI {x y : Nat} (hx : x < 2 ^ 31) (hy : y < 2 ^ 31) : minI (nI x) (nI y) = nI (min x y) := by
  unfold minI
  by_cases h : y < x
  · rw [if_pos ((nI_ltI hy hx).mpr h), Nat.min_eq_right (by omega)]
  · rw [if_neg (fun z => h ((nI_ltI hy hx).mp z)), Nat.min_eq_left (by omega)]
def lO (X : MS) (a : Nat) : Prop := ∃ v, 1 ≤ v ∧ v ≤ 100000 ∧ X 16 a = nI v
def oB (c f : Nat) (X : MS) (k : Nat) : Prop := Bd (X 10 k) f ∧ Bd (X 11 k) c ∧ ∃ a b p r : Nat, X 13 k = nI a ∧ X 14 k = nI b ∧ X 15 k = nI p ∧ X 12 k = nI r ∧ a + b + p + r ≤ 800000 + c
def oU (X : MS) (k kk : Nat) : Prop := (X 8 k = 1 ∧ 0 < kk) ∨ (X 8 k = 0 ∧ X 10 k = 0 ∧ X 12 k = 0 ∧ X 13 k = 0 ∧ X 14 k = 0 ∧ X 15 k = 0 ∧ ∀ j, j < kk → X 18 (8 * k + j) = 0)
def OK (c f : Nat) (X : MS) (k kk : Nat) : Prop := Bd (X 5 k) 90 ∧ oB c f X k ∧ oU X k kk ∧ ∀ j, j < kk → lO X (8 * k + j)
theorem OK.congr {c f c' f' : Nat} {X X' : MS} {k kk : Nat} (h : OK c f X k kk) (hc : c ≤ c') (hf : f ≤ f') (h5 : ∀ f, 5 ≤ f → f ≤ 15 → f ≠ 7 → f ≠ 9 → X' f k = X f k) (h16 : ∀ j, j < kk → X' 16 (8 * k + j) = X 16 (8 * k + j) ∧ X' 18 (8 * k + j) = X 18 (8 * k + j)) : OK c' f' X' k kk := by
  obtain ⟨a1, ⟨b1, b2, a, b, p, r, e1, e2, e3, e4, hb⟩, a3, a4⟩ := h
  have g : ∀ f, 5 ≤ f → f ≤ 15 → f ≠ 7 → f ≠ 9 → X' f k = X f k := h5
  refine ⟨by rw [g 5 (by decide) (by decide) (by decide) (by decide)]; exact a1, ⟨by rw [g 10 (by decide) (by decide) (by decide) (by decide)]; exact b1.mono hf, by rw [g 11 (by decide) (by decide) (by decide) (by decide)]; exact b2.mono hc, a, b, p, r, by rw [g 13 (by decide) (by decide) (by decide) (by decide)]; exact e1, by rw [g 14 (by decide) (by decide) (by decide) (by decide)]; exact e2, by rw [g 15 (by decide) (by decide) (by decide) (by decide)]; exact e3, by rw [g 12 (by decide) (by decide) (by decide) (by decide)]; exact e4, by omega⟩, ?_, ?_⟩
  · rcases a3 with ⟨h1, h2⟩ | ⟨h1, h2, h3, h4, h5, h6, h7⟩
    · exact Or.inl ⟨by rw [g 8 (by decide) (by decide) (by decide) (by decide)]; exact h1, h2⟩
    · exact Or.inr ⟨by rw [g 8 (by decide) (by decide) (by decide) (by decide)]; exact h1, by rw [g 10 (by decide) (by decide) (by decide) (by decide)]; exact h2, by rw [g 12 (by decide) (by decide) (by decide) (by decide)]; exact h3, by rw [g 13 (by decide) (by decide) (by decide) (by decide)]; exact h4, by rw [g 14 (by decide) (by decide) (by decide) (by decide)]; exact h5, by rw [g 15 (by decide) (by decide) (by decide) (by decide)]; exact h6, fun j hj => (h16 j hj).2.trans (h7 j hj)⟩
  · intro j hj
    obtain ⟨v, h1, h2, h3⟩ := a4 j hj
    exact ⟨v, h1, h2, (h16 j hj).1.trans h3⟩
theorem OK.mono {c f c' f' : Nat} {X : MS} {k kk : Nat} (h : OK c f X k kk) (hc : c ≤ c') (hf : f ≤ f') : OK c' f' X k kk := h.congr hc hf (fun _ _ _ _ _ => rfl) (fun _ _ => ⟨rfl, rfl⟩)
theorem sum_of {X : MS} {k : Nat} : ∀ kk, (∀ j, j < kk → lO X (8 * k + j)) → ∃ s, s ≤ 100000 * kk ∧ sumX X k kk = nI s ∧ ∀ i, i < kk → ¬ X 18 (8 * k + i) = 3 → 1 ≤ s := by
  intro kk
  induction kk with
  | zero => intro _; exact ⟨0, by omega, nI_0.symm, fun i hi => absurd hi (Nat.not_lt_zero i)⟩
  | succ j ih =>
    intro h
    obtain ⟨s, h1, h2, h3⟩ := ih (fun i hi => h i (by omega))
    obtain ⟨v, v1, v2, v3⟩ := h j (by omega)
    show ∃ s', s' ≤ 100000 * (j + 1) ∧ (if X 18 (8 * k + j) = 3 then sumX X k j else sumX X k j + X 16 (8 * k + j)) = nI s' ∧ _
    by_cases h9 : X 18 (8 * k + j) = 3
    · refine ⟨s, by omega, by rw [if_pos h9]; exact h2, fun i hi hn => ?_⟩
      by_cases e : i = j
      · subst e; exact absurd h9 hn
      · exact h3 i (by omega) hn
    · exact ⟨s + v, by omega, by rw [if_neg h9, h2, v3]; exact nI_add s v, fun i hi hn => by omega⟩
theorem price_of {X : MS} {k kk : Nat} (hl : ∀ j, j < kk → lO X (8 * k + j)) (h8 : kk ≤ 8) (hp : Bd (X 5 k) 90) : ∃ P, P ≤ 800000 ∧ priceX X k kk = nI P ∧ ∀ i, i < kk → ¬ X 18 (8 * k + i) = 3 → 1 ≤ P := by
  obtain ⟨s, hs, e, h3⟩ := sum_of kk hl
  obtain ⟨p, hp, e2⟩ := hp
  unfold priceX
  rw [e, e2]
  by_cases hlt : nI s < X 6 k
  · exact ⟨s, by omega, by rw [if_pos hlt], h3⟩
  · have h1 : s * p ≤ 800000 * 90 := Nat.mul_le_mul (by omega) hp
    have h2 : s * p ≤ s * 90 := Nat.mul_le_mul (Nat.le_refl _) hp
    have h4 : s * p / 100 ≤ s := by omega
    refine ⟨s - s * p / 100, by omega, ?_, fun i hi hn => ?_⟩
    · rw [if_neg hlt, pk_mul, show (100 : Int32) = nI 100 by rfl, pk_div (by omega) (by decide) (by decide), pk_sub h4]
    · have := h3 i hi hn
      omega
theorem price_0 (X : MS) (k : Nat) : priceX X k 0 = 0 := by
  show (if (0 : Int32) < X 6 k then (0 : Int32) else 0 - 0 * X 5 k / 100) = 0
  split
  · rfl
  · rw [Int32.zero_mul]; decide
theorem OK.sok {c f : Nat} {X : MS} {k kk : Nat} (h : OK c f X k kk) (h8 : kk ≤ 8) (hc : c ≤ 100000000) (hf : f ≤ 100000000) {pv : Int32} (hpv : (pv = 1 ∧ X 8 k = 1) ∨ (pv = 0 ∧ X 8 k = 0)) : SOK X k kk pv := by
  obtain ⟨a1, ⟨⟨fe, hfe, e10⟩, ⟨ch, hch, e11⟩, a, b, p, r, e1, e2, e3, e4, hb⟩, a3, a4⟩ := h
  obtain ⟨P, hP, eP, -⟩ := price_of a4 h8 a1
  have eO : owedX X k kk = nI (P + fe + ch) := by unfold owedX; rw [eP, e10, e11, nI_add, nI_add]
  have eT : takenX X k = nI (a + b + p) := by unfold takenX; rw [e1, e2, e3, nI_add, nI_add]
  refine ⟨⟨by rw [e1]; exact nI_pos (by omega), by rw [e2]; exact nI_pos (by omega), by rw [e3]; exact nI_pos (by omega), by rw [e4]; exact nI_pos (by omega), by rw [e10]; exact nI_pos (by omega), by rw [e11]; exact nI_pos (by omega)⟩, ?_⟩
  rcases hpv with ⟨rfl, h1⟩ | ⟨rfl, h1⟩
  · have eS : shX X k kk = nI (P + fe + ch - (a + b + p)) := by
      unfold shX
      rw [if_neg (by rw [h1]; decide), eO, eT, maxsub (by omega) (by omega)]
    by_cases hle : P + fe + ch ≤ a + b + p
    · exact Or.inr (Or.inl ⟨rfl, by rw [eO, eT]; exact nI_le hle (by omega), by rw [eS, show P + fe + ch - (a + b + p) = 0 by omega]; rfl⟩)
    · exact Or.inr (Or.inr ⟨rfl, by rw [eO, eT]; exact nI_ge (by omega) (by omega), by rw [eS, eO, eT, pk_sub (by omega)]⟩)
  · rcases a3 with ⟨h2, -⟩ | ⟨-, h2, h3, h4, h5, h6, -⟩
    · rw [h1] at h2; exact absurd h2 (by decide)
    · exact Or.inl ⟨rfl, by unfold shX; rw [if_pos h1], by unfold takenX; rw [h4, h5, h6]; rfl, h3, h2⟩
/-- a refund keeps the account in bounds -/
theorem OK.refund {c f : Nat} {Z : MS} {k kk : Nat} (h : OK c f Z k kk) (h8 : kk ≤ 8) (hc : c ≤ 100000000) (hf : f ≤ 100000000) (hpd : Z 8 k = 1) : OK c f (refundX Z k kk).2 k kk := by
  obtain ⟨a1, ⟨⟨fe, hfe, e10⟩, ⟨ch, hch, e11⟩, a, b, p, r, e1, e2, e3, e4, hb⟩, a3, a4⟩ := h
  obtain ⟨P, hP, eP, -⟩ := price_of a4 h8 a1
  have eO : owedX Z k kk = nI (P + fe + ch) := by unfold owedX; rw [eP, e10, e11, nI_add, nI_add]
  have eT : takenX Z k = nI (a + b + p) := by unfold takenX; rw [e1, e2, e3, nI_add, nI_add]
  have eS : surX Z k kk = nI (a + b + p - (P + fe + ch)) := by unfold surX; rw [eO, eT, maxsub (by omega) (by omega)]
  generalize hs : a + b + p - (P + fe + ch) = s at eS
  have hs2 : s ≤ a + b + p := by omega
  have wA : rfA Z k kk = nI (min s a) := by unfold rfA; rw [eS, e1, min_nI (by omega) (by omega)]
  have wB : rfB Z k kk = nI (min (s - min s a) b) := by unfold rfB; rw [eS, wA, e2, pk_sub (by omega), min_nI (by omega) (by omega)]
  have o : ∀ {f : Nat} (i : Nat), f ≠ 12 ∧ f ≠ 13 ∧ f ≠ 14 ∧ f ≠ 15 → (refundX Z k kk).2 f i = Z f i := fun i h => refundX_o Z k kk i h
  refine ⟨by rw [o k (by decide)]; exact a1, ⟨by rw [o k (by decide)]; exact ⟨fe, hfe, e10⟩, by rw [o k (by decide)]; exact ⟨ch, hch, e11⟩, a - min s a, b - min (s - min s a) b, p - (s - min s a - min (s - min s a) b), r + s, ?_, ?_, ?_, ?_, by omega⟩, ?_, fun j hj => ?_⟩
  · unfold refundX; simp only [mu_e]; simp; rw [wA, e1, pk_sub (by omega)]
  · unfold refundX; simp only [mu_e]; simp; rw [wB, e2, pk_sub (by omega)]
  · unfold refundX; simp only [mu_e]; simp; rw [eS, wA, wB, e3, pk_sub (by omega), pk_sub (by omega), pk_sub (by omega)]
  · unfold refundX; simp only [mu_e]; simp; rw [eS, e4]; exact nI_add r s
  · rcases a3 with ⟨h1, h2⟩ | ⟨h1, -⟩
    · exact Or.inl ⟨by rw [o k (by decide)]; exact h1, h2⟩
    · rw [hpd] at h1; exact absurd h1 (by decide)
  · obtain ⟨v, h1, h2, h3⟩ := a4 j hj
    exact ⟨v, h1, h2, by rw [o _ (by decide)]; exact h3⟩
theorem fee_bd {X : MS} {a : Nat} (h : lO X a) (w : Int32) : Bd (feeX X a w) 100500 := by
  obtain ⟨v, hv1, hv, e⟩ := h
  have h2 : Bd (gfX2 X a w) 100000 := by
    unfold gfX2
    rw [e]
    split
    · split
      · exact ⟨v / 2, by omega, pk_div (a := v) (d := 2) (by omega) (by decide) (by decide)⟩
      · exact ⟨v / 5, by omega, pk_div (a := v) (d := 5) (by omega) (by decide) (by decide)⟩
    · exact ⟨v, hv, rfl⟩
  have h3 : Bd (gfX X a w) 100000 := by
    unfold gfX
    split
    · exact Bd.zero _
    · split
      · split
        · exact h2
        · exact Bd.zero _
      · exact h2
  have h5 : Bd (500 : Int32) 500 := ⟨500, by omega, rfl⟩
  unfold feeX
  split
  · exact (h5.add h3).mono (by omega)
  · exact ((Bd.zero 0).add h3).mono (by omega)
theorem OK.mid {c f : Nat} {X : MS} {k kk j : Nat} (h : OK c f X k kk) (hj : j < kk) (hpd : X 8 k = 1) (w : Int32) : OK c (f + 100500) (gMidX X k (8 * k + j) w) k kk := by
  obtain ⟨a1, ⟨b1, b2, a, b, p, r, e1, e2, e3, e4, hb⟩, a3, a4⟩ := h
  have g : ∀ {f : Nat} (i : Nat), 5 ≤ f → f ≠ 10 → f ≠ 18 → gMidX X k (8 * k + j) w f i = X f i := fun i h h2 h3 => gMidX_hi _ _ _ _ i h h2 h3
  have e10 : gMidX X k (8 * k + j) w 10 k = X 10 k + feeX X (8 * k + j) w := by
    unfold gMidX
    rw [mu_f _ _ _ _ (by decide), putX_hi _ _ _ _ (by decide), mu_s]
  refine ⟨by rw [g k (by decide) (by decide) (by decide)]; exact a1, ⟨by rw [e10]; exact b1.add (fee_bd (a4 j hj) w), by rw [g k (by decide) (by decide) (by decide)]; exact b2, a, b, p, r, by rw [g k (by decide) (by decide) (by decide)]; exact e1, by rw [g k (by decide) (by decide) (by decide)]; exact e2, by rw [g k (by decide) (by decide) (by decide)]; exact e3, by rw [g k (by decide) (by decide) (by decide)]; exact e4, hb⟩, ?_, fun i hi => ?_⟩
  · exact Or.inl ⟨by rw [g k (by decide) (by decide) (by decide)]; exact hpd, by omega⟩
  · obtain ⟨v, h1, h2, h3⟩ := a4 i hi
    exact ⟨v, h1, h2, by rw [g _ (by decide) (by decide) (by decide)]; exact h3⟩
theorem OK.grade {c f : Nat} {X : MS} {k kk j : Nat} (h : OK c f X k kk) (h8 : kk ≤ 8) (hj : j < kk) (hpd : X 8 k = 1) (hc : c ≤ 100000000) (hf : f + 100500 ≤ 100000000) (w : Int32) : OK c (f + 100500) (gradeX X k kk (8 * k + j) w).2 k kk := by
  rw [gradeX_mid]
  exact (h.mid hj hpd w).refund h8 hc hf (by rw [gMidX_hi _ _ _ _ _ (by decide) (by decide) (by decide)]; exact hpd)
theorem OK.wait {c f : Nat} {X : MS} {k kk a : Nat} (h : OK c f X k kk) (hpd : X 8 k = 1) (q z : Int32) : OK c f (swX X a q z) k kk := by
  obtain ⟨a1, a2, a3, a4⟩ := h
  have h0 : 0 < kk := by
    rcases a3 with ⟨-, h⟩ | ⟨h, -⟩
    · exact h
    · rw [hpd] at h; exact absurd h (by decide)
  exact ⟨a1, a2, Or.inl ⟨hpd, h0⟩, a4⟩
end
section
/-! WHAT HOLDS OF ALL ORDERS; order, add, pay. -/
theorem OK.new {c f : Nat} {X : MS} {n : Nat} {p0 p1 v : Int32} (h0 : inR p0 0 90) : OK c f (mu (xNewO X n p0 p1) 0 0 v) n 0 := by
  obtain ⟨q, hq, rfl⟩ := inR_of h0 (N := 90) (by decide) rfl
  have z : ∀ f, 7 ≤ f → f ≤ 15 → (mu (xNewO X n (nI q) p1) 0 0 v) f n = 0 := by
    intro f h7 h15
    rcases (show f = 7 ∨ f = 8 ∨ f = 9 ∨ f = 10 ∨ f = 11 ∨ f = 12 ∨ f = 13 ∨ f = 14 ∨ f = 15 by omega) with rfl | rfl | rfl | rfl | rfl | rfl | rfl | rfl | rfl <;> simp [xNewO, mu_e]
  refine ⟨⟨q, hq, by simp [xNewO, mu_e]⟩, ⟨by rw [z 10 (by decide) (by decide)]; exact Bd.zero _, by rw [z 11 (by decide) (by decide)]; exact Bd.zero _, 0, 0, 0, 0, (z 13 (by decide) (by decide)).trans nI_0.symm, (z 14 (by decide) (by decide)).trans nI_0.symm, (z 15 (by decide) (by decide)).trans nI_0.symm, (z 12 (by decide) (by decide)).trans nI_0.symm, by omega⟩, Or.inr ⟨z 8 (by decide) (by decide), z 10 (by decide) (by decide), z 12 (by decide) (by decide), z 13 (by decide) (by decide), z 14 (by decide) (by decide), z 15 (by decide) (by decide), fun j hj => absurd hj (Nat.not_lt_zero j)⟩, fun j hj => absurd hj (Nat.not_lt_zero j)⟩
theorem xNewO_fr {X : MS} {n : Nat} {p0 p1 v : Int32} {f i : Nat} (h : f ≠ 0) (h2 : i ≠ n ∨ 16 ≤ f ∨ f < 5) : (mu (xNewO X n p0 p1) 0 0 v) f i = X f i := by
  rw [mu_f _ _ _ _ h]
  unfold xNewO
  simp only [mu_e]
  rcases h2 with h2 | h2 | h2
  · simp [h2]
  · simp [show f ≠ 5 by omega, show f ≠ 6 by omega, show f ≠ 7 by omega, show f ≠ 8 by omega, show f ≠ 9 by omega, show f ≠ 10 by omega, show f ≠ 11 by omega, show f ≠ 12 by omega, show f ≠ 13 by omega, show f ≠ 14 by omega, show f ≠ 15 by omega]
  · simp [show f ≠ 5 by omega, show f ≠ 6 by omega, show f ≠ 7 by omega, show f ≠ 8 by omega, show f ≠ 9 by omega, show f ≠ 10 by omega, show f ≠ 11 by omega, show f ≠ 12 by omega, show f ≠ 13 by omega, show f ≠ 14 by omega, show f ≠ 15 by omega]
/-- the state behind a new line -/
def addX (X : MS) (k kk : Nat) (p1 p2 : Int32) : MS := mu (xMov (xNewL X 300 p1 p2) (8 * k + kk)) 7 k (nI (kk + 1))
theorem addX_fr {X : MS} {k kk : Nat} {p1 p2 : Int32} {f i : Nat} (h : f < 16 ∨ (i ≠ 8 * k + kk ∧ i ≠ 300)) (h7 : f ≠ 7 ∨ i ≠ k) : addX X k kk p1 p2 f i = X f i := by
  unfold addX xMov xNewL
  simp only [mu_e]
  have e7 : ¬ (f = 7 ∧ i = k) := fun z => h7.elim (fun h => h z.1) (fun h => h z.2)
  rcases h with h | ⟨h1, h2⟩
  · by_cases hf : f = 7
    · have hi : i ≠ k := fun z => e7 ⟨hf, z⟩
      subst hf
      simp [hi]
    · simp [hf, show f ≠ 16 by omega, show f ≠ 17 by omega, show f ≠ 18 by omega, show f ≠ 19 by omega, show f ≠ 20 by omega]
  · by_cases hf : f = 7
    · have hi : i ≠ k := fun z => e7 ⟨hf, z⟩
      subst hf
      simp [hi]
    · simp [hf, h1, h2]
theorem addX_new {X : MS} {k kk : Nat} {p1 p2 : Int32} : addX X k kk p1 p2 16 (8 * k + kk) = p1 ∧ addX X k kk p1 p2 18 (8 * k + kk) = 0 := by
  unfold addX xMov xNewL
  constructor <;> simp [mu_e]
theorem OK.add {c f : Nat} {X : MS} {k kk : Nat} (h : OK c f X k kk) (hop : X 8 k = 0) (hk : k < 30) (h8 : kk < 8) {p1 p2 : Int32} (h1 : inR p1 1 100000) : OK c f (addX X k kk p1 p2) k (kk + 1) ∧ addX X k kk p1 p2 18 (8 * k + kk) = 0 := by
  refine ⟨?_, addX_new.2⟩
  have hfr : ∀ f, f < 16 → f ≠ 7 → addX X k kk p1 p2 f k = X f k := fun f h h7 => addX_fr (Or.inl h) (Or.inl h7)
  have hln : ∀ f j, f ≠ 7 → j < kk → addX X k kk p1 p2 f (8 * k + j) = X f (8 * k + j) := fun f j h7 hj => addX_fr (Or.inr ⟨by omega, by omega⟩) (Or.inl h7)
  obtain ⟨a1, ⟨b1, b2, a, b, p, r, e1, e2, e3, e4, hb⟩, a3, a4⟩ := h
  refine ⟨by rw [hfr 5 (by decide) (by decide)]; exact a1, ⟨by rw [hfr 10 (by decide) (by decide)]; exact b1, by rw [hfr 11 (by decide) (by decide)]; exact b2, a, b, p, r, by rw [hfr 13 (by decide) (by decide)]; exact e1, by rw [hfr 14 (by decide) (by decide)]; exact e2, by rw [hfr 15 (by decide) (by decide)]; exact e3, by rw [hfr 12 (by decide) (by decide)]; exact e4, hb⟩, ?_, fun j hj => ?_⟩
  · rcases a3 with ⟨h2, -⟩ | ⟨h2, h3, h4, h5, h6, h7, h9⟩
    · rw [hop] at h2; exact absurd h2 (by decide)
    · refine Or.inr ⟨by rw [hfr 8 (by decide) (by decide)]; exact h2, by rw [hfr 10 (by decide) (by decide)]; exact h3, by rw [hfr 12 (by decide) (by decide)]; exact h4, by rw [hfr 13 (by decide) (by decide)]; exact h5, by rw [hfr 14 (by decide) (by decide)]; exact h6, by rw [hfr 15 (by decide) (by decide)]; exact h7, fun j hj => ?_⟩
      by_cases e : j = kk
      · subst e; exact addX_new.2
      · rw [hln 18 j (by decide) (by omega)]; exact h9 j (by omega)
  · by_cases e : j = kk
    · subst e
      obtain ⟨v, hv, rfl⟩ := inR1_of h1 (N := 100000) (by decide) rfl
      refine ⟨v, ?_, hv, addX_new.1⟩
      rcases Nat.lt_or_ge v 1 with z | z
      · exact absurd (show nI v < 1 by rw [show v = 0 by omega]; decide) h1.1
      · exact z
    · obtain ⟨v, h1, h2, h3⟩ := a4 j (by omega)
      exact ⟨v, h1, h2, by rw [hln 16 j (by decide) (by omega)]; exact h3⟩
theorem OK.pay {c f : Nat} {X : MS} {k kk : Nat} (h : OK c f X k kk) (hop : X 8 k = 0) (h8 : kk ≤ 8) (h0 : 0 < kk) {p1 p2 p3 : Int32} (h1 : inR p1 0 1000000) (h2 : inR p2 0 1000000) : OK c f (settleX X k kk p1 p2 p3) k kk ∧ takenX (settleX X k kk p1 p2 p3) k = priceX X k kk := by
  obtain ⟨a1, ⟨b1, b2, -⟩, a3, a4⟩ := h
  obtain ⟨P, hP, eP, -⟩ := price_of a4 h8 a1
  obtain ⟨q1, hq1, rfl⟩ := inR_of h1 (N := 1000000) (by decide) rfl
  obtain ⟨q2, hq2, rfl⟩ := inR_of h2 (N := 1000000) (by decide) rfl
  have h12 : X 12 k = 0 := by
    rcases a3 with ⟨h2, -⟩ | ⟨-, -, h, -⟩
    · rw [hop] at h2; exact absurd h2 (by decide)
    · exact h
  have eA : stA X k kk (nI q1) = nI (min q1 P) := by unfold stA; rw [eP, min_nI (by omega) (by omega)]
  have eB : stB X k kk (nI q1) (nI q2) = nI (min q2 (P - min q1 P)) := by unfold stB; rw [eA, eP, pk_sub (by omega), min_nI (by omega) (by omega)]
  have e15 : settleX X k kk (nI q1) (nI q2) p3 15 k = nI (min q1 P) := by rw [← eA]; unfold settleX; simp [mu_e]
  have e14 : settleX X k kk (nI q1) (nI q2) p3 14 k = nI (min q2 (P - min q1 P)) := by rw [← eB]; unfold settleX; simp [mu_e]
  have e13 : settleX X k kk (nI q1) (nI q2) p3 13 k = nI (P - min q1 P - min q2 (P - min q1 P)) := by
    rw [← pk_sub (a := P - min q1 P) (by omega), ← pk_sub (a := P) (by omega), ← eA, ← eB, ← eP]; unfold settleX; simp [mu_e]
  have e12 : settleX X k kk (nI q1) (nI q2) p3 12 k = nI 0 := by rw [nI_0, ← h12]; unfold settleX; simp [mu_e]
  have e8 : settleX X k kk (nI q1) (nI q2) p3 8 k = 1 := by unfold settleX; simp [mu_e]
  have ho : ∀ f i, f ≠ 8 → f ≠ 9 → f ≠ 13 → f ≠ 14 → f ≠ 15 → settleX X k kk (nI q1) (nI q2) p3 f i = X f i := by
    intro f i h8 h9 h13 h14 h15
    unfold settleX
    simp [mu_e, h8, h9, h13, h14, h15]
  refine ⟨⟨by rw [ho 5 k (by decide) (by decide) (by decide) (by decide) (by decide)]; exact a1, ⟨by rw [ho 10 k (by decide) (by decide) (by decide) (by decide) (by decide)]; exact b1, by rw [ho 11 k (by decide) (by decide) (by decide) (by decide) (by decide)]; exact b2, _, _, _, 0, e13, e14, e15, e12, by omega⟩, Or.inl ⟨e8, h0⟩, fun j hj => ?_⟩, ?_⟩
  · obtain ⟨v, h1, h2, h3⟩ := a4 j hj
    exact ⟨v, h1, h2, by rw [ho 16 _ (by decide) (by decide) (by decide) (by decide) (by decide)]; exact h3⟩
  · unfold takenX
    rw [e13, e14, e15, eP, nI_add, nI_add]
    congr 1
    omega
theorem settleX_fr {X : MS} {k kk : Nat} {p1 p2 p3 : Int32} {f i : Nat} (h : i ≠ k ∨ f < 8 ∨ 15 < f ∨ (9 < f ∧ f < 13)) : settleX X k kk p1 p2 p3 f i = X f i := by
  unfold settleX
  simp only [mu_e]
  rcases h with h | h | h | h
  · simp [h]
  · simp [show f ≠ 8 by omega, show f ≠ 9 by omega, show f ≠ 13 by omega, show f ≠ 14 by omega, show f ≠ 15 by omega]
  · simp [show f ≠ 8 by omega, show f ≠ 9 by omega, show f ≠ 13 by omega, show f ≠ 14 by omega, show f ≠ 15 by omega]
  · simp [show f ≠ 8 by omega, show f ≠ 9 by omega, show f ≠ 13 by omega, show f ≠ 14 by omega, show f ≠ 15 by omega]
end
section
/-! DAYS PASS: what holds behind it. -/
def wFr (X Y : MS) (k j : Nat) : Prop := (∀ f i, f ≠ 11 → f ≠ 13 → f ≠ 18 → Y f i = X f i) ∧ (∀ f i, f ≠ 18 → i ≠ k → Y f i = X f i) ∧ ∀ a, (∀ i, i < j → a ≠ 8 * k + i) → Y 18 a = X 18 a
theorem wNext_fr (p : Int32 × MS) (k j : Nat) (day : Int32) : (∀ f i, f ≠ 11 → f ≠ 13 → f ≠ 18 → (wNext p k j day).2 f i = p.2 f i) ∧ (∀ f i, f ≠ 18 → i ≠ k → (wNext p k j day).2 f i = p.2 f i) ∧ ∀ a, a ≠ 8 * k + j → (wNext p k j day).2 18 a = p.2 18 a := by
  unfold wNext
  split
  · exact ⟨fun _ _ _ _ _ => rfl, fun _ _ _ _ => rfl, fun _ _ => rfl⟩
  · split
    · exact ⟨fun _ _ _ _ _ => rfl, fun _ _ _ _ => rfl, fun _ _ => rfl⟩
    · split
      · refine ⟨fun f i h1 h2 h3 => ?_, fun f i h1 h2 => ?_, fun a ha => ?_⟩
        · simp [chX, mu_e, h1, h2, h3]
        · simp [chX, mu_e, h1, h2]
        · simp [chX, mu_e, ha]
      · refine ⟨fun f i h1 h2 h3 => ?_, fun f i h1 h2 => ?_, fun a ha => ?_⟩
        · simp [mu_e, h3]
        · simp [mu_e, h1]
        · simp [mu_e, ha]
theorem wIt_fr (X : MS) (k : Nat) (day : Int32) : ∀ j, wFr X (wIt X k day j).2 k j
  | 0 => ⟨fun _ _ _ _ _ => rfl, fun _ _ _ _ => rfl, fun _ _ => rfl⟩
  | j + 1 => by
    obtain ⟨h1, h2, h3⟩ := wIt_fr X k day j
    obtain ⟨g1, g2, g3⟩ := wNext_fr (wIt X k day j) k j day
    exact ⟨fun f i a b c => (g1 f i a b c).trans (h1 f i a b c), fun f i a b => (g2 f i a b).trans (h2 f i a b), fun a ha => (g3 a (ha j (by omega))).trans (h3 a (fun i hi => ha i (by omega)))⟩
theorem wIt_ok {c f : Nat} {X : MS} {k kk : Nat} (h : OK c f X k kk) (day : Int32) : ∀ j, j ≤ kk → OK (c + 100000 * j) f (wIt X k day j).2 k kk ∧ ∃ q, q ≤ j ∧ (wIt X k day j).1 = nI q := by
  intro j
  induction j with
  | zero => intro _; exact ⟨h.mono (by omega) (Nat.le_refl _), 0, by omega, nI_0.symm⟩
  | succ j ih =>
    intro hj
    obtain ⟨hO, q, hq, e⟩ := ih (by omega)
    show OK (c + 100000 * (j + 1)) f (wNext (wIt X k day j) k j day).2 k kk ∧ ∃ q, q ≤ j + 1 ∧ (wNext (wIt X k day j) k j day).1 = nI q
    generalize wIt X k day j = p at hO e
    have e1 : p.1 + 1 = nI (q + 1) := by rw [e]; exact nI_1 q
    unfold wNext
    by_cases c1 : wtX p.2 (8 * k + j) = 0
    · rw [if_pos c1]; exact ⟨hO.mono (by omega) (Nat.le_refl _), q, by omega, e⟩
    · rw [if_neg c1]
      by_cases c2 : day < p.2 20 (8 * k + j)
      · rw [if_pos c2]; exact ⟨hO.mono (by omega) (Nat.le_refl _), q, by omega, e⟩
      · rw [if_neg c2]
        obtain ⟨a1, ⟨b1, b2, a, b, d, r, e13, e14, e15, e12, hb⟩, a3, a4⟩ := hO
        have hpd : p.2 8 k = 1 ∧ 0 < kk := by
          rcases a3 with h | ⟨-, -, -, -, -, -, h⟩
          · exact h
          · refine absurd ?_ c1
            unfold wtX
            rw [h j (by omega)]
            decide
        obtain ⟨v, v1, v2, v3⟩ := a4 j (by omega)
        by_cases c3 : p.2 18 (8 * k + j) = 2
        · rw [if_pos c3]
          refine ⟨⟨?_, ⟨?_, ?_, a + v, b, d, r, ?_, ?_, ?_, ?_, by omega⟩, Or.inl ⟨?_, hpd.2⟩, fun i hi => ?_⟩, q + 1, by omega, e1⟩
          · simpa [chX, mu_e] using a1
          · simpa [chX, mu_e] using b1
          · have := b2.add ⟨v, v2, v3⟩
            simp [chX, mu_e]
            exact this.mono (by omega)
          · simp [chX, mu_e]; rw [e13, v3]; exact nI_add a v
          · simpa [chX, mu_e] using e14
          · simpa [chX, mu_e] using e15
          · simpa [chX, mu_e] using e12
          · simpa [chX, mu_e] using hpd.1
          · obtain ⟨w, w1, w2, w3⟩ := a4 i hi
            exact ⟨w, w1, w2, by simpa [chX, mu_e] using w3⟩
        · rw [if_neg c3]
          refine ⟨⟨?_, ⟨?_, ?_, a, b, d, r, ?_, ?_, ?_, ?_, by omega⟩, Or.inl ⟨?_, hpd.2⟩, fun i hi => ?_⟩, q + 1, by omega, e1⟩
          · simpa [mu_e] using a1
          · simpa [mu_e] using b1
          · simp [mu_e]; exact b2.mono (by omega)
          · simpa [mu_e] using e13
          · simpa [mu_e] using e14
          · simpa [mu_e] using e15
          · simpa [mu_e] using e12
          · simpa [mu_e] using hpd.1
          · obtain ⟨w, w1, w2, w3⟩ := a4 i hi
            exact ⟨w, w1, w2, by simpa [mu_e] using w3⟩
def sK (kc : Nat → Nat) : Nat → Nat
  | 0 => 0
  | k + 1 => sK kc k + kc k
theorem qIt_ok {c f n : Nat} {Y : MS} {kc : Nat → Nat} (h : ∀ i, i < n → OK c f Y i (kc i)) (h8 : ∀ i, i < n → kc i ≤ 8) (day : Int32) : ∀ k, k ≤ n → (∀ i, i < n → (i < k → OK (c + 800000) f (qIt Y kc day k).2 i (kc i)) ∧ (k ≤ i → OK c f (qIt Y kc day k).2 i (kc i))) ∧ (∃ q, q ≤ sK kc k ∧ (qIt Y kc day k).1 = nI q) ∧ ∀ f i, f ≠ 11 → f ≠ 13 → f ≠ 18 → (qIt Y kc day k).2 f i = Y f i := by
  intro k
  induction k with
  | zero => intro _; exact ⟨fun i hi => ⟨fun z => absurd z (Nat.not_lt_zero i), fun _ => h i hi⟩, ⟨0, Nat.le_refl _, nI_0.symm⟩, fun _ _ _ _ _ => rfl⟩
  | succ k ih =>
    intro hk
    obtain ⟨hA, ⟨q, hq, e⟩, hF⟩ := ih (by omega)
    show (∀ i, i < n → (i < k + 1 → OK (c + 800000) f (wIt (qIt Y kc day k).2 k day (kc k)).2 i (kc i)) ∧ (k + 1 ≤ i → OK c f (wIt (qIt Y kc day k).2 k day (kc k)).2 i (kc i))) ∧ (∃ q, q ≤ sK kc k + kc k ∧ (qIt Y kc day k).1 + (wIt (qIt Y kc day k).2 k day (kc k)).1 = nI q) ∧ ∀ f i, f ≠ 11 → f ≠ 13 → f ≠ 18 → (wIt (qIt Y kc day k).2 k day (kc k)).2 f i = Y f i
    generalize (qIt Y kc day k).2 = Z at hA hF
    rw [e]
    have hk8 := h8 k (by omega)
    obtain ⟨hW, q2, hq2, e2⟩ := wIt_ok ((hA k (by omega)).2 (Nat.le_refl k)) day (kc k) (Nat.le_refl _)
    obtain ⟨f1, f2, f3⟩ := wIt_fr Z k day (kc k)
    have hoth : ∀ {c' : Nat} (i : Nat), i < n → i ≠ k → OK c' f Z i (kc i) → OK c' f (wIt Z k day (kc k)).2 i (kc i) := fun i hi hne hz => hz.congr (Nat.le_refl _) (Nat.le_refl _) (fun f _ h15 _ _ => f2 f i (by omega) hne) (fun j hj => ⟨f1 16 _ (by decide) (by decide) (by decide), f3 _ (fun i' hi' => by have := h8 i hi; omega)⟩)
    refine ⟨fun i hi => ⟨fun hlt => ?_, fun hge => hoth i hi (by omega) ((hA i hi).2 (by omega))⟩, ⟨q + q2, by omega, by rw [e2]; exact nI_add q q2⟩, fun f i a b d => (f1 f i a b d).trans (hF f i a b d)⟩
    by_cases ek : i = k
    · subst ek; exact hW.mono (by omega) (Nat.le_refl _)
    · exact hoth i hi ek ((hA i hi).1 (by omega))
end
section
/-! WHAT HOLDS AT THE LAW'S LOOP, in numbers. -/
theorem s_l : ∀ n, n < 32 → ((nI n &&& 31).toBitVec.smod 32).toNat = n := by decide +kernel
theorem fa_or (a b : Nat) : nI a ||| nI b = nI (a ||| b) := by
  apply Int32.toBitVec_inj.1
  show BitVec.ofNat 32 a ||| BitVec.ofNat 32 b = BitVec.ofNat 32 (a ||| b)
  apply BitVec.eq_of_getLsbD_eq
  intro i hi
  simp [hi]
theorem bit_of {m k : Nat} (hm : m < 2 ^ 30) (hk : k < 30) : (nI m >>> (nI k &&& 31)) &&& 1 = nI (m / 2 ^ k % 2) := by
  rw [pk_shrN (by omega) _ k (s_l k (by omega))]
  have h : m / 2 ^ k ≤ m := Nat.div_le_self _ _
  exact pk_andN (by omega) 1 (by decide)
theorem bit_iff {m k : Nat} (hm : m < 2 ^ 30) (hk : k < 30) : (nI m >>> (nI k &&& 31)) &&& 1 = 1 ↔ m.testBit k = true := by
  rw [bit_of hm hk, Nat.testBit_eq_decide_div_mod_eq]
  have h : m / 2 ^ k % 2 < 2 := Nat.mod_lt _ (by decide)
  show nI (m / 2 ^ k % 2) = nI 1 ↔ _
  rw [nI_eq (by omega) (by decide)]
  simp
theorem bit_set {m k : Nat} (hk : k < 30) : nI m ||| ((1 : Int32) <<< (nI k &&& 31)) = nI (m ||| 2 ^ k) := by
  have h : 2 ^ k ≤ 2 ^ 29 := Nat.pow_le_pow_right (by decide) (by omega)
  have e : (1 : Int32) <<< (nI k &&& 31) = nI (2 ^ k) := by
    have := pk_shlN (n := 1) (nI k &&& 31) k (s_l k (by omega)) (by omega)
    rw [Nat.one_mul] at this
    exact this
  rw [e, fa_or]
theorem sK_congr {kc kc' : Nat → Nat} : ∀ n, (∀ i, i < n → kc' i = kc i) → sK kc' n = sK kc n
  | 0, _ => rfl
  | n + 1, h => by
    show sK kc' n + kc' n = sK kc n + kc n
    rw [sK_congr n (fun i hi => h i (by omega)), h n (by omega)]
theorem sK_upd {kc : Nat → Nat} {k : Nat} : ∀ n, k < n → sK (fun i => if i = k then kc k + 1 else kc i) n = sK kc n + 1
  | 0, h => absurd h (Nat.not_lt_zero k)
  | n + 1, h => by
    show sK (fun i => if i = k then kc k + 1 else kc i) n + (if n = k then kc k + 1 else kc n) = sK kc n + kc n + 1
    by_cases e : n = k
    · subst e
      rw [if_pos rfl, sK_congr (kc := kc) n (fun i hi => if_neg (by omega))]
      omega
    · rw [if_neg e, sK_upd n (by omega)]
      omega
def PI (T : Nat) (X : MS) (n : Nat) (kc : Nat → Nat) (L m : Nat) : Prop :=
  (∃ dd, dd ≤ 60 * T ∧ X 1 0 = nI dd) ∧ (∀ k, k < n → OK (800000 * T) (100500 * T) X k (kc k)) ∧ sK kc n ≤ L ∧ L ≤ T ∧ m < 2 ^ 30 ∧ ∀ k, k < 30 → (m.testBit k = true ↔ k < n ∧ X 8 k = 1)
theorem PI.mono {T n L m : Nat} {X : MS} {kc : Nat → Nat} (h : PI T X n kc L m) : PI (T + 1) X n kc L m := by
  obtain ⟨⟨dd, h1, h2⟩, h3, h4, h5, h6, h7⟩ := h
  exact ⟨⟨dd, by omega, h2⟩, fun k hk => (h3 k hk).mono (by omega) (by omega), h4, by omega, h6, h7⟩
theorem PI.bit {T n L m : Nat} {X : MS} {kc : Nat → Nat} (h : PI T X n kc L m) {k : Nat} (hn : n ≤ 30) (hk : k < n) : (nI m >>> (nI k &&& 31)) &&& 1 = 1 ↔ X 8 k = 1 := by
  rw [bit_iff h.2.2.2.2.1 (by omega), h.2.2.2.2.2 k (by omega)]
  exact ⟨fun h => h.2, fun h => ⟨hk, h⟩⟩
theorem PI.un {T n L m : Nat} {X : MS} {kc : Nat → Nat} (h : PI T X n kc L m) {k : Nat} (hk : k < n) (h1 : ¬ X 8 k = 1) : X 8 k = 0 := by
  rcases (h.2.1 k hk).2.2.1 with h9 | h9
  · exact absurd h9.1 h1
  · exact h9.1
theorem PI.pos {T n L m : Nat} {X : MS} {kc : Nat → Nat} (h : PI T X n kc L m) {k : Nat} (hk : k < n) (h1 : X 8 k = 1) : 0 < kc k := by
  rcases (h.2.1 k hk).2.2.1 with h9 | h9
  · exact h9.2
  · rw [h1] at h9; exact absurd h9.1 (by decide)
theorem PI.order {T n L m : Nat} {X : MS} {kc : Nat → Nat} (h : PI T X n kc L m) (hn : n < 30) {p0 p1 : Int32} (h0 : inR p0 0 90) : PI (T + 1) (mu (xNewO X n p0 p1) 0 0 (nI (n + 1))) (n + 1) (fun k => if k = n then 0 else kc k) L m := by
  obtain ⟨⟨dd, h1, h2⟩, h3, h4, h5, h6, h7⟩ := h
  have hfr : ∀ f i, f ≠ 0 → (i ≠ n ∨ 16 ≤ f ∨ f < 5) → (mu (xNewO X n p0 p1) 0 0 (nI (n + 1))) f i = X f i := fun f i a b => xNewO_fr a b
  refine ⟨⟨dd, by omega, (hfr 1 0 (by decide) (Or.inr (Or.inr (by decide)))).trans h2⟩, fun k hk => ?_, ?_, by omega, h6, fun k hk => ?_⟩
  · dsimp only
    by_cases e : k = n
    · subst e
      rw [if_pos rfl]
      exact OK.new h0
    · rw [if_neg e]
      exact (h3 k (by omega)).congr (by omega) (by omega) (fun f hf _ _ _ => hfr f k (by omega) (Or.inl e)) (fun j _ => ⟨hfr 16 _ (by decide) (Or.inr (Or.inl (by decide))), hfr 18 _ (by decide) (Or.inr (Or.inl (by decide)))⟩)
  · show sK (fun k => if k = n then 0 else kc k) n + (if n = n then 0 else kc n) ≤ L
    rw [if_pos rfl, sK_congr (kc := kc) n (fun i hi => if_neg (by omega))]
    exact h4
  · rw [h7 k hk]
    by_cases e : k = n
    · subst e
      refine ⟨fun z => absurd z.1 (Nat.lt_irrefl k), fun z => ?_⟩
      have e8 : (mu (xNewO X k p0 p1) 0 0 (nI (k + 1))) 8 k = 0 := by simp [xNewO, mu_e]
      rw [e8] at z
      exact absurd z.2 (by decide)
    · rw [hfr 8 k (by decide) (Or.inl e)]
      exact ⟨fun z => ⟨by omega, z.2⟩, fun z => ⟨by omega, z.2⟩⟩
theorem PI.add {T n L m : Nat} {X : MS} {kc : Nat → Nat} (h : PI T X n kc L m) (hn : n ≤ 30) (h8a : ∀ i, i < n → kc i ≤ 8) {k : Nat} (hk : k < n) (hop : X 8 k = 0) (h8 : kc k < 8) {p1 p2 : Int32} (hp : inR p1 1 100000) : PI (T + 1) (addX X k (kc k) p1 p2) n (fun i => if i = k then kc k + 1 else kc i) (L + 1) m := by
  obtain ⟨⟨dd, h1, h2⟩, h3, h4, h5, h6, h7⟩ := h
  refine ⟨⟨dd, by omega, (addX_fr (Or.inl (by decide)) (Or.inl (by decide))).trans h2⟩, fun i hi => ?_, by rw [sK_upd n hk]; omega, by omega, h6, fun i hi => ?_⟩
  · dsimp only
    by_cases e : i = k
    · subst e
      rw [if_pos rfl]
      exact ((h3 i hi).mono (by omega) (by omega)).add hop (by omega) h8 hp |>.1
    · rw [if_neg e]
      have := h8a i hi
      exact (h3 i hi).congr (by omega) (by omega) (fun f _ h15 h7 _ => addX_fr (Or.inl (by omega)) (Or.inl h7)) (fun j hj => ⟨addX_fr (Or.inr ⟨by omega, by omega⟩) (Or.inl (by decide)), addX_fr (Or.inr ⟨by omega, by omega⟩) (Or.inl (by decide))⟩)
  · rw [h7 i hi, addX_fr (Or.inl (by decide)) (Or.inl (by decide))]
theorem PI.addPr {T n L m : Nat} {X : MS} {kc : Nat → Nat} (h : PI T X n kc L m) (hn : n ≤ 30) {k : Nat} (hk : k < n) (hop : X 8 k = 0) (h8 : kc k < 8) {p1 p2 : Int32} (hp : inR p1 1 100000) : ¬ priceX (addX X k (kc k) p1 p2) k (kc k + 1) ≤ 0 := by
  obtain ⟨hO, h0⟩ := (h.2.1 k hk).add hop (by omega) h8 (p2 := p2) hp
  obtain ⟨P, hP, e, h1⟩ := price_of hO.2.2.2 (by omega) hO.1
  rw [e]
  exact nI_nle (h1 (kc k) (by omega) (by rw [h0]; decide)) (by omega)
theorem PI.pay {T n L m : Nat} {X : MS} {kc : Nat → Nat} (h : PI T X n kc L m) (hn : n ≤ 30) {k : Nat} (hk : k < n) (hop : X 8 k = 0) (h8 : kc k ≤ 8) (h0 : 0 < kc k) {p1 p2 p3 : Int32} (hp1 : inR p1 0 1000000) (hp2 : inR p2 0 1000000) : PI (T + 1) (settleX X k (kc k) p1 p2 p3) n kc L (m ||| 2 ^ k) ∧ takenX (settleX X k (kc k) p1 p2 p3) k = priceX X k (kc k) := by
  have hpay := (h.2.1 k hk).pay (p3 := p3) hop h8 h0 hp1 hp2
  obtain ⟨⟨dd, h1, h2⟩, h3, h4, h5, h6, h7⟩ := h
  have hk29 : 2 ^ k < 2 ^ 30 := Nat.pow_lt_pow_right (by decide) (by omega)
  refine ⟨⟨⟨dd, by omega, (settleX_fr (Or.inr (Or.inl (by decide)))).trans h2⟩, fun i hi => ?_, h4, by omega, Nat.or_lt_two_pow h6 hk29, fun i hi => ?_⟩, hpay.2⟩
  · by_cases e : i = k
    · subst e; exact hpay.1.mono (by omega) (by omega)
    · exact (h3 i hi).congr (by omega) (by omega) (fun f _ _ _ _ => settleX_fr (Or.inl e)) (fun j _ => ⟨settleX_fr (Or.inr (Or.inr (Or.inl (by decide)))), settleX_fr (Or.inr (Or.inr (Or.inl (by decide))))⟩)
  · rw [Nat.testBit_or, Nat.testBit_two_pow]
    by_cases e : i = k
    · subst e
      have e8 : settleX X i (kc i) p1 p2 p3 8 i = 1 := by unfold settleX; simp [mu_e]
      simp [e8, hk]
    · rw [settleX_fr (Or.inl e), ← h7 i hi]
      simp [show ¬ k = i by omega]
theorem gradeX_fr {X : MS} {k kk j : Nat} {w : Int32} {f i : Nat} (h : 5 ≤ f) (h2 : (f ≤ 15 ∧ i ≠ k) ∨ f = 8 ∨ f = 16 ∨ (f = 18 ∧ i ≠ j)) : (gradeX X k kk j w).2 f i = X f i := by
  rw [gradeX_mid]
  have e : (refundX (gMidX X k j w) k kk).2 f i = gMidX X k j w f i := by
    unfold refundX
    simp only [mu_e]
    rcases h2 with ⟨h2, h3⟩ | rfl | rfl | ⟨rfl, h3⟩
    · simp [h3]
    · simp
    · simp
    · simp
  rw [e]
  unfold gMidX
  simp only [mu_e]
  rcases h2 with ⟨h2, h3⟩ | rfl | rfl | ⟨rfl, h3⟩
  · rw [if_neg (by omega), putX_hi _ _ _ _ h]
    simp [mu_e, h3]
  · rw [if_neg (by omega), putX_hi _ _ _ _ h]
    simp [mu_e]
  · rw [if_neg (by omega), putX_hi _ _ _ _ h]
    simp [mu_e]
  · rw [if_pos rfl, if_neg h3, putX_hi _ _ _ _ h]
    simp [mu_e]
theorem PI.grade {T n L m : Nat} {X Y : MS} {kc : Nat → Nat} (h : PI T X n kc L m) (hT : T ≤ 100) (h8a : ∀ i, i < n → kc i ≤ 8) {k : Nat} (hk : k < n) (hpd : X 8 k = 1) (hj : 0 < kc k) {w : Int32} (hY : OK (800000 * T) (100500 * T) Y k (kc k) ∧ Y 8 k = 1 ∧ Y 1 0 = X 1 0 ∧ ∀ f i, 5 ≤ f → ((f ≤ 15 ∧ i ≠ k) ∨ f = 8 ∨ f = 16 ∨ (f = 18 ∧ i ≠ 8 * k + 0)) → Y f i = X f i) : PI (T + 1) (gradeX Y k (kc k) (8 * k + 0) w).2 n kc L m := by
  obtain ⟨⟨dd, h1, h2⟩, h3, h4, h5, h6, h7⟩ := h
  obtain ⟨y1, y2, y3, y4⟩ := hY
  refine ⟨⟨dd, by omega, (gr_facts Y k (kc k) (8 * k + 0) w).2.2.2.2.2.2.1.trans (y3.trans h2)⟩, fun i hi => ?_, h4, by omega, h6, fun i hi => ?_⟩
  · by_cases e : i = k
    · subst e
      exact (y1.grade (j := 0) (h8a i hi) hj y2 (by omega) (by omega) w).mono (by omega) (by omega)
    · have := h8a i hi
      exact (h3 i hi).congr (by omega) (by omega) (fun f h5 h15 _ _ => (gradeX_fr h5 (Or.inl ⟨h15, e⟩)).trans (y4 f i h5 (Or.inl ⟨h15, e⟩))) (fun j hj => ⟨(gradeX_fr (by decide) (Or.inr (Or.inr (Or.inl rfl)))).trans (y4 16 _ (by decide) (Or.inr (Or.inr (Or.inl rfl)))), (gradeX_fr (by decide) (Or.inr (Or.inr (Or.inr ⟨rfl, by omega⟩)))).trans (y4 18 _ (by decide) (Or.inr (Or.inr (Or.inr ⟨rfl, by omega⟩))))⟩)
  · rw [h7 i hi, gradeX_fr (by decide) (Or.inr (Or.inl rfl)), y4 8 i (by decide) (Or.inr (Or.inl rfl))]
theorem PI.ret {T n L m : Nat} {X X9 : MS} {kc : Nat → Nat} (h : PI T X n kc L m) (hT : T ≤ 100) (h8a : ∀ i, i < n → kc i ≤ 8) {k : Nat} (hk : k < n) (hpd : X 8 k = 1) (hr : RetTo X k (kc k) X9) : PI (T + 1) X9 n kc L m := by
  have hj := h.pos hk hpd
  rcases hr with ⟨q, hq, rfl⟩ | rfl | ⟨q, z, hq, hz, -, rfl⟩
  · exact h.grade hT h8a hk hpd hj ⟨h.2.1 k hk, hpd, rfl, fun _ _ _ _ => rfl⟩
  · exact h.mono
  · refine h.grade hT h8a hk hpd hj ⟨(h.2.1 k hk).wait hpd _ _, hpd, rfl, fun f i h5 h9 => ?_⟩
    unfold swX
    simp only [mu_e]
    rcases h9 with ⟨h2, h3⟩ | rfl | rfl | ⟨rfl, h3⟩
    · simp [show f ≠ 18 by omega, show f ≠ 19 by omega, show f ≠ 20 by omega]
    · simp
    · simp
    · simp [show i ≠ 8 * k from h3]
theorem PI.pass {T n L m : Nat} {X : MS} {kc : Nat → Nat} (h : PI T X n kc L m) (h8a : ∀ i, i < n → kc i ≤ 8) {w : Nat} (hw : w ≤ 60) : PI (T + 1) (qIt (mu X 1 0 (X 1 0 + nI w)) kc (X 1 0 + nI w) n).2 n kc L m ∧ (∃ q, q ≤ L ∧ (qIt (mu X 1 0 (X 1 0 + nI w)) kc (X 1 0 + nI w) n).1 = nI q) ∧ (qIt (mu X 1 0 (X 1 0 + nI w)) kc (X 1 0 + nI w) n).2 1 0 = X 1 0 + nI w := by
  obtain ⟨⟨dd, h1, h2⟩, h3, h4, h5, h6, h7⟩ := h
  have hY : ∀ i, i < n → OK (800000 * T) (100500 * T) (mu X 1 0 (X 1 0 + nI w)) i (kc i) := fun i hi => (h3 i hi).congr (Nat.le_refl _) (Nat.le_refl _) (fun f h5 _ _ _ => mu_f _ _ _ _ (by omega)) (fun j _ => ⟨rfl, rfl⟩)
  obtain ⟨q1, ⟨q, hq, eq⟩, q3⟩ := qIt_ok hY h8a (X 1 0 + nI w) n (Nat.le_refl n)
  have e1 : (qIt (mu X 1 0 (X 1 0 + nI w)) kc (X 1 0 + nI w) n).2 1 0 = X 1 0 + nI w := (q3 1 0 (by decide) (by decide) (by decide)).trans (mu_s _ _ _ _)
  refine ⟨⟨⟨dd + w, by omega, by rw [e1, h2]; exact nI_add dd w⟩, fun i hi => ((q1 i hi).1 hi).mono (by omega) (by omega), h4, by omega, h6, fun i hi => ?_⟩, ⟨q, by omega, eq⟩, e1⟩
  rw [h7 i hi, q3 8 i (by decide) (by decide) (by decide)]
  exact Iff.rfl
theorem PI.day {T n L m : Nat} {X : MS} {kc : Nat → Nat} (h : PI T X n kc L m) (hT : T ≤ 100) {w : Nat} (hw : w ≤ 60) : nI w ≤ 10000 - X 1 0 := by
  obtain ⟨⟨dd, h1, h2⟩, -⟩ := h
  rw [h2, show (10000 : Int32) = nI 10000 by rfl, pk_sub (by omega)]
  exact nI_le (by omega) (by omega)
theorem PI.sok {T n L m : Nat} {X : MS} {kc : Nat → Nat} (h : PI T X n kc L m) (hT : T ≤ 100) (h8a : ∀ i, i < n → kc i ≤ 8) {k : Nat} (hk : k < n) {pv : Int32} (hpv : (pv = 1 ∧ X 8 k = 1) ∨ (pv = 0 ∧ X 8 k = 0)) : SOK X k (kc k) pv := (h.2.1 k hk).sok (h8a k hk) (by omega) (by omega) hpv
end
section
/-! THE LAW'S OWN WORDS, found in the tables by their places. -/
theorem by_places {big ws : List Cond} (ps : List Nat) (h : ws = ps.filterMap (fun i => big[i]?)) : ∀ w ∈ ws, w ∈ big := by
  intro w hw
  rw [h] at hw
  obtain ⟨i, -, hi⟩ := List.mem_filterMap.mp hw
  exact List.mem_of_getElem? hi
def wsL_law0_r1 : List Cond := [Cond.classLink RL 10 RX2, Cond.instantiable RX2 6, Cond.initialized RX2, Cond.constant RL 90 (1000001), Cond.constant RL 94 (100000), Cond.methodLink RL 82 yX2_init, Cond.instanceMethod yX2_init, Cond.code yX2_init cX2_init 1 none, Cond.methodLink RX2 1 objectInit, Cond.instanceMethod objectInit, Cond.code objectInit ⟨#[0xb1]⟩ 1 none, Cond.classLink RX2 9 RX1, Cond.fieldLink RX2 11 "ReturnsDesk" "book" "[LReturnsDesk$Order;", Cond.methodLink RL 83 yX2_orders, Cond.instanceMethod yX2_orders, Cond.selects RX2 yX2_orders yX2_orders, Cond.code yX2_orders cX2_orders 1 (some .int), Cond.fieldLink RX2 20 "ReturnsDesk" "orderCount" "I", Cond.methodLink RL 78 yX2_day, Cond.instanceMethod yX2_day, Cond.selects RX2 yX2_day yX2_day, Cond.code yX2_day cX2_day 1 (some .int), Cond.fieldLink RX2 61 "ReturnsDesk" "today" "I", Cond.methodLink RL 64 yX2_stock]
def wsL_law0_r2 : List Cond := [Cond.instanceMethod yX2_stock, Cond.selects RX2 yX2_stock yX2_stock, Cond.code yX2_stock cX2_stock 2 (some .int), Cond.fieldLink RX2 134 "ReturnsDesk" "newThings" "I", Cond.fieldLink RX2 137 "ReturnsDesk" "secondThings" "I", Cond.fieldLink RX2 140 "ReturnsDesk" "wasteThings" "I", Cond.methodLink RX2 15 yX2_requireRange, Cond.static yX2_requireRange, Cond.code yX2_requireRange cX2_requireRange 3 none, Cond.classLink RX2 148 "java/lang/IllegalArgumentException", Cond.initialized "java/lang/IllegalArgumentException", Cond.methodLink RL 86 yL_cell, Cond.static yL_cell, Cond.initialized RL, Cond.code yL_cell cL_cell 2 (some .int), Cond.constant RL 8 (40503), Cond.methodLink RL 61 yL_low, Cond.static yL_low, Cond.code yL_low cL_low 2 (some .int), Cond.constant RL 7 (2147483647), Cond.methodLink RL 91 yL_order, Cond.static yL_order, Cond.codeWith yL_order cL_order 4 (some .int) [(0, 6, 7, 15)], Cond.classLink RL 15 "java/lang/IllegalStateException"]
def wsL_law0_r3 : List Cond := [Cond.methodLink RL 9 yX2_order, Cond.instanceMethod yX2_order, Cond.selects RX2 yX2_order yX2_order, Cond.code yX2_order cX2_order 3 (some .int), Cond.classLink RX2 24 "java/lang/IllegalStateException", Cond.initialized "java/lang/IllegalStateException", Cond.constant RX2 19 (1000000), Cond.instantiable RX1 12, Cond.initialized RX1, Cond.methodLink RX2 31 yX1_init, Cond.instanceMethod yX1_init, Cond.code yX1_init cX1_init 3 none, Cond.methodLink RX1 3 objectInit, Cond.classLink RX1 9 RX0, Cond.fieldLink RX1 11 "ReturnsDesk$Order" "lines" "[LReturnsDesk$Line;", Cond.fieldLink RX1 17 "ReturnsDesk$Order" "percent" "I", Cond.fieldLink RX1 21 "ReturnsDesk$Order" "least" "I", Cond.methodLink RL 36 yX2_price, Cond.instanceMethod yX2_price, Cond.selects RX2 yX2_price yX2_price, Cond.code yX2_price cX2_price 2 (some .int), Cond.methodLink RX2 34 yX2_findOrder, Cond.instanceMethod yX2_findOrder, Cond.selects RX2 yX2_findOrder yX2_findOrder]
def wsL_law0_r4 : List Cond := [Cond.code yX2_findOrder cX2_findOrder 3 (some (.object "ReturnsDesk$Order")), Cond.classLink RX2 153 "java/lang/IndexOutOfBoundsException", Cond.initialized "java/lang/IndexOutOfBoundsException", Cond.methodLink RX2 107 yX1_priceAnew, Cond.instanceMethod yX1_priceAnew, Cond.selects RX1 yX1_priceAnew yX1_priceAnew, Cond.code yX1_priceAnew cX1_priceAnew 6 (some .int), Cond.fieldLink RX1 53 "ReturnsDesk$Line" "state" "I", Cond.fieldLink RX1 56 "ReturnsDesk$Line" "price" "I", Cond.methodLink RL 95 yL_add, Cond.static yL_add, Cond.codeWith yL_add cL_add 5 (some .int) [(0, 7, 8, 15)], Cond.methodLink RL 17 yX2_add, Cond.instanceMethod yX2_add, Cond.selects RX2 yX2_add yX2_add, Cond.code yX2_add cX2_add 5 (some .int), Cond.constant RX2 38 (100000), Cond.fieldLink RX2 39 "ReturnsDesk$Order" "isPaid" "Z", Cond.classLink RX2 49 RX0, Cond.instantiable RX0 5, Cond.initialized RX0, Cond.methodLink RX2 43 yX1_hasRoom, Cond.instanceMethod yX1_hasRoom, Cond.selects RX1 yX1_hasRoom yX1_hasRoom]
def wsL_law0_r5 : List Cond := [Cond.code yX1_hasRoom cX1_hasRoom 1 (some .boolean), Cond.fieldLink RX1 24 "ReturnsDesk$Order" "lineCount" "I", Cond.methodLink RX2 51 yX0_init, Cond.instanceMethod yX0_init, Cond.code yX0_init cX0_init 3 none, Cond.methodLink RX0 3 objectInit, Cond.fieldLink RX0 9 "ReturnsDesk$Line" "state" "I", Cond.fieldLink RX0 15 "ReturnsDesk$Line" "price" "I", Cond.fieldLink RX0 18 "ReturnsDesk$Line" "kind" "I", Cond.methodLink RX2 52 yX1_addLine, Cond.instanceMethod yX1_addLine, Cond.selects RX1 yX1_addLine yX1_addLine, Cond.code yX1_addLine cX1_addLine 3 (some .int), Cond.methodLink RL 58 yX2_state, Cond.instanceMethod yX2_state, Cond.selects RX2 yX2_state yX2_state, Cond.code yX2_state cX2_state 3 (some .int), Cond.fieldLink RX2 100 "ReturnsDesk$Line" "state" "I", Cond.methodLink RX2 70 yX2_findLine, Cond.static yX2_findLine, Cond.code yX2_findLine cX2_findLine 3 (some (.object "ReturnsDesk$Line")), Cond.fieldLink RX2 158 "ReturnsDesk$Order" "lines" "[LReturnsDesk$Line;", Cond.methodLink RL 97 yL_pay, Cond.static yL_pay]
def wsL_law0_r6 : List Cond := [Cond.codeWith yL_pay cL_pay 5 (some .int) [(0, 7, 8, 15)], Cond.methodLink RL 21 yX2_pay, Cond.instanceMethod yX2_pay, Cond.selects RX2 yX2_pay yX2_pay, Cond.code yX2_pay cX2_pay 5 (some .int), Cond.fieldLink RX2 56 "ReturnsDesk$Order" "lineCount" "I", Cond.fieldLink RX2 67 "ReturnsDesk$Order" "byCard" "I", Cond.methodLink RX2 64 yX1_settle, Cond.instanceMethod yX1_settle, Cond.selects RX1 yX1_settle yX1_settle, Cond.code yX1_settle cX1_settle 5 none, Cond.methodLink RX1 31 Lib.Math.min.name, Cond.static Lib.Math.min.name, Cond.initialized "java/lang/Math", Cond.code Lib.Math.min.name Lib.Math.min.code 2 (some .int), Cond.fieldLink RX1 37 "ReturnsDesk$Order" "byPoints" "I", Cond.fieldLink RX1 40 "ReturnsDesk$Order" "byVoucher" "I", Cond.fieldLink RX1 43 "ReturnsDesk$Order" "byCard" "I", Cond.fieldLink RX1 46 "ReturnsDesk$Order" "isPaid" "Z", Cond.fieldLink RX1 50 "ReturnsDesk$Order" "paidOn" "I", Cond.methodLink RX1 27 yX1_priceAnew, Cond.methodLink RL 33 yX2_taken, Cond.instanceMethod yX2_taken, Cond.selects RX2 yX2_taken yX2_taken]
def wsL_law0_r7 : List Cond := [Cond.code yX2_taken cX2_taken 4 (some .int), Cond.fieldLink RX2 113 "ReturnsDesk$Order" "byVoucher" "I", Cond.fieldLink RX2 116 "ReturnsDesk$Order" "byPoints" "I", Cond.methodLink RL 46 yL_all, Cond.static yL_all, Cond.code yL_all cL_all 2 (some .int), Cond.methodLink RL 99 yL_returns, Cond.static yL_returns, Cond.code yL_returns cL_returns 11 (some .boolean), Cond.methodLink RL 52 yX2_refunded, Cond.instanceMethod yX2_refunded, Cond.selects RX2 yX2_refunded yX2_refunded, Cond.code yX2_refunded cX2_refunded 2 (some .int), Cond.fieldLink RX2 119 "ReturnsDesk$Order" "refunded" "I", Cond.methodLink RL 30 yX2_grade, Cond.instanceMethod yX2_grade, Cond.selects RX2 yX2_grade yX2_grade, Cond.code yX2_grade cX2_grade 6 (some .int), Cond.fieldLink RX2 87 "ReturnsDesk$Order" "fees" "I", Cond.fieldLink RX2 94 "ReturnsDesk$Line" "reason" "I", Cond.methodLink RX2 82 yX0_isWaitedFor, Cond.instanceMethod yX0_isWaitedFor, Cond.selects RX0 yX0_isWaitedFor yX0_isWaitedFor, Cond.code yX0_isWaitedFor cX0_isWaitedFor 1 (some .boolean)]
def wsL_law0_r8 : List Cond := [Cond.methodLink RX2 90 yX0_feeFor, Cond.instanceMethod yX0_feeFor, Cond.selects RX0 yX0_feeFor yX0_feeFor, Cond.code yX0_feeFor cX0_feeFor 3 (some .int), Cond.fieldLink RX0 21 "ReturnsDesk$Line" "reason" "I", Cond.methodLink RX0 24 yX0_gradeFee, Cond.instanceMethod yX0_gradeFee, Cond.selects RX0 yX0_gradeFee yX0_gradeFee, Cond.code yX0_gradeFee cX0_gradeFee 2 (some .int), Cond.methodLink RX2 97 yX2_putIntoStock, Cond.instanceMethod yX2_putIntoStock, Cond.selects RX2 yX2_putIntoStock yX2_putIntoStock, Cond.code yX2_putIntoStock cX2_putIntoStock 3 none, Cond.methodLink RX2 103 yX1_refundSurplus, Cond.instanceMethod yX1_refundSurplus, Cond.selects RX1 yX1_refundSurplus yX1_refundSurplus, Cond.code yX1_refundSurplus cX1_refundSurplus 4 (some .int), Cond.methodLink RX1 71 Lib.Math.max.name, Cond.static Lib.Math.max.name, Cond.code Lib.Math.max.name Lib.Math.max.code 2 (some .int), Cond.fieldLink RX1 74 "ReturnsDesk$Order" "refunded" "I", Cond.methodLink RX1 65 yX1_allTaken, Cond.instanceMethod yX1_allTaken, Cond.selects RX1 yX1_allTaken yX1_allTaken]
def wsL_law0_r9 : List Cond := [Cond.code yX1_allTaken cX1_allTaken 1 (some .int), Cond.methodLink RX1 68 yX1_owed, Cond.instanceMethod yX1_owed, Cond.selects RX1 yX1_owed yX1_owed, Cond.code yX1_owed cX1_owed 1 (some .int), Cond.fieldLink RX1 59 "ReturnsDesk$Order" "fees" "I", Cond.fieldLink RX1 62 "ReturnsDesk$Order" "charges" "I", Cond.methodLink RL 55 yX2_isShortBy, Cond.instanceMethod yX2_isShortBy, Cond.selects RX2 yX2_isShortBy yX2_isShortBy, Cond.code yX2_isShortBy cX2_isShortBy 3 (some .int), Cond.methodLink RX2 128 Lib.Math.max.name, Cond.methodLink RX2 122 yX1_owed, Cond.methodLink RX2 125 yX1_allTaken, Cond.methodLink RL 67 yX2_mayComeBack, Cond.instanceMethod yX2_mayComeBack, Cond.selects RX2 yX2_mayComeBack yX2_mayComeBack, Cond.code yX2_mayComeBack cX2_mayComeBack 6 (some .boolean), Cond.methodLink RX2 74 yX2_isReturnable, Cond.instanceMethod yX2_isReturnable, Cond.selects RX2 yX2_isReturnable yX2_isReturnable, Cond.code yX2_isReturnable cX2_isReturnable 4 (some .boolean), Cond.fieldLink RX2 164 "ReturnsDesk$Order" "paidOn" "I", Cond.methodLink RX2 167 yX0_spanFor]
def wsL_law0_r10 : List Cond := [Cond.instanceMethod yX0_spanFor, Cond.selects RX0 yX0_spanFor yX0_spanFor, Cond.code yX0_spanFor cX0_spanFor 2 (some .int), Cond.methodLink RL 71 yL_ask, Cond.static yL_ask, Cond.codeWith yL_ask cL_ask 5 (some .int) [(0, 7, 8, 15)], Cond.methodLink RL 24 yX2_ask, Cond.instanceMethod yX2_ask, Cond.selects RX2 yX2_ask yX2_ask, Cond.code yX2_ask cX2_ask 4 (some .int), Cond.methodLink RX2 78 yX2_startWait, Cond.instanceMethod yX2_startWait, Cond.selects RX2 yX2_startWait yX2_startWait, Cond.code yX2_startWait cX2_startWait 7 (some .int), Cond.fieldLink RX2 172 "ReturnsDesk$Line" "waitEnds" "I", Cond.methodLink RL 74 yL_exchange, Cond.static yL_exchange, Cond.codeWith yL_exchange cL_exchange 5 (some .int) [(0, 7, 8, 15)], Cond.methodLink RL 27 yX2_exchange, Cond.instanceMethod yX2_exchange, Cond.selects RX2 yX2_exchange yX2_exchange, Cond.code yX2_exchange cX2_exchange 4 (some .int), Cond.methodLink RL 76 yL_grade, Cond.static yL_grade]
def wsL_law0_r11 : List Cond := [Cond.codeWith yL_grade cL_grade 5 (some .int) [(0, 7, 8, 15)], Cond.methodLink RL 103 yX2_pass, Cond.instanceMethod yX2_pass, Cond.selects RX2 yX2_pass yX2_pass, Cond.code yX2_pass cX2_pass 7 (some .int), Cond.methodLink RX2 145 yX1_endWaits, Cond.instanceMethod yX1_endWaits, Cond.selects RX1 yX1_endWaits yX1_endWaits, Cond.code yX1_endWaits cX1_endWaits 7 (some .int), Cond.fieldLink RX1 81 "ReturnsDesk$Line" "waitEnds" "I", Cond.methodLink RX1 77 yX0_isWaitedFor, Cond.methodLink RX1 84 yX1_charge, Cond.instanceMethod yX1_charge, Cond.selects RX1 yX1_charge yX1_charge, Cond.code yX1_charge cX1_charge 2 none, Cond.methodLink RL 106 yL_sums, Cond.static yL_sums, Cond.code yL_sums cL_sums 6 (some .boolean), Cond.methodLink RL 40 yX2_fees, Cond.instanceMethod yX2_fees, Cond.selects RX2 yX2_fees yX2_fees, Cond.code yX2_fees cX2_fees 2 (some .int), Cond.methodLink RL 43 yX2_charges, Cond.instanceMethod yX2_charges]
def wsL_law0_r12 : List Cond := [Cond.selects RX2 yX2_charges yX2_charges, Cond.code yX2_charges cX2_charges 2 (some .int), Cond.fieldLink RX2 110 "ReturnsDesk$Order" "charges" "I"]
def wsL_law0 : List Cond := (wsL_law0_r1 ++ (wsL_law0_r2 ++ (wsL_law0_r3 ++ (wsL_law0_r4 ++ (wsL_law0_r5 ++ (wsL_law0_r6 ++ (wsL_law0_r7 ++ (wsL_law0_r8 ++ (wsL_law0_r9 ++ (wsL_law0_r10 ++ (wsL_law0_r11 ++ wsL_law0_r12))))))))))) ++ wsX20 ++ wsX10 ++ wsX00 ++ ([] : List Cond)
def wsL_law : List Cond := wsL_law0 ++ (vx_atS RX2 152 "java/lang/IllegalArgumentException" ["java/lang/RuntimeException", "java/lang/Exception"]).filter goodWord ++ (vx_atS RX2 28 "java/lang/IllegalStateException" ["java/lang/RuntimeException", "java/lang/Exception"]).filter goodWord ++ (vx_atS RX2 157 "java/lang/IndexOutOfBoundsException" ["java/lang/RuntimeException", "java/lang/Exception"]).filter goodWord
set_option maxRecDepth 100000 in
theorem wsL_law0_r1_in : ∀ w ∈ wsL_law0_r1, w ∈ lw_tbl := by_places [18, 19, 8, 429, 430, 20, 21, 22, 23, 24, 25, 26, 28, 47, 48, 49, 50, 29, 199, 200, 201, 202, 30, 162] (by rfl)
set_option maxRecDepth 100000 in
theorem wsL_law0_r2_in : ∀ w ∈ wsL_law0_r2, w ∈ lw_tbl := by_places [163, 164, 165, 31, 32, 33, 143, 144, 145, 146, 12, 207, 208, 7, 209, 210, 203, 204, 205, 206, 211, 212, 213, 214] (by rfl)
set_option maxRecDepth 100000 in
theorem wsL_law0_r3_in : ∀ w ∈ wsL_law0_r3, w ∈ lw_tbl := by_places [215, 216, 217, 218, 170, 13, 219, 197, 14, 221, 222, 223, 224, 225, 229, 227, 228, 131, 132, 133, 134, 55, 57, 0] (by rfl)
set_option maxRecDepth 100000 in
theorem wsL_law0_r4_in : ∀ w ∈ wsL_law0_r4, w ∈ lw_tbl := by_places [58, 59, 15, 135, 136, 137, 138, 297, 294, 274, 275, 276, 277, 278, 279, 280, 281, 233, 287, 288, 16, 282, 283, 284] (by rfl)
set_option maxRecDepth 100000 in
theorem wsL_law0_r5_in : ∀ w ∈ wsL_law0_r5, w ∈ lw_tbl := by_places [285, 231, 289, 290, 291, 292, 296, 293, 295, 314, 315, 316, 317, 51, 52, 53, 54, 298, 127, 128, 129, 230, 318, 319] (by rfl)
set_option maxRecDepth 100000 in
theorem wsL_law0_r6_in : ∀ w ∈ wsL_law0_r6, w ∈ lw_tbl := by_places [320, 321, 322, 323, 324, 232, 244, 326, 327, 328, 329, 331, 332, 17, 333, 247, 245, 243, 234, 235, 330, 139, 140, 141] (by rfl)
set_option maxRecDepth 100000 in
theorem wsL_law0_r7_in : ∀ w ∈ wsL_law0_r7, w ∈ lw_tbl := by_places [142, 246, 248, 334, 335, 336, 367, 368, 369, 348, 349, 350, 351, 242, 370, 371, 372, 373, 238, 300, 374, 191, 192, 193] (by rfl)
set_option maxRecDepth 100000 in
theorem wsL_law0_r8_in : ∀ w ∈ wsL_law0_r8, w ∈ lw_tbl := by_places [376, 377, 378, 379, 299, 380, 382, 3, 383, 384, 386, 4, 387, 388, 389, 390, 391, 394, 365, 366, 241, 392, 361, 362] (by rfl)
set_option maxRecDepth 100000 in
theorem wsL_law0_r9_in : ∀ w ∈ wsL_law0_r9, w ∈ lw_tbl := by_places [363, 393, 357, 358, 359, 237, 239, 352, 353, 354, 355, 364, 356, 360, 395, 396, 397, 398, 399, 401, 5, 402, 236, 403] (by rfl)
set_option maxRecDepth 100000 in
theorem wsL_law0_r10_in : ∀ w ∈ wsL_law0_r10, w ∈ lw_tbl := by_places [404, 405, 406, 407, 408, 409, 410, 411, 412, 413, 414, 416, 6, 417, 302, 419, 420, 421, 422, 423, 424, 425, 426, 427] (by rfl)
set_option maxRecDepth 100000 in
theorem wsL_law0_r11_in : ∀ w ∈ wsL_law0_r11, w ∈ lw_tbl := by_places [428, 166, 167, 168, 169, 186, 187, 188, 189, 301, 190, 194, 196, 2, 198, 337, 338, 339, 340, 341, 342, 343, 344, 345] (by rfl)
set_option maxRecDepth 100000 in
theorem wsL_law0_r12_in : ∀ w ∈ wsL_law0_r12, w ∈ lw_tbl := by_places [346, 347, 240] (by rfl)
set_option maxRecDepth 100000 in
theorem inUX2 : ∀ w ∈ u_ws RX2 TX2 6, w ∈ lw_tbl := by_places [34, 36, 38, 40, 42, 44] (by rfl)
set_option maxRecDepth 100000 in
theorem inUX1 : ∀ w ∈ u_ws RX1 TX1 12, w ∈ lw_tbl := by_places [249, 251, 253, 255, 257, 259, 261, 263, 265, 267, 269, 271] (by rfl)
set_option maxRecDepth 100000 in
theorem inUX0 : ∀ w ∈ u_ws RX0 TX0 5, w ∈ lw_tbl := by_places [303, 305, 307, 309, 311] (by rfl)
end
section
/-! THE LAW'S OWN WORDS, all of them. -/
theorem fa {big a b : List Cond} (h1 : ∀ w ∈ a, w ∈ big) (h2 : ∀ w ∈ b, w ∈ big) : ∀ w ∈ a ++ b, w ∈ big := List.forall_mem_append.mpr ⟨h1, h2⟩
theorem wsL_law_in0 : ∀ w ∈ wsL_law0, w ∈ lw_tbl := fa (fa (fa (fa (fa wsL_law0_r1_in (fa wsL_law0_r2_in (fa wsL_law0_r3_in (fa wsL_law0_r4_in (fa wsL_law0_r5_in (fa wsL_law0_r6_in (fa wsL_law0_r7_in (fa wsL_law0_r8_in (fa wsL_law0_r9_in (fa wsL_law0_r10_in (fa wsL_law0_r11_in wsL_law0_r12_in))))))))))) inUX2) inUX1) inUX0) (fun _ h => absurd h List.not_mem_nil)
theorem wsL_law_x0 : ∀ w ∈ (vx_atS RX2 152 "java/lang/IllegalArgumentException" ["java/lang/RuntimeException", "java/lang/Exception"]).filter goodWord, w ∈ lw_tbl := by decide +kernel
theorem wsL_law_x1 : ∀ w ∈ (vx_atS RX2 28 "java/lang/IllegalStateException" ["java/lang/RuntimeException", "java/lang/Exception"]).filter goodWord, w ∈ lw_tbl := by decide +kernel
theorem wsL_law_x2 : ∀ w ∈ (vx_atS RX2 157 "java/lang/IndexOutOfBoundsException" ["java/lang/RuntimeException", "java/lang/Exception"]).filter goodWord, w ∈ lw_tbl := by decide +kernel
theorem wsL_law_in : ∀ w ∈ wsL_law, w ∈ lw_tbl := fun w h => (List.mem_append.mp h).elim (fun h => (List.mem_append.mp h).elim (fun h => (List.mem_append.mp h).elim (fun h => wsL_law_in0 w h) (fun h => wsL_law_x0 w h)) (fun h => wsL_law_x1 w h)) (fun h => wsL_law_x2 w h)
theorem inlX0 : ∀ w ∈ wsX00, w ∈ wsL_law := fun _ h => List.mem_append_left _ (List.mem_append_left _ (List.mem_append_left _ (List.mem_append_left _ (List.mem_append_right _ h))))
theorem inX0 : ∀ w ∈ wsX00, w ∈ lw_tbl := fun w h => wsL_law_in w (inlX0 w h)
theorem inlX1 : ∀ w ∈ wsX10, w ∈ wsL_law := fun _ h => List.mem_append_left _ (List.mem_append_left _ (List.mem_append_left _ (List.mem_append_left _ (List.mem_append_left _ (List.mem_append_right _ h)))))
theorem inX1 : ∀ w ∈ wsX10, w ∈ lw_tbl := fun w h => wsL_law_in w (inlX1 w h)
theorem inlX2 : ∀ w ∈ wsX20, w ∈ wsL_law := fun _ h => List.mem_append_left _ (List.mem_append_left _ (List.mem_append_left _ (List.mem_append_left _ (List.mem_append_left _ (List.mem_append_left _ (List.mem_append_right _ h))))))
theorem inX2 : ∀ w ∈ wsX20, w ∈ lw_tbl := fun w h => wsL_law_in w (inlX2 w h)
end
section
/-! THE LAW: its code. -/
theorem dL_law_0 : decode cL_law 0 = .ok (.new 10, 3) := by decide +kernel
theorem dL_law_3 : decode cL_law 3 = .ok (.dup, 1) := by decide +kernel
theorem dL_law_4 : decode cL_law 4 = .ok (.invokespecial 82, 3) := by decide +kernel
theorem dL_law_7 : decode cL_law 7 = .ok (.astore_n 1, 1) := by decide +kernel
theorem dL_law_8 : decode cL_law 8 = .ok (.iconst 0, 1) := by decide +kernel
theorem dL_law_9 : decode cL_law 9 = .ok (.istore_n 2, 1) := by decide +kernel
theorem dL_law_10 : decode cL_law 10 = .ok (.iconst 0, 1) := by decide +kernel
theorem dL_law_11 : decode cL_law 11 = .ok (.istore_n 3, 1) := by decide +kernel
theorem dL_law_12 : decode cL_law 12 = .ok (.aload_n 1, 1) := by decide +kernel
theorem dL_law_13 : decode cL_law 13 = .ok (.invokevirtual 83, 3) := by decide +kernel
theorem dL_law_16 : decode cL_law 16 = .ok (.ifCond .ne 22, 3) := by decide +kernel
theorem dL_law_19 : decode cL_law 19 = .ok (.aload_n 1, 1) := by decide +kernel
theorem dL_law_20 : decode cL_law 20 = .ok (.invokevirtual 78, 3) := by decide +kernel
theorem dL_law_23 : decode cL_law 23 = .ok (.ifCond .ne 15, 3) := by decide +kernel
theorem dL_law_26 : decode cL_law 26 = .ok (.aload_n 1, 1) := by decide +kernel
theorem dL_law_27 : decode cL_law 27 = .ok (.iconst 0, 1) := by decide +kernel
theorem dL_law_28 : decode cL_law 28 = .ok (.invokevirtual 64, 3) := by decide +kernel
theorem dL_law_31 : decode cL_law 31 = .ok (.ifCond .ne 7, 3) := by decide +kernel
theorem dL_law_34 : decode cL_law 34 = .ok (.iconst 1, 1) := by decide +kernel
theorem dL_law_35 : decode cL_law 35 = .ok (.goto 4, 3) := by decide +kernel
theorem dL_law_38 : decode cL_law 38 = .ok (.iconst 0, 1) := by decide +kernel
theorem dL_law_39 : decode cL_law 39 = .ok (.istore 4, 2) := by decide +kernel
theorem dL_law_41 : decode cL_law 41 = .ok (.bipush 6, 2) := by decide +kernel
theorem dL_law_43 : decode cL_law 43 = .ok (.aload_n 0, 1) := by decide +kernel
theorem dL_law_44 : decode cL_law 44 = .ok (.iconst 0, 1) := by decide +kernel
theorem dL_law_45 : decode cL_law 45 = .ok (.invokestatic 86, 3) := by decide +kernel
theorem dL_law_48 : decode cL_law 48 = .ok (.bipush 55, 2) := by decide +kernel
theorem dL_law_50 : decode cL_law 50 = .ok (.invokestatic 61, 3) := by decide +kernel
theorem dL_law_53 : decode cL_law 53 = .ok (.iadd, 1) := by decide +kernel
theorem dL_law_54 : decode cL_law 54 = .ok (.istore 5, 2) := by decide +kernel
theorem dL_law_56 : decode cL_law 56 = .ok (.iconst 0, 1) := by decide +kernel
theorem dL_law_57 : decode cL_law 57 = .ok (.istore 6, 2) := by decide +kernel
theorem dL_law_59 : decode cL_law 59 = .ok (.iload 6, 2) := by decide +kernel
theorem dL_law_61 : decode cL_law 61 = .ok (.iload 5, 2) := by decide +kernel
theorem dL_law_63 : decode cL_law 63 = .ok (.if_icmp .ge 592, 3) := by decide +kernel
theorem dL_law_66 : decode cL_law 66 = .ok (.iload 4, 2) := by decide +kernel
theorem dL_law_68 : decode cL_law 68 = .ok (.ifCond .eq 587, 3) := by decide +kernel
theorem dL_law_71 : decode cL_law 71 = .ok (.aload_n 0, 1) := by decide +kernel
theorem dL_law_72 : decode cL_law 72 = .ok (.iconst 1, 1) := by decide +kernel
theorem dL_law_73 : decode cL_law 73 = .ok (.iload 6, 2) := by decide +kernel
theorem dL_law_75 : decode cL_law 75 = .ok (.iadd, 1) := by decide +kernel
theorem dL_law_76 : decode cL_law 76 = .ok (.invokestatic 86, 3) := by decide +kernel
theorem dL_law_79 : decode cL_law 79 = .ok (.istore 7, 2) := by decide +kernel
theorem dL_law_81 : decode cL_law 81 = .ok (.aload_n 1, 1) := by decide +kernel
theorem dL_law_82 : decode cL_law 82 = .ok (.invokevirtual 83, 3) := by decide +kernel
theorem dL_law_85 : decode cL_law 85 = .ok (.istore 8, 2) := by decide +kernel
theorem dL_law_87 : decode cL_law 87 = .ok (.iload 8, 2) := by decide +kernel
theorem dL_law_89 : decode cL_law 89 = .ok (.ifCond .ne 7, 3) := by decide +kernel
theorem dL_law_92 : decode cL_law 92 = .ok (.iconst 0, 1) := by decide +kernel
theorem dL_law_93 : decode cL_law 93 = .ok (.goto 12, 3) := by decide +kernel
theorem dL_law_96 : decode cL_law 96 = .ok (.iload 7, 2) := by decide +kernel
theorem dL_law_98 : decode cL_law 98 = .ok (.iconst 3, 1) := by decide +kernel
theorem dL_law_99 : decode cL_law 99 = .ok (.ishr, 1) := by decide +kernel
theorem dL_law_100 : decode cL_law 100 = .ok (.iload 8, 2) := by decide +kernel
theorem dL_law_102 : decode cL_law 102 = .ok (.invokestatic 61, 3) := by decide +kernel
theorem dL_law_105 : decode cL_law 105 = .ok (.istore 9, 2) := by decide +kernel
theorem dL_law_107 : decode cL_law 107 = .ok (.iload 8, 2) := by decide +kernel
theorem dL_law_109 : decode cL_law 109 = .ok (.ifCond .le 17, 3) := by decide +kernel
theorem dL_law_112 : decode cL_law 112 = .ok (.iload_n 3, 1) := by decide +kernel
theorem dL_law_113 : decode cL_law 113 = .ok (.iload 9, 2) := by decide +kernel
theorem dL_law_115 : decode cL_law 115 = .ok (.ishr, 1) := by decide +kernel
theorem dL_law_116 : decode cL_law 116 = .ok (.iconst 1, 1) := by decide +kernel
theorem dL_law_117 : decode cL_law 117 = .ok (.iand, 1) := by decide +kernel
theorem dL_law_118 : decode cL_law 118 = .ok (.iconst 1, 1) := by decide +kernel
theorem dL_law_119 : decode cL_law 119 = .ok (.if_icmp .ne 7, 3) := by decide +kernel
theorem dL_law_122 : decode cL_law 122 = .ok (.iconst 1, 1) := by decide +kernel
theorem dL_law_123 : decode cL_law 123 = .ok (.goto 4, 3) := by decide +kernel
theorem dL_law_126 : decode cL_law 126 = .ok (.iconst 0, 1) := by decide +kernel
theorem dL_law_127 : decode cL_law 127 = .ok (.istore 10, 2) := by decide +kernel
theorem dL_law_129 : decode cL_law 129 = .ok (.iload 7, 2) := by decide +kernel
theorem dL_law_131 : decode cL_law 131 = .ok (.bipush 20, 2) := by decide +kernel
theorem dL_law_133 : decode cL_law 133 = .ok (.ishr, 1) := by decide +kernel
theorem dL_law_134 : decode cL_law 134 = .ok (.bipush 14, 2) := by decide +kernel
theorem dL_law_136 : decode cL_law 136 = .ok (.invokestatic 61, 3) := by decide +kernel
theorem dL_law_139 : decode cL_law 139 = .ok (.istore 11, 2) := by decide +kernel
theorem dL_law_141 : decode cL_law 141 = .ok (.iload 8, 2) := by decide +kernel
theorem dL_law_143 : decode cL_law 143 = .ok (.ifCond .eq 9, 3) := by decide +kernel
theorem dL_law_146 : decode cL_law 146 = .ok (.iload 11, 2) := by decide +kernel
theorem dL_law_148 : decode cL_law 148 = .ok (.iconst 1, 1) := by decide +kernel
theorem dL_law_149 : decode cL_law 149 = .ok (.if_icmp .ge 91, 3) := by decide +kernel
theorem dL_law_152 : decode cL_law 152 = .ok (.aload_n 1, 1) := by decide +kernel
theorem dL_law_153 : decode cL_law 153 = .ok (.iload 7, 2) := by decide +kernel
theorem dL_law_155 : decode cL_law 155 = .ok (.bipush 91, 2) := by decide +kernel
theorem dL_law_157 : decode cL_law 157 = .ok (.invokestatic 61, 3) := by decide +kernel
theorem dL_law_160 : decode cL_law 160 = .ok (.iload 7, 2) := by decide +kernel
theorem dL_law_162 : decode cL_law 162 = .ok (.iconst 5, 1) := by decide +kernel
theorem dL_law_163 : decode cL_law 163 = .ok (.ishr, 1) := by decide +kernel
theorem dL_law_164 : decode cL_law 164 = .ok (.iload 7, 2) := by decide +kernel
theorem dL_law_166 : decode cL_law 166 = .ok (.bipush 17, 2) := by decide +kernel
theorem dL_law_168 : decode cL_law 168 = .ok (.ishr, 1) := by decide +kernel
theorem dL_law_169 : decode cL_law 169 = .ok (.iconst 2, 1) := by decide +kernel
theorem dL_law_170 : decode cL_law 170 = .ok (.invokestatic 61, 3) := by decide +kernel
theorem dL_law_173 : decode cL_law 173 = .ok (.ifCond .ne 8, 3) := by decide +kernel
theorem dL_law_176 : decode cL_law 176 = .ok (.ldc 90, 2) := by decide +kernel
theorem dL_law_178 : decode cL_law 178 = .ok (.goto 6, 3) := by decide +kernel
theorem dL_law_181 : decode cL_law 181 = .ok (.sipush 3000, 3) := by decide +kernel
theorem dL_law_184 : decode cL_law 184 = .ok (.invokestatic 61, 3) := by decide +kernel
theorem dL_law_187 : decode cL_law 187 = .ok (.invokestatic 91, 3) := by decide +kernel
theorem dL_law_190 : decode cL_law 190 = .ok (.istore 12, 2) := by decide +kernel
theorem dL_law_192 : decode cL_law 192 = .ok (.iload 12, 2) := by decide +kernel
theorem dL_law_194 : decode cL_law 194 = .ok (.bipush (-3), 2) := by decide +kernel
theorem dL_law_196 : decode cL_law 196 = .ok (.if_icmp .ne 18, 3) := by decide +kernel
theorem dL_law_199 : decode cL_law 199 = .ok (.iload 8, 2) := by decide +kernel
theorem dL_law_201 : decode cL_law 201 = .ok (.bipush 30, 2) := by decide +kernel
theorem dL_law_203 : decode cL_law 203 = .ok (.if_icmp .ne 7, 3) := by decide +kernel
theorem dL_law_206 : decode cL_law 206 = .ok (.iconst 1, 1) := by decide +kernel
theorem dL_law_207 : decode cL_law 207 = .ok (.goto 28, 3) := by decide +kernel
theorem dL_law_210 : decode cL_law 210 = .ok (.iconst 0, 1) := by decide +kernel
theorem dL_law_211 : decode cL_law 211 = .ok (.goto 24, 3) := by decide +kernel
theorem dL_law_214 : decode cL_law 214 = .ok (.iload 12, 2) := by decide +kernel
theorem dL_law_216 : decode cL_law 216 = .ok (.iload 8, 2) := by decide +kernel
theorem dL_law_218 : decode cL_law 218 = .ok (.if_icmp .ne 16, 3) := by decide +kernel
theorem dL_law_221 : decode cL_law 221 = .ok (.aload_n 1, 1) := by decide +kernel
theorem dL_law_222 : decode cL_law 222 = .ok (.iload 12, 2) := by decide +kernel
theorem dL_law_224 : decode cL_law 224 = .ok (.invokevirtual 36, 3) := by decide +kernel
theorem dL_law_227 : decode cL_law 227 = .ok (.ifCond .ne 7, 3) := by decide +kernel
theorem dL_law_230 : decode cL_law 230 = .ok (.iconst 1, 1) := by decide +kernel
theorem dL_law_231 : decode cL_law 231 = .ok (.goto 4, 3) := by decide +kernel
theorem dL_law_234 : decode cL_law 234 = .ok (.iconst 0, 1) := by decide +kernel
theorem dL_law_235 : decode cL_law 235 = .ok (.istore 4, 2) := by decide +kernel
theorem dL_law_237 : decode cL_law 237 = .ok (.goto 369, 3) := by decide +kernel
theorem dL_law_240 : decode cL_law 240 = .ok (.iload 11, 2) := by decide +kernel
theorem dL_law_242 : decode cL_law 242 = .ok (.iconst 5, 1) := by decide +kernel
theorem dL_law_243 : decode cL_law 243 = .ok (.if_icmp .ge 120, 3) := by decide +kernel
theorem dL_law_246 : decode cL_law 246 = .ok (.iload 10, 2) := by decide +kernel
theorem dL_law_248 : decode cL_law 248 = .ok (.ifCond .ne 115, 3) := by decide +kernel
theorem dL_law_251 : decode cL_law 251 = .ok (.iconst 1, 1) := by decide +kernel
theorem dL_law_252 : decode cL_law 252 = .ok (.iload 7, 2) := by decide +kernel
theorem dL_law_254 : decode cL_law 254 = .ok (.iload 7, 2) := by decide +kernel
theorem dL_law_256 : decode cL_law 256 = .ok (.bipush 17, 2) := by decide +kernel
theorem dL_law_258 : decode cL_law 258 = .ok (.ishr, 1) := by decide +kernel
theorem dL_law_259 : decode cL_law 259 = .ok (.iconst 2, 1) := by decide +kernel
theorem dL_law_260 : decode cL_law 260 = .ok (.invokestatic 61, 3) := by decide +kernel
theorem dL_law_263 : decode cL_law 263 = .ok (.ifCond .ne 8, 3) := by decide +kernel
theorem dL_law_266 : decode cL_law 266 = .ok (.ldc 94, 2) := by decide +kernel
theorem dL_law_268 : decode cL_law 268 = .ok (.goto 6, 3) := by decide +kernel
theorem dL_law_271 : decode cL_law 271 = .ok (.sipush 2000, 3) := by decide +kernel
theorem dL_law_274 : decode cL_law 274 = .ok (.invokestatic 61, 3) := by decide +kernel
theorem dL_law_277 : decode cL_law 277 = .ok (.iadd, 1) := by decide +kernel
theorem dL_law_278 : decode cL_law 278 = .ok (.istore 12, 2) := by decide +kernel
theorem dL_law_280 : decode cL_law 280 = .ok (.aload_n 1, 1) := by decide +kernel
theorem dL_law_281 : decode cL_law 281 = .ok (.iload 9, 2) := by decide +kernel
theorem dL_law_283 : decode cL_law 283 = .ok (.iload 12, 2) := by decide +kernel
theorem dL_law_285 : decode cL_law 285 = .ok (.iload 7, 2) := by decide +kernel
theorem dL_law_287 : decode cL_law 287 = .ok (.bipush 9, 2) := by decide +kernel
theorem dL_law_289 : decode cL_law 289 = .ok (.ishr, 1) := by decide +kernel
theorem dL_law_290 : decode cL_law 290 = .ok (.iconst 3, 1) := by decide +kernel
theorem dL_law_291 : decode cL_law 291 = .ok (.invokestatic 61, 3) := by decide +kernel
theorem dL_law_294 : decode cL_law 294 = .ok (.invokestatic 95, 3) := by decide +kernel
theorem dL_law_297 : decode cL_law 297 = .ok (.istore 13, 2) := by decide +kernel
theorem dL_law_299 : decode cL_law 299 = .ok (.iload 13, 2) := by decide +kernel
theorem dL_law_301 : decode cL_law 301 = .ok (.bipush (-3), 2) := by decide +kernel
theorem dL_law_303 : decode cL_law 303 = .ok (.if_icmp .eq 35, 3) := by decide +kernel
theorem dL_law_306 : decode cL_law 306 = .ok (.iload 13, 2) := by decide +kernel
theorem dL_law_308 : decode cL_law 308 = .ok (.ifCond .lt 34, 3) := by decide +kernel
theorem dL_law_311 : decode cL_law 311 = .ok (.iload 13, 2) := by decide +kernel
theorem dL_law_313 : decode cL_law 313 = .ok (.bipush 8, 2) := by decide +kernel
theorem dL_law_315 : decode cL_law 315 = .ok (.if_icmp .ge 27, 3) := by decide +kernel
theorem dL_law_318 : decode cL_law 318 = .ok (.aload_n 1, 1) := by decide +kernel
theorem dL_law_319 : decode cL_law 319 = .ok (.iload 9, 2) := by decide +kernel
theorem dL_law_321 : decode cL_law 321 = .ok (.iload 13, 2) := by decide +kernel
theorem dL_law_323 : decode cL_law 323 = .ok (.invokevirtual 58, 3) := by decide +kernel
theorem dL_law_326 : decode cL_law 326 = .ok (.ifCond .ne 16, 3) := by decide +kernel
theorem dL_law_329 : decode cL_law 329 = .ok (.aload_n 1, 1) := by decide +kernel
theorem dL_law_330 : decode cL_law 330 = .ok (.iload 9, 2) := by decide +kernel
theorem dL_law_332 : decode cL_law 332 = .ok (.invokevirtual 36, 3) := by decide +kernel
theorem dL_law_335 : decode cL_law 335 = .ok (.ifCond .le 7, 3) := by decide +kernel
theorem dL_law_338 : decode cL_law 338 = .ok (.iconst 1, 1) := by decide +kernel
theorem dL_law_339 : decode cL_law 339 = .ok (.goto 4, 3) := by decide +kernel
theorem dL_law_342 : decode cL_law 342 = .ok (.iconst 0, 1) := by decide +kernel
theorem dL_law_343 : decode cL_law 343 = .ok (.istore 4, 2) := by decide +kernel
theorem dL_law_345 : decode cL_law 345 = .ok (.iload_n 2, 1) := by decide +kernel
theorem dL_law_346 : decode cL_law 346 = .ok (.iload 13, 2) := by decide +kernel
theorem dL_law_348 : decode cL_law 348 = .ok (.bipush (-3), 2) := by decide +kernel
theorem dL_law_350 : decode cL_law 350 = .ok (.if_icmp .ne 7, 3) := by decide +kernel
theorem dL_law_353 : decode cL_law 353 = .ok (.iconst 0, 1) := by decide +kernel
theorem dL_law_354 : decode cL_law 354 = .ok (.goto 4, 3) := by decide +kernel
theorem dL_law_357 : decode cL_law 357 = .ok (.iconst 1, 1) := by decide +kernel
theorem dL_law_358 : decode cL_law 358 = .ok (.iadd, 1) := by decide +kernel
theorem dL_law_359 : decode cL_law 359 = .ok (.istore_n 2, 1) := by decide +kernel
theorem dL_law_360 : decode cL_law 360 = .ok (.goto 246, 3) := by decide +kernel
theorem dL_law_363 : decode cL_law 363 = .ok (.iload 11, 2) := by decide +kernel
theorem dL_law_365 : decode cL_law 365 = .ok (.bipush 7, 2) := by decide +kernel
theorem dL_law_367 : decode cL_law 367 = .ok (.if_icmp .ge 130, 3) := by decide +kernel
theorem dL_law_370 : decode cL_law 370 = .ok (.iload 10, 2) := by decide +kernel
theorem dL_law_372 : decode cL_law 372 = .ok (.ifCond .ne 125, 3) := by decide +kernel
theorem dL_law_375 : decode cL_law 375 = .ok (.aload_n 1, 1) := by decide +kernel
theorem dL_law_376 : decode cL_law 376 = .ok (.iload 9, 2) := by decide +kernel
theorem dL_law_378 : decode cL_law 378 = .ok (.invokevirtual 36, 3) := by decide +kernel
theorem dL_law_381 : decode cL_law 381 = .ok (.istore 12, 2) := by decide +kernel
theorem dL_law_383 : decode cL_law 383 = .ok (.aload_n 1, 1) := by decide +kernel
theorem dL_law_384 : decode cL_law 384 = .ok (.iload 9, 2) := by decide +kernel
theorem dL_law_386 : decode cL_law 386 = .ok (.iload 7, 2) := by decide +kernel
theorem dL_law_388 : decode cL_law 388 = .ok (.iconst 5, 1) := by decide +kernel
theorem dL_law_389 : decode cL_law 389 = .ok (.ishr, 1) := by decide +kernel
theorem dL_law_390 : decode cL_law 390 = .ok (.iconst 3, 1) := by decide +kernel
theorem dL_law_391 : decode cL_law 391 = .ok (.invokestatic 61, 3) := by decide +kernel
theorem dL_law_394 : decode cL_law 394 = .ok (.iload 7, 2) := by decide +kernel
theorem dL_law_396 : decode cL_law 396 = .ok (.sipush 2000, 3) := by decide +kernel
theorem dL_law_399 : decode cL_law 399 = .ok (.invokestatic 61, 3) := by decide +kernel
theorem dL_law_402 : decode cL_law 402 = .ok (.imul, 1) := by decide +kernel
theorem dL_law_403 : decode cL_law 403 = .ok (.iload 7, 2) := by decide +kernel
theorem dL_law_405 : decode cL_law 405 = .ok (.bipush 7, 2) := by decide +kernel
theorem dL_law_407 : decode cL_law 407 = .ok (.ishr, 1) := by decide +kernel
theorem dL_law_408 : decode cL_law 408 = .ok (.iconst 3, 1) := by decide +kernel
theorem dL_law_409 : decode cL_law 409 = .ok (.invokestatic 61, 3) := by decide +kernel
theorem dL_law_412 : decode cL_law 412 = .ok (.iload 7, 2) := by decide +kernel
theorem dL_law_414 : decode cL_law 414 = .ok (.sipush 1500, 3) := by decide +kernel
theorem dL_law_417 : decode cL_law 417 = .ok (.invokestatic 61, 3) := by decide +kernel
theorem dL_law_420 : decode cL_law 420 = .ok (.imul, 1) := by decide +kernel
theorem dL_law_421 : decode cL_law 421 = .ok (.invokestatic 97, 3) := by decide +kernel
theorem dL_law_424 : decode cL_law 424 = .ok (.istore 13, 2) := by decide +kernel
theorem dL_law_426 : decode cL_law 426 = .ok (.iload 13, 2) := by decide +kernel
theorem dL_law_428 : decode cL_law 428 = .ok (.bipush (-3), 2) := by decide +kernel
theorem dL_law_430 : decode cL_law 430 = .ok (.if_icmp .ne 16, 3) := by decide +kernel
theorem dL_law_433 : decode cL_law 433 = .ok (.iload 12, 2) := by decide +kernel
theorem dL_law_435 : decode cL_law 435 = .ok (.ifCond .ne 7, 3) := by decide +kernel
theorem dL_law_438 : decode cL_law 438 = .ok (.iconst 1, 1) := by decide +kernel
theorem dL_law_439 : decode cL_law 439 = .ok (.goto 35, 3) := by decide +kernel
theorem dL_law_442 : decode cL_law 442 = .ok (.iconst 0, 1) := by decide +kernel
theorem dL_law_443 : decode cL_law 443 = .ok (.goto 31, 3) := by decide +kernel
theorem dL_law_446 : decode cL_law 446 = .ok (.iload 13, 2) := by decide +kernel
theorem dL_law_448 : decode cL_law 448 = .ok (.aload_n 1, 1) := by decide +kernel
theorem dL_law_449 : decode cL_law 449 = .ok (.iload 9, 2) := by decide +kernel
theorem dL_law_451 : decode cL_law 451 = .ok (.iconst 0, 1) := by decide +kernel
theorem dL_law_452 : decode cL_law 452 = .ok (.invokevirtual 33, 3) := by decide +kernel
theorem dL_law_455 : decode cL_law 455 = .ok (.if_icmp .ne 18, 3) := by decide +kernel
theorem dL_law_458 : decode cL_law 458 = .ok (.aload_n 1, 1) := by decide +kernel
theorem dL_law_459 : decode cL_law 459 = .ok (.iload 9, 2) := by decide +kernel
theorem dL_law_461 : decode cL_law 461 = .ok (.invokestatic 46, 3) := by decide +kernel
theorem dL_law_464 : decode cL_law 464 = .ok (.iload 12, 2) := by decide +kernel
theorem dL_law_466 : decode cL_law 466 = .ok (.if_icmp .ne 7, 3) := by decide +kernel
theorem dL_law_469 : decode cL_law 469 = .ok (.iconst 1, 1) := by decide +kernel
theorem dL_law_470 : decode cL_law 470 = .ok (.goto 4, 3) := by decide +kernel
theorem dL_law_473 : decode cL_law 473 = .ok (.iconst 0, 1) := by decide +kernel
theorem dL_law_474 : decode cL_law 474 = .ok (.istore 4, 2) := by decide +kernel
theorem dL_law_476 : decode cL_law 476 = .ok (.iload_n 3, 1) := by decide +kernel
theorem dL_law_477 : decode cL_law 477 = .ok (.iload 13, 2) := by decide +kernel
theorem dL_law_479 : decode cL_law 479 = .ok (.bipush (-3), 2) := by decide +kernel
theorem dL_law_481 : decode cL_law 481 = .ok (.if_icmp .ne 7, 3) := by decide +kernel
theorem dL_law_484 : decode cL_law 484 = .ok (.iconst 0, 1) := by decide +kernel
theorem dL_law_485 : decode cL_law 485 = .ok (.goto 7, 3) := by decide +kernel
theorem dL_law_488 : decode cL_law 488 = .ok (.iconst 1, 1) := by decide +kernel
theorem dL_law_489 : decode cL_law 489 = .ok (.iload 9, 2) := by decide +kernel
theorem dL_law_491 : decode cL_law 491 = .ok (.ishl, 1) := by decide +kernel
theorem dL_law_492 : decode cL_law 492 = .ok (.ior, 1) := by decide +kernel
theorem dL_law_493 : decode cL_law 493 = .ok (.istore_n 3, 1) := by decide +kernel
theorem dL_law_494 : decode cL_law 494 = .ok (.goto 112, 3) := by decide +kernel
theorem dL_law_497 : decode cL_law 497 = .ok (.iload 11, 2) := by decide +kernel
theorem dL_law_499 : decode cL_law 499 = .ok (.bipush 11, 2) := by decide +kernel
theorem dL_law_501 : decode cL_law 501 = .ok (.if_icmp .ge 25, 3) := by decide +kernel
theorem dL_law_504 : decode cL_law 504 = .ok (.iload 10, 2) := by decide +kernel
theorem dL_law_506 : decode cL_law 506 = .ok (.ifCond .eq 20, 3) := by decide +kernel
theorem dL_law_509 : decode cL_law 509 = .ok (.aload_n 1, 1) := by decide +kernel
theorem dL_law_510 : decode cL_law 510 = .ok (.iload 9, 2) := by decide +kernel
theorem dL_law_512 : decode cL_law 512 = .ok (.iconst 0, 1) := by decide +kernel
theorem dL_law_513 : decode cL_law 513 = .ok (.iload 7, 2) := by decide +kernel
theorem dL_law_515 : decode cL_law 515 = .ok (.bipush 8, 2) := by decide +kernel
theorem dL_law_517 : decode cL_law 517 = .ok (.ishr, 1) := by decide +kernel
theorem dL_law_518 : decode cL_law 518 = .ok (.invokestatic 99, 3) := by decide +kernel
theorem dL_law_521 : decode cL_law 521 = .ok (.istore 4, 2) := by decide +kernel
theorem dL_law_523 : decode cL_law 523 = .ok (.goto 83, 3) := by decide +kernel
theorem dL_law_526 : decode cL_law 526 = .ok (.iconst 1, 1) := by decide +kernel
theorem dL_law_527 : decode cL_law 527 = .ok (.iload 7, 2) := by decide +kernel
theorem dL_law_529 : decode cL_law 529 = .ok (.iload 7, 2) := by decide +kernel
theorem dL_law_531 : decode cL_law 531 = .ok (.bipush 9, 2) := by decide +kernel
theorem dL_law_533 : decode cL_law 533 = .ok (.ishr, 1) := by decide +kernel
theorem dL_law_534 : decode cL_law 534 = .ok (.iconst 3, 1) := by decide +kernel
theorem dL_law_535 : decode cL_law 535 = .ok (.invokestatic 61, 3) := by decide +kernel
theorem dL_law_538 : decode cL_law 538 = .ok (.ifCond .ne 8, 3) := by decide +kernel
theorem dL_law_541 : decode cL_law 541 = .ok (.bipush 60, 2) := by decide +kernel
theorem dL_law_543 : decode cL_law 543 = .ok (.goto 5, 3) := by decide +kernel
theorem dL_law_546 : decode cL_law 546 = .ok (.bipush 12, 2) := by decide +kernel
theorem dL_law_548 : decode cL_law 548 = .ok (.invokestatic 61, 3) := by decide +kernel
theorem dL_law_551 : decode cL_law 551 = .ok (.iadd, 1) := by decide +kernel
theorem dL_law_552 : decode cL_law 552 = .ok (.istore 12, 2) := by decide +kernel
theorem dL_law_554 : decode cL_law 554 = .ok (.aload_n 1, 1) := by decide +kernel
theorem dL_law_555 : decode cL_law 555 = .ok (.invokevirtual 78, 3) := by decide +kernel
theorem dL_law_558 : decode cL_law 558 = .ok (.istore 13, 2) := by decide +kernel
theorem dL_law_560 : decode cL_law 560 = .ok (.aload_n 1, 1) := by decide +kernel
theorem dL_law_561 : decode cL_law 561 = .ok (.iload 12, 2) := by decide +kernel
theorem dL_law_563 : decode cL_law 563 = .ok (.invokevirtual 103, 3) := by decide +kernel
theorem dL_law_566 : decode cL_law 566 = .ok (.istore 14, 2) := by decide +kernel
theorem dL_law_568 : decode cL_law 568 = .ok (.aload_n 1, 1) := by decide +kernel
theorem dL_law_569 : decode cL_law 569 = .ok (.invokevirtual 78, 3) := by decide +kernel
theorem dL_law_572 : decode cL_law 572 = .ok (.iload 13, 2) := by decide +kernel
theorem dL_law_574 : decode cL_law 574 = .ok (.iload 12, 2) := by decide +kernel
theorem dL_law_576 : decode cL_law 576 = .ok (.iadd, 1) := by decide +kernel
theorem dL_law_577 : decode cL_law 577 = .ok (.if_icmp .ne 26, 3) := by decide +kernel
theorem dL_law_580 : decode cL_law 580 = .ok (.iload 14, 2) := by decide +kernel
theorem dL_law_582 : decode cL_law 582 = .ok (.ifCond .lt 21, 3) := by decide +kernel
theorem dL_law_585 : decode cL_law 585 = .ok (.iload 14, 2) := by decide +kernel
theorem dL_law_587 : decode cL_law 587 = .ok (.iload_n 2, 1) := by decide +kernel
theorem dL_law_588 : decode cL_law 588 = .ok (.iload 12, 2) := by decide +kernel
theorem dL_law_590 : decode cL_law 590 = .ok (.bipush 21, 2) := by decide +kernel
theorem dL_law_592 : decode cL_law 592 = .ok (.idiv, 1) := by decide +kernel
theorem dL_law_593 : decode cL_law 593 = .ok (.iconst 1, 1) := by decide +kernel
theorem dL_law_594 : decode cL_law 594 = .ok (.iadd, 1) := by decide +kernel
theorem dL_law_595 : decode cL_law 595 = .ok (.imul, 1) := by decide +kernel
theorem dL_law_596 : decode cL_law 596 = .ok (.if_icmp .gt 7, 3) := by decide +kernel
theorem dL_law_599 : decode cL_law 599 = .ok (.iconst 1, 1) := by decide +kernel
theorem dL_law_600 : decode cL_law 600 = .ok (.goto 4, 3) := by decide +kernel
theorem dL_law_603 : decode cL_law 603 = .ok (.iconst 0, 1) := by decide +kernel
theorem dL_law_604 : decode cL_law 604 = .ok (.istore 4, 2) := by decide +kernel
theorem dL_law_606 : decode cL_law 606 = .ok (.iload 4, 2) := by decide +kernel
theorem dL_law_608 : decode cL_law 608 = .ok (.ifCond .eq 38, 3) := by decide +kernel
theorem dL_law_611 : decode cL_law 611 = .ok (.aload_n 1, 1) := by decide +kernel
theorem dL_law_612 : decode cL_law 612 = .ok (.invokevirtual 83, 3) := by decide +kernel
theorem dL_law_615 : decode cL_law 615 = .ok (.ifCond .eq 27, 3) := by decide +kernel
theorem dL_law_618 : decode cL_law 618 = .ok (.aload_n 1, 1) := by decide +kernel
theorem dL_law_619 : decode cL_law 619 = .ok (.iload 9, 2) := by decide +kernel
theorem dL_law_621 : decode cL_law 621 = .ok (.iload_n 3, 1) := by decide +kernel
theorem dL_law_622 : decode cL_law 622 = .ok (.iload 9, 2) := by decide +kernel
theorem dL_law_624 : decode cL_law 624 = .ok (.ishr, 1) := by decide +kernel
theorem dL_law_625 : decode cL_law 625 = .ok (.iconst 1, 1) := by decide +kernel
theorem dL_law_626 : decode cL_law 626 = .ok (.iand, 1) := by decide +kernel
theorem dL_law_627 : decode cL_law 627 = .ok (.iconst 1, 1) := by decide +kernel
theorem dL_law_628 : decode cL_law 628 = .ok (.if_icmp .ne 7, 3) := by decide +kernel
theorem dL_law_631 : decode cL_law 631 = .ok (.iconst 1, 1) := by decide +kernel
theorem dL_law_632 : decode cL_law 632 = .ok (.goto 4, 3) := by decide +kernel
theorem dL_law_635 : decode cL_law 635 = .ok (.iconst 0, 1) := by decide +kernel
theorem dL_law_636 : decode cL_law 636 = .ok (.invokestatic 106, 3) := by decide +kernel
theorem dL_law_639 : decode cL_law 639 = .ok (.ifCond .eq 7, 3) := by decide +kernel
theorem dL_law_642 : decode cL_law 642 = .ok (.iconst 1, 1) := by decide +kernel
theorem dL_law_643 : decode cL_law 643 = .ok (.goto 4, 3) := by decide +kernel
theorem dL_law_646 : decode cL_law 646 = .ok (.iconst 0, 1) := by decide +kernel
theorem dL_law_647 : decode cL_law 647 = .ok (.istore 4, 2) := by decide +kernel
theorem dL_law_649 : decode cL_law 649 = .ok (.iinc 6 1, 3) := by decide +kernel
theorem dL_law_652 : decode cL_law 652 = .ok (.goto (-593), 3) := by decide +kernel
theorem dL_law_655 : decode cL_law 655 = .ok (.iload 4, 2) := by decide +kernel
theorem dL_law_657 : decode cL_law 657 = .ok (.ireturn, 1) := by decide +kernel
end
section
/-! THE LAW: its callees' words. -/
set_option maxRecDepth 20000 in
theorem ggL_law_X2_init : GoodIn wsL_law wsX2_init := goodIn_r _ [7, 8, 9, 10, 11, 12, 267, 268, 269, 270, 271, 272] (by decide +kernel) (by decide +kernel)
theorem gL_law_X2_init : GoodIn wsL_law (wsX2_init) := ggL_law_X2_init
set_option maxRecDepth 20000 in
theorem ggL_law_X2_orders : GoodIn wsL_law wsX2_orders := goodIn_r _ [16, 17, 267, 268, 269, 270, 271, 272] (by decide +kernel) (by decide +kernel)
theorem gL_law_X2_orders : GoodIn wsL_law (wsV RL 83 RX2 yX2_orders wsX2_orders) := goodIn_app (goodIn_of _ (by decide +kernel)) ggL_law_X2_orders
set_option maxRecDepth 20000 in
theorem ggL_law_X2_day : GoodIn wsL_law wsX2_day := goodIn_r _ [21, 22, 267, 268, 269, 270, 271, 272] (by decide +kernel) (by decide +kernel)
theorem gL_law_X2_day : GoodIn wsL_law (wsV RL 78 RX2 yX2_day wsX2_day) := goodIn_app (goodIn_of _ (by decide +kernel)) ggL_law_X2_day
set_option maxRecDepth 20000 in
theorem ggL_law_X2_stock : GoodIn wsL_law wsX2_stock := goodIn_ca (goodIn_r _ [26, 27, 28, 29, 30, 31, 2, 32, 33, 34, 267, 268, 269, 270, 271, 272] (by decide +kernel) (by decide +kernel)) (goodIn_sub (fun _ h => List.mem_append_left _ (List.mem_append_left _ (List.mem_append_right _ h))) (by decide +kernel))
theorem gL_law_X2_stock : GoodIn wsL_law (wsV RL 64 RX2 yX2_stock wsX2_stock) := goodIn_app (goodIn_of _ (by decide +kernel)) ggL_law_X2_stock
set_option maxRecDepth 20000 in
theorem ggL_law_L_cell : GoodIn wsL_law wsL_cell := goodIn_r _ [38, 39] (by decide +kernel) (by decide +kernel)
theorem gL_law_L_cell : GoodIn wsL_law (va_wsS RL 86 yL_cell wsL_cell) := goodIn_app (goodIn_of _ (by decide +kernel)) ggL_law_L_cell
set_option maxRecDepth 20000 in
theorem ggL_law_L_low : GoodIn wsL_law wsL_low := goodIn_r _ [42, 43] (by decide +kernel) (by decide +kernel)
theorem gL_law_L_low : GoodIn wsL_law (va_wsS RL 61 yL_low wsL_low) := goodIn_app (goodIn_of _ (by decide +kernel)) ggL_law_L_low
set_option maxRecDepth 20000 in
theorem ggL_law_L_order : GoodIn wsL_law wsL_order := goodIn_ca (goodIn_ca (goodIn_r _ [46, 47, 48, 49, 50, 2, 51, 52, 53, 54, 17, 12, 11, 55, 56, 30, 31, 32, 33, 34, 57, 58, 59, 60, 9, 10, 61, 62, 63, 64, 267, 268, 269, 270, 271, 272, 273, 274, 275, 276, 277, 278, 279, 280, 281, 282, 283, 284] (by decide +kernel) (by decide +kernel)) (goodIn_sub (fun _ h => List.mem_append_left _ (List.mem_append_right _ h)) (by decide +kernel))) (goodIn_sub (fun _ h => List.mem_append_left _ (List.mem_append_left _ (List.mem_append_right _ h))) (by decide +kernel))
theorem gL_law_L_order : GoodIn wsL_law (va_wsS RL 91 yL_order wsL_order) := goodIn_app (goodIn_of _ (by decide +kernel)) ggL_law_L_order
set_option maxRecDepth 20000 in
theorem ggL_law_X2_price : GoodIn wsL_law wsX2_price := goodIn_ca (goodIn_r _ [68, 69, 70, 71, 2, 72, 73, 74, 12, 75, 76, 77, 56, 78, 62, 79, 80, 64, 63, 267, 268, 269, 270, 271, 272, 273, 274, 275, 276, 277, 278, 279, 280, 281, 282, 283, 284, 285, 286, 287, 288, 289] (by decide +kernel) (by decide +kernel)) (goodIn_sub (fun _ h => List.mem_append_right _ h) (by decide +kernel))
theorem gL_law_X2_price : GoodIn wsL_law (wsV RL 36 RX2 yX2_price wsX2_price) := goodIn_app (goodIn_of _ (by decide +kernel)) ggL_law_X2_price
set_option maxRecDepth 20000 in
theorem ggL_law_L_add : GoodIn wsL_law wsL_add := goodIn_ca (goodIn_ca (goodIn_ca (goodIn_r _ [83, 47, 84, 85, 86, 2, 87, 52, 53, 88, 89, 90, 91, 92, 69, 70, 71, 72, 73, 74, 12, 30, 31, 32, 33, 34, 93, 94, 95, 56, 96, 97, 62, 98, 99, 100, 101, 9, 10, 102, 103, 104, 105, 106, 107, 108, 273, 274, 275, 276, 277, 278, 279, 280, 281, 282, 283, 284, 285, 286, 287, 288, 289, 267, 268, 269, 270, 271, 272] (by decide +kernel) (by decide +kernel)) (goodIn_sub (fun _ h => List.mem_append_left _ (List.mem_append_right _ h)) (by decide +kernel))) (goodIn_sub (fun _ h => List.mem_append_right _ h) (by decide +kernel))) (goodIn_sub (fun _ h => List.mem_append_left _ (List.mem_append_left _ (List.mem_append_right _ h))) (by decide +kernel))
theorem gL_law_L_add : GoodIn wsL_law (va_wsS RL 95 yL_add wsL_add) := goodIn_app (goodIn_of _ (by decide +kernel)) ggL_law_L_add
set_option maxRecDepth 20000 in
theorem ggL_law_X2_state : GoodIn wsL_law wsX2_state := goodIn_ca (goodIn_r _ [112, 113, 69, 70, 71, 2, 72, 73, 74, 12, 114, 115, 116, 117, 285, 286, 287, 288, 289, 267, 268, 269, 270, 271, 272, 273, 274, 275, 276, 277, 278, 279, 280, 281, 282, 283, 284] (by decide +kernel) (by decide +kernel)) (goodIn_sub (fun _ h => List.mem_append_right _ h) (by decide +kernel))
theorem gL_law_X2_state : GoodIn wsL_law (wsV RL 58 RX2 yX2_state wsX2_state) := goodIn_app (goodIn_of _ (by decide +kernel)) ggL_law_X2_state
set_option maxRecDepth 20000 in
theorem ggL_law_L_pay : GoodIn wsL_law wsL_pay := goodIn_ca (goodIn_ca (goodIn_ca (goodIn_r _ [120, 47, 121, 122, 123, 2, 124, 52, 53, 54, 89, 125, 22, 126, 69, 70, 71, 72, 73, 74, 12, 30, 31, 32, 33, 34, 127, 128, 129, 56, 130, 131, 132, 133, 134, 135, 136, 137, 138, 139, 140, 76, 77, 78, 62, 79, 80, 64, 63, 273, 274, 275, 276, 277, 278, 279, 280, 281, 282, 283, 284, 267, 268, 269, 270, 271, 272, 285, 286, 287, 288, 289] (by decide +kernel) (by decide +kernel)) (goodIn_sub (fun _ h => List.mem_append_left _ (List.mem_append_right _ h)) (by decide +kernel))) (goodIn_sub (fun _ h => List.mem_append_right _ h) (by decide +kernel))) (goodIn_sub (fun _ h => List.mem_append_left _ (List.mem_append_left _ (List.mem_append_right _ h))) (by decide +kernel))
theorem gL_law_L_pay : GoodIn wsL_law (va_wsS RL 97 yL_pay wsL_pay) := goodIn_app (goodIn_of _ (by decide +kernel)) ggL_law_L_pay
set_option maxRecDepth 20000 in
theorem ggL_law_X2_taken : GoodIn wsL_law wsX2_taken := goodIn_ca (goodIn_ca (goodIn_r _ [144, 126, 145, 146, 69, 70, 71, 2, 72, 73, 74, 12, 30, 31, 32, 33, 34, 273, 274, 275, 276, 277, 278, 279, 280, 281, 282, 283, 284, 267, 268, 269, 270, 271, 272] (by decide +kernel) (by decide +kernel)) (goodIn_sub (fun _ h => List.mem_append_right _ h) (by decide +kernel))) (goodIn_sub (fun _ h => List.mem_append_left _ (List.mem_append_left _ (List.mem_append_right _ h))) (by decide +kernel))
theorem gL_law_X2_taken : GoodIn wsL_law (wsV RL 33 RX2 yX2_taken wsX2_taken) := goodIn_app (goodIn_of _ (by decide +kernel)) ggL_law_X2_taken
set_option maxRecDepth 20000 in
theorem ggL_law_L_all : GoodIn wsL_law wsL_all := goodIn_ca (goodIn_ca (goodIn_r _ [149, 141, 142, 143, 2, 144, 126, 145, 146, 69, 70, 71, 72, 73, 74, 12, 30, 31, 32, 33, 34, 273, 274, 275, 276, 277, 278, 279, 280, 281, 282, 283, 284, 267, 268, 269, 270, 271, 272] (by decide +kernel) (by decide +kernel)) (goodIn_sub (fun _ h => List.mem_append_right _ h) (by decide +kernel))) (goodIn_sub (fun _ h => List.mem_append_left _ (List.mem_append_left _ (List.mem_append_right _ h))) (by decide +kernel))
theorem gL_law_L_all : GoodIn wsL_law (va_wsS RL 46 yL_all wsL_all) := goodIn_app (goodIn_of _ (by decide +kernel)) ggL_law_L_all
set_option maxRecDepth 20000 in
theorem ggL_law_L_returns : GoodIn wsL_law wsL_returns := goodIn_ca (goodIn_ca (goodIn_ca (goodIn_r _ [152, 109, 110, 111, 2, 112, 113, 69, 70, 71, 72, 73, 74, 12, 114, 115, 116, 117, 40, 41, 37, 42, 43, 147, 148, 149, 141, 142, 143, 144, 126, 145, 146, 30, 31, 32, 33, 34, 153, 154, 155, 156, 157, 23, 24, 25, 26, 27, 28, 29, 158, 159, 160, 161, 52, 53, 162, 163, 164, 165, 166, 92, 167, 102, 168, 169, 170, 171, 172, 173, 174, 175, 176, 104, 103, 177, 178, 179, 180, 181, 182, 183, 56, 184, 185, 186, 133, 187, 137, 131, 132, 134, 136, 135, 188, 189, 190, 191, 192, 193, 194, 195, 196, 197, 198, 140, 76, 77, 78, 62, 79, 80, 64, 63, 199, 200, 201, 202, 89, 203, 204, 205, 206, 207, 208, 209, 210, 211, 212, 213, 22, 214, 215, 216, 217, 218, 219, 220, 221, 47, 222, 223, 224, 225, 226, 227, 228, 229, 230, 231, 232, 233, 234, 235, 236, 237, 238, 239, 240, 18, 19, 20, 21, 285, 286, 287, 288, 289, 267, 268, 269, 270, 271, 272, 273, 274, 275, 276, 277, 278, 279, 280, 281, 282, 283, 284] (by decide +kernel) (by decide +kernel)) (goodIn_sub (fun _ h => List.mem_append_right _ h) (by decide +kernel))) (goodIn_sub (fun _ h => List.mem_append_left _ (List.mem_append_left _ (List.mem_append_right _ h))) (by decide +kernel))) (goodIn_sub (fun _ h => List.mem_append_left _ (List.mem_append_right _ h)) (by decide +kernel))
theorem gL_law_L_returns : GoodIn wsL_law (va_wsS RL 99 yL_returns wsL_returns) := goodIn_app (goodIn_of _ (by decide +kernel)) ggL_law_L_returns
set_option maxRecDepth 20000 in
theorem ggL_law_X2_pass : GoodIn wsL_law wsX2_pass := goodIn_ca (goodIn_ca (goodIn_r _ [244, 52, 53, 22, 12, 30, 31, 2, 32, 33, 34, 245, 246, 247, 56, 248, 62, 249, 79, 80, 250, 165, 166, 92, 167, 102, 251, 252, 253, 254, 198, 137, 267, 268, 269, 270, 271, 272, 273, 274, 275, 276, 277, 278, 279, 280, 281, 282, 283, 284, 285, 286, 287, 288, 289] (by decide +kernel) (by decide +kernel)) (goodIn_sub (fun _ h => List.mem_append_left _ (List.mem_append_right _ h)) (by decide +kernel))) (goodIn_sub (fun _ h => List.mem_append_left _ (List.mem_append_left _ (List.mem_append_right _ h))) (by decide +kernel))
theorem gL_law_X2_pass : GoodIn wsL_law (wsV RL 103 RX2 yX2_pass wsX2_pass) := goodIn_app (goodIn_of _ (by decide +kernel)) ggL_law_X2_pass
set_option maxRecDepth 20000 in
theorem ggL_law_L_sums : GoodIn wsL_law wsL_sums := goodIn_ca (goodIn_ca (goodIn_r _ [257, 65, 66, 67, 2, 68, 69, 70, 71, 72, 73, 74, 12, 75, 76, 77, 56, 78, 62, 79, 80, 64, 63, 258, 259, 260, 261, 162, 262, 263, 264, 265, 266, 147, 148, 37, 149, 141, 142, 143, 144, 126, 145, 146, 30, 31, 32, 33, 34, 153, 154, 155, 156, 157, 199, 200, 201, 202, 89, 203, 186, 133, 187, 204, 194, 195, 196, 197, 198, 140, 205, 190, 191, 192, 137, 136, 135, 267, 268, 269, 270, 271, 272, 273, 274, 275, 276, 277, 278, 279, 280, 281, 282, 283, 284, 285, 286, 287, 288, 289] (by decide +kernel) (by decide +kernel)) (goodIn_sub (fun _ h => List.mem_append_right _ h) (by decide +kernel))) (goodIn_sub (fun _ h => List.mem_append_left _ (List.mem_append_left _ (List.mem_append_right _ h))) (by decide +kernel))
theorem gL_law_L_sums : GoodIn wsL_law (va_wsS RL 106 yL_sums wsL_sums) := goodIn_app (goodIn_of _ (by decide +kernel)) ggL_law_L_sums
end
section
/-! THE CLAIM OUT OF ONE WALK OF THE LAW'S BODY. Your part is whole_start (and what it stands on); all else here is the same for every law, but numbers. -/
def R_law : String := "ReturnsDeskLaw"
def lw_P (b : Addr) (xs : List Int32) (args : Array Value) (s : State) : Prop := args = #[.ref b] ∧ s.IntsAt b xs ∧ xs.length ≤ 260 ∧ (Jvm.Cond.and given_1 narrow_1).before args s = true
def lw_Q (_ : Array Value) (s : State) (o : Outcome) (t : State) : Prop := o = .returned (some (.int 1)) ∧ Framed s o t [] 632656 7203499
def lw_Z (below : List Frame) (a : Array Value) (s : State) : State → Prop := fun t => ∃ o, t.status = .running ∧ Ended t below o ∧ lw_Q a s o t
/-- the law's own end, with 1 on the stack, nothing written that was there before, its room as the claim has it -/
theorem lw_ret {p : Program} {l : Launch} {e : Env} {s : State} {m : MethodId} {below : List Frame} {meth : Method} {c : Code} {b : Nat} (hx : p.tables.exec = Jvm.exec) (hb : c.code = code) (hr : meth.sig.returnType = ret) (hlocks : meth.locks = false) {pc : Nat} {H : Heap} {ls : Array Slot} (hdg : decode code pc = .ok (.ireturn, 1)) : W p l e room_1 s m #[Value.ref b] below meth c H [] 632656 7203499 (lw_Z below #[Value.ref b] s) (F0 m pc ls [.int 1]) := by
  intro T hT X
  obtain ⟨fs, hret, hrun, hended, hW, hframe⟩ := X.leave (v := some (.int 1)) (hlocks := hlocks) (fun h => by rw [hr] at h; cases h)
  have hmeth' : T.vm.method? m = some meth := X.method'
  refine ⟨T.setFrames fs, ?_, .returned (some (.int 1)), hrun, hended, rfl, ⟨_, rfl⟩, hW, hframe⟩
  jvm_step X.here [X.here.top, hx, hb, hdg, hmeth', hr, ret, narrow_b1]
  (try refine ⟨rfl, ?_⟩); (try refine ⟨rfl, ?_⟩)
  first | (intro acts; rw [hret _ acts rfl rfl rfl]) | rw [hret _ _ rfl rfl rfl]
  exact Steps.refl _
/-- what holds at the law's entry: the machine, the code, the tables' words (any of lw_tbl by 'hts w (by decide +kernel)'), the script of L ints xs at the cell b, what the Statement gives of the start (any of its parts by flat_of_before) -/
def lw_At (p : Program) (s : State) (m : MethodId) (meth : Method) (c : Code) (b L : Nat) (xs : Nat → Int32) : Prop :=
  p.tables.exec = Jvm.exec ∧ c.code = code ∧ meth.sig.returnType = ret ∧ c.maxLocals = 15 ∧ s.vm.findClass R_law = some m.cls ∧ (∀ w ∈ lw_tbl, w.before #[Value.ref b] s = true) ∧ va_X b L xs s s.heap ∧ b < s.heap.size ∧ meth.locks = false ∧ (Jvm.Cond.and given_1 narrow_1).before #[Value.ref b] s = true
end
section
/-! THE LAW'S LOOP: what holds at its head. -/
def AH (hz : Nat) : Nat → Prop := fun q => hz ≤ q
def Gw (g g' : XG) (sz : Nat) : Prop := (∀ t i a, g' t i = some a → (∃ t' i', g t' i' = some a) ∨ sz ≤ a) ∧ xI g' ∧ g' 3 0 = g 3 0 ∧ g' 4 0 = g 4 0
theorem Gw.refl {g g' : XG} {sz : Nat} (hI : xI g) (h : g' = g) : Gw g g' sz := by
  subst h
  exact ⟨fun t i a h => Or.inl ⟨t, i, h⟩, hI, rfl, rfl⟩
theorem ne_m3 {v : Nat} (h : v < 2 ^ 31) : ¬ nI v = -3 := fun z => by
  have h1 := nI_toInt h
  rw [z] at h1
  have h2 : (-3 : Int32).toInt = -3 := by decide
  rw [h2] at h1
  omega
theorem y_in1 (r : Nat) {N : Nat} {x : Int32} (hx : x = nI N) (h1 : 1 ≤ r) (hr : r ≤ N) (hN : N < 2 ^ 31) : inR (nI r) 1 x := by
  subst hx
  exact ⟨nI_nlt (a := r) (b := 1) h1 (by omega), nI_nlt hr hN⟩
/-- the class's world at the law's heap -/
def Wd (D : va_G) (cI cO cL cJ : ClassId) (d bk : Nat) (s : State) (g : XG) (X : MS) (H : Heap) : Prop := xW D cO cL g X H ∧ xE s.heap.size s H ∧ xI g ∧ xO g s.heap.size H.size ∧ g 3 0 = some d ∧ g 4 0 = some bk
theorem Wd.next {D : va_G} {cI cO cL cJ : ClassId} {d bk : Nat} {s : State} {g g' : XG} {X X' : MS} {H H1 : Heap} (h : Wd D cI cO cL cJ d bk s g X H) (hgr : Gw g g' H.size) (hW1 : xW D cO cL g' X' H1) (hz1 : H.size ≤ H1.size) (hk : ∀ a : Nat, a < H.size → ¬ xA g H.size a → H1[a]? = H[a]?) : Wd D cI cO cL cJ d bk s g' X' H1 := by
  obtain ⟨hW, hE, hI, hO, hd, hbk⟩ := h
  refine ⟨hW1, hE.kept (fun a h1 h2 => hk a h1 (fun z => h2 ?_)), hgr.2.1, ⟨fun t i a ha => ?_, Nat.le_trans hO.2 hz1⟩, hgr.2.2.1.trans hd, hgr.2.2.2.trans hbk⟩
  · exact hO.A z
  · rcases hgr.1 t i a ha with ⟨t', i', z⟩ | z
    · exact hO.1 t' i' a z
    · exact Nat.le_trans hO.2 z
theorem gw_order {g g' : XG} {n sz q la : Nat} (hI : xI g) (hlt : ∀ t i a, g t i = some a → a < sz) (h1 : sz ≤ q) (h2 : sz ≤ la) (h3 : q ≠ la) (h4 : g' = gOrd g n q la) : Gw g g' sz := by
  subst h4
  refine ⟨fun t i a ha => ?_, hI.ord hlt h1 h2 h3, rfl, rfl⟩
  rcases gOrd_key ha with ⟨_, _, h⟩ | ⟨_, _, h⟩ | ⟨h, _⟩
  · exact Or.inr (by omega)
  · exact Or.inr (by omega)
  · exact Or.inl ⟨t, i, h⟩
theorem gw_add {g g' : XG} {j sz al : Nat} (hI : xI g) (hlt : ∀ t i a, g t i = some a → a < sz) (h1 : sz ≤ al) (h4 : g' = gMov (gLine g 300 al) j al) : Gw g g' sz := by
  subst h4
  refine ⟨fun t i a ha => ?_, (hI.line hlt h1).mov (by simp [gLine]), by simp [gMov, gLine], by simp [gMov, gLine]⟩
  rcases gMov_key ha with ⟨_, _, h⟩ | ⟨h, _⟩
  · exact Or.inr (by omega)
  · rcases gLine_key h with ⟨_, _, h⟩ | ⟨h, _⟩
    · exact Or.inr (by omega)
    · exact Or.inl ⟨t, i, h⟩
def LI (D : va_G) (cI cO cL cJ : ClassId) (d bk : Nat) (s : State) (T n : Nat) (kc : Nat → Nat) (Lc mm : Nat) (g : XG) (X : MS) (H : Heap) : Prop := Wd D cI cO cL cJ d bk s g X H ∧ xC g X n kc ∧ xZ g n ∧ PI T X n kc Lc mm
theorem xC.h8 {g : XG} {X : MS} {n : Nat} {kc : Nat → Nat} (h : xC g X n kc) : ∀ i, i < n → kc i ≤ 8 := fun i hi => (h.2.2.2 i hi).1
def LC (p : Program) (l : Launch) (s : State) (m : MethodId) (c : Code) (D : va_G) (cI cO cL cJ : ClassId) (b L : Nat) (xs : Nat → Int32) : Prop :=
  p.tables.exec = Jvm.exec ∧ c.code = cL_law ∧ c.maxLocals = 15 ∧ s.vm.findClass RL = some m.cls ∧ (∀ w ∈ wsL_law, w.before #[Value.ref b] s = true) ∧ va_X b L xs s s.heap ∧ b < s.heap.size ∧ L ≤ 260 ∧ KK D cI cO cL cJ s ∧ l.stackTraces = false
end
section
/-! THE LAW'S TURNS: an order, a line. -/
set_option maxHeartbeats 4000000 in
set_option maxRecDepth 100000 in
theorem law_order {p : Program} {l : Launch} {e : Env} {s : State} {m : MethodId} {below : List Frame} {meth : Method} {c : Code} {D : va_G} {cI cO cL cJ : ClassId} {b L : Nat} {xs : Nat → Int32} (C0 : LC p l s m c D cI cO cL cJ b L xs) {d bk T n Lc mm tn k : Nat} {kc : Nat → Nat} {g : XG} {X : MS} {H : Heap} {locs : List Loc} {cells slots : Nat} {ls : Array Slot} {v : Int32} (hT : T ≤ 60) (hLI : LI D cI cO cL cJ d bk s T n kc Lc mm g X H) (hS : va_S (AH s.heap.size) s.heap H locs) (hl : lv_has ls 15 [(0, .ref b), (1, .ref d), (2, .int (nI Lc)), (3, .int (nI mm)), (4, .int 1), (5, .int (nI tn)), (6, .int (nI T)), (7, .int v), (8, .int (nI n)), (9, .int (nI k))]) (hc : cells ≤ 10000) (hs : slots ≤ 100000) (hk : k < n ∨ (n = 0 ∧ k = 0))
    (htail : ∀ (k n' : Nat) (kc' : Nat → Nat) (Lc' mm' : Nat) (g' : XG) (X' : MS) (H' : Heap) (locs' : List Loc) (ls' : Array Slot) (cells' slots' : Nat), k < n' → LI D cI cO cL cJ d bk s (T + 1) n' kc' Lc' mm' g' X' H' → va_S (AH s.heap.size) s.heap H' locs' → lv_has ls' 15 [(4, .int 1), (0, .ref b), (1, .ref d), (2, .int (nI Lc')), (3, .int (nI mm')), (5, .int (nI tn)), (6, .int (nI T)), (9, .int (nI k))] → cells' ≤ cells + 29 → slots' ≤ slots + 174 → W p l e room_1 s m #[Value.ref b] below meth c H' locs' cells' slots' (lw_Z below #[Value.ref b] s) (F0 m 606 ls' [])) : W p l e room_1 s m #[Value.ref b] below meth c H locs cells slots (lw_Z below #[Value.ref b] s) (F0 m 152 ls []) := by
  obtain ⟨hx, hb, hml, hown, hts, hXb, hbl, hL, hK, hlt⟩ := C0
  obtain ⟨hWd, hC, hZ, hPI⟩ := hLI
  obtain ⟨hW, hE, hI, hO, hd, hbk⟩ := id hWd
  have hn30 := hC.1
  have h8a := hC.h8
  have hA : ∀ q, xA g H.size q → AH s.heap.size q := fun q h => hO.A h
  refine lv_aload_n hx hb dL_law_152 rfl (lv_at hl 1 rfl) ?_
  refine lv_iload hx hb dL_law_153 (lv_at hl 7 rfl) ?_
  refine lv_bipush (v := 91) hx hb dL_law_155 (by decide) ?_
  refine z_low ⟨hx, hb, hml, hown, hts⟩ gL_law_L_low (N := 91) (by decide) (by decide) hl.1 (Nat.le_of_ble_eq_true rfl) dL_law_157 ⟨Nat.le_of_ble_eq_true rfl, Nat.le_of_ble_eq_true rfl⟩ ⟨by show cells ≤ 632656; omega, by show slots ≤ 7203499; omega⟩ (fun q1 hq1 => ?_)
  refine lv_iload hx hb dL_law_160 (lv_at hl 7 rfl) ?_
  refine lv_iconst (v := 5) hx hb dL_law_162 (by decide) ?_
  refine lv_ishr hx hb dL_law_163 ?_
  refine lv_iload hx hb dL_law_164 (lv_at hl 7 rfl) ?_
  refine lv_bipush (v := 17) hx hb dL_law_166 (by decide) ?_
  refine lv_ishr hx hb dL_law_168 ?_
  refine lv_iconst (v := 2) hx hb dL_law_169 (by decide) ?_
  refine z_low ⟨hx, hb, hml, hown, hts⟩ gL_law_L_low (N := 2) (by decide) (by decide) hl.1 (Nat.le_of_ble_eq_true rfl) dL_law_170 ⟨Nat.le_of_ble_eq_true rfl, Nat.le_of_ble_eq_true rfl⟩ ⟨by show cells ≤ 632656; omega, by show slots ≤ 7203499; omega⟩ (fun q2 hq2 => ?_)
  refine lv_if_ne (tgt := 181) hx hb dL_law_173 (by decide) (fun c173 => ?_) (fun c173 => ?_)
  · skip
    refine lv_sipush (v := 3000) hx hb dL_law_181 (by decide) ?_
    refine z_low ⟨hx, hb, hml, hown, hts⟩ gL_law_L_low (N := 3000) (by decide) (by decide) hl.1 (Nat.le_of_ble_eq_true rfl) dL_law_184 ⟨Nat.le_of_ble_eq_true rfl, Nat.le_of_ble_eq_true rfl⟩ ⟨by show cells ≤ 632656; omega, by show slots ≤ 7203499; omega⟩ (fun q3 hq3 => ?_)
    refine z_order hlt ⟨hx, hb, hml, hown, hts⟩ gL_law_L_order hW hK hE hd hbk hI hO hS hA hC hZ (y_in q1 (N := 90) rfl (by omega) (by decide)) (y_in q3 (N := 1000000) rfl (by omega) (by decide)) hl.1 (Nat.le_of_ble_eq_true rfl) dL_law_187 ⟨Nat.le_of_ble_eq_true rfl, Nat.le_of_ble_eq_true rfl⟩ ⟨by show cells + 4 ≤ 632656; omega, by show slots + 32 ≤ 7203499; omega⟩ (fun r u H locs hp hW hz9 hk9 hS => ?_)
    obtain ⟨g1, X1⟩ := u
    rcases hp with ⟨qo, la, a1, a2, a3, a4, a5, rfl, a7⟩ | ⟨rfl, a1, a2⟩
    · skip
      dsimp only at a4 a5 hW
      have hWd1 : Wd D cI cO cL cJ d bk s g1 X1 H := hWd.next (gw_order hI (fun t i a h => xW.lt hWd.1 h) a1 a2 a3 a4) hW hz9 hk9
      obtain ⟨-, hE, hI, hO, hd, hbk⟩ := id hWd1
      obtain ⟨hC1, hZ1⟩ := xC.ord hC hZ (qo := qo) (la := la) (p0 := nI q1) (p1 := nI q3) a7
      rw [← a4, ← a5] at hC1
      rw [← a4] at hZ1
      have hPI1 := hPI.order a7 (p1 := nI q3) (y_in q1 (N := 90) rfl (by omega) (by decide))
      rw [← a5] at hPI1
      have hC := hC1
      refine lv_istore (lv' := [(12, .int (nI n)), (0, .ref b), (1, .ref d), (2, .int (nI Lc)), (3, .int (nI mm)), (4, .int 1), (5, .int (nI tn)), (6, .int (nI T)), (7, .int v), (8, .int (nI n)), (9, .int (nI k))]) hx hb dL_law_190 hl (by decide) rfl (fun ls hl => ?_)
      refine lv_iload hx hb dL_law_192 (lv_at hl 0 rfl) ?_
      refine lv_bipush (v := (-3)) hx hb dL_law_194 (by decide) ?_
      refine lv_icmp_ne (tgt := 214) hx hb dL_law_196 (by decide) (fun _ => ?_) (fun h9 => absurd h9 (ne_m3 (by omega)))
      refine lv_iload hx hb dL_law_214 (lv_at hl 0 rfl) ?_
      refine lv_iload hx hb dL_law_216 (lv_at hl 9 rfl) ?_
      refine lv_icmp_ne (tgt := 234) hx hb dL_law_218 (by decide) (fun h9 => absurd rfl h9) (fun _ => ?_)
      refine lv_aload_n hx hb dL_law_221 rfl (lv_at hl 2 rfl) ?_
      refine lv_iload hx hb dL_law_222 (lv_at hl 0 rfl) ?_
      refine z_price hlt ⟨hx, hb, hml, hown, hts⟩ gL_law_X2_price hW hK hE hd hbk hC (k := n) (Nat.lt_succ_self n) hl.1 (Nat.le_of_ble_eq_true rfl) dL_law_224 ⟨Nat.le_of_ble_eq_true rfl, Nat.le_of_ble_eq_true rfl⟩ ⟨by show cells + 4 + 1 ≤ 632656; omega, by show slots + 32 + 6 ≤ 7203499; omega⟩ ?_
      refine lv_if_ne (tgt := 234) hx hb dL_law_227 (by decide) (fun h9 => absurd (by show priceX _ n (if n = n then 0 else kc n) = 0; rw [if_pos rfl]; exact price_0 _ _) h9) (fun _ => ?_)
      refine lv_iconst (v := 1) hx hb dL_law_230 (by decide) ?_
      refine lv_goto (tgt := 235) hx hb dL_law_231 (by decide) ?_
      refine lv_istore (lv' := [(4, .int 1), (12, .int (nI n)), (0, .ref b), (1, .ref d), (2, .int (nI Lc)), (3, .int (nI mm)), (5, .int (nI tn)), (6, .int (nI T)), (7, .int v), (8, .int (nI n)), (9, .int (nI k))]) hx hb dL_law_235 hl (by decide) rfl (fun ls hl => ?_)
      refine lv_goto (tgt := 606) hx hb dL_law_237 (by decide) ?_
      exact htail _ _ _ _ _ _ _ _ _ _ _ _ (show k < n + 1 by omega) ⟨hWd1, hC1, hZ1, hPI1⟩ hS (lv_sub hl [0, 2, 3, 4, 5, 6, 7, 10] rfl) (by omega) (by omega)
    · skip
      obtain ⟨rfl, rfl⟩ : g = g1 ∧ X = X1 := ⟨(congrArg Prod.fst a2).symm, (congrArg Prod.snd a2).symm⟩
      dsimp only at hW
      have hWd1 : Wd D cI cO cL cJ d bk s g X H := hWd.next (Gw.refl hI rfl) hW hz9 hk9
      obtain ⟨-, hE, hI, hO, hd, hbk⟩ := id hWd1
      refine lv_istore (lv' := [(12, .int (-3)), (0, .ref b), (1, .ref d), (2, .int (nI Lc)), (3, .int (nI mm)), (4, .int 1), (5, .int (nI tn)), (6, .int (nI T)), (7, .int v), (8, .int (nI n)), (9, .int (nI k))]) hx hb dL_law_190 hl (by decide) rfl (fun ls hl => ?_)
      refine lv_iload hx hb dL_law_192 (lv_at hl 0 rfl) ?_
      refine lv_bipush (v := (-3)) hx hb dL_law_194 (by decide) ?_
      refine lv_icmp_ne (tgt := 214) hx hb dL_law_196 (by decide) (fun h9 => absurd rfl h9) (fun _ => ?_)
      refine lv_iload hx hb dL_law_199 (lv_at hl 9 rfl) ?_
      refine lv_bipush (v := 30) hx hb dL_law_201 (by decide) ?_
      refine lv_icmp_ne (tgt := 210) hx hb dL_law_203 (by decide) (fun h9 => absurd (by rw [show n = 30 by omega]; rfl) h9) (fun _ => ?_)
      refine lv_iconst (v := 1) hx hb dL_law_206 (by decide) ?_
      refine lv_goto (tgt := 235) hx hb dL_law_207 (by decide) ?_
      refine lv_istore (lv' := [(4, .int 1), (12, .int (-3)), (0, .ref b), (1, .ref d), (2, .int (nI Lc)), (3, .int (nI mm)), (5, .int (nI tn)), (6, .int (nI T)), (7, .int v), (8, .int (nI n)), (9, .int (nI k))]) hx hb dL_law_235 hl (by decide) rfl (fun ls hl => ?_)
      refine lv_goto (tgt := 606) hx hb dL_law_237 (by decide) ?_
      exact htail _ _ _ _ _ _ _ _ _ _ _ _ (show k < n by omega) ⟨hWd1, hC, hZ, hPI.mono⟩ hS (lv_sub hl [0, 2, 3, 4, 5, 6, 7, 10] rfl) (by omega) (by omega)
  · skip
    refine lv_ldc (v := 1000001) hx hb hown (hts (.constant RL 90 (1000001)) (List.mem_of_getElem? (i := 3) rfl)) dL_law_176 ?_
    refine lv_goto (tgt := 184) hx hb dL_law_178 (by decide) ?_
    refine z_low ⟨hx, hb, hml, hown, hts⟩ gL_law_L_low (N := 1000001) (by decide) (by decide) hl.1 (Nat.le_of_ble_eq_true rfl) dL_law_184 ⟨Nat.le_of_ble_eq_true rfl, Nat.le_of_ble_eq_true rfl⟩ ⟨by show cells ≤ 632656; omega, by show slots ≤ 7203499; omega⟩ (fun q4 hq4 => ?_)
    refine z_order hlt ⟨hx, hb, hml, hown, hts⟩ gL_law_L_order hW hK hE hd hbk hI hO hS hA hC hZ (y_in q1 (N := 90) rfl (by omega) (by decide)) (y_in q4 (N := 1000000) rfl (by omega) (by decide)) hl.1 (Nat.le_of_ble_eq_true rfl) dL_law_187 ⟨Nat.le_of_ble_eq_true rfl, Nat.le_of_ble_eq_true rfl⟩ ⟨by show cells + 4 ≤ 632656; omega, by show slots + 32 ≤ 7203499; omega⟩ (fun r u H locs hp hW hz9 hk9 hS => ?_)
    obtain ⟨g1, X1⟩ := u
    rcases hp with ⟨qo, la, a1, a2, a3, a4, a5, rfl, a7⟩ | ⟨rfl, a1, a2⟩
    · skip
      dsimp only at a4 a5 hW
      have hWd1 : Wd D cI cO cL cJ d bk s g1 X1 H := hWd.next (gw_order hI (fun t i a h => xW.lt hWd.1 h) a1 a2 a3 a4) hW hz9 hk9
      obtain ⟨-, hE, hI, hO, hd, hbk⟩ := id hWd1
      obtain ⟨hC1, hZ1⟩ := xC.ord hC hZ (qo := qo) (la := la) (p0 := nI q1) (p1 := nI q4) a7
      rw [← a4, ← a5] at hC1
      rw [← a4] at hZ1
      have hPI1 := hPI.order a7 (p1 := nI q4) (y_in q1 (N := 90) rfl (by omega) (by decide))
      rw [← a5] at hPI1
      have hC := hC1
      refine lv_istore (lv' := [(12, .int (nI n)), (0, .ref b), (1, .ref d), (2, .int (nI Lc)), (3, .int (nI mm)), (4, .int 1), (5, .int (nI tn)), (6, .int (nI T)), (7, .int v), (8, .int (nI n)), (9, .int (nI k))]) hx hb dL_law_190 hl (by decide) rfl (fun ls hl => ?_)
      refine lv_iload hx hb dL_law_192 (lv_at hl 0 rfl) ?_
      refine lv_bipush (v := (-3)) hx hb dL_law_194 (by decide) ?_
      refine lv_icmp_ne (tgt := 214) hx hb dL_law_196 (by decide) (fun _ => ?_) (fun h9 => absurd h9 (ne_m3 (by omega)))
      refine lv_iload hx hb dL_law_214 (lv_at hl 0 rfl) ?_
      refine lv_iload hx hb dL_law_216 (lv_at hl 9 rfl) ?_
      refine lv_icmp_ne (tgt := 234) hx hb dL_law_218 (by decide) (fun h9 => absurd rfl h9) (fun _ => ?_)
      refine lv_aload_n hx hb dL_law_221 rfl (lv_at hl 2 rfl) ?_
      refine lv_iload hx hb dL_law_222 (lv_at hl 0 rfl) ?_
      refine z_price hlt ⟨hx, hb, hml, hown, hts⟩ gL_law_X2_price hW hK hE hd hbk hC (k := n) (Nat.lt_succ_self n) hl.1 (Nat.le_of_ble_eq_true rfl) dL_law_224 ⟨Nat.le_of_ble_eq_true rfl, Nat.le_of_ble_eq_true rfl⟩ ⟨by show cells + 4 + 1 ≤ 632656; omega, by show slots + 32 + 6 ≤ 7203499; omega⟩ ?_
      refine lv_if_ne (tgt := 234) hx hb dL_law_227 (by decide) (fun h9 => absurd (by show priceX _ n (if n = n then 0 else kc n) = 0; rw [if_pos rfl]; exact price_0 _ _) h9) (fun _ => ?_)
      refine lv_iconst (v := 1) hx hb dL_law_230 (by decide) ?_
      refine lv_goto (tgt := 235) hx hb dL_law_231 (by decide) ?_
      refine lv_istore (lv' := [(4, .int 1), (12, .int (nI n)), (0, .ref b), (1, .ref d), (2, .int (nI Lc)), (3, .int (nI mm)), (5, .int (nI tn)), (6, .int (nI T)), (7, .int v), (8, .int (nI n)), (9, .int (nI k))]) hx hb dL_law_235 hl (by decide) rfl (fun ls hl => ?_)
      refine lv_goto (tgt := 606) hx hb dL_law_237 (by decide) ?_
      exact htail _ _ _ _ _ _ _ _ _ _ _ _ (show k < n + 1 by omega) ⟨hWd1, hC1, hZ1, hPI1⟩ hS (lv_sub hl [0, 2, 3, 4, 5, 6, 7, 10] rfl) (by omega) (by omega)
    · skip
      obtain ⟨rfl, rfl⟩ : g = g1 ∧ X = X1 := ⟨(congrArg Prod.fst a2).symm, (congrArg Prod.snd a2).symm⟩
      dsimp only at hW
      have hWd1 : Wd D cI cO cL cJ d bk s g X H := hWd.next (Gw.refl hI rfl) hW hz9 hk9
      obtain ⟨-, hE, hI, hO, hd, hbk⟩ := id hWd1
      refine lv_istore (lv' := [(12, .int (-3)), (0, .ref b), (1, .ref d), (2, .int (nI Lc)), (3, .int (nI mm)), (4, .int 1), (5, .int (nI tn)), (6, .int (nI T)), (7, .int v), (8, .int (nI n)), (9, .int (nI k))]) hx hb dL_law_190 hl (by decide) rfl (fun ls hl => ?_)
      refine lv_iload hx hb dL_law_192 (lv_at hl 0 rfl) ?_
      refine lv_bipush (v := (-3)) hx hb dL_law_194 (by decide) ?_
      refine lv_icmp_ne (tgt := 214) hx hb dL_law_196 (by decide) (fun h9 => absurd rfl h9) (fun _ => ?_)
      refine lv_iload hx hb dL_law_199 (lv_at hl 9 rfl) ?_
      refine lv_bipush (v := 30) hx hb dL_law_201 (by decide) ?_
      refine lv_icmp_ne (tgt := 210) hx hb dL_law_203 (by decide) (fun h9 => absurd (by rw [show n = 30 by omega]; rfl) h9) (fun _ => ?_)
      refine lv_iconst (v := 1) hx hb dL_law_206 (by decide) ?_
      refine lv_goto (tgt := 235) hx hb dL_law_207 (by decide) ?_
      refine lv_istore (lv' := [(4, .int 1), (12, .int (-3)), (0, .ref b), (1, .ref d), (2, .int (nI Lc)), (3, .int (nI mm)), (5, .int (nI tn)), (6, .int (nI T)), (7, .int v), (8, .int (nI n)), (9, .int (nI k))]) hx hb dL_law_235 hl (by decide) rfl (fun ls hl => ?_)
      refine lv_goto (tgt := 606) hx hb dL_law_237 (by decide) ?_
      exact htail _ _ _ _ _ _ _ _ _ _ _ _ (show k < n by omega) ⟨hWd1, hC, hZ, hPI.mono⟩ hS (lv_sub hl [0, 2, 3, 4, 5, 6, 7, 10] rfl) (by omega) (by omega)
set_option maxHeartbeats 4000000 in
set_option maxRecDepth 100000 in
theorem law_add {p : Program} {l : Launch} {e : Env} {s : State} {m : MethodId} {below : List Frame} {meth : Method} {c : Code} {D : va_G} {cI cO cL cJ : ClassId} {b L : Nat} {xs : Nat → Int32} (C0 : LC p l s m c D cI cO cL cJ b L xs) {d bk T n Lc mm tn k : Nat} {kc : Nat → Nat} {g : XG} {X : MS} {H : Heap} {locs : List Loc} {cells slots : Nat} {ls : Array Slot} {v : Int32} (hT : T ≤ 60) (hLI : LI D cI cO cL cJ d bk s T n kc Lc mm g X H) (hS : va_S (AH s.heap.size) s.heap H locs) (hl : lv_has ls 15 [(0, .ref b), (1, .ref d), (2, .int (nI Lc)), (3, .int (nI mm)), (4, .int 1), (5, .int (nI tn)), (6, .int (nI T)), (7, .int v), (9, .int (nI k))]) (hc : cells ≤ 10000) (hs : slots ≤ 100000) (hk : k < n) (hop : X 8 k = 0)
    (htail : ∀ (k n' : Nat) (kc' : Nat → Nat) (Lc' mm' : Nat) (g' : XG) (X' : MS) (H' : Heap) (locs' : List Loc) (ls' : Array Slot) (cells' slots' : Nat), k < n' → LI D cI cO cL cJ d bk s (T + 1) n' kc' Lc' mm' g' X' H' → va_S (AH s.heap.size) s.heap H' locs' → lv_has ls' 15 [(4, .int 1), (0, .ref b), (1, .ref d), (2, .int (nI Lc')), (3, .int (nI mm')), (5, .int (nI tn)), (6, .int (nI T)), (9, .int (nI k))] → cells' ≤ cells + 29 → slots' ≤ slots + 174 → W p l e room_1 s m #[Value.ref b] below meth c H' locs' cells' slots' (lw_Z below #[Value.ref b] s) (F0 m 606 ls' [])) : W p l e room_1 s m #[Value.ref b] below meth c H locs cells slots (lw_Z below #[Value.ref b] s) (F0 m 251 ls []) := by
  obtain ⟨hx, hb, hml, hown, hts, hXb, hbl, hL, hK, hlt⟩ := C0
  obtain ⟨hWd, hC, hZ, hPI⟩ := hLI
  obtain ⟨hW, hE, hI, hO, hd, hbk⟩ := id hWd
  have hn30 := hC.1
  have h8a := hC.h8
  have hA : ∀ q, xA g H.size q → AH s.heap.size q := fun q h => hO.A h
  refine lv_iconst (v := 1) hx hb dL_law_251 (by decide) ?_
  refine lv_iload hx hb dL_law_252 (lv_at hl 7 rfl) ?_
  refine lv_iload hx hb dL_law_254 (lv_at hl 7 rfl) ?_
  refine lv_bipush (v := 17) hx hb dL_law_256 (by decide) ?_
  refine lv_ishr hx hb dL_law_258 ?_
  refine lv_iconst (v := 2) hx hb dL_law_259 (by decide) ?_
  refine z_low ⟨hx, hb, hml, hown, hts⟩ gL_law_L_low (N := 2) (by decide) (by decide) hl.1 (Nat.le_of_ble_eq_true rfl) dL_law_260 ⟨Nat.le_of_ble_eq_true rfl, Nat.le_of_ble_eq_true rfl⟩ ⟨by show cells ≤ 632656; omega, by show slots ≤ 7203499; omega⟩ (fun q1 hq1 => ?_)
  refine lv_if_ne (tgt := 271) hx hb dL_law_263 (by decide) (fun c263 => ?_) (fun c263 => ?_)
  · skip
    refine lv_sipush (v := 2000) hx hb dL_law_271 (by decide) ?_
    refine z_low ⟨hx, hb, hml, hown, hts⟩ gL_law_L_low (N := 2000) (by decide) (by decide) hl.1 (Nat.le_of_ble_eq_true rfl) dL_law_274 ⟨Nat.le_of_ble_eq_true rfl, Nat.le_of_ble_eq_true rfl⟩ ⟨by show cells ≤ 632656; omega, by show slots ≤ 7203499; omega⟩ (fun q2 hq2 => ?_)
    refine lv_iadd hx hb dL_law_277 ?_
    refine cv (y := nI (1 + q2)) (nI_addx (a := 1) (b := q2) rfl rfl) ?_
    refine lv_istore (lv' := [(12, .int (nI (1 + q2))), (0, .ref b), (1, .ref d), (2, .int (nI Lc)), (3, .int (nI mm)), (4, .int 1), (5, .int (nI tn)), (6, .int (nI T)), (7, .int v), (9, .int (nI k))]) hx hb dL_law_278 hl (by decide) rfl (fun ls hl => ?_)
    refine lv_aload_n hx hb dL_law_280 rfl (lv_at hl 2 rfl) ?_
    refine lv_iload hx hb dL_law_281 (lv_at hl 9 rfl) ?_
    refine lv_iload hx hb dL_law_283 (lv_at hl 0 rfl) ?_
    refine lv_iload hx hb dL_law_285 (lv_at hl 8 rfl) ?_
    refine lv_bipush (v := 9) hx hb dL_law_287 (by decide) ?_
    refine lv_ishr hx hb dL_law_289 ?_
    refine lv_iconst (v := 3) hx hb dL_law_290 (by decide) ?_
    refine z_low ⟨hx, hb, hml, hown, hts⟩ gL_law_L_low (N := 3) (by decide) (by decide) hl.1 (Nat.le_of_ble_eq_true rfl) dL_law_291 ⟨Nat.le_of_ble_eq_true rfl, Nat.le_of_ble_eq_true rfl⟩ ⟨by show cells ≤ 632656; omega, by show slots ≤ 7203499; omega⟩ (fun q3 hq3 => ?_)
    refine z_add hlt ⟨hx, hb, hml, hown, hts⟩ gL_law_L_add hW hK hE hd hbk hI hO hS hA hC hZ hk hop (p1 := nI (1 + q2)) (p2 := nI q3) (y_in1 (1 + q2) (N := 100000) rfl (by omega) (by omega) (by decide)) (y_in q3 (N := 2) rfl (by omega) (by decide)) hl.1 (Nat.le_of_ble_eq_true rfl) dL_law_294 ⟨Nat.le_of_ble_eq_true rfl, Nat.le_of_ble_eq_true rfl⟩ ⟨by show cells + 4 ≤ 632656; omega, by show slots + 24 ≤ 7203499; omega⟩ (fun r u H locs hp hW hz9 hk9 hS => ?_)
    obtain ⟨g1, X1⟩ := u
    rcases hp with ⟨al, h8, a1, a4, a5, rfl⟩ | ⟨rfl, a1, a2⟩
    · skip
      dsimp only at a4 a5 hW
      have a5 : X1 = addX X k (kc k) (nI (1 + q2)) (nI q3) := a5
      have hWd1 : Wd D cI cO cL cJ d bk s g1 X1 H := hWd.next (gw_add hI (fun t i a h => xW.lt hWd.1 h) a1 a4) hW hz9 hk9
      obtain ⟨-, hE, hI, hO, hd, hbk⟩ := id hWd1
      obtain ⟨hC1, hZ1⟩ := xC.add hC hZ (al := al) (p1 := nI (1 + q2)) (p2 := nI q3) hk h8
      have hC1 : xC g1 X1 n (fun i => if i = k then kc k + 1 else kc i) := by rw [a4, a5]; exact hC1
      rw [← a4] at hZ1
      have hPI1 := hPI.add hn30 h8a hk hop h8 (p2 := nI q3) (y_in1 (1 + q2) (N := 100000) rfl (by omega) (by omega) (by decide))
      have hPr := hPI.addPr hn30 hk hop h8 (p2 := nI q3) (y_in1 (1 + q2) (N := 100000) rfl (by omega) (by omega) (by decide))
      have h18 : X1 18 (8 * k + kc k) = 0 := by rw [a5]; exact addX_new.2
      rw [← a5] at hPI1 hPr
      have hC := hC1
      have hkk : (if k = k then kc k + 1 else kc k) = kc k + 1 := if_pos rfl
      refine lv_istore (lv' := [(13, .int (nI (kc k))), (12, .int (nI (1 + q2))), (0, .ref b), (1, .ref d), (2, .int (nI Lc)), (3, .int (nI mm)), (4, .int 1), (5, .int (nI tn)), (6, .int (nI T)), (7, .int v), (9, .int (nI k))]) hx hb dL_law_297 hl (by decide) rfl (fun ls hl => ?_)
      refine lv_iload hx hb dL_law_299 (lv_at hl 0 rfl) ?_
      refine lv_bipush (v := (-3)) hx hb dL_law_301 (by decide) ?_
      refine lv_icmp_eq (tgt := 338) hx hb dL_law_303 (by decide) (fun h9 => absurd h9 (ne_m3 (by omega))) (fun _ => ?_)
      refine lv_iload hx hb dL_law_306 (lv_at hl 0 rfl) ?_
      refine lv_if_lt (tgt := 342) hx hb dL_law_308 (by decide) (fun h9 => absurd h9 (nI_pos (by omega))) (fun _ => ?_)
      refine lv_iload hx hb dL_law_311 (lv_at hl 0 rfl) ?_
      refine lv_bipush (v := 8) hx hb dL_law_313 (by decide) ?_
      refine lv_icmp_ge (tgt := 342) hx hb dL_law_315 (by decide) (fun h9 => absurd h9 (nI_ge (a := kc k) (b := 8) (by omega) (by decide))) (fun _ => ?_)
      refine lv_aload_n hx hb dL_law_318 rfl (lv_at hl 3 rfl) ?_
      refine lv_iload hx hb dL_law_319 (lv_at hl 10 rfl) ?_
      refine lv_iload hx hb dL_law_321 (lv_at hl 0 rfl) ?_
      refine z_state hlt ⟨hx, hb, hml, hown, hts⟩ gL_law_X2_state hW hK hE hd hbk hC (k := k) (j := kc k) hk (show kc k < (if k = k then kc k + 1 else kc k) by omega) hl.1 (Nat.le_of_ble_eq_true rfl) dL_law_323 ⟨Nat.le_of_ble_eq_true rfl, Nat.le_of_ble_eq_true rfl⟩ ⟨by show cells + 4 + 2 ≤ 632656; omega, by show slots + 24 + 12 ≤ 7203499; omega⟩ ?_
      refine lv_if_ne (tgt := 342) hx hb dL_law_326 (by decide) (fun h9 => absurd h18 h9) (fun _ => ?_)
      refine lv_aload_n hx hb dL_law_329 rfl (lv_at hl 3 rfl) ?_
      refine lv_iload hx hb dL_law_330 (lv_at hl 10 rfl) ?_
      refine z_price hlt ⟨hx, hb, hml, hown, hts⟩ gL_law_X2_price hW hK hE hd hbk hC (k := k) hk hl.1 (Nat.le_of_ble_eq_true rfl) dL_law_332 ⟨Nat.le_of_ble_eq_true rfl, Nat.le_of_ble_eq_true rfl⟩ ⟨by show cells + 4 + 2 + 1 ≤ 632656; omega, by show slots + 24 + 12 + 6 ≤ 7203499; omega⟩ ?_
      refine lv_if_le (tgt := 342) hx hb dL_law_335 (by decide) (fun h9 => absurd h9 (by show ¬ priceX X1 k (if k = k then kc k + 1 else kc k) ≤ 0; rw [hkk]; exact hPr)) (fun _ => ?_)
      refine lv_iconst (v := 1) hx hb dL_law_338 (by decide) ?_
      refine lv_goto (tgt := 343) hx hb dL_law_339 (by decide) ?_
      refine lv_istore (lv' := [(4, .int 1), (13, .int (nI (kc k))), (12, .int (nI (1 + q2))), (0, .ref b), (1, .ref d), (2, .int (nI Lc)), (3, .int (nI mm)), (5, .int (nI tn)), (6, .int (nI T)), (7, .int v), (9, .int (nI k))]) hx hb dL_law_343 hl (by decide) rfl (fun ls hl => ?_)
      refine lv_iload_n hx hb dL_law_345 rfl (lv_at hl 5 rfl) ?_
      refine lv_iload hx hb dL_law_346 (lv_at hl 1 rfl) ?_
      refine lv_bipush (v := (-3)) hx hb dL_law_348 (by decide) ?_
      refine lv_icmp_ne (tgt := 357) hx hb dL_law_350 (by decide) (fun _ => ?_) (fun h9 => absurd h9 (ne_m3 (by omega)))
      refine lv_iconst (v := 1) hx hb dL_law_357 (by decide) ?_
      refine lv_iadd hx hb dL_law_358 ?_
      refine cv (y := nI (Lc + 1)) (nI_addx (a := Lc) (b := 1) rfl rfl) ?_
      refine lv_istore_n (lv' := [(2, .int (nI (Lc + 1))), (4, .int 1), (13, .int (nI (kc k))), (12, .int (nI (1 + q2))), (0, .ref b), (1, .ref d), (3, .int (nI mm)), (5, .int (nI tn)), (6, .int (nI T)), (7, .int v), (9, .int (nI k))]) hx hb dL_law_359 rfl hl (by decide) rfl (fun ls hl => ?_)
      refine lv_goto (tgt := 606) hx hb dL_law_360 (by decide) ?_
      exact htail _ _ _ _ _ _ _ _ _ _ _ _ hk ⟨hWd1, hC1, hZ1, hPI1⟩ hS (lv_sub hl [1, 4, 5, 0, 6, 7, 8, 10] rfl) (by omega) (by omega)
    · skip
      obtain ⟨rfl, rfl⟩ : g = g1 ∧ X = X1 := ⟨(congrArg Prod.fst a2).symm, (congrArg Prod.snd a2).symm⟩
      dsimp only at hW
      have hWd1 : Wd D cI cO cL cJ d bk s g X H := hWd.next (Gw.refl hI rfl) hW hz9 hk9
      obtain ⟨-, hE, hI, hO, hd, hbk⟩ := id hWd1
      refine lv_istore (lv' := [(13, .int (-3)), (12, .int (nI (1 + q2))), (0, .ref b), (1, .ref d), (2, .int (nI Lc)), (3, .int (nI mm)), (4, .int 1), (5, .int (nI tn)), (6, .int (nI T)), (7, .int v), (9, .int (nI k))]) hx hb dL_law_297 hl (by decide) rfl (fun ls hl => ?_)
      refine lv_iload hx hb dL_law_299 (lv_at hl 0 rfl) ?_
      refine lv_bipush (v := (-3)) hx hb dL_law_301 (by decide) ?_
      refine lv_icmp_eq (tgt := 338) hx hb dL_law_303 (by decide) (fun _ => ?_) (fun h9 => absurd rfl h9)
      refine lv_iconst (v := 1) hx hb dL_law_338 (by decide) ?_
      refine lv_goto (tgt := 343) hx hb dL_law_339 (by decide) ?_
      refine lv_istore (lv' := [(4, .int 1), (13, .int (-3)), (12, .int (nI (1 + q2))), (0, .ref b), (1, .ref d), (2, .int (nI Lc)), (3, .int (nI mm)), (5, .int (nI tn)), (6, .int (nI T)), (7, .int v), (9, .int (nI k))]) hx hb dL_law_343 hl (by decide) rfl (fun ls hl => ?_)
      refine lv_iload_n hx hb dL_law_345 rfl (lv_at hl 5 rfl) ?_
      refine lv_iload hx hb dL_law_346 (lv_at hl 1 rfl) ?_
      refine lv_bipush (v := (-3)) hx hb dL_law_348 (by decide) ?_
      refine lv_icmp_ne (tgt := 357) hx hb dL_law_350 (by decide) (fun h9 => absurd rfl h9) (fun _ => ?_)
      refine lv_iconst (v := 0) hx hb dL_law_353 (by decide) ?_
      refine lv_goto (tgt := 358) hx hb dL_law_354 (by decide) ?_
      refine lv_iadd hx hb dL_law_358 ?_
      refine cv (y := nI Lc) (nI_addx (a := Lc) (b := 0) rfl rfl) ?_
      refine lv_istore_n (lv' := [(2, .int (nI Lc)), (4, .int 1), (13, .int (-3)), (12, .int (nI (1 + q2))), (0, .ref b), (1, .ref d), (3, .int (nI mm)), (5, .int (nI tn)), (6, .int (nI T)), (7, .int v), (9, .int (nI k))]) hx hb dL_law_359 rfl hl (by decide) rfl (fun ls hl => ?_)
      refine lv_goto (tgt := 606) hx hb dL_law_360 (by decide) ?_
      exact htail _ _ _ _ _ _ _ _ _ _ _ _ hk ⟨hWd1, hC, hZ, hPI.mono⟩ hS (lv_sub hl [1, 4, 5, 0, 6, 7, 8, 10] rfl) (by omega) (by omega)
  · skip
    refine lv_ldc (v := 100000) hx hb hown (hts (.constant RL 94 (100000)) (List.mem_of_getElem? (i := 4) rfl)) dL_law_266 ?_
    refine lv_goto (tgt := 274) hx hb dL_law_268 (by decide) ?_
    refine z_low ⟨hx, hb, hml, hown, hts⟩ gL_law_L_low (N := 100000) (by decide) (by decide) hl.1 (Nat.le_of_ble_eq_true rfl) dL_law_274 ⟨Nat.le_of_ble_eq_true rfl, Nat.le_of_ble_eq_true rfl⟩ ⟨by show cells ≤ 632656; omega, by show slots ≤ 7203499; omega⟩ (fun q4 hq4 => ?_)
    refine lv_iadd hx hb dL_law_277 ?_
    refine cv (y := nI (1 + q4)) (nI_addx (a := 1) (b := q4) rfl rfl) ?_
    refine lv_istore (lv' := [(12, .int (nI (1 + q4))), (0, .ref b), (1, .ref d), (2, .int (nI Lc)), (3, .int (nI mm)), (4, .int 1), (5, .int (nI tn)), (6, .int (nI T)), (7, .int v), (9, .int (nI k))]) hx hb dL_law_278 hl (by decide) rfl (fun ls hl => ?_)
    refine lv_aload_n hx hb dL_law_280 rfl (lv_at hl 2 rfl) ?_
    refine lv_iload hx hb dL_law_281 (lv_at hl 9 rfl) ?_
    refine lv_iload hx hb dL_law_283 (lv_at hl 0 rfl) ?_
    refine lv_iload hx hb dL_law_285 (lv_at hl 8 rfl) ?_
    refine lv_bipush (v := 9) hx hb dL_law_287 (by decide) ?_
    refine lv_ishr hx hb dL_law_289 ?_
    refine lv_iconst (v := 3) hx hb dL_law_290 (by decide) ?_
    refine z_low ⟨hx, hb, hml, hown, hts⟩ gL_law_L_low (N := 3) (by decide) (by decide) hl.1 (Nat.le_of_ble_eq_true rfl) dL_law_291 ⟨Nat.le_of_ble_eq_true rfl, Nat.le_of_ble_eq_true rfl⟩ ⟨by show cells ≤ 632656; omega, by show slots ≤ 7203499; omega⟩ (fun q5 hq5 => ?_)
    refine z_add hlt ⟨hx, hb, hml, hown, hts⟩ gL_law_L_add hW hK hE hd hbk hI hO hS hA hC hZ hk hop (p1 := nI (1 + q4)) (p2 := nI q5) (y_in1 (1 + q4) (N := 100000) rfl (by omega) (by omega) (by decide)) (y_in q5 (N := 2) rfl (by omega) (by decide)) hl.1 (Nat.le_of_ble_eq_true rfl) dL_law_294 ⟨Nat.le_of_ble_eq_true rfl, Nat.le_of_ble_eq_true rfl⟩ ⟨by show cells + 4 ≤ 632656; omega, by show slots + 24 ≤ 7203499; omega⟩ (fun r u H locs hp hW hz9 hk9 hS => ?_)
    obtain ⟨g1, X1⟩ := u
    rcases hp with ⟨al, h8, a1, a4, a5, rfl⟩ | ⟨rfl, a1, a2⟩
    · skip
      dsimp only at a4 a5 hW
      have a5 : X1 = addX X k (kc k) (nI (1 + q4)) (nI q5) := a5
      have hWd1 : Wd D cI cO cL cJ d bk s g1 X1 H := hWd.next (gw_add hI (fun t i a h => xW.lt hWd.1 h) a1 a4) hW hz9 hk9
      obtain ⟨-, hE, hI, hO, hd, hbk⟩ := id hWd1
      obtain ⟨hC1, hZ1⟩ := xC.add hC hZ (al := al) (p1 := nI (1 + q4)) (p2 := nI q5) hk h8
      have hC1 : xC g1 X1 n (fun i => if i = k then kc k + 1 else kc i) := by rw [a4, a5]; exact hC1
      rw [← a4] at hZ1
      have hPI1 := hPI.add hn30 h8a hk hop h8 (p2 := nI q5) (y_in1 (1 + q4) (N := 100000) rfl (by omega) (by omega) (by decide))
      have hPr := hPI.addPr hn30 hk hop h8 (p2 := nI q5) (y_in1 (1 + q4) (N := 100000) rfl (by omega) (by omega) (by decide))
      have h18 : X1 18 (8 * k + kc k) = 0 := by rw [a5]; exact addX_new.2
      rw [← a5] at hPI1 hPr
      have hC := hC1
      have hkk : (if k = k then kc k + 1 else kc k) = kc k + 1 := if_pos rfl
      refine lv_istore (lv' := [(13, .int (nI (kc k))), (12, .int (nI (1 + q4))), (0, .ref b), (1, .ref d), (2, .int (nI Lc)), (3, .int (nI mm)), (4, .int 1), (5, .int (nI tn)), (6, .int (nI T)), (7, .int v), (9, .int (nI k))]) hx hb dL_law_297 hl (by decide) rfl (fun ls hl => ?_)
      refine lv_iload hx hb dL_law_299 (lv_at hl 0 rfl) ?_
      refine lv_bipush (v := (-3)) hx hb dL_law_301 (by decide) ?_
      refine lv_icmp_eq (tgt := 338) hx hb dL_law_303 (by decide) (fun h9 => absurd h9 (ne_m3 (by omega))) (fun _ => ?_)
      refine lv_iload hx hb dL_law_306 (lv_at hl 0 rfl) ?_
      refine lv_if_lt (tgt := 342) hx hb dL_law_308 (by decide) (fun h9 => absurd h9 (nI_pos (by omega))) (fun _ => ?_)
      refine lv_iload hx hb dL_law_311 (lv_at hl 0 rfl) ?_
      refine lv_bipush (v := 8) hx hb dL_law_313 (by decide) ?_
      refine lv_icmp_ge (tgt := 342) hx hb dL_law_315 (by decide) (fun h9 => absurd h9 (nI_ge (a := kc k) (b := 8) (by omega) (by decide))) (fun _ => ?_)
      refine lv_aload_n hx hb dL_law_318 rfl (lv_at hl 3 rfl) ?_
      refine lv_iload hx hb dL_law_319 (lv_at hl 10 rfl) ?_
      refine lv_iload hx hb dL_law_321 (lv_at hl 0 rfl) ?_
      refine z_state hlt ⟨hx, hb, hml, hown, hts⟩ gL_law_X2_state hW hK hE hd hbk hC (k := k) (j := kc k) hk (show kc k < (if k = k then kc k + 1 else kc k) by omega) hl.1 (Nat.le_of_ble_eq_true rfl) dL_law_323 ⟨Nat.le_of_ble_eq_true rfl, Nat.le_of_ble_eq_true rfl⟩ ⟨by show cells + 4 + 2 ≤ 632656; omega, by show slots + 24 + 12 ≤ 7203499; omega⟩ ?_
      refine lv_if_ne (tgt := 342) hx hb dL_law_326 (by decide) (fun h9 => absurd h18 h9) (fun _ => ?_)
      refine lv_aload_n hx hb dL_law_329 rfl (lv_at hl 3 rfl) ?_
      refine lv_iload hx hb dL_law_330 (lv_at hl 10 rfl) ?_
      refine z_price hlt ⟨hx, hb, hml, hown, hts⟩ gL_law_X2_price hW hK hE hd hbk hC (k := k) hk hl.1 (Nat.le_of_ble_eq_true rfl) dL_law_332 ⟨Nat.le_of_ble_eq_true rfl, Nat.le_of_ble_eq_true rfl⟩ ⟨by show cells + 4 + 2 + 1 ≤ 632656; omega, by show slots + 24 + 12 + 6 ≤ 7203499; omega⟩ ?_
      refine lv_if_le (tgt := 342) hx hb dL_law_335 (by decide) (fun h9 => absurd h9 (by show ¬ priceX X1 k (if k = k then kc k + 1 else kc k) ≤ 0; rw [hkk]; exact hPr)) (fun _ => ?_)
      refine lv_iconst (v := 1) hx hb dL_law_338 (by decide) ?_
      refine lv_goto (tgt := 343) hx hb dL_law_339 (by decide) ?_
      refine lv_istore (lv' := [(4, .int 1), (13, .int (nI (kc k))), (12, .int (nI (1 + q4))), (0, .ref b), (1, .ref d), (2, .int (nI Lc)), (3, .int (nI mm)), (5, .int (nI tn)), (6, .int (nI T)), (7, .int v), (9, .int (nI k))]) hx hb dL_law_343 hl (by decide) rfl (fun ls hl => ?_)
      refine lv_iload_n hx hb dL_law_345 rfl (lv_at hl 5 rfl) ?_
      refine lv_iload hx hb dL_law_346 (lv_at hl 1 rfl) ?_
      refine lv_bipush (v := (-3)) hx hb dL_law_348 (by decide) ?_
      refine lv_icmp_ne (tgt := 357) hx hb dL_law_350 (by decide) (fun _ => ?_) (fun h9 => absurd h9 (ne_m3 (by omega)))
      refine lv_iconst (v := 1) hx hb dL_law_357 (by decide) ?_
      refine lv_iadd hx hb dL_law_358 ?_
      refine cv (y := nI (Lc + 1)) (nI_addx (a := Lc) (b := 1) rfl rfl) ?_
      refine lv_istore_n (lv' := [(2, .int (nI (Lc + 1))), (4, .int 1), (13, .int (nI (kc k))), (12, .int (nI (1 + q4))), (0, .ref b), (1, .ref d), (3, .int (nI mm)), (5, .int (nI tn)), (6, .int (nI T)), (7, .int v), (9, .int (nI k))]) hx hb dL_law_359 rfl hl (by decide) rfl (fun ls hl => ?_)
      refine lv_goto (tgt := 606) hx hb dL_law_360 (by decide) ?_
      exact htail _ _ _ _ _ _ _ _ _ _ _ _ hk ⟨hWd1, hC1, hZ1, hPI1⟩ hS (lv_sub hl [1, 4, 5, 0, 6, 7, 8, 10] rfl) (by omega) (by omega)
    · skip
      obtain ⟨rfl, rfl⟩ : g = g1 ∧ X = X1 := ⟨(congrArg Prod.fst a2).symm, (congrArg Prod.snd a2).symm⟩
      dsimp only at hW
      have hWd1 : Wd D cI cO cL cJ d bk s g X H := hWd.next (Gw.refl hI rfl) hW hz9 hk9
      obtain ⟨-, hE, hI, hO, hd, hbk⟩ := id hWd1
      refine lv_istore (lv' := [(13, .int (-3)), (12, .int (nI (1 + q4))), (0, .ref b), (1, .ref d), (2, .int (nI Lc)), (3, .int (nI mm)), (4, .int 1), (5, .int (nI tn)), (6, .int (nI T)), (7, .int v), (9, .int (nI k))]) hx hb dL_law_297 hl (by decide) rfl (fun ls hl => ?_)
      refine lv_iload hx hb dL_law_299 (lv_at hl 0 rfl) ?_
      refine lv_bipush (v := (-3)) hx hb dL_law_301 (by decide) ?_
      refine lv_icmp_eq (tgt := 338) hx hb dL_law_303 (by decide) (fun _ => ?_) (fun h9 => absurd rfl h9)
      refine lv_iconst (v := 1) hx hb dL_law_338 (by decide) ?_
      refine lv_goto (tgt := 343) hx hb dL_law_339 (by decide) ?_
      refine lv_istore (lv' := [(4, .int 1), (13, .int (-3)), (12, .int (nI (1 + q4))), (0, .ref b), (1, .ref d), (2, .int (nI Lc)), (3, .int (nI mm)), (5, .int (nI tn)), (6, .int (nI T)), (7, .int v), (9, .int (nI k))]) hx hb dL_law_343 hl (by decide) rfl (fun ls hl => ?_)
      refine lv_iload_n hx hb dL_law_345 rfl (lv_at hl 5 rfl) ?_
      refine lv_iload hx hb dL_law_346 (lv_at hl 1 rfl) ?_
      refine lv_bipush (v := (-3)) hx hb dL_law_348 (by decide) ?_
      refine lv_icmp_ne (tgt := 357) hx hb dL_law_350 (by decide) (fun h9 => absurd rfl h9) (fun _ => ?_)
      refine lv_iconst (v := 0) hx hb dL_law_353 (by decide) ?_
      refine lv_goto (tgt := 358) hx hb dL_law_354 (by decide) ?_
      refine lv_iadd hx hb dL_law_358 ?_
      refine cv (y := nI Lc) (nI_addx (a := Lc) (b := 0) rfl rfl) ?_
      refine lv_istore_n (lv' := [(2, .int (nI Lc)), (4, .int 1), (13, .int (-3)), (12, .int (nI (1 + q4))), (0, .ref b), (1, .ref d), (3, .int (nI mm)), (5, .int (nI tn)), (6, .int (nI T)), (7, .int v), (9, .int (nI k))]) hx hb dL_law_359 rfl hl (by decide) rfl (fun ls hl => ?_)
      refine lv_goto (tgt := 606) hx hb dL_law_360 (by decide) ?_
      exact htail _ _ _ _ _ _ _ _ _ _ _ _ hk ⟨hWd1, hC, hZ, hPI.mono⟩ hS (lv_sub hl [1, 4, 5, 0, 6, 7, 8, 10] rfl) (by omega) (by omega)
end
section
/-! THE LAW'S TURNS: pay, returns, days. -/
set_option maxHeartbeats 4000000 in
set_option maxRecDepth 100000 in
theorem law_pay {p : Program} {l : Launch} {e : Env} {s : State} {m : MethodId} {below : List Frame} {meth : Method} {c : Code} {D : va_G} {cI cO cL cJ : ClassId} {b L : Nat} {xs : Nat → Int32} (C0 : LC p l s m c D cI cO cL cJ b L xs) {d bk T n Lc mm tn k : Nat} {kc : Nat → Nat} {g : XG} {X : MS} {H : Heap} {locs : List Loc} {cells slots : Nat} {ls : Array Slot} {v : Int32} (hT : T ≤ 60) (hLI : LI D cI cO cL cJ d bk s T n kc Lc mm g X H) (hS : va_S (AH s.heap.size) s.heap H locs) (hl : lv_has ls 15 [(0, .ref b), (1, .ref d), (2, .int (nI Lc)), (3, .int (nI mm)), (4, .int 1), (5, .int (nI tn)), (6, .int (nI T)), (7, .int v), (9, .int (nI k))]) (hc : cells ≤ 10000) (hs : slots ≤ 100000) (hk : k < n) (hop : X 8 k = 0)
    (htail : ∀ (k n' : Nat) (kc' : Nat → Nat) (Lc' mm' : Nat) (g' : XG) (X' : MS) (H' : Heap) (locs' : List Loc) (ls' : Array Slot) (cells' slots' : Nat), k < n' → LI D cI cO cL cJ d bk s (T + 1) n' kc' Lc' mm' g' X' H' → va_S (AH s.heap.size) s.heap H' locs' → lv_has ls' 15 [(4, .int 1), (0, .ref b), (1, .ref d), (2, .int (nI Lc')), (3, .int (nI mm')), (5, .int (nI tn)), (6, .int (nI T)), (9, .int (nI k))] → cells' ≤ cells + 29 → slots' ≤ slots + 174 → W p l e room_1 s m #[Value.ref b] below meth c H' locs' cells' slots' (lw_Z below #[Value.ref b] s) (F0 m 606 ls' [])) : W p l e room_1 s m #[Value.ref b] below meth c H locs cells slots (lw_Z below #[Value.ref b] s) (F0 m 375 ls []) := by
  obtain ⟨hx, hb, hml, hown, hts, hXb, hbl, hL, hK, hlt⟩ := C0
  obtain ⟨hWd, hC, hZ, hPI⟩ := hLI
  obtain ⟨hW, hE, hI, hO, hd, hbk⟩ := id hWd
  have hn30 := hC.1
  have h8a := hC.h8
  have hA : ∀ q, xA g H.size q → AH s.heap.size q := fun q h => hO.A h
  refine lv_aload_n hx hb dL_law_375 rfl (lv_at hl 1 rfl) ?_
  refine lv_iload hx hb dL_law_376 (lv_at hl 8 rfl) ?_
  refine z_price hlt ⟨hx, hb, hml, hown, hts⟩ gL_law_X2_price hW hK hE hd hbk hC (k := k) hk hl.1 (Nat.le_of_ble_eq_true rfl) dL_law_378 ⟨Nat.le_of_ble_eq_true rfl, Nat.le_of_ble_eq_true rfl⟩ ⟨by show cells + 1 ≤ 632656; omega, by show slots + 6 ≤ 7203499; omega⟩ ?_
  refine lv_istore (lv' := [(12, .int (priceX X k (kc k))), (0, .ref b), (1, .ref d), (2, .int (nI Lc)), (3, .int (nI mm)), (4, .int 1), (5, .int (nI tn)), (6, .int (nI T)), (7, .int v), (9, .int (nI k))]) hx hb dL_law_381 hl (by decide) rfl (fun ls hl => ?_)
  refine lv_aload_n hx hb dL_law_383 rfl (lv_at hl 2 rfl) ?_
  refine lv_iload hx hb dL_law_384 (lv_at hl 9 rfl) ?_
  refine lv_iload hx hb dL_law_386 (lv_at hl 8 rfl) ?_
  refine lv_iconst (v := 5) hx hb dL_law_388 (by decide) ?_
  refine lv_ishr hx hb dL_law_389 ?_
  refine lv_iconst (v := 3) hx hb dL_law_390 (by decide) ?_
  refine z_low ⟨hx, hb, hml, hown, hts⟩ gL_law_L_low (N := 3) (by decide) (by decide) hl.1 (Nat.le_of_ble_eq_true rfl) dL_law_391 ⟨Nat.le_of_ble_eq_true rfl, Nat.le_of_ble_eq_true rfl⟩ ⟨by show cells + 1 ≤ 632656; omega, by show slots + 6 ≤ 7203499; omega⟩ (fun q1 hq1 => ?_)
  refine lv_iload hx hb dL_law_394 (lv_at hl 8 rfl) ?_
  refine lv_sipush (v := 2000) hx hb dL_law_396 (by decide) ?_
  refine z_low ⟨hx, hb, hml, hown, hts⟩ gL_law_L_low (N := 2000) (by decide) (by decide) hl.1 (Nat.le_of_ble_eq_true rfl) dL_law_399 ⟨Nat.le_of_ble_eq_true rfl, Nat.le_of_ble_eq_true rfl⟩ ⟨by show cells + 1 ≤ 632656; omega, by show slots + 6 ≤ 7203499; omega⟩ (fun q2 hq2 => ?_)
  refine lv_imul hx hb dL_law_402 ?_
  refine cv (y := nI (q1 * q2)) (nI_mulx (a := q1) (b := q2) rfl rfl) ?_
  refine lv_iload hx hb dL_law_403 (lv_at hl 8 rfl) ?_
  refine lv_bipush (v := 7) hx hb dL_law_405 (by decide) ?_
  refine lv_ishr hx hb dL_law_407 ?_
  refine lv_iconst (v := 3) hx hb dL_law_408 (by decide) ?_
  refine z_low ⟨hx, hb, hml, hown, hts⟩ gL_law_L_low (N := 3) (by decide) (by decide) hl.1 (Nat.le_of_ble_eq_true rfl) dL_law_409 ⟨Nat.le_of_ble_eq_true rfl, Nat.le_of_ble_eq_true rfl⟩ ⟨by show cells + 1 ≤ 632656; omega, by show slots + 6 ≤ 7203499; omega⟩ (fun q3 hq3 => ?_)
  refine lv_iload hx hb dL_law_412 (lv_at hl 8 rfl) ?_
  refine lv_sipush (v := 1500) hx hb dL_law_414 (by decide) ?_
  refine z_low ⟨hx, hb, hml, hown, hts⟩ gL_law_L_low (N := 1500) (by decide) (by decide) hl.1 (Nat.le_of_ble_eq_true rfl) dL_law_417 ⟨Nat.le_of_ble_eq_true rfl, Nat.le_of_ble_eq_true rfl⟩ ⟨by show cells + 1 ≤ 632656; omega, by show slots + 6 ≤ 7203499; omega⟩ (fun q4 hq4 => ?_)
  refine lv_imul hx hb dL_law_420 ?_
  refine cv (y := nI (q3 * q4)) (nI_mulx (a := q3) (b := q4) rfl rfl) ?_
  refine z_pay hlt ⟨hx, hb, hml, hown, hts⟩ gL_law_L_pay hW hK hE hd hbk hI hO hS hA hC hk hop (p1 := nI (q1 * q2)) (p2 := nI (q3 * q4)) (y_in (q1 * q2) (N := 1000000) rfl (Nat.le_trans (Nat.mul_le_mul (show q1 ≤ 2 by omega) (show q2 ≤ 1999 by omega)) (by decide)) (by decide)) (y_in (q3 * q4) (N := 1000000) rfl (Nat.le_trans (Nat.mul_le_mul (show q3 ≤ 2 by omega) (show q4 ≤ 1499 by omega)) (by decide)) (by decide)) hl.1 (Nat.le_of_ble_eq_true rfl) dL_law_421 ⟨Nat.le_of_ble_eq_true rfl, Nat.le_of_ble_eq_true rfl⟩ ⟨by show cells + 1 + 4 ≤ 632656; omega, by show slots + 6 + 24 ≤ 7203499; omega⟩ (fun r X1 H locs hp hW hz9 hk9 hS => ?_)
  have h7 : X 7 k = nI (kc k) := (hC.2.2.2 k hk).2.1
  rcases hp with ⟨a1, a2, rfl⟩ | ⟨rfl, a1, a2⟩
  · skip
    have hWd1 : Wd D cI cO cL cJ d bk s g X1 H := hWd.next (Gw.refl hI rfl) hW hz9 hk9
    obtain ⟨-, hE, hI, hO, hd, hbk⟩ := id hWd1
    have h0k : 0 < kc k := by
      rcases Nat.eq_zero_or_pos (kc k) with h | h
      · exact absurd (by rw [h7, h]; rfl) a1
      · exact h
    obtain ⟨hPI1, hPr⟩ := hPI.pay hn30 hk hop (h8a k hk) h0k (p3 := X 1 0) (y_in (q1 * q2) (N := 1000000) rfl (Nat.le_trans (Nat.mul_le_mul (show q1 ≤ 2 by omega) (show q2 ≤ 1999 by omega)) (by decide)) (by decide)) (y_in (q3 * q4) (N := 1000000) rfl (Nat.le_trans (Nat.mul_le_mul (show q3 ≤ 2 by omega) (show q4 ≤ 1499 by omega)) (by decide)) (by decide))
    have hC1 : xC g X1 n kc := hC.same (by rw [a2]; exact settleX_fr (Or.inr (Or.inl (by decide)))) (fun i => by rw [a2]; exact settleX_fr (Or.inr (Or.inl (by decide))))
    rw [← a2] at hPI1 hPr
    have hne : ¬ X1 13 k = -3 := by
      obtain ⟨-, ⟨-, -, a, b9, p9, r9, e1, -, -, -, hb9⟩, -⟩ := hPI1.2.1 k hk
      rw [e1]
      exact ne_m3 (by omega)
    have hC := hC1
    refine lv_istore (lv' := [(13, .int (X1 13 k)), (12, .int (priceX X k (kc k))), (0, .ref b), (1, .ref d), (2, .int (nI Lc)), (3, .int (nI mm)), (4, .int 1), (5, .int (nI tn)), (6, .int (nI T)), (7, .int v), (9, .int (nI k))]) hx hb dL_law_424 hl (by decide) rfl (fun ls hl => ?_)
    refine lv_iload hx hb dL_law_426 (lv_at hl 0 rfl) ?_
    refine lv_bipush (v := (-3)) hx hb dL_law_428 (by decide) ?_
    refine lv_icmp_ne (tgt := 446) hx hb dL_law_430 (by decide) (fun _ => ?_) (fun h9 => absurd h9 hne)
    refine lv_iload hx hb dL_law_446 (lv_at hl 0 rfl) ?_
    refine lv_aload_n hx hb dL_law_448 rfl (lv_at hl 3 rfl) ?_
    refine lv_iload hx hb dL_law_449 (lv_at hl 10 rfl) ?_
    refine lv_iconst (v := 0) hx hb dL_law_451 (by decide) ?_
    refine z_taken hlt ⟨hx, hb, hml, hown, hts⟩ gL_law_X2_taken hW hK hE hd hbk hC hk (v := X1 13 k) (y_in 0 (N := 2) rfl (by decide) (by decide)) rfl hl.1 (Nat.le_of_ble_eq_true rfl) dL_law_452 ⟨Nat.le_of_ble_eq_true rfl, Nat.le_of_ble_eq_true rfl⟩ ⟨by show cells + 1 + 4 + 2 ≤ 632656; omega, by show slots + 6 + 24 + 12 ≤ 7203499; omega⟩ ?_
    refine lv_icmp_ne (tgt := 473) hx hb dL_law_455 (by decide) (fun h9 => absurd rfl h9) (fun _ => ?_)
    refine lv_aload_n hx hb dL_law_458 rfl (lv_at hl 3 rfl) ?_
    refine lv_iload hx hb dL_law_459 (lv_at hl 10 rfl) ?_
    refine z_all hlt ⟨hx, hb, hml, hown, hts⟩ gL_law_L_all hW hK hE hd hbk hC hk hl.1 (Nat.le_of_ble_eq_true rfl) dL_law_461 ⟨Nat.le_of_ble_eq_true rfl, Nat.le_of_ble_eq_true rfl⟩ ⟨by show cells + 1 + 4 + 2 + 6 ≤ 632656; omega, by show slots + 6 + 24 + 12 + 36 ≤ 7203499; omega⟩ ?_
    refine lv_iload hx hb dL_law_464 (lv_at hl 1 rfl) ?_
    refine lv_icmp_ne (tgt := 473) hx hb dL_law_466 (by decide) (fun h9 => absurd hPr h9) (fun _ => ?_)
    refine lv_iconst (v := 1) hx hb dL_law_469 (by decide) ?_
    refine lv_goto (tgt := 474) hx hb dL_law_470 (by decide) ?_
    refine lv_istore (lv' := [(4, .int 1), (13, .int (X1 13 k)), (12, .int (priceX X k (kc k))), (0, .ref b), (1, .ref d), (2, .int (nI Lc)), (3, .int (nI mm)), (5, .int (nI tn)), (6, .int (nI T)), (7, .int v), (9, .int (nI k))]) hx hb dL_law_474 hl (by decide) rfl (fun ls hl => ?_)
    refine lv_iload_n hx hb dL_law_476 rfl (lv_at hl 6 rfl) ?_
    refine lv_iload hx hb dL_law_477 (lv_at hl 1 rfl) ?_
    refine lv_bipush (v := (-3)) hx hb dL_law_479 (by decide) ?_
    refine lv_icmp_ne (tgt := 488) hx hb dL_law_481 (by decide) (fun _ => ?_) (fun h9 => absurd h9 hne)
    refine lv_iconst (v := 1) hx hb dL_law_488 (by decide) ?_
    refine lv_iload hx hb dL_law_489 (lv_at hl 10 rfl) ?_
    refine lv_ishl hx hb dL_law_491 ?_
    refine lv_ior hx hb dL_law_492 ?_
    refine cv (y := nI (mm ||| 2 ^ k)) (bit_set (by omega)) ?_
    refine lv_istore_n (lv' := [(3, .int (nI (mm ||| 2 ^ k))), (4, .int 1), (13, .int (X1 13 k)), (12, .int (priceX X k (kc k))), (0, .ref b), (1, .ref d), (2, .int (nI Lc)), (5, .int (nI tn)), (6, .int (nI T)), (7, .int v), (9, .int (nI k))]) hx hb dL_law_493 rfl hl (by decide) rfl (fun ls hl => ?_)
    refine lv_goto (tgt := 606) hx hb dL_law_494 (by decide) ?_
    exact htail _ _ _ _ _ _ _ _ _ _ _ _ hk ⟨hWd1, hC1, hZ, hPI1⟩ hS (lv_sub hl [1, 4, 5, 6, 0, 7, 8, 10] rfl) (by omega) (by omega)
  · skip
    have a2 := a2.symm
    subst a2
    have hWd1 : Wd D cI cO cL cJ d bk s g X H := hWd.next (Gw.refl hI rfl) hW hz9 hk9
    obtain ⟨-, hE, hI, hO, hd, hbk⟩ := id hWd1
    have h0k : kc k = 0 := by
      rcases Nat.eq_zero_or_pos (kc k) with h | h
      · exact h
      · exact absurd (h7.symm.trans a1) (nI_ne0 h (by have := h8a k hk; omega))
    refine lv_istore (lv' := [(13, .int (-3)), (12, .int (priceX X k (kc k))), (0, .ref b), (1, .ref d), (2, .int (nI Lc)), (3, .int (nI mm)), (4, .int 1), (5, .int (nI tn)), (6, .int (nI T)), (7, .int v), (9, .int (nI k))]) hx hb dL_law_424 hl (by decide) rfl (fun ls hl => ?_)
    refine lv_iload hx hb dL_law_426 (lv_at hl 0 rfl) ?_
    refine lv_bipush (v := (-3)) hx hb dL_law_428 (by decide) ?_
    refine lv_icmp_ne (tgt := 446) hx hb dL_law_430 (by decide) (fun h9 => absurd rfl h9) (fun _ => ?_)
    refine lv_iload hx hb dL_law_433 (lv_at hl 1 rfl) ?_
    refine lv_if_ne (tgt := 442) hx hb dL_law_435 (by decide) (fun h9 => absurd (by rw [h0k]; exact price_0 _ _) h9) (fun _ => ?_)
    refine lv_iconst (v := 1) hx hb dL_law_438 (by decide) ?_
    refine lv_goto (tgt := 474) hx hb dL_law_439 (by decide) ?_
    refine lv_istore (lv' := [(4, .int 1), (13, .int (-3)), (12, .int (priceX X k (kc k))), (0, .ref b), (1, .ref d), (2, .int (nI Lc)), (3, .int (nI mm)), (5, .int (nI tn)), (6, .int (nI T)), (7, .int v), (9, .int (nI k))]) hx hb dL_law_474 hl (by decide) rfl (fun ls hl => ?_)
    refine lv_iload_n hx hb dL_law_476 rfl (lv_at hl 6 rfl) ?_
    refine lv_iload hx hb dL_law_477 (lv_at hl 1 rfl) ?_
    refine lv_bipush (v := (-3)) hx hb dL_law_479 (by decide) ?_
    refine lv_icmp_ne (tgt := 488) hx hb dL_law_481 (by decide) (fun h9 => absurd rfl h9) (fun _ => ?_)
    refine lv_iconst (v := 0) hx hb dL_law_484 (by decide) ?_
    refine lv_goto (tgt := 492) hx hb dL_law_485 (by decide) ?_
    refine lv_ior hx hb dL_law_492 ?_
    refine cv (y := nI mm) (by rw [show (0 : Int32) = nI 0 from rfl, fa_or, Nat.or_zero]) ?_
    refine lv_istore_n (lv' := [(3, .int (nI mm)), (4, .int 1), (13, .int (-3)), (12, .int (priceX X k (kc k))), (0, .ref b), (1, .ref d), (2, .int (nI Lc)), (5, .int (nI tn)), (6, .int (nI T)), (7, .int v), (9, .int (nI k))]) hx hb dL_law_493 rfl hl (by decide) rfl (fun ls hl => ?_)
    refine lv_goto (tgt := 606) hx hb dL_law_494 (by decide) ?_
    exact htail _ _ _ _ _ _ _ _ _ _ _ _ hk ⟨hWd1, hC, hZ, hPI.mono⟩ hS (lv_sub hl [1, 4, 5, 6, 0, 7, 8, 10] rfl) (by omega) (by omega)
theorem ret_C {g : XG} {X X9 : MS} {n k : Nat} {kc : Nat → Nat} (hC : xC g X n kc) (hr : RetTo X k (kc k) X9) : xC g X9 n kc := by
  rcases hr with ⟨q, hq, rfl⟩ | rfl | ⟨q, z, hq, hz, -, rfl⟩
  · exact gr_C hC _ _ _ _
  · exact hC
  · have h : xC g (swX X (8 * k + 0) (nI q) z) n kc := hC.same rfl (fun _ => rfl)
    exact gr_C h _ _ _ _
set_option maxHeartbeats 4000000 in
set_option maxRecDepth 100000 in
theorem law_returns {p : Program} {l : Launch} {e : Env} {s : State} {m : MethodId} {below : List Frame} {meth : Method} {c : Code} {D : va_G} {cI cO cL cJ : ClassId} {b L : Nat} {xs : Nat → Int32} (C0 : LC p l s m c D cI cO cL cJ b L xs) {d bk T n Lc mm tn k : Nat} {kc : Nat → Nat} {g : XG} {X : MS} {H : Heap} {locs : List Loc} {cells slots : Nat} {ls : Array Slot} {v : Int32} (hT : T ≤ 60) (hLI : LI D cI cO cL cJ d bk s T n kc Lc mm g X H) (hS : va_S (AH s.heap.size) s.heap H locs) (hl : lv_has ls 15 [(0, .ref b), (1, .ref d), (2, .int (nI Lc)), (3, .int (nI mm)), (4, .int 1), (5, .int (nI tn)), (6, .int (nI T)), (7, .int v), (9, .int (nI k))]) (hc : cells ≤ 10000) (hs : slots ≤ 100000) (hk : k < n) (hpd : X 8 k = 1)
    (htail : ∀ (k n' : Nat) (kc' : Nat → Nat) (Lc' mm' : Nat) (g' : XG) (X' : MS) (H' : Heap) (locs' : List Loc) (ls' : Array Slot) (cells' slots' : Nat), k < n' → LI D cI cO cL cJ d bk s (T + 1) n' kc' Lc' mm' g' X' H' → va_S (AH s.heap.size) s.heap H' locs' → lv_has ls' 15 [(4, .int 1), (0, .ref b), (1, .ref d), (2, .int (nI Lc')), (3, .int (nI mm')), (5, .int (nI tn)), (6, .int (nI T)), (9, .int (nI k))] → cells' ≤ cells + 29 → slots' ≤ slots + 174 → W p l e room_1 s m #[Value.ref b] below meth c H' locs' cells' slots' (lw_Z below #[Value.ref b] s) (F0 m 606 ls' [])) : W p l e room_1 s m #[Value.ref b] below meth c H locs cells slots (lw_Z below #[Value.ref b] s) (F0 m 509 ls []) := by
  obtain ⟨hx, hb, hml, hown, hts, hXb, hbl, hL, hK, hlt⟩ := C0
  obtain ⟨hWd, hC, hZ, hPI⟩ := hLI
  obtain ⟨hW, hE, hI, hO, hd, hbk⟩ := id hWd
  have hn30 := hC.1
  have h8a := hC.h8
  have hA : ∀ q, xA g H.size q → AH s.heap.size q := fun q h => hO.A h
  refine lv_aload_n hx hb dL_law_509 rfl (lv_at hl 1 rfl) ?_
  refine lv_iload hx hb dL_law_510 (lv_at hl 8 rfl) ?_
  refine lv_iconst (v := 0) hx hb dL_law_512 (by decide) ?_
  refine lv_iload hx hb dL_law_513 (lv_at hl 7 rfl) ?_
  refine lv_bipush (v := 8) hx hb dL_law_515 (by decide) ?_
  refine lv_ishr hx hb dL_law_517 ?_
  refine z_returns hlt ⟨hx, hb, hml, hown, hts⟩ gL_law_L_returns hW hK hE hd hbk hI hO hS hA hC hk (hPI.pos hk hpd) hl.1 (Nat.le_of_ble_eq_true rfl) dL_law_518 ⟨Nat.le_of_ble_eq_true rfl, Nat.le_of_ble_eq_true rfl⟩ ⟨by show cells + 29 ≤ 632656; omega, by show slots + 174 ≤ 7203499; omega⟩ (fun X1 H locs hp hW hz9 hk9 hS => ?_)
  have hWd1 : Wd D cI cO cL cJ d bk s g X1 H := hWd.next (Gw.refl hI rfl) hW hz9 hk9
  obtain ⟨-, hE, hI, hO, hd, hbk⟩ := id hWd1
  have hPI1 := hPI.ret (by omega) h8a hk hpd hp
  have hC1 : xC g X1 n kc := ret_C hC hp
  refine lv_istore (lv' := [(4, .int 1), (0, .ref b), (1, .ref d), (2, .int (nI Lc)), (3, .int (nI mm)), (5, .int (nI tn)), (6, .int (nI T)), (7, .int v), (9, .int (nI k))]) hx hb dL_law_521 hl (by decide) rfl (fun ls hl => ?_)
  refine lv_goto (tgt := 606) hx hb dL_law_523 (by decide) ?_
  exact htail _ _ _ _ _ _ _ _ _ _ _ _ hk ⟨hWd1, hC1, hZ, hPI1⟩ hS (lv_sub hl [0, 1, 2, 3, 4, 5, 6, 8] rfl) (by omega) (by omega)
theorem pass_C {g : XG} {X : MS} {n : Nat} {kc : Nat → Nat} {w day : Int32} (hC : xC g X n kc) : xC g (qIt (mu X 1 0 w) kc day n).2 n kc := by
  have h : ∀ k f i, f ≠ 11 → f ≠ 13 → f ≠ 18 → (qIt (mu X 1 0 w) kc day k).2 f i = (mu X 1 0 w) f i := by
    intro k
    induction k with
    | zero => intro _ _ _ _ _; rfl
    | succ k ih => intro f i a b d; exact ((wIt_fr _ k day (kc k)).1 f i a b d).trans (ih f i a b d)
  exact hC.same (h n 0 0 (by decide) (by decide) (by decide)) (fun i => h n 7 i (by decide) (by decide) (by decide))
set_option maxHeartbeats 4000000 in
set_option maxRecDepth 100000 in
theorem law_pass {p : Program} {l : Launch} {e : Env} {s : State} {m : MethodId} {below : List Frame} {meth : Method} {c : Code} {D : va_G} {cI cO cL cJ : ClassId} {b L : Nat} {xs : Nat → Int32} (C0 : LC p l s m c D cI cO cL cJ b L xs) {d bk T n Lc mm tn k : Nat} {kc : Nat → Nat} {g : XG} {X : MS} {H : Heap} {locs : List Loc} {cells slots : Nat} {ls : Array Slot} {v : Int32} (hT : T ≤ 60) (hLI : LI D cI cO cL cJ d bk s T n kc Lc mm g X H) (hS : va_S (AH s.heap.size) s.heap H locs) (hl : lv_has ls 15 [(0, .ref b), (1, .ref d), (2, .int (nI Lc)), (3, .int (nI mm)), (4, .int 1), (5, .int (nI tn)), (6, .int (nI T)), (7, .int v), (9, .int (nI k))]) (hc : cells ≤ 10000) (hs : slots ≤ 100000) (hk : k < n)
    (htail : ∀ (k n' : Nat) (kc' : Nat → Nat) (Lc' mm' : Nat) (g' : XG) (X' : MS) (H' : Heap) (locs' : List Loc) (ls' : Array Slot) (cells' slots' : Nat), k < n' → LI D cI cO cL cJ d bk s (T + 1) n' kc' Lc' mm' g' X' H' → va_S (AH s.heap.size) s.heap H' locs' → lv_has ls' 15 [(4, .int 1), (0, .ref b), (1, .ref d), (2, .int (nI Lc')), (3, .int (nI mm')), (5, .int (nI tn)), (6, .int (nI T)), (9, .int (nI k))] → cells' ≤ cells + 29 → slots' ≤ slots + 174 → W p l e room_1 s m #[Value.ref b] below meth c H' locs' cells' slots' (lw_Z below #[Value.ref b] s) (F0 m 606 ls' [])) : W p l e room_1 s m #[Value.ref b] below meth c H locs cells slots (lw_Z below #[Value.ref b] s) (F0 m 526 ls []) := by
  obtain ⟨hx, hb, hml, hown, hts, hXb, hbl, hL, hK, hlt⟩ := C0
  obtain ⟨hWd, hC, hZ, hPI⟩ := hLI
  obtain ⟨hW, hE, hI, hO, hd, hbk⟩ := id hWd
  have hn30 := hC.1
  have h8a := hC.h8
  have hA : ∀ q, xA g H.size q → AH s.heap.size q := fun q h => hO.A h
  refine lv_iconst (v := 1) hx hb dL_law_526 (by decide) ?_
  refine lv_iload hx hb dL_law_527 (lv_at hl 7 rfl) ?_
  refine lv_iload hx hb dL_law_529 (lv_at hl 7 rfl) ?_
  refine lv_bipush (v := 9) hx hb dL_law_531 (by decide) ?_
  refine lv_ishr hx hb dL_law_533 ?_
  refine lv_iconst (v := 3) hx hb dL_law_534 (by decide) ?_
  refine z_low ⟨hx, hb, hml, hown, hts⟩ gL_law_L_low (N := 3) (by decide) (by decide) hl.1 (Nat.le_of_ble_eq_true rfl) dL_law_535 ⟨Nat.le_of_ble_eq_true rfl, Nat.le_of_ble_eq_true rfl⟩ ⟨by show cells ≤ 632656; omega, by show slots ≤ 7203499; omega⟩ (fun q1 hq1 => ?_)
  refine lv_if_ne (tgt := 546) hx hb dL_law_538 (by decide) (fun c538 => ?_) (fun c538 => ?_)
  · skip
    refine lv_bipush (v := 12) hx hb dL_law_546 (by decide) ?_
    refine z_low ⟨hx, hb, hml, hown, hts⟩ gL_law_L_low (N := 12) (by decide) (by decide) hl.1 (Nat.le_of_ble_eq_true rfl) dL_law_548 ⟨Nat.le_of_ble_eq_true rfl, Nat.le_of_ble_eq_true rfl⟩ ⟨by show cells ≤ 632656; omega, by show slots ≤ 7203499; omega⟩ (fun q2 hq2 => ?_)
    refine lv_iadd hx hb dL_law_551 ?_
    refine cv (y := nI (1 + q2)) (nI_addx (a := 1) (b := q2) rfl rfl) ?_
    refine lv_istore (lv' := [(12, .int (nI (1 + q2))), (0, .ref b), (1, .ref d), (2, .int (nI Lc)), (3, .int (nI mm)), (4, .int 1), (5, .int (nI tn)), (6, .int (nI T)), (7, .int v), (9, .int (nI k))]) hx hb dL_law_552 hl (by decide) rfl (fun ls hl => ?_)
    refine lv_aload_n hx hb dL_law_554 rfl (lv_at hl 2 rfl) ?_
    refine z_day hlt ⟨hx, hb, hml, hown, hts⟩ gL_law_X2_day hW hK hE hd hbk hl.1 (Nat.le_of_ble_eq_true rfl) dL_law_555 ⟨Nat.le_of_ble_eq_true rfl, Nat.le_of_ble_eq_true rfl⟩ ⟨by show cells ≤ 632656; omega, by show slots ≤ 7203499; omega⟩ ?_
    refine lv_istore (lv' := [(13, .int (X 1 0)), (12, .int (nI (1 + q2))), (0, .ref b), (1, .ref d), (2, .int (nI Lc)), (3, .int (nI mm)), (4, .int 1), (5, .int (nI tn)), (6, .int (nI T)), (7, .int v), (9, .int (nI k))]) hx hb dL_law_558 hl (by decide) rfl (fun ls hl => ?_)
    refine lv_aload_n hx hb dL_law_560 rfl (lv_at hl 3 rfl) ?_
    refine lv_iload hx hb dL_law_561 (lv_at hl 1 rfl) ?_
    refine z_pass hlt ⟨hx, hb, hml, hown, hts⟩ gL_law_X2_pass hW hK hE hd hbk hI hO hS hA hC (w := nI (1 + q2)) (y_in1 (1 + q2) (N := 400) rfl (by omega) (by omega) (by decide)) (hPI.day (by omega) (by omega)) hl.1 (Nat.le_of_ble_eq_true rfl) dL_law_563 ⟨Nat.le_of_ble_eq_true rfl, Nat.le_of_ble_eq_true rfl⟩ ⟨by show cells + 2 ≤ 632656; omega, by show slots + 12 ≤ 7203499; omega⟩ (fun H locs hW hz9 hk9 hS => ?_)
    obtain ⟨hPI1, ⟨q9, hq9, e9⟩, e1⟩ := hPI.pass h8a (w := 1 + q2) (by omega)
    have hC1 : xC g (qIt (mu X 1 0 (X 1 0 + nI (1 + q2))) kc (X 1 0 + nI (1 + q2)) n).2 n kc := pass_C hC
    have hLc : Lc ≤ T := hPI.2.2.2.1
    generalize qIt (mu X 1 0 (X 1 0 + nI (1 + q2))) kc (X 1 0 + nI (1 + q2)) n = G at hW hPI1 e9 e1 hC1 ⊢
    have hWd1 : Wd D cI cO cL cJ d bk s g G.2 H := hWd.next (Gw.refl hI rfl) hW hz9 hk9
    obtain ⟨-, hE, hI, hO, hd, hbk⟩ := id hWd1
    have hC := hC1
    refine cv (y := nI q9) e9 ?_
    refine lv_istore (lv' := [(14, .int (nI q9)), (13, .int (X 1 0)), (12, .int (nI (1 + q2))), (0, .ref b), (1, .ref d), (2, .int (nI Lc)), (3, .int (nI mm)), (4, .int 1), (5, .int (nI tn)), (6, .int (nI T)), (7, .int v), (9, .int (nI k))]) hx hb dL_law_566 hl (by decide) rfl (fun ls hl => ?_)
    refine lv_aload_n hx hb dL_law_568 rfl (lv_at hl 4 rfl) ?_
    refine z_day hlt ⟨hx, hb, hml, hown, hts⟩ gL_law_X2_day hW hK hE hd hbk hl.1 (Nat.le_of_ble_eq_true rfl) dL_law_569 ⟨Nat.le_of_ble_eq_true rfl, Nat.le_of_ble_eq_true rfl⟩ ⟨by show cells + 2 ≤ 632656; omega, by show slots + 12 ≤ 7203499; omega⟩ ?_
    refine lv_iload hx hb dL_law_572 (lv_at hl 1 rfl) ?_
    refine lv_iload hx hb dL_law_574 (lv_at hl 2 rfl) ?_
    refine lv_iadd hx hb dL_law_576 ?_
    refine lv_icmp_ne (tgt := 603) hx hb dL_law_577 (by decide) (fun h9 => absurd e1 h9) (fun _ => ?_)
    refine lv_iload hx hb dL_law_580 (lv_at hl 0 rfl) ?_
    refine lv_if_lt (tgt := 603) hx hb dL_law_582 (by decide) (fun h9 => absurd h9 (nI_pos (by omega))) (fun _ => ?_)
    refine lv_iload hx hb dL_law_585 (lv_at hl 0 rfl) ?_
    refine lv_iload_n hx hb dL_law_587 rfl (lv_at hl 5 rfl) ?_
    refine lv_iload hx hb dL_law_588 (lv_at hl 2 rfl) ?_
    refine lv_bipush (v := 21) hx hb dL_law_590 (by decide) ?_
    refine lv_idiv hx hb dL_law_592 (by decide) ?_
    refine cv (y := nI ((1 + q2) / 21)) (pk_div (a := 1 + q2) (d := 21) (by omega) (by decide) (by decide)) ?_
    refine lv_iconst (v := 1) hx hb dL_law_593 (by decide) ?_
    refine lv_iadd hx hb dL_law_594 ?_
    refine cv (y := nI ((1 + q2) / 21 + 1)) (nI_addx (a := (1 + q2) / 21) (b := 1) rfl rfl) ?_
    refine lv_imul hx hb dL_law_595 ?_
    refine cv (y := nI (Lc * ((1 + q2) / 21 + 1))) (nI_mulx (a := Lc) (b := (1 + q2) / 21 + 1) rfl rfl) ?_
    refine lv_icmp_gt (tgt := 603) hx hb dL_law_596 (by decide) (fun h9 => absurd h9 (nI_nlt (Nat.le_trans hq9 (Nat.le_mul_of_pos_right Lc (Nat.succ_pos _))) (Nat.lt_of_le_of_lt (Nat.mul_le_mul (show Lc ≤ 60 by omega) (show ((1 + q2) / 21 + 1) ≤ 100 by omega)) (by decide)))) (fun _ => ?_)
    refine lv_iconst (v := 1) hx hb dL_law_599 (by decide) ?_
    refine lv_goto (tgt := 604) hx hb dL_law_600 (by decide) ?_
    refine lv_istore (lv' := [(4, .int 1), (14, .int (nI q9)), (13, .int (X 1 0)), (12, .int (nI (1 + q2))), (0, .ref b), (1, .ref d), (2, .int (nI Lc)), (3, .int (nI mm)), (5, .int (nI tn)), (6, .int (nI T)), (7, .int v), (9, .int (nI k))]) hx hb dL_law_604 hl (by decide) rfl (fun ls hl => ?_)
    exact htail _ _ _ _ _ _ _ _ _ _ _ _ hk ⟨hWd1, hC1, hZ, hPI1⟩ hS (lv_sub hl [0, 4, 5, 6, 7, 8, 9, 11] rfl) (by omega) (by omega)
  · skip
    refine lv_bipush (v := 60) hx hb dL_law_541 (by decide) ?_
    refine lv_goto (tgt := 548) hx hb dL_law_543 (by decide) ?_
    refine z_low ⟨hx, hb, hml, hown, hts⟩ gL_law_L_low (N := 60) (by decide) (by decide) hl.1 (Nat.le_of_ble_eq_true rfl) dL_law_548 ⟨Nat.le_of_ble_eq_true rfl, Nat.le_of_ble_eq_true rfl⟩ ⟨by show cells ≤ 632656; omega, by show slots ≤ 7203499; omega⟩ (fun q3 hq3 => ?_)
    refine lv_iadd hx hb dL_law_551 ?_
    refine cv (y := nI (1 + q3)) (nI_addx (a := 1) (b := q3) rfl rfl) ?_
    refine lv_istore (lv' := [(12, .int (nI (1 + q3))), (0, .ref b), (1, .ref d), (2, .int (nI Lc)), (3, .int (nI mm)), (4, .int 1), (5, .int (nI tn)), (6, .int (nI T)), (7, .int v), (9, .int (nI k))]) hx hb dL_law_552 hl (by decide) rfl (fun ls hl => ?_)
    refine lv_aload_n hx hb dL_law_554 rfl (lv_at hl 2 rfl) ?_
    refine z_day hlt ⟨hx, hb, hml, hown, hts⟩ gL_law_X2_day hW hK hE hd hbk hl.1 (Nat.le_of_ble_eq_true rfl) dL_law_555 ⟨Nat.le_of_ble_eq_true rfl, Nat.le_of_ble_eq_true rfl⟩ ⟨by show cells ≤ 632656; omega, by show slots ≤ 7203499; omega⟩ ?_
    refine lv_istore (lv' := [(13, .int (X 1 0)), (12, .int (nI (1 + q3))), (0, .ref b), (1, .ref d), (2, .int (nI Lc)), (3, .int (nI mm)), (4, .int 1), (5, .int (nI tn)), (6, .int (nI T)), (7, .int v), (9, .int (nI k))]) hx hb dL_law_558 hl (by decide) rfl (fun ls hl => ?_)
    refine lv_aload_n hx hb dL_law_560 rfl (lv_at hl 3 rfl) ?_
    refine lv_iload hx hb dL_law_561 (lv_at hl 1 rfl) ?_
    refine z_pass hlt ⟨hx, hb, hml, hown, hts⟩ gL_law_X2_pass hW hK hE hd hbk hI hO hS hA hC (w := nI (1 + q3)) (y_in1 (1 + q3) (N := 400) rfl (by omega) (by omega) (by decide)) (hPI.day (by omega) (by omega)) hl.1 (Nat.le_of_ble_eq_true rfl) dL_law_563 ⟨Nat.le_of_ble_eq_true rfl, Nat.le_of_ble_eq_true rfl⟩ ⟨by show cells + 2 ≤ 632656; omega, by show slots + 12 ≤ 7203499; omega⟩ (fun H locs hW hz9 hk9 hS => ?_)
    obtain ⟨hPI1, ⟨q9, hq9, e9⟩, e1⟩ := hPI.pass h8a (w := 1 + q3) (by omega)
    have hC1 : xC g (qIt (mu X 1 0 (X 1 0 + nI (1 + q3))) kc (X 1 0 + nI (1 + q3)) n).2 n kc := pass_C hC
    have hLc : Lc ≤ T := hPI.2.2.2.1
    generalize qIt (mu X 1 0 (X 1 0 + nI (1 + q3))) kc (X 1 0 + nI (1 + q3)) n = G at hW hPI1 e9 e1 hC1 ⊢
    have hWd1 : Wd D cI cO cL cJ d bk s g G.2 H := hWd.next (Gw.refl hI rfl) hW hz9 hk9
    obtain ⟨-, hE, hI, hO, hd, hbk⟩ := id hWd1
    have hC := hC1
    refine cv (y := nI q9) e9 ?_
    refine lv_istore (lv' := [(14, .int (nI q9)), (13, .int (X 1 0)), (12, .int (nI (1 + q3))), (0, .ref b), (1, .ref d), (2, .int (nI Lc)), (3, .int (nI mm)), (4, .int 1), (5, .int (nI tn)), (6, .int (nI T)), (7, .int v), (9, .int (nI k))]) hx hb dL_law_566 hl (by decide) rfl (fun ls hl => ?_)
    refine lv_aload_n hx hb dL_law_568 rfl (lv_at hl 4 rfl) ?_
    refine z_day hlt ⟨hx, hb, hml, hown, hts⟩ gL_law_X2_day hW hK hE hd hbk hl.1 (Nat.le_of_ble_eq_true rfl) dL_law_569 ⟨Nat.le_of_ble_eq_true rfl, Nat.le_of_ble_eq_true rfl⟩ ⟨by show cells + 2 ≤ 632656; omega, by show slots + 12 ≤ 7203499; omega⟩ ?_
    refine lv_iload hx hb dL_law_572 (lv_at hl 1 rfl) ?_
    refine lv_iload hx hb dL_law_574 (lv_at hl 2 rfl) ?_
    refine lv_iadd hx hb dL_law_576 ?_
    refine lv_icmp_ne (tgt := 603) hx hb dL_law_577 (by decide) (fun h9 => absurd e1 h9) (fun _ => ?_)
    refine lv_iload hx hb dL_law_580 (lv_at hl 0 rfl) ?_
    refine lv_if_lt (tgt := 603) hx hb dL_law_582 (by decide) (fun h9 => absurd h9 (nI_pos (by omega))) (fun _ => ?_)
    refine lv_iload hx hb dL_law_585 (lv_at hl 0 rfl) ?_
    refine lv_iload_n hx hb dL_law_587 rfl (lv_at hl 5 rfl) ?_
    refine lv_iload hx hb dL_law_588 (lv_at hl 2 rfl) ?_
    refine lv_bipush (v := 21) hx hb dL_law_590 (by decide) ?_
    refine lv_idiv hx hb dL_law_592 (by decide) ?_
    refine cv (y := nI ((1 + q3) / 21)) (pk_div (a := 1 + q3) (d := 21) (by omega) (by decide) (by decide)) ?_
    refine lv_iconst (v := 1) hx hb dL_law_593 (by decide) ?_
    refine lv_iadd hx hb dL_law_594 ?_
    refine cv (y := nI ((1 + q3) / 21 + 1)) (nI_addx (a := (1 + q3) / 21) (b := 1) rfl rfl) ?_
    refine lv_imul hx hb dL_law_595 ?_
    refine cv (y := nI (Lc * ((1 + q3) / 21 + 1))) (nI_mulx (a := Lc) (b := (1 + q3) / 21 + 1) rfl rfl) ?_
    refine lv_icmp_gt (tgt := 603) hx hb dL_law_596 (by decide) (fun h9 => absurd h9 (nI_nlt (Nat.le_trans hq9 (Nat.le_mul_of_pos_right Lc (Nat.succ_pos _))) (Nat.lt_of_le_of_lt (Nat.mul_le_mul (show Lc ≤ 60 by omega) (show ((1 + q3) / 21 + 1) ≤ 100 by omega)) (by decide)))) (fun _ => ?_)
    refine lv_iconst (v := 1) hx hb dL_law_599 (by decide) ?_
    refine lv_goto (tgt := 604) hx hb dL_law_600 (by decide) ?_
    refine lv_istore (lv' := [(4, .int 1), (14, .int (nI q9)), (13, .int (X 1 0)), (12, .int (nI (1 + q3))), (0, .ref b), (1, .ref d), (2, .int (nI Lc)), (3, .int (nI mm)), (5, .int (nI tn)), (6, .int (nI T)), (7, .int v), (9, .int (nI k))]) hx hb dL_law_604 hl (by decide) rfl (fun ls hl => ?_)
    exact htail _ _ _ _ _ _ _ _ _ _ _ _ hk ⟨hWd1, hC1, hZ, hPI1⟩ hS (lv_sub hl [0, 4, 5, 6, 7, 8, 9, 11] rfl) (by omega) (by omega)
end
section
/-! THE LAW'S TURN AND ITS LOOP. -/
set_option maxHeartbeats 4000000 in
set_option maxRecDepth 100000 in
theorem law_tail {p : Program} {l : Launch} {e : Env} {s : State} {m : MethodId} {below : List Frame} {meth : Method} {c : Code} {D : va_G} {cI cO cL cJ : ClassId} {b L : Nat} {xs : Nat → Int32} (C0 : LC p l s m c D cI cO cL cJ b L xs) {d bk T n Lc mm tn k : Nat} {kc : Nat → Nat} {g : XG} {X : MS} {H : Heap} {locs : List Loc} {cells slots : Nat} {ls : Array Slot} (hT : T ≤ 60) (hk : k < n) (hLI : LI D cI cO cL cJ d bk s (T + 1) n kc Lc mm g X H) (hS : va_S (AH s.heap.size) s.heap H locs) (hl : lv_has ls 15 [(4, .int 1), (0, .ref b), (1, .ref d), (2, .int (nI Lc)), (3, .int (nI mm)), (5, .int (nI tn)), (6, .int (nI T)), (9, .int (nI k))]) (hc : cells ≤ 100000) (hs : slots ≤ 1000000)
    (hnext : ∀ (ls' : Array Slot), lv_has ls' 15 [(0, .ref b), (1, .ref d), (2, .int (nI Lc)), (3, .int (nI mm)), (4, .int 1), (5, .int (nI tn)), (6, .int (nI (T + 1)))] → W p l e room_1 s m #[Value.ref b] below meth c H locs (cells + 21) (slots + 126) (lw_Z below #[Value.ref b] s) (F0 m 59 ls' [])) : W p l e room_1 s m #[Value.ref b] below meth c H locs cells slots (lw_Z below #[Value.ref b] s) (F0 m 606 ls []) := by
  obtain ⟨hx, hb, hml, hown, hts, hXb, hbl, hL, hK, hlt⟩ := C0
  obtain ⟨hWd, hC, hZ, hPI⟩ := hLI
  obtain ⟨hW, hE, hI, hO, hd, hbk⟩ := id hWd
  have hn30 := hC.1
  have h8a := hC.h8
  refine lv_iload hx hb dL_law_606 (lv_at hl 0 rfl) ?_
  refine lv_if_eq (tgt := 646) hx hb dL_law_608 (by decide) (fun h9 => absurd h9 (by decide)) (fun _ => ?_)
  refine lv_aload_n hx hb dL_law_611 rfl (lv_at hl 2 rfl) ?_
  refine z_orders hlt ⟨hx, hb, hml, hown, hts⟩ gL_law_X2_orders hW hK hE hd hbk hl.1 (Nat.le_of_ble_eq_true rfl) dL_law_612 ⟨Nat.le_of_ble_eq_true rfl, Nat.le_of_ble_eq_true rfl⟩ ⟨by show cells ≤ 632656; omega, by show slots ≤ 7203499; omega⟩ ?_
  refine lv_if_eq (tgt := 642) hx hb dL_law_615 (by decide) (fun h9 => absurd h9 (by rw [hC.2.1]; exact nI_ne0 (by omega) (by omega))) (fun _ => ?_)
  refine lv_aload_n hx hb dL_law_618 rfl (lv_at hl 2 rfl) ?_
  refine lv_iload hx hb dL_law_619 (lv_at hl 7 rfl) ?_
  refine lv_iload_n hx hb dL_law_621 rfl (lv_at hl 4 rfl) ?_
  refine lv_iload hx hb dL_law_622 (lv_at hl 7 rfl) ?_
  refine lv_ishr hx hb dL_law_624 ?_
  refine lv_iconst (v := 1) hx hb dL_law_625 (by decide) ?_
  refine lv_iand hx hb dL_law_626 ?_
  refine lv_iconst (v := 1) hx hb dL_law_627 (by decide) ?_
  refine lv_icmp_ne (tgt := 635) hx hb dL_law_628 (by decide) (fun c628 => ?_) (fun c628 => ?_)
  · skip
    refine lv_iconst (v := 0) hx hb dL_law_635 (by decide) ?_
    refine z_sums hlt ⟨hx, hb, hml, hown, hts⟩ gL_law_L_sums hW hK hE hd hbk hC hk (hPI.sok (by omega) h8a hk (Or.inr ⟨rfl, hPI.un hk (fun h => c628 ((hPI.bit hn30 hk).mpr h))⟩)) hl.1 (Nat.le_of_ble_eq_true rfl) dL_law_636 ⟨Nat.le_of_ble_eq_true rfl, Nat.le_of_ble_eq_true rfl⟩ ⟨by show cells + 21 ≤ 632656; omega, by show slots + 126 ≤ 7203499; omega⟩ ?_
    refine lv_if_eq (tgt := 646) hx hb dL_law_639 (by decide) (fun h9 => absurd h9 (by decide)) (fun _ => ?_)
    refine lv_iconst (v := 1) hx hb dL_law_642 (by decide) ?_
    refine lv_goto (tgt := 647) hx hb dL_law_643 (by decide) ?_
    refine lv_istore (lv' := [(4, .int 1), (0, .ref b), (1, .ref d), (2, .int (nI Lc)), (3, .int (nI mm)), (5, .int (nI tn)), (6, .int (nI T)), (9, .int (nI k))]) hx hb dL_law_647 hl (by decide) rfl (fun ls hl => ?_)
    refine lv_iinc (v := nI (T + 1)) (lv' := [(6, .int (nI (T + 1))), (4, .int 1), (0, .ref b), (1, .ref d), (2, .int (nI Lc)), (3, .int (nI mm)), (5, .int (nI tn)), (9, .int (nI k))]) hx hb dL_law_649 hl (k := 6) rfl (nI_addx (a := T) (b := 1) rfl rfl) (by decide) rfl (fun ls hl => ?_)
    refine lv_goto (tgt := 59) hx hb dL_law_652 (by decide) ?_
    exact hnext _ (lv_sub hl [2, 3, 4, 5, 1, 6, 0] rfl)
  · skip
    refine lv_iconst (v := 1) hx hb dL_law_631 (by decide) ?_
    refine lv_goto (tgt := 636) hx hb dL_law_632 (by decide) ?_
    refine z_sums hlt ⟨hx, hb, hml, hown, hts⟩ gL_law_L_sums hW hK hE hd hbk hC hk (hPI.sok (by omega) h8a hk (Or.inl ⟨rfl, (hPI.bit hn30 hk).mp c628⟩)) hl.1 (Nat.le_of_ble_eq_true rfl) dL_law_636 ⟨Nat.le_of_ble_eq_true rfl, Nat.le_of_ble_eq_true rfl⟩ ⟨by show cells + 21 ≤ 632656; omega, by show slots + 126 ≤ 7203499; omega⟩ ?_
    refine lv_if_eq (tgt := 646) hx hb dL_law_639 (by decide) (fun h9 => absurd h9 (by decide)) (fun _ => ?_)
    refine lv_iconst (v := 1) hx hb dL_law_642 (by decide) ?_
    refine lv_goto (tgt := 647) hx hb dL_law_643 (by decide) ?_
    refine lv_istore (lv' := [(4, .int 1), (0, .ref b), (1, .ref d), (2, .int (nI Lc)), (3, .int (nI mm)), (5, .int (nI tn)), (6, .int (nI T)), (9, .int (nI k))]) hx hb dL_law_647 hl (by decide) rfl (fun ls hl => ?_)
    refine lv_iinc (v := nI (T + 1)) (lv' := [(6, .int (nI (T + 1))), (4, .int 1), (0, .ref b), (1, .ref d), (2, .int (nI Lc)), (3, .int (nI mm)), (5, .int (nI tn)), (9, .int (nI k))]) hx hb dL_law_649 hl (k := 6) rfl (nI_addx (a := T) (b := 1) rfl rfl) (by decide) rfl (fun ls hl => ?_)
    refine lv_goto (tgt := 59) hx hb dL_law_652 (by decide) ?_
    exact hnext _ (lv_sub hl [2, 3, 4, 5, 1, 6, 0] rfl)
set_option maxHeartbeats 4000000 in
set_option maxRecDepth 100000 in
theorem law_turn {p : Program} {l : Launch} {e : Env} {s : State} {m : MethodId} {below : List Frame} {meth : Method} {c : Code} {D : va_G} {cI cO cL cJ : ClassId} {b L : Nat} {xs : Nat → Int32} (C0 : LC p l s m c D cI cO cL cJ b L xs) {d bk T n Lc mm tn : Nat} {kc : Nat → Nat} {g : XG} {X : MS} {H : Heap} {locs : List Loc} {cells slots : Nat} {ls : Array Slot} (hT : T ≤ 60) (hLI : LI D cI cO cL cJ d bk s T n kc Lc mm g X H) (hS : va_S (AH s.heap.size) s.heap H locs) (hl : lv_has ls 15 [(0, .ref b), (1, .ref d), (2, .int (nI Lc)), (3, .int (nI mm)), (4, .int 1), (5, .int (nI tn)), (6, .int (nI T))]) (hc : cells ≤ 10000) (hs : slots ≤ 100000)
    (hnext : ∀ (n' : Nat) (kc' : Nat → Nat) (Lc' mm' : Nat) (g' : XG) (X' : MS) (H' : Heap) (locs' : List Loc) (ls' : Array Slot) (cells' slots' : Nat), LI D cI cO cL cJ d bk s (T + 1) n' kc' Lc' mm' g' X' H' → va_S (AH s.heap.size) s.heap H' locs' → lv_has ls' 15 [(0, .ref b), (1, .ref d), (2, .int (nI Lc')), (3, .int (nI mm')), (4, .int 1), (5, .int (nI tn)), (6, .int (nI (T + 1)))] → cells' ≤ cells + 50 → slots' ≤ slots + 300 → W p l e room_1 s m #[Value.ref b] below meth c H' locs' cells' slots' (lw_Z below #[Value.ref b] s) (F0 m 59 ls' [])) : W p l e room_1 s m #[Value.ref b] below meth c H locs cells slots (lw_Z below #[Value.ref b] s) (F0 m 71 ls []) := by
  obtain ⟨hx, hb, hml, hown, hts, hXb, hbl, hL, hK, hlt⟩ := id C0
  obtain ⟨hWd, hC, hZ, hPI⟩ := id hLI
  obtain ⟨hW, hE, hI, hO, hd, hbk⟩ := id hWd
  have hn30 := hC.1
  have htail : ∀ (k n' : Nat) (kc' : Nat → Nat) (Lc' mm' : Nat) (g' : XG) (X' : MS) (H' : Heap) (locs' : List Loc) (ls' : Array Slot) (cells' slots' : Nat), k < n' → LI D cI cO cL cJ d bk s (T + 1) n' kc' Lc' mm' g' X' H' → va_S (AH s.heap.size) s.heap H' locs' → lv_has ls' 15 [(4, .int 1), (0, .ref b), (1, .ref d), (2, .int (nI Lc')), (3, .int (nI mm')), (5, .int (nI tn)), (6, .int (nI T)), (9, .int (nI k))] → cells' ≤ cells + 29 → slots' ≤ slots + 174 → W p l e room_1 s m #[Value.ref b] below meth c H' locs' cells' slots' (lw_Z below #[Value.ref b] s) (F0 m 606 ls' []) :=
    fun k n' kc' Lc' mm' g' X' H' locs' ls' cells' slots' h0 h1 h2 h3 h4 h5 => law_tail C0 hT h0 h1 h2 h3 (by omega) (by omega) (fun ls'' h6 => hnext n' kc' Lc' mm' g' X' H' locs' ls'' _ _ h1 h2 h6 (by omega) (by omega))
  refine lv_aload_n hx hb dL_law_71 rfl (lv_at hl 0 rfl) ?_
  refine lv_iconst (v := 1) hx hb dL_law_72 (by decide) ?_
  refine lv_iload hx hb dL_law_73 (lv_at hl 6 rfl) ?_
  refine lv_iadd hx hb dL_law_75 ?_
  refine cv (y := nI (1 + T)) (nI_addx (a := 1) (b := T) rfl rfl) ?_
  refine z_cell ⟨hx, hb, hml, hown, hts⟩ gL_law_L_cell hL (hXb.kept (hS.2.1 b hbl (fun z => absurd hbl (Nat.not_lt.mpr z)))) (k := 1 + T) (by omega) hl.1 (Nat.le_of_ble_eq_true rfl) dL_law_76 ⟨Nat.le_of_ble_eq_true rfl, Nat.le_of_ble_eq_true rfl⟩ ⟨by show cells ≤ 632656; omega, by show slots ≤ 7203499; omega⟩ (fun v1 => ?_)
  refine lv_istore (lv' := [(7, .int v1), (0, .ref b), (1, .ref d), (2, .int (nI Lc)), (3, .int (nI mm)), (4, .int 1), (5, .int (nI tn)), (6, .int (nI T))]) hx hb dL_law_79 hl (by decide) rfl (fun ls hl => ?_)
  refine lv_aload_n hx hb dL_law_81 rfl (lv_at hl 2 rfl) ?_
  refine z_orders hlt ⟨hx, hb, hml, hown, hts⟩ gL_law_X2_orders hW hK hE hd hbk hl.1 (Nat.le_of_ble_eq_true rfl) dL_law_82 ⟨Nat.le_of_ble_eq_true rfl, Nat.le_of_ble_eq_true rfl⟩ ⟨by show cells ≤ 632656; omega, by show slots ≤ 7203499; omega⟩ ?_
  refine cv (y := nI n) hC.2.1 ?_
  refine lv_istore (lv' := [(8, .int (nI n)), (7, .int v1), (0, .ref b), (1, .ref d), (2, .int (nI Lc)), (3, .int (nI mm)), (4, .int 1), (5, .int (nI tn)), (6, .int (nI T))]) hx hb dL_law_85 hl (by decide) rfl (fun ls hl => ?_)
  refine lv_iload hx hb dL_law_87 (lv_at hl 0 rfl) ?_
  refine lv_if_ne (tgt := 96) hx hb dL_law_89 (by decide) (fun c89 => ?_) (fun c89 => ?_)
  · skip
    have hn : 0 < n := Nat.pos_of_ne_zero (fun h => c89 (by rw [h]; rfl))
    refine lv_iload hx hb dL_law_96 (lv_at hl 1 rfl) ?_
    refine lv_iconst (v := 3) hx hb dL_law_98 (by decide) ?_
    refine lv_ishr hx hb dL_law_99 ?_
    refine lv_iload hx hb dL_law_100 (lv_at hl 0 rfl) ?_
    refine z_low ⟨hx, hb, hml, hown, hts⟩ gL_law_L_low (N := n) (by omega) (by omega) hl.1 (Nat.le_of_ble_eq_true rfl) dL_law_102 ⟨Nat.le_of_ble_eq_true rfl, Nat.le_of_ble_eq_true rfl⟩ ⟨by show cells ≤ 632656; omega, by show slots ≤ 7203499; omega⟩ (fun q2 hq2 => ?_)
    refine lv_istore (lv' := [(9, .int (nI q2)), (8, .int (nI n)), (7, .int v1), (0, .ref b), (1, .ref d), (2, .int (nI Lc)), (3, .int (nI mm)), (4, .int 1), (5, .int (nI tn)), (6, .int (nI T))]) hx hb dL_law_105 hl (by decide) rfl (fun ls hl => ?_)
    refine lv_iload hx hb dL_law_107 (lv_at hl 1 rfl) ?_
    refine lv_if_le (tgt := 126) hx hb dL_law_109 (by decide) (fun h9 => absurd h9 (nI_nle hn (by omega))) (fun _ => ?_)
    refine lv_iload_n hx hb dL_law_112 rfl (lv_at hl 6 rfl) ?_
    refine lv_iload hx hb dL_law_113 (lv_at hl 0 rfl) ?_
    refine lv_ishr hx hb dL_law_115 ?_
    refine lv_iconst (v := 1) hx hb dL_law_116 (by decide) ?_
    refine lv_iand hx hb dL_law_117 ?_
    refine lv_iconst (v := 1) hx hb dL_law_118 (by decide) ?_
    refine lv_icmp_ne (tgt := 126) hx hb dL_law_119 (by decide) (fun c119 => ?_) (fun c119 => ?_)
    · skip
      refine lv_iconst (v := 0) hx hb dL_law_126 (by decide) ?_
      refine lv_istore (lv' := [(10, .int 0), (9, .int (nI q2)), (8, .int (nI n)), (7, .int v1), (0, .ref b), (1, .ref d), (2, .int (nI Lc)), (3, .int (nI mm)), (4, .int 1), (5, .int (nI tn)), (6, .int (nI T))]) hx hb dL_law_127 hl (by decide) rfl (fun ls hl => ?_)
      refine lv_iload hx hb dL_law_129 (lv_at hl 3 rfl) ?_
      refine lv_bipush (v := 20) hx hb dL_law_131 (by decide) ?_
      refine lv_ishr hx hb dL_law_133 ?_
      refine lv_bipush (v := 14) hx hb dL_law_134 (by decide) ?_
      refine z_low ⟨hx, hb, hml, hown, hts⟩ gL_law_L_low (N := 14) (by decide) (by decide) hl.1 (Nat.le_of_ble_eq_true rfl) dL_law_136 ⟨Nat.le_of_ble_eq_true rfl, Nat.le_of_ble_eq_true rfl⟩ ⟨by show cells ≤ 632656; omega, by show slots ≤ 7203499; omega⟩ (fun q3 hq3 => ?_)
      refine lv_istore (lv' := [(11, .int (nI q3)), (10, .int 0), (9, .int (nI q2)), (8, .int (nI n)), (7, .int v1), (0, .ref b), (1, .ref d), (2, .int (nI Lc)), (3, .int (nI mm)), (4, .int 1), (5, .int (nI tn)), (6, .int (nI T))]) hx hb dL_law_139 hl (by decide) rfl (fun ls hl => ?_)
      refine lv_iload hx hb dL_law_141 (lv_at hl 3 rfl) ?_
      refine lv_if_eq (tgt := 152) hx hb dL_law_143 (by decide) (fun h9 => absurd h9 c89) (fun _ => ?_)
      refine lv_iload hx hb dL_law_146 (lv_at hl 0 rfl) ?_
      refine lv_iconst (v := 1) hx hb dL_law_148 (by decide) ?_
      refine lv_icmp_ge (tgt := 240) hx hb dL_law_149 (by decide) (fun c149 => ?_) (fun c149 => ?_)
      · skip
        refine lv_iload hx hb dL_law_240 (lv_at hl 0 rfl) ?_
        refine lv_iconst (v := 5) hx hb dL_law_242 (by decide) ?_
        refine lv_icmp_ge (tgt := 363) hx hb dL_law_243 (by decide) (fun c243 => ?_) (fun c243 => ?_)
        · skip
          refine lv_iload hx hb dL_law_363 (lv_at hl 0 rfl) ?_
          refine lv_bipush (v := 7) hx hb dL_law_365 (by decide) ?_
          refine lv_icmp_ge (tgt := 497) hx hb dL_law_367 (by decide) (fun c367 => ?_) (fun c367 => ?_)
          · skip
            refine lv_iload hx hb dL_law_497 (lv_at hl 0 rfl) ?_
            refine lv_bipush (v := 11) hx hb dL_law_499 (by decide) ?_
            refine lv_icmp_ge (tgt := 526) hx hb dL_law_501 (by decide) (fun c501 => ?_) (fun c501 => ?_)
            · skip
              exact law_pass C0 (k := q2) (v := v1) hT hLI hS (lv_sub hl [5, 6, 7, 8, 9, 10, 11, 4, 2] rfl) hc hs hq2 htail
            · skip
              refine lv_iload hx hb dL_law_504 (lv_at hl 1 rfl) ?_
              refine lv_if_eq (tgt := 526) hx hb dL_law_506 (by decide) (fun _ => ?_) (fun h9 => absurd (by decide) h9)
              exact law_pass C0 (k := q2) (v := v1) hT hLI hS (lv_sub hl [5, 6, 7, 8, 9, 10, 11, 4, 2] rfl) hc hs hq2 htail
          · skip
            refine lv_iload hx hb dL_law_370 (lv_at hl 1 rfl) ?_
            refine lv_if_ne (tgt := 497) hx hb dL_law_372 (by decide) (fun h9 => absurd (by decide) h9) (fun _ => ?_)
            exact law_pay C0 (k := q2) (v := v1) hT hLI hS (lv_sub hl [5, 6, 7, 8, 9, 10, 11, 4, 2] rfl) hc hs hq2 (hPI.un hq2 (fun h => c119 ((hPI.bit hn30 hq2).mpr h))) htail
        · skip
          refine lv_iload hx hb dL_law_246 (lv_at hl 1 rfl) ?_
          refine lv_if_ne (tgt := 363) hx hb dL_law_248 (by decide) (fun h9 => absurd (by decide) h9) (fun _ => ?_)
          exact law_add C0 (k := q2) (v := v1) hT hLI hS (lv_sub hl [5, 6, 7, 8, 9, 10, 11, 4, 2] rfl) hc hs hq2 (hPI.un hq2 (fun h => c119 ((hPI.bit hn30 hq2).mpr h))) htail
      · skip
        exact law_order C0 (k := q2) (v := v1) hT hLI hS (lv_sub hl [5, 6, 7, 8, 9, 10, 11, 4, 3, 2] rfl) hc hs (Or.inl hq2) htail
    · skip
      refine lv_iconst (v := 1) hx hb dL_law_122 (by decide) ?_
      refine lv_goto (tgt := 127) hx hb dL_law_123 (by decide) ?_
      refine lv_istore (lv' := [(10, .int 1), (9, .int (nI q2)), (8, .int (nI n)), (7, .int v1), (0, .ref b), (1, .ref d), (2, .int (nI Lc)), (3, .int (nI mm)), (4, .int 1), (5, .int (nI tn)), (6, .int (nI T))]) hx hb dL_law_127 hl (by decide) rfl (fun ls hl => ?_)
      refine lv_iload hx hb dL_law_129 (lv_at hl 3 rfl) ?_
      refine lv_bipush (v := 20) hx hb dL_law_131 (by decide) ?_
      refine lv_ishr hx hb dL_law_133 ?_
      refine lv_bipush (v := 14) hx hb dL_law_134 (by decide) ?_
      refine z_low ⟨hx, hb, hml, hown, hts⟩ gL_law_L_low (N := 14) (by decide) (by decide) hl.1 (Nat.le_of_ble_eq_true rfl) dL_law_136 ⟨Nat.le_of_ble_eq_true rfl, Nat.le_of_ble_eq_true rfl⟩ ⟨by show cells ≤ 632656; omega, by show slots ≤ 7203499; omega⟩ (fun q4 hq4 => ?_)
      refine lv_istore (lv' := [(11, .int (nI q4)), (10, .int 1), (9, .int (nI q2)), (8, .int (nI n)), (7, .int v1), (0, .ref b), (1, .ref d), (2, .int (nI Lc)), (3, .int (nI mm)), (4, .int 1), (5, .int (nI tn)), (6, .int (nI T))]) hx hb dL_law_139 hl (by decide) rfl (fun ls hl => ?_)
      refine lv_iload hx hb dL_law_141 (lv_at hl 3 rfl) ?_
      refine lv_if_eq (tgt := 152) hx hb dL_law_143 (by decide) (fun h9 => absurd h9 c89) (fun _ => ?_)
      refine lv_iload hx hb dL_law_146 (lv_at hl 0 rfl) ?_
      refine lv_iconst (v := 1) hx hb dL_law_148 (by decide) ?_
      refine lv_icmp_ge (tgt := 240) hx hb dL_law_149 (by decide) (fun c149 => ?_) (fun c149 => ?_)
      · skip
        refine lv_iload hx hb dL_law_240 (lv_at hl 0 rfl) ?_
        refine lv_iconst (v := 5) hx hb dL_law_242 (by decide) ?_
        refine lv_icmp_ge (tgt := 363) hx hb dL_law_243 (by decide) (fun c243 => ?_) (fun c243 => ?_)
        · skip
          refine lv_iload hx hb dL_law_363 (lv_at hl 0 rfl) ?_
          refine lv_bipush (v := 7) hx hb dL_law_365 (by decide) ?_
          refine lv_icmp_ge (tgt := 497) hx hb dL_law_367 (by decide) (fun c367 => ?_) (fun c367 => ?_)
          · skip
            refine lv_iload hx hb dL_law_497 (lv_at hl 0 rfl) ?_
            refine lv_bipush (v := 11) hx hb dL_law_499 (by decide) ?_
            refine lv_icmp_ge (tgt := 526) hx hb dL_law_501 (by decide) (fun c501 => ?_) (fun c501 => ?_)
            · skip
              exact law_pass C0 (k := q2) (v := v1) hT hLI hS (lv_sub hl [5, 6, 7, 8, 9, 10, 11, 4, 2] rfl) hc hs hq2 htail
            · skip
              refine lv_iload hx hb dL_law_504 (lv_at hl 1 rfl) ?_
              refine lv_if_eq (tgt := 526) hx hb dL_law_506 (by decide) (fun h9 => absurd h9 (by decide)) (fun _ => ?_)
              exact law_returns C0 (k := q2) (v := v1) hT hLI hS (lv_sub hl [5, 6, 7, 8, 9, 10, 11, 4, 2] rfl) hc hs hq2 ((hPI.bit hn30 hq2).mp c119) htail
          · skip
            refine lv_iload hx hb dL_law_370 (lv_at hl 1 rfl) ?_
            refine lv_if_ne (tgt := 497) hx hb dL_law_372 (by decide) (fun _ => ?_) (fun h9 => absurd h9 (by decide))
            refine lv_iload hx hb dL_law_497 (lv_at hl 0 rfl) ?_
            refine lv_bipush (v := 11) hx hb dL_law_499 (by decide) ?_
            refine lv_icmp_ge (tgt := 526) hx hb dL_law_501 (by decide) (fun c501 => ?_) (fun c501 => ?_)
            · skip
              exact law_pass C0 (k := q2) (v := v1) hT hLI hS (lv_sub hl [5, 6, 7, 8, 9, 10, 11, 4, 2] rfl) hc hs hq2 htail
            · skip
              refine lv_iload hx hb dL_law_504 (lv_at hl 1 rfl) ?_
              refine lv_if_eq (tgt := 526) hx hb dL_law_506 (by decide) (fun h9 => absurd h9 (by decide)) (fun _ => ?_)
              exact law_returns C0 (k := q2) (v := v1) hT hLI hS (lv_sub hl [5, 6, 7, 8, 9, 10, 11, 4, 2] rfl) hc hs hq2 ((hPI.bit hn30 hq2).mp c119) htail
        · skip
          refine lv_iload hx hb dL_law_246 (lv_at hl 1 rfl) ?_
          refine lv_if_ne (tgt := 363) hx hb dL_law_248 (by decide) (fun _ => ?_) (fun h9 => absurd h9 (by decide))
          refine lv_iload hx hb dL_law_363 (lv_at hl 0 rfl) ?_
          refine lv_bipush (v := 7) hx hb dL_law_365 (by decide) ?_
          refine lv_icmp_ge (tgt := 497) hx hb dL_law_367 (by decide) (fun c367 => ?_) (fun c367 => ?_)
          · skip
            refine lv_iload hx hb dL_law_497 (lv_at hl 0 rfl) ?_
            refine lv_bipush (v := 11) hx hb dL_law_499 (by decide) ?_
            refine lv_icmp_ge (tgt := 526) hx hb dL_law_501 (by decide) (fun c501 => ?_) (fun c501 => ?_)
            · skip
              exact law_pass C0 (k := q2) (v := v1) hT hLI hS (lv_sub hl [5, 6, 7, 8, 9, 10, 11, 4, 2] rfl) hc hs hq2 htail
            · skip
              refine lv_iload hx hb dL_law_504 (lv_at hl 1 rfl) ?_
              refine lv_if_eq (tgt := 526) hx hb dL_law_506 (by decide) (fun h9 => absurd h9 (by decide)) (fun _ => ?_)
              exact law_returns C0 (k := q2) (v := v1) hT hLI hS (lv_sub hl [5, 6, 7, 8, 9, 10, 11, 4, 2] rfl) hc hs hq2 ((hPI.bit hn30 hq2).mp c119) htail
          · skip
            refine lv_iload hx hb dL_law_370 (lv_at hl 1 rfl) ?_
            refine lv_if_ne (tgt := 497) hx hb dL_law_372 (by decide) (fun _ => ?_) (fun h9 => absurd h9 (by decide))
            refine lv_iload hx hb dL_law_497 (lv_at hl 0 rfl) ?_
            refine lv_bipush (v := 11) hx hb dL_law_499 (by decide) ?_
            refine lv_icmp_ge (tgt := 526) hx hb dL_law_501 (by decide) (fun c501 => ?_) (fun c501 => ?_)
            · skip
              exact law_pass C0 (k := q2) (v := v1) hT hLI hS (lv_sub hl [5, 6, 7, 8, 9, 10, 11, 4, 2] rfl) hc hs hq2 htail
            · skip
              refine lv_iload hx hb dL_law_504 (lv_at hl 1 rfl) ?_
              refine lv_if_eq (tgt := 526) hx hb dL_law_506 (by decide) (fun h9 => absurd h9 (by decide)) (fun _ => ?_)
              exact law_returns C0 (k := q2) (v := v1) hT hLI hS (lv_sub hl [5, 6, 7, 8, 9, 10, 11, 4, 2] rfl) hc hs hq2 ((hPI.bit hn30 hq2).mp c119) htail
      · skip
        exact law_order C0 (k := q2) (v := v1) hT hLI hS (lv_sub hl [5, 6, 7, 8, 9, 10, 11, 4, 3, 2] rfl) hc hs (Or.inl hq2) htail
  · skip
    have hn : n = 0 := (nI_eq (by omega) (by decide)).mp (show nI n = nI 0 from c89)
    refine lv_iconst (v := 0) hx hb dL_law_92 (by decide) ?_
    refine lv_goto (tgt := 105) hx hb dL_law_93 (by decide) ?_
    refine lv_istore (lv' := [(9, .int 0), (8, .int (nI n)), (7, .int v1), (0, .ref b), (1, .ref d), (2, .int (nI Lc)), (3, .int (nI mm)), (4, .int 1), (5, .int (nI tn)), (6, .int (nI T))]) hx hb dL_law_105 hl (by decide) rfl (fun ls hl => ?_)
    refine lv_iload hx hb dL_law_107 (lv_at hl 1 rfl) ?_
    refine lv_if_le (tgt := 126) hx hb dL_law_109 (by decide) (fun _ => ?_) (fun h9 => absurd (show nI n ≤ 0 by rw [c89]; decide) h9)
    refine lv_iconst (v := 0) hx hb dL_law_126 (by decide) ?_
    refine lv_istore (lv' := [(10, .int 0), (9, .int 0), (8, .int (nI n)), (7, .int v1), (0, .ref b), (1, .ref d), (2, .int (nI Lc)), (3, .int (nI mm)), (4, .int 1), (5, .int (nI tn)), (6, .int (nI T))]) hx hb dL_law_127 hl (by decide) rfl (fun ls hl => ?_)
    refine lv_iload hx hb dL_law_129 (lv_at hl 3 rfl) ?_
    refine lv_bipush (v := 20) hx hb dL_law_131 (by decide) ?_
    refine lv_ishr hx hb dL_law_133 ?_
    refine lv_bipush (v := 14) hx hb dL_law_134 (by decide) ?_
    refine z_low ⟨hx, hb, hml, hown, hts⟩ gL_law_L_low (N := 14) (by decide) (by decide) hl.1 (Nat.le_of_ble_eq_true rfl) dL_law_136 ⟨Nat.le_of_ble_eq_true rfl, Nat.le_of_ble_eq_true rfl⟩ ⟨by show cells ≤ 632656; omega, by show slots ≤ 7203499; omega⟩ (fun q5 hq5 => ?_)
    refine lv_istore (lv' := [(11, .int (nI q5)), (10, .int 0), (9, .int 0), (8, .int (nI n)), (7, .int v1), (0, .ref b), (1, .ref d), (2, .int (nI Lc)), (3, .int (nI mm)), (4, .int 1), (5, .int (nI tn)), (6, .int (nI T))]) hx hb dL_law_139 hl (by decide) rfl (fun ls hl => ?_)
    refine lv_iload hx hb dL_law_141 (lv_at hl 3 rfl) ?_
    refine lv_if_eq (tgt := 152) hx hb dL_law_143 (by decide) (fun _ => ?_) (fun h9 => absurd c89 h9)
    exact law_order C0 (k := 0) (v := v1) hT hLI hS (lv_sub hl [5, 6, 7, 8, 9, 10, 11, 4, 3, 2] rfl) hc hs (Or.inr ⟨hn, rfl⟩) htail
set_option maxHeartbeats 4000000 in
set_option maxRecDepth 100000 in
theorem law_loop {p : Program} {l : Launch} {e : Env} {s : State} {m : MethodId} {below : List Frame} {meth : Method} {c : Code} {D : va_G} {cI cO cL cJ : ClassId} {b L : Nat} {xs : Nat → Int32} (C0 : LC p l s m c D cI cO cL cJ b L xs) (hr : meth.sig.returnType = ret) (hlocks : meth.locks = false) {d bk tn : Nat} (htn : tn ≤ 60) : ∀ (j T n : Nat) (kc : Nat → Nat) (Lc mm : Nat) (g : XG) (X : MS) (H : Heap) (locs : List Loc) (cells slots : Nat) (ls : Array Slot), T + j = tn → LI D cI cO cL cJ d bk s T n kc Lc mm g X H → va_S (AH s.heap.size) s.heap H locs → lv_has ls 15 [(0, .ref b), (1, .ref d), (2, .int (nI Lc)), (3, .int (nI mm)), (4, .int 1), (5, .int (nI tn)), (6, .int (nI T))] → cells ≤ 10 + 50 * T → slots ≤ 100 + 300 * T → W p l e room_1 s m #[Value.ref b] below meth c H locs cells slots (lw_Z below #[Value.ref b] s) (F0 m 59 ls []) := by
  obtain ⟨hx, hb, hml, hown, hts, hXb, hbl, hL, hK, hlt⟩ := id C0
  intro j
  induction j with
  | zero =>
    intro T n kc Lc mm g X H locs cells slots ls hj hLI hS hl hc hs
    refine lv_iload hx hb dL_law_59 (lv_at hl 6 rfl) ?_
    refine lv_iload hx hb dL_law_61 (lv_at hl 5 rfl) ?_
    refine lv_icmp_ge (tgt := 655) hx hb dL_law_63 (by decide) (fun _ => ?_) (fun h9 => absurd (nI_le (show tn ≤ T by omega) (by omega)) h9)
    refine lv_iload hx hb dL_law_655 (lv_at hl 4 rfl) ?_
    exact va_forget (fun z hz => hS.2.2 z hz) (W.widen (by omega) (by omega) (lw_ret hx hb hr hlocks dL_law_657))
  | succ j ih =>
    intro T n kc Lc mm g X H locs cells slots ls hj hLI hS hl hc hs
    refine lv_iload hx hb dL_law_59 (lv_at hl 6 rfl) ?_
    refine lv_iload hx hb dL_law_61 (lv_at hl 5 rfl) ?_
    refine lv_icmp_ge (tgt := 655) hx hb dL_law_63 (by decide) (fun h9 => absurd h9 (nI_ge (show T < tn by omega) (by omega))) (fun _ => ?_)
    refine lv_iload hx hb dL_law_66 (lv_at hl 4 rfl) ?_
    refine lv_if_eq (tgt := 655) hx hb dL_law_68 (by decide) (fun h9 => absurd h9 (by decide)) (fun _ => ?_)
    exact law_turn C0 (by omega) hLI hS hl (by omega) (by omega) (fun n' kc' Lc' mm' g' X' H' locs' ls' cells' slots' h1 h2 h3 h4 h5 => ih (T + 1) n' kc' Lc' mm' g' X' H' locs' cells' slots' ls' (by omega) h1 h2 h3 (by omega) (by omega))
end
section
/-! THE LAW FROM ITS ENTRY. -/
def wsStart : List Cond := [.instantiable RX0 5, .instantiable RX1 12, .instantiable RX2 6, .arrayOver (.object RX1), .arrayOver (.object RX0), .castable ISE ISE, .castable IAE IAE, .castable IOE IOE, .declares (Bundle.initS "java/lang/RuntimeException"), .declares (Bundle.initS "java/lang/Exception"), .declares (Bundle.initS "java/lang/Throwable"), .laysStatic Bundle.tN "UNASSIGNED_STACK" Bundle.steD, .laysStatic Bundle.tN "SUPPRESSED_SENTINEL" Bundle.listD, .initialized Bundle.tN, .stringRef RX2 26 "no room for another order", .stringRef RX2 47 "the order takes no more lines", .stringRef RX2 59 "the order is paid or has no lines", .stringRef RX2 85 "the line is not waited for", .stringRef RX2 143 "the day would be above the last one", .stringRef RX2 150 "an argument is out of range", .stringRef RX2 155 "no such order", .stringRef RX2 162 "no such line", .stringRef RX2 170 "the line may not come back"]
set_option maxRecDepth 100000 in
theorem wsStart_in : ∀ w ∈ wsStart, w ∈ lw_tbl := by_places [288, 197, 19, 27, 226, 172, 148, 61, 63, 65, 67, 86, 88, 9, 220, 286, 325, 375, 179, 155, 100, 130, 418] (by rfl)
theorem str_of {args : Array Value} {s : State} {k : Nat} {tx : String} (h1 : (Cond.stringRef RX2 k tx).before args s = true) (h2 : (Cond.exactly (.string RX2 k) "java/lang/String").before args s = true) : ∃ sa, vk_R RX2 k tx sa s := by
  obtain ⟨a, c, cell, kk, h, -⟩ := Cond.exactly_spec h2
  exact ⟨a, vk_R.of h1 h⟩
def given_flat : List Cond := [.exactly (.string RX2 26) "java/lang/String", .exactly (.string RX2 47) "java/lang/String", .exactly (.string RX2 59) "java/lang/String", .exactly (.string RX2 85) "java/lang/String", .exactly (.string RX2 143) "java/lang/String", .exactly (.string RX2 150) "java/lang/String", .exactly (.string RX2 155) "java/lang/String", .exactly (.string RX2 162) "java/lang/String", .exactly (.string RX2 170) "java/lang/String", .isRef (.static Bundle.tN "UNASSIGNED_STACK" Bundle.steD), .isRef (.static Bundle.tN "SUPPRESSED_SENTINEL" Bundle.listD)]
set_option maxRecDepth 100000 in
set_option maxHeartbeats 4000000 in
theorem given_of {args : Array Value} {s : State} (h : (Jvm.Cond.and given_1 narrow_1).before args s = true) : ∀ w ∈ given_flat, w.before args s = true := by
  have hs := flat_of_before _ h
  have hin : ∀ w ∈ given_flat, w ∈ flatC (Jvm.Cond.and given_1 narrow_1) := by decide +kernel
  exact fun w hw => hs w (hin w hw)
def g0 (d bk : Nat) : XG := fun t i => if t = 3 ∧ i = 0 then some d else if t = 4 ∧ i = 0 then some bk else none
theorem g0_key {d bk t i a : Nat} (h : g0 d bk t i = some a) : (t = 3 ∧ i = 0 ∧ a = d) ∨ (t = 4 ∧ i = 0 ∧ a = bk) := by
  unfold g0 at h
  split at h
  · next h1 => exact Or.inl ⟨h1.1, h1.2, (Option.some.inj h).symm⟩
  · split at h
    · next h2 => exact Or.inr ⟨h2.1, h2.2, (Option.some.inj h).symm⟩
    · cases h
theorem g0_C (d bk : Nat) : xC (g0 d bk) (fun _ _ => 0) 0 (fun _ => 0) :=
  ⟨by omega, rfl, fun k hk => by simp [g0], fun k hk => absurd hk (Nat.not_lt_zero k)⟩
theorem g0_Z (d bk : Nat) : xZ (g0 d bk) 0 := by
  refine ⟨fun t i a ht h => ?_, fun i _ => ?_, fun i a h => ?_⟩
  · rcases g0_key h with ⟨h1, h2, _⟩ | ⟨h1, h2, _⟩
    · omega
    · exact ⟨h1, h2⟩
  · simp [g0]
  · rcases g0_key h with ⟨h1, h2, _⟩ | ⟨h1, h2, _⟩ <;> omega
theorem PI0 : PI 0 (fun _ _ => 0) 0 (fun _ => 0) 0 0 :=
  ⟨⟨0, by omega, nI_0.symm⟩, fun k hk => absurd hk (Nat.not_lt_zero k), Nat.le_refl 0, Nat.le_refl 0, by decide, fun k _ => ⟨fun h => by simp at h, fun h => absurd h.1 (Nat.not_lt_zero k)⟩⟩
theorem start_E {args : Array Value} {s : State} (hts : ∀ w ∈ lw_tbl, w.before args s = true) (hg : ∀ w ∈ given_flat, w.before args s = true) : xE s.heap.size s s.heap := by
  have hA : ∀ a : Nat, a < s.heap.size → ¬ (fun a => s.heap.size ≤ a) a := fun a h z => absurd h (Nat.not_lt.mpr z)
  refine ⟨vx_Zqof (hts (.laysStatic Bundle.tN "UNASSIGNED_STACK" Bundle.steD) (wsStart_in _ (List.mem_of_getElem? (i := 11) rfl))) (hts (.initialized Bundle.tN) (wsStart_in _ (List.mem_of_getElem? (i := 13) rfl))) (hg _ (List.mem_of_getElem? (i := 9) rfl)) hA, vx_Zqof (hts (.laysStatic Bundle.tN "SUPPRESSED_SENTINEL" Bundle.listD) (wsStart_in _ (List.mem_of_getElem? (i := 12) rfl))) (hts (.initialized Bundle.tN) (wsStart_in _ (List.mem_of_getElem? (i := 13) rfl))) (hg _ (List.mem_of_getElem? (i := 10) rfl)) hA, ?_, ?_, va_AO.of (hts (.arrayOver (.object RX0)) (wsStart_in _ (List.mem_of_getElem? (i := 4) rfl))), va_AO.of (hts (.arrayOver (.object RX1)) (wsStart_in _ (List.mem_of_getElem? (i := 3) rfl)))⟩
  · intro w hw
    have h1 : w.before args s = true := by
      simp only [xNon, List.mem_cons, List.not_mem_nil, or_false] at hw
      rcases hw with rfl | rfl | rfl | rfl | rfl | rfl
      · exact (hts (.castable ISE ISE) (wsStart_in _ (List.mem_of_getElem? (i := 5) rfl)))
      · exact (hts (.castable IAE IAE) (wsStart_in _ (List.mem_of_getElem? (i := 6) rfl)))
      · exact (hts (.castable IOE IOE) (wsStart_in _ (List.mem_of_getElem? (i := 7) rfl)))
      · exact (hts (.declares (Bundle.initS "java/lang/RuntimeException")) (wsStart_in _ (List.mem_of_getElem? (i := 8) rfl)))
      · exact (hts (.declares (Bundle.initS "java/lang/Exception")) (wsStart_in _ (List.mem_of_getElem? (i := 9) rfl)))
      · exact (hts (.declares (Bundle.initS "java/lang/Throwable")) (wsStart_in _ (List.mem_of_getElem? (i := 10) rfl)))
    exact va_Nw.of (xNon_tab w hw) h1
  · intro z hz
    simp only [xStr, List.mem_cons, List.not_mem_nil, or_false] at hz
    rcases hz with rfl | rfl | rfl | rfl | rfl | rfl | rfl | rfl | rfl
    · exact str_of (hts (.stringRef RX2 26 "no room for another order") (wsStart_in _ (List.mem_of_getElem? (i := 14) rfl))) (hg _ (List.mem_of_getElem? (i := 0) rfl))
    · exact str_of (hts (.stringRef RX2 47 "the order takes no more lines") (wsStart_in _ (List.mem_of_getElem? (i := 15) rfl))) (hg _ (List.mem_of_getElem? (i := 1) rfl))
    · exact str_of (hts (.stringRef RX2 59 "the order is paid or has no lines") (wsStart_in _ (List.mem_of_getElem? (i := 16) rfl))) (hg _ (List.mem_of_getElem? (i := 2) rfl))
    · exact str_of (hts (.stringRef RX2 85 "the line is not waited for") (wsStart_in _ (List.mem_of_getElem? (i := 17) rfl))) (hg _ (List.mem_of_getElem? (i := 3) rfl))
    · exact str_of (hts (.stringRef RX2 143 "the day would be above the last one") (wsStart_in _ (List.mem_of_getElem? (i := 18) rfl))) (hg _ (List.mem_of_getElem? (i := 4) rfl))
    · exact str_of (hts (.stringRef RX2 150 "an argument is out of range") (wsStart_in _ (List.mem_of_getElem? (i := 19) rfl))) (hg _ (List.mem_of_getElem? (i := 5) rfl))
    · exact str_of (hts (.stringRef RX2 155 "no such order") (wsStart_in _ (List.mem_of_getElem? (i := 20) rfl))) (hg _ (List.mem_of_getElem? (i := 6) rfl))
    · exact str_of (hts (.stringRef RX2 162 "no such line") (wsStart_in _ (List.mem_of_getElem? (i := 21) rfl))) (hg _ (List.mem_of_getElem? (i := 7) rfl))
    · exact str_of (hts (.stringRef RX2 170 "the line may not come back") (wsStart_in _ (List.mem_of_getElem? (i := 22) rfl))) (hg _ (List.mem_of_getElem? (i := 8) rfl))
theorem start_K {args : Array Value} {s : State} (hts : ∀ w ∈ lw_tbl, w.before args s = true) : ∃ (D : va_G) (cI cO cL cJ : ClassId), KK D cI cO cL cJ s := by
  obtain ⟨c0, iS0, hKn0⟩ := u_known (C := RX0) (T := TX0) (N := 5) (n := 5) hts inX0 (hts (.instantiable RX0 5) (wsStart_in _ (List.mem_of_getElem? (i := 0) rfl)))
  obtain ⟨c1, iS1, hKn1⟩ := u_known (C := RX1) (T := TX1) (N := 12) (n := 12) hts inX1 (hts (.instantiable RX1 12) (wsStart_in _ (List.mem_of_getElem? (i := 1) rfl)))
  obtain ⟨c2, iS2, hKn2⟩ := u_known (C := RX2) (T := TX2) (N := 6) (n := 6) hts inX2 (hts (.instantiable RX2 6) (wsStart_in _ (List.mem_of_getElem? (i := 2) rfl)))
  obtain ⟨pO, cO, kO, o1, -, o3, o4, o5⟩ := Cond.arrayOver_spec (hts (.arrayOver (.object RX1)) (wsStart_in _ (List.mem_of_getElem? (i := 3) rfl)))
  obtain ⟨pL, cL, kL, l1, -, l3, l4, l5⟩ := Cond.arrayOver_spec (hts (.arrayOver (.object RX0)) (wsStart_in _ (List.mem_of_getElem? (i := 4) rfl)))
  refine ⟨(fun k => if k = 0 then c0 else if k = 1 then c1 else c2, fun k => if k = 0 then iS0 else if k = 1 then iS1 else iS2), cO, cO, cL, cO, ?_, ?_⟩
  · intro k q hq
    match k, hq with
    | 0, hq => cases hq; exact hKn0
    | 1, hq => cases hq; exact hKn1
    | 2, hq => cases hq; exact hKn2
    | k + 3, hq => simp [vwCl] at hq
  · intro k q hq
    match k, hq with
    | 0, hq => cases hq; exact ⟨fun n z => ⟨fun k h => (by cases h), kO, o3, pO, o4⟩, ⟨kO, pO, o3, o4, o1, o5⟩⟩
    | 1, hq => cases hq; exact ⟨fun n z => ⟨fun k h => (by cases h), kO, o3, pO, o4⟩, ⟨kO, pO, o3, o4, o1, o5⟩⟩
    | 2, hq => cases hq; exact ⟨fun n z => ⟨fun k h => (by cases h), kL, l3, pL, l4⟩, ⟨kL, pL, l3, l4, l1, l5⟩⟩
    | k + 3, hq => simp at hq
end
section
set_option maxHeartbeats 4000000 in
set_option maxRecDepth 100000 in
theorem whole_start {p : Program} {e : Env} {s : State} {m : MethodId} {below : List Frame} {meth : Method} {c : Code} (l : Launch) (hflags : l.flags = flags0) {b L : Nat} {xs : Nat → Int32} (hL : L ≤ 260) (C0 : lw_At p s m meth c b L xs) : W p l e room_1 s m #[Value.ref b] below meth c s.heap [] 0 0 (lw_Z below #[Value.ref b] s) (entryFrame m ([Value.ref b] : List Value).toArray 15) := by
  obtain ⟨hx, hb, hr, hml, hown, hts, hXb, hbl, hlocks, hgv⟩ := id C0
  have hg := given_of hgv
  have hE0 := start_E hts hg
  obtain ⟨D, cI, cO, cL, cJ, hK⟩ := start_K hts
  have htsL : ∀ w ∈ wsL_law, w.before #[Value.ref b] s = true := fun w h => hts w (wsL_law_in w h)
  have hlt : l.stackTraces = false := by
    unfold Launch.stackTraces
    rw [hflags]
    decide +kernel
  have hb : c.code = cL_law := hb
  have hown : s.vm.findClass RL = some m.cls := hown
  have hS : va_S (AH s.heap.size) s.heap s.heap [] := va_S.rf
  have hl := lv_entry ([.ref b]) (n := 15) (Nat.le_of_ble_eq_true rfl)
  rw [lg_entry_eq]
  generalize (lg_sl ([.ref b]) ++ List.replicate (15 - (lg_sl ([.ref b])).length) Slot.unset).toArray = ls at hl ⊢
  have hl : lv_has ls 15 [(0, .ref b)] := hl
  refine f_new (own := RL) (C := RX2) (T := TX2) (N := 6) (ci := 2) (fs := [.null, .int 0, .int 0, .int 0, .int 0, .int 0]) hx hb htsL inlX2 tyX2 tyX2_ok hown (hts (Cond.classLink RL 10 RX2) (wsL_law0_r1_in _ (List.mem_of_getElem? (i := 0) rfl))) (hts (Cond.instantiable RX2 6) (wsL_law0_r1_in _ (List.mem_of_getElem? (i := 1) rfl))) (hts (Cond.initialized RX2) (wsL_law0_r1_in _ (List.mem_of_getElem? (i := 2) rfl))) hK hS rfl nwX2 (Nat.le_of_ble_eq_true rfl) (Nat.le_of_ble_eq_true rfl) dL_law_0 (fun H1 hq1 hz1 ho1 hS => ?_)
  refine lv_dup hx hb dL_law_3 rfl ?_
  refine va_callv (va_runI (As := []) (rest := [.ref s.heap.size]) ⟨hx, hb, hml, hown, htsL⟩ (kX2_init l H1.size s.heap.size (by omega)) (cwI 0 htsL gL_law_X2_init rfl rfl rfl (hts (Cond.initialized RX2) (wsL_law0_r1_in _ (List.mem_of_getElem? (i := 2) rfl))) (hts (Cond.methodLink RL 82 yX2_init) (wsL_law0_r1_in _ (List.mem_of_getElem? (i := 5) rfl))) (hts (Cond.instanceMethod yX2_init) (wsL_law0_r1_in _ (List.mem_of_getElem? (i := 6) rfl))) rfl (by decide +kernel) ⟨Nat.le_of_ble_eq_true rfl, Nat.le_of_ble_eq_true rfl⟩) (c_pre hq1 hK hE0.2.2.2.2.1 hE0.2.2.2.2.2) rfl rfl hl.1 rfl (lv_room (Nat.le_of_ble_eq_true rfl)) dL_law_4 ⟨Nat.le_of_ble_eq_true rfl, Nat.le_of_ble_eq_true rfl⟩) hS (fun q _ h => ge_of h (by omega)) (fun q h => ge_of h (by omega)) (fun bk t H2 locs ht hvm hp hB hz2 hk2 hS => ?_)
  obtain ⟨hd2, hbk2⟩ := hB
  rw [ht] at hd2 hbk2
  have hbkl : bk < H2.size := hbk2.lt
  have hWd : Wd D cI cO cL cJ s.heap.size bk s (g0 s.heap.size bk) (fun _ _ => 0) H2 := by
    refine ⟨?_, hE0.kept (fun a h1 h2 => hS.2.1 a h1 h2), ?_, ⟨?_, by omega⟩, rfl, rfl⟩
    · intro t i a ha
      rcases g0_key ha with ⟨rfl, rfl, rfl⟩ | ⟨rfl, rfl, rfl⟩
      · exact hd2
      · exact at_congr hbk2 (fun j _ => by simp [g0])
    · intro t i t' i' a h h'
      rcases g0_key h with ⟨h1, h2, h3⟩ | ⟨h1, h2, h3⟩ <;> rcases g0_key h' with ⟨k1, k2, k3⟩ | ⟨k1, k2, k3⟩ <;> omega
    · intro t i a h
      rcases g0_key h with ⟨h1, h2, h3⟩ | ⟨h1, h2, h3⟩ <;> omega
  have hC := g0_C s.heap.size bk
  have hZ := g0_Z s.heap.size bk
  obtain ⟨hW, hE, hI, hO, hd, hbk⟩ := id hWd
  have hts := htsL
  refine lv_astore_n (lv' := [(1, .ref s.heap.size), (0, .ref b)]) hx hb dL_law_7 rfl hl (by decide) rfl (fun ls hl => ?_)
  refine lv_iconst (v := 0) hx hb dL_law_8 (by decide) ?_
  refine lv_istore_n (lv' := [(2, .int 0), (1, .ref s.heap.size), (0, .ref b)]) hx hb dL_law_9 rfl hl (by decide) rfl (fun ls hl => ?_)
  refine lv_iconst (v := 0) hx hb dL_law_10 (by decide) ?_
  refine lv_istore_n (lv' := [(3, .int 0), (2, .int 0), (1, .ref s.heap.size), (0, .ref b)]) hx hb dL_law_11 rfl hl (by decide) rfl (fun ls hl => ?_)
  refine lv_aload_n hx hb dL_law_12 rfl (lv_at hl 2 rfl) ?_
  refine z_orders hlt ⟨hx, hb, hml, hown, hts⟩ gL_law_X2_orders hW hK hE hd hbk hl.1 (Nat.le_of_ble_eq_true rfl) dL_law_13 ⟨Nat.le_of_ble_eq_true rfl, Nat.le_of_ble_eq_true rfl⟩ ⟨by show 2 ≤ 632656; omega, by show 36 ≤ 7203499; omega⟩ ?_
  refine lv_if_ne (tgt := 38) hx hb dL_law_16 (by decide) (fun h9 => absurd rfl h9) (fun _ => ?_)
  refine lv_aload_n hx hb dL_law_19 rfl (lv_at hl 2 rfl) ?_
  refine z_day hlt ⟨hx, hb, hml, hown, hts⟩ gL_law_X2_day hW hK hE hd hbk hl.1 (Nat.le_of_ble_eq_true rfl) dL_law_20 ⟨Nat.le_of_ble_eq_true rfl, Nat.le_of_ble_eq_true rfl⟩ ⟨by show 2 ≤ 632656; omega, by show 36 ≤ 7203499; omega⟩ ?_
  refine lv_if_ne (tgt := 38) hx hb dL_law_23 (by decide) (fun h9 => absurd rfl h9) (fun _ => ?_)
  refine lv_aload_n hx hb dL_law_26 rfl (lv_at hl 2 rfl) ?_
  refine lv_iconst (v := 0) hx hb dL_law_27 (by decide) ?_
  refine z_stock hlt ⟨hx, hb, hml, hown, hts⟩ gL_law_X2_stock hW hK hE hd hbk (v := (fun _ _ => (0 : Int32)) 2 0) (y_in 0 (N := 2) rfl (by decide) (by decide)) rfl hl.1 (Nat.le_of_ble_eq_true rfl) dL_law_28 ⟨Nat.le_of_ble_eq_true rfl, Nat.le_of_ble_eq_true rfl⟩ ⟨by show 2 + 1 ≤ 632656; omega, by show 36 + 6 ≤ 7203499; omega⟩ ?_
  refine lv_if_ne (tgt := 38) hx hb dL_law_31 (by decide) (fun h9 => absurd rfl h9) (fun _ => ?_)
  refine lv_iconst (v := 1) hx hb dL_law_34 (by decide) ?_
  refine lv_goto (tgt := 39) hx hb dL_law_35 (by decide) ?_
  refine lv_istore (lv' := [(4, .int 1), (3, .int 0), (2, .int 0), (1, .ref s.heap.size), (0, .ref b)]) hx hb dL_law_39 hl (by decide) rfl (fun ls hl => ?_)
  refine lv_bipush (v := 6) hx hb dL_law_41 (by decide) ?_
  refine lv_aload_n hx hb dL_law_43 rfl (lv_at hl 4 rfl) ?_
  refine lv_iconst (v := 0) hx hb dL_law_44 (by decide) ?_
  refine z_cell ⟨hx, hb, hml, hown, hts⟩ gL_law_L_cell hL (hXb.kept (hS.2.1 b hbl (fun z => absurd hbl (Nat.not_lt.mpr z)))) (k := 0) (by omega) hl.1 (Nat.le_of_ble_eq_true rfl) dL_law_45 ⟨Nat.le_of_ble_eq_true rfl, Nat.le_of_ble_eq_true rfl⟩ ⟨by show 2 + 1 ≤ 632656; omega, by show 36 + 6 ≤ 7203499; omega⟩ (fun v1 => ?_)
  refine lv_bipush (v := 55) hx hb dL_law_48 (by decide) ?_
  refine z_low ⟨hx, hb, hml, hown, hts⟩ gL_law_L_low (N := 55) (by decide) (by decide) hl.1 (Nat.le_of_ble_eq_true rfl) dL_law_50 ⟨Nat.le_of_ble_eq_true rfl, Nat.le_of_ble_eq_true rfl⟩ ⟨by show 2 + 1 ≤ 632656; omega, by show 36 + 6 ≤ 7203499; omega⟩ (fun q2 hq2 => ?_)
  refine lv_iadd hx hb dL_law_53 ?_
  refine cv (y := nI (6 + q2)) (nI_addx (a := 6) (b := q2) rfl rfl) ?_
  refine lv_istore (lv' := [(5, .int (nI (6 + q2))), (4, .int 1), (3, .int 0), (2, .int 0), (1, .ref s.heap.size), (0, .ref b)]) hx hb dL_law_54 hl (by decide) rfl (fun ls hl => ?_)
  refine lv_iconst (v := 0) hx hb dL_law_56 (by decide) ?_
  refine lv_istore (lv' := [(6, .int 0), (5, .int (nI (6 + q2))), (4, .int 1), (3, .int 0), (2, .int 0), (1, .ref s.heap.size), (0, .ref b)]) hx hb dL_law_57 hl (by decide) rfl (fun ls hl => ?_)
  exact law_loop ⟨hx, hb, hml, hown, hts, hXb, hbl, hL, hK, hlt⟩ hr hlocks (tn := 6 + q2) (by omega) (6 + q2) 0 0 (fun _ => 0) 0 0 (g0 s.heap.size bk) (fun _ _ => 0) H2 locs _ _ ls (by omega) ⟨hWd, hC, hZ, PI0⟩ hS (lv_sub hl [6, 5, 4, 3, 2, 1, 0] rfl) (by omega) (by omega)
end
section
set_option maxHeartbeats 4000000 in
theorem lw_walk (l : Launch) (hflags : l.flags = flags0) (b : Addr) (xs : List Int32) : MetFree l x (headSpec (Jvm.Cond.code x code maxLocals ret :: tables_1) room_1) (lw_P b xs) (fun _ _ _ _ _ => True) lw_Q := by
  refine MetFree.of_bodyS (code := code) (maxLocals := maxLocals) (ret := ret) (by decide) ?_ ?_
  · intro args s m h hn
    obtain ⟨meth, c, h1, h2, h3, h4, h5, h6, -, -⟩ := Cond.code_spec hn (atoms_spec (ws := Jvm.Cond.code x code maxLocals ret :: tables_1) h _ List.mem_cons_self)
    exact ⟨meth, c, h1, h2, h3, h4, h5, h6⟩
  · intro p e s m args below meth c s₁ B hml0 hP _
    obtain ⟨rfl, hx, hbd, hgv⟩ := hP
    obtain ⟨scr, harrAt, hlist, hof, hsmall⟩ := hx
    obtain ⟨hcb, hkn, -, -⟩ := State.arrayAt?_spec harrAt
    have hown : s.vm.findClass R_law = some m.cls := findClass_of_methodNamed B.named
    have hts0 : ∀ c ∈ (Jvm.Cond.code x code maxLocals ret :: tables_1), c.before #[Value.ref b] s = true := atoms_spec (ws := Jvm.Cond.code x code maxLocals ret :: tables_1) B.pre
    have hts : ∀ w ∈ lw_tbl, w.before #[Value.ref b] s = true := k2_hts_sels lw_privs (fun w hw => hts0 w (List.mem_cons_of_mem _ hw)) lw_privs_ok
    have hml : c.maxLocals = 15 := B.maxLocals_eq (hts0 _ List.mem_cons_self)
    have X₀ : Stand p l e room_1 s m #[Value.ref b] below meth c s₁ [] 0 0 := Stand.of_body B
    have hh0 : s₁.heap = s.heap := by rw [B.state]; rfl
    have hsz : scr.slots.size = xs.length := by rw [← Array.length_toList, hlist, List.length_map]
    have hval : ∀ j : Nat, j < xs.length → scr.slots[j]? = some (.int (xs.getD j 0)) := fun j hj => by
      rw [← Array.getElem?_toList, hlist]
      simp [hj]
    have hbl : b < s.heap.size := (Array.getElem?_eq_some_iff.mp hcb).1
    have hX : va_X b xs.length (fun j => xs.getD j 0) s s.heap := ⟨scr, hcb, hof, hkn, hsz, hval⟩
    have K : W p l e room_1 s m #[Value.ref b] below meth c s₁.heap [] 0 0 (lw_Z below #[Value.ref b] s) (entryFrame m ([Value.ref b] : List Value).toArray 15) := by
      rw [hh0]
      exact whole_start l hflags hbd ⟨B.exec, B.bytes, B.returns, hml, hown, hts, hX, hbl, B.notSynchronized, hgv⟩
    obtain ⟨t, a1, o, b1, b2, b3⟩ := K s₁ rfl X₀
    exact ⟨t, o, a1, b1, b2, b3⟩
theorem lw_pre_spec {args : Array Value} {s : State} (h : (Jvm.Cond.and given_1 narrow_1).before args s = true) (hr : rest_1_c.before args s = true) : ∃ (b : Addr) (xs : List Int32), lw_P b xs args s := by
  have hs := flat_of_before _ h
  have hq := flat_of_before _ hr
  have hc : (Cond.count 1).before args s = true := hs _ (by decide +kernel)
  have harr : (Cond.arrayOf (.arg 0) .int).before args s = true := hs _ (by decide +kernel)
  have hle : (Cond.le (.length (.arg 0)) (.int 260)).before args s = true := hs _ (by decide +kernel)
  have hlen : (Cond.isInt (.length (.arg 0))).before args s = true := hq _ (by decide +kernel)
  have hall : (Cond.all (.arg 0) (.isInt (.elem (.arg 0) (.index 0)))).before args s = true := hq _ (by decide +kernel)
  obtain ⟨b, xs, hb, hx⟩ := State.ints_of_pre rfl harr hlen hall
  have hsm : xs.length < 2 ^ 31 := hx.choose_spec.2.2.2
  have hev : (Term.length (.arg 0)).eval args s none [] s = some (.int xs.length.toInt32) := hx.length_eval hb
  have hv := Cond.le_ints hev (show (Term.int 260).eval args s none [] s = some (.int 260) from rfl)
  have hd : xs.length.toInt32 ≤ 260 := by
    simpa [Cond.before, Cond.holds, hv] using hle
  have hN : xs.length ≤ 260 := (Int32.ofNat_le_ofNat hsm (by decide)).mp (show Int32.ofNat xs.length ≤ Int32.ofNat 260 from hd)
  exact ⟨b, xs, Cond.one_arg hc (show args[0]? = some (.ref b) from hb), hx, hN, h⟩
theorem lw_comes (l : Launch) (hflags : l.flags = flags0) : Comes l x (Jvm.Cond.code x code maxLocals ret :: tables_1) room_1 (fun tb e args s => Calls_1 tb e args s ∧ rest_1 tb e args s ∧ Pre_1 tb e args s)
    (fun _ _ args s o t => lw_Q args s o t) := by
  intro p e ha hc hk s m args below hf hfit hheap happ hpre
  obtain ⟨b, xs, hP⟩ := lw_pre_spec hpre.2.2 hpre.2.1
  obtain ⟨k, o, h1, h2, h3, hQ⟩ := lw_walk l hflags b xs p e ha hc hk s m args below hf ((Spec.applies_iff_loose hf).mp happ).1 hP trivial
  exact ⟨k, o, h1, h2, h3, hQ⟩
theorem lw_frame {s t : State} {o : Outcome} {args : Array Value} (h : Framed s o t [] 632656 7203499) :
    Framed s o t (fieldLocs frame_1_writes args s ++ arrayLocs frame_1_arrays args s ++ staticLocs frame_1_statics s) 632656 7203499 := h
theorem lw_limb (L : Cond) (hL : ∀ (args : Array Value) (s t : State), L.after args s (.returned (some (.int 1))) t = true) :
    ArmFor flags0 classFile x code maxLocals ret World_1 tables_1 room_1 Calls_1 rest_1 Pre_1
      (fun tb e a s o t => postC L tb e a s o t ∧ Framed s o t (fieldLocs frame_1_writes a s ++ arrayLocs frame_1_arrays a s ++ staticLocs frame_1_statics s) 632656 7203499) := by
  intro l hflags _ _ p e ha hc hk s m args below hf hfit hheap happ hpre
  obtain ⟨k, o, h1, h2, h3, rfl, hF⟩ := lw_comes l hflags p e ha hc hk s m args below hf hfit hheap happ hpre
  exact ⟨k, _, h1, h2, h3, hL args s _, lw_frame hF⟩
theorem i_vc : Claimed_1_1 ∧ Claimed_1_2 := ⟨lw_limb limb_1_1 (fun args s t => by simp [limb_1_1, Cond.after, Cond.holds, Cond.value]), lw_limb limb_1_2 (fun args s t => Cond.after_iff.mpr (by
  first | (rw [show limb_1_2 = Cond.eq .result (.int 1) from rfl, Cond.eq_ints (x := 1) (y := 1) rfl rfl]; simp; done) | (simp [limb_1_2, Cond.value, Term.eval]; done)))⟩
end

/-! BODIES, ENDS AND CALLS of the class's methods. -/
theorem x_body {l : Launch} {cc : ByteArray} {D : va_G} {cI cO cL cJ : ClassId} {g : XG} {X : MS} {hz sz mc ms : Nat} {y : MethodName} {ws ws' : List Cond} {rm : Room} {maxL : Nat} {ret : Option FieldType} {Qc : Array Value → State → Outcome → State → Prop} {cond : String → Prop} {free : Addr → Prop} (hy : plainName y.cls = true) (hw : ws = Cond.code y cc maxL ret :: ws') (av : List Value) (hlen : (lg_sl av).length ≤ maxL)
    (k : ∀ (p : Program) (e : Env) (s : State) (m : MethodId) (args : Array Value) (below : List Frame) (meth : Method) (c : Code), p.tables.exec = Jvm.exec → c.code = cc → meth.sig.returnType = ret → (∀ w ∈ ws, w.before args s = true) → s.vm.findClass y.cls = some m.cls → c.maxLocals = maxL → meth.locks = false → (∀ x ∈ c.exceptionTable.toList, False) → s.heap.size = sz → xW D cO cL g X s.heap → KK D cI cO cL cJ s → xE hz s s.heap → ∀ ls : Array Slot, lv_has ls maxL (lv_args 0 av) → W p l e rm s m args below meth c s.heap [] 0 0 (vx_MQ below Qc (xT cond) args s mc ms free) (F0 m 0 ls [])) :
    vx_Met l y ws rm (xP D cI cO cL cJ g X hz sz av) Qc (xT cond) mc ms free := by
  refine vx_ofW (cc := cc) (maxL := maxL) (ret := ret) hy hw ?_
  intro p e s m args below meth c s₁ B hml htab hv
  obtain ⟨rfl, hsz, hP, hK, hE⟩ := hv
  have hl := lv_entry av (n := maxL) hlen
  rw [lg_entry_eq]
  exact k p e s m _ below meth c B.exec B.bytes B.returns (atoms_spec (ws := ws) B.pre) (findClass_of_methodNamed B.named) hml B.notSynchronized htab hsz hP hK hE _ hl
theorem x_bodyM {l : Launch} {cc : ByteArray} {D : va_G} {cI cO cL cJ : ClassId} {g : XG} {X : MS} {hz sz mc ms : Nat} {y : MethodName} {ws ws' : List Cond} {rm : Room} {maxL : Nat} {ret : Option FieldType} {Qc : Array Value → State → Outcome → State → Prop} {free : Addr → Prop} (hy : plainName y.cls = true) (hw : ws = Cond.code y cc maxL ret :: ws') (av : List Value) (hlen : (lg_sl av).length ≤ maxL)
    (k : ∀ (p : Program) (e : Env) (s : State) (m : MethodId) (args : Array Value) (below : List Frame) (meth : Method) (c : Code), p.tables.exec = Jvm.exec → c.code = cc → meth.sig.returnType = ret → (∀ w ∈ ws, w.before args s = true) → s.vm.findClass y.cls = some m.cls → c.maxLocals = maxL → meth.locks = false → s.heap.size = sz → xW D cO cL g X s.heap → KK D cI cO cL cJ s → xE hz s s.heap → ∀ ls : Array Slot, lv_has ls maxL (lv_args 0 av) → W p l e rm s m args below meth c s.heap [] 0 0 (MQ below Qc args s mc ms free) (F0 m 0 ls [])) :
    Met l y ws rm (xP D cI cO cL cJ g X hz sz av) Qc mc ms free := by
  refine Met.ofW (cc := cc) (maxL := maxL) (ret := ret) hy hw ?_
  intro p e s m args below meth c s₁ B hml hv
  obtain ⟨rfl, hsz, hP, hK, hE⟩ := hv
  have hl := lv_entry av (n := maxL) hlen
  rw [lg_entry_eq]
  exact k p e s m _ below meth c B.exec B.bytes B.returns (atoms_spec (ws := ws) B.pre) (findClass_of_methodNamed B.named) hml B.notSynchronized hsz hP hK hE _ hl
section XEnds
variable {p : Program} {l : Launch} {e : Env} {R : Room} {s : State} {m : MethodId} {args : Array Value} {below : List Frame} {meth : Method} {c : Code} {H : Heap} {locs : List Loc} {cells slots : Nat} {Q : State → Prop}
variable {cc : ByteArray} {pc : Nat} {ls : Array Slot} {rest : List Value} {D : va_G} {cI cO cL cJ : ClassId} {H0 : Heap} {A : Nat → Prop} {g : XG} {X : MS} {hz sz mc ms : Nat} {cond : String → Prop}
theorem f_aaldV (hexec : p.tables.exec = Jvm.exec) (hb : c.code = cc) (hK : KK D cI cO cL cJ s) {a : Nat} {cA : ClassId} {C : String} (t0 : Nat) (ht : (tyL cI cO cL cJ)[t0]? = some (cA, .object C)) {n : Nat} {f : Nat → Option Nat} (hat : va_at D vwCl (a, .inl (cA, n, .inr (.inr (.inr (.inr f))))) H) {x : Int32} {i : Nat} (hxi : x = nI i) (hi : i < n) (hn : n < 2 ^ 31) {v : Value} (hv : va_rf (f i) = v) (hdg : decode cc pc = .ok (.aaload, 1))
    (kk : W p l e R s m args below meth c H locs cells slots Q (F0 m (pc + 1) ls (v :: rest))) : W p l e R s m args below meth c H locs cells slots Q (F0 m pc ls (.int x :: .ref a :: rest)) := by
  subst hv
  exact f_aald hexec hb hK t0 ht hat hxi hi hn rfl hdg kk
/-- ends that read alone: an int, a truth value, a cell, nothing -/
theorem xr_ret (hexec : p.tables.exec = Jvm.exec) (hb : c.code = cc) (hr : meth.sig.returnType = some .int) (hlocks : meth.locks = false) (hm : cells ≤ mc ∧ slots ≤ ms) {post : Int32 → Prop} {v : Int32} (hp : post v) (hdg : decode cc pc = .ok (.ireturn, 1)) : W p l e R s m args below meth c s.heap [] cells slots (vx_MQ below (vp_Si post) (xT cond) args s mc ms (fun _ => False)) (F0 m pc ls [.int v]) :=
  vx_ret (W.widen hm.1 hm.2 (W.iret (v := v) hexec hb hr (fun t ht _ => ⟨v, rfl, hp, ht⟩) (fun q h => by cases h) hdg hlocks))
theorem xr_zret (hexec : p.tables.exec = Jvm.exec) (hb : c.code = cc) (hr : meth.sig.returnType = some .boolean) (hlocks : meth.locks = false) (hm : cells ≤ mc ∧ slots ≤ ms) {post : Int32 → Prop} {v : Int32} (hv : v = 0 ∨ v = 1) (hp : post v) (hdg : decode cc pc = .ok (.ireturn, 1)) : W p l e R s m args below meth c s.heap [] cells slots (vx_MQ below (vp_Si post) (xT cond) args s mc ms (fun _ => False)) (F0 m pc ls [.int v]) :=
  vx_ret (W.widen hm.1 hm.2 (W.zret (v := v) hexec hb hr (by rcases hv with rfl | rfl <;> rfl) (fun t ht _ => ⟨v, rfl, hp, ht⟩) (fun q h => by cases h) hdg hlocks))
theorem xr_aret (hexec : p.tables.exec = Jvm.exec) (hb : c.code = cc) {C : String} (hr : meth.sig.returnType = some (.object C)) (hlocks : meth.locks = false) (hm : cells ≤ mc ∧ slots ≤ ms) {post : Nat → Prop} {v : Nat} (hp : post v) (hdg : decode cc pc = .ok (.areturn, 1)) : W p l e R s m args below meth c s.heap [] cells slots (vx_MQ below (xSr post) (xT cond) args s mc ms (fun _ => False)) (F0 m pc ls [.ref v]) :=
  vx_ret (W.widen hm.1 hm.2 (W.aret (v := .ref v) hexec hb hr (Or.inl ⟨C, rfl⟩) (Or.inr ⟨v, rfl⟩) (fun t ht _ => ⟨v, rfl, hp, ht⟩) (fun q h => by cases h) hdg hlocks))
theorem xr_vret (hexec : p.tables.exec = Jvm.exec) (hb : c.code = cc) (hr : meth.sig.returnType = none) (hlocks : meth.locks = false) (hm : cells ≤ mc ∧ slots ≤ ms) {post : Prop} (hp : post) (hdg : decode cc pc = .ok (.return_, 1)) : W p l e R s m args below meth c s.heap [] cells slots (vx_MQ below (xSv post) (xT cond) args s mc ms (fun _ => False)) (F0 m pc ls []) :=
  vx_ret (W.widen hm.1 hm.2 (W.vret hexec hb hr (fun t ht _ => ⟨rfl, hp, ht⟩) (fun q h => by cases h) hdg hlocks))
/-- ends that have written -/
theorem xw_retM (hexec : p.tables.exec = Jvm.exec) (hb : c.code = cc) (hr : meth.sig.returnType = some .int) (hlocks : meth.locks = false) (hm : cells ≤ mc ∧ slots ≤ ms) (hW : xW D cO cL g X H) (hS : va_S (xA g sz) s.heap H locs) {post : Int32 → MS → Prop} {v : Int32} (hp : post v X) (hdg : decode cc pc = .ok (.ireturn, 1)) : W p l e R s m args below meth c H locs cells slots (MQ below (xQi D cO cL g sz post) args s mc ms (xA g sz)) (F0 m pc ls [.int v]) :=
  W.widen hm.1 hm.2 (W.iret (v := v) hexec hb hr (fun t ht _ => ⟨⟨v, X, rfl, hp, by show xW D cO cL g X t.heap; rw [ht]; exact hW⟩, hS.F ht⟩) hS.2.2 hdg hlocks)
theorem xw_ret (hexec : p.tables.exec = Jvm.exec) (hb : c.code = cc) (hr : meth.sig.returnType = some .int) (hlocks : meth.locks = false) (hm : cells ≤ mc ∧ slots ≤ ms) (hW : xW D cO cL g X H) (hS : va_S (xA g sz) s.heap H locs) {post : Int32 → MS → Prop} {v : Int32} (hp : post v X) (hdg : decode cc pc = .ok (.ireturn, 1)) : W p l e R s m args below meth c H locs cells slots (vx_MQ below (xQi D cO cL g sz post) (xT cond) args s mc ms (xA g sz)) (F0 m pc ls [.int v]) := vx_ret (xw_retM hexec hb hr hlocks hm hW hS hp hdg)
theorem xw_vretM (hexec : p.tables.exec = Jvm.exec) (hb : c.code = cc) (hr : meth.sig.returnType = none) (hlocks : meth.locks = false) (hm : cells ≤ mc ∧ slots ≤ ms) (hW : xW D cO cL g X H) (hS : va_S (xA g sz) s.heap H locs) {post : MS → Prop} (hp : post X) (hdg : decode cc pc = .ok (.return_, 1)) : W p l e R s m args below meth c H locs cells slots (MQ below (xQv D cO cL g sz post) args s mc ms (xA g sz)) (F0 m pc ls []) :=
  W.widen hm.1 hm.2 (W.vret hexec hb hr (fun t ht _ => ⟨⟨X, rfl, hp, by show xW D cO cL g X t.heap; rw [ht]; exact hW⟩, hS.F ht⟩) hS.2.2 hdg hlocks)
/-- what a callee asks of the caller's state -/
theorem x_preV {C : String} {b : Nat} {As : List Value} (hW : xW D cO cL g X H) (hK : KK D cI cO cL cJ s) (hE : xE hz s H) (hrecv : ∃ cell : Cell, H[b]? = some cell ∧ cell.vm.isStatics = false ∧ s.vm.findClass C = some cell.cls) : PreV s H C b (xP D cI cO cL cJ g X hz H.size (.ref b :: As)) As :=
  ⟨xP.blind, hrecv, fun U hU hWm => ⟨rfl, by rw [hU], by rw [hU]; exact hW, hK.moved hWm.alike, by rw [hU]; exact hE.warm hWm⟩⟩
theorem x_preS {As : List Value} (hW : xW D cO cL g X H) (hK : KK D cI cO cL cJ s) (hE : xE hz s H) : PreS s H (xP D cI cO cL cJ g X hz H.size As) As :=
  ⟨xP.blind, fun U hU hWm => ⟨rfl, by rw [hU], by rw [hU]; exact hW, hK.moved hWm.alike, by rw [hU]; exact hE.warm hWm⟩⟩
theorem x_recvO {a i : Nat} (hK : KK D cI cO cL cJ s) (hW : xW D cO cL g X H) (ha : g 0 i = some a) : ∃ cell : Cell, H[a]? = some cell ∧ cell.vm.isStatics = false ∧ s.vm.findClass RX1 = some cell.cls := va_recv hK (f_one (hW 0 i a ha)) (ci := 1) (q0 := 0) (q := (RX1, TX1, 12)) rfl rfl
theorem x_recvL {a i : Nat} (hK : KK D cI cO cL cJ s) (hW : xW D cO cL g X H) (ha : g 2 i = some a) : ∃ cell : Cell, H[a]? = some cell ∧ cell.vm.isStatics = false ∧ s.vm.findClass RX0 = some cell.cls := va_recv hK (f_one (hW 2 i a ha)) (ci := 0) (q0 := 0) (q := (RX0, TX0, 5)) rfl rfl
theorem x_recvD {a i : Nat} (hK : KK D cI cO cL cJ s) (hW : xW D cO cL g X H) (ha : g 3 i = some a) : ∃ cell : Cell, H[a]? = some cell ∧ cell.vm.isStatics = false ∧ s.vm.findClass RX2 = some cell.cls := va_recv hK (f_one (hW 3 i a ha)) (ci := 2) (q0 := 0) (q := (RX2, TX2, 6)) rfl rfl
/-- after a call that writes: an int or nothing; the callee's cells are mine -/
theorem x_wI {post : Int32 → MS → Prop} {st0 : List Value} {a0 : Array Value} {szA : Nat} (hr : va_Run p l e R s m args below meth c H locs cells slots mc ms (F0 m pc ls st0) rest (xQi D cO cL g H.size post a0) (xA g H.size)) (hS : va_S (xA g szA) H0 H locs) (hsz : szA ≤ H.size)
    (kk : ∀ (r : Int32) (X' : MS) (H1 : Heap) (locs1 : List Loc), post r X' → xW D cO cL g X' H1 → H.size ≤ H1.size → va_S (xA g szA) H0 H1 locs1 → W p l e R s m args below meth c H1 locs1 (cells + mc) (slots + ms) Q (F0 m (pc + 3) ls (.int r :: rest))) : W p l e R s m args below meth c H locs cells slots Q (F0 m pc ls st0) := by
  have hAA : ∀ q, xA g H.size q → xA g szA q := fun q h => h.imp id (fun h => Nat.le_trans hsz h)
  refine va_calli hr hS (fun q _ h => hAA q h) hAA (fun r u t H1 locs1 ht hvm hp hB hz1 hk hS1 => ?_)
  rw [ht] at hB
  exact kk r u H1 locs1 hp hB hz1 hS1
theorem x_wV {post : MS → Prop} {st0 : List Value} {a0 : Array Value} {szA : Nat} (hr : va_Run p l e R s m args below meth c H locs cells slots mc ms (F0 m pc ls st0) rest (xQv D cO cL g H.size post a0) (xA g H.size)) (hS : va_S (xA g szA) H0 H locs) (hsz : szA ≤ H.size)
    (kk : ∀ (X' : MS) (H1 : Heap) (locs1 : List Loc), post X' → xW D cO cL g X' H1 → H.size ≤ H1.size → va_S (xA g szA) H0 H1 locs1 → W p l e R s m args below meth c H1 locs1 (cells + mc) (slots + ms) Q (F0 m (pc + 3) ls rest)) : W p l e R s m args below meth c H locs cells slots Q (F0 m pc ls st0) := by
  have hAA : ∀ q, xA g H.size q → xA g szA q := fun q h => h.imp id (fun h => Nat.le_trans hsz h)
  refine va_callv hr hS (fun q _ h => hAA q h) hAA (fun u t H1 locs1 ht hvm hp hB hz1 hk hS1 => ?_)
  rw [ht] at hB
  exact kk u H1 locs1 hp hB hz1 hS1
/-- the same of a callee that may throw -/
theorem x_cWI {post : Int32 → MS → Prop} {st0 : List Value} {a0 : Array Value} {szA : Nat} (hr : vx_Run p l e R s m args below meth c H locs cells slots mc ms (F0 m pc ls st0) rest (xQi D cO cL g H.size post a0) (xT cond) (xA g H.size)) (hS : va_S (xA g szA) H0 H locs) (hsz : szA ≤ H.size)
    (kx : ∀ (E : String) (ce : Cell) (q9 : Nat) (H1 : Heap) (locs1 : List Loc), cond E → H.size ≤ H1.size → (∀ q, q < H.size → H1[q]? = H[q]?) → va_S (xA g szA) H0 H1 locs1 → (∀ z ∈ locs1, z ∈ locs ∨ xA g H.size z.base) → H1[q9]? = some ce → ce.vm = .none → s.vm.findClass E = some ce.cls → vx_W p l e R s m args below meth c H1 locs1 (cells + mc) (slots + ms) Q (F0 m pc ls rest) q9)
    (kk : ∀ (r : Int32) (X' : MS) (H1 : Heap) (locs1 : List Loc), post r X' → xW D cO cL g X' H1 → H.size ≤ H1.size → (∀ q : Nat, q < H.size → ¬ xA g H.size q → H1[q]? = H[q]?) → va_S (xA g szA) H0 H1 locs1 → W p l e R s m args below meth c H1 locs1 (cells + mc) (slots + ms) Q (F0 m (pc + 3) ls (.int r :: rest))) : W p l e R s m args below meth c H locs cells slots Q (F0 m pc ls st0) := by
  have hAA : ∀ q, xA g H.size q → xA g szA q := fun q h => h.imp id (fun h => Nat.le_trans hsz h)
  refine x_run hr hS hAA kx (fun v st₀ t T' L h0 e1 hq hL => ?_)
  obtain ⟨⟨r, u, hv, hp, hB⟩, hF⟩ := hq
  cases hv
  obtain ⟨k1, k2, k3⟩ := vx_keep h0 e1 hS (fun q _ h => hAA q h) hAA hL hF
  exact kk r u T'.heap (locs ++ L) hp (by rw [e1]; exact hB) k1 k2 k3
end XEnds

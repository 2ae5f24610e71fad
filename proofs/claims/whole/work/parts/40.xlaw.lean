/-! THE LAW'S CALLS OF THE CLASS, each caught: the code and the answer laid into 'out'. -/
def xNs (U : State) : Prop := va_Nc ISE IAE U ∧ va_Nc IOE IAE U ∧ va_Nc IAE ISE U ∧ va_Nc IOE ISE U ∧ va_Nc IAE IOE U ∧ va_Nc ISE IOE U
theorem xNs.moved {u U : State} (hvm : u.vm.Alike U.vm) (h : xNs u) : xNs U := ⟨h.1.moved hvm, h.2.1.moved hvm, h.2.2.1.moved hvm, h.2.2.2.1.moved hvm, h.2.2.2.2.1.moved hvm, h.2.2.2.2.2.moved hvm⟩
abbrev wU : Type := XG × MS × Int64
abbrev wout (cJ : ClassId) (ou : Nat) (w : Int64) : Nat × va_E := (ou, .inl (cJ, 1, .inr (.inl (fun _ => w))))
def wB (D : va_G) (cO cL cJ : ClassId) (ou : Nat) : wU → State → Prop := fun u t => xW D cO cL u.1 u.2.1 t.heap ∧ va_at D vwCl (wout cJ ou u.2.2) t.heap
def wA (g : XG) (sz ou : Nat) : Nat → Prop := fun q => xA g sz q ∨ q = ou
def wP (D : va_G) (cI cO cL cJ : ClassId) (g : XG) (X : MS) (hz sz ou : Nat) (w0 : Int64) (av : List Value) : Array Value → State → Prop := va_Pc av (fun U => U.heap.size = sz ∧ xW D cO cL g X U.heap ∧ KK D cI cO cL cJ U ∧ xE hz U U.heap ∧ va_at D vwCl (wout cJ ou w0) U.heap ∧ xNs U)
theorem wP.blind {D : va_G} {cI cO cL cJ : ClassId} {g : XG} {X : MS} {hz sz ou : Nat} {w0 : Int64} {av : List Value} : FrameBlind (wP D cI cO cL cJ g X hz sz ou w0 av) := fun a U f mk h => ⟨h.1, h.2.1, h.2.2.1, va_K.moved (u := U) (U := U.calling f mk a) (Vm.Alike.refl U.vm) h.2.2.2.1, xE.same (u := U) (U := U.calling f mk a) rfl h.2.2.2.2.1, h.2.2.2.2.2.1, xNs.moved (u := U) (U := U.calling f mk a) (Vm.Alike.refl U.vm) h.2.2.2.2.2.2⟩
theorem w_pre {D : va_G} {cI cO cL cJ : ClassId} {s : State} {H : Heap} {g : XG} {X : MS} {hz ou : Nat} {w0 : Int64} {As : List Value} (hW : xW D cO cL g X H) (hK : KK D cI cO cL cJ s) (hE : xE hz s H) (hw : va_at D vwCl (wout cJ ou w0) H) (hN : xNs s) : PreS s H (wP D cI cO cL cJ g X hz H.size ou w0 As) As :=
  ⟨wP.blind, fun U hU hWm => ⟨rfl, by rw [hU], by rw [hU]; exact hW, hK.moved hWm.alike, by rw [hU]; exact hE.warm hWm, by rw [hU]; exact hw, hN.moved hWm.alike⟩⟩
def cd (L : List String) (E : String) (r : Int32) : Prop := ∃ i : Nat, L[i]? = some E ∧ r = nI (i + 1)
def wPost (N : Int32 → XG × MS → Prop) (C : String → Prop) (L : List String) (g : XG) (X : MS) : Int32 → wU → Prop := fun r u => (r = 0 ∧ ∃ v : Int32, N v (u.1, u.2.1) ∧ u.2.2 = v.toInt64) ∨ ((∃ E, C E ∧ cd L E r) ∧ u.1 = g ∧ u.2.1 = X)
def wQ (D : va_G) (cO cL cJ : ClassId) (g : XG) (X : MS) (sz ou : Nat) (N : Int32 → XG × MS → Prop) (C : String → Prop) (L : List String) : Array Value → State → Outcome → State → Prop := va_Qi (wPost N C L g X) (wB D cO cL cJ ou) (wA g sz ou)
theorem one_long {D : va_G} {cJ : ClassId} {ou : Nat} {w v : Int64} {H : Heap} (h : va_at D vwCl (ou, .inl (cJ, 1, .inr (.inl (vp_updL (fun _ => w) 0 v)))) H) : va_at D vwCl (wout cJ ou v) H := by
  have h1 : H[ou]? = some (vp_cell cJ (1, .inr (.inl (vp_updL (fun _ => w) 0 v)))) := h
  have h2 : vp_cell cJ (1, .inr (.inl (vp_updL (fun _ => w) 0 v))) = vp_cell cJ (1, .inr (.inl (fun _ => v))) := by
    rw [vp_cell_l, vp_cell_l]
    unfold arrV
    congr 2
    funext j
    show Value.long (vp_updL (fun _ => w) 0 v j.val) = Value.long v
    rw [show j.val = 0 by omega, pk_uLs]
  rw [h2] at h1
  exact h1
section WRows
variable {p : Program} {l : Launch} {e : Env} {R : Room} {s : State} {m : MethodId} {args : Array Value} {below : List Frame} {meth : Method} {c : Code} {H : Heap} {locs : List Loc} {cells slots : Nat} {Q : State → Prop}
variable {cc : ByteArray} {pc : Nat} {ls : Array Slot} {rest : List Value} {D : va_G} {cI cO cL cJ : ClassId} {H0 : Heap} {A : Nat → Prop} {g g' : XG} {X X' : MS} {hz sz mc ms ou : Nat} {cond : String → Prop} {N : Int32 → XG × MS → Prop} {C : String → Prop} {L : List String} {w : Int64}
theorem wS (hS : va_S (xA g sz) H0 H locs) : va_S (wA g sz ou) H0 H locs := ⟨hS.1, fun q h1 h2 => hS.2.1 q h1 (fun z => h2 (Or.inl z)), fun z hz => Or.inl (hS.2.2 z hz)⟩
theorem w_ret (hexec : p.tables.exec = Jvm.exec) (hb : c.code = cc) (hr : meth.sig.returnType = some .int) (hlocks : meth.locks = false) (hm : cells ≤ mc ∧ slots ≤ ms) (hW : xW D cO cL g' X' H) (hw : va_at D vwCl (wout cJ ou w) H) (hS : va_S (wA g sz ou) s.heap H locs) {v : Int32} (hp : wPost N C L g X v (g', X', w)) (hdg : decode cc pc = .ok (.ireturn, 1)) : W p l e R s m args below meth c H locs cells slots (MQ below (wQ D cO cL cJ g X sz ou N C L) args s mc ms (wA g sz ou)) (F0 m pc ls [.int v]) :=
  W.widen hm.1 hm.2 (W.iret (v := v) hexec hb hr (fun t ht _ => ⟨⟨v, (g', X', w), rfl, hp, by show xW D cO cL g' X' t.heap ∧ va_at D vwCl (wout cJ ou w) t.heap; rw [ht]; exact ⟨hW, hw⟩⟩, hS.F ht⟩) hS.2.2 hdg hlocks)
/-- after a call that may make things and may throw -/
theorem x_cGI {post : Int32 → XG × MS → Prop} {st0 : List Value} {a0 : Array Value} {szA : Nat} (hr : vx_Run p l e R s m args below meth c H locs cells slots mc ms (F0 m pc ls st0) rest (xGi D cO cL g H.size post a0) (xT cond) (xA g H.size)) (hS : va_S (xA g szA) H0 H locs) (hsz : szA ≤ H.size)
    (kx : ∀ (E : String) (ce : Cell) (q9 : Nat) (H1 : Heap) (locs1 : List Loc), cond E → H.size ≤ H1.size → (∀ q, q < H.size → H1[q]? = H[q]?) → va_S (xA g szA) H0 H1 locs1 → (∀ z ∈ locs1, z ∈ locs ∨ xA g H.size z.base) → H1[q9]? = some ce → ce.vm = .none → s.vm.findClass E = some ce.cls → vx_W p l e R s m args below meth c H1 locs1 (cells + mc) (slots + ms) Q (F0 m pc ls rest) q9)
    (kk : ∀ (r : Int32) (u : XG × MS) (H1 : Heap) (locs1 : List Loc), post r u → xW D cO cL u.1 u.2 H1 → H.size ≤ H1.size → (∀ q : Nat, q < H.size → ¬ xA g H.size q → H1[q]? = H[q]?) → va_S (xA g szA) H0 H1 locs1 → W p l e R s m args below meth c H1 locs1 (cells + mc) (slots + ms) Q (F0 m (pc + 3) ls (.int r :: rest))) : W p l e R s m args below meth c H locs cells slots Q (F0 m pc ls st0) := by
  have hAA : ∀ q, xA g H.size q → xA g szA q := fun q h => h.imp id (fun h => Nat.le_trans hsz h)
  refine x_run hr hS hAA kx (fun v st₀ t T' L h0 e1 hq hL => ?_)
  obtain ⟨⟨r, u, hv, hp, hB⟩, hF⟩ := hq
  cases hv
  obtain ⟨k1, k2, k3⟩ := vx_keep h0 e1 hS (fun q _ h => hAA q h) hAA hL hF
  exact kk r u T'.heap (locs ++ L) hp (by rw [e1]; exact hB) k1 k2 k3
theorem cast_of (hE : xE hz s H) {E : String} (h : Cond.castable E E ∈ xNon) : (Cond.castable E E).before args s = true := va_Nw.use (xNon_tab _ h) (hE.2.2.1 _ h)
end WRows

def cN_order (g : XG) (X : MS) (n : Nat) (kc : Nat → Nat) (sz : Nat) (p0 p1 p2 : Int32) : Int32 → XG × MS → Prop := fun r u => ∃ q la, sz ≤ q ∧ sz ≤ la ∧ q ≠ la ∧ u.1 = gOrd g n q la ∧ u.2 = mu (xNewO X n p0 p1) 0 0 (nI (n + 1)) ∧ r = nI n ∧ n < 30 ∧ inR p0 0 90 ∧ inR p1 0 1000000
def cC_order (X : MS) (n : Nat) (kc : Nat → Nat) (p0 p1 p2 : Int32) : String → Prop := fun E => (E = IAE ∧ (¬ inR p0 0 90 ∨ ¬ inR p1 0 1000000)) ∨ (E = ISE ∧ inR p0 0 90 ∧ inR p1 0 1000000 ∧ ¬ n < 30)
abbrev cL_orders : List String := [IAE, ISE]
set_option maxHeartbeats 4000000 in
set_option maxRecDepth 100000 in
theorem kL_order (l : Launch) (hlt : l.stackTraces = false) {D : va_G} {cI cO cL cJ : ClassId} (g : XG) (X : MS) (hz sz : Nat) (hI : xI g) (hO : xO g hz sz) (ou : Nat) (hou : ∀ t i, g t i ≠ some ou) (houz : ou < sz) (w0 : Int64) (d bk : Nat) (hd : g 3 0 = some d) (hbk : g 4 0 = some bk) (n : Nat) (kc : Nat → Nat) (hC : xC g X n kc) (hZ : xZ g n) (p0 p1 : Int32) : Met l yL_order wsL_order ({ frames := 8, cells := 4, slots := 32, locals := 126 } : Room) (wP D cI cO cL cJ g X hz sz ou w0 [.ref d, .int p0, .int p1, .ref ou]) (wQ D cO cL cJ g X sz ou (cN_order g X n kc sz p0 p1 0) (cC_order X n kc p0 p1 0) cL_orders) 4 32 (wA g sz ou) := by
  refine va_MetW (cc := cL_order) (maxL := 5) (ret := some .int) (hh := [(0, 10, 13, 13), (0, 10, 17, 15)]) (by decide) rfl ?_
  intro p e s m args below meth c s₁ B hml hv
  obtain ⟨rfl, hsz, hW, hK, hE, hw, hN⟩ := hv
  subst hsz
  have hx := B.exec
  have hb := B.bytes
  have hr := B.returns
  have hts := atoms_spec (ws := wsL_order) B.pre
  have hown : s.vm.findClass RL = some m.cls := findClass_of_methodNamed B.named
  have hlocks := B.notSynchronized
  have htab := vx_table (x := yL_order) B (hts (.codeWith yL_order cL_order 5 (some .int) [(0, 10, 13, 13), (0, 10, 17, 15)]) (List.mem_of_getElem? (i := 0) rfl))
  have hl := lv_entry ([.ref d, .int p0, .int p1, .ref ou] : List Value) (n := 5) (Nat.le_of_ble_eq_true rfl)
  rw [lg_entry_eq]
  generalize (lg_sl ([.ref d, .int p0, .int p1, .ref ou] : List Value) ++ List.replicate (5 - (lg_sl ([.ref d, .int p0, .int p1, .ref ou] : List Value)).length) Slot.unset).toArray = ls at hl ⊢
  have hl : lv_has ls 5 [(0, .ref d), (1, .int p0), (2, .int p1), (3, .ref ou)] := hl
  have hS : va_S (xA g s.heap.size) s.heap s.heap [] := va_S.rf
  have hoA : ¬ xA g s.heap.size ou := fun h => h.elim (fun ⟨t, i, h⟩ => hou t i h) (fun h => absurd houz (Nat.not_lt.mpr h))
  refine lv_aload_n hx hb dL_order_0 rfl (lv_at hl 3 rfl) ?_
  refine lv_iconst (v := 0) hx hb dL_order_1 (by decide) ?_
  refine lv_aload_n hx hb dL_order_2 rfl (lv_at hl 0 rfl) ?_
  refine lv_iload_n hx hb dL_order_3 rfl (lv_at hl 1 rfl) ?_
  refine lv_iload_n hx hb dL_order_4 rfl (lv_at hl 2 rfl) ?_
  refine x_cGI (vx_runV (As := [.int p0, .int p1]) (rest := [.int 0, .ref ou]) (b := d) ⟨hx, hb, hml, hown, hts⟩ (kX2_order l hlt g X hz _ hI hO d bk hd hbk n kc hC hZ p0 p1) (cwV 2 hts gL_order_X2_order rfl rfl rfl (by decide +kernel) ⟨Nat.le_of_ble_eq_true rfl, Nat.le_of_ble_eq_true rfl⟩) (x_preV hW hK hE (x_recvD hK hW hd)) rfl rfl hl.1 rfl (lv_room (Nat.le_of_ble_eq_true rfl)) dL_order_5 ⟨Nat.le_of_ble_eq_true rfl, Nat.le_of_ble_eq_true rfl⟩) hS (Nat.le_refl _) (fun E ce q9 H1 locs1 hc hz1 hk1 hS1 hL1 hce hcv hcl => ?_) (fun r u H2 locs2 hp hW2 hz2 hk2 hS2 => ?_)
  · skip
    have k0 : E = IAE → vx_W p l e (headSpec wsL_order ({ frames := 8, cells := 4, slots := 32, locals := 126 } : Room)).room s m ([.ref d, .int p0, .int p1, .ref ou] : List Value).toArray below meth c H1 locs1 (0 + 4) (0 + 32) (MQ below (wQ D cO cL cJ g X s.heap.size ou (cN_order g X n kc s.heap.size p0 p1 0) (cC_order X n kc p0 p1 0) cL_orders) ([.ref d, .int p0, .int p1, .ref ou] : List Value).toArray s 4 32 (wA g s.heap.size ou)) (F0 m 5 ls [.int 0, .ref ou]) q9 := fun hEe => by
      subst hEe
      exact vx_catch (own := RL) (name := IAE) hown [] ⟨0, 10, 13, 13⟩ [⟨0, 10, 17, 15⟩] htab (fun _ h => nomatch h) rfl (by decide) (hts (.classLink RL 13 "java/lang/IllegalArgumentException") (List.mem_of_getElem? (i := 1) rfl)) (cast_of hE (List.mem_of_getElem? (i := 1) rfl)) hce hcv hcl
        (lv_astore (lv' := [(4, .ref q9), (0, .ref d), (1, .int p0), (2, .int p1), (3, .ref ou)]) hx hb dL_order_13 hl (by decide) rfl (fun ls hl => lv_iconst (v := 1) hx hb dL_order_15 (by decide) (w_ret hx hb hr hlocks ⟨Nat.le_of_ble_eq_true rfl, Nat.le_of_ble_eq_true rfl⟩ (hW.more hk1) (hw.kept (hk1 ou houz)) (wS hS1) (Or.inr ⟨⟨IAE, hc, 0, rfl, rfl⟩, rfl, rfl⟩) dL_order_16)))
    have k1 : E = ISE → vx_W p l e (headSpec wsL_order ({ frames := 8, cells := 4, slots := 32, locals := 126 } : Room)).room s m ([.ref d, .int p0, .int p1, .ref ou] : List Value).toArray below meth c H1 locs1 (0 + 4) (0 + 32) (MQ below (wQ D cO cL cJ g X s.heap.size ou (cN_order g X n kc s.heap.size p0 p1 0) (cC_order X n kc p0 p1 0) cL_orders) ([.ref d, .int p0, .int p1, .ref ou] : List Value).toArray s 4 32 (wA g s.heap.size ou)) (F0 m 5 ls [.int 0, .ref ou]) q9 := fun hEe => by
      subst hEe
      exact vx_catch (own := RL) (name := ISE) hown [⟨0, 10, 13, 13⟩] ⟨0, 10, 17, 15⟩ [] htab (List.forall_mem_cons.mpr ⟨Or.inr ⟨by decide, IAE, (hts (.classLink RL 13 "java/lang/IllegalArgumentException") (List.mem_of_getElem? (i := 1) rfl)), hN.1⟩, (fun _ h => nomatch h)⟩) rfl (by decide) (hts (.classLink RL 15 "java/lang/IllegalStateException") (List.mem_of_getElem? (i := 2) rfl)) (cast_of hE (List.mem_of_getElem? (i := 0) rfl)) hce hcv hcl
        (lv_astore (lv' := [(4, .ref q9), (0, .ref d), (1, .int p0), (2, .int p1), (3, .ref ou)]) hx hb dL_order_17 hl (by decide) rfl (fun ls hl => lv_iconst (v := 2) hx hb dL_order_19 (by decide) (w_ret hx hb hr hlocks ⟨Nat.le_of_ble_eq_true rfl, Nat.le_of_ble_eq_true rfl⟩ (hW.more hk1) (hw.kept (hk1 ou houz)) (wS hS1) (Or.inr ⟨⟨ISE, hc, 1, rfl, rfl⟩, rfl, rfl⟩) dL_order_20)))
    exact (hc.elim (fun h => k0 h.1) (fun h => (k1 h.1)))
  · skip
    have hou2 : ∀ t i, u.1 t i ≠ some ou := by
      obtain ⟨q, la, h1, h2, -, h3, -⟩ := hp
      intro t i h
      rw [h3] at h
      rcases gOrd_key h with ⟨_, _, h⟩ | ⟨_, _, h⟩ | ⟨h, _⟩
      · omega
      · omega
      · exact hou t i h
    refine lv_i2l hx hb dL_order_8 rfl ?_
    refine f_last hx hb hK (hw.kept (hk2 ou houz hoA)) (wS hS2) (Or.inr rfl) (i := 0) rfl (by decide) (by decide) dL_order_9 (fun H3 locs3 hl3 hz3 ho hS3 => ?_)
    refine lv_goto (tgt := 21) hx hb dL_order_10 (by decide) ?_
    refine lv_iconst (v := 0) hx hb dL_order_21 (by decide) ?_
    exact w_ret hx hb hr hlocks ⟨Nat.le_of_ble_eq_true rfl, Nat.le_of_ble_eq_true rfl⟩ (hW2.kept (fun t i a ha => ho a (fun e => hou2 t i (by rw [← e]; exact ha)))) (one_long hl3) hS3 (Or.inl ⟨rfl, _, hp, rfl⟩) dL_order_22
def cN_add (g : XG) (X : MS) (n : Nat) (kc : Nat → Nat) (sz : Nat) (p0 p1 p2 : Int32) : Int32 → XG × MS → Prop := fun r u => ∃ k al, k < n ∧ p0 = nI k ∧ inR p1 1 100000 ∧ inR p2 0 2 ∧ X 8 k = 0 ∧ kc k < 8 ∧ sz ≤ al ∧ u.1 = gMov (gLine g 300 al) (8 * k + kc k) al ∧ u.2 = mu (xMov (xNewL X 300 p1 p2) (8 * k + kc k)) 7 k (nI (kc k + 1)) ∧ r = nI (kc k)
def cC_add (X : MS) (n : Nat) (kc : Nat → Nat) (p0 p1 p2 : Int32) : String → Prop := fun E => noO n p0 E ∨ (E = IAE ∧ ∃ k, k < n ∧ p0 = nI k ∧ (¬ inR p1 1 100000 ∨ ¬ inR p2 0 2)) ∨ (E = ISE ∧ ∃ k, k < n ∧ p0 = nI k ∧ inR p1 1 100000 ∧ inR p2 0 2 ∧ (¬ X 8 k = 0 ∨ ¬ kc k < 8))
abbrev cL_adds : List String := [IOE, IAE, ISE]
set_option maxHeartbeats 4000000 in
set_option maxRecDepth 100000 in
theorem kL_add (l : Launch) (hlt : l.stackTraces = false) {D : va_G} {cI cO cL cJ : ClassId} (g : XG) (X : MS) (hz sz : Nat) (hI : xI g) (hO : xO g hz sz) (ou : Nat) (hou : ∀ t i, g t i ≠ some ou) (houz : ou < sz) (w0 : Int64) (d bk : Nat) (hd : g 3 0 = some d) (hbk : g 4 0 = some bk) (n : Nat) (kc : Nat → Nat) (hC : xC g X n kc) (hZ : xZ g n) (p0 p1 p2 : Int32) : Met l yL_add wsL_add ({ frames := 8, cells := 4, slots := 24, locals := 128 } : Room) (wP D cI cO cL cJ g X hz sz ou w0 [.ref d, .int p0, .int p1, .int p2, .ref ou]) (wQ D cO cL cJ g X sz ou (cN_add g X n kc sz p0 p1 p2) (cC_add X n kc p0 p1 p2) cL_adds) 4 24 (wA g sz ou) := by
  refine va_MetW (cc := cL_add) (maxL := 6) (ret := some .int) (hh := [(0, 12, 15, 21), (0, 12, 19, 13), (0, 12, 23, 15)]) (by decide) rfl ?_
  intro p e s m args below meth c s₁ B hml hv
  obtain ⟨rfl, hsz, hW, hK, hE, hw, hN⟩ := hv
  subst hsz
  have hx := B.exec
  have hb := B.bytes
  have hr := B.returns
  have hts := atoms_spec (ws := wsL_add) B.pre
  have hown : s.vm.findClass RL = some m.cls := findClass_of_methodNamed B.named
  have hlocks := B.notSynchronized
  have htab := vx_table (x := yL_add) B (hts (.codeWith yL_add cL_add 6 (some .int) [(0, 12, 15, 21), (0, 12, 19, 13), (0, 12, 23, 15)]) (List.mem_of_getElem? (i := 0) rfl))
  have hl := lv_entry ([.ref d, .int p0, .int p1, .int p2, .ref ou] : List Value) (n := 6) (Nat.le_of_ble_eq_true rfl)
  rw [lg_entry_eq]
  generalize (lg_sl ([.ref d, .int p0, .int p1, .int p2, .ref ou] : List Value) ++ List.replicate (6 - (lg_sl ([.ref d, .int p0, .int p1, .int p2, .ref ou] : List Value)).length) Slot.unset).toArray = ls at hl ⊢
  have hl : lv_has ls 6 [(0, .ref d), (1, .int p0), (2, .int p1), (3, .int p2), (4, .ref ou)] := hl
  have hS : va_S (xA g s.heap.size) s.heap s.heap [] := va_S.rf
  have hoA : ¬ xA g s.heap.size ou := fun h => h.elim (fun ⟨t, i, h⟩ => hou t i h) (fun h => absurd houz (Nat.not_lt.mpr h))
  refine lv_aload hx hb dL_add_0 (lv_at hl 4 rfl) ?_
  refine lv_iconst (v := 0) hx hb dL_add_2 (by decide) ?_
  refine lv_aload_n hx hb dL_add_3 rfl (lv_at hl 0 rfl) ?_
  refine lv_iload_n hx hb dL_add_4 rfl (lv_at hl 1 rfl) ?_
  refine lv_iload_n hx hb dL_add_5 rfl (lv_at hl 2 rfl) ?_
  refine lv_iload_n hx hb dL_add_6 rfl (lv_at hl 3 rfl) ?_
  refine x_cGI (vx_runV (As := [.int p0, .int p1, .int p2]) (rest := [.int 0, .ref ou]) (b := d) ⟨hx, hb, hml, hown, hts⟩ (kX2_add l hlt g X hz _ hI hO d bk hd hbk n kc hC hZ p0 p1 p2) (cwV 3 hts gL_add_X2_add rfl rfl rfl (by decide +kernel) ⟨Nat.le_of_ble_eq_true rfl, Nat.le_of_ble_eq_true rfl⟩) (x_preV hW hK hE (x_recvD hK hW hd)) rfl rfl hl.1 rfl (lv_room (Nat.le_of_ble_eq_true rfl)) dL_add_7 ⟨Nat.le_of_ble_eq_true rfl, Nat.le_of_ble_eq_true rfl⟩) hS (Nat.le_refl _) (fun E ce q9 H1 locs1 hc hz1 hk1 hS1 hL1 hce hcv hcl => ?_) (fun r u H2 locs2 hp hW2 hz2 hk2 hS2 => ?_)
  · skip
    have k0 : E = IOE → vx_W p l e (headSpec wsL_add ({ frames := 8, cells := 4, slots := 24, locals := 128 } : Room)).room s m ([.ref d, .int p0, .int p1, .int p2, .ref ou] : List Value).toArray below meth c H1 locs1 (0 + 4) (0 + 24) (MQ below (wQ D cO cL cJ g X s.heap.size ou (cN_add g X n kc s.heap.size p0 p1 p2) (cC_add X n kc p0 p1 p2) cL_adds) ([.ref d, .int p0, .int p1, .int p2, .ref ou] : List Value).toArray s 4 24 (wA g s.heap.size ou)) (F0 m 7 ls [.int 0, .ref ou]) q9 := fun hEe => by
      subst hEe
      exact vx_catch (own := RL) (name := IOE) hown [] ⟨0, 12, 15, 21⟩ [⟨0, 12, 19, 13⟩, ⟨0, 12, 23, 15⟩] htab (fun _ h => nomatch h) rfl (by decide) (hts (.classLink RL 21 "java/lang/IndexOutOfBoundsException") (List.mem_of_getElem? (i := 1) rfl)) (cast_of hE (List.mem_of_getElem? (i := 2) rfl)) hce hcv hcl
        (lv_astore (lv' := [(5, .ref q9), (0, .ref d), (1, .int p0), (2, .int p1), (3, .int p2), (4, .ref ou)]) hx hb dL_add_15 hl (by decide) rfl (fun ls hl => lv_iconst (v := 1) hx hb dL_add_17 (by decide) (w_ret hx hb hr hlocks ⟨Nat.le_of_ble_eq_true rfl, Nat.le_of_ble_eq_true rfl⟩ (hW.more hk1) (hw.kept (hk1 ou houz)) (wS hS1) (Or.inr ⟨⟨IOE, hc, 0, rfl, rfl⟩, rfl, rfl⟩) dL_add_18)))
    have k1 : E = IAE → vx_W p l e (headSpec wsL_add ({ frames := 8, cells := 4, slots := 24, locals := 128 } : Room)).room s m ([.ref d, .int p0, .int p1, .int p2, .ref ou] : List Value).toArray below meth c H1 locs1 (0 + 4) (0 + 24) (MQ below (wQ D cO cL cJ g X s.heap.size ou (cN_add g X n kc s.heap.size p0 p1 p2) (cC_add X n kc p0 p1 p2) cL_adds) ([.ref d, .int p0, .int p1, .int p2, .ref ou] : List Value).toArray s 4 24 (wA g s.heap.size ou)) (F0 m 7 ls [.int 0, .ref ou]) q9 := fun hEe => by
      subst hEe
      exact vx_catch (own := RL) (name := IAE) hown [⟨0, 12, 15, 21⟩] ⟨0, 12, 19, 13⟩ [⟨0, 12, 23, 15⟩] htab (List.forall_mem_cons.mpr ⟨Or.inr ⟨by decide, IOE, (hts (.classLink RL 21 "java/lang/IndexOutOfBoundsException") (List.mem_of_getElem? (i := 1) rfl)), hN.2.2.2.2.1⟩, (fun _ h => nomatch h)⟩) rfl (by decide) (hts (.classLink RL 13 "java/lang/IllegalArgumentException") (List.mem_of_getElem? (i := 2) rfl)) (cast_of hE (List.mem_of_getElem? (i := 1) rfl)) hce hcv hcl
        (lv_astore (lv' := [(5, .ref q9), (0, .ref d), (1, .int p0), (2, .int p1), (3, .int p2), (4, .ref ou)]) hx hb dL_add_19 hl (by decide) rfl (fun ls hl => lv_iconst (v := 2) hx hb dL_add_21 (by decide) (w_ret hx hb hr hlocks ⟨Nat.le_of_ble_eq_true rfl, Nat.le_of_ble_eq_true rfl⟩ (hW.more hk1) (hw.kept (hk1 ou houz)) (wS hS1) (Or.inr ⟨⟨IAE, hc, 1, rfl, rfl⟩, rfl, rfl⟩) dL_add_22)))
    have k2 : E = ISE → vx_W p l e (headSpec wsL_add ({ frames := 8, cells := 4, slots := 24, locals := 128 } : Room)).room s m ([.ref d, .int p0, .int p1, .int p2, .ref ou] : List Value).toArray below meth c H1 locs1 (0 + 4) (0 + 24) (MQ below (wQ D cO cL cJ g X s.heap.size ou (cN_add g X n kc s.heap.size p0 p1 p2) (cC_add X n kc p0 p1 p2) cL_adds) ([.ref d, .int p0, .int p1, .int p2, .ref ou] : List Value).toArray s 4 24 (wA g s.heap.size ou)) (F0 m 7 ls [.int 0, .ref ou]) q9 := fun hEe => by
      subst hEe
      exact vx_catch (own := RL) (name := ISE) hown [⟨0, 12, 15, 21⟩, ⟨0, 12, 19, 13⟩] ⟨0, 12, 23, 15⟩ [] htab (List.forall_mem_cons.mpr ⟨Or.inr ⟨by decide, IOE, (hts (.classLink RL 21 "java/lang/IndexOutOfBoundsException") (List.mem_of_getElem? (i := 1) rfl)), hN.2.2.2.2.2⟩, (List.forall_mem_cons.mpr ⟨Or.inr ⟨by decide, IAE, (hts (.classLink RL 13 "java/lang/IllegalArgumentException") (List.mem_of_getElem? (i := 2) rfl)), hN.1⟩, (fun _ h => nomatch h)⟩)⟩) rfl (by decide) (hts (.classLink RL 15 "java/lang/IllegalStateException") (List.mem_of_getElem? (i := 3) rfl)) (cast_of hE (List.mem_of_getElem? (i := 0) rfl)) hce hcv hcl
        (lv_astore (lv' := [(5, .ref q9), (0, .ref d), (1, .int p0), (2, .int p1), (3, .int p2), (4, .ref ou)]) hx hb dL_add_23 hl (by decide) rfl (fun ls hl => lv_iconst (v := 3) hx hb dL_add_25 (by decide) (w_ret hx hb hr hlocks ⟨Nat.le_of_ble_eq_true rfl, Nat.le_of_ble_eq_true rfl⟩ (hW.more hk1) (hw.kept (hk1 ou houz)) (wS hS1) (Or.inr ⟨⟨ISE, hc, 2, rfl, rfl⟩, rfl, rfl⟩) dL_add_26)))
    exact (hc.elim (fun h => k0 h.1) (fun h => (h.elim (fun h => k1 h.1) (fun h => (k2 h.1)))))
  · skip
    have hou2 : ∀ t i, u.1 t i ≠ some ou := by
      obtain ⟨k, al, -, -, -, -, -, -, h1, h3, -⟩ := hp
      intro t i h
      rw [h3] at h
      rcases gMov_key h with ⟨_, _, h⟩ | ⟨h, _⟩
      · omega
      · rcases gLine_key h with ⟨_, _, h⟩ | ⟨h, _⟩
        · omega
        · exact hou t i h
    refine lv_i2l hx hb dL_add_10 rfl ?_
    refine f_last hx hb hK (hw.kept (hk2 ou houz hoA)) (wS hS2) (Or.inr rfl) (i := 0) rfl (by decide) (by decide) dL_add_11 (fun H3 locs3 hl3 hz3 ho hS3 => ?_)
    refine lv_goto (tgt := 27) hx hb dL_add_12 (by decide) ?_
    refine lv_iconst (v := 0) hx hb dL_add_27 (by decide) ?_
    exact w_ret hx hb hr hlocks ⟨Nat.le_of_ble_eq_true rfl, Nat.le_of_ble_eq_true rfl⟩ (hW2.kept (fun t i a ha => ho a (fun e => hou2 t i (by rw [← e]; exact ha)))) (one_long hl3) hS3 (Or.inl ⟨rfl, _, hp, rfl⟩) dL_add_28
def cN_pay (g : XG) (X : MS) (n : Nat) (kc : Nat → Nat) (sz : Nat) (p0 p1 p2 : Int32) : Int32 → XG × MS → Prop := fun r u => (∃ k, k < n ∧ p0 = nI k ∧ inR p1 0 1000000 ∧ inR p2 0 1000000 ∧ X 8 k = 0 ∧ ¬ X 7 k = 0 ∧ u.2 = settleX X k (kc k) p1 p2 (X 1 0) ∧ r = u.2 13 k) ∧ u.1 = g
def cC_pay (X : MS) (n : Nat) (kc : Nat → Nat) (p0 p1 p2 : Int32) : String → Prop := fun E => noO n p0 E ∨ (E = IAE ∧ ∃ k, k < n ∧ p0 = nI k ∧ (¬ inR p1 0 1000000 ∨ ¬ inR p2 0 1000000)) ∨ (E = ISE ∧ ∃ k, k < n ∧ p0 = nI k ∧ inR p1 0 1000000 ∧ inR p2 0 1000000 ∧ (¬ X 8 k = 0 ∨ X 7 k = 0))
abbrev cL_pays : List String := [IOE, IAE, ISE]
set_option maxHeartbeats 4000000 in
set_option maxRecDepth 100000 in
theorem kL_pay (l : Launch) (hlt : l.stackTraces = false) {D : va_G} {cI cO cL cJ : ClassId} (g : XG) (X : MS) (hz sz : Nat) (hI : xI g) (hO : xO g hz sz) (ou : Nat) (hou : ∀ t i, g t i ≠ some ou) (houz : ou < sz) (w0 : Int64) (d bk : Nat) (hd : g 3 0 = some d) (hbk : g 4 0 = some bk) (n : Nat) (kc : Nat → Nat) (hC : xC g X n kc) (hZ : xZ g n) (p0 p1 p2 : Int32) : Met l yL_pay wsL_pay ({ frames := 8, cells := 4, slots := 24, locals := 128 } : Room) (wP D cI cO cL cJ g X hz sz ou w0 [.ref d, .int p0, .int p1, .int p2, .ref ou]) (wQ D cO cL cJ g X sz ou (cN_pay g X n kc sz p0 p1 p2) (cC_pay X n kc p0 p1 p2) cL_pays) 4 24 (wA g sz ou) := by
  refine va_MetW (cc := cL_pay) (maxL := 6) (ret := some .int) (hh := [(0, 12, 15, 21), (0, 12, 19, 13), (0, 12, 23, 15)]) (by decide) rfl ?_
  intro p e s m args below meth c s₁ B hml hv
  obtain ⟨rfl, hsz, hW, hK, hE, hw, hN⟩ := hv
  subst hsz
  have hx := B.exec
  have hb := B.bytes
  have hr := B.returns
  have hts := atoms_spec (ws := wsL_pay) B.pre
  have hown : s.vm.findClass RL = some m.cls := findClass_of_methodNamed B.named
  have hlocks := B.notSynchronized
  have htab := vx_table (x := yL_pay) B (hts (.codeWith yL_pay cL_pay 6 (some .int) [(0, 12, 15, 21), (0, 12, 19, 13), (0, 12, 23, 15)]) (List.mem_of_getElem? (i := 0) rfl))
  have hl := lv_entry ([.ref d, .int p0, .int p1, .int p2, .ref ou] : List Value) (n := 6) (Nat.le_of_ble_eq_true rfl)
  rw [lg_entry_eq]
  generalize (lg_sl ([.ref d, .int p0, .int p1, .int p2, .ref ou] : List Value) ++ List.replicate (6 - (lg_sl ([.ref d, .int p0, .int p1, .int p2, .ref ou] : List Value)).length) Slot.unset).toArray = ls at hl ⊢
  have hl : lv_has ls 6 [(0, .ref d), (1, .int p0), (2, .int p1), (3, .int p2), (4, .ref ou)] := hl
  have hS : va_S (xA g s.heap.size) s.heap s.heap [] := va_S.rf
  have hoA : ¬ xA g s.heap.size ou := fun h => h.elim (fun ⟨t, i, h⟩ => hou t i h) (fun h => absurd houz (Nat.not_lt.mpr h))
  refine lv_aload hx hb dL_pay_0 (lv_at hl 4 rfl) ?_
  refine lv_iconst (v := 0) hx hb dL_pay_2 (by decide) ?_
  refine lv_aload_n hx hb dL_pay_3 rfl (lv_at hl 0 rfl) ?_
  refine lv_iload_n hx hb dL_pay_4 rfl (lv_at hl 1 rfl) ?_
  refine lv_iload_n hx hb dL_pay_5 rfl (lv_at hl 2 rfl) ?_
  refine lv_iload_n hx hb dL_pay_6 rfl (lv_at hl 3 rfl) ?_
  refine x_cWI (vx_runV (As := [.int p0, .int p1, .int p2]) (rest := [.int 0, .ref ou]) (b := d) ⟨hx, hb, hml, hown, hts⟩ (kX2_pay l hlt g X hz _ hI hO d bk hd hbk n kc hC p0 p1 p2) (cwV 3 hts gL_pay_X2_pay rfl rfl rfl (by decide +kernel) ⟨Nat.le_of_ble_eq_true rfl, Nat.le_of_ble_eq_true rfl⟩) (x_preV hW hK hE (x_recvD hK hW hd)) rfl rfl hl.1 rfl (lv_room (Nat.le_of_ble_eq_true rfl)) dL_pay_7 ⟨Nat.le_of_ble_eq_true rfl, Nat.le_of_ble_eq_true rfl⟩) hS (Nat.le_refl _) (fun E ce q9 H1 locs1 hc hz1 hk1 hS1 hL1 hce hcv hcl => ?_) (fun r X9 H2 locs2 hp hW2 hz2 hk2 hS2 => ?_)
  · skip
    have k0 : E = IOE → vx_W p l e (headSpec wsL_pay ({ frames := 8, cells := 4, slots := 24, locals := 128 } : Room)).room s m ([.ref d, .int p0, .int p1, .int p2, .ref ou] : List Value).toArray below meth c H1 locs1 (0 + 4) (0 + 24) (MQ below (wQ D cO cL cJ g X s.heap.size ou (cN_pay g X n kc s.heap.size p0 p1 p2) (cC_pay X n kc p0 p1 p2) cL_pays) ([.ref d, .int p0, .int p1, .int p2, .ref ou] : List Value).toArray s 4 24 (wA g s.heap.size ou)) (F0 m 7 ls [.int 0, .ref ou]) q9 := fun hEe => by
      subst hEe
      exact vx_catch (own := RL) (name := IOE) hown [] ⟨0, 12, 15, 21⟩ [⟨0, 12, 19, 13⟩, ⟨0, 12, 23, 15⟩] htab (fun _ h => nomatch h) rfl (by decide) (hts (.classLink RL 21 "java/lang/IndexOutOfBoundsException") (List.mem_of_getElem? (i := 1) rfl)) (cast_of hE (List.mem_of_getElem? (i := 2) rfl)) hce hcv hcl
        (lv_astore (lv' := [(5, .ref q9), (0, .ref d), (1, .int p0), (2, .int p1), (3, .int p2), (4, .ref ou)]) hx hb dL_pay_15 hl (by decide) rfl (fun ls hl => lv_iconst (v := 1) hx hb dL_pay_17 (by decide) (w_ret hx hb hr hlocks ⟨Nat.le_of_ble_eq_true rfl, Nat.le_of_ble_eq_true rfl⟩ (hW.more hk1) (hw.kept (hk1 ou houz)) (wS hS1) (Or.inr ⟨⟨IOE, hc, 0, rfl, rfl⟩, rfl, rfl⟩) dL_pay_18)))
    have k1 : E = IAE → vx_W p l e (headSpec wsL_pay ({ frames := 8, cells := 4, slots := 24, locals := 128 } : Room)).room s m ([.ref d, .int p0, .int p1, .int p2, .ref ou] : List Value).toArray below meth c H1 locs1 (0 + 4) (0 + 24) (MQ below (wQ D cO cL cJ g X s.heap.size ou (cN_pay g X n kc s.heap.size p0 p1 p2) (cC_pay X n kc p0 p1 p2) cL_pays) ([.ref d, .int p0, .int p1, .int p2, .ref ou] : List Value).toArray s 4 24 (wA g s.heap.size ou)) (F0 m 7 ls [.int 0, .ref ou]) q9 := fun hEe => by
      subst hEe
      exact vx_catch (own := RL) (name := IAE) hown [⟨0, 12, 15, 21⟩] ⟨0, 12, 19, 13⟩ [⟨0, 12, 23, 15⟩] htab (List.forall_mem_cons.mpr ⟨Or.inr ⟨by decide, IOE, (hts (.classLink RL 21 "java/lang/IndexOutOfBoundsException") (List.mem_of_getElem? (i := 1) rfl)), hN.2.2.2.2.1⟩, (fun _ h => nomatch h)⟩) rfl (by decide) (hts (.classLink RL 13 "java/lang/IllegalArgumentException") (List.mem_of_getElem? (i := 2) rfl)) (cast_of hE (List.mem_of_getElem? (i := 1) rfl)) hce hcv hcl
        (lv_astore (lv' := [(5, .ref q9), (0, .ref d), (1, .int p0), (2, .int p1), (3, .int p2), (4, .ref ou)]) hx hb dL_pay_19 hl (by decide) rfl (fun ls hl => lv_iconst (v := 2) hx hb dL_pay_21 (by decide) (w_ret hx hb hr hlocks ⟨Nat.le_of_ble_eq_true rfl, Nat.le_of_ble_eq_true rfl⟩ (hW.more hk1) (hw.kept (hk1 ou houz)) (wS hS1) (Or.inr ⟨⟨IAE, hc, 1, rfl, rfl⟩, rfl, rfl⟩) dL_pay_22)))
    have k2 : E = ISE → vx_W p l e (headSpec wsL_pay ({ frames := 8, cells := 4, slots := 24, locals := 128 } : Room)).room s m ([.ref d, .int p0, .int p1, .int p2, .ref ou] : List Value).toArray below meth c H1 locs1 (0 + 4) (0 + 24) (MQ below (wQ D cO cL cJ g X s.heap.size ou (cN_pay g X n kc s.heap.size p0 p1 p2) (cC_pay X n kc p0 p1 p2) cL_pays) ([.ref d, .int p0, .int p1, .int p2, .ref ou] : List Value).toArray s 4 24 (wA g s.heap.size ou)) (F0 m 7 ls [.int 0, .ref ou]) q9 := fun hEe => by
      subst hEe
      exact vx_catch (own := RL) (name := ISE) hown [⟨0, 12, 15, 21⟩, ⟨0, 12, 19, 13⟩] ⟨0, 12, 23, 15⟩ [] htab (List.forall_mem_cons.mpr ⟨Or.inr ⟨by decide, IOE, (hts (.classLink RL 21 "java/lang/IndexOutOfBoundsException") (List.mem_of_getElem? (i := 1) rfl)), hN.2.2.2.2.2⟩, (List.forall_mem_cons.mpr ⟨Or.inr ⟨by decide, IAE, (hts (.classLink RL 13 "java/lang/IllegalArgumentException") (List.mem_of_getElem? (i := 2) rfl)), hN.1⟩, (fun _ h => nomatch h)⟩)⟩) rfl (by decide) (hts (.classLink RL 15 "java/lang/IllegalStateException") (List.mem_of_getElem? (i := 3) rfl)) (cast_of hE (List.mem_of_getElem? (i := 0) rfl)) hce hcv hcl
        (lv_astore (lv' := [(5, .ref q9), (0, .ref d), (1, .int p0), (2, .int p1), (3, .int p2), (4, .ref ou)]) hx hb dL_pay_23 hl (by decide) rfl (fun ls hl => lv_iconst (v := 3) hx hb dL_pay_25 (by decide) (w_ret hx hb hr hlocks ⟨Nat.le_of_ble_eq_true rfl, Nat.le_of_ble_eq_true rfl⟩ (hW.more hk1) (hw.kept (hk1 ou houz)) (wS hS1) (Or.inr ⟨⟨ISE, hc, 2, rfl, rfl⟩, rfl, rfl⟩) dL_pay_26)))
    exact (hc.elim (fun h => k0 h.1) (fun h => (h.elim (fun h => k1 h.1) (fun h => (k2 h.1)))))
  · skip
    have hou2 := hou
    refine lv_i2l hx hb dL_pay_10 rfl ?_
    refine f_last hx hb hK (hw.kept (hk2 ou houz hoA)) (wS hS2) (Or.inr rfl) (i := 0) rfl (by decide) (by decide) dL_pay_11 (fun H3 locs3 hl3 hz3 ho hS3 => ?_)
    refine lv_goto (tgt := 27) hx hb dL_pay_12 (by decide) ?_
    refine lv_iconst (v := 0) hx hb dL_pay_27 (by decide) ?_
    exact w_ret hx hb hr hlocks ⟨Nat.le_of_ble_eq_true rfl, Nat.le_of_ble_eq_true rfl⟩ (hW2.kept (fun t i a ha => ho a (fun e => hou2 t i (by rw [← e]; exact ha)))) (one_long hl3) hS3 (Or.inl ⟨rfl, _, ⟨hp, rfl⟩, rfl⟩) dL_pay_28
def cN_mayComeBack (g : XG) (X : MS) (n : Nat) (kc : Nat → Nat) (sz : Nat) (p0 p1 p2 : Int32) : Int32 → XG × MS → Prop := fun r u => (∃ k j, isL n kc p0 p1 k j ∧ inR p2 0 1 ∧ r = retX X k (8 * k + j) p2) ∧ u = (g, X)
def cC_mayComeBack (X : MS) (n : Nat) (kc : Nat → Nat) (p0 p1 p2 : Int32) : String → Prop := fun E => noO n p0 E ∨ noL n kc p0 p1 E ∨ (E = IAE ∧ ∃ k j, isL n kc p0 p1 k j ∧ ¬ inR p2 0 1)
abbrev cL_mayComeBacks : List String := [IOE, IAE]
set_option maxHeartbeats 4000000 in
set_option maxRecDepth 100000 in
theorem kL_mayComeBack (l : Launch) (hlt : l.stackTraces = false) {D : va_G} {cI cO cL cJ : ClassId} (g : XG) (X : MS) (hz sz : Nat) (hI : xI g) (hO : xO g hz sz) (ou : Nat) (hou : ∀ t i, g t i ≠ some ou) (houz : ou < sz) (w0 : Int64) (d bk : Nat) (hd : g 3 0 = some d) (hbk : g 4 0 = some bk) (n : Nat) (kc : Nat → Nat) (hC : xC g X n kc) (hZ : xZ g n) (p0 p1 p2 : Int32) : Met l yL_mayComeBack wsL_mayComeBack ({ frames := 8, cells := 3, slots := 18, locals := 129 } : Room) (wP D cI cO cL cJ g X hz sz ou w0 [.ref d, .int p0, .int p1, .int p2, .ref ou]) (wQ D cO cL cJ g X sz ou (cN_mayComeBack g X n kc sz p0 p1 p2) (cC_mayComeBack X n kc p0 p1 p2) cL_mayComeBacks) 3 18 (wA g sz ou) := by
  refine va_MetW (cc := cL_mayComeBack) (maxL := 6) (ret := some .int) (hh := [(0, 19, 22, 21), (0, 19, 26, 13)]) (by decide) rfl ?_
  intro p e s m args below meth c s₁ B hml hv
  obtain ⟨rfl, hsz, hW, hK, hE, hw, hN⟩ := hv
  subst hsz
  have hx := B.exec
  have hb := B.bytes
  have hr := B.returns
  have hts := atoms_spec (ws := wsL_mayComeBack) B.pre
  have hown : s.vm.findClass RL = some m.cls := findClass_of_methodNamed B.named
  have hlocks := B.notSynchronized
  have htab := vx_table (x := yL_mayComeBack) B (hts (.codeWith yL_mayComeBack cL_mayComeBack 6 (some .int) [(0, 19, 22, 21), (0, 19, 26, 13)]) (List.mem_of_getElem? (i := 0) rfl))
  have hl := lv_entry ([.ref d, .int p0, .int p1, .int p2, .ref ou] : List Value) (n := 6) (Nat.le_of_ble_eq_true rfl)
  rw [lg_entry_eq]
  generalize (lg_sl ([.ref d, .int p0, .int p1, .int p2, .ref ou] : List Value) ++ List.replicate (6 - (lg_sl ([.ref d, .int p0, .int p1, .int p2, .ref ou] : List Value)).length) Slot.unset).toArray = ls at hl ⊢
  have hl : lv_has ls 6 [(0, .ref d), (1, .int p0), (2, .int p1), (3, .int p2), (4, .ref ou)] := hl
  have hS : va_S (xA g s.heap.size) s.heap s.heap [] := va_S.rf
  have hoA : ¬ xA g s.heap.size ou := fun h => h.elim (fun ⟨t, i, h⟩ => hou t i h) (fun h => absurd houz (Nat.not_lt.mpr h))
  refine lv_aload hx hb dL_mayComeBack_0 (lv_at hl 4 rfl) ?_
  refine lv_iconst (v := 0) hx hb dL_mayComeBack_2 (by decide) ?_
  refine lv_aload_n hx hb dL_mayComeBack_3 rfl (lv_at hl 0 rfl) ?_
  refine lv_iload_n hx hb dL_mayComeBack_4 rfl (lv_at hl 1 rfl) ?_
  refine lv_iload_n hx hb dL_mayComeBack_5 rfl (lv_at hl 2 rfl) ?_
  refine lv_iload_n hx hb dL_mayComeBack_6 rfl (lv_at hl 3 rfl) ?_
  refine x_cI (vx_runV (As := [.int p0, .int p1, .int p2]) (rest := [.int 0, .ref ou]) (b := d) ⟨hx, hb, hml, hown, hts⟩ (kX2_mayComeBack l hlt g X hz _ d bk hd hbk n kc hC p0 p1 p2) (cwV 3 hts gL_mayComeBack_X2_mayComeBack rfl rfl rfl (by decide +kernel) ⟨Nat.le_of_ble_eq_true rfl, Nat.le_of_ble_eq_true rfl⟩) (x_preV hW hK hE (x_recvD hK hW hd)) rfl rfl hl.1 rfl (lv_room (Nat.le_of_ble_eq_true rfl)) dL_mayComeBack_7 ⟨Nat.le_of_ble_eq_true rfl, Nat.le_of_ble_eq_true rfl⟩) hS (fun E ce q9 H1 locs1 hc hz1 hk1 hS1 hL1 hce hcv hcl => ?_) (fun r hp => ?_)
  · skip
    have k0 : E = IOE → vx_W p l e (headSpec wsL_mayComeBack ({ frames := 8, cells := 3, slots := 18, locals := 129 } : Room)).room s m ([.ref d, .int p0, .int p1, .int p2, .ref ou] : List Value).toArray below meth c H1 locs1 (0 + 3) (0 + 18) (MQ below (wQ D cO cL cJ g X s.heap.size ou (cN_mayComeBack g X n kc s.heap.size p0 p1 p2) (cC_mayComeBack X n kc p0 p1 p2) cL_mayComeBacks) ([.ref d, .int p0, .int p1, .int p2, .ref ou] : List Value).toArray s 3 18 (wA g s.heap.size ou)) (F0 m 7 ls [.int 0, .ref ou]) q9 := fun hEe => by
      subst hEe
      exact vx_catch (own := RL) (name := IOE) hown [] ⟨0, 19, 22, 21⟩ [⟨0, 19, 26, 13⟩] htab (fun _ h => nomatch h) rfl (by decide) (hts (.classLink RL 21 "java/lang/IndexOutOfBoundsException") (List.mem_of_getElem? (i := 1) rfl)) (cast_of hE (List.mem_of_getElem? (i := 2) rfl)) hce hcv hcl
        (lv_astore (lv' := [(5, .ref q9), (0, .ref d), (1, .int p0), (2, .int p1), (3, .int p2), (4, .ref ou)]) hx hb dL_mayComeBack_22 hl (by decide) rfl (fun ls hl => lv_iconst (v := 1) hx hb dL_mayComeBack_24 (by decide) (w_ret hx hb hr hlocks ⟨Nat.le_of_ble_eq_true rfl, Nat.le_of_ble_eq_true rfl⟩ (hW.more hk1) (hw.kept (hk1 ou houz)) (wS hS1) (Or.inr ⟨⟨IOE, hc, 0, rfl, rfl⟩, rfl, rfl⟩) dL_mayComeBack_25)))
    have k1 : E = IAE → vx_W p l e (headSpec wsL_mayComeBack ({ frames := 8, cells := 3, slots := 18, locals := 129 } : Room)).room s m ([.ref d, .int p0, .int p1, .int p2, .ref ou] : List Value).toArray below meth c H1 locs1 (0 + 3) (0 + 18) (MQ below (wQ D cO cL cJ g X s.heap.size ou (cN_mayComeBack g X n kc s.heap.size p0 p1 p2) (cC_mayComeBack X n kc p0 p1 p2) cL_mayComeBacks) ([.ref d, .int p0, .int p1, .int p2, .ref ou] : List Value).toArray s 3 18 (wA g s.heap.size ou)) (F0 m 7 ls [.int 0, .ref ou]) q9 := fun hEe => by
      subst hEe
      exact vx_catch (own := RL) (name := IAE) hown [⟨0, 19, 22, 21⟩] ⟨0, 19, 26, 13⟩ [] htab (List.forall_mem_cons.mpr ⟨Or.inr ⟨by decide, IOE, (hts (.classLink RL 21 "java/lang/IndexOutOfBoundsException") (List.mem_of_getElem? (i := 1) rfl)), hN.2.2.2.2.1⟩, (fun _ h => nomatch h)⟩) rfl (by decide) (hts (.classLink RL 13 "java/lang/IllegalArgumentException") (List.mem_of_getElem? (i := 2) rfl)) (cast_of hE (List.mem_of_getElem? (i := 1) rfl)) hce hcv hcl
        (lv_astore (lv' := [(5, .ref q9), (0, .ref d), (1, .int p0), (2, .int p1), (3, .int p2), (4, .ref ou)]) hx hb dL_mayComeBack_26 hl (by decide) rfl (fun ls hl => lv_iconst (v := 2) hx hb dL_mayComeBack_28 (by decide) (w_ret hx hb hr hlocks ⟨Nat.le_of_ble_eq_true rfl, Nat.le_of_ble_eq_true rfl⟩ (hW.more hk1) (hw.kept (hk1 ou houz)) (wS hS1) (Or.inr ⟨⟨IAE, hc, 1, rfl, rfl⟩, rfl, rfl⟩) dL_mayComeBack_29)))
    exact (hc.elim (fun h => k0 h.1) (fun h => (h.elim (fun h => k0 h.1) (fun h => (k1 h.1)))))
  · skip
    have hou2 := hou
    have h01 : r = 0 ∨ r = 1 := by obtain ⟨k, j, -, -, h⟩ := hp; rw [h]; exact retX_01 _ _ _ _
    refine lv_if_eq (tgt := 17) hx hb dL_mayComeBack_10 (by decide) (fun c9 => ?_) (fun c9 => ?_)
    · skip
      refine lv_lconst (v := 0) hx hb dL_mayComeBack_17 (by decide) ?_
      refine f_last hx hb hK hw (wS hS) (Or.inr rfl) (i := 0) rfl (by decide) (by decide) dL_mayComeBack_18 (fun H3 locs3 hl3 hz3 ho hS3 => ?_)
      refine lv_goto (tgt := 30) hx hb dL_mayComeBack_19 (by decide) ?_
      refine lv_iconst (v := 0) hx hb dL_mayComeBack_30 (by decide) ?_
      exact w_ret hx hb hr hlocks ⟨Nat.le_of_ble_eq_true rfl, Nat.le_of_ble_eq_true rfl⟩ (hW.kept (fun t i a ha => ho a (fun e => hou2 t i (by rw [← e]; exact ha)))) (one_long hl3) hS3 (Or.inl ⟨rfl, _, ⟨hp, rfl⟩, (by rw [c9]; rfl)⟩) dL_mayComeBack_31
    · skip
      refine lv_lconst (v := 1) hx hb dL_mayComeBack_13 (by decide) ?_
      refine lv_goto (tgt := 18) hx hb dL_mayComeBack_14 (by decide) ?_
      refine f_last hx hb hK hw (wS hS) (Or.inr rfl) (i := 0) rfl (by decide) (by decide) dL_mayComeBack_18 (fun H3 locs3 hl3 hz3 ho hS3 => ?_)
      refine lv_goto (tgt := 30) hx hb dL_mayComeBack_19 (by decide) ?_
      refine lv_iconst (v := 0) hx hb dL_mayComeBack_30 (by decide) ?_
      exact w_ret hx hb hr hlocks ⟨Nat.le_of_ble_eq_true rfl, Nat.le_of_ble_eq_true rfl⟩ (hW.kept (fun t i a ha => ho a (fun e => hou2 t i (by rw [← e]; exact ha)))) (one_long hl3) hS3 (Or.inl ⟨rfl, _, ⟨hp, rfl⟩, (by rcases h01 with h | h; exact absurd h c9; rw [h]; rfl)⟩) dL_mayComeBack_31
def cN_ask (g : XG) (X : MS) (n : Nat) (kc : Nat → Nat) (sz : Nat) (p0 p1 p2 : Int32) : Int32 → XG × MS → Prop := fun r u => (∃ k j, isL n kc p0 p1 k j ∧ inR p2 0 1 ∧ ¬ retX X k (8 * k + j) p2 = 0 ∧ r = X 1 0 + 21 ∧ u.2 = swX X (8 * k + j) p2 1) ∧ u.1 = g
def cC_ask (X : MS) (n : Nat) (kc : Nat → Nat) (p0 p1 p2 : Int32) : String → Prop := fun E => noO n p0 E ∨ noL n kc p0 p1 E ∨ (E = IAE ∧ ∃ k j, isL n kc p0 p1 k j ∧ ¬ inR p2 0 1) ∨ (E = ISE ∧ ∃ k j, isL n kc p0 p1 k j ∧ inR p2 0 1 ∧ retX X k (8 * k + j) p2 = 0)
abbrev cL_asks : List String := [IOE, IAE, ISE]
set_option maxHeartbeats 4000000 in
set_option maxRecDepth 100000 in
theorem kL_ask (l : Launch) (hlt : l.stackTraces = false) {D : va_G} {cI cO cL cJ : ClassId} (g : XG) (X : MS) (hz sz : Nat) (hI : xI g) (hO : xO g hz sz) (ou : Nat) (hou : ∀ t i, g t i ≠ some ou) (houz : ou < sz) (w0 : Int64) (d bk : Nat) (hd : g 3 0 = some d) (hbk : g 4 0 = some bk) (n : Nat) (kc : Nat → Nat) (hC : xC g X n kc) (hZ : xZ g n) (p0 p1 p2 : Int32) : Met l yL_ask wsL_ask ({ frames := 9, cells := 4, slots := 24, locals := 153 } : Room) (wP D cI cO cL cJ g X hz sz ou w0 [.ref d, .int p0, .int p1, .int p2, .ref ou]) (wQ D cO cL cJ g X sz ou (cN_ask g X n kc sz p0 p1 p2) (cC_ask X n kc p0 p1 p2) cL_asks) 4 24 (wA g sz ou) := by
  refine va_MetW (cc := cL_ask) (maxL := 6) (ret := some .int) (hh := [(0, 12, 15, 21), (0, 12, 19, 13), (0, 12, 23, 15)]) (by decide) rfl ?_
  intro p e s m args below meth c s₁ B hml hv
  obtain ⟨rfl, hsz, hW, hK, hE, hw, hN⟩ := hv
  subst hsz
  have hx := B.exec
  have hb := B.bytes
  have hr := B.returns
  have hts := atoms_spec (ws := wsL_ask) B.pre
  have hown : s.vm.findClass RL = some m.cls := findClass_of_methodNamed B.named
  have hlocks := B.notSynchronized
  have htab := vx_table (x := yL_ask) B (hts (.codeWith yL_ask cL_ask 6 (some .int) [(0, 12, 15, 21), (0, 12, 19, 13), (0, 12, 23, 15)]) (List.mem_of_getElem? (i := 0) rfl))
  have hl := lv_entry ([.ref d, .int p0, .int p1, .int p2, .ref ou] : List Value) (n := 6) (Nat.le_of_ble_eq_true rfl)
  rw [lg_entry_eq]
  generalize (lg_sl ([.ref d, .int p0, .int p1, .int p2, .ref ou] : List Value) ++ List.replicate (6 - (lg_sl ([.ref d, .int p0, .int p1, .int p2, .ref ou] : List Value)).length) Slot.unset).toArray = ls at hl ⊢
  have hl : lv_has ls 6 [(0, .ref d), (1, .int p0), (2, .int p1), (3, .int p2), (4, .ref ou)] := hl
  have hS : va_S (xA g s.heap.size) s.heap s.heap [] := va_S.rf
  have hoA : ¬ xA g s.heap.size ou := fun h => h.elim (fun ⟨t, i, h⟩ => hou t i h) (fun h => absurd houz (Nat.not_lt.mpr h))
  refine lv_aload hx hb dL_ask_0 (lv_at hl 4 rfl) ?_
  refine lv_iconst (v := 0) hx hb dL_ask_2 (by decide) ?_
  refine lv_aload_n hx hb dL_ask_3 rfl (lv_at hl 0 rfl) ?_
  refine lv_iload_n hx hb dL_ask_4 rfl (lv_at hl 1 rfl) ?_
  refine lv_iload_n hx hb dL_ask_5 rfl (lv_at hl 2 rfl) ?_
  refine lv_iload_n hx hb dL_ask_6 rfl (lv_at hl 3 rfl) ?_
  refine x_cWI (vx_runV (As := [.int p0, .int p1, .int p2]) (rest := [.int 0, .ref ou]) (b := d) ⟨hx, hb, hml, hown, hts⟩ (kX2_ask l hlt g X hz _ hI hO d bk hd hbk n kc hC p0 p1 p2) (cwV 3 hts gL_ask_X2_ask rfl rfl rfl (by decide +kernel) ⟨Nat.le_of_ble_eq_true rfl, Nat.le_of_ble_eq_true rfl⟩) (x_preV hW hK hE (x_recvD hK hW hd)) rfl rfl hl.1 rfl (lv_room (Nat.le_of_ble_eq_true rfl)) dL_ask_7 ⟨Nat.le_of_ble_eq_true rfl, Nat.le_of_ble_eq_true rfl⟩) hS (Nat.le_refl _) (fun E ce q9 H1 locs1 hc hz1 hk1 hS1 hL1 hce hcv hcl => ?_) (fun r X9 H2 locs2 hp hW2 hz2 hk2 hS2 => ?_)
  · skip
    have k0 : E = IOE → vx_W p l e (headSpec wsL_ask ({ frames := 9, cells := 4, slots := 24, locals := 153 } : Room)).room s m ([.ref d, .int p0, .int p1, .int p2, .ref ou] : List Value).toArray below meth c H1 locs1 (0 + 4) (0 + 24) (MQ below (wQ D cO cL cJ g X s.heap.size ou (cN_ask g X n kc s.heap.size p0 p1 p2) (cC_ask X n kc p0 p1 p2) cL_asks) ([.ref d, .int p0, .int p1, .int p2, .ref ou] : List Value).toArray s 4 24 (wA g s.heap.size ou)) (F0 m 7 ls [.int 0, .ref ou]) q9 := fun hEe => by
      subst hEe
      exact vx_catch (own := RL) (name := IOE) hown [] ⟨0, 12, 15, 21⟩ [⟨0, 12, 19, 13⟩, ⟨0, 12, 23, 15⟩] htab (fun _ h => nomatch h) rfl (by decide) (hts (.classLink RL 21 "java/lang/IndexOutOfBoundsException") (List.mem_of_getElem? (i := 1) rfl)) (cast_of hE (List.mem_of_getElem? (i := 2) rfl)) hce hcv hcl
        (lv_astore (lv' := [(5, .ref q9), (0, .ref d), (1, .int p0), (2, .int p1), (3, .int p2), (4, .ref ou)]) hx hb dL_ask_15 hl (by decide) rfl (fun ls hl => lv_iconst (v := 1) hx hb dL_ask_17 (by decide) (w_ret hx hb hr hlocks ⟨Nat.le_of_ble_eq_true rfl, Nat.le_of_ble_eq_true rfl⟩ (hW.more hk1) (hw.kept (hk1 ou houz)) (wS hS1) (Or.inr ⟨⟨IOE, hc, 0, rfl, rfl⟩, rfl, rfl⟩) dL_ask_18)))
    have k1 : E = IAE → vx_W p l e (headSpec wsL_ask ({ frames := 9, cells := 4, slots := 24, locals := 153 } : Room)).room s m ([.ref d, .int p0, .int p1, .int p2, .ref ou] : List Value).toArray below meth c H1 locs1 (0 + 4) (0 + 24) (MQ below (wQ D cO cL cJ g X s.heap.size ou (cN_ask g X n kc s.heap.size p0 p1 p2) (cC_ask X n kc p0 p1 p2) cL_asks) ([.ref d, .int p0, .int p1, .int p2, .ref ou] : List Value).toArray s 4 24 (wA g s.heap.size ou)) (F0 m 7 ls [.int 0, .ref ou]) q9 := fun hEe => by
      subst hEe
      exact vx_catch (own := RL) (name := IAE) hown [⟨0, 12, 15, 21⟩] ⟨0, 12, 19, 13⟩ [⟨0, 12, 23, 15⟩] htab (List.forall_mem_cons.mpr ⟨Or.inr ⟨by decide, IOE, (hts (.classLink RL 21 "java/lang/IndexOutOfBoundsException") (List.mem_of_getElem? (i := 1) rfl)), hN.2.2.2.2.1⟩, (fun _ h => nomatch h)⟩) rfl (by decide) (hts (.classLink RL 13 "java/lang/IllegalArgumentException") (List.mem_of_getElem? (i := 2) rfl)) (cast_of hE (List.mem_of_getElem? (i := 1) rfl)) hce hcv hcl
        (lv_astore (lv' := [(5, .ref q9), (0, .ref d), (1, .int p0), (2, .int p1), (3, .int p2), (4, .ref ou)]) hx hb dL_ask_19 hl (by decide) rfl (fun ls hl => lv_iconst (v := 2) hx hb dL_ask_21 (by decide) (w_ret hx hb hr hlocks ⟨Nat.le_of_ble_eq_true rfl, Nat.le_of_ble_eq_true rfl⟩ (hW.more hk1) (hw.kept (hk1 ou houz)) (wS hS1) (Or.inr ⟨⟨IAE, hc, 1, rfl, rfl⟩, rfl, rfl⟩) dL_ask_22)))
    have k2 : E = ISE → vx_W p l e (headSpec wsL_ask ({ frames := 9, cells := 4, slots := 24, locals := 153 } : Room)).room s m ([.ref d, .int p0, .int p1, .int p2, .ref ou] : List Value).toArray below meth c H1 locs1 (0 + 4) (0 + 24) (MQ below (wQ D cO cL cJ g X s.heap.size ou (cN_ask g X n kc s.heap.size p0 p1 p2) (cC_ask X n kc p0 p1 p2) cL_asks) ([.ref d, .int p0, .int p1, .int p2, .ref ou] : List Value).toArray s 4 24 (wA g s.heap.size ou)) (F0 m 7 ls [.int 0, .ref ou]) q9 := fun hEe => by
      subst hEe
      exact vx_catch (own := RL) (name := ISE) hown [⟨0, 12, 15, 21⟩, ⟨0, 12, 19, 13⟩] ⟨0, 12, 23, 15⟩ [] htab (List.forall_mem_cons.mpr ⟨Or.inr ⟨by decide, IOE, (hts (.classLink RL 21 "java/lang/IndexOutOfBoundsException") (List.mem_of_getElem? (i := 1) rfl)), hN.2.2.2.2.2⟩, (List.forall_mem_cons.mpr ⟨Or.inr ⟨by decide, IAE, (hts (.classLink RL 13 "java/lang/IllegalArgumentException") (List.mem_of_getElem? (i := 2) rfl)), hN.1⟩, (fun _ h => nomatch h)⟩)⟩) rfl (by decide) (hts (.classLink RL 15 "java/lang/IllegalStateException") (List.mem_of_getElem? (i := 3) rfl)) (cast_of hE (List.mem_of_getElem? (i := 0) rfl)) hce hcv hcl
        (lv_astore (lv' := [(5, .ref q9), (0, .ref d), (1, .int p0), (2, .int p1), (3, .int p2), (4, .ref ou)]) hx hb dL_ask_23 hl (by decide) rfl (fun ls hl => lv_iconst (v := 3) hx hb dL_ask_25 (by decide) (w_ret hx hb hr hlocks ⟨Nat.le_of_ble_eq_true rfl, Nat.le_of_ble_eq_true rfl⟩ (hW.more hk1) (hw.kept (hk1 ou houz)) (wS hS1) (Or.inr ⟨⟨ISE, hc, 2, rfl, rfl⟩, rfl, rfl⟩) dL_ask_26)))
    exact (hc.elim (fun h => k0 h.1) (fun h => (h.elim (fun h => k0 h.1) (fun h => (h.elim (fun h => k1 h.1) (fun h => (k2 h.1)))))))
  · skip
    have hou2 := hou
    refine lv_i2l hx hb dL_ask_10 rfl ?_
    refine f_last hx hb hK (hw.kept (hk2 ou houz hoA)) (wS hS2) (Or.inr rfl) (i := 0) rfl (by decide) (by decide) dL_ask_11 (fun H3 locs3 hl3 hz3 ho hS3 => ?_)
    refine lv_goto (tgt := 27) hx hb dL_ask_12 (by decide) ?_
    refine lv_iconst (v := 0) hx hb dL_ask_27 (by decide) ?_
    exact w_ret hx hb hr hlocks ⟨Nat.le_of_ble_eq_true rfl, Nat.le_of_ble_eq_true rfl⟩ (hW2.kept (fun t i a ha => ho a (fun e => hou2 t i (by rw [← e]; exact ha)))) (one_long hl3) hS3 (Or.inl ⟨rfl, _, ⟨hp, rfl⟩, rfl⟩) dL_ask_28
def cN_exchange (g : XG) (X : MS) (n : Nat) (kc : Nat → Nat) (sz : Nat) (p0 p1 p2 : Int32) : Int32 → XG × MS → Prop := fun r u => (∃ k j, isL n kc p0 p1 k j ∧ inR p2 0 1 ∧ ¬ retX X k (8 * k + j) p2 = 0 ∧ r = X 1 0 + 21 ∧ u.2 = swX X (8 * k + j) p2 2) ∧ u.1 = g
def cC_exchange (X : MS) (n : Nat) (kc : Nat → Nat) (p0 p1 p2 : Int32) : String → Prop := fun E => noO n p0 E ∨ noL n kc p0 p1 E ∨ (E = IAE ∧ ∃ k j, isL n kc p0 p1 k j ∧ ¬ inR p2 0 1) ∨ (E = ISE ∧ ∃ k j, isL n kc p0 p1 k j ∧ inR p2 0 1 ∧ retX X k (8 * k + j) p2 = 0)
abbrev cL_exchanges : List String := [IOE, IAE, ISE]
set_option maxHeartbeats 4000000 in
set_option maxRecDepth 100000 in
theorem kL_exchange (l : Launch) (hlt : l.stackTraces = false) {D : va_G} {cI cO cL cJ : ClassId} (g : XG) (X : MS) (hz sz : Nat) (hI : xI g) (hO : xO g hz sz) (ou : Nat) (hou : ∀ t i, g t i ≠ some ou) (houz : ou < sz) (w0 : Int64) (d bk : Nat) (hd : g 3 0 = some d) (hbk : g 4 0 = some bk) (n : Nat) (kc : Nat → Nat) (hC : xC g X n kc) (hZ : xZ g n) (p0 p1 p2 : Int32) : Met l yL_exchange wsL_exchange ({ frames := 9, cells := 4, slots := 24, locals := 153 } : Room) (wP D cI cO cL cJ g X hz sz ou w0 [.ref d, .int p0, .int p1, .int p2, .ref ou]) (wQ D cO cL cJ g X sz ou (cN_exchange g X n kc sz p0 p1 p2) (cC_exchange X n kc p0 p1 p2) cL_exchanges) 4 24 (wA g sz ou) := by
  refine va_MetW (cc := cL_exchange) (maxL := 6) (ret := some .int) (hh := [(0, 12, 15, 21), (0, 12, 19, 13), (0, 12, 23, 15)]) (by decide) rfl ?_
  intro p e s m args below meth c s₁ B hml hv
  obtain ⟨rfl, hsz, hW, hK, hE, hw, hN⟩ := hv
  subst hsz
  have hx := B.exec
  have hb := B.bytes
  have hr := B.returns
  have hts := atoms_spec (ws := wsL_exchange) B.pre
  have hown : s.vm.findClass RL = some m.cls := findClass_of_methodNamed B.named
  have hlocks := B.notSynchronized
  have htab := vx_table (x := yL_exchange) B (hts (.codeWith yL_exchange cL_exchange 6 (some .int) [(0, 12, 15, 21), (0, 12, 19, 13), (0, 12, 23, 15)]) (List.mem_of_getElem? (i := 0) rfl))
  have hl := lv_entry ([.ref d, .int p0, .int p1, .int p2, .ref ou] : List Value) (n := 6) (Nat.le_of_ble_eq_true rfl)
  rw [lg_entry_eq]
  generalize (lg_sl ([.ref d, .int p0, .int p1, .int p2, .ref ou] : List Value) ++ List.replicate (6 - (lg_sl ([.ref d, .int p0, .int p1, .int p2, .ref ou] : List Value)).length) Slot.unset).toArray = ls at hl ⊢
  have hl : lv_has ls 6 [(0, .ref d), (1, .int p0), (2, .int p1), (3, .int p2), (4, .ref ou)] := hl
  have hS : va_S (xA g s.heap.size) s.heap s.heap [] := va_S.rf
  have hoA : ¬ xA g s.heap.size ou := fun h => h.elim (fun ⟨t, i, h⟩ => hou t i h) (fun h => absurd houz (Nat.not_lt.mpr h))
  refine lv_aload hx hb dL_exchange_0 (lv_at hl 4 rfl) ?_
  refine lv_iconst (v := 0) hx hb dL_exchange_2 (by decide) ?_
  refine lv_aload_n hx hb dL_exchange_3 rfl (lv_at hl 0 rfl) ?_
  refine lv_iload_n hx hb dL_exchange_4 rfl (lv_at hl 1 rfl) ?_
  refine lv_iload_n hx hb dL_exchange_5 rfl (lv_at hl 2 rfl) ?_
  refine lv_iload_n hx hb dL_exchange_6 rfl (lv_at hl 3 rfl) ?_
  refine x_cWI (vx_runV (As := [.int p0, .int p1, .int p2]) (rest := [.int 0, .ref ou]) (b := d) ⟨hx, hb, hml, hown, hts⟩ (kX2_exchange l hlt g X hz _ hI hO d bk hd hbk n kc hC p0 p1 p2) (cwV 3 hts gL_exchange_X2_exchange rfl rfl rfl (by decide +kernel) ⟨Nat.le_of_ble_eq_true rfl, Nat.le_of_ble_eq_true rfl⟩) (x_preV hW hK hE (x_recvD hK hW hd)) rfl rfl hl.1 rfl (lv_room (Nat.le_of_ble_eq_true rfl)) dL_exchange_7 ⟨Nat.le_of_ble_eq_true rfl, Nat.le_of_ble_eq_true rfl⟩) hS (Nat.le_refl _) (fun E ce q9 H1 locs1 hc hz1 hk1 hS1 hL1 hce hcv hcl => ?_) (fun r X9 H2 locs2 hp hW2 hz2 hk2 hS2 => ?_)
  · skip
    have k0 : E = IOE → vx_W p l e (headSpec wsL_exchange ({ frames := 9, cells := 4, slots := 24, locals := 153 } : Room)).room s m ([.ref d, .int p0, .int p1, .int p2, .ref ou] : List Value).toArray below meth c H1 locs1 (0 + 4) (0 + 24) (MQ below (wQ D cO cL cJ g X s.heap.size ou (cN_exchange g X n kc s.heap.size p0 p1 p2) (cC_exchange X n kc p0 p1 p2) cL_exchanges) ([.ref d, .int p0, .int p1, .int p2, .ref ou] : List Value).toArray s 4 24 (wA g s.heap.size ou)) (F0 m 7 ls [.int 0, .ref ou]) q9 := fun hEe => by
      subst hEe
      exact vx_catch (own := RL) (name := IOE) hown [] ⟨0, 12, 15, 21⟩ [⟨0, 12, 19, 13⟩, ⟨0, 12, 23, 15⟩] htab (fun _ h => nomatch h) rfl (by decide) (hts (.classLink RL 21 "java/lang/IndexOutOfBoundsException") (List.mem_of_getElem? (i := 1) rfl)) (cast_of hE (List.mem_of_getElem? (i := 2) rfl)) hce hcv hcl
        (lv_astore (lv' := [(5, .ref q9), (0, .ref d), (1, .int p0), (2, .int p1), (3, .int p2), (4, .ref ou)]) hx hb dL_exchange_15 hl (by decide) rfl (fun ls hl => lv_iconst (v := 1) hx hb dL_exchange_17 (by decide) (w_ret hx hb hr hlocks ⟨Nat.le_of_ble_eq_true rfl, Nat.le_of_ble_eq_true rfl⟩ (hW.more hk1) (hw.kept (hk1 ou houz)) (wS hS1) (Or.inr ⟨⟨IOE, hc, 0, rfl, rfl⟩, rfl, rfl⟩) dL_exchange_18)))
    have k1 : E = IAE → vx_W p l e (headSpec wsL_exchange ({ frames := 9, cells := 4, slots := 24, locals := 153 } : Room)).room s m ([.ref d, .int p0, .int p1, .int p2, .ref ou] : List Value).toArray below meth c H1 locs1 (0 + 4) (0 + 24) (MQ below (wQ D cO cL cJ g X s.heap.size ou (cN_exchange g X n kc s.heap.size p0 p1 p2) (cC_exchange X n kc p0 p1 p2) cL_exchanges) ([.ref d, .int p0, .int p1, .int p2, .ref ou] : List Value).toArray s 4 24 (wA g s.heap.size ou)) (F0 m 7 ls [.int 0, .ref ou]) q9 := fun hEe => by
      subst hEe
      exact vx_catch (own := RL) (name := IAE) hown [⟨0, 12, 15, 21⟩] ⟨0, 12, 19, 13⟩ [⟨0, 12, 23, 15⟩] htab (List.forall_mem_cons.mpr ⟨Or.inr ⟨by decide, IOE, (hts (.classLink RL 21 "java/lang/IndexOutOfBoundsException") (List.mem_of_getElem? (i := 1) rfl)), hN.2.2.2.2.1⟩, (fun _ h => nomatch h)⟩) rfl (by decide) (hts (.classLink RL 13 "java/lang/IllegalArgumentException") (List.mem_of_getElem? (i := 2) rfl)) (cast_of hE (List.mem_of_getElem? (i := 1) rfl)) hce hcv hcl
        (lv_astore (lv' := [(5, .ref q9), (0, .ref d), (1, .int p0), (2, .int p1), (3, .int p2), (4, .ref ou)]) hx hb dL_exchange_19 hl (by decide) rfl (fun ls hl => lv_iconst (v := 2) hx hb dL_exchange_21 (by decide) (w_ret hx hb hr hlocks ⟨Nat.le_of_ble_eq_true rfl, Nat.le_of_ble_eq_true rfl⟩ (hW.more hk1) (hw.kept (hk1 ou houz)) (wS hS1) (Or.inr ⟨⟨IAE, hc, 1, rfl, rfl⟩, rfl, rfl⟩) dL_exchange_22)))
    have k2 : E = ISE → vx_W p l e (headSpec wsL_exchange ({ frames := 9, cells := 4, slots := 24, locals := 153 } : Room)).room s m ([.ref d, .int p0, .int p1, .int p2, .ref ou] : List Value).toArray below meth c H1 locs1 (0 + 4) (0 + 24) (MQ below (wQ D cO cL cJ g X s.heap.size ou (cN_exchange g X n kc s.heap.size p0 p1 p2) (cC_exchange X n kc p0 p1 p2) cL_exchanges) ([.ref d, .int p0, .int p1, .int p2, .ref ou] : List Value).toArray s 4 24 (wA g s.heap.size ou)) (F0 m 7 ls [.int 0, .ref ou]) q9 := fun hEe => by
      subst hEe
      exact vx_catch (own := RL) (name := ISE) hown [⟨0, 12, 15, 21⟩, ⟨0, 12, 19, 13⟩] ⟨0, 12, 23, 15⟩ [] htab (List.forall_mem_cons.mpr ⟨Or.inr ⟨by decide, IOE, (hts (.classLink RL 21 "java/lang/IndexOutOfBoundsException") (List.mem_of_getElem? (i := 1) rfl)), hN.2.2.2.2.2⟩, (List.forall_mem_cons.mpr ⟨Or.inr ⟨by decide, IAE, (hts (.classLink RL 13 "java/lang/IllegalArgumentException") (List.mem_of_getElem? (i := 2) rfl)), hN.1⟩, (fun _ h => nomatch h)⟩)⟩) rfl (by decide) (hts (.classLink RL 15 "java/lang/IllegalStateException") (List.mem_of_getElem? (i := 3) rfl)) (cast_of hE (List.mem_of_getElem? (i := 0) rfl)) hce hcv hcl
        (lv_astore (lv' := [(5, .ref q9), (0, .ref d), (1, .int p0), (2, .int p1), (3, .int p2), (4, .ref ou)]) hx hb dL_exchange_23 hl (by decide) rfl (fun ls hl => lv_iconst (v := 3) hx hb dL_exchange_25 (by decide) (w_ret hx hb hr hlocks ⟨Nat.le_of_ble_eq_true rfl, Nat.le_of_ble_eq_true rfl⟩ (hW.more hk1) (hw.kept (hk1 ou houz)) (wS hS1) (Or.inr ⟨⟨ISE, hc, 2, rfl, rfl⟩, rfl, rfl⟩) dL_exchange_26)))
    exact (hc.elim (fun h => k0 h.1) (fun h => (h.elim (fun h => k0 h.1) (fun h => (h.elim (fun h => k1 h.1) (fun h => (k2 h.1)))))))
  · skip
    have hou2 := hou
    refine lv_i2l hx hb dL_exchange_10 rfl ?_
    refine f_last hx hb hK (hw.kept (hk2 ou houz hoA)) (wS hS2) (Or.inr rfl) (i := 0) rfl (by decide) (by decide) dL_exchange_11 (fun H3 locs3 hl3 hz3 ho hS3 => ?_)
    refine lv_goto (tgt := 27) hx hb dL_exchange_12 (by decide) ?_
    refine lv_iconst (v := 0) hx hb dL_exchange_27 (by decide) ?_
    exact w_ret hx hb hr hlocks ⟨Nat.le_of_ble_eq_true rfl, Nat.le_of_ble_eq_true rfl⟩ (hW2.kept (fun t i a ha => ho a (fun e => hou2 t i (by rw [← e]; exact ha)))) (one_long hl3) hS3 (Or.inl ⟨rfl, _, ⟨hp, rfl⟩, rfl⟩) dL_exchange_28
def cN_grade (g : XG) (X : MS) (n : Nat) (kc : Nat → Nat) (sz : Nat) (p0 p1 p2 : Int32) : Int32 → XG × MS → Prop := fun r u => (∃ k j, isL n kc p0 p1 k j ∧ inR p2 0 3 ∧ ¬ wtX X (8 * k + j) = 0 ∧ (r, u.2) = gradeX X k (kc k) (8 * k + j) p2) ∧ u.1 = g
def cC_grade (X : MS) (n : Nat) (kc : Nat → Nat) (p0 p1 p2 : Int32) : String → Prop := fun E => noO n p0 E ∨ noL n kc p0 p1 E ∨ (E = IAE ∧ ∃ k j, isL n kc p0 p1 k j ∧ ¬ inR p2 0 3) ∨ (E = ISE ∧ ∃ k j, isL n kc p0 p1 k j ∧ inR p2 0 3 ∧ wtX X (8 * k + j) = 0)
abbrev cL_grades : List String := [IOE, IAE, ISE]
set_option maxHeartbeats 4000000 in
set_option maxRecDepth 100000 in
theorem kL_grade (l : Launch) (hlt : l.stackTraces = false) {D : va_G} {cI cO cL cJ : ClassId} (g : XG) (X : MS) (hz sz : Nat) (hI : xI g) (hO : xO g hz sz) (ou : Nat) (hou : ∀ t i, g t i ≠ some ou) (houz : ou < sz) (w0 : Int64) (d bk : Nat) (hd : g 3 0 = some d) (hbk : g 4 0 = some bk) (n : Nat) (kc : Nat → Nat) (hC : xC g X n kc) (hZ : xZ g n) (p0 p1 p2 : Int32) : Met l yL_grade wsL_grade ({ frames := 8, cells := 4, slots := 24, locals := 129 } : Room) (wP D cI cO cL cJ g X hz sz ou w0 [.ref d, .int p0, .int p1, .int p2, .ref ou]) (wQ D cO cL cJ g X sz ou (cN_grade g X n kc sz p0 p1 p2) (cC_grade X n kc p0 p1 p2) cL_grades) 4 24 (wA g sz ou) := by
  refine va_MetW (cc := cL_grade) (maxL := 6) (ret := some .int) (hh := [(0, 12, 15, 21), (0, 12, 19, 13), (0, 12, 23, 15)]) (by decide) rfl ?_
  intro p e s m args below meth c s₁ B hml hv
  obtain ⟨rfl, hsz, hW, hK, hE, hw, hN⟩ := hv
  subst hsz
  have hx := B.exec
  have hb := B.bytes
  have hr := B.returns
  have hts := atoms_spec (ws := wsL_grade) B.pre
  have hown : s.vm.findClass RL = some m.cls := findClass_of_methodNamed B.named
  have hlocks := B.notSynchronized
  have htab := vx_table (x := yL_grade) B (hts (.codeWith yL_grade cL_grade 6 (some .int) [(0, 12, 15, 21), (0, 12, 19, 13), (0, 12, 23, 15)]) (List.mem_of_getElem? (i := 0) rfl))
  have hl := lv_entry ([.ref d, .int p0, .int p1, .int p2, .ref ou] : List Value) (n := 6) (Nat.le_of_ble_eq_true rfl)
  rw [lg_entry_eq]
  generalize (lg_sl ([.ref d, .int p0, .int p1, .int p2, .ref ou] : List Value) ++ List.replicate (6 - (lg_sl ([.ref d, .int p0, .int p1, .int p2, .ref ou] : List Value)).length) Slot.unset).toArray = ls at hl ⊢
  have hl : lv_has ls 6 [(0, .ref d), (1, .int p0), (2, .int p1), (3, .int p2), (4, .ref ou)] := hl
  have hS : va_S (xA g s.heap.size) s.heap s.heap [] := va_S.rf
  have hoA : ¬ xA g s.heap.size ou := fun h => h.elim (fun ⟨t, i, h⟩ => hou t i h) (fun h => absurd houz (Nat.not_lt.mpr h))
  refine lv_aload hx hb dL_grade_0 (lv_at hl 4 rfl) ?_
  refine lv_iconst (v := 0) hx hb dL_grade_2 (by decide) ?_
  refine lv_aload_n hx hb dL_grade_3 rfl (lv_at hl 0 rfl) ?_
  refine lv_iload_n hx hb dL_grade_4 rfl (lv_at hl 1 rfl) ?_
  refine lv_iload_n hx hb dL_grade_5 rfl (lv_at hl 2 rfl) ?_
  refine lv_iload_n hx hb dL_grade_6 rfl (lv_at hl 3 rfl) ?_
  refine x_cWI (vx_runV (As := [.int p0, .int p1, .int p2]) (rest := [.int 0, .ref ou]) (b := d) ⟨hx, hb, hml, hown, hts⟩ (kX2_grade l hlt g X hz _ hI hO d bk hd hbk n kc hC p0 p1 p2) (cwV 3 hts gL_grade_X2_grade rfl rfl rfl (by decide +kernel) ⟨Nat.le_of_ble_eq_true rfl, Nat.le_of_ble_eq_true rfl⟩) (x_preV hW hK hE (x_recvD hK hW hd)) rfl rfl hl.1 rfl (lv_room (Nat.le_of_ble_eq_true rfl)) dL_grade_7 ⟨Nat.le_of_ble_eq_true rfl, Nat.le_of_ble_eq_true rfl⟩) hS (Nat.le_refl _) (fun E ce q9 H1 locs1 hc hz1 hk1 hS1 hL1 hce hcv hcl => ?_) (fun r X9 H2 locs2 hp hW2 hz2 hk2 hS2 => ?_)
  · skip
    have k0 : E = IOE → vx_W p l e (headSpec wsL_grade ({ frames := 8, cells := 4, slots := 24, locals := 129 } : Room)).room s m ([.ref d, .int p0, .int p1, .int p2, .ref ou] : List Value).toArray below meth c H1 locs1 (0 + 4) (0 + 24) (MQ below (wQ D cO cL cJ g X s.heap.size ou (cN_grade g X n kc s.heap.size p0 p1 p2) (cC_grade X n kc p0 p1 p2) cL_grades) ([.ref d, .int p0, .int p1, .int p2, .ref ou] : List Value).toArray s 4 24 (wA g s.heap.size ou)) (F0 m 7 ls [.int 0, .ref ou]) q9 := fun hEe => by
      subst hEe
      exact vx_catch (own := RL) (name := IOE) hown [] ⟨0, 12, 15, 21⟩ [⟨0, 12, 19, 13⟩, ⟨0, 12, 23, 15⟩] htab (fun _ h => nomatch h) rfl (by decide) (hts (.classLink RL 21 "java/lang/IndexOutOfBoundsException") (List.mem_of_getElem? (i := 1) rfl)) (cast_of hE (List.mem_of_getElem? (i := 2) rfl)) hce hcv hcl
        (lv_astore (lv' := [(5, .ref q9), (0, .ref d), (1, .int p0), (2, .int p1), (3, .int p2), (4, .ref ou)]) hx hb dL_grade_15 hl (by decide) rfl (fun ls hl => lv_iconst (v := 1) hx hb dL_grade_17 (by decide) (w_ret hx hb hr hlocks ⟨Nat.le_of_ble_eq_true rfl, Nat.le_of_ble_eq_true rfl⟩ (hW.more hk1) (hw.kept (hk1 ou houz)) (wS hS1) (Or.inr ⟨⟨IOE, hc, 0, rfl, rfl⟩, rfl, rfl⟩) dL_grade_18)))
    have k1 : E = IAE → vx_W p l e (headSpec wsL_grade ({ frames := 8, cells := 4, slots := 24, locals := 129 } : Room)).room s m ([.ref d, .int p0, .int p1, .int p2, .ref ou] : List Value).toArray below meth c H1 locs1 (0 + 4) (0 + 24) (MQ below (wQ D cO cL cJ g X s.heap.size ou (cN_grade g X n kc s.heap.size p0 p1 p2) (cC_grade X n kc p0 p1 p2) cL_grades) ([.ref d, .int p0, .int p1, .int p2, .ref ou] : List Value).toArray s 4 24 (wA g s.heap.size ou)) (F0 m 7 ls [.int 0, .ref ou]) q9 := fun hEe => by
      subst hEe
      exact vx_catch (own := RL) (name := IAE) hown [⟨0, 12, 15, 21⟩] ⟨0, 12, 19, 13⟩ [⟨0, 12, 23, 15⟩] htab (List.forall_mem_cons.mpr ⟨Or.inr ⟨by decide, IOE, (hts (.classLink RL 21 "java/lang/IndexOutOfBoundsException") (List.mem_of_getElem? (i := 1) rfl)), hN.2.2.2.2.1⟩, (fun _ h => nomatch h)⟩) rfl (by decide) (hts (.classLink RL 13 "java/lang/IllegalArgumentException") (List.mem_of_getElem? (i := 2) rfl)) (cast_of hE (List.mem_of_getElem? (i := 1) rfl)) hce hcv hcl
        (lv_astore (lv' := [(5, .ref q9), (0, .ref d), (1, .int p0), (2, .int p1), (3, .int p2), (4, .ref ou)]) hx hb dL_grade_19 hl (by decide) rfl (fun ls hl => lv_iconst (v := 2) hx hb dL_grade_21 (by decide) (w_ret hx hb hr hlocks ⟨Nat.le_of_ble_eq_true rfl, Nat.le_of_ble_eq_true rfl⟩ (hW.more hk1) (hw.kept (hk1 ou houz)) (wS hS1) (Or.inr ⟨⟨IAE, hc, 1, rfl, rfl⟩, rfl, rfl⟩) dL_grade_22)))
    have k2 : E = ISE → vx_W p l e (headSpec wsL_grade ({ frames := 8, cells := 4, slots := 24, locals := 129 } : Room)).room s m ([.ref d, .int p0, .int p1, .int p2, .ref ou] : List Value).toArray below meth c H1 locs1 (0 + 4) (0 + 24) (MQ below (wQ D cO cL cJ g X s.heap.size ou (cN_grade g X n kc s.heap.size p0 p1 p2) (cC_grade X n kc p0 p1 p2) cL_grades) ([.ref d, .int p0, .int p1, .int p2, .ref ou] : List Value).toArray s 4 24 (wA g s.heap.size ou)) (F0 m 7 ls [.int 0, .ref ou]) q9 := fun hEe => by
      subst hEe
      exact vx_catch (own := RL) (name := ISE) hown [⟨0, 12, 15, 21⟩, ⟨0, 12, 19, 13⟩] ⟨0, 12, 23, 15⟩ [] htab (List.forall_mem_cons.mpr ⟨Or.inr ⟨by decide, IOE, (hts (.classLink RL 21 "java/lang/IndexOutOfBoundsException") (List.mem_of_getElem? (i := 1) rfl)), hN.2.2.2.2.2⟩, (List.forall_mem_cons.mpr ⟨Or.inr ⟨by decide, IAE, (hts (.classLink RL 13 "java/lang/IllegalArgumentException") (List.mem_of_getElem? (i := 2) rfl)), hN.1⟩, (fun _ h => nomatch h)⟩)⟩) rfl (by decide) (hts (.classLink RL 15 "java/lang/IllegalStateException") (List.mem_of_getElem? (i := 3) rfl)) (cast_of hE (List.mem_of_getElem? (i := 0) rfl)) hce hcv hcl
        (lv_astore (lv' := [(5, .ref q9), (0, .ref d), (1, .int p0), (2, .int p1), (3, .int p2), (4, .ref ou)]) hx hb dL_grade_23 hl (by decide) rfl (fun ls hl => lv_iconst (v := 3) hx hb dL_grade_25 (by decide) (w_ret hx hb hr hlocks ⟨Nat.le_of_ble_eq_true rfl, Nat.le_of_ble_eq_true rfl⟩ (hW.more hk1) (hw.kept (hk1 ou houz)) (wS hS1) (Or.inr ⟨⟨ISE, hc, 2, rfl, rfl⟩, rfl, rfl⟩) dL_grade_26)))
    exact (hc.elim (fun h => k0 h.1) (fun h => (h.elim (fun h => k0 h.1) (fun h => (h.elim (fun h => k1 h.1) (fun h => (k2 h.1)))))))
  · skip
    have hou2 := hou
    refine lv_i2l hx hb dL_grade_10 rfl ?_
    refine f_last hx hb hK (hw.kept (hk2 ou houz hoA)) (wS hS2) (Or.inr rfl) (i := 0) rfl (by decide) (by decide) dL_grade_11 (fun H3 locs3 hl3 hz3 ho hS3 => ?_)
    refine lv_goto (tgt := 27) hx hb dL_grade_12 (by decide) ?_
    refine lv_iconst (v := 0) hx hb dL_grade_27 (by decide) ?_
    exact w_ret hx hb hr hlocks ⟨Nat.le_of_ble_eq_true rfl, Nat.le_of_ble_eq_true rfl⟩ (hW2.kept (fun t i a ha => ho a (fun e => hou2 t i (by rw [← e]; exact ha)))) (one_long hl3) hS3 (Or.inl ⟨rfl, _, ⟨hp, rfl⟩, rfl⟩) dL_grade_28
def cN_state (g : XG) (X : MS) (n : Nat) (kc : Nat → Nat) (sz : Nat) (p0 p1 p2 : Int32) : Int32 → XG × MS → Prop := fun r u => (∃ k j, isL n kc p0 p1 k j ∧ r = X 18 (8 * k + j)) ∧ u = (g, X)
def cC_state (X : MS) (n : Nat) (kc : Nat → Nat) (p0 p1 p2 : Int32) : String → Prop := fun E => noO n p0 E ∨ noL n kc p0 p1 E
abbrev cL_states : List String := [IOE]
set_option maxHeartbeats 4000000 in
set_option maxRecDepth 100000 in
theorem kL_state (l : Launch) (hlt : l.stackTraces = false) {D : va_G} {cI cO cL cJ : ClassId} (g : XG) (X : MS) (hz sz : Nat) (hI : xI g) (hO : xO g hz sz) (ou : Nat) (hou : ∀ t i, g t i ≠ some ou) (houz : ou < sz) (w0 : Int64) (d bk : Nat) (hd : g 3 0 = some d) (hbk : g 4 0 = some bk) (n : Nat) (kc : Nat → Nat) (hC : xC g X n kc) (hZ : xZ g n) (p0 p1 : Int32) : Met l yL_state wsL_state ({ frames := 8, cells := 2, slots := 12, locals := 126 } : Room) (wP D cI cO cL cJ g X hz sz ou w0 [.ref d, .int p0, .int p1, .ref ou]) (wQ D cO cL cJ g X sz ou (cN_state g X n kc sz p0 p1 0) (cC_state X n kc p0 p1 0) cL_states) 2 12 (wA g sz ou) := by
  refine va_MetW (cc := cL_state) (maxL := 5) (ret := some .int) (hh := [(0, 10, 13, 21)]) (by decide) rfl ?_
  intro p e s m args below meth c s₁ B hml hv
  obtain ⟨rfl, hsz, hW, hK, hE, hw, hN⟩ := hv
  subst hsz
  have hx := B.exec
  have hb := B.bytes
  have hr := B.returns
  have hts := atoms_spec (ws := wsL_state) B.pre
  have hown : s.vm.findClass RL = some m.cls := findClass_of_methodNamed B.named
  have hlocks := B.notSynchronized
  have htab := vx_table (x := yL_state) B (hts (.codeWith yL_state cL_state 5 (some .int) [(0, 10, 13, 21)]) (List.mem_of_getElem? (i := 0) rfl))
  have hl := lv_entry ([.ref d, .int p0, .int p1, .ref ou] : List Value) (n := 5) (Nat.le_of_ble_eq_true rfl)
  rw [lg_entry_eq]
  generalize (lg_sl ([.ref d, .int p0, .int p1, .ref ou] : List Value) ++ List.replicate (5 - (lg_sl ([.ref d, .int p0, .int p1, .ref ou] : List Value)).length) Slot.unset).toArray = ls at hl ⊢
  have hl : lv_has ls 5 [(0, .ref d), (1, .int p0), (2, .int p1), (3, .ref ou)] := hl
  have hS : va_S (xA g s.heap.size) s.heap s.heap [] := va_S.rf
  have hoA : ¬ xA g s.heap.size ou := fun h => h.elim (fun ⟨t, i, h⟩ => hou t i h) (fun h => absurd houz (Nat.not_lt.mpr h))
  refine lv_aload_n hx hb dL_state_0 rfl (lv_at hl 3 rfl) ?_
  refine lv_iconst (v := 0) hx hb dL_state_1 (by decide) ?_
  refine lv_aload_n hx hb dL_state_2 rfl (lv_at hl 0 rfl) ?_
  refine lv_iload_n hx hb dL_state_3 rfl (lv_at hl 1 rfl) ?_
  refine lv_iload_n hx hb dL_state_4 rfl (lv_at hl 2 rfl) ?_
  refine x_cI (vx_runV (As := [.int p0, .int p1]) (rest := [.int 0, .ref ou]) (b := d) ⟨hx, hb, hml, hown, hts⟩ (kX2_state l hlt g X hz _ d bk hd hbk n kc hC p0 p1) (cwV 2 hts gL_state_X2_state rfl rfl rfl (by decide +kernel) ⟨Nat.le_of_ble_eq_true rfl, Nat.le_of_ble_eq_true rfl⟩) (x_preV hW hK hE (x_recvD hK hW hd)) rfl rfl hl.1 rfl (lv_room (Nat.le_of_ble_eq_true rfl)) dL_state_5 ⟨Nat.le_of_ble_eq_true rfl, Nat.le_of_ble_eq_true rfl⟩) hS (fun E ce q9 H1 locs1 hc hz1 hk1 hS1 hL1 hce hcv hcl => ?_) (fun r hp => ?_)
  · skip
    have k0 : E = IOE → vx_W p l e (headSpec wsL_state ({ frames := 8, cells := 2, slots := 12, locals := 126 } : Room)).room s m ([.ref d, .int p0, .int p1, .ref ou] : List Value).toArray below meth c H1 locs1 (0 + 2) (0 + 12) (MQ below (wQ D cO cL cJ g X s.heap.size ou (cN_state g X n kc s.heap.size p0 p1 0) (cC_state X n kc p0 p1 0) cL_states) ([.ref d, .int p0, .int p1, .ref ou] : List Value).toArray s 2 12 (wA g s.heap.size ou)) (F0 m 5 ls [.int 0, .ref ou]) q9 := fun hEe => by
      subst hEe
      exact vx_catch (own := RL) (name := IOE) hown [] ⟨0, 10, 13, 21⟩ [] htab (fun _ h => nomatch h) rfl (by decide) (hts (.classLink RL 21 "java/lang/IndexOutOfBoundsException") (List.mem_of_getElem? (i := 1) rfl)) (cast_of hE (List.mem_of_getElem? (i := 2) rfl)) hce hcv hcl
        (lv_astore (lv' := [(4, .ref q9), (0, .ref d), (1, .int p0), (2, .int p1), (3, .ref ou)]) hx hb dL_state_13 hl (by decide) rfl (fun ls hl => lv_iconst (v := 1) hx hb dL_state_15 (by decide) (w_ret hx hb hr hlocks ⟨Nat.le_of_ble_eq_true rfl, Nat.le_of_ble_eq_true rfl⟩ (hW.more hk1) (hw.kept (hk1 ou houz)) (wS hS1) (Or.inr ⟨⟨IOE, hc, 0, rfl, rfl⟩, rfl, rfl⟩) dL_state_16)))
    exact (hc.elim (fun h => k0 h.1) (fun h => (k0 h.1)))
  · skip
    have hou2 := hou
    refine lv_i2l hx hb dL_state_8 rfl ?_
    refine f_last hx hb hK hw (wS hS) (Or.inr rfl) (i := 0) rfl (by decide) (by decide) dL_state_9 (fun H3 locs3 hl3 hz3 ho hS3 => ?_)
    refine lv_goto (tgt := 17) hx hb dL_state_10 (by decide) ?_
    refine lv_iconst (v := 0) hx hb dL_state_17 (by decide) ?_
    exact w_ret hx hb hr hlocks ⟨Nat.le_of_ble_eq_true rfl, Nat.le_of_ble_eq_true rfl⟩ (hW.kept (fun t i a ha => ho a (fun e => hou2 t i (by rw [← e]; exact ha)))) (one_long hl3) hS3 (Or.inl ⟨rfl, _, ⟨hp, rfl⟩, rfl⟩) dL_state_18
def cN_price (g : XG) (X : MS) (n : Nat) (kc : Nat → Nat) (sz : Nat) (p0 p1 p2 : Int32) : Int32 → XG × MS → Prop := fun r u => (∃ k, k < n ∧ p0 = nI k ∧ r = priceX X k (kc k)) ∧ u = (g, X)
def cC_price (X : MS) (n : Nat) (kc : Nat → Nat) (p0 p1 p2 : Int32) : String → Prop := fun E => noO n p0 E
abbrev cL_prices : List String := [IOE]
set_option maxHeartbeats 4000000 in
set_option maxRecDepth 100000 in
theorem kL_price (l : Launch) (hlt : l.stackTraces = false) {D : va_G} {cI cO cL cJ : ClassId} (g : XG) (X : MS) (hz sz : Nat) (hI : xI g) (hO : xO g hz sz) (ou : Nat) (hou : ∀ t i, g t i ≠ some ou) (houz : ou < sz) (w0 : Int64) (d bk : Nat) (hd : g 3 0 = some d) (hbk : g 4 0 = some bk) (n : Nat) (kc : Nat → Nat) (hC : xC g X n kc) (hZ : xZ g n) (p0 : Int32) : Met l yL_price wsL_price ({ frames := 8, cells := 1, slots := 6, locals := 125 } : Room) (wP D cI cO cL cJ g X hz sz ou w0 [.ref d, .int p0, .ref ou]) (wQ D cO cL cJ g X sz ou (cN_price g X n kc sz p0 0 0) (cC_price X n kc p0 0 0) cL_prices) 1 6 (wA g sz ou) := by
  refine va_MetW (cc := cL_price) (maxL := 4) (ret := some .int) (hh := [(0, 9, 12, 21)]) (by decide) rfl ?_
  intro p e s m args below meth c s₁ B hml hv
  obtain ⟨rfl, hsz, hW, hK, hE, hw, hN⟩ := hv
  subst hsz
  have hx := B.exec
  have hb := B.bytes
  have hr := B.returns
  have hts := atoms_spec (ws := wsL_price) B.pre
  have hown : s.vm.findClass RL = some m.cls := findClass_of_methodNamed B.named
  have hlocks := B.notSynchronized
  have htab := vx_table (x := yL_price) B (hts (.codeWith yL_price cL_price 4 (some .int) [(0, 9, 12, 21)]) (List.mem_of_getElem? (i := 0) rfl))
  have hl := lv_entry ([.ref d, .int p0, .ref ou] : List Value) (n := 4) (Nat.le_of_ble_eq_true rfl)
  rw [lg_entry_eq]
  generalize (lg_sl ([.ref d, .int p0, .ref ou] : List Value) ++ List.replicate (4 - (lg_sl ([.ref d, .int p0, .ref ou] : List Value)).length) Slot.unset).toArray = ls at hl ⊢
  have hl : lv_has ls 4 [(0, .ref d), (1, .int p0), (2, .ref ou)] := hl
  have hS : va_S (xA g s.heap.size) s.heap s.heap [] := va_S.rf
  have hoA : ¬ xA g s.heap.size ou := fun h => h.elim (fun ⟨t, i, h⟩ => hou t i h) (fun h => absurd houz (Nat.not_lt.mpr h))
  refine lv_aload_n hx hb dL_price_0 rfl (lv_at hl 2 rfl) ?_
  refine lv_iconst (v := 0) hx hb dL_price_1 (by decide) ?_
  refine lv_aload_n hx hb dL_price_2 rfl (lv_at hl 0 rfl) ?_
  refine lv_iload_n hx hb dL_price_3 rfl (lv_at hl 1 rfl) ?_
  refine x_cI (vx_runV (As := [.int p0]) (rest := [.int 0, .ref ou]) (b := d) ⟨hx, hb, hml, hown, hts⟩ (kX2_price l hlt g X hz _ d bk hd hbk n kc hC p0) (cwV 1 hts gL_price_X2_price rfl rfl rfl (by decide +kernel) ⟨Nat.le_of_ble_eq_true rfl, Nat.le_of_ble_eq_true rfl⟩) (x_preV hW hK hE (x_recvD hK hW hd)) rfl rfl hl.1 rfl (lv_room (Nat.le_of_ble_eq_true rfl)) dL_price_4 ⟨Nat.le_of_ble_eq_true rfl, Nat.le_of_ble_eq_true rfl⟩) hS (fun E ce q9 H1 locs1 hc hz1 hk1 hS1 hL1 hce hcv hcl => ?_) (fun r hp => ?_)
  · skip
    have k0 : E = IOE → vx_W p l e (headSpec wsL_price ({ frames := 8, cells := 1, slots := 6, locals := 125 } : Room)).room s m ([.ref d, .int p0, .ref ou] : List Value).toArray below meth c H1 locs1 (0 + 1) (0 + 6) (MQ below (wQ D cO cL cJ g X s.heap.size ou (cN_price g X n kc s.heap.size p0 0 0) (cC_price X n kc p0 0 0) cL_prices) ([.ref d, .int p0, .ref ou] : List Value).toArray s 1 6 (wA g s.heap.size ou)) (F0 m 4 ls [.int 0, .ref ou]) q9 := fun hEe => by
      subst hEe
      exact vx_catch (own := RL) (name := IOE) hown [] ⟨0, 9, 12, 21⟩ [] htab (fun _ h => nomatch h) rfl (by decide) (hts (.classLink RL 21 "java/lang/IndexOutOfBoundsException") (List.mem_of_getElem? (i := 1) rfl)) (cast_of hE (List.mem_of_getElem? (i := 2) rfl)) hce hcv hcl
        (lv_astore_n (lv' := [(3, .ref q9), (0, .ref d), (1, .int p0), (2, .ref ou)]) hx hb dL_price_12 rfl hl (by decide) rfl (fun ls hl => lv_iconst (v := 1) hx hb dL_price_13 (by decide) (w_ret hx hb hr hlocks ⟨Nat.le_of_ble_eq_true rfl, Nat.le_of_ble_eq_true rfl⟩ (hW.more hk1) (hw.kept (hk1 ou houz)) (wS hS1) (Or.inr ⟨⟨IOE, hc, 0, rfl, rfl⟩, rfl, rfl⟩) dL_price_14)))
    exact (k0 hc.1)
  · skip
    have hou2 := hou
    refine lv_i2l hx hb dL_price_7 rfl ?_
    refine f_last hx hb hK hw (wS hS) (Or.inr rfl) (i := 0) rfl (by decide) (by decide) dL_price_8 (fun H3 locs3 hl3 hz3 ho hS3 => ?_)
    refine lv_goto (tgt := 15) hx hb dL_price_9 (by decide) ?_
    refine lv_iconst (v := 0) hx hb dL_price_15 (by decide) ?_
    exact w_ret hx hb hr hlocks ⟨Nat.le_of_ble_eq_true rfl, Nat.le_of_ble_eq_true rfl⟩ (hW.kept (fun t i a ha => ho a (fun e => hou2 t i (by rw [← e]; exact ha)))) (one_long hl3) hS3 (Or.inl ⟨rfl, _, ⟨hp, rfl⟩, rfl⟩) dL_price_16
def cN_fees (g : XG) (X : MS) (n : Nat) (kc : Nat → Nat) (sz : Nat) (p0 p1 p2 : Int32) : Int32 → XG × MS → Prop := fun r u => (∃ k, k < n ∧ p0 = nI k ∧ r = X 10 k) ∧ u = (g, X)
def cC_fees (X : MS) (n : Nat) (kc : Nat → Nat) (p0 p1 p2 : Int32) : String → Prop := fun E => noO n p0 E
abbrev cL_feess : List String := [IOE]
set_option maxHeartbeats 4000000 in
set_option maxRecDepth 100000 in
theorem kL_fees (l : Launch) (hlt : l.stackTraces = false) {D : va_G} {cI cO cL cJ : ClassId} (g : XG) (X : MS) (hz sz : Nat) (hI : xI g) (hO : xO g hz sz) (ou : Nat) (hou : ∀ t i, g t i ≠ some ou) (houz : ou < sz) (w0 : Int64) (d bk : Nat) (hd : g 3 0 = some d) (hbk : g 4 0 = some bk) (n : Nat) (kc : Nat → Nat) (hC : xC g X n kc) (hZ : xZ g n) (p0 : Int32) : Met l yL_fees wsL_fees ({ frames := 8, cells := 1, slots := 6, locals := 125 } : Room) (wP D cI cO cL cJ g X hz sz ou w0 [.ref d, .int p0, .ref ou]) (wQ D cO cL cJ g X sz ou (cN_fees g X n kc sz p0 0 0) (cC_fees X n kc p0 0 0) cL_feess) 1 6 (wA g sz ou) := by
  refine va_MetW (cc := cL_fees) (maxL := 4) (ret := some .int) (hh := [(0, 9, 12, 21)]) (by decide) rfl ?_
  intro p e s m args below meth c s₁ B hml hv
  obtain ⟨rfl, hsz, hW, hK, hE, hw, hN⟩ := hv
  subst hsz
  have hx := B.exec
  have hb := B.bytes
  have hr := B.returns
  have hts := atoms_spec (ws := wsL_fees) B.pre
  have hown : s.vm.findClass RL = some m.cls := findClass_of_methodNamed B.named
  have hlocks := B.notSynchronized
  have htab := vx_table (x := yL_fees) B (hts (.codeWith yL_fees cL_fees 4 (some .int) [(0, 9, 12, 21)]) (List.mem_of_getElem? (i := 0) rfl))
  have hl := lv_entry ([.ref d, .int p0, .ref ou] : List Value) (n := 4) (Nat.le_of_ble_eq_true rfl)
  rw [lg_entry_eq]
  generalize (lg_sl ([.ref d, .int p0, .ref ou] : List Value) ++ List.replicate (4 - (lg_sl ([.ref d, .int p0, .ref ou] : List Value)).length) Slot.unset).toArray = ls at hl ⊢
  have hl : lv_has ls 4 [(0, .ref d), (1, .int p0), (2, .ref ou)] := hl
  have hS : va_S (xA g s.heap.size) s.heap s.heap [] := va_S.rf
  have hoA : ¬ xA g s.heap.size ou := fun h => h.elim (fun ⟨t, i, h⟩ => hou t i h) (fun h => absurd houz (Nat.not_lt.mpr h))
  refine lv_aload_n hx hb dL_fees_0 rfl (lv_at hl 2 rfl) ?_
  refine lv_iconst (v := 0) hx hb dL_fees_1 (by decide) ?_
  refine lv_aload_n hx hb dL_fees_2 rfl (lv_at hl 0 rfl) ?_
  refine lv_iload_n hx hb dL_fees_3 rfl (lv_at hl 1 rfl) ?_
  refine x_cI (vx_runV (As := [.int p0]) (rest := [.int 0, .ref ou]) (b := d) ⟨hx, hb, hml, hown, hts⟩ (kX2_fees l hlt g X hz _ d bk hd hbk n kc hC p0) (cwV 1 hts gL_fees_X2_fees rfl rfl rfl (by decide +kernel) ⟨Nat.le_of_ble_eq_true rfl, Nat.le_of_ble_eq_true rfl⟩) (x_preV hW hK hE (x_recvD hK hW hd)) rfl rfl hl.1 rfl (lv_room (Nat.le_of_ble_eq_true rfl)) dL_fees_4 ⟨Nat.le_of_ble_eq_true rfl, Nat.le_of_ble_eq_true rfl⟩) hS (fun E ce q9 H1 locs1 hc hz1 hk1 hS1 hL1 hce hcv hcl => ?_) (fun r hp => ?_)
  · skip
    have k0 : E = IOE → vx_W p l e (headSpec wsL_fees ({ frames := 8, cells := 1, slots := 6, locals := 125 } : Room)).room s m ([.ref d, .int p0, .ref ou] : List Value).toArray below meth c H1 locs1 (0 + 1) (0 + 6) (MQ below (wQ D cO cL cJ g X s.heap.size ou (cN_fees g X n kc s.heap.size p0 0 0) (cC_fees X n kc p0 0 0) cL_feess) ([.ref d, .int p0, .ref ou] : List Value).toArray s 1 6 (wA g s.heap.size ou)) (F0 m 4 ls [.int 0, .ref ou]) q9 := fun hEe => by
      subst hEe
      exact vx_catch (own := RL) (name := IOE) hown [] ⟨0, 9, 12, 21⟩ [] htab (fun _ h => nomatch h) rfl (by decide) (hts (.classLink RL 21 "java/lang/IndexOutOfBoundsException") (List.mem_of_getElem? (i := 1) rfl)) (cast_of hE (List.mem_of_getElem? (i := 2) rfl)) hce hcv hcl
        (lv_astore_n (lv' := [(3, .ref q9), (0, .ref d), (1, .int p0), (2, .ref ou)]) hx hb dL_fees_12 rfl hl (by decide) rfl (fun ls hl => lv_iconst (v := 1) hx hb dL_fees_13 (by decide) (w_ret hx hb hr hlocks ⟨Nat.le_of_ble_eq_true rfl, Nat.le_of_ble_eq_true rfl⟩ (hW.more hk1) (hw.kept (hk1 ou houz)) (wS hS1) (Or.inr ⟨⟨IOE, hc, 0, rfl, rfl⟩, rfl, rfl⟩) dL_fees_14)))
    exact (k0 hc.1)
  · skip
    have hou2 := hou
    refine lv_i2l hx hb dL_fees_7 rfl ?_
    refine f_last hx hb hK hw (wS hS) (Or.inr rfl) (i := 0) rfl (by decide) (by decide) dL_fees_8 (fun H3 locs3 hl3 hz3 ho hS3 => ?_)
    refine lv_goto (tgt := 15) hx hb dL_fees_9 (by decide) ?_
    refine lv_iconst (v := 0) hx hb dL_fees_15 (by decide) ?_
    exact w_ret hx hb hr hlocks ⟨Nat.le_of_ble_eq_true rfl, Nat.le_of_ble_eq_true rfl⟩ (hW.kept (fun t i a ha => ho a (fun e => hou2 t i (by rw [← e]; exact ha)))) (one_long hl3) hS3 (Or.inl ⟨rfl, _, ⟨hp, rfl⟩, rfl⟩) dL_fees_16
def cN_charges (g : XG) (X : MS) (n : Nat) (kc : Nat → Nat) (sz : Nat) (p0 p1 p2 : Int32) : Int32 → XG × MS → Prop := fun r u => (∃ k, k < n ∧ p0 = nI k ∧ r = X 11 k) ∧ u = (g, X)
def cC_charges (X : MS) (n : Nat) (kc : Nat → Nat) (p0 p1 p2 : Int32) : String → Prop := fun E => noO n p0 E
abbrev cL_chargess : List String := [IOE]
set_option maxHeartbeats 4000000 in
set_option maxRecDepth 100000 in
theorem kL_charges (l : Launch) (hlt : l.stackTraces = false) {D : va_G} {cI cO cL cJ : ClassId} (g : XG) (X : MS) (hz sz : Nat) (hI : xI g) (hO : xO g hz sz) (ou : Nat) (hou : ∀ t i, g t i ≠ some ou) (houz : ou < sz) (w0 : Int64) (d bk : Nat) (hd : g 3 0 = some d) (hbk : g 4 0 = some bk) (n : Nat) (kc : Nat → Nat) (hC : xC g X n kc) (hZ : xZ g n) (p0 : Int32) : Met l yL_charges wsL_charges ({ frames := 8, cells := 1, slots := 6, locals := 125 } : Room) (wP D cI cO cL cJ g X hz sz ou w0 [.ref d, .int p0, .ref ou]) (wQ D cO cL cJ g X sz ou (cN_charges g X n kc sz p0 0 0) (cC_charges X n kc p0 0 0) cL_chargess) 1 6 (wA g sz ou) := by
  refine va_MetW (cc := cL_charges) (maxL := 4) (ret := some .int) (hh := [(0, 9, 12, 21)]) (by decide) rfl ?_
  intro p e s m args below meth c s₁ B hml hv
  obtain ⟨rfl, hsz, hW, hK, hE, hw, hN⟩ := hv
  subst hsz
  have hx := B.exec
  have hb := B.bytes
  have hr := B.returns
  have hts := atoms_spec (ws := wsL_charges) B.pre
  have hown : s.vm.findClass RL = some m.cls := findClass_of_methodNamed B.named
  have hlocks := B.notSynchronized
  have htab := vx_table (x := yL_charges) B (hts (.codeWith yL_charges cL_charges 4 (some .int) [(0, 9, 12, 21)]) (List.mem_of_getElem? (i := 0) rfl))
  have hl := lv_entry ([.ref d, .int p0, .ref ou] : List Value) (n := 4) (Nat.le_of_ble_eq_true rfl)
  rw [lg_entry_eq]
  generalize (lg_sl ([.ref d, .int p0, .ref ou] : List Value) ++ List.replicate (4 - (lg_sl ([.ref d, .int p0, .ref ou] : List Value)).length) Slot.unset).toArray = ls at hl ⊢
  have hl : lv_has ls 4 [(0, .ref d), (1, .int p0), (2, .ref ou)] := hl
  have hS : va_S (xA g s.heap.size) s.heap s.heap [] := va_S.rf
  have hoA : ¬ xA g s.heap.size ou := fun h => h.elim (fun ⟨t, i, h⟩ => hou t i h) (fun h => absurd houz (Nat.not_lt.mpr h))
  refine lv_aload_n hx hb dL_charges_0 rfl (lv_at hl 2 rfl) ?_
  refine lv_iconst (v := 0) hx hb dL_charges_1 (by decide) ?_
  refine lv_aload_n hx hb dL_charges_2 rfl (lv_at hl 0 rfl) ?_
  refine lv_iload_n hx hb dL_charges_3 rfl (lv_at hl 1 rfl) ?_
  refine x_cI (vx_runV (As := [.int p0]) (rest := [.int 0, .ref ou]) (b := d) ⟨hx, hb, hml, hown, hts⟩ (kX2_charges l hlt g X hz _ d bk hd hbk n kc hC p0) (cwV 1 hts gL_charges_X2_charges rfl rfl rfl (by decide +kernel) ⟨Nat.le_of_ble_eq_true rfl, Nat.le_of_ble_eq_true rfl⟩) (x_preV hW hK hE (x_recvD hK hW hd)) rfl rfl hl.1 rfl (lv_room (Nat.le_of_ble_eq_true rfl)) dL_charges_4 ⟨Nat.le_of_ble_eq_true rfl, Nat.le_of_ble_eq_true rfl⟩) hS (fun E ce q9 H1 locs1 hc hz1 hk1 hS1 hL1 hce hcv hcl => ?_) (fun r hp => ?_)
  · skip
    have k0 : E = IOE → vx_W p l e (headSpec wsL_charges ({ frames := 8, cells := 1, slots := 6, locals := 125 } : Room)).room s m ([.ref d, .int p0, .ref ou] : List Value).toArray below meth c H1 locs1 (0 + 1) (0 + 6) (MQ below (wQ D cO cL cJ g X s.heap.size ou (cN_charges g X n kc s.heap.size p0 0 0) (cC_charges X n kc p0 0 0) cL_chargess) ([.ref d, .int p0, .ref ou] : List Value).toArray s 1 6 (wA g s.heap.size ou)) (F0 m 4 ls [.int 0, .ref ou]) q9 := fun hEe => by
      subst hEe
      exact vx_catch (own := RL) (name := IOE) hown [] ⟨0, 9, 12, 21⟩ [] htab (fun _ h => nomatch h) rfl (by decide) (hts (.classLink RL 21 "java/lang/IndexOutOfBoundsException") (List.mem_of_getElem? (i := 1) rfl)) (cast_of hE (List.mem_of_getElem? (i := 2) rfl)) hce hcv hcl
        (lv_astore_n (lv' := [(3, .ref q9), (0, .ref d), (1, .int p0), (2, .ref ou)]) hx hb dL_charges_12 rfl hl (by decide) rfl (fun ls hl => lv_iconst (v := 1) hx hb dL_charges_13 (by decide) (w_ret hx hb hr hlocks ⟨Nat.le_of_ble_eq_true rfl, Nat.le_of_ble_eq_true rfl⟩ (hW.more hk1) (hw.kept (hk1 ou houz)) (wS hS1) (Or.inr ⟨⟨IOE, hc, 0, rfl, rfl⟩, rfl, rfl⟩) dL_charges_14)))
    exact (k0 hc.1)
  · skip
    have hou2 := hou
    refine lv_i2l hx hb dL_charges_7 rfl ?_
    refine f_last hx hb hK hw (wS hS) (Or.inr rfl) (i := 0) rfl (by decide) (by decide) dL_charges_8 (fun H3 locs3 hl3 hz3 ho hS3 => ?_)
    refine lv_goto (tgt := 15) hx hb dL_charges_9 (by decide) ?_
    refine lv_iconst (v := 0) hx hb dL_charges_15 (by decide) ?_
    exact w_ret hx hb hr hlocks ⟨Nat.le_of_ble_eq_true rfl, Nat.le_of_ble_eq_true rfl⟩ (hW.kept (fun t i a ha => ho a (fun e => hou2 t i (by rw [← e]; exact ha)))) (one_long hl3) hS3 (Or.inl ⟨rfl, _, ⟨hp, rfl⟩, rfl⟩) dL_charges_16
def cN_taken (g : XG) (X : MS) (n : Nat) (kc : Nat → Nat) (sz : Nat) (p0 p1 p2 : Int32) : Int32 → XG × MS → Prop := fun r u => (∃ k, k < n ∧ p0 = nI k ∧ inR p1 0 2 ∧ r = tkX X k p1) ∧ u = (g, X)
def cC_taken (X : MS) (n : Nat) (kc : Nat → Nat) (p0 p1 p2 : Int32) : String → Prop := fun E => noO n p0 E ∨ (E = IAE ∧ ∃ k, k < n ∧ p0 = nI k ∧ ¬ inR p1 0 2)
abbrev cL_takens : List String := [IOE, IAE]
set_option maxHeartbeats 4000000 in
set_option maxRecDepth 100000 in
theorem kL_taken (l : Launch) (hlt : l.stackTraces = false) {D : va_G} {cI cO cL cJ : ClassId} (g : XG) (X : MS) (hz sz : Nat) (hI : xI g) (hO : xO g hz sz) (ou : Nat) (hou : ∀ t i, g t i ≠ some ou) (houz : ou < sz) (w0 : Int64) (d bk : Nat) (hd : g 3 0 = some d) (hbk : g 4 0 = some bk) (n : Nat) (kc : Nat → Nat) (hC : xC g X n kc) (hZ : xZ g n) (p0 p1 : Int32) : Met l yL_taken wsL_taken ({ frames := 8, cells := 2, slots := 12, locals := 127 } : Room) (wP D cI cO cL cJ g X hz sz ou w0 [.ref d, .int p0, .int p1, .ref ou]) (wQ D cO cL cJ g X sz ou (cN_taken g X n kc sz p0 p1 0) (cC_taken X n kc p0 p1 0) cL_takens) 2 12 (wA g sz ou) := by
  refine va_MetW (cc := cL_taken) (maxL := 5) (ret := some .int) (hh := [(0, 10, 13, 21), (0, 10, 17, 13)]) (by decide) rfl ?_
  intro p e s m args below meth c s₁ B hml hv
  obtain ⟨rfl, hsz, hW, hK, hE, hw, hN⟩ := hv
  subst hsz
  have hx := B.exec
  have hb := B.bytes
  have hr := B.returns
  have hts := atoms_spec (ws := wsL_taken) B.pre
  have hown : s.vm.findClass RL = some m.cls := findClass_of_methodNamed B.named
  have hlocks := B.notSynchronized
  have htab := vx_table (x := yL_taken) B (hts (.codeWith yL_taken cL_taken 5 (some .int) [(0, 10, 13, 21), (0, 10, 17, 13)]) (List.mem_of_getElem? (i := 0) rfl))
  have hl := lv_entry ([.ref d, .int p0, .int p1, .ref ou] : List Value) (n := 5) (Nat.le_of_ble_eq_true rfl)
  rw [lg_entry_eq]
  generalize (lg_sl ([.ref d, .int p0, .int p1, .ref ou] : List Value) ++ List.replicate (5 - (lg_sl ([.ref d, .int p0, .int p1, .ref ou] : List Value)).length) Slot.unset).toArray = ls at hl ⊢
  have hl : lv_has ls 5 [(0, .ref d), (1, .int p0), (2, .int p1), (3, .ref ou)] := hl
  have hS : va_S (xA g s.heap.size) s.heap s.heap [] := va_S.rf
  have hoA : ¬ xA g s.heap.size ou := fun h => h.elim (fun ⟨t, i, h⟩ => hou t i h) (fun h => absurd houz (Nat.not_lt.mpr h))
  refine lv_aload_n hx hb dL_taken_0 rfl (lv_at hl 3 rfl) ?_
  refine lv_iconst (v := 0) hx hb dL_taken_1 (by decide) ?_
  refine lv_aload_n hx hb dL_taken_2 rfl (lv_at hl 0 rfl) ?_
  refine lv_iload_n hx hb dL_taken_3 rfl (lv_at hl 1 rfl) ?_
  refine lv_iload_n hx hb dL_taken_4 rfl (lv_at hl 2 rfl) ?_
  refine x_cI (vx_runV (As := [.int p0, .int p1]) (rest := [.int 0, .ref ou]) (b := d) ⟨hx, hb, hml, hown, hts⟩ (kX2_taken l hlt g X hz _ d bk hd hbk n kc hC p0 p1) (cwV 2 hts gL_taken_X2_taken rfl rfl rfl (by decide +kernel) ⟨Nat.le_of_ble_eq_true rfl, Nat.le_of_ble_eq_true rfl⟩) (x_preV hW hK hE (x_recvD hK hW hd)) rfl rfl hl.1 rfl (lv_room (Nat.le_of_ble_eq_true rfl)) dL_taken_5 ⟨Nat.le_of_ble_eq_true rfl, Nat.le_of_ble_eq_true rfl⟩) hS (fun E ce q9 H1 locs1 hc hz1 hk1 hS1 hL1 hce hcv hcl => ?_) (fun r hp => ?_)
  · skip
    have k0 : E = IOE → vx_W p l e (headSpec wsL_taken ({ frames := 8, cells := 2, slots := 12, locals := 127 } : Room)).room s m ([.ref d, .int p0, .int p1, .ref ou] : List Value).toArray below meth c H1 locs1 (0 + 2) (0 + 12) (MQ below (wQ D cO cL cJ g X s.heap.size ou (cN_taken g X n kc s.heap.size p0 p1 0) (cC_taken X n kc p0 p1 0) cL_takens) ([.ref d, .int p0, .int p1, .ref ou] : List Value).toArray s 2 12 (wA g s.heap.size ou)) (F0 m 5 ls [.int 0, .ref ou]) q9 := fun hEe => by
      subst hEe
      exact vx_catch (own := RL) (name := IOE) hown [] ⟨0, 10, 13, 21⟩ [⟨0, 10, 17, 13⟩] htab (fun _ h => nomatch h) rfl (by decide) (hts (.classLink RL 21 "java/lang/IndexOutOfBoundsException") (List.mem_of_getElem? (i := 1) rfl)) (cast_of hE (List.mem_of_getElem? (i := 2) rfl)) hce hcv hcl
        (lv_astore (lv' := [(4, .ref q9), (0, .ref d), (1, .int p0), (2, .int p1), (3, .ref ou)]) hx hb dL_taken_13 hl (by decide) rfl (fun ls hl => lv_iconst (v := 1) hx hb dL_taken_15 (by decide) (w_ret hx hb hr hlocks ⟨Nat.le_of_ble_eq_true rfl, Nat.le_of_ble_eq_true rfl⟩ (hW.more hk1) (hw.kept (hk1 ou houz)) (wS hS1) (Or.inr ⟨⟨IOE, hc, 0, rfl, rfl⟩, rfl, rfl⟩) dL_taken_16)))
    have k1 : E = IAE → vx_W p l e (headSpec wsL_taken ({ frames := 8, cells := 2, slots := 12, locals := 127 } : Room)).room s m ([.ref d, .int p0, .int p1, .ref ou] : List Value).toArray below meth c H1 locs1 (0 + 2) (0 + 12) (MQ below (wQ D cO cL cJ g X s.heap.size ou (cN_taken g X n kc s.heap.size p0 p1 0) (cC_taken X n kc p0 p1 0) cL_takens) ([.ref d, .int p0, .int p1, .ref ou] : List Value).toArray s 2 12 (wA g s.heap.size ou)) (F0 m 5 ls [.int 0, .ref ou]) q9 := fun hEe => by
      subst hEe
      exact vx_catch (own := RL) (name := IAE) hown [⟨0, 10, 13, 21⟩] ⟨0, 10, 17, 13⟩ [] htab (List.forall_mem_cons.mpr ⟨Or.inr ⟨by decide, IOE, (hts (.classLink RL 21 "java/lang/IndexOutOfBoundsException") (List.mem_of_getElem? (i := 1) rfl)), hN.2.2.2.2.1⟩, (fun _ h => nomatch h)⟩) rfl (by decide) (hts (.classLink RL 13 "java/lang/IllegalArgumentException") (List.mem_of_getElem? (i := 2) rfl)) (cast_of hE (List.mem_of_getElem? (i := 1) rfl)) hce hcv hcl
        (lv_astore (lv' := [(4, .ref q9), (0, .ref d), (1, .int p0), (2, .int p1), (3, .ref ou)]) hx hb dL_taken_17 hl (by decide) rfl (fun ls hl => lv_iconst (v := 2) hx hb dL_taken_19 (by decide) (w_ret hx hb hr hlocks ⟨Nat.le_of_ble_eq_true rfl, Nat.le_of_ble_eq_true rfl⟩ (hW.more hk1) (hw.kept (hk1 ou houz)) (wS hS1) (Or.inr ⟨⟨IAE, hc, 1, rfl, rfl⟩, rfl, rfl⟩) dL_taken_20)))
    exact (hc.elim (fun h => k0 h.1) (fun h => (k1 h.1)))
  · skip
    have hou2 := hou
    refine lv_i2l hx hb dL_taken_8 rfl ?_
    refine f_last hx hb hK hw (wS hS) (Or.inr rfl) (i := 0) rfl (by decide) (by decide) dL_taken_9 (fun H3 locs3 hl3 hz3 ho hS3 => ?_)
    refine lv_goto (tgt := 21) hx hb dL_taken_10 (by decide) ?_
    refine lv_iconst (v := 0) hx hb dL_taken_21 (by decide) ?_
    exact w_ret hx hb hr hlocks ⟨Nat.le_of_ble_eq_true rfl, Nat.le_of_ble_eq_true rfl⟩ (hW.kept (fun t i a ha => ho a (fun e => hou2 t i (by rw [← e]; exact ha)))) (one_long hl3) hS3 (Or.inl ⟨rfl, _, ⟨hp, rfl⟩, rfl⟩) dL_taken_22
def cN_refunded (g : XG) (X : MS) (n : Nat) (kc : Nat → Nat) (sz : Nat) (p0 p1 p2 : Int32) : Int32 → XG × MS → Prop := fun r u => (∃ k, k < n ∧ p0 = nI k ∧ r = X 12 k) ∧ u = (g, X)
def cC_refunded (X : MS) (n : Nat) (kc : Nat → Nat) (p0 p1 p2 : Int32) : String → Prop := fun E => noO n p0 E
abbrev cL_refundeds : List String := [IOE]
set_option maxHeartbeats 4000000 in
set_option maxRecDepth 100000 in
theorem kL_refunded (l : Launch) (hlt : l.stackTraces = false) {D : va_G} {cI cO cL cJ : ClassId} (g : XG) (X : MS) (hz sz : Nat) (hI : xI g) (hO : xO g hz sz) (ou : Nat) (hou : ∀ t i, g t i ≠ some ou) (houz : ou < sz) (w0 : Int64) (d bk : Nat) (hd : g 3 0 = some d) (hbk : g 4 0 = some bk) (n : Nat) (kc : Nat → Nat) (hC : xC g X n kc) (hZ : xZ g n) (p0 : Int32) : Met l yL_refunded wsL_refunded ({ frames := 8, cells := 1, slots := 6, locals := 125 } : Room) (wP D cI cO cL cJ g X hz sz ou w0 [.ref d, .int p0, .ref ou]) (wQ D cO cL cJ g X sz ou (cN_refunded g X n kc sz p0 0 0) (cC_refunded X n kc p0 0 0) cL_refundeds) 1 6 (wA g sz ou) := by
  refine va_MetW (cc := cL_refunded) (maxL := 4) (ret := some .int) (hh := [(0, 9, 12, 21)]) (by decide) rfl ?_
  intro p e s m args below meth c s₁ B hml hv
  obtain ⟨rfl, hsz, hW, hK, hE, hw, hN⟩ := hv
  subst hsz
  have hx := B.exec
  have hb := B.bytes
  have hr := B.returns
  have hts := atoms_spec (ws := wsL_refunded) B.pre
  have hown : s.vm.findClass RL = some m.cls := findClass_of_methodNamed B.named
  have hlocks := B.notSynchronized
  have htab := vx_table (x := yL_refunded) B (hts (.codeWith yL_refunded cL_refunded 4 (some .int) [(0, 9, 12, 21)]) (List.mem_of_getElem? (i := 0) rfl))
  have hl := lv_entry ([.ref d, .int p0, .ref ou] : List Value) (n := 4) (Nat.le_of_ble_eq_true rfl)
  rw [lg_entry_eq]
  generalize (lg_sl ([.ref d, .int p0, .ref ou] : List Value) ++ List.replicate (4 - (lg_sl ([.ref d, .int p0, .ref ou] : List Value)).length) Slot.unset).toArray = ls at hl ⊢
  have hl : lv_has ls 4 [(0, .ref d), (1, .int p0), (2, .ref ou)] := hl
  have hS : va_S (xA g s.heap.size) s.heap s.heap [] := va_S.rf
  have hoA : ¬ xA g s.heap.size ou := fun h => h.elim (fun ⟨t, i, h⟩ => hou t i h) (fun h => absurd houz (Nat.not_lt.mpr h))
  refine lv_aload_n hx hb dL_refunded_0 rfl (lv_at hl 2 rfl) ?_
  refine lv_iconst (v := 0) hx hb dL_refunded_1 (by decide) ?_
  refine lv_aload_n hx hb dL_refunded_2 rfl (lv_at hl 0 rfl) ?_
  refine lv_iload_n hx hb dL_refunded_3 rfl (lv_at hl 1 rfl) ?_
  refine x_cI (vx_runV (As := [.int p0]) (rest := [.int 0, .ref ou]) (b := d) ⟨hx, hb, hml, hown, hts⟩ (kX2_refunded l hlt g X hz _ d bk hd hbk n kc hC p0) (cwV 1 hts gL_refunded_X2_refunded rfl rfl rfl (by decide +kernel) ⟨Nat.le_of_ble_eq_true rfl, Nat.le_of_ble_eq_true rfl⟩) (x_preV hW hK hE (x_recvD hK hW hd)) rfl rfl hl.1 rfl (lv_room (Nat.le_of_ble_eq_true rfl)) dL_refunded_4 ⟨Nat.le_of_ble_eq_true rfl, Nat.le_of_ble_eq_true rfl⟩) hS (fun E ce q9 H1 locs1 hc hz1 hk1 hS1 hL1 hce hcv hcl => ?_) (fun r hp => ?_)
  · skip
    have k0 : E = IOE → vx_W p l e (headSpec wsL_refunded ({ frames := 8, cells := 1, slots := 6, locals := 125 } : Room)).room s m ([.ref d, .int p0, .ref ou] : List Value).toArray below meth c H1 locs1 (0 + 1) (0 + 6) (MQ below (wQ D cO cL cJ g X s.heap.size ou (cN_refunded g X n kc s.heap.size p0 0 0) (cC_refunded X n kc p0 0 0) cL_refundeds) ([.ref d, .int p0, .ref ou] : List Value).toArray s 1 6 (wA g s.heap.size ou)) (F0 m 4 ls [.int 0, .ref ou]) q9 := fun hEe => by
      subst hEe
      exact vx_catch (own := RL) (name := IOE) hown [] ⟨0, 9, 12, 21⟩ [] htab (fun _ h => nomatch h) rfl (by decide) (hts (.classLink RL 21 "java/lang/IndexOutOfBoundsException") (List.mem_of_getElem? (i := 1) rfl)) (cast_of hE (List.mem_of_getElem? (i := 2) rfl)) hce hcv hcl
        (lv_astore_n (lv' := [(3, .ref q9), (0, .ref d), (1, .int p0), (2, .ref ou)]) hx hb dL_refunded_12 rfl hl (by decide) rfl (fun ls hl => lv_iconst (v := 1) hx hb dL_refunded_13 (by decide) (w_ret hx hb hr hlocks ⟨Nat.le_of_ble_eq_true rfl, Nat.le_of_ble_eq_true rfl⟩ (hW.more hk1) (hw.kept (hk1 ou houz)) (wS hS1) (Or.inr ⟨⟨IOE, hc, 0, rfl, rfl⟩, rfl, rfl⟩) dL_refunded_14)))
    exact (k0 hc.1)
  · skip
    have hou2 := hou
    refine lv_i2l hx hb dL_refunded_7 rfl ?_
    refine f_last hx hb hK hw (wS hS) (Or.inr rfl) (i := 0) rfl (by decide) (by decide) dL_refunded_8 (fun H3 locs3 hl3 hz3 ho hS3 => ?_)
    refine lv_goto (tgt := 15) hx hb dL_refunded_9 (by decide) ?_
    refine lv_iconst (v := 0) hx hb dL_refunded_15 (by decide) ?_
    exact w_ret hx hb hr hlocks ⟨Nat.le_of_ble_eq_true rfl, Nat.le_of_ble_eq_true rfl⟩ (hW.kept (fun t i a ha => ho a (fun e => hou2 t i (by rw [← e]; exact ha)))) (one_long hl3) hS3 (Or.inl ⟨rfl, _, ⟨hp, rfl⟩, rfl⟩) dL_refunded_16
def cN_isShortBy (g : XG) (X : MS) (n : Nat) (kc : Nat → Nat) (sz : Nat) (p0 p1 p2 : Int32) : Int32 → XG × MS → Prop := fun r u => (∃ k, k < n ∧ p0 = nI k ∧ r = shX X k (kc k)) ∧ u = (g, X)
def cC_isShortBy (X : MS) (n : Nat) (kc : Nat → Nat) (p0 p1 p2 : Int32) : String → Prop := fun E => noO n p0 E
abbrev cL_isShortBys : List String := [IOE]
set_option maxHeartbeats 4000000 in
set_option maxRecDepth 100000 in
theorem kL_isShortBy (l : Launch) (hlt : l.stackTraces = false) {D : va_G} {cI cO cL cJ : ClassId} (g : XG) (X : MS) (hz sz : Nat) (hI : xI g) (hO : xO g hz sz) (ou : Nat) (hou : ∀ t i, g t i ≠ some ou) (houz : ou < sz) (w0 : Int64) (d bk : Nat) (hd : g 3 0 = some d) (hbk : g 4 0 = some bk) (n : Nat) (kc : Nat → Nat) (hC : xC g X n kc) (hZ : xZ g n) (p0 : Int32) : Met l yL_isShortBy wsL_isShortBy ({ frames := 8, cells := 1, slots := 6, locals := 126 } : Room) (wP D cI cO cL cJ g X hz sz ou w0 [.ref d, .int p0, .ref ou]) (wQ D cO cL cJ g X sz ou (cN_isShortBy g X n kc sz p0 0 0) (cC_isShortBy X n kc p0 0 0) cL_isShortBys) 1 6 (wA g sz ou) := by
  refine va_MetW (cc := cL_isShortBy) (maxL := 4) (ret := some .int) (hh := [(0, 9, 12, 21)]) (by decide) rfl ?_
  intro p e s m args below meth c s₁ B hml hv
  obtain ⟨rfl, hsz, hW, hK, hE, hw, hN⟩ := hv
  subst hsz
  have hx := B.exec
  have hb := B.bytes
  have hr := B.returns
  have hts := atoms_spec (ws := wsL_isShortBy) B.pre
  have hown : s.vm.findClass RL = some m.cls := findClass_of_methodNamed B.named
  have hlocks := B.notSynchronized
  have htab := vx_table (x := yL_isShortBy) B (hts (.codeWith yL_isShortBy cL_isShortBy 4 (some .int) [(0, 9, 12, 21)]) (List.mem_of_getElem? (i := 0) rfl))
  have hl := lv_entry ([.ref d, .int p0, .ref ou] : List Value) (n := 4) (Nat.le_of_ble_eq_true rfl)
  rw [lg_entry_eq]
  generalize (lg_sl ([.ref d, .int p0, .ref ou] : List Value) ++ List.replicate (4 - (lg_sl ([.ref d, .int p0, .ref ou] : List Value)).length) Slot.unset).toArray = ls at hl ⊢
  have hl : lv_has ls 4 [(0, .ref d), (1, .int p0), (2, .ref ou)] := hl
  have hS : va_S (xA g s.heap.size) s.heap s.heap [] := va_S.rf
  have hoA : ¬ xA g s.heap.size ou := fun h => h.elim (fun ⟨t, i, h⟩ => hou t i h) (fun h => absurd houz (Nat.not_lt.mpr h))
  refine lv_aload_n hx hb dL_isShortBy_0 rfl (lv_at hl 2 rfl) ?_
  refine lv_iconst (v := 0) hx hb dL_isShortBy_1 (by decide) ?_
  refine lv_aload_n hx hb dL_isShortBy_2 rfl (lv_at hl 0 rfl) ?_
  refine lv_iload_n hx hb dL_isShortBy_3 rfl (lv_at hl 1 rfl) ?_
  refine x_cI (vx_runV (As := [.int p0]) (rest := [.int 0, .ref ou]) (b := d) ⟨hx, hb, hml, hown, hts⟩ (kX2_isShortBy l hlt g X hz _ d bk hd hbk n kc hC p0) (cwV 1 hts gL_isShortBy_X2_isShortBy rfl rfl rfl (by decide +kernel) ⟨Nat.le_of_ble_eq_true rfl, Nat.le_of_ble_eq_true rfl⟩) (x_preV hW hK hE (x_recvD hK hW hd)) rfl rfl hl.1 rfl (lv_room (Nat.le_of_ble_eq_true rfl)) dL_isShortBy_4 ⟨Nat.le_of_ble_eq_true rfl, Nat.le_of_ble_eq_true rfl⟩) hS (fun E ce q9 H1 locs1 hc hz1 hk1 hS1 hL1 hce hcv hcl => ?_) (fun r hp => ?_)
  · skip
    have k0 : E = IOE → vx_W p l e (headSpec wsL_isShortBy ({ frames := 8, cells := 1, slots := 6, locals := 126 } : Room)).room s m ([.ref d, .int p0, .ref ou] : List Value).toArray below meth c H1 locs1 (0 + 1) (0 + 6) (MQ below (wQ D cO cL cJ g X s.heap.size ou (cN_isShortBy g X n kc s.heap.size p0 0 0) (cC_isShortBy X n kc p0 0 0) cL_isShortBys) ([.ref d, .int p0, .ref ou] : List Value).toArray s 1 6 (wA g s.heap.size ou)) (F0 m 4 ls [.int 0, .ref ou]) q9 := fun hEe => by
      subst hEe
      exact vx_catch (own := RL) (name := IOE) hown [] ⟨0, 9, 12, 21⟩ [] htab (fun _ h => nomatch h) rfl (by decide) (hts (.classLink RL 21 "java/lang/IndexOutOfBoundsException") (List.mem_of_getElem? (i := 1) rfl)) (cast_of hE (List.mem_of_getElem? (i := 2) rfl)) hce hcv hcl
        (lv_astore_n (lv' := [(3, .ref q9), (0, .ref d), (1, .int p0), (2, .ref ou)]) hx hb dL_isShortBy_12 rfl hl (by decide) rfl (fun ls hl => lv_iconst (v := 1) hx hb dL_isShortBy_13 (by decide) (w_ret hx hb hr hlocks ⟨Nat.le_of_ble_eq_true rfl, Nat.le_of_ble_eq_true rfl⟩ (hW.more hk1) (hw.kept (hk1 ou houz)) (wS hS1) (Or.inr ⟨⟨IOE, hc, 0, rfl, rfl⟩, rfl, rfl⟩) dL_isShortBy_14)))
    exact (k0 hc.1)
  · skip
    have hou2 := hou
    refine lv_i2l hx hb dL_isShortBy_7 rfl ?_
    refine f_last hx hb hK hw (wS hS) (Or.inr rfl) (i := 0) rfl (by decide) (by decide) dL_isShortBy_8 (fun H3 locs3 hl3 hz3 ho hS3 => ?_)
    refine lv_goto (tgt := 15) hx hb dL_isShortBy_9 (by decide) ?_
    refine lv_iconst (v := 0) hx hb dL_isShortBy_15 (by decide) ?_
    exact w_ret hx hb hr hlocks ⟨Nat.le_of_ble_eq_true rfl, Nat.le_of_ble_eq_true rfl⟩ (hW.kept (fun t i a ha => ho a (fun e => hou2 t i (by rw [← e]; exact ha)))) (one_long hl3) hS3 (Or.inl ⟨rfl, _, ⟨hp, rfl⟩, rfl⟩) dL_isShortBy_16
def cN_stock (g : XG) (X : MS) (n : Nat) (kc : Nat → Nat) (sz : Nat) (p0 p1 p2 : Int32) : Int32 → XG × MS → Prop := fun r u => (inR p0 0 2 ∧ r = stX X p0) ∧ u = (g, X)
def cC_stock (X : MS) (n : Nat) (kc : Nat → Nat) (p0 p1 p2 : Int32) : String → Prop := fun E => E = IAE ∧ ¬ inR p0 0 2
abbrev cL_stocks : List String := [IAE]
set_option maxHeartbeats 4000000 in
set_option maxRecDepth 100000 in
theorem kL_stock (l : Launch) (hlt : l.stackTraces = false) {D : va_G} {cI cO cL cJ : ClassId} (g : XG) (X : MS) (hz sz : Nat) (hI : xI g) (hO : xO g hz sz) (ou : Nat) (hou : ∀ t i, g t i ≠ some ou) (houz : ou < sz) (w0 : Int64) (d bk : Nat) (hd : g 3 0 = some d) (hbk : g 4 0 = some bk) (n : Nat) (kc : Nat → Nat) (hC : xC g X n kc) (hZ : xZ g n) (p0 : Int32) : Met l yL_stock wsL_stock ({ frames := 8, cells := 1, slots := 6, locals := 125 } : Room) (wP D cI cO cL cJ g X hz sz ou w0 [.ref d, .int p0, .ref ou]) (wQ D cO cL cJ g X sz ou (cN_stock g X n kc sz p0 0 0) (cC_stock X n kc p0 0 0) cL_stocks) 1 6 (wA g sz ou) := by
  refine va_MetW (cc := cL_stock) (maxL := 4) (ret := some .int) (hh := [(0, 9, 12, 13)]) (by decide) rfl ?_
  intro p e s m args below meth c s₁ B hml hv
  obtain ⟨rfl, hsz, hW, hK, hE, hw, hN⟩ := hv
  subst hsz
  have hx := B.exec
  have hb := B.bytes
  have hr := B.returns
  have hts := atoms_spec (ws := wsL_stock) B.pre
  have hown : s.vm.findClass RL = some m.cls := findClass_of_methodNamed B.named
  have hlocks := B.notSynchronized
  have htab := vx_table (x := yL_stock) B (hts (.codeWith yL_stock cL_stock 4 (some .int) [(0, 9, 12, 13)]) (List.mem_of_getElem? (i := 0) rfl))
  have hl := lv_entry ([.ref d, .int p0, .ref ou] : List Value) (n := 4) (Nat.le_of_ble_eq_true rfl)
  rw [lg_entry_eq]
  generalize (lg_sl ([.ref d, .int p0, .ref ou] : List Value) ++ List.replicate (4 - (lg_sl ([.ref d, .int p0, .ref ou] : List Value)).length) Slot.unset).toArray = ls at hl ⊢
  have hl : lv_has ls 4 [(0, .ref d), (1, .int p0), (2, .ref ou)] := hl
  have hS : va_S (xA g s.heap.size) s.heap s.heap [] := va_S.rf
  have hoA : ¬ xA g s.heap.size ou := fun h => h.elim (fun ⟨t, i, h⟩ => hou t i h) (fun h => absurd houz (Nat.not_lt.mpr h))
  refine lv_aload_n hx hb dL_stock_0 rfl (lv_at hl 2 rfl) ?_
  refine lv_iconst (v := 0) hx hb dL_stock_1 (by decide) ?_
  refine lv_aload_n hx hb dL_stock_2 rfl (lv_at hl 0 rfl) ?_
  refine lv_iload_n hx hb dL_stock_3 rfl (lv_at hl 1 rfl) ?_
  refine x_cI (vx_runV (As := [.int p0]) (rest := [.int 0, .ref ou]) (b := d) ⟨hx, hb, hml, hown, hts⟩ (kX2_stock l hlt g X hz _ d bk hd hbk p0) (cwV 1 hts gL_stock_X2_stock rfl rfl rfl (by decide +kernel) ⟨Nat.le_of_ble_eq_true rfl, Nat.le_of_ble_eq_true rfl⟩) (x_preV hW hK hE (x_recvD hK hW hd)) rfl rfl hl.1 rfl (lv_room (Nat.le_of_ble_eq_true rfl)) dL_stock_4 ⟨Nat.le_of_ble_eq_true rfl, Nat.le_of_ble_eq_true rfl⟩) hS (fun E ce q9 H1 locs1 hc hz1 hk1 hS1 hL1 hce hcv hcl => ?_) (fun r hp => ?_)
  · skip
    have k0 : E = IAE → vx_W p l e (headSpec wsL_stock ({ frames := 8, cells := 1, slots := 6, locals := 125 } : Room)).room s m ([.ref d, .int p0, .ref ou] : List Value).toArray below meth c H1 locs1 (0 + 1) (0 + 6) (MQ below (wQ D cO cL cJ g X s.heap.size ou (cN_stock g X n kc s.heap.size p0 0 0) (cC_stock X n kc p0 0 0) cL_stocks) ([.ref d, .int p0, .ref ou] : List Value).toArray s 1 6 (wA g s.heap.size ou)) (F0 m 4 ls [.int 0, .ref ou]) q9 := fun hEe => by
      subst hEe
      exact vx_catch (own := RL) (name := IAE) hown [] ⟨0, 9, 12, 13⟩ [] htab (fun _ h => nomatch h) rfl (by decide) (hts (.classLink RL 13 "java/lang/IllegalArgumentException") (List.mem_of_getElem? (i := 1) rfl)) (cast_of hE (List.mem_of_getElem? (i := 1) rfl)) hce hcv hcl
        (lv_astore_n (lv' := [(3, .ref q9), (0, .ref d), (1, .int p0), (2, .ref ou)]) hx hb dL_stock_12 rfl hl (by decide) rfl (fun ls hl => lv_iconst (v := 1) hx hb dL_stock_13 (by decide) (w_ret hx hb hr hlocks ⟨Nat.le_of_ble_eq_true rfl, Nat.le_of_ble_eq_true rfl⟩ (hW.more hk1) (hw.kept (hk1 ou houz)) (wS hS1) (Or.inr ⟨⟨IAE, hc, 0, rfl, rfl⟩, rfl, rfl⟩) dL_stock_14)))
    exact (k0 hc.1)
  · skip
    have hou2 := hou
    refine lv_i2l hx hb dL_stock_7 rfl ?_
    refine f_last hx hb hK hw (wS hS) (Or.inr rfl) (i := 0) rfl (by decide) (by decide) dL_stock_8 (fun H3 locs3 hl3 hz3 ho hS3 => ?_)
    refine lv_goto (tgt := 15) hx hb dL_stock_9 (by decide) ?_
    refine lv_iconst (v := 0) hx hb dL_stock_15 (by decide) ?_
    exact w_ret hx hb hr hlocks ⟨Nat.le_of_ble_eq_true rfl, Nat.le_of_ble_eq_true rfl⟩ (hW.kept (fun t i a ha => ho a (fun e => hou2 t i (by rw [← e]; exact ha)))) (one_long hl3) hS3 (Or.inl ⟨rfl, _, ⟨hp, rfl⟩, rfl⟩) dL_stock_16
def cN_pass (g : XG) (X : MS) (n : Nat) (kc : Nat → Nat) (sz : Nat) (p0 p1 p2 : Int32) : Int32 → XG × MS → Prop := fun r u => (inR p0 1 400 ∧ p0 ≤ 10000 - X 1 0 ∧ (r, u.2) = qIt (mu X 1 0 (X 1 0 + p0)) kc (X 1 0 + p0) n) ∧ u.1 = g
def cC_pass (X : MS) (n : Nat) (kc : Nat → Nat) (p0 p1 p2 : Int32) : String → Prop := fun E => (E = IAE ∧ ¬ inR p0 1 400) ∨ (E = ISE ∧ inR p0 1 400 ∧ ¬ p0 ≤ 10000 - X 1 0)
abbrev cL_passs : List String := [IAE, ISE]
set_option maxHeartbeats 4000000 in
set_option maxRecDepth 100000 in
theorem kL_pass (l : Launch) (hlt : l.stackTraces = false) {D : va_G} {cI cO cL cJ : ClassId} (g : XG) (X : MS) (hz sz : Nat) (hI : xI g) (hO : xO g hz sz) (ou : Nat) (hou : ∀ t i, g t i ≠ some ou) (houz : ou < sz) (w0 : Int64) (d bk : Nat) (hd : g 3 0 = some d) (hbk : g 4 0 = some bk) (n : Nat) (kc : Nat → Nat) (hC : xC g X n kc) (hZ : xZ g n) (p0 : Int32) : Met l yL_pass wsL_pass ({ frames := 8, cells := 2, slots := 12, locals := 130 } : Room) (wP D cI cO cL cJ g X hz sz ou w0 [.ref d, .int p0, .ref ou]) (wQ D cO cL cJ g X sz ou (cN_pass g X n kc sz p0 0 0) (cC_pass X n kc p0 0 0) cL_passs) 2 12 (wA g sz ou) := by
  refine va_MetW (cc := cL_pass) (maxL := 4) (ret := some .int) (hh := [(0, 9, 12, 13), (0, 9, 15, 15)]) (by decide) rfl ?_
  intro p e s m args below meth c s₁ B hml hv
  obtain ⟨rfl, hsz, hW, hK, hE, hw, hN⟩ := hv
  subst hsz
  have hx := B.exec
  have hb := B.bytes
  have hr := B.returns
  have hts := atoms_spec (ws := wsL_pass) B.pre
  have hown : s.vm.findClass RL = some m.cls := findClass_of_methodNamed B.named
  have hlocks := B.notSynchronized
  have htab := vx_table (x := yL_pass) B (hts (.codeWith yL_pass cL_pass 4 (some .int) [(0, 9, 12, 13), (0, 9, 15, 15)]) (List.mem_of_getElem? (i := 0) rfl))
  have hl := lv_entry ([.ref d, .int p0, .ref ou] : List Value) (n := 4) (Nat.le_of_ble_eq_true rfl)
  rw [lg_entry_eq]
  generalize (lg_sl ([.ref d, .int p0, .ref ou] : List Value) ++ List.replicate (4 - (lg_sl ([.ref d, .int p0, .ref ou] : List Value)).length) Slot.unset).toArray = ls at hl ⊢
  have hl : lv_has ls 4 [(0, .ref d), (1, .int p0), (2, .ref ou)] := hl
  have hS : va_S (xA g s.heap.size) s.heap s.heap [] := va_S.rf
  have hoA : ¬ xA g s.heap.size ou := fun h => h.elim (fun ⟨t, i, h⟩ => hou t i h) (fun h => absurd houz (Nat.not_lt.mpr h))
  refine lv_aload_n hx hb dL_pass_0 rfl (lv_at hl 2 rfl) ?_
  refine lv_iconst (v := 0) hx hb dL_pass_1 (by decide) ?_
  refine lv_aload_n hx hb dL_pass_2 rfl (lv_at hl 0 rfl) ?_
  refine lv_iload_n hx hb dL_pass_3 rfl (lv_at hl 1 rfl) ?_
  refine x_cWI (vx_runV (As := [.int p0]) (rest := [.int 0, .ref ou]) (b := d) ⟨hx, hb, hml, hown, hts⟩ (kX2_pass l hlt g X hz _ hI hO d bk hd hbk n kc hC p0) (cwV 1 hts gL_pass_X2_pass rfl rfl rfl (by decide +kernel) ⟨Nat.le_of_ble_eq_true rfl, Nat.le_of_ble_eq_true rfl⟩) (x_preV hW hK hE (x_recvD hK hW hd)) rfl rfl hl.1 rfl (lv_room (Nat.le_of_ble_eq_true rfl)) dL_pass_4 ⟨Nat.le_of_ble_eq_true rfl, Nat.le_of_ble_eq_true rfl⟩) hS (Nat.le_refl _) (fun E ce q9 H1 locs1 hc hz1 hk1 hS1 hL1 hce hcv hcl => ?_) (fun r X9 H2 locs2 hp hW2 hz2 hk2 hS2 => ?_)
  · skip
    have k0 : E = IAE → vx_W p l e (headSpec wsL_pass ({ frames := 8, cells := 2, slots := 12, locals := 130 } : Room)).room s m ([.ref d, .int p0, .ref ou] : List Value).toArray below meth c H1 locs1 (0 + 2) (0 + 12) (MQ below (wQ D cO cL cJ g X s.heap.size ou (cN_pass g X n kc s.heap.size p0 0 0) (cC_pass X n kc p0 0 0) cL_passs) ([.ref d, .int p0, .ref ou] : List Value).toArray s 2 12 (wA g s.heap.size ou)) (F0 m 4 ls [.int 0, .ref ou]) q9 := fun hEe => by
      subst hEe
      exact vx_catch (own := RL) (name := IAE) hown [] ⟨0, 9, 12, 13⟩ [⟨0, 9, 15, 15⟩] htab (fun _ h => nomatch h) rfl (by decide) (hts (.classLink RL 13 "java/lang/IllegalArgumentException") (List.mem_of_getElem? (i := 1) rfl)) (cast_of hE (List.mem_of_getElem? (i := 1) rfl)) hce hcv hcl
        (lv_astore_n (lv' := [(3, .ref q9), (0, .ref d), (1, .int p0), (2, .ref ou)]) hx hb dL_pass_12 rfl hl (by decide) rfl (fun ls hl => lv_iconst (v := 1) hx hb dL_pass_13 (by decide) (w_ret hx hb hr hlocks ⟨Nat.le_of_ble_eq_true rfl, Nat.le_of_ble_eq_true rfl⟩ (hW.more hk1) (hw.kept (hk1 ou houz)) (wS hS1) (Or.inr ⟨⟨IAE, hc, 0, rfl, rfl⟩, rfl, rfl⟩) dL_pass_14)))
    have k1 : E = ISE → vx_W p l e (headSpec wsL_pass ({ frames := 8, cells := 2, slots := 12, locals := 130 } : Room)).room s m ([.ref d, .int p0, .ref ou] : List Value).toArray below meth c H1 locs1 (0 + 2) (0 + 12) (MQ below (wQ D cO cL cJ g X s.heap.size ou (cN_pass g X n kc s.heap.size p0 0 0) (cC_pass X n kc p0 0 0) cL_passs) ([.ref d, .int p0, .ref ou] : List Value).toArray s 2 12 (wA g s.heap.size ou)) (F0 m 4 ls [.int 0, .ref ou]) q9 := fun hEe => by
      subst hEe
      exact vx_catch (own := RL) (name := ISE) hown [⟨0, 9, 12, 13⟩] ⟨0, 9, 15, 15⟩ [] htab (List.forall_mem_cons.mpr ⟨Or.inr ⟨by decide, IAE, (hts (.classLink RL 13 "java/lang/IllegalArgumentException") (List.mem_of_getElem? (i := 1) rfl)), hN.1⟩, (fun _ h => nomatch h)⟩) rfl (by decide) (hts (.classLink RL 15 "java/lang/IllegalStateException") (List.mem_of_getElem? (i := 2) rfl)) (cast_of hE (List.mem_of_getElem? (i := 0) rfl)) hce hcv hcl
        (lv_astore_n (lv' := [(3, .ref q9), (0, .ref d), (1, .int p0), (2, .ref ou)]) hx hb dL_pass_15 rfl hl (by decide) rfl (fun ls hl => lv_iconst (v := 2) hx hb dL_pass_16 (by decide) (w_ret hx hb hr hlocks ⟨Nat.le_of_ble_eq_true rfl, Nat.le_of_ble_eq_true rfl⟩ (hW.more hk1) (hw.kept (hk1 ou houz)) (wS hS1) (Or.inr ⟨⟨ISE, hc, 1, rfl, rfl⟩, rfl, rfl⟩) dL_pass_17)))
    exact (hc.elim (fun h => k0 h.1) (fun h => (k1 h.1)))
  · skip
    have hou2 := hou
    refine lv_i2l hx hb dL_pass_7 rfl ?_
    refine f_last hx hb hK (hw.kept (hk2 ou houz hoA)) (wS hS2) (Or.inr rfl) (i := 0) rfl (by decide) (by decide) dL_pass_8 (fun H3 locs3 hl3 hz3 ho hS3 => ?_)
    refine lv_goto (tgt := 18) hx hb dL_pass_9 (by decide) ?_
    refine lv_iconst (v := 0) hx hb dL_pass_18 (by decide) ?_
    exact w_ret hx hb hr hlocks ⟨Nat.le_of_ble_eq_true rfl, Nat.le_of_ble_eq_true rfl⟩ (hW2.kept (fun t i a ha => ho a (fun e => hou2 t i (by rw [← e]; exact ha)))) (one_long hl3) hS3 (Or.inl ⟨rfl, _, ⟨hp, rfl⟩, rfl⟩) dL_pass_19

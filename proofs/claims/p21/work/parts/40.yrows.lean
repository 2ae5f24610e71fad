/-! ROWS for the law's methods: calls that can't throw where they are made. -/
theorem nI30 {a b : Nat} (ha : a < 30) (hb : b < 30) (h : nI a = nI b) : a = b := (nI_eq (by omega) (by omega)).mp h
section YRows
variable {p : Program} {l : Launch} {e : Env} {R : Room} {s : State} {m : MethodId} {args : Array Value} {below : List Frame} {meth : Method} {c : Code} {H : Heap} {locs : List Loc} {cells slots : Nat} {Q : State → Prop}
variable {cc : ByteArray} {pc nL ix : Nat} {ls : Array Slot} {rest : List Value} {D : va_G} {cI cO cL cJ : ClassId} {H0 : Heap} {A : Nat → Prop} {g : XG} {X : MS} {hz sz mc ms n : Nat} {kc : Nat → Nat} {d bk : Nat} {cond : String → Prop} {Ts : List Cond} {own : String}
theorem y_cI {post : Int32 → Prop} {st0 : List Value} {a0 : Array Value} (hr : vx_Run p l e R s m args below meth c H locs cells slots mc ms (F0 m pc ls st0) rest (vp_Si post a0) (xT cond) (fun _ => False)) (hc : ∀ E, ¬ cond E)
    (kk : ∀ r : Int32, post r → W p l e R s m args below meth c H locs (cells + mc) (slots + ms) Q (F0 m (pc + 3) ls (.int r :: rest))) : W p l e R s m args below meth c H locs cells slots Q (F0 m pc ls st0) :=
  x_cI (A := fun _ => True) (H0 := H) hr ⟨Nat.le_refl _, fun _ _ _ => rfl, fun _ _ => trivial⟩ (fun E _ _ _ _ hE => absurd hE (hc E)) kk
theorem y_cWI {post : Int32 → MS → Prop} {st0 : List Value} {a0 : Array Value} (hr : vx_Run p l e R s m args below meth c H locs cells slots mc ms (F0 m pc ls st0) rest (xQi D cO cL g H.size post a0) (xT cond) (xA g H.size)) (hS : va_S A H0 H locs) (hA : ∀ q, xA g H.size q → A q) (hc : ∀ E, ¬ cond E)
    (kk : ∀ (r : Int32) (X' : MS) (H1 : Heap) (locs1 : List Loc), post r X' → xW D cO cL g X' H1 → H.size ≤ H1.size → (∀ q : Nat, q < H.size → ¬ xA g H.size q → H1[q]? = H[q]?) → va_S A H0 H1 locs1 → W p l e R s m args below meth c H1 locs1 (cells + mc) (slots + ms) Q (F0 m (pc + 3) ls (.int r :: rest))) : W p l e R s m args below meth c H locs cells slots Q (F0 m pc ls st0) := by
  refine x_run hr hS hA (fun E _ _ _ _ hE => absurd hE (hc E)) (fun v st₀ t T' L h0 e1 hq hL => ?_)
  obtain ⟨⟨r, u, hv, hp, hB⟩, hF⟩ := hq
  cases hv
  obtain ⟨k1, k2, k3⟩ := vx_keep h0 e1 hS (fun q _ h => hA q h) hA hL hF
  exact kk r u T'.heap (locs ++ L) hp (by rw [e1]; exact hB) k1 k2 k3
theorem y_sWI {post : Int32 → MS → Prop} {st0 : List Value} {a0 : Array Value} (hr : va_Run p l e R s m args below meth c H locs cells slots mc ms (F0 m pc ls st0) rest (xQi D cO cL g H.size post a0) (xA g H.size)) (hS : va_S A H0 H locs) (hA : ∀ q, xA g H.size q → A q)
    (kk : ∀ (r : Int32) (X' : MS) (H1 : Heap) (locs1 : List Loc), post r X' → xW D cO cL g X' H1 → H.size ≤ H1.size → (∀ q : Nat, q < H.size → ¬ xA g H.size q → H1[q]? = H[q]?) → va_S A H0 H1 locs1 → W p l e R s m args below meth c H1 locs1 (cells + mc) (slots + ms) Q (F0 m (pc + 3) ls (.int r :: rest))) : W p l e R s m args below meth c H locs cells slots Q (F0 m pc ls st0) := by
  refine va_calli hr hS (fun q _ h => hA q h) hA (fun r u t H1 locs1 ht hvm hp hB hz1 hk hS1 => ?_)
  rw [ht] at hB
  exact kk r u H1 locs1 hp hB hz1 hk hS1
theorem y_sGI {post : Int32 → XG × MS → Prop} {st0 : List Value} {a0 : Array Value} (hr : va_Run p l e R s m args below meth c H locs cells slots mc ms (F0 m pc ls st0) rest (xGi D cO cL g H.size post a0) (xA g H.size)) (hS : va_S A H0 H locs) (hA : ∀ q, xA g H.size q → A q)
    (kk : ∀ (r : Int32) (u : XG × MS) (H1 : Heap) (locs1 : List Loc), post r u → xW D cO cL u.1 u.2 H1 → H.size ≤ H1.size → (∀ q : Nat, q < H.size → ¬ xA g H.size q → H1[q]? = H[q]?) → va_S A H0 H1 locs1 → W p l e R s m args below meth c H1 locs1 (cells + mc) (slots + ms) Q (F0 m (pc + 3) ls (.int r :: rest))) : W p l e R s m args below meth c H locs cells slots Q (F0 m pc ls st0) := by
  refine va_calli hr hS (fun q _ h => hA q h) hA (fun r u t H1 locs1 ht hvm hp hB hz1 hk hS1 => ?_)
  rw [ht] at hB
  exact kk r u H1 locs1 hp hB hz1 hk hS1
theorem y_sI {post : Int32 → Prop} {st0 : List Value} {a0 : Array Value} (hr : va_Run p l e R s m args below meth c H locs cells slots mc ms (F0 m pc ls st0) rest (vp_Si post a0) (fun _ => False))
    (kk : ∀ r : Int32, post r → W p l e R s m args below meth c H locs (cells + mc) (slots + ms) Q (F0 m (pc + 3) ls (.int r :: rest))) : W p l e R s m args below meth c H locs cells slots Q (F0 m pc ls st0) := by
  intro T hT Xs
  obtain ⟨v, st₀, t, T', L, h0, X', hL, e1, e2, ⟨r, hv, hp, hh⟩, st⟩ := hr T hT Xs
  cases hv
  obtain ⟨t2, a1, b1⟩ := kk r hp T' (by rw [e1, hh, h0]) (Stand.forget X' (fun q h => (hL q h).elim))
  exact ⟨t2, st t2 a1, b1⟩
theorem y_ret (hexec : p.tables.exec = Jvm.exec) (hb : c.code = cc) (hr : meth.sig.returnType = some .int) (hlocks : meth.locks = false) (hm : cells ≤ mc ∧ slots ≤ ms) {post : Int32 → Prop} {v : Int32} (hp : post v) (hdg : decode cc pc = .ok (.ireturn, 1)) : W p l e R s m args below meth c s.heap [] cells slots (MQ below (vp_Si post) args s mc ms (fun _ => False)) (F0 m pc ls [.int v]) :=
  W.widen hm.1 hm.2 (W.iret (v := v) hexec hb hr (fun t ht _ => ⟨v, rfl, hp, ht⟩) (fun q h => by cases h) hdg hlocks)
theorem y_zret (hexec : p.tables.exec = Jvm.exec) (hb : c.code = cc) (hr : meth.sig.returnType = some .boolean) (hlocks : meth.locks = false) (hm : cells ≤ mc ∧ slots ≤ ms) {post : Int32 → Prop} {v : Int32} (hv : v = 0 ∨ v = 1) (hp : post v) (hdg : decode cc pc = .ok (.ireturn, 1)) : W p l e R s m args below meth c s.heap [] cells slots (MQ below (vp_Si post) args s mc ms (fun _ => False)) (F0 m pc ls [.int v]) :=
  W.widen hm.1 hm.2 (W.zret (v := v) hexec hb hr (by rcases hv with rfl | rfl <;> rfl) (fun t ht _ => ⟨v, rfl, hp, ht⟩) (fun q h => by cases h) hdg hlocks)
theorem y_wzret (hexec : p.tables.exec = Jvm.exec) (hb : c.code = cc) (hr : meth.sig.returnType = some .boolean) (hlocks : meth.locks = false) (hm : cells ≤ mc ∧ slots ≤ ms) (hW : xW D cO cL g X H) (hS : va_S (xA g sz) s.heap H locs) {post : Int32 → MS → Prop} {v : Int32} (hv : v = 0 ∨ v = 1) (hp : post v X) (hdg : decode cc pc = .ok (.ireturn, 1)) : W p l e R s m args below meth c H locs cells slots (MQ below (xQi D cO cL g sz post) args s mc ms (xA g sz)) (F0 m pc ls [.int v]) :=
  W.widen hm.1 hm.2 (W.zret (v := v) hexec hb hr (by rcases hv with rfl | rfl <;> rfl) (fun t ht _ => ⟨⟨v, X, rfl, hp, by show xW D cO cL g X t.heap; rw [ht]; exact hW⟩, hS.F ht⟩) hS.2.2 hdg hlocks)
theorem cast_of (hE : xE hz s H) {E : String} (h : Cond.castable E E ∈ xNon) : (Cond.castable E E).before args s = true := va_Nw.use (xNon_tab _ h) (hE.2.2.1 _ h)
theorem y_noO {k : Nat} (hn : n ≤ 30) (hk : k < n) {E : String} : ¬ noO n (nI k) E := fun h => h.2 (vp_in_nI hk (by omega))
theorem y_noL {k j : Nat} (hn : n ≤ 30) (hk : k < n) (h8 : kc k ≤ 8) (hj : j < kc k) {E : String} : ¬ noL n kc (nI k) (nI j) E := by
  rintro ⟨-, k', hk', e, h⟩
  have := nI30 (by omega) (by omega) e
  subst this
  exact h (vp_in_nI hj (by omega))
theorem y_isL {k j k' j' : Nat} (hC : xC g X n kc) (hk : k < n) (hj : j < kc k) (h : isL n kc (nI k) (nI j) k' j') : k' = k ∧ j' = j := by
  obtain ⟨h1, h2, h3, h4⟩ := h
  have hn := hC.1
  have e := nI30 (by omega) (by omega) h2
  subst e
  have h8 := (hC.2.2.2 k h1).1
  exact ⟨rfl, (nI30 (by omega) (by omega) h4).symm⟩
theorem y_in (r : Nat) {N : Nat} {x : Int32} (hx : x = nI N) (hr : r ≤ N) (hN : N < 2 ^ 31) : inR (nI r) 0 x := by
  subst hx
  exact ⟨nI_pos (by omega), nI_nlt hr hN⟩

variable {g' : XG} {X' : MS}
theorem x_cGI {post : Int32 → XG × MS → Prop} {st0 : List Value} {a0 : Array Value} {szA : Nat} (hr : vx_Run p l e R s m args below meth c H locs cells slots mc ms (F0 m pc ls st0) rest (xGi D cO cL g H.size post a0) (xT cond) (xA g H.size)) (hS : va_S (xA g szA) H0 H locs) (hsz : szA ≤ H.size)
    (kx : ∀ (E : String) (ce : Cell) (q9 : Nat) (H1 : Heap) (locs1 : List Loc), cond E → H.size ≤ H1.size → (∀ q, q < H.size → H1[q]? = H[q]?) → va_S (xA g szA) H0 H1 locs1 → (∀ z ∈ locs1, z ∈ locs ∨ xA g H.size z.base) → H1[q9]? = some ce → ce.vm = .none → s.vm.findClass E = some ce.cls → vx_W p l e R s m args below meth c H1 locs1 (cells + mc) (slots + ms) Q (F0 m pc ls rest) q9)
    (kk : ∀ (r : Int32) (u : XG × MS) (H1 : Heap) (locs1 : List Loc), post r u → xW D cO cL u.1 u.2 H1 → H.size ≤ H1.size → (∀ q : Nat, q < H.size → ¬ xA g H.size q → H1[q]? = H[q]?) → va_S (xA g szA) H0 H1 locs1 → W p l e R s m args below meth c H1 locs1 (cells + mc) (slots + ms) Q (F0 m (pc + 3) ls (.int r :: rest))) : W p l e R s m args below meth c H locs cells slots Q (F0 m pc ls st0) := by
  have hAA : ∀ q, xA g H.size q → xA g szA q := fun q h => h.imp id (fun h => Nat.le_trans hsz h)
  refine x_run hr hS hAA kx (fun v st₀ t T' L h0 e1 hq hL => ?_)
  obtain ⟨⟨r, u, hv, hp, hB⟩, hF⟩ := hq
  cases hv
  obtain ⟨k1, k2, k3⟩ := vx_keep h0 e1 hS (fun q _ h => hAA q h) hAA hL hF
  exact kk r u T'.heap (locs ++ L) hp (by rw [e1]; exact hB) k1 k2 k3
set_option maxHeartbeats 1000000 in
theorem z_price (hlt : l.stackTraces = false) (S : CallFix p m c cc nL s args Ts RL) (hT : GoodIn Ts (wsV RL ix RX2 yX2_price wsX2_price)) (hW : xW D cO cL g X H) (hK : KK D cI cO cL cJ s) (hE : xE hz s H) (hd : g 3 0 = some d) (hbk : g 4 0 = some bk) (hC : xC g X n kc) {k : Nat} (hk : k < n) (hls : ls.size = nL) (hrest : (rest.map fun v => v.category).sum ≤ 8) (hdg : decode cc pc = .ok (.invokevirtual ix, 3)) (hR : 8 ≤ R.frames ∧ 125 ≤ R.locals) (hcs : cells + 1 ≤ R.cells ∧ slots + 6 ≤ R.slots)
    (kk : W p l e R s m args below meth c H locs (cells + 1) (slots + 6) Q (F0 m (pc + 3) ls (.int (priceX X k (kc k)) :: rest))) : W p l e R s m args below meth c H locs cells slots Q (F0 m pc ls (.int (nI k) :: .ref d :: rest)) := by
  refine y_cI (vx_runV (As := [.int (nI k)]) (rest := rest) (b := d) S (kX2_price l hlt g X hz _ d bk hd hbk n kc hC (nI k)) (cwV 1 S.2.2.2.2 hT rfl rfl rfl (by decide +kernel) hR) (x_preV hW hK hE (x_recvD hK hW hd)) rfl rfl hls rfl (lv_room hrest) hdg hcs) (fun E => y_noO hC.1 hk) (fun r hp => ?_)
  obtain ⟨k', hk', e, rfl⟩ := hp
  have hn := hC.1
  have := nI30 (by omega) (by omega) e
  subst this
  exact kk
set_option maxHeartbeats 1000000 in
theorem z_fees (hlt : l.stackTraces = false) (S : CallFix p m c cc nL s args Ts RL) (hT : GoodIn Ts (wsV RL ix RX2 yX2_fees wsX2_fees)) (hW : xW D cO cL g X H) (hK : KK D cI cO cL cJ s) (hE : xE hz s H) (hd : g 3 0 = some d) (hbk : g 4 0 = some bk) (hC : xC g X n kc) {k : Nat} (hk : k < n) (hls : ls.size = nL) (hrest : (rest.map fun v => v.category).sum ≤ 8) (hdg : decode cc pc = .ok (.invokevirtual ix, 3)) (hR : 8 ≤ R.frames ∧ 125 ≤ R.locals) (hcs : cells + 1 ≤ R.cells ∧ slots + 6 ≤ R.slots)
    (kk : W p l e R s m args below meth c H locs (cells + 1) (slots + 6) Q (F0 m (pc + 3) ls (.int (X 10 k) :: rest))) : W p l e R s m args below meth c H locs cells slots Q (F0 m pc ls (.int (nI k) :: .ref d :: rest)) := by
  refine y_cI (vx_runV (As := [.int (nI k)]) (rest := rest) (b := d) S (kX2_fees l hlt g X hz _ d bk hd hbk n kc hC (nI k)) (cwV 1 S.2.2.2.2 hT rfl rfl rfl (by decide +kernel) hR) (x_preV hW hK hE (x_recvD hK hW hd)) rfl rfl hls rfl (lv_room hrest) hdg hcs) (fun E => y_noO hC.1 hk) (fun r hp => ?_)
  obtain ⟨k', hk', e, rfl⟩ := hp
  have hn := hC.1
  have := nI30 (by omega) (by omega) e
  subst this
  exact kk
set_option maxHeartbeats 1000000 in
theorem z_charges (hlt : l.stackTraces = false) (S : CallFix p m c cc nL s args Ts RL) (hT : GoodIn Ts (wsV RL ix RX2 yX2_charges wsX2_charges)) (hW : xW D cO cL g X H) (hK : KK D cI cO cL cJ s) (hE : xE hz s H) (hd : g 3 0 = some d) (hbk : g 4 0 = some bk) (hC : xC g X n kc) {k : Nat} (hk : k < n) (hls : ls.size = nL) (hrest : (rest.map fun v => v.category).sum ≤ 8) (hdg : decode cc pc = .ok (.invokevirtual ix, 3)) (hR : 8 ≤ R.frames ∧ 125 ≤ R.locals) (hcs : cells + 1 ≤ R.cells ∧ slots + 6 ≤ R.slots)
    (kk : W p l e R s m args below meth c H locs (cells + 1) (slots + 6) Q (F0 m (pc + 3) ls (.int (X 11 k) :: rest))) : W p l e R s m args below meth c H locs cells slots Q (F0 m pc ls (.int (nI k) :: .ref d :: rest)) := by
  refine y_cI (vx_runV (As := [.int (nI k)]) (rest := rest) (b := d) S (kX2_charges l hlt g X hz _ d bk hd hbk n kc hC (nI k)) (cwV 1 S.2.2.2.2 hT rfl rfl rfl (by decide +kernel) hR) (x_preV hW hK hE (x_recvD hK hW hd)) rfl rfl hls rfl (lv_room hrest) hdg hcs) (fun E => y_noO hC.1 hk) (fun r hp => ?_)
  obtain ⟨k', hk', e, rfl⟩ := hp
  have hn := hC.1
  have := nI30 (by omega) (by omega) e
  subst this
  exact kk
set_option maxHeartbeats 1000000 in
theorem z_refunded (hlt : l.stackTraces = false) (S : CallFix p m c cc nL s args Ts RL) (hT : GoodIn Ts (wsV RL ix RX2 yX2_refunded wsX2_refunded)) (hW : xW D cO cL g X H) (hK : KK D cI cO cL cJ s) (hE : xE hz s H) (hd : g 3 0 = some d) (hbk : g 4 0 = some bk) (hC : xC g X n kc) {k : Nat} (hk : k < n) (hls : ls.size = nL) (hrest : (rest.map fun v => v.category).sum ≤ 8) (hdg : decode cc pc = .ok (.invokevirtual ix, 3)) (hR : 8 ≤ R.frames ∧ 125 ≤ R.locals) (hcs : cells + 1 ≤ R.cells ∧ slots + 6 ≤ R.slots)
    (kk : W p l e R s m args below meth c H locs (cells + 1) (slots + 6) Q (F0 m (pc + 3) ls (.int (X 12 k) :: rest))) : W p l e R s m args below meth c H locs cells slots Q (F0 m pc ls (.int (nI k) :: .ref d :: rest)) := by
  refine y_cI (vx_runV (As := [.int (nI k)]) (rest := rest) (b := d) S (kX2_refunded l hlt g X hz _ d bk hd hbk n kc hC (nI k)) (cwV 1 S.2.2.2.2 hT rfl rfl rfl (by decide +kernel) hR) (x_preV hW hK hE (x_recvD hK hW hd)) rfl rfl hls rfl (lv_room hrest) hdg hcs) (fun E => y_noO hC.1 hk) (fun r hp => ?_)
  obtain ⟨k', hk', e, rfl⟩ := hp
  have hn := hC.1
  have := nI30 (by omega) (by omega) e
  subst this
  exact kk
set_option maxHeartbeats 1000000 in
theorem z_isShortBy (hlt : l.stackTraces = false) (S : CallFix p m c cc nL s args Ts RL) (hT : GoodIn Ts (wsV RL ix RX2 yX2_isShortBy wsX2_isShortBy)) (hW : xW D cO cL g X H) (hK : KK D cI cO cL cJ s) (hE : xE hz s H) (hd : g 3 0 = some d) (hbk : g 4 0 = some bk) (hC : xC g X n kc) {k : Nat} (hk : k < n) (hls : ls.size = nL) (hrest : (rest.map fun v => v.category).sum ≤ 8) (hdg : decode cc pc = .ok (.invokevirtual ix, 3)) (hR : 8 ≤ R.frames ∧ 126 ≤ R.locals) (hcs : cells + 1 ≤ R.cells ∧ slots + 6 ≤ R.slots)
    (kk : W p l e R s m args below meth c H locs (cells + 1) (slots + 6) Q (F0 m (pc + 3) ls (.int (shX X k (kc k)) :: rest))) : W p l e R s m args below meth c H locs cells slots Q (F0 m pc ls (.int (nI k) :: .ref d :: rest)) := by
  refine y_cI (vx_runV (As := [.int (nI k)]) (rest := rest) (b := d) S (kX2_isShortBy l hlt g X hz _ d bk hd hbk n kc hC (nI k)) (cwV 1 S.2.2.2.2 hT rfl rfl rfl (by decide +kernel) hR) (x_preV hW hK hE (x_recvD hK hW hd)) rfl rfl hls rfl (lv_room hrest) hdg hcs) (fun E => y_noO hC.1 hk) (fun r hp => ?_)
  obtain ⟨k', hk', e, rfl⟩ := hp
  have hn := hC.1
  have := nI30 (by omega) (by omega) e
  subst this
  exact kk
set_option maxHeartbeats 1000000 in
theorem z_taken (hlt : l.stackTraces = false) (S : CallFix p m c cc nL s args Ts RL) (hT : GoodIn Ts (wsV RL ix RX2 yX2_taken wsX2_taken)) (hW : xW D cO cL g X H) (hK : KK D cI cO cL cJ s) (hE : xE hz s H) (hd : g 3 0 = some d) (hbk : g 4 0 = some bk) (hC : xC g X n kc) {k : Nat} (hk : k < n) {w v : Int32} (hw : inR w 0 2) (hv : tkX X k w = v) (hls : ls.size = nL) (hrest : (rest.map fun v => v.category).sum ≤ 8) (hdg : decode cc pc = .ok (.invokevirtual ix, 3)) (hR : 8 ≤ R.frames ∧ 127 ≤ R.locals) (hcs : cells + 2 ≤ R.cells ∧ slots + 12 ≤ R.slots)
    (kk : W p l e R s m args below meth c H locs (cells + 2) (slots + 12) Q (F0 m (pc + 3) ls (.int v :: rest))) : W p l e R s m args below meth c H locs cells slots Q (F0 m pc ls (.int w :: .int (nI k) :: .ref d :: rest)) := by
  refine y_cI (vx_runV (As := [.int (nI k), .int w]) (rest := rest) (b := d) S (kX2_taken l hlt g X hz _ d bk hd hbk n kc hC (nI k) w) (cwV 2 S.2.2.2.2 hT rfl rfl rfl (by decide +kernel) hR) (x_preV hW hK hE (x_recvD hK hW hd)) rfl rfl hls rfl (lv_room hrest) hdg hcs) (fun E h => h.elim (y_noO hC.1 hk) (fun h => by obtain ⟨-, k9, -, -, h⟩ := h; exact h hw)) (fun r hp => ?_)
  obtain ⟨k', hk', e, -, rfl⟩ := hp
  have hn := hC.1
  have := nI30 (by omega) (by omega) e
  subst this
  rw [hv]
  exact kk
set_option maxHeartbeats 1000000 in
theorem z_stock (hlt : l.stackTraces = false) (S : CallFix p m c cc nL s args Ts RL) (hT : GoodIn Ts (wsV RL ix RX2 yX2_stock wsX2_stock)) (hW : xW D cO cL g X H) (hK : KK D cI cO cL cJ s) (hE : xE hz s H) (hd : g 3 0 = some d) (hbk : g 4 0 = some bk) {w v : Int32} (hw : inR w 0 2) (hv : stX X w = v) (hls : ls.size = nL) (hrest : (rest.map fun v => v.category).sum ≤ 8) (hdg : decode cc pc = .ok (.invokevirtual ix, 3)) (hR : 8 ≤ R.frames ∧ 125 ≤ R.locals) (hcs : cells + 1 ≤ R.cells ∧ slots + 6 ≤ R.slots)
    (kk : W p l e R s m args below meth c H locs (cells + 1) (slots + 6) Q (F0 m (pc + 3) ls (.int v :: rest))) : W p l e R s m args below meth c H locs cells slots Q (F0 m pc ls (.int w :: .ref d :: rest)) := by
  refine y_cI (vx_runV (As := [.int w]) (rest := rest) (b := d) S (kX2_stock l hlt g X hz _ d bk hd hbk w) (cwV 1 S.2.2.2.2 hT rfl rfl rfl (by decide +kernel) hR) (x_preV hW hK hE (x_recvD hK hW hd)) rfl rfl hls rfl (lv_room hrest) hdg hcs) (fun E h => h.2 hw) (fun r hp => ?_)
  obtain ⟨-, rfl⟩ := hp
  rw [hv]
  exact kk
set_option maxHeartbeats 1000000 in
theorem z_state (hlt : l.stackTraces = false) (S : CallFix p m c cc nL s args Ts RL) (hT : GoodIn Ts (wsV RL ix RX2 yX2_state wsX2_state)) (hW : xW D cO cL g X H) (hK : KK D cI cO cL cJ s) (hE : xE hz s H) (hd : g 3 0 = some d) (hbk : g 4 0 = some bk) (hC : xC g X n kc) {k j : Nat} (hk : k < n) (hj : j < kc k) (hls : ls.size = nL) (hrest : (rest.map fun v => v.category).sum ≤ 8) (hdg : decode cc pc = .ok (.invokevirtual ix, 3)) (hR : 8 ≤ R.frames ∧ 126 ≤ R.locals) (hcs : cells + 2 ≤ R.cells ∧ slots + 12 ≤ R.slots)
    (kk : W p l e R s m args below meth c H locs (cells + 2) (slots + 12) Q (F0 m (pc + 3) ls (.int (X 18 (8 * k + j)) :: rest))) : W p l e R s m args below meth c H locs cells slots Q (F0 m pc ls (.int (nI j) :: .int (nI k) :: .ref d :: rest)) := by
  refine y_cI (vx_runV (As := [.int (nI k), .int (nI j)]) (rest := rest) (b := d) S (kX2_state l hlt g X hz _ d bk hd hbk n kc hC (nI k) (nI j)) (cwV 2 S.2.2.2.2 hT rfl rfl rfl (by decide +kernel) hR) (x_preV hW hK hE (x_recvD hK hW hd)) rfl rfl hls rfl (lv_room hrest) hdg hcs) (fun E h => h.elim (y_noO hC.1 hk) (y_noL hC.1 hk (hC.2.2.2 k hk).1 hj)) (fun r hp => ?_)
  obtain ⟨k', j', hL, hp⟩ := hp
  obtain ⟨rfl, rfl⟩ := y_isL hC hk hj hL
  subst hp
  exact kk
set_option maxHeartbeats 1000000 in
theorem z_mayComeBack (hlt : l.stackTraces = false) (S : CallFix p m c cc nL s args Ts RL) (hT : GoodIn Ts (wsV RL ix RX2 yX2_mayComeBack wsX2_mayComeBack)) (hW : xW D cO cL g X H) (hK : KK D cI cO cL cJ s) (hE : xE hz s H) (hd : g 3 0 = some d) (hbk : g 4 0 = some bk) (hC : xC g X n kc) {k j : Nat} (hk : k < n) (hj : j < kc k) {w : Int32} (hw : inR w 0 1) (hls : ls.size = nL) (hrest : (rest.map fun v => v.category).sum ≤ 8) (hdg : decode cc pc = .ok (.invokevirtual ix, 3)) (hR : 8 ≤ R.frames ∧ 129 ≤ R.locals) (hcs : cells + 3 ≤ R.cells ∧ slots + 18 ≤ R.slots)
    (kk : W p l e R s m args below meth c H locs (cells + 3) (slots + 18) Q (F0 m (pc + 3) ls (.int (retX X k (8 * k + j) w) :: rest))) : W p l e R s m args below meth c H locs cells slots Q (F0 m pc ls (.int w :: .int (nI j) :: .int (nI k) :: .ref d :: rest)) := by
  refine y_cI (vx_runV (As := [.int (nI k), .int (nI j), .int w]) (rest := rest) (b := d) S (kX2_mayComeBack l hlt g X hz _ d bk hd hbk n kc hC (nI k) (nI j) w) (cwV 3 S.2.2.2.2 hT rfl rfl rfl (by decide +kernel) hR) (x_preV hW hK hE (x_recvD hK hW hd)) rfl rfl hls rfl (lv_room hrest) hdg hcs) (fun E h => h.elim (y_noO hC.1 hk) (fun h => h.elim (y_noL hC.1 hk (hC.2.2.2 k hk).1 hj) (fun h => by obtain ⟨-, k9, j9, -, h⟩ := h; exact h hw))) (fun r hp => ?_)
  obtain ⟨k', j', hL, hp⟩ := hp
  obtain ⟨rfl, rfl⟩ := y_isL hC hk hj hL
  obtain ⟨-, rfl⟩ := hp
  exact kk
theorem z_orders (hlt : l.stackTraces = false) (S : CallFix p m c cc nL s args Ts RL) (hT : GoodIn Ts (wsV RL ix RX2 yX2_orders wsX2_orders)) (hW : xW D cO cL g X H) (hK : KK D cI cO cL cJ s) (hE : xE hz s H) (hd : g 3 0 = some d) (hbk : g 4 0 = some bk) (hls : ls.size = nL) (hrest : (rest.map fun v => v.category).sum ≤ 8) (hdg : decode cc pc = .ok (.invokevirtual ix, 3)) (hR : 1 ≤ R.frames ∧ 20 ≤ R.locals) (hcs : cells ≤ R.cells ∧ slots ≤ R.slots)
    (kk : W p l e R s m args below meth c H locs cells slots Q (F0 m (pc + 3) ls (.int (X 0 0) :: rest))) : W p l e R s m args below meth c H locs cells slots Q (F0 m pc ls (.ref d :: rest)) := by
  refine vp_callSi (va_runV (As := []) (rest := rest) (b := d) S (kX2_orders l g X hz H.size d bk hd hbk) (cwV 0 S.2.2.2.2 hT rfl rfl rfl (by decide +kernel) hR) (x_preV hW hK hE (x_recvD hK hW hd)) rfl rfl hls rfl (lv_room hrest) hdg hcs).run (fun r hr => ?_)
  subst hr
  exact kk
theorem z_day (hlt : l.stackTraces = false) (S : CallFix p m c cc nL s args Ts RL) (hT : GoodIn Ts (wsV RL ix RX2 yX2_day wsX2_day)) (hW : xW D cO cL g X H) (hK : KK D cI cO cL cJ s) (hE : xE hz s H) (hd : g 3 0 = some d) (hbk : g 4 0 = some bk) (hls : ls.size = nL) (hrest : (rest.map fun v => v.category).sum ≤ 8) (hdg : decode cc pc = .ok (.invokevirtual ix, 3)) (hR : 1 ≤ R.frames ∧ 20 ≤ R.locals) (hcs : cells ≤ R.cells ∧ slots ≤ R.slots)
    (kk : W p l e R s m args below meth c H locs cells slots Q (F0 m (pc + 3) ls (.int (X 1 0) :: rest))) : W p l e R s m args below meth c H locs cells slots Q (F0 m pc ls (.ref d :: rest)) := by
  refine vp_callSi (va_runV (As := []) (rest := rest) (b := d) S (kX2_day l g X hz H.size d bk hd hbk) (cwV 0 S.2.2.2.2 hT rfl rfl rfl (by decide +kernel) hR) (x_preV hW hK hE (x_recvD hK hW hd)) rfl rfl hls rfl (lv_room hrest) hdg hcs).run (fun r hr => ?_)
  subst hr
  exact kk
theorem z_grade (hlt : l.stackTraces = false) (S : CallFix p m c cc nL s args Ts RL) (hT : GoodIn Ts (wsV RL ix RX2 yX2_grade wsX2_grade)) (hW : xW D cO cL g X H) (hK : KK D cI cO cL cJ s) (hE : xE hz s H) (hd : g 3 0 = some d) (hbk : g 4 0 = some bk) (hI : xI g) (hO : xO g hz H.size) (hS : va_S A H0 H locs) (hA : ∀ q, xA g H.size q → A q) (hC : xC g X n kc) {k j : Nat} (hk : k < n) (hj : j < kc k) {w : Int32} (hw : inR w 0 3) (hwt : ¬ wtX X (8 * k + j) = 0) (hls : ls.size = nL) (hrest : (rest.map fun v => v.category).sum ≤ 8) (hdg : decode cc pc = .ok (.invokevirtual ix, 3)) (hR : 8 ≤ R.frames ∧ 129 ≤ R.locals) (hcs : cells + 4 ≤ R.cells ∧ slots + 24 ≤ R.slots)
    (kk : ∀ (H1 : Heap) (locs1 : List Loc), xW D cO cL g ((gradeX X k (kc k) (8 * k + j) w).2) H1 → H.size ≤ H1.size → (∀ q : Nat, q < H.size → ¬ xA g H.size q → H1[q]? = H[q]?) → va_S A H0 H1 locs1 → W p l e R s m args below meth c H1 locs1 (cells + 4) (slots + 24) Q (F0 m (pc + 3) ls (.int ((gradeX X k (kc k) (8 * k + j) w).1) :: rest))) : W p l e R s m args below meth c H locs cells slots Q (F0 m pc ls (.int w :: .int (nI j) :: .int (nI k) :: .ref d :: rest)) := by
  refine y_cWI (vx_runV (As := [.int (nI k), .int (nI j), .int w]) (rest := rest) (b := d) S (kX2_grade l hlt g X hz _ hI hO d bk hd hbk n kc hC (nI k) (nI j) w) (cwV 3 S.2.2.2.2 hT rfl rfl rfl (by decide +kernel) hR) (x_preV hW hK hE (x_recvD hK hW hd)) rfl rfl hls rfl (lv_room hrest) hdg hcs) hS hA (fun E h => ?_) (fun r X9 H1 locs1 hp hW1 hz1 hk1 hS1 => ?_)
  · rcases h with h | h | ⟨-, k9, j9, -, h⟩ | ⟨-, k9, j9, hL, -, h⟩
    · exact y_noO hC.1 hk h
    · exact y_noL hC.1 hk (hC.2.2.2 k hk).1 hj h
    · exact h hw
    · obtain ⟨rfl, rfl⟩ := y_isL hC hk hj hL
      exact hwt h
  · obtain ⟨k', j', hL, -, -, hp⟩ := hp
    obtain ⟨rfl, rfl⟩ := y_isL hC hk hj hL
    have e1 : r = (gradeX X k' (kc k') (8 * k' + j') w).1 := congrArg Prod.fst hp
    have e2 : X9 = (gradeX X k' (kc k') (8 * k' + j') w).2 := congrArg Prod.snd hp
    subst e1 e2
    exact kk H1 locs1 hW1 hz1 hk1 hS1
theorem z_pass (hlt : l.stackTraces = false) (S : CallFix p m c cc nL s args Ts RL) (hT : GoodIn Ts (wsV RL ix RX2 yX2_pass wsX2_pass)) (hW : xW D cO cL g X H) (hK : KK D cI cO cL cJ s) (hE : xE hz s H) (hd : g 3 0 = some d) (hbk : g 4 0 = some bk) (hI : xI g) (hO : xO g hz H.size) (hS : va_S A H0 H locs) (hA : ∀ q, xA g H.size q → A q) (hC : xC g X n kc) {w : Int32} (hw : inR w 1 400) (hwd : w ≤ 10000 - X 1 0) (hls : ls.size = nL) (hrest : (rest.map fun v => v.category).sum ≤ 8) (hdg : decode cc pc = .ok (.invokevirtual ix, 3)) (hR : 8 ≤ R.frames ∧ 130 ≤ R.locals) (hcs : cells + 2 ≤ R.cells ∧ slots + 12 ≤ R.slots)
    (kk : ∀ (H1 : Heap) (locs1 : List Loc), xW D cO cL g ((qIt (mu X 1 0 (X 1 0 + w)) kc (X 1 0 + w) n).2) H1 → H.size ≤ H1.size → (∀ q : Nat, q < H.size → ¬ xA g H.size q → H1[q]? = H[q]?) → va_S A H0 H1 locs1 → W p l e R s m args below meth c H1 locs1 (cells + 2) (slots + 12) Q (F0 m (pc + 3) ls (.int ((qIt (mu X 1 0 (X 1 0 + w)) kc (X 1 0 + w) n).1) :: rest))) : W p l e R s m args below meth c H locs cells slots Q (F0 m pc ls (.int w :: .ref d :: rest)) := by
  refine y_cWI (vx_runV (As := [.int w]) (rest := rest) (b := d) S (kX2_pass l hlt g X hz _ hI hO d bk hd hbk n kc hC w) (cwV 1 S.2.2.2.2 hT rfl rfl rfl (by decide +kernel) hR) (x_preV hW hK hE (x_recvD hK hW hd)) rfl rfl hls rfl (lv_room hrest) hdg hcs) hS hA (fun E h => ?_) (fun r X9 H1 locs1 hp hW1 hz1 hk1 hS1 => ?_)
  · rcases h with ⟨-, h⟩ | ⟨-, -, h⟩
    · exact h hw
    · exact h hwd
  · obtain ⟨-, -, hp⟩ := hp
    have e1 : r = (qIt (mu X 1 0 (X 1 0 + w)) kc (X 1 0 + w) n).1 := congrArg Prod.fst hp
    have e2 : X9 = (qIt (mu X 1 0 (X 1 0 + w)) kc (X 1 0 + w) n).2 := congrArg Prod.snd hp
    subst e1 e2
    exact kk H1 locs1 hW1 hz1 hk1 hS1
end YRows

/-! NEW ORDERS AND LINES: the world grows. -/
def gOrd (g : XG) (n q la : Nat) : XG := fun t i => if t = 0 ∧ i = n then some q else if t = 1 ∧ i = n then some la else g t i
def gLine (g : XG) (j al : Nat) : XG := fun t i => if t = 2 ∧ i = j then some al else g t i
def gMov (g : XG) (j al : Nat) : XG := fun t i => if t = 2 ∧ i = j then some al else if t = 2 ∧ i = 300 then none else g t i
def xNewO (X : MS) (n : Nat) (p0 p1 : Int32) : MS := mu (mu (mu (mu (mu (mu (mu (mu (mu (mu (mu X 5 n p0) 6 n p1) 7 n 0) 8 n 0) 9 n 0) 10 n 0) 11 n 0) 12 n 0) 13 n 0) 14 n 0) 15 n 0
def xNewL (X : MS) (j : Nat) (p kd : Int32) : MS := mu (mu (mu (mu (mu X 16 j p) 17 j kd) 18 j 0) 19 j 0) 20 j 0
def xMov (X : MS) (j : Nat) : MS := mu (mu (mu (mu (mu X 16 j (X 16 300)) 17 j (X 17 300)) 18 j (X 18 300)) 19 j (X 19 300)) 20 j (X 20 300)
def xZ (g : XG) (n : Nat) : Prop := (∀ t i a, 4 ≤ t → g t i = some a → t = 4 ∧ i = 0) ∧ (∀ i, 8 * n ≤ i → g 2 i = none) ∧ ∀ i a, g 1 i = some a → i < n
theorem ge_of {q a b : Nat} (h : q = a ∨ b ≤ q) (hb : a ≤ b) : a ≤ q := by omega
theorem gOrd_key {g : XG} {n q la t i a : Nat} (h : gOrd g n q la t i = some a) : (t = 0 ∧ i = n ∧ a = q) ∨ (t = 1 ∧ i = n ∧ a = la) ∨ (g t i = some a ∧ ¬ (t = 0 ∧ i = n) ∧ ¬ (t = 1 ∧ i = n)) := by
  unfold gOrd at h
  split at h
  · next h1 => exact Or.inl ⟨h1.1, h1.2, (Option.some.inj h).symm⟩
  · next h1 =>
    split at h
    · next h2 => exact Or.inr (Or.inl ⟨h2.1, h2.2, (Option.some.inj h).symm⟩)
    · next h2 => exact Or.inr (Or.inr ⟨h, h1, h2⟩)
theorem gLine_key {g : XG} {j al t i a : Nat} (h : gLine g j al t i = some a) : (t = 2 ∧ i = j ∧ a = al) ∨ (g t i = some a ∧ ¬ (t = 2 ∧ i = j)) := by
  unfold gLine at h
  split at h
  · next h1 => exact Or.inl ⟨h1.1, h1.2, (Option.some.inj h).symm⟩
  · next h1 => exact Or.inr ⟨h, h1⟩
theorem gMov_key {g : XG} {j al t i a : Nat} (h : gMov g j al t i = some a) : (t = 2 ∧ i = j ∧ a = al) ∨ (g t i = some a ∧ ¬ (t = 2 ∧ i = j) ∧ ¬ (t = 2 ∧ i = 300)) := by
  unfold gMov at h
  split at h
  · next h1 => exact Or.inl ⟨h1.1, h1.2, (Option.some.inj h).symm⟩
  · next h1 =>
    split at h
    · cases h
    · next h2 => exact Or.inr ⟨h, h1, h2⟩
theorem xI.ord {g : XG} {n q la sz : Nat} (hI : xI g) (hl : ∀ t i a, g t i = some a → a < sz) (hq : sz ≤ q) (hla : sz ≤ la) (hne : q ≠ la) : xI (gOrd g n q la) := by
  intro t i t' i' a h h'
  rcases gOrd_key h with ⟨h1, h2, h3⟩ | ⟨h1, h2, h3⟩ | ⟨h1, h2, h3⟩ <;> rcases gOrd_key h' with ⟨k1, k2, k3⟩ | ⟨k1, k2, k3⟩ | ⟨k1, k2, k3⟩
  · omega
  · omega
  · have := hl _ _ _ k1; omega
  · omega
  · omega
  · have := hl _ _ _ k1; omega
  · have := hl _ _ _ h1; omega
  · have := hl _ _ _ h1; omega
  · exact hI _ _ _ _ _ h1 k1
theorem xI.line {g : XG} {j al sz : Nat} (hI : xI g) (hl : ∀ t i a, g t i = some a → a < sz) (hal : sz ≤ al) : xI (gLine g j al) := by
  intro t i t' i' a h h'
  rcases gLine_key h with ⟨h1, h2, h3⟩ | ⟨h1, h2⟩ <;> rcases gLine_key h' with ⟨k1, k2, k3⟩ | ⟨k1, k2⟩
  · omega
  · have := hl _ _ _ k1; omega
  · have := hl _ _ _ h1; omega
  · exact hI _ _ _ _ _ h1 k1
theorem xI.mov {g : XG} {j al : Nat} (hI : xI g) (hal : g 2 300 = some al) : xI (gMov g j al) := by
  intro t i t' i' a h h'
  rcases gMov_key h with ⟨h1, h2, h3⟩ | ⟨h1, h2, h3⟩ <;> rcases gMov_key h' with ⟨k1, k2, k3⟩ | ⟨k1, k2, k3⟩
  · omega
  · subst h3; exact absurd (hI _ _ _ _ _ k1 hal) k3
  · subst k3; exact absurd (hI _ _ _ _ _ h1 hal) h3
  · exact hI _ _ _ _ _ h1 k1
theorem xNewO_o {X : MS} {n : Nat} {p0 p1 : Int32} {g : XG} {q la i : Nat} (h : i ≠ n) : xobO (gOrd g n q la) (xNewO X n p0 p1) i = xobO g X i := by
  simp [xobO, gOrd, xNewO, mu_e, h]
theorem xNewO_s {X : MS} {n : Nat} {p0 p1 : Int32} {g : XG} {q la : Nat} : xobO (gOrd g n q la) (xNewO X n p0 p1) n = [.int p0, .int p1, .ref la, .int 0, .int 0, .int 0, .int 0, .int 0, .int 0, .int 0, .int 0, .int 0] := by
  simp [xobO, gOrd, xNewO, mu_e, va_rf]
theorem xW.ord {D : va_G} {cO cL : ClassId} {g : XG} {X : MS} {H H3 : Heap} {n q la bk : Nat} {p0 p1 : Int32} (hW : xW D cO cL g X H) (hI : xI g) (hbk : g 4 0 = some bk) (hZ : xZ g n) (hold : ∀ a : Nat, a < H.size → a ≠ bk → H3[a]? = H[a]?) (hq : va_at D vwCl (q, .inr (1, [.int p0, .int p1, .ref la, .int 0, .int 0, .int 0, .int 0, .int 0, .int 0, .int 0, .int 0, .int 0])) H3) (hla : va_at D vwCl (la, .inl (cL, 8, .inr (.inr (.inr (.inr (fun _ => none)))))) H3) (hb : va_at D vwCl (bk, .inl (cO, 30, .inr (.inr (.inr (.inr (va_up (fun j => g 0 j) n (some q))))))) H3) : xW D cO cL (gOrd g n q la) (xNewO X n p0 p1) H3 := by
  intro t i a ha
  rcases gOrd_key ha with ⟨rfl, rfl, rfl⟩ | ⟨rfl, rfl, rfl⟩ | ⟨h1, h2, h3⟩
  · show va_at D vwCl (a, .inr (1, xobO (gOrd g i a la) (xNewO X i p0 p1) i)) H3
    rw [xNewO_s]; exact hq
  · refine at_congr hla (fun j hj => ?_)
    show none = gOrd g i q a 2 (8 * i + j)
    simp [gOrd, hZ.2.1 (8 * i + j) (by omega)]
  · by_cases h4 : 4 ≤ t
    · obtain ⟨rfl, rfl⟩ := hZ.1 t i a h4 h1
      rw [hbk] at h1; cases h1
      refine at_congr hb (fun j hj => ?_)
      by_cases hj : j = n <;> simp [va_up, gOrd, hj]
    · have hk : va_at D vwCl (a, xcell cO cL g X t i) H3 := (hW t i a h1).kept (hold a (hW.lt h1) (fun e => by subst e; have := hI _ _ _ _ _ h1 hbk; omega))
      rcases (show t = 0 ∨ t = 1 ∨ t = 2 ∨ t = 3 by omega) with rfl | rfl | rfl | rfl
      · show va_at D vwCl (a, .inr (1, xobO (gOrd g n q la) (xNewO X n p0 p1) i)) H3
        rw [xNewO_o (fun e => h2 ⟨rfl, e⟩)]; exact hk
      · refine at_congr hk (fun j hj => ?_)
        simp [gOrd]
      · show va_at D vwCl (a, .inr (0, xobL (xNewO X n p0 p1) i)) H3
        rw [show xobL (xNewO X n p0 p1) i = xobL X i by simp [xobL, xNewO, mu_e]]; exact hk
      · show va_at D vwCl (a, .inr (2, xobD (gOrd g n q la) (xNewO X n p0 p1) i)) H3
        rw [show xobD (gOrd g n q la) (xNewO X n p0 p1) i = xobD g X i by simp [xobD, gOrd, xNewO, mu_e]]; exact hk
theorem xW.line {D : va_G} {cO cL : ClassId} {g : XG} {X : MS} {H H3 : Heap} {al : Nat} {p kd : Int32} (hW : xW D cO cL g X H) (h30 : ∀ i a, g 1 i = some a → i < 30) (hold : ∀ a : Nat, a < H.size → H3[a]? = H[a]?) (hal : va_at D vwCl (al, .inr (0, [.int p, .int kd, .int 0, .int 0, .int 0])) H3) : xW D cO cL (gLine g 300 al) (xNewL X 300 p kd) H3 := by
  intro t i a ha
  rcases gLine_key ha with ⟨rfl, rfl, rfl⟩ | ⟨h1, h2⟩
  · show va_at D vwCl (a, .inr (0, xobL (xNewL X 300 p kd) 300)) H3
    rw [show xobL (xNewL X 300 p kd) 300 = [.int p, .int kd, .int 0, .int 0, .int 0] by simp [xobL, xNewL, mu_e]]; exact hal
  · have hk : va_at D vwCl (a, xcell cO cL g X t i) H3 := (hW t i a h1).kept (hold a (hW.lt h1))
    by_cases h4 : 4 ≤ t
    · obtain ⟨t, rfl⟩ : ∃ z, t = z + 4 := ⟨t - 4, by omega⟩
      refine at_congr hk (fun j hj => ?_)
      simp [gLine]
    · rcases (show t = 0 ∨ t = 1 ∨ t = 2 ∨ t = 3 by omega) with rfl | rfl | rfl | rfl
      · show va_at D vwCl (a, .inr (1, xobO (gLine g 300 al) (xNewL X 300 p kd) i)) H3
        rw [show xobO (gLine g 300 al) (xNewL X 300 p kd) i = xobO g X i by simp [xobO, gLine, xNewL, mu_e]]; exact hk
      · refine at_congr hk (fun j hj => ?_)
        have := h30 i a h1
        have : ¬ (8 * i + j = 300) := by omega
        simp [gLine, this]
      · have hi : i ≠ 300 := fun e => h2 ⟨rfl, e⟩
        show va_at D vwCl (a, .inr (0, xobL (xNewL X 300 p kd) i)) H3
        rw [show xobL (xNewL X 300 p kd) i = xobL X i by simp [xobL, xNewL, mu_e, hi]]; exact hk
      · show va_at D vwCl (a, .inr (2, xobD (gLine g 300 al) (xNewL X 300 p kd) i)) H3
        rw [show xobD (gLine g 300 al) (xNewL X 300 p kd) i = xobD g X i by simp [xobD, gLine, xNewL, mu_e]]; exact hk
theorem xW.mov {D : va_G} {cO cL : ClassId} {g : XG} {X : MS} {H H3 : Heap} {al la k kk : Nat} (hW : xW D cO cL g X H) (hI : xI g) (h30 : ∀ i a, g 1 i = some a → i < 30) (hla : g 1 k = some la) (hal : g 2 300 = some al) (hkk : kk < 8) (hold : ∀ a : Nat, a ≠ la → H3[a]? = H[a]?) (hb : va_at D vwCl (la, .inl (cL, 8, .inr (.inr (.inr (.inr (va_up (fun j => g 2 (8 * k + j)) kk (some al))))))) H3) : xW D cO cL (gMov g (8 * k + kk) al) (xMov X (8 * k + kk)) H3 := by
  intro t i a ha
  have hk30 := h30 k la hla
  rcases gMov_key ha with ⟨rfl, rfl, rfl⟩ | ⟨h1, h2, h3⟩
  · show va_at D vwCl (a, .inr (0, xobL (xMov X (8 * k + kk)) (8 * k + kk))) H3
    rw [show xobL (xMov X (8 * k + kk)) (8 * k + kk) = xobL X 300 by simp [xobL, xMov, mu_e]]
    exact (hW 2 300 a hal).kept (hold a (fun e => by subst e; have := hI _ _ _ _ _ hal hla; omega))
  · by_cases hkt : t = 1 ∧ i = k
    · obtain ⟨rfl, rfl⟩ := hkt
      rw [hla] at h1; cases h1
      refine at_congr hb (fun j hj => ?_)
      have h5 : ¬ (8 * i + j = 300) := by omega
      by_cases hjk : j = kk
      · subst hjk; simp [va_up, gMov]
      · have h6 : ¬ (8 * i + j = 8 * i + kk) := by omega
        simp [va_up, gMov, hjk, h5]
    · have hk : va_at D vwCl (a, xcell cO cL g X t i) H3 := (hW t i a h1).kept (hold a (fun e => by subst e; exact hkt (hI _ _ _ _ _ h1 hla)))
      by_cases h4 : 4 ≤ t
      · obtain ⟨t, rfl⟩ : ∃ z, t = z + 4 := ⟨t - 4, by omega⟩
        refine at_congr hk (fun j hj => ?_)
        simp [gMov]
      · rcases (show t = 0 ∨ t = 1 ∨ t = 2 ∨ t = 3 by omega) with rfl | rfl | rfl | rfl
        · show va_at D vwCl (a, .inr (1, xobO (gMov g (8 * k + kk) al) (xMov X (8 * k + kk)) i)) H3
          rw [show xobO (gMov g (8 * k + kk) al) (xMov X (8 * k + kk)) i = xobO g X i by simp [xobO, gMov, xMov, mu_e]]; exact hk
        · refine at_congr hk (fun j hj => ?_)
          have h5 := h30 i a h1
          have h6 : ¬ (8 * i + j = 300) := by omega
          have h7 : ¬ (8 * i + j = 8 * k + kk) := fun e => hkt ⟨rfl, by omega⟩
          simp [gMov, h6, h7]
        · have hi : i ≠ 8 * k + kk := fun e => h2 ⟨rfl, e⟩
          show va_at D vwCl (a, .inr (0, xobL (xMov X (8 * k + kk)) i)) H3
          rw [show xobL (xMov X (8 * k + kk)) i = xobL X i by simp [xobL, xMov, mu_e, hi]]; exact hk
        · show va_at D vwCl (a, .inr (2, xobD (gMov g (8 * k + kk) al) (xMov X (8 * k + kk)) i)) H3
          rw [show xobD (gMov g (8 * k + kk) al) (xMov X (8 * k + kk)) i = xobD g X i by simp [xobD, gMov, xMov, mu_e]]; exact hk
/-- answers with a world that has grown -/
def xGi (D : va_G) (cO cL : ClassId) (g : XG) (sz : Nat) (post : Int32 → XG × MS → Prop) : Array Value → State → Outcome → State → Prop := va_Qi post (fun u t => xW D cO cL u.1 u.2 t.heap) (xA g sz)
section GEnds
variable {p : Program} {l : Launch} {e : Env} {R : Room} {s : State} {m : MethodId} {args : Array Value} {below : List Frame} {meth : Method} {c : Code} {H : Heap} {locs : List Loc} {cells slots : Nat} {Q : State → Prop}
variable {cc : ByteArray} {pc : Nat} {ls : Array Slot} {rest : List Value} {D : va_G} {cI cO cL cJ : ClassId} {g g' : XG} {X : MS} {hz sz mc ms : Nat} {cond : String → Prop}
theorem xg_retM (hexec : p.tables.exec = Jvm.exec) (hb : c.code = cc) (hr : meth.sig.returnType = some .int) (hlocks : meth.locks = false) (hm : cells ≤ mc ∧ slots ≤ ms) (hW : xW D cO cL g' X H) (hS : va_S (xA g sz) s.heap H locs) {post : Int32 → XG × MS → Prop} {v : Int32} (hp : post v (g', X)) (hdg : decode cc pc = .ok (.ireturn, 1)) : W p l e R s m args below meth c H locs cells slots (MQ below (xGi D cO cL g sz post) args s mc ms (xA g sz)) (F0 m pc ls [.int v]) :=
  W.widen hm.1 hm.2 (W.iret (v := v) hexec hb hr (fun t ht _ => ⟨⟨v, (g', X), rfl, hp, by show xW D cO cL g' X t.heap; rw [ht]; exact hW⟩, hS.F ht⟩) hS.2.2 hdg hlocks)
theorem xg_ret (hexec : p.tables.exec = Jvm.exec) (hb : c.code = cc) (hr : meth.sig.returnType = some .int) (hlocks : meth.locks = false) (hm : cells ≤ mc ∧ slots ≤ ms) (hW : xW D cO cL g' X H) (hS : va_S (xA g sz) s.heap H locs) {post : Int32 → XG × MS → Prop} {v : Int32} (hp : post v (g', X)) (hdg : decode cc pc = .ok (.ireturn, 1)) : W p l e R s m args below meth c H locs cells slots (vx_MQ below (xGi D cO cL g sz post) (xT cond) args s mc ms (xA g sz)) (F0 m pc ls [.int v]) := vx_ret (xg_retM hexec hb hr hlocks hm hW hS hp hdg)
end GEnds
theorem nwX1 : ∀ j, j < 12 → defaultValue (tyX1 j) = vp_V ([.int 0, .int 0, .null, .int 0, .int 0, .int 0, .int 0, .int 0, .int 0, .int 0, .int 0, .int 0] : List Value) j := by
  intro j hj
  rcases (show j = 0 ∨ j = 1 ∨ j = 2 ∨ j = 3 ∨ j = 4 ∨ j = 5 ∨ j = 6 ∨ j = 7 ∨ j = 8 ∨ j = 9 ∨ j = 10 ∨ j = 11 by omega) with rfl | rfl | rfl | rfl | rfl | rfl | rfl | rfl | rfl | rfl | rfl | rfl <;> rfl
theorem nwX0 : ∀ j, j < 5 → defaultValue (tyX0 j) = vp_V ([.int 0, .int 0, .int 0, .int 0, .int 0] : List Value) j := by
  intro j hj
  rcases (show j = 0 ∨ j = 1 ∨ j = 2 ∨ j = 3 ∨ j = 4 by omega) with rfl | rfl | rfl | rfl | rfl <;> rfl
theorem nwX2 : ∀ j, j < 6 → defaultValue (tyX2 j) = vp_V ([.null, .int 0, .int 0, .int 0, .int 0, .int 0] : List Value) j := by
  intro j hj
  rcases (show j = 0 ∨ j = 1 ∨ j = 2 ∨ j = 3 ∨ j = 4 ∨ j = 5 by omega) with rfl | rfl | rfl | rfl | rfl | rfl <;> rfl
theorem room_no {X : MS} {k kk : Nat} (hX7 : X 7 k = nI kk) (hkk : kk ≤ 8) (h : roomX X k = 0) : ¬ kk < 8 := by
  intro z
  unfold roomX at h
  rw [if_neg (by rw [hX7]; exact nI_ge (b := 8) z (by decide))] at h
  exact absurd h (by decide)
set_option maxHeartbeats 4000000 in
set_option maxRecDepth 100000 in
theorem kX2_order (l : Launch) (hlt : l.stackTraces = false) {D : va_G} {cI cO cL cJ : ClassId} (g : XG) (X : MS) (hz sz : Nat) (hI : xI g) (hO : xO g hz sz) (d bk : Nat) (hd : g 3 0 = some d) (hbk : g 4 0 = some bk) (n : Nat) (kc : Nat → Nat) (hC : xC g X n kc) (hZ : xZ g n) (p0 p1 : Int32) : vx_Met l yX2_order wsX2_order ({ frames := 7, cells := 4, slots := 32, locals := 104 } : Room) (xP D cI cO cL cJ g X hz sz [.ref d, .int p0, .int p1]) (xGi D cO cL g sz (fun r u => ∃ q la, sz ≤ q ∧ sz ≤ la ∧ q ≠ la ∧ u.1 = gOrd g n q la ∧ u.2 = mu (xNewO X n p0 p1) 0 0 (nI (n + 1)) ∧ r = nI n ∧ n < 30 ∧ inR p0 0 90 ∧ inR p1 0 1000000)) (xT (fun E : String => (E = IAE ∧ (¬ inR p0 0 90 ∨ ¬ inR p1 0 1000000)) ∨ (E = ISE ∧ inR p0 0 90 ∧ inR p1 0 1000000 ∧ ¬ n < 30))) 4 32 (xA g sz) := by
  refine x_body (cc := cX2_order) (maxL := 3) (ret := some .int) (by decide) rfl [.ref d, .int p0, .int p1] (Nat.le_of_ble_eq_true rfl) ?_
  intro p e s m args below meth c hx hb hr hts hown hml hlocks htab hsz hW hK hE ls hl
  subst hsz
  have hown : s.vm.findClass RX2 = some m.cls := hown
  have hl : lv_has ls 3 [(0, .ref d), (1, .int p0), (2, .int p1)] := hl
  have hin1 : ∀ w ∈ u_ws RX1 TX1 12, w ∈ wsX2_order := (fun w h => List.mem_cons_of_mem _ (List.mem_append_left _ (List.mem_append_left _ (List.mem_append_right _ (h)))))
  have hin2 : ∀ w ∈ u_ws RX2 TX2 6, w ∈ wsX2_order := (fun w h => List.mem_cons_of_mem _ (List.mem_append_left _ (List.mem_append_left _ (List.mem_append_left _ (List.mem_append_right _ (h))))))
  have hS : va_S (xA g s.heap.size) s.heap s.heap [] := va_S.rf
  refine lv_iload_n hx hb dX2_order_0 rfl (lv_at hl 1 rfl) ?_
  refine lv_iconst (v := 0) hx hb dX2_order_1 (by decide) ?_
  refine lv_bipush (v := 90) hx hb dX2_order_2 (by decide) ?_
  refine x_cV (vx_runS (As := [.int p0, .int 0, .int 90]) (rest := []) ⟨hx, hb, hml, hown, hts⟩ (kX2_requireRange l hlt g X hz _ p0 0 90) (va_cwS 3 hts gX2_order_X2_requireRange rfl rfl rfl (by decide +kernel) ⟨Nat.le_of_ble_eq_true rfl, Nat.le_of_ble_eq_true rfl⟩) (x_preS hW hK hE) rfl rfl hl.1 rfl (lv_room (Nat.le_of_ble_eq_true rfl)) dX2_order_4 ⟨Nat.le_of_ble_eq_true rfl, Nat.le_of_ble_eq_true rfl⟩) hS (fun E ce q9 H1 locs1 hc hz1 hk1 hS1 hL1 hce hcv hcl => x_prop htab hlocks hce hcv hcl hz1 hk1 (fun z h => (hL1 z h).elim (fun h => nomatch h) (fun h => h.elim)) ⟨Nat.le_of_ble_eq_true rfl, Nat.le_of_ble_eq_true rfl⟩ (Or.inl ⟨hc.1, Or.inl hc.2⟩)) (fun h4 => ?_)
  refine lv_iload_n hx hb dX2_order_7 rfl (lv_at hl 2 rfl) ?_
  refine lv_iconst (v := 0) hx hb dX2_order_8 (by decide) ?_
  refine lv_ldc (v := 1000000) hx hb hown (hts (.constant RX2 19 (1000000)) (List.mem_of_getElem? (i := 3) rfl)) dX2_order_9 ?_
  refine x_cV (vx_runS (As := [.int p1, .int 0, .int 1000000]) (rest := []) ⟨hx, hb, hml, hown, hts⟩ (kX2_requireRange l hlt g X hz _ p1 0 1000000) (va_cwS 3 hts gX2_order_X2_requireRange rfl rfl rfl (by decide +kernel) ⟨Nat.le_of_ble_eq_true rfl, Nat.le_of_ble_eq_true rfl⟩) (x_preS hW hK hE) rfl rfl hl.1 rfl (lv_room (Nat.le_of_ble_eq_true rfl)) dX2_order_11 ⟨Nat.le_of_ble_eq_true rfl, Nat.le_of_ble_eq_true rfl⟩) hS (fun E ce q9 H1 locs1 hc hz1 hk1 hS1 hL1 hce hcv hcl => x_prop htab hlocks hce hcv hcl hz1 hk1 (fun z h => (hL1 z h).elim (fun h => nomatch h) (fun h => h.elim)) ⟨Nat.le_of_ble_eq_true rfl, Nat.le_of_ble_eq_true rfl⟩ (Or.inl ⟨hc.1, Or.inr hc.2⟩)) (fun h11 => ?_)
  refine lv_aload_n hx hb dX2_order_14 rfl (lv_at hl 0 rfl) ?_
  refine f_get (ci := 2) (fs := xobD g X 0) (v := .int (X 0 0)) hx hb hts hin2 hown hK (hW 3 0 _ hd) rfl 1 (by decide) (hts (.fieldLink RX2 20 "ReturnsDesk" "orderCount" "I") (List.mem_of_getElem? (i := 4) rfl)) (fun _ h9 => h9) rfl dX2_order_15 ?_
  refine lv_if_lt (tgt := 33) hx hb dX2_order_18 (by decide) (fun h9 => absurd h9 (by rw [hC.2.1]; exact nI_pos (by have := hC.1; omega))) (fun _ => ?_)
  refine lv_aload_n hx hb dX2_order_21 rfl (lv_at hl 0 rfl) ?_
  refine f_get (ci := 2) (fs := xobD g X 0) (v := .int (X 0 0)) hx hb hts hin2 hown hK (hW 3 0 _ hd) rfl 1 (by decide) (hts (.fieldLink RX2 20 "ReturnsDesk" "orderCount" "I") (List.mem_of_getElem? (i := 4) rfl)) (fun _ h9 => h9) rfl dX2_order_22 ?_
  refine lv_aload_n hx hb dX2_order_25 rfl (lv_at hl 0 rfl) ?_
  refine f_get (ci := 2) (fs := xobD g X 0) (v := .ref bk) hx hb hts hin2 hown hK (hW 3 0 _ hd) rfl 0 (by decide) (hts (.fieldLink RX2 11 "ReturnsDesk" "book" "[LReturnsDesk$Order;") (List.mem_of_getElem? (i := 5) rfl)) (fun _ h9 => h9) (congrArg (fun z => some (va_rf z)) hbk) dX2_order_26 ?_
  refine f_alen (v := 30) hx hb hK 1 rfl (hW 4 0 _ hbk) rfl dX2_order_29 ?_
  refine lv_icmp_lt (tgt := 43) hx hb dX2_order_30 (by decide) (fun c30 => ?_) (fun c30 => ?_)
  · skip
    have hn30 : n < 30 := Nat.lt_of_not_le (fun z => by rw [hC.2.1] at c30; exact nI_nlt (a := n) (b := 30) z (by have := hC.1; omega) c30)
    refine lv_aload_n hx hb dX2_order_43 rfl (lv_at hl 0 rfl) ?_
    refine f_get (ci := 2) (fs := xobD g X 0) (v := .ref bk) hx hb hts hin2 hown hK (hW 3 0 _ hd) rfl 0 (by decide) (hts (.fieldLink RX2 11 "ReturnsDesk" "book" "[LReturnsDesk$Order;") (List.mem_of_getElem? (i := 5) rfl)) (fun _ h9 => h9) (congrArg (fun z => some (va_rf z)) hbk) dX2_order_44 ?_
    refine lv_aload_n hx hb dX2_order_47 rfl (lv_at hl 0 rfl) ?_
    refine f_get (ci := 2) (fs := xobD g X 0) (v := .int (nI n)) hx hb hts hin2 hown hK (hW 3 0 _ hd) rfl 1 (by decide) (hts (.fieldLink RX2 20 "ReturnsDesk" "orderCount" "I") (List.mem_of_getElem? (i := 4) rfl)) (fun _ h9 => h9) (congrArg (fun z => some (Value.int z)) hC.2.1) dX2_order_48 ?_
    refine f_new (own := RX2) (C := RX1) (T := TX1) (N := 12) (ci := 1) (fs := [.int 0, .int 0, .null, .int 0, .int 0, .int 0, .int 0, .int 0, .int 0, .int 0, .int 0, .int 0]) hx hb hts hin1 tyX1 tyX1_ok hown (hts (.classLink RX2 9 RX1) (List.mem_of_getElem? (i := 6) rfl)) (hts (.instantiable RX1 12) (List.mem_of_getElem? (i := 7) rfl)) (hts (.initialized RX1) (List.mem_of_getElem? (i := 8) rfl)) hK hS rfl nwX1 (Nat.le_of_ble_eq_true rfl) (Nat.le_of_ble_eq_true rfl) dX2_order_51 (fun H1 hq1 hz1 ho1 hS => ?_)
    refine lv_dup hx hb dX2_order_54 rfl ?_
    refine lv_iload_n hx hb dX2_order_55 rfl (lv_at hl 1 rfl) ?_
    refine lv_iload_n hx hb dX2_order_56 rfl (lv_at hl 2 rfl) ?_
    refine va_callv (va_runI (As := [.int p0, .int p1]) (rest := [.ref s.heap.size, .int (nI n), .ref bk]) ⟨hx, hb, hml, hown, hts⟩ (kX1_init l H1.size s.heap.size p0 p1 (by omega)) (cwI 2 hts gX2_order_X1_init rfl rfl rfl (hts (.initialized RX1) (List.mem_of_getElem? (i := 8) rfl)) (hts (.methodLink RX2 31 yX1_init) (List.mem_of_getElem? (i := 15) rfl)) (hts (.instanceMethod yX1_init) (List.mem_of_getElem? (i := 16) rfl)) rfl (by decide +kernel) ⟨Nat.le_of_ble_eq_true rfl, Nat.le_of_ble_eq_true rfl⟩) (c_pre hq1 hK hE.2.2.2.2.1 hE.2.2.2.2.2) rfl rfl hl.1 rfl (lv_room (Nat.le_of_ble_eq_true rfl)) dX2_order_57 ⟨Nat.le_of_ble_eq_true rfl, Nat.le_of_ble_eq_true rfl⟩) hS (fun q _ h => Or.inr (ge_of h (by omega))) (fun q h => Or.inr (ge_of h (by omega))) (fun la t H2 locs ht hvm hp hB hz2 hk2 hS => ?_)
    obtain ⟨hq2, hla2⟩ := hB
    rw [ht] at hq2 hla2
    have hla2' : la < H2.size := hla2.lt
    have hold2 : ∀ a : Nat, a < s.heap.size → H2[a]? = s.heap[a]? := fun a h => (hk2 a (by omega) (fun z => absurd (ge_of z (by omega)) (Nat.not_le.mpr h))).trans (ho1 a h)
    have hbk2 : va_at D vwCl (bk, .inl (cO, 30, .inr (.inr (.inr (.inr (fun j => g 0 j)))))) H2 := (hW 4 0 bk hbk).kept (hold2 bk (hW.lt hbk))
    have hbklt := hW.lt hbk
    refine f_aast (r := (RX1, TX1, 12)) hx hb hK 1 1 rfl rfl hbk2 hq2 hS (Or.inl ⟨4, 0, hbk⟩) rfl hn30 (by decide) dX2_order_60 (fun H3 locs hb3 hz3 ho3 hS => ?_)
    have hW3 : xW D cO cL (gOrd g n s.heap.size la) (xNewO X n p0 p1) H3 := xW.ord hW hI hbk hZ (fun a h1 h2 => (ho3 a h2).trans (hold2 a h1)) (hq2.kept (ho3 _ (by omega))) (hla2.kept (ho3 _ (by omega))) hb3
    have hI3 : xI (gOrd g n s.heap.size la) := hI.ord (fun t i a h => hW.lt h) (Nat.le_refl _) (by omega) (by omega)
    have hd3 : gOrd g n s.heap.size la 3 0 = some d := hd
    refine lv_aload_n hx hb dX2_order_61 rfl (lv_at hl 0 rfl) ?_
    refine lv_dup hx hb dX2_order_62 rfl ?_
    refine f_get (ci := 2) (fs := xobD (gOrd g n s.heap.size la) (xNewO X n p0 p1) 0) (v := .int (nI n)) hx hb hts hin2 hown hK (hW3 3 0 _ hd3) rfl 1 (by decide) (hts (.fieldLink RX2 20 "ReturnsDesk" "orderCount" "I") (List.mem_of_getElem? (i := 4) rfl)) (fun _ h9 => h9) (congrArg (fun z => some (Value.int z)) hC.2.1) dX2_order_63 ?_
    refine lv_dup_x1 hx hb dX2_order_66 rfl rfl ?_
    refine lv_iconst (v := 1) hx hb dX2_order_67 (by decide) ?_
    refine lv_iadd hx hb dX2_order_68 ?_
    refine cv (y := nI (n + 1)) (nI_1 n) ?_
    refine x_putD hx hb hts hin2 hown hK hI3 hW3 hS hd3 (Or.inl ⟨3, 0, hd⟩) 1 0 (by decide) (hts (.fieldLink RX2 20 "ReturnsDesk" "orderCount" "I") (List.mem_of_getElem? (i := 4) rfl)) (fun _ h9 => h9) dX2_order_69 (fun H locs hW hz4 _ hS => ?_)
    exact xg_ret hx hb hr hlocks ⟨Nat.le_of_ble_eq_true rfl, Nat.le_of_ble_eq_true rfl⟩ hW hS ⟨s.heap.size, la, Nat.le_refl _, by omega, by omega, rfl, rfl, rfl, hn30, h4, h11⟩ dX2_order_72
  · skip
    exact x_throw (cls := ISE) (text := "no room for another order") (ik := 24) (is := 26) (ic := 28) hlt hx hb hown hts hE (by decide +kernel) (by decide +kernel) (hts (.classLink RX2 24 "java/lang/IllegalStateException") (List.mem_of_getElem? (i := 1) rfl)) (hts (.initialized "java/lang/IllegalStateException") (List.mem_of_getElem? (i := 2) rfl)) (List.mem_of_getElem? (i := 0) rfl) (fun w h => List.mem_cons_of_mem _ (List.mem_append_left _ (List.mem_append_right _ (h)))) tn_S tg_S (hl.1.trans hml.symm) htab hlocks dX2_order_33 dX2_order_36 dX2_order_37 dX2_order_39 dX2_order_42 ⟨(Nat.le_of_ble_eq_true rfl), (Nat.le_of_ble_eq_true rfl), (Nat.le_of_ble_eq_true rfl), (Nat.le_of_ble_eq_true rfl)⟩ ⟨(Nat.le_of_ble_eq_true rfl), (Nat.le_of_ble_eq_true rfl)⟩ rfl rfl (Or.inr ⟨rfl, h4, h11, fun z => c30 (by rw [hC.2.1]; exact nI_lt (b := 30) z (by decide))⟩)
set_option maxHeartbeats 4000000 in
set_option maxRecDepth 100000 in
theorem kX1_addLine (l : Launch) {D : va_G} {cI cO cL cJ : ClassId} (g : XG) (X : MS) (hz sz : Nat) (hI : xI g) (hO : xO g hz sz) (ao la k : Nat) (ho : g 0 k = some ao) (hla : g 1 k = some la) (al : Nat) (hal : g 2 300 = some al) (kk : Nat) (hkk : kk < 8) (hX7 : X 7 k = nI kk) (h30 : ∀ i a, g 1 i = some a → i < 30) : Met l yX1_addLine wsX1_addLine ({ frames := 1, cells := 0, slots := 0, locals := 22 } : Room) (xP D cI cO cL cJ g X hz sz [.ref ao, .ref al]) (xGi D cO cL g sz (fun r u => u.1 = gMov g (8 * k + kk) al ∧ u.2 = mu (xMov X (8 * k + kk)) 7 k (nI (kk + 1)) ∧ r = nI kk)) 0 0 (xA g sz) := by
  refine x_bodyM (cc := cX1_addLine) (maxL := 3) (ret := some .int) (by decide) rfl [.ref ao, .ref al] (Nat.le_of_ble_eq_true rfl) ?_
  intro p e s m args below meth c hx hb hr hts hown hml hlocks hsz hW hK hE ls hl
  subst hsz
  have hown : s.vm.findClass RX1 = some m.cls := hown
  have hl : lv_has ls 3 [(0, .ref ao), (1, .ref al)] := hl
  have hin1 : ∀ w ∈ u_ws RX1 TX1 12, w ∈ wsX1_addLine := (fun w h => List.mem_cons_of_mem _ (List.mem_append_right _ (h)))
  have hS : va_S (xA g s.heap.size) s.heap s.heap [] := va_S.rf
  refine lv_aload_n hx hb dX1_addLine_0 rfl (lv_at hl 0 rfl) ?_
  refine f_get (ci := 1) (fs := xobO g X k) (v := .int (nI kk)) hx hb hts hin1 hown hK (hW 0 k _ ho) rfl 3 (by decide) (hts (.fieldLink RX1 24 "ReturnsDesk$Order" "lineCount" "I") (List.mem_of_getElem? (i := 1) rfl)) (fun _ h9 => h9) (congrArg (fun z => some (Value.int z)) hX7) dX1_addLine_1 ?_
  refine lv_istore_n (lv' := [(2, .int (nI kk)), (0, .ref ao), (1, .ref al)]) hx hb dX1_addLine_4 rfl hl (by decide) rfl (fun ls hl => ?_)
  refine lv_iload_n hx hb dX1_addLine_5 rfl (lv_at hl 0 rfl) ?_
  refine lv_if_lt (tgt := 35) hx hb dX1_addLine_6 (by decide) (fun h9 => absurd h9 (nI_pos (by omega))) (fun _ => ?_)
  refine lv_iload_n hx hb dX1_addLine_9 rfl (lv_at hl 0 rfl) ?_
  refine lv_aload_n hx hb dX1_addLine_10 rfl (lv_at hl 1 rfl) ?_
  refine f_get (ci := 1) (fs := xobO g X k) (v := .ref la) hx hb hts hin1 hown hK (hW 0 k _ ho) rfl 2 (by decide) (hts (.fieldLink RX1 11 "ReturnsDesk$Order" "lines" "[LReturnsDesk$Line;") (List.mem_of_getElem? (i := 2) rfl)) (fun _ h9 => h9) (congrArg (fun z => some (va_rf z)) hla) dX1_addLine_11 ?_
  refine f_alen (v := 8) hx hb hK 2 rfl (hW 1 k _ hla) rfl dX1_addLine_14 ?_
  refine lv_icmp_ge (tgt := 35) hx hb dX1_addLine_15 (by decide) (fun h9 => absurd h9 (nI_ge (a := kk) (b := 8) hkk (by decide))) (fun _ => ?_)
  refine lv_aload_n hx hb dX1_addLine_18 rfl (lv_at hl 1 rfl) ?_
  refine f_get (ci := 1) (fs := xobO g X k) (v := .ref la) hx hb hts hin1 hown hK (hW 0 k _ ho) rfl 2 (by decide) (hts (.fieldLink RX1 11 "ReturnsDesk$Order" "lines" "[LReturnsDesk$Line;") (List.mem_of_getElem? (i := 2) rfl)) (fun _ h9 => h9) (congrArg (fun z => some (va_rf z)) hla) dX1_addLine_19 ?_
  refine lv_iload_n hx hb dX1_addLine_22 rfl (lv_at hl 0 rfl) ?_
  refine lv_aload_n hx hb dX1_addLine_23 rfl (lv_at hl 2 rfl) ?_
  refine f_aast (r := (RX0, TX0, 5)) hx hb hK 2 0 rfl rfl (hW 1 k _ hla) (hW 2 300 _ hal) hS (Or.inl ⟨1, k, hla⟩) rfl hkk (by decide) dX1_addLine_24 (fun H3 locs hb3 hz3 ho3 hS => ?_)
  have hk30 := h30 k la hla
  have hW3 : xW D cO cL (gMov g (8 * k + kk) al) (xMov X (8 * k + kk)) H3 := xW.mov hW hI h30 hla hal hkk ho3 hb3
  have hI3 : xI (gMov g (8 * k + kk) al) := hI.mov hal
  have ho' : gMov g (8 * k + kk) al 0 k = some ao := ho
  refine lv_aload_n hx hb dX1_addLine_25 rfl (lv_at hl 1 rfl) ?_
  refine lv_dup hx hb dX1_addLine_26 rfl ?_
  refine f_get (ci := 1) (fs := xobO (gMov g (8 * k + kk) al) (xMov X (8 * k + kk)) k) (v := .int (nI kk)) hx hb hts hin1 hown hK (hW3 0 k _ ho') rfl 3 (by decide) (hts (.fieldLink RX1 24 "ReturnsDesk$Order" "lineCount" "I") (List.mem_of_getElem? (i := 1) rfl)) (fun _ h9 => h9) (congrArg (fun z => some (Value.int z)) hX7) dX1_addLine_27 ?_
  refine lv_iconst (v := 1) hx hb dX1_addLine_30 (by decide) ?_
  refine lv_iadd hx hb dX1_addLine_31 ?_
  refine cv (y := nI (kk + 1)) (nI_1 kk) ?_
  refine x_putO hx hb hts hin1 hown hK hI3 hW3 hS ho' (Or.inl ⟨0, k, ho⟩) 3 7 (by decide) (hts (.fieldLink RX1 24 "ReturnsDesk$Order" "lineCount" "I") (List.mem_of_getElem? (i := 1) rfl)) (fun _ h9 => h9) .int (tyX1_ok 3 (by decide)) rfl rfl dX1_addLine_32 (fun H locs hW hz4 _ hS => ?_)
  refine lv_iload_n hx hb dX1_addLine_35 rfl (lv_at hl 0 rfl) ?_
  exact xg_retM hx hb hr hlocks ⟨Nat.le_of_ble_eq_true rfl, Nat.le_of_ble_eq_true rfl⟩ hW hS ⟨rfl, rfl, rfl⟩ dX1_addLine_36
set_option maxHeartbeats 4000000 in
set_option maxRecDepth 100000 in
theorem kX2_add (l : Launch) (hlt : l.stackTraces = false) {D : va_G} {cI cO cL cJ : ClassId} (g : XG) (X : MS) (hz sz : Nat) (hI : xI g) (hO : xO g hz sz) (d bk : Nat) (hd : g 3 0 = some d) (hbk : g 4 0 = some bk) (n : Nat) (kc : Nat → Nat) (hC : xC g X n kc) (hZ : xZ g n) (p0 p1 p2 : Int32) : vx_Met l yX2_add wsX2_add ({ frames := 7, cells := 4, slots := 24, locals := 104 } : Room) (xP D cI cO cL cJ g X hz sz [.ref d, .int p0, .int p1, .int p2]) (xGi D cO cL g sz (fun r u => ∃ k al, k < n ∧ p0 = nI k ∧ inR p1 1 100000 ∧ inR p2 0 2 ∧ X 8 k = 0 ∧ kc k < 8 ∧ sz ≤ al ∧ u.1 = gMov (gLine g 300 al) (8 * k + kc k) al ∧ u.2 = mu (xMov (xNewL X 300 p1 p2) (8 * k + kc k)) 7 k (nI (kc k + 1)) ∧ r = nI (kc k))) (xT (fun E : String => noO n p0 E ∨ (E = IAE ∧ ∃ k, k < n ∧ p0 = nI k ∧ (¬ inR p1 1 100000 ∨ ¬ inR p2 0 2)) ∨ (E = ISE ∧ ∃ k, k < n ∧ p0 = nI k ∧ inR p1 1 100000 ∧ inR p2 0 2 ∧ (¬ X 8 k = 0 ∨ ¬ kc k < 8)))) 4 24 (xA g sz) := by
  refine x_body (cc := cX2_add) (maxL := 5) (ret := some .int) (by decide) rfl [.ref d, .int p0, .int p1, .int p2] (Nat.le_of_ble_eq_true rfl) ?_
  intro p e s m args below meth c hx hb hr hts hown hml hlocks htab hsz hW hK hE ls hl
  subst hsz
  have hown : s.vm.findClass RX2 = some m.cls := hown
  have hl : lv_has ls 5 [(0, .ref d), (1, .int p0), (2, .int p1), (3, .int p2)] := hl
  have hin0 : ∀ w ∈ u_ws RX0 TX0 5, w ∈ wsX2_add := (fun w h => List.mem_cons_of_mem _ (List.mem_append_left _ (List.mem_append_left _ (List.mem_append_left _ (List.mem_append_left _ (List.mem_append_right _ (h)))))))
  have hin1 : ∀ w ∈ u_ws RX1 TX1 12, w ∈ wsX2_add := (fun w h => List.mem_cons_of_mem _ (List.mem_append_left _ (List.mem_append_left _ (List.mem_append_left _ (List.mem_append_left _ (List.mem_append_left _ (List.mem_append_right _ (h))))))))
  have hin2 : ∀ w ∈ u_ws RX2 TX2 6, w ∈ wsX2_add := (fun w h => List.mem_cons_of_mem _ (List.mem_append_left _ (List.mem_append_left _ (List.mem_append_left _ (List.mem_append_right _ (h))))))
  have hS : va_S (xA g s.heap.size) s.heap s.heap [] := va_S.rf
  refine lv_aload_n hx hb dX2_add_0 rfl (lv_at hl 0 rfl) ?_
  refine lv_iload_n hx hb dX2_add_1 rfl (lv_at hl 1 rfl) ?_
  refine x_cR (vx_runV (As := [.int p0]) (rest := []) (b := d) ⟨hx, hb, hml, hown, hts⟩ (kX2_findOrder l hlt g X hz _ d bk hd hbk n hC.1 hC.2.2.1 p0) (cwV 1 hts gX2_add_X2_findOrder rfl rfl rfl (by decide +kernel) ⟨Nat.le_of_ble_eq_true rfl, Nat.le_of_ble_eq_true rfl⟩) (x_preV hW hK hE (x_recvD hK hW hd)) rfl rfl hl.1 rfl (lv_room (Nat.le_of_ble_eq_true rfl)) dX2_add_2 ⟨Nat.le_of_ble_eq_true rfl, Nat.le_of_ble_eq_true rfl⟩) hS (fun E ce q9 H1 locs1 hc hz1 hk1 hS1 hL1 hce hcv hcl => x_prop htab hlocks hce hcv hcl hz1 hk1 (fun z h => (hL1 z h).elim (fun h => nomatch h) (fun h => h.elim)) ⟨Nat.le_of_ble_eq_true rfl, Nat.le_of_ble_eq_true rfl⟩ (Or.inl hc)) (fun ao hp => ?_)
  obtain ⟨k, hk, hp0, ho⟩ := hp
  subst hp0
  obtain ⟨hkk, hX7, ⟨la, hla⟩, hln⟩ := hC.2.2.2 k hk
  refine lv_astore (lv' := [(4, .ref ao), (0, .ref d), (1, .int (nI k)), (2, .int p1), (3, .int p2)]) hx hb dX2_add_5 hl (by decide) rfl (fun ls hl => ?_)
  refine lv_iload_n hx hb dX2_add_7 rfl (lv_at hl 3 rfl) ?_
  refine lv_iconst (v := 1) hx hb dX2_add_8 (by decide) ?_
  refine lv_ldc (v := 100000) hx hb hown (hts (.constant RX2 38 (100000)) (List.mem_of_getElem? (i := 3) rfl)) dX2_add_9 ?_
  refine x_cV (vx_runS (As := [.int p1, .int 1, .int 100000]) (rest := []) ⟨hx, hb, hml, hown, hts⟩ (kX2_requireRange l hlt g X hz _ p1 1 100000) (va_cwS 3 hts gX2_add_X2_requireRange rfl rfl rfl (by decide +kernel) ⟨Nat.le_of_ble_eq_true rfl, Nat.le_of_ble_eq_true rfl⟩) (x_preS hW hK hE) rfl rfl hl.1 rfl (lv_room (Nat.le_of_ble_eq_true rfl)) dX2_add_11 ⟨Nat.le_of_ble_eq_true rfl, Nat.le_of_ble_eq_true rfl⟩) hS (fun E ce q9 H1 locs1 hc hz1 hk1 hS1 hL1 hce hcv hcl => x_prop htab hlocks hce hcv hcl hz1 hk1 (fun z h => (hL1 z h).elim (fun h => nomatch h) (fun h => h.elim)) ⟨Nat.le_of_ble_eq_true rfl, Nat.le_of_ble_eq_true rfl⟩ (Or.inr (Or.inl ⟨hc.1, k, hk, rfl, Or.inl hc.2⟩))) (fun h11 => ?_)
  refine lv_iload_n hx hb dX2_add_14 rfl (lv_at hl 4 rfl) ?_
  refine lv_iconst (v := 0) hx hb dX2_add_15 (by decide) ?_
  refine lv_iconst (v := 2) hx hb dX2_add_16 (by decide) ?_
  refine x_cV (vx_runS (As := [.int p2, .int 0, .int 2]) (rest := []) ⟨hx, hb, hml, hown, hts⟩ (kX2_requireRange l hlt g X hz _ p2 0 2) (va_cwS 3 hts gX2_add_X2_requireRange rfl rfl rfl (by decide +kernel) ⟨Nat.le_of_ble_eq_true rfl, Nat.le_of_ble_eq_true rfl⟩) (x_preS hW hK hE) rfl rfl hl.1 rfl (lv_room (Nat.le_of_ble_eq_true rfl)) dX2_add_17 ⟨Nat.le_of_ble_eq_true rfl, Nat.le_of_ble_eq_true rfl⟩) hS (fun E ce q9 H1 locs1 hc hz1 hk1 hS1 hL1 hce hcv hcl => x_prop htab hlocks hce hcv hcl hz1 hk1 (fun z h => (hL1 z h).elim (fun h => nomatch h) (fun h => h.elim)) ⟨Nat.le_of_ble_eq_true rfl, Nat.le_of_ble_eq_true rfl⟩ (Or.inr (Or.inl ⟨hc.1, k, hk, rfl, Or.inr hc.2⟩))) (fun h17 => ?_)
  refine lv_aload hx hb dX2_add_20 (lv_at hl 0 rfl) ?_
  refine f_get (ci := 1) (fs := xobO g X k) (v := .int (X 8 k)) hx hb hts hin1 hown hK (hW 0 k _ ho) rfl 4 (by decide) (hts (.fieldLink RX2 39 "ReturnsDesk$Order" "isPaid" "Z") (List.mem_of_getElem? (i := 4) rfl)) (fun _ h9 => h9) rfl dX2_add_22 ?_
  refine lv_if_ne (tgt := 36) hx hb dX2_add_25 (by decide) (fun c25 => ?_) (fun c25 => ?_)
  · skip
    exact x_throw (cls := ISE) (text := "the order takes no more lines") (ik := 24) (is := 47) (ic := 28) hlt hx hb hown hts hE (by decide +kernel) (by decide +kernel) (hts (.classLink RX2 24 "java/lang/IllegalStateException") (List.mem_of_getElem? (i := 1) rfl)) (hts (.initialized "java/lang/IllegalStateException") (List.mem_of_getElem? (i := 2) rfl)) (List.mem_of_getElem? (i := 1) rfl) (fun w h => List.mem_cons_of_mem _ (List.mem_append_left _ (List.mem_append_left _ (List.mem_append_right _ (h))))) tn_S tg_S (hl.1.trans hml.symm) htab hlocks dX2_add_36 dX2_add_39 dX2_add_40 dX2_add_42 dX2_add_45 ⟨(Nat.le_of_ble_eq_true rfl), (Nat.le_of_ble_eq_true rfl), (Nat.le_of_ble_eq_true rfl), (Nat.le_of_ble_eq_true rfl)⟩ ⟨(Nat.le_of_ble_eq_true rfl), (Nat.le_of_ble_eq_true rfl)⟩ rfl rfl (Or.inr (Or.inr ⟨rfl, k, hk, rfl, h11, h17, Or.inl c25⟩))
  · skip
    refine lv_aload hx hb dX2_add_28 (lv_at hl 0 rfl) ?_
    refine vp_callSi (va_runV (As := []) (rest := []) (b := ao) ⟨hx, hb, hml, hown, hts⟩ (kX1_hasRoom l g X hz _ ao la k ho hla) (cwV 0 hts gX2_add_X1_hasRoom rfl rfl rfl (by decide +kernel) ⟨Nat.le_of_ble_eq_true rfl, Nat.le_of_ble_eq_true rfl⟩) (x_preV hW hK hE (x_recvO hK hW ho)) rfl rfl hl.1 rfl (lv_room (Nat.le_of_ble_eq_true rfl)) dX2_add_30 ⟨Nat.le_of_ble_eq_true rfl, Nat.le_of_ble_eq_true rfl⟩).run (fun r hp => ?_)
    subst hp
    refine lv_if_ne (tgt := 46) hx hb dX2_add_33 (by decide) (fun c33 => ?_) (fun c33 => ?_)
    · skip
      have hk8 : kc k < 8 := Nat.lt_of_not_le (fun z => c33 (by unfold roomX; rw [hX7]; exact if_pos (nI_le (a := 8) z (by omega))))
      have h30 : ∀ i a, g 1 i = some a → i < 30 := fun i a h => Nat.lt_of_lt_of_le (hZ.2.2 i a h) hC.1
      refine lv_aload hx hb dX2_add_46 (lv_at hl 0 rfl) ?_
      refine f_new (own := RX2) (C := RX0) (T := TX0) (N := 5) (ci := 0) (fs := [.int 0, .int 0, .int 0, .int 0, .int 0]) hx hb hts hin0 tyX0 tyX0_ok hown (hts (.classLink RX2 49 RX0) (List.mem_of_getElem? (i := 5) rfl)) (hts (.instantiable RX0 5) (List.mem_of_getElem? (i := 6) rfl)) (hts (.initialized RX0) (List.mem_of_getElem? (i := 7) rfl)) hK hS rfl nwX0 (Nat.le_of_ble_eq_true rfl) (Nat.le_of_ble_eq_true rfl) dX2_add_48 (fun H1 hq1 hz1 ho1 hS => ?_)
      refine lv_dup hx hb dX2_add_51 rfl ?_
      refine lv_iload_n hx hb dX2_add_52 rfl (lv_at hl 3 rfl) ?_
      refine lv_iload_n hx hb dX2_add_53 rfl (lv_at hl 4 rfl) ?_
      refine va_callv (va_runI (As := [.int p1, .int p2]) (rest := [.ref s.heap.size, .ref ao]) ⟨hx, hb, hml, hown, hts⟩ (kX0_init l H1.size s.heap.size p1 p2) (cwI 2 hts gX2_add_X0_init rfl rfl rfl (hts (.initialized RX0) (List.mem_of_getElem? (i := 7) rfl)) (hts (.methodLink RX2 51 yX0_init) (List.mem_of_getElem? (i := 28) rfl)) (hts (.instanceMethod yX0_init) (List.mem_of_getElem? (i := 29) rfl)) rfl (by decide +kernel) ⟨Nat.le_of_ble_eq_true rfl, Nat.le_of_ble_eq_true rfl⟩) (c_pre hq1 hK hE.2.2.2.2.1 hE.2.2.2.2.2) rfl rfl hl.1 rfl (lv_room (Nat.le_of_ble_eq_true rfl)) dX2_add_54 ⟨Nat.le_of_ble_eq_true rfl, Nat.le_of_ble_eq_true rfl⟩) hS (fun q _ h => Or.inr (Nat.le_of_eq h.symm)) (fun q h => Or.inr (Nat.le_of_eq h.symm)) (fun _ t H2 locs ht hvm hp hB hz2 hk2 hS => ?_)
      rw [ht] at hB
      have hold2 : ∀ a : Nat, a < s.heap.size → H2[a]? = s.heap[a]? := fun a h => (hk2 a (by omega) (fun z => absurd (Nat.le_of_eq (Eq.symm z)) (Nat.not_le.mpr h))).trans (ho1 a h)
      have hW2 : xW D cO cL (gLine g 300 s.heap.size) (xNewL X 300 p1 p2) H2 := hW.line h30 hold2 hB
      have hI2 : xI (gLine g 300 s.heap.size) := hI.line (fun t i a h => hW.lt h) (Nat.le_refl _)
      have ho2 : gLine g 300 s.heap.size 0 k = some ao := ho
      have hE2 : xE hz s H2 := hE.kept (fun a h1 h2 => hold2 a h1)
      have hO2 : xO (gLine g 300 s.heap.size) hz H2.size := ⟨fun t i a h => by rcases gLine_key h with ⟨_, _, h⟩ | ⟨h, _⟩; exact h ▸ hO.2; exact hO.1 t i a h, Nat.le_trans hO.2 (by omega)⟩
      have hAA : ∀ q, xA (gLine g 300 s.heap.size) H2.size q → xA g s.heap.size q := fun q h => by
        rcases h with ⟨t, i, h⟩ | h
        · rcases gLine_key h with ⟨_, _, h⟩ | ⟨h, _⟩
          · exact Or.inr (Nat.le_of_eq h.symm)
          · exact Or.inl ⟨t, i, h⟩
        · exact Or.inr (by omega)
      refine va_calli (va_runV (As := [.ref s.heap.size]) (rest := []) (b := ao) ⟨hx, hb, hml, hown, hts⟩ (kX1_addLine l (gLine g 300 s.heap.size) (xNewL X 300 p1 p2) hz _ hI2 hO2 ao la k ho2 hla s.heap.size (by simp [gLine]) (kc k) hk8 (by simp [xNewL, mu_e]; exact hX7) (fun i a h => h30 i a (by simpa [gLine] using h))) (cwV 1 hts gX2_add_X1_addLine rfl rfl rfl (by decide +kernel) ⟨Nat.le_of_ble_eq_true rfl, Nat.le_of_ble_eq_true rfl⟩) (x_preV hW2 hK hE2 (x_recvO hK hW2 ho2)) rfl rfl hl.1 rfl (lv_room (Nat.le_of_ble_eq_true rfl)) dX2_add_57 ⟨Nat.le_of_ble_eq_true rfl, Nat.le_of_ble_eq_true rfl⟩) hS (fun q _ h => hAA q h) hAA (fun r u t H4 locs ht4 hvm4 hp4 hB4 hz4 hk4 hS => ?_)
      obtain ⟨u1, u2⟩ := u
      obtain ⟨h5, h6, h7⟩ := hp4
      dsimp only at h5 h6 hB4
      subst h5 h6 h7
      rw [ht4] at hB4
      exact xg_ret hx hb hr hlocks ⟨Nat.le_of_ble_eq_true rfl, Nat.le_of_ble_eq_true rfl⟩ hB4 hS ⟨k, s.heap.size, hk, rfl, h11, h17, c25, hk8, Nat.le_refl _, rfl, rfl, rfl⟩ dX2_add_60
    · skip
      exact x_throw (cls := ISE) (text := "the order takes no more lines") (ik := 24) (is := 47) (ic := 28) hlt hx hb hown hts hE (by decide +kernel) (by decide +kernel) (hts (.classLink RX2 24 "java/lang/IllegalStateException") (List.mem_of_getElem? (i := 1) rfl)) (hts (.initialized "java/lang/IllegalStateException") (List.mem_of_getElem? (i := 2) rfl)) (List.mem_of_getElem? (i := 1) rfl) (fun w h => List.mem_cons_of_mem _ (List.mem_append_left _ (List.mem_append_left _ (List.mem_append_right _ (h))))) tn_S tg_S (hl.1.trans hml.symm) htab hlocks dX2_add_36 dX2_add_39 dX2_add_40 dX2_add_42 dX2_add_45 ⟨(Nat.le_of_ble_eq_true rfl), (Nat.le_of_ble_eq_true rfl), (Nat.le_of_ble_eq_true rfl), (Nat.le_of_ble_eq_true rfl)⟩ ⟨(Nat.le_of_ble_eq_true rfl), (Nat.le_of_ble_eq_true rfl)⟩ rfl rfl (Or.inr (Or.inr ⟨rfl, k, hk, rfl, h11, h17, Or.inr (room_no hX7 hkk c33)⟩))

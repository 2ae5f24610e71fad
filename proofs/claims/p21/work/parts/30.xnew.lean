/-! WHAT IS MADE: new objects and arrays, the constructors. -/
theorem arr_congr {cA : ClassId} {n : Nat} {f f' : Nat → Option Nat} (h : ∀ j, j < n → f j = f' j) : vp_cell cA (n, .inr (.inr (.inr (.inr f)))) = vp_cell cA (n, .inr (.inr (.inr (.inr f')))) := by
  rw [vp_cell_q, vp_cell_q]
  unfold arrV
  congr 2
  funext j
  show va_rf (f j.val) = va_rf (f' j.val)
  rw [h j.val j.isLt]
theorem at_congr {D : va_G} {cA : ClassId} {a n : Nat} {f f' : Nat → Option Nat} {H : Heap} (h : va_at D vwCl (a, .inl (cA, n, .inr (.inr (.inr (.inr f))))) H) (hf : ∀ j, j < n → f j = f' j) : va_at D vwCl (a, .inl (cA, n, .inr (.inr (.inr (.inr f'))))) H := by
  have h1 : H[a]? = some (vp_cell cA (n, .inr (.inr (.inr (.inr f))))) := h
  rw [arr_congr hf] at h1
  exact h1
section Fnew
variable {p : Program} {l : Launch} {e : Env} {R : Room} {s : State} {m : MethodId} {args : Array Value} {below : List Frame} {meth : Method} {c : Code} {H : Heap} {locs : List Loc} {cells slots : Nat} {Q : State → Prop}
variable {cc : ByteArray} {pc : Nat} {ls : Array Slot} {rest : List Value} {D : va_G} {cI cO cL cJ : ClassId} {H0 : Heap} {A : Nat → Prop}
theorem s_new {H1 : Heap} (hS : va_S A H0 H locs) (z : H1.size = H.size + 1) (o : ∀ q, q < H.size → H1[q]? = H[q]?) : va_S A H0 H1 locs := ⟨Nat.le_trans hS.1 (by omega), fun x h1 h2 => (o x (Nat.lt_of_lt_of_le h1 hS.1)).trans (hS.2.1 x h1 h2), hS.2.2⟩
theorem f_new (hexec : p.tables.exec = Jvm.exec) (hb : c.code = cc) {own C : String} {T : u_T} {N ci index : Nat} {Ts : List Cond} (hts : ∀ w ∈ Ts, w.before args s = true) (hin : ∀ w ∈ u_ws C T N, w ∈ Ts) (ty : Nat → FieldType) (hty : ∀ k, k < N → parseFieldDescriptor (T k).2.2.1 = some (ty k)) (hown : s.vm.findClass own = some m.cls) (hcl : (Cond.classLink own index C).before args s = true) (hinst : (Cond.instantiable C N).before args s = true) (hini : (Cond.initialized C).before args s = true)
    (hK : KK D cI cO cL cJ s) (hS : va_S A H0 H locs) (hc : vwCl[ci]? = some (C, T, N)) {fs : List Value} (hfs : ∀ j, j < N → defaultValue (ty j) = vp_V fs j) (hcells : cells + 1 ≤ R.cells) (hslots : slots + N ≤ R.slots) (hdg : decode cc pc = .ok (.new index, 3))
    (kk : ∀ H1 : Heap, va_at D vwCl (H.size, .inr (ci, fs)) H1 → H1.size = H.size + 1 → (∀ q, q < H.size → H1[q]? = H[q]?) → va_S A H0 H1 locs →
      W p l e R s m args below meth c H1 locs (cells + 1) (slots + N) Q (F0 m (pc + 3) ls (.ref H.size :: rest))) : W p l e R s m args below meth c H locs cells slots Q (F0 m pc ls rest) := by
  have hKn := hK.1 ci _ hc
  refine W.newcK hexec hb hown hcl hinst hini rfl hdg hcells hslots hKn.2.1 rfl fun H1 kC hkC e1 z1 o1 => ?_
  exact kk H1 ⟨_, hc, (u_born ty hts hin hKn hkC e1 hty).to hfs⟩ z1 o1 (s_new hS z1 o1)
theorem f_anew (hexec : p.tables.exec = Jvm.exec) (hb : c.code = cc) {own C : String} {index : Nat} (hown : s.vm.findClass own = some m.cls) (hclink : (Cond.classLink own index C).before args s = true) (hover : va_AO C s) (hK : KK D cI cO cL cJ s) {cA : ClassId} (t0 : Nat) (ht : (tyL cI cO cL cJ)[t0]? = some (cA, .object C)) (hS : va_S A H0 H locs) {n : Int32} {N' : Nat} (hn : n = nI N') (hN : N' ≤ 1000) (hcells : cells + 1 ≤ R.cells) (hslots : slots + N' ≤ R.slots) (hdg : decode cc pc = .ok (.anewarray index, 3))
    (kk : ∀ H1 : Heap, va_at D vwCl (H.size, .inl (cA, N', .inr (.inr (.inr (.inr (fun _ => none)))))) H1 → H1.size = H.size + 1 → (∀ q, q < H.size → H1[q]? = H[q]?) → va_S A H0 H1 locs →
      W p l e R s m args below meth c H1 locs (cells + 1) (slots + N') Q (F0 m (pc + 3) ls (.ref H.size :: rest))) : W p l e R s m args below meth c H locs cells slots Q (F0 m pc ls (.int n :: rest)) := by
  subst hn
  have hc := nI_clamp (n := N') (by omega)
  refine W.anew hexec hb hown hclink (va_AO.use hover) rfl hdg rfl (nI_pos (by omega)) (by rw [hc]; omega) hcells (by rw [hc]; exact hslots) fun cA' kA comp f1 f2 f3 f4 => ?_
  obtain ⟨kA', comp', k1, k2, k3, k4⟩ := (hK.2 t0 _ ht).2
  cases Option.some.inj (k4.symm.trans f1)
  rw [hc]
  generalize hH1 : H.push ({ cls := cA, slots := Array.replicate N' .null, vm := .none } : Cell) = H1
  have z1 : H1.size = H.size + 1 := by rw [← hH1, Array.size_push]
  have o1 : ∀ q : Nat, q < H.size → H1[q]? = H[q]? := fun q hq => by rw [← hH1, Array.getElem?_push, if_neg (Nat.ne_of_lt hq)]
  refine kk H1 ?_ z1 o1 (s_new hS z1 o1)
  show H1[H.size]? = some (vp_cell _ _)
  rw [← hH1, Array.getElem?_push_size, vp_cell_q]
  exact congrArg some (arrV_new _ _ _)
end Fnew
/-- a constructor's start: the blank object -/
def cP (D : va_G) (cI cO cL cJ : ClassId) (sz : Nat) (q0 : Nat × va_E) (av : List Value) : Array Value → State → Prop := va_Pc av (fun U => U.heap.size = sz ∧ va_at D vwCl q0 U.heap ∧ KK D cI cO cL cJ U ∧ va_AO RX0 U ∧ va_AO RX1 U)
theorem cP.blind {D : va_G} {cI cO cL cJ : ClassId} {sz : Nat} {q0 : Nat × va_E} {av : List Value} : FrameBlind (cP D cI cO cL cJ sz q0 av) := fun a U f mk h => ⟨h.1, h.2.1, h.2.2.1, va_K.moved (u := U) (U := U.calling f mk a) (Vm.Alike.refl U.vm) h.2.2.2.1, va_AO.moved (u := U) (U := U.calling f mk a) (Vm.Alike.refl U.vm) h.2.2.2.2.1, va_AO.moved (u := U) (U := U.calling f mk a) (Vm.Alike.refl U.vm) h.2.2.2.2.2⟩
theorem c_pre {D : va_G} {cI cO cL cJ : ClassId} {s : State} {H : Heap} {q0 : Nat × va_E} {As : List Value} (hat : va_at D vwCl q0 H) (hK : KK D cI cO cL cJ s) (h0 : va_AO RX0 s) (h1 : va_AO RX1 s) : PreS s H (cP D cI cO cL cJ H.size q0 As) As :=
  ⟨cP.blind, fun U hU hWm => ⟨rfl, by rw [hU], by rw [hU]; exact hat, hK.moved hWm.alike, h0.moved hWm.alike, h1.moved hWm.alike⟩⟩
set_option maxHeartbeats 4000000 in
set_option maxRecDepth 100000 in
theorem kX0_init (l : Launch) {D : va_G} {cI cO cL cJ : ClassId} (sz a : Nat) (p1 p2 : Int32) : Met l yX0_init wsX0_init ({ frames := 1, cells := 0, slots := 0, locals := 12 } : Room) (cP D cI cO cL cJ sz (a, .inr (0, [.int 0, .int 0, .int 0, .int 0, .int 0])) [.ref a, .int p1, .int p2]) (va_Qv (fun _ : Unit => True) (fun _ t => va_at D vwCl (a, .inr (0, [.int p1, .int p2, .int 0, .int 0, .int 0])) t.heap) (fun q => q = a)) 0 0 (fun q => q = a) := by
  refine Met.ofW (cc := cX0_init) (maxL := 3) (ret := none) (by decide) rfl ?_
  intro p e s m args below meth c s₁ B hml hv
  obtain ⟨rfl, hsz, hat, hK, hA0, hA1⟩ := hv
  subst hsz
  have hx := B.exec
  have hb := B.bytes
  have hr := B.returns
  have hts := atoms_spec (ws := wsX0_init) B.pre
  have hown : s.vm.findClass RX0 = some m.cls := findClass_of_methodNamed B.named
  have hlocks := B.notSynchronized
  have hin2 : meth.name = "<init>" := (name_of_methodNamed B.named B.method).1
  have hl := lv_entry ([.ref a, .int p1, .int p2] : List Value) (n := 3) (Nat.le_of_ble_eq_true rfl)
  rw [lg_entry_eq]
  generalize (lg_sl ([.ref a, .int p1, .int p2] : List Value) ++ List.replicate (3 - (lg_sl ([.ref a, .int p1, .int p2] : List Value)).length) Slot.unset).toArray = ls at hl ⊢
  have hl : lv_has ls 3 [(0, .ref a), (1, .int p1), (2, .int p2)] := hl
  have hS : va_S (fun q => q = a) s.heap s.heap [] := va_S.rf
  have hin : ∀ w ∈ u_ws RX0 TX0 5, w ∈ wsX0_init := (fun w h => List.mem_cons_of_mem _ (List.mem_append_right _ (h)))
  refine lv_aload_n hx hb dX0_init_0 rfl (lv_at hl 0 rfl) ?_
  refine W.objInit hx hb hown (hts (.methodLink RX0 3 objectInit) (List.mem_of_getElem? (i := 1) rfl)) (hts (.instanceMethod objectInit) (List.mem_of_getElem? (i := 2) rfl)) (hts (.code objectInit ⟨#[0xb1]⟩ 1 none) (List.mem_of_getElem? (i := 3) rfl)) rfl (by rw [hml]; exact hl.1) rfl dX0_init_1 (Nat.le_of_ble_eq_true rfl) (Nat.le_of_ble_eq_true rfl) ?_
  refine W.eq (g2 := F0 m 4 ls []) rfl ?_
  refine lv_aload_n hx hb dX0_init_4 rfl (lv_at hl 0 rfl) ?_
  refine lv_iconst (v := 0) hx hb dX0_init_5 (by decide) ?_
  refine f_put (fs := [.int 0, .int 0, .int 0, .int 0, .int 0]) hx hb hts hin tyX0 tyX0_ok nmX0 hown hK hat hS rfl rfl 2 (by decide) (hts (.fieldLink RX0 9 "ReturnsDesk$Line" "state" "I") (List.mem_of_getElem? (i := 4) rfl)) (fun _ h9 => h9) rfl (tyX0_ok 2 (by decide)) rfl rfl (show (2 : Nat) < 5 by decide) dX0_init_6 (fun H1 locs hat hz1 ho hS => ?_)
  refine lv_aload_n hx hb dX0_init_9 rfl (lv_at hl 0 rfl) ?_
  refine lv_iload_n hx hb dX0_init_10 rfl (lv_at hl 1 rfl) ?_
  refine f_putF (fs := [.int 0, .int 0, .int 0, .int 0, .int 0]) hx hb hts hin tyX0 tyX0_ok nmX0 hown hK hat hS rfl rfl 0 (by decide) (hts (.fieldLink RX0 15 "ReturnsDesk$Line" "price" "I") (List.mem_of_getElem? (i := 5) rfl)) (fun _ h9 => h9) rfl hin2 rfl (tyX0_ok 0 (by decide)) rfl rfl (show (0 : Nat) < 5 by decide) dX0_init_11 (fun H1 locs hat hz1 ho hS => ?_)
  refine lv_aload_n hx hb dX0_init_14 rfl (lv_at hl 0 rfl) ?_
  refine lv_iload_n hx hb dX0_init_15 rfl (lv_at hl 2 rfl) ?_
  refine f_putF (fs := [.int p1, .int 0, .int 0, .int 0, .int 0]) hx hb hts hin tyX0 tyX0_ok nmX0 hown hK hat hS rfl rfl 1 (by decide) (hts (.fieldLink RX0 18 "ReturnsDesk$Line" "kind" "I") (List.mem_of_getElem? (i := 6) rfl)) (fun _ h9 => h9) rfl hin2 rfl (tyX0_ok 1 (by decide)) rfl rfl (show (1 : Nat) < 5 by decide) dX0_init_16 (fun H1 locs hat hz1 ho hS => ?_)
  exact W.vret hx hb hr (fun t ht _ => ⟨⟨(), rfl, trivial, by show va_at D vwCl _ t.heap; rw [ht]; exact hat⟩, hS.F ht⟩) hS.2.2 dX0_init_19 hlocks
set_option maxHeartbeats 4000000 in
set_option maxRecDepth 100000 in
theorem kX1_init (l : Launch) {D : va_G} {cI cO cL cJ : ClassId} (sz a : Nat) (p1 p2 : Int32) (haz : a < sz) : Met l yX1_init wsX1_init ({ frames := 1, cells := 1, slots := 8, locals := 12 } : Room) (cP D cI cO cL cJ sz (a, .inr (1, [.int 0, .int 0, .null, .int 0, .int 0, .int 0, .int 0, .int 0, .int 0, .int 0, .int 0, .int 0])) [.ref a, .int p1, .int p2]) (va_Qv (fun la : Nat => sz ≤ la) (fun la t => va_at D vwCl (a, .inr (1, [.int p1, .int p2, .ref la, .int 0, .int 0, .int 0, .int 0, .int 0, .int 0, .int 0, .int 0, .int 0])) t.heap ∧ va_at D vwCl (la, .inl (cL, 8, .inr (.inr (.inr (.inr (fun _ => none)))))) t.heap) (fun q => q = a ∨ sz ≤ q)) 1 8 (fun q => q = a ∨ sz ≤ q) := by
  refine Met.ofW (cc := cX1_init) (maxL := 3) (ret := none) (by decide) rfl ?_
  intro p e s m args below meth c s₁ B hml hv
  obtain ⟨rfl, hsz, hat, hK, hA0, hA1⟩ := hv
  subst hsz
  have hx := B.exec
  have hb := B.bytes
  have hr := B.returns
  have hts := atoms_spec (ws := wsX1_init) B.pre
  have hown : s.vm.findClass RX1 = some m.cls := findClass_of_methodNamed B.named
  have hlocks := B.notSynchronized
  have hin2 : meth.name = "<init>" := (name_of_methodNamed B.named B.method).1
  have hl := lv_entry ([.ref a, .int p1, .int p2] : List Value) (n := 3) (Nat.le_of_ble_eq_true rfl)
  rw [lg_entry_eq]
  generalize (lg_sl ([.ref a, .int p1, .int p2] : List Value) ++ List.replicate (3 - (lg_sl ([.ref a, .int p1, .int p2] : List Value)).length) Slot.unset).toArray = ls at hl ⊢
  have hl : lv_has ls 3 [(0, .ref a), (1, .int p1), (2, .int p2)] := hl
  have hS : va_S (fun q => q = a ∨ s.heap.size ≤ q) s.heap s.heap [] := va_S.rf
  have hin : ∀ w ∈ u_ws RX1 TX1 12, w ∈ wsX1_init := (fun w h => List.mem_cons_of_mem _ (List.mem_append_right _ (h)))
  refine lv_aload_n hx hb dX1_init_0 rfl (lv_at hl 0 rfl) ?_
  refine W.objInit hx hb hown (hts (.methodLink RX1 3 objectInit) (List.mem_of_getElem? (i := 1) rfl)) (hts (.instanceMethod objectInit) (List.mem_of_getElem? (i := 2) rfl)) (hts (.code objectInit ⟨#[0xb1]⟩ 1 none) (List.mem_of_getElem? (i := 3) rfl)) rfl (by rw [hml]; exact hl.1) rfl dX1_init_1 (Nat.le_of_ble_eq_true rfl) (Nat.le_of_ble_eq_true rfl) ?_
  refine W.eq (g2 := F0 m 4 ls []) rfl ?_
  refine lv_aload_n hx hb dX1_init_4 rfl (lv_at hl 0 rfl) ?_
  refine lv_bipush (v := 8) hx hb dX1_init_5 (by decide) ?_
  refine f_anew hx hb hown (hts (.classLink RX1 9 RX0) (List.mem_of_getElem? (i := 4) rfl)) hA0 hK 2 rfl hS (N' := 8) rfl (by decide) (Nat.le_of_ble_eq_true rfl) (Nat.le_of_ble_eq_true rfl) dX1_init_7 (fun H1 hla hz1 ho1 hS => ?_)
  have hat : va_at D vwCl (a, .inr (1, [.int 0, .int 0, .null, .int 0, .int 0, .int 0, .int 0, .int 0, .int 0, .int 0, .int 0, .int 0])) H1 := hat.kept (ho1 a haz)
  refine f_putF (fs := [.int 0, .int 0, .null, .int 0, .int 0, .int 0, .int 0, .int 0, .int 0, .int 0, .int 0, .int 0]) hx hb hts hin tyX1 tyX1_ok nmX1 hown hK hat hS (Or.inl rfl) rfl 2 (by decide) (hts (.fieldLink RX1 11 "ReturnsDesk$Order" "lines" "[LReturnsDesk$Line;") (List.mem_of_getElem? (i := 5) rfl)) (fun _ h9 => h9) rfl hin2 rfl (v := .ref s.heap.size) (tyX1_ok 2 (by decide)) rfl rfl (show (2 : Nat) < 12 by decide) dX1_init_10 (fun H1 locs hat hz1 ho hS => ?_)
  have hla : va_at D vwCl (s.heap.size, .inl (cL, 8, .inr (.inr (.inr (.inr (fun _ => none)))))) _ := hla.kept (ho s.heap.size (fun h => by have h9 : s.heap.size = a := h; omega))
  refine lv_aload_n hx hb dX1_init_13 rfl (lv_at hl 0 rfl) ?_
  refine lv_iload_n hx hb dX1_init_14 rfl (lv_at hl 1 rfl) ?_
  refine f_putF (fs := [.int 0, .int 0, .ref s.heap.size, .int 0, .int 0, .int 0, .int 0, .int 0, .int 0, .int 0, .int 0, .int 0]) hx hb hts hin tyX1 tyX1_ok nmX1 hown hK hat hS (Or.inl rfl) rfl 0 (by decide) (hts (.fieldLink RX1 17 "ReturnsDesk$Order" "percent" "I") (List.mem_of_getElem? (i := 6) rfl)) (fun _ h9 => h9) rfl hin2 rfl (tyX1_ok 0 (by decide)) rfl rfl (show (0 : Nat) < 12 by decide) dX1_init_15 (fun H1 locs hat hz1 ho hS => ?_)
  have hla : va_at D vwCl (s.heap.size, .inl (cL, 8, .inr (.inr (.inr (.inr (fun _ => none)))))) _ := hla.kept (ho s.heap.size (fun h => by have h9 : s.heap.size = a := h; omega))
  refine lv_aload_n hx hb dX1_init_18 rfl (lv_at hl 0 rfl) ?_
  refine lv_iload_n hx hb dX1_init_19 rfl (lv_at hl 2 rfl) ?_
  refine f_putF (fs := [.int p1, .int 0, .ref s.heap.size, .int 0, .int 0, .int 0, .int 0, .int 0, .int 0, .int 0, .int 0, .int 0]) hx hb hts hin tyX1 tyX1_ok nmX1 hown hK hat hS (Or.inl rfl) rfl 1 (by decide) (hts (.fieldLink RX1 21 "ReturnsDesk$Order" "least" "I") (List.mem_of_getElem? (i := 7) rfl)) (fun _ h9 => h9) rfl hin2 rfl (tyX1_ok 1 (by decide)) rfl rfl (show (1 : Nat) < 12 by decide) dX1_init_20 (fun H1 locs hat hz1 ho hS => ?_)
  have hla : va_at D vwCl (s.heap.size, .inl (cL, 8, .inr (.inr (.inr (.inr (fun _ => none)))))) _ := hla.kept (ho s.heap.size (fun h => by have h9 : s.heap.size = a := h; omega))
  exact W.vret hx hb hr (fun t ht _ => ⟨⟨s.heap.size, rfl, Nat.le_refl _, by show va_at D vwCl _ t.heap ∧ va_at D vwCl _ t.heap; rw [ht]; exact ⟨hat, hla⟩⟩, hS.F ht⟩) hS.2.2 dX1_init_23 hlocks
set_option maxHeartbeats 4000000 in
set_option maxRecDepth 100000 in
theorem kX2_init (l : Launch) {D : va_G} {cI cO cL cJ : ClassId} (sz a : Nat) (haz : a < sz) : Met l yX2_init wsX2_init ({ frames := 1, cells := 1, slots := 30, locals := 12 } : Room) (cP D cI cO cL cJ sz (a, .inr (2, [.null, .int 0, .int 0, .int 0, .int 0, .int 0])) [.ref a]) (va_Qv (fun bk : Nat => sz ≤ bk) (fun bk t => va_at D vwCl (a, .inr (2, [.ref bk, .int 0, .int 0, .int 0, .int 0, .int 0])) t.heap ∧ va_at D vwCl (bk, .inl (cO, 30, .inr (.inr (.inr (.inr (fun _ => none)))))) t.heap) (fun q => q = a ∨ sz ≤ q)) 1 30 (fun q => q = a ∨ sz ≤ q) := by
  refine Met.ofW (cc := cX2_init) (maxL := 1) (ret := none) (by decide) rfl ?_
  intro p e s m args below meth c s₁ B hml hv
  obtain ⟨rfl, hsz, hat, hK, hA0, hA1⟩ := hv
  subst hsz
  have hx := B.exec
  have hb := B.bytes
  have hr := B.returns
  have hts := atoms_spec (ws := wsX2_init) B.pre
  have hown : s.vm.findClass RX2 = some m.cls := findClass_of_methodNamed B.named
  have hlocks := B.notSynchronized
  have hin2 : meth.name = "<init>" := (name_of_methodNamed B.named B.method).1
  have hl := lv_entry ([.ref a] : List Value) (n := 1) (Nat.le_of_ble_eq_true rfl)
  rw [lg_entry_eq]
  generalize (lg_sl ([.ref a] : List Value) ++ List.replicate (1 - (lg_sl ([.ref a] : List Value)).length) Slot.unset).toArray = ls at hl ⊢
  have hl : lv_has ls 1 [(0, .ref a)] := hl
  have hS : va_S (fun q => q = a ∨ s.heap.size ≤ q) s.heap s.heap [] := va_S.rf
  have hin : ∀ w ∈ u_ws RX2 TX2 6, w ∈ wsX2_init := (fun w h => List.mem_cons_of_mem _ (List.mem_append_right _ (h)))
  refine lv_aload_n hx hb dX2_init_0 rfl (lv_at hl 0 rfl) ?_
  refine W.objInit hx hb hown (hts (.methodLink RX2 1 objectInit) (List.mem_of_getElem? (i := 1) rfl)) (hts (.instanceMethod objectInit) (List.mem_of_getElem? (i := 2) rfl)) (hts (.code objectInit ⟨#[0xb1]⟩ 1 none) (List.mem_of_getElem? (i := 3) rfl)) rfl (by rw [hml]; exact hl.1) rfl dX2_init_1 (Nat.le_of_ble_eq_true rfl) (Nat.le_of_ble_eq_true rfl) ?_
  refine W.eq (g2 := F0 m 4 ls []) rfl ?_
  refine lv_aload_n hx hb dX2_init_4 rfl (lv_at hl 0 rfl) ?_
  refine lv_bipush (v := 30) hx hb dX2_init_5 (by decide) ?_
  refine f_anew hx hb hown (hts (.classLink RX2 9 RX1) (List.mem_of_getElem? (i := 4) rfl)) hA1 hK 1 rfl hS (N' := 30) rfl (by decide) (Nat.le_of_ble_eq_true rfl) (Nat.le_of_ble_eq_true rfl) dX2_init_7 (fun H1 hla hz1 ho1 hS => ?_)
  have hat : va_at D vwCl (a, .inr (2, [.null, .int 0, .int 0, .int 0, .int 0, .int 0])) H1 := hat.kept (ho1 a haz)
  refine f_putF (fs := [.null, .int 0, .int 0, .int 0, .int 0, .int 0]) hx hb hts hin tyX2 tyX2_ok nmX2 hown hK hat hS (Or.inl rfl) rfl 0 (by decide) (hts (.fieldLink RX2 11 "ReturnsDesk" "book" "[LReturnsDesk$Order;") (List.mem_of_getElem? (i := 5) rfl)) (fun _ h9 => h9) rfl hin2 rfl (v := .ref s.heap.size) (tyX2_ok 0 (by decide)) rfl rfl (show (0 : Nat) < 6 by decide) dX2_init_10 (fun H1 locs hat hz1 ho hS => ?_)
  have hla : va_at D vwCl (s.heap.size, .inl (cO, 30, .inr (.inr (.inr (.inr (fun _ => none)))))) _ := hla.kept (ho s.heap.size (fun h => by have h9 : s.heap.size = a := h; omega))
  exact W.vret hx hb hr (fun t ht _ => ⟨⟨s.heap.size, rfl, Nat.le_refl _, by show va_at D vwCl _ t.heap ∧ va_at D vwCl _ t.heap; rw [ht]; exact ⟨hat, hla⟩⟩, hS.F ht⟩) hS.2.2 dX2_init_13 hlocks

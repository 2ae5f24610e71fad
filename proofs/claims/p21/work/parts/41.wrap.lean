/-! THE LAW'S SMALL METHODS: low, cell, all; and the calls that are caught. -/
theorem low_of (v : Int32) {N : Nat} (h0 : 0 < N) (hN : N < 2 ^ 31) : ∃ q, q < N ∧ (v &&& 2147483647) - (v &&& 2147483647) / nI N * nI N = nI q := by
  obtain ⟨j, hj, e⟩ := pk_andE v (m := 2147483647) 31 (by decide)
  refine ⟨j % N, Nat.mod_lt _ h0, ?_⟩
  rw [e, pk_rem (by omega) h0 hN]
set_option maxHeartbeats 4000000 in
set_option maxRecDepth 100000 in
theorem kL_low (l : Launch) (v : Int32) {N : Nat} (h0 : 0 < N) (hN : N < 2 ^ 31) : Met l yL_low wsL_low ({ frames := 0, cells := 0, slots := 0, locals := 0 } : Room) (sP [.int v, .int (nI N)]) (vp_Si (fun r : Int32 => ∃ q, q < N ∧ r = nI q)) 0 0 (fun _ => False) := by
  refine s_body (cc := cL_low) (maxL := 2) (ret := some .int) (by decide) rfl [.int v, .int (nI N)] (Nat.le_of_ble_eq_true rfl) ?_
  intro p e s m args below meth c hx hb hr hts hown hml hlocks ls hl
  have hown : s.vm.findClass RL = some m.cls := hown
  have hl : lv_has ls 2 [(0, .int v), (1, .int (nI N))] := hl
  refine lv_iload_n hx hb dL_low_0 rfl (lv_at hl 0 rfl) ?_
  refine lv_ldc (v := 2147483647) hx hb hown (hts (.constant RL 7 (2147483647)) (List.mem_of_getElem? (i := 1) rfl)) dL_low_1 ?_
  refine lv_iand hx hb dL_low_3 ?_
  refine lv_iload_n hx hb dL_low_4 rfl (lv_at hl 1 rfl) ?_
  refine lv_irem hx hb dL_low_5 (nI_ne0 h0 hN) ?_
  exact r_ret hx hb hr hlocks (low_of v h0 hN) dL_low_6
/-- the script, handed on -/
def scP (b L : Nat) (xs : Nat → Int32) (av : List Value) : Array Value → State → Prop := va_Pc av (fun U => va_X b L xs U U.heap)
theorem scP.blind {b L : Nat} {xs : Nat → Int32} {av : List Value} : FrameBlind (scP b L xs av) := fun a U f mk h => ⟨h.1, va_X.moved (u := U) (U := U.calling f mk a) (Vm.Alike.refl U.vm) h.2⟩
set_option maxHeartbeats 4000000 in
set_option maxRecDepth 100000 in
theorem kL_cell (l : Launch) (b L : Nat) (xs : Nat → Int32) (hL : L ≤ 260) {k : Nat} (hk : k < 2 ^ 31) : Met l yL_cell wsL_cell ({ frames := 0, cells := 0, slots := 0, locals := 0 } : Room) (scP b L xs [.ref b, .int (nI k)]) (vp_Si (fun _ : Int32 => True)) 0 0 (fun _ => False) := by
  refine Met.ofW (cc := cL_cell) (maxL := 2) (ret := some .int) (by decide) rfl ?_
  intro p e s m args below meth c s₁ B hml hv
  obtain ⟨rfl, hX⟩ := hv
  have hx := B.exec
  have hb := B.bytes
  have hr := B.returns
  have hts := atoms_spec (ws := wsL_cell) B.pre
  have hown : s.vm.findClass RL = some m.cls := findClass_of_methodNamed B.named
  have hlocks := B.notSynchronized
  have hl := lv_entry ([.ref b, .int (nI k)] : List Value) (n := 2) (Nat.le_of_ble_eq_true rfl)
  rw [lg_entry_eq]
  generalize (lg_sl ([.ref b, .int (nI k)] : List Value) ++ List.replicate (2 - (lg_sl ([.ref b, .int (nI k)] : List Value)).length) Slot.unset).toArray = ls at hl ⊢
  have hl : lv_has ls 2 [(0, .ref b), (1, .int (nI k))] := hl
  have hbl : b < s.heap.size := by
    obtain ⟨scr, h, -⟩ := hX
    exact (Array.getElem?_eq_some_iff.mp h).1
  have hS : va_S (fun _ => False) s.heap s.heap [] := va_S.rf
  refine lv_iload_n hx hb dL_cell_0 rfl (lv_at hl 1 rfl) ?_
  refine lv_aload_n hx hb dL_cell_1 rfl (lv_at hl 0 rfl) ?_
  refine va_slen hx hb hX hbl (fun z => z) hS dL_cell_2 ?_
  refine lv_icmp_ge (tgt := 12) hx hb dL_cell_3 (by decide) (fun c3 => ?_) (fun c3 => ?_)
  · refine lv_ldc (v := 40503) hx hb hown (hts (.constant RL 8 (40503)) (List.mem_of_getElem? (i := 1) rfl)) dL_cell_12 ?_
    refine lv_iload_n hx hb dL_cell_14 rfl (lv_at hl 1 rfl) ?_
    refine lv_imul hx hb dL_cell_15 ?_
    refine lv_sipush (v := 977) hx hb dL_cell_16 (by decide) ?_
    refine lv_iadd hx hb dL_cell_19 ?_
    exact r_ret hx hb hr hlocks trivial dL_cell_20
  · have hkL : k < L := by
      rcases Nat.lt_or_ge k L with h | h
      · exact h
      · exact absurd (nI_le h hk) c3
    refine lv_aload_n hx hb dL_cell_6 rfl (lv_at hl 0 rfl) ?_
    refine lv_iload_n hx hb dL_cell_7 rfl (lv_at hl 1 rfl) ?_
    refine va_sld hx hb hX hbl (fun z => z) hS (vp_in_nI hkL (by omega)) dL_cell_8 ?_
    refine lv_goto (tgt := 20) hx hb dL_cell_9 (by decide) ?_
    exact r_ret hx hb hr hlocks trivial dL_cell_20
set_option maxHeartbeats 4000000 in
set_option maxRecDepth 100000 in
theorem kL_all (l : Launch) (hlt : l.stackTraces = false) {D : va_G} {cI cO cL cJ : ClassId} (g : XG) (X : MS) (hz sz : Nat) (d bk : Nat) (hd : g 3 0 = some d) (hbk : g 4 0 = some bk) (n : Nat) (kc : Nat → Nat) (hC : xC g X n kc) (k : Nat) (hk : k < n) : Met l yL_all wsL_all ({ frames := 8, cells := 6, slots := 36, locals := 127 } : Room) (xP D cI cO cL cJ g X hz sz [.ref d, .int (nI k)]) (vp_Si (fun r : Int32 => r = takenX X k)) 6 36 (fun _ => False) := by
  refine x_bodyM (cc := cL_all) (maxL := 2) (ret := some .int) (by decide) rfl [.ref d, .int (nI k)] (Nat.le_of_ble_eq_true rfl) ?_
  intro p e s m args below meth c hx hb hr hts hown hml hlocks hsz hW hK hE ls hl
  subst hsz
  have hown : s.vm.findClass RL = some m.cls := hown
  have hl : lv_has ls 2 [(0, .ref d), (1, .int (nI k))] := hl
  refine lv_aload_n hx hb dL_all_0 rfl (lv_at hl 0 rfl) ?_
  refine lv_iload_n hx hb dL_all_1 rfl (lv_at hl 1 rfl) ?_
  refine lv_iconst (v := 0) hx hb dL_all_2 (by decide) ?_
  refine z_taken hlt ⟨hx, hb, hml, hown, hts⟩ gL_all_X2_taken hW hK hE hd hbk hC hk (v := X 13 k) (y_in 0 (N := 2) rfl (by decide) (by decide)) rfl hl.1 (Nat.le_of_ble_eq_true rfl) dL_all_3 ⟨Nat.le_of_ble_eq_true rfl, Nat.le_of_ble_eq_true rfl⟩ ⟨Nat.le_of_ble_eq_true rfl, Nat.le_of_ble_eq_true rfl⟩ ?_
  refine lv_aload_n hx hb dL_all_6 rfl (lv_at hl 0 rfl) ?_
  refine lv_iload_n hx hb dL_all_7 rfl (lv_at hl 1 rfl) ?_
  refine lv_iconst (v := 1) hx hb dL_all_8 (by decide) ?_
  refine z_taken hlt ⟨hx, hb, hml, hown, hts⟩ gL_all_X2_taken hW hK hE hd hbk hC hk (v := X 14 k) (y_in 1 (N := 2) rfl (by decide) (by decide)) rfl hl.1 (Nat.le_of_ble_eq_true rfl) dL_all_9 ⟨Nat.le_of_ble_eq_true rfl, Nat.le_of_ble_eq_true rfl⟩ ⟨Nat.le_of_ble_eq_true rfl, Nat.le_of_ble_eq_true rfl⟩ ?_
  refine lv_iadd hx hb dL_all_12 ?_
  refine lv_aload_n hx hb dL_all_13 rfl (lv_at hl 0 rfl) ?_
  refine lv_iload_n hx hb dL_all_14 rfl (lv_at hl 1 rfl) ?_
  refine lv_iconst (v := 2) hx hb dL_all_15 (by decide) ?_
  refine z_taken hlt ⟨hx, hb, hml, hown, hts⟩ gL_all_X2_taken hW hK hE hd hbk hC hk (v := X 15 k) (y_in 2 (N := 2) rfl (by decide) (by decide)) rfl hl.1 (Nat.le_of_ble_eq_true rfl) dL_all_16 ⟨Nat.le_of_ble_eq_true rfl, Nat.le_of_ble_eq_true rfl⟩ ⟨Nat.le_of_ble_eq_true rfl, Nat.le_of_ble_eq_true rfl⟩ ?_
  refine lv_iadd hx hb dL_all_19 ?_
  exact y_ret hx hb hr hlocks ⟨Nat.le_of_ble_eq_true rfl, Nat.le_of_ble_eq_true rfl⟩ rfl dL_all_20
set_option maxHeartbeats 4000000 in
set_option maxRecDepth 100000 in
theorem kL_order (l : Launch) (hlt : l.stackTraces = false) {D : va_G} {cI cO cL cJ : ClassId} (g : XG) (X : MS) (hz sz : Nat) (hI : xI g) (hO : xO g hz sz) (d bk : Nat) (hd : g 3 0 = some d) (hbk : g 4 0 = some bk) (n : Nat) (kc : Nat → Nat) (hC : xC g X n kc) (hZ : xZ g n) (p0 p1 : Int32) (h0 : inR p0 0 90) (h1 : inR p1 0 1000000) : Met l yL_order wsL_order ({ frames := 8, cells := 4, slots := 32, locals := 126 } : Room) (xP D cI cO cL cJ g X hz sz [.ref d, .int p0, .int p1]) (xGi D cO cL g sz (fun (r : Int32) (u : XG × MS) => (∃ q la, sz ≤ q ∧ sz ≤ la ∧ q ≠ la ∧ u.1 = gOrd g n q la ∧ u.2 = mu (xNewO X n p0 p1) 0 0 (nI (n + 1)) ∧ r = nI n ∧ n < 30) ∨ (r = -3 ∧ ¬ n < 30 ∧ u = (g, X)))) 4 32 (xA g sz) := by
  refine va_MetW (cc := cL_order) (maxL := 4) (ret := some .int) (hh := [(0, 6, 7, 15)]) (by decide) rfl ?_
  intro p e s m args below meth c s₁ B hml hv
  obtain ⟨rfl, hsz, hW, hK, hE⟩ := hv
  subst hsz
  have hx := B.exec
  have hb := B.bytes
  have hr := B.returns
  have hts := atoms_spec (ws := wsL_order) B.pre
  have hown : s.vm.findClass RL = some m.cls := findClass_of_methodNamed B.named
  have hlocks := B.notSynchronized
  have htab := vx_table (x := yL_order) B (hts (.codeWith yL_order cL_order 4 (some .int) [(0, 6, 7, 15)]) (List.mem_of_getElem? (i := 0) rfl))
  have hl := lv_entry ([.ref d, .int p0, .int p1] : List Value) (n := 4) (Nat.le_of_ble_eq_true rfl)
  rw [lg_entry_eq]
  generalize (lg_sl ([.ref d, .int p0, .int p1] : List Value) ++ List.replicate (4 - (lg_sl ([.ref d, .int p0, .int p1] : List Value)).length) Slot.unset).toArray = ls at hl ⊢
  have hl : lv_has ls 4 [(0, .ref d), (1, .int p0), (2, .int p1)] := hl
  have hS : va_S (xA g s.heap.size) s.heap s.heap [] := va_S.rf
  have hn30 := hC.1
  refine lv_aload_n hx hb dL_order_0 rfl (lv_at hl 0 rfl) ?_
  refine lv_iload_n hx hb dL_order_1 rfl (lv_at hl 1 rfl) ?_
  refine lv_iload_n hx hb dL_order_2 rfl (lv_at hl 2 rfl) ?_
  refine x_cGI (vx_runV (As := [.int p0, .int p1]) (rest := []) (b := d) ⟨hx, hb, hml, hown, hts⟩ (kX2_order l hlt g X hz _ hI hO d bk hd hbk n kc hC hZ p0 p1) (cwV 2 hts gL_order_X2_order rfl rfl rfl (by decide +kernel) ⟨Nat.le_of_ble_eq_true rfl, Nat.le_of_ble_eq_true rfl⟩) (x_preV hW hK hE (x_recvD hK hW hd)) rfl rfl hl.1 rfl (lv_room (Nat.le_of_ble_eq_true rfl)) dL_order_3 ⟨Nat.le_of_ble_eq_true rfl, Nat.le_of_ble_eq_true rfl⟩) hS (Nat.le_refl _) (fun E ce q9 H1 locs1 hc hz1 hk1 hS1 hL1 hce hcv hcl => ?_) (fun r u H2 locs2 hp hW2 hz2 hk2 hS2 => ?_)
  · have hEe : E = ISE ∧ _ := (show E = ISE ∧ ¬ n < 30 from by
      rcases hc with ⟨-, h | h⟩ | ⟨h, -, -, h3⟩
      · exact absurd h0 h
      · exact absurd h1 h
      · exact ⟨h, h3⟩)
    obtain ⟨rfl, hbad⟩ := hEe
    exact vx_catch (own := RL) (name := ISE) hown [] ⟨0, 6, 7, 15⟩ [] htab (fun _ h => nomatch h) rfl (by decide) (hts (.classLink RL 15 "java/lang/IllegalStateException") (List.mem_of_getElem? (i := 1) rfl)) (cast_of hE (List.mem_of_getElem? (i := 0) rfl)) hce hcv hcl
      (lv_astore_n (lv' := (3, .ref q9) :: [(0, .ref d), (1, .int p0), (2, .int p1)]) hx hb dL_order_7 rfl hl (by decide) rfl (fun ls hl => lv_bipush (v := -3) hx hb dL_order_8 (by decide) (xg_retM hx hb hr hlocks ⟨Nat.le_of_ble_eq_true rfl, Nat.le_of_ble_eq_true rfl⟩ (hW.more hk1) hS1 (Or.inr ⟨rfl, hbad, rfl⟩) dL_order_10)))
  · have hp : ∃ q la, s.heap.size ≤ q ∧ s.heap.size ≤ la ∧ q ≠ la ∧ u.1 = gOrd g n q la ∧ u.2 = mu (xNewO X n p0 p1) 0 0 (nI (n + 1)) ∧ r = nI n ∧ n < 30 := by
      obtain ⟨q, la, a1, a2, a3, a4, a5, a6, a7, -⟩ := hp
      exact ⟨q, la, a1, a2, a3, a4, a5, a6, a7⟩
    exact xg_retM hx hb hr hlocks ⟨Nat.le_of_ble_eq_true rfl, Nat.le_of_ble_eq_true rfl⟩ hW2 hS2 (Or.inl hp) dL_order_6
set_option maxHeartbeats 4000000 in
set_option maxRecDepth 100000 in
theorem kL_add (l : Launch) (hlt : l.stackTraces = false) {D : va_G} {cI cO cL cJ : ClassId} (g : XG) (X : MS) (hz sz : Nat) (hI : xI g) (hO : xO g hz sz) (d bk : Nat) (hd : g 3 0 = some d) (hbk : g 4 0 = some bk) (n : Nat) (kc : Nat → Nat) (hC : xC g X n kc) (hZ : xZ g n) (k : Nat) (hk : k < n) (hop : X 8 k = 0) (p1 p2 : Int32) (h1 : inR p1 1 100000) (h2 : inR p2 0 2) : Met l yL_add wsL_add ({ frames := 8, cells := 4, slots := 24, locals := 128 } : Room) (xP D cI cO cL cJ g X hz sz [.ref d, .int (nI k), .int p1, .int p2]) (xGi D cO cL g sz (fun (r : Int32) (u : XG × MS) => (∃ al, kc k < 8 ∧ sz ≤ al ∧ u.1 = gMov (gLine g 300 al) (8 * k + kc k) al ∧ u.2 = mu (xMov (xNewL X 300 p1 p2) (8 * k + kc k)) 7 k (nI (kc k + 1)) ∧ r = nI (kc k)) ∨ (r = -3 ∧ ¬ kc k < 8 ∧ u = (g, X)))) 4 24 (xA g sz) := by
  refine va_MetW (cc := cL_add) (maxL := 5) (ret := some .int) (hh := [(0, 7, 8, 15)]) (by decide) rfl ?_
  intro p e s m args below meth c s₁ B hml hv
  obtain ⟨rfl, hsz, hW, hK, hE⟩ := hv
  subst hsz
  have hx := B.exec
  have hb := B.bytes
  have hr := B.returns
  have hts := atoms_spec (ws := wsL_add) B.pre
  have hown : s.vm.findClass RL = some m.cls := findClass_of_methodNamed B.named
  have hlocks := B.notSynchronized
  have htab := vx_table (x := yL_add) B (hts (.codeWith yL_add cL_add 5 (some .int) [(0, 7, 8, 15)]) (List.mem_of_getElem? (i := 0) rfl))
  have hl := lv_entry ([.ref d, .int (nI k), .int p1, .int p2] : List Value) (n := 5) (Nat.le_of_ble_eq_true rfl)
  rw [lg_entry_eq]
  generalize (lg_sl ([.ref d, .int (nI k), .int p1, .int p2] : List Value) ++ List.replicate (5 - (lg_sl ([.ref d, .int (nI k), .int p1, .int p2] : List Value)).length) Slot.unset).toArray = ls at hl ⊢
  have hl : lv_has ls 5 [(0, .ref d), (1, .int (nI k)), (2, .int p1), (3, .int p2)] := hl
  have hS : va_S (xA g s.heap.size) s.heap s.heap [] := va_S.rf
  have hn30 := hC.1
  refine lv_aload_n hx hb dL_add_0 rfl (lv_at hl 0 rfl) ?_
  refine lv_iload_n hx hb dL_add_1 rfl (lv_at hl 1 rfl) ?_
  refine lv_iload_n hx hb dL_add_2 rfl (lv_at hl 2 rfl) ?_
  refine lv_iload_n hx hb dL_add_3 rfl (lv_at hl 3 rfl) ?_
  refine x_cGI (vx_runV (As := [.int (nI k), .int p1, .int p2]) (rest := []) (b := d) ⟨hx, hb, hml, hown, hts⟩ (kX2_add l hlt g X hz _ hI hO d bk hd hbk n kc hC hZ (nI k) p1 p2) (cwV 3 hts gL_add_X2_add rfl rfl rfl (by decide +kernel) ⟨Nat.le_of_ble_eq_true rfl, Nat.le_of_ble_eq_true rfl⟩) (x_preV hW hK hE (x_recvD hK hW hd)) rfl rfl hl.1 rfl (lv_room (Nat.le_of_ble_eq_true rfl)) dL_add_4 ⟨Nat.le_of_ble_eq_true rfl, Nat.le_of_ble_eq_true rfl⟩) hS (Nat.le_refl _) (fun E ce q9 H1 locs1 hc hz1 hk1 hS1 hL1 hce hcv hcl => ?_) (fun r u H2 locs2 hp hW2 hz2 hk2 hS2 => ?_)
  · have hEe : E = ISE ∧ _ := (show E = ISE ∧ ¬ kc k < 8 from by
      rcases hc with h | ⟨-, k9, hk9, e9, h | h⟩ | ⟨h, k9, hk9, e9, -, -, h3⟩
      · exact absurd h (y_noO hn30 hk)
      · exact absurd h1 h
      · exact absurd h2 h
      · have := nI30 (by omega) (by omega) e9
        subst this
        exact ⟨h, h3.elim (fun h => absurd hop h) id⟩)
    obtain ⟨rfl, hbad⟩ := hEe
    exact vx_catch (own := RL) (name := ISE) hown [] ⟨0, 7, 8, 15⟩ [] htab (fun _ h => nomatch h) rfl (by decide) (hts (.classLink RL 15 "java/lang/IllegalStateException") (List.mem_of_getElem? (i := 1) rfl)) (cast_of hE (List.mem_of_getElem? (i := 0) rfl)) hce hcv hcl
      (lv_astore (lv' := (4, .ref q9) :: [(0, .ref d), (1, .int (nI k)), (2, .int p1), (3, .int p2)]) hx hb dL_add_8 hl (by decide) rfl (fun ls hl => lv_bipush (v := -3) hx hb dL_add_10 (by decide) (xg_retM hx hb hr hlocks ⟨Nat.le_of_ble_eq_true rfl, Nat.le_of_ble_eq_true rfl⟩ (hW.more hk1) hS1 (Or.inr ⟨rfl, hbad, rfl⟩) dL_add_12)))
  · have hp : ∃ al, kc k < 8 ∧ s.heap.size ≤ al ∧ u.1 = gMov (gLine g 300 al) (8 * k + kc k) al ∧ u.2 = mu (xMov (xNewL X 300 p1 p2) (8 * k + kc k)) 7 k (nI (kc k + 1)) ∧ r = nI (kc k) := by
      obtain ⟨k9, al, hk9, e9, -, -, -, a1, a2, a3, a4, a5⟩ := hp
      have := nI30 (by omega) (by omega) e9
      subst this
      exact ⟨al, a1, a2, a3, a4, a5⟩
    exact xg_retM hx hb hr hlocks ⟨Nat.le_of_ble_eq_true rfl, Nat.le_of_ble_eq_true rfl⟩ hW2 hS2 (Or.inl hp) dL_add_7
set_option maxHeartbeats 4000000 in
set_option maxRecDepth 100000 in
theorem kL_pay (l : Launch) (hlt : l.stackTraces = false) {D : va_G} {cI cO cL cJ : ClassId} (g : XG) (X : MS) (hz sz : Nat) (hI : xI g) (hO : xO g hz sz) (d bk : Nat) (hd : g 3 0 = some d) (hbk : g 4 0 = some bk) (n : Nat) (kc : Nat → Nat) (hC : xC g X n kc) (k : Nat) (hk : k < n) (hop : X 8 k = 0) (p1 p2 : Int32) (h1 : inR p1 0 1000000) (h2 : inR p2 0 1000000) : Met l yL_pay wsL_pay ({ frames := 8, cells := 4, slots := 24, locals := 128 } : Room) (xP D cI cO cL cJ g X hz sz [.ref d, .int (nI k), .int p1, .int p2]) (xQi D cO cL g sz (fun (r : Int32) (X9 : MS) => (¬ X 7 k = 0 ∧ X9 = settleX X k (kc k) p1 p2 (X 1 0) ∧ r = X9 13 k) ∨ (r = -3 ∧ X 7 k = 0 ∧ X9 = X))) 4 24 (xA g sz) := by
  refine va_MetW (cc := cL_pay) (maxL := 5) (ret := some .int) (hh := [(0, 7, 8, 15)]) (by decide) rfl ?_
  intro p e s m args below meth c s₁ B hml hv
  obtain ⟨rfl, hsz, hW, hK, hE⟩ := hv
  subst hsz
  have hx := B.exec
  have hb := B.bytes
  have hr := B.returns
  have hts := atoms_spec (ws := wsL_pay) B.pre
  have hown : s.vm.findClass RL = some m.cls := findClass_of_methodNamed B.named
  have hlocks := B.notSynchronized
  have htab := vx_table (x := yL_pay) B (hts (.codeWith yL_pay cL_pay 5 (some .int) [(0, 7, 8, 15)]) (List.mem_of_getElem? (i := 0) rfl))
  have hl := lv_entry ([.ref d, .int (nI k), .int p1, .int p2] : List Value) (n := 5) (Nat.le_of_ble_eq_true rfl)
  rw [lg_entry_eq]
  generalize (lg_sl ([.ref d, .int (nI k), .int p1, .int p2] : List Value) ++ List.replicate (5 - (lg_sl ([.ref d, .int (nI k), .int p1, .int p2] : List Value)).length) Slot.unset).toArray = ls at hl ⊢
  have hl : lv_has ls 5 [(0, .ref d), (1, .int (nI k)), (2, .int p1), (3, .int p2)] := hl
  have hS : va_S (xA g s.heap.size) s.heap s.heap [] := va_S.rf
  have hn30 := hC.1
  refine lv_aload_n hx hb dL_pay_0 rfl (lv_at hl 0 rfl) ?_
  refine lv_iload_n hx hb dL_pay_1 rfl (lv_at hl 1 rfl) ?_
  refine lv_iload_n hx hb dL_pay_2 rfl (lv_at hl 2 rfl) ?_
  refine lv_iload_n hx hb dL_pay_3 rfl (lv_at hl 3 rfl) ?_
  refine x_cWI (vx_runV (As := [.int (nI k), .int p1, .int p2]) (rest := []) (b := d) ⟨hx, hb, hml, hown, hts⟩ (kX2_pay l hlt g X hz _ hI hO d bk hd hbk n kc hC (nI k) p1 p2) (cwV 3 hts gL_pay_X2_pay rfl rfl rfl (by decide +kernel) ⟨Nat.le_of_ble_eq_true rfl, Nat.le_of_ble_eq_true rfl⟩) (x_preV hW hK hE (x_recvD hK hW hd)) rfl rfl hl.1 rfl (lv_room (Nat.le_of_ble_eq_true rfl)) dL_pay_4 ⟨Nat.le_of_ble_eq_true rfl, Nat.le_of_ble_eq_true rfl⟩) hS (Nat.le_refl _) (fun E ce q9 H1 locs1 hc hz1 hk1 hS1 hL1 hce hcv hcl => ?_) (fun r X9 H2 locs2 hp hW2 hz2 hk2 hS2 => ?_)
  · have hEe : E = ISE ∧ _ := (show E = ISE ∧ X 7 k = 0 from by
      rcases hc with h | ⟨-, k9, hk9, e9, h | h⟩ | ⟨h, k9, hk9, e9, -, -, h3⟩
      · exact absurd h (y_noO hn30 hk)
      · exact absurd h1 h
      · exact absurd h2 h
      · have := nI30 (by omega) (by omega) e9
        subst this
        exact ⟨h, h3.elim (fun h => absurd hop h) id⟩)
    obtain ⟨rfl, hbad⟩ := hEe
    exact vx_catch (own := RL) (name := ISE) hown [] ⟨0, 7, 8, 15⟩ [] htab (fun _ h => nomatch h) rfl (by decide) (hts (.classLink RL 15 "java/lang/IllegalStateException") (List.mem_of_getElem? (i := 1) rfl)) (cast_of hE (List.mem_of_getElem? (i := 0) rfl)) hce hcv hcl
      (lv_astore (lv' := (4, .ref q9) :: [(0, .ref d), (1, .int (nI k)), (2, .int p1), (3, .int p2)]) hx hb dL_pay_8 hl (by decide) rfl (fun ls hl => lv_bipush (v := -3) hx hb dL_pay_10 (by decide) (xw_retM hx hb hr hlocks ⟨Nat.le_of_ble_eq_true rfl, Nat.le_of_ble_eq_true rfl⟩ (hW.more hk1) hS1 (Or.inr ⟨rfl, hbad, rfl⟩) dL_pay_12)))
  · have hp : ¬ X 7 k = 0 ∧ X9 = settleX X k (kc k) p1 p2 (X 1 0) ∧ r = X9 13 k := by
      obtain ⟨k9, hk9, e9, -, -, -, a1, a2, a3⟩ := hp
      have := nI30 (by omega) (by omega) e9
      subst this
      exact ⟨a1, a2, a3⟩
    exact xw_retM hx hb hr hlocks ⟨Nat.le_of_ble_eq_true rfl, Nat.le_of_ble_eq_true rfl⟩ hW2 hS2 (Or.inl hp) dL_pay_7
set_option maxHeartbeats 4000000 in
set_option maxRecDepth 100000 in
theorem kL_ask (l : Launch) (hlt : l.stackTraces = false) {D : va_G} {cI cO cL cJ : ClassId} (g : XG) (X : MS) (hz sz : Nat) (hI : xI g) (hO : xO g hz sz) (d bk : Nat) (hd : g 3 0 = some d) (hbk : g 4 0 = some bk) (n : Nat) (kc : Nat → Nat) (hC : xC g X n kc) (k j : Nat) (hk : k < n) (hj : j < kc k) (p2 : Int32) (h2 : inR p2 0 1) : Met l yL_ask wsL_ask ({ frames := 9, cells := 4, slots := 24, locals := 153 } : Room) (xP D cI cO cL cJ g X hz sz [.ref d, .int (nI k), .int (nI j), .int p2]) (xQi D cO cL g sz (fun (r : Int32) (X9 : MS) => (¬ retX X k (8 * k + j) p2 = 0 ∧ r = X 1 0 + 21 ∧ X9 = swX X (8 * k + j) p2 1) ∨ (r = -3 ∧ retX X k (8 * k + j) p2 = 0 ∧ X9 = X))) 4 24 (xA g sz) := by
  refine va_MetW (cc := cL_ask) (maxL := 5) (ret := some .int) (hh := [(0, 7, 8, 15)]) (by decide) rfl ?_
  intro p e s m args below meth c s₁ B hml hv
  obtain ⟨rfl, hsz, hW, hK, hE⟩ := hv
  subst hsz
  have hx := B.exec
  have hb := B.bytes
  have hr := B.returns
  have hts := atoms_spec (ws := wsL_ask) B.pre
  have hown : s.vm.findClass RL = some m.cls := findClass_of_methodNamed B.named
  have hlocks := B.notSynchronized
  have htab := vx_table (x := yL_ask) B (hts (.codeWith yL_ask cL_ask 5 (some .int) [(0, 7, 8, 15)]) (List.mem_of_getElem? (i := 0) rfl))
  have hl := lv_entry ([.ref d, .int (nI k), .int (nI j), .int p2] : List Value) (n := 5) (Nat.le_of_ble_eq_true rfl)
  rw [lg_entry_eq]
  generalize (lg_sl ([.ref d, .int (nI k), .int (nI j), .int p2] : List Value) ++ List.replicate (5 - (lg_sl ([.ref d, .int (nI k), .int (nI j), .int p2] : List Value)).length) Slot.unset).toArray = ls at hl ⊢
  have hl : lv_has ls 5 [(0, .ref d), (1, .int (nI k)), (2, .int (nI j)), (3, .int p2)] := hl
  have hS : va_S (xA g s.heap.size) s.heap s.heap [] := va_S.rf
  have hn30 := hC.1
  refine lv_aload_n hx hb dL_ask_0 rfl (lv_at hl 0 rfl) ?_
  refine lv_iload_n hx hb dL_ask_1 rfl (lv_at hl 1 rfl) ?_
  refine lv_iload_n hx hb dL_ask_2 rfl (lv_at hl 2 rfl) ?_
  refine lv_iload_n hx hb dL_ask_3 rfl (lv_at hl 3 rfl) ?_
  refine x_cWI (vx_runV (As := [.int (nI k), .int (nI j), .int p2]) (rest := []) (b := d) ⟨hx, hb, hml, hown, hts⟩ (kX2_ask l hlt g X hz _ hI hO d bk hd hbk n kc hC (nI k) (nI j) p2) (cwV 3 hts gL_ask_X2_ask rfl rfl rfl (by decide +kernel) ⟨Nat.le_of_ble_eq_true rfl, Nat.le_of_ble_eq_true rfl⟩) (x_preV hW hK hE (x_recvD hK hW hd)) rfl rfl hl.1 rfl (lv_room (Nat.le_of_ble_eq_true rfl)) dL_ask_4 ⟨Nat.le_of_ble_eq_true rfl, Nat.le_of_ble_eq_true rfl⟩) hS (Nat.le_refl _) (fun E ce q9 H1 locs1 hc hz1 hk1 hS1 hL1 hce hcv hcl => ?_) (fun r X9 H2 locs2 hp hW2 hz2 hk2 hS2 => ?_)
  · have hEe : E = ISE ∧ _ := (show E = ISE ∧ retX X k (8 * k + j) p2 = 0 from by
      rcases hc with h | h | ⟨-, k9, j9, -, h⟩ | ⟨h, k9, j9, hL, -, h3⟩
      · exact absurd h (y_noO hn30 hk)
      · exact absurd h (y_noL hn30 hk (hC.2.2.2 k hk).1 hj)
      · exact absurd h2 h
      · obtain ⟨rfl, rfl⟩ := y_isL hC hk hj hL
        exact ⟨h, h3⟩)
    obtain ⟨rfl, hbad⟩ := hEe
    exact vx_catch (own := RL) (name := ISE) hown [] ⟨0, 7, 8, 15⟩ [] htab (fun _ h => nomatch h) rfl (by decide) (hts (.classLink RL 15 "java/lang/IllegalStateException") (List.mem_of_getElem? (i := 1) rfl)) (cast_of hE (List.mem_of_getElem? (i := 0) rfl)) hce hcv hcl
      (lv_astore (lv' := (4, .ref q9) :: [(0, .ref d), (1, .int (nI k)), (2, .int (nI j)), (3, .int p2)]) hx hb dL_ask_8 hl (by decide) rfl (fun ls hl => lv_bipush (v := -3) hx hb dL_ask_10 (by decide) (xw_retM hx hb hr hlocks ⟨Nat.le_of_ble_eq_true rfl, Nat.le_of_ble_eq_true rfl⟩ (hW.more hk1) hS1 (Or.inr ⟨rfl, hbad, rfl⟩) dL_ask_12)))
  · have hp : ¬ retX X k (8 * k + j) p2 = 0 ∧ r = X 1 0 + 21 ∧ X9 = swX X (8 * k + j) p2 1 := by
      obtain ⟨k9, j9, hL, -, a1, a2, a3⟩ := hp
      obtain ⟨rfl, rfl⟩ := y_isL hC hk hj hL
      exact ⟨a1, a2, a3⟩
    exact xw_retM hx hb hr hlocks ⟨Nat.le_of_ble_eq_true rfl, Nat.le_of_ble_eq_true rfl⟩ hW2 hS2 (Or.inl hp) dL_ask_7
set_option maxHeartbeats 4000000 in
set_option maxRecDepth 100000 in
theorem kL_exchange (l : Launch) (hlt : l.stackTraces = false) {D : va_G} {cI cO cL cJ : ClassId} (g : XG) (X : MS) (hz sz : Nat) (hI : xI g) (hO : xO g hz sz) (d bk : Nat) (hd : g 3 0 = some d) (hbk : g 4 0 = some bk) (n : Nat) (kc : Nat → Nat) (hC : xC g X n kc) (k j : Nat) (hk : k < n) (hj : j < kc k) (p2 : Int32) (h2 : inR p2 0 1) : Met l yL_exchange wsL_exchange ({ frames := 9, cells := 4, slots := 24, locals := 153 } : Room) (xP D cI cO cL cJ g X hz sz [.ref d, .int (nI k), .int (nI j), .int p2]) (xQi D cO cL g sz (fun (r : Int32) (X9 : MS) => (¬ retX X k (8 * k + j) p2 = 0 ∧ r = X 1 0 + 21 ∧ X9 = swX X (8 * k + j) p2 2) ∨ (r = -3 ∧ retX X k (8 * k + j) p2 = 0 ∧ X9 = X))) 4 24 (xA g sz) := by
  refine va_MetW (cc := cL_exchange) (maxL := 5) (ret := some .int) (hh := [(0, 7, 8, 15)]) (by decide) rfl ?_
  intro p e s m args below meth c s₁ B hml hv
  obtain ⟨rfl, hsz, hW, hK, hE⟩ := hv
  subst hsz
  have hx := B.exec
  have hb := B.bytes
  have hr := B.returns
  have hts := atoms_spec (ws := wsL_exchange) B.pre
  have hown : s.vm.findClass RL = some m.cls := findClass_of_methodNamed B.named
  have hlocks := B.notSynchronized
  have htab := vx_table (x := yL_exchange) B (hts (.codeWith yL_exchange cL_exchange 5 (some .int) [(0, 7, 8, 15)]) (List.mem_of_getElem? (i := 0) rfl))
  have hl := lv_entry ([.ref d, .int (nI k), .int (nI j), .int p2] : List Value) (n := 5) (Nat.le_of_ble_eq_true rfl)
  rw [lg_entry_eq]
  generalize (lg_sl ([.ref d, .int (nI k), .int (nI j), .int p2] : List Value) ++ List.replicate (5 - (lg_sl ([.ref d, .int (nI k), .int (nI j), .int p2] : List Value)).length) Slot.unset).toArray = ls at hl ⊢
  have hl : lv_has ls 5 [(0, .ref d), (1, .int (nI k)), (2, .int (nI j)), (3, .int p2)] := hl
  have hS : va_S (xA g s.heap.size) s.heap s.heap [] := va_S.rf
  have hn30 := hC.1
  refine lv_aload_n hx hb dL_exchange_0 rfl (lv_at hl 0 rfl) ?_
  refine lv_iload_n hx hb dL_exchange_1 rfl (lv_at hl 1 rfl) ?_
  refine lv_iload_n hx hb dL_exchange_2 rfl (lv_at hl 2 rfl) ?_
  refine lv_iload_n hx hb dL_exchange_3 rfl (lv_at hl 3 rfl) ?_
  refine x_cWI (vx_runV (As := [.int (nI k), .int (nI j), .int p2]) (rest := []) (b := d) ⟨hx, hb, hml, hown, hts⟩ (kX2_exchange l hlt g X hz _ hI hO d bk hd hbk n kc hC (nI k) (nI j) p2) (cwV 3 hts gL_exchange_X2_exchange rfl rfl rfl (by decide +kernel) ⟨Nat.le_of_ble_eq_true rfl, Nat.le_of_ble_eq_true rfl⟩) (x_preV hW hK hE (x_recvD hK hW hd)) rfl rfl hl.1 rfl (lv_room (Nat.le_of_ble_eq_true rfl)) dL_exchange_4 ⟨Nat.le_of_ble_eq_true rfl, Nat.le_of_ble_eq_true rfl⟩) hS (Nat.le_refl _) (fun E ce q9 H1 locs1 hc hz1 hk1 hS1 hL1 hce hcv hcl => ?_) (fun r X9 H2 locs2 hp hW2 hz2 hk2 hS2 => ?_)
  · have hEe : E = ISE ∧ _ := (show E = ISE ∧ retX X k (8 * k + j) p2 = 0 from by
      rcases hc with h | h | ⟨-, k9, j9, -, h⟩ | ⟨h, k9, j9, hL, -, h3⟩
      · exact absurd h (y_noO hn30 hk)
      · exact absurd h (y_noL hn30 hk (hC.2.2.2 k hk).1 hj)
      · exact absurd h2 h
      · obtain ⟨rfl, rfl⟩ := y_isL hC hk hj hL
        exact ⟨h, h3⟩)
    obtain ⟨rfl, hbad⟩ := hEe
    exact vx_catch (own := RL) (name := ISE) hown [] ⟨0, 7, 8, 15⟩ [] htab (fun _ h => nomatch h) rfl (by decide) (hts (.classLink RL 15 "java/lang/IllegalStateException") (List.mem_of_getElem? (i := 1) rfl)) (cast_of hE (List.mem_of_getElem? (i := 0) rfl)) hce hcv hcl
      (lv_astore (lv' := (4, .ref q9) :: [(0, .ref d), (1, .int (nI k)), (2, .int (nI j)), (3, .int p2)]) hx hb dL_exchange_8 hl (by decide) rfl (fun ls hl => lv_bipush (v := -3) hx hb dL_exchange_10 (by decide) (xw_retM hx hb hr hlocks ⟨Nat.le_of_ble_eq_true rfl, Nat.le_of_ble_eq_true rfl⟩ (hW.more hk1) hS1 (Or.inr ⟨rfl, hbad, rfl⟩) dL_exchange_12)))
  · have hp : ¬ retX X k (8 * k + j) p2 = 0 ∧ r = X 1 0 + 21 ∧ X9 = swX X (8 * k + j) p2 2 := by
      obtain ⟨k9, j9, hL, -, a1, a2, a3⟩ := hp
      obtain ⟨rfl, rfl⟩ := y_isL hC hk hj hL
      exact ⟨a1, a2, a3⟩
    exact xw_retM hx hb hr hlocks ⟨Nat.le_of_ble_eq_true rfl, Nat.le_of_ble_eq_true rfl⟩ hW2 hS2 (Or.inl hp) dL_exchange_7
set_option maxHeartbeats 4000000 in
set_option maxRecDepth 100000 in
theorem kL_grade (l : Launch) (hlt : l.stackTraces = false) {D : va_G} {cI cO cL cJ : ClassId} (g : XG) (X : MS) (hz sz : Nat) (hI : xI g) (hO : xO g hz sz) (d bk : Nat) (hd : g 3 0 = some d) (hbk : g 4 0 = some bk) (n : Nat) (kc : Nat → Nat) (hC : xC g X n kc) (k j : Nat) (hk : k < n) (hj : j < kc k) (p2 : Int32) (h2 : inR p2 0 3) : Met l yL_grade wsL_grade ({ frames := 8, cells := 4, slots := 24, locals := 129 } : Room) (xP D cI cO cL cJ g X hz sz [.ref d, .int (nI k), .int (nI j), .int p2]) (xQi D cO cL g sz (fun (r : Int32) (X9 : MS) => (¬ wtX X (8 * k + j) = 0 ∧ (r, X9) = gradeX X k (kc k) (8 * k + j) p2) ∨ (r = -3 ∧ wtX X (8 * k + j) = 0 ∧ X9 = X))) 4 24 (xA g sz) := by
  refine va_MetW (cc := cL_grade) (maxL := 5) (ret := some .int) (hh := [(0, 7, 8, 15)]) (by decide) rfl ?_
  intro p e s m args below meth c s₁ B hml hv
  obtain ⟨rfl, hsz, hW, hK, hE⟩ := hv
  subst hsz
  have hx := B.exec
  have hb := B.bytes
  have hr := B.returns
  have hts := atoms_spec (ws := wsL_grade) B.pre
  have hown : s.vm.findClass RL = some m.cls := findClass_of_methodNamed B.named
  have hlocks := B.notSynchronized
  have htab := vx_table (x := yL_grade) B (hts (.codeWith yL_grade cL_grade 5 (some .int) [(0, 7, 8, 15)]) (List.mem_of_getElem? (i := 0) rfl))
  have hl := lv_entry ([.ref d, .int (nI k), .int (nI j), .int p2] : List Value) (n := 5) (Nat.le_of_ble_eq_true rfl)
  rw [lg_entry_eq]
  generalize (lg_sl ([.ref d, .int (nI k), .int (nI j), .int p2] : List Value) ++ List.replicate (5 - (lg_sl ([.ref d, .int (nI k), .int (nI j), .int p2] : List Value)).length) Slot.unset).toArray = ls at hl ⊢
  have hl : lv_has ls 5 [(0, .ref d), (1, .int (nI k)), (2, .int (nI j)), (3, .int p2)] := hl
  have hS : va_S (xA g s.heap.size) s.heap s.heap [] := va_S.rf
  have hn30 := hC.1
  refine lv_aload_n hx hb dL_grade_0 rfl (lv_at hl 0 rfl) ?_
  refine lv_iload_n hx hb dL_grade_1 rfl (lv_at hl 1 rfl) ?_
  refine lv_iload_n hx hb dL_grade_2 rfl (lv_at hl 2 rfl) ?_
  refine lv_iload_n hx hb dL_grade_3 rfl (lv_at hl 3 rfl) ?_
  refine x_cWI (vx_runV (As := [.int (nI k), .int (nI j), .int p2]) (rest := []) (b := d) ⟨hx, hb, hml, hown, hts⟩ (kX2_grade l hlt g X hz _ hI hO d bk hd hbk n kc hC (nI k) (nI j) p2) (cwV 3 hts gL_grade_X2_grade rfl rfl rfl (by decide +kernel) ⟨Nat.le_of_ble_eq_true rfl, Nat.le_of_ble_eq_true rfl⟩) (x_preV hW hK hE (x_recvD hK hW hd)) rfl rfl hl.1 rfl (lv_room (Nat.le_of_ble_eq_true rfl)) dL_grade_4 ⟨Nat.le_of_ble_eq_true rfl, Nat.le_of_ble_eq_true rfl⟩) hS (Nat.le_refl _) (fun E ce q9 H1 locs1 hc hz1 hk1 hS1 hL1 hce hcv hcl => ?_) (fun r X9 H2 locs2 hp hW2 hz2 hk2 hS2 => ?_)
  · have hEe : E = ISE ∧ _ := (show E = ISE ∧ wtX X (8 * k + j) = 0 from by
      rcases hc with h | h | ⟨-, k9, j9, -, h⟩ | ⟨h, k9, j9, hL, -, h3⟩
      · exact absurd h (y_noO hn30 hk)
      · exact absurd h (y_noL hn30 hk (hC.2.2.2 k hk).1 hj)
      · exact absurd h2 h
      · obtain ⟨rfl, rfl⟩ := y_isL hC hk hj hL
        exact ⟨h, h3⟩)
    obtain ⟨rfl, hbad⟩ := hEe
    exact vx_catch (own := RL) (name := ISE) hown [] ⟨0, 7, 8, 15⟩ [] htab (fun _ h => nomatch h) rfl (by decide) (hts (.classLink RL 15 "java/lang/IllegalStateException") (List.mem_of_getElem? (i := 1) rfl)) (cast_of hE (List.mem_of_getElem? (i := 0) rfl)) hce hcv hcl
      (lv_astore (lv' := (4, .ref q9) :: [(0, .ref d), (1, .int (nI k)), (2, .int (nI j)), (3, .int p2)]) hx hb dL_grade_8 hl (by decide) rfl (fun ls hl => lv_bipush (v := -3) hx hb dL_grade_10 (by decide) (xw_retM hx hb hr hlocks ⟨Nat.le_of_ble_eq_true rfl, Nat.le_of_ble_eq_true rfl⟩ (hW.more hk1) hS1 (Or.inr ⟨rfl, hbad, rfl⟩) dL_grade_12)))
  · have hp : ¬ wtX X (8 * k + j) = 0 ∧ (r, X9) = gradeX X k (kc k) (8 * k + j) p2 := by
      obtain ⟨k9, j9, hL, -, a1, a2⟩ := hp
      obtain ⟨rfl, rfl⟩ := y_isL hC hk hj hL
      exact ⟨a1, a2⟩
    exact xw_retM hx hb hr hlocks ⟨Nat.le_of_ble_eq_true rfl, Nat.le_of_ble_eq_true rfl⟩ hW2 hS2 (Or.inl hp) dL_grade_7

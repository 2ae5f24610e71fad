set_option maxHeartbeats 4000000 in
set_option maxRecDepth 100000 in
theorem whole_start {p : Program} {e : Env} {s : State} {m : MethodId} {below : List Frame} {meth : Method} {c : Code} (l : Launch) (hflags : l.flags = flags0) {b L : Nat} {xs : Nat → Int32} (hL : L ≤ 2048) (C0 : lw_At p s m meth c b L xs) : W p l e room_1 s m #[Value.ref b] below meth c s.heap [] 0 0 (lw_Z below #[Value.ref b] s) (entryFrame m ([Value.ref b] : List Value).toArray 7) := by
  obtain ⟨hx, hb, hr, hml, hown, hts, hX, hbl, hlocks, hgv⟩ := id C0
  have hg := given_of hgv
  have hE0 := start_E hts hg
  have hN := start_N hg
  obtain ⟨D, cI, cO, cL, cJ, hK⟩ := start_K hts
  have htsL : ∀ w ∈ wsL_law, w.before #[Value.ref b] s = true := fun w h => hts w (wsL_law_in w h)
  have hlt : l.stackTraces = false := by
    unfold Launch.stackTraces
    rw [hflags]
    decide +kernel
  have hb : c.code = cL_law := hb
  have hown : s.vm.findClass RL = some m.cls := hown
  have hS : va_S (AH s.heap.size) s.heap s.heap [] := va_S.rf
  have hl := lv_entry ([.ref b]) (n := 7) (Nat.le_of_ble_eq_true rfl)
  rw [lg_entry_eq]
  generalize (lg_sl ([.ref b]) ++ List.replicate (7 - (lg_sl ([.ref b])).length) Slot.unset).toArray = ls at hl ⊢
  have hl : lv_has ls 7 [(0, .ref b)] := hl
  refine f_new (own := RL) (C := RX2) (T := TX2) (N := 6) (ci := 2) (fs := [.null, .int 0, .int 0, .int 0, .int 0, .int 0]) hx hb htsL inlX2 tyX2 tyX2_ok hown (hts (Cond.classLink RL 8 RX2) (wsL_law0_r1_in _ (List.mem_of_getElem? (i := 0) rfl))) (hts (Cond.instantiable RX2 6) (wsL_law0_r1_in _ (List.mem_of_getElem? (i := 1) rfl))) (hts (Cond.initialized RX2) (wsL_law0_r1_in _ (List.mem_of_getElem? (i := 2) rfl))) hK hS rfl nwX2 (Nat.le_of_ble_eq_true rfl) (Nat.le_of_ble_eq_true rfl) dL_law_0 (fun H1 hq1 hz1 ho1 hS => ?_)
  refine lv_dup hx hb dL_law_3 rfl ?_
  refine va_callv (va_runI (As := []) (rest := [.ref s.heap.size]) ⟨hx, hb, hml, hown, htsL⟩ (kX2_init l H1.size s.heap.size (by omega)) (cwI 0 htsL gL_law_X2_init rfl rfl rfl (hts (Cond.initialized RX2) (wsL_law0_r1_in _ (List.mem_of_getElem? (i := 2) rfl))) (hts (Cond.methodLink RL 67 yX2_init) (wsL_law0_r1_in _ (List.mem_of_getElem? (i := 7) rfl))) (hts (Cond.instanceMethod yX2_init) (wsL_law0_r1_in _ (List.mem_of_getElem? (i := 8) rfl))) rfl (by decide +kernel) ⟨Nat.le_of_ble_eq_true rfl, Nat.le_of_ble_eq_true rfl⟩) (c_pre hq1 hK hE0.2.2.2.2.1 hE0.2.2.2.2.2) rfl rfl hl.1 rfl (lv_room (Nat.le_of_ble_eq_true rfl)) dL_law_4 ⟨Nat.le_of_ble_eq_true rfl, Nat.le_of_ble_eq_true rfl⟩) hS (fun q _ h => ge_of h (by omega)) (fun q h => ge_of h (by omega)) (fun bk t H2 locs ht hvm hp hB hz2 hk2 hS => ?_)
  obtain ⟨hd2, hbk2⟩ := hB
  rw [ht] at hd2 hbk2
  have hbkl : bk < H2.size := hbk2.lt
  refine lv_astore_n (lv' := [(1, .ref s.heap.size), (0, .ref b)]) hx hb dL_law_7 rfl hl (by decide) rfl (fun ls hl => ?_)
  refine f_new (own := RL) (C := RX3) (T := TX3) (N := 17) (ci := 3) (fs := mzs 0 0) hx hb htsL inlX3 tyX3 tyX3_ok hown (hts (Cond.classLink RL 68 RX3) (wsL_law0_r1_in _ (List.mem_of_getElem? (i := 3) rfl))) (hts (Cond.instantiable RX3 17) (wsL_law0_r1_in _ (List.mem_of_getElem? (i := 4) rfl))) (hts (Cond.initialized RX3) (wsL_law0_r1_in _ (List.mem_of_getElem? (i := 5) rfl))) hK hS rfl (nwX3 0) (Nat.le_of_ble_eq_true rfl) (Nat.le_of_ble_eq_true rfl) dL_law_8 (fun H3 hq3 hz3 ho3 hS => ?_)
  refine lv_dup hx hb dL_law_11 rfl ?_
  have hq3 : va_at D vwCl (H2.size, .inr (3, mzs H3.size 0)) H3 := hq3
  refine va_callv (va_runI (As := []) (rest := [.ref H2.size]) ⟨hx, hb, hml, hown, htsL⟩ (kX3_init l H3.size H2.size (by omega)) (cwI 0 htsL gL_law_X3_init rfl rfl rfl (hts (Cond.initialized RX3) (wsL_law0_r1_in _ (List.mem_of_getElem? (i := 5) rfl))) (hts (Cond.methodLink RL 70 yX3_init) (wsL_law0_r1_in _ (List.mem_of_getElem? (i := 15) rfl))) (hts (Cond.instanceMethod yX3_init) (wsL_law0_r1_in _ (List.mem_of_getElem? (i := 16) rfl))) rfl (by decide +kernel) ⟨Nat.le_of_ble_eq_true rfl, Nat.le_of_ble_eq_true rfl⟩) (c_pre hq3 hK hE0.2.2.2.2.1 hE0.2.2.2.2.2) rfl rfl hl.1 rfl (lv_room (Nat.le_of_ble_eq_true rfl)) dL_law_12 ⟨Nat.le_of_ble_eq_true rfl, Nat.le_of_ble_eq_true rfl⟩) hS (fun q _ h => Nat.le_trans (show s.heap.size ≤ H2.size by omega) (ge_of (a := H2.size) h (by omega))) (fun q h => Nat.le_trans (show s.heap.size ≤ H2.size by omega) (ge_of (a := H2.size) h (by omega))) (fun _ t H4 locs ht hvm hp hB hz4 hk4 hS => ?_)
  rw [ht] at hB
  refine lv_astore_n (lv' := [(2, .ref H2.size), (1, .ref s.heap.size), (0, .ref b)]) hx hb dL_law_15 rfl hl (by decide) rfl (fun ls hl => ?_)
  refine lv_iconst (v := 1) hx hb dL_law_16 (by decide) ?_
  refine f_newj hx hb (hts (Cond.arrayClass .long) (wsL_law0_r1_in _ (List.mem_of_getElem? (i := 6) rfl))) hK hS (N' := 1) rfl (by decide) (Nat.le_of_ble_eq_true rfl) (Nat.le_of_ble_eq_true rfl) dL_law_17 (fun H5 hw5 hz5 ho5 hS => ?_)
  refine lv_astore_n (lv' := [(3, .ref H4.size), (2, .ref H2.size), (1, .ref s.heap.size), (0, .ref b)]) hx hb dL_law_19 rfl hl (by decide) rfl (fun ls hl => ?_)
  refine lv_iconst (v := 0) hx hb dL_law_20 (by decide) ?_
  refine lv_istore (lv' := [(4, .int (nI (4 * 0))), (3, .ref H4.size), (2, .ref H2.size), (1, .ref s.heap.size), (0, .ref b)]) hx hb dL_law_21 hl (by decide) rfl (fun ls hl => ?_)
  have hk24 : ∀ a : Nat, a < H2.size → H5[a]? = H2[a]? := fun a h => (ho5 a (by omega)).trans ((hk4 a (by omega) (fun z => absurd (ge_of (a := H2.size) z (by omega)) (Nat.not_le.mpr h))).trans (ho3 a h))
  have hM5 : mW D cI H2.size (fun f => H3.size + (f - 2)) (fun _ _ => 0) H5 := hB.kept (fun a ha => ho5 a (hB.lt ha))
  refine law_loop ⟨hx, hb, hml, hown, htsL, hX, hbl, hL, hK, hN, hlt⟩ hr hlocks 513 0 (g0 s.heap.size bk) (fun _ _ => 0) (fun _ _ => 0) 0 H5 _ _ _ ls rfl ⟨?_, hM5, hw5, hE0.kept (fun a h1 h2 => hS.2.1 a h1 h2), ?_, ⟨?_, by omega⟩, mI_end (by omega), ?_, ?_, by omega, rfl, rfl, inv0 _ _⟩ hS (lv_sub hl [4, 3, 2, 1, 0] rfl) (by decide) (by decide)
  · intro t i a ha
    rcases g0_key ha with ⟨rfl, rfl, rfl⟩ | ⟨rfl, rfl, rfl⟩
    · exact hd2.kept (hk24 _ (by omega))
    · exact at_congr (hbk2.kept (hk24 _ hbkl)) (fun j _ => by simp [g0])
  · intro t i t' i' a h h'
    rcases g0_key h with ⟨h1, h2, h3⟩ | ⟨h1, h2, h3⟩ <;> rcases g0_key h' with ⟨k1, k2, k3⟩ | ⟨k1, k2, k3⟩ <;> omega
  · intro t i a h
    rcases g0_key h with ⟨h1, h2, h3⟩ | ⟨h1, h2, h3⟩ <;> omega
  · intro t i h
    rcases g0_key h with ⟨h1, h2, h3⟩ | ⟨h1, h2, h3⟩ <;> omega
  · intro a ha
    have hlt4 : a < H4.size := hB.lt ha
    have hge : H2.size ≤ a := by
      rcases ha with rfl | ⟨f, h2, h15, rfl⟩
      · exact Nat.le_refl _
      · show H2.size ≤ H3.size + (f - 2)
        omega
    refine ⟨by omega, by omega, fun t i h => ?_⟩
    rcases g0_key h with ⟨h1, h2, h3⟩ | ⟨h1, h2, h3⟩ <;> omega

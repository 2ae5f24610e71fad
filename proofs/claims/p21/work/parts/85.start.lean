set_option maxHeartbeats 4000000 in
set_option maxRecDepth 100000 in
theorem whole_start {p : Program} {e : Env} {s : State} {m : MethodId} {below : List Frame} {meth : Method} {c : Code} (l : Launch) (hflags : l.flags = flags0) {b L : Nat} {xs : Nat → Int32} (hL : L ≤ 260) (C0 : lw_At p s m meth c b L xs) : W p l e room_1 s m #[Value.ref b] below meth c s.heap [] 0 0 (lw_Z below #[Value.ref b] s) (entryFrame m ([Value.ref b] : List Value).toArray 15) := by
  obtain ⟨hx, hb, hr, hml, hown, hts, hXb, hbl, hlocks, hgv⟩ := id C0
  have hg := given_of hgv
  have hE0 := start_E hts hg
  obtain ⟨D, cI, cO, cL, cJ, hK⟩ := start_K hts
  have htsL : ∀ w ∈ wsL_law, w.before #[Value.ref b] s = true := fun w h => hts w (wsL_law_in w h)
  have hlt : l.stackTraces = false := by
    unfold Launch.stackTraces
    rw [hflags]
    decide +kernel
  have hb : c.code = cL_law := hb
  have hown : s.vm.findClass RL = some m.cls := hown
  have hS : va_S (AH s.heap.size) s.heap s.heap [] := va_S.rf
  have hl := lv_entry ([.ref b]) (n := 15) (Nat.le_of_ble_eq_true rfl)
  rw [lg_entry_eq]
  generalize (lg_sl ([.ref b]) ++ List.replicate (15 - (lg_sl ([.ref b])).length) Slot.unset).toArray = ls at hl ⊢
  have hl : lv_has ls 15 [(0, .ref b)] := hl
  refine f_new (own := RL) (C := RX2) (T := TX2) (N := 6) (ci := 2) (fs := [.null, .int 0, .int 0, .int 0, .int 0, .int 0]) hx hb htsL inlX2 tyX2 tyX2_ok hown (hts (Cond.classLink RL 10 RX2) (wsL_law0_r1_in _ (List.mem_of_getElem? (i := 0) rfl))) (hts (Cond.instantiable RX2 6) (wsL_law0_r1_in _ (List.mem_of_getElem? (i := 1) rfl))) (hts (Cond.initialized RX2) (wsL_law0_r1_in _ (List.mem_of_getElem? (i := 2) rfl))) hK hS rfl nwX2 (Nat.le_of_ble_eq_true rfl) (Nat.le_of_ble_eq_true rfl) dL_law_0 (fun H1 hq1 hz1 ho1 hS => ?_)
  refine lv_dup hx hb dL_law_3 rfl ?_
  refine va_callv (va_runI (As := []) (rest := [.ref s.heap.size]) ⟨hx, hb, hml, hown, htsL⟩ (kX2_init l H1.size s.heap.size (by omega)) (cwI 0 htsL gL_law_X2_init rfl rfl rfl (hts (Cond.initialized RX2) (wsL_law0_r1_in _ (List.mem_of_getElem? (i := 2) rfl))) (hts (Cond.methodLink RL 82 yX2_init) (wsL_law0_r1_in _ (List.mem_of_getElem? (i := 5) rfl))) (hts (Cond.instanceMethod yX2_init) (wsL_law0_r1_in _ (List.mem_of_getElem? (i := 6) rfl))) rfl (by decide +kernel) ⟨Nat.le_of_ble_eq_true rfl, Nat.le_of_ble_eq_true rfl⟩) (c_pre hq1 hK hE0.2.2.2.2.1 hE0.2.2.2.2.2) rfl rfl hl.1 rfl (lv_room (Nat.le_of_ble_eq_true rfl)) dL_law_4 ⟨Nat.le_of_ble_eq_true rfl, Nat.le_of_ble_eq_true rfl⟩) hS (fun q _ h => ge_of h (by omega)) (fun q h => ge_of h (by omega)) (fun bk t H2 locs ht hvm hp hB hz2 hk2 hS => ?_)
  obtain ⟨hd2, hbk2⟩ := hB
  rw [ht] at hd2 hbk2
  have hbkl : bk < H2.size := hbk2.lt
  have hWd : Wd D cI cO cL cJ s.heap.size bk s (g0 s.heap.size bk) (fun _ _ => 0) H2 := by
    refine ⟨?_, hE0.kept (fun a h1 h2 => hS.2.1 a h1 h2), ?_, ⟨?_, by omega⟩, rfl, rfl⟩
    · intro t i a ha
      rcases g0_key ha with ⟨rfl, rfl, rfl⟩ | ⟨rfl, rfl, rfl⟩
      · exact hd2
      · exact at_congr hbk2 (fun j _ => by simp [g0])
    · intro t i t' i' a h h'
      rcases g0_key h with ⟨h1, h2, h3⟩ | ⟨h1, h2, h3⟩ <;> rcases g0_key h' with ⟨k1, k2, k3⟩ | ⟨k1, k2, k3⟩ <;> omega
    · intro t i a h
      rcases g0_key h with ⟨h1, h2, h3⟩ | ⟨h1, h2, h3⟩ <;> omega
  have hC := g0_C s.heap.size bk
  have hZ := g0_Z s.heap.size bk
  obtain ⟨hW, hE, hI, hO, hd, hbk⟩ := id hWd
  have hts := htsL
  refine lv_astore_n (lv' := [(1, .ref s.heap.size), (0, .ref b)]) hx hb dL_law_7 rfl hl (by decide) rfl (fun ls hl => ?_)
  refine lv_iconst (v := 0) hx hb dL_law_8 (by decide) ?_
  refine lv_istore_n (lv' := [(2, .int 0), (1, .ref s.heap.size), (0, .ref b)]) hx hb dL_law_9 rfl hl (by decide) rfl (fun ls hl => ?_)
  refine lv_iconst (v := 0) hx hb dL_law_10 (by decide) ?_
  refine lv_istore_n (lv' := [(3, .int 0), (2, .int 0), (1, .ref s.heap.size), (0, .ref b)]) hx hb dL_law_11 rfl hl (by decide) rfl (fun ls hl => ?_)
  refine lv_aload_n hx hb dL_law_12 rfl (lv_at hl 2 rfl) ?_
  refine z_orders hlt ⟨hx, hb, hml, hown, hts⟩ gL_law_X2_orders hW hK hE hd hbk hl.1 (Nat.le_of_ble_eq_true rfl) dL_law_13 ⟨Nat.le_of_ble_eq_true rfl, Nat.le_of_ble_eq_true rfl⟩ ⟨by show 2 ≤ 632656; omega, by show 36 ≤ 7203499; omega⟩ ?_
  refine lv_if_ne (tgt := 38) hx hb dL_law_16 (by decide) (fun h9 => absurd rfl h9) (fun _ => ?_)
  refine lv_aload_n hx hb dL_law_19 rfl (lv_at hl 2 rfl) ?_
  refine z_day hlt ⟨hx, hb, hml, hown, hts⟩ gL_law_X2_day hW hK hE hd hbk hl.1 (Nat.le_of_ble_eq_true rfl) dL_law_20 ⟨Nat.le_of_ble_eq_true rfl, Nat.le_of_ble_eq_true rfl⟩ ⟨by show 2 ≤ 632656; omega, by show 36 ≤ 7203499; omega⟩ ?_
  refine lv_if_ne (tgt := 38) hx hb dL_law_23 (by decide) (fun h9 => absurd rfl h9) (fun _ => ?_)
  refine lv_aload_n hx hb dL_law_26 rfl (lv_at hl 2 rfl) ?_
  refine lv_iconst (v := 0) hx hb dL_law_27 (by decide) ?_
  refine z_stock hlt ⟨hx, hb, hml, hown, hts⟩ gL_law_X2_stock hW hK hE hd hbk (v := (fun _ _ => (0 : Int32)) 2 0) (y_in 0 (N := 2) rfl (by decide) (by decide)) rfl hl.1 (Nat.le_of_ble_eq_true rfl) dL_law_28 ⟨Nat.le_of_ble_eq_true rfl, Nat.le_of_ble_eq_true rfl⟩ ⟨by show 2 + 1 ≤ 632656; omega, by show 36 + 6 ≤ 7203499; omega⟩ ?_
  refine lv_if_ne (tgt := 38) hx hb dL_law_31 (by decide) (fun h9 => absurd rfl h9) (fun _ => ?_)
  refine lv_iconst (v := 1) hx hb dL_law_34 (by decide) ?_
  refine lv_goto (tgt := 39) hx hb dL_law_35 (by decide) ?_
  refine lv_istore (lv' := [(4, .int 1), (3, .int 0), (2, .int 0), (1, .ref s.heap.size), (0, .ref b)]) hx hb dL_law_39 hl (by decide) rfl (fun ls hl => ?_)
  refine lv_bipush (v := 6) hx hb dL_law_41 (by decide) ?_
  refine lv_aload_n hx hb dL_law_43 rfl (lv_at hl 4 rfl) ?_
  refine lv_iconst (v := 0) hx hb dL_law_44 (by decide) ?_
  refine z_cell ⟨hx, hb, hml, hown, hts⟩ gL_law_L_cell hL (hXb.kept (hS.2.1 b hbl (fun z => absurd hbl (Nat.not_lt.mpr z)))) (k := 0) (by omega) hl.1 (Nat.le_of_ble_eq_true rfl) dL_law_45 ⟨Nat.le_of_ble_eq_true rfl, Nat.le_of_ble_eq_true rfl⟩ ⟨by show 2 + 1 ≤ 632656; omega, by show 36 + 6 ≤ 7203499; omega⟩ (fun v1 => ?_)
  refine lv_bipush (v := 55) hx hb dL_law_48 (by decide) ?_
  refine z_low ⟨hx, hb, hml, hown, hts⟩ gL_law_L_low (N := 55) (by decide) (by decide) hl.1 (Nat.le_of_ble_eq_true rfl) dL_law_50 ⟨Nat.le_of_ble_eq_true rfl, Nat.le_of_ble_eq_true rfl⟩ ⟨by show 2 + 1 ≤ 632656; omega, by show 36 + 6 ≤ 7203499; omega⟩ (fun q2 hq2 => ?_)
  refine lv_iadd hx hb dL_law_53 ?_
  refine cv (y := nI (6 + q2)) (nI_addx (a := 6) (b := q2) rfl rfl) ?_
  refine lv_istore (lv' := [(5, .int (nI (6 + q2))), (4, .int 1), (3, .int 0), (2, .int 0), (1, .ref s.heap.size), (0, .ref b)]) hx hb dL_law_54 hl (by decide) rfl (fun ls hl => ?_)
  refine lv_iconst (v := 0) hx hb dL_law_56 (by decide) ?_
  refine lv_istore (lv' := [(6, .int 0), (5, .int (nI (6 + q2))), (4, .int 1), (3, .int 0), (2, .int 0), (1, .ref s.heap.size), (0, .ref b)]) hx hb dL_law_57 hl (by decide) rfl (fun ls hl => ?_)
  exact law_loop ⟨hx, hb, hml, hown, hts, hXb, hbl, hL, hK, hlt⟩ hr hlocks (tn := 6 + q2) (by omega) (6 + q2) 0 0 (fun _ => 0) 0 0 (g0 s.heap.size bk) (fun _ _ => 0) H2 locs _ _ ls (by omega) ⟨hWd, hC, hZ, PI0⟩ hS (lv_sub hl [6, 5, 4, 3, 2, 1, 0] rfl) (by omega) (by omega)

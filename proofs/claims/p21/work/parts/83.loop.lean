/-! THE LAW'S TURN AND ITS LOOP. -/
set_option maxHeartbeats 4000000 in
set_option maxRecDepth 100000 in
theorem law_tail {p : Program} {l : Launch} {e : Env} {s : State} {m : MethodId} {below : List Frame} {meth : Method} {c : Code} {D : va_G} {cI cO cL cJ : ClassId} {b L : Nat} {xs : Nat → Int32} (C0 : LC p l s m c D cI cO cL cJ b L xs) {d bk T n Lc mm tn k : Nat} {kc : Nat → Nat} {g : XG} {X : MS} {H : Heap} {locs : List Loc} {cells slots : Nat} {ls : Array Slot} (hT : T ≤ 60) (hk : k < n) (hLI : LI D cI cO cL cJ d bk s (T + 1) n kc Lc mm g X H) (hS : va_S (AH s.heap.size) s.heap H locs) (hl : lv_has ls 15 [(4, .int 1), (0, .ref b), (1, .ref d), (2, .int (nI Lc)), (3, .int (nI mm)), (5, .int (nI tn)), (6, .int (nI T)), (9, .int (nI k))]) (hc : cells ≤ 100000) (hs : slots ≤ 1000000)
    (hnext : ∀ (ls' : Array Slot), lv_has ls' 15 [(0, .ref b), (1, .ref d), (2, .int (nI Lc)), (3, .int (nI mm)), (4, .int 1), (5, .int (nI tn)), (6, .int (nI (T + 1)))] → W p l e room_1 s m #[Value.ref b] below meth c H locs (cells + 21) (slots + 126) (lw_Z below #[Value.ref b] s) (F0 m 59 ls' [])) : W p l e room_1 s m #[Value.ref b] below meth c H locs cells slots (lw_Z below #[Value.ref b] s) (F0 m 606 ls []) := by
  obtain ⟨hx, hb, hml, hown, hts, hXb, hbl, hL, hK, hlt⟩ := C0
  obtain ⟨hWd, hC, hZ, hPI⟩ := hLI
  obtain ⟨hW, hE, hI, hO, hd, hbk⟩ := id hWd
  have hn30 := hC.1
  have h8a := hC.h8
  refine lv_iload hx hb dL_law_606 (lv_at hl 0 rfl) ?_
  refine lv_if_eq (tgt := 646) hx hb dL_law_608 (by decide) (fun h9 => absurd h9 (by decide)) (fun _ => ?_)
  refine lv_aload_n hx hb dL_law_611 rfl (lv_at hl 2 rfl) ?_
  refine z_orders hlt ⟨hx, hb, hml, hown, hts⟩ gL_law_X2_orders hW hK hE hd hbk hl.1 (Nat.le_of_ble_eq_true rfl) dL_law_612 ⟨Nat.le_of_ble_eq_true rfl, Nat.le_of_ble_eq_true rfl⟩ ⟨by show cells ≤ 632656; omega, by show slots ≤ 7203499; omega⟩ ?_
  refine lv_if_eq (tgt := 642) hx hb dL_law_615 (by decide) (fun h9 => absurd h9 (by rw [hC.2.1]; exact nI_ne0 (by omega) (by omega))) (fun _ => ?_)
  refine lv_aload_n hx hb dL_law_618 rfl (lv_at hl 2 rfl) ?_
  refine lv_iload hx hb dL_law_619 (lv_at hl 7 rfl) ?_
  refine lv_iload_n hx hb dL_law_621 rfl (lv_at hl 4 rfl) ?_
  refine lv_iload hx hb dL_law_622 (lv_at hl 7 rfl) ?_
  refine lv_ishr hx hb dL_law_624 ?_
  refine lv_iconst (v := 1) hx hb dL_law_625 (by decide) ?_
  refine lv_iand hx hb dL_law_626 ?_
  refine lv_iconst (v := 1) hx hb dL_law_627 (by decide) ?_
  refine lv_icmp_ne (tgt := 635) hx hb dL_law_628 (by decide) (fun c628 => ?_) (fun c628 => ?_)
  · skip
    refine lv_iconst (v := 0) hx hb dL_law_635 (by decide) ?_
    refine z_sums hlt ⟨hx, hb, hml, hown, hts⟩ gL_law_L_sums hW hK hE hd hbk hC hk (hPI.sok (by omega) h8a hk (Or.inr ⟨rfl, hPI.un hk (fun h => c628 ((hPI.bit hn30 hk).mpr h))⟩)) hl.1 (Nat.le_of_ble_eq_true rfl) dL_law_636 ⟨Nat.le_of_ble_eq_true rfl, Nat.le_of_ble_eq_true rfl⟩ ⟨by show cells + 21 ≤ 632656; omega, by show slots + 126 ≤ 7203499; omega⟩ ?_
    refine lv_if_eq (tgt := 646) hx hb dL_law_639 (by decide) (fun h9 => absurd h9 (by decide)) (fun _ => ?_)
    refine lv_iconst (v := 1) hx hb dL_law_642 (by decide) ?_
    refine lv_goto (tgt := 647) hx hb dL_law_643 (by decide) ?_
    refine lv_istore (lv' := [(4, .int 1), (0, .ref b), (1, .ref d), (2, .int (nI Lc)), (3, .int (nI mm)), (5, .int (nI tn)), (6, .int (nI T)), (9, .int (nI k))]) hx hb dL_law_647 hl (by decide) rfl (fun ls hl => ?_)
    refine lv_iinc (v := nI (T + 1)) (lv' := [(6, .int (nI (T + 1))), (4, .int 1), (0, .ref b), (1, .ref d), (2, .int (nI Lc)), (3, .int (nI mm)), (5, .int (nI tn)), (9, .int (nI k))]) hx hb dL_law_649 hl (k := 6) rfl (nI_addx (a := T) (b := 1) rfl rfl) (by decide) rfl (fun ls hl => ?_)
    refine lv_goto (tgt := 59) hx hb dL_law_652 (by decide) ?_
    exact hnext _ (lv_sub hl [2, 3, 4, 5, 1, 6, 0] rfl)
  · skip
    refine lv_iconst (v := 1) hx hb dL_law_631 (by decide) ?_
    refine lv_goto (tgt := 636) hx hb dL_law_632 (by decide) ?_
    refine z_sums hlt ⟨hx, hb, hml, hown, hts⟩ gL_law_L_sums hW hK hE hd hbk hC hk (hPI.sok (by omega) h8a hk (Or.inl ⟨rfl, (hPI.bit hn30 hk).mp c628⟩)) hl.1 (Nat.le_of_ble_eq_true rfl) dL_law_636 ⟨Nat.le_of_ble_eq_true rfl, Nat.le_of_ble_eq_true rfl⟩ ⟨by show cells + 21 ≤ 632656; omega, by show slots + 126 ≤ 7203499; omega⟩ ?_
    refine lv_if_eq (tgt := 646) hx hb dL_law_639 (by decide) (fun h9 => absurd h9 (by decide)) (fun _ => ?_)
    refine lv_iconst (v := 1) hx hb dL_law_642 (by decide) ?_
    refine lv_goto (tgt := 647) hx hb dL_law_643 (by decide) ?_
    refine lv_istore (lv' := [(4, .int 1), (0, .ref b), (1, .ref d), (2, .int (nI Lc)), (3, .int (nI mm)), (5, .int (nI tn)), (6, .int (nI T)), (9, .int (nI k))]) hx hb dL_law_647 hl (by decide) rfl (fun ls hl => ?_)
    refine lv_iinc (v := nI (T + 1)) (lv' := [(6, .int (nI (T + 1))), (4, .int 1), (0, .ref b), (1, .ref d), (2, .int (nI Lc)), (3, .int (nI mm)), (5, .int (nI tn)), (9, .int (nI k))]) hx hb dL_law_649 hl (k := 6) rfl (nI_addx (a := T) (b := 1) rfl rfl) (by decide) rfl (fun ls hl => ?_)
    refine lv_goto (tgt := 59) hx hb dL_law_652 (by decide) ?_
    exact hnext _ (lv_sub hl [2, 3, 4, 5, 1, 6, 0] rfl)
set_option maxHeartbeats 4000000 in
set_option maxRecDepth 100000 in
theorem law_turn {p : Program} {l : Launch} {e : Env} {s : State} {m : MethodId} {below : List Frame} {meth : Method} {c : Code} {D : va_G} {cI cO cL cJ : ClassId} {b L : Nat} {xs : Nat → Int32} (C0 : LC p l s m c D cI cO cL cJ b L xs) {d bk T n Lc mm tn : Nat} {kc : Nat → Nat} {g : XG} {X : MS} {H : Heap} {locs : List Loc} {cells slots : Nat} {ls : Array Slot} (hT : T ≤ 60) (hLI : LI D cI cO cL cJ d bk s T n kc Lc mm g X H) (hS : va_S (AH s.heap.size) s.heap H locs) (hl : lv_has ls 15 [(0, .ref b), (1, .ref d), (2, .int (nI Lc)), (3, .int (nI mm)), (4, .int 1), (5, .int (nI tn)), (6, .int (nI T))]) (hc : cells ≤ 10000) (hs : slots ≤ 100000)
    (hnext : ∀ (n' : Nat) (kc' : Nat → Nat) (Lc' mm' : Nat) (g' : XG) (X' : MS) (H' : Heap) (locs' : List Loc) (ls' : Array Slot) (cells' slots' : Nat), LI D cI cO cL cJ d bk s (T + 1) n' kc' Lc' mm' g' X' H' → va_S (AH s.heap.size) s.heap H' locs' → lv_has ls' 15 [(0, .ref b), (1, .ref d), (2, .int (nI Lc')), (3, .int (nI mm')), (4, .int 1), (5, .int (nI tn)), (6, .int (nI (T + 1)))] → cells' ≤ cells + 50 → slots' ≤ slots + 300 → W p l e room_1 s m #[Value.ref b] below meth c H' locs' cells' slots' (lw_Z below #[Value.ref b] s) (F0 m 59 ls' [])) : W p l e room_1 s m #[Value.ref b] below meth c H locs cells slots (lw_Z below #[Value.ref b] s) (F0 m 71 ls []) := by
  obtain ⟨hx, hb, hml, hown, hts, hXb, hbl, hL, hK, hlt⟩ := id C0
  obtain ⟨hWd, hC, hZ, hPI⟩ := id hLI
  obtain ⟨hW, hE, hI, hO, hd, hbk⟩ := id hWd
  have hn30 := hC.1
  have htail : ∀ (k n' : Nat) (kc' : Nat → Nat) (Lc' mm' : Nat) (g' : XG) (X' : MS) (H' : Heap) (locs' : List Loc) (ls' : Array Slot) (cells' slots' : Nat), k < n' → LI D cI cO cL cJ d bk s (T + 1) n' kc' Lc' mm' g' X' H' → va_S (AH s.heap.size) s.heap H' locs' → lv_has ls' 15 [(4, .int 1), (0, .ref b), (1, .ref d), (2, .int (nI Lc')), (3, .int (nI mm')), (5, .int (nI tn)), (6, .int (nI T)), (9, .int (nI k))] → cells' ≤ cells + 29 → slots' ≤ slots + 174 → W p l e room_1 s m #[Value.ref b] below meth c H' locs' cells' slots' (lw_Z below #[Value.ref b] s) (F0 m 606 ls' []) :=
    fun k n' kc' Lc' mm' g' X' H' locs' ls' cells' slots' h0 h1 h2 h3 h4 h5 => law_tail C0 hT h0 h1 h2 h3 (by omega) (by omega) (fun ls'' h6 => hnext n' kc' Lc' mm' g' X' H' locs' ls'' _ _ h1 h2 h6 (by omega) (by omega))
  refine lv_aload_n hx hb dL_law_71 rfl (lv_at hl 0 rfl) ?_
  refine lv_iconst (v := 1) hx hb dL_law_72 (by decide) ?_
  refine lv_iload hx hb dL_law_73 (lv_at hl 6 rfl) ?_
  refine lv_iadd hx hb dL_law_75 ?_
  refine cv (y := nI (1 + T)) (nI_addx (a := 1) (b := T) rfl rfl) ?_
  refine z_cell ⟨hx, hb, hml, hown, hts⟩ gL_law_L_cell hL (hXb.kept (hS.2.1 b hbl (fun z => absurd hbl (Nat.not_lt.mpr z)))) (k := 1 + T) (by omega) hl.1 (Nat.le_of_ble_eq_true rfl) dL_law_76 ⟨Nat.le_of_ble_eq_true rfl, Nat.le_of_ble_eq_true rfl⟩ ⟨by show cells ≤ 632656; omega, by show slots ≤ 7203499; omega⟩ (fun v1 => ?_)
  refine lv_istore (lv' := [(7, .int v1), (0, .ref b), (1, .ref d), (2, .int (nI Lc)), (3, .int (nI mm)), (4, .int 1), (5, .int (nI tn)), (6, .int (nI T))]) hx hb dL_law_79 hl (by decide) rfl (fun ls hl => ?_)
  refine lv_aload_n hx hb dL_law_81 rfl (lv_at hl 2 rfl) ?_
  refine z_orders hlt ⟨hx, hb, hml, hown, hts⟩ gL_law_X2_orders hW hK hE hd hbk hl.1 (Nat.le_of_ble_eq_true rfl) dL_law_82 ⟨Nat.le_of_ble_eq_true rfl, Nat.le_of_ble_eq_true rfl⟩ ⟨by show cells ≤ 632656; omega, by show slots ≤ 7203499; omega⟩ ?_
  refine cv (y := nI n) hC.2.1 ?_
  refine lv_istore (lv' := [(8, .int (nI n)), (7, .int v1), (0, .ref b), (1, .ref d), (2, .int (nI Lc)), (3, .int (nI mm)), (4, .int 1), (5, .int (nI tn)), (6, .int (nI T))]) hx hb dL_law_85 hl (by decide) rfl (fun ls hl => ?_)
  refine lv_iload hx hb dL_law_87 (lv_at hl 0 rfl) ?_
  refine lv_if_ne (tgt := 96) hx hb dL_law_89 (by decide) (fun c89 => ?_) (fun c89 => ?_)
  · skip
    have hn : 0 < n := Nat.pos_of_ne_zero (fun h => c89 (by rw [h]; rfl))
    refine lv_iload hx hb dL_law_96 (lv_at hl 1 rfl) ?_
    refine lv_iconst (v := 3) hx hb dL_law_98 (by decide) ?_
    refine lv_ishr hx hb dL_law_99 ?_
    refine lv_iload hx hb dL_law_100 (lv_at hl 0 rfl) ?_
    refine z_low ⟨hx, hb, hml, hown, hts⟩ gL_law_L_low (N := n) (by omega) (by omega) hl.1 (Nat.le_of_ble_eq_true rfl) dL_law_102 ⟨Nat.le_of_ble_eq_true rfl, Nat.le_of_ble_eq_true rfl⟩ ⟨by show cells ≤ 632656; omega, by show slots ≤ 7203499; omega⟩ (fun q2 hq2 => ?_)
    refine lv_istore (lv' := [(9, .int (nI q2)), (8, .int (nI n)), (7, .int v1), (0, .ref b), (1, .ref d), (2, .int (nI Lc)), (3, .int (nI mm)), (4, .int 1), (5, .int (nI tn)), (6, .int (nI T))]) hx hb dL_law_105 hl (by decide) rfl (fun ls hl => ?_)
    refine lv_iload hx hb dL_law_107 (lv_at hl 1 rfl) ?_
    refine lv_if_le (tgt := 126) hx hb dL_law_109 (by decide) (fun h9 => absurd h9 (nI_nle hn (by omega))) (fun _ => ?_)
    refine lv_iload_n hx hb dL_law_112 rfl (lv_at hl 6 rfl) ?_
    refine lv_iload hx hb dL_law_113 (lv_at hl 0 rfl) ?_
    refine lv_ishr hx hb dL_law_115 ?_
    refine lv_iconst (v := 1) hx hb dL_law_116 (by decide) ?_
    refine lv_iand hx hb dL_law_117 ?_
    refine lv_iconst (v := 1) hx hb dL_law_118 (by decide) ?_
    refine lv_icmp_ne (tgt := 126) hx hb dL_law_119 (by decide) (fun c119 => ?_) (fun c119 => ?_)
    · skip
      refine lv_iconst (v := 0) hx hb dL_law_126 (by decide) ?_
      refine lv_istore (lv' := [(10, .int 0), (9, .int (nI q2)), (8, .int (nI n)), (7, .int v1), (0, .ref b), (1, .ref d), (2, .int (nI Lc)), (3, .int (nI mm)), (4, .int 1), (5, .int (nI tn)), (6, .int (nI T))]) hx hb dL_law_127 hl (by decide) rfl (fun ls hl => ?_)
      refine lv_iload hx hb dL_law_129 (lv_at hl 3 rfl) ?_
      refine lv_bipush (v := 20) hx hb dL_law_131 (by decide) ?_
      refine lv_ishr hx hb dL_law_133 ?_
      refine lv_bipush (v := 14) hx hb dL_law_134 (by decide) ?_
      refine z_low ⟨hx, hb, hml, hown, hts⟩ gL_law_L_low (N := 14) (by decide) (by decide) hl.1 (Nat.le_of_ble_eq_true rfl) dL_law_136 ⟨Nat.le_of_ble_eq_true rfl, Nat.le_of_ble_eq_true rfl⟩ ⟨by show cells ≤ 632656; omega, by show slots ≤ 7203499; omega⟩ (fun q3 hq3 => ?_)
      refine lv_istore (lv' := [(11, .int (nI q3)), (10, .int 0), (9, .int (nI q2)), (8, .int (nI n)), (7, .int v1), (0, .ref b), (1, .ref d), (2, .int (nI Lc)), (3, .int (nI mm)), (4, .int 1), (5, .int (nI tn)), (6, .int (nI T))]) hx hb dL_law_139 hl (by decide) rfl (fun ls hl => ?_)
      refine lv_iload hx hb dL_law_141 (lv_at hl 3 rfl) ?_
      refine lv_if_eq (tgt := 152) hx hb dL_law_143 (by decide) (fun h9 => absurd h9 c89) (fun _ => ?_)
      refine lv_iload hx hb dL_law_146 (lv_at hl 0 rfl) ?_
      refine lv_iconst (v := 1) hx hb dL_law_148 (by decide) ?_
      refine lv_icmp_ge (tgt := 240) hx hb dL_law_149 (by decide) (fun c149 => ?_) (fun c149 => ?_)
      · skip
        refine lv_iload hx hb dL_law_240 (lv_at hl 0 rfl) ?_
        refine lv_iconst (v := 5) hx hb dL_law_242 (by decide) ?_
        refine lv_icmp_ge (tgt := 363) hx hb dL_law_243 (by decide) (fun c243 => ?_) (fun c243 => ?_)
        · skip
          refine lv_iload hx hb dL_law_363 (lv_at hl 0 rfl) ?_
          refine lv_bipush (v := 7) hx hb dL_law_365 (by decide) ?_
          refine lv_icmp_ge (tgt := 497) hx hb dL_law_367 (by decide) (fun c367 => ?_) (fun c367 => ?_)
          · skip
            refine lv_iload hx hb dL_law_497 (lv_at hl 0 rfl) ?_
            refine lv_bipush (v := 11) hx hb dL_law_499 (by decide) ?_
            refine lv_icmp_ge (tgt := 526) hx hb dL_law_501 (by decide) (fun c501 => ?_) (fun c501 => ?_)
            · skip
              exact law_pass C0 (k := q2) (v := v1) hT hLI hS (lv_sub hl [5, 6, 7, 8, 9, 10, 11, 4, 2] rfl) hc hs hq2 htail
            · skip
              refine lv_iload hx hb dL_law_504 (lv_at hl 1 rfl) ?_
              refine lv_if_eq (tgt := 526) hx hb dL_law_506 (by decide) (fun _ => ?_) (fun h9 => absurd (by decide) h9)
              exact law_pass C0 (k := q2) (v := v1) hT hLI hS (lv_sub hl [5, 6, 7, 8, 9, 10, 11, 4, 2] rfl) hc hs hq2 htail
          · skip
            refine lv_iload hx hb dL_law_370 (lv_at hl 1 rfl) ?_
            refine lv_if_ne (tgt := 497) hx hb dL_law_372 (by decide) (fun h9 => absurd (by decide) h9) (fun _ => ?_)
            exact law_pay C0 (k := q2) (v := v1) hT hLI hS (lv_sub hl [5, 6, 7, 8, 9, 10, 11, 4, 2] rfl) hc hs hq2 (hPI.un hq2 (fun h => c119 ((hPI.bit hn30 hq2).mpr h))) htail
        · skip
          refine lv_iload hx hb dL_law_246 (lv_at hl 1 rfl) ?_
          refine lv_if_ne (tgt := 363) hx hb dL_law_248 (by decide) (fun h9 => absurd (by decide) h9) (fun _ => ?_)
          exact law_add C0 (k := q2) (v := v1) hT hLI hS (lv_sub hl [5, 6, 7, 8, 9, 10, 11, 4, 2] rfl) hc hs hq2 (hPI.un hq2 (fun h => c119 ((hPI.bit hn30 hq2).mpr h))) htail
      · skip
        exact law_order C0 (k := q2) (v := v1) hT hLI hS (lv_sub hl [5, 6, 7, 8, 9, 10, 11, 4, 3, 2] rfl) hc hs (Or.inl hq2) htail
    · skip
      refine lv_iconst (v := 1) hx hb dL_law_122 (by decide) ?_
      refine lv_goto (tgt := 127) hx hb dL_law_123 (by decide) ?_
      refine lv_istore (lv' := [(10, .int 1), (9, .int (nI q2)), (8, .int (nI n)), (7, .int v1), (0, .ref b), (1, .ref d), (2, .int (nI Lc)), (3, .int (nI mm)), (4, .int 1), (5, .int (nI tn)), (6, .int (nI T))]) hx hb dL_law_127 hl (by decide) rfl (fun ls hl => ?_)
      refine lv_iload hx hb dL_law_129 (lv_at hl 3 rfl) ?_
      refine lv_bipush (v := 20) hx hb dL_law_131 (by decide) ?_
      refine lv_ishr hx hb dL_law_133 ?_
      refine lv_bipush (v := 14) hx hb dL_law_134 (by decide) ?_
      refine z_low ⟨hx, hb, hml, hown, hts⟩ gL_law_L_low (N := 14) (by decide) (by decide) hl.1 (Nat.le_of_ble_eq_true rfl) dL_law_136 ⟨Nat.le_of_ble_eq_true rfl, Nat.le_of_ble_eq_true rfl⟩ ⟨by show cells ≤ 632656; omega, by show slots ≤ 7203499; omega⟩ (fun q4 hq4 => ?_)
      refine lv_istore (lv' := [(11, .int (nI q4)), (10, .int 1), (9, .int (nI q2)), (8, .int (nI n)), (7, .int v1), (0, .ref b), (1, .ref d), (2, .int (nI Lc)), (3, .int (nI mm)), (4, .int 1), (5, .int (nI tn)), (6, .int (nI T))]) hx hb dL_law_139 hl (by decide) rfl (fun ls hl => ?_)
      refine lv_iload hx hb dL_law_141 (lv_at hl 3 rfl) ?_
      refine lv_if_eq (tgt := 152) hx hb dL_law_143 (by decide) (fun h9 => absurd h9 c89) (fun _ => ?_)
      refine lv_iload hx hb dL_law_146 (lv_at hl 0 rfl) ?_
      refine lv_iconst (v := 1) hx hb dL_law_148 (by decide) ?_
      refine lv_icmp_ge (tgt := 240) hx hb dL_law_149 (by decide) (fun c149 => ?_) (fun c149 => ?_)
      · skip
        refine lv_iload hx hb dL_law_240 (lv_at hl 0 rfl) ?_
        refine lv_iconst (v := 5) hx hb dL_law_242 (by decide) ?_
        refine lv_icmp_ge (tgt := 363) hx hb dL_law_243 (by decide) (fun c243 => ?_) (fun c243 => ?_)
        · skip
          refine lv_iload hx hb dL_law_363 (lv_at hl 0 rfl) ?_
          refine lv_bipush (v := 7) hx hb dL_law_365 (by decide) ?_
          refine lv_icmp_ge (tgt := 497) hx hb dL_law_367 (by decide) (fun c367 => ?_) (fun c367 => ?_)
          · skip
            refine lv_iload hx hb dL_law_497 (lv_at hl 0 rfl) ?_
            refine lv_bipush (v := 11) hx hb dL_law_499 (by decide) ?_
            refine lv_icmp_ge (tgt := 526) hx hb dL_law_501 (by decide) (fun c501 => ?_) (fun c501 => ?_)
            · skip
              exact law_pass C0 (k := q2) (v := v1) hT hLI hS (lv_sub hl [5, 6, 7, 8, 9, 10, 11, 4, 2] rfl) hc hs hq2 htail
            · skip
              refine lv_iload hx hb dL_law_504 (lv_at hl 1 rfl) ?_
              refine lv_if_eq (tgt := 526) hx hb dL_law_506 (by decide) (fun h9 => absurd h9 (by decide)) (fun _ => ?_)
              exact law_returns C0 (k := q2) (v := v1) hT hLI hS (lv_sub hl [5, 6, 7, 8, 9, 10, 11, 4, 2] rfl) hc hs hq2 ((hPI.bit hn30 hq2).mp c119) htail
          · skip
            refine lv_iload hx hb dL_law_370 (lv_at hl 1 rfl) ?_
            refine lv_if_ne (tgt := 497) hx hb dL_law_372 (by decide) (fun _ => ?_) (fun h9 => absurd h9 (by decide))
            refine lv_iload hx hb dL_law_497 (lv_at hl 0 rfl) ?_
            refine lv_bipush (v := 11) hx hb dL_law_499 (by decide) ?_
            refine lv_icmp_ge (tgt := 526) hx hb dL_law_501 (by decide) (fun c501 => ?_) (fun c501 => ?_)
            · skip
              exact law_pass C0 (k := q2) (v := v1) hT hLI hS (lv_sub hl [5, 6, 7, 8, 9, 10, 11, 4, 2] rfl) hc hs hq2 htail
            · skip
              refine lv_iload hx hb dL_law_504 (lv_at hl 1 rfl) ?_
              refine lv_if_eq (tgt := 526) hx hb dL_law_506 (by decide) (fun h9 => absurd h9 (by decide)) (fun _ => ?_)
              exact law_returns C0 (k := q2) (v := v1) hT hLI hS (lv_sub hl [5, 6, 7, 8, 9, 10, 11, 4, 2] rfl) hc hs hq2 ((hPI.bit hn30 hq2).mp c119) htail
        · skip
          refine lv_iload hx hb dL_law_246 (lv_at hl 1 rfl) ?_
          refine lv_if_ne (tgt := 363) hx hb dL_law_248 (by decide) (fun _ => ?_) (fun h9 => absurd h9 (by decide))
          refine lv_iload hx hb dL_law_363 (lv_at hl 0 rfl) ?_
          refine lv_bipush (v := 7) hx hb dL_law_365 (by decide) ?_
          refine lv_icmp_ge (tgt := 497) hx hb dL_law_367 (by decide) (fun c367 => ?_) (fun c367 => ?_)
          · skip
            refine lv_iload hx hb dL_law_497 (lv_at hl 0 rfl) ?_
            refine lv_bipush (v := 11) hx hb dL_law_499 (by decide) ?_
            refine lv_icmp_ge (tgt := 526) hx hb dL_law_501 (by decide) (fun c501 => ?_) (fun c501 => ?_)
            · skip
              exact law_pass C0 (k := q2) (v := v1) hT hLI hS (lv_sub hl [5, 6, 7, 8, 9, 10, 11, 4, 2] rfl) hc hs hq2 htail
            · skip
              refine lv_iload hx hb dL_law_504 (lv_at hl 1 rfl) ?_
              refine lv_if_eq (tgt := 526) hx hb dL_law_506 (by decide) (fun h9 => absurd h9 (by decide)) (fun _ => ?_)
              exact law_returns C0 (k := q2) (v := v1) hT hLI hS (lv_sub hl [5, 6, 7, 8, 9, 10, 11, 4, 2] rfl) hc hs hq2 ((hPI.bit hn30 hq2).mp c119) htail
          · skip
            refine lv_iload hx hb dL_law_370 (lv_at hl 1 rfl) ?_
            refine lv_if_ne (tgt := 497) hx hb dL_law_372 (by decide) (fun _ => ?_) (fun h9 => absurd h9 (by decide))
            refine lv_iload hx hb dL_law_497 (lv_at hl 0 rfl) ?_
            refine lv_bipush (v := 11) hx hb dL_law_499 (by decide) ?_
            refine lv_icmp_ge (tgt := 526) hx hb dL_law_501 (by decide) (fun c501 => ?_) (fun c501 => ?_)
            · skip
              exact law_pass C0 (k := q2) (v := v1) hT hLI hS (lv_sub hl [5, 6, 7, 8, 9, 10, 11, 4, 2] rfl) hc hs hq2 htail
            · skip
              refine lv_iload hx hb dL_law_504 (lv_at hl 1 rfl) ?_
              refine lv_if_eq (tgt := 526) hx hb dL_law_506 (by decide) (fun h9 => absurd h9 (by decide)) (fun _ => ?_)
              exact law_returns C0 (k := q2) (v := v1) hT hLI hS (lv_sub hl [5, 6, 7, 8, 9, 10, 11, 4, 2] rfl) hc hs hq2 ((hPI.bit hn30 hq2).mp c119) htail
      · skip
        exact law_order C0 (k := q2) (v := v1) hT hLI hS (lv_sub hl [5, 6, 7, 8, 9, 10, 11, 4, 3, 2] rfl) hc hs (Or.inl hq2) htail
  · skip
    have hn : n = 0 := (nI_eq (by omega) (by decide)).mp (show nI n = nI 0 from c89)
    refine lv_iconst (v := 0) hx hb dL_law_92 (by decide) ?_
    refine lv_goto (tgt := 105) hx hb dL_law_93 (by decide) ?_
    refine lv_istore (lv' := [(9, .int 0), (8, .int (nI n)), (7, .int v1), (0, .ref b), (1, .ref d), (2, .int (nI Lc)), (3, .int (nI mm)), (4, .int 1), (5, .int (nI tn)), (6, .int (nI T))]) hx hb dL_law_105 hl (by decide) rfl (fun ls hl => ?_)
    refine lv_iload hx hb dL_law_107 (lv_at hl 1 rfl) ?_
    refine lv_if_le (tgt := 126) hx hb dL_law_109 (by decide) (fun _ => ?_) (fun h9 => absurd (show nI n ≤ 0 by rw [c89]; decide) h9)
    refine lv_iconst (v := 0) hx hb dL_law_126 (by decide) ?_
    refine lv_istore (lv' := [(10, .int 0), (9, .int 0), (8, .int (nI n)), (7, .int v1), (0, .ref b), (1, .ref d), (2, .int (nI Lc)), (3, .int (nI mm)), (4, .int 1), (5, .int (nI tn)), (6, .int (nI T))]) hx hb dL_law_127 hl (by decide) rfl (fun ls hl => ?_)
    refine lv_iload hx hb dL_law_129 (lv_at hl 3 rfl) ?_
    refine lv_bipush (v := 20) hx hb dL_law_131 (by decide) ?_
    refine lv_ishr hx hb dL_law_133 ?_
    refine lv_bipush (v := 14) hx hb dL_law_134 (by decide) ?_
    refine z_low ⟨hx, hb, hml, hown, hts⟩ gL_law_L_low (N := 14) (by decide) (by decide) hl.1 (Nat.le_of_ble_eq_true rfl) dL_law_136 ⟨Nat.le_of_ble_eq_true rfl, Nat.le_of_ble_eq_true rfl⟩ ⟨by show cells ≤ 632656; omega, by show slots ≤ 7203499; omega⟩ (fun q5 hq5 => ?_)
    refine lv_istore (lv' := [(11, .int (nI q5)), (10, .int 0), (9, .int 0), (8, .int (nI n)), (7, .int v1), (0, .ref b), (1, .ref d), (2, .int (nI Lc)), (3, .int (nI mm)), (4, .int 1), (5, .int (nI tn)), (6, .int (nI T))]) hx hb dL_law_139 hl (by decide) rfl (fun ls hl => ?_)
    refine lv_iload hx hb dL_law_141 (lv_at hl 3 rfl) ?_
    refine lv_if_eq (tgt := 152) hx hb dL_law_143 (by decide) (fun _ => ?_) (fun h9 => absurd c89 h9)
    exact law_order C0 (k := 0) (v := v1) hT hLI hS (lv_sub hl [5, 6, 7, 8, 9, 10, 11, 4, 3, 2] rfl) hc hs (Or.inr ⟨hn, rfl⟩) htail
set_option maxHeartbeats 4000000 in
set_option maxRecDepth 100000 in
theorem law_loop {p : Program} {l : Launch} {e : Env} {s : State} {m : MethodId} {below : List Frame} {meth : Method} {c : Code} {D : va_G} {cI cO cL cJ : ClassId} {b L : Nat} {xs : Nat → Int32} (C0 : LC p l s m c D cI cO cL cJ b L xs) (hr : meth.sig.returnType = ret) (hlocks : meth.locks = false) {d bk tn : Nat} (htn : tn ≤ 60) : ∀ (j T n : Nat) (kc : Nat → Nat) (Lc mm : Nat) (g : XG) (X : MS) (H : Heap) (locs : List Loc) (cells slots : Nat) (ls : Array Slot), T + j = tn → LI D cI cO cL cJ d bk s T n kc Lc mm g X H → va_S (AH s.heap.size) s.heap H locs → lv_has ls 15 [(0, .ref b), (1, .ref d), (2, .int (nI Lc)), (3, .int (nI mm)), (4, .int 1), (5, .int (nI tn)), (6, .int (nI T))] → cells ≤ 10 + 50 * T → slots ≤ 100 + 300 * T → W p l e room_1 s m #[Value.ref b] below meth c H locs cells slots (lw_Z below #[Value.ref b] s) (F0 m 59 ls []) := by
  obtain ⟨hx, hb, hml, hown, hts, hXb, hbl, hL, hK, hlt⟩ := id C0
  intro j
  induction j with
  | zero =>
    intro T n kc Lc mm g X H locs cells slots ls hj hLI hS hl hc hs
    refine lv_iload hx hb dL_law_59 (lv_at hl 6 rfl) ?_
    refine lv_iload hx hb dL_law_61 (lv_at hl 5 rfl) ?_
    refine lv_icmp_ge (tgt := 655) hx hb dL_law_63 (by decide) (fun _ => ?_) (fun h9 => absurd (nI_le (show tn ≤ T by omega) (by omega)) h9)
    refine lv_iload hx hb dL_law_655 (lv_at hl 4 rfl) ?_
    exact va_forget (fun z hz => hS.2.2 z hz) (W.widen (by omega) (by omega) (lw_ret hx hb hr hlocks dL_law_657))
  | succ j ih =>
    intro T n kc Lc mm g X H locs cells slots ls hj hLI hS hl hc hs
    refine lv_iload hx hb dL_law_59 (lv_at hl 6 rfl) ?_
    refine lv_iload hx hb dL_law_61 (lv_at hl 5 rfl) ?_
    refine lv_icmp_ge (tgt := 655) hx hb dL_law_63 (by decide) (fun h9 => absurd h9 (nI_ge (show T < tn by omega) (by omega))) (fun _ => ?_)
    refine lv_iload hx hb dL_law_66 (lv_at hl 4 rfl) ?_
    refine lv_if_eq (tgt := 655) hx hb dL_law_68 (by decide) (fun h9 => absurd h9 (by decide)) (fun _ => ?_)
    exact law_turn C0 (by omega) hLI hS hl (by omega) (by omega) (fun n' kc' Lc' mm' g' X' H' locs' ls' cells' slots' h1 h2 h3 h4 h5 => ih (T + 1) n' kc' Lc' mm' g' X' H' locs' cells' slots' ls' (by omega) h1 h2 h3 (by omega) (by omega))

/-! THE LAW'S CASES, the others. -/
set_option maxHeartbeats 4000000 in
set_option maxRecDepth 100000 in
theorem law_state {p : Program} {l : Launch} {e : Env} {s : State} {m : MethodId} {below : List Frame} {meth : Method} {c : Code} {D : va_G} {cI cO cL cJ : ClassId} {b L : Nat} {xs : Nat → Int32} (C0 : LC p l s m c D cI cO cL cJ b L xs) {d bk ou ao : Nat} {q : Nat → Nat} {K : Nat} {g : XG} {X M : MS} {w : Int64} {H : Heap} {locs : List Loc} {cells slots : Nat} {ls : Array Slot} (hLI : LI D cI cO cL cJ d bk ou ao q s K g X M w H) (hS : va_S (AH s.heap.size) s.heap H locs) (hl : lv_has ls 7 [(0, .ref b), (1, .ref d), (2, .ref ao), (3, .ref ou), (4, .int (nI (4 * K)))]) (hKL : 4 * K + 4 ≤ L) (hc : cells ≤ 18 + 4 * K) (hs : slots ≤ 1557 + 32 * K)
    (hnext : ∀ (g' : XG) (X' M' : MS) (w' : Int64) (H' : Heap) (locs' : List Loc) (ls' : Array Slot) (cells' slots' : Nat), LI D cI cO cL cJ d bk ou ao q s (K + 1) g' X' M' w' H' → va_S (AH s.heap.size) s.heap H' locs' → lv_has ls' 7 [(0, .ref b), (1, .ref d), (2, .ref ao), (3, .ref ou), (4, .int (nI (4 * K)))] → cells' ≤ 18 + 4 * (K + 1) → slots' ≤ 1557 + 32 * (K + 1) → W p l e room_1 s m #[Value.ref b] below meth c H' locs' cells' slots' (lw_Z below #[Value.ref b] s) (F0 m 1233 ls' [])) : W p l e room_1 s m #[Value.ref b] below meth c H locs cells slots (lw_Z below #[Value.ref b] s) (F0 m 692 ls []) := by
  obtain ⟨hx, hb, hml, hown, hts, hXb, hbl, hL, hK, hN, hlt⟩ := C0
  have hLI0 := hLI
  obtain ⟨hW, hM, hw, hE, hI, hO, hmI, hou, hmA, hzo, hd, hbk, n, kc, dd, hC, hZ, hR⟩ := hLI
  have hmAH : ∀ a, mA ao q a → AH s.heap.size a := fun a h => (hmA a h).1
  have hAA : ∀ a, wA g H.size ou a → AH s.heap.size a := fun a h => by
    rcases h with (⟨t, i, h⟩ | h) | h
    · exact hO.1 t i a h
    · exact Nat.le_trans hO.2 h
    · rw [h]; exact hzo
  refine lv_aload_n hx hb dL_law_692 rfl (lv_at hl 1 rfl) ?_
  refine lv_aload_n hx hb dL_law_693 rfl (lv_at hl 0 rfl) ?_
  refine lv_iload hx hb dL_law_694 (lv_at hl 4 rfl) ?_
  refine lv_iconst (v := 1) hx hb dL_law_696 (by decide) ?_
  refine lv_iadd hx hb dL_law_697 ?_
  refine f_sld hx hb hXb hbl hL hS (i := 4 * K + 1) (nI_addx (a := 4 * K) (b := 1) rfl rfl) (by omega) dL_law_698 ?_
  refine lv_aload_n hx hb dL_law_699 rfl (lv_at hl 0 rfl) ?_
  refine lv_iload hx hb dL_law_700 (lv_at hl 4 rfl) ?_
  refine lv_iconst (v := 2) hx hb dL_law_702 (by decide) ?_
  refine lv_iadd hx hb dL_law_703 ?_
  refine f_sld hx hb hXb hbl hL hS (i := 4 * K + 2) (nI_addx (a := 4 * K) (b := 2) rfl rfl) (by omega) dL_law_704 ?_
  refine lv_aload_n hx hb dL_law_705 rfl (lv_at hl 3 rfl) ?_
  refine va_calli (vx_runSW (As := [.ref d, .int (xs (4 * K + 1)), .int (xs (4 * K + 2)), .ref ou]) (rest := []) ⟨hx, hb, hml, hown, hts⟩ (kL_state l hlt g X s.heap.size H.size hI hO ou hou hw.lt w d bk hd hbk n kc hC hZ (xs (4 * K + 1)) (xs (4 * K + 2))) (vx_cwSW 4 hts gL_law_L_state rfl rfl rfl (by decide +kernel) ⟨Nat.le_of_ble_eq_true rfl, Nat.le_of_ble_eq_true rfl⟩) (w_pre hW hK hE hw hN) rfl rfl hl.1 rfl (lv_room (Nat.le_of_ble_eq_true rfl)) dL_law_706 ⟨by show cells + 2 ≤ 601024; omega, by show slots + 12 ≤ 7293034; omega⟩) hS (fun a _ h => hAA a h) hAA (fun r u t H1 locs ht hvm hp hB hz1 hk1 hS => ?_)
  obtain ⟨hW1, hw1⟩ := hB
  rw [ht] at hW1 hw1
  obtain ⟨hM1, hE1, hI1, hO1, hou1, hmA1, hd1, hbk1⟩ := LI.one hLI0 (gw_state hI (fun t i a h => hW.lt h) hp) hz1 hk1
  refine lv_istore (lv' := [(5, .int r), (0, .ref b), (1, .ref d), (2, .ref ao), (3, .ref ou), (4, .int (nI (4 * K)))]) hx hb dL_law_709 hl (by decide) rfl (fun ls hl => ?_)
  refine lv_aload_n hx hb dL_law_711 rfl (lv_at hl 3 rfl) ?_
  refine lv_aload_n hx hb dL_law_712 rfl (lv_at hl 1 rfl) ?_
  refine lv_iload hx hb dL_law_713 (lv_at hl 5 rfl) ?_
  refine lv_iconst (v := 1) hx hb dL_law_715 (by decide) ?_
  refine lv_iadd hx hb dL_law_716 ?_
  refine f_sld hx hb hXb hbl hL hS (i := 4 * K + 1) (nI_addx (a := 4 * K) (b := 1) rfl rfl) (by omega) dL_law_717 ?_
  refine lv_aload_n hx hb dL_law_718 rfl (lv_at hl 1 rfl) ?_
  refine lv_iload hx hb dL_law_719 (lv_at hl 5 rfl) ?_
  refine lv_iconst (v := 2) hx hb dL_law_721 (by decide) ?_
  refine lv_iadd hx hb dL_law_722 ?_
  refine f_sld hx hb hXb hbl hL hS (i := 4 * K + 2) (nI_addx (a := 4 * K) (b := 2) rfl rfl) (by omega) dL_law_723 ?_
  obtain ⟨rm, post, c1, c2, c3, c4, hMet, hG⟩ := sim_state (l := l) (D := D) (cI := cI) (cO := cO) (cL := cL) (cJ := cJ) hmI hC hZ hR (xs (4 * K + 1)) (xs (4 * K + 2)) hp
  refine m_call 2 hx hb hts hown hml hMet rfl gL_law_X3_state rfl c1 c2 (by decide +kernel) ⟨by show rm.frames + 1 ≤ 12; omega, by show 8 + (3 + 11) + rm.locals ≤ 442; omega⟩ hl.1 hM1 hK hS hmAH rfl (Nat.le_of_ble_eq_true rfl) dL_law_724 ⟨by show cells + 2 ≤ 601024; omega, by show slots + 12 ≤ 7293034; omega⟩ (fun bb M9 H2 locs hpost hM2 hz2 hk2 hS => ?_)
  obtain ⟨g1, g2, g3⟩ := hG bb M9 hpost
  have hLI2 : LI D cI cO cL cJ d bk ou ao q s (K + 1) u.1 u.2.1 M9 u.2.2 H2 := LI.two hW1 hw1 hE1 hI1 hO1 hmI hou1 hmA1 hzo hd1 hbk1 hM2 hz2 hk2 g3
  refine lv_istore (lv' := [(6, .int bb), (5, .int r), (0, .ref b), (1, .ref d), (2, .ref ao), (3, .ref ou), (4, .int (nI (4 * K)))]) hx hb dL_law_727 hl (by decide) rfl (fun ls hl => ?_)
  refine lv_aload_n hx hb dL_law_729 rfl (lv_at hl 4 rfl) ?_
  refine m_call0 0 hx hb hts hown hml (kX3_thrown l M9) rfl gL_law_X3_thrown rfl rfl rfl (by decide +kernel) ⟨Nat.le_of_ble_eq_true rfl, Nat.le_of_ble_eq_true rfl⟩ hl.1 hM2 hK rfl (Nat.le_of_ble_eq_true rfl) dL_law_730 ⟨by show cells + 2 ≤ 601024; omega, by show slots + 12 ≤ 7293034; omega⟩ (fun rt ht9 => ?_)
  refine lv_iload hx hb dL_law_733 (lv_at hl 1 rfl) ?_
  refine lv_icmp_eq (tgt := 740) hx hb dL_law_735 (by decide) (fun _ => ?_) (fun h9 => absurd (ht9.trans g1) h9)
  refine lv_iload hx hb dL_law_740 (lv_at hl 1 rfl) ?_
  refine lv_if_ne (tgt := 757) hx hb dL_law_742 (by decide) (fun c9 => ?_) (fun c9 => ?_)
  · skip
    refine lv_goto (tgt := 1233) hx hb dL_law_757 (by decide) ?_
    exact hnext u.1 u.2.1 M9 u.2.2 H2 locs ls _ _ hLI2 hS (lv_sub hl [2, 3, 4, 5, 6] rfl) (by omega) (by omega)
  · skip
    refine lv_aload_n hx hb dL_law_745 rfl (lv_at hl 5 rfl) ?_
    refine lv_iconst (v := 0) hx hb dL_law_746 (by decide) ?_
    refine f_lald hx hb hK hLI2.2.2.1 (i := 0) rfl (by decide) (by decide) (v := u.2.2) rfl dL_law_747 ?_
    refine lv_iload hx hb dL_law_748 (lv_at hl 0 rfl) ?_
    refine lv_i2l hx hb dL_law_750 rfl ?_
    refine W.lcmp hx hb dL_law_751 ?_
    refine lv_if_eq (tgt := 757) hx hb dL_law_752 (by decide) (fun _ => ?_) (fun h9 => absurd (by rw [g2 c9]; exact cmp0 _) h9)
    refine lv_goto (tgt := 1233) hx hb dL_law_757 (by decide) ?_
    exact hnext u.1 u.2.1 M9 u.2.2 H2 locs ls _ _ hLI2 hS (lv_sub hl [2, 3, 4, 5, 6] rfl) (by omega) (by omega)
set_option maxHeartbeats 4000000 in
set_option maxRecDepth 100000 in
theorem law_price {p : Program} {l : Launch} {e : Env} {s : State} {m : MethodId} {below : List Frame} {meth : Method} {c : Code} {D : va_G} {cI cO cL cJ : ClassId} {b L : Nat} {xs : Nat → Int32} (C0 : LC p l s m c D cI cO cL cJ b L xs) {d bk ou ao : Nat} {q : Nat → Nat} {K : Nat} {g : XG} {X M : MS} {w : Int64} {H : Heap} {locs : List Loc} {cells slots : Nat} {ls : Array Slot} (hLI : LI D cI cO cL cJ d bk ou ao q s K g X M w H) (hS : va_S (AH s.heap.size) s.heap H locs) (hl : lv_has ls 7 [(0, .ref b), (1, .ref d), (2, .ref ao), (3, .ref ou), (4, .int (nI (4 * K)))]) (hKL : 4 * K + 4 ≤ L) (hc : cells ≤ 18 + 4 * K) (hs : slots ≤ 1557 + 32 * K)
    (hnext : ∀ (g' : XG) (X' M' : MS) (w' : Int64) (H' : Heap) (locs' : List Loc) (ls' : Array Slot) (cells' slots' : Nat), LI D cI cO cL cJ d bk ou ao q s (K + 1) g' X' M' w' H' → va_S (AH s.heap.size) s.heap H' locs' → lv_has ls' 7 [(0, .ref b), (1, .ref d), (2, .ref ao), (3, .ref ou), (4, .int (nI (4 * K)))] → cells' ≤ 18 + 4 * (K + 1) → slots' ≤ 1557 + 32 * (K + 1) → W p l e room_1 s m #[Value.ref b] below meth c H' locs' cells' slots' (lw_Z below #[Value.ref b] s) (F0 m 1233 ls' [])) : W p l e room_1 s m #[Value.ref b] below meth c H locs cells slots (lw_Z below #[Value.ref b] s) (F0 m 760 ls []) := by
  obtain ⟨hx, hb, hml, hown, hts, hXb, hbl, hL, hK, hN, hlt⟩ := C0
  have hLI0 := hLI
  obtain ⟨hW, hM, hw, hE, hI, hO, hmI, hou, hmA, hzo, hd, hbk, n, kc, dd, hC, hZ, hR⟩ := hLI
  have hmAH : ∀ a, mA ao q a → AH s.heap.size a := fun a h => (hmA a h).1
  have hAA : ∀ a, wA g H.size ou a → AH s.heap.size a := fun a h => by
    rcases h with (⟨t, i, h⟩ | h) | h
    · exact hO.1 t i a h
    · exact Nat.le_trans hO.2 h
    · rw [h]; exact hzo
  refine lv_aload_n hx hb dL_law_760 rfl (lv_at hl 1 rfl) ?_
  refine lv_aload_n hx hb dL_law_761 rfl (lv_at hl 0 rfl) ?_
  refine lv_iload hx hb dL_law_762 (lv_at hl 4 rfl) ?_
  refine lv_iconst (v := 1) hx hb dL_law_764 (by decide) ?_
  refine lv_iadd hx hb dL_law_765 ?_
  refine f_sld hx hb hXb hbl hL hS (i := 4 * K + 1) (nI_addx (a := 4 * K) (b := 1) rfl rfl) (by omega) dL_law_766 ?_
  refine lv_aload_n hx hb dL_law_767 rfl (lv_at hl 3 rfl) ?_
  refine va_calli (vx_runSW (As := [.ref d, .int (xs (4 * K + 1)), .ref ou]) (rest := []) ⟨hx, hb, hml, hown, hts⟩ (kL_price l hlt g X s.heap.size H.size hI hO ou hou hw.lt w d bk hd hbk n kc hC hZ (xs (4 * K + 1))) (vx_cwSW 3 hts gL_law_L_price rfl rfl rfl (by decide +kernel) ⟨Nat.le_of_ble_eq_true rfl, Nat.le_of_ble_eq_true rfl⟩) (w_pre hW hK hE hw hN) rfl rfl hl.1 rfl (lv_room (Nat.le_of_ble_eq_true rfl)) dL_law_768 ⟨by show cells + 1 ≤ 601024; omega, by show slots + 6 ≤ 7293034; omega⟩) hS (fun a _ h => hAA a h) hAA (fun r u t H1 locs ht hvm hp hB hz1 hk1 hS => ?_)
  obtain ⟨hW1, hw1⟩ := hB
  rw [ht] at hW1 hw1
  obtain ⟨hM1, hE1, hI1, hO1, hou1, hmA1, hd1, hbk1⟩ := LI.one hLI0 (gw_price hI (fun t i a h => hW.lt h) hp) hz1 hk1
  refine lv_istore (lv' := [(5, .int r), (0, .ref b), (1, .ref d), (2, .ref ao), (3, .ref ou), (4, .int (nI (4 * K)))]) hx hb dL_law_771 hl (by decide) rfl (fun ls hl => ?_)
  refine lv_aload_n hx hb dL_law_773 rfl (lv_at hl 3 rfl) ?_
  refine lv_aload_n hx hb dL_law_774 rfl (lv_at hl 1 rfl) ?_
  refine lv_iload hx hb dL_law_775 (lv_at hl 5 rfl) ?_
  refine lv_iconst (v := 1) hx hb dL_law_777 (by decide) ?_
  refine lv_iadd hx hb dL_law_778 ?_
  refine f_sld hx hb hXb hbl hL hS (i := 4 * K + 1) (nI_addx (a := 4 * K) (b := 1) rfl rfl) (by omega) dL_law_779 ?_
  obtain ⟨rm, post, c1, c2, c3, c4, hMet, hG⟩ := sim_price (l := l) (D := D) (cI := cI) (cO := cO) (cL := cL) (cJ := cJ) hmI hC hZ hR (xs (4 * K + 1)) hp
  refine m_call 1 hx hb hts hown hml hMet rfl gL_law_X3_price rfl c1 c2 (by decide +kernel) ⟨by show rm.frames + 1 ≤ 12; omega, by show 8 + (2 + 11) + rm.locals ≤ 442; omega⟩ hl.1 hM1 hK hS hmAH rfl (Nat.le_of_ble_eq_true rfl) dL_law_780 ⟨by show cells + 1 ≤ 601024; omega, by show slots + 6 ≤ 7293034; omega⟩ (fun bb M9 H2 locs hpost hM2 hz2 hk2 hS => ?_)
  obtain ⟨g1, g2, g3⟩ := hG bb M9 hpost
  have hLI2 : LI D cI cO cL cJ d bk ou ao q s (K + 1) u.1 u.2.1 M9 u.2.2 H2 := LI.two hW1 hw1 hE1 hI1 hO1 hmI hou1 hmA1 hzo hd1 hbk1 hM2 hz2 hk2 g3
  refine lv_istore (lv' := [(6, .int bb), (5, .int r), (0, .ref b), (1, .ref d), (2, .ref ao), (3, .ref ou), (4, .int (nI (4 * K)))]) hx hb dL_law_783 hl (by decide) rfl (fun ls hl => ?_)
  refine lv_aload_n hx hb dL_law_785 rfl (lv_at hl 4 rfl) ?_
  refine m_call0 0 hx hb hts hown hml (kX3_thrown l M9) rfl gL_law_X3_thrown rfl rfl rfl (by decide +kernel) ⟨Nat.le_of_ble_eq_true rfl, Nat.le_of_ble_eq_true rfl⟩ hl.1 hM2 hK rfl (Nat.le_of_ble_eq_true rfl) dL_law_786 ⟨by show cells + 1 ≤ 601024; omega, by show slots + 6 ≤ 7293034; omega⟩ (fun rt ht9 => ?_)
  refine lv_iload hx hb dL_law_789 (lv_at hl 1 rfl) ?_
  refine lv_icmp_eq (tgt := 796) hx hb dL_law_791 (by decide) (fun _ => ?_) (fun h9 => absurd (ht9.trans g1) h9)
  refine lv_iload hx hb dL_law_796 (lv_at hl 1 rfl) ?_
  refine lv_if_ne (tgt := 813) hx hb dL_law_798 (by decide) (fun c9 => ?_) (fun c9 => ?_)
  · skip
    refine lv_goto (tgt := 1233) hx hb dL_law_813 (by decide) ?_
    exact hnext u.1 u.2.1 M9 u.2.2 H2 locs ls _ _ hLI2 hS (lv_sub hl [2, 3, 4, 5, 6] rfl) (by omega) (by omega)
  · skip
    refine lv_aload_n hx hb dL_law_801 rfl (lv_at hl 5 rfl) ?_
    refine lv_iconst (v := 0) hx hb dL_law_802 (by decide) ?_
    refine f_lald hx hb hK hLI2.2.2.1 (i := 0) rfl (by decide) (by decide) (v := u.2.2) rfl dL_law_803 ?_
    refine lv_iload hx hb dL_law_804 (lv_at hl 0 rfl) ?_
    refine lv_i2l hx hb dL_law_806 rfl ?_
    refine W.lcmp hx hb dL_law_807 ?_
    refine lv_if_eq (tgt := 813) hx hb dL_law_808 (by decide) (fun _ => ?_) (fun h9 => absurd (by rw [g2 c9]; exact cmp0 _) h9)
    refine lv_goto (tgt := 1233) hx hb dL_law_813 (by decide) ?_
    exact hnext u.1 u.2.1 M9 u.2.2 H2 locs ls _ _ hLI2 hS (lv_sub hl [2, 3, 4, 5, 6] rfl) (by omega) (by omega)
set_option maxHeartbeats 4000000 in
set_option maxRecDepth 100000 in
theorem law_fees {p : Program} {l : Launch} {e : Env} {s : State} {m : MethodId} {below : List Frame} {meth : Method} {c : Code} {D : va_G} {cI cO cL cJ : ClassId} {b L : Nat} {xs : Nat → Int32} (C0 : LC p l s m c D cI cO cL cJ b L xs) {d bk ou ao : Nat} {q : Nat → Nat} {K : Nat} {g : XG} {X M : MS} {w : Int64} {H : Heap} {locs : List Loc} {cells slots : Nat} {ls : Array Slot} (hLI : LI D cI cO cL cJ d bk ou ao q s K g X M w H) (hS : va_S (AH s.heap.size) s.heap H locs) (hl : lv_has ls 7 [(0, .ref b), (1, .ref d), (2, .ref ao), (3, .ref ou), (4, .int (nI (4 * K)))]) (hKL : 4 * K + 4 ≤ L) (hc : cells ≤ 18 + 4 * K) (hs : slots ≤ 1557 + 32 * K)
    (hnext : ∀ (g' : XG) (X' M' : MS) (w' : Int64) (H' : Heap) (locs' : List Loc) (ls' : Array Slot) (cells' slots' : Nat), LI D cI cO cL cJ d bk ou ao q s (K + 1) g' X' M' w' H' → va_S (AH s.heap.size) s.heap H' locs' → lv_has ls' 7 [(0, .ref b), (1, .ref d), (2, .ref ao), (3, .ref ou), (4, .int (nI (4 * K)))] → cells' ≤ 18 + 4 * (K + 1) → slots' ≤ 1557 + 32 * (K + 1) → W p l e room_1 s m #[Value.ref b] below meth c H' locs' cells' slots' (lw_Z below #[Value.ref b] s) (F0 m 1233 ls' [])) : W p l e room_1 s m #[Value.ref b] below meth c H locs cells slots (lw_Z below #[Value.ref b] s) (F0 m 816 ls []) := by
  obtain ⟨hx, hb, hml, hown, hts, hXb, hbl, hL, hK, hN, hlt⟩ := C0
  have hLI0 := hLI
  obtain ⟨hW, hM, hw, hE, hI, hO, hmI, hou, hmA, hzo, hd, hbk, n, kc, dd, hC, hZ, hR⟩ := hLI
  have hmAH : ∀ a, mA ao q a → AH s.heap.size a := fun a h => (hmA a h).1
  have hAA : ∀ a, wA g H.size ou a → AH s.heap.size a := fun a h => by
    rcases h with (⟨t, i, h⟩ | h) | h
    · exact hO.1 t i a h
    · exact Nat.le_trans hO.2 h
    · rw [h]; exact hzo
  refine lv_aload_n hx hb dL_law_816 rfl (lv_at hl 1 rfl) ?_
  refine lv_aload_n hx hb dL_law_817 rfl (lv_at hl 0 rfl) ?_
  refine lv_iload hx hb dL_law_818 (lv_at hl 4 rfl) ?_
  refine lv_iconst (v := 1) hx hb dL_law_820 (by decide) ?_
  refine lv_iadd hx hb dL_law_821 ?_
  refine f_sld hx hb hXb hbl hL hS (i := 4 * K + 1) (nI_addx (a := 4 * K) (b := 1) rfl rfl) (by omega) dL_law_822 ?_
  refine lv_aload_n hx hb dL_law_823 rfl (lv_at hl 3 rfl) ?_
  refine va_calli (vx_runSW (As := [.ref d, .int (xs (4 * K + 1)), .ref ou]) (rest := []) ⟨hx, hb, hml, hown, hts⟩ (kL_fees l hlt g X s.heap.size H.size hI hO ou hou hw.lt w d bk hd hbk n kc hC hZ (xs (4 * K + 1))) (vx_cwSW 3 hts gL_law_L_fees rfl rfl rfl (by decide +kernel) ⟨Nat.le_of_ble_eq_true rfl, Nat.le_of_ble_eq_true rfl⟩) (w_pre hW hK hE hw hN) rfl rfl hl.1 rfl (lv_room (Nat.le_of_ble_eq_true rfl)) dL_law_824 ⟨by show cells + 1 ≤ 601024; omega, by show slots + 6 ≤ 7293034; omega⟩) hS (fun a _ h => hAA a h) hAA (fun r u t H1 locs ht hvm hp hB hz1 hk1 hS => ?_)
  obtain ⟨hW1, hw1⟩ := hB
  rw [ht] at hW1 hw1
  obtain ⟨hM1, hE1, hI1, hO1, hou1, hmA1, hd1, hbk1⟩ := LI.one hLI0 (gw_fees hI (fun t i a h => hW.lt h) hp) hz1 hk1
  refine lv_istore (lv' := [(5, .int r), (0, .ref b), (1, .ref d), (2, .ref ao), (3, .ref ou), (4, .int (nI (4 * K)))]) hx hb dL_law_827 hl (by decide) rfl (fun ls hl => ?_)
  refine lv_aload_n hx hb dL_law_829 rfl (lv_at hl 3 rfl) ?_
  refine lv_aload_n hx hb dL_law_830 rfl (lv_at hl 1 rfl) ?_
  refine lv_iload hx hb dL_law_831 (lv_at hl 5 rfl) ?_
  refine lv_iconst (v := 1) hx hb dL_law_833 (by decide) ?_
  refine lv_iadd hx hb dL_law_834 ?_
  refine f_sld hx hb hXb hbl hL hS (i := 4 * K + 1) (nI_addx (a := 4 * K) (b := 1) rfl rfl) (by omega) dL_law_835 ?_
  obtain ⟨rm, post, c1, c2, c3, c4, hMet, hG⟩ := sim_fees (l := l) (D := D) (cI := cI) (cO := cO) (cL := cL) (cJ := cJ) hmI hC hZ hR (xs (4 * K + 1)) hp
  refine m_call 1 hx hb hts hown hml hMet rfl gL_law_X3_fees rfl c1 c2 (by decide +kernel) ⟨by show rm.frames + 1 ≤ 12; omega, by show 8 + (2 + 11) + rm.locals ≤ 442; omega⟩ hl.1 hM1 hK hS hmAH rfl (Nat.le_of_ble_eq_true rfl) dL_law_836 ⟨by show cells + 1 ≤ 601024; omega, by show slots + 6 ≤ 7293034; omega⟩ (fun bb M9 H2 locs hpost hM2 hz2 hk2 hS => ?_)
  obtain ⟨g1, g2, g3⟩ := hG bb M9 hpost
  have hLI2 : LI D cI cO cL cJ d bk ou ao q s (K + 1) u.1 u.2.1 M9 u.2.2 H2 := LI.two hW1 hw1 hE1 hI1 hO1 hmI hou1 hmA1 hzo hd1 hbk1 hM2 hz2 hk2 g3
  refine lv_istore (lv' := [(6, .int bb), (5, .int r), (0, .ref b), (1, .ref d), (2, .ref ao), (3, .ref ou), (4, .int (nI (4 * K)))]) hx hb dL_law_839 hl (by decide) rfl (fun ls hl => ?_)
  refine lv_aload_n hx hb dL_law_841 rfl (lv_at hl 4 rfl) ?_
  refine m_call0 0 hx hb hts hown hml (kX3_thrown l M9) rfl gL_law_X3_thrown rfl rfl rfl (by decide +kernel) ⟨Nat.le_of_ble_eq_true rfl, Nat.le_of_ble_eq_true rfl⟩ hl.1 hM2 hK rfl (Nat.le_of_ble_eq_true rfl) dL_law_842 ⟨by show cells + 1 ≤ 601024; omega, by show slots + 6 ≤ 7293034; omega⟩ (fun rt ht9 => ?_)
  refine lv_iload hx hb dL_law_845 (lv_at hl 1 rfl) ?_
  refine lv_icmp_eq (tgt := 852) hx hb dL_law_847 (by decide) (fun _ => ?_) (fun h9 => absurd (ht9.trans g1) h9)
  refine lv_iload hx hb dL_law_852 (lv_at hl 1 rfl) ?_
  refine lv_if_ne (tgt := 869) hx hb dL_law_854 (by decide) (fun c9 => ?_) (fun c9 => ?_)
  · skip
    refine lv_goto (tgt := 1233) hx hb dL_law_869 (by decide) ?_
    exact hnext u.1 u.2.1 M9 u.2.2 H2 locs ls _ _ hLI2 hS (lv_sub hl [2, 3, 4, 5, 6] rfl) (by omega) (by omega)
  · skip
    refine lv_aload_n hx hb dL_law_857 rfl (lv_at hl 5 rfl) ?_
    refine lv_iconst (v := 0) hx hb dL_law_858 (by decide) ?_
    refine f_lald hx hb hK hLI2.2.2.1 (i := 0) rfl (by decide) (by decide) (v := u.2.2) rfl dL_law_859 ?_
    refine lv_iload hx hb dL_law_860 (lv_at hl 0 rfl) ?_
    refine lv_i2l hx hb dL_law_862 rfl ?_
    refine W.lcmp hx hb dL_law_863 ?_
    refine lv_if_eq (tgt := 869) hx hb dL_law_864 (by decide) (fun _ => ?_) (fun h9 => absurd (by rw [g2 c9]; exact cmp0 _) h9)
    refine lv_goto (tgt := 1233) hx hb dL_law_869 (by decide) ?_
    exact hnext u.1 u.2.1 M9 u.2.2 H2 locs ls _ _ hLI2 hS (lv_sub hl [2, 3, 4, 5, 6] rfl) (by omega) (by omega)
set_option maxHeartbeats 4000000 in
set_option maxRecDepth 100000 in
theorem law_charges {p : Program} {l : Launch} {e : Env} {s : State} {m : MethodId} {below : List Frame} {meth : Method} {c : Code} {D : va_G} {cI cO cL cJ : ClassId} {b L : Nat} {xs : Nat → Int32} (C0 : LC p l s m c D cI cO cL cJ b L xs) {d bk ou ao : Nat} {q : Nat → Nat} {K : Nat} {g : XG} {X M : MS} {w : Int64} {H : Heap} {locs : List Loc} {cells slots : Nat} {ls : Array Slot} (hLI : LI D cI cO cL cJ d bk ou ao q s K g X M w H) (hS : va_S (AH s.heap.size) s.heap H locs) (hl : lv_has ls 7 [(0, .ref b), (1, .ref d), (2, .ref ao), (3, .ref ou), (4, .int (nI (4 * K)))]) (hKL : 4 * K + 4 ≤ L) (hc : cells ≤ 18 + 4 * K) (hs : slots ≤ 1557 + 32 * K)
    (hnext : ∀ (g' : XG) (X' M' : MS) (w' : Int64) (H' : Heap) (locs' : List Loc) (ls' : Array Slot) (cells' slots' : Nat), LI D cI cO cL cJ d bk ou ao q s (K + 1) g' X' M' w' H' → va_S (AH s.heap.size) s.heap H' locs' → lv_has ls' 7 [(0, .ref b), (1, .ref d), (2, .ref ao), (3, .ref ou), (4, .int (nI (4 * K)))] → cells' ≤ 18 + 4 * (K + 1) → slots' ≤ 1557 + 32 * (K + 1) → W p l e room_1 s m #[Value.ref b] below meth c H' locs' cells' slots' (lw_Z below #[Value.ref b] s) (F0 m 1233 ls' [])) : W p l e room_1 s m #[Value.ref b] below meth c H locs cells slots (lw_Z below #[Value.ref b] s) (F0 m 872 ls []) := by
  obtain ⟨hx, hb, hml, hown, hts, hXb, hbl, hL, hK, hN, hlt⟩ := C0
  have hLI0 := hLI
  obtain ⟨hW, hM, hw, hE, hI, hO, hmI, hou, hmA, hzo, hd, hbk, n, kc, dd, hC, hZ, hR⟩ := hLI
  have hmAH : ∀ a, mA ao q a → AH s.heap.size a := fun a h => (hmA a h).1
  have hAA : ∀ a, wA g H.size ou a → AH s.heap.size a := fun a h => by
    rcases h with (⟨t, i, h⟩ | h) | h
    · exact hO.1 t i a h
    · exact Nat.le_trans hO.2 h
    · rw [h]; exact hzo
  refine lv_aload_n hx hb dL_law_872 rfl (lv_at hl 1 rfl) ?_
  refine lv_aload_n hx hb dL_law_873 rfl (lv_at hl 0 rfl) ?_
  refine lv_iload hx hb dL_law_874 (lv_at hl 4 rfl) ?_
  refine lv_iconst (v := 1) hx hb dL_law_876 (by decide) ?_
  refine lv_iadd hx hb dL_law_877 ?_
  refine f_sld hx hb hXb hbl hL hS (i := 4 * K + 1) (nI_addx (a := 4 * K) (b := 1) rfl rfl) (by omega) dL_law_878 ?_
  refine lv_aload_n hx hb dL_law_879 rfl (lv_at hl 3 rfl) ?_
  refine va_calli (vx_runSW (As := [.ref d, .int (xs (4 * K + 1)), .ref ou]) (rest := []) ⟨hx, hb, hml, hown, hts⟩ (kL_charges l hlt g X s.heap.size H.size hI hO ou hou hw.lt w d bk hd hbk n kc hC hZ (xs (4 * K + 1))) (vx_cwSW 3 hts gL_law_L_charges rfl rfl rfl (by decide +kernel) ⟨Nat.le_of_ble_eq_true rfl, Nat.le_of_ble_eq_true rfl⟩) (w_pre hW hK hE hw hN) rfl rfl hl.1 rfl (lv_room (Nat.le_of_ble_eq_true rfl)) dL_law_880 ⟨by show cells + 1 ≤ 601024; omega, by show slots + 6 ≤ 7293034; omega⟩) hS (fun a _ h => hAA a h) hAA (fun r u t H1 locs ht hvm hp hB hz1 hk1 hS => ?_)
  obtain ⟨hW1, hw1⟩ := hB
  rw [ht] at hW1 hw1
  obtain ⟨hM1, hE1, hI1, hO1, hou1, hmA1, hd1, hbk1⟩ := LI.one hLI0 (gw_charges hI (fun t i a h => hW.lt h) hp) hz1 hk1
  refine lv_istore (lv' := [(5, .int r), (0, .ref b), (1, .ref d), (2, .ref ao), (3, .ref ou), (4, .int (nI (4 * K)))]) hx hb dL_law_883 hl (by decide) rfl (fun ls hl => ?_)
  refine lv_aload_n hx hb dL_law_885 rfl (lv_at hl 3 rfl) ?_
  refine lv_aload_n hx hb dL_law_886 rfl (lv_at hl 1 rfl) ?_
  refine lv_iload hx hb dL_law_887 (lv_at hl 5 rfl) ?_
  refine lv_iconst (v := 1) hx hb dL_law_889 (by decide) ?_
  refine lv_iadd hx hb dL_law_890 ?_
  refine f_sld hx hb hXb hbl hL hS (i := 4 * K + 1) (nI_addx (a := 4 * K) (b := 1) rfl rfl) (by omega) dL_law_891 ?_
  obtain ⟨rm, post, c1, c2, c3, c4, hMet, hG⟩ := sim_charges (l := l) (D := D) (cI := cI) (cO := cO) (cL := cL) (cJ := cJ) hmI hC hZ hR (xs (4 * K + 1)) hp
  refine m_call 1 hx hb hts hown hml hMet rfl gL_law_X3_charges rfl c1 c2 (by decide +kernel) ⟨by show rm.frames + 1 ≤ 12; omega, by show 8 + (2 + 11) + rm.locals ≤ 442; omega⟩ hl.1 hM1 hK hS hmAH rfl (Nat.le_of_ble_eq_true rfl) dL_law_892 ⟨by show cells + 1 ≤ 601024; omega, by show slots + 6 ≤ 7293034; omega⟩ (fun bb M9 H2 locs hpost hM2 hz2 hk2 hS => ?_)
  obtain ⟨g1, g2, g3⟩ := hG bb M9 hpost
  have hLI2 : LI D cI cO cL cJ d bk ou ao q s (K + 1) u.1 u.2.1 M9 u.2.2 H2 := LI.two hW1 hw1 hE1 hI1 hO1 hmI hou1 hmA1 hzo hd1 hbk1 hM2 hz2 hk2 g3
  refine lv_istore (lv' := [(6, .int bb), (5, .int r), (0, .ref b), (1, .ref d), (2, .ref ao), (3, .ref ou), (4, .int (nI (4 * K)))]) hx hb dL_law_895 hl (by decide) rfl (fun ls hl => ?_)
  refine lv_aload_n hx hb dL_law_897 rfl (lv_at hl 4 rfl) ?_
  refine m_call0 0 hx hb hts hown hml (kX3_thrown l M9) rfl gL_law_X3_thrown rfl rfl rfl (by decide +kernel) ⟨Nat.le_of_ble_eq_true rfl, Nat.le_of_ble_eq_true rfl⟩ hl.1 hM2 hK rfl (Nat.le_of_ble_eq_true rfl) dL_law_898 ⟨by show cells + 1 ≤ 601024; omega, by show slots + 6 ≤ 7293034; omega⟩ (fun rt ht9 => ?_)
  refine lv_iload hx hb dL_law_901 (lv_at hl 1 rfl) ?_
  refine lv_icmp_eq (tgt := 908) hx hb dL_law_903 (by decide) (fun _ => ?_) (fun h9 => absurd (ht9.trans g1) h9)
  refine lv_iload hx hb dL_law_908 (lv_at hl 1 rfl) ?_
  refine lv_if_ne (tgt := 925) hx hb dL_law_910 (by decide) (fun c9 => ?_) (fun c9 => ?_)
  · skip
    refine lv_goto (tgt := 1233) hx hb dL_law_925 (by decide) ?_
    exact hnext u.1 u.2.1 M9 u.2.2 H2 locs ls _ _ hLI2 hS (lv_sub hl [2, 3, 4, 5, 6] rfl) (by omega) (by omega)
  · skip
    refine lv_aload_n hx hb dL_law_913 rfl (lv_at hl 5 rfl) ?_
    refine lv_iconst (v := 0) hx hb dL_law_914 (by decide) ?_
    refine f_lald hx hb hK hLI2.2.2.1 (i := 0) rfl (by decide) (by decide) (v := u.2.2) rfl dL_law_915 ?_
    refine lv_iload hx hb dL_law_916 (lv_at hl 0 rfl) ?_
    refine lv_i2l hx hb dL_law_918 rfl ?_
    refine W.lcmp hx hb dL_law_919 ?_
    refine lv_if_eq (tgt := 925) hx hb dL_law_920 (by decide) (fun _ => ?_) (fun h9 => absurd (by rw [g2 c9]; exact cmp0 _) h9)
    refine lv_goto (tgt := 1233) hx hb dL_law_925 (by decide) ?_
    exact hnext u.1 u.2.1 M9 u.2.2 H2 locs ls _ _ hLI2 hS (lv_sub hl [2, 3, 4, 5, 6] rfl) (by omega) (by omega)
set_option maxHeartbeats 4000000 in
set_option maxRecDepth 100000 in
theorem law_taken {p : Program} {l : Launch} {e : Env} {s : State} {m : MethodId} {below : List Frame} {meth : Method} {c : Code} {D : va_G} {cI cO cL cJ : ClassId} {b L : Nat} {xs : Nat → Int32} (C0 : LC p l s m c D cI cO cL cJ b L xs) {d bk ou ao : Nat} {q : Nat → Nat} {K : Nat} {g : XG} {X M : MS} {w : Int64} {H : Heap} {locs : List Loc} {cells slots : Nat} {ls : Array Slot} (hLI : LI D cI cO cL cJ d bk ou ao q s K g X M w H) (hS : va_S (AH s.heap.size) s.heap H locs) (hl : lv_has ls 7 [(0, .ref b), (1, .ref d), (2, .ref ao), (3, .ref ou), (4, .int (nI (4 * K)))]) (hKL : 4 * K + 4 ≤ L) (hc : cells ≤ 18 + 4 * K) (hs : slots ≤ 1557 + 32 * K)
    (hnext : ∀ (g' : XG) (X' M' : MS) (w' : Int64) (H' : Heap) (locs' : List Loc) (ls' : Array Slot) (cells' slots' : Nat), LI D cI cO cL cJ d bk ou ao q s (K + 1) g' X' M' w' H' → va_S (AH s.heap.size) s.heap H' locs' → lv_has ls' 7 [(0, .ref b), (1, .ref d), (2, .ref ao), (3, .ref ou), (4, .int (nI (4 * K)))] → cells' ≤ 18 + 4 * (K + 1) → slots' ≤ 1557 + 32 * (K + 1) → W p l e room_1 s m #[Value.ref b] below meth c H' locs' cells' slots' (lw_Z below #[Value.ref b] s) (F0 m 1233 ls' [])) : W p l e room_1 s m #[Value.ref b] below meth c H locs cells slots (lw_Z below #[Value.ref b] s) (F0 m 928 ls []) := by
  obtain ⟨hx, hb, hml, hown, hts, hXb, hbl, hL, hK, hN, hlt⟩ := C0
  have hLI0 := hLI
  obtain ⟨hW, hM, hw, hE, hI, hO, hmI, hou, hmA, hzo, hd, hbk, n, kc, dd, hC, hZ, hR⟩ := hLI
  have hmAH : ∀ a, mA ao q a → AH s.heap.size a := fun a h => (hmA a h).1
  have hAA : ∀ a, wA g H.size ou a → AH s.heap.size a := fun a h => by
    rcases h with (⟨t, i, h⟩ | h) | h
    · exact hO.1 t i a h
    · exact Nat.le_trans hO.2 h
    · rw [h]; exact hzo
  refine lv_aload_n hx hb dL_law_928 rfl (lv_at hl 1 rfl) ?_
  refine lv_aload_n hx hb dL_law_929 rfl (lv_at hl 0 rfl) ?_
  refine lv_iload hx hb dL_law_930 (lv_at hl 4 rfl) ?_
  refine lv_iconst (v := 1) hx hb dL_law_932 (by decide) ?_
  refine lv_iadd hx hb dL_law_933 ?_
  refine f_sld hx hb hXb hbl hL hS (i := 4 * K + 1) (nI_addx (a := 4 * K) (b := 1) rfl rfl) (by omega) dL_law_934 ?_
  refine lv_aload_n hx hb dL_law_935 rfl (lv_at hl 0 rfl) ?_
  refine lv_iload hx hb dL_law_936 (lv_at hl 4 rfl) ?_
  refine lv_iconst (v := 2) hx hb dL_law_938 (by decide) ?_
  refine lv_iadd hx hb dL_law_939 ?_
  refine f_sld hx hb hXb hbl hL hS (i := 4 * K + 2) (nI_addx (a := 4 * K) (b := 2) rfl rfl) (by omega) dL_law_940 ?_
  refine lv_aload_n hx hb dL_law_941 rfl (lv_at hl 3 rfl) ?_
  refine va_calli (vx_runSW (As := [.ref d, .int (xs (4 * K + 1)), .int (xs (4 * K + 2)), .ref ou]) (rest := []) ⟨hx, hb, hml, hown, hts⟩ (kL_taken l hlt g X s.heap.size H.size hI hO ou hou hw.lt w d bk hd hbk n kc hC hZ (xs (4 * K + 1)) (xs (4 * K + 2))) (vx_cwSW 4 hts gL_law_L_taken rfl rfl rfl (by decide +kernel) ⟨Nat.le_of_ble_eq_true rfl, Nat.le_of_ble_eq_true rfl⟩) (w_pre hW hK hE hw hN) rfl rfl hl.1 rfl (lv_room (Nat.le_of_ble_eq_true rfl)) dL_law_942 ⟨by show cells + 2 ≤ 601024; omega, by show slots + 12 ≤ 7293034; omega⟩) hS (fun a _ h => hAA a h) hAA (fun r u t H1 locs ht hvm hp hB hz1 hk1 hS => ?_)
  obtain ⟨hW1, hw1⟩ := hB
  rw [ht] at hW1 hw1
  obtain ⟨hM1, hE1, hI1, hO1, hou1, hmA1, hd1, hbk1⟩ := LI.one hLI0 (gw_taken hI (fun t i a h => hW.lt h) hp) hz1 hk1
  refine lv_istore (lv' := [(5, .int r), (0, .ref b), (1, .ref d), (2, .ref ao), (3, .ref ou), (4, .int (nI (4 * K)))]) hx hb dL_law_945 hl (by decide) rfl (fun ls hl => ?_)
  refine lv_aload_n hx hb dL_law_947 rfl (lv_at hl 3 rfl) ?_
  refine lv_aload_n hx hb dL_law_948 rfl (lv_at hl 1 rfl) ?_
  refine lv_iload hx hb dL_law_949 (lv_at hl 5 rfl) ?_
  refine lv_iconst (v := 1) hx hb dL_law_951 (by decide) ?_
  refine lv_iadd hx hb dL_law_952 ?_
  refine f_sld hx hb hXb hbl hL hS (i := 4 * K + 1) (nI_addx (a := 4 * K) (b := 1) rfl rfl) (by omega) dL_law_953 ?_
  refine lv_aload_n hx hb dL_law_954 rfl (lv_at hl 1 rfl) ?_
  refine lv_iload hx hb dL_law_955 (lv_at hl 5 rfl) ?_
  refine lv_iconst (v := 2) hx hb dL_law_957 (by decide) ?_
  refine lv_iadd hx hb dL_law_958 ?_
  refine f_sld hx hb hXb hbl hL hS (i := 4 * K + 2) (nI_addx (a := 4 * K) (b := 2) rfl rfl) (by omega) dL_law_959 ?_
  obtain ⟨rm, post, c1, c2, c3, c4, hMet, hG⟩ := sim_taken (l := l) (D := D) (cI := cI) (cO := cO) (cL := cL) (cJ := cJ) hmI hC hZ hR (xs (4 * K + 1)) (xs (4 * K + 2)) hp
  refine m_call 2 hx hb hts hown hml hMet rfl gL_law_X3_taken rfl c1 c2 (by decide +kernel) ⟨by show rm.frames + 1 ≤ 12; omega, by show 8 + (3 + 11) + rm.locals ≤ 442; omega⟩ hl.1 hM1 hK hS hmAH rfl (Nat.le_of_ble_eq_true rfl) dL_law_960 ⟨by show cells + 2 ≤ 601024; omega, by show slots + 12 ≤ 7293034; omega⟩ (fun bb M9 H2 locs hpost hM2 hz2 hk2 hS => ?_)
  obtain ⟨g1, g2, g3⟩ := hG bb M9 hpost
  have hLI2 : LI D cI cO cL cJ d bk ou ao q s (K + 1) u.1 u.2.1 M9 u.2.2 H2 := LI.two hW1 hw1 hE1 hI1 hO1 hmI hou1 hmA1 hzo hd1 hbk1 hM2 hz2 hk2 g3
  refine lv_istore (lv' := [(6, .int bb), (5, .int r), (0, .ref b), (1, .ref d), (2, .ref ao), (3, .ref ou), (4, .int (nI (4 * K)))]) hx hb dL_law_963 hl (by decide) rfl (fun ls hl => ?_)
  refine lv_aload_n hx hb dL_law_965 rfl (lv_at hl 4 rfl) ?_
  refine m_call0 0 hx hb hts hown hml (kX3_thrown l M9) rfl gL_law_X3_thrown rfl rfl rfl (by decide +kernel) ⟨Nat.le_of_ble_eq_true rfl, Nat.le_of_ble_eq_true rfl⟩ hl.1 hM2 hK rfl (Nat.le_of_ble_eq_true rfl) dL_law_966 ⟨by show cells + 2 ≤ 601024; omega, by show slots + 12 ≤ 7293034; omega⟩ (fun rt ht9 => ?_)
  refine lv_iload hx hb dL_law_969 (lv_at hl 1 rfl) ?_
  refine lv_icmp_eq (tgt := 976) hx hb dL_law_971 (by decide) (fun _ => ?_) (fun h9 => absurd (ht9.trans g1) h9)
  refine lv_iload hx hb dL_law_976 (lv_at hl 1 rfl) ?_
  refine lv_if_ne (tgt := 993) hx hb dL_law_978 (by decide) (fun c9 => ?_) (fun c9 => ?_)
  · skip
    refine lv_goto (tgt := 1233) hx hb dL_law_993 (by decide) ?_
    exact hnext u.1 u.2.1 M9 u.2.2 H2 locs ls _ _ hLI2 hS (lv_sub hl [2, 3, 4, 5, 6] rfl) (by omega) (by omega)
  · skip
    refine lv_aload_n hx hb dL_law_981 rfl (lv_at hl 5 rfl) ?_
    refine lv_iconst (v := 0) hx hb dL_law_982 (by decide) ?_
    refine f_lald hx hb hK hLI2.2.2.1 (i := 0) rfl (by decide) (by decide) (v := u.2.2) rfl dL_law_983 ?_
    refine lv_iload hx hb dL_law_984 (lv_at hl 0 rfl) ?_
    refine lv_i2l hx hb dL_law_986 rfl ?_
    refine W.lcmp hx hb dL_law_987 ?_
    refine lv_if_eq (tgt := 993) hx hb dL_law_988 (by decide) (fun _ => ?_) (fun h9 => absurd (by rw [g2 c9]; exact cmp0 _) h9)
    refine lv_goto (tgt := 1233) hx hb dL_law_993 (by decide) ?_
    exact hnext u.1 u.2.1 M9 u.2.2 H2 locs ls _ _ hLI2 hS (lv_sub hl [2, 3, 4, 5, 6] rfl) (by omega) (by omega)
set_option maxHeartbeats 4000000 in
set_option maxRecDepth 100000 in
theorem law_refunded {p : Program} {l : Launch} {e : Env} {s : State} {m : MethodId} {below : List Frame} {meth : Method} {c : Code} {D : va_G} {cI cO cL cJ : ClassId} {b L : Nat} {xs : Nat → Int32} (C0 : LC p l s m c D cI cO cL cJ b L xs) {d bk ou ao : Nat} {q : Nat → Nat} {K : Nat} {g : XG} {X M : MS} {w : Int64} {H : Heap} {locs : List Loc} {cells slots : Nat} {ls : Array Slot} (hLI : LI D cI cO cL cJ d bk ou ao q s K g X M w H) (hS : va_S (AH s.heap.size) s.heap H locs) (hl : lv_has ls 7 [(0, .ref b), (1, .ref d), (2, .ref ao), (3, .ref ou), (4, .int (nI (4 * K)))]) (hKL : 4 * K + 4 ≤ L) (hc : cells ≤ 18 + 4 * K) (hs : slots ≤ 1557 + 32 * K)
    (hnext : ∀ (g' : XG) (X' M' : MS) (w' : Int64) (H' : Heap) (locs' : List Loc) (ls' : Array Slot) (cells' slots' : Nat), LI D cI cO cL cJ d bk ou ao q s (K + 1) g' X' M' w' H' → va_S (AH s.heap.size) s.heap H' locs' → lv_has ls' 7 [(0, .ref b), (1, .ref d), (2, .ref ao), (3, .ref ou), (4, .int (nI (4 * K)))] → cells' ≤ 18 + 4 * (K + 1) → slots' ≤ 1557 + 32 * (K + 1) → W p l e room_1 s m #[Value.ref b] below meth c H' locs' cells' slots' (lw_Z below #[Value.ref b] s) (F0 m 1233 ls' [])) : W p l e room_1 s m #[Value.ref b] below meth c H locs cells slots (lw_Z below #[Value.ref b] s) (F0 m 996 ls []) := by
  obtain ⟨hx, hb, hml, hown, hts, hXb, hbl, hL, hK, hN, hlt⟩ := C0
  have hLI0 := hLI
  obtain ⟨hW, hM, hw, hE, hI, hO, hmI, hou, hmA, hzo, hd, hbk, n, kc, dd, hC, hZ, hR⟩ := hLI
  have hmAH : ∀ a, mA ao q a → AH s.heap.size a := fun a h => (hmA a h).1
  have hAA : ∀ a, wA g H.size ou a → AH s.heap.size a := fun a h => by
    rcases h with (⟨t, i, h⟩ | h) | h
    · exact hO.1 t i a h
    · exact Nat.le_trans hO.2 h
    · rw [h]; exact hzo
  refine lv_aload_n hx hb dL_law_996 rfl (lv_at hl 1 rfl) ?_
  refine lv_aload_n hx hb dL_law_997 rfl (lv_at hl 0 rfl) ?_
  refine lv_iload hx hb dL_law_998 (lv_at hl 4 rfl) ?_
  refine lv_iconst (v := 1) hx hb dL_law_1000 (by decide) ?_
  refine lv_iadd hx hb dL_law_1001 ?_
  refine f_sld hx hb hXb hbl hL hS (i := 4 * K + 1) (nI_addx (a := 4 * K) (b := 1) rfl rfl) (by omega) dL_law_1002 ?_
  refine lv_aload_n hx hb dL_law_1003 rfl (lv_at hl 3 rfl) ?_
  refine va_calli (vx_runSW (As := [.ref d, .int (xs (4 * K + 1)), .ref ou]) (rest := []) ⟨hx, hb, hml, hown, hts⟩ (kL_refunded l hlt g X s.heap.size H.size hI hO ou hou hw.lt w d bk hd hbk n kc hC hZ (xs (4 * K + 1))) (vx_cwSW 3 hts gL_law_L_refunded rfl rfl rfl (by decide +kernel) ⟨Nat.le_of_ble_eq_true rfl, Nat.le_of_ble_eq_true rfl⟩) (w_pre hW hK hE hw hN) rfl rfl hl.1 rfl (lv_room (Nat.le_of_ble_eq_true rfl)) dL_law_1004 ⟨by show cells + 1 ≤ 601024; omega, by show slots + 6 ≤ 7293034; omega⟩) hS (fun a _ h => hAA a h) hAA (fun r u t H1 locs ht hvm hp hB hz1 hk1 hS => ?_)
  obtain ⟨hW1, hw1⟩ := hB
  rw [ht] at hW1 hw1
  obtain ⟨hM1, hE1, hI1, hO1, hou1, hmA1, hd1, hbk1⟩ := LI.one hLI0 (gw_refunded hI (fun t i a h => hW.lt h) hp) hz1 hk1
  refine lv_istore (lv' := [(5, .int r), (0, .ref b), (1, .ref d), (2, .ref ao), (3, .ref ou), (4, .int (nI (4 * K)))]) hx hb dL_law_1007 hl (by decide) rfl (fun ls hl => ?_)
  refine lv_aload_n hx hb dL_law_1009 rfl (lv_at hl 3 rfl) ?_
  refine lv_aload_n hx hb dL_law_1010 rfl (lv_at hl 1 rfl) ?_
  refine lv_iload hx hb dL_law_1011 (lv_at hl 5 rfl) ?_
  refine lv_iconst (v := 1) hx hb dL_law_1013 (by decide) ?_
  refine lv_iadd hx hb dL_law_1014 ?_
  refine f_sld hx hb hXb hbl hL hS (i := 4 * K + 1) (nI_addx (a := 4 * K) (b := 1) rfl rfl) (by omega) dL_law_1015 ?_
  obtain ⟨rm, post, c1, c2, c3, c4, hMet, hG⟩ := sim_refunded (l := l) (D := D) (cI := cI) (cO := cO) (cL := cL) (cJ := cJ) hmI hC hZ hR (xs (4 * K + 1)) hp
  refine m_call 1 hx hb hts hown hml hMet rfl gL_law_X3_refunded rfl c1 c2 (by decide +kernel) ⟨by show rm.frames + 1 ≤ 12; omega, by show 8 + (2 + 11) + rm.locals ≤ 442; omega⟩ hl.1 hM1 hK hS hmAH rfl (Nat.le_of_ble_eq_true rfl) dL_law_1016 ⟨by show cells + 1 ≤ 601024; omega, by show slots + 6 ≤ 7293034; omega⟩ (fun bb M9 H2 locs hpost hM2 hz2 hk2 hS => ?_)
  obtain ⟨g1, g2, g3⟩ := hG bb M9 hpost
  have hLI2 : LI D cI cO cL cJ d bk ou ao q s (K + 1) u.1 u.2.1 M9 u.2.2 H2 := LI.two hW1 hw1 hE1 hI1 hO1 hmI hou1 hmA1 hzo hd1 hbk1 hM2 hz2 hk2 g3
  refine lv_istore (lv' := [(6, .int bb), (5, .int r), (0, .ref b), (1, .ref d), (2, .ref ao), (3, .ref ou), (4, .int (nI (4 * K)))]) hx hb dL_law_1019 hl (by decide) rfl (fun ls hl => ?_)
  refine lv_aload_n hx hb dL_law_1021 rfl (lv_at hl 4 rfl) ?_
  refine m_call0 0 hx hb hts hown hml (kX3_thrown l M9) rfl gL_law_X3_thrown rfl rfl rfl (by decide +kernel) ⟨Nat.le_of_ble_eq_true rfl, Nat.le_of_ble_eq_true rfl⟩ hl.1 hM2 hK rfl (Nat.le_of_ble_eq_true rfl) dL_law_1022 ⟨by show cells + 1 ≤ 601024; omega, by show slots + 6 ≤ 7293034; omega⟩ (fun rt ht9 => ?_)
  refine lv_iload hx hb dL_law_1025 (lv_at hl 1 rfl) ?_
  refine lv_icmp_eq (tgt := 1032) hx hb dL_law_1027 (by decide) (fun _ => ?_) (fun h9 => absurd (ht9.trans g1) h9)
  refine lv_iload hx hb dL_law_1032 (lv_at hl 1 rfl) ?_
  refine lv_if_ne (tgt := 1049) hx hb dL_law_1034 (by decide) (fun c9 => ?_) (fun c9 => ?_)
  · skip
    refine lv_goto (tgt := 1233) hx hb dL_law_1049 (by decide) ?_
    exact hnext u.1 u.2.1 M9 u.2.2 H2 locs ls _ _ hLI2 hS (lv_sub hl [2, 3, 4, 5, 6] rfl) (by omega) (by omega)
  · skip
    refine lv_aload_n hx hb dL_law_1037 rfl (lv_at hl 5 rfl) ?_
    refine lv_iconst (v := 0) hx hb dL_law_1038 (by decide) ?_
    refine f_lald hx hb hK hLI2.2.2.1 (i := 0) rfl (by decide) (by decide) (v := u.2.2) rfl dL_law_1039 ?_
    refine lv_iload hx hb dL_law_1040 (lv_at hl 0 rfl) ?_
    refine lv_i2l hx hb dL_law_1042 rfl ?_
    refine W.lcmp hx hb dL_law_1043 ?_
    refine lv_if_eq (tgt := 1049) hx hb dL_law_1044 (by decide) (fun _ => ?_) (fun h9 => absurd (by rw [g2 c9]; exact cmp0 _) h9)
    refine lv_goto (tgt := 1233) hx hb dL_law_1049 (by decide) ?_
    exact hnext u.1 u.2.1 M9 u.2.2 H2 locs ls _ _ hLI2 hS (lv_sub hl [2, 3, 4, 5, 6] rfl) (by omega) (by omega)
set_option maxHeartbeats 4000000 in
set_option maxRecDepth 100000 in
theorem law_isShortBy {p : Program} {l : Launch} {e : Env} {s : State} {m : MethodId} {below : List Frame} {meth : Method} {c : Code} {D : va_G} {cI cO cL cJ : ClassId} {b L : Nat} {xs : Nat → Int32} (C0 : LC p l s m c D cI cO cL cJ b L xs) {d bk ou ao : Nat} {q : Nat → Nat} {K : Nat} {g : XG} {X M : MS} {w : Int64} {H : Heap} {locs : List Loc} {cells slots : Nat} {ls : Array Slot} (hLI : LI D cI cO cL cJ d bk ou ao q s K g X M w H) (hS : va_S (AH s.heap.size) s.heap H locs) (hl : lv_has ls 7 [(0, .ref b), (1, .ref d), (2, .ref ao), (3, .ref ou), (4, .int (nI (4 * K)))]) (hKL : 4 * K + 4 ≤ L) (hc : cells ≤ 18 + 4 * K) (hs : slots ≤ 1557 + 32 * K)
    (hnext : ∀ (g' : XG) (X' M' : MS) (w' : Int64) (H' : Heap) (locs' : List Loc) (ls' : Array Slot) (cells' slots' : Nat), LI D cI cO cL cJ d bk ou ao q s (K + 1) g' X' M' w' H' → va_S (AH s.heap.size) s.heap H' locs' → lv_has ls' 7 [(0, .ref b), (1, .ref d), (2, .ref ao), (3, .ref ou), (4, .int (nI (4 * K)))] → cells' ≤ 18 + 4 * (K + 1) → slots' ≤ 1557 + 32 * (K + 1) → W p l e room_1 s m #[Value.ref b] below meth c H' locs' cells' slots' (lw_Z below #[Value.ref b] s) (F0 m 1233 ls' [])) : W p l e room_1 s m #[Value.ref b] below meth c H locs cells slots (lw_Z below #[Value.ref b] s) (F0 m 1052 ls []) := by
  obtain ⟨hx, hb, hml, hown, hts, hXb, hbl, hL, hK, hN, hlt⟩ := C0
  have hLI0 := hLI
  obtain ⟨hW, hM, hw, hE, hI, hO, hmI, hou, hmA, hzo, hd, hbk, n, kc, dd, hC, hZ, hR⟩ := hLI
  have hmAH : ∀ a, mA ao q a → AH s.heap.size a := fun a h => (hmA a h).1
  have hAA : ∀ a, wA g H.size ou a → AH s.heap.size a := fun a h => by
    rcases h with (⟨t, i, h⟩ | h) | h
    · exact hO.1 t i a h
    · exact Nat.le_trans hO.2 h
    · rw [h]; exact hzo
  refine lv_aload_n hx hb dL_law_1052 rfl (lv_at hl 1 rfl) ?_
  refine lv_aload_n hx hb dL_law_1053 rfl (lv_at hl 0 rfl) ?_
  refine lv_iload hx hb dL_law_1054 (lv_at hl 4 rfl) ?_
  refine lv_iconst (v := 1) hx hb dL_law_1056 (by decide) ?_
  refine lv_iadd hx hb dL_law_1057 ?_
  refine f_sld hx hb hXb hbl hL hS (i := 4 * K + 1) (nI_addx (a := 4 * K) (b := 1) rfl rfl) (by omega) dL_law_1058 ?_
  refine lv_aload_n hx hb dL_law_1059 rfl (lv_at hl 3 rfl) ?_
  refine va_calli (vx_runSW (As := [.ref d, .int (xs (4 * K + 1)), .ref ou]) (rest := []) ⟨hx, hb, hml, hown, hts⟩ (kL_isShortBy l hlt g X s.heap.size H.size hI hO ou hou hw.lt w d bk hd hbk n kc hC hZ (xs (4 * K + 1))) (vx_cwSW 3 hts gL_law_L_isShortBy rfl rfl rfl (by decide +kernel) ⟨Nat.le_of_ble_eq_true rfl, Nat.le_of_ble_eq_true rfl⟩) (w_pre hW hK hE hw hN) rfl rfl hl.1 rfl (lv_room (Nat.le_of_ble_eq_true rfl)) dL_law_1060 ⟨by show cells + 1 ≤ 601024; omega, by show slots + 6 ≤ 7293034; omega⟩) hS (fun a _ h => hAA a h) hAA (fun r u t H1 locs ht hvm hp hB hz1 hk1 hS => ?_)
  obtain ⟨hW1, hw1⟩ := hB
  rw [ht] at hW1 hw1
  obtain ⟨hM1, hE1, hI1, hO1, hou1, hmA1, hd1, hbk1⟩ := LI.one hLI0 (gw_isShortBy hI (fun t i a h => hW.lt h) hp) hz1 hk1
  refine lv_istore (lv' := [(5, .int r), (0, .ref b), (1, .ref d), (2, .ref ao), (3, .ref ou), (4, .int (nI (4 * K)))]) hx hb dL_law_1063 hl (by decide) rfl (fun ls hl => ?_)
  refine lv_aload_n hx hb dL_law_1065 rfl (lv_at hl 3 rfl) ?_
  refine lv_aload_n hx hb dL_law_1066 rfl (lv_at hl 1 rfl) ?_
  refine lv_iload hx hb dL_law_1067 (lv_at hl 5 rfl) ?_
  refine lv_iconst (v := 1) hx hb dL_law_1069 (by decide) ?_
  refine lv_iadd hx hb dL_law_1070 ?_
  refine f_sld hx hb hXb hbl hL hS (i := 4 * K + 1) (nI_addx (a := 4 * K) (b := 1) rfl rfl) (by omega) dL_law_1071 ?_
  obtain ⟨rm, post, c1, c2, c3, c4, hMet, hG⟩ := sim_isShortBy (l := l) (D := D) (cI := cI) (cO := cO) (cL := cL) (cJ := cJ) hmI hC hZ hR (xs (4 * K + 1)) hp
  refine m_call 1 hx hb hts hown hml hMet rfl gL_law_X3_isShortBy rfl c1 c2 (by decide +kernel) ⟨by show rm.frames + 1 ≤ 12; omega, by show 8 + (3 + 11) + rm.locals ≤ 442; omega⟩ hl.1 hM1 hK hS hmAH rfl (Nat.le_of_ble_eq_true rfl) dL_law_1072 ⟨by show cells + 1 ≤ 601024; omega, by show slots + 6 ≤ 7293034; omega⟩ (fun bb M9 H2 locs hpost hM2 hz2 hk2 hS => ?_)
  obtain ⟨g1, g2, g3⟩ := hG bb M9 hpost
  have hLI2 : LI D cI cO cL cJ d bk ou ao q s (K + 1) u.1 u.2.1 M9 u.2.2 H2 := LI.two hW1 hw1 hE1 hI1 hO1 hmI hou1 hmA1 hzo hd1 hbk1 hM2 hz2 hk2 g3
  refine lv_istore (lv' := [(6, .int bb), (5, .int r), (0, .ref b), (1, .ref d), (2, .ref ao), (3, .ref ou), (4, .int (nI (4 * K)))]) hx hb dL_law_1075 hl (by decide) rfl (fun ls hl => ?_)
  refine lv_aload_n hx hb dL_law_1077 rfl (lv_at hl 4 rfl) ?_
  refine m_call0 0 hx hb hts hown hml (kX3_thrown l M9) rfl gL_law_X3_thrown rfl rfl rfl (by decide +kernel) ⟨Nat.le_of_ble_eq_true rfl, Nat.le_of_ble_eq_true rfl⟩ hl.1 hM2 hK rfl (Nat.le_of_ble_eq_true rfl) dL_law_1078 ⟨by show cells + 1 ≤ 601024; omega, by show slots + 6 ≤ 7293034; omega⟩ (fun rt ht9 => ?_)
  refine lv_iload hx hb dL_law_1081 (lv_at hl 1 rfl) ?_
  refine lv_icmp_eq (tgt := 1088) hx hb dL_law_1083 (by decide) (fun _ => ?_) (fun h9 => absurd (ht9.trans g1) h9)
  refine lv_iload hx hb dL_law_1088 (lv_at hl 1 rfl) ?_
  refine lv_if_ne (tgt := 1105) hx hb dL_law_1090 (by decide) (fun c9 => ?_) (fun c9 => ?_)
  · skip
    refine lv_goto (tgt := 1233) hx hb dL_law_1105 (by decide) ?_
    exact hnext u.1 u.2.1 M9 u.2.2 H2 locs ls _ _ hLI2 hS (lv_sub hl [2, 3, 4, 5, 6] rfl) (by omega) (by omega)
  · skip
    refine lv_aload_n hx hb dL_law_1093 rfl (lv_at hl 5 rfl) ?_
    refine lv_iconst (v := 0) hx hb dL_law_1094 (by decide) ?_
    refine f_lald hx hb hK hLI2.2.2.1 (i := 0) rfl (by decide) (by decide) (v := u.2.2) rfl dL_law_1095 ?_
    refine lv_iload hx hb dL_law_1096 (lv_at hl 0 rfl) ?_
    refine lv_i2l hx hb dL_law_1098 rfl ?_
    refine W.lcmp hx hb dL_law_1099 ?_
    refine lv_if_eq (tgt := 1105) hx hb dL_law_1100 (by decide) (fun _ => ?_) (fun h9 => absurd (by rw [g2 c9]; exact cmp0 _) h9)
    refine lv_goto (tgt := 1233) hx hb dL_law_1105 (by decide) ?_
    exact hnext u.1 u.2.1 M9 u.2.2 H2 locs ls _ _ hLI2 hS (lv_sub hl [2, 3, 4, 5, 6] rfl) (by omega) (by omega)
set_option maxHeartbeats 4000000 in
set_option maxRecDepth 100000 in
theorem law_stock {p : Program} {l : Launch} {e : Env} {s : State} {m : MethodId} {below : List Frame} {meth : Method} {c : Code} {D : va_G} {cI cO cL cJ : ClassId} {b L : Nat} {xs : Nat → Int32} (C0 : LC p l s m c D cI cO cL cJ b L xs) {d bk ou ao : Nat} {q : Nat → Nat} {K : Nat} {g : XG} {X M : MS} {w : Int64} {H : Heap} {locs : List Loc} {cells slots : Nat} {ls : Array Slot} (hLI : LI D cI cO cL cJ d bk ou ao q s K g X M w H) (hS : va_S (AH s.heap.size) s.heap H locs) (hl : lv_has ls 7 [(0, .ref b), (1, .ref d), (2, .ref ao), (3, .ref ou), (4, .int (nI (4 * K)))]) (hKL : 4 * K + 4 ≤ L) (hc : cells ≤ 18 + 4 * K) (hs : slots ≤ 1557 + 32 * K)
    (hnext : ∀ (g' : XG) (X' M' : MS) (w' : Int64) (H' : Heap) (locs' : List Loc) (ls' : Array Slot) (cells' slots' : Nat), LI D cI cO cL cJ d bk ou ao q s (K + 1) g' X' M' w' H' → va_S (AH s.heap.size) s.heap H' locs' → lv_has ls' 7 [(0, .ref b), (1, .ref d), (2, .ref ao), (3, .ref ou), (4, .int (nI (4 * K)))] → cells' ≤ 18 + 4 * (K + 1) → slots' ≤ 1557 + 32 * (K + 1) → W p l e room_1 s m #[Value.ref b] below meth c H' locs' cells' slots' (lw_Z below #[Value.ref b] s) (F0 m 1233 ls' [])) : W p l e room_1 s m #[Value.ref b] below meth c H locs cells slots (lw_Z below #[Value.ref b] s) (F0 m 1108 ls []) := by
  obtain ⟨hx, hb, hml, hown, hts, hXb, hbl, hL, hK, hN, hlt⟩ := C0
  have hLI0 := hLI
  obtain ⟨hW, hM, hw, hE, hI, hO, hmI, hou, hmA, hzo, hd, hbk, n, kc, dd, hC, hZ, hR⟩ := hLI
  have hmAH : ∀ a, mA ao q a → AH s.heap.size a := fun a h => (hmA a h).1
  have hAA : ∀ a, wA g H.size ou a → AH s.heap.size a := fun a h => by
    rcases h with (⟨t, i, h⟩ | h) | h
    · exact hO.1 t i a h
    · exact Nat.le_trans hO.2 h
    · rw [h]; exact hzo
  refine lv_aload_n hx hb dL_law_1108 rfl (lv_at hl 1 rfl) ?_
  refine lv_aload_n hx hb dL_law_1109 rfl (lv_at hl 0 rfl) ?_
  refine lv_iload hx hb dL_law_1110 (lv_at hl 4 rfl) ?_
  refine lv_iconst (v := 1) hx hb dL_law_1112 (by decide) ?_
  refine lv_iadd hx hb dL_law_1113 ?_
  refine f_sld hx hb hXb hbl hL hS (i := 4 * K + 1) (nI_addx (a := 4 * K) (b := 1) rfl rfl) (by omega) dL_law_1114 ?_
  refine lv_aload_n hx hb dL_law_1115 rfl (lv_at hl 3 rfl) ?_
  refine va_calli (vx_runSW (As := [.ref d, .int (xs (4 * K + 1)), .ref ou]) (rest := []) ⟨hx, hb, hml, hown, hts⟩ (kL_stock l hlt g X s.heap.size H.size hI hO ou hou hw.lt w d bk hd hbk n kc hC hZ (xs (4 * K + 1))) (vx_cwSW 3 hts gL_law_L_stock rfl rfl rfl (by decide +kernel) ⟨Nat.le_of_ble_eq_true rfl, Nat.le_of_ble_eq_true rfl⟩) (w_pre hW hK hE hw hN) rfl rfl hl.1 rfl (lv_room (Nat.le_of_ble_eq_true rfl)) dL_law_1116 ⟨by show cells + 1 ≤ 601024; omega, by show slots + 6 ≤ 7293034; omega⟩) hS (fun a _ h => hAA a h) hAA (fun r u t H1 locs ht hvm hp hB hz1 hk1 hS => ?_)
  obtain ⟨hW1, hw1⟩ := hB
  rw [ht] at hW1 hw1
  obtain ⟨hM1, hE1, hI1, hO1, hou1, hmA1, hd1, hbk1⟩ := LI.one hLI0 (gw_stock hI (fun t i a h => hW.lt h) hp) hz1 hk1
  refine lv_istore (lv' := [(5, .int r), (0, .ref b), (1, .ref d), (2, .ref ao), (3, .ref ou), (4, .int (nI (4 * K)))]) hx hb dL_law_1119 hl (by decide) rfl (fun ls hl => ?_)
  refine lv_aload_n hx hb dL_law_1121 rfl (lv_at hl 3 rfl) ?_
  refine lv_aload_n hx hb dL_law_1122 rfl (lv_at hl 1 rfl) ?_
  refine lv_iload hx hb dL_law_1123 (lv_at hl 5 rfl) ?_
  refine lv_iconst (v := 1) hx hb dL_law_1125 (by decide) ?_
  refine lv_iadd hx hb dL_law_1126 ?_
  refine f_sld hx hb hXb hbl hL hS (i := 4 * K + 1) (nI_addx (a := 4 * K) (b := 1) rfl rfl) (by omega) dL_law_1127 ?_
  obtain ⟨rm, post, c1, c2, c3, c4, hMet, hG⟩ := sim_stock (l := l) (D := D) (cI := cI) (cO := cO) (cL := cL) (cJ := cJ) hmI hC hZ hR (xs (4 * K + 1)) hp
  refine m_call 1 hx hb hts hown hml hMet rfl gL_law_X3_stock rfl c1 c2 (by decide +kernel) ⟨by show rm.frames + 1 ≤ 12; omega, by show 8 + (2 + 11) + rm.locals ≤ 442; omega⟩ hl.1 hM1 hK hS hmAH rfl (Nat.le_of_ble_eq_true rfl) dL_law_1128 ⟨by show cells + 1 ≤ 601024; omega, by show slots + 6 ≤ 7293034; omega⟩ (fun bb M9 H2 locs hpost hM2 hz2 hk2 hS => ?_)
  obtain ⟨g1, g2, g3⟩ := hG bb M9 hpost
  have hLI2 : LI D cI cO cL cJ d bk ou ao q s (K + 1) u.1 u.2.1 M9 u.2.2 H2 := LI.two hW1 hw1 hE1 hI1 hO1 hmI hou1 hmA1 hzo hd1 hbk1 hM2 hz2 hk2 g3
  refine lv_istore (lv' := [(6, .int bb), (5, .int r), (0, .ref b), (1, .ref d), (2, .ref ao), (3, .ref ou), (4, .int (nI (4 * K)))]) hx hb dL_law_1131 hl (by decide) rfl (fun ls hl => ?_)
  refine lv_aload_n hx hb dL_law_1133 rfl (lv_at hl 4 rfl) ?_
  refine m_call0 0 hx hb hts hown hml (kX3_thrown l M9) rfl gL_law_X3_thrown rfl rfl rfl (by decide +kernel) ⟨Nat.le_of_ble_eq_true rfl, Nat.le_of_ble_eq_true rfl⟩ hl.1 hM2 hK rfl (Nat.le_of_ble_eq_true rfl) dL_law_1134 ⟨by show cells + 1 ≤ 601024; omega, by show slots + 6 ≤ 7293034; omega⟩ (fun rt ht9 => ?_)
  refine lv_iload hx hb dL_law_1137 (lv_at hl 1 rfl) ?_
  refine lv_icmp_eq (tgt := 1144) hx hb dL_law_1139 (by decide) (fun _ => ?_) (fun h9 => absurd (ht9.trans g1) h9)
  refine lv_iload hx hb dL_law_1144 (lv_at hl 1 rfl) ?_
  refine lv_if_ne (tgt := 1161) hx hb dL_law_1146 (by decide) (fun c9 => ?_) (fun c9 => ?_)
  · skip
    refine lv_goto (tgt := 1233) hx hb dL_law_1161 (by decide) ?_
    exact hnext u.1 u.2.1 M9 u.2.2 H2 locs ls _ _ hLI2 hS (lv_sub hl [2, 3, 4, 5, 6] rfl) (by omega) (by omega)
  · skip
    refine lv_aload_n hx hb dL_law_1149 rfl (lv_at hl 5 rfl) ?_
    refine lv_iconst (v := 0) hx hb dL_law_1150 (by decide) ?_
    refine f_lald hx hb hK hLI2.2.2.1 (i := 0) rfl (by decide) (by decide) (v := u.2.2) rfl dL_law_1151 ?_
    refine lv_iload hx hb dL_law_1152 (lv_at hl 0 rfl) ?_
    refine lv_i2l hx hb dL_law_1154 rfl ?_
    refine W.lcmp hx hb dL_law_1155 ?_
    refine lv_if_eq (tgt := 1161) hx hb dL_law_1156 (by decide) (fun _ => ?_) (fun h9 => absurd (by rw [g2 c9]; exact cmp0 _) h9)
    refine lv_goto (tgt := 1233) hx hb dL_law_1161 (by decide) ?_
    exact hnext u.1 u.2.1 M9 u.2.2 H2 locs ls _ _ hLI2 hS (lv_sub hl [2, 3, 4, 5, 6] rfl) (by omega) (by omega)
set_option maxHeartbeats 4000000 in
set_option maxRecDepth 100000 in
theorem law_pass {p : Program} {l : Launch} {e : Env} {s : State} {m : MethodId} {below : List Frame} {meth : Method} {c : Code} {D : va_G} {cI cO cL cJ : ClassId} {b L : Nat} {xs : Nat → Int32} (C0 : LC p l s m c D cI cO cL cJ b L xs) {d bk ou ao : Nat} {q : Nat → Nat} {K : Nat} {g : XG} {X M : MS} {w : Int64} {H : Heap} {locs : List Loc} {cells slots : Nat} {ls : Array Slot} (hLI : LI D cI cO cL cJ d bk ou ao q s K g X M w H) (hS : va_S (AH s.heap.size) s.heap H locs) (hl : lv_has ls 7 [(0, .ref b), (1, .ref d), (2, .ref ao), (3, .ref ou), (4, .int (nI (4 * K)))]) (hKL : 4 * K + 4 ≤ L) (hc : cells ≤ 18 + 4 * K) (hs : slots ≤ 1557 + 32 * K)
    (hnext : ∀ (g' : XG) (X' M' : MS) (w' : Int64) (H' : Heap) (locs' : List Loc) (ls' : Array Slot) (cells' slots' : Nat), LI D cI cO cL cJ d bk ou ao q s (K + 1) g' X' M' w' H' → va_S (AH s.heap.size) s.heap H' locs' → lv_has ls' 7 [(0, .ref b), (1, .ref d), (2, .ref ao), (3, .ref ou), (4, .int (nI (4 * K)))] → cells' ≤ 18 + 4 * (K + 1) → slots' ≤ 1557 + 32 * (K + 1) → W p l e room_1 s m #[Value.ref b] below meth c H' locs' cells' slots' (lw_Z below #[Value.ref b] s) (F0 m 1233 ls' [])) : W p l e room_1 s m #[Value.ref b] below meth c H locs cells slots (lw_Z below #[Value.ref b] s) (F0 m 1164 ls []) := by
  obtain ⟨hx, hb, hml, hown, hts, hXb, hbl, hL, hK, hN, hlt⟩ := C0
  have hLI0 := hLI
  obtain ⟨hW, hM, hw, hE, hI, hO, hmI, hou, hmA, hzo, hd, hbk, n, kc, dd, hC, hZ, hR⟩ := hLI
  have hmAH : ∀ a, mA ao q a → AH s.heap.size a := fun a h => (hmA a h).1
  have hAA : ∀ a, wA g H.size ou a → AH s.heap.size a := fun a h => by
    rcases h with (⟨t, i, h⟩ | h) | h
    · exact hO.1 t i a h
    · exact Nat.le_trans hO.2 h
    · rw [h]; exact hzo
  refine lv_aload_n hx hb dL_law_1164 rfl (lv_at hl 1 rfl) ?_
  refine lv_aload_n hx hb dL_law_1165 rfl (lv_at hl 0 rfl) ?_
  refine lv_iload hx hb dL_law_1166 (lv_at hl 4 rfl) ?_
  refine lv_iconst (v := 1) hx hb dL_law_1168 (by decide) ?_
  refine lv_iadd hx hb dL_law_1169 ?_
  refine f_sld hx hb hXb hbl hL hS (i := 4 * K + 1) (nI_addx (a := 4 * K) (b := 1) rfl rfl) (by omega) dL_law_1170 ?_
  refine lv_aload_n hx hb dL_law_1171 rfl (lv_at hl 3 rfl) ?_
  refine va_calli (vx_runSW (As := [.ref d, .int (xs (4 * K + 1)), .ref ou]) (rest := []) ⟨hx, hb, hml, hown, hts⟩ (kL_pass l hlt g X s.heap.size H.size hI hO ou hou hw.lt w d bk hd hbk n kc hC hZ (xs (4 * K + 1))) (vx_cwSW 3 hts gL_law_L_pass rfl rfl rfl (by decide +kernel) ⟨Nat.le_of_ble_eq_true rfl, Nat.le_of_ble_eq_true rfl⟩) (w_pre hW hK hE hw hN) rfl rfl hl.1 rfl (lv_room (Nat.le_of_ble_eq_true rfl)) dL_law_1172 ⟨by show cells + 2 ≤ 601024; omega, by show slots + 12 ≤ 7293034; omega⟩) hS (fun a _ h => hAA a h) hAA (fun r u t H1 locs ht hvm hp hB hz1 hk1 hS => ?_)
  obtain ⟨hW1, hw1⟩ := hB
  rw [ht] at hW1 hw1
  obtain ⟨hM1, hE1, hI1, hO1, hou1, hmA1, hd1, hbk1⟩ := LI.one hLI0 (gw_pass hI (fun t i a h => hW.lt h) hp) hz1 hk1
  refine lv_istore (lv' := [(5, .int r), (0, .ref b), (1, .ref d), (2, .ref ao), (3, .ref ou), (4, .int (nI (4 * K)))]) hx hb dL_law_1175 hl (by decide) rfl (fun ls hl => ?_)
  refine lv_aload_n hx hb dL_law_1177 rfl (lv_at hl 3 rfl) ?_
  refine lv_aload_n hx hb dL_law_1178 rfl (lv_at hl 1 rfl) ?_
  refine lv_iload hx hb dL_law_1179 (lv_at hl 5 rfl) ?_
  refine lv_iconst (v := 1) hx hb dL_law_1181 (by decide) ?_
  refine lv_iadd hx hb dL_law_1182 ?_
  refine f_sld hx hb hXb hbl hL hS (i := 4 * K + 1) (nI_addx (a := 4 * K) (b := 1) rfl rfl) (by omega) dL_law_1183 ?_
  obtain ⟨rm, post, c1, c2, c3, c4, hMet, hG⟩ := sim_pass (l := l) (D := D) (cI := cI) (cO := cO) (cL := cL) (cJ := cJ) hmI hC hZ hR (xs (4 * K + 1)) hp
  refine m_call 1 hx hb hts hown hml hMet rfl gL_law_X3_pass rfl c1 c2 (by decide +kernel) ⟨by show rm.frames + 1 ≤ 12; omega, by show 8 + (4 + 11) + rm.locals ≤ 442; omega⟩ hl.1 hM1 hK hS hmAH rfl (Nat.le_of_ble_eq_true rfl) dL_law_1184 ⟨by show cells + 2 ≤ 601024; omega, by show slots + 12 ≤ 7293034; omega⟩ (fun bb M9 H2 locs hpost hM2 hz2 hk2 hS => ?_)
  obtain ⟨g1, g2, g3⟩ := hG bb M9 hpost
  have hLI2 : LI D cI cO cL cJ d bk ou ao q s (K + 1) u.1 u.2.1 M9 u.2.2 H2 := LI.two hW1 hw1 hE1 hI1 hO1 hmI hou1 hmA1 hzo hd1 hbk1 hM2 hz2 hk2 g3
  refine lv_istore (lv' := [(6, .int bb), (5, .int r), (0, .ref b), (1, .ref d), (2, .ref ao), (3, .ref ou), (4, .int (nI (4 * K)))]) hx hb dL_law_1187 hl (by decide) rfl (fun ls hl => ?_)
  refine lv_aload_n hx hb dL_law_1189 rfl (lv_at hl 4 rfl) ?_
  refine m_call0 0 hx hb hts hown hml (kX3_thrown l M9) rfl gL_law_X3_thrown rfl rfl rfl (by decide +kernel) ⟨Nat.le_of_ble_eq_true rfl, Nat.le_of_ble_eq_true rfl⟩ hl.1 hM2 hK rfl (Nat.le_of_ble_eq_true rfl) dL_law_1190 ⟨by show cells + 2 ≤ 601024; omega, by show slots + 12 ≤ 7293034; omega⟩ (fun rt ht9 => ?_)
  refine lv_iload hx hb dL_law_1193 (lv_at hl 1 rfl) ?_
  refine lv_icmp_eq (tgt := 1200) hx hb dL_law_1195 (by decide) (fun _ => ?_) (fun h9 => absurd (ht9.trans g1) h9)
  refine lv_iload hx hb dL_law_1200 (lv_at hl 1 rfl) ?_
  refine lv_if_ne (tgt := 1217) hx hb dL_law_1202 (by decide) (fun c9 => ?_) (fun c9 => ?_)
  · skip
    refine lv_goto (tgt := 1233) hx hb dL_law_1217 (by decide) ?_
    exact hnext u.1 u.2.1 M9 u.2.2 H2 locs ls _ _ hLI2 hS (lv_sub hl [2, 3, 4, 5, 6] rfl) (by omega) (by omega)
  · skip
    refine lv_aload_n hx hb dL_law_1205 rfl (lv_at hl 5 rfl) ?_
    refine lv_iconst (v := 0) hx hb dL_law_1206 (by decide) ?_
    refine f_lald hx hb hK hLI2.2.2.1 (i := 0) rfl (by decide) (by decide) (v := u.2.2) rfl dL_law_1207 ?_
    refine lv_iload hx hb dL_law_1208 (lv_at hl 0 rfl) ?_
    refine lv_i2l hx hb dL_law_1210 rfl ?_
    refine W.lcmp hx hb dL_law_1211 ?_
    refine lv_if_eq (tgt := 1217) hx hb dL_law_1212 (by decide) (fun _ => ?_) (fun h9 => absurd (by rw [g2 c9]; exact cmp0 _) h9)
    refine lv_goto (tgt := 1233) hx hb dL_law_1217 (by decide) ?_
    exact hnext u.1 u.2.1 M9 u.2.2 H2 locs ls _ _ hLI2 hS (lv_sub hl [2, 3, 4, 5, 6] rfl) (by omega) (by omega)
set_option maxHeartbeats 4000000 in
set_option maxRecDepth 100000 in
theorem law_day {p : Program} {l : Launch} {e : Env} {s : State} {m : MethodId} {below : List Frame} {meth : Method} {c : Code} {D : va_G} {cI cO cL cJ : ClassId} {b L : Nat} {xs : Nat → Int32} (C0 : LC p l s m c D cI cO cL cJ b L xs) {d bk ou ao : Nat} {q : Nat → Nat} {K : Nat} {g : XG} {X M : MS} {w : Int64} {H : Heap} {locs : List Loc} {cells slots : Nat} {ls : Array Slot} (hLI : LI D cI cO cL cJ d bk ou ao q s K g X M w H) (hS : va_S (AH s.heap.size) s.heap H locs) (hl : lv_has ls 7 [(0, .ref b), (1, .ref d), (2, .ref ao), (3, .ref ou), (4, .int (nI (4 * K)))]) (hKL : 4 * K + 4 ≤ L) (hc : cells ≤ 18 + 4 * K) (hs : slots ≤ 1557 + 32 * K)
    (hnext : ∀ (g' : XG) (X' M' : MS) (w' : Int64) (H' : Heap) (locs' : List Loc) (ls' : Array Slot) (cells' slots' : Nat), LI D cI cO cL cJ d bk ou ao q s (K + 1) g' X' M' w' H' → va_S (AH s.heap.size) s.heap H' locs' → lv_has ls' 7 [(0, .ref b), (1, .ref d), (2, .ref ao), (3, .ref ou), (4, .int (nI (4 * K)))] → cells' ≤ 18 + 4 * (K + 1) → slots' ≤ 1557 + 32 * (K + 1) → W p l e room_1 s m #[Value.ref b] below meth c H' locs' cells' slots' (lw_Z below #[Value.ref b] s) (F0 m 1233 ls' [])) : W p l e room_1 s m #[Value.ref b] below meth c H locs cells slots (lw_Z below #[Value.ref b] s) (F0 m 1220 ls []) := by
  obtain ⟨hx, hb, hml, hown, hts, hXb, hbl, hL, hK, hN, hlt⟩ := C0
  have hLI0 := hLI
  obtain ⟨hW, hM, hw, hE, hI, hO, hmI, hou, hmA, hzo, hd, hbk, n, kc, dd, hC, hZ, hR⟩ := hLI
  have hmAH : ∀ a, mA ao q a → AH s.heap.size a := fun a h => (hmA a h).1
  refine lv_aload_n hx hb dL_law_1220 rfl (lv_at hl 1 rfl) ?_
  refine vp_callSi (va_runV (As := []) (rest := []) (b := d) ⟨hx, hb, hml, hown, hts⟩ (kX2_day l g X s.heap.size H.size d bk hd hbk) (cwV 0 hts gL_law_X2_day rfl rfl rfl (by decide +kernel) ⟨Nat.le_of_ble_eq_true rfl, Nat.le_of_ble_eq_true rfl⟩) (x_preV hW hK hE (x_recvD hK hW hd)) rfl rfl hl.1 rfl (lv_room (Nat.le_of_ble_eq_true rfl)) dL_law_1221 ⟨by show cells + 0 ≤ 601024; omega, by show slots + 0 ≤ 7293034; omega⟩).run (fun r hr => ?_)
  refine lv_aload_n hx hb dL_law_1224 rfl (lv_at hl 2 rfl) ?_
  refine m_call 0 hx hb hts hown hml (kX3_day l hmI M) rfl gL_law_X3_day rfl rfl rfl (by decide +kernel) ⟨Nat.le_of_ble_eq_true rfl, Nat.le_of_ble_eq_true rfl⟩ hl.1 hM hK hS hmAH rfl (Nat.le_of_ble_eq_true rfl) dL_law_1225 ⟨by show cells ≤ 601024; omega, by show slots ≤ 7293034; omega⟩ (fun bb M9 H2 locs hpost hM2 hz2 hk2 hS => ?_)
  have hInv : Inv (K + 1) g X M9 := by rw [hpost.2]; exact ⟨n, kc, dd, hC, hZ, hR.th' 0⟩
  refine lv_icmp_eq (tgt := 1233) hx hb dL_law_1228 (by decide) (fun _ => ?_) (fun h9 => absurd (hr.trans (hR.x1.trans (hpost.1.trans hR.m0).symm)) h9)
  exact hnext g X M9 w H2 locs ls _ _ (LI.two hW hw hE hI hO hmI hou hmA hzo hd hbk hM2 hz2 hk2 hInv) hS hl (by omega) (by omega)

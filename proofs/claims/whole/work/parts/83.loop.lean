/-! THE LAW'S LOOP. -/
set_option maxHeartbeats 4000000 in
set_option maxRecDepth 100000 in
theorem law_loop {p : Program} {l : Launch} {e : Env} {s : State} {m : MethodId} {below : List Frame} {meth : Method} {c : Code} {D : va_G} {cI cO cL cJ : ClassId} {b L : Nat} {xs : Nat → Int32} (C0 : LC p l s m c D cI cO cL cJ b L xs) (hr : meth.sig.returnType = ret) (hlocks : meth.locks = false) {d bk ou ao : Nat} {q : Nat → Nat} : ∀ (n K : Nat) (g : XG) (X M : MS) (w : Int64) (H : Heap) (locs : List Loc) (cells slots : Nat) (ls : Array Slot), K + n = 513 → LI D cI cO cL cJ d bk ou ao q s K g X M w H → va_S (AH s.heap.size) s.heap H locs → lv_has ls 7 [(0, .ref b), (1, .ref d), (2, .ref ao), (3, .ref ou), (4, .int (nI (4 * K)))] → cells ≤ 18 + 4 * K → slots ≤ 1557 + 32 * K → W p l e room_1 s m #[Value.ref b] below meth c H locs cells slots (lw_Z below #[Value.ref b] s) (F0 m 23 ls []) := by
  obtain ⟨hx, hb, hml, hown, hts, hXb, hbl, hL, hK, hN, hlt⟩ := id C0
  intro n
  induction n with
  | zero =>
    intro K g X M w H locs cells slots ls hn hLI hS hl hc hs
    refine lv_iload hx hb dL_law_23 (lv_at hl 4 rfl) ?_
    refine lv_aload_n hx hb dL_law_25 rfl (lv_at hl 0 rfl) ?_
    refine va_slen hx hb hXb hbl (fun z => absurd hbl (Nat.not_lt.mpr z)) hS dL_law_26 ?_
    refine lv_iconst (v := 4) hx hb dL_law_27 (by decide) ?_
    refine lv_isub hx hb dL_law_28 ?_
    refine lv_icmp_gt (tgt := 1239) hx hb dL_law_29 (by decide) (fun c9 => ?_) (fun c9 => ?_)
    · refine lv_iconst (v := 1) hx hb dL_law_1239 (by decide) ?_
      exact va_forget (fun z hz => hS.2.2 z hz) (W.widen (by omega) (by omega) (lw_ret hx hb hr hlocks dL_law_1240))
    · exfalso
      refine c9 (Int32.lt_iff_toInt_lt.mpr ?_)
      have h1 := pk_sub_toInt (a := L) (b := 4) (by omega) (by decide)
      have h2 : (nI (4 * K)).toInt = ((4 * K : Nat) : Int) := nI_toInt (by omega)
      rw [h2]
      show (nI L - nI 4).toInt < _
      rw [h1]
      omega
  | succ n ih =>
    intro K g X M w H locs cells slots ls hn hLI hS hl hc hs
    refine lv_iload hx hb dL_law_23 (lv_at hl 4 rfl) ?_
    refine lv_aload_n hx hb dL_law_25 rfl (lv_at hl 0 rfl) ?_
    refine va_slen hx hb hXb hbl (fun z => absurd hbl (Nat.not_lt.mpr z)) hS dL_law_26 ?_
    refine lv_iconst (v := 4) hx hb dL_law_27 (by decide) ?_
    refine lv_isub hx hb dL_law_28 ?_
    refine lv_icmp_gt (tgt := 1239) hx hb dL_law_29 (by decide) (fun c9 => ?_) (fun c9 => ?_)
    · refine lv_iconst (v := 1) hx hb dL_law_1239 (by decide) ?_
      exact va_forget (fun z hz => hS.2.2 z hz) (W.widen (by omega) (by omega) (lw_ret hx hb hr hlocks dL_law_1240))
    · have hKL : 4 * K + 4 ≤ L := by
        rcases Nat.lt_or_ge L (4 * K + 4) with h | h
        · exfalso
          refine c9 (Int32.lt_iff_toInt_lt.mpr ?_)
          have h1 := pk_sub_toInt (a := L) (b := 4) (by omega) (by decide)
          have h2 : (nI (4 * K)).toInt = ((4 * K : Nat) : Int) := nI_toInt (by omega)
          rw [h2]
          show (nI L - nI 4).toInt < _
          rw [h1]
          omega
        · exact h
      have hnext : ∀ (g' : XG) (X' M' : MS) (w' : Int64) (H' : Heap) (locs' : List Loc) (ls' : Array Slot) (cells' slots' : Nat), LI D cI cO cL cJ d bk ou ao q s (K + 1) g' X' M' w' H' → va_S (AH s.heap.size) s.heap H' locs' → lv_has ls' 7 [(0, .ref b), (1, .ref d), (2, .ref ao), (3, .ref ou), (4, .int (nI (4 * K)))] → cells' ≤ 18 + 4 * (K + 1) → slots' ≤ 1557 + 32 * (K + 1) → W p l e room_1 s m #[Value.ref b] below meth c H' locs' cells' slots' (lw_Z below #[Value.ref b] s) (F0 m 1233 ls' []) := by
        intro g' X' M' w' H' locs' ls' cells' slots' h1 h2 h3 h4 h5
        refine lv_iinc (v := nI (4 * (K + 1))) (lv' := [(4, .int (nI (4 * (K + 1)))), (0, .ref b), (1, .ref d), (2, .ref ao), (3, .ref ou)]) hx hb dL_law_1233 h3 (k := 4) rfl (nI_addx (a := 4 * K) (b := 4) rfl rfl) (by decide) rfl (fun ls hl => ?_)
        refine lv_goto (tgt := 23) hx hb dL_law_1236 (by decide) ?_
        exact ih (K + 1) g' X' M' w' H' locs' cells' slots' ls (by omega) h1 h2 (lv_sub hl [1, 2, 3, 4, 0] rfl) h4 h5
      refine lv_aload_n hx hb dL_law_32 rfl (lv_at hl 0 rfl) ?_
      refine lv_iload hx hb dL_law_33 (lv_at hl 4 rfl) ?_
      refine f_sld hx hb hXb hbl hL hS (i := 4 * K) rfl (by omega) dL_law_35 ?_
      refine lv_bipush (v := 31) hx hb dL_law_36 (by decide) ?_
      refine lv_iand hx hb dL_law_38 ?_
      obtain ⟨j, hj, ej⟩ := pk_andE (xs (4 * K)) (m := 31) 5 (by decide)
      refine cv (y := nI j) ej ?_
      by_cases h18 : j < 18
      · rcases (show j = 0 ∨ j = 1 ∨ j = 2 ∨ j = 3 ∨ j = 4 ∨ j = 5 ∨ j = 6 ∨ j = 7 ∨ j = 8 ∨ j = 9 ∨ j = 10 ∨ j = 11 ∨ j = 12 ∨ j = 13 ∨ j = 14 ∨ j = 15 ∨ j = 16 ∨ j = 17 by omega) with rfl | rfl | rfl | rfl | rfl | rfl | rfl | rfl | rfl | rfl | rfl | rfl | rfl | rfl | rfl | rfl | rfl | rfl
        · exact lv_tableIn (tgt := 124) (off := 85) hx hb dL_law_39 (by decide) (by decide) (by decide) (by decide) (law_order C0 hLI hS hl hKL hc hs hnext)
        · exact lv_tableIn (tgt := 192) (off := 153) hx hb dL_law_39 (by decide) (by decide) (by decide) (by decide) (law_add C0 hLI hS hl hKL hc hs hnext)
        · exact lv_tableIn (tgt := 272) (off := 233) hx hb dL_law_39 (by decide) (by decide) (by decide) (by decide) (law_pay C0 hLI hS hl hKL hc hs hnext)
        · exact lv_tableIn (tgt := 352) (off := 313) hx hb dL_law_39 (by decide) (by decide) (by decide) (by decide) (law_orders C0 hLI hS hl hKL hc hs hnext)
        · exact lv_tableIn (tgt := 365) (off := 326) hx hb dL_law_39 (by decide) (by decide) (by decide) (by decide) (law_mayComeBack C0 hLI hS hl hKL hc hs hnext)
        · exact lv_tableIn (tgt := 452) (off := 413) hx hb dL_law_39 (by decide) (by decide) (by decide) (by decide) (law_ask C0 hLI hS hl hKL hc hs hnext)
        · exact lv_tableIn (tgt := 532) (off := 493) hx hb dL_law_39 (by decide) (by decide) (by decide) (by decide) (law_exchange C0 hLI hS hl hKL hc hs hnext)
        · exact lv_tableIn (tgt := 612) (off := 573) hx hb dL_law_39 (by decide) (by decide) (by decide) (by decide) (law_grade C0 hLI hS hl hKL hc hs hnext)
        · exact lv_tableIn (tgt := 692) (off := 653) hx hb dL_law_39 (by decide) (by decide) (by decide) (by decide) (law_state C0 hLI hS hl hKL hc hs hnext)
        · exact lv_tableIn (tgt := 760) (off := 721) hx hb dL_law_39 (by decide) (by decide) (by decide) (by decide) (law_price C0 hLI hS hl hKL hc hs hnext)
        · exact lv_tableIn (tgt := 816) (off := 777) hx hb dL_law_39 (by decide) (by decide) (by decide) (by decide) (law_fees C0 hLI hS hl hKL hc hs hnext)
        · exact lv_tableIn (tgt := 872) (off := 833) hx hb dL_law_39 (by decide) (by decide) (by decide) (by decide) (law_charges C0 hLI hS hl hKL hc hs hnext)
        · exact lv_tableIn (tgt := 928) (off := 889) hx hb dL_law_39 (by decide) (by decide) (by decide) (by decide) (law_taken C0 hLI hS hl hKL hc hs hnext)
        · exact lv_tableIn (tgt := 996) (off := 957) hx hb dL_law_39 (by decide) (by decide) (by decide) (by decide) (law_refunded C0 hLI hS hl hKL hc hs hnext)
        · exact lv_tableIn (tgt := 1052) (off := 1013) hx hb dL_law_39 (by decide) (by decide) (by decide) (by decide) (law_isShortBy C0 hLI hS hl hKL hc hs hnext)
        · exact lv_tableIn (tgt := 1108) (off := 1069) hx hb dL_law_39 (by decide) (by decide) (by decide) (by decide) (law_stock C0 hLI hS hl hKL hc hs hnext)
        · exact lv_tableIn (tgt := 1164) (off := 1125) hx hb dL_law_39 (by decide) (by decide) (by decide) (by decide) (law_pass C0 hLI hS hl hKL hc hs hnext)
        · exact lv_tableIn (tgt := 1220) (off := 1181) hx hb dL_law_39 (by decide) (by decide) (by decide) (by decide) (law_day C0 hLI hS hl hKL hc hs hnext)
      · refine lv_tableOut (tgt := 1233) hx hb dL_law_39 (Or.inr ?_) (by decide) ?_
        · rw [nI_toInt (by omega)]; omega
        · exact hnext g X M w H locs ls cells slots hLI.next hS hl (by omega) (by omega)

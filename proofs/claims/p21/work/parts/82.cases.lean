/-! THE LAW'S TURNS: pay, returns, days. -/
set_option maxHeartbeats 4000000 in
set_option maxRecDepth 100000 in
theorem law_pay {p : Program} {l : Launch} {e : Env} {s : State} {m : MethodId} {below : List Frame} {meth : Method} {c : Code} {D : va_G} {cI cO cL cJ : ClassId} {b L : Nat} {xs : Nat → Int32} (C0 : LC p l s m c D cI cO cL cJ b L xs) {d bk T n Lc mm tn k : Nat} {kc : Nat → Nat} {g : XG} {X : MS} {H : Heap} {locs : List Loc} {cells slots : Nat} {ls : Array Slot} {v : Int32} (hT : T ≤ 60) (hLI : LI D cI cO cL cJ d bk s T n kc Lc mm g X H) (hS : va_S (AH s.heap.size) s.heap H locs) (hl : lv_has ls 15 [(0, .ref b), (1, .ref d), (2, .int (nI Lc)), (3, .int (nI mm)), (4, .int 1), (5, .int (nI tn)), (6, .int (nI T)), (7, .int v), (9, .int (nI k))]) (hc : cells ≤ 10000) (hs : slots ≤ 100000) (hk : k < n) (hop : X 8 k = 0)
    (htail : ∀ (k n' : Nat) (kc' : Nat → Nat) (Lc' mm' : Nat) (g' : XG) (X' : MS) (H' : Heap) (locs' : List Loc) (ls' : Array Slot) (cells' slots' : Nat), k < n' → LI D cI cO cL cJ d bk s (T + 1) n' kc' Lc' mm' g' X' H' → va_S (AH s.heap.size) s.heap H' locs' → lv_has ls' 15 [(4, .int 1), (0, .ref b), (1, .ref d), (2, .int (nI Lc')), (3, .int (nI mm')), (5, .int (nI tn)), (6, .int (nI T)), (9, .int (nI k))] → cells' ≤ cells + 29 → slots' ≤ slots + 174 → W p l e room_1 s m #[Value.ref b] below meth c H' locs' cells' slots' (lw_Z below #[Value.ref b] s) (F0 m 606 ls' [])) : W p l e room_1 s m #[Value.ref b] below meth c H locs cells slots (lw_Z below #[Value.ref b] s) (F0 m 375 ls []) := by
  obtain ⟨hx, hb, hml, hown, hts, hXb, hbl, hL, hK, hlt⟩ := C0
  obtain ⟨hWd, hC, hZ, hPI⟩ := hLI
  obtain ⟨hW, hE, hI, hO, hd, hbk⟩ := id hWd
  have hn30 := hC.1
  have h8a := hC.h8
  have hA : ∀ q, xA g H.size q → AH s.heap.size q := fun q h => hO.A h
  refine lv_aload_n hx hb dL_law_375 rfl (lv_at hl 1 rfl) ?_
  refine lv_iload hx hb dL_law_376 (lv_at hl 8 rfl) ?_
  refine z_price hlt ⟨hx, hb, hml, hown, hts⟩ gL_law_X2_price hW hK hE hd hbk hC (k := k) hk hl.1 (Nat.le_of_ble_eq_true rfl) dL_law_378 ⟨Nat.le_of_ble_eq_true rfl, Nat.le_of_ble_eq_true rfl⟩ ⟨by show cells + 1 ≤ 632656; omega, by show slots + 6 ≤ 7203499; omega⟩ ?_
  refine lv_istore (lv' := [(12, .int (priceX X k (kc k))), (0, .ref b), (1, .ref d), (2, .int (nI Lc)), (3, .int (nI mm)), (4, .int 1), (5, .int (nI tn)), (6, .int (nI T)), (7, .int v), (9, .int (nI k))]) hx hb dL_law_381 hl (by decide) rfl (fun ls hl => ?_)
  refine lv_aload_n hx hb dL_law_383 rfl (lv_at hl 2 rfl) ?_
  refine lv_iload hx hb dL_law_384 (lv_at hl 9 rfl) ?_
  refine lv_iload hx hb dL_law_386 (lv_at hl 8 rfl) ?_
  refine lv_iconst (v := 5) hx hb dL_law_388 (by decide) ?_
  refine lv_ishr hx hb dL_law_389 ?_
  refine lv_iconst (v := 3) hx hb dL_law_390 (by decide) ?_
  refine z_low ⟨hx, hb, hml, hown, hts⟩ gL_law_L_low (N := 3) (by decide) (by decide) hl.1 (Nat.le_of_ble_eq_true rfl) dL_law_391 ⟨Nat.le_of_ble_eq_true rfl, Nat.le_of_ble_eq_true rfl⟩ ⟨by show cells + 1 ≤ 632656; omega, by show slots + 6 ≤ 7203499; omega⟩ (fun q1 hq1 => ?_)
  refine lv_iload hx hb dL_law_394 (lv_at hl 8 rfl) ?_
  refine lv_sipush (v := 2000) hx hb dL_law_396 (by decide) ?_
  refine z_low ⟨hx, hb, hml, hown, hts⟩ gL_law_L_low (N := 2000) (by decide) (by decide) hl.1 (Nat.le_of_ble_eq_true rfl) dL_law_399 ⟨Nat.le_of_ble_eq_true rfl, Nat.le_of_ble_eq_true rfl⟩ ⟨by show cells + 1 ≤ 632656; omega, by show slots + 6 ≤ 7203499; omega⟩ (fun q2 hq2 => ?_)
  refine lv_imul hx hb dL_law_402 ?_
  refine cv (y := nI (q1 * q2)) (nI_mulx (a := q1) (b := q2) rfl rfl) ?_
  refine lv_iload hx hb dL_law_403 (lv_at hl 8 rfl) ?_
  refine lv_bipush (v := 7) hx hb dL_law_405 (by decide) ?_
  refine lv_ishr hx hb dL_law_407 ?_
  refine lv_iconst (v := 3) hx hb dL_law_408 (by decide) ?_
  refine z_low ⟨hx, hb, hml, hown, hts⟩ gL_law_L_low (N := 3) (by decide) (by decide) hl.1 (Nat.le_of_ble_eq_true rfl) dL_law_409 ⟨Nat.le_of_ble_eq_true rfl, Nat.le_of_ble_eq_true rfl⟩ ⟨by show cells + 1 ≤ 632656; omega, by show slots + 6 ≤ 7203499; omega⟩ (fun q3 hq3 => ?_)
  refine lv_iload hx hb dL_law_412 (lv_at hl 8 rfl) ?_
  refine lv_sipush (v := 1500) hx hb dL_law_414 (by decide) ?_
  refine z_low ⟨hx, hb, hml, hown, hts⟩ gL_law_L_low (N := 1500) (by decide) (by decide) hl.1 (Nat.le_of_ble_eq_true rfl) dL_law_417 ⟨Nat.le_of_ble_eq_true rfl, Nat.le_of_ble_eq_true rfl⟩ ⟨by show cells + 1 ≤ 632656; omega, by show slots + 6 ≤ 7203499; omega⟩ (fun q4 hq4 => ?_)
  refine lv_imul hx hb dL_law_420 ?_
  refine cv (y := nI (q3 * q4)) (nI_mulx (a := q3) (b := q4) rfl rfl) ?_
  refine z_pay hlt ⟨hx, hb, hml, hown, hts⟩ gL_law_L_pay hW hK hE hd hbk hI hO hS hA hC hk hop (p1 := nI (q1 * q2)) (p2 := nI (q3 * q4)) (y_in (q1 * q2) (N := 1000000) rfl (Nat.le_trans (Nat.mul_le_mul (show q1 ≤ 2 by omega) (show q2 ≤ 1999 by omega)) (by decide)) (by decide)) (y_in (q3 * q4) (N := 1000000) rfl (Nat.le_trans (Nat.mul_le_mul (show q3 ≤ 2 by omega) (show q4 ≤ 1499 by omega)) (by decide)) (by decide)) hl.1 (Nat.le_of_ble_eq_true rfl) dL_law_421 ⟨Nat.le_of_ble_eq_true rfl, Nat.le_of_ble_eq_true rfl⟩ ⟨by show cells + 1 + 4 ≤ 632656; omega, by show slots + 6 + 24 ≤ 7203499; omega⟩ (fun r X1 H locs hp hW hz9 hk9 hS => ?_)
  have h7 : X 7 k = nI (kc k) := (hC.2.2.2 k hk).2.1
  rcases hp with ⟨a1, a2, rfl⟩ | ⟨rfl, a1, a2⟩
  · skip
    have hWd1 : Wd D cI cO cL cJ d bk s g X1 H := hWd.next (Gw.refl hI rfl) hW hz9 hk9
    obtain ⟨-, hE, hI, hO, hd, hbk⟩ := id hWd1
    have h0k : 0 < kc k := by
      rcases Nat.eq_zero_or_pos (kc k) with h | h
      · exact absurd (by rw [h7, h]; rfl) a1
      · exact h
    obtain ⟨hPI1, hPr⟩ := hPI.pay hn30 hk hop (h8a k hk) h0k (p3 := X 1 0) (y_in (q1 * q2) (N := 1000000) rfl (Nat.le_trans (Nat.mul_le_mul (show q1 ≤ 2 by omega) (show q2 ≤ 1999 by omega)) (by decide)) (by decide)) (y_in (q3 * q4) (N := 1000000) rfl (Nat.le_trans (Nat.mul_le_mul (show q3 ≤ 2 by omega) (show q4 ≤ 1499 by omega)) (by decide)) (by decide))
    have hC1 : xC g X1 n kc := hC.same (by rw [a2]; exact settleX_fr (Or.inr (Or.inl (by decide)))) (fun i => by rw [a2]; exact settleX_fr (Or.inr (Or.inl (by decide))))
    rw [← a2] at hPI1 hPr
    have hne : ¬ X1 13 k = -3 := by
      obtain ⟨-, ⟨-, -, a, b9, p9, r9, e1, -, -, -, hb9⟩, -⟩ := hPI1.2.1 k hk
      rw [e1]
      exact ne_m3 (by omega)
    have hC := hC1
    refine lv_istore (lv' := [(13, .int (X1 13 k)), (12, .int (priceX X k (kc k))), (0, .ref b), (1, .ref d), (2, .int (nI Lc)), (3, .int (nI mm)), (4, .int 1), (5, .int (nI tn)), (6, .int (nI T)), (7, .int v), (9, .int (nI k))]) hx hb dL_law_424 hl (by decide) rfl (fun ls hl => ?_)
    refine lv_iload hx hb dL_law_426 (lv_at hl 0 rfl) ?_
    refine lv_bipush (v := (-3)) hx hb dL_law_428 (by decide) ?_
    refine lv_icmp_ne (tgt := 446) hx hb dL_law_430 (by decide) (fun _ => ?_) (fun h9 => absurd h9 hne)
    refine lv_iload hx hb dL_law_446 (lv_at hl 0 rfl) ?_
    refine lv_aload_n hx hb dL_law_448 rfl (lv_at hl 3 rfl) ?_
    refine lv_iload hx hb dL_law_449 (lv_at hl 10 rfl) ?_
    refine lv_iconst (v := 0) hx hb dL_law_451 (by decide) ?_
    refine z_taken hlt ⟨hx, hb, hml, hown, hts⟩ gL_law_X2_taken hW hK hE hd hbk hC hk (v := X1 13 k) (y_in 0 (N := 2) rfl (by decide) (by decide)) rfl hl.1 (Nat.le_of_ble_eq_true rfl) dL_law_452 ⟨Nat.le_of_ble_eq_true rfl, Nat.le_of_ble_eq_true rfl⟩ ⟨by show cells + 1 + 4 + 2 ≤ 632656; omega, by show slots + 6 + 24 + 12 ≤ 7203499; omega⟩ ?_
    refine lv_icmp_ne (tgt := 473) hx hb dL_law_455 (by decide) (fun h9 => absurd rfl h9) (fun _ => ?_)
    refine lv_aload_n hx hb dL_law_458 rfl (lv_at hl 3 rfl) ?_
    refine lv_iload hx hb dL_law_459 (lv_at hl 10 rfl) ?_
    refine z_all hlt ⟨hx, hb, hml, hown, hts⟩ gL_law_L_all hW hK hE hd hbk hC hk hl.1 (Nat.le_of_ble_eq_true rfl) dL_law_461 ⟨Nat.le_of_ble_eq_true rfl, Nat.le_of_ble_eq_true rfl⟩ ⟨by show cells + 1 + 4 + 2 + 6 ≤ 632656; omega, by show slots + 6 + 24 + 12 + 36 ≤ 7203499; omega⟩ ?_
    refine lv_iload hx hb dL_law_464 (lv_at hl 1 rfl) ?_
    refine lv_icmp_ne (tgt := 473) hx hb dL_law_466 (by decide) (fun h9 => absurd hPr h9) (fun _ => ?_)
    refine lv_iconst (v := 1) hx hb dL_law_469 (by decide) ?_
    refine lv_goto (tgt := 474) hx hb dL_law_470 (by decide) ?_
    refine lv_istore (lv' := [(4, .int 1), (13, .int (X1 13 k)), (12, .int (priceX X k (kc k))), (0, .ref b), (1, .ref d), (2, .int (nI Lc)), (3, .int (nI mm)), (5, .int (nI tn)), (6, .int (nI T)), (7, .int v), (9, .int (nI k))]) hx hb dL_law_474 hl (by decide) rfl (fun ls hl => ?_)
    refine lv_iload_n hx hb dL_law_476 rfl (lv_at hl 6 rfl) ?_
    refine lv_iload hx hb dL_law_477 (lv_at hl 1 rfl) ?_
    refine lv_bipush (v := (-3)) hx hb dL_law_479 (by decide) ?_
    refine lv_icmp_ne (tgt := 488) hx hb dL_law_481 (by decide) (fun _ => ?_) (fun h9 => absurd h9 hne)
    refine lv_iconst (v := 1) hx hb dL_law_488 (by decide) ?_
    refine lv_iload hx hb dL_law_489 (lv_at hl 10 rfl) ?_
    refine lv_ishl hx hb dL_law_491 ?_
    refine lv_ior hx hb dL_law_492 ?_
    refine cv (y := nI (mm ||| 2 ^ k)) (bit_set (by omega)) ?_
    refine lv_istore_n (lv' := [(3, .int (nI (mm ||| 2 ^ k))), (4, .int 1), (13, .int (X1 13 k)), (12, .int (priceX X k (kc k))), (0, .ref b), (1, .ref d), (2, .int (nI Lc)), (5, .int (nI tn)), (6, .int (nI T)), (7, .int v), (9, .int (nI k))]) hx hb dL_law_493 rfl hl (by decide) rfl (fun ls hl => ?_)
    refine lv_goto (tgt := 606) hx hb dL_law_494 (by decide) ?_
    exact htail _ _ _ _ _ _ _ _ _ _ _ _ hk ⟨hWd1, hC1, hZ, hPI1⟩ hS (lv_sub hl [1, 4, 5, 6, 0, 7, 8, 10] rfl) (by omega) (by omega)
  · skip
    have a2 := a2.symm
    subst a2
    have hWd1 : Wd D cI cO cL cJ d bk s g X H := hWd.next (Gw.refl hI rfl) hW hz9 hk9
    obtain ⟨-, hE, hI, hO, hd, hbk⟩ := id hWd1
    have h0k : kc k = 0 := by
      rcases Nat.eq_zero_or_pos (kc k) with h | h
      · exact h
      · exact absurd (h7.symm.trans a1) (nI_ne0 h (by have := h8a k hk; omega))
    refine lv_istore (lv' := [(13, .int (-3)), (12, .int (priceX X k (kc k))), (0, .ref b), (1, .ref d), (2, .int (nI Lc)), (3, .int (nI mm)), (4, .int 1), (5, .int (nI tn)), (6, .int (nI T)), (7, .int v), (9, .int (nI k))]) hx hb dL_law_424 hl (by decide) rfl (fun ls hl => ?_)
    refine lv_iload hx hb dL_law_426 (lv_at hl 0 rfl) ?_
    refine lv_bipush (v := (-3)) hx hb dL_law_428 (by decide) ?_
    refine lv_icmp_ne (tgt := 446) hx hb dL_law_430 (by decide) (fun h9 => absurd rfl h9) (fun _ => ?_)
    refine lv_iload hx hb dL_law_433 (lv_at hl 1 rfl) ?_
    refine lv_if_ne (tgt := 442) hx hb dL_law_435 (by decide) (fun h9 => absurd (by rw [h0k]; exact price_0 _ _) h9) (fun _ => ?_)
    refine lv_iconst (v := 1) hx hb dL_law_438 (by decide) ?_
    refine lv_goto (tgt := 474) hx hb dL_law_439 (by decide) ?_
    refine lv_istore (lv' := [(4, .int 1), (13, .int (-3)), (12, .int (priceX X k (kc k))), (0, .ref b), (1, .ref d), (2, .int (nI Lc)), (3, .int (nI mm)), (5, .int (nI tn)), (6, .int (nI T)), (7, .int v), (9, .int (nI k))]) hx hb dL_law_474 hl (by decide) rfl (fun ls hl => ?_)
    refine lv_iload_n hx hb dL_law_476 rfl (lv_at hl 6 rfl) ?_
    refine lv_iload hx hb dL_law_477 (lv_at hl 1 rfl) ?_
    refine lv_bipush (v := (-3)) hx hb dL_law_479 (by decide) ?_
    refine lv_icmp_ne (tgt := 488) hx hb dL_law_481 (by decide) (fun h9 => absurd rfl h9) (fun _ => ?_)
    refine lv_iconst (v := 0) hx hb dL_law_484 (by decide) ?_
    refine lv_goto (tgt := 492) hx hb dL_law_485 (by decide) ?_
    refine lv_ior hx hb dL_law_492 ?_
    refine cv (y := nI mm) (by rw [show (0 : Int32) = nI 0 from rfl, fa_or, Nat.or_zero]) ?_
    refine lv_istore_n (lv' := [(3, .int (nI mm)), (4, .int 1), (13, .int (-3)), (12, .int (priceX X k (kc k))), (0, .ref b), (1, .ref d), (2, .int (nI Lc)), (5, .int (nI tn)), (6, .int (nI T)), (7, .int v), (9, .int (nI k))]) hx hb dL_law_493 rfl hl (by decide) rfl (fun ls hl => ?_)
    refine lv_goto (tgt := 606) hx hb dL_law_494 (by decide) ?_
    exact htail _ _ _ _ _ _ _ _ _ _ _ _ hk ⟨hWd1, hC, hZ, hPI.mono⟩ hS (lv_sub hl [1, 4, 5, 6, 0, 7, 8, 10] rfl) (by omega) (by omega)
theorem ret_C {g : XG} {X X9 : MS} {n k : Nat} {kc : Nat → Nat} (hC : xC g X n kc) (hr : RetTo X k (kc k) X9) : xC g X9 n kc := by
  rcases hr with ⟨q, hq, rfl⟩ | rfl | ⟨q, z, hq, hz, -, rfl⟩
  · exact gr_C hC _ _ _ _
  · exact hC
  · have h : xC g (swX X (8 * k + 0) (nI q) z) n kc := hC.same rfl (fun _ => rfl)
    exact gr_C h _ _ _ _
set_option maxHeartbeats 4000000 in
set_option maxRecDepth 100000 in
theorem law_returns {p : Program} {l : Launch} {e : Env} {s : State} {m : MethodId} {below : List Frame} {meth : Method} {c : Code} {D : va_G} {cI cO cL cJ : ClassId} {b L : Nat} {xs : Nat → Int32} (C0 : LC p l s m c D cI cO cL cJ b L xs) {d bk T n Lc mm tn k : Nat} {kc : Nat → Nat} {g : XG} {X : MS} {H : Heap} {locs : List Loc} {cells slots : Nat} {ls : Array Slot} {v : Int32} (hT : T ≤ 60) (hLI : LI D cI cO cL cJ d bk s T n kc Lc mm g X H) (hS : va_S (AH s.heap.size) s.heap H locs) (hl : lv_has ls 15 [(0, .ref b), (1, .ref d), (2, .int (nI Lc)), (3, .int (nI mm)), (4, .int 1), (5, .int (nI tn)), (6, .int (nI T)), (7, .int v), (9, .int (nI k))]) (hc : cells ≤ 10000) (hs : slots ≤ 100000) (hk : k < n) (hpd : X 8 k = 1)
    (htail : ∀ (k n' : Nat) (kc' : Nat → Nat) (Lc' mm' : Nat) (g' : XG) (X' : MS) (H' : Heap) (locs' : List Loc) (ls' : Array Slot) (cells' slots' : Nat), k < n' → LI D cI cO cL cJ d bk s (T + 1) n' kc' Lc' mm' g' X' H' → va_S (AH s.heap.size) s.heap H' locs' → lv_has ls' 15 [(4, .int 1), (0, .ref b), (1, .ref d), (2, .int (nI Lc')), (3, .int (nI mm')), (5, .int (nI tn)), (6, .int (nI T)), (9, .int (nI k))] → cells' ≤ cells + 29 → slots' ≤ slots + 174 → W p l e room_1 s m #[Value.ref b] below meth c H' locs' cells' slots' (lw_Z below #[Value.ref b] s) (F0 m 606 ls' [])) : W p l e room_1 s m #[Value.ref b] below meth c H locs cells slots (lw_Z below #[Value.ref b] s) (F0 m 509 ls []) := by
  obtain ⟨hx, hb, hml, hown, hts, hXb, hbl, hL, hK, hlt⟩ := C0
  obtain ⟨hWd, hC, hZ, hPI⟩ := hLI
  obtain ⟨hW, hE, hI, hO, hd, hbk⟩ := id hWd
  have hn30 := hC.1
  have h8a := hC.h8
  have hA : ∀ q, xA g H.size q → AH s.heap.size q := fun q h => hO.A h
  refine lv_aload_n hx hb dL_law_509 rfl (lv_at hl 1 rfl) ?_
  refine lv_iload hx hb dL_law_510 (lv_at hl 8 rfl) ?_
  refine lv_iconst (v := 0) hx hb dL_law_512 (by decide) ?_
  refine lv_iload hx hb dL_law_513 (lv_at hl 7 rfl) ?_
  refine lv_bipush (v := 8) hx hb dL_law_515 (by decide) ?_
  refine lv_ishr hx hb dL_law_517 ?_
  refine z_returns hlt ⟨hx, hb, hml, hown, hts⟩ gL_law_L_returns hW hK hE hd hbk hI hO hS hA hC hk (hPI.pos hk hpd) hl.1 (Nat.le_of_ble_eq_true rfl) dL_law_518 ⟨Nat.le_of_ble_eq_true rfl, Nat.le_of_ble_eq_true rfl⟩ ⟨by show cells + 29 ≤ 632656; omega, by show slots + 174 ≤ 7203499; omega⟩ (fun X1 H locs hp hW hz9 hk9 hS => ?_)
  have hWd1 : Wd D cI cO cL cJ d bk s g X1 H := hWd.next (Gw.refl hI rfl) hW hz9 hk9
  obtain ⟨-, hE, hI, hO, hd, hbk⟩ := id hWd1
  have hPI1 := hPI.ret (by omega) h8a hk hpd hp
  have hC1 : xC g X1 n kc := ret_C hC hp
  refine lv_istore (lv' := [(4, .int 1), (0, .ref b), (1, .ref d), (2, .int (nI Lc)), (3, .int (nI mm)), (5, .int (nI tn)), (6, .int (nI T)), (7, .int v), (9, .int (nI k))]) hx hb dL_law_521 hl (by decide) rfl (fun ls hl => ?_)
  refine lv_goto (tgt := 606) hx hb dL_law_523 (by decide) ?_
  exact htail _ _ _ _ _ _ _ _ _ _ _ _ hk ⟨hWd1, hC1, hZ, hPI1⟩ hS (lv_sub hl [0, 1, 2, 3, 4, 5, 6, 8] rfl) (by omega) (by omega)
theorem pass_C {g : XG} {X : MS} {n : Nat} {kc : Nat → Nat} {w day : Int32} (hC : xC g X n kc) : xC g (qIt (mu X 1 0 w) kc day n).2 n kc := by
  have h : ∀ k f i, f ≠ 11 → f ≠ 13 → f ≠ 18 → (qIt (mu X 1 0 w) kc day k).2 f i = (mu X 1 0 w) f i := by
    intro k
    induction k with
    | zero => intro _ _ _ _ _; rfl
    | succ k ih => intro f i a b d; exact ((wIt_fr _ k day (kc k)).1 f i a b d).trans (ih f i a b d)
  exact hC.same (h n 0 0 (by decide) (by decide) (by decide)) (fun i => h n 7 i (by decide) (by decide) (by decide))
set_option maxHeartbeats 4000000 in
set_option maxRecDepth 100000 in
theorem law_pass {p : Program} {l : Launch} {e : Env} {s : State} {m : MethodId} {below : List Frame} {meth : Method} {c : Code} {D : va_G} {cI cO cL cJ : ClassId} {b L : Nat} {xs : Nat → Int32} (C0 : LC p l s m c D cI cO cL cJ b L xs) {d bk T n Lc mm tn k : Nat} {kc : Nat → Nat} {g : XG} {X : MS} {H : Heap} {locs : List Loc} {cells slots : Nat} {ls : Array Slot} {v : Int32} (hT : T ≤ 60) (hLI : LI D cI cO cL cJ d bk s T n kc Lc mm g X H) (hS : va_S (AH s.heap.size) s.heap H locs) (hl : lv_has ls 15 [(0, .ref b), (1, .ref d), (2, .int (nI Lc)), (3, .int (nI mm)), (4, .int 1), (5, .int (nI tn)), (6, .int (nI T)), (7, .int v), (9, .int (nI k))]) (hc : cells ≤ 10000) (hs : slots ≤ 100000) (hk : k < n)
    (htail : ∀ (k n' : Nat) (kc' : Nat → Nat) (Lc' mm' : Nat) (g' : XG) (X' : MS) (H' : Heap) (locs' : List Loc) (ls' : Array Slot) (cells' slots' : Nat), k < n' → LI D cI cO cL cJ d bk s (T + 1) n' kc' Lc' mm' g' X' H' → va_S (AH s.heap.size) s.heap H' locs' → lv_has ls' 15 [(4, .int 1), (0, .ref b), (1, .ref d), (2, .int (nI Lc')), (3, .int (nI mm')), (5, .int (nI tn)), (6, .int (nI T)), (9, .int (nI k))] → cells' ≤ cells + 29 → slots' ≤ slots + 174 → W p l e room_1 s m #[Value.ref b] below meth c H' locs' cells' slots' (lw_Z below #[Value.ref b] s) (F0 m 606 ls' [])) : W p l e room_1 s m #[Value.ref b] below meth c H locs cells slots (lw_Z below #[Value.ref b] s) (F0 m 526 ls []) := by
  obtain ⟨hx, hb, hml, hown, hts, hXb, hbl, hL, hK, hlt⟩ := C0
  obtain ⟨hWd, hC, hZ, hPI⟩ := hLI
  obtain ⟨hW, hE, hI, hO, hd, hbk⟩ := id hWd
  have hn30 := hC.1
  have h8a := hC.h8
  have hA : ∀ q, xA g H.size q → AH s.heap.size q := fun q h => hO.A h
  refine lv_iconst (v := 1) hx hb dL_law_526 (by decide) ?_
  refine lv_iload hx hb dL_law_527 (lv_at hl 7 rfl) ?_
  refine lv_iload hx hb dL_law_529 (lv_at hl 7 rfl) ?_
  refine lv_bipush (v := 9) hx hb dL_law_531 (by decide) ?_
  refine lv_ishr hx hb dL_law_533 ?_
  refine lv_iconst (v := 3) hx hb dL_law_534 (by decide) ?_
  refine z_low ⟨hx, hb, hml, hown, hts⟩ gL_law_L_low (N := 3) (by decide) (by decide) hl.1 (Nat.le_of_ble_eq_true rfl) dL_law_535 ⟨Nat.le_of_ble_eq_true rfl, Nat.le_of_ble_eq_true rfl⟩ ⟨by show cells ≤ 632656; omega, by show slots ≤ 7203499; omega⟩ (fun q1 hq1 => ?_)
  refine lv_if_ne (tgt := 546) hx hb dL_law_538 (by decide) (fun c538 => ?_) (fun c538 => ?_)
  · skip
    refine lv_bipush (v := 12) hx hb dL_law_546 (by decide) ?_
    refine z_low ⟨hx, hb, hml, hown, hts⟩ gL_law_L_low (N := 12) (by decide) (by decide) hl.1 (Nat.le_of_ble_eq_true rfl) dL_law_548 ⟨Nat.le_of_ble_eq_true rfl, Nat.le_of_ble_eq_true rfl⟩ ⟨by show cells ≤ 632656; omega, by show slots ≤ 7203499; omega⟩ (fun q2 hq2 => ?_)
    refine lv_iadd hx hb dL_law_551 ?_
    refine cv (y := nI (1 + q2)) (nI_addx (a := 1) (b := q2) rfl rfl) ?_
    refine lv_istore (lv' := [(12, .int (nI (1 + q2))), (0, .ref b), (1, .ref d), (2, .int (nI Lc)), (3, .int (nI mm)), (4, .int 1), (5, .int (nI tn)), (6, .int (nI T)), (7, .int v), (9, .int (nI k))]) hx hb dL_law_552 hl (by decide) rfl (fun ls hl => ?_)
    refine lv_aload_n hx hb dL_law_554 rfl (lv_at hl 2 rfl) ?_
    refine z_day hlt ⟨hx, hb, hml, hown, hts⟩ gL_law_X2_day hW hK hE hd hbk hl.1 (Nat.le_of_ble_eq_true rfl) dL_law_555 ⟨Nat.le_of_ble_eq_true rfl, Nat.le_of_ble_eq_true rfl⟩ ⟨by show cells ≤ 632656; omega, by show slots ≤ 7203499; omega⟩ ?_
    refine lv_istore (lv' := [(13, .int (X 1 0)), (12, .int (nI (1 + q2))), (0, .ref b), (1, .ref d), (2, .int (nI Lc)), (3, .int (nI mm)), (4, .int 1), (5, .int (nI tn)), (6, .int (nI T)), (7, .int v), (9, .int (nI k))]) hx hb dL_law_558 hl (by decide) rfl (fun ls hl => ?_)
    refine lv_aload_n hx hb dL_law_560 rfl (lv_at hl 3 rfl) ?_
    refine lv_iload hx hb dL_law_561 (lv_at hl 1 rfl) ?_
    refine z_pass hlt ⟨hx, hb, hml, hown, hts⟩ gL_law_X2_pass hW hK hE hd hbk hI hO hS hA hC (w := nI (1 + q2)) (y_in1 (1 + q2) (N := 400) rfl (by omega) (by omega) (by decide)) (hPI.day (by omega) (by omega)) hl.1 (Nat.le_of_ble_eq_true rfl) dL_law_563 ⟨Nat.le_of_ble_eq_true rfl, Nat.le_of_ble_eq_true rfl⟩ ⟨by show cells + 2 ≤ 632656; omega, by show slots + 12 ≤ 7203499; omega⟩ (fun H locs hW hz9 hk9 hS => ?_)
    obtain ⟨hPI1, ⟨q9, hq9, e9⟩, e1⟩ := hPI.pass h8a (w := 1 + q2) (by omega)
    have hC1 : xC g (qIt (mu X 1 0 (X 1 0 + nI (1 + q2))) kc (X 1 0 + nI (1 + q2)) n).2 n kc := pass_C hC
    have hLc : Lc ≤ T := hPI.2.2.2.1
    generalize qIt (mu X 1 0 (X 1 0 + nI (1 + q2))) kc (X 1 0 + nI (1 + q2)) n = G at hW hPI1 e9 e1 hC1 ⊢
    have hWd1 : Wd D cI cO cL cJ d bk s g G.2 H := hWd.next (Gw.refl hI rfl) hW hz9 hk9
    obtain ⟨-, hE, hI, hO, hd, hbk⟩ := id hWd1
    have hC := hC1
    refine cv (y := nI q9) e9 ?_
    refine lv_istore (lv' := [(14, .int (nI q9)), (13, .int (X 1 0)), (12, .int (nI (1 + q2))), (0, .ref b), (1, .ref d), (2, .int (nI Lc)), (3, .int (nI mm)), (4, .int 1), (5, .int (nI tn)), (6, .int (nI T)), (7, .int v), (9, .int (nI k))]) hx hb dL_law_566 hl (by decide) rfl (fun ls hl => ?_)
    refine lv_aload_n hx hb dL_law_568 rfl (lv_at hl 4 rfl) ?_
    refine z_day hlt ⟨hx, hb, hml, hown, hts⟩ gL_law_X2_day hW hK hE hd hbk hl.1 (Nat.le_of_ble_eq_true rfl) dL_law_569 ⟨Nat.le_of_ble_eq_true rfl, Nat.le_of_ble_eq_true rfl⟩ ⟨by show cells + 2 ≤ 632656; omega, by show slots + 12 ≤ 7203499; omega⟩ ?_
    refine lv_iload hx hb dL_law_572 (lv_at hl 1 rfl) ?_
    refine lv_iload hx hb dL_law_574 (lv_at hl 2 rfl) ?_
    refine lv_iadd hx hb dL_law_576 ?_
    refine lv_icmp_ne (tgt := 603) hx hb dL_law_577 (by decide) (fun h9 => absurd e1 h9) (fun _ => ?_)
    refine lv_iload hx hb dL_law_580 (lv_at hl 0 rfl) ?_
    refine lv_if_lt (tgt := 603) hx hb dL_law_582 (by decide) (fun h9 => absurd h9 (nI_pos (by omega))) (fun _ => ?_)
    refine lv_iload hx hb dL_law_585 (lv_at hl 0 rfl) ?_
    refine lv_iload_n hx hb dL_law_587 rfl (lv_at hl 5 rfl) ?_
    refine lv_iload hx hb dL_law_588 (lv_at hl 2 rfl) ?_
    refine lv_bipush (v := 21) hx hb dL_law_590 (by decide) ?_
    refine lv_idiv hx hb dL_law_592 (by decide) ?_
    refine cv (y := nI ((1 + q2) / 21)) (pk_div (a := 1 + q2) (d := 21) (by omega) (by decide) (by decide)) ?_
    refine lv_iconst (v := 1) hx hb dL_law_593 (by decide) ?_
    refine lv_iadd hx hb dL_law_594 ?_
    refine cv (y := nI ((1 + q2) / 21 + 1)) (nI_addx (a := (1 + q2) / 21) (b := 1) rfl rfl) ?_
    refine lv_imul hx hb dL_law_595 ?_
    refine cv (y := nI (Lc * ((1 + q2) / 21 + 1))) (nI_mulx (a := Lc) (b := (1 + q2) / 21 + 1) rfl rfl) ?_
    refine lv_icmp_gt (tgt := 603) hx hb dL_law_596 (by decide) (fun h9 => absurd h9 (nI_nlt (Nat.le_trans hq9 (Nat.le_mul_of_pos_right Lc (Nat.succ_pos _))) (Nat.lt_of_le_of_lt (Nat.mul_le_mul (show Lc ≤ 60 by omega) (show ((1 + q2) / 21 + 1) ≤ 100 by omega)) (by decide)))) (fun _ => ?_)
    refine lv_iconst (v := 1) hx hb dL_law_599 (by decide) ?_
    refine lv_goto (tgt := 604) hx hb dL_law_600 (by decide) ?_
    refine lv_istore (lv' := [(4, .int 1), (14, .int (nI q9)), (13, .int (X 1 0)), (12, .int (nI (1 + q2))), (0, .ref b), (1, .ref d), (2, .int (nI Lc)), (3, .int (nI mm)), (5, .int (nI tn)), (6, .int (nI T)), (7, .int v), (9, .int (nI k))]) hx hb dL_law_604 hl (by decide) rfl (fun ls hl => ?_)
    exact htail _ _ _ _ _ _ _ _ _ _ _ _ hk ⟨hWd1, hC1, hZ, hPI1⟩ hS (lv_sub hl [0, 4, 5, 6, 7, 8, 9, 11] rfl) (by omega) (by omega)
  · skip
    refine lv_bipush (v := 60) hx hb dL_law_541 (by decide) ?_
    refine lv_goto (tgt := 548) hx hb dL_law_543 (by decide) ?_
    refine z_low ⟨hx, hb, hml, hown, hts⟩ gL_law_L_low (N := 60) (by decide) (by decide) hl.1 (Nat.le_of_ble_eq_true rfl) dL_law_548 ⟨Nat.le_of_ble_eq_true rfl, Nat.le_of_ble_eq_true rfl⟩ ⟨by show cells ≤ 632656; omega, by show slots ≤ 7203499; omega⟩ (fun q3 hq3 => ?_)
    refine lv_iadd hx hb dL_law_551 ?_
    refine cv (y := nI (1 + q3)) (nI_addx (a := 1) (b := q3) rfl rfl) ?_
    refine lv_istore (lv' := [(12, .int (nI (1 + q3))), (0, .ref b), (1, .ref d), (2, .int (nI Lc)), (3, .int (nI mm)), (4, .int 1), (5, .int (nI tn)), (6, .int (nI T)), (7, .int v), (9, .int (nI k))]) hx hb dL_law_552 hl (by decide) rfl (fun ls hl => ?_)
    refine lv_aload_n hx hb dL_law_554 rfl (lv_at hl 2 rfl) ?_
    refine z_day hlt ⟨hx, hb, hml, hown, hts⟩ gL_law_X2_day hW hK hE hd hbk hl.1 (Nat.le_of_ble_eq_true rfl) dL_law_555 ⟨Nat.le_of_ble_eq_true rfl, Nat.le_of_ble_eq_true rfl⟩ ⟨by show cells ≤ 632656; omega, by show slots ≤ 7203499; omega⟩ ?_
    refine lv_istore (lv' := [(13, .int (X 1 0)), (12, .int (nI (1 + q3))), (0, .ref b), (1, .ref d), (2, .int (nI Lc)), (3, .int (nI mm)), (4, .int 1), (5, .int (nI tn)), (6, .int (nI T)), (7, .int v), (9, .int (nI k))]) hx hb dL_law_558 hl (by decide) rfl (fun ls hl => ?_)
    refine lv_aload_n hx hb dL_law_560 rfl (lv_at hl 3 rfl) ?_
    refine lv_iload hx hb dL_law_561 (lv_at hl 1 rfl) ?_
    refine z_pass hlt ⟨hx, hb, hml, hown, hts⟩ gL_law_X2_pass hW hK hE hd hbk hI hO hS hA hC (w := nI (1 + q3)) (y_in1 (1 + q3) (N := 400) rfl (by omega) (by omega) (by decide)) (hPI.day (by omega) (by omega)) hl.1 (Nat.le_of_ble_eq_true rfl) dL_law_563 ⟨Nat.le_of_ble_eq_true rfl, Nat.le_of_ble_eq_true rfl⟩ ⟨by show cells + 2 ≤ 632656; omega, by show slots + 12 ≤ 7203499; omega⟩ (fun H locs hW hz9 hk9 hS => ?_)
    obtain ⟨hPI1, ⟨q9, hq9, e9⟩, e1⟩ := hPI.pass h8a (w := 1 + q3) (by omega)
    have hC1 : xC g (qIt (mu X 1 0 (X 1 0 + nI (1 + q3))) kc (X 1 0 + nI (1 + q3)) n).2 n kc := pass_C hC
    have hLc : Lc ≤ T := hPI.2.2.2.1
    generalize qIt (mu X 1 0 (X 1 0 + nI (1 + q3))) kc (X 1 0 + nI (1 + q3)) n = G at hW hPI1 e9 e1 hC1 ⊢
    have hWd1 : Wd D cI cO cL cJ d bk s g G.2 H := hWd.next (Gw.refl hI rfl) hW hz9 hk9
    obtain ⟨-, hE, hI, hO, hd, hbk⟩ := id hWd1
    have hC := hC1
    refine cv (y := nI q9) e9 ?_
    refine lv_istore (lv' := [(14, .int (nI q9)), (13, .int (X 1 0)), (12, .int (nI (1 + q3))), (0, .ref b), (1, .ref d), (2, .int (nI Lc)), (3, .int (nI mm)), (4, .int 1), (5, .int (nI tn)), (6, .int (nI T)), (7, .int v), (9, .int (nI k))]) hx hb dL_law_566 hl (by decide) rfl (fun ls hl => ?_)
    refine lv_aload_n hx hb dL_law_568 rfl (lv_at hl 4 rfl) ?_
    refine z_day hlt ⟨hx, hb, hml, hown, hts⟩ gL_law_X2_day hW hK hE hd hbk hl.1 (Nat.le_of_ble_eq_true rfl) dL_law_569 ⟨Nat.le_of_ble_eq_true rfl, Nat.le_of_ble_eq_true rfl⟩ ⟨by show cells + 2 ≤ 632656; omega, by show slots + 12 ≤ 7203499; omega⟩ ?_
    refine lv_iload hx hb dL_law_572 (lv_at hl 1 rfl) ?_
    refine lv_iload hx hb dL_law_574 (lv_at hl 2 rfl) ?_
    refine lv_iadd hx hb dL_law_576 ?_
    refine lv_icmp_ne (tgt := 603) hx hb dL_law_577 (by decide) (fun h9 => absurd e1 h9) (fun _ => ?_)
    refine lv_iload hx hb dL_law_580 (lv_at hl 0 rfl) ?_
    refine lv_if_lt (tgt := 603) hx hb dL_law_582 (by decide) (fun h9 => absurd h9 (nI_pos (by omega))) (fun _ => ?_)
    refine lv_iload hx hb dL_law_585 (lv_at hl 0 rfl) ?_
    refine lv_iload_n hx hb dL_law_587 rfl (lv_at hl 5 rfl) ?_
    refine lv_iload hx hb dL_law_588 (lv_at hl 2 rfl) ?_
    refine lv_bipush (v := 21) hx hb dL_law_590 (by decide) ?_
    refine lv_idiv hx hb dL_law_592 (by decide) ?_
    refine cv (y := nI ((1 + q3) / 21)) (pk_div (a := 1 + q3) (d := 21) (by omega) (by decide) (by decide)) ?_
    refine lv_iconst (v := 1) hx hb dL_law_593 (by decide) ?_
    refine lv_iadd hx hb dL_law_594 ?_
    refine cv (y := nI ((1 + q3) / 21 + 1)) (nI_addx (a := (1 + q3) / 21) (b := 1) rfl rfl) ?_
    refine lv_imul hx hb dL_law_595 ?_
    refine cv (y := nI (Lc * ((1 + q3) / 21 + 1))) (nI_mulx (a := Lc) (b := (1 + q3) / 21 + 1) rfl rfl) ?_
    refine lv_icmp_gt (tgt := 603) hx hb dL_law_596 (by decide) (fun h9 => absurd h9 (nI_nlt (Nat.le_trans hq9 (Nat.le_mul_of_pos_right Lc (Nat.succ_pos _))) (Nat.lt_of_le_of_lt (Nat.mul_le_mul (show Lc ≤ 60 by omega) (show ((1 + q3) / 21 + 1) ≤ 100 by omega)) (by decide)))) (fun _ => ?_)
    refine lv_iconst (v := 1) hx hb dL_law_599 (by decide) ?_
    refine lv_goto (tgt := 604) hx hb dL_law_600 (by decide) ?_
    refine lv_istore (lv' := [(4, .int 1), (14, .int (nI q9)), (13, .int (X 1 0)), (12, .int (nI (1 + q3))), (0, .ref b), (1, .ref d), (2, .int (nI Lc)), (3, .int (nI mm)), (5, .int (nI tn)), (6, .int (nI T)), (7, .int v), (9, .int (nI k))]) hx hb dL_law_604 hl (by decide) rfl (fun ls hl => ?_)
    exact htail _ _ _ _ _ _ _ _ _ _ _ _ hk ⟨hWd1, hC1, hZ, hPI1⟩ hS (lv_sub hl [0, 4, 5, 6, 7, 8, 9, 11] rfl) (by omega) (by omega)

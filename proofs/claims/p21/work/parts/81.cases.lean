/-! THE LAW'S TURNS: an order, a line. -/
set_option maxHeartbeats 4000000 in
set_option maxRecDepth 100000 in
theorem law_order {p : Program} {l : Launch} {e : Env} {s : State} {m : MethodId} {below : List Frame} {meth : Method} {c : Code} {D : va_G} {cI cO cL cJ : ClassId} {b L : Nat} {xs : Nat → Int32} (C0 : LC p l s m c D cI cO cL cJ b L xs) {d bk T n Lc mm tn k : Nat} {kc : Nat → Nat} {g : XG} {X : MS} {H : Heap} {locs : List Loc} {cells slots : Nat} {ls : Array Slot} {v : Int32} (hT : T ≤ 60) (hLI : LI D cI cO cL cJ d bk s T n kc Lc mm g X H) (hS : va_S (AH s.heap.size) s.heap H locs) (hl : lv_has ls 15 [(0, .ref b), (1, .ref d), (2, .int (nI Lc)), (3, .int (nI mm)), (4, .int 1), (5, .int (nI tn)), (6, .int (nI T)), (7, .int v), (8, .int (nI n)), (9, .int (nI k))]) (hc : cells ≤ 10000) (hs : slots ≤ 100000) (hk : k < n ∨ (n = 0 ∧ k = 0))
    (htail : ∀ (k n' : Nat) (kc' : Nat → Nat) (Lc' mm' : Nat) (g' : XG) (X' : MS) (H' : Heap) (locs' : List Loc) (ls' : Array Slot) (cells' slots' : Nat), k < n' → LI D cI cO cL cJ d bk s (T + 1) n' kc' Lc' mm' g' X' H' → va_S (AH s.heap.size) s.heap H' locs' → lv_has ls' 15 [(4, .int 1), (0, .ref b), (1, .ref d), (2, .int (nI Lc')), (3, .int (nI mm')), (5, .int (nI tn)), (6, .int (nI T)), (9, .int (nI k))] → cells' ≤ cells + 29 → slots' ≤ slots + 174 → W p l e room_1 s m #[Value.ref b] below meth c H' locs' cells' slots' (lw_Z below #[Value.ref b] s) (F0 m 606 ls' [])) : W p l e room_1 s m #[Value.ref b] below meth c H locs cells slots (lw_Z below #[Value.ref b] s) (F0 m 152 ls []) := by
  obtain ⟨hx, hb, hml, hown, hts, hXb, hbl, hL, hK, hlt⟩ := C0
  obtain ⟨hWd, hC, hZ, hPI⟩ := hLI
  obtain ⟨hW, hE, hI, hO, hd, hbk⟩ := id hWd
  have hn30 := hC.1
  have h8a := hC.h8
  have hA : ∀ q, xA g H.size q → AH s.heap.size q := fun q h => hO.A h
  refine lv_aload_n hx hb dL_law_152 rfl (lv_at hl 1 rfl) ?_
  refine lv_iload hx hb dL_law_153 (lv_at hl 7 rfl) ?_
  refine lv_bipush (v := 91) hx hb dL_law_155 (by decide) ?_
  refine z_low ⟨hx, hb, hml, hown, hts⟩ gL_law_L_low (N := 91) (by decide) (by decide) hl.1 (Nat.le_of_ble_eq_true rfl) dL_law_157 ⟨Nat.le_of_ble_eq_true rfl, Nat.le_of_ble_eq_true rfl⟩ ⟨by show cells ≤ 632656; omega, by show slots ≤ 7203499; omega⟩ (fun q1 hq1 => ?_)
  refine lv_iload hx hb dL_law_160 (lv_at hl 7 rfl) ?_
  refine lv_iconst (v := 5) hx hb dL_law_162 (by decide) ?_
  refine lv_ishr hx hb dL_law_163 ?_
  refine lv_iload hx hb dL_law_164 (lv_at hl 7 rfl) ?_
  refine lv_bipush (v := 17) hx hb dL_law_166 (by decide) ?_
  refine lv_ishr hx hb dL_law_168 ?_
  refine lv_iconst (v := 2) hx hb dL_law_169 (by decide) ?_
  refine z_low ⟨hx, hb, hml, hown, hts⟩ gL_law_L_low (N := 2) (by decide) (by decide) hl.1 (Nat.le_of_ble_eq_true rfl) dL_law_170 ⟨Nat.le_of_ble_eq_true rfl, Nat.le_of_ble_eq_true rfl⟩ ⟨by show cells ≤ 632656; omega, by show slots ≤ 7203499; omega⟩ (fun q2 hq2 => ?_)
  refine lv_if_ne (tgt := 181) hx hb dL_law_173 (by decide) (fun c173 => ?_) (fun c173 => ?_)
  · skip
    refine lv_sipush (v := 3000) hx hb dL_law_181 (by decide) ?_
    refine z_low ⟨hx, hb, hml, hown, hts⟩ gL_law_L_low (N := 3000) (by decide) (by decide) hl.1 (Nat.le_of_ble_eq_true rfl) dL_law_184 ⟨Nat.le_of_ble_eq_true rfl, Nat.le_of_ble_eq_true rfl⟩ ⟨by show cells ≤ 632656; omega, by show slots ≤ 7203499; omega⟩ (fun q3 hq3 => ?_)
    refine z_order hlt ⟨hx, hb, hml, hown, hts⟩ gL_law_L_order hW hK hE hd hbk hI hO hS hA hC hZ (y_in q1 (N := 90) rfl (by omega) (by decide)) (y_in q3 (N := 1000000) rfl (by omega) (by decide)) hl.1 (Nat.le_of_ble_eq_true rfl) dL_law_187 ⟨Nat.le_of_ble_eq_true rfl, Nat.le_of_ble_eq_true rfl⟩ ⟨by show cells + 4 ≤ 632656; omega, by show slots + 32 ≤ 7203499; omega⟩ (fun r u H locs hp hW hz9 hk9 hS => ?_)
    obtain ⟨g1, X1⟩ := u
    rcases hp with ⟨qo, la, a1, a2, a3, a4, a5, rfl, a7⟩ | ⟨rfl, a1, a2⟩
    · skip
      dsimp only at a4 a5 hW
      have hWd1 : Wd D cI cO cL cJ d bk s g1 X1 H := hWd.next (gw_order hI (fun t i a h => xW.lt hWd.1 h) a1 a2 a3 a4) hW hz9 hk9
      obtain ⟨-, hE, hI, hO, hd, hbk⟩ := id hWd1
      obtain ⟨hC1, hZ1⟩ := xC.ord hC hZ (qo := qo) (la := la) (p0 := nI q1) (p1 := nI q3) a7
      rw [← a4, ← a5] at hC1
      rw [← a4] at hZ1
      have hPI1 := hPI.order a7 (p1 := nI q3) (y_in q1 (N := 90) rfl (by omega) (by decide))
      rw [← a5] at hPI1
      have hC := hC1
      refine lv_istore (lv' := [(12, .int (nI n)), (0, .ref b), (1, .ref d), (2, .int (nI Lc)), (3, .int (nI mm)), (4, .int 1), (5, .int (nI tn)), (6, .int (nI T)), (7, .int v), (8, .int (nI n)), (9, .int (nI k))]) hx hb dL_law_190 hl (by decide) rfl (fun ls hl => ?_)
      refine lv_iload hx hb dL_law_192 (lv_at hl 0 rfl) ?_
      refine lv_bipush (v := (-3)) hx hb dL_law_194 (by decide) ?_
      refine lv_icmp_ne (tgt := 214) hx hb dL_law_196 (by decide) (fun _ => ?_) (fun h9 => absurd h9 (ne_m3 (by omega)))
      refine lv_iload hx hb dL_law_214 (lv_at hl 0 rfl) ?_
      refine lv_iload hx hb dL_law_216 (lv_at hl 9 rfl) ?_
      refine lv_icmp_ne (tgt := 234) hx hb dL_law_218 (by decide) (fun h9 => absurd rfl h9) (fun _ => ?_)
      refine lv_aload_n hx hb dL_law_221 rfl (lv_at hl 2 rfl) ?_
      refine lv_iload hx hb dL_law_222 (lv_at hl 0 rfl) ?_
      refine z_price hlt ⟨hx, hb, hml, hown, hts⟩ gL_law_X2_price hW hK hE hd hbk hC (k := n) (Nat.lt_succ_self n) hl.1 (Nat.le_of_ble_eq_true rfl) dL_law_224 ⟨Nat.le_of_ble_eq_true rfl, Nat.le_of_ble_eq_true rfl⟩ ⟨by show cells + 4 + 1 ≤ 632656; omega, by show slots + 32 + 6 ≤ 7203499; omega⟩ ?_
      refine lv_if_ne (tgt := 234) hx hb dL_law_227 (by decide) (fun h9 => absurd (by show priceX _ n (if n = n then 0 else kc n) = 0; rw [if_pos rfl]; exact price_0 _ _) h9) (fun _ => ?_)
      refine lv_iconst (v := 1) hx hb dL_law_230 (by decide) ?_
      refine lv_goto (tgt := 235) hx hb dL_law_231 (by decide) ?_
      refine lv_istore (lv' := [(4, .int 1), (12, .int (nI n)), (0, .ref b), (1, .ref d), (2, .int (nI Lc)), (3, .int (nI mm)), (5, .int (nI tn)), (6, .int (nI T)), (7, .int v), (8, .int (nI n)), (9, .int (nI k))]) hx hb dL_law_235 hl (by decide) rfl (fun ls hl => ?_)
      refine lv_goto (tgt := 606) hx hb dL_law_237 (by decide) ?_
      exact htail _ _ _ _ _ _ _ _ _ _ _ _ (show k < n + 1 by omega) ⟨hWd1, hC1, hZ1, hPI1⟩ hS (lv_sub hl [0, 2, 3, 4, 5, 6, 7, 10] rfl) (by omega) (by omega)
    · skip
      obtain ⟨rfl, rfl⟩ : g = g1 ∧ X = X1 := ⟨(congrArg Prod.fst a2).symm, (congrArg Prod.snd a2).symm⟩
      dsimp only at hW
      have hWd1 : Wd D cI cO cL cJ d bk s g X H := hWd.next (Gw.refl hI rfl) hW hz9 hk9
      obtain ⟨-, hE, hI, hO, hd, hbk⟩ := id hWd1
      refine lv_istore (lv' := [(12, .int (-3)), (0, .ref b), (1, .ref d), (2, .int (nI Lc)), (3, .int (nI mm)), (4, .int 1), (5, .int (nI tn)), (6, .int (nI T)), (7, .int v), (8, .int (nI n)), (9, .int (nI k))]) hx hb dL_law_190 hl (by decide) rfl (fun ls hl => ?_)
      refine lv_iload hx hb dL_law_192 (lv_at hl 0 rfl) ?_
      refine lv_bipush (v := (-3)) hx hb dL_law_194 (by decide) ?_
      refine lv_icmp_ne (tgt := 214) hx hb dL_law_196 (by decide) (fun h9 => absurd rfl h9) (fun _ => ?_)
      refine lv_iload hx hb dL_law_199 (lv_at hl 9 rfl) ?_
      refine lv_bipush (v := 30) hx hb dL_law_201 (by decide) ?_
      refine lv_icmp_ne (tgt := 210) hx hb dL_law_203 (by decide) (fun h9 => absurd (by rw [show n = 30 by omega]; rfl) h9) (fun _ => ?_)
      refine lv_iconst (v := 1) hx hb dL_law_206 (by decide) ?_
      refine lv_goto (tgt := 235) hx hb dL_law_207 (by decide) ?_
      refine lv_istore (lv' := [(4, .int 1), (12, .int (-3)), (0, .ref b), (1, .ref d), (2, .int (nI Lc)), (3, .int (nI mm)), (5, .int (nI tn)), (6, .int (nI T)), (7, .int v), (8, .int (nI n)), (9, .int (nI k))]) hx hb dL_law_235 hl (by decide) rfl (fun ls hl => ?_)
      refine lv_goto (tgt := 606) hx hb dL_law_237 (by decide) ?_
      exact htail _ _ _ _ _ _ _ _ _ _ _ _ (show k < n by omega) ⟨hWd1, hC, hZ, hPI.mono⟩ hS (lv_sub hl [0, 2, 3, 4, 5, 6, 7, 10] rfl) (by omega) (by omega)
  · skip
    refine lv_ldc (v := 1000001) hx hb hown (hts (.constant RL 90 (1000001)) (List.mem_of_getElem? (i := 3) rfl)) dL_law_176 ?_
    refine lv_goto (tgt := 184) hx hb dL_law_178 (by decide) ?_
    refine z_low ⟨hx, hb, hml, hown, hts⟩ gL_law_L_low (N := 1000001) (by decide) (by decide) hl.1 (Nat.le_of_ble_eq_true rfl) dL_law_184 ⟨Nat.le_of_ble_eq_true rfl, Nat.le_of_ble_eq_true rfl⟩ ⟨by show cells ≤ 632656; omega, by show slots ≤ 7203499; omega⟩ (fun q4 hq4 => ?_)
    refine z_order hlt ⟨hx, hb, hml, hown, hts⟩ gL_law_L_order hW hK hE hd hbk hI hO hS hA hC hZ (y_in q1 (N := 90) rfl (by omega) (by decide)) (y_in q4 (N := 1000000) rfl (by omega) (by decide)) hl.1 (Nat.le_of_ble_eq_true rfl) dL_law_187 ⟨Nat.le_of_ble_eq_true rfl, Nat.le_of_ble_eq_true rfl⟩ ⟨by show cells + 4 ≤ 632656; omega, by show slots + 32 ≤ 7203499; omega⟩ (fun r u H locs hp hW hz9 hk9 hS => ?_)
    obtain ⟨g1, X1⟩ := u
    rcases hp with ⟨qo, la, a1, a2, a3, a4, a5, rfl, a7⟩ | ⟨rfl, a1, a2⟩
    · skip
      dsimp only at a4 a5 hW
      have hWd1 : Wd D cI cO cL cJ d bk s g1 X1 H := hWd.next (gw_order hI (fun t i a h => xW.lt hWd.1 h) a1 a2 a3 a4) hW hz9 hk9
      obtain ⟨-, hE, hI, hO, hd, hbk⟩ := id hWd1
      obtain ⟨hC1, hZ1⟩ := xC.ord hC hZ (qo := qo) (la := la) (p0 := nI q1) (p1 := nI q4) a7
      rw [← a4, ← a5] at hC1
      rw [← a4] at hZ1
      have hPI1 := hPI.order a7 (p1 := nI q4) (y_in q1 (N := 90) rfl (by omega) (by decide))
      rw [← a5] at hPI1
      have hC := hC1
      refine lv_istore (lv' := [(12, .int (nI n)), (0, .ref b), (1, .ref d), (2, .int (nI Lc)), (3, .int (nI mm)), (4, .int 1), (5, .int (nI tn)), (6, .int (nI T)), (7, .int v), (8, .int (nI n)), (9, .int (nI k))]) hx hb dL_law_190 hl (by decide) rfl (fun ls hl => ?_)
      refine lv_iload hx hb dL_law_192 (lv_at hl 0 rfl) ?_
      refine lv_bipush (v := (-3)) hx hb dL_law_194 (by decide) ?_
      refine lv_icmp_ne (tgt := 214) hx hb dL_law_196 (by decide) (fun _ => ?_) (fun h9 => absurd h9 (ne_m3 (by omega)))
      refine lv_iload hx hb dL_law_214 (lv_at hl 0 rfl) ?_
      refine lv_iload hx hb dL_law_216 (lv_at hl 9 rfl) ?_
      refine lv_icmp_ne (tgt := 234) hx hb dL_law_218 (by decide) (fun h9 => absurd rfl h9) (fun _ => ?_)
      refine lv_aload_n hx hb dL_law_221 rfl (lv_at hl 2 rfl) ?_
      refine lv_iload hx hb dL_law_222 (lv_at hl 0 rfl) ?_
      refine z_price hlt ⟨hx, hb, hml, hown, hts⟩ gL_law_X2_price hW hK hE hd hbk hC (k := n) (Nat.lt_succ_self n) hl.1 (Nat.le_of_ble_eq_true rfl) dL_law_224 ⟨Nat.le_of_ble_eq_true rfl, Nat.le_of_ble_eq_true rfl⟩ ⟨by show cells + 4 + 1 ≤ 632656; omega, by show slots + 32 + 6 ≤ 7203499; omega⟩ ?_
      refine lv_if_ne (tgt := 234) hx hb dL_law_227 (by decide) (fun h9 => absurd (by show priceX _ n (if n = n then 0 else kc n) = 0; rw [if_pos rfl]; exact price_0 _ _) h9) (fun _ => ?_)
      refine lv_iconst (v := 1) hx hb dL_law_230 (by decide) ?_
      refine lv_goto (tgt := 235) hx hb dL_law_231 (by decide) ?_
      refine lv_istore (lv' := [(4, .int 1), (12, .int (nI n)), (0, .ref b), (1, .ref d), (2, .int (nI Lc)), (3, .int (nI mm)), (5, .int (nI tn)), (6, .int (nI T)), (7, .int v), (8, .int (nI n)), (9, .int (nI k))]) hx hb dL_law_235 hl (by decide) rfl (fun ls hl => ?_)
      refine lv_goto (tgt := 606) hx hb dL_law_237 (by decide) ?_
      exact htail _ _ _ _ _ _ _ _ _ _ _ _ (show k < n + 1 by omega) ⟨hWd1, hC1, hZ1, hPI1⟩ hS (lv_sub hl [0, 2, 3, 4, 5, 6, 7, 10] rfl) (by omega) (by omega)
    · skip
      obtain ⟨rfl, rfl⟩ : g = g1 ∧ X = X1 := ⟨(congrArg Prod.fst a2).symm, (congrArg Prod.snd a2).symm⟩
      dsimp only at hW
      have hWd1 : Wd D cI cO cL cJ d bk s g X H := hWd.next (Gw.refl hI rfl) hW hz9 hk9
      obtain ⟨-, hE, hI, hO, hd, hbk⟩ := id hWd1
      refine lv_istore (lv' := [(12, .int (-3)), (0, .ref b), (1, .ref d), (2, .int (nI Lc)), (3, .int (nI mm)), (4, .int 1), (5, .int (nI tn)), (6, .int (nI T)), (7, .int v), (8, .int (nI n)), (9, .int (nI k))]) hx hb dL_law_190 hl (by decide) rfl (fun ls hl => ?_)
      refine lv_iload hx hb dL_law_192 (lv_at hl 0 rfl) ?_
      refine lv_bipush (v := (-3)) hx hb dL_law_194 (by decide) ?_
      refine lv_icmp_ne (tgt := 214) hx hb dL_law_196 (by decide) (fun h9 => absurd rfl h9) (fun _ => ?_)
      refine lv_iload hx hb dL_law_199 (lv_at hl 9 rfl) ?_
      refine lv_bipush (v := 30) hx hb dL_law_201 (by decide) ?_
      refine lv_icmp_ne (tgt := 210) hx hb dL_law_203 (by decide) (fun h9 => absurd (by rw [show n = 30 by omega]; rfl) h9) (fun _ => ?_)
      refine lv_iconst (v := 1) hx hb dL_law_206 (by decide) ?_
      refine lv_goto (tgt := 235) hx hb dL_law_207 (by decide) ?_
      refine lv_istore (lv' := [(4, .int 1), (12, .int (-3)), (0, .ref b), (1, .ref d), (2, .int (nI Lc)), (3, .int (nI mm)), (5, .int (nI tn)), (6, .int (nI T)), (7, .int v), (8, .int (nI n)), (9, .int (nI k))]) hx hb dL_law_235 hl (by decide) rfl (fun ls hl => ?_)
      refine lv_goto (tgt := 606) hx hb dL_law_237 (by decide) ?_
      exact htail _ _ _ _ _ _ _ _ _ _ _ _ (show k < n by omega) ⟨hWd1, hC, hZ, hPI.mono⟩ hS (lv_sub hl [0, 2, 3, 4, 5, 6, 7, 10] rfl) (by omega) (by omega)
set_option maxHeartbeats 4000000 in
set_option maxRecDepth 100000 in
theorem law_add {p : Program} {l : Launch} {e : Env} {s : State} {m : MethodId} {below : List Frame} {meth : Method} {c : Code} {D : va_G} {cI cO cL cJ : ClassId} {b L : Nat} {xs : Nat → Int32} (C0 : LC p l s m c D cI cO cL cJ b L xs) {d bk T n Lc mm tn k : Nat} {kc : Nat → Nat} {g : XG} {X : MS} {H : Heap} {locs : List Loc} {cells slots : Nat} {ls : Array Slot} {v : Int32} (hT : T ≤ 60) (hLI : LI D cI cO cL cJ d bk s T n kc Lc mm g X H) (hS : va_S (AH s.heap.size) s.heap H locs) (hl : lv_has ls 15 [(0, .ref b), (1, .ref d), (2, .int (nI Lc)), (3, .int (nI mm)), (4, .int 1), (5, .int (nI tn)), (6, .int (nI T)), (7, .int v), (9, .int (nI k))]) (hc : cells ≤ 10000) (hs : slots ≤ 100000) (hk : k < n) (hop : X 8 k = 0)
    (htail : ∀ (k n' : Nat) (kc' : Nat → Nat) (Lc' mm' : Nat) (g' : XG) (X' : MS) (H' : Heap) (locs' : List Loc) (ls' : Array Slot) (cells' slots' : Nat), k < n' → LI D cI cO cL cJ d bk s (T + 1) n' kc' Lc' mm' g' X' H' → va_S (AH s.heap.size) s.heap H' locs' → lv_has ls' 15 [(4, .int 1), (0, .ref b), (1, .ref d), (2, .int (nI Lc')), (3, .int (nI mm')), (5, .int (nI tn)), (6, .int (nI T)), (9, .int (nI k))] → cells' ≤ cells + 29 → slots' ≤ slots + 174 → W p l e room_1 s m #[Value.ref b] below meth c H' locs' cells' slots' (lw_Z below #[Value.ref b] s) (F0 m 606 ls' [])) : W p l e room_1 s m #[Value.ref b] below meth c H locs cells slots (lw_Z below #[Value.ref b] s) (F0 m 251 ls []) := by
  obtain ⟨hx, hb, hml, hown, hts, hXb, hbl, hL, hK, hlt⟩ := C0
  obtain ⟨hWd, hC, hZ, hPI⟩ := hLI
  obtain ⟨hW, hE, hI, hO, hd, hbk⟩ := id hWd
  have hn30 := hC.1
  have h8a := hC.h8
  have hA : ∀ q, xA g H.size q → AH s.heap.size q := fun q h => hO.A h
  refine lv_iconst (v := 1) hx hb dL_law_251 (by decide) ?_
  refine lv_iload hx hb dL_law_252 (lv_at hl 7 rfl) ?_
  refine lv_iload hx hb dL_law_254 (lv_at hl 7 rfl) ?_
  refine lv_bipush (v := 17) hx hb dL_law_256 (by decide) ?_
  refine lv_ishr hx hb dL_law_258 ?_
  refine lv_iconst (v := 2) hx hb dL_law_259 (by decide) ?_
  refine z_low ⟨hx, hb, hml, hown, hts⟩ gL_law_L_low (N := 2) (by decide) (by decide) hl.1 (Nat.le_of_ble_eq_true rfl) dL_law_260 ⟨Nat.le_of_ble_eq_true rfl, Nat.le_of_ble_eq_true rfl⟩ ⟨by show cells ≤ 632656; omega, by show slots ≤ 7203499; omega⟩ (fun q1 hq1 => ?_)
  refine lv_if_ne (tgt := 271) hx hb dL_law_263 (by decide) (fun c263 => ?_) (fun c263 => ?_)
  · skip
    refine lv_sipush (v := 2000) hx hb dL_law_271 (by decide) ?_
    refine z_low ⟨hx, hb, hml, hown, hts⟩ gL_law_L_low (N := 2000) (by decide) (by decide) hl.1 (Nat.le_of_ble_eq_true rfl) dL_law_274 ⟨Nat.le_of_ble_eq_true rfl, Nat.le_of_ble_eq_true rfl⟩ ⟨by show cells ≤ 632656; omega, by show slots ≤ 7203499; omega⟩ (fun q2 hq2 => ?_)
    refine lv_iadd hx hb dL_law_277 ?_
    refine cv (y := nI (1 + q2)) (nI_addx (a := 1) (b := q2) rfl rfl) ?_
    refine lv_istore (lv' := [(12, .int (nI (1 + q2))), (0, .ref b), (1, .ref d), (2, .int (nI Lc)), (3, .int (nI mm)), (4, .int 1), (5, .int (nI tn)), (6, .int (nI T)), (7, .int v), (9, .int (nI k))]) hx hb dL_law_278 hl (by decide) rfl (fun ls hl => ?_)
    refine lv_aload_n hx hb dL_law_280 rfl (lv_at hl 2 rfl) ?_
    refine lv_iload hx hb dL_law_281 (lv_at hl 9 rfl) ?_
    refine lv_iload hx hb dL_law_283 (lv_at hl 0 rfl) ?_
    refine lv_iload hx hb dL_law_285 (lv_at hl 8 rfl) ?_
    refine lv_bipush (v := 9) hx hb dL_law_287 (by decide) ?_
    refine lv_ishr hx hb dL_law_289 ?_
    refine lv_iconst (v := 3) hx hb dL_law_290 (by decide) ?_
    refine z_low ⟨hx, hb, hml, hown, hts⟩ gL_law_L_low (N := 3) (by decide) (by decide) hl.1 (Nat.le_of_ble_eq_true rfl) dL_law_291 ⟨Nat.le_of_ble_eq_true rfl, Nat.le_of_ble_eq_true rfl⟩ ⟨by show cells ≤ 632656; omega, by show slots ≤ 7203499; omega⟩ (fun q3 hq3 => ?_)
    refine z_add hlt ⟨hx, hb, hml, hown, hts⟩ gL_law_L_add hW hK hE hd hbk hI hO hS hA hC hZ hk hop (p1 := nI (1 + q2)) (p2 := nI q3) (y_in1 (1 + q2) (N := 100000) rfl (by omega) (by omega) (by decide)) (y_in q3 (N := 2) rfl (by omega) (by decide)) hl.1 (Nat.le_of_ble_eq_true rfl) dL_law_294 ⟨Nat.le_of_ble_eq_true rfl, Nat.le_of_ble_eq_true rfl⟩ ⟨by show cells + 4 ≤ 632656; omega, by show slots + 24 ≤ 7203499; omega⟩ (fun r u H locs hp hW hz9 hk9 hS => ?_)
    obtain ⟨g1, X1⟩ := u
    rcases hp with ⟨al, h8, a1, a4, a5, rfl⟩ | ⟨rfl, a1, a2⟩
    · skip
      dsimp only at a4 a5 hW
      have a5 : X1 = addX X k (kc k) (nI (1 + q2)) (nI q3) := a5
      have hWd1 : Wd D cI cO cL cJ d bk s g1 X1 H := hWd.next (gw_add hI (fun t i a h => xW.lt hWd.1 h) a1 a4) hW hz9 hk9
      obtain ⟨-, hE, hI, hO, hd, hbk⟩ := id hWd1
      obtain ⟨hC1, hZ1⟩ := xC.add hC hZ (al := al) (p1 := nI (1 + q2)) (p2 := nI q3) hk h8
      have hC1 : xC g1 X1 n (fun i => if i = k then kc k + 1 else kc i) := by rw [a4, a5]; exact hC1
      rw [← a4] at hZ1
      have hPI1 := hPI.add hn30 h8a hk hop h8 (p2 := nI q3) (y_in1 (1 + q2) (N := 100000) rfl (by omega) (by omega) (by decide))
      have hPr := hPI.addPr hn30 hk hop h8 (p2 := nI q3) (y_in1 (1 + q2) (N := 100000) rfl (by omega) (by omega) (by decide))
      have h18 : X1 18 (8 * k + kc k) = 0 := by rw [a5]; exact addX_new.2
      rw [← a5] at hPI1 hPr
      have hC := hC1
      have hkk : (if k = k then kc k + 1 else kc k) = kc k + 1 := if_pos rfl
      refine lv_istore (lv' := [(13, .int (nI (kc k))), (12, .int (nI (1 + q2))), (0, .ref b), (1, .ref d), (2, .int (nI Lc)), (3, .int (nI mm)), (4, .int 1), (5, .int (nI tn)), (6, .int (nI T)), (7, .int v), (9, .int (nI k))]) hx hb dL_law_297 hl (by decide) rfl (fun ls hl => ?_)
      refine lv_iload hx hb dL_law_299 (lv_at hl 0 rfl) ?_
      refine lv_bipush (v := (-3)) hx hb dL_law_301 (by decide) ?_
      refine lv_icmp_eq (tgt := 338) hx hb dL_law_303 (by decide) (fun h9 => absurd h9 (ne_m3 (by omega))) (fun _ => ?_)
      refine lv_iload hx hb dL_law_306 (lv_at hl 0 rfl) ?_
      refine lv_if_lt (tgt := 342) hx hb dL_law_308 (by decide) (fun h9 => absurd h9 (nI_pos (by omega))) (fun _ => ?_)
      refine lv_iload hx hb dL_law_311 (lv_at hl 0 rfl) ?_
      refine lv_bipush (v := 8) hx hb dL_law_313 (by decide) ?_
      refine lv_icmp_ge (tgt := 342) hx hb dL_law_315 (by decide) (fun h9 => absurd h9 (nI_ge (a := kc k) (b := 8) (by omega) (by decide))) (fun _ => ?_)
      refine lv_aload_n hx hb dL_law_318 rfl (lv_at hl 3 rfl) ?_
      refine lv_iload hx hb dL_law_319 (lv_at hl 10 rfl) ?_
      refine lv_iload hx hb dL_law_321 (lv_at hl 0 rfl) ?_
      refine z_state hlt ⟨hx, hb, hml, hown, hts⟩ gL_law_X2_state hW hK hE hd hbk hC (k := k) (j := kc k) hk (show kc k < (if k = k then kc k + 1 else kc k) by omega) hl.1 (Nat.le_of_ble_eq_true rfl) dL_law_323 ⟨Nat.le_of_ble_eq_true rfl, Nat.le_of_ble_eq_true rfl⟩ ⟨by show cells + 4 + 2 ≤ 632656; omega, by show slots + 24 + 12 ≤ 7203499; omega⟩ ?_
      refine lv_if_ne (tgt := 342) hx hb dL_law_326 (by decide) (fun h9 => absurd h18 h9) (fun _ => ?_)
      refine lv_aload_n hx hb dL_law_329 rfl (lv_at hl 3 rfl) ?_
      refine lv_iload hx hb dL_law_330 (lv_at hl 10 rfl) ?_
      refine z_price hlt ⟨hx, hb, hml, hown, hts⟩ gL_law_X2_price hW hK hE hd hbk hC (k := k) hk hl.1 (Nat.le_of_ble_eq_true rfl) dL_law_332 ⟨Nat.le_of_ble_eq_true rfl, Nat.le_of_ble_eq_true rfl⟩ ⟨by show cells + 4 + 2 + 1 ≤ 632656; omega, by show slots + 24 + 12 + 6 ≤ 7203499; omega⟩ ?_
      refine lv_if_le (tgt := 342) hx hb dL_law_335 (by decide) (fun h9 => absurd h9 (by show ¬ priceX X1 k (if k = k then kc k + 1 else kc k) ≤ 0; rw [hkk]; exact hPr)) (fun _ => ?_)
      refine lv_iconst (v := 1) hx hb dL_law_338 (by decide) ?_
      refine lv_goto (tgt := 343) hx hb dL_law_339 (by decide) ?_
      refine lv_istore (lv' := [(4, .int 1), (13, .int (nI (kc k))), (12, .int (nI (1 + q2))), (0, .ref b), (1, .ref d), (2, .int (nI Lc)), (3, .int (nI mm)), (5, .int (nI tn)), (6, .int (nI T)), (7, .int v), (9, .int (nI k))]) hx hb dL_law_343 hl (by decide) rfl (fun ls hl => ?_)
      refine lv_iload_n hx hb dL_law_345 rfl (lv_at hl 5 rfl) ?_
      refine lv_iload hx hb dL_law_346 (lv_at hl 1 rfl) ?_
      refine lv_bipush (v := (-3)) hx hb dL_law_348 (by decide) ?_
      refine lv_icmp_ne (tgt := 357) hx hb dL_law_350 (by decide) (fun _ => ?_) (fun h9 => absurd h9 (ne_m3 (by omega)))
      refine lv_iconst (v := 1) hx hb dL_law_357 (by decide) ?_
      refine lv_iadd hx hb dL_law_358 ?_
      refine cv (y := nI (Lc + 1)) (nI_addx (a := Lc) (b := 1) rfl rfl) ?_
      refine lv_istore_n (lv' := [(2, .int (nI (Lc + 1))), (4, .int 1), (13, .int (nI (kc k))), (12, .int (nI (1 + q2))), (0, .ref b), (1, .ref d), (3, .int (nI mm)), (5, .int (nI tn)), (6, .int (nI T)), (7, .int v), (9, .int (nI k))]) hx hb dL_law_359 rfl hl (by decide) rfl (fun ls hl => ?_)
      refine lv_goto (tgt := 606) hx hb dL_law_360 (by decide) ?_
      exact htail _ _ _ _ _ _ _ _ _ _ _ _ hk ⟨hWd1, hC1, hZ1, hPI1⟩ hS (lv_sub hl [1, 4, 5, 0, 6, 7, 8, 10] rfl) (by omega) (by omega)
    · skip
      obtain ⟨rfl, rfl⟩ : g = g1 ∧ X = X1 := ⟨(congrArg Prod.fst a2).symm, (congrArg Prod.snd a2).symm⟩
      dsimp only at hW
      have hWd1 : Wd D cI cO cL cJ d bk s g X H := hWd.next (Gw.refl hI rfl) hW hz9 hk9
      obtain ⟨-, hE, hI, hO, hd, hbk⟩ := id hWd1
      refine lv_istore (lv' := [(13, .int (-3)), (12, .int (nI (1 + q2))), (0, .ref b), (1, .ref d), (2, .int (nI Lc)), (3, .int (nI mm)), (4, .int 1), (5, .int (nI tn)), (6, .int (nI T)), (7, .int v), (9, .int (nI k))]) hx hb dL_law_297 hl (by decide) rfl (fun ls hl => ?_)
      refine lv_iload hx hb dL_law_299 (lv_at hl 0 rfl) ?_
      refine lv_bipush (v := (-3)) hx hb dL_law_301 (by decide) ?_
      refine lv_icmp_eq (tgt := 338) hx hb dL_law_303 (by decide) (fun _ => ?_) (fun h9 => absurd rfl h9)
      refine lv_iconst (v := 1) hx hb dL_law_338 (by decide) ?_
      refine lv_goto (tgt := 343) hx hb dL_law_339 (by decide) ?_
      refine lv_istore (lv' := [(4, .int 1), (13, .int (-3)), (12, .int (nI (1 + q2))), (0, .ref b), (1, .ref d), (2, .int (nI Lc)), (3, .int (nI mm)), (5, .int (nI tn)), (6, .int (nI T)), (7, .int v), (9, .int (nI k))]) hx hb dL_law_343 hl (by decide) rfl (fun ls hl => ?_)
      refine lv_iload_n hx hb dL_law_345 rfl (lv_at hl 5 rfl) ?_
      refine lv_iload hx hb dL_law_346 (lv_at hl 1 rfl) ?_
      refine lv_bipush (v := (-3)) hx hb dL_law_348 (by decide) ?_
      refine lv_icmp_ne (tgt := 357) hx hb dL_law_350 (by decide) (fun h9 => absurd rfl h9) (fun _ => ?_)
      refine lv_iconst (v := 0) hx hb dL_law_353 (by decide) ?_
      refine lv_goto (tgt := 358) hx hb dL_law_354 (by decide) ?_
      refine lv_iadd hx hb dL_law_358 ?_
      refine cv (y := nI Lc) (nI_addx (a := Lc) (b := 0) rfl rfl) ?_
      refine lv_istore_n (lv' := [(2, .int (nI Lc)), (4, .int 1), (13, .int (-3)), (12, .int (nI (1 + q2))), (0, .ref b), (1, .ref d), (3, .int (nI mm)), (5, .int (nI tn)), (6, .int (nI T)), (7, .int v), (9, .int (nI k))]) hx hb dL_law_359 rfl hl (by decide) rfl (fun ls hl => ?_)
      refine lv_goto (tgt := 606) hx hb dL_law_360 (by decide) ?_
      exact htail _ _ _ _ _ _ _ _ _ _ _ _ hk ⟨hWd1, hC, hZ, hPI.mono⟩ hS (lv_sub hl [1, 4, 5, 0, 6, 7, 8, 10] rfl) (by omega) (by omega)
  · skip
    refine lv_ldc (v := 100000) hx hb hown (hts (.constant RL 94 (100000)) (List.mem_of_getElem? (i := 4) rfl)) dL_law_266 ?_
    refine lv_goto (tgt := 274) hx hb dL_law_268 (by decide) ?_
    refine z_low ⟨hx, hb, hml, hown, hts⟩ gL_law_L_low (N := 100000) (by decide) (by decide) hl.1 (Nat.le_of_ble_eq_true rfl) dL_law_274 ⟨Nat.le_of_ble_eq_true rfl, Nat.le_of_ble_eq_true rfl⟩ ⟨by show cells ≤ 632656; omega, by show slots ≤ 7203499; omega⟩ (fun q4 hq4 => ?_)
    refine lv_iadd hx hb dL_law_277 ?_
    refine cv (y := nI (1 + q4)) (nI_addx (a := 1) (b := q4) rfl rfl) ?_
    refine lv_istore (lv' := [(12, .int (nI (1 + q4))), (0, .ref b), (1, .ref d), (2, .int (nI Lc)), (3, .int (nI mm)), (4, .int 1), (5, .int (nI tn)), (6, .int (nI T)), (7, .int v), (9, .int (nI k))]) hx hb dL_law_278 hl (by decide) rfl (fun ls hl => ?_)
    refine lv_aload_n hx hb dL_law_280 rfl (lv_at hl 2 rfl) ?_
    refine lv_iload hx hb dL_law_281 (lv_at hl 9 rfl) ?_
    refine lv_iload hx hb dL_law_283 (lv_at hl 0 rfl) ?_
    refine lv_iload hx hb dL_law_285 (lv_at hl 8 rfl) ?_
    refine lv_bipush (v := 9) hx hb dL_law_287 (by decide) ?_
    refine lv_ishr hx hb dL_law_289 ?_
    refine lv_iconst (v := 3) hx hb dL_law_290 (by decide) ?_
    refine z_low ⟨hx, hb, hml, hown, hts⟩ gL_law_L_low (N := 3) (by decide) (by decide) hl.1 (Nat.le_of_ble_eq_true rfl) dL_law_291 ⟨Nat.le_of_ble_eq_true rfl, Nat.le_of_ble_eq_true rfl⟩ ⟨by show cells ≤ 632656; omega, by show slots ≤ 7203499; omega⟩ (fun q5 hq5 => ?_)
    refine z_add hlt ⟨hx, hb, hml, hown, hts⟩ gL_law_L_add hW hK hE hd hbk hI hO hS hA hC hZ hk hop (p1 := nI (1 + q4)) (p2 := nI q5) (y_in1 (1 + q4) (N := 100000) rfl (by omega) (by omega) (by decide)) (y_in q5 (N := 2) rfl (by omega) (by decide)) hl.1 (Nat.le_of_ble_eq_true rfl) dL_law_294 ⟨Nat.le_of_ble_eq_true rfl, Nat.le_of_ble_eq_true rfl⟩ ⟨by show cells + 4 ≤ 632656; omega, by show slots + 24 ≤ 7203499; omega⟩ (fun r u H locs hp hW hz9 hk9 hS => ?_)
    obtain ⟨g1, X1⟩ := u
    rcases hp with ⟨al, h8, a1, a4, a5, rfl⟩ | ⟨rfl, a1, a2⟩
    · skip
      dsimp only at a4 a5 hW
      have a5 : X1 = addX X k (kc k) (nI (1 + q4)) (nI q5) := a5
      have hWd1 : Wd D cI cO cL cJ d bk s g1 X1 H := hWd.next (gw_add hI (fun t i a h => xW.lt hWd.1 h) a1 a4) hW hz9 hk9
      obtain ⟨-, hE, hI, hO, hd, hbk⟩ := id hWd1
      obtain ⟨hC1, hZ1⟩ := xC.add hC hZ (al := al) (p1 := nI (1 + q4)) (p2 := nI q5) hk h8
      have hC1 : xC g1 X1 n (fun i => if i = k then kc k + 1 else kc i) := by rw [a4, a5]; exact hC1
      rw [← a4] at hZ1
      have hPI1 := hPI.add hn30 h8a hk hop h8 (p2 := nI q5) (y_in1 (1 + q4) (N := 100000) rfl (by omega) (by omega) (by decide))
      have hPr := hPI.addPr hn30 hk hop h8 (p2 := nI q5) (y_in1 (1 + q4) (N := 100000) rfl (by omega) (by omega) (by decide))
      have h18 : X1 18 (8 * k + kc k) = 0 := by rw [a5]; exact addX_new.2
      rw [← a5] at hPI1 hPr
      have hC := hC1
      have hkk : (if k = k then kc k + 1 else kc k) = kc k + 1 := if_pos rfl
      refine lv_istore (lv' := [(13, .int (nI (kc k))), (12, .int (nI (1 + q4))), (0, .ref b), (1, .ref d), (2, .int (nI Lc)), (3, .int (nI mm)), (4, .int 1), (5, .int (nI tn)), (6, .int (nI T)), (7, .int v), (9, .int (nI k))]) hx hb dL_law_297 hl (by decide) rfl (fun ls hl => ?_)
      refine lv_iload hx hb dL_law_299 (lv_at hl 0 rfl) ?_
      refine lv_bipush (v := (-3)) hx hb dL_law_301 (by decide) ?_
      refine lv_icmp_eq (tgt := 338) hx hb dL_law_303 (by decide) (fun h9 => absurd h9 (ne_m3 (by omega))) (fun _ => ?_)
      refine lv_iload hx hb dL_law_306 (lv_at hl 0 rfl) ?_
      refine lv_if_lt (tgt := 342) hx hb dL_law_308 (by decide) (fun h9 => absurd h9 (nI_pos (by omega))) (fun _ => ?_)
      refine lv_iload hx hb dL_law_311 (lv_at hl 0 rfl) ?_
      refine lv_bipush (v := 8) hx hb dL_law_313 (by decide) ?_
      refine lv_icmp_ge (tgt := 342) hx hb dL_law_315 (by decide) (fun h9 => absurd h9 (nI_ge (a := kc k) (b := 8) (by omega) (by decide))) (fun _ => ?_)
      refine lv_aload_n hx hb dL_law_318 rfl (lv_at hl 3 rfl) ?_
      refine lv_iload hx hb dL_law_319 (lv_at hl 10 rfl) ?_
      refine lv_iload hx hb dL_law_321 (lv_at hl 0 rfl) ?_
      refine z_state hlt ⟨hx, hb, hml, hown, hts⟩ gL_law_X2_state hW hK hE hd hbk hC (k := k) (j := kc k) hk (show kc k < (if k = k then kc k + 1 else kc k) by omega) hl.1 (Nat.le_of_ble_eq_true rfl) dL_law_323 ⟨Nat.le_of_ble_eq_true rfl, Nat.le_of_ble_eq_true rfl⟩ ⟨by show cells + 4 + 2 ≤ 632656; omega, by show slots + 24 + 12 ≤ 7203499; omega⟩ ?_
      refine lv_if_ne (tgt := 342) hx hb dL_law_326 (by decide) (fun h9 => absurd h18 h9) (fun _ => ?_)
      refine lv_aload_n hx hb dL_law_329 rfl (lv_at hl 3 rfl) ?_
      refine lv_iload hx hb dL_law_330 (lv_at hl 10 rfl) ?_
      refine z_price hlt ⟨hx, hb, hml, hown, hts⟩ gL_law_X2_price hW hK hE hd hbk hC (k := k) hk hl.1 (Nat.le_of_ble_eq_true rfl) dL_law_332 ⟨Nat.le_of_ble_eq_true rfl, Nat.le_of_ble_eq_true rfl⟩ ⟨by show cells + 4 + 2 + 1 ≤ 632656; omega, by show slots + 24 + 12 + 6 ≤ 7203499; omega⟩ ?_
      refine lv_if_le (tgt := 342) hx hb dL_law_335 (by decide) (fun h9 => absurd h9 (by show ¬ priceX X1 k (if k = k then kc k + 1 else kc k) ≤ 0; rw [hkk]; exact hPr)) (fun _ => ?_)
      refine lv_iconst (v := 1) hx hb dL_law_338 (by decide) ?_
      refine lv_goto (tgt := 343) hx hb dL_law_339 (by decide) ?_
      refine lv_istore (lv' := [(4, .int 1), (13, .int (nI (kc k))), (12, .int (nI (1 + q4))), (0, .ref b), (1, .ref d), (2, .int (nI Lc)), (3, .int (nI mm)), (5, .int (nI tn)), (6, .int (nI T)), (7, .int v), (9, .int (nI k))]) hx hb dL_law_343 hl (by decide) rfl (fun ls hl => ?_)
      refine lv_iload_n hx hb dL_law_345 rfl (lv_at hl 5 rfl) ?_
      refine lv_iload hx hb dL_law_346 (lv_at hl 1 rfl) ?_
      refine lv_bipush (v := (-3)) hx hb dL_law_348 (by decide) ?_
      refine lv_icmp_ne (tgt := 357) hx hb dL_law_350 (by decide) (fun _ => ?_) (fun h9 => absurd h9 (ne_m3 (by omega)))
      refine lv_iconst (v := 1) hx hb dL_law_357 (by decide) ?_
      refine lv_iadd hx hb dL_law_358 ?_
      refine cv (y := nI (Lc + 1)) (nI_addx (a := Lc) (b := 1) rfl rfl) ?_
      refine lv_istore_n (lv' := [(2, .int (nI (Lc + 1))), (4, .int 1), (13, .int (nI (kc k))), (12, .int (nI (1 + q4))), (0, .ref b), (1, .ref d), (3, .int (nI mm)), (5, .int (nI tn)), (6, .int (nI T)), (7, .int v), (9, .int (nI k))]) hx hb dL_law_359 rfl hl (by decide) rfl (fun ls hl => ?_)
      refine lv_goto (tgt := 606) hx hb dL_law_360 (by decide) ?_
      exact htail _ _ _ _ _ _ _ _ _ _ _ _ hk ⟨hWd1, hC1, hZ1, hPI1⟩ hS (lv_sub hl [1, 4, 5, 0, 6, 7, 8, 10] rfl) (by omega) (by omega)
    · skip
      obtain ⟨rfl, rfl⟩ : g = g1 ∧ X = X1 := ⟨(congrArg Prod.fst a2).symm, (congrArg Prod.snd a2).symm⟩
      dsimp only at hW
      have hWd1 : Wd D cI cO cL cJ d bk s g X H := hWd.next (Gw.refl hI rfl) hW hz9 hk9
      obtain ⟨-, hE, hI, hO, hd, hbk⟩ := id hWd1
      refine lv_istore (lv' := [(13, .int (-3)), (12, .int (nI (1 + q4))), (0, .ref b), (1, .ref d), (2, .int (nI Lc)), (3, .int (nI mm)), (4, .int 1), (5, .int (nI tn)), (6, .int (nI T)), (7, .int v), (9, .int (nI k))]) hx hb dL_law_297 hl (by decide) rfl (fun ls hl => ?_)
      refine lv_iload hx hb dL_law_299 (lv_at hl 0 rfl) ?_
      refine lv_bipush (v := (-3)) hx hb dL_law_301 (by decide) ?_
      refine lv_icmp_eq (tgt := 338) hx hb dL_law_303 (by decide) (fun _ => ?_) (fun h9 => absurd rfl h9)
      refine lv_iconst (v := 1) hx hb dL_law_338 (by decide) ?_
      refine lv_goto (tgt := 343) hx hb dL_law_339 (by decide) ?_
      refine lv_istore (lv' := [(4, .int 1), (13, .int (-3)), (12, .int (nI (1 + q4))), (0, .ref b), (1, .ref d), (2, .int (nI Lc)), (3, .int (nI mm)), (5, .int (nI tn)), (6, .int (nI T)), (7, .int v), (9, .int (nI k))]) hx hb dL_law_343 hl (by decide) rfl (fun ls hl => ?_)
      refine lv_iload_n hx hb dL_law_345 rfl (lv_at hl 5 rfl) ?_
      refine lv_iload hx hb dL_law_346 (lv_at hl 1 rfl) ?_
      refine lv_bipush (v := (-3)) hx hb dL_law_348 (by decide) ?_
      refine lv_icmp_ne (tgt := 357) hx hb dL_law_350 (by decide) (fun h9 => absurd rfl h9) (fun _ => ?_)
      refine lv_iconst (v := 0) hx hb dL_law_353 (by decide) ?_
      refine lv_goto (tgt := 358) hx hb dL_law_354 (by decide) ?_
      refine lv_iadd hx hb dL_law_358 ?_
      refine cv (y := nI Lc) (nI_addx (a := Lc) (b := 0) rfl rfl) ?_
      refine lv_istore_n (lv' := [(2, .int (nI Lc)), (4, .int 1), (13, .int (-3)), (12, .int (nI (1 + q4))), (0, .ref b), (1, .ref d), (3, .int (nI mm)), (5, .int (nI tn)), (6, .int (nI T)), (7, .int v), (9, .int (nI k))]) hx hb dL_law_359 rfl hl (by decide) rfl (fun ls hl => ?_)
      refine lv_goto (tgt := 606) hx hb dL_law_360 (by decide) ?_
      exact htail _ _ _ _ _ _ _ _ _ _ _ _ hk ⟨hWd1, hC, hZ, hPI.mono⟩ hS (lv_sub hl [1, 4, 5, 0, 6, 7, 8, 10] rfl) (by omega) (by omega)

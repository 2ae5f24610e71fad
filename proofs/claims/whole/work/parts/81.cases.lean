/-! THE LAW'S CASES. -/
theorem gw_order {g : XG} {X : MS} {n sz : Nat} {kc : Nat → Nat} {p0 p1 : Int32} {r : Int32} {u : wU} (hI : xI g) (hlt : ∀ t i a, g t i = some a → a < sz) (h : wPost (cN_order g X n kc sz p0 p1 0) (cC_order X n kc p0 p1 0) cL_orders g X r u) : Gw g u.1 sz := by
  rcases h with ⟨_, v, ⟨qo, la, h1, h2, h3, h4, -⟩, _⟩ | ⟨_, h, _⟩
  · dsimp only at h4
    rw [h4]
    refine ⟨fun t i a ha => ?_, hI.ord hlt h1 h2 h3, rfl, rfl⟩
    rcases gOrd_key ha with ⟨_, _, h⟩ | ⟨_, _, h⟩ | ⟨h, _⟩
    · exact Or.inr (by omega)
    · exact Or.inr (by omega)
    · exact Or.inl ⟨t, i, h⟩
  · exact Gw.refl hI h
theorem gw_add {g : XG} {X : MS} {n sz : Nat} {kc : Nat → Nat} {p0 p1 p2 : Int32} {r : Int32} {u : wU} (hI : xI g) (hlt : ∀ t i a, g t i = some a → a < sz) (h : wPost (cN_add g X n kc sz p0 p1 p2) (cC_add X n kc p0 p1 p2) cL_adds g X r u) : Gw g u.1 sz := by
  rcases h with ⟨_, v, ⟨k, al, -, -, -, -, -, -, h1, h4, -⟩, _⟩ | ⟨_, h, _⟩
  · dsimp only at h4
    rw [h4]
    refine ⟨fun t i a ha => ?_, (hI.line hlt h1).mov (by simp [gLine]), by simp [gMov, gLine], by simp [gMov, gLine]⟩
    rcases gMov_key ha with ⟨_, _, h⟩ | ⟨h, _⟩
    · exact Or.inr (by omega)
    · rcases gLine_key h with ⟨_, _, h⟩ | ⟨h, _⟩
      · exact Or.inr (by omega)
      · exact Or.inl ⟨t, i, h⟩
  · exact Gw.refl hI h
theorem gw_pay {g : XG} {X : MS} {n sz : Nat} {kc : Nat → Nat} {p0 p1 p2 : Int32} {r : Int32} {u : wU} (hI : xI g) (hlt : ∀ t i a, g t i = some a → a < sz) (h : wPost (cN_pay g X n kc sz p0 p1 p2) (cC_pay X n kc p0 p1 p2) cL_pays g X r u) : Gw g u.1 sz := by
  rcases h with ⟨_, v, hN, _⟩ | ⟨_, h, _⟩
  · exact Gw.refl hI hN.2
  · exact Gw.refl hI h
theorem gw_mayComeBack {g : XG} {X : MS} {n sz : Nat} {kc : Nat → Nat} {p0 p1 p2 : Int32} {r : Int32} {u : wU} (hI : xI g) (hlt : ∀ t i a, g t i = some a → a < sz) (h : wPost (cN_mayComeBack g X n kc sz p0 p1 p2) (cC_mayComeBack X n kc p0 p1 p2) cL_mayComeBacks g X r u) : Gw g u.1 sz := by
  rcases h with ⟨_, v, hN, _⟩ | ⟨_, h, _⟩
  · exact Gw.refl hI (Prod.mk.inj hN.2).1
  · exact Gw.refl hI h
theorem gw_ask {g : XG} {X : MS} {n sz : Nat} {kc : Nat → Nat} {p0 p1 p2 : Int32} {r : Int32} {u : wU} (hI : xI g) (hlt : ∀ t i a, g t i = some a → a < sz) (h : wPost (cN_ask g X n kc sz p0 p1 p2) (cC_ask X n kc p0 p1 p2) cL_asks g X r u) : Gw g u.1 sz := by
  rcases h with ⟨_, v, hN, _⟩ | ⟨_, h, _⟩
  · exact Gw.refl hI hN.2
  · exact Gw.refl hI h
theorem gw_exchange {g : XG} {X : MS} {n sz : Nat} {kc : Nat → Nat} {p0 p1 p2 : Int32} {r : Int32} {u : wU} (hI : xI g) (hlt : ∀ t i a, g t i = some a → a < sz) (h : wPost (cN_exchange g X n kc sz p0 p1 p2) (cC_exchange X n kc p0 p1 p2) cL_exchanges g X r u) : Gw g u.1 sz := by
  rcases h with ⟨_, v, hN, _⟩ | ⟨_, h, _⟩
  · exact Gw.refl hI hN.2
  · exact Gw.refl hI h
theorem gw_grade {g : XG} {X : MS} {n sz : Nat} {kc : Nat → Nat} {p0 p1 p2 : Int32} {r : Int32} {u : wU} (hI : xI g) (hlt : ∀ t i a, g t i = some a → a < sz) (h : wPost (cN_grade g X n kc sz p0 p1 p2) (cC_grade X n kc p0 p1 p2) cL_grades g X r u) : Gw g u.1 sz := by
  rcases h with ⟨_, v, hN, _⟩ | ⟨_, h, _⟩
  · exact Gw.refl hI hN.2
  · exact Gw.refl hI h
theorem gw_state {g : XG} {X : MS} {n sz : Nat} {kc : Nat → Nat} {p0 p1 : Int32} {r : Int32} {u : wU} (hI : xI g) (hlt : ∀ t i a, g t i = some a → a < sz) (h : wPost (cN_state g X n kc sz p0 p1 0) (cC_state X n kc p0 p1 0) cL_states g X r u) : Gw g u.1 sz := by
  rcases h with ⟨_, v, hN, _⟩ | ⟨_, h, _⟩
  · exact Gw.refl hI (Prod.mk.inj hN.2).1
  · exact Gw.refl hI h
theorem gw_price {g : XG} {X : MS} {n sz : Nat} {kc : Nat → Nat} {p0 : Int32} {r : Int32} {u : wU} (hI : xI g) (hlt : ∀ t i a, g t i = some a → a < sz) (h : wPost (cN_price g X n kc sz p0 0 0) (cC_price X n kc p0 0 0) cL_prices g X r u) : Gw g u.1 sz := by
  rcases h with ⟨_, v, hN, _⟩ | ⟨_, h, _⟩
  · exact Gw.refl hI (Prod.mk.inj hN.2).1
  · exact Gw.refl hI h
theorem gw_fees {g : XG} {X : MS} {n sz : Nat} {kc : Nat → Nat} {p0 : Int32} {r : Int32} {u : wU} (hI : xI g) (hlt : ∀ t i a, g t i = some a → a < sz) (h : wPost (cN_fees g X n kc sz p0 0 0) (cC_fees X n kc p0 0 0) cL_feess g X r u) : Gw g u.1 sz := by
  rcases h with ⟨_, v, hN, _⟩ | ⟨_, h, _⟩
  · exact Gw.refl hI (Prod.mk.inj hN.2).1
  · exact Gw.refl hI h
theorem gw_charges {g : XG} {X : MS} {n sz : Nat} {kc : Nat → Nat} {p0 : Int32} {r : Int32} {u : wU} (hI : xI g) (hlt : ∀ t i a, g t i = some a → a < sz) (h : wPost (cN_charges g X n kc sz p0 0 0) (cC_charges X n kc p0 0 0) cL_chargess g X r u) : Gw g u.1 sz := by
  rcases h with ⟨_, v, hN, _⟩ | ⟨_, h, _⟩
  · exact Gw.refl hI (Prod.mk.inj hN.2).1
  · exact Gw.refl hI h
theorem gw_taken {g : XG} {X : MS} {n sz : Nat} {kc : Nat → Nat} {p0 p1 : Int32} {r : Int32} {u : wU} (hI : xI g) (hlt : ∀ t i a, g t i = some a → a < sz) (h : wPost (cN_taken g X n kc sz p0 p1 0) (cC_taken X n kc p0 p1 0) cL_takens g X r u) : Gw g u.1 sz := by
  rcases h with ⟨_, v, hN, _⟩ | ⟨_, h, _⟩
  · exact Gw.refl hI (Prod.mk.inj hN.2).1
  · exact Gw.refl hI h
theorem gw_refunded {g : XG} {X : MS} {n sz : Nat} {kc : Nat → Nat} {p0 : Int32} {r : Int32} {u : wU} (hI : xI g) (hlt : ∀ t i a, g t i = some a → a < sz) (h : wPost (cN_refunded g X n kc sz p0 0 0) (cC_refunded X n kc p0 0 0) cL_refundeds g X r u) : Gw g u.1 sz := by
  rcases h with ⟨_, v, hN, _⟩ | ⟨_, h, _⟩
  · exact Gw.refl hI (Prod.mk.inj hN.2).1
  · exact Gw.refl hI h
theorem gw_isShortBy {g : XG} {X : MS} {n sz : Nat} {kc : Nat → Nat} {p0 : Int32} {r : Int32} {u : wU} (hI : xI g) (hlt : ∀ t i a, g t i = some a → a < sz) (h : wPost (cN_isShortBy g X n kc sz p0 0 0) (cC_isShortBy X n kc p0 0 0) cL_isShortBys g X r u) : Gw g u.1 sz := by
  rcases h with ⟨_, v, hN, _⟩ | ⟨_, h, _⟩
  · exact Gw.refl hI (Prod.mk.inj hN.2).1
  · exact Gw.refl hI h
theorem gw_stock {g : XG} {X : MS} {n sz : Nat} {kc : Nat → Nat} {p0 : Int32} {r : Int32} {u : wU} (hI : xI g) (hlt : ∀ t i a, g t i = some a → a < sz) (h : wPost (cN_stock g X n kc sz p0 0 0) (cC_stock X n kc p0 0 0) cL_stocks g X r u) : Gw g u.1 sz := by
  rcases h with ⟨_, v, hN, _⟩ | ⟨_, h, _⟩
  · exact Gw.refl hI (Prod.mk.inj hN.2).1
  · exact Gw.refl hI h
theorem gw_pass {g : XG} {X : MS} {n sz : Nat} {kc : Nat → Nat} {p0 : Int32} {r : Int32} {u : wU} (hI : xI g) (hlt : ∀ t i a, g t i = some a → a < sz) (h : wPost (cN_pass g X n kc sz p0 0 0) (cC_pass X n kc p0 0 0) cL_passs g X r u) : Gw g u.1 sz := by
  rcases h with ⟨_, v, hN, _⟩ | ⟨_, h, _⟩
  · exact Gw.refl hI hN.2
  · exact Gw.refl hI h
set_option maxHeartbeats 4000000 in
set_option maxRecDepth 100000 in
theorem law_order {p : Program} {l : Launch} {e : Env} {s : State} {m : MethodId} {below : List Frame} {meth : Method} {c : Code} {D : va_G} {cI cO cL cJ : ClassId} {b L : Nat} {xs : Nat → Int32} (C0 : LC p l s m c D cI cO cL cJ b L xs) {d bk ou ao : Nat} {q : Nat → Nat} {K : Nat} {g : XG} {X M : MS} {w : Int64} {H : Heap} {locs : List Loc} {cells slots : Nat} {ls : Array Slot} (hLI : LI D cI cO cL cJ d bk ou ao q s K g X M w H) (hS : va_S (AH s.heap.size) s.heap H locs) (hl : lv_has ls 7 [(0, .ref b), (1, .ref d), (2, .ref ao), (3, .ref ou), (4, .int (nI (4 * K)))]) (hKL : 4 * K + 4 ≤ L) (hc : cells ≤ 18 + 4 * K) (hs : slots ≤ 1557 + 32 * K)
    (hnext : ∀ (g' : XG) (X' M' : MS) (w' : Int64) (H' : Heap) (locs' : List Loc) (ls' : Array Slot) (cells' slots' : Nat), LI D cI cO cL cJ d bk ou ao q s (K + 1) g' X' M' w' H' → va_S (AH s.heap.size) s.heap H' locs' → lv_has ls' 7 [(0, .ref b), (1, .ref d), (2, .ref ao), (3, .ref ou), (4, .int (nI (4 * K)))] → cells' ≤ 18 + 4 * (K + 1) → slots' ≤ 1557 + 32 * (K + 1) → W p l e room_1 s m #[Value.ref b] below meth c H' locs' cells' slots' (lw_Z below #[Value.ref b] s) (F0 m 1233 ls' [])) : W p l e room_1 s m #[Value.ref b] below meth c H locs cells slots (lw_Z below #[Value.ref b] s) (F0 m 124 ls []) := by
  obtain ⟨hx, hb, hml, hown, hts, hXb, hbl, hL, hK, hN, hlt⟩ := C0
  have hLI0 := hLI
  obtain ⟨hW, hM, hw, hE, hI, hO, hmI, hou, hmA, hzo, hd, hbk, n, kc, dd, hC, hZ, hR⟩ := hLI
  have hmAH : ∀ a, mA ao q a → AH s.heap.size a := fun a h => (hmA a h).1
  have hAA : ∀ a, wA g H.size ou a → AH s.heap.size a := fun a h => by
    rcases h with (⟨t, i, h⟩ | h) | h
    · exact hO.1 t i a h
    · exact Nat.le_trans hO.2 h
    · rw [h]; exact hzo
  refine lv_aload_n hx hb dL_law_124 rfl (lv_at hl 1 rfl) ?_
  refine lv_aload_n hx hb dL_law_125 rfl (lv_at hl 0 rfl) ?_
  refine lv_iload hx hb dL_law_126 (lv_at hl 4 rfl) ?_
  refine lv_iconst (v := 1) hx hb dL_law_128 (by decide) ?_
  refine lv_iadd hx hb dL_law_129 ?_
  refine f_sld hx hb hXb hbl hL hS (i := 4 * K + 1) (nI_addx (a := 4 * K) (b := 1) rfl rfl) (by omega) dL_law_130 ?_
  refine lv_aload_n hx hb dL_law_131 rfl (lv_at hl 0 rfl) ?_
  refine lv_iload hx hb dL_law_132 (lv_at hl 4 rfl) ?_
  refine lv_iconst (v := 2) hx hb dL_law_134 (by decide) ?_
  refine lv_iadd hx hb dL_law_135 ?_
  refine f_sld hx hb hXb hbl hL hS (i := 4 * K + 2) (nI_addx (a := 4 * K) (b := 2) rfl rfl) (by omega) dL_law_136 ?_
  refine lv_aload_n hx hb dL_law_137 rfl (lv_at hl 3 rfl) ?_
  refine va_calli (vx_runSW (As := [.ref d, .int (xs (4 * K + 1)), .int (xs (4 * K + 2)), .ref ou]) (rest := []) ⟨hx, hb, hml, hown, hts⟩ (kL_order l hlt g X s.heap.size H.size hI hO ou hou hw.lt w d bk hd hbk n kc hC hZ (xs (4 * K + 1)) (xs (4 * K + 2))) (vx_cwSW 4 hts gL_law_L_order rfl rfl rfl (by decide +kernel) ⟨Nat.le_of_ble_eq_true rfl, Nat.le_of_ble_eq_true rfl⟩) (w_pre hW hK hE hw hN) rfl rfl hl.1 rfl (lv_room (Nat.le_of_ble_eq_true rfl)) dL_law_138 ⟨by show cells + 4 ≤ 601024; omega, by show slots + 32 ≤ 7293034; omega⟩) hS (fun a _ h => hAA a h) hAA (fun r u t H1 locs ht hvm hp hB hz1 hk1 hS => ?_)
  obtain ⟨hW1, hw1⟩ := hB
  rw [ht] at hW1 hw1
  obtain ⟨hM1, hE1, hI1, hO1, hou1, hmA1, hd1, hbk1⟩ := LI.one hLI0 (gw_order hI (fun t i a h => hW.lt h) hp) hz1 hk1
  refine lv_istore (lv' := [(5, .int r), (0, .ref b), (1, .ref d), (2, .ref ao), (3, .ref ou), (4, .int (nI (4 * K)))]) hx hb dL_law_141 hl (by decide) rfl (fun ls hl => ?_)
  refine lv_aload_n hx hb dL_law_143 rfl (lv_at hl 3 rfl) ?_
  refine lv_aload_n hx hb dL_law_144 rfl (lv_at hl 1 rfl) ?_
  refine lv_iload hx hb dL_law_145 (lv_at hl 5 rfl) ?_
  refine lv_iconst (v := 1) hx hb dL_law_147 (by decide) ?_
  refine lv_iadd hx hb dL_law_148 ?_
  refine f_sld hx hb hXb hbl hL hS (i := 4 * K + 1) (nI_addx (a := 4 * K) (b := 1) rfl rfl) (by omega) dL_law_149 ?_
  refine lv_aload_n hx hb dL_law_150 rfl (lv_at hl 1 rfl) ?_
  refine lv_iload hx hb dL_law_151 (lv_at hl 5 rfl) ?_
  refine lv_iconst (v := 2) hx hb dL_law_153 (by decide) ?_
  refine lv_iadd hx hb dL_law_154 ?_
  refine f_sld hx hb hXb hbl hL hS (i := 4 * K + 2) (nI_addx (a := 4 * K) (b := 2) rfl rfl) (by omega) dL_law_155 ?_
  obtain ⟨rm, post, c1, c2, c3, c4, hMet, hG⟩ := sim_order (l := l) (D := D) (cI := cI) (cO := cO) (cL := cL) (cJ := cJ) hmI hC hZ hR (xs (4 * K + 1)) (xs (4 * K + 2)) hp
  refine m_call 2 hx hb hts hown hml hMet rfl gL_law_X3_order rfl c1 c2 (by decide +kernel) ⟨by show rm.frames + 1 ≤ 12; omega, by show 8 + (3 + 11) + rm.locals ≤ 442; omega⟩ hl.1 hM1 hK hS hmAH rfl (Nat.le_of_ble_eq_true rfl) dL_law_156 ⟨by show cells + 4 ≤ 601024; omega, by show slots + 32 ≤ 7293034; omega⟩ (fun bb M9 H2 locs hpost hM2 hz2 hk2 hS => ?_)
  obtain ⟨g1, g2, g3⟩ := hG bb M9 hpost
  have hLI2 : LI D cI cO cL cJ d bk ou ao q s (K + 1) u.1 u.2.1 M9 u.2.2 H2 := LI.two hW1 hw1 hE1 hI1 hO1 hmI hou1 hmA1 hzo hd1 hbk1 hM2 hz2 hk2 g3
  refine lv_istore (lv' := [(6, .int bb), (5, .int r), (0, .ref b), (1, .ref d), (2, .ref ao), (3, .ref ou), (4, .int (nI (4 * K)))]) hx hb dL_law_159 hl (by decide) rfl (fun ls hl => ?_)
  refine lv_aload_n hx hb dL_law_161 rfl (lv_at hl 4 rfl) ?_
  refine m_call0 0 hx hb hts hown hml (kX3_thrown l M9) rfl gL_law_X3_thrown rfl rfl rfl (by decide +kernel) ⟨Nat.le_of_ble_eq_true rfl, Nat.le_of_ble_eq_true rfl⟩ hl.1 hM2 hK rfl (Nat.le_of_ble_eq_true rfl) dL_law_162 ⟨by show cells + 4 ≤ 601024; omega, by show slots + 32 ≤ 7293034; omega⟩ (fun rt ht9 => ?_)
  refine lv_iload hx hb dL_law_165 (lv_at hl 1 rfl) ?_
  refine lv_icmp_eq (tgt := 172) hx hb dL_law_167 (by decide) (fun _ => ?_) (fun h9 => absurd (ht9.trans g1) h9)
  refine lv_iload hx hb dL_law_172 (lv_at hl 1 rfl) ?_
  refine lv_if_ne (tgt := 189) hx hb dL_law_174 (by decide) (fun c9 => ?_) (fun c9 => ?_)
  · skip
    refine lv_goto (tgt := 1233) hx hb dL_law_189 (by decide) ?_
    exact hnext u.1 u.2.1 M9 u.2.2 H2 locs ls _ _ hLI2 hS (lv_sub hl [2, 3, 4, 5, 6] rfl) (by omega) (by omega)
  · skip
    refine lv_aload_n hx hb dL_law_177 rfl (lv_at hl 5 rfl) ?_
    refine lv_iconst (v := 0) hx hb dL_law_178 (by decide) ?_
    refine f_lald hx hb hK hLI2.2.2.1 (i := 0) rfl (by decide) (by decide) (v := u.2.2) rfl dL_law_179 ?_
    refine lv_iload hx hb dL_law_180 (lv_at hl 0 rfl) ?_
    refine lv_i2l hx hb dL_law_182 rfl ?_
    refine W.lcmp hx hb dL_law_183 ?_
    refine lv_if_eq (tgt := 189) hx hb dL_law_184 (by decide) (fun _ => ?_) (fun h9 => absurd (by rw [g2 c9]; exact cmp0 _) h9)
    refine lv_goto (tgt := 1233) hx hb dL_law_189 (by decide) ?_
    exact hnext u.1 u.2.1 M9 u.2.2 H2 locs ls _ _ hLI2 hS (lv_sub hl [2, 3, 4, 5, 6] rfl) (by omega) (by omega)
set_option maxHeartbeats 4000000 in
set_option maxRecDepth 100000 in
theorem law_add {p : Program} {l : Launch} {e : Env} {s : State} {m : MethodId} {below : List Frame} {meth : Method} {c : Code} {D : va_G} {cI cO cL cJ : ClassId} {b L : Nat} {xs : Nat → Int32} (C0 : LC p l s m c D cI cO cL cJ b L xs) {d bk ou ao : Nat} {q : Nat → Nat} {K : Nat} {g : XG} {X M : MS} {w : Int64} {H : Heap} {locs : List Loc} {cells slots : Nat} {ls : Array Slot} (hLI : LI D cI cO cL cJ d bk ou ao q s K g X M w H) (hS : va_S (AH s.heap.size) s.heap H locs) (hl : lv_has ls 7 [(0, .ref b), (1, .ref d), (2, .ref ao), (3, .ref ou), (4, .int (nI (4 * K)))]) (hKL : 4 * K + 4 ≤ L) (hc : cells ≤ 18 + 4 * K) (hs : slots ≤ 1557 + 32 * K)
    (hnext : ∀ (g' : XG) (X' M' : MS) (w' : Int64) (H' : Heap) (locs' : List Loc) (ls' : Array Slot) (cells' slots' : Nat), LI D cI cO cL cJ d bk ou ao q s (K + 1) g' X' M' w' H' → va_S (AH s.heap.size) s.heap H' locs' → lv_has ls' 7 [(0, .ref b), (1, .ref d), (2, .ref ao), (3, .ref ou), (4, .int (nI (4 * K)))] → cells' ≤ 18 + 4 * (K + 1) → slots' ≤ 1557 + 32 * (K + 1) → W p l e room_1 s m #[Value.ref b] below meth c H' locs' cells' slots' (lw_Z below #[Value.ref b] s) (F0 m 1233 ls' [])) : W p l e room_1 s m #[Value.ref b] below meth c H locs cells slots (lw_Z below #[Value.ref b] s) (F0 m 192 ls []) := by
  obtain ⟨hx, hb, hml, hown, hts, hXb, hbl, hL, hK, hN, hlt⟩ := C0
  have hLI0 := hLI
  obtain ⟨hW, hM, hw, hE, hI, hO, hmI, hou, hmA, hzo, hd, hbk, n, kc, dd, hC, hZ, hR⟩ := hLI
  have hmAH : ∀ a, mA ao q a → AH s.heap.size a := fun a h => (hmA a h).1
  have hAA : ∀ a, wA g H.size ou a → AH s.heap.size a := fun a h => by
    rcases h with (⟨t, i, h⟩ | h) | h
    · exact hO.1 t i a h
    · exact Nat.le_trans hO.2 h
    · rw [h]; exact hzo
  refine lv_aload_n hx hb dL_law_192 rfl (lv_at hl 1 rfl) ?_
  refine lv_aload_n hx hb dL_law_193 rfl (lv_at hl 0 rfl) ?_
  refine lv_iload hx hb dL_law_194 (lv_at hl 4 rfl) ?_
  refine lv_iconst (v := 1) hx hb dL_law_196 (by decide) ?_
  refine lv_iadd hx hb dL_law_197 ?_
  refine f_sld hx hb hXb hbl hL hS (i := 4 * K + 1) (nI_addx (a := 4 * K) (b := 1) rfl rfl) (by omega) dL_law_198 ?_
  refine lv_aload_n hx hb dL_law_199 rfl (lv_at hl 0 rfl) ?_
  refine lv_iload hx hb dL_law_200 (lv_at hl 4 rfl) ?_
  refine lv_iconst (v := 2) hx hb dL_law_202 (by decide) ?_
  refine lv_iadd hx hb dL_law_203 ?_
  refine f_sld hx hb hXb hbl hL hS (i := 4 * K + 2) (nI_addx (a := 4 * K) (b := 2) rfl rfl) (by omega) dL_law_204 ?_
  refine lv_aload_n hx hb dL_law_205 rfl (lv_at hl 0 rfl) ?_
  refine lv_iload hx hb dL_law_206 (lv_at hl 4 rfl) ?_
  refine lv_iconst (v := 3) hx hb dL_law_208 (by decide) ?_
  refine lv_iadd hx hb dL_law_209 ?_
  refine f_sld hx hb hXb hbl hL hS (i := 4 * K + 3) (nI_addx (a := 4 * K) (b := 3) rfl rfl) (by omega) dL_law_210 ?_
  refine lv_aload_n hx hb dL_law_211 rfl (lv_at hl 3 rfl) ?_
  refine va_calli (vx_runSW (As := [.ref d, .int (xs (4 * K + 1)), .int (xs (4 * K + 2)), .int (xs (4 * K + 3)), .ref ou]) (rest := []) ⟨hx, hb, hml, hown, hts⟩ (kL_add l hlt g X s.heap.size H.size hI hO ou hou hw.lt w d bk hd hbk n kc hC hZ (xs (4 * K + 1)) (xs (4 * K + 2)) (xs (4 * K + 3))) (vx_cwSW 5 hts gL_law_L_add rfl rfl rfl (by decide +kernel) ⟨Nat.le_of_ble_eq_true rfl, Nat.le_of_ble_eq_true rfl⟩) (w_pre hW hK hE hw hN) rfl rfl hl.1 rfl (lv_room (Nat.le_of_ble_eq_true rfl)) dL_law_212 ⟨by show cells + 4 ≤ 601024; omega, by show slots + 24 ≤ 7293034; omega⟩) hS (fun a _ h => hAA a h) hAA (fun r u t H1 locs ht hvm hp hB hz1 hk1 hS => ?_)
  obtain ⟨hW1, hw1⟩ := hB
  rw [ht] at hW1 hw1
  obtain ⟨hM1, hE1, hI1, hO1, hou1, hmA1, hd1, hbk1⟩ := LI.one hLI0 (gw_add hI (fun t i a h => hW.lt h) hp) hz1 hk1
  refine lv_istore (lv' := [(5, .int r), (0, .ref b), (1, .ref d), (2, .ref ao), (3, .ref ou), (4, .int (nI (4 * K)))]) hx hb dL_law_215 hl (by decide) rfl (fun ls hl => ?_)
  refine lv_aload_n hx hb dL_law_217 rfl (lv_at hl 3 rfl) ?_
  refine lv_aload_n hx hb dL_law_218 rfl (lv_at hl 1 rfl) ?_
  refine lv_iload hx hb dL_law_219 (lv_at hl 5 rfl) ?_
  refine lv_iconst (v := 1) hx hb dL_law_221 (by decide) ?_
  refine lv_iadd hx hb dL_law_222 ?_
  refine f_sld hx hb hXb hbl hL hS (i := 4 * K + 1) (nI_addx (a := 4 * K) (b := 1) rfl rfl) (by omega) dL_law_223 ?_
  refine lv_aload_n hx hb dL_law_224 rfl (lv_at hl 1 rfl) ?_
  refine lv_iload hx hb dL_law_225 (lv_at hl 5 rfl) ?_
  refine lv_iconst (v := 2) hx hb dL_law_227 (by decide) ?_
  refine lv_iadd hx hb dL_law_228 ?_
  refine f_sld hx hb hXb hbl hL hS (i := 4 * K + 2) (nI_addx (a := 4 * K) (b := 2) rfl rfl) (by omega) dL_law_229 ?_
  refine lv_aload_n hx hb dL_law_230 rfl (lv_at hl 1 rfl) ?_
  refine lv_iload hx hb dL_law_231 (lv_at hl 5 rfl) ?_
  refine lv_iconst (v := 3) hx hb dL_law_233 (by decide) ?_
  refine lv_iadd hx hb dL_law_234 ?_
  refine f_sld hx hb hXb hbl hL hS (i := 4 * K + 3) (nI_addx (a := 4 * K) (b := 3) rfl rfl) (by omega) dL_law_235 ?_
  obtain ⟨rm, post, c1, c2, c3, c4, hMet, hG⟩ := sim_add (l := l) (D := D) (cI := cI) (cO := cO) (cL := cL) (cJ := cJ) hmI hC hZ hR (xs (4 * K + 1)) (xs (4 * K + 2)) (xs (4 * K + 3)) hp
  refine m_call 3 hx hb hts hown hml hMet rfl gL_law_X3_add rfl c1 c2 (by decide +kernel) ⟨by show rm.frames + 1 ≤ 12; omega, by show 8 + (4 + 11) + rm.locals ≤ 442; omega⟩ hl.1 hM1 hK hS hmAH rfl (Nat.le_of_ble_eq_true rfl) dL_law_236 ⟨by show cells + 4 ≤ 601024; omega, by show slots + 24 ≤ 7293034; omega⟩ (fun bb M9 H2 locs hpost hM2 hz2 hk2 hS => ?_)
  obtain ⟨g1, g2, g3⟩ := hG bb M9 hpost
  have hLI2 : LI D cI cO cL cJ d bk ou ao q s (K + 1) u.1 u.2.1 M9 u.2.2 H2 := LI.two hW1 hw1 hE1 hI1 hO1 hmI hou1 hmA1 hzo hd1 hbk1 hM2 hz2 hk2 g3
  refine lv_istore (lv' := [(6, .int bb), (5, .int r), (0, .ref b), (1, .ref d), (2, .ref ao), (3, .ref ou), (4, .int (nI (4 * K)))]) hx hb dL_law_239 hl (by decide) rfl (fun ls hl => ?_)
  refine lv_aload_n hx hb dL_law_241 rfl (lv_at hl 4 rfl) ?_
  refine m_call0 0 hx hb hts hown hml (kX3_thrown l M9) rfl gL_law_X3_thrown rfl rfl rfl (by decide +kernel) ⟨Nat.le_of_ble_eq_true rfl, Nat.le_of_ble_eq_true rfl⟩ hl.1 hM2 hK rfl (Nat.le_of_ble_eq_true rfl) dL_law_242 ⟨by show cells + 4 ≤ 601024; omega, by show slots + 24 ≤ 7293034; omega⟩ (fun rt ht9 => ?_)
  refine lv_iload hx hb dL_law_245 (lv_at hl 1 rfl) ?_
  refine lv_icmp_eq (tgt := 252) hx hb dL_law_247 (by decide) (fun _ => ?_) (fun h9 => absurd (ht9.trans g1) h9)
  refine lv_iload hx hb dL_law_252 (lv_at hl 1 rfl) ?_
  refine lv_if_ne (tgt := 269) hx hb dL_law_254 (by decide) (fun c9 => ?_) (fun c9 => ?_)
  · skip
    refine lv_goto (tgt := 1233) hx hb dL_law_269 (by decide) ?_
    exact hnext u.1 u.2.1 M9 u.2.2 H2 locs ls _ _ hLI2 hS (lv_sub hl [2, 3, 4, 5, 6] rfl) (by omega) (by omega)
  · skip
    refine lv_aload_n hx hb dL_law_257 rfl (lv_at hl 5 rfl) ?_
    refine lv_iconst (v := 0) hx hb dL_law_258 (by decide) ?_
    refine f_lald hx hb hK hLI2.2.2.1 (i := 0) rfl (by decide) (by decide) (v := u.2.2) rfl dL_law_259 ?_
    refine lv_iload hx hb dL_law_260 (lv_at hl 0 rfl) ?_
    refine lv_i2l hx hb dL_law_262 rfl ?_
    refine W.lcmp hx hb dL_law_263 ?_
    refine lv_if_eq (tgt := 269) hx hb dL_law_264 (by decide) (fun _ => ?_) (fun h9 => absurd (by rw [g2 c9]; exact cmp0 _) h9)
    refine lv_goto (tgt := 1233) hx hb dL_law_269 (by decide) ?_
    exact hnext u.1 u.2.1 M9 u.2.2 H2 locs ls _ _ hLI2 hS (lv_sub hl [2, 3, 4, 5, 6] rfl) (by omega) (by omega)
set_option maxHeartbeats 4000000 in
set_option maxRecDepth 100000 in
theorem law_pay {p : Program} {l : Launch} {e : Env} {s : State} {m : MethodId} {below : List Frame} {meth : Method} {c : Code} {D : va_G} {cI cO cL cJ : ClassId} {b L : Nat} {xs : Nat → Int32} (C0 : LC p l s m c D cI cO cL cJ b L xs) {d bk ou ao : Nat} {q : Nat → Nat} {K : Nat} {g : XG} {X M : MS} {w : Int64} {H : Heap} {locs : List Loc} {cells slots : Nat} {ls : Array Slot} (hLI : LI D cI cO cL cJ d bk ou ao q s K g X M w H) (hS : va_S (AH s.heap.size) s.heap H locs) (hl : lv_has ls 7 [(0, .ref b), (1, .ref d), (2, .ref ao), (3, .ref ou), (4, .int (nI (4 * K)))]) (hKL : 4 * K + 4 ≤ L) (hc : cells ≤ 18 + 4 * K) (hs : slots ≤ 1557 + 32 * K)
    (hnext : ∀ (g' : XG) (X' M' : MS) (w' : Int64) (H' : Heap) (locs' : List Loc) (ls' : Array Slot) (cells' slots' : Nat), LI D cI cO cL cJ d bk ou ao q s (K + 1) g' X' M' w' H' → va_S (AH s.heap.size) s.heap H' locs' → lv_has ls' 7 [(0, .ref b), (1, .ref d), (2, .ref ao), (3, .ref ou), (4, .int (nI (4 * K)))] → cells' ≤ 18 + 4 * (K + 1) → slots' ≤ 1557 + 32 * (K + 1) → W p l e room_1 s m #[Value.ref b] below meth c H' locs' cells' slots' (lw_Z below #[Value.ref b] s) (F0 m 1233 ls' [])) : W p l e room_1 s m #[Value.ref b] below meth c H locs cells slots (lw_Z below #[Value.ref b] s) (F0 m 272 ls []) := by
  obtain ⟨hx, hb, hml, hown, hts, hXb, hbl, hL, hK, hN, hlt⟩ := C0
  have hLI0 := hLI
  obtain ⟨hW, hM, hw, hE, hI, hO, hmI, hou, hmA, hzo, hd, hbk, n, kc, dd, hC, hZ, hR⟩ := hLI
  have hmAH : ∀ a, mA ao q a → AH s.heap.size a := fun a h => (hmA a h).1
  have hAA : ∀ a, wA g H.size ou a → AH s.heap.size a := fun a h => by
    rcases h with (⟨t, i, h⟩ | h) | h
    · exact hO.1 t i a h
    · exact Nat.le_trans hO.2 h
    · rw [h]; exact hzo
  refine lv_aload_n hx hb dL_law_272 rfl (lv_at hl 1 rfl) ?_
  refine lv_aload_n hx hb dL_law_273 rfl (lv_at hl 0 rfl) ?_
  refine lv_iload hx hb dL_law_274 (lv_at hl 4 rfl) ?_
  refine lv_iconst (v := 1) hx hb dL_law_276 (by decide) ?_
  refine lv_iadd hx hb dL_law_277 ?_
  refine f_sld hx hb hXb hbl hL hS (i := 4 * K + 1) (nI_addx (a := 4 * K) (b := 1) rfl rfl) (by omega) dL_law_278 ?_
  refine lv_aload_n hx hb dL_law_279 rfl (lv_at hl 0 rfl) ?_
  refine lv_iload hx hb dL_law_280 (lv_at hl 4 rfl) ?_
  refine lv_iconst (v := 2) hx hb dL_law_282 (by decide) ?_
  refine lv_iadd hx hb dL_law_283 ?_
  refine f_sld hx hb hXb hbl hL hS (i := 4 * K + 2) (nI_addx (a := 4 * K) (b := 2) rfl rfl) (by omega) dL_law_284 ?_
  refine lv_aload_n hx hb dL_law_285 rfl (lv_at hl 0 rfl) ?_
  refine lv_iload hx hb dL_law_286 (lv_at hl 4 rfl) ?_
  refine lv_iconst (v := 3) hx hb dL_law_288 (by decide) ?_
  refine lv_iadd hx hb dL_law_289 ?_
  refine f_sld hx hb hXb hbl hL hS (i := 4 * K + 3) (nI_addx (a := 4 * K) (b := 3) rfl rfl) (by omega) dL_law_290 ?_
  refine lv_aload_n hx hb dL_law_291 rfl (lv_at hl 3 rfl) ?_
  refine va_calli (vx_runSW (As := [.ref d, .int (xs (4 * K + 1)), .int (xs (4 * K + 2)), .int (xs (4 * K + 3)), .ref ou]) (rest := []) ⟨hx, hb, hml, hown, hts⟩ (kL_pay l hlt g X s.heap.size H.size hI hO ou hou hw.lt w d bk hd hbk n kc hC hZ (xs (4 * K + 1)) (xs (4 * K + 2)) (xs (4 * K + 3))) (vx_cwSW 5 hts gL_law_L_pay rfl rfl rfl (by decide +kernel) ⟨Nat.le_of_ble_eq_true rfl, Nat.le_of_ble_eq_true rfl⟩) (w_pre hW hK hE hw hN) rfl rfl hl.1 rfl (lv_room (Nat.le_of_ble_eq_true rfl)) dL_law_292 ⟨by show cells + 4 ≤ 601024; omega, by show slots + 24 ≤ 7293034; omega⟩) hS (fun a _ h => hAA a h) hAA (fun r u t H1 locs ht hvm hp hB hz1 hk1 hS => ?_)
  obtain ⟨hW1, hw1⟩ := hB
  rw [ht] at hW1 hw1
  obtain ⟨hM1, hE1, hI1, hO1, hou1, hmA1, hd1, hbk1⟩ := LI.one hLI0 (gw_pay hI (fun t i a h => hW.lt h) hp) hz1 hk1
  refine lv_istore (lv' := [(5, .int r), (0, .ref b), (1, .ref d), (2, .ref ao), (3, .ref ou), (4, .int (nI (4 * K)))]) hx hb dL_law_295 hl (by decide) rfl (fun ls hl => ?_)
  refine lv_aload_n hx hb dL_law_297 rfl (lv_at hl 3 rfl) ?_
  refine lv_aload_n hx hb dL_law_298 rfl (lv_at hl 1 rfl) ?_
  refine lv_iload hx hb dL_law_299 (lv_at hl 5 rfl) ?_
  refine lv_iconst (v := 1) hx hb dL_law_301 (by decide) ?_
  refine lv_iadd hx hb dL_law_302 ?_
  refine f_sld hx hb hXb hbl hL hS (i := 4 * K + 1) (nI_addx (a := 4 * K) (b := 1) rfl rfl) (by omega) dL_law_303 ?_
  refine lv_aload_n hx hb dL_law_304 rfl (lv_at hl 1 rfl) ?_
  refine lv_iload hx hb dL_law_305 (lv_at hl 5 rfl) ?_
  refine lv_iconst (v := 2) hx hb dL_law_307 (by decide) ?_
  refine lv_iadd hx hb dL_law_308 ?_
  refine f_sld hx hb hXb hbl hL hS (i := 4 * K + 2) (nI_addx (a := 4 * K) (b := 2) rfl rfl) (by omega) dL_law_309 ?_
  refine lv_aload_n hx hb dL_law_310 rfl (lv_at hl 1 rfl) ?_
  refine lv_iload hx hb dL_law_311 (lv_at hl 5 rfl) ?_
  refine lv_iconst (v := 3) hx hb dL_law_313 (by decide) ?_
  refine lv_iadd hx hb dL_law_314 ?_
  refine f_sld hx hb hXb hbl hL hS (i := 4 * K + 3) (nI_addx (a := 4 * K) (b := 3) rfl rfl) (by omega) dL_law_315 ?_
  obtain ⟨rm, post, c1, c2, c3, c4, hMet, hG⟩ := sim_pay (l := l) (D := D) (cI := cI) (cO := cO) (cL := cL) (cJ := cJ) hmI hC hZ hR (xs (4 * K + 1)) (xs (4 * K + 2)) (xs (4 * K + 3)) hp
  refine m_call 3 hx hb hts hown hml hMet rfl gL_law_X3_pay rfl c1 c2 (by decide +kernel) ⟨by show rm.frames + 1 ≤ 12; omega, by show 8 + (5 + 11) + rm.locals ≤ 442; omega⟩ hl.1 hM1 hK hS hmAH rfl (Nat.le_of_ble_eq_true rfl) dL_law_316 ⟨by show cells + 4 ≤ 601024; omega, by show slots + 24 ≤ 7293034; omega⟩ (fun bb M9 H2 locs hpost hM2 hz2 hk2 hS => ?_)
  obtain ⟨g1, g2, g3⟩ := hG bb M9 hpost
  have hLI2 : LI D cI cO cL cJ d bk ou ao q s (K + 1) u.1 u.2.1 M9 u.2.2 H2 := LI.two hW1 hw1 hE1 hI1 hO1 hmI hou1 hmA1 hzo hd1 hbk1 hM2 hz2 hk2 g3
  refine lv_istore (lv' := [(6, .int bb), (5, .int r), (0, .ref b), (1, .ref d), (2, .ref ao), (3, .ref ou), (4, .int (nI (4 * K)))]) hx hb dL_law_319 hl (by decide) rfl (fun ls hl => ?_)
  refine lv_aload_n hx hb dL_law_321 rfl (lv_at hl 4 rfl) ?_
  refine m_call0 0 hx hb hts hown hml (kX3_thrown l M9) rfl gL_law_X3_thrown rfl rfl rfl (by decide +kernel) ⟨Nat.le_of_ble_eq_true rfl, Nat.le_of_ble_eq_true rfl⟩ hl.1 hM2 hK rfl (Nat.le_of_ble_eq_true rfl) dL_law_322 ⟨by show cells + 4 ≤ 601024; omega, by show slots + 24 ≤ 7293034; omega⟩ (fun rt ht9 => ?_)
  refine lv_iload hx hb dL_law_325 (lv_at hl 1 rfl) ?_
  refine lv_icmp_eq (tgt := 332) hx hb dL_law_327 (by decide) (fun _ => ?_) (fun h9 => absurd (ht9.trans g1) h9)
  refine lv_iload hx hb dL_law_332 (lv_at hl 1 rfl) ?_
  refine lv_if_ne (tgt := 349) hx hb dL_law_334 (by decide) (fun c9 => ?_) (fun c9 => ?_)
  · skip
    refine lv_goto (tgt := 1233) hx hb dL_law_349 (by decide) ?_
    exact hnext u.1 u.2.1 M9 u.2.2 H2 locs ls _ _ hLI2 hS (lv_sub hl [2, 3, 4, 5, 6] rfl) (by omega) (by omega)
  · skip
    refine lv_aload_n hx hb dL_law_337 rfl (lv_at hl 5 rfl) ?_
    refine lv_iconst (v := 0) hx hb dL_law_338 (by decide) ?_
    refine f_lald hx hb hK hLI2.2.2.1 (i := 0) rfl (by decide) (by decide) (v := u.2.2) rfl dL_law_339 ?_
    refine lv_iload hx hb dL_law_340 (lv_at hl 0 rfl) ?_
    refine lv_i2l hx hb dL_law_342 rfl ?_
    refine W.lcmp hx hb dL_law_343 ?_
    refine lv_if_eq (tgt := 349) hx hb dL_law_344 (by decide) (fun _ => ?_) (fun h9 => absurd (by rw [g2 c9]; exact cmp0 _) h9)
    refine lv_goto (tgt := 1233) hx hb dL_law_349 (by decide) ?_
    exact hnext u.1 u.2.1 M9 u.2.2 H2 locs ls _ _ hLI2 hS (lv_sub hl [2, 3, 4, 5, 6] rfl) (by omega) (by omega)
set_option maxHeartbeats 4000000 in
set_option maxRecDepth 100000 in
theorem law_orders {p : Program} {l : Launch} {e : Env} {s : State} {m : MethodId} {below : List Frame} {meth : Method} {c : Code} {D : va_G} {cI cO cL cJ : ClassId} {b L : Nat} {xs : Nat → Int32} (C0 : LC p l s m c D cI cO cL cJ b L xs) {d bk ou ao : Nat} {q : Nat → Nat} {K : Nat} {g : XG} {X M : MS} {w : Int64} {H : Heap} {locs : List Loc} {cells slots : Nat} {ls : Array Slot} (hLI : LI D cI cO cL cJ d bk ou ao q s K g X M w H) (hS : va_S (AH s.heap.size) s.heap H locs) (hl : lv_has ls 7 [(0, .ref b), (1, .ref d), (2, .ref ao), (3, .ref ou), (4, .int (nI (4 * K)))]) (hKL : 4 * K + 4 ≤ L) (hc : cells ≤ 18 + 4 * K) (hs : slots ≤ 1557 + 32 * K)
    (hnext : ∀ (g' : XG) (X' M' : MS) (w' : Int64) (H' : Heap) (locs' : List Loc) (ls' : Array Slot) (cells' slots' : Nat), LI D cI cO cL cJ d bk ou ao q s (K + 1) g' X' M' w' H' → va_S (AH s.heap.size) s.heap H' locs' → lv_has ls' 7 [(0, .ref b), (1, .ref d), (2, .ref ao), (3, .ref ou), (4, .int (nI (4 * K)))] → cells' ≤ 18 + 4 * (K + 1) → slots' ≤ 1557 + 32 * (K + 1) → W p l e room_1 s m #[Value.ref b] below meth c H' locs' cells' slots' (lw_Z below #[Value.ref b] s) (F0 m 1233 ls' [])) : W p l e room_1 s m #[Value.ref b] below meth c H locs cells slots (lw_Z below #[Value.ref b] s) (F0 m 352 ls []) := by
  obtain ⟨hx, hb, hml, hown, hts, hXb, hbl, hL, hK, hN, hlt⟩ := C0
  have hLI0 := hLI
  obtain ⟨hW, hM, hw, hE, hI, hO, hmI, hou, hmA, hzo, hd, hbk, n, kc, dd, hC, hZ, hR⟩ := hLI
  have hmAH : ∀ a, mA ao q a → AH s.heap.size a := fun a h => (hmA a h).1
  refine lv_aload_n hx hb dL_law_352 rfl (lv_at hl 1 rfl) ?_
  refine vp_callSi (va_runV (As := []) (rest := []) (b := d) ⟨hx, hb, hml, hown, hts⟩ (kX2_orders l g X s.heap.size H.size d bk hd hbk) (cwV 0 hts gL_law_X2_orders rfl rfl rfl (by decide +kernel) ⟨Nat.le_of_ble_eq_true rfl, Nat.le_of_ble_eq_true rfl⟩) (x_preV hW hK hE (x_recvD hK hW hd)) rfl rfl hl.1 rfl (lv_room (Nat.le_of_ble_eq_true rfl)) dL_law_353 ⟨by show cells + 0 ≤ 601024; omega, by show slots + 0 ≤ 7293034; omega⟩).run (fun r hr => ?_)
  refine lv_aload_n hx hb dL_law_356 rfl (lv_at hl 2 rfl) ?_
  refine m_call 0 hx hb hts hown hml (kX3_orders l hmI M) rfl gL_law_X3_orders rfl rfl rfl (by decide +kernel) ⟨Nat.le_of_ble_eq_true rfl, Nat.le_of_ble_eq_true rfl⟩ hl.1 hM hK hS hmAH rfl (Nat.le_of_ble_eq_true rfl) dL_law_357 ⟨by show cells ≤ 601024; omega, by show slots ≤ 7293034; omega⟩ (fun bb M9 H2 locs hpost hM2 hz2 hk2 hS => ?_)
  have hInv : Inv (K + 1) g X M9 := by rw [hpost.2]; exact ⟨n, kc, dd, hC, hZ, hR.th' 0⟩
  refine lv_icmp_eq (tgt := 1233) hx hb dL_law_360 (by decide) (fun _ => ?_) (fun h9 => absurd (hr.trans (hR.1.2.2.1.trans (hpost.1.trans hR.m1).symm)) h9)
  exact hnext g X M9 w H2 locs ls _ _ (LI.two hW hw hE hI hO hmI hou hmA hzo hd hbk hM2 hz2 hk2 hInv) hS hl (by omega) (by omega)
set_option maxHeartbeats 4000000 in
set_option maxRecDepth 100000 in
theorem law_mayComeBack {p : Program} {l : Launch} {e : Env} {s : State} {m : MethodId} {below : List Frame} {meth : Method} {c : Code} {D : va_G} {cI cO cL cJ : ClassId} {b L : Nat} {xs : Nat → Int32} (C0 : LC p l s m c D cI cO cL cJ b L xs) {d bk ou ao : Nat} {q : Nat → Nat} {K : Nat} {g : XG} {X M : MS} {w : Int64} {H : Heap} {locs : List Loc} {cells slots : Nat} {ls : Array Slot} (hLI : LI D cI cO cL cJ d bk ou ao q s K g X M w H) (hS : va_S (AH s.heap.size) s.heap H locs) (hl : lv_has ls 7 [(0, .ref b), (1, .ref d), (2, .ref ao), (3, .ref ou), (4, .int (nI (4 * K)))]) (hKL : 4 * K + 4 ≤ L) (hc : cells ≤ 18 + 4 * K) (hs : slots ≤ 1557 + 32 * K)
    (hnext : ∀ (g' : XG) (X' M' : MS) (w' : Int64) (H' : Heap) (locs' : List Loc) (ls' : Array Slot) (cells' slots' : Nat), LI D cI cO cL cJ d bk ou ao q s (K + 1) g' X' M' w' H' → va_S (AH s.heap.size) s.heap H' locs' → lv_has ls' 7 [(0, .ref b), (1, .ref d), (2, .ref ao), (3, .ref ou), (4, .int (nI (4 * K)))] → cells' ≤ 18 + 4 * (K + 1) → slots' ≤ 1557 + 32 * (K + 1) → W p l e room_1 s m #[Value.ref b] below meth c H' locs' cells' slots' (lw_Z below #[Value.ref b] s) (F0 m 1233 ls' [])) : W p l e room_1 s m #[Value.ref b] below meth c H locs cells slots (lw_Z below #[Value.ref b] s) (F0 m 365 ls []) := by
  obtain ⟨hx, hb, hml, hown, hts, hXb, hbl, hL, hK, hN, hlt⟩ := C0
  have hLI0 := hLI
  obtain ⟨hW, hM, hw, hE, hI, hO, hmI, hou, hmA, hzo, hd, hbk, n, kc, dd, hC, hZ, hR⟩ := hLI
  have hmAH : ∀ a, mA ao q a → AH s.heap.size a := fun a h => (hmA a h).1
  have hAA : ∀ a, wA g H.size ou a → AH s.heap.size a := fun a h => by
    rcases h with (⟨t, i, h⟩ | h) | h
    · exact hO.1 t i a h
    · exact Nat.le_trans hO.2 h
    · rw [h]; exact hzo
  refine lv_aload_n hx hb dL_law_365 rfl (lv_at hl 1 rfl) ?_
  refine lv_aload_n hx hb dL_law_366 rfl (lv_at hl 0 rfl) ?_
  refine lv_iload hx hb dL_law_367 (lv_at hl 4 rfl) ?_
  refine lv_iconst (v := 1) hx hb dL_law_369 (by decide) ?_
  refine lv_iadd hx hb dL_law_370 ?_
  refine f_sld hx hb hXb hbl hL hS (i := 4 * K + 1) (nI_addx (a := 4 * K) (b := 1) rfl rfl) (by omega) dL_law_371 ?_
  refine lv_aload_n hx hb dL_law_372 rfl (lv_at hl 0 rfl) ?_
  refine lv_iload hx hb dL_law_373 (lv_at hl 4 rfl) ?_
  refine lv_iconst (v := 2) hx hb dL_law_375 (by decide) ?_
  refine lv_iadd hx hb dL_law_376 ?_
  refine f_sld hx hb hXb hbl hL hS (i := 4 * K + 2) (nI_addx (a := 4 * K) (b := 2) rfl rfl) (by omega) dL_law_377 ?_
  refine lv_aload_n hx hb dL_law_378 rfl (lv_at hl 0 rfl) ?_
  refine lv_iload hx hb dL_law_379 (lv_at hl 4 rfl) ?_
  refine lv_iconst (v := 3) hx hb dL_law_381 (by decide) ?_
  refine lv_iadd hx hb dL_law_382 ?_
  refine f_sld hx hb hXb hbl hL hS (i := 4 * K + 3) (nI_addx (a := 4 * K) (b := 3) rfl rfl) (by omega) dL_law_383 ?_
  refine lv_aload_n hx hb dL_law_384 rfl (lv_at hl 3 rfl) ?_
  refine va_calli (vx_runSW (As := [.ref d, .int (xs (4 * K + 1)), .int (xs (4 * K + 2)), .int (xs (4 * K + 3)), .ref ou]) (rest := []) ⟨hx, hb, hml, hown, hts⟩ (kL_mayComeBack l hlt g X s.heap.size H.size hI hO ou hou hw.lt w d bk hd hbk n kc hC hZ (xs (4 * K + 1)) (xs (4 * K + 2)) (xs (4 * K + 3))) (vx_cwSW 5 hts gL_law_L_mayComeBack rfl rfl rfl (by decide +kernel) ⟨Nat.le_of_ble_eq_true rfl, Nat.le_of_ble_eq_true rfl⟩) (w_pre hW hK hE hw hN) rfl rfl hl.1 rfl (lv_room (Nat.le_of_ble_eq_true rfl)) dL_law_385 ⟨by show cells + 3 ≤ 601024; omega, by show slots + 18 ≤ 7293034; omega⟩) hS (fun a _ h => hAA a h) hAA (fun r u t H1 locs ht hvm hp hB hz1 hk1 hS => ?_)
  obtain ⟨hW1, hw1⟩ := hB
  rw [ht] at hW1 hw1
  obtain ⟨hM1, hE1, hI1, hO1, hou1, hmA1, hd1, hbk1⟩ := LI.one hLI0 (gw_mayComeBack hI (fun t i a h => hW.lt h) hp) hz1 hk1
  refine lv_istore (lv' := [(5, .int r), (0, .ref b), (1, .ref d), (2, .ref ao), (3, .ref ou), (4, .int (nI (4 * K)))]) hx hb dL_law_388 hl (by decide) rfl (fun ls hl => ?_)
  refine lv_aload_n hx hb dL_law_390 rfl (lv_at hl 3 rfl) ?_
  refine lv_aload_n hx hb dL_law_391 rfl (lv_at hl 1 rfl) ?_
  refine lv_iload hx hb dL_law_392 (lv_at hl 5 rfl) ?_
  refine lv_iconst (v := 1) hx hb dL_law_394 (by decide) ?_
  refine lv_iadd hx hb dL_law_395 ?_
  refine f_sld hx hb hXb hbl hL hS (i := 4 * K + 1) (nI_addx (a := 4 * K) (b := 1) rfl rfl) (by omega) dL_law_396 ?_
  refine lv_aload_n hx hb dL_law_397 rfl (lv_at hl 1 rfl) ?_
  refine lv_iload hx hb dL_law_398 (lv_at hl 5 rfl) ?_
  refine lv_iconst (v := 2) hx hb dL_law_400 (by decide) ?_
  refine lv_iadd hx hb dL_law_401 ?_
  refine f_sld hx hb hXb hbl hL hS (i := 4 * K + 2) (nI_addx (a := 4 * K) (b := 2) rfl rfl) (by omega) dL_law_402 ?_
  refine lv_aload_n hx hb dL_law_403 rfl (lv_at hl 1 rfl) ?_
  refine lv_iload hx hb dL_law_404 (lv_at hl 5 rfl) ?_
  refine lv_iconst (v := 3) hx hb dL_law_406 (by decide) ?_
  refine lv_iadd hx hb dL_law_407 ?_
  refine f_sld hx hb hXb hbl hL hS (i := 4 * K + 3) (nI_addx (a := 4 * K) (b := 3) rfl rfl) (by omega) dL_law_408 ?_
  obtain ⟨rm, post, c1, c2, c3, c4, hMet, hG⟩ := sim_mayComeBack (l := l) (D := D) (cI := cI) (cO := cO) (cL := cL) (cJ := cJ) hmI hC hZ hR (xs (4 * K + 1)) (xs (4 * K + 2)) (xs (4 * K + 3)) hp
  refine m_call 3 hx hb hts hown hml hMet rfl gL_law_X3_mayComeBack rfl c1 c2 (by decide +kernel) ⟨by show rm.frames + 1 ≤ 12; omega, by show 8 + (4 + 11) + rm.locals ≤ 442; omega⟩ hl.1 hM1 hK hS hmAH rfl (Nat.le_of_ble_eq_true rfl) dL_law_409 ⟨by show cells + 3 ≤ 601024; omega, by show slots + 18 ≤ 7293034; omega⟩ (fun bb M9 H2 locs hpost hM2 hz2 hk2 hS => ?_)
  obtain ⟨⟨g1, g2, g3⟩, h01⟩ := hG bb M9 hpost
  have hLI2 : LI D cI cO cL cJ d bk ou ao q s (K + 1) u.1 u.2.1 M9 u.2.2 H2 := LI.two hW1 hw1 hE1 hI1 hO1 hmI hou1 hmA1 hzo hd1 hbk1 hM2 hz2 hk2 g3
  refine lv_istore (lv' := [(6, .int bb), (5, .int r), (0, .ref b), (1, .ref d), (2, .ref ao), (3, .ref ou), (4, .int (nI (4 * K)))]) hx hb dL_law_412 hl (by decide) rfl (fun ls hl => ?_)
  refine lv_aload_n hx hb dL_law_414 rfl (lv_at hl 4 rfl) ?_
  refine m_call0 0 hx hb hts hown hml (kX3_thrown l M9) rfl gL_law_X3_thrown rfl rfl rfl (by decide +kernel) ⟨Nat.le_of_ble_eq_true rfl, Nat.le_of_ble_eq_true rfl⟩ hl.1 hM2 hK rfl (Nat.le_of_ble_eq_true rfl) dL_law_415 ⟨by show cells + 3 ≤ 601024; omega, by show slots + 18 ≤ 7293034; omega⟩ (fun rt ht9 => ?_)
  refine lv_iload hx hb dL_law_418 (lv_at hl 1 rfl) ?_
  refine lv_icmp_eq (tgt := 425) hx hb dL_law_420 (by decide) (fun _ => ?_) (fun h9 => absurd (ht9.trans g1) h9)
  refine lv_iload hx hb dL_law_425 (lv_at hl 1 rfl) ?_
  refine lv_if_ne (tgt := 449) hx hb dL_law_427 (by decide) (fun c9 => ?_) (fun c9 => ?_)
  · skip
    refine lv_goto (tgt := 1233) hx hb dL_law_449 (by decide) ?_
    exact hnext u.1 u.2.1 M9 u.2.2 H2 locs ls _ _ hLI2 hS (lv_sub hl [2, 3, 4, 5, 6] rfl) (by omega) (by omega)
  · skip
    refine lv_aload_n hx hb dL_law_430 rfl (lv_at hl 5 rfl) ?_
    refine lv_iconst (v := 0) hx hb dL_law_431 (by decide) ?_
    refine f_lald hx hb hK hLI2.2.2.1 (i := 0) rfl (by decide) (by decide) (v := u.2.2) rfl dL_law_432 ?_
    refine lv_iload hx hb dL_law_433 (lv_at hl 0 rfl) ?_
    refine lv_if_eq (tgt := 442) hx hb dL_law_435 (by decide) (fun c8 => ?_) (fun c8 => ?_)
    · skip
      refine lv_lconst (v := 0) hx hb dL_law_442 (by decide) ?_
      refine W.lcmp hx hb dL_law_443 ?_
      refine lv_if_eq (tgt := 449) hx hb dL_law_444 (by decide) (fun _ => ?_) (fun h9 => absurd (by rw [g2 c9, c8]; exact cmp0 _) h9)
      refine lv_goto (tgt := 1233) hx hb dL_law_449 (by decide) ?_
      exact hnext u.1 u.2.1 M9 u.2.2 H2 locs ls _ _ hLI2 hS (lv_sub hl [2, 3, 4, 5, 6] rfl) (by omega) (by omega)
    · skip
      refine lv_lconst (v := 1) hx hb dL_law_438 (by decide) ?_
      refine lv_goto (tgt := 443) hx hb dL_law_439 (by decide) ?_
      refine W.lcmp hx hb dL_law_443 ?_
      refine lv_if_eq (tgt := 449) hx hb dL_law_444 (by decide) (fun _ => ?_) (fun h9 => absurd (by rw [g2 c9, h01.resolve_left c8]; exact cmp0 _) h9)
      refine lv_goto (tgt := 1233) hx hb dL_law_449 (by decide) ?_
      exact hnext u.1 u.2.1 M9 u.2.2 H2 locs ls _ _ hLI2 hS (lv_sub hl [2, 3, 4, 5, 6] rfl) (by omega) (by omega)
set_option maxHeartbeats 4000000 in
set_option maxRecDepth 100000 in
theorem law_ask {p : Program} {l : Launch} {e : Env} {s : State} {m : MethodId} {below : List Frame} {meth : Method} {c : Code} {D : va_G} {cI cO cL cJ : ClassId} {b L : Nat} {xs : Nat → Int32} (C0 : LC p l s m c D cI cO cL cJ b L xs) {d bk ou ao : Nat} {q : Nat → Nat} {K : Nat} {g : XG} {X M : MS} {w : Int64} {H : Heap} {locs : List Loc} {cells slots : Nat} {ls : Array Slot} (hLI : LI D cI cO cL cJ d bk ou ao q s K g X M w H) (hS : va_S (AH s.heap.size) s.heap H locs) (hl : lv_has ls 7 [(0, .ref b), (1, .ref d), (2, .ref ao), (3, .ref ou), (4, .int (nI (4 * K)))]) (hKL : 4 * K + 4 ≤ L) (hc : cells ≤ 18 + 4 * K) (hs : slots ≤ 1557 + 32 * K)
    (hnext : ∀ (g' : XG) (X' M' : MS) (w' : Int64) (H' : Heap) (locs' : List Loc) (ls' : Array Slot) (cells' slots' : Nat), LI D cI cO cL cJ d bk ou ao q s (K + 1) g' X' M' w' H' → va_S (AH s.heap.size) s.heap H' locs' → lv_has ls' 7 [(0, .ref b), (1, .ref d), (2, .ref ao), (3, .ref ou), (4, .int (nI (4 * K)))] → cells' ≤ 18 + 4 * (K + 1) → slots' ≤ 1557 + 32 * (K + 1) → W p l e room_1 s m #[Value.ref b] below meth c H' locs' cells' slots' (lw_Z below #[Value.ref b] s) (F0 m 1233 ls' [])) : W p l e room_1 s m #[Value.ref b] below meth c H locs cells slots (lw_Z below #[Value.ref b] s) (F0 m 452 ls []) := by
  obtain ⟨hx, hb, hml, hown, hts, hXb, hbl, hL, hK, hN, hlt⟩ := C0
  have hLI0 := hLI
  obtain ⟨hW, hM, hw, hE, hI, hO, hmI, hou, hmA, hzo, hd, hbk, n, kc, dd, hC, hZ, hR⟩ := hLI
  have hmAH : ∀ a, mA ao q a → AH s.heap.size a := fun a h => (hmA a h).1
  have hAA : ∀ a, wA g H.size ou a → AH s.heap.size a := fun a h => by
    rcases h with (⟨t, i, h⟩ | h) | h
    · exact hO.1 t i a h
    · exact Nat.le_trans hO.2 h
    · rw [h]; exact hzo
  refine lv_aload_n hx hb dL_law_452 rfl (lv_at hl 1 rfl) ?_
  refine lv_aload_n hx hb dL_law_453 rfl (lv_at hl 0 rfl) ?_
  refine lv_iload hx hb dL_law_454 (lv_at hl 4 rfl) ?_
  refine lv_iconst (v := 1) hx hb dL_law_456 (by decide) ?_
  refine lv_iadd hx hb dL_law_457 ?_
  refine f_sld hx hb hXb hbl hL hS (i := 4 * K + 1) (nI_addx (a := 4 * K) (b := 1) rfl rfl) (by omega) dL_law_458 ?_
  refine lv_aload_n hx hb dL_law_459 rfl (lv_at hl 0 rfl) ?_
  refine lv_iload hx hb dL_law_460 (lv_at hl 4 rfl) ?_
  refine lv_iconst (v := 2) hx hb dL_law_462 (by decide) ?_
  refine lv_iadd hx hb dL_law_463 ?_
  refine f_sld hx hb hXb hbl hL hS (i := 4 * K + 2) (nI_addx (a := 4 * K) (b := 2) rfl rfl) (by omega) dL_law_464 ?_
  refine lv_aload_n hx hb dL_law_465 rfl (lv_at hl 0 rfl) ?_
  refine lv_iload hx hb dL_law_466 (lv_at hl 4 rfl) ?_
  refine lv_iconst (v := 3) hx hb dL_law_468 (by decide) ?_
  refine lv_iadd hx hb dL_law_469 ?_
  refine f_sld hx hb hXb hbl hL hS (i := 4 * K + 3) (nI_addx (a := 4 * K) (b := 3) rfl rfl) (by omega) dL_law_470 ?_
  refine lv_aload_n hx hb dL_law_471 rfl (lv_at hl 3 rfl) ?_
  refine va_calli (vx_runSW (As := [.ref d, .int (xs (4 * K + 1)), .int (xs (4 * K + 2)), .int (xs (4 * K + 3)), .ref ou]) (rest := []) ⟨hx, hb, hml, hown, hts⟩ (kL_ask l hlt g X s.heap.size H.size hI hO ou hou hw.lt w d bk hd hbk n kc hC hZ (xs (4 * K + 1)) (xs (4 * K + 2)) (xs (4 * K + 3))) (vx_cwSW 5 hts gL_law_L_ask rfl rfl rfl (by decide +kernel) ⟨Nat.le_of_ble_eq_true rfl, Nat.le_of_ble_eq_true rfl⟩) (w_pre hW hK hE hw hN) rfl rfl hl.1 rfl (lv_room (Nat.le_of_ble_eq_true rfl)) dL_law_472 ⟨by show cells + 4 ≤ 601024; omega, by show slots + 24 ≤ 7293034; omega⟩) hS (fun a _ h => hAA a h) hAA (fun r u t H1 locs ht hvm hp hB hz1 hk1 hS => ?_)
  obtain ⟨hW1, hw1⟩ := hB
  rw [ht] at hW1 hw1
  obtain ⟨hM1, hE1, hI1, hO1, hou1, hmA1, hd1, hbk1⟩ := LI.one hLI0 (gw_ask hI (fun t i a h => hW.lt h) hp) hz1 hk1
  refine lv_istore (lv' := [(5, .int r), (0, .ref b), (1, .ref d), (2, .ref ao), (3, .ref ou), (4, .int (nI (4 * K)))]) hx hb dL_law_475 hl (by decide) rfl (fun ls hl => ?_)
  refine lv_aload_n hx hb dL_law_477 rfl (lv_at hl 3 rfl) ?_
  refine lv_aload_n hx hb dL_law_478 rfl (lv_at hl 1 rfl) ?_
  refine lv_iload hx hb dL_law_479 (lv_at hl 5 rfl) ?_
  refine lv_iconst (v := 1) hx hb dL_law_481 (by decide) ?_
  refine lv_iadd hx hb dL_law_482 ?_
  refine f_sld hx hb hXb hbl hL hS (i := 4 * K + 1) (nI_addx (a := 4 * K) (b := 1) rfl rfl) (by omega) dL_law_483 ?_
  refine lv_aload_n hx hb dL_law_484 rfl (lv_at hl 1 rfl) ?_
  refine lv_iload hx hb dL_law_485 (lv_at hl 5 rfl) ?_
  refine lv_iconst (v := 2) hx hb dL_law_487 (by decide) ?_
  refine lv_iadd hx hb dL_law_488 ?_
  refine f_sld hx hb hXb hbl hL hS (i := 4 * K + 2) (nI_addx (a := 4 * K) (b := 2) rfl rfl) (by omega) dL_law_489 ?_
  refine lv_aload_n hx hb dL_law_490 rfl (lv_at hl 1 rfl) ?_
  refine lv_iload hx hb dL_law_491 (lv_at hl 5 rfl) ?_
  refine lv_iconst (v := 3) hx hb dL_law_493 (by decide) ?_
  refine lv_iadd hx hb dL_law_494 ?_
  refine f_sld hx hb hXb hbl hL hS (i := 4 * K + 3) (nI_addx (a := 4 * K) (b := 3) rfl rfl) (by omega) dL_law_495 ?_
  obtain ⟨rm, post, c1, c2, c3, c4, hMet, hG⟩ := sim_ask (l := l) (D := D) (cI := cI) (cO := cO) (cL := cL) (cJ := cJ) hmI hC hZ hR (xs (4 * K + 1)) (xs (4 * K + 2)) (xs (4 * K + 3)) hp
  refine m_call 3 hx hb hts hown hml hMet rfl gL_law_X3_ask rfl c1 c2 (by decide +kernel) ⟨by show rm.frames + 1 ≤ 12; omega, by show 8 + (4 + 11) + rm.locals ≤ 442; omega⟩ hl.1 hM1 hK hS hmAH rfl (Nat.le_of_ble_eq_true rfl) dL_law_496 ⟨by show cells + 4 ≤ 601024; omega, by show slots + 24 ≤ 7293034; omega⟩ (fun bb M9 H2 locs hpost hM2 hz2 hk2 hS => ?_)
  obtain ⟨g1, g2, g3⟩ := hG bb M9 hpost
  have hLI2 : LI D cI cO cL cJ d bk ou ao q s (K + 1) u.1 u.2.1 M9 u.2.2 H2 := LI.two hW1 hw1 hE1 hI1 hO1 hmI hou1 hmA1 hzo hd1 hbk1 hM2 hz2 hk2 g3
  refine lv_istore (lv' := [(6, .int bb), (5, .int r), (0, .ref b), (1, .ref d), (2, .ref ao), (3, .ref ou), (4, .int (nI (4 * K)))]) hx hb dL_law_499 hl (by decide) rfl (fun ls hl => ?_)
  refine lv_aload_n hx hb dL_law_501 rfl (lv_at hl 4 rfl) ?_
  refine m_call0 0 hx hb hts hown hml (kX3_thrown l M9) rfl gL_law_X3_thrown rfl rfl rfl (by decide +kernel) ⟨Nat.le_of_ble_eq_true rfl, Nat.le_of_ble_eq_true rfl⟩ hl.1 hM2 hK rfl (Nat.le_of_ble_eq_true rfl) dL_law_502 ⟨by show cells + 4 ≤ 601024; omega, by show slots + 24 ≤ 7293034; omega⟩ (fun rt ht9 => ?_)
  refine lv_iload hx hb dL_law_505 (lv_at hl 1 rfl) ?_
  refine lv_icmp_eq (tgt := 512) hx hb dL_law_507 (by decide) (fun _ => ?_) (fun h9 => absurd (ht9.trans g1) h9)
  refine lv_iload hx hb dL_law_512 (lv_at hl 1 rfl) ?_
  refine lv_if_ne (tgt := 529) hx hb dL_law_514 (by decide) (fun c9 => ?_) (fun c9 => ?_)
  · skip
    refine lv_goto (tgt := 1233) hx hb dL_law_529 (by decide) ?_
    exact hnext u.1 u.2.1 M9 u.2.2 H2 locs ls _ _ hLI2 hS (lv_sub hl [2, 3, 4, 5, 6] rfl) (by omega) (by omega)
  · skip
    refine lv_aload_n hx hb dL_law_517 rfl (lv_at hl 5 rfl) ?_
    refine lv_iconst (v := 0) hx hb dL_law_518 (by decide) ?_
    refine f_lald hx hb hK hLI2.2.2.1 (i := 0) rfl (by decide) (by decide) (v := u.2.2) rfl dL_law_519 ?_
    refine lv_iload hx hb dL_law_520 (lv_at hl 0 rfl) ?_
    refine lv_i2l hx hb dL_law_522 rfl ?_
    refine W.lcmp hx hb dL_law_523 ?_
    refine lv_if_eq (tgt := 529) hx hb dL_law_524 (by decide) (fun _ => ?_) (fun h9 => absurd (by rw [g2 c9]; exact cmp0 _) h9)
    refine lv_goto (tgt := 1233) hx hb dL_law_529 (by decide) ?_
    exact hnext u.1 u.2.1 M9 u.2.2 H2 locs ls _ _ hLI2 hS (lv_sub hl [2, 3, 4, 5, 6] rfl) (by omega) (by omega)
set_option maxHeartbeats 4000000 in
set_option maxRecDepth 100000 in
theorem law_exchange {p : Program} {l : Launch} {e : Env} {s : State} {m : MethodId} {below : List Frame} {meth : Method} {c : Code} {D : va_G} {cI cO cL cJ : ClassId} {b L : Nat} {xs : Nat → Int32} (C0 : LC p l s m c D cI cO cL cJ b L xs) {d bk ou ao : Nat} {q : Nat → Nat} {K : Nat} {g : XG} {X M : MS} {w : Int64} {H : Heap} {locs : List Loc} {cells slots : Nat} {ls : Array Slot} (hLI : LI D cI cO cL cJ d bk ou ao q s K g X M w H) (hS : va_S (AH s.heap.size) s.heap H locs) (hl : lv_has ls 7 [(0, .ref b), (1, .ref d), (2, .ref ao), (3, .ref ou), (4, .int (nI (4 * K)))]) (hKL : 4 * K + 4 ≤ L) (hc : cells ≤ 18 + 4 * K) (hs : slots ≤ 1557 + 32 * K)
    (hnext : ∀ (g' : XG) (X' M' : MS) (w' : Int64) (H' : Heap) (locs' : List Loc) (ls' : Array Slot) (cells' slots' : Nat), LI D cI cO cL cJ d bk ou ao q s (K + 1) g' X' M' w' H' → va_S (AH s.heap.size) s.heap H' locs' → lv_has ls' 7 [(0, .ref b), (1, .ref d), (2, .ref ao), (3, .ref ou), (4, .int (nI (4 * K)))] → cells' ≤ 18 + 4 * (K + 1) → slots' ≤ 1557 + 32 * (K + 1) → W p l e room_1 s m #[Value.ref b] below meth c H' locs' cells' slots' (lw_Z below #[Value.ref b] s) (F0 m 1233 ls' [])) : W p l e room_1 s m #[Value.ref b] below meth c H locs cells slots (lw_Z below #[Value.ref b] s) (F0 m 532 ls []) := by
  obtain ⟨hx, hb, hml, hown, hts, hXb, hbl, hL, hK, hN, hlt⟩ := C0
  have hLI0 := hLI
  obtain ⟨hW, hM, hw, hE, hI, hO, hmI, hou, hmA, hzo, hd, hbk, n, kc, dd, hC, hZ, hR⟩ := hLI
  have hmAH : ∀ a, mA ao q a → AH s.heap.size a := fun a h => (hmA a h).1
  have hAA : ∀ a, wA g H.size ou a → AH s.heap.size a := fun a h => by
    rcases h with (⟨t, i, h⟩ | h) | h
    · exact hO.1 t i a h
    · exact Nat.le_trans hO.2 h
    · rw [h]; exact hzo
  refine lv_aload_n hx hb dL_law_532 rfl (lv_at hl 1 rfl) ?_
  refine lv_aload_n hx hb dL_law_533 rfl (lv_at hl 0 rfl) ?_
  refine lv_iload hx hb dL_law_534 (lv_at hl 4 rfl) ?_
  refine lv_iconst (v := 1) hx hb dL_law_536 (by decide) ?_
  refine lv_iadd hx hb dL_law_537 ?_
  refine f_sld hx hb hXb hbl hL hS (i := 4 * K + 1) (nI_addx (a := 4 * K) (b := 1) rfl rfl) (by omega) dL_law_538 ?_
  refine lv_aload_n hx hb dL_law_539 rfl (lv_at hl 0 rfl) ?_
  refine lv_iload hx hb dL_law_540 (lv_at hl 4 rfl) ?_
  refine lv_iconst (v := 2) hx hb dL_law_542 (by decide) ?_
  refine lv_iadd hx hb dL_law_543 ?_
  refine f_sld hx hb hXb hbl hL hS (i := 4 * K + 2) (nI_addx (a := 4 * K) (b := 2) rfl rfl) (by omega) dL_law_544 ?_
  refine lv_aload_n hx hb dL_law_545 rfl (lv_at hl 0 rfl) ?_
  refine lv_iload hx hb dL_law_546 (lv_at hl 4 rfl) ?_
  refine lv_iconst (v := 3) hx hb dL_law_548 (by decide) ?_
  refine lv_iadd hx hb dL_law_549 ?_
  refine f_sld hx hb hXb hbl hL hS (i := 4 * K + 3) (nI_addx (a := 4 * K) (b := 3) rfl rfl) (by omega) dL_law_550 ?_
  refine lv_aload_n hx hb dL_law_551 rfl (lv_at hl 3 rfl) ?_
  refine va_calli (vx_runSW (As := [.ref d, .int (xs (4 * K + 1)), .int (xs (4 * K + 2)), .int (xs (4 * K + 3)), .ref ou]) (rest := []) ⟨hx, hb, hml, hown, hts⟩ (kL_exchange l hlt g X s.heap.size H.size hI hO ou hou hw.lt w d bk hd hbk n kc hC hZ (xs (4 * K + 1)) (xs (4 * K + 2)) (xs (4 * K + 3))) (vx_cwSW 5 hts gL_law_L_exchange rfl rfl rfl (by decide +kernel) ⟨Nat.le_of_ble_eq_true rfl, Nat.le_of_ble_eq_true rfl⟩) (w_pre hW hK hE hw hN) rfl rfl hl.1 rfl (lv_room (Nat.le_of_ble_eq_true rfl)) dL_law_552 ⟨by show cells + 4 ≤ 601024; omega, by show slots + 24 ≤ 7293034; omega⟩) hS (fun a _ h => hAA a h) hAA (fun r u t H1 locs ht hvm hp hB hz1 hk1 hS => ?_)
  obtain ⟨hW1, hw1⟩ := hB
  rw [ht] at hW1 hw1
  obtain ⟨hM1, hE1, hI1, hO1, hou1, hmA1, hd1, hbk1⟩ := LI.one hLI0 (gw_exchange hI (fun t i a h => hW.lt h) hp) hz1 hk1
  refine lv_istore (lv' := [(5, .int r), (0, .ref b), (1, .ref d), (2, .ref ao), (3, .ref ou), (4, .int (nI (4 * K)))]) hx hb dL_law_555 hl (by decide) rfl (fun ls hl => ?_)
  refine lv_aload_n hx hb dL_law_557 rfl (lv_at hl 3 rfl) ?_
  refine lv_aload_n hx hb dL_law_558 rfl (lv_at hl 1 rfl) ?_
  refine lv_iload hx hb dL_law_559 (lv_at hl 5 rfl) ?_
  refine lv_iconst (v := 1) hx hb dL_law_561 (by decide) ?_
  refine lv_iadd hx hb dL_law_562 ?_
  refine f_sld hx hb hXb hbl hL hS (i := 4 * K + 1) (nI_addx (a := 4 * K) (b := 1) rfl rfl) (by omega) dL_law_563 ?_
  refine lv_aload_n hx hb dL_law_564 rfl (lv_at hl 1 rfl) ?_
  refine lv_iload hx hb dL_law_565 (lv_at hl 5 rfl) ?_
  refine lv_iconst (v := 2) hx hb dL_law_567 (by decide) ?_
  refine lv_iadd hx hb dL_law_568 ?_
  refine f_sld hx hb hXb hbl hL hS (i := 4 * K + 2) (nI_addx (a := 4 * K) (b := 2) rfl rfl) (by omega) dL_law_569 ?_
  refine lv_aload_n hx hb dL_law_570 rfl (lv_at hl 1 rfl) ?_
  refine lv_iload hx hb dL_law_571 (lv_at hl 5 rfl) ?_
  refine lv_iconst (v := 3) hx hb dL_law_573 (by decide) ?_
  refine lv_iadd hx hb dL_law_574 ?_
  refine f_sld hx hb hXb hbl hL hS (i := 4 * K + 3) (nI_addx (a := 4 * K) (b := 3) rfl rfl) (by omega) dL_law_575 ?_
  obtain ⟨rm, post, c1, c2, c3, c4, hMet, hG⟩ := sim_exchange (l := l) (D := D) (cI := cI) (cO := cO) (cL := cL) (cJ := cJ) hmI hC hZ hR (xs (4 * K + 1)) (xs (4 * K + 2)) (xs (4 * K + 3)) hp
  refine m_call 3 hx hb hts hown hml hMet rfl gL_law_X3_exchange rfl c1 c2 (by decide +kernel) ⟨by show rm.frames + 1 ≤ 12; omega, by show 8 + (4 + 11) + rm.locals ≤ 442; omega⟩ hl.1 hM1 hK hS hmAH rfl (Nat.le_of_ble_eq_true rfl) dL_law_576 ⟨by show cells + 4 ≤ 601024; omega, by show slots + 24 ≤ 7293034; omega⟩ (fun bb M9 H2 locs hpost hM2 hz2 hk2 hS => ?_)
  obtain ⟨g1, g2, g3⟩ := hG bb M9 hpost
  have hLI2 : LI D cI cO cL cJ d bk ou ao q s (K + 1) u.1 u.2.1 M9 u.2.2 H2 := LI.two hW1 hw1 hE1 hI1 hO1 hmI hou1 hmA1 hzo hd1 hbk1 hM2 hz2 hk2 g3
  refine lv_istore (lv' := [(6, .int bb), (5, .int r), (0, .ref b), (1, .ref d), (2, .ref ao), (3, .ref ou), (4, .int (nI (4 * K)))]) hx hb dL_law_579 hl (by decide) rfl (fun ls hl => ?_)
  refine lv_aload_n hx hb dL_law_581 rfl (lv_at hl 4 rfl) ?_
  refine m_call0 0 hx hb hts hown hml (kX3_thrown l M9) rfl gL_law_X3_thrown rfl rfl rfl (by decide +kernel) ⟨Nat.le_of_ble_eq_true rfl, Nat.le_of_ble_eq_true rfl⟩ hl.1 hM2 hK rfl (Nat.le_of_ble_eq_true rfl) dL_law_582 ⟨by show cells + 4 ≤ 601024; omega, by show slots + 24 ≤ 7293034; omega⟩ (fun rt ht9 => ?_)
  refine lv_iload hx hb dL_law_585 (lv_at hl 1 rfl) ?_
  refine lv_icmp_eq (tgt := 592) hx hb dL_law_587 (by decide) (fun _ => ?_) (fun h9 => absurd (ht9.trans g1) h9)
  refine lv_iload hx hb dL_law_592 (lv_at hl 1 rfl) ?_
  refine lv_if_ne (tgt := 609) hx hb dL_law_594 (by decide) (fun c9 => ?_) (fun c9 => ?_)
  · skip
    refine lv_goto (tgt := 1233) hx hb dL_law_609 (by decide) ?_
    exact hnext u.1 u.2.1 M9 u.2.2 H2 locs ls _ _ hLI2 hS (lv_sub hl [2, 3, 4, 5, 6] rfl) (by omega) (by omega)
  · skip
    refine lv_aload_n hx hb dL_law_597 rfl (lv_at hl 5 rfl) ?_
    refine lv_iconst (v := 0) hx hb dL_law_598 (by decide) ?_
    refine f_lald hx hb hK hLI2.2.2.1 (i := 0) rfl (by decide) (by decide) (v := u.2.2) rfl dL_law_599 ?_
    refine lv_iload hx hb dL_law_600 (lv_at hl 0 rfl) ?_
    refine lv_i2l hx hb dL_law_602 rfl ?_
    refine W.lcmp hx hb dL_law_603 ?_
    refine lv_if_eq (tgt := 609) hx hb dL_law_604 (by decide) (fun _ => ?_) (fun h9 => absurd (by rw [g2 c9]; exact cmp0 _) h9)
    refine lv_goto (tgt := 1233) hx hb dL_law_609 (by decide) ?_
    exact hnext u.1 u.2.1 M9 u.2.2 H2 locs ls _ _ hLI2 hS (lv_sub hl [2, 3, 4, 5, 6] rfl) (by omega) (by omega)
set_option maxHeartbeats 4000000 in
set_option maxRecDepth 100000 in
theorem law_grade {p : Program} {l : Launch} {e : Env} {s : State} {m : MethodId} {below : List Frame} {meth : Method} {c : Code} {D : va_G} {cI cO cL cJ : ClassId} {b L : Nat} {xs : Nat → Int32} (C0 : LC p l s m c D cI cO cL cJ b L xs) {d bk ou ao : Nat} {q : Nat → Nat} {K : Nat} {g : XG} {X M : MS} {w : Int64} {H : Heap} {locs : List Loc} {cells slots : Nat} {ls : Array Slot} (hLI : LI D cI cO cL cJ d bk ou ao q s K g X M w H) (hS : va_S (AH s.heap.size) s.heap H locs) (hl : lv_has ls 7 [(0, .ref b), (1, .ref d), (2, .ref ao), (3, .ref ou), (4, .int (nI (4 * K)))]) (hKL : 4 * K + 4 ≤ L) (hc : cells ≤ 18 + 4 * K) (hs : slots ≤ 1557 + 32 * K)
    (hnext : ∀ (g' : XG) (X' M' : MS) (w' : Int64) (H' : Heap) (locs' : List Loc) (ls' : Array Slot) (cells' slots' : Nat), LI D cI cO cL cJ d bk ou ao q s (K + 1) g' X' M' w' H' → va_S (AH s.heap.size) s.heap H' locs' → lv_has ls' 7 [(0, .ref b), (1, .ref d), (2, .ref ao), (3, .ref ou), (4, .int (nI (4 * K)))] → cells' ≤ 18 + 4 * (K + 1) → slots' ≤ 1557 + 32 * (K + 1) → W p l e room_1 s m #[Value.ref b] below meth c H' locs' cells' slots' (lw_Z below #[Value.ref b] s) (F0 m 1233 ls' [])) : W p l e room_1 s m #[Value.ref b] below meth c H locs cells slots (lw_Z below #[Value.ref b] s) (F0 m 612 ls []) := by
  obtain ⟨hx, hb, hml, hown, hts, hXb, hbl, hL, hK, hN, hlt⟩ := C0
  have hLI0 := hLI
  obtain ⟨hW, hM, hw, hE, hI, hO, hmI, hou, hmA, hzo, hd, hbk, n, kc, dd, hC, hZ, hR⟩ := hLI
  have hmAH : ∀ a, mA ao q a → AH s.heap.size a := fun a h => (hmA a h).1
  have hAA : ∀ a, wA g H.size ou a → AH s.heap.size a := fun a h => by
    rcases h with (⟨t, i, h⟩ | h) | h
    · exact hO.1 t i a h
    · exact Nat.le_trans hO.2 h
    · rw [h]; exact hzo
  refine lv_aload_n hx hb dL_law_612 rfl (lv_at hl 1 rfl) ?_
  refine lv_aload_n hx hb dL_law_613 rfl (lv_at hl 0 rfl) ?_
  refine lv_iload hx hb dL_law_614 (lv_at hl 4 rfl) ?_
  refine lv_iconst (v := 1) hx hb dL_law_616 (by decide) ?_
  refine lv_iadd hx hb dL_law_617 ?_
  refine f_sld hx hb hXb hbl hL hS (i := 4 * K + 1) (nI_addx (a := 4 * K) (b := 1) rfl rfl) (by omega) dL_law_618 ?_
  refine lv_aload_n hx hb dL_law_619 rfl (lv_at hl 0 rfl) ?_
  refine lv_iload hx hb dL_law_620 (lv_at hl 4 rfl) ?_
  refine lv_iconst (v := 2) hx hb dL_law_622 (by decide) ?_
  refine lv_iadd hx hb dL_law_623 ?_
  refine f_sld hx hb hXb hbl hL hS (i := 4 * K + 2) (nI_addx (a := 4 * K) (b := 2) rfl rfl) (by omega) dL_law_624 ?_
  refine lv_aload_n hx hb dL_law_625 rfl (lv_at hl 0 rfl) ?_
  refine lv_iload hx hb dL_law_626 (lv_at hl 4 rfl) ?_
  refine lv_iconst (v := 3) hx hb dL_law_628 (by decide) ?_
  refine lv_iadd hx hb dL_law_629 ?_
  refine f_sld hx hb hXb hbl hL hS (i := 4 * K + 3) (nI_addx (a := 4 * K) (b := 3) rfl rfl) (by omega) dL_law_630 ?_
  refine lv_aload_n hx hb dL_law_631 rfl (lv_at hl 3 rfl) ?_
  refine va_calli (vx_runSW (As := [.ref d, .int (xs (4 * K + 1)), .int (xs (4 * K + 2)), .int (xs (4 * K + 3)), .ref ou]) (rest := []) ⟨hx, hb, hml, hown, hts⟩ (kL_grade l hlt g X s.heap.size H.size hI hO ou hou hw.lt w d bk hd hbk n kc hC hZ (xs (4 * K + 1)) (xs (4 * K + 2)) (xs (4 * K + 3))) (vx_cwSW 5 hts gL_law_L_grade rfl rfl rfl (by decide +kernel) ⟨Nat.le_of_ble_eq_true rfl, Nat.le_of_ble_eq_true rfl⟩) (w_pre hW hK hE hw hN) rfl rfl hl.1 rfl (lv_room (Nat.le_of_ble_eq_true rfl)) dL_law_632 ⟨by show cells + 4 ≤ 601024; omega, by show slots + 24 ≤ 7293034; omega⟩) hS (fun a _ h => hAA a h) hAA (fun r u t H1 locs ht hvm hp hB hz1 hk1 hS => ?_)
  obtain ⟨hW1, hw1⟩ := hB
  rw [ht] at hW1 hw1
  obtain ⟨hM1, hE1, hI1, hO1, hou1, hmA1, hd1, hbk1⟩ := LI.one hLI0 (gw_grade hI (fun t i a h => hW.lt h) hp) hz1 hk1
  refine lv_istore (lv' := [(5, .int r), (0, .ref b), (1, .ref d), (2, .ref ao), (3, .ref ou), (4, .int (nI (4 * K)))]) hx hb dL_law_635 hl (by decide) rfl (fun ls hl => ?_)
  refine lv_aload_n hx hb dL_law_637 rfl (lv_at hl 3 rfl) ?_
  refine lv_aload_n hx hb dL_law_638 rfl (lv_at hl 1 rfl) ?_
  refine lv_iload hx hb dL_law_639 (lv_at hl 5 rfl) ?_
  refine lv_iconst (v := 1) hx hb dL_law_641 (by decide) ?_
  refine lv_iadd hx hb dL_law_642 ?_
  refine f_sld hx hb hXb hbl hL hS (i := 4 * K + 1) (nI_addx (a := 4 * K) (b := 1) rfl rfl) (by omega) dL_law_643 ?_
  refine lv_aload_n hx hb dL_law_644 rfl (lv_at hl 1 rfl) ?_
  refine lv_iload hx hb dL_law_645 (lv_at hl 5 rfl) ?_
  refine lv_iconst (v := 2) hx hb dL_law_647 (by decide) ?_
  refine lv_iadd hx hb dL_law_648 ?_
  refine f_sld hx hb hXb hbl hL hS (i := 4 * K + 2) (nI_addx (a := 4 * K) (b := 2) rfl rfl) (by omega) dL_law_649 ?_
  refine lv_aload_n hx hb dL_law_650 rfl (lv_at hl 1 rfl) ?_
  refine lv_iload hx hb dL_law_651 (lv_at hl 5 rfl) ?_
  refine lv_iconst (v := 3) hx hb dL_law_653 (by decide) ?_
  refine lv_iadd hx hb dL_law_654 ?_
  refine f_sld hx hb hXb hbl hL hS (i := 4 * K + 3) (nI_addx (a := 4 * K) (b := 3) rfl rfl) (by omega) dL_law_655 ?_
  obtain ⟨rm, post, c1, c2, c3, c4, hMet, hG⟩ := sim_grade (l := l) (D := D) (cI := cI) (cO := cO) (cL := cL) (cJ := cJ) (by omega) hmI hC hZ hR (xs (4 * K + 1)) (xs (4 * K + 2)) (xs (4 * K + 3)) hp
  refine m_call 3 hx hb hts hown hml hMet rfl gL_law_X3_grade rfl c1 c2 (by decide +kernel) ⟨by show rm.frames + 1 ≤ 12; omega, by show 8 + (9 + 11) + rm.locals ≤ 442; omega⟩ hl.1 hM1 hK hS hmAH rfl (Nat.le_of_ble_eq_true rfl) dL_law_656 ⟨by show cells + 4 ≤ 601024; omega, by show slots + 24 ≤ 7293034; omega⟩ (fun bb M9 H2 locs hpost hM2 hz2 hk2 hS => ?_)
  obtain ⟨g1, g2, g3⟩ := hG bb M9 hpost
  have hLI2 : LI D cI cO cL cJ d bk ou ao q s (K + 1) u.1 u.2.1 M9 u.2.2 H2 := LI.two hW1 hw1 hE1 hI1 hO1 hmI hou1 hmA1 hzo hd1 hbk1 hM2 hz2 hk2 g3
  refine lv_istore (lv' := [(6, .int bb), (5, .int r), (0, .ref b), (1, .ref d), (2, .ref ao), (3, .ref ou), (4, .int (nI (4 * K)))]) hx hb dL_law_659 hl (by decide) rfl (fun ls hl => ?_)
  refine lv_aload_n hx hb dL_law_661 rfl (lv_at hl 4 rfl) ?_
  refine m_call0 0 hx hb hts hown hml (kX3_thrown l M9) rfl gL_law_X3_thrown rfl rfl rfl (by decide +kernel) ⟨Nat.le_of_ble_eq_true rfl, Nat.le_of_ble_eq_true rfl⟩ hl.1 hM2 hK rfl (Nat.le_of_ble_eq_true rfl) dL_law_662 ⟨by show cells + 4 ≤ 601024; omega, by show slots + 24 ≤ 7293034; omega⟩ (fun rt ht9 => ?_)
  refine lv_iload hx hb dL_law_665 (lv_at hl 1 rfl) ?_
  refine lv_icmp_eq (tgt := 672) hx hb dL_law_667 (by decide) (fun _ => ?_) (fun h9 => absurd (ht9.trans g1) h9)
  refine lv_iload hx hb dL_law_672 (lv_at hl 1 rfl) ?_
  refine lv_if_ne (tgt := 689) hx hb dL_law_674 (by decide) (fun c9 => ?_) (fun c9 => ?_)
  · skip
    refine lv_goto (tgt := 1233) hx hb dL_law_689 (by decide) ?_
    exact hnext u.1 u.2.1 M9 u.2.2 H2 locs ls _ _ hLI2 hS (lv_sub hl [2, 3, 4, 5, 6] rfl) (by omega) (by omega)
  · skip
    refine lv_aload_n hx hb dL_law_677 rfl (lv_at hl 5 rfl) ?_
    refine lv_iconst (v := 0) hx hb dL_law_678 (by decide) ?_
    refine f_lald hx hb hK hLI2.2.2.1 (i := 0) rfl (by decide) (by decide) (v := u.2.2) rfl dL_law_679 ?_
    refine lv_iload hx hb dL_law_680 (lv_at hl 0 rfl) ?_
    refine lv_i2l hx hb dL_law_682 rfl ?_
    refine W.lcmp hx hb dL_law_683 ?_
    refine lv_if_eq (tgt := 689) hx hb dL_law_684 (by decide) (fun _ => ?_) (fun h9 => absurd (by rw [g2 c9]; exact cmp0 _) h9)
    refine lv_goto (tgt := 1233) hx hb dL_law_689 (by decide) ?_
    exact hnext u.1 u.2.1 M9 u.2.2 H2 locs ls _ _ hLI2 hS (lv_sub hl [2, 3, 4, 5, 6] rfl) (by omega) (by omega)

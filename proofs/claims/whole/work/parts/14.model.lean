/-! THE REFERENCE, method by method: waits, fees, owes. -/
set_option maxHeartbeats 4000000 in
set_option maxRecDepth 100000 in
theorem kX3_mayComeBack_bad (l : Launch) {D : va_G} {cI cO cL cJ : ClassId} {ao : Nat} {q : Nat → Nat} (hI : mI ao q) (M : MS) (p0 p1 p2 : Int32) (n : Nat) (hbad : ¬ vp_in p0 n) (hn : n ≤ 30) (hM1 : M 1 0 = nI n) : Met l yX3_mayComeBack wsX3_mayComeBack ({ frames := 3, cells := 0, slots := 0, locals := 67 } : Room) (mP D cI cO cL cJ ao q M [.int p0, .int p1, .int p2]) (mQ D cI cO cL cJ ao q (fun (r : Int32) (M9 : MS) => r = 0 ∧ M9 = mu M 16 0 1)) 0 0 (mA ao q) := by
  refine m_body (cc := cX3_mayComeBack) (maxL := 4) (ret := some .boolean) (by decide) rfl [.int p0, .int p1, .int p2] (Nat.le_of_ble_eq_true rfl) ?_
  intro p e s m args below meth c hx hb hr hts hown hml hlocks hW hK ls hl
  have hown : s.vm.findClass RX3 = some m.cls := hown
  have hl : lv_has ls 4 [(0, .ref ao), (1, .int p0), (2, .int p1), (3, .int p2)] := hl
  have hin : ∀ w ∈ u_ws RX3 TX3 17, w ∈ wsX3_mayComeBack := (fun w h => List.mem_cons_of_mem _ (List.mem_append_right _ (h)))
  have hS : va_S (mA ao q) s.heap s.heap [] := va_S.rf
  refine lv_aload_n hx hb dX3_mayComeBack_0 rfl (lv_at hl 0 rfl) ?_
  refine lv_iload_n hx hb dX3_mayComeBack_1 rfl (lv_at hl 1 rfl) ?_
  refine lv_iload_n hx hb dX3_mayComeBack_2 rfl (lv_at hl 2 rfl) ?_
  refine lv_iload_n hx hb dX3_mayComeBack_3 rfl (lv_at hl 3 rfl) ?_
  refine m_call 3 hx hb hts hown hml (kX3_isReason_bad l hI M p0 p1 p2 n hbad hn hM1) rfl gX3_mayComeBack_X3_isReason rfl rfl rfl (by decide +kernel) ⟨Nat.le_of_ble_eq_true rfl, Nat.le_of_ble_eq_true rfl⟩ hl.1 hW hK hS (fun _ h => h) rfl (Nat.le_of_ble_eq_true rfl) dX3_mayComeBack_4 ⟨Nat.zero_le _, Nat.zero_le _⟩ (fun r M9 H locs hp hW _ _ hS => ?_)
  obtain ⟨rfl, rfl⟩ := hp
  refine lv_if_eq (tgt := 24) hx hb dX3_mayComeBack_7 (by decide) (fun _ => ?_) (fun h9 => absurd (by decide) h9)
  refine lv_iconst (v := 0) hx hb dX3_mayComeBack_24 (by decide) ?_
  exact m_zret hx hb hr hlocks hK hW hS (by decide) ⟨rfl, rfl⟩ dX3_mayComeBack_25
set_option maxHeartbeats 4000000 in
set_option maxRecDepth 100000 in
theorem kX3_mayComeBack_bad2 (l : Launch) {D : va_G} {cI cO cL cJ : ClassId} {ao : Nat} {q : Nat → Nat} (hI : mI ao q) (M : MS) (o n kc : Nat) (p1 p2 : Int32) (ho : o < n) (hn : n ≤ 30) (hM1 : M 1 0 = nI n) (hkc : kc ≤ 8) (hM4 : M 4 o = nI kc) (hbad : ¬ vp_in p1 kc) : Met l yX3_mayComeBack wsX3_mayComeBack ({ frames := 3, cells := 0, slots := 0, locals := 67 } : Room) (mP D cI cO cL cJ ao q M [.int (nI o), .int p1, .int p2]) (mQ D cI cO cL cJ ao q (fun (r : Int32) (M9 : MS) => r = 0 ∧ M9 = mu M 16 0 1)) 0 0 (mA ao q) := by
  refine m_body (cc := cX3_mayComeBack) (maxL := 4) (ret := some .boolean) (by decide) rfl [.int (nI o), .int p1, .int p2] (Nat.le_of_ble_eq_true rfl) ?_
  intro p e s m args below meth c hx hb hr hts hown hml hlocks hW hK ls hl
  have hown : s.vm.findClass RX3 = some m.cls := hown
  have hl : lv_has ls 4 [(0, .ref ao), (1, .int (nI o)), (2, .int p1), (3, .int p2)] := hl
  have hin : ∀ w ∈ u_ws RX3 TX3 17, w ∈ wsX3_mayComeBack := (fun w h => List.mem_cons_of_mem _ (List.mem_append_right _ (h)))
  have hS : va_S (mA ao q) s.heap s.heap [] := va_S.rf
  refine lv_aload_n hx hb dX3_mayComeBack_0 rfl (lv_at hl 0 rfl) ?_
  refine lv_iload_n hx hb dX3_mayComeBack_1 rfl (lv_at hl 1 rfl) ?_
  refine lv_iload_n hx hb dX3_mayComeBack_2 rfl (lv_at hl 2 rfl) ?_
  refine lv_iload_n hx hb dX3_mayComeBack_3 rfl (lv_at hl 3 rfl) ?_
  refine m_call 3 hx hb hts hown hml (kX3_isReason_bad2 l hI M o n kc p1 p2 ho hn hM1 hkc hM4 hbad) rfl gX3_mayComeBack_X3_isReason rfl rfl rfl (by decide +kernel) ⟨Nat.le_of_ble_eq_true rfl, Nat.le_of_ble_eq_true rfl⟩ hl.1 hW hK hS (fun _ h => h) rfl (Nat.le_of_ble_eq_true rfl) dX3_mayComeBack_4 ⟨Nat.zero_le _, Nat.zero_le _⟩ (fun r M9 H locs hp hW _ _ hS => ?_)
  obtain ⟨rfl, rfl⟩ := hp
  refine lv_if_eq (tgt := 24) hx hb dX3_mayComeBack_7 (by decide) (fun _ => ?_) (fun h9 => absurd (by decide) h9)
  refine lv_iconst (v := 0) hx hb dX3_mayComeBack_24 (by decide) ?_
  exact m_zret hx hb hr hlocks hK hW hS (by decide) ⟨rfl, rfl⟩ dX3_mayComeBack_25
set_option maxHeartbeats 4000000 in
set_option maxRecDepth 100000 in
theorem kX3_mayComeBack_ok (l : Launch) {D : va_G} {cI cO cL cJ : ClassId} {ao : Nat} {q : Nat → Nat} (hI : mI ao q) (M : MS) (o n j kc : Nat) (p2 : Int32) (ho : o < n) (hn : n ≤ 30) (hM1 : M 1 0 = nI n) (hj : j < kc) (hkc : kc ≤ 8) (hM4 : M 4 o = nI kc) : Met l yX3_mayComeBack wsX3_mayComeBack ({ frames := 3, cells := 0, slots := 0, locals := 67 } : Room) (mP D cI cO cL cJ ao q M [.int (nI o), .int (nI j), .int p2]) (mQ D cI cO cL cJ ao q (fun (r : Int32) (M9 : MS) => (r, M9) = mMay M o j p2)) 0 0 (mA ao q) := by
  refine m_body (cc := cX3_mayComeBack) (maxL := 4) (ret := some .boolean) (by decide) rfl [.int (nI o), .int (nI j), .int p2] (Nat.le_of_ble_eq_true rfl) ?_
  intro p e s m args below meth c hx hb hr hts hown hml hlocks hW hK ls hl
  have hown : s.vm.findClass RX3 = some m.cls := hown
  have hl : lv_has ls 4 [(0, .ref ao), (1, .int (nI o)), (2, .int (nI j)), (3, .int p2)] := hl
  have hin : ∀ w ∈ u_ws RX3 TX3 17, w ∈ wsX3_mayComeBack := (fun w h => List.mem_cons_of_mem _ (List.mem_append_right _ (h)))
  have hS : va_S (mA ao q) s.heap s.heap [] := va_S.rf
  refine lv_aload_n hx hb dX3_mayComeBack_0 rfl (lv_at hl 0 rfl) ?_
  refine lv_iload_n hx hb dX3_mayComeBack_1 rfl (lv_at hl 1 rfl) ?_
  refine lv_iload_n hx hb dX3_mayComeBack_2 rfl (lv_at hl 2 rfl) ?_
  refine lv_iload_n hx hb dX3_mayComeBack_3 rfl (lv_at hl 3 rfl) ?_
  by_cases h1 : inR p2 0 1
  · skip
    refine m_call 3 hx hb hts hown hml (kX3_isReason_t l hI M o n j kc p2 ho hn hM1 hj hkc hM4 h1) rfl gX3_mayComeBack_X3_isReason rfl rfl rfl (by decide +kernel) ⟨Nat.le_of_ble_eq_true rfl, Nat.le_of_ble_eq_true rfl⟩ hl.1 hW hK hS (fun _ h => h) rfl (Nat.le_of_ble_eq_true rfl) dX3_mayComeBack_4 ⟨Nat.zero_le _, Nat.zero_le _⟩ (fun r M9 H locs hp hW _ _ hS => ?_)
    obtain ⟨rfl, rfl⟩ := hp
    refine lv_if_eq (tgt := 24) hx hb dX3_mayComeBack_7 (by decide) (fun h9 => absurd h9 (by decide)) (fun _ => ?_)
    refine lv_aload_n hx hb dX3_mayComeBack_10 rfl (lv_at hl 0 rfl) ?_
    refine lv_iload_n hx hb dX3_mayComeBack_11 rfl (lv_at hl 1 rfl) ?_
    refine lv_iload_n hx hb dX3_mayComeBack_12 rfl (lv_at hl 2 rfl) ?_
    refine lv_iload_n hx hb dX3_mayComeBack_13 rfl (lv_at hl 3 rfl) ?_
    refine m_call0 3 hx hb hts hown hml (kX3_may l (mu (mu M 16 0 0) 16 0 0) o n j p2 ho hn (by omega)) rfl gX3_mayComeBack_X3_may rfl rfl rfl (by decide +kernel) ⟨Nat.le_of_ble_eq_true rfl, Nat.le_of_ble_eq_true rfl⟩ hl.1 hW hK rfl (Nat.le_of_ble_eq_true rfl) dX3_mayComeBack_14 ⟨Nat.zero_le _, Nat.zero_le _⟩ (fun r hp => ?_)
    subst hp
    refine lv_if_eq (tgt := 24) hx hb dX3_mayComeBack_17 (by decide) (fun c17 => ?_) (fun c17 => ?_)
    · skip
      refine lv_iconst (v := 0) hx hb dX3_mayComeBack_24 (by decide) ?_
      exact m_zret hx hb hr hlocks hK hW hS (by decide) (by unfold mMay; rw [if_pos h1, if_pos c17] <;> rfl) dX3_mayComeBack_25
    · skip
      refine lv_iconst (v := 1) hx hb dX3_mayComeBack_20 (by decide) ?_
      refine lv_goto (tgt := 25) hx hb dX3_mayComeBack_21 (by decide) ?_
      exact m_zret hx hb hr hlocks hK hW hS (by decide) (by unfold mMay; rw [if_pos h1, if_neg c17] <;> rfl) dX3_mayComeBack_25
  · skip
    refine m_call 3 hx hb hts hown hml (kX3_isReason_f l hI M o n j kc p2 ho hn hM1 hj hkc hM4 h1) rfl gX3_mayComeBack_X3_isReason rfl rfl rfl (by decide +kernel) ⟨Nat.le_of_ble_eq_true rfl, Nat.le_of_ble_eq_true rfl⟩ hl.1 hW hK hS (fun _ h => h) rfl (Nat.le_of_ble_eq_true rfl) dX3_mayComeBack_4 ⟨Nat.zero_le _, Nat.zero_le _⟩ (fun r M9 H locs hp hW _ _ hS => ?_)
    obtain ⟨rfl, rfl⟩ := hp
    refine lv_if_eq (tgt := 24) hx hb dX3_mayComeBack_7 (by decide) (fun _ => ?_) (fun h9 => absurd (by decide) h9)
    refine lv_iconst (v := 0) hx hb dX3_mayComeBack_24 (by decide) ?_
    exact m_zret hx hb hr hlocks hK hW hS (by decide) (by unfold mMay; rw [if_neg h1] <;> rfl) dX3_mayComeBack_25
set_option maxHeartbeats 4000000 in
set_option maxRecDepth 100000 in
theorem kX3_waits_bad (l : Launch) {D : va_G} {cI cO cL cJ : ClassId} {ao : Nat} {q : Nat → Nat} (hI : mI ao q) (M : MS) (p0 p1 p2 : Int32) (z : Int32) (n : Nat) (hbad : ¬ vp_in p0 n) (hn : n ≤ 30) (hM1 : M 1 0 = nI n) : Met l yX3_waits wsX3_waits ({ frames := 3, cells := 0, slots := 0, locals := 67 } : Room) (mP D cI cO cL cJ ao q M [.int p0, .int p1, .int p2, .int z]) (mQ D cI cO cL cJ ao q (fun (r : Int32) (M9 : MS) => r = 0 ∧ M9 = mu M 16 0 1)) 0 0 (mA ao q) := by
  refine m_body (cc := cX3_waits) (maxL := 6) (ret := some .int) (by decide) rfl [.int p0, .int p1, .int p2, .int z] (Nat.le_of_ble_eq_true rfl) ?_
  intro p e s m args below meth c hx hb hr hts hown hml hlocks hW hK ls hl
  have hown : s.vm.findClass RX3 = some m.cls := hown
  have hl : lv_has ls 6 [(0, .ref ao), (1, .int p0), (2, .int p1), (3, .int p2), (4, .int z)] := hl
  have hin : ∀ w ∈ u_ws RX3 TX3 17, w ∈ wsX3_waits := (fun w h => List.mem_cons_of_mem _ (List.mem_append_right _ (h)))
  have hS : va_S (mA ao q) s.heap s.heap [] := va_S.rf
  refine lv_aload_n hx hb dX3_waits_0 rfl (lv_at hl 0 rfl) ?_
  refine lv_iload_n hx hb dX3_waits_1 rfl (lv_at hl 1 rfl) ?_
  refine lv_iload_n hx hb dX3_waits_2 rfl (lv_at hl 2 rfl) ?_
  refine lv_iload_n hx hb dX3_waits_3 rfl (lv_at hl 3 rfl) ?_
  refine m_call 3 hx hb hts hown hml (kX3_isReason_bad l hI M p0 p1 p2 n hbad hn hM1) rfl gX3_waits_X3_isReason rfl rfl rfl (by decide +kernel) ⟨Nat.le_of_ble_eq_true rfl, Nat.le_of_ble_eq_true rfl⟩ hl.1 hW hK hS (fun _ h => h) rfl (Nat.le_of_ble_eq_true rfl) dX3_waits_4 ⟨Nat.zero_le _, Nat.zero_le _⟩ (fun r M9 H locs hp hW _ _ hS => ?_)
  obtain ⟨rfl, rfl⟩ := hp
  refine lv_if_ne (tgt := 12) hx hb dX3_waits_7 (by decide) (fun h9 => absurd (by decide) h9) (fun _ => ?_)
  refine lv_iconst (v := 0) hx hb dX3_waits_10 (by decide) ?_
  exact m_ret hx hb hr hlocks hK hW hS ⟨rfl, rfl⟩ dX3_waits_11
set_option maxHeartbeats 4000000 in
set_option maxRecDepth 100000 in
theorem kX3_waits_bad2 (l : Launch) {D : va_G} {cI cO cL cJ : ClassId} {ao : Nat} {q : Nat → Nat} (hI : mI ao q) (M : MS) (o n kc : Nat) (p1 p2 : Int32) (z : Int32) (ho : o < n) (hn : n ≤ 30) (hM1 : M 1 0 = nI n) (hkc : kc ≤ 8) (hM4 : M 4 o = nI kc) (hbad : ¬ vp_in p1 kc) : Met l yX3_waits wsX3_waits ({ frames := 3, cells := 0, slots := 0, locals := 67 } : Room) (mP D cI cO cL cJ ao q M [.int (nI o), .int p1, .int p2, .int z]) (mQ D cI cO cL cJ ao q (fun (r : Int32) (M9 : MS) => r = 0 ∧ M9 = mu M 16 0 1)) 0 0 (mA ao q) := by
  refine m_body (cc := cX3_waits) (maxL := 6) (ret := some .int) (by decide) rfl [.int (nI o), .int p1, .int p2, .int z] (Nat.le_of_ble_eq_true rfl) ?_
  intro p e s m args below meth c hx hb hr hts hown hml hlocks hW hK ls hl
  have hown : s.vm.findClass RX3 = some m.cls := hown
  have hl : lv_has ls 6 [(0, .ref ao), (1, .int (nI o)), (2, .int p1), (3, .int p2), (4, .int z)] := hl
  have hin : ∀ w ∈ u_ws RX3 TX3 17, w ∈ wsX3_waits := (fun w h => List.mem_cons_of_mem _ (List.mem_append_right _ (h)))
  have hS : va_S (mA ao q) s.heap s.heap [] := va_S.rf
  refine lv_aload_n hx hb dX3_waits_0 rfl (lv_at hl 0 rfl) ?_
  refine lv_iload_n hx hb dX3_waits_1 rfl (lv_at hl 1 rfl) ?_
  refine lv_iload_n hx hb dX3_waits_2 rfl (lv_at hl 2 rfl) ?_
  refine lv_iload_n hx hb dX3_waits_3 rfl (lv_at hl 3 rfl) ?_
  refine m_call 3 hx hb hts hown hml (kX3_isReason_bad2 l hI M o n kc p1 p2 ho hn hM1 hkc hM4 hbad) rfl gX3_waits_X3_isReason rfl rfl rfl (by decide +kernel) ⟨Nat.le_of_ble_eq_true rfl, Nat.le_of_ble_eq_true rfl⟩ hl.1 hW hK hS (fun _ h => h) rfl (Nat.le_of_ble_eq_true rfl) dX3_waits_4 ⟨Nat.zero_le _, Nat.zero_le _⟩ (fun r M9 H locs hp hW _ _ hS => ?_)
  obtain ⟨rfl, rfl⟩ := hp
  refine lv_if_ne (tgt := 12) hx hb dX3_waits_7 (by decide) (fun h9 => absurd (by decide) h9) (fun _ => ?_)
  refine lv_iconst (v := 0) hx hb dX3_waits_10 (by decide) ?_
  exact m_ret hx hb hr hlocks hK hW hS ⟨rfl, rfl⟩ dX3_waits_11
set_option maxHeartbeats 4000000 in
set_option maxRecDepth 100000 in
theorem kX3_waits_ok (l : Launch) {D : va_G} {cI cO cL cJ : ClassId} {ao : Nat} {q : Nat → Nat} (hI : mI ao q) (M : MS) (o n j kc : Nat) (p2 : Int32) (z : Int32) (ho : o < n) (hn : n ≤ 30) (hM1 : M 1 0 = nI n) (hj : j < kc) (hkc : kc ≤ 8) (hM4 : M 4 o = nI kc) : Met l yX3_waits wsX3_waits ({ frames := 3, cells := 0, slots := 0, locals := 67 } : Room) (mP D cI cO cL cJ ao q M [.int (nI o), .int (nI j), .int p2, .int z]) (mQ D cI cO cL cJ ao q (fun (r : Int32) (M9 : MS) => (r, M9) = mWaits M o j p2 z)) 0 0 (mA ao q) := by
  refine m_body (cc := cX3_waits) (maxL := 6) (ret := some .int) (by decide) rfl [.int (nI o), .int (nI j), .int p2, .int z] (Nat.le_of_ble_eq_true rfl) ?_
  intro p e s m args below meth c hx hb hr hts hown hml hlocks hW hK ls hl
  have hown : s.vm.findClass RX3 = some m.cls := hown
  have hl : lv_has ls 6 [(0, .ref ao), (1, .int (nI o)), (2, .int (nI j)), (3, .int p2), (4, .int z)] := hl
  have hin : ∀ w ∈ u_ws RX3 TX3 17, w ∈ wsX3_waits := (fun w h => List.mem_cons_of_mem _ (List.mem_append_right _ (h)))
  have hS : va_S (mA ao q) s.heap s.heap [] := va_S.rf
  refine lv_aload_n hx hb dX3_waits_0 rfl (lv_at hl 0 rfl) ?_
  refine lv_iload_n hx hb dX3_waits_1 rfl (lv_at hl 1 rfl) ?_
  refine lv_iload_n hx hb dX3_waits_2 rfl (lv_at hl 2 rfl) ?_
  refine lv_iload_n hx hb dX3_waits_3 rfl (lv_at hl 3 rfl) ?_
  by_cases h1 : inR p2 0 1
  · skip
    refine m_call 3 hx hb hts hown hml (kX3_isReason_t l hI M o n j kc p2 ho hn hM1 hj hkc hM4 h1) rfl gX3_waits_X3_isReason rfl rfl rfl (by decide +kernel) ⟨Nat.le_of_ble_eq_true rfl, Nat.le_of_ble_eq_true rfl⟩ hl.1 hW hK hS (fun _ h => h) rfl (Nat.le_of_ble_eq_true rfl) dX3_waits_4 ⟨Nat.zero_le _, Nat.zero_le _⟩ (fun r M9 H locs hp hW _ _ hS => ?_)
    obtain ⟨rfl, rfl⟩ := hp
    refine lv_if_ne (tgt := 12) hx hb dX3_waits_7 (by decide) (fun _ => ?_) (fun h9 => absurd h9 (by decide))
    refine lv_aload_n hx hb dX3_waits_12 rfl (lv_at hl 0 rfl) ?_
    refine lv_iload_n hx hb dX3_waits_13 rfl (lv_at hl 1 rfl) ?_
    refine lv_iload_n hx hb dX3_waits_14 rfl (lv_at hl 2 rfl) ?_
    refine lv_iload_n hx hb dX3_waits_15 rfl (lv_at hl 3 rfl) ?_
    refine m_call0 3 hx hb hts hown hml (kX3_may l (mu (mu M 16 0 0) 16 0 0) o n j p2 ho hn (by omega)) rfl gX3_waits_X3_may rfl rfl rfl (by decide +kernel) ⟨Nat.le_of_ble_eq_true rfl, Nat.le_of_ble_eq_true rfl⟩ hl.1 hW hK rfl (Nat.le_of_ble_eq_true rfl) dX3_waits_16 ⟨Nat.zero_le _, Nat.zero_le _⟩ (fun r hp => ?_)
    subst hp
    refine lv_if_ne (tgt := 28) hx hb dX3_waits_19 (by decide) (fun c19 => ?_) (fun c19 => ?_)
    · skip
      refine lv_bipush (v := 8) hx hb dX3_waits_28 (by decide) ?_
      refine lv_iload_n hx hb dX3_waits_30 rfl (lv_at hl 1 rfl) ?_
      refine lv_imul hx hb dX3_waits_31 ?_
      refine cv (y := nI (8 * o)) (nI_mulx (a := 8) (b := o) rfl rfl) ?_
      refine lv_iload_n hx hb dX3_waits_32 rfl (lv_at hl 2 rfl) ?_
      refine lv_iadd hx hb dX3_waits_33 ?_
      refine cv (y := nI (8 * o + j)) (nI_addx (a := 8 * o) (b := j) rfl rfl) ?_
      refine lv_istore (lv' := [(5, .int (nI (8 * o + j))), (0, .ref ao), (1, .int (nI o)), (2, .int (nI j)), (3, .int p2), (4, .int z)]) hx hb dX3_waits_34 hl (by decide) rfl (fun ls hl => ?_)
      refine lv_aload_n hx hb dX3_waits_36 rfl (lv_at hl 1 rfl) ?_
      refine m_get (v := .ref (q 12)) hx hb hts hin hown hK hW 12 (by decide) (hts (.fieldLink RX3 40 "ReturnsDeskModel" "states" "[I") (List.mem_of_getElem? (i := 1) rfl)) (fun _ h9 => h9) rfl dX3_waits_37 ?_
      refine lv_iload hx hb dX3_waits_40 (lv_at hl 0 rfl) ?_
      refine lv_iload hx hb dX3_waits_42 (lv_at hl 5 rfl) ?_
      refine m_ast hx hb hK hI hW hS 12 (8 * o + j) (by decide) rfl (show 8 * o + j < 240 by omega) dX3_waits_44 (fun H locs hW hS => ?_)
      refine lv_aload_n hx hb dX3_waits_45 rfl (lv_at hl 1 rfl) ?_
      refine m_get (v := .ref (q 13)) hx hb hts hin hown hK hW 13 (by decide) (hts (.fieldLink RX3 43 "ReturnsDeskModel" "reasons" "[I") (List.mem_of_getElem? (i := 2) rfl)) (fun _ h9 => h9) rfl dX3_waits_46 ?_
      refine lv_iload hx hb dX3_waits_49 (lv_at hl 0 rfl) ?_
      refine lv_iload_n hx hb dX3_waits_51 rfl (lv_at hl 4 rfl) ?_
      refine m_ast hx hb hK hI hW hS 13 (8 * o + j) (by decide) rfl (show 8 * o + j < 240 by omega) dX3_waits_52 (fun H locs hW hS => ?_)
      refine lv_aload_n hx hb dX3_waits_53 rfl (lv_at hl 1 rfl) ?_
      refine m_get (v := .ref (q 14)) hx hb hts hin hown hK hW 14 (by decide) (hts (.fieldLink RX3 46 "ReturnsDeskModel" "ends" "[I") (List.mem_of_getElem? (i := 3) rfl)) (fun _ h9 => h9) rfl dX3_waits_54 ?_
      refine lv_iload hx hb dX3_waits_57 (lv_at hl 0 rfl) ?_
      refine lv_aload_n hx hb dX3_waits_59 rfl (lv_at hl 1 rfl) ?_
      refine m_get (v := .int (M 0 0)) hx hb hts hin hown hK hW 0 (by decide) (hts (.fieldLink RX3 80 "ReturnsDeskModel" "day" "I") (List.mem_of_getElem? (i := 4) rfl)) (fun _ h9 => h9) (congrArg (fun z => some (Value.int z)) ((mu_f _ _ _ _ (by decide)).trans ((mu_f _ _ _ _ (by decide)).trans ((mu_f _ _ _ _ (by decide)).trans (mu_f _ _ _ _ (by decide)))))) dX3_waits_60 ?_
      refine lv_bipush (v := 21) hx hb dX3_waits_63 (by decide) ?_
      refine lv_iadd hx hb dX3_waits_65 ?_
      refine m_ast hx hb hK hI hW hS 14 (8 * o + j) (by decide) rfl (show 8 * o + j < 240 by omega) dX3_waits_66 (fun H locs hW hS => ?_)
      refine lv_aload_n hx hb dX3_waits_67 rfl (lv_at hl 1 rfl) ?_
      refine m_get (v := .ref (q 14)) hx hb hts hin hown hK hW 14 (by decide) (hts (.fieldLink RX3 46 "ReturnsDeskModel" "ends" "[I") (List.mem_of_getElem? (i := 3) rfl)) (fun _ h9 => h9) rfl dX3_waits_68 ?_
      refine lv_iload hx hb dX3_waits_71 (lv_at hl 0 rfl) ?_
      refine m_ald (v := (M 0 0) + 21) hx hb hK hW 14 (8 * o + j) (by decide) rfl (show 8 * o + j < 240 by omega) (mu_s _ _ _ _) dX3_waits_73 ?_
      exact m_ret hx hb hr hlocks hK hW hS (by unfold mWaits; rw [if_pos h1, if_neg c19] <;> rfl) dX3_waits_74
    · skip
      refine lv_aload_n hx hb dX3_waits_22 rfl (lv_at hl 0 rfl) ?_
      refine lv_iconst (v := 3) hx hb dX3_waits_23 (by decide) ?_
      refine m_call 1 hx hb hts hown hml (kX3_fails l hI (mu (mu M 16 0 0) 16 0 0) 3) rfl gX3_waits_X3_fails rfl rfl rfl (by decide +kernel) ⟨Nat.le_of_ble_eq_true rfl, Nat.le_of_ble_eq_true rfl⟩ hl.1 hW hK hS (fun _ h => h) rfl (Nat.le_of_ble_eq_true rfl) dX3_waits_24 ⟨Nat.zero_le _, Nat.zero_le _⟩ (fun r M9 H locs hp hW _ _ hS => ?_)
      obtain ⟨rfl, rfl⟩ := hp
      exact m_ret hx hb hr hlocks hK hW hS (by unfold mWaits; rw [if_pos h1, if_pos c19] <;> rfl) dX3_waits_27
  · skip
    refine m_call 3 hx hb hts hown hml (kX3_isReason_f l hI M o n j kc p2 ho hn hM1 hj hkc hM4 h1) rfl gX3_waits_X3_isReason rfl rfl rfl (by decide +kernel) ⟨Nat.le_of_ble_eq_true rfl, Nat.le_of_ble_eq_true rfl⟩ hl.1 hW hK hS (fun _ h => h) rfl (Nat.le_of_ble_eq_true rfl) dX3_waits_4 ⟨Nat.zero_le _, Nat.zero_le _⟩ (fun r M9 H locs hp hW _ _ hS => ?_)
    obtain ⟨rfl, rfl⟩ := hp
    refine lv_if_ne (tgt := 12) hx hb dX3_waits_7 (by decide) (fun h9 => absurd (by decide) h9) (fun _ => ?_)
    refine lv_iconst (v := 0) hx hb dX3_waits_10 (by decide) ?_
    exact m_ret hx hb hr hlocks hK hW hS (by unfold mWaits; rw [if_neg h1] <;> rfl) dX3_waits_11
set_option maxHeartbeats 4000000 in
set_option maxRecDepth 100000 in
theorem kX3_ask_bad (l : Launch) {D : va_G} {cI cO cL cJ : ClassId} {ao : Nat} {q : Nat → Nat} (hI : mI ao q) (M : MS) (p0 p1 p2 : Int32) (n : Nat) (hbad : ¬ vp_in p0 n) (hn : n ≤ 30) (hM1 : M 1 0 = nI n) : Met l yX3_ask wsX3_ask ({ frames := 4, cells := 0, slots := 0, locals := 92 } : Room) (mP D cI cO cL cJ ao q M [.int p0, .int p1, .int p2]) (mQ D cI cO cL cJ ao q (fun (r : Int32) (M9 : MS) => r = 0 ∧ M9 = mu M 16 0 1)) 0 0 (mA ao q) := by
  refine m_body (cc := cX3_ask) (maxL := 4) (ret := some .int) (by decide) rfl [.int p0, .int p1, .int p2] (Nat.le_of_ble_eq_true rfl) ?_
  intro p e s m args below meth c hx hb hr hts hown hml hlocks hW hK ls hl
  have hown : s.vm.findClass RX3 = some m.cls := hown
  have hl : lv_has ls 4 [(0, .ref ao), (1, .int p0), (2, .int p1), (3, .int p2)] := hl
  have hin : ∀ w ∈ u_ws RX3 TX3 17, w ∈ wsX3_ask := (fun w h => List.mem_cons_of_mem _ (List.mem_append_right _ (h)))
  have hS : va_S (mA ao q) s.heap s.heap [] := va_S.rf
  refine lv_aload_n hx hb dX3_ask_0 rfl (lv_at hl 0 rfl) ?_
  refine lv_iload_n hx hb dX3_ask_1 rfl (lv_at hl 1 rfl) ?_
  refine lv_iload_n hx hb dX3_ask_2 rfl (lv_at hl 2 rfl) ?_
  refine lv_iload_n hx hb dX3_ask_3 rfl (lv_at hl 3 rfl) ?_
  refine lv_iconst (v := 1) hx hb dX3_ask_4 (by decide) ?_
  refine m_call 4 hx hb hts hown hml (kX3_waits_bad l hI M p0 p1 p2 1 n hbad hn hM1) rfl gX3_ask_X3_waits rfl rfl rfl (by decide +kernel) ⟨Nat.le_of_ble_eq_true rfl, Nat.le_of_ble_eq_true rfl⟩ hl.1 hW hK hS (fun _ h => h) rfl (Nat.le_of_ble_eq_true rfl) dX3_ask_5 ⟨Nat.zero_le _, Nat.zero_le _⟩ (fun r M9 H locs hp hW _ _ hS => ?_)
  obtain ⟨rfl, rfl⟩ := hp
  exact m_ret hx hb hr hlocks hK hW hS ⟨rfl, rfl⟩ dX3_ask_8
set_option maxHeartbeats 4000000 in
set_option maxRecDepth 100000 in
theorem kX3_ask_bad2 (l : Launch) {D : va_G} {cI cO cL cJ : ClassId} {ao : Nat} {q : Nat → Nat} (hI : mI ao q) (M : MS) (o n kc : Nat) (p1 p2 : Int32) (ho : o < n) (hn : n ≤ 30) (hM1 : M 1 0 = nI n) (hkc : kc ≤ 8) (hM4 : M 4 o = nI kc) (hbad : ¬ vp_in p1 kc) : Met l yX3_ask wsX3_ask ({ frames := 4, cells := 0, slots := 0, locals := 92 } : Room) (mP D cI cO cL cJ ao q M [.int (nI o), .int p1, .int p2]) (mQ D cI cO cL cJ ao q (fun (r : Int32) (M9 : MS) => r = 0 ∧ M9 = mu M 16 0 1)) 0 0 (mA ao q) := by
  refine m_body (cc := cX3_ask) (maxL := 4) (ret := some .int) (by decide) rfl [.int (nI o), .int p1, .int p2] (Nat.le_of_ble_eq_true rfl) ?_
  intro p e s m args below meth c hx hb hr hts hown hml hlocks hW hK ls hl
  have hown : s.vm.findClass RX3 = some m.cls := hown
  have hl : lv_has ls 4 [(0, .ref ao), (1, .int (nI o)), (2, .int p1), (3, .int p2)] := hl
  have hin : ∀ w ∈ u_ws RX3 TX3 17, w ∈ wsX3_ask := (fun w h => List.mem_cons_of_mem _ (List.mem_append_right _ (h)))
  have hS : va_S (mA ao q) s.heap s.heap [] := va_S.rf
  refine lv_aload_n hx hb dX3_ask_0 rfl (lv_at hl 0 rfl) ?_
  refine lv_iload_n hx hb dX3_ask_1 rfl (lv_at hl 1 rfl) ?_
  refine lv_iload_n hx hb dX3_ask_2 rfl (lv_at hl 2 rfl) ?_
  refine lv_iload_n hx hb dX3_ask_3 rfl (lv_at hl 3 rfl) ?_
  refine lv_iconst (v := 1) hx hb dX3_ask_4 (by decide) ?_
  refine m_call 4 hx hb hts hown hml (kX3_waits_bad2 l hI M o n kc p1 p2 1 ho hn hM1 hkc hM4 hbad) rfl gX3_ask_X3_waits rfl rfl rfl (by decide +kernel) ⟨Nat.le_of_ble_eq_true rfl, Nat.le_of_ble_eq_true rfl⟩ hl.1 hW hK hS (fun _ h => h) rfl (Nat.le_of_ble_eq_true rfl) dX3_ask_5 ⟨Nat.zero_le _, Nat.zero_le _⟩ (fun r M9 H locs hp hW _ _ hS => ?_)
  obtain ⟨rfl, rfl⟩ := hp
  exact m_ret hx hb hr hlocks hK hW hS ⟨rfl, rfl⟩ dX3_ask_8
set_option maxHeartbeats 4000000 in
set_option maxRecDepth 100000 in
theorem kX3_ask_ok (l : Launch) {D : va_G} {cI cO cL cJ : ClassId} {ao : Nat} {q : Nat → Nat} (hI : mI ao q) (M : MS) (o n j kc : Nat) (p2 : Int32) (ho : o < n) (hn : n ≤ 30) (hM1 : M 1 0 = nI n) (hj : j < kc) (hkc : kc ≤ 8) (hM4 : M 4 o = nI kc) : Met l yX3_ask wsX3_ask ({ frames := 4, cells := 0, slots := 0, locals := 92 } : Room) (mP D cI cO cL cJ ao q M [.int (nI o), .int (nI j), .int p2]) (mQ D cI cO cL cJ ao q (fun (r : Int32) (M9 : MS) => (r, M9) = mWaits M o j p2 1)) 0 0 (mA ao q) := by
  refine m_body (cc := cX3_ask) (maxL := 4) (ret := some .int) (by decide) rfl [.int (nI o), .int (nI j), .int p2] (Nat.le_of_ble_eq_true rfl) ?_
  intro p e s m args below meth c hx hb hr hts hown hml hlocks hW hK ls hl
  have hown : s.vm.findClass RX3 = some m.cls := hown
  have hl : lv_has ls 4 [(0, .ref ao), (1, .int (nI o)), (2, .int (nI j)), (3, .int p2)] := hl
  have hin : ∀ w ∈ u_ws RX3 TX3 17, w ∈ wsX3_ask := (fun w h => List.mem_cons_of_mem _ (List.mem_append_right _ (h)))
  have hS : va_S (mA ao q) s.heap s.heap [] := va_S.rf
  refine lv_aload_n hx hb dX3_ask_0 rfl (lv_at hl 0 rfl) ?_
  refine lv_iload_n hx hb dX3_ask_1 rfl (lv_at hl 1 rfl) ?_
  refine lv_iload_n hx hb dX3_ask_2 rfl (lv_at hl 2 rfl) ?_
  refine lv_iload_n hx hb dX3_ask_3 rfl (lv_at hl 3 rfl) ?_
  refine lv_iconst (v := 1) hx hb dX3_ask_4 (by decide) ?_
  refine m_call 4 hx hb hts hown hml (kX3_waits_ok l hI M o n j kc p2 1 ho hn hM1 hj hkc hM4) rfl gX3_ask_X3_waits rfl rfl rfl (by decide +kernel) ⟨Nat.le_of_ble_eq_true rfl, Nat.le_of_ble_eq_true rfl⟩ hl.1 hW hK hS (fun _ h => h) rfl (Nat.le_of_ble_eq_true rfl) dX3_ask_5 ⟨Nat.zero_le _, Nat.zero_le _⟩ (fun r M9 H locs hp hW _ _ hS => ?_)
  skip
  exact m_ret hx hb hr hlocks hK hW hS hp dX3_ask_8
set_option maxHeartbeats 4000000 in
set_option maxRecDepth 100000 in
theorem kX3_exchange_bad (l : Launch) {D : va_G} {cI cO cL cJ : ClassId} {ao : Nat} {q : Nat → Nat} (hI : mI ao q) (M : MS) (p0 p1 p2 : Int32) (n : Nat) (hbad : ¬ vp_in p0 n) (hn : n ≤ 30) (hM1 : M 1 0 = nI n) : Met l yX3_exchange wsX3_exchange ({ frames := 4, cells := 0, slots := 0, locals := 92 } : Room) (mP D cI cO cL cJ ao q M [.int p0, .int p1, .int p2]) (mQ D cI cO cL cJ ao q (fun (r : Int32) (M9 : MS) => r = 0 ∧ M9 = mu M 16 0 1)) 0 0 (mA ao q) := by
  refine m_body (cc := cX3_exchange) (maxL := 4) (ret := some .int) (by decide) rfl [.int p0, .int p1, .int p2] (Nat.le_of_ble_eq_true rfl) ?_
  intro p e s m args below meth c hx hb hr hts hown hml hlocks hW hK ls hl
  have hown : s.vm.findClass RX3 = some m.cls := hown
  have hl : lv_has ls 4 [(0, .ref ao), (1, .int p0), (2, .int p1), (3, .int p2)] := hl
  have hin : ∀ w ∈ u_ws RX3 TX3 17, w ∈ wsX3_exchange := (fun w h => List.mem_cons_of_mem _ (List.mem_append_right _ (h)))
  have hS : va_S (mA ao q) s.heap s.heap [] := va_S.rf
  refine lv_aload_n hx hb dX3_exchange_0 rfl (lv_at hl 0 rfl) ?_
  refine lv_iload_n hx hb dX3_exchange_1 rfl (lv_at hl 1 rfl) ?_
  refine lv_iload_n hx hb dX3_exchange_2 rfl (lv_at hl 2 rfl) ?_
  refine lv_iload_n hx hb dX3_exchange_3 rfl (lv_at hl 3 rfl) ?_
  refine lv_iconst (v := 2) hx hb dX3_exchange_4 (by decide) ?_
  refine m_call 4 hx hb hts hown hml (kX3_waits_bad l hI M p0 p1 p2 2 n hbad hn hM1) rfl gX3_exchange_X3_waits rfl rfl rfl (by decide +kernel) ⟨Nat.le_of_ble_eq_true rfl, Nat.le_of_ble_eq_true rfl⟩ hl.1 hW hK hS (fun _ h => h) rfl (Nat.le_of_ble_eq_true rfl) dX3_exchange_5 ⟨Nat.zero_le _, Nat.zero_le _⟩ (fun r M9 H locs hp hW _ _ hS => ?_)
  obtain ⟨rfl, rfl⟩ := hp
  exact m_ret hx hb hr hlocks hK hW hS ⟨rfl, rfl⟩ dX3_exchange_8
set_option maxHeartbeats 4000000 in
set_option maxRecDepth 100000 in
theorem kX3_exchange_bad2 (l : Launch) {D : va_G} {cI cO cL cJ : ClassId} {ao : Nat} {q : Nat → Nat} (hI : mI ao q) (M : MS) (o n kc : Nat) (p1 p2 : Int32) (ho : o < n) (hn : n ≤ 30) (hM1 : M 1 0 = nI n) (hkc : kc ≤ 8) (hM4 : M 4 o = nI kc) (hbad : ¬ vp_in p1 kc) : Met l yX3_exchange wsX3_exchange ({ frames := 4, cells := 0, slots := 0, locals := 92 } : Room) (mP D cI cO cL cJ ao q M [.int (nI o), .int p1, .int p2]) (mQ D cI cO cL cJ ao q (fun (r : Int32) (M9 : MS) => r = 0 ∧ M9 = mu M 16 0 1)) 0 0 (mA ao q) := by
  refine m_body (cc := cX3_exchange) (maxL := 4) (ret := some .int) (by decide) rfl [.int (nI o), .int p1, .int p2] (Nat.le_of_ble_eq_true rfl) ?_
  intro p e s m args below meth c hx hb hr hts hown hml hlocks hW hK ls hl
  have hown : s.vm.findClass RX3 = some m.cls := hown
  have hl : lv_has ls 4 [(0, .ref ao), (1, .int (nI o)), (2, .int p1), (3, .int p2)] := hl
  have hin : ∀ w ∈ u_ws RX3 TX3 17, w ∈ wsX3_exchange := (fun w h => List.mem_cons_of_mem _ (List.mem_append_right _ (h)))
  have hS : va_S (mA ao q) s.heap s.heap [] := va_S.rf
  refine lv_aload_n hx hb dX3_exchange_0 rfl (lv_at hl 0 rfl) ?_
  refine lv_iload_n hx hb dX3_exchange_1 rfl (lv_at hl 1 rfl) ?_
  refine lv_iload_n hx hb dX3_exchange_2 rfl (lv_at hl 2 rfl) ?_
  refine lv_iload_n hx hb dX3_exchange_3 rfl (lv_at hl 3 rfl) ?_
  refine lv_iconst (v := 2) hx hb dX3_exchange_4 (by decide) ?_
  refine m_call 4 hx hb hts hown hml (kX3_waits_bad2 l hI M o n kc p1 p2 2 ho hn hM1 hkc hM4 hbad) rfl gX3_exchange_X3_waits rfl rfl rfl (by decide +kernel) ⟨Nat.le_of_ble_eq_true rfl, Nat.le_of_ble_eq_true rfl⟩ hl.1 hW hK hS (fun _ h => h) rfl (Nat.le_of_ble_eq_true rfl) dX3_exchange_5 ⟨Nat.zero_le _, Nat.zero_le _⟩ (fun r M9 H locs hp hW _ _ hS => ?_)
  obtain ⟨rfl, rfl⟩ := hp
  exact m_ret hx hb hr hlocks hK hW hS ⟨rfl, rfl⟩ dX3_exchange_8
set_option maxHeartbeats 4000000 in
set_option maxRecDepth 100000 in
theorem kX3_exchange_ok (l : Launch) {D : va_G} {cI cO cL cJ : ClassId} {ao : Nat} {q : Nat → Nat} (hI : mI ao q) (M : MS) (o n j kc : Nat) (p2 : Int32) (ho : o < n) (hn : n ≤ 30) (hM1 : M 1 0 = nI n) (hj : j < kc) (hkc : kc ≤ 8) (hM4 : M 4 o = nI kc) : Met l yX3_exchange wsX3_exchange ({ frames := 4, cells := 0, slots := 0, locals := 92 } : Room) (mP D cI cO cL cJ ao q M [.int (nI o), .int (nI j), .int p2]) (mQ D cI cO cL cJ ao q (fun (r : Int32) (M9 : MS) => (r, M9) = mWaits M o j p2 2)) 0 0 (mA ao q) := by
  refine m_body (cc := cX3_exchange) (maxL := 4) (ret := some .int) (by decide) rfl [.int (nI o), .int (nI j), .int p2] (Nat.le_of_ble_eq_true rfl) ?_
  intro p e s m args below meth c hx hb hr hts hown hml hlocks hW hK ls hl
  have hown : s.vm.findClass RX3 = some m.cls := hown
  have hl : lv_has ls 4 [(0, .ref ao), (1, .int (nI o)), (2, .int (nI j)), (3, .int p2)] := hl
  have hin : ∀ w ∈ u_ws RX3 TX3 17, w ∈ wsX3_exchange := (fun w h => List.mem_cons_of_mem _ (List.mem_append_right _ (h)))
  have hS : va_S (mA ao q) s.heap s.heap [] := va_S.rf
  refine lv_aload_n hx hb dX3_exchange_0 rfl (lv_at hl 0 rfl) ?_
  refine lv_iload_n hx hb dX3_exchange_1 rfl (lv_at hl 1 rfl) ?_
  refine lv_iload_n hx hb dX3_exchange_2 rfl (lv_at hl 2 rfl) ?_
  refine lv_iload_n hx hb dX3_exchange_3 rfl (lv_at hl 3 rfl) ?_
  refine lv_iconst (v := 2) hx hb dX3_exchange_4 (by decide) ?_
  refine m_call 4 hx hb hts hown hml (kX3_waits_ok l hI M o n j kc p2 2 ho hn hM1 hj hkc hM4) rfl gX3_exchange_X3_waits rfl rfl rfl (by decide +kernel) ⟨Nat.le_of_ble_eq_true rfl, Nat.le_of_ble_eq_true rfl⟩ hl.1 hW hK hS (fun _ h => h) rfl (Nat.le_of_ble_eq_true rfl) dX3_exchange_5 ⟨Nat.zero_le _, Nat.zero_le _⟩ (fun r M9 H locs hp hW _ _ hS => ?_)
  skip
  exact m_ret hx hb hr hlocks hK hW hS hp dX3_exchange_8
set_option maxHeartbeats 4000000 in
set_option maxRecDepth 100000 in
theorem kX3_fee (l : Launch) {D : va_G} {cI cO cL cJ : ClassId} {ao : Nat} {q : Nat → Nat} (M : MS) (a : Nat) (g : Int32) (ha : a < 240) : Met l yX3_fee wsX3_fee ({ frames := 0, cells := 0, slots := 0, locals := 0 } : Room) (mP D cI cO cL cJ ao q M [.int (nI a), .int g]) (vp_Si (fun r : Int32 => r = feeM M a g)) 0 0 (fun _ => False) := by
  refine m_body (cc := cX3_fee) (maxL := 3) (ret := some .int) (by decide) rfl [.int (nI a), .int g] (Nat.le_of_ble_eq_true rfl) ?_
  intro p e s m args below meth c hx hb hr hts hown hml hlocks hW hK ls hl
  have hown : s.vm.findClass RX3 = some m.cls := hown
  have hl : lv_has ls 3 [(0, .ref ao), (1, .int (nI a)), (2, .int g)] := hl
  have hin : ∀ w ∈ u_ws RX3 TX3 17, w ∈ wsX3_fee := (fun w h => List.mem_cons_of_mem _ (List.mem_append_right _ (h)))
  refine lv_iload_n hx hb dX3_fee_0 rfl (lv_at hl 2 rfl) ?_
  refine lv_if_eq (tgt := 19) hx hb dX3_fee_1 (by decide) (fun c1 => ?_) (fun c1 => ?_)
  · skip
    refine lv_iconst (v := 0) hx hb dX3_fee_19 (by decide) ?_
    exact r_ret hx hb hr hlocks (by unfold feeM feeM2; rw [if_pos c1] <;> rfl) dX3_fee_20
  · skip
    refine lv_aload_n hx hb dX3_fee_4 rfl (lv_at hl 0 rfl) ?_
    refine m_get (v := .ref (q 13)) hx hb hts hin hown hK hW 13 (by decide) (hts (.fieldLink RX3 43 "ReturnsDeskModel" "reasons" "[I") (List.mem_of_getElem? (i := 1) rfl)) (fun _ h9 => h9) rfl dX3_fee_5 ?_
    refine lv_iload_n hx hb dX3_fee_8 rfl (lv_at hl 1 rfl) ?_
    refine m_ald (v := M 13 a) hx hb hK hW 13 a (by decide) rfl (show a < 240 by omega) rfl dX3_fee_9 ?_
    refine lv_iconst (v := 1) hx hb dX3_fee_10 (by decide) ?_
    refine lv_icmp_ne (tgt := 21) hx hb dX3_fee_11 (by decide) (fun c11 => ?_) (fun c11 => ?_)
    · skip
      refine lv_iload_n hx hb dX3_fee_21 rfl (lv_at hl 2 rfl) ?_
      refine lv_iconst (v := 1) hx hb dX3_fee_22 (by decide) ?_
      refine lv_icmp_ne (tgt := 51) hx hb dX3_fee_23 (by decide) (fun c23 => ?_) (fun c23 => ?_)
      · skip
        refine lv_aload_n hx hb dX3_fee_51 rfl (lv_at hl 0 rfl) ?_
        refine m_get (v := .ref (q 10)) hx hb hts hin hown hK hW 10 (by decide) (hts (.fieldLink RX3 34 "ReturnsDeskModel" "prices" "[I") (List.mem_of_getElem? (i := 2) rfl)) (fun _ h9 => h9) rfl dX3_fee_52 ?_
        refine lv_iload_n hx hb dX3_fee_55 rfl (lv_at hl 1 rfl) ?_
        refine m_ald (v := M 10 a) hx hb hK hW 10 a (by decide) rfl (show a < 240 by omega) rfl dX3_fee_56 ?_
        exact r_ret hx hb hr hlocks (by unfold feeM feeM2; rw [if_neg c1, if_neg c11, if_neg c23] <;> rfl) dX3_fee_57
      · skip
        refine lv_aload_n hx hb dX3_fee_26 rfl (lv_at hl 0 rfl) ?_
        refine m_get (v := .ref (q 10)) hx hb hts hin hown hK hW 10 (by decide) (hts (.fieldLink RX3 34 "ReturnsDeskModel" "prices" "[I") (List.mem_of_getElem? (i := 2) rfl)) (fun _ h9 => h9) rfl dX3_fee_27 ?_
        refine lv_iload_n hx hb dX3_fee_30 rfl (lv_at hl 1 rfl) ?_
        refine m_ald (v := M 10 a) hx hb hK hW 10 a (by decide) rfl (show a < 240 by omega) rfl dX3_fee_31 ?_
        refine lv_aload_n hx hb dX3_fee_32 rfl (lv_at hl 0 rfl) ?_
        refine m_get (v := .ref (q 11)) hx hb hts hin hown hK hW 11 (by decide) (hts (.fieldLink RX3 37 "ReturnsDeskModel" "kinds" "[I") (List.mem_of_getElem? (i := 3) rfl)) (fun _ h9 => h9) rfl dX3_fee_33 ?_
        refine lv_iload_n hx hb dX3_fee_36 rfl (lv_at hl 1 rfl) ?_
        refine m_ald (v := M 11 a) hx hb hK hW 11 a (by decide) rfl (show a < 240 by omega) rfl dX3_fee_37 ?_
        refine lv_iconst (v := 1) hx hb dX3_fee_38 (by decide) ?_
        refine lv_icmp_ne (tgt := 46) hx hb dX3_fee_39 (by decide) (fun c39 => ?_) (fun c39 => ?_)
        · skip
          refine lv_iconst (v := 5) hx hb dX3_fee_46 (by decide) ?_
          refine lv_idiv hx hb dX3_fee_47 (by decide) ?_
          refine lv_goto (tgt := 57) hx hb dX3_fee_48 (by decide) ?_
          exact r_ret hx hb hr hlocks (by unfold feeM feeM2; rw [if_neg c1, if_neg c11, if_pos c23, if_neg c39] <;> rfl) dX3_fee_57
        · skip
          refine lv_iconst (v := 2) hx hb dX3_fee_42 (by decide) ?_
          refine lv_goto (tgt := 47) hx hb dX3_fee_43 (by decide) ?_
          refine lv_idiv hx hb dX3_fee_47 (by decide) ?_
          refine lv_goto (tgt := 57) hx hb dX3_fee_48 (by decide) ?_
          exact r_ret hx hb hr hlocks (by unfold feeM feeM2; rw [if_neg c1, if_neg c11, if_pos c23, if_pos c39] <;> rfl) dX3_fee_57
    · skip
      refine lv_iload_n hx hb dX3_fee_14 rfl (lv_at hl 2 rfl) ?_
      refine lv_iconst (v := 3) hx hb dX3_fee_15 (by decide) ?_
      refine lv_icmp_eq (tgt := 21) hx hb dX3_fee_16 (by decide) (fun c16 => ?_) (fun c16 => ?_)
      · skip
        refine lv_iload_n hx hb dX3_fee_21 rfl (lv_at hl 2 rfl) ?_
        refine lv_iconst (v := 1) hx hb dX3_fee_22 (by decide) ?_
        refine lv_icmp_ne (tgt := 51) hx hb dX3_fee_23 (by decide) (fun c23 => ?_) (fun c23 => ?_)
        · skip
          refine lv_aload_n hx hb dX3_fee_51 rfl (lv_at hl 0 rfl) ?_
          refine m_get (v := .ref (q 10)) hx hb hts hin hown hK hW 10 (by decide) (hts (.fieldLink RX3 34 "ReturnsDeskModel" "prices" "[I") (List.mem_of_getElem? (i := 2) rfl)) (fun _ h9 => h9) rfl dX3_fee_52 ?_
          refine lv_iload_n hx hb dX3_fee_55 rfl (lv_at hl 1 rfl) ?_
          refine m_ald (v := M 10 a) hx hb hK hW 10 a (by decide) rfl (show a < 240 by omega) rfl dX3_fee_56 ?_
          exact r_ret hx hb hr hlocks (by unfold feeM feeM2; rw [if_neg c1, if_pos c11, if_pos c16, if_neg c23] <;> rfl) dX3_fee_57
        · skip
          refine lv_aload_n hx hb dX3_fee_26 rfl (lv_at hl 0 rfl) ?_
          refine m_get (v := .ref (q 10)) hx hb hts hin hown hK hW 10 (by decide) (hts (.fieldLink RX3 34 "ReturnsDeskModel" "prices" "[I") (List.mem_of_getElem? (i := 2) rfl)) (fun _ h9 => h9) rfl dX3_fee_27 ?_
          refine lv_iload_n hx hb dX3_fee_30 rfl (lv_at hl 1 rfl) ?_
          refine m_ald (v := M 10 a) hx hb hK hW 10 a (by decide) rfl (show a < 240 by omega) rfl dX3_fee_31 ?_
          refine lv_aload_n hx hb dX3_fee_32 rfl (lv_at hl 0 rfl) ?_
          refine m_get (v := .ref (q 11)) hx hb hts hin hown hK hW 11 (by decide) (hts (.fieldLink RX3 37 "ReturnsDeskModel" "kinds" "[I") (List.mem_of_getElem? (i := 3) rfl)) (fun _ h9 => h9) rfl dX3_fee_33 ?_
          refine lv_iload_n hx hb dX3_fee_36 rfl (lv_at hl 1 rfl) ?_
          refine m_ald (v := M 11 a) hx hb hK hW 11 a (by decide) rfl (show a < 240 by omega) rfl dX3_fee_37 ?_
          refine lv_iconst (v := 1) hx hb dX3_fee_38 (by decide) ?_
          refine lv_icmp_ne (tgt := 46) hx hb dX3_fee_39 (by decide) (fun c39 => ?_) (fun c39 => ?_)
          · skip
            refine lv_iconst (v := 5) hx hb dX3_fee_46 (by decide) ?_
            refine lv_idiv hx hb dX3_fee_47 (by decide) ?_
            refine lv_goto (tgt := 57) hx hb dX3_fee_48 (by decide) ?_
            exact r_ret hx hb hr hlocks (by unfold feeM feeM2; rw [if_neg c1, if_pos c11, if_pos c16, if_pos c23, if_neg c39] <;> rfl) dX3_fee_57
          · skip
            refine lv_iconst (v := 2) hx hb dX3_fee_42 (by decide) ?_
            refine lv_goto (tgt := 47) hx hb dX3_fee_43 (by decide) ?_
            refine lv_idiv hx hb dX3_fee_47 (by decide) ?_
            refine lv_goto (tgt := 57) hx hb dX3_fee_48 (by decide) ?_
            exact r_ret hx hb hr hlocks (by unfold feeM feeM2; rw [if_neg c1, if_pos c11, if_pos c16, if_pos c23, if_pos c39] <;> rfl) dX3_fee_57
      · skip
        refine lv_iconst (v := 0) hx hb dX3_fee_19 (by decide) ?_
        exact r_ret hx hb hr hlocks (by unfold feeM feeM2; rw [if_neg c1, if_pos c11, if_neg c16] <;> rfl) dX3_fee_20
set_option maxHeartbeats 4000000 in
set_option maxRecDepth 100000 in
theorem kX3_takenOf (l : Launch) {D : va_G} {cI cO cL cJ : ClassId} {ao : Nat} {q : Nat → Nat} (M : MS) (o n : Nat) (ho : o < n) (hn : n ≤ 30) : Met l yX3_takenOf wsX3_takenOf ({ frames := 0, cells := 0, slots := 0, locals := 0 } : Room) (mP D cI cO cL cJ ao q M [.int (nI o)]) (vp_Si (fun r : Int32 => r = takenM M o)) 0 0 (fun _ => False) := by
  refine m_body (cc := cX3_takenOf) (maxL := 2) (ret := some .int) (by decide) rfl [.int (nI o)] (Nat.le_of_ble_eq_true rfl) ?_
  intro p e s m args below meth c hx hb hr hts hown hml hlocks hW hK ls hl
  have hown : s.vm.findClass RX3 = some m.cls := hown
  have hl : lv_has ls 2 [(0, .ref ao), (1, .int (nI o))] := hl
  have hin : ∀ w ∈ u_ws RX3 TX3 17, w ∈ wsX3_takenOf := (fun w h => List.mem_cons_of_mem _ (List.mem_append_right _ (h)))
  refine lv_aload_n hx hb dX3_takenOf_0 rfl (lv_at hl 0 rfl) ?_
  refine m_get (v := .ref (q 9)) hx hb hts hin hown hK hW 9 (by decide) (hts (.fieldLink RX3 31 "ReturnsDeskModel" "taken" "[I") (List.mem_of_getElem? (i := 1) rfl)) (fun _ h9 => h9) rfl dX3_takenOf_1 ?_
  refine lv_iconst (v := 3) hx hb dX3_takenOf_4 (by decide) ?_
  refine lv_iload_n hx hb dX3_takenOf_5 rfl (lv_at hl 1 rfl) ?_
  refine lv_imul hx hb dX3_takenOf_6 ?_
  refine cv (y := nI (3 * o)) (nI_mulx (a := 3) (b := o) rfl rfl) ?_
  refine m_ald (v := M 9 (3 * o)) hx hb hK hW 9 (3 * o) (by decide) rfl (show 3 * o < 90 by omega) rfl dX3_takenOf_7 ?_
  refine lv_aload_n hx hb dX3_takenOf_8 rfl (lv_at hl 0 rfl) ?_
  refine m_get (v := .ref (q 9)) hx hb hts hin hown hK hW 9 (by decide) (hts (.fieldLink RX3 31 "ReturnsDeskModel" "taken" "[I") (List.mem_of_getElem? (i := 1) rfl)) (fun _ h9 => h9) rfl dX3_takenOf_9 ?_
  refine lv_iconst (v := 3) hx hb dX3_takenOf_12 (by decide) ?_
  refine lv_iload_n hx hb dX3_takenOf_13 rfl (lv_at hl 1 rfl) ?_
  refine lv_imul hx hb dX3_takenOf_14 ?_
  refine cv (y := nI (3 * o)) (nI_mulx (a := 3) (b := o) rfl rfl) ?_
  refine lv_iconst (v := 1) hx hb dX3_takenOf_15 (by decide) ?_
  refine lv_iadd hx hb dX3_takenOf_16 ?_
  refine cv (y := nI (3 * o + 1)) (nI_addx (a := 3 * o) (b := 1) rfl rfl) ?_
  refine m_ald (v := M 9 (3 * o + 1)) hx hb hK hW 9 (3 * o + 1) (by decide) rfl (show 3 * o + 1 < 90 by omega) rfl dX3_takenOf_17 ?_
  refine lv_iadd hx hb dX3_takenOf_18 ?_
  refine lv_aload_n hx hb dX3_takenOf_19 rfl (lv_at hl 0 rfl) ?_
  refine m_get (v := .ref (q 9)) hx hb hts hin hown hK hW 9 (by decide) (hts (.fieldLink RX3 31 "ReturnsDeskModel" "taken" "[I") (List.mem_of_getElem? (i := 1) rfl)) (fun _ h9 => h9) rfl dX3_takenOf_20 ?_
  refine lv_iconst (v := 3) hx hb dX3_takenOf_23 (by decide) ?_
  refine lv_iload_n hx hb dX3_takenOf_24 rfl (lv_at hl 1 rfl) ?_
  refine lv_imul hx hb dX3_takenOf_25 ?_
  refine cv (y := nI (3 * o)) (nI_mulx (a := 3) (b := o) rfl rfl) ?_
  refine lv_iconst (v := 2) hx hb dX3_takenOf_26 (by decide) ?_
  refine lv_iadd hx hb dX3_takenOf_27 ?_
  refine cv (y := nI (3 * o + 2)) (nI_addx (a := 3 * o) (b := 2) rfl rfl) ?_
  refine m_ald (v := M 9 (3 * o + 2)) hx hb hK hW 9 (3 * o + 2) (by decide) rfl (show 3 * o + 2 < 90 by omega) rfl dX3_takenOf_28 ?_
  refine lv_iadd hx hb dX3_takenOf_29 ?_
  exact r_ret hx hb hr hlocks rfl dX3_takenOf_30
set_option maxHeartbeats 4000000 in
set_option maxRecDepth 100000 in
theorem kX3_owes (l : Launch) {D : va_G} {cI cO cL cJ : ClassId} {ao : Nat} {q : Nat → Nat} (M : MS) (o n kc : Nat) (ho : o < n) (hn : n ≤ 30) (hkc : kc ≤ 8) (hM4 : M 4 o = nI kc) : Met l yX3_owes wsX3_owes ({ frames := 1, cells := 0, slots := 0, locals := 23 } : Room) (mP D cI cO cL cJ ao q M [.int (nI o)]) (vp_Si (fun r : Int32 => r = owesM M o kc)) 0 0 (fun _ => False) := by
  refine m_body (cc := cX3_owes) (maxL := 2) (ret := some .int) (by decide) rfl [.int (nI o)] (Nat.le_of_ble_eq_true rfl) ?_
  intro p e s m args below meth c hx hb hr hts hown hml hlocks hW hK ls hl
  have hown : s.vm.findClass RX3 = some m.cls := hown
  have hl : lv_has ls 2 [(0, .ref ao), (1, .int (nI o))] := hl
  have hin : ∀ w ∈ u_ws RX3 TX3 17, w ∈ wsX3_owes := (fun w h => List.mem_cons_of_mem _ (List.mem_append_right _ (h)))
  refine lv_aload_n hx hb dX3_owes_0 rfl (lv_at hl 0 rfl) ?_
  refine lv_iload_n hx hb dX3_owes_1 rfl (lv_at hl 1 rfl) ?_
  refine m_call0 1 hx hb hts hown hml (kX3_priced l M o n kc ho hn hkc hM4) rfl gX3_owes_X3_priced rfl rfl rfl (by decide +kernel) ⟨Nat.le_of_ble_eq_true rfl, Nat.le_of_ble_eq_true rfl⟩ hl.1 hW hK rfl (Nat.le_of_ble_eq_true rfl) dX3_owes_2 ⟨Nat.zero_le _, Nat.zero_le _⟩ (fun r hp => ?_)
  subst hp
  refine lv_aload_n hx hb dX3_owes_5 rfl (lv_at hl 0 rfl) ?_
  refine m_get (v := .ref (q 6)) hx hb hts hin hown hK hW 6 (by decide) (hts (.fieldLink RX3 22 "ReturnsDeskModel" "fees" "[I") (List.mem_of_getElem? (i := 1) rfl)) (fun _ h9 => h9) rfl dX3_owes_6 ?_
  refine lv_iload_n hx hb dX3_owes_9 rfl (lv_at hl 1 rfl) ?_
  refine m_ald (v := M 6 o) hx hb hK hW 6 o (by decide) rfl (show o < 30 by omega) rfl dX3_owes_10 ?_
  refine lv_iadd hx hb dX3_owes_11 ?_
  refine lv_aload_n hx hb dX3_owes_12 rfl (lv_at hl 0 rfl) ?_
  refine m_get (v := .ref (q 7)) hx hb hts hin hown hK hW 7 (by decide) (hts (.fieldLink RX3 25 "ReturnsDeskModel" "charges" "[I") (List.mem_of_getElem? (i := 2) rfl)) (fun _ h9 => h9) rfl dX3_owes_13 ?_
  refine lv_iload_n hx hb dX3_owes_16 rfl (lv_at hl 1 rfl) ?_
  refine m_ald (v := M 7 o) hx hb hK hW 7 o (by decide) rfl (show o < 30 by omega) rfl dX3_owes_17 ?_
  refine lv_iadd hx hb dX3_owes_18 ?_
  exact r_ret hx hb hr hlocks rfl dX3_owes_19

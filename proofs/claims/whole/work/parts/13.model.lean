/-! THE REFERENCE, method by method. -/
theorem in_g {g b : Nat} {x : Int32} (h : g ≤ b) (hx : x = nI b := by rfl) (hb : b ≤ 1000 := by decide) : inR (nI g) 0 x := by
  subst hx
  exact ⟨nI_pos (by omega), fun q => absurd (Int32.lt_iff_toInt_lt.mp q) (by rw [nI_toInt (by omega), nI_toInt (by omega)]; omega)⟩
set_option maxHeartbeats 4000000 in
set_option maxRecDepth 100000 in
theorem kX3_in_t (l : Launch) (v lo hi : Int32) (h : inR v lo hi) : Met l yX3_in wsX3_in ({ frames := 0, cells := 0, slots := 0, locals := 0 } : Room) (sP [.int v, .int lo, .int hi]) (vp_Si (fun r : Int32 => r = 1)) 0 0 (fun _ => False) := by
  refine s_body (cc := cX3_in) (maxL := 3) (ret := some .boolean) (by decide) rfl [.int v, .int lo, .int hi] (Nat.le_of_ble_eq_true rfl) ?_
  intro p e s m args below meth c hx hb hr hts hown hml hlocks ls hl
  have hl : lv_has ls 3 [(0, .int v), (1, .int lo), (2, .int hi)] := hl
  refine lv_iload_n hx hb dX3_in_0 rfl (lv_at hl 0 rfl) ?_
  refine lv_iload_n hx hb dX3_in_1 rfl (lv_at hl 1 rfl) ?_
  refine lv_icmp_lt (tgt := 14) hx hb dX3_in_2 (by decide) (fun c2 => ?_) (fun c2 => ?_)
  · skip
    refine lv_iconst (v := 0) hx hb dX3_in_14 (by decide) ?_
    exact absurd c2 h.1
  · skip
    refine lv_iload_n hx hb dX3_in_5 rfl (lv_at hl 0 rfl) ?_
    refine lv_iload_n hx hb dX3_in_6 rfl (lv_at hl 2 rfl) ?_
    refine lv_icmp_gt (tgt := 14) hx hb dX3_in_7 (by decide) (fun c7 => ?_) (fun c7 => ?_)
    · skip
      refine lv_iconst (v := 0) hx hb dX3_in_14 (by decide) ?_
      exact absurd c7 h.2
    · skip
      refine lv_iconst (v := 1) hx hb dX3_in_10 (by decide) ?_
      refine lv_goto (tgt := 15) hx hb dX3_in_11 (by decide) ?_
      exact r_zret hx hb hr hlocks (by decide) rfl dX3_in_15
set_option maxHeartbeats 4000000 in
set_option maxRecDepth 100000 in
theorem kX3_in_f (l : Launch) (v lo hi : Int32) (h : ¬ inR v lo hi) : Met l yX3_in wsX3_in ({ frames := 0, cells := 0, slots := 0, locals := 0 } : Room) (sP [.int v, .int lo, .int hi]) (vp_Si (fun r : Int32 => r = 0)) 0 0 (fun _ => False) := by
  refine s_body (cc := cX3_in) (maxL := 3) (ret := some .boolean) (by decide) rfl [.int v, .int lo, .int hi] (Nat.le_of_ble_eq_true rfl) ?_
  intro p e s m args below meth c hx hb hr hts hown hml hlocks ls hl
  have hl : lv_has ls 3 [(0, .int v), (1, .int lo), (2, .int hi)] := hl
  refine lv_iload_n hx hb dX3_in_0 rfl (lv_at hl 0 rfl) ?_
  refine lv_iload_n hx hb dX3_in_1 rfl (lv_at hl 1 rfl) ?_
  refine lv_icmp_lt (tgt := 14) hx hb dX3_in_2 (by decide) (fun c2 => ?_) (fun c2 => ?_)
  · skip
    refine lv_iconst (v := 0) hx hb dX3_in_14 (by decide) ?_
    exact r_zret hx hb hr hlocks (by decide) rfl dX3_in_15
  · skip
    refine lv_iload_n hx hb dX3_in_5 rfl (lv_at hl 0 rfl) ?_
    refine lv_iload_n hx hb dX3_in_6 rfl (lv_at hl 2 rfl) ?_
    refine lv_icmp_gt (tgt := 14) hx hb dX3_in_7 (by decide) (fun c7 => ?_) (fun c7 => ?_)
    · skip
      refine lv_iconst (v := 0) hx hb dX3_in_14 (by decide) ?_
      exact r_zret hx hb hr hlocks (by decide) rfl dX3_in_15
    · skip
      refine lv_iconst (v := 1) hx hb dX3_in_10 (by decide) ?_
      refine lv_goto (tgt := 15) hx hb dX3_in_11 (by decide) ?_
      exact absurd ⟨c2, c7⟩ h
set_option maxHeartbeats 4000000 in
set_option maxRecDepth 100000 in
theorem kX3_least (l : Launch) (x y : Int32) : Met l yX3_least wsX3_least ({ frames := 0, cells := 0, slots := 0, locals := 0 } : Room) (sP [.int x, .int y]) (vp_Si (fun r : Int32 => r = leastI x y)) 0 0 (fun _ => False) := by
  refine s_body (cc := cX3_least) (maxL := 2) (ret := some .int) (by decide) rfl [.int x, .int y] (Nat.le_of_ble_eq_true rfl) ?_
  intro p e s m args below meth c hx hb hr hts hown hml hlocks ls hl
  have hl : lv_has ls 2 [(0, .int x), (1, .int y)] := hl
  refine lv_iload_n hx hb dX3_least_0 rfl (lv_at hl 0 rfl) ?_
  refine lv_iload_n hx hb dX3_least_1 rfl (lv_at hl 1 rfl) ?_
  refine lv_icmp_ge (tgt := 9) hx hb dX3_least_2 (by decide) (fun c2 => ?_) (fun c2 => ?_)
  · skip
    refine lv_iload_n hx hb dX3_least_9 rfl (lv_at hl 1 rfl) ?_
    exact r_ret hx hb hr hlocks (by unfold leastI; rw [if_pos c2] <;> rfl) dX3_least_10
  · skip
    refine lv_iload_n hx hb dX3_least_5 rfl (lv_at hl 0 rfl) ?_
    refine lv_goto (tgt := 10) hx hb dX3_least_6 (by decide) ?_
    exact r_ret hx hb hr hlocks (by unfold leastI; rw [if_neg c2] <;> rfl) dX3_least_10
set_option maxHeartbeats 4000000 in
set_option maxRecDepth 100000 in
theorem kX3_thrown (l : Launch) {D : va_G} {cI cO cL cJ : ClassId} {ao : Nat} {q : Nat → Nat} (M : MS)  : Met l yX3_thrown wsX3_thrown ({ frames := 0, cells := 0, slots := 0, locals := 0 } : Room) (mP D cI cO cL cJ ao q M []) (vp_Si (fun r : Int32 => r = M 16 0)) 0 0 (fun _ => False) := by
  refine m_body (cc := cX3_thrown) (maxL := 1) (ret := some .int) (by decide) rfl [] (Nat.le_of_ble_eq_true rfl) ?_
  intro p e s m args below meth c hx hb hr hts hown hml hlocks hW hK ls hl
  have hown : s.vm.findClass RX3 = some m.cls := hown
  have hl : lv_has ls 1 [(0, .ref ao)] := hl
  have hin : ∀ w ∈ u_ws RX3 TX3 17, w ∈ wsX3_thrown := (fun w h => List.mem_cons_of_mem _ (List.mem_append_right _ (h)))
  refine lv_aload_n hx hb dX3_thrown_0 rfl (lv_at hl 0 rfl) ?_
  refine m_get (v := .int (M 16 0)) hx hb hts hin hown hK hW 16 (by decide) (hts (.fieldLink RX3 52 "ReturnsDeskModel" "thrown" "I") (List.mem_of_getElem? (i := 1) rfl)) (fun _ h9 => h9) rfl dX3_thrown_1 ?_
  exact r_ret hx hb hr hlocks rfl dX3_thrown_4
set_option maxHeartbeats 4000000 in
set_option maxRecDepth 100000 in
theorem kX3_fails (l : Launch) {D : va_G} {cI cO cL cJ : ClassId} {ao : Nat} {q : Nat → Nat} (hI : mI ao q) (M : MS) (k : Int32) : Met l yX3_fails wsX3_fails ({ frames := 0, cells := 0, slots := 0, locals := 0 } : Room) (mP D cI cO cL cJ ao q M [.int k]) (mQ D cI cO cL cJ ao q (fun (r : Int32) (M9 : MS) => r = 0 ∧ M9 = mu M 16 0 k)) 0 0 (mA ao q) := by
  refine m_body (cc := cX3_fails) (maxL := 2) (ret := some .int) (by decide) rfl [.int k] (Nat.le_of_ble_eq_true rfl) ?_
  intro p e s m args below meth c hx hb hr hts hown hml hlocks hW hK ls hl
  have hown : s.vm.findClass RX3 = some m.cls := hown
  have hl : lv_has ls 2 [(0, .ref ao), (1, .int k)] := hl
  have hin : ∀ w ∈ u_ws RX3 TX3 17, w ∈ wsX3_fails := (fun w h => List.mem_cons_of_mem _ (List.mem_append_right _ (h)))
  have hS : va_S (mA ao q) s.heap s.heap [] := va_S.rf
  refine lv_aload_n hx hb dX3_fails_0 rfl (lv_at hl 0 rfl) ?_
  refine lv_iload_n hx hb dX3_fails_1 rfl (lv_at hl 1 rfl) ?_
  refine m_put hx hb hts hin hown hK hI hW hS 16 (by decide) (hts (.fieldLink RX3 52 "ReturnsDeskModel" "thrown" "I") (List.mem_of_getElem? (i := 1) rfl)) (fun _ h9 => h9) dX3_fails_2 (fun H locs hW hS => ?_)
  refine lv_iconst (v := 0) hx hb dX3_fails_5 (by decide) ?_
  exact m_ret hx hb hr hlocks hK hW hS ⟨rfl, rfl⟩ dX3_fails_6
set_option maxHeartbeats 4000000 in
set_option maxRecDepth 100000 in
theorem kX3_isOrder_ok (l : Launch) {D : va_G} {cI cO cL cJ : ClassId} {ao : Nat} {q : Nat → Nat} (hI : mI ao q) (M : MS) (o n : Nat) (ho : o < n) (hn : n ≤ 30) (hM1 : M 1 0 = nI n) : Met l yX3_isOrder wsX3_isOrder ({ frames := 1, cells := 0, slots := 0, locals := 22 } : Room) (mP D cI cO cL cJ ao q M [.int (nI o)]) (mQ D cI cO cL cJ ao q (fun (r : Int32) (M9 : MS) => r = 1 ∧ M9 = mu M 16 0 0)) 0 0 (mA ao q) := by
  refine m_body (cc := cX3_isOrder) (maxL := 2) (ret := some .boolean) (by decide) rfl [.int (nI o)] (Nat.le_of_ble_eq_true rfl) ?_
  intro p e s m args below meth c hx hb hr hts hown hml hlocks hW hK ls hl
  have hown : s.vm.findClass RX3 = some m.cls := hown
  have hl : lv_has ls 2 [(0, .ref ao), (1, .int (nI o))] := hl
  have hin : ∀ w ∈ u_ws RX3 TX3 17, w ∈ wsX3_isOrder := (fun w h => List.mem_cons_of_mem _ (List.mem_append_right _ (h)))
  have hS : va_S (mA ao q) s.heap s.heap [] := va_S.rf
  refine lv_aload_n hx hb dX3_isOrder_0 rfl (lv_at hl 0 rfl) ?_
  refine lv_iload_n hx hb dX3_isOrder_1 rfl (lv_at hl 1 rfl) ?_
  refine lv_iconst (v := 0) hx hb dX3_isOrder_2 (by decide) ?_
  refine lv_aload_n hx hb dX3_isOrder_3 rfl (lv_at hl 0 rfl) ?_
  refine m_get (v := .int (M 1 0)) hx hb hts hin hown hK hW 1 (by decide) (hts (.fieldLink RX3 56 "ReturnsDeskModel" "orders" "I") (List.mem_of_getElem? (i := 1) rfl)) (fun _ h9 => h9) rfl dX3_isOrder_4 ?_
  refine cv (y := nI n) hM1 ?_
  refine lv_iconst (v := 1) hx hb dX3_isOrder_7 (by decide) ?_
  refine lv_isub hx hb dX3_isOrder_8 ?_
  refine s_call0 3 hx hb hts hown hml (kX3_in_t l (nI o) 0 ((nI n) - 1) (in_ok ho (by omega))) rfl gX3_isOrder_X3_in rfl rfl rfl (by decide +kernel) ⟨Nat.le_of_ble_eq_true rfl, Nat.le_of_ble_eq_true rfl⟩ hl.1 rfl (Nat.le_of_ble_eq_true rfl) dX3_isOrder_9 ⟨Nat.zero_le _, Nat.zero_le _⟩ (fun r hp => ?_)
  subst hp
  refine lv_if_eq (tgt := 19) hx hb dX3_isOrder_12 (by decide) (fun h9 => absurd h9 (by decide)) (fun _ => ?_)
  refine lv_iconst (v := 0) hx hb dX3_isOrder_15 (by decide) ?_
  refine lv_goto (tgt := 20) hx hb dX3_isOrder_16 (by decide) ?_
  refine m_put hx hb hts hin hown hK hI hW hS 16 (by decide) (hts (.fieldLink RX3 52 "ReturnsDeskModel" "thrown" "I") (List.mem_of_getElem? (i := 2) rfl)) (fun _ h9 => h9) dX3_isOrder_20 (fun H locs hW hS => ?_)
  refine lv_aload_n hx hb dX3_isOrder_23 rfl (lv_at hl 0 rfl) ?_
  refine m_get (v := .int 0) hx hb hts hin hown hK hW 16 (by decide) (hts (.fieldLink RX3 52 "ReturnsDeskModel" "thrown" "I") (List.mem_of_getElem? (i := 2) rfl)) (fun _ h9 => h9) (congrArg (fun z => some (Value.int z)) (mu_s _ _ _ _)) dX3_isOrder_24 ?_
  refine lv_if_ne (tgt := 34) hx hb dX3_isOrder_27 (by decide) (fun h9 => absurd (by decide) h9) (fun _ => ?_)
  refine lv_iconst (v := 1) hx hb dX3_isOrder_30 (by decide) ?_
  refine lv_goto (tgt := 35) hx hb dX3_isOrder_31 (by decide) ?_
  exact m_zret hx hb hr hlocks hK hW hS (by decide) ⟨rfl, rfl⟩ dX3_isOrder_35
set_option maxHeartbeats 4000000 in
set_option maxRecDepth 100000 in
theorem kX3_isOrder_bad (l : Launch) {D : va_G} {cI cO cL cJ : ClassId} {ao : Nat} {q : Nat → Nat} (hI : mI ao q) (M : MS) (p0 : Int32) (n : Nat) (hbad : ¬ vp_in p0 n) (hn : n ≤ 30) (hM1 : M 1 0 = nI n) : Met l yX3_isOrder wsX3_isOrder ({ frames := 1, cells := 0, slots := 0, locals := 22 } : Room) (mP D cI cO cL cJ ao q M [.int p0]) (mQ D cI cO cL cJ ao q (fun (r : Int32) (M9 : MS) => r = 0 ∧ M9 = mu M 16 0 1)) 0 0 (mA ao q) := by
  refine m_body (cc := cX3_isOrder) (maxL := 2) (ret := some .boolean) (by decide) rfl [.int p0] (Nat.le_of_ble_eq_true rfl) ?_
  intro p e s m args below meth c hx hb hr hts hown hml hlocks hW hK ls hl
  have hown : s.vm.findClass RX3 = some m.cls := hown
  have hl : lv_has ls 2 [(0, .ref ao), (1, .int p0)] := hl
  have hin : ∀ w ∈ u_ws RX3 TX3 17, w ∈ wsX3_isOrder := (fun w h => List.mem_cons_of_mem _ (List.mem_append_right _ (h)))
  have hS : va_S (mA ao q) s.heap s.heap [] := va_S.rf
  refine lv_aload_n hx hb dX3_isOrder_0 rfl (lv_at hl 0 rfl) ?_
  refine lv_iload_n hx hb dX3_isOrder_1 rfl (lv_at hl 1 rfl) ?_
  refine lv_iconst (v := 0) hx hb dX3_isOrder_2 (by decide) ?_
  refine lv_aload_n hx hb dX3_isOrder_3 rfl (lv_at hl 0 rfl) ?_
  refine m_get (v := .int (M 1 0)) hx hb hts hin hown hK hW 1 (by decide) (hts (.fieldLink RX3 56 "ReturnsDeskModel" "orders" "I") (List.mem_of_getElem? (i := 1) rfl)) (fun _ h9 => h9) rfl dX3_isOrder_4 ?_
  refine cv (y := nI n) hM1 ?_
  refine lv_iconst (v := 1) hx hb dX3_isOrder_7 (by decide) ?_
  refine lv_isub hx hb dX3_isOrder_8 ?_
  refine s_call0 3 hx hb hts hown hml (kX3_in_f l p0 0 ((nI n) - 1) (in_bad hbad (by omega))) rfl gX3_isOrder_X3_in rfl rfl rfl (by decide +kernel) ⟨Nat.le_of_ble_eq_true rfl, Nat.le_of_ble_eq_true rfl⟩ hl.1 rfl (Nat.le_of_ble_eq_true rfl) dX3_isOrder_9 ⟨Nat.zero_le _, Nat.zero_le _⟩ (fun r hp => ?_)
  subst hp
  refine lv_if_eq (tgt := 19) hx hb dX3_isOrder_12 (by decide) (fun _ => ?_) (fun h9 => absurd (by decide) h9)
  refine lv_iconst (v := 1) hx hb dX3_isOrder_19 (by decide) ?_
  refine m_put hx hb hts hin hown hK hI hW hS 16 (by decide) (hts (.fieldLink RX3 52 "ReturnsDeskModel" "thrown" "I") (List.mem_of_getElem? (i := 2) rfl)) (fun _ h9 => h9) dX3_isOrder_20 (fun H locs hW hS => ?_)
  refine lv_aload_n hx hb dX3_isOrder_23 rfl (lv_at hl 0 rfl) ?_
  refine m_get (v := .int 1) hx hb hts hin hown hK hW 16 (by decide) (hts (.fieldLink RX3 52 "ReturnsDeskModel" "thrown" "I") (List.mem_of_getElem? (i := 2) rfl)) (fun _ h9 => h9) (congrArg (fun z => some (Value.int z)) (mu_s _ _ _ _)) dX3_isOrder_24 ?_
  refine lv_if_ne (tgt := 34) hx hb dX3_isOrder_27 (by decide) (fun _ => ?_) (fun h9 => absurd h9 (by decide))
  refine lv_iconst (v := 0) hx hb dX3_isOrder_34 (by decide) ?_
  exact m_zret hx hb hr hlocks hK hW hS (by decide) ⟨rfl, rfl⟩ dX3_isOrder_35
set_option maxHeartbeats 4000000 in
set_option maxRecDepth 100000 in
theorem kX3_isLine_ok (l : Launch) {D : va_G} {cI cO cL cJ : ClassId} {ao : Nat} {q : Nat → Nat} (hI : mI ao q) (M : MS) (o n j kc : Nat) (ho : o < n) (hn : n ≤ 30) (hM1 : M 1 0 = nI n) (hj : j < kc) (hkc : kc ≤ 8) (hM4 : M 4 o = nI kc) : Met l yX3_isLine wsX3_isLine ({ frames := 1, cells := 0, slots := 0, locals := 22 } : Room) (mP D cI cO cL cJ ao q M [.int (nI o), .int (nI j)]) (mQ D cI cO cL cJ ao q (fun (r : Int32) (M9 : MS) => r = 1 ∧ M9 = mu M 16 0 0)) 0 0 (mA ao q) := by
  refine m_body (cc := cX3_isLine) (maxL := 3) (ret := some .boolean) (by decide) rfl [.int (nI o), .int (nI j)] (Nat.le_of_ble_eq_true rfl) ?_
  intro p e s m args below meth c hx hb hr hts hown hml hlocks hW hK ls hl
  have hown : s.vm.findClass RX3 = some m.cls := hown
  have hl : lv_has ls 3 [(0, .ref ao), (1, .int (nI o)), (2, .int (nI j))] := hl
  have hin : ∀ w ∈ u_ws RX3 TX3 17, w ∈ wsX3_isLine := (fun w h => List.mem_cons_of_mem _ (List.mem_append_right _ (h)))
  have hS : va_S (mA ao q) s.heap s.heap [] := va_S.rf
  refine lv_aload_n hx hb dX3_isLine_0 rfl (lv_at hl 0 rfl) ?_
  refine lv_iload_n hx hb dX3_isLine_1 rfl (lv_at hl 1 rfl) ?_
  refine lv_iconst (v := 0) hx hb dX3_isLine_2 (by decide) ?_
  refine lv_aload_n hx hb dX3_isLine_3 rfl (lv_at hl 0 rfl) ?_
  refine m_get (v := .int (M 1 0)) hx hb hts hin hown hK hW 1 (by decide) (hts (.fieldLink RX3 56 "ReturnsDeskModel" "orders" "I") (List.mem_of_getElem? (i := 1) rfl)) (fun _ h9 => h9) rfl dX3_isLine_4 ?_
  refine cv (y := nI n) hM1 ?_
  refine lv_iconst (v := 1) hx hb dX3_isLine_7 (by decide) ?_
  refine lv_isub hx hb dX3_isLine_8 ?_
  refine s_call0 3 hx hb hts hown hml (kX3_in_t l (nI o) 0 ((nI n) - 1) (in_ok ho (by omega))) rfl gX3_isLine_X3_in rfl rfl rfl (by decide +kernel) ⟨Nat.le_of_ble_eq_true rfl, Nat.le_of_ble_eq_true rfl⟩ hl.1 rfl (Nat.le_of_ble_eq_true rfl) dX3_isLine_9 ⟨Nat.zero_le _, Nat.zero_le _⟩ (fun r hp => ?_)
  subst hp
  refine lv_if_eq (tgt := 35) hx hb dX3_isLine_12 (by decide) (fun h9 => absurd h9 (by decide)) (fun _ => ?_)
  refine lv_iload_n hx hb dX3_isLine_15 rfl (lv_at hl 2 rfl) ?_
  refine lv_iconst (v := 0) hx hb dX3_isLine_16 (by decide) ?_
  refine lv_aload_n hx hb dX3_isLine_17 rfl (lv_at hl 0 rfl) ?_
  refine m_get (v := .ref (q 4)) hx hb hts hin hown hK hW 4 (by decide) (hts (.fieldLink RX3 16 "ReturnsDeskModel" "lines" "[I") (List.mem_of_getElem? (i := 2) rfl)) (fun _ h9 => h9) rfl dX3_isLine_18 ?_
  refine lv_iload_n hx hb dX3_isLine_21 rfl (lv_at hl 1 rfl) ?_
  refine m_ald (v := M 4 o) hx hb hK hW 4 o (by decide) rfl (show o < 30 by omega) rfl dX3_isLine_22 ?_
  refine cv (y := nI kc) hM4 ?_
  refine lv_iconst (v := 1) hx hb dX3_isLine_23 (by decide) ?_
  refine lv_isub hx hb dX3_isLine_24 ?_
  refine s_call0 3 hx hb hts hown hml (kX3_in_t l (nI j) 0 ((nI kc) - 1) (in_ok hj (by omega))) rfl gX3_isLine_X3_in rfl rfl rfl (by decide +kernel) ⟨Nat.le_of_ble_eq_true rfl, Nat.le_of_ble_eq_true rfl⟩ hl.1 rfl (Nat.le_of_ble_eq_true rfl) dX3_isLine_25 ⟨Nat.zero_le _, Nat.zero_le _⟩ (fun r hp => ?_)
  subst hp
  refine lv_if_eq (tgt := 35) hx hb dX3_isLine_28 (by decide) (fun h9 => absurd h9 (by decide)) (fun _ => ?_)
  refine lv_iconst (v := 0) hx hb dX3_isLine_31 (by decide) ?_
  refine lv_goto (tgt := 36) hx hb dX3_isLine_32 (by decide) ?_
  refine m_put hx hb hts hin hown hK hI hW hS 16 (by decide) (hts (.fieldLink RX3 52 "ReturnsDeskModel" "thrown" "I") (List.mem_of_getElem? (i := 3) rfl)) (fun _ h9 => h9) dX3_isLine_36 (fun H locs hW hS => ?_)
  refine lv_aload_n hx hb dX3_isLine_39 rfl (lv_at hl 0 rfl) ?_
  refine m_get (v := .int 0) hx hb hts hin hown hK hW 16 (by decide) (hts (.fieldLink RX3 52 "ReturnsDeskModel" "thrown" "I") (List.mem_of_getElem? (i := 3) rfl)) (fun _ h9 => h9) (congrArg (fun z => some (Value.int z)) (mu_s _ _ _ _)) dX3_isLine_40 ?_
  refine lv_if_ne (tgt := 50) hx hb dX3_isLine_43 (by decide) (fun h9 => absurd (by decide) h9) (fun _ => ?_)
  refine lv_iconst (v := 1) hx hb dX3_isLine_46 (by decide) ?_
  refine lv_goto (tgt := 51) hx hb dX3_isLine_47 (by decide) ?_
  exact m_zret hx hb hr hlocks hK hW hS (by decide) ⟨rfl, rfl⟩ dX3_isLine_51
set_option maxHeartbeats 4000000 in
set_option maxRecDepth 100000 in
theorem kX3_isLine_bad2 (l : Launch) {D : va_G} {cI cO cL cJ : ClassId} {ao : Nat} {q : Nat → Nat} (hI : mI ao q) (M : MS) (o n kc : Nat) (p1 : Int32) (ho : o < n) (hn : n ≤ 30) (hM1 : M 1 0 = nI n) (hkc : kc ≤ 8) (hM4 : M 4 o = nI kc) (hbad : ¬ vp_in p1 kc) : Met l yX3_isLine wsX3_isLine ({ frames := 1, cells := 0, slots := 0, locals := 22 } : Room) (mP D cI cO cL cJ ao q M [.int (nI o), .int p1]) (mQ D cI cO cL cJ ao q (fun (r : Int32) (M9 : MS) => r = 0 ∧ M9 = mu M 16 0 1)) 0 0 (mA ao q) := by
  refine m_body (cc := cX3_isLine) (maxL := 3) (ret := some .boolean) (by decide) rfl [.int (nI o), .int p1] (Nat.le_of_ble_eq_true rfl) ?_
  intro p e s m args below meth c hx hb hr hts hown hml hlocks hW hK ls hl
  have hown : s.vm.findClass RX3 = some m.cls := hown
  have hl : lv_has ls 3 [(0, .ref ao), (1, .int (nI o)), (2, .int p1)] := hl
  have hin : ∀ w ∈ u_ws RX3 TX3 17, w ∈ wsX3_isLine := (fun w h => List.mem_cons_of_mem _ (List.mem_append_right _ (h)))
  have hS : va_S (mA ao q) s.heap s.heap [] := va_S.rf
  refine lv_aload_n hx hb dX3_isLine_0 rfl (lv_at hl 0 rfl) ?_
  refine lv_iload_n hx hb dX3_isLine_1 rfl (lv_at hl 1 rfl) ?_
  refine lv_iconst (v := 0) hx hb dX3_isLine_2 (by decide) ?_
  refine lv_aload_n hx hb dX3_isLine_3 rfl (lv_at hl 0 rfl) ?_
  refine m_get (v := .int (M 1 0)) hx hb hts hin hown hK hW 1 (by decide) (hts (.fieldLink RX3 56 "ReturnsDeskModel" "orders" "I") (List.mem_of_getElem? (i := 1) rfl)) (fun _ h9 => h9) rfl dX3_isLine_4 ?_
  refine cv (y := nI n) hM1 ?_
  refine lv_iconst (v := 1) hx hb dX3_isLine_7 (by decide) ?_
  refine lv_isub hx hb dX3_isLine_8 ?_
  refine s_call0 3 hx hb hts hown hml (kX3_in_t l (nI o) 0 ((nI n) - 1) (in_ok ho (by omega))) rfl gX3_isLine_X3_in rfl rfl rfl (by decide +kernel) ⟨Nat.le_of_ble_eq_true rfl, Nat.le_of_ble_eq_true rfl⟩ hl.1 rfl (Nat.le_of_ble_eq_true rfl) dX3_isLine_9 ⟨Nat.zero_le _, Nat.zero_le _⟩ (fun r hp => ?_)
  subst hp
  refine lv_if_eq (tgt := 35) hx hb dX3_isLine_12 (by decide) (fun h9 => absurd h9 (by decide)) (fun _ => ?_)
  refine lv_iload_n hx hb dX3_isLine_15 rfl (lv_at hl 2 rfl) ?_
  refine lv_iconst (v := 0) hx hb dX3_isLine_16 (by decide) ?_
  refine lv_aload_n hx hb dX3_isLine_17 rfl (lv_at hl 0 rfl) ?_
  refine m_get (v := .ref (q 4)) hx hb hts hin hown hK hW 4 (by decide) (hts (.fieldLink RX3 16 "ReturnsDeskModel" "lines" "[I") (List.mem_of_getElem? (i := 2) rfl)) (fun _ h9 => h9) rfl dX3_isLine_18 ?_
  refine lv_iload_n hx hb dX3_isLine_21 rfl (lv_at hl 1 rfl) ?_
  refine m_ald (v := M 4 o) hx hb hK hW 4 o (by decide) rfl (show o < 30 by omega) rfl dX3_isLine_22 ?_
  refine cv (y := nI kc) hM4 ?_
  refine lv_iconst (v := 1) hx hb dX3_isLine_23 (by decide) ?_
  refine lv_isub hx hb dX3_isLine_24 ?_
  refine s_call0 3 hx hb hts hown hml (kX3_in_f l p1 0 ((nI kc) - 1) (in_bad hbad (by omega))) rfl gX3_isLine_X3_in rfl rfl rfl (by decide +kernel) ⟨Nat.le_of_ble_eq_true rfl, Nat.le_of_ble_eq_true rfl⟩ hl.1 rfl (Nat.le_of_ble_eq_true rfl) dX3_isLine_25 ⟨Nat.zero_le _, Nat.zero_le _⟩ (fun r hp => ?_)
  subst hp
  refine lv_if_eq (tgt := 35) hx hb dX3_isLine_28 (by decide) (fun _ => ?_) (fun h9 => absurd (by decide) h9)
  refine lv_iconst (v := 1) hx hb dX3_isLine_35 (by decide) ?_
  refine m_put hx hb hts hin hown hK hI hW hS 16 (by decide) (hts (.fieldLink RX3 52 "ReturnsDeskModel" "thrown" "I") (List.mem_of_getElem? (i := 3) rfl)) (fun _ h9 => h9) dX3_isLine_36 (fun H locs hW hS => ?_)
  refine lv_aload_n hx hb dX3_isLine_39 rfl (lv_at hl 0 rfl) ?_
  refine m_get (v := .int 1) hx hb hts hin hown hK hW 16 (by decide) (hts (.fieldLink RX3 52 "ReturnsDeskModel" "thrown" "I") (List.mem_of_getElem? (i := 3) rfl)) (fun _ h9 => h9) (congrArg (fun z => some (Value.int z)) (mu_s _ _ _ _)) dX3_isLine_40 ?_
  refine lv_if_ne (tgt := 50) hx hb dX3_isLine_43 (by decide) (fun _ => ?_) (fun h9 => absurd h9 (by decide))
  refine lv_iconst (v := 0) hx hb dX3_isLine_50 (by decide) ?_
  exact m_zret hx hb hr hlocks hK hW hS (by decide) ⟨rfl, rfl⟩ dX3_isLine_51
set_option maxHeartbeats 4000000 in
set_option maxRecDepth 100000 in
theorem kX3_isLine_bad (l : Launch) {D : va_G} {cI cO cL cJ : ClassId} {ao : Nat} {q : Nat → Nat} (hI : mI ao q) (M : MS) (p0 p1 : Int32) (n : Nat) (hbad : ¬ vp_in p0 n) (hn : n ≤ 30) (hM1 : M 1 0 = nI n) : Met l yX3_isLine wsX3_isLine ({ frames := 1, cells := 0, slots := 0, locals := 22 } : Room) (mP D cI cO cL cJ ao q M [.int p0, .int p1]) (mQ D cI cO cL cJ ao q (fun (r : Int32) (M9 : MS) => r = 0 ∧ M9 = mu M 16 0 1)) 0 0 (mA ao q) := by
  refine m_body (cc := cX3_isLine) (maxL := 3) (ret := some .boolean) (by decide) rfl [.int p0, .int p1] (Nat.le_of_ble_eq_true rfl) ?_
  intro p e s m args below meth c hx hb hr hts hown hml hlocks hW hK ls hl
  have hown : s.vm.findClass RX3 = some m.cls := hown
  have hl : lv_has ls 3 [(0, .ref ao), (1, .int p0), (2, .int p1)] := hl
  have hin : ∀ w ∈ u_ws RX3 TX3 17, w ∈ wsX3_isLine := (fun w h => List.mem_cons_of_mem _ (List.mem_append_right _ (h)))
  have hS : va_S (mA ao q) s.heap s.heap [] := va_S.rf
  refine lv_aload_n hx hb dX3_isLine_0 rfl (lv_at hl 0 rfl) ?_
  refine lv_iload_n hx hb dX3_isLine_1 rfl (lv_at hl 1 rfl) ?_
  refine lv_iconst (v := 0) hx hb dX3_isLine_2 (by decide) ?_
  refine lv_aload_n hx hb dX3_isLine_3 rfl (lv_at hl 0 rfl) ?_
  refine m_get (v := .int (M 1 0)) hx hb hts hin hown hK hW 1 (by decide) (hts (.fieldLink RX3 56 "ReturnsDeskModel" "orders" "I") (List.mem_of_getElem? (i := 1) rfl)) (fun _ h9 => h9) rfl dX3_isLine_4 ?_
  refine cv (y := nI n) hM1 ?_
  refine lv_iconst (v := 1) hx hb dX3_isLine_7 (by decide) ?_
  refine lv_isub hx hb dX3_isLine_8 ?_
  refine s_call0 3 hx hb hts hown hml (kX3_in_f l p0 0 ((nI n) - 1) (in_bad hbad (by omega))) rfl gX3_isLine_X3_in rfl rfl rfl (by decide +kernel) ⟨Nat.le_of_ble_eq_true rfl, Nat.le_of_ble_eq_true rfl⟩ hl.1 rfl (Nat.le_of_ble_eq_true rfl) dX3_isLine_9 ⟨Nat.zero_le _, Nat.zero_le _⟩ (fun r hp => ?_)
  subst hp
  refine lv_if_eq (tgt := 35) hx hb dX3_isLine_12 (by decide) (fun _ => ?_) (fun h9 => absurd (by decide) h9)
  refine lv_iconst (v := 1) hx hb dX3_isLine_35 (by decide) ?_
  refine m_put hx hb hts hin hown hK hI hW hS 16 (by decide) (hts (.fieldLink RX3 52 "ReturnsDeskModel" "thrown" "I") (List.mem_of_getElem? (i := 3) rfl)) (fun _ h9 => h9) dX3_isLine_36 (fun H locs hW hS => ?_)
  refine lv_aload_n hx hb dX3_isLine_39 rfl (lv_at hl 0 rfl) ?_
  refine m_get (v := .int 1) hx hb hts hin hown hK hW 16 (by decide) (hts (.fieldLink RX3 52 "ReturnsDeskModel" "thrown" "I") (List.mem_of_getElem? (i := 3) rfl)) (fun _ h9 => h9) (congrArg (fun z => some (Value.int z)) (mu_s _ _ _ _)) dX3_isLine_40 ?_
  refine lv_if_ne (tgt := 50) hx hb dX3_isLine_43 (by decide) (fun _ => ?_) (fun h9 => absurd h9 (by decide))
  refine lv_iconst (v := 0) hx hb dX3_isLine_50 (by decide) ?_
  exact m_zret hx hb hr hlocks hK hW hS (by decide) ⟨rfl, rfl⟩ dX3_isLine_51
set_option maxHeartbeats 4000000 in
set_option maxRecDepth 100000 in
theorem kX3_order (l : Launch) {D : va_G} {cI cO cL cJ : ClassId} {ao : Nat} {q : Nat → Nat} (hI : mI ao q) (M : MS) (p0 p1 : Int32) (n : Nat) (hn : n ≤ 30) (hM1 : M 1 0 = nI n) : Met l yX3_order wsX3_order ({ frames := 1, cells := 0, slots := 0, locals := 22 } : Room) (mP D cI cO cL cJ ao q M [.int p0, .int p1]) (mQ D cI cO cL cJ ao q (fun (r : Int32) (M9 : MS) => (r, M9) = mOrder M n p0 p1)) 0 0 (mA ao q) := by
  refine m_body (cc := cX3_order) (maxL := 3) (ret := some .int) (by decide) rfl [.int p0, .int p1] (Nat.le_of_ble_eq_true rfl) ?_
  intro p e s m args below meth c hx hb hr hts hown hml hlocks hW hK ls hl
  have hown : s.vm.findClass RX3 = some m.cls := hown
  have hl : lv_has ls 3 [(0, .ref ao), (1, .int p0), (2, .int p1)] := hl
  have hin : ∀ w ∈ u_ws RX3 TX3 17, w ∈ wsX3_order := (fun w h => List.mem_cons_of_mem _ (List.mem_append_right _ (h)))
  have hS : va_S (mA ao q) s.heap s.heap [] := va_S.rf
  refine lv_aload_n hx hb dX3_order_0 rfl (lv_at hl 0 rfl) ?_
  refine lv_iload_n hx hb dX3_order_1 rfl (lv_at hl 1 rfl) ?_
  refine lv_iconst (v := 0) hx hb dX3_order_2 (by decide) ?_
  refine lv_bipush (v := 90) hx hb dX3_order_3 (by decide) ?_
  by_cases h1 : inR p0 0 90
  · skip
    refine s_call0 3 hx hb hts hown hml (kX3_in_t l p0 0 90 h1) rfl gX3_order_X3_in rfl rfl rfl (by decide +kernel) ⟨Nat.le_of_ble_eq_true rfl, Nat.le_of_ble_eq_true rfl⟩ hl.1 rfl (Nat.le_of_ble_eq_true rfl) dX3_order_5 ⟨Nat.zero_le _, Nat.zero_le _⟩ (fun r hp => ?_)
    subst hp
    refine lv_if_eq (tgt := 21) hx hb dX3_order_8 (by decide) (fun h9 => absurd h9 (by decide)) (fun _ => ?_)
    refine lv_iload_n hx hb dX3_order_11 rfl (lv_at hl 2 rfl) ?_
    refine lv_iconst (v := 0) hx hb dX3_order_12 (by decide) ?_
    refine lv_ldc (v := 1000000) hx hb hown (hts (.constant RX3 63 (1000000)) (List.mem_of_getElem? (i := 1) rfl)) dX3_order_13 ?_
    by_cases h2 : inR p1 0 1000000
    · skip
      refine s_call0 3 hx hb hts hown hml (kX3_in_t l p1 0 1000000 h2) rfl gX3_order_X3_in rfl rfl rfl (by decide +kernel) ⟨Nat.le_of_ble_eq_true rfl, Nat.le_of_ble_eq_true rfl⟩ hl.1 rfl (Nat.le_of_ble_eq_true rfl) dX3_order_15 ⟨Nat.zero_le _, Nat.zero_le _⟩ (fun r hp => ?_)
      subst hp
      refine lv_if_ne (tgt := 25) hx hb dX3_order_18 (by decide) (fun _ => ?_) (fun h9 => absurd h9 (by decide))
      refine lv_aload_n hx hb dX3_order_25 rfl (lv_at hl 0 rfl) ?_
      refine m_get (v := .int (M 1 0)) hx hb hts hin hown hK hW 1 (by decide) (hts (.fieldLink RX3 56 "ReturnsDeskModel" "orders" "I") (List.mem_of_getElem? (i := 2) rfl)) (fun _ h9 => h9) rfl dX3_order_26 ?_
      refine cv (y := nI n) hM1 ?_
      refine lv_bipush (v := 30) hx hb dX3_order_29 (by decide) ?_
      refine lv_icmp_ne (tgt := 38) hx hb dX3_order_31 (by decide) (fun c31 => ?_) (fun c31 => ?_)
      · skip
        have hn9 : n < 30 := nI_lt30 rfl c31 hn (by decide)
        refine lv_iconst (v := 0) hx hb dX3_order_38 (by decide) ?_
        refine m_put hx hb hts hin hown hK hI hW hS 16 (by decide) (hts (.fieldLink RX3 52 "ReturnsDeskModel" "thrown" "I") (List.mem_of_getElem? (i := 3) rfl)) (fun _ h9 => h9) dX3_order_39 (fun H locs hW hS => ?_)
        refine lv_aload_n hx hb dX3_order_42 rfl (lv_at hl 0 rfl) ?_
        refine m_get (v := .int 0) hx hb hts hin hown hK hW 16 (by decide) (hts (.fieldLink RX3 52 "ReturnsDeskModel" "thrown" "I") (List.mem_of_getElem? (i := 3) rfl)) (fun _ h9 => h9) (congrArg (fun z => some (Value.int z)) (mu_s _ _ _ _)) dX3_order_43 ?_
        refine lv_if_le (tgt := 51) hx hb dX3_order_46 (by decide) (fun _ => ?_) (fun h9 => absurd (by decide) h9)
        refine lv_aload_n hx hb dX3_order_51 rfl (lv_at hl 0 rfl) ?_
        refine m_get (v := .ref (q 2)) hx hb hts hin hown hK hW 2 (by decide) (hts (.fieldLink RX3 7 "ReturnsDeskModel" "percents" "[I") (List.mem_of_getElem? (i := 4) rfl)) (fun _ h9 => h9) rfl dX3_order_52 ?_
        refine lv_aload_n hx hb dX3_order_55 rfl (lv_at hl 0 rfl) ?_
        refine m_get (v := .int (M 1 0)) hx hb hts hin hown hK hW 1 (by decide) (hts (.fieldLink RX3 56 "ReturnsDeskModel" "orders" "I") (List.mem_of_getElem? (i := 2) rfl)) (fun _ h9 => h9) (congrArg (fun z => some (Value.int z)) (mu_f _ _ _ _ (by decide))) dX3_order_56 ?_
        refine cv (y := nI n) hM1 ?_
        refine lv_iload_n hx hb dX3_order_59 rfl (lv_at hl 1 rfl) ?_
        refine m_ast hx hb hK hI hW hS 2 n (by decide) rfl (show n < 30 by omega) dX3_order_60 (fun H locs hW hS => ?_)
        refine lv_aload_n hx hb dX3_order_61 rfl (lv_at hl 0 rfl) ?_
        refine m_get (v := .ref (q 3)) hx hb hts hin hown hK hW 3 (by decide) (hts (.fieldLink RX3 13 "ReturnsDeskModel" "leasts" "[I") (List.mem_of_getElem? (i := 5) rfl)) (fun _ h9 => h9) rfl dX3_order_62 ?_
        refine lv_aload_n hx hb dX3_order_65 rfl (lv_at hl 0 rfl) ?_
        refine m_get (v := .int (M 1 0)) hx hb hts hin hown hK hW 1 (by decide) (hts (.fieldLink RX3 56 "ReturnsDeskModel" "orders" "I") (List.mem_of_getElem? (i := 2) rfl)) (fun _ h9 => h9) (congrArg (fun z => some (Value.int z)) ((mu_f _ _ _ _ (by decide)).trans (mu_f _ _ _ _ (by decide)))) dX3_order_66 ?_
        refine cv (y := nI n) hM1 ?_
        refine lv_iload_n hx hb dX3_order_69 rfl (lv_at hl 2 rfl) ?_
        refine m_ast hx hb hK hI hW hS 3 n (by decide) rfl (show n < 30 by omega) dX3_order_70 (fun H locs hW hS => ?_)
        refine lv_aload_n hx hb dX3_order_71 rfl (lv_at hl 0 rfl) ?_
        refine lv_dup hx hb dX3_order_72 rfl ?_
        refine m_get (v := .int (M 1 0)) hx hb hts hin hown hK hW 1 (by decide) (hts (.fieldLink RX3 56 "ReturnsDeskModel" "orders" "I") (List.mem_of_getElem? (i := 2) rfl)) (fun _ h9 => h9) (congrArg (fun z => some (Value.int z)) ((mu_f _ _ _ _ (by decide)).trans ((mu_f _ _ _ _ (by decide)).trans (mu_f _ _ _ _ (by decide))))) dX3_order_73 ?_
        refine cv (y := nI n) hM1 ?_
        refine lv_iconst (v := 1) hx hb dX3_order_76 (by decide) ?_
        refine lv_iadd hx hb dX3_order_77 ?_
        refine cv (y := nI (n + 1)) (nI_addx (a := n) (b := 1) rfl rfl) ?_
        refine m_put hx hb hts hin hown hK hI hW hS 1 (by decide) (hts (.fieldLink RX3 56 "ReturnsDeskModel" "orders" "I") (List.mem_of_getElem? (i := 2) rfl)) (fun _ h9 => h9) dX3_order_78 (fun H locs hW hS => ?_)
        refine lv_aload_n hx hb dX3_order_81 rfl (lv_at hl 0 rfl) ?_
        refine m_get (v := .int (nI (n + 1))) hx hb hts hin hown hK hW 1 (by decide) (hts (.fieldLink RX3 56 "ReturnsDeskModel" "orders" "I") (List.mem_of_getElem? (i := 2) rfl)) (fun _ h9 => h9) (congrArg (fun z => some (Value.int z)) (mu_s _ _ _ _)) dX3_order_82 ?_
        refine lv_iconst (v := 1) hx hb dX3_order_85 (by decide) ?_
        refine lv_isub hx hb dX3_order_86 ?_
        refine cv (y := nI n) (nI_pred n) ?_
        exact m_ret hx hb hr hlocks hK hW hS (by unfold mOrder; rw [if_pos h1, if_pos h2, if_neg c31] <;> rfl) dX3_order_87
      · skip
        refine lv_iconst (v := 2) hx hb dX3_order_34 (by decide) ?_
        refine lv_goto (tgt := 39) hx hb dX3_order_35 (by decide) ?_
        refine m_put hx hb hts hin hown hK hI hW hS 16 (by decide) (hts (.fieldLink RX3 52 "ReturnsDeskModel" "thrown" "I") (List.mem_of_getElem? (i := 3) rfl)) (fun _ h9 => h9) dX3_order_39 (fun H locs hW hS => ?_)
        refine lv_aload_n hx hb dX3_order_42 rfl (lv_at hl 0 rfl) ?_
        refine m_get (v := .int 2) hx hb hts hin hown hK hW 16 (by decide) (hts (.fieldLink RX3 52 "ReturnsDeskModel" "thrown" "I") (List.mem_of_getElem? (i := 3) rfl)) (fun _ h9 => h9) (congrArg (fun z => some (Value.int z)) (mu_s _ _ _ _)) dX3_order_43 ?_
        refine lv_if_le (tgt := 51) hx hb dX3_order_46 (by decide) (fun h9 => absurd h9 (by decide)) (fun _ => ?_)
        refine lv_iconst (v := 0) hx hb dX3_order_49 (by decide) ?_
        exact m_ret hx hb hr hlocks hK hW hS (by unfold mOrder; rw [if_pos h1, if_pos h2, if_pos c31] <;> rfl) dX3_order_50
    · skip
      refine s_call0 3 hx hb hts hown hml (kX3_in_f l p1 0 1000000 h2) rfl gX3_order_X3_in rfl rfl rfl (by decide +kernel) ⟨Nat.le_of_ble_eq_true rfl, Nat.le_of_ble_eq_true rfl⟩ hl.1 rfl (Nat.le_of_ble_eq_true rfl) dX3_order_15 ⟨Nat.zero_le _, Nat.zero_le _⟩ (fun r hp => ?_)
      subst hp
      refine lv_if_ne (tgt := 25) hx hb dX3_order_18 (by decide) (fun h9 => absurd (by decide) h9) (fun _ => ?_)
      refine lv_iconst (v := 1) hx hb dX3_order_21 (by decide) ?_
      refine lv_goto (tgt := 39) hx hb dX3_order_22 (by decide) ?_
      refine m_put hx hb hts hin hown hK hI hW hS 16 (by decide) (hts (.fieldLink RX3 52 "ReturnsDeskModel" "thrown" "I") (List.mem_of_getElem? (i := 3) rfl)) (fun _ h9 => h9) dX3_order_39 (fun H locs hW hS => ?_)
      refine lv_aload_n hx hb dX3_order_42 rfl (lv_at hl 0 rfl) ?_
      refine m_get (v := .int 1) hx hb hts hin hown hK hW 16 (by decide) (hts (.fieldLink RX3 52 "ReturnsDeskModel" "thrown" "I") (List.mem_of_getElem? (i := 3) rfl)) (fun _ h9 => h9) (congrArg (fun z => some (Value.int z)) (mu_s _ _ _ _)) dX3_order_43 ?_
      refine lv_if_le (tgt := 51) hx hb dX3_order_46 (by decide) (fun h9 => absurd h9 (by decide)) (fun _ => ?_)
      refine lv_iconst (v := 0) hx hb dX3_order_49 (by decide) ?_
      exact m_ret hx hb hr hlocks hK hW hS (by unfold mOrder; rw [if_pos h1, if_neg h2] <;> rfl) dX3_order_50
  · skip
    refine s_call0 3 hx hb hts hown hml (kX3_in_f l p0 0 90 h1) rfl gX3_order_X3_in rfl rfl rfl (by decide +kernel) ⟨Nat.le_of_ble_eq_true rfl, Nat.le_of_ble_eq_true rfl⟩ hl.1 rfl (Nat.le_of_ble_eq_true rfl) dX3_order_5 ⟨Nat.zero_le _, Nat.zero_le _⟩ (fun r hp => ?_)
    subst hp
    refine lv_if_eq (tgt := 21) hx hb dX3_order_8 (by decide) (fun _ => ?_) (fun h9 => absurd (by decide) h9)
    refine lv_iconst (v := 1) hx hb dX3_order_21 (by decide) ?_
    refine lv_goto (tgt := 39) hx hb dX3_order_22 (by decide) ?_
    refine m_put hx hb hts hin hown hK hI hW hS 16 (by decide) (hts (.fieldLink RX3 52 "ReturnsDeskModel" "thrown" "I") (List.mem_of_getElem? (i := 3) rfl)) (fun _ h9 => h9) dX3_order_39 (fun H locs hW hS => ?_)
    refine lv_aload_n hx hb dX3_order_42 rfl (lv_at hl 0 rfl) ?_
    refine m_get (v := .int 1) hx hb hts hin hown hK hW 16 (by decide) (hts (.fieldLink RX3 52 "ReturnsDeskModel" "thrown" "I") (List.mem_of_getElem? (i := 3) rfl)) (fun _ h9 => h9) (congrArg (fun z => some (Value.int z)) (mu_s _ _ _ _)) dX3_order_43 ?_
    refine lv_if_le (tgt := 51) hx hb dX3_order_46 (by decide) (fun h9 => absurd h9 (by decide)) (fun _ => ?_)
    refine lv_iconst (v := 0) hx hb dX3_order_49 (by decide) ?_
    exact m_ret hx hb hr hlocks hK hW hS (by unfold mOrder; rw [if_neg h1] <;> rfl) dX3_order_50
set_option maxHeartbeats 4000000 in
set_option maxRecDepth 100000 in
theorem kX3_add_bad (l : Launch) {D : va_G} {cI cO cL cJ : ClassId} {ao : Nat} {q : Nat → Nat} (hI : mI ao q) (M : MS) (p0 p1 p2 : Int32) (n : Nat) (hbad : ¬ vp_in p0 n) (hn : n ≤ 30) (hM1 : M 1 0 = nI n) : Met l yX3_add wsX3_add ({ frames := 2, cells := 0, slots := 0, locals := 43 } : Room) (mP D cI cO cL cJ ao q M [.int p0, .int p1, .int p2]) (mQ D cI cO cL cJ ao q (fun (r : Int32) (M9 : MS) => r = 0 ∧ M9 = mu M 16 0 1)) 0 0 (mA ao q) := by
  refine m_body (cc := cX3_add) (maxL := 4) (ret := some .int) (by decide) rfl [.int p0, .int p1, .int p2] (Nat.le_of_ble_eq_true rfl) ?_
  intro p e s m args below meth c hx hb hr hts hown hml hlocks hW hK ls hl
  have hown : s.vm.findClass RX3 = some m.cls := hown
  have hl : lv_has ls 4 [(0, .ref ao), (1, .int p0), (2, .int p1), (3, .int p2)] := hl
  have hin : ∀ w ∈ u_ws RX3 TX3 17, w ∈ wsX3_add := (fun w h => List.mem_cons_of_mem _ (List.mem_append_right _ (h)))
  have hS : va_S (mA ao q) s.heap s.heap [] := va_S.rf
  refine lv_aload_n hx hb dX3_add_0 rfl (lv_at hl 0 rfl) ?_
  refine lv_iload_n hx hb dX3_add_1 rfl (lv_at hl 1 rfl) ?_
  refine m_call 1 hx hb hts hown hml (kX3_isOrder_bad l hI M p0 n hbad hn hM1) rfl gX3_add_X3_isOrder rfl rfl rfl (by decide +kernel) ⟨Nat.le_of_ble_eq_true rfl, Nat.le_of_ble_eq_true rfl⟩ hl.1 hW hK hS (fun _ h => h) rfl (Nat.le_of_ble_eq_true rfl) dX3_add_2 ⟨Nat.zero_le _, Nat.zero_le _⟩ (fun r M9 H locs hp hW _ _ hS => ?_)
  obtain ⟨rfl, rfl⟩ := hp
  refine lv_if_ne (tgt := 10) hx hb dX3_add_5 (by decide) (fun h9 => absurd (by decide) h9) (fun _ => ?_)
  refine lv_iconst (v := 0) hx hb dX3_add_8 (by decide) ?_
  exact m_ret hx hb hr hlocks hK hW hS ⟨rfl, rfl⟩ dX3_add_9
set_option maxHeartbeats 4000000 in
set_option maxRecDepth 100000 in
theorem kX3_add_ok (l : Launch) {D : va_G} {cI cO cL cJ : ClassId} {ao : Nat} {q : Nat → Nat} (hI : mI ao q) (M : MS) (o n kc : Nat) (p1 p2 : Int32) (ho : o < n) (hn : n ≤ 30) (hM1 : M 1 0 = nI n) (hkc : kc ≤ 8) (hM4 : M 4 o = nI kc) : Met l yX3_add wsX3_add ({ frames := 2, cells := 0, slots := 0, locals := 43 } : Room) (mP D cI cO cL cJ ao q M [.int (nI o), .int p1, .int p2]) (mQ D cI cO cL cJ ao q (fun (r : Int32) (M9 : MS) => (r, M9) = mAdd M o kc p1 p2)) 0 0 (mA ao q) := by
  refine m_body (cc := cX3_add) (maxL := 4) (ret := some .int) (by decide) rfl [.int (nI o), .int p1, .int p2] (Nat.le_of_ble_eq_true rfl) ?_
  intro p e s m args below meth c hx hb hr hts hown hml hlocks hW hK ls hl
  have hown : s.vm.findClass RX3 = some m.cls := hown
  have hl : lv_has ls 4 [(0, .ref ao), (1, .int (nI o)), (2, .int p1), (3, .int p2)] := hl
  have hin : ∀ w ∈ u_ws RX3 TX3 17, w ∈ wsX3_add := (fun w h => List.mem_cons_of_mem _ (List.mem_append_right _ (h)))
  have hS : va_S (mA ao q) s.heap s.heap [] := va_S.rf
  refine lv_aload_n hx hb dX3_add_0 rfl (lv_at hl 0 rfl) ?_
  refine lv_iload_n hx hb dX3_add_1 rfl (lv_at hl 1 rfl) ?_
  refine m_call 1 hx hb hts hown hml (kX3_isOrder_ok l hI M o n ho hn hM1) rfl gX3_add_X3_isOrder rfl rfl rfl (by decide +kernel) ⟨Nat.le_of_ble_eq_true rfl, Nat.le_of_ble_eq_true rfl⟩ hl.1 hW hK hS (fun _ h => h) rfl (Nat.le_of_ble_eq_true rfl) dX3_add_2 ⟨Nat.zero_le _, Nat.zero_le _⟩ (fun r M9 H locs hp hW _ _ hS => ?_)
  obtain ⟨rfl, rfl⟩ := hp
  refine lv_if_ne (tgt := 10) hx hb dX3_add_5 (by decide) (fun _ => ?_) (fun h9 => absurd h9 (by decide))
  refine lv_iload_n hx hb dX3_add_10 rfl (lv_at hl 2 rfl) ?_
  refine lv_iconst (v := 1) hx hb dX3_add_11 (by decide) ?_
  refine lv_ldc (v := 100000) hx hb hown (hts (.constant RX3 68 (100000)) (List.mem_of_getElem? (i := 1) rfl)) dX3_add_12 ?_
  by_cases h1 : inR p1 1 100000
  · skip
    refine s_call0 3 hx hb hts hown hml (kX3_in_t l p1 1 100000 h1) rfl gX3_add_X3_in rfl rfl rfl (by decide +kernel) ⟨Nat.le_of_ble_eq_true rfl, Nat.le_of_ble_eq_true rfl⟩ hl.1 rfl (Nat.le_of_ble_eq_true rfl) dX3_add_14 ⟨Nat.zero_le _, Nat.zero_le _⟩ (fun r hp => ?_)
    subst hp
    refine lv_if_eq (tgt := 29) hx hb dX3_add_17 (by decide) (fun h9 => absurd h9 (by decide)) (fun _ => ?_)
    refine lv_iload_n hx hb dX3_add_20 rfl (lv_at hl 3 rfl) ?_
    refine lv_iconst (v := 0) hx hb dX3_add_21 (by decide) ?_
    refine lv_iconst (v := 2) hx hb dX3_add_22 (by decide) ?_
    by_cases h2 : inR p2 0 2
    · skip
      refine s_call0 3 hx hb hts hown hml (kX3_in_t l p2 0 2 h2) rfl gX3_add_X3_in rfl rfl rfl (by decide +kernel) ⟨Nat.le_of_ble_eq_true rfl, Nat.le_of_ble_eq_true rfl⟩ hl.1 rfl (Nat.le_of_ble_eq_true rfl) dX3_add_23 ⟨Nat.zero_le _, Nat.zero_le _⟩ (fun r hp => ?_)
      subst hp
      refine lv_if_ne (tgt := 35) hx hb dX3_add_26 (by decide) (fun _ => ?_) (fun h9 => absurd h9 (by decide))
      refine lv_aload_n hx hb dX3_add_35 rfl (lv_at hl 0 rfl) ?_
      refine m_get (v := .ref (q 5)) hx hb hts hin hown hK hW 5 (by decide) (hts (.fieldLink RX3 19 "ReturnsDeskModel" "days" "[I") (List.mem_of_getElem? (i := 2) rfl)) (fun _ h9 => h9) rfl dX3_add_36 ?_
      refine lv_iload_n hx hb dX3_add_39 rfl (lv_at hl 1 rfl) ?_
      refine m_ald (v := M 5 o) hx hb hK hW 5 o (by decide) rfl (show o < 30 by omega) (mu_f _ _ _ _ (by decide)) dX3_add_40 ?_
      refine lv_if_gt (tgt := 55) hx hb dX3_add_41 (by decide) (fun c41 => ?_) (fun c41 => ?_)
      · skip
        refine lv_aload_n hx hb dX3_add_55 rfl (lv_at hl 0 rfl) ?_
        refine lv_iconst (v := 3) hx hb dX3_add_56 (by decide) ?_
        refine m_call 1 hx hb hts hown hml (kX3_fails l hI (mu M 16 0 0) 3) rfl gX3_add_X3_fails rfl rfl rfl (by decide +kernel) ⟨Nat.le_of_ble_eq_true rfl, Nat.le_of_ble_eq_true rfl⟩ hl.1 hW hK hS (fun _ h => h) rfl (Nat.le_of_ble_eq_true rfl) dX3_add_57 ⟨Nat.zero_le _, Nat.zero_le _⟩ (fun r M9 H locs hp hW _ _ hS => ?_)
        obtain ⟨rfl, rfl⟩ := hp
        exact m_ret hx hb hr hlocks hK hW hS (by unfold mAdd; rw [if_pos h1, if_pos h2, if_pos c41] <;> rfl) dX3_add_60
      · skip
        refine lv_aload_n hx hb dX3_add_44 rfl (lv_at hl 0 rfl) ?_
        refine m_get (v := .ref (q 4)) hx hb hts hin hown hK hW 4 (by decide) (hts (.fieldLink RX3 16 "ReturnsDeskModel" "lines" "[I") (List.mem_of_getElem? (i := 3) rfl)) (fun _ h9 => h9) rfl dX3_add_45 ?_
        refine lv_iload_n hx hb dX3_add_48 rfl (lv_at hl 1 rfl) ?_
        refine m_ald (v := M 4 o) hx hb hK hW 4 o (by decide) rfl (show o < 30 by omega) (mu_f _ _ _ _ (by decide)) dX3_add_49 ?_
        refine cv (y := nI kc) hM4 ?_
        refine lv_bipush (v := 8) hx hb dX3_add_50 (by decide) ?_
        refine lv_icmp_ne (tgt := 61) hx hb dX3_add_52 (by decide) (fun c52 => ?_) (fun c52 => ?_)
        · skip
          have hk9 : kc < 8 := nI_lt30 rfl c52 hkc (by decide)
          refine lv_aload_n hx hb dX3_add_61 rfl (lv_at hl 0 rfl) ?_
          refine m_get (v := .ref (q 10)) hx hb hts hin hown hK hW 10 (by decide) (hts (.fieldLink RX3 34 "ReturnsDeskModel" "prices" "[I") (List.mem_of_getElem? (i := 4) rfl)) (fun _ h9 => h9) rfl dX3_add_62 ?_
          refine lv_bipush (v := 8) hx hb dX3_add_65 (by decide) ?_
          refine lv_iload_n hx hb dX3_add_67 rfl (lv_at hl 1 rfl) ?_
          refine lv_imul hx hb dX3_add_68 ?_
          refine cv (y := nI (8 * o)) (nI_mulx (a := 8) (b := o) rfl rfl) ?_
          refine lv_aload_n hx hb dX3_add_69 rfl (lv_at hl 0 rfl) ?_
          refine m_get (v := .ref (q 4)) hx hb hts hin hown hK hW 4 (by decide) (hts (.fieldLink RX3 16 "ReturnsDeskModel" "lines" "[I") (List.mem_of_getElem? (i := 3) rfl)) (fun _ h9 => h9) rfl dX3_add_70 ?_
          refine lv_iload_n hx hb dX3_add_73 rfl (lv_at hl 1 rfl) ?_
          refine m_ald (v := M 4 o) hx hb hK hW 4 o (by decide) rfl (show o < 30 by omega) (mu_f _ _ _ _ (by decide)) dX3_add_74 ?_
          refine cv (y := nI kc) hM4 ?_
          refine lv_iadd hx hb dX3_add_75 ?_
          refine cv (y := nI (8 * o + kc)) (nI_addx (a := 8 * o) (b := kc) rfl rfl) ?_
          refine lv_iload_n hx hb dX3_add_76 rfl (lv_at hl 2 rfl) ?_
          refine m_ast hx hb hK hI hW hS 10 (8 * o + kc) (by decide) rfl (show 8 * o + kc < 240 by omega) dX3_add_77 (fun H locs hW hS => ?_)
          refine lv_aload_n hx hb dX3_add_78 rfl (lv_at hl 0 rfl) ?_
          refine m_get (v := .ref (q 11)) hx hb hts hin hown hK hW 11 (by decide) (hts (.fieldLink RX3 37 "ReturnsDeskModel" "kinds" "[I") (List.mem_of_getElem? (i := 5) rfl)) (fun _ h9 => h9) rfl dX3_add_79 ?_
          refine lv_bipush (v := 8) hx hb dX3_add_82 (by decide) ?_
          refine lv_iload_n hx hb dX3_add_84 rfl (lv_at hl 1 rfl) ?_
          refine lv_imul hx hb dX3_add_85 ?_
          refine cv (y := nI (8 * o)) (nI_mulx (a := 8) (b := o) rfl rfl) ?_
          refine lv_aload_n hx hb dX3_add_86 rfl (lv_at hl 0 rfl) ?_
          refine m_get (v := .ref (q 4)) hx hb hts hin hown hK hW 4 (by decide) (hts (.fieldLink RX3 16 "ReturnsDeskModel" "lines" "[I") (List.mem_of_getElem? (i := 3) rfl)) (fun _ h9 => h9) rfl dX3_add_87 ?_
          refine lv_iload_n hx hb dX3_add_90 rfl (lv_at hl 1 rfl) ?_
          refine m_ald (v := M 4 o) hx hb hK hW 4 o (by decide) rfl (show o < 30 by omega) ((mu_f _ _ _ _ (by decide)).trans (mu_f _ _ _ _ (by decide))) dX3_add_91 ?_
          refine cv (y := nI kc) hM4 ?_
          refine lv_iadd hx hb dX3_add_92 ?_
          refine cv (y := nI (8 * o + kc)) (nI_addx (a := 8 * o) (b := kc) rfl rfl) ?_
          refine lv_iload_n hx hb dX3_add_93 rfl (lv_at hl 3 rfl) ?_
          refine m_ast hx hb hK hI hW hS 11 (8 * o + kc) (by decide) rfl (show 8 * o + kc < 240 by omega) dX3_add_94 (fun H locs hW hS => ?_)
          refine lv_aload_n hx hb dX3_add_95 rfl (lv_at hl 0 rfl) ?_
          refine m_get (v := .ref (q 4)) hx hb hts hin hown hK hW 4 (by decide) (hts (.fieldLink RX3 16 "ReturnsDeskModel" "lines" "[I") (List.mem_of_getElem? (i := 3) rfl)) (fun _ h9 => h9) rfl dX3_add_96 ?_
          refine lv_iload_n hx hb dX3_add_99 rfl (lv_at hl 1 rfl) ?_
          refine lv_dup2_11 hx hb dX3_add_100 rfl rfl ?_
          refine m_ald (v := M 4 o) hx hb hK hW 4 o (by decide) rfl (show o < 30 by omega) ((mu_f _ _ _ _ (by decide)).trans ((mu_f _ _ _ _ (by decide)).trans (mu_f _ _ _ _ (by decide)))) dX3_add_101 ?_
          refine cv (y := nI kc) hM4 ?_
          refine lv_iconst (v := 1) hx hb dX3_add_102 (by decide) ?_
          refine lv_iadd hx hb dX3_add_103 ?_
          refine cv (y := nI (kc + 1)) (nI_addx (a := kc) (b := 1) rfl rfl) ?_
          refine m_ast hx hb hK hI hW hS 4 o (by decide) rfl (show o < 30 by omega) dX3_add_104 (fun H locs hW hS => ?_)
          refine lv_aload_n hx hb dX3_add_105 rfl (lv_at hl 0 rfl) ?_
          refine m_get (v := .ref (q 4)) hx hb hts hin hown hK hW 4 (by decide) (hts (.fieldLink RX3 16 "ReturnsDeskModel" "lines" "[I") (List.mem_of_getElem? (i := 3) rfl)) (fun _ h9 => h9) rfl dX3_add_106 ?_
          refine lv_iload_n hx hb dX3_add_109 rfl (lv_at hl 1 rfl) ?_
          refine m_ald (v := nI (kc + 1)) hx hb hK hW 4 o (by decide) rfl (show o < 30 by omega) (mu_s _ _ _ _) dX3_add_110 ?_
          refine lv_iconst (v := 1) hx hb dX3_add_111 (by decide) ?_
          refine lv_isub hx hb dX3_add_112 ?_
          refine cv (y := nI kc) (nI_pred kc) ?_
          exact m_ret hx hb hr hlocks hK hW hS (by unfold mAdd; rw [if_pos h1, if_pos h2, if_neg c41, if_neg c52] <;> rfl) dX3_add_113
        · skip
          refine lv_aload_n hx hb dX3_add_55 rfl (lv_at hl 0 rfl) ?_
          refine lv_iconst (v := 3) hx hb dX3_add_56 (by decide) ?_
          refine m_call 1 hx hb hts hown hml (kX3_fails l hI (mu M 16 0 0) 3) rfl gX3_add_X3_fails rfl rfl rfl (by decide +kernel) ⟨Nat.le_of_ble_eq_true rfl, Nat.le_of_ble_eq_true rfl⟩ hl.1 hW hK hS (fun _ h => h) rfl (Nat.le_of_ble_eq_true rfl) dX3_add_57 ⟨Nat.zero_le _, Nat.zero_le _⟩ (fun r M9 H locs hp hW _ _ hS => ?_)
          obtain ⟨rfl, rfl⟩ := hp
          exact m_ret hx hb hr hlocks hK hW hS (by unfold mAdd; rw [if_pos h1, if_pos h2, if_neg c41, if_pos c52] <;> rfl) dX3_add_60
    · skip
      refine s_call0 3 hx hb hts hown hml (kX3_in_f l p2 0 2 h2) rfl gX3_add_X3_in rfl rfl rfl (by decide +kernel) ⟨Nat.le_of_ble_eq_true rfl, Nat.le_of_ble_eq_true rfl⟩ hl.1 rfl (Nat.le_of_ble_eq_true rfl) dX3_add_23 ⟨Nat.zero_le _, Nat.zero_le _⟩ (fun r hp => ?_)
      subst hp
      refine lv_if_ne (tgt := 35) hx hb dX3_add_26 (by decide) (fun h9 => absurd (by decide) h9) (fun _ => ?_)
      refine lv_aload_n hx hb dX3_add_29 rfl (lv_at hl 0 rfl) ?_
      refine lv_iconst (v := 2) hx hb dX3_add_30 (by decide) ?_
      refine m_call 1 hx hb hts hown hml (kX3_fails l hI (mu M 16 0 0) 2) rfl gX3_add_X3_fails rfl rfl rfl (by decide +kernel) ⟨Nat.le_of_ble_eq_true rfl, Nat.le_of_ble_eq_true rfl⟩ hl.1 hW hK hS (fun _ h => h) rfl (Nat.le_of_ble_eq_true rfl) dX3_add_31 ⟨Nat.zero_le _, Nat.zero_le _⟩ (fun r M9 H locs hp hW _ _ hS => ?_)
      obtain ⟨rfl, rfl⟩ := hp
      exact m_ret hx hb hr hlocks hK hW hS (by unfold mAdd; rw [if_pos h1, if_neg h2] <;> rfl) dX3_add_34
  · skip
    refine s_call0 3 hx hb hts hown hml (kX3_in_f l p1 1 100000 h1) rfl gX3_add_X3_in rfl rfl rfl (by decide +kernel) ⟨Nat.le_of_ble_eq_true rfl, Nat.le_of_ble_eq_true rfl⟩ hl.1 rfl (Nat.le_of_ble_eq_true rfl) dX3_add_14 ⟨Nat.zero_le _, Nat.zero_le _⟩ (fun r hp => ?_)
    subst hp
    refine lv_if_eq (tgt := 29) hx hb dX3_add_17 (by decide) (fun _ => ?_) (fun h9 => absurd (by decide) h9)
    refine lv_aload_n hx hb dX3_add_29 rfl (lv_at hl 0 rfl) ?_
    refine lv_iconst (v := 2) hx hb dX3_add_30 (by decide) ?_
    refine m_call 1 hx hb hts hown hml (kX3_fails l hI (mu M 16 0 0) 2) rfl gX3_add_X3_fails rfl rfl rfl (by decide +kernel) ⟨Nat.le_of_ble_eq_true rfl, Nat.le_of_ble_eq_true rfl⟩ hl.1 hW hK hS (fun _ h => h) rfl (Nat.le_of_ble_eq_true rfl) dX3_add_31 ⟨Nat.zero_le _, Nat.zero_le _⟩ (fun r M9 H locs hp hW _ _ hS => ?_)
    obtain ⟨rfl, rfl⟩ := hp
    exact m_ret hx hb hr hlocks hK hW hS (by unfold mAdd; rw [if_neg h1] <;> rfl) dX3_add_34
set_option maxHeartbeats 4000000 in
set_option maxRecDepth 100000 in
theorem kX3_priced (l : Launch) {D : va_G} {cI cO cL cJ : ClassId} {ao : Nat} {q : Nat → Nat} (M : MS) (o n kc : Nat) (ho : o < n) (hn : n ≤ 30) (hkc : kc ≤ 8) (hM4 : M 4 o = nI kc) : Met l yX3_priced wsX3_priced ({ frames := 0, cells := 0, slots := 0, locals := 0 } : Room) (mP D cI cO cL cJ ao q M [.int (nI o)]) (vp_Si (fun r : Int32 => r = priceM M o kc)) 0 0 (fun _ => False) := by
  refine m_body (cc := cX3_priced) (maxL := 4) (ret := some .int) (by decide) rfl [.int (nI o)] (Nat.le_of_ble_eq_true rfl) ?_
  intro p e s m args below meth c hx hb hr hts hown hml hlocks hW hK ls hl
  have hown : s.vm.findClass RX3 = some m.cls := hown
  have hl : lv_has ls 4 [(0, .ref ao), (1, .int (nI o))] := hl
  have hin : ∀ w ∈ u_ws RX3 TX3 17, w ∈ wsX3_priced := (fun w h => List.mem_cons_of_mem _ (List.mem_append_right _ (h)))
  refine lv_iconst (v := 0) hx hb dX3_priced_0 (by decide) ?_
  refine lv_istore_n (lv' := [(2, .int 0), (0, .ref ao), (1, .int (nI o))]) hx hb dX3_priced_1 rfl hl (by decide) rfl (fun ls hl => ?_)
  refine lv_iconst (v := 0) hx hb dX3_priced_2 (by decide) ?_
  refine lv_istore_n (lv' := [(3, .int 0), (2, .int 0), (0, .ref ao), (1, .int (nI o))]) hx hb dX3_priced_3 rfl hl (by decide) rfl (fun ls hl => ?_)
  have loop : ∀ (k i : Nat) (ls : Array Slot), i ≤ kc → kc - i < k → lv_has ls 4 [(3, .int (nI i)), (2, .int (sumM M o i)), (0, .ref ao), (1, .int (nI o))] → W p l e ({ frames := 0, cells := 0, slots := 0, locals := 0 } : Room) s m args below meth c s.heap [] 0 0 (MQ below (vp_Si (fun r : Int32 => r = priceM M o kc)) args s 0 0 (fun _ => False)) (F0 m 4 ls []) := by
    intro k
    induction k with
    | zero => intro i ls h1 h2; exact absurd h2 (by omega)
    | succ k ih =>
      intro i ls hi hk hl
      refine lv_iload_n hx hb dX3_priced_4 rfl (lv_at hl 0 rfl) ?_
      refine lv_aload_n hx hb dX3_priced_5 rfl (lv_at hl 2 rfl) ?_
      refine m_get (v := .ref (q 4)) hx hb hts hin hown hK hW 4 (by decide) (hts (.fieldLink RX3 16 "ReturnsDeskModel" "lines" "[I") (List.mem_of_getElem? (i := 1) rfl)) (fun _ h9 => h9) rfl dX3_priced_6 ?_
      refine lv_iload_n hx hb dX3_priced_9 rfl (lv_at hl 3 rfl) ?_
      refine m_ald (v := M 4 o) hx hb hK hW 4 o (by decide) rfl (show o < 30 by omega) rfl dX3_priced_10 ?_
      refine cv (y := nI kc) hM4 ?_
      refine lv_icmp_ge (tgt := 53) hx hb dX3_priced_11 (by decide) (fun c11 => ?_) (fun c11 => ?_)
      · skip
        have hie : kc = i := by
          rcases Nat.lt_or_ge i kc with z | z
          · exact absurd c11 (nI_ge z (by omega))
          · omega
        subst hie
        refine lv_iload_n hx hb dX3_priced_53 rfl (lv_at hl 1 rfl) ?_
        refine lv_aload_n hx hb dX3_priced_54 rfl (lv_at hl 2 rfl) ?_
        refine m_get (v := .ref (q 3)) hx hb hts hin hown hK hW 3 (by decide) (hts (.fieldLink RX3 13 "ReturnsDeskModel" "leasts" "[I") (List.mem_of_getElem? (i := 4) rfl)) (fun _ h9 => h9) rfl dX3_priced_55 ?_
        refine lv_iload_n hx hb dX3_priced_58 rfl (lv_at hl 3 rfl) ?_
        refine m_ald (v := M 3 o) hx hb hK hW 3 o (by decide) rfl (show o < 30 by omega) rfl dX3_priced_59 ?_
        refine lv_icmp_lt (tgt := 79) hx hb dX3_priced_60 (by decide) (fun c60 => ?_) (fun c60 => ?_)
        · skip
          refine lv_iload_n hx hb dX3_priced_79 rfl (lv_at hl 1 rfl) ?_
          exact r_ret hx hb hr hlocks (by unfold priceM; rw [if_pos c60]) dX3_priced_80
        · skip
          refine lv_iload_n hx hb dX3_priced_63 rfl (lv_at hl 1 rfl) ?_
          refine lv_iload_n hx hb dX3_priced_64 rfl (lv_at hl 1 rfl) ?_
          refine lv_aload_n hx hb dX3_priced_65 rfl (lv_at hl 2 rfl) ?_
          refine m_get (v := .ref (q 2)) hx hb hts hin hown hK hW 2 (by decide) (hts (.fieldLink RX3 7 "ReturnsDeskModel" "percents" "[I") (List.mem_of_getElem? (i := 5) rfl)) (fun _ h9 => h9) rfl dX3_priced_66 ?_
          refine lv_iload_n hx hb dX3_priced_69 rfl (lv_at hl 3 rfl) ?_
          refine m_ald (v := M 2 o) hx hb hK hW 2 o (by decide) rfl (show o < 30 by omega) rfl dX3_priced_70 ?_
          refine lv_imul hx hb dX3_priced_71 ?_
          refine lv_bipush (v := 100) hx hb dX3_priced_72 (by decide) ?_
          refine lv_idiv hx hb dX3_priced_74 (by decide) ?_
          refine lv_isub hx hb dX3_priced_75 ?_
          refine lv_goto (tgt := 80) hx hb dX3_priced_76 (by decide) ?_
          exact r_ret hx hb hr hlocks (by unfold priceM; rw [if_neg c60]) dX3_priced_80
      · skip
        have hi9 : i < kc := Nat.not_le.mp (fun z => c11 (nI_le z (by omega)))
        refine lv_iload_n hx hb dX3_priced_14 rfl (lv_at hl 1 rfl) ?_
        refine lv_aload_n hx hb dX3_priced_15 rfl (lv_at hl 2 rfl) ?_
        refine m_get (v := .ref (q 12)) hx hb hts hin hown hK hW 12 (by decide) (hts (.fieldLink RX3 40 "ReturnsDeskModel" "states" "[I") (List.mem_of_getElem? (i := 2) rfl)) (fun _ h9 => h9) rfl dX3_priced_16 ?_
        refine lv_bipush (v := 8) hx hb dX3_priced_19 (by decide) ?_
        refine lv_iload_n hx hb dX3_priced_21 rfl (lv_at hl 3 rfl) ?_
        refine lv_imul hx hb dX3_priced_22 ?_
        refine cv (y := nI (8 * o)) (nI_mulx (a := 8) (b := o) rfl rfl) ?_
        refine lv_iload_n hx hb dX3_priced_23 rfl (lv_at hl 0 rfl) ?_
        refine lv_iadd hx hb dX3_priced_24 ?_
        refine cv (y := nI (8 * o + i)) (nI_addx (a := 8 * o) (b := i) rfl rfl) ?_
        refine m_ald (v := M 12 (8 * o + i)) hx hb hK hW 12 (8 * o + i) (by decide) rfl (show 8 * o + i < 240 by omega) rfl dX3_priced_25 ?_
        refine lv_iconst (v := 3) hx hb dX3_priced_26 (by decide) ?_
        refine mg1 (c0 := M 12 (8 * o + i) = 3) (a := 0) (b := M 10 (8 * o + i)) (J := 45) (rest := [.int (sumM M o i)]) (fun kj => ?_) ?_
        · skip
          refine lv_icmp_ne (tgt := 34) hx hb dX3_priced_27 (by decide) (fun c27 => ?_) (fun c27 => ?_)
          · skip
            refine lv_aload_n hx hb dX3_priced_34 rfl (lv_at hl 2 rfl) ?_
            refine m_get (v := .ref (q 10)) hx hb hts hin hown hK hW 10 (by decide) (hts (.fieldLink RX3 34 "ReturnsDeskModel" "prices" "[I") (List.mem_of_getElem? (i := 3) rfl)) (fun _ h9 => h9) rfl dX3_priced_35 ?_
            refine lv_bipush (v := 8) hx hb dX3_priced_38 (by decide) ?_
            refine lv_iload_n hx hb dX3_priced_40 rfl (lv_at hl 3 rfl) ?_
            refine lv_imul hx hb dX3_priced_41 ?_
            refine cv (y := nI (8 * o)) (nI_mulx (a := 8) (b := o) rfl rfl) ?_
            refine lv_iload_n hx hb dX3_priced_42 rfl (lv_at hl 0 rfl) ?_
            refine lv_iadd hx hb dX3_priced_43 ?_
            refine cv (y := nI (8 * o + i)) (nI_addx (a := 8 * o) (b := i) rfl rfl) ?_
            refine m_ald (v := M 10 (8 * o + i)) hx hb hK hW 10 (8 * o + i) (by decide) rfl (show 8 * o + i < 240 by omega) rfl dX3_priced_44 ?_
            rw [if_neg c27] at kj; exact kj
          · skip
            refine lv_iconst (v := 0) hx hb dX3_priced_30 (by decide) ?_
            refine lv_goto (tgt := 45) hx hb dX3_priced_31 (by decide) ?_
            rw [if_pos c27] at kj; exact kj
        · skip
          refine lv_iadd hx hb dX3_priced_45 ?_
          refine cv (y := sumM M o (i + 1)) rfl ?_
          refine lv_istore_n (lv' := [(2, .int (sumM M o (i + 1))), (3, .int (nI i)), (0, .ref ao), (1, .int (nI o))]) hx hb dX3_priced_46 rfl hl (by decide) rfl (fun ls hl => ?_)
          refine lv_iinc (v := nI (i + 1)) (lv' := [(3, .int (nI (i + 1))), (2, .int (sumM M o (i + 1))), (0, .ref ao), (1, .int (nI o))]) hx hb dX3_priced_47 hl (k := 1) rfl (nI_addx (a := i) (b := 1) rfl rfl) (by decide) rfl (fun ls hl => ?_)
          refine lv_goto (tgt := 4) hx hb dX3_priced_50 (by decide) ?_
          exact ih (i + 1) ls (by omega) (by omega) (lv_sub hl [0, 1, 2, 3] rfl)
  exact loop (kc + 1) 0 ls (Nat.zero_le _) (by omega) (lv_sub hl [0, 1, 2, 3] rfl)
set_option maxHeartbeats 4000000 in
set_option maxRecDepth 100000 in
theorem kX3_pay_bad (l : Launch) {D : va_G} {cI cO cL cJ : ClassId} {ao : Nat} {q : Nat → Nat} (hI : mI ao q) (M : MS) (p0 p1 p2 : Int32) (n : Nat) (hbad : ¬ vp_in p0 n) (hn : n ≤ 30) (hM1 : M 1 0 = nI n) : Met l yX3_pay wsX3_pay ({ frames := 2, cells := 0, slots := 0, locals := 43 } : Room) (mP D cI cO cL cJ ao q M [.int p0, .int p1, .int p2]) (mQ D cI cO cL cJ ao q (fun (r : Int32) (M9 : MS) => r = 0 ∧ M9 = mu M 16 0 1)) 0 0 (mA ao q) := by
  refine m_body (cc := cX3_pay) (maxL := 5) (ret := some .int) (by decide) rfl [.int p0, .int p1, .int p2] (Nat.le_of_ble_eq_true rfl) ?_
  intro p e s m args below meth c hx hb hr hts hown hml hlocks hW hK ls hl
  have hown : s.vm.findClass RX3 = some m.cls := hown
  have hl : lv_has ls 5 [(0, .ref ao), (1, .int p0), (2, .int p1), (3, .int p2)] := hl
  have hin : ∀ w ∈ u_ws RX3 TX3 17, w ∈ wsX3_pay := (fun w h => List.mem_cons_of_mem _ (List.mem_append_right _ (h)))
  have hS : va_S (mA ao q) s.heap s.heap [] := va_S.rf
  refine lv_aload_n hx hb dX3_pay_0 rfl (lv_at hl 0 rfl) ?_
  refine lv_iload_n hx hb dX3_pay_1 rfl (lv_at hl 1 rfl) ?_
  refine m_call 1 hx hb hts hown hml (kX3_isOrder_bad l hI M p0 n hbad hn hM1) rfl gX3_pay_X3_isOrder rfl rfl rfl (by decide +kernel) ⟨Nat.le_of_ble_eq_true rfl, Nat.le_of_ble_eq_true rfl⟩ hl.1 hW hK hS (fun _ h => h) rfl (Nat.le_of_ble_eq_true rfl) dX3_pay_2 ⟨Nat.zero_le _, Nat.zero_le _⟩ (fun r M9 H locs hp hW _ _ hS => ?_)
  obtain ⟨rfl, rfl⟩ := hp
  refine lv_if_ne (tgt := 10) hx hb dX3_pay_5 (by decide) (fun h9 => absurd (by decide) h9) (fun _ => ?_)
  refine lv_iconst (v := 0) hx hb dX3_pay_8 (by decide) ?_
  exact m_ret hx hb hr hlocks hK hW hS ⟨rfl, rfl⟩ dX3_pay_9
set_option maxHeartbeats 4000000 in
set_option maxRecDepth 100000 in
theorem kX3_pay_ok (l : Launch) {D : va_G} {cI cO cL cJ : ClassId} {ao : Nat} {q : Nat → Nat} (hI : mI ao q) (M : MS) (o n kc : Nat) (p1 p2 : Int32) (ho : o < n) (hn : n ≤ 30) (hM1 : M 1 0 = nI n) (hkc : kc ≤ 8) (hM4 : M 4 o = nI kc) : Met l yX3_pay wsX3_pay ({ frames := 2, cells := 0, slots := 0, locals := 43 } : Room) (mP D cI cO cL cJ ao q M [.int (nI o), .int p1, .int p2]) (mQ D cI cO cL cJ ao q (fun (r : Int32) (M9 : MS) => (r, M9) = mPay M o kc p1 p2)) 0 0 (mA ao q) := by
  refine m_body (cc := cX3_pay) (maxL := 5) (ret := some .int) (by decide) rfl [.int (nI o), .int p1, .int p2] (Nat.le_of_ble_eq_true rfl) ?_
  intro p e s m args below meth c hx hb hr hts hown hml hlocks hW hK ls hl
  have hown : s.vm.findClass RX3 = some m.cls := hown
  have hl : lv_has ls 5 [(0, .ref ao), (1, .int (nI o)), (2, .int p1), (3, .int p2)] := hl
  have hin : ∀ w ∈ u_ws RX3 TX3 17, w ∈ wsX3_pay := (fun w h => List.mem_cons_of_mem _ (List.mem_append_right _ (h)))
  have hS : va_S (mA ao q) s.heap s.heap [] := va_S.rf
  refine lv_aload_n hx hb dX3_pay_0 rfl (lv_at hl 0 rfl) ?_
  refine lv_iload_n hx hb dX3_pay_1 rfl (lv_at hl 1 rfl) ?_
  refine m_call 1 hx hb hts hown hml (kX3_isOrder_ok l hI M o n ho hn hM1) rfl gX3_pay_X3_isOrder rfl rfl rfl (by decide +kernel) ⟨Nat.le_of_ble_eq_true rfl, Nat.le_of_ble_eq_true rfl⟩ hl.1 hW hK hS (fun _ h => h) rfl (Nat.le_of_ble_eq_true rfl) dX3_pay_2 ⟨Nat.zero_le _, Nat.zero_le _⟩ (fun r M9 H locs hp hW _ _ hS => ?_)
  obtain ⟨rfl, rfl⟩ := hp
  refine lv_if_ne (tgt := 10) hx hb dX3_pay_5 (by decide) (fun _ => ?_) (fun h9 => absurd h9 (by decide))
  refine lv_iload_n hx hb dX3_pay_10 rfl (lv_at hl 2 rfl) ?_
  refine lv_iconst (v := 0) hx hb dX3_pay_11 (by decide) ?_
  refine lv_ldc (v := 1000000) hx hb hown (hts (.constant RX3 63 (1000000)) (List.mem_of_getElem? (i := 1) rfl)) dX3_pay_12 ?_
  by_cases h1 : inR p1 0 1000000
  · skip
    refine s_call0 3 hx hb hts hown hml (kX3_in_t l p1 0 1000000 h1) rfl gX3_pay_X3_in rfl rfl rfl (by decide +kernel) ⟨Nat.le_of_ble_eq_true rfl, Nat.le_of_ble_eq_true rfl⟩ hl.1 rfl (Nat.le_of_ble_eq_true rfl) dX3_pay_14 ⟨Nat.zero_le _, Nat.zero_le _⟩ (fun r hp => ?_)
    subst hp
    refine lv_if_eq (tgt := 30) hx hb dX3_pay_17 (by decide) (fun h9 => absurd h9 (by decide)) (fun _ => ?_)
    refine lv_iload_n hx hb dX3_pay_20 rfl (lv_at hl 3 rfl) ?_
    refine lv_iconst (v := 0) hx hb dX3_pay_21 (by decide) ?_
    refine lv_ldc (v := 1000000) hx hb hown (hts (.constant RX3 63 (1000000)) (List.mem_of_getElem? (i := 1) rfl)) dX3_pay_22 ?_
    by_cases h2 : inR p2 0 1000000
    · skip
      refine s_call0 3 hx hb hts hown hml (kX3_in_t l p2 0 1000000 h2) rfl gX3_pay_X3_in rfl rfl rfl (by decide +kernel) ⟨Nat.le_of_ble_eq_true rfl, Nat.le_of_ble_eq_true rfl⟩ hl.1 rfl (Nat.le_of_ble_eq_true rfl) dX3_pay_24 ⟨Nat.zero_le _, Nat.zero_le _⟩ (fun r hp => ?_)
      subst hp
      refine lv_if_ne (tgt := 36) hx hb dX3_pay_27 (by decide) (fun _ => ?_) (fun h9 => absurd h9 (by decide))
      refine lv_aload_n hx hb dX3_pay_36 rfl (lv_at hl 0 rfl) ?_
      refine m_get (v := .ref (q 5)) hx hb hts hin hown hK hW 5 (by decide) (hts (.fieldLink RX3 19 "ReturnsDeskModel" "days" "[I") (List.mem_of_getElem? (i := 2) rfl)) (fun _ h9 => h9) rfl dX3_pay_37 ?_
      refine lv_iload_n hx hb dX3_pay_40 rfl (lv_at hl 1 rfl) ?_
      refine m_ald (v := M 5 o) hx hb hK hW 5 o (by decide) rfl (show o < 30 by omega) (mu_f _ _ _ _ (by decide)) dX3_pay_41 ?_
      refine lv_if_gt (tgt := 54) hx hb dX3_pay_42 (by decide) (fun c42 => ?_) (fun c42 => ?_)
      · skip
        refine lv_aload_n hx hb dX3_pay_54 rfl (lv_at hl 0 rfl) ?_
        refine lv_iconst (v := 3) hx hb dX3_pay_55 (by decide) ?_
        refine m_call 1 hx hb hts hown hml (kX3_fails l hI (mu M 16 0 0) 3) rfl gX3_pay_X3_fails rfl rfl rfl (by decide +kernel) ⟨Nat.le_of_ble_eq_true rfl, Nat.le_of_ble_eq_true rfl⟩ hl.1 hW hK hS (fun _ h => h) rfl (Nat.le_of_ble_eq_true rfl) dX3_pay_56 ⟨Nat.zero_le _, Nat.zero_le _⟩ (fun r M9 H locs hp hW _ _ hS => ?_)
        obtain ⟨rfl, rfl⟩ := hp
        exact m_ret hx hb hr hlocks hK hW hS (by unfold mPay; rw [if_pos h1, if_pos h2, if_pos c42] <;> rfl) dX3_pay_59
      · skip
        refine lv_aload_n hx hb dX3_pay_45 rfl (lv_at hl 0 rfl) ?_
        refine m_get (v := .ref (q 4)) hx hb hts hin hown hK hW 4 (by decide) (hts (.fieldLink RX3 16 "ReturnsDeskModel" "lines" "[I") (List.mem_of_getElem? (i := 3) rfl)) (fun _ h9 => h9) rfl dX3_pay_46 ?_
        refine lv_iload_n hx hb dX3_pay_49 rfl (lv_at hl 1 rfl) ?_
        refine m_ald (v := M 4 o) hx hb hK hW 4 o (by decide) rfl (show o < 30 by omega) (mu_f _ _ _ _ (by decide)) dX3_pay_50 ?_
        refine cv (y := nI kc) hM4 ?_
        refine lv_if_ne (tgt := 60) hx hb dX3_pay_51 (by decide) (fun c51 => ?_) (fun c51 => ?_)
        · skip
          refine lv_aload_n hx hb dX3_pay_60 rfl (lv_at hl 0 rfl) ?_
          refine lv_iload_n hx hb dX3_pay_61 rfl (lv_at hl 1 rfl) ?_
          refine m_call0 1 hx hb hts hown hml (kX3_priced l (mu M 16 0 0) o n kc ho hn hkc (((mu_f _ _ _ _ (by decide))).trans hM4)) rfl gX3_pay_X3_priced rfl rfl rfl (by decide +kernel) ⟨Nat.le_of_ble_eq_true rfl, Nat.le_of_ble_eq_true rfl⟩ hl.1 hW hK rfl (Nat.le_of_ble_eq_true rfl) dX3_pay_62 ⟨Nat.zero_le _, Nat.zero_le _⟩ (fun r hp => ?_)
          subst hp
          refine lv_istore (lv' := [(4, .int (priceM (mu M 16 0 0) o kc)), (0, .ref ao), (1, .int (nI o)), (2, .int p1), (3, .int p2)]) hx hb dX3_pay_65 hl (by decide) rfl (fun ls hl => ?_)
          refine lv_aload_n hx hb dX3_pay_67 rfl (lv_at hl 1 rfl) ?_
          refine m_get (v := .ref (q 9)) hx hb hts hin hown hK hW 9 (by decide) (hts (.fieldLink RX3 31 "ReturnsDeskModel" "taken" "[I") (List.mem_of_getElem? (i := 4) rfl)) (fun _ h9 => h9) rfl dX3_pay_68 ?_
          refine lv_iconst (v := 3) hx hb dX3_pay_71 (by decide) ?_
          refine lv_iload_n hx hb dX3_pay_72 rfl (lv_at hl 2 rfl) ?_
          refine lv_imul hx hb dX3_pay_73 ?_
          refine cv (y := nI (3 * o)) (nI_mulx (a := 3) (b := o) rfl rfl) ?_
          refine lv_iconst (v := 2) hx hb dX3_pay_74 (by decide) ?_
          refine lv_iadd hx hb dX3_pay_75 ?_
          refine cv (y := nI (3 * o + 2)) (nI_addx (a := 3 * o) (b := 2) rfl rfl) ?_
          refine lv_iload_n hx hb dX3_pay_76 rfl (lv_at hl 3 rfl) ?_
          refine lv_iload hx hb dX3_pay_77 (lv_at hl 0 rfl) ?_
          refine s_call0 2 hx hb hts hown hml (kX3_least l p1 (priceM (mu M 16 0 0) o kc)) rfl gX3_pay_X3_least rfl rfl rfl (by decide +kernel) ⟨Nat.le_of_ble_eq_true rfl, Nat.le_of_ble_eq_true rfl⟩ hl.1 rfl (Nat.le_of_ble_eq_true rfl) dX3_pay_79 ⟨Nat.zero_le _, Nat.zero_le _⟩ (fun r hp => ?_)
          subst hp
          refine m_ast hx hb hK hI hW hS 9 (3 * o + 2) (by decide) rfl (show 3 * o + 2 < 90 by omega) dX3_pay_82 (fun H locs hW hS => ?_)
          refine lv_iload hx hb dX3_pay_83 (lv_at hl 0 rfl) ?_
          refine lv_aload_n hx hb dX3_pay_85 rfl (lv_at hl 1 rfl) ?_
          refine m_get (v := .ref (q 9)) hx hb hts hin hown hK hW 9 (by decide) (hts (.fieldLink RX3 31 "ReturnsDeskModel" "taken" "[I") (List.mem_of_getElem? (i := 4) rfl)) (fun _ h9 => h9) rfl dX3_pay_86 ?_
          refine lv_iconst (v := 3) hx hb dX3_pay_89 (by decide) ?_
          refine lv_iload_n hx hb dX3_pay_90 rfl (lv_at hl 2 rfl) ?_
          refine lv_imul hx hb dX3_pay_91 ?_
          refine cv (y := nI (3 * o)) (nI_mulx (a := 3) (b := o) rfl rfl) ?_
          refine lv_iconst (v := 2) hx hb dX3_pay_92 (by decide) ?_
          refine lv_iadd hx hb dX3_pay_93 ?_
          refine cv (y := nI (3 * o + 2)) (nI_addx (a := 3 * o) (b := 2) rfl rfl) ?_
          refine m_ald (v := leastI p1 (priceM (mu M 16 0 0) o kc)) hx hb hK hW 9 (3 * o + 2) (by decide) rfl (show 3 * o + 2 < 90 by omega) (mu_s _ _ _ _) dX3_pay_94 ?_
          refine lv_isub hx hb dX3_pay_95 ?_
          refine lv_istore (lv' := [(4, .int ((priceM (mu M 16 0 0) o kc) - (leastI p1 (priceM (mu M 16 0 0) o kc)))), (0, .ref ao), (1, .int (nI o)), (2, .int p1), (3, .int p2)]) hx hb dX3_pay_96 hl (by decide) rfl (fun ls hl => ?_)
          refine lv_aload_n hx hb dX3_pay_98 rfl (lv_at hl 1 rfl) ?_
          refine m_get (v := .ref (q 9)) hx hb hts hin hown hK hW 9 (by decide) (hts (.fieldLink RX3 31 "ReturnsDeskModel" "taken" "[I") (List.mem_of_getElem? (i := 4) rfl)) (fun _ h9 => h9) rfl dX3_pay_99 ?_
          refine lv_iconst (v := 3) hx hb dX3_pay_102 (by decide) ?_
          refine lv_iload_n hx hb dX3_pay_103 rfl (lv_at hl 2 rfl) ?_
          refine lv_imul hx hb dX3_pay_104 ?_
          refine cv (y := nI (3 * o)) (nI_mulx (a := 3) (b := o) rfl rfl) ?_
          refine lv_iconst (v := 1) hx hb dX3_pay_105 (by decide) ?_
          refine lv_iadd hx hb dX3_pay_106 ?_
          refine cv (y := nI (3 * o + 1)) (nI_addx (a := 3 * o) (b := 1) rfl rfl) ?_
          refine lv_iload_n hx hb dX3_pay_107 rfl (lv_at hl 4 rfl) ?_
          refine lv_iload hx hb dX3_pay_108 (lv_at hl 0 rfl) ?_
          refine s_call0 2 hx hb hts hown hml (kX3_least l p2 ((priceM (mu M 16 0 0) o kc) - (leastI p1 (priceM (mu M 16 0 0) o kc)))) rfl gX3_pay_X3_least rfl rfl rfl (by decide +kernel) ⟨Nat.le_of_ble_eq_true rfl, Nat.le_of_ble_eq_true rfl⟩ hl.1 rfl (Nat.le_of_ble_eq_true rfl) dX3_pay_110 ⟨Nat.zero_le _, Nat.zero_le _⟩ (fun r hp => ?_)
          subst hp
          refine m_ast hx hb hK hI hW hS 9 (3 * o + 1) (by decide) rfl (show 3 * o + 1 < 90 by omega) dX3_pay_113 (fun H locs hW hS => ?_)
          refine lv_aload_n hx hb dX3_pay_114 rfl (lv_at hl 1 rfl) ?_
          refine m_get (v := .ref (q 9)) hx hb hts hin hown hK hW 9 (by decide) (hts (.fieldLink RX3 31 "ReturnsDeskModel" "taken" "[I") (List.mem_of_getElem? (i := 4) rfl)) (fun _ h9 => h9) rfl dX3_pay_115 ?_
          refine lv_iconst (v := 3) hx hb dX3_pay_118 (by decide) ?_
          refine lv_iload_n hx hb dX3_pay_119 rfl (lv_at hl 2 rfl) ?_
          refine lv_imul hx hb dX3_pay_120 ?_
          refine cv (y := nI (3 * o)) (nI_mulx (a := 3) (b := o) rfl rfl) ?_
          refine lv_iload hx hb dX3_pay_121 (lv_at hl 0 rfl) ?_
          refine lv_aload_n hx hb dX3_pay_123 rfl (lv_at hl 1 rfl) ?_
          refine m_get (v := .ref (q 9)) hx hb hts hin hown hK hW 9 (by decide) (hts (.fieldLink RX3 31 "ReturnsDeskModel" "taken" "[I") (List.mem_of_getElem? (i := 4) rfl)) (fun _ h9 => h9) rfl dX3_pay_124 ?_
          refine lv_iconst (v := 3) hx hb dX3_pay_127 (by decide) ?_
          refine lv_iload_n hx hb dX3_pay_128 rfl (lv_at hl 2 rfl) ?_
          refine lv_imul hx hb dX3_pay_129 ?_
          refine cv (y := nI (3 * o)) (nI_mulx (a := 3) (b := o) rfl rfl) ?_
          refine lv_iconst (v := 1) hx hb dX3_pay_130 (by decide) ?_
          refine lv_iadd hx hb dX3_pay_131 ?_
          refine cv (y := nI (3 * o + 1)) (nI_addx (a := 3 * o) (b := 1) rfl rfl) ?_
          refine m_ald (v := leastI p2 ((priceM (mu M 16 0 0) o kc) - (leastI p1 (priceM (mu M 16 0 0) o kc)))) hx hb hK hW 9 (3 * o + 1) (by decide) rfl (show 3 * o + 1 < 90 by omega) (mu_s _ _ _ _) dX3_pay_132 ?_
          refine lv_isub hx hb dX3_pay_133 ?_
          refine m_ast hx hb hK hI hW hS 9 (3 * o) (by decide) rfl (show 3 * o < 90 by omega) dX3_pay_134 (fun H locs hW hS => ?_)
          refine lv_aload_n hx hb dX3_pay_135 rfl (lv_at hl 1 rfl) ?_
          refine m_get (v := .ref (q 5)) hx hb hts hin hown hK hW 5 (by decide) (hts (.fieldLink RX3 19 "ReturnsDeskModel" "days" "[I") (List.mem_of_getElem? (i := 2) rfl)) (fun _ h9 => h9) rfl dX3_pay_136 ?_
          refine lv_iload_n hx hb dX3_pay_139 rfl (lv_at hl 2 rfl) ?_
          refine lv_aload_n hx hb dX3_pay_140 rfl (lv_at hl 1 rfl) ?_
          refine m_get (v := .int (M 0 0)) hx hb hts hin hown hK hW 0 (by decide) (hts (.fieldLink RX3 80 "ReturnsDeskModel" "day" "I") (List.mem_of_getElem? (i := 5) rfl)) (fun _ h9 => h9) (congrArg (fun z => some (Value.int z)) ((mu_f _ _ _ _ (by decide)).trans ((mu_f _ _ _ _ (by decide)).trans ((mu_f _ _ _ _ (by decide)).trans (mu_f _ _ _ _ (by decide)))))) dX3_pay_141 ?_
          refine lv_iconst (v := 1) hx hb dX3_pay_144 (by decide) ?_
          refine lv_iadd hx hb dX3_pay_145 ?_
          refine m_ast hx hb hK hI hW hS 5 o (by decide) rfl (show o < 30 by omega) dX3_pay_146 (fun H locs hW hS => ?_)
          refine lv_aload_n hx hb dX3_pay_147 rfl (lv_at hl 1 rfl) ?_
          refine m_get (v := .ref (q 9)) hx hb hts hin hown hK hW 9 (by decide) (hts (.fieldLink RX3 31 "ReturnsDeskModel" "taken" "[I") (List.mem_of_getElem? (i := 4) rfl)) (fun _ h9 => h9) rfl dX3_pay_148 ?_
          refine lv_iconst (v := 3) hx hb dX3_pay_151 (by decide) ?_
          refine lv_iload_n hx hb dX3_pay_152 rfl (lv_at hl 2 rfl) ?_
          refine lv_imul hx hb dX3_pay_153 ?_
          refine cv (y := nI (3 * o)) (nI_mulx (a := 3) (b := o) rfl rfl) ?_
          refine m_ald (v := ((priceM (mu M 16 0 0) o kc) - (leastI p1 (priceM (mu M 16 0 0) o kc))) - (leastI p2 ((priceM (mu M 16 0 0) o kc) - (leastI p1 (priceM (mu M 16 0 0) o kc))))) hx hb hK hW 9 (3 * o) (by decide) rfl (show 3 * o < 90 by omega) ((mu_f _ _ _ _ (by decide)).trans (mu_s _ _ _ _)) dX3_pay_154 ?_
          exact m_ret hx hb hr hlocks hK hW hS (by unfold mPay; rw [if_pos h1, if_pos h2, if_neg c42, if_neg c51] <;> rfl) dX3_pay_155
        · skip
          refine lv_aload_n hx hb dX3_pay_54 rfl (lv_at hl 0 rfl) ?_
          refine lv_iconst (v := 3) hx hb dX3_pay_55 (by decide) ?_
          refine m_call 1 hx hb hts hown hml (kX3_fails l hI (mu M 16 0 0) 3) rfl gX3_pay_X3_fails rfl rfl rfl (by decide +kernel) ⟨Nat.le_of_ble_eq_true rfl, Nat.le_of_ble_eq_true rfl⟩ hl.1 hW hK hS (fun _ h => h) rfl (Nat.le_of_ble_eq_true rfl) dX3_pay_56 ⟨Nat.zero_le _, Nat.zero_le _⟩ (fun r M9 H locs hp hW _ _ hS => ?_)
          obtain ⟨rfl, rfl⟩ := hp
          exact m_ret hx hb hr hlocks hK hW hS (by unfold mPay; rw [if_pos h1, if_pos h2, if_neg c42, if_pos c51] <;> rfl) dX3_pay_59
    · skip
      refine s_call0 3 hx hb hts hown hml (kX3_in_f l p2 0 1000000 h2) rfl gX3_pay_X3_in rfl rfl rfl (by decide +kernel) ⟨Nat.le_of_ble_eq_true rfl, Nat.le_of_ble_eq_true rfl⟩ hl.1 rfl (Nat.le_of_ble_eq_true rfl) dX3_pay_24 ⟨Nat.zero_le _, Nat.zero_le _⟩ (fun r hp => ?_)
      subst hp
      refine lv_if_ne (tgt := 36) hx hb dX3_pay_27 (by decide) (fun h9 => absurd (by decide) h9) (fun _ => ?_)
      refine lv_aload_n hx hb dX3_pay_30 rfl (lv_at hl 0 rfl) ?_
      refine lv_iconst (v := 2) hx hb dX3_pay_31 (by decide) ?_
      refine m_call 1 hx hb hts hown hml (kX3_fails l hI (mu M 16 0 0) 2) rfl gX3_pay_X3_fails rfl rfl rfl (by decide +kernel) ⟨Nat.le_of_ble_eq_true rfl, Nat.le_of_ble_eq_true rfl⟩ hl.1 hW hK hS (fun _ h => h) rfl (Nat.le_of_ble_eq_true rfl) dX3_pay_32 ⟨Nat.zero_le _, Nat.zero_le _⟩ (fun r M9 H locs hp hW _ _ hS => ?_)
      obtain ⟨rfl, rfl⟩ := hp
      exact m_ret hx hb hr hlocks hK hW hS (by unfold mPay; rw [if_pos h1, if_neg h2] <;> rfl) dX3_pay_35
  · skip
    refine s_call0 3 hx hb hts hown hml (kX3_in_f l p1 0 1000000 h1) rfl gX3_pay_X3_in rfl rfl rfl (by decide +kernel) ⟨Nat.le_of_ble_eq_true rfl, Nat.le_of_ble_eq_true rfl⟩ hl.1 rfl (Nat.le_of_ble_eq_true rfl) dX3_pay_14 ⟨Nat.zero_le _, Nat.zero_le _⟩ (fun r hp => ?_)
    subst hp
    refine lv_if_eq (tgt := 30) hx hb dX3_pay_17 (by decide) (fun _ => ?_) (fun h9 => absurd (by decide) h9)
    refine lv_aload_n hx hb dX3_pay_30 rfl (lv_at hl 0 rfl) ?_
    refine lv_iconst (v := 2) hx hb dX3_pay_31 (by decide) ?_
    refine m_call 1 hx hb hts hown hml (kX3_fails l hI (mu M 16 0 0) 2) rfl gX3_pay_X3_fails rfl rfl rfl (by decide +kernel) ⟨Nat.le_of_ble_eq_true rfl, Nat.le_of_ble_eq_true rfl⟩ hl.1 hW hK hS (fun _ h => h) rfl (Nat.le_of_ble_eq_true rfl) dX3_pay_32 ⟨Nat.zero_le _, Nat.zero_le _⟩ (fun r M9 H locs hp hW _ _ hS => ?_)
    obtain ⟨rfl, rfl⟩ := hp
    exact m_ret hx hb hr hlocks hK hW hS (by unfold mPay; rw [if_neg h1] <;> rfl) dX3_pay_35
set_option maxHeartbeats 4000000 in
set_option maxRecDepth 100000 in
theorem kX3_orders (l : Launch) {D : va_G} {cI cO cL cJ : ClassId} {ao : Nat} {q : Nat → Nat} (hI : mI ao q) (M : MS)  : Met l yX3_orders wsX3_orders ({ frames := 0, cells := 0, slots := 0, locals := 0 } : Room) (mP D cI cO cL cJ ao q M []) (mQ D cI cO cL cJ ao q (fun (r : Int32) (M9 : MS) => r = M 1 0 ∧ M9 = mu M 16 0 0)) 0 0 (mA ao q) := by
  refine m_body (cc := cX3_orders) (maxL := 1) (ret := some .int) (by decide) rfl [] (Nat.le_of_ble_eq_true rfl) ?_
  intro p e s m args below meth c hx hb hr hts hown hml hlocks hW hK ls hl
  have hown : s.vm.findClass RX3 = some m.cls := hown
  have hl : lv_has ls 1 [(0, .ref ao)] := hl
  have hin : ∀ w ∈ u_ws RX3 TX3 17, w ∈ wsX3_orders := (fun w h => List.mem_cons_of_mem _ (List.mem_append_right _ (h)))
  have hS : va_S (mA ao q) s.heap s.heap [] := va_S.rf
  refine lv_aload_n hx hb dX3_orders_0 rfl (lv_at hl 0 rfl) ?_
  refine lv_iconst (v := 0) hx hb dX3_orders_1 (by decide) ?_
  refine m_put hx hb hts hin hown hK hI hW hS 16 (by decide) (hts (.fieldLink RX3 52 "ReturnsDeskModel" "thrown" "I") (List.mem_of_getElem? (i := 1) rfl)) (fun _ h9 => h9) dX3_orders_2 (fun H locs hW hS => ?_)
  refine lv_aload_n hx hb dX3_orders_5 rfl (lv_at hl 0 rfl) ?_
  refine m_get (v := .int (M 1 0)) hx hb hts hin hown hK hW 1 (by decide) (hts (.fieldLink RX3 56 "ReturnsDeskModel" "orders" "I") (List.mem_of_getElem? (i := 2) rfl)) (fun _ h9 => h9) (congrArg (fun z => some (Value.int z)) (mu_f _ _ _ _ (by decide))) dX3_orders_6 ?_
  exact m_ret hx hb hr hlocks hK hW hS ⟨rfl, rfl⟩ dX3_orders_9
set_option maxHeartbeats 4000000 in
set_option maxRecDepth 100000 in
theorem kX3_day (l : Launch) {D : va_G} {cI cO cL cJ : ClassId} {ao : Nat} {q : Nat → Nat} (hI : mI ao q) (M : MS)  : Met l yX3_day wsX3_day ({ frames := 0, cells := 0, slots := 0, locals := 0 } : Room) (mP D cI cO cL cJ ao q M []) (mQ D cI cO cL cJ ao q (fun (r : Int32) (M9 : MS) => r = M 0 0 ∧ M9 = mu M 16 0 0)) 0 0 (mA ao q) := by
  refine m_body (cc := cX3_day) (maxL := 1) (ret := some .int) (by decide) rfl [] (Nat.le_of_ble_eq_true rfl) ?_
  intro p e s m args below meth c hx hb hr hts hown hml hlocks hW hK ls hl
  have hown : s.vm.findClass RX3 = some m.cls := hown
  have hl : lv_has ls 1 [(0, .ref ao)] := hl
  have hin : ∀ w ∈ u_ws RX3 TX3 17, w ∈ wsX3_day := (fun w h => List.mem_cons_of_mem _ (List.mem_append_right _ (h)))
  have hS : va_S (mA ao q) s.heap s.heap [] := va_S.rf
  refine lv_aload_n hx hb dX3_day_0 rfl (lv_at hl 0 rfl) ?_
  refine lv_iconst (v := 0) hx hb dX3_day_1 (by decide) ?_
  refine m_put hx hb hts hin hown hK hI hW hS 16 (by decide) (hts (.fieldLink RX3 52 "ReturnsDeskModel" "thrown" "I") (List.mem_of_getElem? (i := 1) rfl)) (fun _ h9 => h9) dX3_day_2 (fun H locs hW hS => ?_)
  refine lv_aload_n hx hb dX3_day_5 rfl (lv_at hl 0 rfl) ?_
  refine m_get (v := .int (M 0 0)) hx hb hts hin hown hK hW 0 (by decide) (hts (.fieldLink RX3 80 "ReturnsDeskModel" "day" "I") (List.mem_of_getElem? (i := 2) rfl)) (fun _ h9 => h9) (congrArg (fun z => some (Value.int z)) (mu_f _ _ _ _ (by decide))) dX3_day_6 ?_
  exact m_ret hx hb hr hlocks hK hW hS ⟨rfl, rfl⟩ dX3_day_9
set_option maxHeartbeats 4000000 in
set_option maxRecDepth 100000 in
theorem kX3_may (l : Launch) {D : va_G} {cI cO cL cJ : ClassId} {ao : Nat} {q : Nat → Nat} (M : MS) (o n j : Nat) (p2 : Int32) (ho : o < n) (hn : n ≤ 30) (hj : j < 8) : Met l yX3_may wsX3_may ({ frames := 0, cells := 0, slots := 0, locals := 0 } : Room) (mP D cI cO cL cJ ao q M [.int (nI o), .int (nI j), .int p2]) (vp_Si (fun r : Int32 => r = mayM M o (8 * o + j) p2)) 0 0 (fun _ => False) := by
  refine m_body (cc := cX3_may) (maxL := 7) (ret := some .boolean) (by decide) rfl [.int (nI o), .int (nI j), .int p2] (Nat.le_of_ble_eq_true rfl) ?_
  intro p e s m args below meth c hx hb hr hts hown hml hlocks hW hK ls hl
  have hown : s.vm.findClass RX3 = some m.cls := hown
  have hl : lv_has ls 7 [(0, .ref ao), (1, .int (nI o)), (2, .int (nI j)), (3, .int p2)] := hl
  have hin : ∀ w ∈ u_ws RX3 TX3 17, w ∈ wsX3_may := (fun w h => List.mem_cons_of_mem _ (List.mem_append_right _ (h)))
  refine lv_bipush (v := 8) hx hb dX3_may_0 (by decide) ?_
  refine lv_iload_n hx hb dX3_may_2 rfl (lv_at hl 1 rfl) ?_
  refine lv_imul hx hb dX3_may_3 ?_
  refine cv (y := nI (8 * o)) (nI_mulx (a := 8) (b := o) rfl rfl) ?_
  refine lv_iload_n hx hb dX3_may_4 rfl (lv_at hl 2 rfl) ?_
  refine lv_iadd hx hb dX3_may_5 ?_
  refine cv (y := nI (8 * o + j)) (nI_addx (a := 8 * o) (b := j) rfl rfl) ?_
  refine lv_istore (lv' := [(4, .int (nI (8 * o + j))), (0, .ref ao), (1, .int (nI o)), (2, .int (nI j)), (3, .int p2)]) hx hb dX3_may_6 hl (by decide) rfl (fun ls hl => ?_)
  refine lv_aload_n hx hb dX3_may_8 rfl (lv_at hl 1 rfl) ?_
  refine m_get (v := .int (M 0 0)) hx hb hts hin hown hK hW 0 (by decide) (hts (.fieldLink RX3 80 "ReturnsDeskModel" "day" "I") (List.mem_of_getElem? (i := 1) rfl)) (fun _ h9 => h9) rfl dX3_may_9 ?_
  refine lv_aload_n hx hb dX3_may_12 rfl (lv_at hl 1 rfl) ?_
  refine m_get (v := .ref (q 5)) hx hb hts hin hown hK hW 5 (by decide) (hts (.fieldLink RX3 19 "ReturnsDeskModel" "days" "[I") (List.mem_of_getElem? (i := 2) rfl)) (fun _ h9 => h9) rfl dX3_may_13 ?_
  refine lv_iload_n hx hb dX3_may_16 rfl (lv_at hl 2 rfl) ?_
  refine m_ald (v := M 5 o) hx hb hK hW 5 o (by decide) rfl (show o < 30 by omega) rfl dX3_may_17 ?_
  refine lv_isub hx hb dX3_may_18 ?_
  refine lv_iconst (v := 1) hx hb dX3_may_19 (by decide) ?_
  refine lv_iadd hx hb dX3_may_20 ?_
  refine lv_istore (lv' := [(5, .int (((M 0 0) - (M 5 o)) + 1)), (4, .int (nI (8 * o + j))), (0, .ref ao), (1, .int (nI o)), (2, .int (nI j)), (3, .int p2)]) hx hb dX3_may_21 hl (by decide) rfl (fun ls hl => ?_)
  refine lv_iload_n hx hb dX3_may_23 rfl (lv_at hl 5 rfl) ?_
  refine lv_iconst (v := 1) hx hb dX3_may_24 (by decide) ?_
  refine lv_icmp_ne (tgt := 34) hx hb dX3_may_25 (by decide) (fun c25 => ?_) (fun c25 => ?_)
  · skip
    refine lv_aload_n hx hb dX3_may_34 rfl (lv_at hl 2 rfl) ?_
    refine m_get (v := .ref (q 11)) hx hb hts hin hown hK hW 11 (by decide) (hts (.fieldLink RX3 37 "ReturnsDeskModel" "kinds" "[I") (List.mem_of_getElem? (i := 3) rfl)) (fun _ h9 => h9) rfl dX3_may_35 ?_
    refine lv_iload hx hb dX3_may_38 (lv_at hl 1 rfl) ?_
    refine m_ald (v := M 11 (8 * o + j)) hx hb hK hW 11 (8 * o + j) (by decide) rfl (show 8 * o + j < 240 by omega) rfl dX3_may_40 ?_
    refine lv_if_ne (tgt := 49) hx hb dX3_may_41 (by decide) (fun c41 => ?_) (fun c41 => ?_)
    · skip
      refine lv_aload_n hx hb dX3_may_49 rfl (lv_at hl 2 rfl) ?_
      refine m_get (v := .ref (q 11)) hx hb hts hin hown hK hW 11 (by decide) (hts (.fieldLink RX3 37 "ReturnsDeskModel" "kinds" "[I") (List.mem_of_getElem? (i := 3) rfl)) (fun _ h9 => h9) rfl dX3_may_50 ?_
      refine lv_iload hx hb dX3_may_53 (lv_at hl 1 rfl) ?_
      refine m_ald (v := M 11 (8 * o + j)) hx hb hK hW 11 (8 * o + j) (by decide) rfl (show 8 * o + j < 240 by omega) rfl dX3_may_55 ?_
      refine lv_iconst (v := 1) hx hb dX3_may_56 (by decide) ?_
      refine lv_icmp_ne (tgt := 65) hx hb dX3_may_57 (by decide) (fun c57 => ?_) (fun c57 => ?_)
      · skip
        refine lv_iconst (v := (-1)) hx hb dX3_may_65 (by decide) ?_
        refine lv_istore (lv' := [(6, .int (-1)), (5, .int (((M 0 0) - (M 5 o)) + 1)), (4, .int (nI (8 * o + j))), (0, .ref ao), (1, .int (nI o)), (2, .int (nI j)), (3, .int p2)]) hx hb dX3_may_66 hl (by decide) rfl (fun ls hl => ?_)
        refine lv_aload_n hx hb dX3_may_68 rfl (lv_at hl 3 rfl) ?_
        refine m_get (v := .ref (q 5)) hx hb hts hin hown hK hW 5 (by decide) (hts (.fieldLink RX3 19 "ReturnsDeskModel" "days" "[I") (List.mem_of_getElem? (i := 2) rfl)) (fun _ h9 => h9) rfl dX3_may_69 ?_
        refine lv_iload_n hx hb dX3_may_72 rfl (lv_at hl 4 rfl) ?_
        refine m_ald (v := M 5 o) hx hb hK hW 5 o (by decide) rfl (show o < 30 by omega) rfl dX3_may_73 ?_
        refine lv_if_le (tgt := 98) hx hb dX3_may_74 (by decide) (fun c74 => ?_) (fun c74 => ?_)
        · skip
          refine lv_iconst (v := 0) hx hb dX3_may_98 (by decide) ?_
          exact r_zret hx hb hr hlocks (by decide) (by unfold mayM mostM; rw [if_neg c25, if_neg c41, if_neg c57, if_pos c74] <;> rfl) dX3_may_99
        · skip
          refine lv_aload_n hx hb dX3_may_77 rfl (lv_at hl 3 rfl) ?_
          refine m_get (v := .ref (q 12)) hx hb hts hin hown hK hW 12 (by decide) (hts (.fieldLink RX3 40 "ReturnsDeskModel" "states" "[I") (List.mem_of_getElem? (i := 4) rfl)) (fun _ h9 => h9) rfl dX3_may_78 ?_
          refine lv_iload hx hb dX3_may_81 (lv_at hl 2 rfl) ?_
          refine m_ald (v := M 12 (8 * o + j)) hx hb hK hW 12 (8 * o + j) (by decide) rfl (show 8 * o + j < 240 by omega) rfl dX3_may_83 ?_
          refine lv_if_ne (tgt := 98) hx hb dX3_may_84 (by decide) (fun c84 => ?_) (fun c84 => ?_)
          · skip
            refine lv_iconst (v := 0) hx hb dX3_may_98 (by decide) ?_
            exact r_zret hx hb hr hlocks (by decide) (by unfold mayM mostM; rw [if_neg c25, if_neg c41, if_neg c57, if_neg c74, if_neg c84] <;> rfl) dX3_may_99
          · skip
            refine lv_iload hx hb dX3_may_87 (lv_at hl 1 rfl) ?_
            refine lv_iload hx hb dX3_may_89 (lv_at hl 0 rfl) ?_
            refine lv_icmp_gt (tgt := 98) hx hb dX3_may_91 (by decide) (fun c91 => ?_) (fun c91 => ?_)
            · skip
              refine lv_iconst (v := 0) hx hb dX3_may_98 (by decide) ?_
              exact r_zret hx hb hr hlocks (by decide) (by unfold mayM mostM; rw [if_neg c25, if_neg c41, if_neg c57, if_neg c74, if_pos c84, if_pos c91] <;> rfl) dX3_may_99
            · skip
              refine lv_iconst (v := 1) hx hb dX3_may_94 (by decide) ?_
              refine lv_goto (tgt := 99) hx hb dX3_may_95 (by decide) ?_
              exact r_zret hx hb hr hlocks (by decide) (by unfold mayM mostM; rw [if_neg c25, if_neg c41, if_neg c57, if_neg c74, if_pos c84, if_neg c91] <;> rfl) dX3_may_99
      · skip
        refine lv_bipush (v := 14) hx hb dX3_may_60 (by decide) ?_
        refine lv_goto (tgt := 66) hx hb dX3_may_62 (by decide) ?_
        refine lv_istore (lv' := [(6, .int 14), (5, .int (((M 0 0) - (M 5 o)) + 1)), (4, .int (nI (8 * o + j))), (0, .ref ao), (1, .int (nI o)), (2, .int (nI j)), (3, .int p2)]) hx hb dX3_may_66 hl (by decide) rfl (fun ls hl => ?_)
        refine lv_aload_n hx hb dX3_may_68 rfl (lv_at hl 3 rfl) ?_
        refine m_get (v := .ref (q 5)) hx hb hts hin hown hK hW 5 (by decide) (hts (.fieldLink RX3 19 "ReturnsDeskModel" "days" "[I") (List.mem_of_getElem? (i := 2) rfl)) (fun _ h9 => h9) rfl dX3_may_69 ?_
        refine lv_iload_n hx hb dX3_may_72 rfl (lv_at hl 4 rfl) ?_
        refine m_ald (v := M 5 o) hx hb hK hW 5 o (by decide) rfl (show o < 30 by omega) rfl dX3_may_73 ?_
        refine lv_if_le (tgt := 98) hx hb dX3_may_74 (by decide) (fun c74 => ?_) (fun c74 => ?_)
        · skip
          refine lv_iconst (v := 0) hx hb dX3_may_98 (by decide) ?_
          exact r_zret hx hb hr hlocks (by decide) (by unfold mayM mostM; rw [if_neg c25, if_neg c41, if_pos c57, if_pos c74] <;> rfl) dX3_may_99
        · skip
          refine lv_aload_n hx hb dX3_may_77 rfl (lv_at hl 3 rfl) ?_
          refine m_get (v := .ref (q 12)) hx hb hts hin hown hK hW 12 (by decide) (hts (.fieldLink RX3 40 "ReturnsDeskModel" "states" "[I") (List.mem_of_getElem? (i := 4) rfl)) (fun _ h9 => h9) rfl dX3_may_78 ?_
          refine lv_iload hx hb dX3_may_81 (lv_at hl 2 rfl) ?_
          refine m_ald (v := M 12 (8 * o + j)) hx hb hK hW 12 (8 * o + j) (by decide) rfl (show 8 * o + j < 240 by omega) rfl dX3_may_83 ?_
          refine lv_if_ne (tgt := 98) hx hb dX3_may_84 (by decide) (fun c84 => ?_) (fun c84 => ?_)
          · skip
            refine lv_iconst (v := 0) hx hb dX3_may_98 (by decide) ?_
            exact r_zret hx hb hr hlocks (by decide) (by unfold mayM mostM; rw [if_neg c25, if_neg c41, if_pos c57, if_neg c74, if_neg c84] <;> rfl) dX3_may_99
          · skip
            refine lv_iload hx hb dX3_may_87 (lv_at hl 1 rfl) ?_
            refine lv_iload hx hb dX3_may_89 (lv_at hl 0 rfl) ?_
            refine lv_icmp_gt (tgt := 98) hx hb dX3_may_91 (by decide) (fun c91 => ?_) (fun c91 => ?_)
            · skip
              refine lv_iconst (v := 0) hx hb dX3_may_98 (by decide) ?_
              exact r_zret hx hb hr hlocks (by decide) (by unfold mayM mostM; rw [if_neg c25, if_neg c41, if_pos c57, if_neg c74, if_pos c84, if_pos c91] <;> rfl) dX3_may_99
            · skip
              refine lv_iconst (v := 1) hx hb dX3_may_94 (by decide) ?_
              refine lv_goto (tgt := 99) hx hb dX3_may_95 (by decide) ?_
              exact r_zret hx hb hr hlocks (by decide) (by unfold mayM mostM; rw [if_neg c25, if_neg c41, if_pos c57, if_neg c74, if_pos c84, if_neg c91] <;> rfl) dX3_may_99
    · skip
      refine lv_bipush (v := 30) hx hb dX3_may_44 (by decide) ?_
      refine lv_goto (tgt := 66) hx hb dX3_may_46 (by decide) ?_
      refine lv_istore (lv' := [(6, .int 30), (5, .int (((M 0 0) - (M 5 o)) + 1)), (4, .int (nI (8 * o + j))), (0, .ref ao), (1, .int (nI o)), (2, .int (nI j)), (3, .int p2)]) hx hb dX3_may_66 hl (by decide) rfl (fun ls hl => ?_)
      refine lv_aload_n hx hb dX3_may_68 rfl (lv_at hl 3 rfl) ?_
      refine m_get (v := .ref (q 5)) hx hb hts hin hown hK hW 5 (by decide) (hts (.fieldLink RX3 19 "ReturnsDeskModel" "days" "[I") (List.mem_of_getElem? (i := 2) rfl)) (fun _ h9 => h9) rfl dX3_may_69 ?_
      refine lv_iload_n hx hb dX3_may_72 rfl (lv_at hl 4 rfl) ?_
      refine m_ald (v := M 5 o) hx hb hK hW 5 o (by decide) rfl (show o < 30 by omega) rfl dX3_may_73 ?_
      refine lv_if_le (tgt := 98) hx hb dX3_may_74 (by decide) (fun c74 => ?_) (fun c74 => ?_)
      · skip
        refine lv_iconst (v := 0) hx hb dX3_may_98 (by decide) ?_
        exact r_zret hx hb hr hlocks (by decide) (by unfold mayM mostM; rw [if_neg c25, if_pos c41, if_pos c74] <;> rfl) dX3_may_99
      · skip
        refine lv_aload_n hx hb dX3_may_77 rfl (lv_at hl 3 rfl) ?_
        refine m_get (v := .ref (q 12)) hx hb hts hin hown hK hW 12 (by decide) (hts (.fieldLink RX3 40 "ReturnsDeskModel" "states" "[I") (List.mem_of_getElem? (i := 4) rfl)) (fun _ h9 => h9) rfl dX3_may_78 ?_
        refine lv_iload hx hb dX3_may_81 (lv_at hl 2 rfl) ?_
        refine m_ald (v := M 12 (8 * o + j)) hx hb hK hW 12 (8 * o + j) (by decide) rfl (show 8 * o + j < 240 by omega) rfl dX3_may_83 ?_
        refine lv_if_ne (tgt := 98) hx hb dX3_may_84 (by decide) (fun c84 => ?_) (fun c84 => ?_)
        · skip
          refine lv_iconst (v := 0) hx hb dX3_may_98 (by decide) ?_
          exact r_zret hx hb hr hlocks (by decide) (by unfold mayM mostM; rw [if_neg c25, if_pos c41, if_neg c74, if_neg c84] <;> rfl) dX3_may_99
        · skip
          refine lv_iload hx hb dX3_may_87 (lv_at hl 1 rfl) ?_
          refine lv_iload hx hb dX3_may_89 (lv_at hl 0 rfl) ?_
          refine lv_icmp_gt (tgt := 98) hx hb dX3_may_91 (by decide) (fun c91 => ?_) (fun c91 => ?_)
          · skip
            refine lv_iconst (v := 0) hx hb dX3_may_98 (by decide) ?_
            exact r_zret hx hb hr hlocks (by decide) (by unfold mayM mostM; rw [if_neg c25, if_pos c41, if_neg c74, if_pos c84, if_pos c91] <;> rfl) dX3_may_99
          · skip
            refine lv_iconst (v := 1) hx hb dX3_may_94 (by decide) ?_
            refine lv_goto (tgt := 99) hx hb dX3_may_95 (by decide) ?_
            exact r_zret hx hb hr hlocks (by decide) (by unfold mayM mostM; rw [if_neg c25, if_pos c41, if_neg c74, if_pos c84, if_neg c91] <;> rfl) dX3_may_99
  · skip
    refine lv_sipush (v := 360) hx hb dX3_may_28 (by decide) ?_
    refine lv_goto (tgt := 66) hx hb dX3_may_31 (by decide) ?_
    refine lv_istore (lv' := [(6, .int 360), (5, .int (((M 0 0) - (M 5 o)) + 1)), (4, .int (nI (8 * o + j))), (0, .ref ao), (1, .int (nI o)), (2, .int (nI j)), (3, .int p2)]) hx hb dX3_may_66 hl (by decide) rfl (fun ls hl => ?_)
    refine lv_aload_n hx hb dX3_may_68 rfl (lv_at hl 3 rfl) ?_
    refine m_get (v := .ref (q 5)) hx hb hts hin hown hK hW 5 (by decide) (hts (.fieldLink RX3 19 "ReturnsDeskModel" "days" "[I") (List.mem_of_getElem? (i := 2) rfl)) (fun _ h9 => h9) rfl dX3_may_69 ?_
    refine lv_iload_n hx hb dX3_may_72 rfl (lv_at hl 4 rfl) ?_
    refine m_ald (v := M 5 o) hx hb hK hW 5 o (by decide) rfl (show o < 30 by omega) rfl dX3_may_73 ?_
    refine lv_if_le (tgt := 98) hx hb dX3_may_74 (by decide) (fun c74 => ?_) (fun c74 => ?_)
    · skip
      refine lv_iconst (v := 0) hx hb dX3_may_98 (by decide) ?_
      exact r_zret hx hb hr hlocks (by decide) (by unfold mayM mostM; rw [if_pos c25, if_pos c74] <;> rfl) dX3_may_99
    · skip
      refine lv_aload_n hx hb dX3_may_77 rfl (lv_at hl 3 rfl) ?_
      refine m_get (v := .ref (q 12)) hx hb hts hin hown hK hW 12 (by decide) (hts (.fieldLink RX3 40 "ReturnsDeskModel" "states" "[I") (List.mem_of_getElem? (i := 4) rfl)) (fun _ h9 => h9) rfl dX3_may_78 ?_
      refine lv_iload hx hb dX3_may_81 (lv_at hl 2 rfl) ?_
      refine m_ald (v := M 12 (8 * o + j)) hx hb hK hW 12 (8 * o + j) (by decide) rfl (show 8 * o + j < 240 by omega) rfl dX3_may_83 ?_
      refine lv_if_ne (tgt := 98) hx hb dX3_may_84 (by decide) (fun c84 => ?_) (fun c84 => ?_)
      · skip
        refine lv_iconst (v := 0) hx hb dX3_may_98 (by decide) ?_
        exact r_zret hx hb hr hlocks (by decide) (by unfold mayM mostM; rw [if_pos c25, if_neg c74, if_neg c84] <;> rfl) dX3_may_99
      · skip
        refine lv_iload hx hb dX3_may_87 (lv_at hl 1 rfl) ?_
        refine lv_iload hx hb dX3_may_89 (lv_at hl 0 rfl) ?_
        refine lv_icmp_gt (tgt := 98) hx hb dX3_may_91 (by decide) (fun c91 => ?_) (fun c91 => ?_)
        · skip
          refine lv_iconst (v := 0) hx hb dX3_may_98 (by decide) ?_
          exact r_zret hx hb hr hlocks (by decide) (by unfold mayM mostM; rw [if_pos c25, if_neg c74, if_pos c84, if_pos c91] <;> rfl) dX3_may_99
        · skip
          refine lv_iconst (v := 1) hx hb dX3_may_94 (by decide) ?_
          refine lv_goto (tgt := 99) hx hb dX3_may_95 (by decide) ?_
          exact r_zret hx hb hr hlocks (by decide) (by unfold mayM mostM; rw [if_pos c25, if_neg c74, if_pos c84, if_neg c91] <;> rfl) dX3_may_99
set_option maxHeartbeats 4000000 in
set_option maxRecDepth 100000 in
theorem kX3_isReason_t (l : Launch) {D : va_G} {cI cO cL cJ : ClassId} {ao : Nat} {q : Nat → Nat} (hI : mI ao q) (M : MS) (o n j kc : Nat) (p2 : Int32) (ho : o < n) (hn : n ≤ 30) (hM1 : M 1 0 = nI n) (hj : j < kc) (hkc : kc ≤ 8) (hM4 : M 4 o = nI kc) (h2 : inR p2 0 1) : Met l yX3_isReason wsX3_isReason ({ frames := 2, cells := 0, slots := 0, locals := 44 } : Room) (mP D cI cO cL cJ ao q M [.int (nI o), .int (nI j), .int p2]) (mQ D cI cO cL cJ ao q (fun (r : Int32) (M9 : MS) => r = 1 ∧ M9 = th2 M 0)) 0 0 (mA ao q) := by
  refine m_body (cc := cX3_isReason) (maxL := 4) (ret := some .boolean) (by decide) rfl [.int (nI o), .int (nI j), .int p2] (Nat.le_of_ble_eq_true rfl) ?_
  intro p e s m args below meth c hx hb hr hts hown hml hlocks hW hK ls hl
  have hown : s.vm.findClass RX3 = some m.cls := hown
  have hl : lv_has ls 4 [(0, .ref ao), (1, .int (nI o)), (2, .int (nI j)), (3, .int p2)] := hl
  have hin : ∀ w ∈ u_ws RX3 TX3 17, w ∈ wsX3_isReason := (fun w h => List.mem_cons_of_mem _ (List.mem_append_right _ (h)))
  have hS : va_S (mA ao q) s.heap s.heap [] := va_S.rf
  refine lv_aload_n hx hb dX3_isReason_0 rfl (lv_at hl 0 rfl) ?_
  refine lv_iload_n hx hb dX3_isReason_1 rfl (lv_at hl 1 rfl) ?_
  refine lv_iload_n hx hb dX3_isReason_2 rfl (lv_at hl 2 rfl) ?_
  refine m_call 2 hx hb hts hown hml (kX3_isLine_ok l hI M o n j kc ho hn hM1 hj hkc hM4) rfl gX3_isReason_X3_isLine rfl rfl rfl (by decide +kernel) ⟨Nat.le_of_ble_eq_true rfl, Nat.le_of_ble_eq_true rfl⟩ hl.1 hW hK hS (fun _ h => h) rfl (Nat.le_of_ble_eq_true rfl) dX3_isReason_3 ⟨Nat.zero_le _, Nat.zero_le _⟩ (fun r M9 H locs hp hW _ _ hS => ?_)
  obtain ⟨rfl, rfl⟩ := hp
  refine lv_if_eq (tgt := 27) hx hb dX3_isReason_6 (by decide) (fun h9 => absurd h9 (by decide)) (fun _ => ?_)
  refine lv_aload_n hx hb dX3_isReason_9 rfl (lv_at hl 0 rfl) ?_
  refine lv_iload_n hx hb dX3_isReason_10 rfl (lv_at hl 3 rfl) ?_
  refine lv_iconst (v := 0) hx hb dX3_isReason_11 (by decide) ?_
  refine lv_iconst (v := 1) hx hb dX3_isReason_12 (by decide) ?_
  refine s_call0 3 hx hb hts hown hml (kX3_in_t l p2 0 1 h2) rfl gX3_isReason_X3_in rfl rfl rfl (by decide +kernel) ⟨Nat.le_of_ble_eq_true rfl, Nat.le_of_ble_eq_true rfl⟩ hl.1 rfl (Nat.le_of_ble_eq_true rfl) dX3_isReason_13 ⟨Nat.zero_le _, Nat.zero_le _⟩ (fun r hp => ?_)
  subst hp
  refine lv_if_eq (tgt := 23) hx hb dX3_isReason_16 (by decide) (fun h9 => absurd h9 (by decide)) (fun _ => ?_)
  refine lv_iconst (v := 0) hx hb dX3_isReason_19 (by decide) ?_
  refine lv_goto (tgt := 24) hx hb dX3_isReason_20 (by decide) ?_
  refine m_put hx hb hts hin hown hK hI hW hS 16 (by decide) (hts (.fieldLink RX3 52 "ReturnsDeskModel" "thrown" "I") (List.mem_of_getElem? (i := 1) rfl)) (fun _ h9 => h9) dX3_isReason_24 (fun H locs hW hS => ?_)
  refine lv_aload_n hx hb dX3_isReason_27 rfl (lv_at hl 0 rfl) ?_
  refine m_get (v := .int 0) hx hb hts hin hown hK hW 16 (by decide) (hts (.fieldLink RX3 52 "ReturnsDeskModel" "thrown" "I") (List.mem_of_getElem? (i := 1) rfl)) (fun _ h9 => h9) (congrArg (fun z => some (Value.int z)) (mu_s _ _ _ _)) dX3_isReason_28 ?_
  refine lv_if_ne (tgt := 38) hx hb dX3_isReason_31 (by decide) (fun h9 => absurd (by decide) h9) (fun _ => ?_)
  refine lv_iconst (v := 1) hx hb dX3_isReason_34 (by decide) ?_
  refine lv_goto (tgt := 39) hx hb dX3_isReason_35 (by decide) ?_
  exact m_zret hx hb hr hlocks hK hW hS (by decide) ⟨rfl, rfl⟩ dX3_isReason_39
set_option maxHeartbeats 4000000 in
set_option maxRecDepth 100000 in
theorem kX3_isReason_f (l : Launch) {D : va_G} {cI cO cL cJ : ClassId} {ao : Nat} {q : Nat → Nat} (hI : mI ao q) (M : MS) (o n j kc : Nat) (p2 : Int32) (ho : o < n) (hn : n ≤ 30) (hM1 : M 1 0 = nI n) (hj : j < kc) (hkc : kc ≤ 8) (hM4 : M 4 o = nI kc) (h2 : ¬ inR p2 0 1) : Met l yX3_isReason wsX3_isReason ({ frames := 2, cells := 0, slots := 0, locals := 44 } : Room) (mP D cI cO cL cJ ao q M [.int (nI o), .int (nI j), .int p2]) (mQ D cI cO cL cJ ao q (fun (r : Int32) (M9 : MS) => r = 0 ∧ M9 = th2 M 2)) 0 0 (mA ao q) := by
  refine m_body (cc := cX3_isReason) (maxL := 4) (ret := some .boolean) (by decide) rfl [.int (nI o), .int (nI j), .int p2] (Nat.le_of_ble_eq_true rfl) ?_
  intro p e s m args below meth c hx hb hr hts hown hml hlocks hW hK ls hl
  have hown : s.vm.findClass RX3 = some m.cls := hown
  have hl : lv_has ls 4 [(0, .ref ao), (1, .int (nI o)), (2, .int (nI j)), (3, .int p2)] := hl
  have hin : ∀ w ∈ u_ws RX3 TX3 17, w ∈ wsX3_isReason := (fun w h => List.mem_cons_of_mem _ (List.mem_append_right _ (h)))
  have hS : va_S (mA ao q) s.heap s.heap [] := va_S.rf
  refine lv_aload_n hx hb dX3_isReason_0 rfl (lv_at hl 0 rfl) ?_
  refine lv_iload_n hx hb dX3_isReason_1 rfl (lv_at hl 1 rfl) ?_
  refine lv_iload_n hx hb dX3_isReason_2 rfl (lv_at hl 2 rfl) ?_
  refine m_call 2 hx hb hts hown hml (kX3_isLine_ok l hI M o n j kc ho hn hM1 hj hkc hM4) rfl gX3_isReason_X3_isLine rfl rfl rfl (by decide +kernel) ⟨Nat.le_of_ble_eq_true rfl, Nat.le_of_ble_eq_true rfl⟩ hl.1 hW hK hS (fun _ h => h) rfl (Nat.le_of_ble_eq_true rfl) dX3_isReason_3 ⟨Nat.zero_le _, Nat.zero_le _⟩ (fun r M9 H locs hp hW _ _ hS => ?_)
  obtain ⟨rfl, rfl⟩ := hp
  refine lv_if_eq (tgt := 27) hx hb dX3_isReason_6 (by decide) (fun h9 => absurd h9 (by decide)) (fun _ => ?_)
  refine lv_aload_n hx hb dX3_isReason_9 rfl (lv_at hl 0 rfl) ?_
  refine lv_iload_n hx hb dX3_isReason_10 rfl (lv_at hl 3 rfl) ?_
  refine lv_iconst (v := 0) hx hb dX3_isReason_11 (by decide) ?_
  refine lv_iconst (v := 1) hx hb dX3_isReason_12 (by decide) ?_
  refine s_call0 3 hx hb hts hown hml (kX3_in_f l p2 0 1 h2) rfl gX3_isReason_X3_in rfl rfl rfl (by decide +kernel) ⟨Nat.le_of_ble_eq_true rfl, Nat.le_of_ble_eq_true rfl⟩ hl.1 rfl (Nat.le_of_ble_eq_true rfl) dX3_isReason_13 ⟨Nat.zero_le _, Nat.zero_le _⟩ (fun r hp => ?_)
  subst hp
  refine lv_if_eq (tgt := 23) hx hb dX3_isReason_16 (by decide) (fun _ => ?_) (fun h9 => absurd (by decide) h9)
  refine lv_iconst (v := 2) hx hb dX3_isReason_23 (by decide) ?_
  refine m_put hx hb hts hin hown hK hI hW hS 16 (by decide) (hts (.fieldLink RX3 52 "ReturnsDeskModel" "thrown" "I") (List.mem_of_getElem? (i := 1) rfl)) (fun _ h9 => h9) dX3_isReason_24 (fun H locs hW hS => ?_)
  refine lv_aload_n hx hb dX3_isReason_27 rfl (lv_at hl 0 rfl) ?_
  refine m_get (v := .int 2) hx hb hts hin hown hK hW 16 (by decide) (hts (.fieldLink RX3 52 "ReturnsDeskModel" "thrown" "I") (List.mem_of_getElem? (i := 1) rfl)) (fun _ h9 => h9) (congrArg (fun z => some (Value.int z)) (mu_s _ _ _ _)) dX3_isReason_28 ?_
  refine lv_if_ne (tgt := 38) hx hb dX3_isReason_31 (by decide) (fun _ => ?_) (fun h9 => absurd h9 (by decide))
  refine lv_iconst (v := 0) hx hb dX3_isReason_38 (by decide) ?_
  exact m_zret hx hb hr hlocks hK hW hS (by decide) ⟨rfl, rfl⟩ dX3_isReason_39
set_option maxHeartbeats 4000000 in
set_option maxRecDepth 100000 in
theorem kX3_isReason_bad2 (l : Launch) {D : va_G} {cI cO cL cJ : ClassId} {ao : Nat} {q : Nat → Nat} (hI : mI ao q) (M : MS) (o n kc : Nat) (p1 p2 : Int32) (ho : o < n) (hn : n ≤ 30) (hM1 : M 1 0 = nI n) (hkc : kc ≤ 8) (hM4 : M 4 o = nI kc) (hbad : ¬ vp_in p1 kc) : Met l yX3_isReason wsX3_isReason ({ frames := 2, cells := 0, slots := 0, locals := 44 } : Room) (mP D cI cO cL cJ ao q M [.int (nI o), .int p1, .int p2]) (mQ D cI cO cL cJ ao q (fun (r : Int32) (M9 : MS) => r = 0 ∧ M9 = mu M 16 0 1)) 0 0 (mA ao q) := by
  refine m_body (cc := cX3_isReason) (maxL := 4) (ret := some .boolean) (by decide) rfl [.int (nI o), .int p1, .int p2] (Nat.le_of_ble_eq_true rfl) ?_
  intro p e s m args below meth c hx hb hr hts hown hml hlocks hW hK ls hl
  have hown : s.vm.findClass RX3 = some m.cls := hown
  have hl : lv_has ls 4 [(0, .ref ao), (1, .int (nI o)), (2, .int p1), (3, .int p2)] := hl
  have hin : ∀ w ∈ u_ws RX3 TX3 17, w ∈ wsX3_isReason := (fun w h => List.mem_cons_of_mem _ (List.mem_append_right _ (h)))
  have hS : va_S (mA ao q) s.heap s.heap [] := va_S.rf
  refine lv_aload_n hx hb dX3_isReason_0 rfl (lv_at hl 0 rfl) ?_
  refine lv_iload_n hx hb dX3_isReason_1 rfl (lv_at hl 1 rfl) ?_
  refine lv_iload_n hx hb dX3_isReason_2 rfl (lv_at hl 2 rfl) ?_
  refine m_call 2 hx hb hts hown hml (kX3_isLine_bad2 l hI M o n kc p1 ho hn hM1 hkc hM4 hbad) rfl gX3_isReason_X3_isLine rfl rfl rfl (by decide +kernel) ⟨Nat.le_of_ble_eq_true rfl, Nat.le_of_ble_eq_true rfl⟩ hl.1 hW hK hS (fun _ h => h) rfl (Nat.le_of_ble_eq_true rfl) dX3_isReason_3 ⟨Nat.zero_le _, Nat.zero_le _⟩ (fun r M9 H locs hp hW _ _ hS => ?_)
  obtain ⟨rfl, rfl⟩ := hp
  refine lv_if_eq (tgt := 27) hx hb dX3_isReason_6 (by decide) (fun _ => ?_) (fun h9 => absurd (by decide) h9)
  refine lv_aload_n hx hb dX3_isReason_27 rfl (lv_at hl 0 rfl) ?_
  refine m_get (v := .int 1) hx hb hts hin hown hK hW 16 (by decide) (hts (.fieldLink RX3 52 "ReturnsDeskModel" "thrown" "I") (List.mem_of_getElem? (i := 1) rfl)) (fun _ h9 => h9) (congrArg (fun z => some (Value.int z)) (mu_s _ _ _ _)) dX3_isReason_28 ?_
  refine lv_if_ne (tgt := 38) hx hb dX3_isReason_31 (by decide) (fun _ => ?_) (fun h9 => absurd h9 (by decide))
  refine lv_iconst (v := 0) hx hb dX3_isReason_38 (by decide) ?_
  exact m_zret hx hb hr hlocks hK hW hS (by decide) ⟨rfl, rfl⟩ dX3_isReason_39
set_option maxHeartbeats 4000000 in
set_option maxRecDepth 100000 in
theorem kX3_isReason_bad (l : Launch) {D : va_G} {cI cO cL cJ : ClassId} {ao : Nat} {q : Nat → Nat} (hI : mI ao q) (M : MS) (p0 p1 p2 : Int32) (n : Nat) (hbad : ¬ vp_in p0 n) (hn : n ≤ 30) (hM1 : M 1 0 = nI n) : Met l yX3_isReason wsX3_isReason ({ frames := 2, cells := 0, slots := 0, locals := 44 } : Room) (mP D cI cO cL cJ ao q M [.int p0, .int p1, .int p2]) (mQ D cI cO cL cJ ao q (fun (r : Int32) (M9 : MS) => r = 0 ∧ M9 = mu M 16 0 1)) 0 0 (mA ao q) := by
  refine m_body (cc := cX3_isReason) (maxL := 4) (ret := some .boolean) (by decide) rfl [.int p0, .int p1, .int p2] (Nat.le_of_ble_eq_true rfl) ?_
  intro p e s m args below meth c hx hb hr hts hown hml hlocks hW hK ls hl
  have hown : s.vm.findClass RX3 = some m.cls := hown
  have hl : lv_has ls 4 [(0, .ref ao), (1, .int p0), (2, .int p1), (3, .int p2)] := hl
  have hin : ∀ w ∈ u_ws RX3 TX3 17, w ∈ wsX3_isReason := (fun w h => List.mem_cons_of_mem _ (List.mem_append_right _ (h)))
  have hS : va_S (mA ao q) s.heap s.heap [] := va_S.rf
  refine lv_aload_n hx hb dX3_isReason_0 rfl (lv_at hl 0 rfl) ?_
  refine lv_iload_n hx hb dX3_isReason_1 rfl (lv_at hl 1 rfl) ?_
  refine lv_iload_n hx hb dX3_isReason_2 rfl (lv_at hl 2 rfl) ?_
  refine m_call 2 hx hb hts hown hml (kX3_isLine_bad l hI M p0 p1 n hbad hn hM1) rfl gX3_isReason_X3_isLine rfl rfl rfl (by decide +kernel) ⟨Nat.le_of_ble_eq_true rfl, Nat.le_of_ble_eq_true rfl⟩ hl.1 hW hK hS (fun _ h => h) rfl (Nat.le_of_ble_eq_true rfl) dX3_isReason_3 ⟨Nat.zero_le _, Nat.zero_le _⟩ (fun r M9 H locs hp hW _ _ hS => ?_)
  obtain ⟨rfl, rfl⟩ := hp
  refine lv_if_eq (tgt := 27) hx hb dX3_isReason_6 (by decide) (fun _ => ?_) (fun h9 => absurd (by decide) h9)
  refine lv_aload_n hx hb dX3_isReason_27 rfl (lv_at hl 0 rfl) ?_
  refine m_get (v := .int 1) hx hb hts hin hown hK hW 16 (by decide) (hts (.fieldLink RX3 52 "ReturnsDeskModel" "thrown" "I") (List.mem_of_getElem? (i := 1) rfl)) (fun _ h9 => h9) (congrArg (fun z => some (Value.int z)) (mu_s _ _ _ _)) dX3_isReason_28 ?_
  refine lv_if_ne (tgt := 38) hx hb dX3_isReason_31 (by decide) (fun _ => ?_) (fun h9 => absurd h9 (by decide))
  refine lv_iconst (v := 0) hx hb dX3_isReason_38 (by decide) ?_
  exact m_zret hx hb hr hlocks hK hW hS (by decide) ⟨rfl, rfl⟩ dX3_isReason_39

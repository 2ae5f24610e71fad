/-! THE CLASS: lines and orders. -/
set_option maxHeartbeats 4000000 in
set_option maxRecDepth 100000 in
theorem kX0_isWaitedFor (l : Launch) {D : va_G} {cI cO cL cJ : ClassId} (g : XG) (X : MS) (hz sz : Nat) (al jj : Nat) (hal : g 2 jj = some al)  : Met l yX0_isWaitedFor wsX0_isWaitedFor ({ frames := 0, cells := 0, slots := 0, locals := 0 } : Room) (xP D cI cO cL cJ g X hz sz [.ref al]) (vp_Si (fun r : Int32 => r = wtX X jj)) 0 0 (fun _ => False) := by
  refine x_bodyM (cc := cX0_isWaitedFor) (maxL := 1) (ret := some .boolean) (by decide) rfl [.ref al] (Nat.le_of_ble_eq_true rfl) ?_
  intro p e s m args below meth c hx hb hr hts hown hml hlocks hsz hW hK hE ls hl
  subst hsz
  have hown : s.vm.findClass RX0 = some m.cls := hown
  have hl : lv_has ls 1 [(0, .ref al)] := hl
  have hin0 : ∀ w ∈ u_ws RX0 TX0 5, w ∈ wsX0_isWaitedFor := (fun w h => List.mem_cons_of_mem _ (List.mem_append_right _ (h)))
  refine lv_aload_n hx hb dX0_isWaitedFor_0 rfl (lv_at hl 0 rfl) ?_
  refine f_get (ci := 0) (fs := xobL X jj) (v := .int (X 18 jj)) hx hb hts hin0 hown hK (hW 2 jj _ hal) rfl 2 (by decide) (hts (.fieldLink RX0 9 "ReturnsDesk$Line" "state" "I") (List.mem_of_getElem? (i := 1) rfl)) (fun _ h9 => h9) rfl dX0_isWaitedFor_1 ?_
  refine lv_iconst (v := 1) hx hb dX0_isWaitedFor_4 (by decide) ?_
  refine lv_icmp_eq (tgt := 16) hx hb dX0_isWaitedFor_5 (by decide) (fun c5 => ?_) (fun c5 => ?_)
  · skip
    refine lv_iconst (v := 1) hx hb dX0_isWaitedFor_16 (by decide) ?_
    refine lv_goto (tgt := 21) hx hb dX0_isWaitedFor_17 (by decide) ?_
    exact r_zret hx hb hr hlocks (by decide) (by unfold wtX; rw [if_pos c5] <;> rfl) dX0_isWaitedFor_21
  · skip
    refine lv_aload_n hx hb dX0_isWaitedFor_8 rfl (lv_at hl 0 rfl) ?_
    refine f_get (ci := 0) (fs := xobL X jj) (v := .int (X 18 jj)) hx hb hts hin0 hown hK (hW 2 jj _ hal) rfl 2 (by decide) (hts (.fieldLink RX0 9 "ReturnsDesk$Line" "state" "I") (List.mem_of_getElem? (i := 1) rfl)) (fun _ h9 => h9) rfl dX0_isWaitedFor_9 ?_
    refine lv_iconst (v := 2) hx hb dX0_isWaitedFor_12 (by decide) ?_
    refine lv_icmp_ne (tgt := 20) hx hb dX0_isWaitedFor_13 (by decide) (fun c13 => ?_) (fun c13 => ?_)
    · skip
      refine lv_iconst (v := 0) hx hb dX0_isWaitedFor_20 (by decide) ?_
      exact r_zret hx hb hr hlocks (by decide) (by unfold wtX; rw [if_neg c5, if_neg c13] <;> rfl) dX0_isWaitedFor_21
    · skip
      refine lv_iconst (v := 1) hx hb dX0_isWaitedFor_16 (by decide) ?_
      refine lv_goto (tgt := 21) hx hb dX0_isWaitedFor_17 (by decide) ?_
      exact r_zret hx hb hr hlocks (by decide) (by unfold wtX; rw [if_neg c5, if_pos c13] <;> rfl) dX0_isWaitedFor_21
set_option maxHeartbeats 4000000 in
set_option maxRecDepth 100000 in
theorem kX0_spanFor (l : Launch) {D : va_G} {cI cO cL cJ : ClassId} (g : XG) (X : MS) (hz sz : Nat) (al jj : Nat) (hal : g 2 jj = some al) (w : Int32) : Met l yX0_spanFor wsX0_spanFor ({ frames := 0, cells := 0, slots := 0, locals := 0 } : Room) (xP D cI cO cL cJ g X hz sz [.ref al, .int w]) (vp_Si (fun r : Int32 => r = spanX X jj w)) 0 0 (fun _ => False) := by
  refine x_bodyM (cc := cX0_spanFor) (maxL := 2) (ret := some .int) (by decide) rfl [.ref al, .int w] (Nat.le_of_ble_eq_true rfl) ?_
  intro p e s m args below meth c hx hb hr hts hown hml hlocks hsz hW hK hE ls hl
  subst hsz
  have hown : s.vm.findClass RX0 = some m.cls := hown
  have hl : lv_has ls 2 [(0, .ref al), (1, .int w)] := hl
  have hin0 : ∀ w ∈ u_ws RX0 TX0 5, w ∈ wsX0_spanFor := (fun w h => List.mem_cons_of_mem _ (List.mem_append_right _ (h)))
  refine lv_iload_n hx hb dX0_spanFor_0 rfl (lv_at hl 1 rfl) ?_
  refine lv_iconst (v := 1) hx hb dX0_spanFor_1 (by decide) ?_
  refine lv_icmp_ne (tgt := 9) hx hb dX0_spanFor_2 (by decide) (fun c2 => ?_) (fun c2 => ?_)
  · skip
    refine lv_aload_n hx hb dX0_spanFor_9 rfl (lv_at hl 0 rfl) ?_
    refine f_get (ci := 0) (fs := xobL X jj) (v := .int (X 17 jj)) hx hb hts hin0 hown hK (hW 2 jj _ hal) rfl 1 (by decide) (hts (.fieldLink RX0 18 "ReturnsDesk$Line" "kind" "I") (List.mem_of_getElem? (i := 1) rfl)) (fun _ h9 => h9) rfl dX0_spanFor_10 ?_
    refine lv_iconst (v := 2) hx hb dX0_spanFor_13 (by decide) ?_
    refine lv_icmp_ne (tgt := 19) hx hb dX0_spanFor_14 (by decide) (fun c14 => ?_) (fun c14 => ?_)
    · skip
      refine lv_aload_n hx hb dX0_spanFor_19 rfl (lv_at hl 0 rfl) ?_
      refine f_get (ci := 0) (fs := xobL X jj) (v := .int (X 17 jj)) hx hb hts hin0 hown hK (hW 2 jj _ hal) rfl 1 (by decide) (hts (.fieldLink RX0 18 "ReturnsDesk$Line" "kind" "I") (List.mem_of_getElem? (i := 1) rfl)) (fun _ h9 => h9) rfl dX0_spanFor_20 ?_
      refine lv_iconst (v := 1) hx hb dX0_spanFor_23 (by decide) ?_
      refine lv_icmp_ne (tgt := 32) hx hb dX0_spanFor_24 (by decide) (fun c24 => ?_) (fun c24 => ?_)
      · skip
        refine lv_bipush (v := 30) hx hb dX0_spanFor_32 (by decide) ?_
        exact r_ret hx hb hr hlocks (by unfold spanX; rw [if_neg c2, if_neg c14, if_neg c24] <;> rfl) dX0_spanFor_34
      · skip
        refine lv_bipush (v := 14) hx hb dX0_spanFor_27 (by decide) ?_
        refine lv_goto (tgt := 34) hx hb dX0_spanFor_29 (by decide) ?_
        exact r_ret hx hb hr hlocks (by unfold spanX; rw [if_neg c2, if_neg c14, if_pos c24] <;> rfl) dX0_spanFor_34
    · skip
      refine lv_iconst (v := (-1)) hx hb dX0_spanFor_17 (by decide) ?_
      exact r_ret hx hb hr hlocks (by unfold spanX; rw [if_neg c2, if_pos c14] <;> rfl) dX0_spanFor_18
  · skip
    refine lv_sipush (v := 360) hx hb dX0_spanFor_5 (by decide) ?_
    exact r_ret hx hb hr hlocks (by unfold spanX; rw [if_pos c2] <;> rfl) dX0_spanFor_8
set_option maxHeartbeats 4000000 in
set_option maxRecDepth 100000 in
theorem kX0_gradeFee (l : Launch) {D : va_G} {cI cO cL cJ : ClassId} (g : XG) (X : MS) (hz sz : Nat) (al jj : Nat) (hal : g 2 jj = some al) (w : Int32) : Met l yX0_gradeFee wsX0_gradeFee ({ frames := 0, cells := 0, slots := 0, locals := 0 } : Room) (xP D cI cO cL cJ g X hz sz [.ref al, .int w]) (vp_Si (fun r : Int32 => r = gfX X jj w)) 0 0 (fun _ => False) := by
  refine x_bodyM (cc := cX0_gradeFee) (maxL := 2) (ret := some .int) (by decide) rfl [.ref al, .int w] (Nat.le_of_ble_eq_true rfl) ?_
  intro p e s m args below meth c hx hb hr hts hown hml hlocks hsz hW hK hE ls hl
  subst hsz
  have hown : s.vm.findClass RX0 = some m.cls := hown
  have hl : lv_has ls 2 [(0, .ref al), (1, .int w)] := hl
  have hin0 : ∀ w ∈ u_ws RX0 TX0 5, w ∈ wsX0_gradeFee := (fun w h => List.mem_cons_of_mem _ (List.mem_append_right _ (h)))
  refine lv_iload_n hx hb dX0_gradeFee_0 rfl (lv_at hl 1 rfl) ?_
  refine lv_if_eq (tgt := 17) hx hb dX0_gradeFee_1 (by decide) (fun c1 => ?_) (fun c1 => ?_)
  · skip
    refine lv_iconst (v := 0) hx hb dX0_gradeFee_17 (by decide) ?_
    exact r_ret hx hb hr hlocks (by unfold gfX gfX2; rw [if_pos c1] <;> rfl) dX0_gradeFee_18
  · skip
    refine lv_aload_n hx hb dX0_gradeFee_4 rfl (lv_at hl 0 rfl) ?_
    refine f_get (ci := 0) (fs := xobL X jj) (v := .int (X 19 jj)) hx hb hts hin0 hown hK (hW 2 jj _ hal) rfl 3 (by decide) (hts (.fieldLink RX0 21 "ReturnsDesk$Line" "reason" "I") (List.mem_of_getElem? (i := 1) rfl)) (fun _ h9 => h9) rfl dX0_gradeFee_5 ?_
    refine lv_iconst (v := 1) hx hb dX0_gradeFee_8 (by decide) ?_
    refine lv_icmp_ne (tgt := 19) hx hb dX0_gradeFee_9 (by decide) (fun c9 => ?_) (fun c9 => ?_)
    · skip
      refine lv_iload_n hx hb dX0_gradeFee_19 rfl (lv_at hl 1 rfl) ?_
      refine lv_iconst (v := 1) hx hb dX0_gradeFee_20 (by decide) ?_
      refine lv_icmp_ne (tgt := 48) hx hb dX0_gradeFee_21 (by decide) (fun c21 => ?_) (fun c21 => ?_)
      · skip
        refine lv_aload_n hx hb dX0_gradeFee_48 rfl (lv_at hl 0 rfl) ?_
        refine f_get (ci := 0) (fs := xobL X jj) (v := .int (X 16 jj)) hx hb hts hin0 hown hK (hW 2 jj _ hal) rfl 0 (by decide) (hts (.fieldLink RX0 15 "ReturnsDesk$Line" "price" "I") (List.mem_of_getElem? (i := 3) rfl)) (fun _ h9 => h9) rfl dX0_gradeFee_49 ?_
        exact r_ret hx hb hr hlocks (by unfold gfX gfX2; rw [if_neg c1, if_neg c9, if_neg c21] <;> rfl) dX0_gradeFee_52
      · skip
        refine lv_aload_n hx hb dX0_gradeFee_24 rfl (lv_at hl 0 rfl) ?_
        refine f_get (ci := 0) (fs := xobL X jj) (v := .int (X 17 jj)) hx hb hts hin0 hown hK (hW 2 jj _ hal) rfl 1 (by decide) (hts (.fieldLink RX0 18 "ReturnsDesk$Line" "kind" "I") (List.mem_of_getElem? (i := 2) rfl)) (fun _ h9 => h9) rfl dX0_gradeFee_25 ?_
        refine lv_iconst (v := 1) hx hb dX0_gradeFee_28 (by decide) ?_
        refine lv_icmp_ne (tgt := 41) hx hb dX0_gradeFee_29 (by decide) (fun c29 => ?_) (fun c29 => ?_)
        · skip
          refine lv_aload_n hx hb dX0_gradeFee_41 rfl (lv_at hl 0 rfl) ?_
          refine f_get (ci := 0) (fs := xobL X jj) (v := .int (X 16 jj)) hx hb hts hin0 hown hK (hW 2 jj _ hal) rfl 0 (by decide) (hts (.fieldLink RX0 15 "ReturnsDesk$Line" "price" "I") (List.mem_of_getElem? (i := 3) rfl)) (fun _ h9 => h9) rfl dX0_gradeFee_42 ?_
          refine lv_iconst (v := 5) hx hb dX0_gradeFee_45 (by decide) ?_
          refine lv_idiv hx hb dX0_gradeFee_46 (by decide) ?_
          exact r_ret hx hb hr hlocks (by unfold gfX gfX2; rw [if_neg c1, if_neg c9, if_pos c21, if_neg c29] <;> rfl) dX0_gradeFee_47
        · skip
          refine lv_aload_n hx hb dX0_gradeFee_32 rfl (lv_at hl 0 rfl) ?_
          refine f_get (ci := 0) (fs := xobL X jj) (v := .int (X 16 jj)) hx hb hts hin0 hown hK (hW 2 jj _ hal) rfl 0 (by decide) (hts (.fieldLink RX0 15 "ReturnsDesk$Line" "price" "I") (List.mem_of_getElem? (i := 3) rfl)) (fun _ h9 => h9) rfl dX0_gradeFee_33 ?_
          refine lv_iconst (v := 2) hx hb dX0_gradeFee_36 (by decide) ?_
          refine lv_idiv hx hb dX0_gradeFee_37 (by decide) ?_
          refine lv_goto (tgt := 47) hx hb dX0_gradeFee_38 (by decide) ?_
          exact r_ret hx hb hr hlocks (by unfold gfX gfX2; rw [if_neg c1, if_neg c9, if_pos c21, if_pos c29] <;> rfl) dX0_gradeFee_47
    · skip
      refine lv_iload_n hx hb dX0_gradeFee_12 rfl (lv_at hl 1 rfl) ?_
      refine lv_iconst (v := 3) hx hb dX0_gradeFee_13 (by decide) ?_
      refine lv_icmp_eq (tgt := 19) hx hb dX0_gradeFee_14 (by decide) (fun c14 => ?_) (fun c14 => ?_)
      · skip
        refine lv_iload_n hx hb dX0_gradeFee_19 rfl (lv_at hl 1 rfl) ?_
        refine lv_iconst (v := 1) hx hb dX0_gradeFee_20 (by decide) ?_
        refine lv_icmp_ne (tgt := 48) hx hb dX0_gradeFee_21 (by decide) (fun c21 => ?_) (fun c21 => ?_)
        · skip
          refine lv_aload_n hx hb dX0_gradeFee_48 rfl (lv_at hl 0 rfl) ?_
          refine f_get (ci := 0) (fs := xobL X jj) (v := .int (X 16 jj)) hx hb hts hin0 hown hK (hW 2 jj _ hal) rfl 0 (by decide) (hts (.fieldLink RX0 15 "ReturnsDesk$Line" "price" "I") (List.mem_of_getElem? (i := 3) rfl)) (fun _ h9 => h9) rfl dX0_gradeFee_49 ?_
          exact r_ret hx hb hr hlocks (by unfold gfX gfX2; rw [if_neg c1, if_pos c9, if_pos c14, if_neg c21] <;> rfl) dX0_gradeFee_52
        · skip
          refine lv_aload_n hx hb dX0_gradeFee_24 rfl (lv_at hl 0 rfl) ?_
          refine f_get (ci := 0) (fs := xobL X jj) (v := .int (X 17 jj)) hx hb hts hin0 hown hK (hW 2 jj _ hal) rfl 1 (by decide) (hts (.fieldLink RX0 18 "ReturnsDesk$Line" "kind" "I") (List.mem_of_getElem? (i := 2) rfl)) (fun _ h9 => h9) rfl dX0_gradeFee_25 ?_
          refine lv_iconst (v := 1) hx hb dX0_gradeFee_28 (by decide) ?_
          refine lv_icmp_ne (tgt := 41) hx hb dX0_gradeFee_29 (by decide) (fun c29 => ?_) (fun c29 => ?_)
          · skip
            refine lv_aload_n hx hb dX0_gradeFee_41 rfl (lv_at hl 0 rfl) ?_
            refine f_get (ci := 0) (fs := xobL X jj) (v := .int (X 16 jj)) hx hb hts hin0 hown hK (hW 2 jj _ hal) rfl 0 (by decide) (hts (.fieldLink RX0 15 "ReturnsDesk$Line" "price" "I") (List.mem_of_getElem? (i := 3) rfl)) (fun _ h9 => h9) rfl dX0_gradeFee_42 ?_
            refine lv_iconst (v := 5) hx hb dX0_gradeFee_45 (by decide) ?_
            refine lv_idiv hx hb dX0_gradeFee_46 (by decide) ?_
            exact r_ret hx hb hr hlocks (by unfold gfX gfX2; rw [if_neg c1, if_pos c9, if_pos c14, if_pos c21, if_neg c29] <;> rfl) dX0_gradeFee_47
          · skip
            refine lv_aload_n hx hb dX0_gradeFee_32 rfl (lv_at hl 0 rfl) ?_
            refine f_get (ci := 0) (fs := xobL X jj) (v := .int (X 16 jj)) hx hb hts hin0 hown hK (hW 2 jj _ hal) rfl 0 (by decide) (hts (.fieldLink RX0 15 "ReturnsDesk$Line" "price" "I") (List.mem_of_getElem? (i := 3) rfl)) (fun _ h9 => h9) rfl dX0_gradeFee_33 ?_
            refine lv_iconst (v := 2) hx hb dX0_gradeFee_36 (by decide) ?_
            refine lv_idiv hx hb dX0_gradeFee_37 (by decide) ?_
            refine lv_goto (tgt := 47) hx hb dX0_gradeFee_38 (by decide) ?_
            exact r_ret hx hb hr hlocks (by unfold gfX gfX2; rw [if_neg c1, if_pos c9, if_pos c14, if_pos c21, if_pos c29] <;> rfl) dX0_gradeFee_47
      · skip
        refine lv_iconst (v := 0) hx hb dX0_gradeFee_17 (by decide) ?_
        exact r_ret hx hb hr hlocks (by unfold gfX gfX2; rw [if_neg c1, if_pos c9, if_neg c14] <;> rfl) dX0_gradeFee_18
set_option maxHeartbeats 4000000 in
set_option maxRecDepth 100000 in
theorem kX0_feeFor (l : Launch) {D : va_G} {cI cO cL cJ : ClassId} (g : XG) (X : MS) (hz sz : Nat) (al jj : Nat) (hal : g 2 jj = some al) (w : Int32) : Met l yX0_feeFor wsX0_feeFor ({ frames := 1, cells := 0, slots := 0, locals := 21 } : Room) (xP D cI cO cL cJ g X hz sz [.ref al, .int w]) (vp_Si (fun r : Int32 => r = feeX X jj w)) 0 0 (fun _ => False) := by
  refine x_bodyM (cc := cX0_feeFor) (maxL := 3) (ret := some .int) (by decide) rfl [.ref al, .int w] (Nat.le_of_ble_eq_true rfl) ?_
  intro p e s m args below meth c hx hb hr hts hown hml hlocks hsz hW hK hE ls hl
  subst hsz
  have hown : s.vm.findClass RX0 = some m.cls := hown
  have hl : lv_has ls 3 [(0, .ref al), (1, .int w)] := hl
  have hin0 : ∀ w ∈ u_ws RX0 TX0 5, w ∈ wsX0_feeFor := (fun w h => List.mem_cons_of_mem _ (List.mem_append_right _ (h)))
  refine lv_aload_n hx hb dX0_feeFor_0 rfl (lv_at hl 0 rfl) ?_
  refine f_get (ci := 0) (fs := xobL X jj) (v := .int (X 19 jj)) hx hb hts hin0 hown hK (hW 2 jj _ hal) rfl 3 (by decide) (hts (.fieldLink RX0 21 "ReturnsDesk$Line" "reason" "I") (List.mem_of_getElem? (i := 1) rfl)) (fun _ h9 => h9) rfl dX0_feeFor_1 ?_
  refine lv_if_ne (tgt := 13) hx hb dX0_feeFor_4 (by decide) (fun c4 => ?_) (fun c4 => ?_)
  · skip
    refine lv_iconst (v := 0) hx hb dX0_feeFor_13 (by decide) ?_
    refine lv_istore_n (lv' := [(2, .int 0), (0, .ref al), (1, .int w)]) hx hb dX0_feeFor_14 rfl hl (by decide) rfl (fun ls hl => ?_)
    refine lv_iload_n hx hb dX0_feeFor_15 rfl (lv_at hl 0 rfl) ?_
    refine lv_aload_n hx hb dX0_feeFor_16 rfl (lv_at hl 1 rfl) ?_
    refine lv_iload_n hx hb dX0_feeFor_17 rfl (lv_at hl 2 rfl) ?_
    refine vp_callSi (va_runV (As := [.int w]) (rest := [.int 0]) (b := al) ⟨hx, hb, hml, hown, hts⟩ (kX0_gradeFee l g X hz _ al jj hal w) (cwV 1 hts gX0_feeFor_X0_gradeFee rfl rfl rfl (by decide +kernel) ⟨Nat.le_of_ble_eq_true rfl, Nat.le_of_ble_eq_true rfl⟩) (x_preV hW hK hE (x_recvL hK hW hal)) rfl rfl hl.1 rfl (lv_room (Nat.le_of_ble_eq_true rfl)) dX0_feeFor_18 ⟨Nat.le_of_ble_eq_true rfl, Nat.le_of_ble_eq_true rfl⟩).run (fun r hp => ?_)
    subst hp
    refine lv_iadd hx hb dX0_feeFor_21 ?_
    exact r_ret hx hb hr hlocks (by unfold feeX; rw [if_neg c4] <;> rfl) dX0_feeFor_22
  · skip
    refine lv_sipush (v := 500) hx hb dX0_feeFor_7 (by decide) ?_
    refine lv_goto (tgt := 14) hx hb dX0_feeFor_10 (by decide) ?_
    refine lv_istore_n (lv' := [(2, .int 500), (0, .ref al), (1, .int w)]) hx hb dX0_feeFor_14 rfl hl (by decide) rfl (fun ls hl => ?_)
    refine lv_iload_n hx hb dX0_feeFor_15 rfl (lv_at hl 0 rfl) ?_
    refine lv_aload_n hx hb dX0_feeFor_16 rfl (lv_at hl 1 rfl) ?_
    refine lv_iload_n hx hb dX0_feeFor_17 rfl (lv_at hl 2 rfl) ?_
    refine vp_callSi (va_runV (As := [.int w]) (rest := [.int 500]) (b := al) ⟨hx, hb, hml, hown, hts⟩ (kX0_gradeFee l g X hz _ al jj hal w) (cwV 1 hts gX0_feeFor_X0_gradeFee rfl rfl rfl (by decide +kernel) ⟨Nat.le_of_ble_eq_true rfl, Nat.le_of_ble_eq_true rfl⟩) (x_preV hW hK hE (x_recvL hK hW hal)) rfl rfl hl.1 rfl (lv_room (Nat.le_of_ble_eq_true rfl)) dX0_feeFor_18 ⟨Nat.le_of_ble_eq_true rfl, Nat.le_of_ble_eq_true rfl⟩).run (fun r hp => ?_)
    subst hp
    refine lv_iadd hx hb dX0_feeFor_21 ?_
    exact r_ret hx hb hr hlocks (by unfold feeX; rw [if_pos c4] <;> rfl) dX0_feeFor_22
set_option maxHeartbeats 4000000 in
set_option maxRecDepth 100000 in
theorem kX1_allTaken (l : Launch) {D : va_G} {cI cO cL cJ : ClassId} (g : XG) (X : MS) (hz sz : Nat) (ao la k : Nat) (ho : g 0 k = some ao) (hla : g 1 k = some la)  : Met l yX1_allTaken wsX1_allTaken ({ frames := 0, cells := 0, slots := 0, locals := 0 } : Room) (xP D cI cO cL cJ g X hz sz [.ref ao]) (vp_Si (fun r : Int32 => r = takenX X k)) 0 0 (fun _ => False) := by
  refine x_bodyM (cc := cX1_allTaken) (maxL := 1) (ret := some .int) (by decide) rfl [.ref ao] (Nat.le_of_ble_eq_true rfl) ?_
  intro p e s m args below meth c hx hb hr hts hown hml hlocks hsz hW hK hE ls hl
  subst hsz
  have hown : s.vm.findClass RX1 = some m.cls := hown
  have hl : lv_has ls 1 [(0, .ref ao)] := hl
  have hin1 : ∀ w ∈ u_ws RX1 TX1 12, w ∈ wsX1_allTaken := (fun w h => List.mem_cons_of_mem _ (List.mem_append_right _ (h)))
  refine lv_aload_n hx hb dX1_allTaken_0 rfl (lv_at hl 0 rfl) ?_
  refine f_get (ci := 1) (fs := xobO g X k) (v := .int (X 13 k)) hx hb hts hin1 hown hK (hW 0 k _ ho) rfl 9 (by decide) (hts (.fieldLink RX1 43 "ReturnsDesk$Order" "byCard" "I") (List.mem_of_getElem? (i := 1) rfl)) (fun _ h9 => h9) rfl dX1_allTaken_1 ?_
  refine lv_aload_n hx hb dX1_allTaken_4 rfl (lv_at hl 0 rfl) ?_
  refine f_get (ci := 1) (fs := xobO g X k) (v := .int (X 14 k)) hx hb hts hin1 hown hK (hW 0 k _ ho) rfl 10 (by decide) (hts (.fieldLink RX1 40 "ReturnsDesk$Order" "byVoucher" "I") (List.mem_of_getElem? (i := 2) rfl)) (fun _ h9 => h9) rfl dX1_allTaken_5 ?_
  refine lv_iadd hx hb dX1_allTaken_8 ?_
  refine lv_aload_n hx hb dX1_allTaken_9 rfl (lv_at hl 0 rfl) ?_
  refine f_get (ci := 1) (fs := xobO g X k) (v := .int (X 15 k)) hx hb hts hin1 hown hK (hW 0 k _ ho) rfl 11 (by decide) (hts (.fieldLink RX1 37 "ReturnsDesk$Order" "byPoints" "I") (List.mem_of_getElem? (i := 3) rfl)) (fun _ h9 => h9) rfl dX1_allTaken_10 ?_
  refine lv_iadd hx hb dX1_allTaken_13 ?_
  exact r_ret hx hb hr hlocks rfl dX1_allTaken_14
set_option maxHeartbeats 4000000 in
set_option maxRecDepth 100000 in
theorem kX1_hasRoom (l : Launch) {D : va_G} {cI cO cL cJ : ClassId} (g : XG) (X : MS) (hz sz : Nat) (ao la k : Nat) (ho : g 0 k = some ao) (hla : g 1 k = some la)  : Met l yX1_hasRoom wsX1_hasRoom ({ frames := 0, cells := 0, slots := 0, locals := 0 } : Room) (xP D cI cO cL cJ g X hz sz [.ref ao]) (vp_Si (fun r : Int32 => r = roomX X k)) 0 0 (fun _ => False) := by
  refine x_bodyM (cc := cX1_hasRoom) (maxL := 1) (ret := some .boolean) (by decide) rfl [.ref ao] (Nat.le_of_ble_eq_true rfl) ?_
  intro p e s m args below meth c hx hb hr hts hown hml hlocks hsz hW hK hE ls hl
  subst hsz
  have hown : s.vm.findClass RX1 = some m.cls := hown
  have hl : lv_has ls 1 [(0, .ref ao)] := hl
  have hin1 : ∀ w ∈ u_ws RX1 TX1 12, w ∈ wsX1_hasRoom := (fun w h => List.mem_cons_of_mem _ (List.mem_append_right _ (h)))
  refine lv_aload_n hx hb dX1_hasRoom_0 rfl (lv_at hl 0 rfl) ?_
  refine f_get (ci := 1) (fs := xobO g X k) (v := .int (X 7 k)) hx hb hts hin1 hown hK (hW 0 k _ ho) rfl 3 (by decide) (hts (.fieldLink RX1 24 "ReturnsDesk$Order" "lineCount" "I") (List.mem_of_getElem? (i := 1) rfl)) (fun _ h9 => h9) rfl dX1_hasRoom_1 ?_
  refine lv_aload_n hx hb dX1_hasRoom_4 rfl (lv_at hl 0 rfl) ?_
  refine f_get (ci := 1) (fs := xobO g X k) (v := .ref la) hx hb hts hin1 hown hK (hW 0 k _ ho) rfl 2 (by decide) (hts (.fieldLink RX1 11 "ReturnsDesk$Order" "lines" "[LReturnsDesk$Line;") (List.mem_of_getElem? (i := 2) rfl)) (fun _ h9 => h9) (congrArg (fun z => some (va_rf z)) hla) dX1_hasRoom_5 ?_
  refine f_alen (v := 8) hx hb hK 2 rfl (hW 1 k _ hla) rfl dX1_hasRoom_8 ?_
  refine lv_icmp_ge (tgt := 16) hx hb dX1_hasRoom_9 (by decide) (fun c9 => ?_) (fun c9 => ?_)
  · skip
    refine lv_iconst (v := 0) hx hb dX1_hasRoom_16 (by decide) ?_
    exact r_zret hx hb hr hlocks (by decide) (by unfold roomX; rw [if_pos c9] <;> rfl) dX1_hasRoom_17
  · skip
    refine lv_iconst (v := 1) hx hb dX1_hasRoom_12 (by decide) ?_
    refine lv_goto (tgt := 17) hx hb dX1_hasRoom_13 (by decide) ?_
    exact r_zret hx hb hr hlocks (by decide) (by unfold roomX; rw [if_neg c9] <;> rfl) dX1_hasRoom_17
set_option maxHeartbeats 4000000 in
set_option maxRecDepth 100000 in
theorem kX1_priceAnew (l : Launch) {D : va_G} {cI cO cL cJ : ClassId} (g : XG) (X : MS) (hz sz : Nat) (ao la k : Nat) (ho : g 0 k = some ao) (hla : g 1 k = some la) (kk : Nat) (hkk : kk ≤ 8) (hln : ∀ j, j < 8 → (g 2 (8 * k + j) = none ↔ kk ≤ j)) : Met l yX1_priceAnew wsX1_priceAnew ({ frames := 0, cells := 0, slots := 0, locals := 0 } : Room) (xP D cI cO cL cJ g X hz sz [.ref ao]) (vp_Si (fun r : Int32 => r = priceX X k kk)) 0 0 (fun _ => False) := by
  refine x_bodyM (cc := cX1_priceAnew) (maxL := 6) (ret := some .int) (by decide) rfl [.ref ao] (Nat.le_of_ble_eq_true rfl) ?_
  intro p e s m args below meth c hx hb hr hts hown hml hlocks hsz hW hK hE ls hl
  subst hsz
  have hown : s.vm.findClass RX1 = some m.cls := hown
  have hl : lv_has ls 6 [(0, .ref ao)] := hl
  have hin0 : ∀ w ∈ u_ws RX0 TX0 5, w ∈ wsX1_priceAnew := (fun w h => List.mem_cons_of_mem _ (List.mem_append_right _ (h)))
  have hin1 : ∀ w ∈ u_ws RX1 TX1 12, w ∈ wsX1_priceAnew := (fun w h => List.mem_cons_of_mem _ (List.mem_append_left _ (List.mem_append_right _ (h))))
  refine lv_iconst (v := 0) hx hb dX1_priceAnew_0 (by decide) ?_
  refine lv_istore_n (lv' := [(1, .int 0), (0, .ref ao)]) hx hb dX1_priceAnew_1 rfl hl (by decide) rfl (fun ls hl => ?_)
  refine lv_aload_n hx hb dX1_priceAnew_2 rfl (lv_at hl 1 rfl) ?_
  refine f_get (ci := 1) (fs := xobO g X k) (v := .ref la) hx hb hts hin1 hown hK (hW 0 k _ ho) rfl 2 (by decide) (hts (.fieldLink RX1 11 "ReturnsDesk$Order" "lines" "[LReturnsDesk$Line;") (List.mem_of_getElem? (i := 1) rfl)) (fun _ h9 => h9) (congrArg (fun z => some (va_rf z)) hla) dX1_priceAnew_3 ?_
  refine lv_astore_n (lv' := [(2, .ref la), (1, .int 0), (0, .ref ao)]) hx hb dX1_priceAnew_6 rfl hl (by decide) rfl (fun ls hl => ?_)
  refine lv_aload_n hx hb dX1_priceAnew_7 rfl (lv_at hl 0 rfl) ?_
  refine f_alen (v := 8) hx hb hK 2 rfl (hW 1 k _ hla) rfl dX1_priceAnew_8 ?_
  refine lv_istore_n (lv' := [(3, .int 8), (2, .ref la), (1, .int 0), (0, .ref ao)]) hx hb dX1_priceAnew_9 rfl hl (by decide) rfl (fun ls hl => ?_)
  refine lv_iconst (v := 0) hx hb dX1_priceAnew_10 (by decide) ?_
  refine lv_istore (lv' := [(4, .int 0), (3, .int 8), (2, .ref la), (1, .int 0), (0, .ref ao)]) hx hb dX1_priceAnew_11 hl (by decide) rfl (fun ls hl => ?_)
  have loop : ∀ (z i : Nat) (ls : Array Slot), i ≤ 8 → 8 - i < z → lv_has ls 6 [(4, .int (nI i)), (1, .int (sumX X k (min i kk))), (3, .int 8), (2, .ref la), (0, .ref ao)] → W p l e ({ frames := 0, cells := 0, slots := 0, locals := 0 } : Room) s m args below meth c s.heap [] 0 0 (MQ below (vp_Si (fun r : Int32 => r = priceX X k kk)) args s 0 0 (fun _ => False)) (F0 m 13 ls []) := by
    intro z
    induction z with
    | zero => intro i ls h1 h2; exact absurd h2 (by omega)
    | succ z ih =>
      intro i ls hi hz9 hl
      refine lv_iload hx hb dX1_priceAnew_13 (lv_at hl 0 rfl) ?_
      refine lv_iload_n hx hb dX1_priceAnew_15 rfl (lv_at hl 2 rfl) ?_
      refine lv_icmp_ge (tgt := 53) hx hb dX1_priceAnew_16 (by decide) (fun c16 => ?_) (fun c16 => ?_)
      · skip
        have hie : min i kk = kk := by
          rcases Nat.lt_or_ge i 8 with z | z
          · exact absurd c16 (nI_ge z (by decide))
          · omega
        rw [hie] at hl
        refine lv_iload_n hx hb dX1_priceAnew_53 rfl (lv_at hl 1 rfl) ?_
        refine lv_aload_n hx hb dX1_priceAnew_54 rfl (lv_at hl 4 rfl) ?_
        refine f_get (ci := 1) (fs := xobO g X k) (v := .int (X 6 k)) hx hb hts hin1 hown hK (hW 0 k _ ho) rfl 1 (by decide) (hts (.fieldLink RX1 21 "ReturnsDesk$Order" "least" "I") (List.mem_of_getElem? (i := 4) rfl)) (fun _ h9 => h9) rfl dX1_priceAnew_55 ?_
        refine lv_icmp_lt (tgt := 75) hx hb dX1_priceAnew_58 (by decide) (fun c58 => ?_) (fun c58 => ?_)
        · skip
          refine lv_iload_n hx hb dX1_priceAnew_75 rfl (lv_at hl 1 rfl) ?_
          exact r_ret hx hb hr hlocks (by unfold priceX; rw [if_pos c58] <;> rfl) dX1_priceAnew_76
        · skip
          refine lv_iload_n hx hb dX1_priceAnew_61 rfl (lv_at hl 1 rfl) ?_
          refine lv_iload_n hx hb dX1_priceAnew_62 rfl (lv_at hl 1 rfl) ?_
          refine lv_aload_n hx hb dX1_priceAnew_63 rfl (lv_at hl 4 rfl) ?_
          refine f_get (ci := 1) (fs := xobO g X k) (v := .int (X 5 k)) hx hb hts hin1 hown hK (hW 0 k _ ho) rfl 0 (by decide) (hts (.fieldLink RX1 17 "ReturnsDesk$Order" "percent" "I") (List.mem_of_getElem? (i := 5) rfl)) (fun _ h9 => h9) rfl dX1_priceAnew_64 ?_
          refine lv_imul hx hb dX1_priceAnew_67 ?_
          refine lv_bipush (v := 100) hx hb dX1_priceAnew_68 (by decide) ?_
          refine lv_idiv hx hb dX1_priceAnew_70 (by decide) ?_
          refine lv_isub hx hb dX1_priceAnew_71 ?_
          refine lv_goto (tgt := 76) hx hb dX1_priceAnew_72 (by decide) ?_
          exact r_ret hx hb hr hlocks (by unfold priceX; rw [if_neg c58] <;> rfl) dX1_priceAnew_76
      · skip
        have hi9 : i < 8 := Nat.not_le.mp (fun z => c16 (nI_le (a := 8) z (by omega)))
        refine lv_aload_n hx hb dX1_priceAnew_19 rfl (lv_at hl 3 rfl) ?_
        refine lv_iload hx hb dX1_priceAnew_20 (lv_at hl 0 rfl) ?_
        rcases hq22 : g 2 (8 * k + i) with _ | al
        · skip
          have hmn : min (i + 1) kk = min i kk := by have := (hln i hi9).mp hq22; omega
          refine f_aaldV (v := .null) hx hb hK 2 rfl (hW 1 k _ hla) rfl (show i < 8 by omega) (by decide) (congrArg va_rf hq22) dX1_priceAnew_22 ?_
          refine lv_astoreN (lv' := [(5, .null), (4, .int (nI i)), (1, .int (sumX X k (min i kk))), (3, .int 8), (2, .ref la), (0, .ref ao)]) hx hb dX1_priceAnew_23 hl (by decide) rfl (fun ls hl => ?_)
          refine lv_aloadN hx hb dX1_priceAnew_25 (lv_at hl 0 rfl) ?_
          refine lv_ifnullN (tgt := 47) hx hb dX1_priceAnew_27 (by decide) ?_
          refine lv_iinc (v := nI (i + 1)) (lv' := [(4, .int (nI (i + 1))), (5, .null), (1, .int (sumX X k (min i kk))), (3, .int 8), (2, .ref la), (0, .ref ao)]) hx hb dX1_priceAnew_47 hl (k := 1) rfl (nI_addx (a := i) (b := 1) rfl rfl) (by decide) rfl (fun ls hl => ?_)
          refine lv_goto (tgt := 13) hx hb dX1_priceAnew_50 (by decide) ?_
          have hse : sumX X k (min (i + 1) kk) = sumX X k (min i kk) := (by rw [hmn])
          exact ih (i + 1) ls (by omega) (by omega) (by rw [hse]; exact lv_sub hl [0, 2, 3, 4, 5] rfl)
        · skip
          have hik : i < kk := by rcases Nat.lt_or_ge i kk with z | z; exact z; exact absurd ((hln i hi9).mpr z) (by rw [hq22]; intro h; cases h)
          have hmi : min i kk = i := by omega
          have hmn : min (i + 1) kk = i + 1 := by omega
          refine f_aaldV (v := .ref al) hx hb hK 2 rfl (hW 1 k _ hla) rfl (show i < 8 by omega) (by decide) (congrArg va_rf hq22) dX1_priceAnew_22 ?_
          refine lv_astore (lv' := [(5, .ref al), (4, .int (nI i)), (1, .int (sumX X k (min i kk))), (3, .int 8), (2, .ref la), (0, .ref ao)]) hx hb dX1_priceAnew_23 hl (by decide) rfl (fun ls hl => ?_)
          refine lv_aload hx hb dX1_priceAnew_25 (lv_at hl 0 rfl) ?_
          refine lv_ifnull hx hb dX1_priceAnew_27 ?_
          refine lv_aload hx hb dX1_priceAnew_30 (lv_at hl 0 rfl) ?_
          refine f_get (ci := 0) (fs := xobL X (8 * k + i)) (v := .int (X 18 (8 * k + i))) hx hb hts hin0 hown hK (hW 2 (8 * k + i) _ hq22) rfl 2 (by decide) (hts (.fieldLink RX1 53 "ReturnsDesk$Line" "state" "I") (List.mem_of_getElem? (i := 2) rfl)) (fun _ h9 => h9) rfl dX1_priceAnew_32 ?_
          refine lv_iconst (v := 3) hx hb dX1_priceAnew_35 (by decide) ?_
          refine lv_icmp_eq (tgt := 47) hx hb dX1_priceAnew_36 (by decide) (fun c36 => ?_) (fun c36 => ?_)
          · skip
            refine lv_iinc (v := nI (i + 1)) (lv' := [(4, .int (nI (i + 1))), (5, .ref al), (1, .int (sumX X k (min i kk))), (3, .int 8), (2, .ref la), (0, .ref ao)]) hx hb dX1_priceAnew_47 hl (k := 1) rfl (nI_addx (a := i) (b := 1) rfl rfl) (by decide) rfl (fun ls hl => ?_)
            refine lv_goto (tgt := 13) hx hb dX1_priceAnew_50 (by decide) ?_
            have hse : sumX X k (min (i + 1) kk) = sumX X k (min i kk) := (by rw [hmn, hmi]; rw [sumX, if_pos c36])
            exact ih (i + 1) ls (by omega) (by omega) (by rw [hse]; exact lv_sub hl [0, 2, 3, 4, 5] rfl)
          · skip
            refine lv_iload_n hx hb dX1_priceAnew_39 rfl (lv_at hl 2 rfl) ?_
            refine lv_aload hx hb dX1_priceAnew_40 (lv_at hl 0 rfl) ?_
            refine f_get (ci := 0) (fs := xobL X (8 * k + i)) (v := .int (X 16 (8 * k + i))) hx hb hts hin0 hown hK (hW 2 (8 * k + i) _ hq22) rfl 0 (by decide) (hts (.fieldLink RX1 56 "ReturnsDesk$Line" "price" "I") (List.mem_of_getElem? (i := 3) rfl)) (fun _ h9 => h9) rfl dX1_priceAnew_42 ?_
            refine lv_iadd hx hb dX1_priceAnew_45 ?_
            refine lv_istore_n (lv' := [(1, .int ((sumX X k (min i kk)) + (X 16 (8 * k + i)))), (5, .ref al), (4, .int (nI i)), (3, .int 8), (2, .ref la), (0, .ref ao)]) hx hb dX1_priceAnew_46 rfl hl (by decide) rfl (fun ls hl => ?_)
            refine lv_iinc (v := nI (i + 1)) (lv' := [(4, .int (nI (i + 1))), (1, .int ((sumX X k (min i kk)) + (X 16 (8 * k + i)))), (5, .ref al), (3, .int 8), (2, .ref la), (0, .ref ao)]) hx hb dX1_priceAnew_47 hl (k := 2) rfl (nI_addx (a := i) (b := 1) rfl rfl) (by decide) rfl (fun ls hl => ?_)
            refine lv_goto (tgt := 13) hx hb dX1_priceAnew_50 (by decide) ?_
            have hse : sumX X k (min (i + 1) kk) = (sumX X k (min i kk)) + (X 16 (8 * k + i)) := (by rw [hmn, hmi]; rw [sumX, if_neg c36])
            exact ih (i + 1) ls (by omega) (by omega) (by rw [hse]; exact lv_sub hl [0, 1, 3, 4, 5] rfl)
  exact loop 9 0 ls (by decide) (by decide) (lv_sub hl [0, 3, 1, 2, 4] rfl)
set_option maxHeartbeats 4000000 in
set_option maxRecDepth 100000 in
theorem kX1_owed (l : Launch) {D : va_G} {cI cO cL cJ : ClassId} (g : XG) (X : MS) (hz sz : Nat) (ao la k : Nat) (ho : g 0 k = some ao) (hla : g 1 k = some la) (kk : Nat) (hkk : kk ≤ 8) (hln : ∀ j, j < 8 → (g 2 (8 * k + j) = none ↔ kk ≤ j)) : Met l yX1_owed wsX1_owed ({ frames := 1, cells := 0, slots := 0, locals := 25 } : Room) (xP D cI cO cL cJ g X hz sz [.ref ao]) (vp_Si (fun r : Int32 => r = owedX X k kk)) 0 0 (fun _ => False) := by
  refine x_bodyM (cc := cX1_owed) (maxL := 1) (ret := some .int) (by decide) rfl [.ref ao] (Nat.le_of_ble_eq_true rfl) ?_
  intro p e s m args below meth c hx hb hr hts hown hml hlocks hsz hW hK hE ls hl
  subst hsz
  have hown : s.vm.findClass RX1 = some m.cls := hown
  have hl : lv_has ls 1 [(0, .ref ao)] := hl
  have hin0 : ∀ w ∈ u_ws RX0 TX0 5, w ∈ wsX1_owed := (fun w h => List.mem_cons_of_mem _ (List.mem_append_right _ (h)))
  have hin1 : ∀ w ∈ u_ws RX1 TX1 12, w ∈ wsX1_owed := (fun w h => List.mem_cons_of_mem _ (List.mem_append_left _ (List.mem_append_right _ (h))))
  refine lv_aload_n hx hb dX1_owed_0 rfl (lv_at hl 0 rfl) ?_
  refine vp_callSi (va_runV (As := []) (rest := []) (b := ao) ⟨hx, hb, hml, hown, hts⟩ (kX1_priceAnew l g X hz _ ao la k ho hla kk hkk hln) (cwV 0 hts gX1_owed_X1_priceAnew rfl rfl rfl (by decide +kernel) ⟨Nat.le_of_ble_eq_true rfl, Nat.le_of_ble_eq_true rfl⟩) (x_preV hW hK hE (x_recvO hK hW ho)) rfl rfl hl.1 rfl (lv_room (Nat.le_of_ble_eq_true rfl)) dX1_owed_1 ⟨Nat.le_of_ble_eq_true rfl, Nat.le_of_ble_eq_true rfl⟩).run (fun r hp => ?_)
  subst hp
  refine lv_aload_n hx hb dX1_owed_4 rfl (lv_at hl 0 rfl) ?_
  refine f_get (ci := 1) (fs := xobO g X k) (v := .int (X 10 k)) hx hb hts hin1 hown hK (hW 0 k _ ho) rfl 6 (by decide) (hts (.fieldLink RX1 59 "ReturnsDesk$Order" "fees" "I") (List.mem_of_getElem? (i := 1) rfl)) (fun _ h9 => h9) rfl dX1_owed_5 ?_
  refine lv_iadd hx hb dX1_owed_8 ?_
  refine lv_aload_n hx hb dX1_owed_9 rfl (lv_at hl 0 rfl) ?_
  refine f_get (ci := 1) (fs := xobO g X k) (v := .int (X 11 k)) hx hb hts hin1 hown hK (hW 0 k _ ho) rfl 7 (by decide) (hts (.fieldLink RX1 62 "ReturnsDesk$Order" "charges" "I") (List.mem_of_getElem? (i := 2) rfl)) (fun _ h9 => h9) rfl dX1_owed_10 ?_
  refine lv_iadd hx hb dX1_owed_13 ?_
  exact r_ret hx hb hr hlocks rfl dX1_owed_14
set_option maxHeartbeats 4000000 in
set_option maxRecDepth 100000 in
theorem kX1_charge (l : Launch) {D : va_G} {cI cO cL cJ : ClassId} (g : XG) (X : MS) (hz sz : Nat) (hI : xI g) (hO : xO g hz sz) (ao la k : Nat) (ho : g 0 k = some ao) (hla : g 1 k = some la) (v : Int32) : Met l yX1_charge wsX1_charge ({ frames := 0, cells := 0, slots := 0, locals := 0 } : Room) (xP D cI cO cL cJ g X hz sz [.ref ao, .int v]) (xQv D cO cL g sz (fun X9 : MS => X9 = chX X k v)) 0 0 (xA g sz) := by
  refine x_bodyM (cc := cX1_charge) (maxL := 2) (ret := none) (by decide) rfl [.ref ao, .int v] (Nat.le_of_ble_eq_true rfl) ?_
  intro p e s m args below meth c hx hb hr hts hown hml hlocks hsz hW hK hE ls hl
  subst hsz
  have hown : s.vm.findClass RX1 = some m.cls := hown
  have hl : lv_has ls 2 [(0, .ref ao), (1, .int v)] := hl
  have hin1 : ∀ w ∈ u_ws RX1 TX1 12, w ∈ wsX1_charge := (fun w h => List.mem_cons_of_mem _ (List.mem_append_right _ (h)))
  have hS : va_S (xA g s.heap.size) s.heap s.heap [] := va_S.rf
  refine lv_aload_n hx hb dX1_charge_0 rfl (lv_at hl 0 rfl) ?_
  refine lv_dup hx hb dX1_charge_1 rfl ?_
  refine f_get (ci := 1) (fs := xobO g X k) (v := .int (X 11 k)) hx hb hts hin1 hown hK (hW 0 k _ ho) rfl 7 (by decide) (hts (.fieldLink RX1 62 "ReturnsDesk$Order" "charges" "I") (List.mem_of_getElem? (i := 1) rfl)) (fun _ h9 => h9) rfl dX1_charge_2 ?_
  refine lv_iload_n hx hb dX1_charge_5 rfl (lv_at hl 1 rfl) ?_
  refine lv_iadd hx hb dX1_charge_6 ?_
  refine x_putO hx hb hts hin1 hown hK hI hW hS ho (Or.inl ⟨0, k, ho⟩) 7 11 (by decide) (hts (.fieldLink RX1 62 "ReturnsDesk$Order" "charges" "I") (List.mem_of_getElem? (i := 1) rfl)) (fun _ h9 => h9) .int (tyX1_ok 7 (by decide)) rfl rfl dX1_charge_7 (fun H locs hW hz1 _ hS => ?_)
  refine lv_aload_n hx hb dX1_charge_10 rfl (lv_at hl 0 rfl) ?_
  refine lv_dup hx hb dX1_charge_11 rfl ?_
  refine f_get (ci := 1) (fs := xobO g (mu X 11 k ((X 11 k) + v)) k) (v := .int (X 13 k)) hx hb hts hin1 hown hK (hW 0 k _ ho) rfl 9 (by decide) (hts (.fieldLink RX1 43 "ReturnsDesk$Order" "byCard" "I") (List.mem_of_getElem? (i := 2) rfl)) (fun _ h9 => h9) (congrArg (fun z => some (Value.int z)) (mu_f _ _ _ _ (by decide))) dX1_charge_12 ?_
  refine lv_iload_n hx hb dX1_charge_15 rfl (lv_at hl 1 rfl) ?_
  refine lv_iadd hx hb dX1_charge_16 ?_
  refine x_putO hx hb hts hin1 hown hK hI hW hS ho (Or.inl ⟨0, k, ho⟩) 9 13 (by decide) (hts (.fieldLink RX1 43 "ReturnsDesk$Order" "byCard" "I") (List.mem_of_getElem? (i := 2) rfl)) (fun _ h9 => h9) .int (tyX1_ok 9 (by decide)) rfl rfl dX1_charge_17 (fun H locs hW hz1 _ hS => ?_)
  exact xw_vretM hx hb hr hlocks ⟨Nat.le_of_ble_eq_true rfl, Nat.le_of_ble_eq_true rfl⟩ hW hS rfl dX1_charge_20
set_option maxHeartbeats 4000000 in
set_option maxRecDepth 100000 in
theorem kX1_settle (l : Launch) {D : va_G} {cI cO cL cJ : ClassId} (g : XG) (X : MS) (hz sz : Nat) (hI : xI g) (hO : xO g hz sz) (ao la k : Nat) (ho : g 0 k = some ao) (hla : g 1 k = some la) (kk : Nat) (hkk : kk ≤ 8) (hln : ∀ j, j < 8 → (g 2 (8 * k + j) = none ↔ kk ≤ j)) (p1 p2 p3 : Int32) : Met l yX1_settle wsX1_settle ({ frames := 1, cells := 0, slots := 0, locals := 25 } : Room) (xP D cI cO cL cJ g X hz sz [.ref ao, .int p1, .int p2, .int p3]) (xQv D cO cL g sz (fun X9 : MS => X9 = settleX X k kk p1 p2 p3)) 0 0 (xA g sz) := by
  refine x_bodyM (cc := cX1_settle) (maxL := 5) (ret := none) (by decide) rfl [.ref ao, .int p1, .int p2, .int p3] (Nat.le_of_ble_eq_true rfl) ?_
  intro p e s m args below meth c hx hb hr hts hown hml hlocks hsz hW hK hE ls hl
  subst hsz
  have hown : s.vm.findClass RX1 = some m.cls := hown
  have hl : lv_has ls 5 [(0, .ref ao), (1, .int p1), (2, .int p2), (3, .int p3)] := hl
  have hin0 : ∀ w ∈ u_ws RX0 TX0 5, w ∈ wsX1_settle := (fun w h => List.mem_cons_of_mem _ (List.mem_append_right _ (h)))
  have hin1 : ∀ w ∈ u_ws RX1 TX1 12, w ∈ wsX1_settle := (fun w h => List.mem_cons_of_mem _ (List.mem_append_left _ (List.mem_append_right _ (h))))
  have hS : va_S (xA g s.heap.size) s.heap s.heap [] := va_S.rf
  refine lv_aload_n hx hb dX1_settle_0 rfl (lv_at hl 0 rfl) ?_
  refine vp_callSi (va_runV (As := []) (rest := []) (b := ao) ⟨hx, hb, hml, hown, hts⟩ (kX1_priceAnew l g X hz _ ao la k ho hla kk hkk hln) (cwV 0 hts gX1_settle_X1_priceAnew rfl rfl rfl (by decide +kernel) ⟨Nat.le_of_ble_eq_true rfl, Nat.le_of_ble_eq_true rfl⟩) (x_preV hW hK hE (x_recvO hK hW ho)) rfl rfl hl.1 rfl (lv_room (Nat.le_of_ble_eq_true rfl)) dX1_settle_1 ⟨Nat.le_of_ble_eq_true rfl, Nat.le_of_ble_eq_true rfl⟩).run (fun r hp => ?_)
  subst hp
  refine lv_istore (lv' := [(4, .int (priceX X k kk)), (0, .ref ao), (1, .int p1), (2, .int p2), (3, .int p3)]) hx hb dX1_settle_4 hl (by decide) rfl (fun ls hl => ?_)
  refine lv_aload_n hx hb dX1_settle_6 rfl (lv_at hl 1 rfl) ?_
  refine lv_iload_n hx hb dX1_settle_7 rfl (lv_at hl 2 rfl) ?_
  refine lv_iload hx hb dX1_settle_8 (lv_at hl 0 rfl) ?_
  refine va_mmin hx hb (hml.trans hl.1.symm) hown (hts (.methodLink RX1 31 Lib.Math.min.name) (List.mem_of_getElem? (i := 1) rfl)) (hts (.static Lib.Math.min.name) (List.mem_of_getElem? (i := 2) rfl)) (hts (.initialized "java/lang/Math") (List.mem_of_getElem? (i := 3) rfl)) (hts (.code Lib.Math.min.name Lib.Math.min.code 2 (some .int)) (List.mem_of_getElem? (i := 4) rfl)) (Nat.le_of_ble_eq_true rfl) (Nat.le_of_ble_eq_true rfl) (Nat.zero_le _) (Nat.zero_le _) dX1_settle_10 ?_
  refine cv (y := minI p1 (priceX X k kk)) rfl ?_
  refine x_putO hx hb hts hin1 hown hK hI hW hS ho (Or.inl ⟨0, k, ho⟩) 11 15 (by decide) (hts (.fieldLink RX1 37 "ReturnsDesk$Order" "byPoints" "I") (List.mem_of_getElem? (i := 5) rfl)) (fun _ h9 => h9) .int (tyX1_ok 11 (by decide)) rfl rfl dX1_settle_13 (fun H locs hW hz1 _ hS => ?_)
  refine lv_aload_n hx hb dX1_settle_16 rfl (lv_at hl 1 rfl) ?_
  refine lv_iload_n hx hb dX1_settle_17 rfl (lv_at hl 3 rfl) ?_
  refine lv_iload hx hb dX1_settle_18 (lv_at hl 0 rfl) ?_
  refine lv_aload_n hx hb dX1_settle_20 rfl (lv_at hl 1 rfl) ?_
  refine f_get (ci := 1) (fs := xobO g (mu X 15 k (minI p1 (priceX X k kk))) k) (v := .int (minI p1 (priceX X k kk))) hx hb hts hin1 hown hK (hW 0 k _ ho) rfl 11 (by decide) (hts (.fieldLink RX1 37 "ReturnsDesk$Order" "byPoints" "I") (List.mem_of_getElem? (i := 5) rfl)) (fun _ h9 => h9) (congrArg (fun z => some (Value.int z)) (mu_s _ _ _ _)) dX1_settle_21 ?_
  refine lv_isub hx hb dX1_settle_24 ?_
  refine va_mmin hx hb (hml.trans hl.1.symm) hown (hts (.methodLink RX1 31 Lib.Math.min.name) (List.mem_of_getElem? (i := 1) rfl)) (hts (.static Lib.Math.min.name) (List.mem_of_getElem? (i := 2) rfl)) (hts (.initialized "java/lang/Math") (List.mem_of_getElem? (i := 3) rfl)) (hts (.code Lib.Math.min.name Lib.Math.min.code 2 (some .int)) (List.mem_of_getElem? (i := 4) rfl)) (Nat.le_of_ble_eq_true rfl) (Nat.le_of_ble_eq_true rfl) (Nat.zero_le _) (Nat.zero_le _) dX1_settle_25 ?_
  refine cv (y := minI p2 ((priceX X k kk) - (minI p1 (priceX X k kk)))) rfl ?_
  refine x_putO hx hb hts hin1 hown hK hI hW hS ho (Or.inl ⟨0, k, ho⟩) 10 14 (by decide) (hts (.fieldLink RX1 40 "ReturnsDesk$Order" "byVoucher" "I") (List.mem_of_getElem? (i := 6) rfl)) (fun _ h9 => h9) .int (tyX1_ok 10 (by decide)) rfl rfl dX1_settle_28 (fun H locs hW hz1 _ hS => ?_)
  refine lv_aload_n hx hb dX1_settle_31 rfl (lv_at hl 1 rfl) ?_
  refine lv_iload hx hb dX1_settle_32 (lv_at hl 0 rfl) ?_
  refine lv_aload_n hx hb dX1_settle_34 rfl (lv_at hl 1 rfl) ?_
  refine f_get (ci := 1) (fs := xobO g (mu (mu X 15 k (minI p1 (priceX X k kk))) 14 k (minI p2 ((priceX X k kk) - (minI p1 (priceX X k kk))))) k) (v := .int (minI p1 (priceX X k kk))) hx hb hts hin1 hown hK (hW 0 k _ ho) rfl 11 (by decide) (hts (.fieldLink RX1 37 "ReturnsDesk$Order" "byPoints" "I") (List.mem_of_getElem? (i := 5) rfl)) (fun _ h9 => h9) (congrArg (fun z => some (Value.int z)) ((mu_f _ _ _ _ (by decide)).trans (mu_s _ _ _ _))) dX1_settle_35 ?_
  refine lv_isub hx hb dX1_settle_38 ?_
  refine lv_aload_n hx hb dX1_settle_39 rfl (lv_at hl 1 rfl) ?_
  refine f_get (ci := 1) (fs := xobO g (mu (mu X 15 k (minI p1 (priceX X k kk))) 14 k (minI p2 ((priceX X k kk) - (minI p1 (priceX X k kk))))) k) (v := .int (minI p2 ((priceX X k kk) - (minI p1 (priceX X k kk))))) hx hb hts hin1 hown hK (hW 0 k _ ho) rfl 10 (by decide) (hts (.fieldLink RX1 40 "ReturnsDesk$Order" "byVoucher" "I") (List.mem_of_getElem? (i := 6) rfl)) (fun _ h9 => h9) (congrArg (fun z => some (Value.int z)) (mu_s _ _ _ _)) dX1_settle_40 ?_
  refine lv_isub hx hb dX1_settle_43 ?_
  refine x_putO hx hb hts hin1 hown hK hI hW hS ho (Or.inl ⟨0, k, ho⟩) 9 13 (by decide) (hts (.fieldLink RX1 43 "ReturnsDesk$Order" "byCard" "I") (List.mem_of_getElem? (i := 7) rfl)) (fun _ h9 => h9) .int (tyX1_ok 9 (by decide)) rfl rfl dX1_settle_44 (fun H locs hW hz1 _ hS => ?_)
  refine lv_aload_n hx hb dX1_settle_47 rfl (lv_at hl 1 rfl) ?_
  refine lv_iconst (v := 1) hx hb dX1_settle_48 (by decide) ?_
  refine x_putO hx hb hts hin1 hown hK hI hW hS ho (Or.inl ⟨0, k, ho⟩) 4 8 (by decide) (hts (.fieldLink RX1 46 "ReturnsDesk$Order" "isPaid" "Z") (List.mem_of_getElem? (i := 8) rfl)) (fun _ h9 => h9) .boolean (tyX1_ok 4 (by decide)) rfl rfl dX1_settle_49 (fun H locs hW hz1 _ hS => ?_)
  refine lv_aload_n hx hb dX1_settle_52 rfl (lv_at hl 1 rfl) ?_
  refine lv_iload_n hx hb dX1_settle_53 rfl (lv_at hl 4 rfl) ?_
  refine x_putO hx hb hts hin1 hown hK hI hW hS ho (Or.inl ⟨0, k, ho⟩) 5 9 (by decide) (hts (.fieldLink RX1 50 "ReturnsDesk$Order" "paidOn" "I") (List.mem_of_getElem? (i := 9) rfl)) (fun _ h9 => h9) .int (tyX1_ok 5 (by decide)) rfl rfl dX1_settle_54 (fun H locs hW hz1 _ hS => ?_)
  exact xw_vretM hx hb hr hlocks ⟨Nat.le_of_ble_eq_true rfl, Nat.le_of_ble_eq_true rfl⟩ hW hS rfl dX1_settle_57
set_option maxHeartbeats 4000000 in
set_option maxRecDepth 100000 in
theorem kX1_refundSurplus (l : Launch) {D : va_G} {cI cO cL cJ : ClassId} (g : XG) (X : MS) (hz sz : Nat) (hI : xI g) (hO : xO g hz sz) (ao la k : Nat) (ho : g 0 k = some ao) (hla : g 1 k = some la) (kk : Nat) (hkk : kk ≤ 8) (hln : ∀ j, j < 8 → (g 2 (8 * k + j) = none ↔ kk ≤ j)) : Met l yX1_refundSurplus wsX1_refundSurplus ({ frames := 2, cells := 0, slots := 0, locals := 45 } : Room) (xP D cI cO cL cJ g X hz sz [.ref ao]) (xQi D cO cL g sz (fun (r : Int32) (X9 : MS) => (r, X9) = refundX X k kk)) 0 0 (xA g sz) := by
  refine x_bodyM (cc := cX1_refundSurplus) (maxL := 4) (ret := some .int) (by decide) rfl [.ref ao] (Nat.le_of_ble_eq_true rfl) ?_
  intro p e s m args below meth c hx hb hr hts hown hml hlocks hsz hW hK hE ls hl
  subst hsz
  have hown : s.vm.findClass RX1 = some m.cls := hown
  have hl : lv_has ls 4 [(0, .ref ao)] := hl
  have hin0 : ∀ w ∈ u_ws RX0 TX0 5, w ∈ wsX1_refundSurplus := (fun w h => List.mem_cons_of_mem _ (List.mem_append_right _ (h)))
  have hin1 : ∀ w ∈ u_ws RX1 TX1 12, w ∈ wsX1_refundSurplus := (fun w h => List.mem_cons_of_mem _ (List.mem_append_left _ (List.mem_append_right _ (h))))
  have hS : va_S (xA g s.heap.size) s.heap s.heap [] := va_S.rf
  refine lv_aload_n hx hb dX1_refundSurplus_0 rfl (lv_at hl 0 rfl) ?_
  refine vp_callSi (va_runV (As := []) (rest := []) (b := ao) ⟨hx, hb, hml, hown, hts⟩ (kX1_allTaken l g X hz _ ao la k ho hla) (cwV 0 hts gX1_refundSurplus_X1_allTaken rfl rfl rfl (by decide +kernel) ⟨Nat.le_of_ble_eq_true rfl, Nat.le_of_ble_eq_true rfl⟩) (x_preV hW hK hE (x_recvO hK hW ho)) rfl rfl hl.1 rfl (lv_room (Nat.le_of_ble_eq_true rfl)) dX1_refundSurplus_1 ⟨Nat.le_of_ble_eq_true rfl, Nat.le_of_ble_eq_true rfl⟩).run (fun r hp => ?_)
  subst hp
  refine lv_aload_n hx hb dX1_refundSurplus_4 rfl (lv_at hl 0 rfl) ?_
  refine vp_callSi (va_runV (As := []) (rest := [.int (takenX X k)]) (b := ao) ⟨hx, hb, hml, hown, hts⟩ (kX1_owed l g X hz _ ao la k ho hla kk hkk hln) (cwV 0 hts gX1_refundSurplus_X1_owed rfl rfl rfl (by decide +kernel) ⟨Nat.le_of_ble_eq_true rfl, Nat.le_of_ble_eq_true rfl⟩) (x_preV hW hK hE (x_recvO hK hW ho)) rfl rfl hl.1 rfl (lv_room (Nat.le_of_ble_eq_true rfl)) dX1_refundSurplus_5 ⟨Nat.le_of_ble_eq_true rfl, Nat.le_of_ble_eq_true rfl⟩).run (fun r hp => ?_)
  subst hp
  refine lv_isub hx hb dX1_refundSurplus_8 ?_
  refine lv_iconst (v := 0) hx hb dX1_refundSurplus_9 (by decide) ?_
  refine va_mmax hx hb (hml.trans hl.1.symm) hown (hts (.methodLink RX1 71 Lib.Math.max.name) (List.mem_of_getElem? (i := 1) rfl)) (hts (.static Lib.Math.max.name) (List.mem_of_getElem? (i := 2) rfl)) (hts (.initialized "java/lang/Math") (List.mem_of_getElem? (i := 3) rfl)) (hts (.code Lib.Math.max.name Lib.Math.max.code 2 (some .int)) (List.mem_of_getElem? (i := 4) rfl)) (Nat.le_of_ble_eq_true rfl) (Nat.le_of_ble_eq_true rfl) (Nat.zero_le _) (Nat.zero_le _) dX1_refundSurplus_10 ?_
  refine cv (y := maxI ((takenX X k) - (owedX X k kk)) 0) rfl ?_
  refine lv_istore_n (lv' := [(1, .int (maxI ((takenX X k) - (owedX X k kk)) 0)), (0, .ref ao)]) hx hb dX1_refundSurplus_13 rfl hl (by decide) rfl (fun ls hl => ?_)
  refine lv_iload_n hx hb dX1_refundSurplus_14 rfl (lv_at hl 0 rfl) ?_
  refine lv_aload_n hx hb dX1_refundSurplus_15 rfl (lv_at hl 1 rfl) ?_
  refine f_get (ci := 1) (fs := xobO g X k) (v := .int (X 13 k)) hx hb hts hin1 hown hK (hW 0 k _ ho) rfl 9 (by decide) (hts (.fieldLink RX1 43 "ReturnsDesk$Order" "byCard" "I") (List.mem_of_getElem? (i := 5) rfl)) (fun _ h9 => h9) rfl dX1_refundSurplus_16 ?_
  refine va_mmin hx hb (hml.trans hl.1.symm) hown (hts (.methodLink RX1 31 Lib.Math.min.name) (List.mem_of_getElem? (i := 6) rfl)) (hts (.static Lib.Math.min.name) (List.mem_of_getElem? (i := 7) rfl)) (hts (.initialized "java/lang/Math") (List.mem_of_getElem? (i := 3) rfl)) (hts (.code Lib.Math.min.name Lib.Math.min.code 2 (some .int)) (List.mem_of_getElem? (i := 8) rfl)) (Nat.le_of_ble_eq_true rfl) (Nat.le_of_ble_eq_true rfl) (Nat.zero_le _) (Nat.zero_le _) dX1_refundSurplus_19 ?_
  refine cv (y := minI (maxI ((takenX X k) - (owedX X k kk)) 0) (X 13 k)) rfl ?_
  refine lv_istore_n (lv' := [(2, .int (minI (maxI ((takenX X k) - (owedX X k kk)) 0) (X 13 k))), (1, .int (maxI ((takenX X k) - (owedX X k kk)) 0)), (0, .ref ao)]) hx hb dX1_refundSurplus_22 rfl hl (by decide) rfl (fun ls hl => ?_)
  refine lv_iload_n hx hb dX1_refundSurplus_23 rfl (lv_at hl 1 rfl) ?_
  refine lv_iload_n hx hb dX1_refundSurplus_24 rfl (lv_at hl 0 rfl) ?_
  refine lv_isub hx hb dX1_refundSurplus_25 ?_
  refine lv_aload_n hx hb dX1_refundSurplus_26 rfl (lv_at hl 2 rfl) ?_
  refine f_get (ci := 1) (fs := xobO g X k) (v := .int (X 14 k)) hx hb hts hin1 hown hK (hW 0 k _ ho) rfl 10 (by decide) (hts (.fieldLink RX1 40 "ReturnsDesk$Order" "byVoucher" "I") (List.mem_of_getElem? (i := 9) rfl)) (fun _ h9 => h9) rfl dX1_refundSurplus_27 ?_
  refine va_mmin hx hb (hml.trans hl.1.symm) hown (hts (.methodLink RX1 31 Lib.Math.min.name) (List.mem_of_getElem? (i := 6) rfl)) (hts (.static Lib.Math.min.name) (List.mem_of_getElem? (i := 7) rfl)) (hts (.initialized "java/lang/Math") (List.mem_of_getElem? (i := 3) rfl)) (hts (.code Lib.Math.min.name Lib.Math.min.code 2 (some .int)) (List.mem_of_getElem? (i := 8) rfl)) (Nat.le_of_ble_eq_true rfl) (Nat.le_of_ble_eq_true rfl) (Nat.zero_le _) (Nat.zero_le _) dX1_refundSurplus_30 ?_
  refine cv (y := minI ((maxI ((takenX X k) - (owedX X k kk)) 0) - (minI (maxI ((takenX X k) - (owedX X k kk)) 0) (X 13 k))) (X 14 k)) rfl ?_
  refine lv_istore_n (lv' := [(3, .int (minI ((maxI ((takenX X k) - (owedX X k kk)) 0) - (minI (maxI ((takenX X k) - (owedX X k kk)) 0) (X 13 k))) (X 14 k))), (2, .int (minI (maxI ((takenX X k) - (owedX X k kk)) 0) (X 13 k))), (1, .int (maxI ((takenX X k) - (owedX X k kk)) 0)), (0, .ref ao)]) hx hb dX1_refundSurplus_33 rfl hl (by decide) rfl (fun ls hl => ?_)
  refine lv_aload_n hx hb dX1_refundSurplus_34 rfl (lv_at hl 3 rfl) ?_
  refine lv_dup hx hb dX1_refundSurplus_35 rfl ?_
  refine f_get (ci := 1) (fs := xobO g X k) (v := .int (X 13 k)) hx hb hts hin1 hown hK (hW 0 k _ ho) rfl 9 (by decide) (hts (.fieldLink RX1 43 "ReturnsDesk$Order" "byCard" "I") (List.mem_of_getElem? (i := 5) rfl)) (fun _ h9 => h9) rfl dX1_refundSurplus_36 ?_
  refine lv_iload_n hx hb dX1_refundSurplus_39 rfl (lv_at hl 1 rfl) ?_
  refine lv_isub hx hb dX1_refundSurplus_40 ?_
  refine x_putO hx hb hts hin1 hown hK hI hW hS ho (Or.inl ⟨0, k, ho⟩) 9 13 (by decide) (hts (.fieldLink RX1 43 "ReturnsDesk$Order" "byCard" "I") (List.mem_of_getElem? (i := 5) rfl)) (fun _ h9 => h9) .int (tyX1_ok 9 (by decide)) rfl rfl dX1_refundSurplus_41 (fun H locs hW hz1 _ hS => ?_)
  refine lv_aload_n hx hb dX1_refundSurplus_44 rfl (lv_at hl 3 rfl) ?_
  refine lv_dup hx hb dX1_refundSurplus_45 rfl ?_
  refine f_get (ci := 1) (fs := xobO g (mu X 13 k ((X 13 k) - (minI (maxI ((takenX X k) - (owedX X k kk)) 0) (X 13 k)))) k) (v := .int (X 14 k)) hx hb hts hin1 hown hK (hW 0 k _ ho) rfl 10 (by decide) (hts (.fieldLink RX1 40 "ReturnsDesk$Order" "byVoucher" "I") (List.mem_of_getElem? (i := 9) rfl)) (fun _ h9 => h9) (congrArg (fun z => some (Value.int z)) (mu_f _ _ _ _ (by decide))) dX1_refundSurplus_46 ?_
  refine lv_iload_n hx hb dX1_refundSurplus_49 rfl (lv_at hl 0 rfl) ?_
  refine lv_isub hx hb dX1_refundSurplus_50 ?_
  refine x_putO hx hb hts hin1 hown hK hI hW hS ho (Or.inl ⟨0, k, ho⟩) 10 14 (by decide) (hts (.fieldLink RX1 40 "ReturnsDesk$Order" "byVoucher" "I") (List.mem_of_getElem? (i := 9) rfl)) (fun _ h9 => h9) .int (tyX1_ok 10 (by decide)) rfl rfl dX1_refundSurplus_51 (fun H locs hW hz1 _ hS => ?_)
  refine lv_aload_n hx hb dX1_refundSurplus_54 rfl (lv_at hl 3 rfl) ?_
  refine lv_dup hx hb dX1_refundSurplus_55 rfl ?_
  refine f_get (ci := 1) (fs := xobO g (mu (mu X 13 k ((X 13 k) - (minI (maxI ((takenX X k) - (owedX X k kk)) 0) (X 13 k)))) 14 k ((X 14 k) - (minI ((maxI ((takenX X k) - (owedX X k kk)) 0) - (minI (maxI ((takenX X k) - (owedX X k kk)) 0) (X 13 k))) (X 14 k)))) k) (v := .int (X 15 k)) hx hb hts hin1 hown hK (hW 0 k _ ho) rfl 11 (by decide) (hts (.fieldLink RX1 37 "ReturnsDesk$Order" "byPoints" "I") (List.mem_of_getElem? (i := 10) rfl)) (fun _ h9 => h9) (congrArg (fun z => some (Value.int z)) ((mu_f _ _ _ _ (by decide)).trans (mu_f _ _ _ _ (by decide)))) dX1_refundSurplus_56 ?_
  refine lv_iload_n hx hb dX1_refundSurplus_59 rfl (lv_at hl 2 rfl) ?_
  refine lv_iload_n hx hb dX1_refundSurplus_60 rfl (lv_at hl 1 rfl) ?_
  refine lv_isub hx hb dX1_refundSurplus_61 ?_
  refine lv_iload_n hx hb dX1_refundSurplus_62 rfl (lv_at hl 0 rfl) ?_
  refine lv_isub hx hb dX1_refundSurplus_63 ?_
  refine lv_isub hx hb dX1_refundSurplus_64 ?_
  refine x_putO hx hb hts hin1 hown hK hI hW hS ho (Or.inl ⟨0, k, ho⟩) 11 15 (by decide) (hts (.fieldLink RX1 37 "ReturnsDesk$Order" "byPoints" "I") (List.mem_of_getElem? (i := 10) rfl)) (fun _ h9 => h9) .int (tyX1_ok 11 (by decide)) rfl rfl dX1_refundSurplus_65 (fun H locs hW hz1 _ hS => ?_)
  refine lv_aload_n hx hb dX1_refundSurplus_68 rfl (lv_at hl 3 rfl) ?_
  refine lv_dup hx hb dX1_refundSurplus_69 rfl ?_
  refine f_get (ci := 1) (fs := xobO g (mu (mu (mu X 13 k ((X 13 k) - (minI (maxI ((takenX X k) - (owedX X k kk)) 0) (X 13 k)))) 14 k ((X 14 k) - (minI ((maxI ((takenX X k) - (owedX X k kk)) 0) - (minI (maxI ((takenX X k) - (owedX X k kk)) 0) (X 13 k))) (X 14 k)))) 15 k ((X 15 k) - (((maxI ((takenX X k) - (owedX X k kk)) 0) - (minI (maxI ((takenX X k) - (owedX X k kk)) 0) (X 13 k))) - (minI ((maxI ((takenX X k) - (owedX X k kk)) 0) - (minI (maxI ((takenX X k) - (owedX X k kk)) 0) (X 13 k))) (X 14 k))))) k) (v := .int (X 12 k)) hx hb hts hin1 hown hK (hW 0 k _ ho) rfl 8 (by decide) (hts (.fieldLink RX1 74 "ReturnsDesk$Order" "refunded" "I") (List.mem_of_getElem? (i := 11) rfl)) (fun _ h9 => h9) (congrArg (fun z => some (Value.int z)) ((mu_f _ _ _ _ (by decide)).trans ((mu_f _ _ _ _ (by decide)).trans (mu_f _ _ _ _ (by decide))))) dX1_refundSurplus_70 ?_
  refine lv_iload_n hx hb dX1_refundSurplus_73 rfl (lv_at hl 2 rfl) ?_
  refine lv_iadd hx hb dX1_refundSurplus_74 ?_
  refine x_putO hx hb hts hin1 hown hK hI hW hS ho (Or.inl ⟨0, k, ho⟩) 8 12 (by decide) (hts (.fieldLink RX1 74 "ReturnsDesk$Order" "refunded" "I") (List.mem_of_getElem? (i := 11) rfl)) (fun _ h9 => h9) .int (tyX1_ok 8 (by decide)) rfl rfl dX1_refundSurplus_75 (fun H locs hW hz1 _ hS => ?_)
  refine lv_iload_n hx hb dX1_refundSurplus_78 rfl (lv_at hl 2 rfl) ?_
  exact xw_retM hx hb hr hlocks ⟨Nat.le_of_ble_eq_true rfl, Nat.le_of_ble_eq_true rfl⟩ hW hS rfl dX1_refundSurplus_79
set_option maxHeartbeats 4000000 in
set_option maxRecDepth 100000 in
theorem kX1_endWaits (l : Launch) {D : va_G} {cI cO cL cJ : ClassId} (g : XG) (X : MS) (hz sz : Nat) (hI : xI g) (hO : xO g hz sz) (ao la k : Nat) (ho : g 0 k = some ao) (hla : g 1 k = some la) (kk : Nat) (hkk : kk ≤ 8) (hln : ∀ j, j < 8 → (g 2 (8 * k + j) = none ↔ kk ≤ j)) (p1 : Int32) : Met l yX1_endWaits wsX1_endWaits ({ frames := 1, cells := 0, slots := 0, locals := 21 } : Room) (xP D cI cO cL cJ g X hz sz [.ref ao, .int p1]) (xQi D cO cL g sz (fun (r : Int32) (X9 : MS) => (r, X9) = wIt X k p1 kk)) 0 0 (xA g sz) := by
  refine x_bodyM (cc := cX1_endWaits) (maxL := 7) (ret := some .int) (by decide) rfl [.ref ao, .int p1] (Nat.le_of_ble_eq_true rfl) ?_
  intro p e s m args below meth c hx hb hr hts hown hml hlocks hsz hW hK hE ls hl
  subst hsz
  have hown : s.vm.findClass RX1 = some m.cls := hown
  have hl : lv_has ls 7 [(0, .ref ao), (1, .int p1)] := hl
  have hin0 : ∀ w ∈ u_ws RX0 TX0 5, w ∈ wsX1_endWaits := (fun w h => List.mem_cons_of_mem _ (List.mem_append_right _ (h)))
  have hin1 : ∀ w ∈ u_ws RX1 TX1 12, w ∈ wsX1_endWaits := (fun w h => List.mem_cons_of_mem _ (List.mem_append_left _ (List.mem_append_right _ (h))))
  have hS : va_S (xA g s.heap.size) s.heap s.heap [] := va_S.rf
  refine lv_iconst (v := 0) hx hb dX1_endWaits_0 (by decide) ?_
  refine lv_istore_n (lv' := [(2, .int 0), (0, .ref ao), (1, .int p1)]) hx hb dX1_endWaits_1 rfl hl (by decide) rfl (fun ls hl => ?_)
  refine lv_aload_n hx hb dX1_endWaits_2 rfl (lv_at hl 1 rfl) ?_
  refine f_get (ci := 1) (fs := xobO g X k) (v := .ref la) hx hb hts hin1 hown hK (hW 0 k _ ho) rfl 2 (by decide) (hts (.fieldLink RX1 11 "ReturnsDesk$Order" "lines" "[LReturnsDesk$Line;") (List.mem_of_getElem? (i := 1) rfl)) (fun _ h9 => h9) (congrArg (fun z => some (va_rf z)) hla) dX1_endWaits_3 ?_
  refine lv_astore_n (lv' := [(3, .ref la), (2, .int 0), (0, .ref ao), (1, .int p1)]) hx hb dX1_endWaits_6 rfl hl (by decide) rfl (fun ls hl => ?_)
  refine lv_aload_n hx hb dX1_endWaits_7 rfl (lv_at hl 0 rfl) ?_
  refine f_alen (v := 8) hx hb hK 2 rfl (hW 1 k _ hla) rfl dX1_endWaits_8 ?_
  refine lv_istore (lv' := [(4, .int 8), (3, .ref la), (2, .int 0), (0, .ref ao), (1, .int p1)]) hx hb dX1_endWaits_9 hl (by decide) rfl (fun ls hl => ?_)
  refine lv_iconst (v := 0) hx hb dX1_endWaits_11 (by decide) ?_
  refine lv_istore (lv' := [(5, .int 0), (4, .int 8), (3, .ref la), (2, .int 0), (0, .ref ao), (1, .int p1)]) hx hb dX1_endWaits_12 hl (by decide) rfl (fun ls hl => ?_)
  have loop : ∀ (z i : Nat) (B : Int32 × MS) (H : Heap) (locs : List Loc) (ls : Array Slot), B = wIt X k p1 (min i kk) → i ≤ 8 → 8 - i < z → xW D cO cL g B.2 H → va_S (xA g s.heap.size) s.heap H locs → lv_has ls 7 [(5, .int (nI i)), (2, .int B.1), (4, .int 8), (3, .ref la), (0, .ref ao), (1, .int p1)] → W p l e ({ frames := 1, cells := 0, slots := 0, locals := 21 } : Room) s m args below meth c H locs 0 0 (MQ below (xQi D cO cL g s.heap.size (fun (r : Int32) (X9 : MS) => (r, X9) = wIt X k p1 kk)) args s 0 0 (xA g s.heap.size)) (F0 m 14 ls []) := by
    intro z
    induction z with
    | zero => intro i B H locs ls h0 h1 h2; exact absurd h2 (by omega)
    | succ z ih =>
      intro i B H locs ls hB hi hz9 hW hS hl
      refine lv_iload hx hb dX1_endWaits_14 (lv_at hl 0 rfl) ?_
      refine lv_iload hx hb dX1_endWaits_16 (lv_at hl 2 rfl) ?_
      refine lv_icmp_ge (tgt := 82) hx hb dX1_endWaits_18 (by decide) (fun c18 => ?_) (fun c18 => ?_)
      · skip
        have hie : min i kk = kk := by
          rcases Nat.lt_or_ge i 8 with z | z
          · exact absurd c18 (nI_ge z (by decide))
          · omega
        rw [hie] at hB
        refine lv_iload_n hx hb dX1_endWaits_82 rfl (lv_at hl 1 rfl) ?_
        exact xw_retM hx hb hr hlocks ⟨Nat.le_of_ble_eq_true rfl, Nat.le_of_ble_eq_true rfl⟩ hW hS (by show (B.1, B.2) = wIt X k p1 kk; rw [← hB]) dX1_endWaits_83
      · skip
        have hi9 : i < 8 := Nat.not_le.mp (fun z => c18 (nI_le (a := 8) z (by omega)))
        refine lv_aload_n hx hb dX1_endWaits_21 rfl (lv_at hl 3 rfl) ?_
        refine lv_iload hx hb dX1_endWaits_22 (lv_at hl 0 rfl) ?_
        rcases hq24 : g 2 (8 * k + i) with _ | al
        · skip
          have hmn : min (i + 1) kk = min i kk := by have := (hln i hi9).mp hq24; omega
          refine f_aaldV (v := .null) hx hb hK 2 rfl (hW 1 k _ hla) rfl (show i < 8 by omega) (by decide) (congrArg va_rf hq24) dX1_endWaits_24 ?_
          refine lv_astoreN (lv' := [(6, .null), (5, .int (nI i)), (2, .int B.1), (4, .int 8), (3, .ref la), (0, .ref ao), (1, .int p1)]) hx hb dX1_endWaits_25 hl (by decide) rfl (fun ls hl => ?_)
          refine lv_aloadN hx hb dX1_endWaits_27 (lv_at hl 0 rfl) ?_
          refine lv_ifnullN (tgt := 76) hx hb dX1_endWaits_29 (by decide) ?_
          refine lv_iinc (v := nI (i + 1)) (lv' := [(5, .int (nI (i + 1))), (6, .null), (2, .int B.1), (4, .int 8), (3, .ref la), (0, .ref ao), (1, .int p1)]) hx hb dX1_endWaits_76 hl (k := 1) rfl (nI_addx (a := i) (b := 1) rfl rfl) (by decide) rfl (fun ls hl => ?_)
          refine lv_goto (tgt := 14) hx hb dX1_endWaits_79 (by decide) ?_
          exact ih (i + 1) (B.1, B.2) H locs ls (by rw [hmn]; exact hB) (by omega) (by omega) hW hS (lv_sub hl [0, 2, 3, 4, 5, 6] rfl)
        · skip
          have hik : i < kk := by rcases Nat.lt_or_ge i kk with z | z; exact z; exact absurd ((hln i hi9).mpr z) (by rw [hq24]; intro h; cases h)
          have hmi : min i kk = i := by omega
          have hmn : min (i + 1) kk = i + 1 := by omega
          rw [hmi] at hB
          refine f_aaldV (v := .ref al) hx hb hK 2 rfl (hW 1 k _ hla) rfl (show i < 8 by omega) (by decide) (congrArg va_rf hq24) dX1_endWaits_24 ?_
          refine lv_astore (lv' := [(6, .ref al), (5, .int (nI i)), (2, .int B.1), (4, .int 8), (3, .ref la), (0, .ref ao), (1, .int p1)]) hx hb dX1_endWaits_25 hl (by decide) rfl (fun ls hl => ?_)
          refine lv_aload hx hb dX1_endWaits_27 (lv_at hl 0 rfl) ?_
          refine lv_ifnull hx hb dX1_endWaits_29 ?_
          refine lv_aload hx hb dX1_endWaits_32 (lv_at hl 0 rfl) ?_
          refine vp_callSi (va_runV (As := []) (rest := []) (b := al) ⟨hx, hb, hml, hown, hts⟩ (kX0_isWaitedFor l g B.2 hz _ al (8 * k + i) hq24) (cwV 0 hts gX1_endWaits_X0_isWaitedFor rfl rfl rfl (by decide +kernel) ⟨Nat.le_of_ble_eq_true rfl, Nat.le_of_ble_eq_true rfl⟩) (x_preV hW hK (hE.S hO hS) (x_recvL hK hW hq24)) rfl rfl hl.1 rfl (lv_room (Nat.le_of_ble_eq_true rfl)) dX1_endWaits_34 ⟨Nat.le_of_ble_eq_true rfl, Nat.le_of_ble_eq_true rfl⟩).run (fun r hp => ?_)
          subst hp
          refine lv_if_eq (tgt := 76) hx hb dX1_endWaits_37 (by decide) (fun c37 => ?_) (fun c37 => ?_)
          · skip
            refine lv_iinc (v := nI (i + 1)) (lv' := [(5, .int (nI (i + 1))), (6, .ref al), (2, .int B.1), (4, .int 8), (3, .ref la), (0, .ref ao), (1, .int p1)]) hx hb dX1_endWaits_76 hl (k := 1) rfl (nI_addx (a := i) (b := 1) rfl rfl) (by decide) rfl (fun ls hl => ?_)
            refine lv_goto (tgt := 14) hx hb dX1_endWaits_79 (by decide) ?_
            exact ih (i + 1) (B.1, B.2) H locs ls (by rw [hmn]; show _ = wNext (wIt X k p1 i) k i p1; rw [← hB]; unfold wNext; rw [if_pos c37] <;> rfl) (by omega) (by omega) hW hS (lv_sub hl [0, 2, 3, 4, 5, 6] rfl)
          · skip
            refine lv_aload hx hb dX1_endWaits_40 (lv_at hl 0 rfl) ?_
            refine f_get (ci := 0) (fs := xobL B.2 (8 * k + i)) (v := .int (B.2 20 (8 * k + i))) hx hb hts hin0 hown hK (hW 2 (8 * k + i) _ hq24) rfl 4 (by decide) (hts (.fieldLink RX1 81 "ReturnsDesk$Line" "waitEnds" "I") (List.mem_of_getElem? (i := 2) rfl)) (fun _ h9 => h9) rfl dX1_endWaits_42 ?_
            refine lv_iload_n hx hb dX1_endWaits_45 rfl (lv_at hl 6 rfl) ?_
            refine lv_icmp_gt (tgt := 76) hx hb dX1_endWaits_46 (by decide) (fun c46 => ?_) (fun c46 => ?_)
            · skip
              refine lv_iinc (v := nI (i + 1)) (lv' := [(5, .int (nI (i + 1))), (6, .ref al), (2, .int B.1), (4, .int 8), (3, .ref la), (0, .ref ao), (1, .int p1)]) hx hb dX1_endWaits_76 hl (k := 1) rfl (nI_addx (a := i) (b := 1) rfl rfl) (by decide) rfl (fun ls hl => ?_)
              refine lv_goto (tgt := 14) hx hb dX1_endWaits_79 (by decide) ?_
              exact ih (i + 1) (B.1, B.2) H locs ls (by rw [hmn]; show _ = wNext (wIt X k p1 i) k i p1; rw [← hB]; unfold wNext; rw [if_neg c37, if_pos c46] <;> rfl) (by omega) (by omega) hW hS (lv_sub hl [0, 2, 3, 4, 5, 6] rfl)
            · skip
              refine lv_aload hx hb dX1_endWaits_49 (lv_at hl 0 rfl) ?_
              refine f_get (ci := 0) (fs := xobL B.2 (8 * k + i)) (v := .int (B.2 18 (8 * k + i))) hx hb hts hin0 hown hK (hW 2 (8 * k + i) _ hq24) rfl 2 (by decide) (hts (.fieldLink RX1 53 "ReturnsDesk$Line" "state" "I") (List.mem_of_getElem? (i := 3) rfl)) (fun _ h9 => h9) rfl dX1_endWaits_51 ?_
              refine lv_iconst (v := 2) hx hb dX1_endWaits_54 (by decide) ?_
              refine lv_icmp_ne (tgt := 67) hx hb dX1_endWaits_55 (by decide) (fun c55 => ?_) (fun c55 => ?_)
              · skip
                refine lv_aload hx hb dX1_endWaits_67 (lv_at hl 0 rfl) ?_
                refine lv_iconst (v := 0) hx hb dX1_endWaits_69 (by decide) ?_
                refine x_putL hx hb hts hin0 hown hK hI hW hS hq24 (Or.inl ⟨2, 8 * k + i, hq24⟩) 2 18 (by decide) (hts (.fieldLink RX1 53 "ReturnsDesk$Line" "state" "I") (List.mem_of_getElem? (i := 3) rfl)) (fun _ h9 => h9) dX1_endWaits_70 (fun H locs hW hz1 _ hS => ?_)
                refine lv_iinc (v := B.1 + 1) (lv' := [(2, .int (B.1 + 1)), (6, .ref al), (5, .int (nI i)), (4, .int 8), (3, .ref la), (0, .ref ao), (1, .int p1)]) hx hb dX1_endWaits_73 hl (k := 2) rfl rfl (by decide) rfl (fun ls hl => ?_)
                refine lv_iinc (v := nI (i + 1)) (lv' := [(5, .int (nI (i + 1))), (2, .int (B.1 + 1)), (6, .ref al), (4, .int 8), (3, .ref la), (0, .ref ao), (1, .int p1)]) hx hb dX1_endWaits_76 hl (k := 2) rfl (nI_addx (a := i) (b := 1) rfl rfl) (by decide) rfl (fun ls hl => ?_)
                refine lv_goto (tgt := 14) hx hb dX1_endWaits_79 (by decide) ?_
                exact ih (i + 1) (B.1 + 1, (mu B.2 18 (8 * k + i) 0)) H locs ls (by rw [hmn]; show _ = wNext (wIt X k p1 i) k i p1; rw [← hB]; unfold wNext; rw [if_neg c37, if_neg c46, if_neg c55] <;> rfl) (by omega) (by omega) hW hS (lv_sub hl [0, 1, 3, 4, 5, 6] rfl)
              · skip
                refine lv_aload_n hx hb dX1_endWaits_58 rfl (lv_at hl 5 rfl) ?_
                refine lv_aload hx hb dX1_endWaits_59 (lv_at hl 0 rfl) ?_
                refine f_get (ci := 0) (fs := xobL B.2 (8 * k + i)) (v := .int (B.2 16 (8 * k + i))) hx hb hts hin0 hown hK (hW 2 (8 * k + i) _ hq24) rfl 0 (by decide) (hts (.fieldLink RX1 56 "ReturnsDesk$Line" "price" "I") (List.mem_of_getElem? (i := 4) rfl)) (fun _ h9 => h9) rfl dX1_endWaits_61 ?_
                refine x_wV (va_runV (As := [.int (B.2 16 (8 * k + i))]) (rest := []) (b := ao) ⟨hx, hb, hml, hown, hts⟩ (kX1_charge l g B.2 hz _ hI ⟨hO.1, Nat.le_trans hO.2 hS.1⟩ ao la k ho hla (B.2 16 (8 * k + i))) (cwV 1 hts gX1_endWaits_X1_charge rfl rfl rfl (by decide +kernel) ⟨Nat.le_of_ble_eq_true rfl, Nat.le_of_ble_eq_true rfl⟩) (x_preV hW hK (hE.S hO hS) (x_recvO hK hW ho)) rfl rfl hl.1 rfl (lv_room (Nat.le_of_ble_eq_true rfl)) dX1_endWaits_64 ⟨Nat.le_of_ble_eq_true rfl, Nat.le_of_ble_eq_true rfl⟩) hS hS.1 (fun X9 H locs hp hW hz1 hS => ?_)
                subst hp
                refine lv_aload hx hb dX1_endWaits_67 (lv_at hl 0 rfl) ?_
                refine lv_iconst (v := 0) hx hb dX1_endWaits_69 (by decide) ?_
                refine x_putL hx hb hts hin0 hown hK hI hW hS hq24 (Or.inl ⟨2, 8 * k + i, hq24⟩) 2 18 (by decide) (hts (.fieldLink RX1 53 "ReturnsDesk$Line" "state" "I") (List.mem_of_getElem? (i := 3) rfl)) (fun _ h9 => h9) dX1_endWaits_70 (fun H locs hW hz1 _ hS => ?_)
                refine lv_iinc (v := B.1 + 1) (lv' := [(2, .int (B.1 + 1)), (6, .ref al), (5, .int (nI i)), (4, .int 8), (3, .ref la), (0, .ref ao), (1, .int p1)]) hx hb dX1_endWaits_73 hl (k := 2) rfl rfl (by decide) rfl (fun ls hl => ?_)
                refine lv_iinc (v := nI (i + 1)) (lv' := [(5, .int (nI (i + 1))), (2, .int (B.1 + 1)), (6, .ref al), (4, .int 8), (3, .ref la), (0, .ref ao), (1, .int p1)]) hx hb dX1_endWaits_76 hl (k := 2) rfl (nI_addx (a := i) (b := 1) rfl rfl) (by decide) rfl (fun ls hl => ?_)
                refine lv_goto (tgt := 14) hx hb dX1_endWaits_79 (by decide) ?_
                exact ih (i + 1) (B.1 + 1, (mu (mu (mu B.2 11 k (B.2 11 k + B.2 16 (8 * k + i))) 13 k (B.2 13 k + B.2 16 (8 * k + i))) 18 (8 * k + i) 0)) H locs ls (by rw [hmn]; show _ = wNext (wIt X k p1 i) k i p1; rw [← hB]; unfold wNext; rw [if_neg c37, if_neg c46, if_pos c55] <;> rfl) (by omega) (by omega) hW hS (lv_sub hl [0, 1, 3, 4, 5, 6] rfl)
  exact loop 9 0 (0, X) s.heap [] ls (by rw [Nat.zero_min]; rfl) (by decide) (by decide) hW hS (lv_sub hl [0, 3, 1, 2, 4, 5] rfl)

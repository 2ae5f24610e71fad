/-! THE CLASS: the desk, what reads. -/
set_option maxHeartbeats 4000000 in
set_option maxRecDepth 100000 in
theorem kX2_putIntoStock (l : Launch) {D : va_G} {cI cO cL cJ : ClassId} (g : XG) (X : MS) (hz sz : Nat) (hI : xI g) (hO : xO g hz sz) (d bk : Nat) (hd : g 3 0 = some d) (hbk : g 4 0 = some bk) (p0 p1 : Int32) : Met l yX2_putIntoStock wsX2_putIntoStock ({ frames := 0, cells := 0, slots := 0, locals := 0 } : Room) (xP D cI cO cL cJ g X hz sz [.ref d, .int p0, .int p1]) (xQv D cO cL g sz (fun X9 : MS => X9 = putX X p0 p1)) 0 0 (xA g sz) := by
  refine x_bodyM (cc := cX2_putIntoStock) (maxL := 3) (ret := none) (by decide) rfl [.ref d, .int p0, .int p1] (Nat.le_of_ble_eq_true rfl) ?_
  intro p e s m args below meth c hx hb hr hts hown hml hlocks hsz hW hK hE ls hl
  subst hsz
  have hown : s.vm.findClass RX2 = some m.cls := hown
  have hl : lv_has ls 3 [(0, .ref d), (1, .int p0), (2, .int p1)] := hl
  have hin2 : ∀ w ∈ u_ws RX2 TX2 6, w ∈ wsX2_putIntoStock := (fun w h => List.mem_cons_of_mem _ (List.mem_append_right _ (h)))
  have hS : va_S (xA g s.heap.size) s.heap s.heap [] := va_S.rf
  refine lv_iload_n hx hb dX2_putIntoStock_0 rfl (lv_at hl 2 rfl) ?_
  refine lv_if_ne (tgt := 17) hx hb dX2_putIntoStock_1 (by decide) (fun c1 => ?_) (fun c1 => ?_)
  · skip
    refine lv_iload_n hx hb dX2_putIntoStock_17 rfl (lv_at hl 2 rfl) ?_
    refine lv_iconst (v := 1) hx hb dX2_putIntoStock_18 (by decide) ?_
    refine lv_icmp_ne (tgt := 39) hx hb dX2_putIntoStock_19 (by decide) (fun c19 => ?_) (fun c19 => ?_)
    · skip
      refine lv_iload_n hx hb dX2_putIntoStock_39 rfl (lv_at hl 2 rfl) ?_
      refine lv_iconst (v := 3) hx hb dX2_putIntoStock_40 (by decide) ?_
      refine lv_icmp_eq (tgt := 54) hx hb dX2_putIntoStock_41 (by decide) (fun c41 => ?_) (fun c41 => ?_)
      · skip
        exact xw_vretM hx hb hr hlocks ⟨Nat.le_of_ble_eq_true rfl, Nat.le_of_ble_eq_true rfl⟩ hW hS (by unfold putX; rw [if_neg c1, if_neg c19, if_pos c41] <;> rfl) dX2_putIntoStock_54
      · skip
        refine lv_aload_n hx hb dX2_putIntoStock_44 rfl (lv_at hl 0 rfl) ?_
        refine lv_dup hx hb dX2_putIntoStock_45 rfl ?_
        refine f_get (ci := 2) (fs := xobD g X 0) (v := .int (X 4 0)) hx hb hts hin2 hown hK (hW 3 0 _ hd) rfl 5 (by decide) (hts (.fieldLink RX2 140 "ReturnsDesk" "wasteThings" "I") (List.mem_of_getElem? (i := 3) rfl)) (fun _ h9 => h9) rfl dX2_putIntoStock_46 ?_
        refine lv_iconst (v := 1) hx hb dX2_putIntoStock_49 (by decide) ?_
        refine lv_iadd hx hb dX2_putIntoStock_50 ?_
        refine x_putD hx hb hts hin2 hown hK hI hW hS hd (Or.inl ⟨3, 0, hd⟩) 5 4 (by decide) (hts (.fieldLink RX2 140 "ReturnsDesk" "wasteThings" "I") (List.mem_of_getElem? (i := 3) rfl)) (fun _ h9 => h9) dX2_putIntoStock_51 (fun H locs hW hz1 _ hS => ?_)
        exact xw_vretM hx hb hr hlocks ⟨Nat.le_of_ble_eq_true rfl, Nat.le_of_ble_eq_true rfl⟩ hW hS (by unfold putX; rw [if_neg c1, if_neg c19, if_neg c41] <;> rfl) dX2_putIntoStock_54
    · skip
      refine lv_iload_n hx hb dX2_putIntoStock_22 rfl (lv_at hl 1 rfl) ?_
      refine lv_if_ne (tgt := 39) hx hb dX2_putIntoStock_23 (by decide) (fun c23 => ?_) (fun c23 => ?_)
      · skip
        refine lv_iload_n hx hb dX2_putIntoStock_39 rfl (lv_at hl 2 rfl) ?_
        refine lv_iconst (v := 3) hx hb dX2_putIntoStock_40 (by decide) ?_
        refine lv_icmp_eq (tgt := 54) hx hb dX2_putIntoStock_41 (by decide) (fun c41 => ?_) (fun c41 => ?_)
        · skip
          exact xw_vretM hx hb hr hlocks ⟨Nat.le_of_ble_eq_true rfl, Nat.le_of_ble_eq_true rfl⟩ hW hS (by unfold putX; rw [if_neg c1, if_pos c19, if_neg c23, if_pos c41] <;> rfl) dX2_putIntoStock_54
        · skip
          refine lv_aload_n hx hb dX2_putIntoStock_44 rfl (lv_at hl 0 rfl) ?_
          refine lv_dup hx hb dX2_putIntoStock_45 rfl ?_
          refine f_get (ci := 2) (fs := xobD g X 0) (v := .int (X 4 0)) hx hb hts hin2 hown hK (hW 3 0 _ hd) rfl 5 (by decide) (hts (.fieldLink RX2 140 "ReturnsDesk" "wasteThings" "I") (List.mem_of_getElem? (i := 3) rfl)) (fun _ h9 => h9) rfl dX2_putIntoStock_46 ?_
          refine lv_iconst (v := 1) hx hb dX2_putIntoStock_49 (by decide) ?_
          refine lv_iadd hx hb dX2_putIntoStock_50 ?_
          refine x_putD hx hb hts hin2 hown hK hI hW hS hd (Or.inl ⟨3, 0, hd⟩) 5 4 (by decide) (hts (.fieldLink RX2 140 "ReturnsDesk" "wasteThings" "I") (List.mem_of_getElem? (i := 3) rfl)) (fun _ h9 => h9) dX2_putIntoStock_51 (fun H locs hW hz1 _ hS => ?_)
          exact xw_vretM hx hb hr hlocks ⟨Nat.le_of_ble_eq_true rfl, Nat.le_of_ble_eq_true rfl⟩ hW hS (by unfold putX; rw [if_neg c1, if_pos c19, if_neg c23, if_neg c41] <;> rfl) dX2_putIntoStock_54
      · skip
        refine lv_aload_n hx hb dX2_putIntoStock_26 rfl (lv_at hl 0 rfl) ?_
        refine lv_dup hx hb dX2_putIntoStock_27 rfl ?_
        refine f_get (ci := 2) (fs := xobD g X 0) (v := .int (X 3 0)) hx hb hts hin2 hown hK (hW 3 0 _ hd) rfl 4 (by decide) (hts (.fieldLink RX2 137 "ReturnsDesk" "secondThings" "I") (List.mem_of_getElem? (i := 2) rfl)) (fun _ h9 => h9) rfl dX2_putIntoStock_28 ?_
        refine lv_iconst (v := 1) hx hb dX2_putIntoStock_31 (by decide) ?_
        refine lv_iadd hx hb dX2_putIntoStock_32 ?_
        refine x_putD hx hb hts hin2 hown hK hI hW hS hd (Or.inl ⟨3, 0, hd⟩) 4 3 (by decide) (hts (.fieldLink RX2 137 "ReturnsDesk" "secondThings" "I") (List.mem_of_getElem? (i := 2) rfl)) (fun _ h9 => h9) dX2_putIntoStock_33 (fun H locs hW hz1 _ hS => ?_)
        refine lv_goto (tgt := 54) hx hb dX2_putIntoStock_36 (by decide) ?_
        exact xw_vretM hx hb hr hlocks ⟨Nat.le_of_ble_eq_true rfl, Nat.le_of_ble_eq_true rfl⟩ hW hS (by unfold putX; rw [if_neg c1, if_pos c19, if_pos c23] <;> rfl) dX2_putIntoStock_54
  · skip
    refine lv_aload_n hx hb dX2_putIntoStock_4 rfl (lv_at hl 0 rfl) ?_
    refine lv_dup hx hb dX2_putIntoStock_5 rfl ?_
    refine f_get (ci := 2) (fs := xobD g X 0) (v := .int (X 2 0)) hx hb hts hin2 hown hK (hW 3 0 _ hd) rfl 3 (by decide) (hts (.fieldLink RX2 134 "ReturnsDesk" "newThings" "I") (List.mem_of_getElem? (i := 1) rfl)) (fun _ h9 => h9) rfl dX2_putIntoStock_6 ?_
    refine lv_iconst (v := 1) hx hb dX2_putIntoStock_9 (by decide) ?_
    refine lv_iadd hx hb dX2_putIntoStock_10 ?_
    refine x_putD hx hb hts hin2 hown hK hI hW hS hd (Or.inl ⟨3, 0, hd⟩) 3 2 (by decide) (hts (.fieldLink RX2 134 "ReturnsDesk" "newThings" "I") (List.mem_of_getElem? (i := 1) rfl)) (fun _ h9 => h9) dX2_putIntoStock_11 (fun H locs hW hz1 _ hS => ?_)
    refine lv_goto (tgt := 54) hx hb dX2_putIntoStock_14 (by decide) ?_
    exact xw_vretM hx hb hr hlocks ⟨Nat.le_of_ble_eq_true rfl, Nat.le_of_ble_eq_true rfl⟩ hW hS (by unfold putX; rw [if_pos c1] <;> rfl) dX2_putIntoStock_54
set_option maxHeartbeats 4000000 in
set_option maxRecDepth 100000 in
theorem kX2_requireRange (l : Launch) (hlt : l.stackTraces = false) {D : va_G} {cI cO cL cJ : ClassId} (g : XG) (X : MS) (hz sz : Nat)  (v lo hi : Int32) : vx_Met l yX2_requireRange wsX2_requireRange ({ frames := 6, cells := 1, slots := 6, locals := 82 } : Room) (xP D cI cO cL cJ g X hz sz [.int v, .int lo, .int hi]) (xSv (inR v lo hi)) (xT (fun E : String => E = IAE ∧ ¬ inR v lo hi)) 1 6 (fun _ => False) := by
  refine x_body (cc := cX2_requireRange) (maxL := 3) (ret := none) (by decide) rfl [.int v, .int lo, .int hi] (Nat.le_of_ble_eq_true rfl) ?_
  intro p e s m args below meth c hx hb hr hts hown hml hlocks htab hsz hW hK hE ls hl
  subst hsz
  have hown : s.vm.findClass RX2 = some m.cls := hown
  have hl : lv_has ls 3 [(0, .int v), (1, .int lo), (2, .int hi)] := hl
  refine lv_iload_n hx hb dX2_requireRange_0 rfl (lv_at hl 0 rfl) ?_
  refine lv_iload_n hx hb dX2_requireRange_1 rfl (lv_at hl 1 rfl) ?_
  refine lv_icmp_lt (tgt := 10) hx hb dX2_requireRange_2 (by decide) (fun c2 => ?_) (fun c2 => ?_)
  · skip
    exact x_throw (cls := IAE) (text := "an argument is out of range") (ik := 148) (is := 150) (ic := 152) hlt hx hb hown hts hE (by decide +kernel) (by decide +kernel) (hts (.classLink RX2 148 "java/lang/IllegalArgumentException") (List.mem_of_getElem? (i := 1) rfl)) (hts (.initialized "java/lang/IllegalArgumentException") (List.mem_of_getElem? (i := 2) rfl)) (List.mem_of_getElem? (i := 5) rfl) (fun w h => List.mem_cons_of_mem _ (List.mem_append_right _ (h))) tn_A tg_A (hl.1.trans hml.symm) htab hlocks dX2_requireRange_10 dX2_requireRange_13 dX2_requireRange_14 dX2_requireRange_16 dX2_requireRange_19 ⟨(Nat.le_of_ble_eq_true rfl), (Nat.le_of_ble_eq_true rfl), (Nat.le_of_ble_eq_true rfl), (Nat.le_of_ble_eq_true rfl)⟩ ⟨(Nat.le_of_ble_eq_true rfl), (Nat.le_of_ble_eq_true rfl)⟩ rfl rfl ⟨rfl, fun h => h.1 c2⟩
  · skip
    refine lv_iload_n hx hb dX2_requireRange_5 rfl (lv_at hl 0 rfl) ?_
    refine lv_iload_n hx hb dX2_requireRange_6 rfl (lv_at hl 2 rfl) ?_
    refine lv_icmp_le (tgt := 20) hx hb dX2_requireRange_7 (by decide) (fun c7 => ?_) (fun c7 => ?_)
    · skip
      exact xr_vret hx hb hr hlocks ⟨Nat.le_of_ble_eq_true rfl, Nat.le_of_ble_eq_true rfl⟩ ⟨c2, Int32.not_lt.mpr c7⟩ dX2_requireRange_20
    · skip
      exact x_throw (cls := IAE) (text := "an argument is out of range") (ik := 148) (is := 150) (ic := 152) hlt hx hb hown hts hE (by decide +kernel) (by decide +kernel) (hts (.classLink RX2 148 "java/lang/IllegalArgumentException") (List.mem_of_getElem? (i := 1) rfl)) (hts (.initialized "java/lang/IllegalArgumentException") (List.mem_of_getElem? (i := 2) rfl)) (List.mem_of_getElem? (i := 5) rfl) (fun w h => List.mem_cons_of_mem _ (List.mem_append_right _ (h))) tn_A tg_A (hl.1.trans hml.symm) htab hlocks dX2_requireRange_10 dX2_requireRange_13 dX2_requireRange_14 dX2_requireRange_16 dX2_requireRange_19 ⟨(Nat.le_of_ble_eq_true rfl), (Nat.le_of_ble_eq_true rfl), (Nat.le_of_ble_eq_true rfl), (Nat.le_of_ble_eq_true rfl)⟩ ⟨(Nat.le_of_ble_eq_true rfl), (Nat.le_of_ble_eq_true rfl)⟩ rfl rfl ⟨rfl, fun h => h.2 (Int32.not_le.mp c7)⟩
set_option maxHeartbeats 4000000 in
set_option maxRecDepth 100000 in
theorem kX2_findOrder (l : Launch) (hlt : l.stackTraces = false) {D : va_G} {cI cO cL cJ : ClassId} (g : XG) (X : MS) (hz sz : Nat) (d bk : Nat) (hd : g 3 0 = some d) (hbk : g 4 0 = some bk) (n : Nat) (hn30 : n ≤ 30) (hbn : ∀ k, k < 30 → (g 0 k = none ↔ n ≤ k)) (p0 : Int32) : vx_Met l yX2_findOrder wsX2_findOrder ({ frames := 6, cells := 1, slots := 6, locals := 82 } : Room) (xP D cI cO cL cJ g X hz sz [.ref d, .int p0]) (xSr (fun a => ∃ k, k < n ∧ p0 = nI k ∧ g 0 k = some a)) (xT (fun E : String => noO n p0 E)) 1 6 (fun _ => False) := by
  refine x_body (cc := cX2_findOrder) (maxL := 3) (ret := some (.object "ReturnsDesk$Order")) (by decide) rfl [.ref d, .int p0] (Nat.le_of_ble_eq_true rfl) ?_
  intro p e s m args below meth c hx hb hr hts hown hml hlocks htab hsz hW hK hE ls hl
  subst hsz
  have hown : s.vm.findClass RX2 = some m.cls := hown
  have hl : lv_has ls 3 [(0, .ref d), (1, .int p0)] := hl
  have hin2 : ∀ w ∈ u_ws RX2 TX2 6, w ∈ wsX2_findOrder := (fun w h => List.mem_cons_of_mem _ (List.mem_append_left _ (List.mem_append_right _ (h))))
  refine lv_iload_n hx hb dX2_findOrder_0 rfl (lv_at hl 1 rfl) ?_
  refine lv_if_lt (tgt := 22) hx hb dX2_findOrder_1 (by decide) (fun c1 => ?_) (fun c1 => ?_)
  · skip
    refine lv_null hx hb dX2_findOrder_22 ?_
    refine lv_astore_nN (lv' := [(2, .null), (0, .ref d), (1, .int p0)]) hx hb dX2_findOrder_23 rfl hl (by decide) rfl (fun ls hl => ?_)
    refine lv_aload_nN hx hb dX2_findOrder_24 rfl (lv_at hl 0 rfl) ?_
    refine lv_ifnonnullN hx hb dX2_findOrder_25 ?_
    exact x_throw (cls := IOE) (text := "no such order") (ik := 153) (is := 155) (ic := 157) hlt hx hb hown hts hE (by decide +kernel) (by decide +kernel) (hts (.classLink RX2 153 "java/lang/IndexOutOfBoundsException") (List.mem_of_getElem? (i := 1) rfl)) (hts (.initialized "java/lang/IndexOutOfBoundsException") (List.mem_of_getElem? (i := 2) rfl)) (List.mem_of_getElem? (i := 6) rfl) (fun w h => List.mem_cons_of_mem _ (List.mem_append_right _ (h))) tn_O tg_O (hl.1.trans hml.symm) htab hlocks dX2_findOrder_28 dX2_findOrder_31 dX2_findOrder_32 dX2_findOrder_34 dX2_findOrder_37 ⟨(Nat.le_of_ble_eq_true rfl), (Nat.le_of_ble_eq_true rfl), (Nat.le_of_ble_eq_true rfl), (Nat.le_of_ble_eq_true rfl)⟩ ⟨(Nat.le_of_ble_eq_true rfl), (Nat.le_of_ble_eq_true rfl)⟩ rfl rfl ⟨rfl, fun h => h (Or.inl c1)⟩
  · skip
    refine lv_iload_n hx hb dX2_findOrder_4 rfl (lv_at hl 1 rfl) ?_
    refine lv_aload_n hx hb dX2_findOrder_5 rfl (lv_at hl 0 rfl) ?_
    refine f_get (ci := 2) (fs := xobD g X 0) (v := .ref bk) hx hb hts hin2 hown hK (hW 3 0 _ hd) rfl 0 (by decide) (hts (.fieldLink RX2 11 "ReturnsDesk" "book" "[LReturnsDesk$Order;") (List.mem_of_getElem? (i := 3) rfl)) (fun _ h9 => h9) (congrArg (fun z => some (va_rf z)) hbk) dX2_findOrder_6 ?_
    refine f_alen (v := 30) hx hb hK 1 rfl (hW 4 0 _ hbk) rfl dX2_findOrder_9 ?_
    refine lv_icmp_ge (tgt := 22) hx hb dX2_findOrder_10 (by decide) (fun c10 => ?_) (fun c10 => ?_)
    · skip
      refine lv_null hx hb dX2_findOrder_22 ?_
      refine lv_astore_nN (lv' := [(2, .null), (0, .ref d), (1, .int p0)]) hx hb dX2_findOrder_23 rfl hl (by decide) rfl (fun ls hl => ?_)
      refine lv_aload_nN hx hb dX2_findOrder_24 rfl (lv_at hl 0 rfl) ?_
      refine lv_ifnonnullN hx hb dX2_findOrder_25 ?_
      exact x_throw (cls := IOE) (text := "no such order") (ik := 153) (is := 155) (ic := 157) hlt hx hb hown hts hE (by decide +kernel) (by decide +kernel) (hts (.classLink RX2 153 "java/lang/IndexOutOfBoundsException") (List.mem_of_getElem? (i := 1) rfl)) (hts (.initialized "java/lang/IndexOutOfBoundsException") (List.mem_of_getElem? (i := 2) rfl)) (List.mem_of_getElem? (i := 6) rfl) (fun w h => List.mem_cons_of_mem _ (List.mem_append_right _ (h))) tn_O tg_O (hl.1.trans hml.symm) htab hlocks dX2_findOrder_28 dX2_findOrder_31 dX2_findOrder_32 dX2_findOrder_34 dX2_findOrder_37 ⟨(Nat.le_of_ble_eq_true rfl), (Nat.le_of_ble_eq_true rfl), (Nat.le_of_ble_eq_true rfl), (Nat.le_of_ble_eq_true rfl)⟩ ⟨(Nat.le_of_ble_eq_true rfl), (Nat.le_of_ble_eq_true rfl)⟩ rfl rfl ⟨rfl, vp_hi c10 hn30 (by decide)⟩
    · skip
      obtain ⟨k, hk30, hpk⟩ := in_ofN (N := 30) c1 c10 (by decide)
      subst hpk
      refine lv_aload_n hx hb dX2_findOrder_13 rfl (lv_at hl 0 rfl) ?_
      refine f_get (ci := 2) (fs := xobD g X 0) (v := .ref bk) hx hb hts hin2 hown hK (hW 3 0 _ hd) rfl 0 (by decide) (hts (.fieldLink RX2 11 "ReturnsDesk" "book" "[LReturnsDesk$Order;") (List.mem_of_getElem? (i := 3) rfl)) (fun _ h9 => h9) (congrArg (fun z => some (va_rf z)) hbk) dX2_findOrder_14 ?_
      refine lv_iload_n hx hb dX2_findOrder_17 rfl (lv_at hl 1 rfl) ?_
      rcases hq18 : g 0 k with _ | ao
      · skip
        refine f_aaldV (v := .null) hx hb hK 1 rfl (hW 4 0 _ hbk) rfl (show k < 30 by omega) (by decide) (congrArg va_rf hq18) dX2_findOrder_18 ?_
        refine lv_goto (tgt := 23) hx hb dX2_findOrder_19 (by decide) ?_
        refine lv_astore_nN (lv' := [(2, .null), (0, .ref d), (1, .int (nI k))]) hx hb dX2_findOrder_23 rfl hl (by decide) rfl (fun ls hl => ?_)
        refine lv_aload_nN hx hb dX2_findOrder_24 rfl (lv_at hl 0 rfl) ?_
        refine lv_ifnonnullN hx hb dX2_findOrder_25 ?_
        exact x_throw (cls := IOE) (text := "no such order") (ik := 153) (is := 155) (ic := 157) hlt hx hb hown hts hE (by decide +kernel) (by decide +kernel) (hts (.classLink RX2 153 "java/lang/IndexOutOfBoundsException") (List.mem_of_getElem? (i := 1) rfl)) (hts (.initialized "java/lang/IndexOutOfBoundsException") (List.mem_of_getElem? (i := 2) rfl)) (List.mem_of_getElem? (i := 6) rfl) (fun w h => List.mem_cons_of_mem _ (List.mem_append_right _ (h))) tn_O tg_O (hl.1.trans hml.symm) htab hlocks dX2_findOrder_28 dX2_findOrder_31 dX2_findOrder_32 dX2_findOrder_34 dX2_findOrder_37 ⟨(Nat.le_of_ble_eq_true rfl), (Nat.le_of_ble_eq_true rfl), (Nat.le_of_ble_eq_true rfl), (Nat.le_of_ble_eq_true rfl)⟩ ⟨(Nat.le_of_ble_eq_true rfl), (Nat.le_of_ble_eq_true rfl)⟩ rfl rfl ⟨rfl, vp_out ((hbn k hk30).mp hq18) hk30⟩
      · skip
        refine f_aaldV (v := .ref ao) hx hb hK 1 rfl (hW 4 0 _ hbk) rfl (show k < 30 by omega) (by decide) (congrArg va_rf hq18) dX2_findOrder_18 ?_
        refine lv_goto (tgt := 23) hx hb dX2_findOrder_19 (by decide) ?_
        refine lv_astore_n (lv' := [(2, .ref ao), (0, .ref d), (1, .int (nI k))]) hx hb dX2_findOrder_23 rfl hl (by decide) rfl (fun ls hl => ?_)
        refine lv_aload_n hx hb dX2_findOrder_24 rfl (lv_at hl 0 rfl) ?_
        refine lv_ifnonnull (tgt := 38) hx hb dX2_findOrder_25 (by decide) ?_
        refine lv_aload_n hx hb dX2_findOrder_38 rfl (lv_at hl 0 rfl) ?_
        exact xr_aret hx hb hr hlocks ⟨Nat.le_of_ble_eq_true rfl, Nat.le_of_ble_eq_true rfl⟩ ⟨k, Nat.lt_of_not_le (fun z => by rw [(hbn k hk30).mpr z] at hq18; cases hq18), rfl, hq18⟩ dX2_findOrder_39
set_option maxHeartbeats 4000000 in
set_option maxRecDepth 100000 in
theorem kX2_findLine (l : Launch) (hlt : l.stackTraces = false) {D : va_G} {cI cO cL cJ : ClassId} (g : XG) (X : MS) (hz sz : Nat) (ao la k : Nat) (ho : g 0 k = some ao) (hla : g 1 k = some la) (p1 : Int32) (kk : Nat) (hkk : kk ≤ 8) (hln : ∀ j, j < 8 → (g 2 (8 * k + j) = none ↔ kk ≤ j)) : vx_Met l yX2_findLine wsX2_findLine ({ frames := 6, cells := 1, slots := 6, locals := 82 } : Room) (xP D cI cO cL cJ g X hz sz [.ref ao, .int p1]) (xSr (fun a => ∃ j, j < kk ∧ p1 = nI j ∧ g 2 (8 * k + j) = some a)) (xT (fun E : String => E = IOE ∧ ¬ vp_in p1 kk)) 1 6 (fun _ => False) := by
  refine x_body (cc := cX2_findLine) (maxL := 3) (ret := some (.object "ReturnsDesk$Line")) (by decide) rfl [.ref ao, .int p1] (Nat.le_of_ble_eq_true rfl) ?_
  intro p e s m args below meth c hx hb hr hts hown hml hlocks htab hsz hW hK hE ls hl
  subst hsz
  have hown : s.vm.findClass RX2 = some m.cls := hown
  have hl : lv_has ls 3 [(0, .ref ao), (1, .int p1)] := hl
  have hin1 : ∀ w ∈ u_ws RX1 TX1 12, w ∈ wsX2_findLine := (fun w h => List.mem_cons_of_mem _ (List.mem_append_left _ (List.mem_append_right _ (h))))
  refine lv_iload_n hx hb dX2_findLine_0 rfl (lv_at hl 1 rfl) ?_
  refine lv_if_lt (tgt := 22) hx hb dX2_findLine_1 (by decide) (fun c1 => ?_) (fun c1 => ?_)
  · skip
    refine lv_null hx hb dX2_findLine_22 ?_
    refine lv_astore_nN (lv' := [(2, .null), (0, .ref ao), (1, .int p1)]) hx hb dX2_findLine_23 rfl hl (by decide) rfl (fun ls hl => ?_)
    refine lv_aload_nN hx hb dX2_findLine_24 rfl (lv_at hl 0 rfl) ?_
    refine lv_ifnonnullN hx hb dX2_findLine_25 ?_
    exact x_throw (cls := IOE) (text := "no such line") (ik := 153) (is := 162) (ic := 157) hlt hx hb hown hts hE (by decide +kernel) (by decide +kernel) (hts (.classLink RX2 153 "java/lang/IndexOutOfBoundsException") (List.mem_of_getElem? (i := 1) rfl)) (hts (.initialized "java/lang/IndexOutOfBoundsException") (List.mem_of_getElem? (i := 2) rfl)) (List.mem_of_getElem? (i := 7) rfl) (fun w h => List.mem_cons_of_mem _ (List.mem_append_right _ (h))) tn_O tg_O (hl.1.trans hml.symm) htab hlocks dX2_findLine_28 dX2_findLine_31 dX2_findLine_32 dX2_findLine_34 dX2_findLine_37 ⟨(Nat.le_of_ble_eq_true rfl), (Nat.le_of_ble_eq_true rfl), (Nat.le_of_ble_eq_true rfl), (Nat.le_of_ble_eq_true rfl)⟩ ⟨(Nat.le_of_ble_eq_true rfl), (Nat.le_of_ble_eq_true rfl)⟩ rfl rfl ⟨rfl, fun h => h (Or.inl c1)⟩
  · skip
    refine lv_iload_n hx hb dX2_findLine_4 rfl (lv_at hl 1 rfl) ?_
    refine lv_aload_n hx hb dX2_findLine_5 rfl (lv_at hl 0 rfl) ?_
    refine f_get (ci := 1) (fs := xobO g X k) (v := .ref la) hx hb hts hin1 hown hK (hW 0 k _ ho) rfl 2 (by decide) (hts (.fieldLink RX2 158 "ReturnsDesk$Order" "lines" "[LReturnsDesk$Line;") (List.mem_of_getElem? (i := 3) rfl)) (fun _ h9 => h9) (congrArg (fun z => some (va_rf z)) hla) dX2_findLine_6 ?_
    refine f_alen (v := 8) hx hb hK 2 rfl (hW 1 k _ hla) rfl dX2_findLine_9 ?_
    refine lv_icmp_ge (tgt := 22) hx hb dX2_findLine_10 (by decide) (fun c10 => ?_) (fun c10 => ?_)
    · skip
      refine lv_null hx hb dX2_findLine_22 ?_
      refine lv_astore_nN (lv' := [(2, .null), (0, .ref ao), (1, .int p1)]) hx hb dX2_findLine_23 rfl hl (by decide) rfl (fun ls hl => ?_)
      refine lv_aload_nN hx hb dX2_findLine_24 rfl (lv_at hl 0 rfl) ?_
      refine lv_ifnonnullN hx hb dX2_findLine_25 ?_
      exact x_throw (cls := IOE) (text := "no such line") (ik := 153) (is := 162) (ic := 157) hlt hx hb hown hts hE (by decide +kernel) (by decide +kernel) (hts (.classLink RX2 153 "java/lang/IndexOutOfBoundsException") (List.mem_of_getElem? (i := 1) rfl)) (hts (.initialized "java/lang/IndexOutOfBoundsException") (List.mem_of_getElem? (i := 2) rfl)) (List.mem_of_getElem? (i := 7) rfl) (fun w h => List.mem_cons_of_mem _ (List.mem_append_right _ (h))) tn_O tg_O (hl.1.trans hml.symm) htab hlocks dX2_findLine_28 dX2_findLine_31 dX2_findLine_32 dX2_findLine_34 dX2_findLine_37 ⟨(Nat.le_of_ble_eq_true rfl), (Nat.le_of_ble_eq_true rfl), (Nat.le_of_ble_eq_true rfl), (Nat.le_of_ble_eq_true rfl)⟩ ⟨(Nat.le_of_ble_eq_true rfl), (Nat.le_of_ble_eq_true rfl)⟩ rfl rfl ⟨rfl, vp_hi c10 hkk (by decide)⟩
    · skip
      obtain ⟨j, hj8, hpj⟩ := in_ofN (N := 8) c1 c10 (by decide)
      subst hpj
      refine lv_aload_n hx hb dX2_findLine_13 rfl (lv_at hl 0 rfl) ?_
      refine f_get (ci := 1) (fs := xobO g X k) (v := .ref la) hx hb hts hin1 hown hK (hW 0 k _ ho) rfl 2 (by decide) (hts (.fieldLink RX2 158 "ReturnsDesk$Order" "lines" "[LReturnsDesk$Line;") (List.mem_of_getElem? (i := 3) rfl)) (fun _ h9 => h9) (congrArg (fun z => some (va_rf z)) hla) dX2_findLine_14 ?_
      refine lv_iload_n hx hb dX2_findLine_17 rfl (lv_at hl 1 rfl) ?_
      rcases hq18 : g 2 (8 * k + j) with _ | al
      · skip
        refine f_aaldV (v := .null) hx hb hK 2 rfl (hW 1 k _ hla) rfl (show j < 8 by omega) (by decide) (congrArg va_rf hq18) dX2_findLine_18 ?_
        refine lv_goto (tgt := 23) hx hb dX2_findLine_19 (by decide) ?_
        refine lv_astore_nN (lv' := [(2, .null), (0, .ref ao), (1, .int (nI j))]) hx hb dX2_findLine_23 rfl hl (by decide) rfl (fun ls hl => ?_)
        refine lv_aload_nN hx hb dX2_findLine_24 rfl (lv_at hl 0 rfl) ?_
        refine lv_ifnonnullN hx hb dX2_findLine_25 ?_
        exact x_throw (cls := IOE) (text := "no such line") (ik := 153) (is := 162) (ic := 157) hlt hx hb hown hts hE (by decide +kernel) (by decide +kernel) (hts (.classLink RX2 153 "java/lang/IndexOutOfBoundsException") (List.mem_of_getElem? (i := 1) rfl)) (hts (.initialized "java/lang/IndexOutOfBoundsException") (List.mem_of_getElem? (i := 2) rfl)) (List.mem_of_getElem? (i := 7) rfl) (fun w h => List.mem_cons_of_mem _ (List.mem_append_right _ (h))) tn_O tg_O (hl.1.trans hml.symm) htab hlocks dX2_findLine_28 dX2_findLine_31 dX2_findLine_32 dX2_findLine_34 dX2_findLine_37 ⟨(Nat.le_of_ble_eq_true rfl), (Nat.le_of_ble_eq_true rfl), (Nat.le_of_ble_eq_true rfl), (Nat.le_of_ble_eq_true rfl)⟩ ⟨(Nat.le_of_ble_eq_true rfl), (Nat.le_of_ble_eq_true rfl)⟩ rfl rfl ⟨rfl, vp_out ((hln j hj8).mp hq18) (Nat.lt_trans hj8 (by decide))⟩
      · skip
        refine f_aaldV (v := .ref al) hx hb hK 2 rfl (hW 1 k _ hla) rfl (show j < 8 by omega) (by decide) (congrArg va_rf hq18) dX2_findLine_18 ?_
        refine lv_goto (tgt := 23) hx hb dX2_findLine_19 (by decide) ?_
        refine lv_astore_n (lv' := [(2, .ref al), (0, .ref ao), (1, .int (nI j))]) hx hb dX2_findLine_23 rfl hl (by decide) rfl (fun ls hl => ?_)
        refine lv_aload_n hx hb dX2_findLine_24 rfl (lv_at hl 0 rfl) ?_
        refine lv_ifnonnull (tgt := 38) hx hb dX2_findLine_25 (by decide) ?_
        refine lv_aload_n hx hb dX2_findLine_38 rfl (lv_at hl 0 rfl) ?_
        exact xr_aret hx hb hr hlocks ⟨Nat.le_of_ble_eq_true rfl, Nat.le_of_ble_eq_true rfl⟩ ⟨j, Nat.lt_of_not_le (fun z => by rw [(hln j hj8).mpr z] at hq18; cases hq18), rfl, hq18⟩ dX2_findLine_39
set_option maxHeartbeats 4000000 in
set_option maxRecDepth 100000 in
theorem kX2_price (l : Launch) (hlt : l.stackTraces = false) {D : va_G} {cI cO cL cJ : ClassId} (g : XG) (X : MS) (hz sz : Nat) (d bk : Nat) (hd : g 3 0 = some d) (hbk : g 4 0 = some bk) (n : Nat) (kc : Nat → Nat) (hC : xC g X n kc) (p0 : Int32) : vx_Met l yX2_price wsX2_price ({ frames := 7, cells := 1, slots := 6, locals := 104 } : Room) (xP D cI cO cL cJ g X hz sz [.ref d, .int p0]) (vp_Si (fun r : Int32 => ∃ k, k < n ∧ p0 = nI k ∧ r = priceX X k (kc k))) (xT (fun E : String => noO n p0 E)) 1 6 (fun _ => False) := by
  refine x_body (cc := cX2_price) (maxL := 2) (ret := some .int) (by decide) rfl [.ref d, .int p0] (Nat.le_of_ble_eq_true rfl) ?_
  intro p e s m args below meth c hx hb hr hts hown hml hlocks htab hsz hW hK hE ls hl
  subst hsz
  have hown : s.vm.findClass RX2 = some m.cls := hown
  have hl : lv_has ls 2 [(0, .ref d), (1, .int p0)] := hl
  have hin0 : ∀ w ∈ u_ws RX0 TX0 5, w ∈ wsX2_price := (fun w h => List.mem_cons_of_mem _ (List.mem_append_left _ (List.mem_append_right _ (h))))
  have hin1 : ∀ w ∈ u_ws RX1 TX1 12, w ∈ wsX2_price := (fun w h => List.mem_cons_of_mem _ (List.mem_append_left _ (List.mem_append_left _ (List.mem_append_right _ (h)))))
  have hin2 : ∀ w ∈ u_ws RX2 TX2 6, w ∈ wsX2_price := (fun w h => List.mem_cons_of_mem _ (List.mem_append_left _ (List.mem_append_left _ (List.mem_append_left _ (List.mem_append_right _ (h))))))
  refine lv_aload_n hx hb dX2_price_0 rfl (lv_at hl 0 rfl) ?_
  refine lv_iload_n hx hb dX2_price_1 rfl (lv_at hl 1 rfl) ?_
  refine x_cR (vx_runV (As := [.int p0]) (rest := []) (b := d) ⟨hx, hb, hml, hown, hts⟩ (kX2_findOrder l hlt g X hz _ d bk hd hbk n hC.1 hC.2.2.1 p0) (cwV 1 hts gX2_price_X2_findOrder rfl rfl rfl (by decide +kernel) ⟨Nat.le_of_ble_eq_true rfl, Nat.le_of_ble_eq_true rfl⟩) (x_preV hW hK hE (x_recvD hK hW hd)) rfl rfl hl.1 rfl (lv_room (Nat.le_of_ble_eq_true rfl)) dX2_price_2 ⟨Nat.le_of_ble_eq_true rfl, Nat.le_of_ble_eq_true rfl⟩) (va_S.rf (A := fun _ => True)) (fun E ce q9 H1 locs1 hc hz1 hk1 hS1 hL1 hce hcv hcl => x_prop htab hlocks hce hcv hcl hz1 hk1 (fun z h => (hL1 z h).elim (fun h => nomatch h) (fun h => h.elim)) ⟨Nat.le_of_ble_eq_true rfl, Nat.le_of_ble_eq_true rfl⟩ hc) (fun ao hp => ?_)
  obtain ⟨k, hk, hp0, ho⟩ := hp
  subst hp0
  obtain ⟨hkk, hX7, ⟨la, hla⟩, hln⟩ := hC.2.2.2 k hk
  refine vp_callSi (va_runV (As := []) (rest := []) (b := ao) ⟨hx, hb, hml, hown, hts⟩ (kX1_priceAnew l g X hz _ ao la k ho hla (kc k) hkk hln) (cwV 0 hts gX2_price_X1_priceAnew rfl rfl rfl (by decide +kernel) ⟨Nat.le_of_ble_eq_true rfl, Nat.le_of_ble_eq_true rfl⟩) (x_preV hW hK hE (x_recvO hK hW ho)) rfl rfl hl.1 rfl (lv_room (Nat.le_of_ble_eq_true rfl)) dX2_price_5 ⟨Nat.le_of_ble_eq_true rfl, Nat.le_of_ble_eq_true rfl⟩).run (fun r hp => ?_)
  subst hp
  exact xr_ret hx hb hr hlocks ⟨Nat.le_of_ble_eq_true rfl, Nat.le_of_ble_eq_true rfl⟩ ⟨k, hk, rfl, rfl⟩ dX2_price_8
set_option maxHeartbeats 4000000 in
set_option maxRecDepth 100000 in
theorem kX2_fees (l : Launch) (hlt : l.stackTraces = false) {D : va_G} {cI cO cL cJ : ClassId} (g : XG) (X : MS) (hz sz : Nat) (d bk : Nat) (hd : g 3 0 = some d) (hbk : g 4 0 = some bk) (n : Nat) (kc : Nat → Nat) (hC : xC g X n kc) (p0 : Int32) : vx_Met l yX2_fees wsX2_fees ({ frames := 7, cells := 1, slots := 6, locals := 104 } : Room) (xP D cI cO cL cJ g X hz sz [.ref d, .int p0]) (vp_Si (fun r : Int32 => ∃ k, k < n ∧ p0 = nI k ∧ r = X 10 k)) (xT (fun E : String => noO n p0 E)) 1 6 (fun _ => False) := by
  refine x_body (cc := cX2_fees) (maxL := 2) (ret := some .int) (by decide) rfl [.ref d, .int p0] (Nat.le_of_ble_eq_true rfl) ?_
  intro p e s m args below meth c hx hb hr hts hown hml hlocks htab hsz hW hK hE ls hl
  subst hsz
  have hown : s.vm.findClass RX2 = some m.cls := hown
  have hl : lv_has ls 2 [(0, .ref d), (1, .int p0)] := hl
  have hin1 : ∀ w ∈ u_ws RX1 TX1 12, w ∈ wsX2_fees := (fun w h => List.mem_cons_of_mem _ (List.mem_append_left _ (List.mem_append_left _ (List.mem_append_right _ (h)))))
  have hin2 : ∀ w ∈ u_ws RX2 TX2 6, w ∈ wsX2_fees := (fun w h => List.mem_cons_of_mem _ (List.mem_append_left _ (List.mem_append_right _ (h))))
  refine lv_aload_n hx hb dX2_fees_0 rfl (lv_at hl 0 rfl) ?_
  refine lv_iload_n hx hb dX2_fees_1 rfl (lv_at hl 1 rfl) ?_
  refine x_cR (vx_runV (As := [.int p0]) (rest := []) (b := d) ⟨hx, hb, hml, hown, hts⟩ (kX2_findOrder l hlt g X hz _ d bk hd hbk n hC.1 hC.2.2.1 p0) (cwV 1 hts gX2_fees_X2_findOrder rfl rfl rfl (by decide +kernel) ⟨Nat.le_of_ble_eq_true rfl, Nat.le_of_ble_eq_true rfl⟩) (x_preV hW hK hE (x_recvD hK hW hd)) rfl rfl hl.1 rfl (lv_room (Nat.le_of_ble_eq_true rfl)) dX2_fees_2 ⟨Nat.le_of_ble_eq_true rfl, Nat.le_of_ble_eq_true rfl⟩) (va_S.rf (A := fun _ => True)) (fun E ce q9 H1 locs1 hc hz1 hk1 hS1 hL1 hce hcv hcl => x_prop htab hlocks hce hcv hcl hz1 hk1 (fun z h => (hL1 z h).elim (fun h => nomatch h) (fun h => h.elim)) ⟨Nat.le_of_ble_eq_true rfl, Nat.le_of_ble_eq_true rfl⟩ hc) (fun ao hp => ?_)
  obtain ⟨k, hk, hp0, ho⟩ := hp
  subst hp0
  obtain ⟨hkk, hX7, ⟨la, hla⟩, hln⟩ := hC.2.2.2 k hk
  refine f_get (ci := 1) (fs := xobO g X k) (v := .int (X 10 k)) hx hb hts hin1 hown hK (hW 0 k _ ho) rfl 6 (by decide) (hts (.fieldLink RX2 87 "ReturnsDesk$Order" "fees" "I") (List.mem_of_getElem? (i := 1) rfl)) (fun _ h9 => h9) rfl dX2_fees_5 ?_
  exact xr_ret hx hb hr hlocks ⟨Nat.le_of_ble_eq_true rfl, Nat.le_of_ble_eq_true rfl⟩ ⟨k, hk, rfl, rfl⟩ dX2_fees_8
set_option maxHeartbeats 4000000 in
set_option maxRecDepth 100000 in
theorem kX2_charges (l : Launch) (hlt : l.stackTraces = false) {D : va_G} {cI cO cL cJ : ClassId} (g : XG) (X : MS) (hz sz : Nat) (d bk : Nat) (hd : g 3 0 = some d) (hbk : g 4 0 = some bk) (n : Nat) (kc : Nat → Nat) (hC : xC g X n kc) (p0 : Int32) : vx_Met l yX2_charges wsX2_charges ({ frames := 7, cells := 1, slots := 6, locals := 104 } : Room) (xP D cI cO cL cJ g X hz sz [.ref d, .int p0]) (vp_Si (fun r : Int32 => ∃ k, k < n ∧ p0 = nI k ∧ r = X 11 k)) (xT (fun E : String => noO n p0 E)) 1 6 (fun _ => False) := by
  refine x_body (cc := cX2_charges) (maxL := 2) (ret := some .int) (by decide) rfl [.ref d, .int p0] (Nat.le_of_ble_eq_true rfl) ?_
  intro p e s m args below meth c hx hb hr hts hown hml hlocks htab hsz hW hK hE ls hl
  subst hsz
  have hown : s.vm.findClass RX2 = some m.cls := hown
  have hl : lv_has ls 2 [(0, .ref d), (1, .int p0)] := hl
  have hin1 : ∀ w ∈ u_ws RX1 TX1 12, w ∈ wsX2_charges := (fun w h => List.mem_cons_of_mem _ (List.mem_append_left _ (List.mem_append_left _ (List.mem_append_right _ (h)))))
  have hin2 : ∀ w ∈ u_ws RX2 TX2 6, w ∈ wsX2_charges := (fun w h => List.mem_cons_of_mem _ (List.mem_append_left _ (List.mem_append_right _ (h))))
  refine lv_aload_n hx hb dX2_charges_0 rfl (lv_at hl 0 rfl) ?_
  refine lv_iload_n hx hb dX2_charges_1 rfl (lv_at hl 1 rfl) ?_
  refine x_cR (vx_runV (As := [.int p0]) (rest := []) (b := d) ⟨hx, hb, hml, hown, hts⟩ (kX2_findOrder l hlt g X hz _ d bk hd hbk n hC.1 hC.2.2.1 p0) (cwV 1 hts gX2_charges_X2_findOrder rfl rfl rfl (by decide +kernel) ⟨Nat.le_of_ble_eq_true rfl, Nat.le_of_ble_eq_true rfl⟩) (x_preV hW hK hE (x_recvD hK hW hd)) rfl rfl hl.1 rfl (lv_room (Nat.le_of_ble_eq_true rfl)) dX2_charges_2 ⟨Nat.le_of_ble_eq_true rfl, Nat.le_of_ble_eq_true rfl⟩) (va_S.rf (A := fun _ => True)) (fun E ce q9 H1 locs1 hc hz1 hk1 hS1 hL1 hce hcv hcl => x_prop htab hlocks hce hcv hcl hz1 hk1 (fun z h => (hL1 z h).elim (fun h => nomatch h) (fun h => h.elim)) ⟨Nat.le_of_ble_eq_true rfl, Nat.le_of_ble_eq_true rfl⟩ hc) (fun ao hp => ?_)
  obtain ⟨k, hk, hp0, ho⟩ := hp
  subst hp0
  obtain ⟨hkk, hX7, ⟨la, hla⟩, hln⟩ := hC.2.2.2 k hk
  refine f_get (ci := 1) (fs := xobO g X k) (v := .int (X 11 k)) hx hb hts hin1 hown hK (hW 0 k _ ho) rfl 7 (by decide) (hts (.fieldLink RX2 110 "ReturnsDesk$Order" "charges" "I") (List.mem_of_getElem? (i := 1) rfl)) (fun _ h9 => h9) rfl dX2_charges_5 ?_
  exact xr_ret hx hb hr hlocks ⟨Nat.le_of_ble_eq_true rfl, Nat.le_of_ble_eq_true rfl⟩ ⟨k, hk, rfl, rfl⟩ dX2_charges_8
set_option maxHeartbeats 4000000 in
set_option maxRecDepth 100000 in
theorem kX2_refunded (l : Launch) (hlt : l.stackTraces = false) {D : va_G} {cI cO cL cJ : ClassId} (g : XG) (X : MS) (hz sz : Nat) (d bk : Nat) (hd : g 3 0 = some d) (hbk : g 4 0 = some bk) (n : Nat) (kc : Nat → Nat) (hC : xC g X n kc) (p0 : Int32) : vx_Met l yX2_refunded wsX2_refunded ({ frames := 7, cells := 1, slots := 6, locals := 104 } : Room) (xP D cI cO cL cJ g X hz sz [.ref d, .int p0]) (vp_Si (fun r : Int32 => ∃ k, k < n ∧ p0 = nI k ∧ r = X 12 k)) (xT (fun E : String => noO n p0 E)) 1 6 (fun _ => False) := by
  refine x_body (cc := cX2_refunded) (maxL := 2) (ret := some .int) (by decide) rfl [.ref d, .int p0] (Nat.le_of_ble_eq_true rfl) ?_
  intro p e s m args below meth c hx hb hr hts hown hml hlocks htab hsz hW hK hE ls hl
  subst hsz
  have hown : s.vm.findClass RX2 = some m.cls := hown
  have hl : lv_has ls 2 [(0, .ref d), (1, .int p0)] := hl
  have hin1 : ∀ w ∈ u_ws RX1 TX1 12, w ∈ wsX2_refunded := (fun w h => List.mem_cons_of_mem _ (List.mem_append_left _ (List.mem_append_left _ (List.mem_append_right _ (h)))))
  have hin2 : ∀ w ∈ u_ws RX2 TX2 6, w ∈ wsX2_refunded := (fun w h => List.mem_cons_of_mem _ (List.mem_append_left _ (List.mem_append_right _ (h))))
  refine lv_aload_n hx hb dX2_refunded_0 rfl (lv_at hl 0 rfl) ?_
  refine lv_iload_n hx hb dX2_refunded_1 rfl (lv_at hl 1 rfl) ?_
  refine x_cR (vx_runV (As := [.int p0]) (rest := []) (b := d) ⟨hx, hb, hml, hown, hts⟩ (kX2_findOrder l hlt g X hz _ d bk hd hbk n hC.1 hC.2.2.1 p0) (cwV 1 hts gX2_refunded_X2_findOrder rfl rfl rfl (by decide +kernel) ⟨Nat.le_of_ble_eq_true rfl, Nat.le_of_ble_eq_true rfl⟩) (x_preV hW hK hE (x_recvD hK hW hd)) rfl rfl hl.1 rfl (lv_room (Nat.le_of_ble_eq_true rfl)) dX2_refunded_2 ⟨Nat.le_of_ble_eq_true rfl, Nat.le_of_ble_eq_true rfl⟩) (va_S.rf (A := fun _ => True)) (fun E ce q9 H1 locs1 hc hz1 hk1 hS1 hL1 hce hcv hcl => x_prop htab hlocks hce hcv hcl hz1 hk1 (fun z h => (hL1 z h).elim (fun h => nomatch h) (fun h => h.elim)) ⟨Nat.le_of_ble_eq_true rfl, Nat.le_of_ble_eq_true rfl⟩ hc) (fun ao hp => ?_)
  obtain ⟨k, hk, hp0, ho⟩ := hp
  subst hp0
  obtain ⟨hkk, hX7, ⟨la, hla⟩, hln⟩ := hC.2.2.2 k hk
  refine f_get (ci := 1) (fs := xobO g X k) (v := .int (X 12 k)) hx hb hts hin1 hown hK (hW 0 k _ ho) rfl 8 (by decide) (hts (.fieldLink RX2 119 "ReturnsDesk$Order" "refunded" "I") (List.mem_of_getElem? (i := 1) rfl)) (fun _ h9 => h9) rfl dX2_refunded_5 ?_
  exact xr_ret hx hb hr hlocks ⟨Nat.le_of_ble_eq_true rfl, Nat.le_of_ble_eq_true rfl⟩ ⟨k, hk, rfl, rfl⟩ dX2_refunded_8
set_option maxHeartbeats 4000000 in
set_option maxRecDepth 100000 in
theorem kX2_orders (l : Launch) {D : va_G} {cI cO cL cJ : ClassId} (g : XG) (X : MS) (hz sz : Nat) (d bk : Nat) (hd : g 3 0 = some d) (hbk : g 4 0 = some bk)  : Met l yX2_orders wsX2_orders ({ frames := 0, cells := 0, slots := 0, locals := 0 } : Room) (xP D cI cO cL cJ g X hz sz [.ref d]) (vp_Si (fun r : Int32 => r = X 0 0)) 0 0 (fun _ => False) := by
  refine x_bodyM (cc := cX2_orders) (maxL := 1) (ret := some .int) (by decide) rfl [.ref d] (Nat.le_of_ble_eq_true rfl) ?_
  intro p e s m args below meth c hx hb hr hts hown hml hlocks hsz hW hK hE ls hl
  subst hsz
  have hown : s.vm.findClass RX2 = some m.cls := hown
  have hl : lv_has ls 1 [(0, .ref d)] := hl
  have hin2 : ∀ w ∈ u_ws RX2 TX2 6, w ∈ wsX2_orders := (fun w h => List.mem_cons_of_mem _ (List.mem_append_right _ (h)))
  refine lv_aload_n hx hb dX2_orders_0 rfl (lv_at hl 0 rfl) ?_
  refine f_get (ci := 2) (fs := xobD g X 0) (v := .int (X 0 0)) hx hb hts hin2 hown hK (hW 3 0 _ hd) rfl 1 (by decide) (hts (.fieldLink RX2 20 "ReturnsDesk" "orderCount" "I") (List.mem_of_getElem? (i := 1) rfl)) (fun _ h9 => h9) rfl dX2_orders_1 ?_
  exact r_ret hx hb hr hlocks rfl dX2_orders_4
set_option maxHeartbeats 4000000 in
set_option maxRecDepth 100000 in
theorem kX2_day (l : Launch) {D : va_G} {cI cO cL cJ : ClassId} (g : XG) (X : MS) (hz sz : Nat) (d bk : Nat) (hd : g 3 0 = some d) (hbk : g 4 0 = some bk)  : Met l yX2_day wsX2_day ({ frames := 0, cells := 0, slots := 0, locals := 0 } : Room) (xP D cI cO cL cJ g X hz sz [.ref d]) (vp_Si (fun r : Int32 => r = X 1 0)) 0 0 (fun _ => False) := by
  refine x_bodyM (cc := cX2_day) (maxL := 1) (ret := some .int) (by decide) rfl [.ref d] (Nat.le_of_ble_eq_true rfl) ?_
  intro p e s m args below meth c hx hb hr hts hown hml hlocks hsz hW hK hE ls hl
  subst hsz
  have hown : s.vm.findClass RX2 = some m.cls := hown
  have hl : lv_has ls 1 [(0, .ref d)] := hl
  have hin2 : ∀ w ∈ u_ws RX2 TX2 6, w ∈ wsX2_day := (fun w h => List.mem_cons_of_mem _ (List.mem_append_right _ (h)))
  refine lv_aload_n hx hb dX2_day_0 rfl (lv_at hl 0 rfl) ?_
  refine f_get (ci := 2) (fs := xobD g X 0) (v := .int (X 1 0)) hx hb hts hin2 hown hK (hW 3 0 _ hd) rfl 2 (by decide) (hts (.fieldLink RX2 61 "ReturnsDesk" "today" "I") (List.mem_of_getElem? (i := 1) rfl)) (fun _ h9 => h9) rfl dX2_day_1 ?_
  exact r_ret hx hb hr hlocks rfl dX2_day_4
set_option maxHeartbeats 4000000 in
set_option maxRecDepth 100000 in
theorem kX2_isShortBy (l : Launch) (hlt : l.stackTraces = false) {D : va_G} {cI cO cL cJ : ClassId} (g : XG) (X : MS) (hz sz : Nat) (d bk : Nat) (hd : g 3 0 = some d) (hbk : g 4 0 = some bk) (n : Nat) (kc : Nat → Nat) (hC : xC g X n kc) (p0 : Int32) : vx_Met l yX2_isShortBy wsX2_isShortBy ({ frames := 7, cells := 1, slots := 6, locals := 104 } : Room) (xP D cI cO cL cJ g X hz sz [.ref d, .int p0]) (vp_Si (fun r : Int32 => ∃ k, k < n ∧ p0 = nI k ∧ r = shX X k (kc k))) (xT (fun E : String => noO n p0 E)) 1 6 (fun _ => False) := by
  refine x_body (cc := cX2_isShortBy) (maxL := 3) (ret := some .int) (by decide) rfl [.ref d, .int p0] (Nat.le_of_ble_eq_true rfl) ?_
  intro p e s m args below meth c hx hb hr hts hown hml hlocks htab hsz hW hK hE ls hl
  subst hsz
  have hown : s.vm.findClass RX2 = some m.cls := hown
  have hl : lv_has ls 3 [(0, .ref d), (1, .int p0)] := hl
  have hin0 : ∀ w ∈ u_ws RX0 TX0 5, w ∈ wsX2_isShortBy := (fun w h => List.mem_cons_of_mem _ (List.mem_append_left _ (List.mem_append_right _ (h))))
  have hin1 : ∀ w ∈ u_ws RX1 TX1 12, w ∈ wsX2_isShortBy := (fun w h => List.mem_cons_of_mem _ (List.mem_append_left _ (List.mem_append_left _ (List.mem_append_left _ (List.mem_append_right _ (h))))))
  have hin2 : ∀ w ∈ u_ws RX2 TX2 6, w ∈ wsX2_isShortBy := (fun w h => List.mem_cons_of_mem _ (List.mem_append_left _ (List.mem_append_left _ (List.mem_append_right _ (h)))))
  refine lv_aload_n hx hb dX2_isShortBy_0 rfl (lv_at hl 0 rfl) ?_
  refine lv_iload_n hx hb dX2_isShortBy_1 rfl (lv_at hl 1 rfl) ?_
  refine x_cR (vx_runV (As := [.int p0]) (rest := []) (b := d) ⟨hx, hb, hml, hown, hts⟩ (kX2_findOrder l hlt g X hz _ d bk hd hbk n hC.1 hC.2.2.1 p0) (cwV 1 hts gX2_isShortBy_X2_findOrder rfl rfl rfl (by decide +kernel) ⟨Nat.le_of_ble_eq_true rfl, Nat.le_of_ble_eq_true rfl⟩) (x_preV hW hK hE (x_recvD hK hW hd)) rfl rfl hl.1 rfl (lv_room (Nat.le_of_ble_eq_true rfl)) dX2_isShortBy_2 ⟨Nat.le_of_ble_eq_true rfl, Nat.le_of_ble_eq_true rfl⟩) (va_S.rf (A := fun _ => True)) (fun E ce q9 H1 locs1 hc hz1 hk1 hS1 hL1 hce hcv hcl => x_prop htab hlocks hce hcv hcl hz1 hk1 (fun z h => (hL1 z h).elim (fun h => nomatch h) (fun h => h.elim)) ⟨Nat.le_of_ble_eq_true rfl, Nat.le_of_ble_eq_true rfl⟩ hc) (fun ao hp => ?_)
  obtain ⟨k, hk, hp0, ho⟩ := hp
  subst hp0
  obtain ⟨hkk, hX7, ⟨la, hla⟩, hln⟩ := hC.2.2.2 k hk
  refine lv_astore_n (lv' := [(2, .ref ao), (0, .ref d), (1, .int (nI k))]) hx hb dX2_isShortBy_5 rfl hl (by decide) rfl (fun ls hl => ?_)
  refine lv_aload_n hx hb dX2_isShortBy_6 rfl (lv_at hl 0 rfl) ?_
  refine f_get (ci := 1) (fs := xobO g X k) (v := .int (X 8 k)) hx hb hts hin1 hown hK (hW 0 k _ ho) rfl 4 (by decide) (hts (.fieldLink RX2 39 "ReturnsDesk$Order" "isPaid" "Z") (List.mem_of_getElem? (i := 1) rfl)) (fun _ h9 => h9) rfl dX2_isShortBy_7 ?_
  refine lv_if_eq (tgt := 29) hx hb dX2_isShortBy_10 (by decide) (fun c10 => ?_) (fun c10 => ?_)
  · skip
    refine lv_iconst (v := 0) hx hb dX2_isShortBy_29 (by decide) ?_
    exact xr_ret hx hb hr hlocks ⟨Nat.le_of_ble_eq_true rfl, Nat.le_of_ble_eq_true rfl⟩ ⟨k, hk, rfl, (by unfold shX; rw [if_pos c10] <;> rfl)⟩ dX2_isShortBy_30
  · skip
    refine lv_aload_n hx hb dX2_isShortBy_13 rfl (lv_at hl 0 rfl) ?_
    refine vp_callSi (va_runV (As := []) (rest := []) (b := ao) ⟨hx, hb, hml, hown, hts⟩ (kX1_owed l g X hz _ ao la k ho hla (kc k) hkk hln) (cwV 0 hts gX2_isShortBy_X1_owed rfl rfl rfl (by decide +kernel) ⟨Nat.le_of_ble_eq_true rfl, Nat.le_of_ble_eq_true rfl⟩) (x_preV hW hK hE (x_recvO hK hW ho)) rfl rfl hl.1 rfl (lv_room (Nat.le_of_ble_eq_true rfl)) dX2_isShortBy_14 ⟨Nat.le_of_ble_eq_true rfl, Nat.le_of_ble_eq_true rfl⟩).run (fun r hp => ?_)
    subst hp
    refine lv_aload_n hx hb dX2_isShortBy_17 rfl (lv_at hl 0 rfl) ?_
    refine vp_callSi (va_runV (As := []) (rest := [.int (owedX X k (kc k))]) (b := ao) ⟨hx, hb, hml, hown, hts⟩ (kX1_allTaken l g X hz _ ao la k ho hla) (cwV 0 hts gX2_isShortBy_X1_allTaken rfl rfl rfl (by decide +kernel) ⟨Nat.le_of_ble_eq_true rfl, Nat.le_of_ble_eq_true rfl⟩) (x_preV hW hK hE (x_recvO hK hW ho)) rfl rfl hl.1 rfl (lv_room (Nat.le_of_ble_eq_true rfl)) dX2_isShortBy_18 ⟨Nat.le_of_ble_eq_true rfl, Nat.le_of_ble_eq_true rfl⟩).run (fun r hp => ?_)
    subst hp
    refine lv_isub hx hb dX2_isShortBy_21 ?_
    refine lv_iconst (v := 0) hx hb dX2_isShortBy_22 (by decide) ?_
    refine va_mmax hx hb (hml.trans hl.1.symm) hown (hts (.methodLink RX2 128 Lib.Math.max.name) (List.mem_of_getElem? (i := 2) rfl)) (hts (.static Lib.Math.max.name) (List.mem_of_getElem? (i := 3) rfl)) (hts (.initialized "java/lang/Math") (List.mem_of_getElem? (i := 4) rfl)) (hts (.code Lib.Math.max.name Lib.Math.max.code 2 (some .int)) (List.mem_of_getElem? (i := 5) rfl)) (Nat.le_of_ble_eq_true rfl) (Nat.le_of_ble_eq_true rfl) (Nat.le_of_ble_eq_true rfl) (Nat.le_of_ble_eq_true rfl) dX2_isShortBy_23 ?_
    refine cv (y := maxI ((owedX X k (kc k)) - (takenX X k)) 0) rfl ?_
    refine lv_goto (tgt := 30) hx hb dX2_isShortBy_26 (by decide) ?_
    exact xr_ret hx hb hr hlocks ⟨Nat.le_of_ble_eq_true rfl, Nat.le_of_ble_eq_true rfl⟩ ⟨k, hk, rfl, (by unfold shX; rw [if_neg c10] <;> rfl)⟩ dX2_isShortBy_30
set_option maxHeartbeats 4000000 in
set_option maxRecDepth 100000 in
theorem kX2_stock (l : Launch) (hlt : l.stackTraces = false) {D : va_G} {cI cO cL cJ : ClassId} (g : XG) (X : MS) (hz sz : Nat) (d bk : Nat) (hd : g 3 0 = some d) (hbk : g 4 0 = some bk) (p0 : Int32) : vx_Met l yX2_stock wsX2_stock ({ frames := 7, cells := 1, slots := 6, locals := 104 } : Room) (xP D cI cO cL cJ g X hz sz [.ref d, .int p0]) (vp_Si (fun r : Int32 => inR p0 0 2 ∧ r = stX X p0)) (xT (fun E : String => E = IAE ∧ ¬ inR p0 0 2)) 1 6 (fun _ => False) := by
  refine x_body (cc := cX2_stock) (maxL := 2) (ret := some .int) (by decide) rfl [.ref d, .int p0] (Nat.le_of_ble_eq_true rfl) ?_
  intro p e s m args below meth c hx hb hr hts hown hml hlocks htab hsz hW hK hE ls hl
  subst hsz
  have hown : s.vm.findClass RX2 = some m.cls := hown
  have hl : lv_has ls 2 [(0, .ref d), (1, .int p0)] := hl
  have hin2 : ∀ w ∈ u_ws RX2 TX2 6, w ∈ wsX2_stock := (fun w h => List.mem_cons_of_mem _ (List.mem_append_left _ (List.mem_append_right _ (h))))
  refine lv_iload_n hx hb dX2_stock_0 rfl (lv_at hl 1 rfl) ?_
  refine lv_iconst (v := 0) hx hb dX2_stock_1 (by decide) ?_
  refine lv_iconst (v := 2) hx hb dX2_stock_2 (by decide) ?_
  refine x_cV (vx_runS (As := [.int p0, .int 0, .int 2]) (rest := []) ⟨hx, hb, hml, hown, hts⟩ (kX2_requireRange l hlt g X hz _ p0 0 2) (va_cwS 3 hts gX2_stock_X2_requireRange rfl rfl rfl (by decide +kernel) ⟨Nat.le_of_ble_eq_true rfl, Nat.le_of_ble_eq_true rfl⟩) (x_preS hW hK hE) rfl rfl hl.1 rfl (lv_room (Nat.le_of_ble_eq_true rfl)) dX2_stock_3 ⟨Nat.le_of_ble_eq_true rfl, Nat.le_of_ble_eq_true rfl⟩) (va_S.rf (A := fun _ => True)) (fun E ce q9 H1 locs1 hc hz1 hk1 hS1 hL1 hce hcv hcl => x_prop htab hlocks hce hcv hcl hz1 hk1 (fun z h => (hL1 z h).elim (fun h => nomatch h) (fun h => h.elim)) ⟨Nat.le_of_ble_eq_true rfl, Nat.le_of_ble_eq_true rfl⟩ hc) (fun h3 => ?_)
  refine lv_iload_n hx hb dX2_stock_6 rfl (lv_at hl 1 rfl) ?_
  refine lv_if_ne (tgt := 15) hx hb dX2_stock_7 (by decide) (fun c7 => ?_) (fun c7 => ?_)
  · skip
    refine lv_iload_n hx hb dX2_stock_15 rfl (lv_at hl 1 rfl) ?_
    refine lv_iconst (v := 1) hx hb dX2_stock_16 (by decide) ?_
    refine lv_icmp_ne (tgt := 27) hx hb dX2_stock_17 (by decide) (fun c17 => ?_) (fun c17 => ?_)
    · skip
      refine lv_aload_n hx hb dX2_stock_27 rfl (lv_at hl 0 rfl) ?_
      refine f_get (ci := 2) (fs := xobD g X 0) (v := .int (X 4 0)) hx hb hts hin2 hown hK (hW 3 0 _ hd) rfl 5 (by decide) (hts (.fieldLink RX2 140 "ReturnsDesk" "wasteThings" "I") (List.mem_of_getElem? (i := 3) rfl)) (fun _ h9 => h9) rfl dX2_stock_28 ?_
      exact xr_ret hx hb hr hlocks ⟨Nat.le_of_ble_eq_true rfl, Nat.le_of_ble_eq_true rfl⟩ ⟨h3, (by unfold stX; rw [if_neg c7, if_neg c17] <;> rfl)⟩ dX2_stock_31
    · skip
      refine lv_aload_n hx hb dX2_stock_20 rfl (lv_at hl 0 rfl) ?_
      refine f_get (ci := 2) (fs := xobD g X 0) (v := .int (X 3 0)) hx hb hts hin2 hown hK (hW 3 0 _ hd) rfl 4 (by decide) (hts (.fieldLink RX2 137 "ReturnsDesk" "secondThings" "I") (List.mem_of_getElem? (i := 2) rfl)) (fun _ h9 => h9) rfl dX2_stock_21 ?_
      refine lv_goto (tgt := 31) hx hb dX2_stock_24 (by decide) ?_
      exact xr_ret hx hb hr hlocks ⟨Nat.le_of_ble_eq_true rfl, Nat.le_of_ble_eq_true rfl⟩ ⟨h3, (by unfold stX; rw [if_neg c7, if_pos c17] <;> rfl)⟩ dX2_stock_31
  · skip
    refine lv_aload_n hx hb dX2_stock_10 rfl (lv_at hl 0 rfl) ?_
    refine f_get (ci := 2) (fs := xobD g X 0) (v := .int (X 2 0)) hx hb hts hin2 hown hK (hW 3 0 _ hd) rfl 3 (by decide) (hts (.fieldLink RX2 134 "ReturnsDesk" "newThings" "I") (List.mem_of_getElem? (i := 1) rfl)) (fun _ h9 => h9) rfl dX2_stock_11 ?_
    exact xr_ret hx hb hr hlocks ⟨Nat.le_of_ble_eq_true rfl, Nat.le_of_ble_eq_true rfl⟩ ⟨h3, (by unfold stX; rw [if_pos c7] <;> rfl)⟩ dX2_stock_14
set_option maxHeartbeats 4000000 in
set_option maxRecDepth 100000 in
theorem kX2_taken (l : Launch) (hlt : l.stackTraces = false) {D : va_G} {cI cO cL cJ : ClassId} (g : XG) (X : MS) (hz sz : Nat) (d bk : Nat) (hd : g 3 0 = some d) (hbk : g 4 0 = some bk) (n : Nat) (kc : Nat → Nat) (hC : xC g X n kc) (p0 p1 : Int32) : vx_Met l yX2_taken wsX2_taken ({ frames := 7, cells := 2, slots := 12, locals := 104 } : Room) (xP D cI cO cL cJ g X hz sz [.ref d, .int p0, .int p1]) (vp_Si (fun r : Int32 => ∃ k, k < n ∧ p0 = nI k ∧ inR p1 0 2 ∧ r = tkX X k p1)) (xT (fun E : String => noO n p0 E ∨ (E = IAE ∧ ∃ k, k < n ∧ p0 = nI k ∧ ¬ inR p1 0 2))) 2 12 (fun _ => False) := by
  refine x_body (cc := cX2_taken) (maxL := 4) (ret := some .int) (by decide) rfl [.ref d, .int p0, .int p1] (Nat.le_of_ble_eq_true rfl) ?_
  intro p e s m args below meth c hx hb hr hts hown hml hlocks htab hsz hW hK hE ls hl
  subst hsz
  have hown : s.vm.findClass RX2 = some m.cls := hown
  have hl : lv_has ls 4 [(0, .ref d), (1, .int p0), (2, .int p1)] := hl
  have hin1 : ∀ w ∈ u_ws RX1 TX1 12, w ∈ wsX2_taken := (fun w h => List.mem_cons_of_mem _ (List.mem_append_left _ (List.mem_append_left _ (List.mem_append_left _ (List.mem_append_right _ (h))))))
  have hin2 : ∀ w ∈ u_ws RX2 TX2 6, w ∈ wsX2_taken := (fun w h => List.mem_cons_of_mem _ (List.mem_append_left _ (List.mem_append_left _ (List.mem_append_right _ (h)))))
  refine lv_aload_n hx hb dX2_taken_0 rfl (lv_at hl 0 rfl) ?_
  refine lv_iload_n hx hb dX2_taken_1 rfl (lv_at hl 1 rfl) ?_
  refine x_cR (vx_runV (As := [.int p0]) (rest := []) (b := d) ⟨hx, hb, hml, hown, hts⟩ (kX2_findOrder l hlt g X hz _ d bk hd hbk n hC.1 hC.2.2.1 p0) (cwV 1 hts gX2_taken_X2_findOrder rfl rfl rfl (by decide +kernel) ⟨Nat.le_of_ble_eq_true rfl, Nat.le_of_ble_eq_true rfl⟩) (x_preV hW hK hE (x_recvD hK hW hd)) rfl rfl hl.1 rfl (lv_room (Nat.le_of_ble_eq_true rfl)) dX2_taken_2 ⟨Nat.le_of_ble_eq_true rfl, Nat.le_of_ble_eq_true rfl⟩) (va_S.rf (A := fun _ => True)) (fun E ce q9 H1 locs1 hc hz1 hk1 hS1 hL1 hce hcv hcl => x_prop htab hlocks hce hcv hcl hz1 hk1 (fun z h => (hL1 z h).elim (fun h => nomatch h) (fun h => h.elim)) ⟨Nat.le_of_ble_eq_true rfl, Nat.le_of_ble_eq_true rfl⟩ (Or.inl hc)) (fun ao hp => ?_)
  obtain ⟨k, hk, hp0, ho⟩ := hp
  subst hp0
  obtain ⟨hkk, hX7, ⟨la, hla⟩, hln⟩ := hC.2.2.2 k hk
  refine lv_astore_n (lv' := [(3, .ref ao), (0, .ref d), (1, .int (nI k)), (2, .int p1)]) hx hb dX2_taken_5 rfl hl (by decide) rfl (fun ls hl => ?_)
  refine lv_iload_n hx hb dX2_taken_6 rfl (lv_at hl 3 rfl) ?_
  refine lv_iconst (v := 0) hx hb dX2_taken_7 (by decide) ?_
  refine lv_iconst (v := 2) hx hb dX2_taken_8 (by decide) ?_
  refine x_cV (vx_runS (As := [.int p1, .int 0, .int 2]) (rest := []) ⟨hx, hb, hml, hown, hts⟩ (kX2_requireRange l hlt g X hz _ p1 0 2) (va_cwS 3 hts gX2_taken_X2_requireRange rfl rfl rfl (by decide +kernel) ⟨Nat.le_of_ble_eq_true rfl, Nat.le_of_ble_eq_true rfl⟩) (x_preS hW hK hE) rfl rfl hl.1 rfl (lv_room (Nat.le_of_ble_eq_true rfl)) dX2_taken_9 ⟨Nat.le_of_ble_eq_true rfl, Nat.le_of_ble_eq_true rfl⟩) (va_S.rf (A := fun _ => True)) (fun E ce q9 H1 locs1 hc hz1 hk1 hS1 hL1 hce hcv hcl => x_prop htab hlocks hce hcv hcl hz1 hk1 (fun z h => (hL1 z h).elim (fun h => nomatch h) (fun h => h.elim)) ⟨Nat.le_of_ble_eq_true rfl, Nat.le_of_ble_eq_true rfl⟩ (Or.inr ⟨hc.1, k, hk, rfl, hc.2⟩)) (fun h9 => ?_)
  refine lv_iload_n hx hb dX2_taken_12 rfl (lv_at hl 3 rfl) ?_
  refine lv_if_ne (tgt := 21) hx hb dX2_taken_13 (by decide) (fun c13 => ?_) (fun c13 => ?_)
  · skip
    refine lv_iload_n hx hb dX2_taken_21 rfl (lv_at hl 3 rfl) ?_
    refine lv_iconst (v := 1) hx hb dX2_taken_22 (by decide) ?_
    refine lv_icmp_ne (tgt := 33) hx hb dX2_taken_23 (by decide) (fun c23 => ?_) (fun c23 => ?_)
    · skip
      refine lv_aload_n hx hb dX2_taken_33 rfl (lv_at hl 0 rfl) ?_
      refine f_get (ci := 1) (fs := xobO g X k) (v := .int (X 15 k)) hx hb hts hin1 hown hK (hW 0 k _ ho) rfl 11 (by decide) (hts (.fieldLink RX2 116 "ReturnsDesk$Order" "byPoints" "I") (List.mem_of_getElem? (i := 3) rfl)) (fun _ h9 => h9) rfl dX2_taken_34 ?_
      exact xr_ret hx hb hr hlocks ⟨Nat.le_of_ble_eq_true rfl, Nat.le_of_ble_eq_true rfl⟩ ⟨k, hk, rfl, h9, (by unfold tkX; rw [if_neg c13, if_neg c23] <;> rfl)⟩ dX2_taken_37
    · skip
      refine lv_aload_n hx hb dX2_taken_26 rfl (lv_at hl 0 rfl) ?_
      refine f_get (ci := 1) (fs := xobO g X k) (v := .int (X 14 k)) hx hb hts hin1 hown hK (hW 0 k _ ho) rfl 10 (by decide) (hts (.fieldLink RX2 113 "ReturnsDesk$Order" "byVoucher" "I") (List.mem_of_getElem? (i := 2) rfl)) (fun _ h9 => h9) rfl dX2_taken_27 ?_
      refine lv_goto (tgt := 37) hx hb dX2_taken_30 (by decide) ?_
      exact xr_ret hx hb hr hlocks ⟨Nat.le_of_ble_eq_true rfl, Nat.le_of_ble_eq_true rfl⟩ ⟨k, hk, rfl, h9, (by unfold tkX; rw [if_neg c13, if_pos c23] <;> rfl)⟩ dX2_taken_37
  · skip
    refine lv_aload_n hx hb dX2_taken_16 rfl (lv_at hl 0 rfl) ?_
    refine f_get (ci := 1) (fs := xobO g X k) (v := .int (X 13 k)) hx hb hts hin1 hown hK (hW 0 k _ ho) rfl 9 (by decide) (hts (.fieldLink RX2 67 "ReturnsDesk$Order" "byCard" "I") (List.mem_of_getElem? (i := 1) rfl)) (fun _ h9 => h9) rfl dX2_taken_17 ?_
    exact xr_ret hx hb hr hlocks ⟨Nat.le_of_ble_eq_true rfl, Nat.le_of_ble_eq_true rfl⟩ ⟨k, hk, rfl, h9, (by unfold tkX; rw [if_pos c13] <;> rfl)⟩ dX2_taken_20
set_option maxHeartbeats 4000000 in
set_option maxRecDepth 100000 in
theorem kX2_state (l : Launch) (hlt : l.stackTraces = false) {D : va_G} {cI cO cL cJ : ClassId} (g : XG) (X : MS) (hz sz : Nat) (d bk : Nat) (hd : g 3 0 = some d) (hbk : g 4 0 = some bk) (n : Nat) (kc : Nat → Nat) (hC : xC g X n kc) (p0 p1 : Int32) : vx_Met l yX2_state wsX2_state ({ frames := 7, cells := 2, slots := 12, locals := 104 } : Room) (xP D cI cO cL cJ g X hz sz [.ref d, .int p0, .int p1]) (vp_Si (fun r : Int32 => ∃ k j, isL n kc p0 p1 k j ∧ r = X 18 (8 * k + j))) (xT (fun E : String => noO n p0 E ∨ noL n kc p0 p1 E)) 2 12 (fun _ => False) := by
  refine x_body (cc := cX2_state) (maxL := 3) (ret := some .int) (by decide) rfl [.ref d, .int p0, .int p1] (Nat.le_of_ble_eq_true rfl) ?_
  intro p e s m args below meth c hx hb hr hts hown hml hlocks htab hsz hW hK hE ls hl
  subst hsz
  have hown : s.vm.findClass RX2 = some m.cls := hown
  have hl : lv_has ls 3 [(0, .ref d), (1, .int p0), (2, .int p1)] := hl
  have hin0 : ∀ w ∈ u_ws RX0 TX0 5, w ∈ wsX2_state := (fun w h => List.mem_cons_of_mem _ (List.mem_append_left _ (List.mem_append_left _ (List.mem_append_left _ (List.mem_append_right _ (h))))))
  have hin1 : ∀ w ∈ u_ws RX1 TX1 12, w ∈ wsX2_state := (fun w h => List.mem_cons_of_mem _ (List.mem_append_left _ (List.mem_append_right _ (h))))
  have hin2 : ∀ w ∈ u_ws RX2 TX2 6, w ∈ wsX2_state := (fun w h => List.mem_cons_of_mem _ (List.mem_append_left _ (List.mem_append_left _ (List.mem_append_right _ (h)))))
  refine lv_aload_n hx hb dX2_state_0 rfl (lv_at hl 0 rfl) ?_
  refine lv_iload_n hx hb dX2_state_1 rfl (lv_at hl 1 rfl) ?_
  refine x_cR (vx_runV (As := [.int p0]) (rest := []) (b := d) ⟨hx, hb, hml, hown, hts⟩ (kX2_findOrder l hlt g X hz _ d bk hd hbk n hC.1 hC.2.2.1 p0) (cwV 1 hts gX2_state_X2_findOrder rfl rfl rfl (by decide +kernel) ⟨Nat.le_of_ble_eq_true rfl, Nat.le_of_ble_eq_true rfl⟩) (x_preV hW hK hE (x_recvD hK hW hd)) rfl rfl hl.1 rfl (lv_room (Nat.le_of_ble_eq_true rfl)) dX2_state_2 ⟨Nat.le_of_ble_eq_true rfl, Nat.le_of_ble_eq_true rfl⟩) (va_S.rf (A := fun _ => True)) (fun E ce q9 H1 locs1 hc hz1 hk1 hS1 hL1 hce hcv hcl => x_prop htab hlocks hce hcv hcl hz1 hk1 (fun z h => (hL1 z h).elim (fun h => nomatch h) (fun h => h.elim)) ⟨Nat.le_of_ble_eq_true rfl, Nat.le_of_ble_eq_true rfl⟩ (Or.inl hc)) (fun ao hp => ?_)
  obtain ⟨k, hk, hp0, ho⟩ := hp
  subst hp0
  obtain ⟨hkk, hX7, ⟨la, hla⟩, hln⟩ := hC.2.2.2 k hk
  refine lv_iload_n hx hb dX2_state_5 rfl (lv_at hl 2 rfl) ?_
  refine x_cR (vx_runS (As := [.ref ao, .int p1]) (rest := []) ⟨hx, hb, hml, hown, hts⟩ (kX2_findLine l hlt g X hz _ ao la k ho hla p1 (kc k) hkk hln) (va_cwS 2 hts gX2_state_X2_findLine rfl rfl rfl (by decide +kernel) ⟨Nat.le_of_ble_eq_true rfl, Nat.le_of_ble_eq_true rfl⟩) (x_preS hW hK hE) rfl rfl hl.1 rfl (lv_room (Nat.le_of_ble_eq_true rfl)) dX2_state_6 ⟨Nat.le_of_ble_eq_true rfl, Nat.le_of_ble_eq_true rfl⟩) (va_S.rf (A := fun _ => True)) (fun E ce q9 H1 locs1 hc hz1 hk1 hS1 hL1 hce hcv hcl => x_prop htab hlocks hce hcv hcl hz1 hk1 (fun z h => (hL1 z h).elim (fun h => nomatch h) (fun h => h.elim)) ⟨Nat.le_of_ble_eq_true rfl, Nat.le_of_ble_eq_true rfl⟩ (Or.inr ⟨hc.1, k, hk, rfl, hc.2⟩)) (fun al hp => ?_)
  obtain ⟨j, hj, hp1, hal⟩ := hp
  subst hp1
  refine f_get (ci := 0) (fs := xobL X (8 * k + j)) (v := .int (X 18 (8 * k + j))) hx hb hts hin0 hown hK (hW 2 (8 * k + j) _ hal) rfl 2 (by decide) (hts (.fieldLink RX2 100 "ReturnsDesk$Line" "state" "I") (List.mem_of_getElem? (i := 1) rfl)) (fun _ h9 => h9) rfl dX2_state_9 ?_
  exact xr_ret hx hb hr hlocks ⟨Nat.le_of_ble_eq_true rfl, Nat.le_of_ble_eq_true rfl⟩ ⟨k, j, ⟨hk, rfl, hj, rfl⟩, rfl⟩ dX2_state_12
set_option maxHeartbeats 4000000 in
set_option maxRecDepth 100000 in
theorem kX2_isReturnable (l : Launch) {D : va_G} {cI cO cL cJ : ClassId} (g : XG) (X : MS) (hz sz : Nat) (d bk : Nat) (hd : g 3 0 = some d) (hbk : g 4 0 = some bk) (ao la k : Nat) (ho : g 0 k = some ao) (hla : g 1 k = some la) (al jj : Nat) (hal : g 2 jj = some al) (w : Int32) : Met l yX2_isReturnable wsX2_isReturnable ({ frames := 1, cells := 0, slots := 0, locals := 21 } : Room) (xP D cI cO cL cJ g X hz sz [.ref d, .ref ao, .ref al, .int w]) (vp_Si (fun r : Int32 => r = retX X k jj w)) 0 0 (fun _ => False) := by
  refine x_bodyM (cc := cX2_isReturnable) (maxL := 4) (ret := some .boolean) (by decide) rfl [.ref d, .ref ao, .ref al, .int w] (Nat.le_of_ble_eq_true rfl) ?_
  intro p e s m args below meth c hx hb hr hts hown hml hlocks hsz hW hK hE ls hl
  subst hsz
  have hown : s.vm.findClass RX2 = some m.cls := hown
  have hl : lv_has ls 4 [(0, .ref d), (1, .ref ao), (2, .ref al), (3, .int w)] := hl
  have hin0 : ∀ w ∈ u_ws RX0 TX0 5, w ∈ wsX2_isReturnable := (fun w h => List.mem_cons_of_mem _ (List.mem_append_left _ (List.mem_append_right _ (h))))
  have hin1 : ∀ w ∈ u_ws RX1 TX1 12, w ∈ wsX2_isReturnable := (fun w h => List.mem_cons_of_mem _ (List.mem_append_left _ (List.mem_append_left _ (List.mem_append_right _ (h)))))
  have hin2 : ∀ w ∈ u_ws RX2 TX2 6, w ∈ wsX2_isReturnable := (fun w h => List.mem_cons_of_mem _ (List.mem_append_right _ (h)))
  refine lv_aload_n hx hb dX2_isReturnable_0 rfl (lv_at hl 1 rfl) ?_
  refine f_get (ci := 1) (fs := xobO g X k) (v := .int (X 8 k)) hx hb hts hin1 hown hK (hW 0 k _ ho) rfl 4 (by decide) (hts (.fieldLink RX2 39 "ReturnsDesk$Order" "isPaid" "Z") (List.mem_of_getElem? (i := 1) rfl)) (fun _ h9 => h9) rfl dX2_isReturnable_1 ?_
  refine lv_if_eq (tgt := 35) hx hb dX2_isReturnable_4 (by decide) (fun c4 => ?_) (fun c4 => ?_)
  · skip
    refine lv_iconst (v := 0) hx hb dX2_isReturnable_35 (by decide) ?_
    exact r_zret hx hb hr hlocks (by decide) (by unfold retX; rw [if_pos c4] <;> rfl) dX2_isReturnable_36
  · skip
    refine lv_aload_n hx hb dX2_isReturnable_7 rfl (lv_at hl 2 rfl) ?_
    refine f_get (ci := 0) (fs := xobL X jj) (v := .int (X 18 jj)) hx hb hts hin0 hown hK (hW 2 jj _ hal) rfl 2 (by decide) (hts (.fieldLink RX2 100 "ReturnsDesk$Line" "state" "I") (List.mem_of_getElem? (i := 2) rfl)) (fun _ h9 => h9) rfl dX2_isReturnable_8 ?_
    refine lv_if_ne (tgt := 35) hx hb dX2_isReturnable_11 (by decide) (fun c11 => ?_) (fun c11 => ?_)
    · skip
      refine lv_iconst (v := 0) hx hb dX2_isReturnable_35 (by decide) ?_
      exact r_zret hx hb hr hlocks (by decide) (by unfold retX; rw [if_neg c4, if_neg c11] <;> rfl) dX2_isReturnable_36
    · skip
      refine lv_aload_n hx hb dX2_isReturnable_14 rfl (lv_at hl 0 rfl) ?_
      refine f_get (ci := 2) (fs := xobD g X 0) (v := .int (X 1 0)) hx hb hts hin2 hown hK (hW 3 0 _ hd) rfl 2 (by decide) (hts (.fieldLink RX2 61 "ReturnsDesk" "today" "I") (List.mem_of_getElem? (i := 3) rfl)) (fun _ h9 => h9) rfl dX2_isReturnable_15 ?_
      refine lv_aload_n hx hb dX2_isReturnable_18 rfl (lv_at hl 1 rfl) ?_
      refine f_get (ci := 1) (fs := xobO g X k) (v := .int (X 9 k)) hx hb hts hin1 hown hK (hW 0 k _ ho) rfl 5 (by decide) (hts (.fieldLink RX2 164 "ReturnsDesk$Order" "paidOn" "I") (List.mem_of_getElem? (i := 4) rfl)) (fun _ h9 => h9) rfl dX2_isReturnable_19 ?_
      refine lv_isub hx hb dX2_isReturnable_22 ?_
      refine lv_aload_n hx hb dX2_isReturnable_23 rfl (lv_at hl 2 rfl) ?_
      refine lv_iload_n hx hb dX2_isReturnable_24 rfl (lv_at hl 3 rfl) ?_
      refine vp_callSi (va_runV (As := [.int w]) (rest := [.int ((X 1 0) - (X 9 k))]) (b := al) ⟨hx, hb, hml, hown, hts⟩ (kX0_spanFor l g X hz _ al jj hal w) (cwV 1 hts gX2_isReturnable_X0_spanFor rfl rfl rfl (by decide +kernel) ⟨Nat.le_of_ble_eq_true rfl, Nat.le_of_ble_eq_true rfl⟩) (x_preV hW hK hE (x_recvL hK hW hal)) rfl rfl hl.1 rfl (lv_room (Nat.le_of_ble_eq_true rfl)) dX2_isReturnable_25 ⟨Nat.le_of_ble_eq_true rfl, Nat.le_of_ble_eq_true rfl⟩).run (fun r hp => ?_)
      subst hp
      refine lv_icmp_gt (tgt := 35) hx hb dX2_isReturnable_28 (by decide) (fun c28 => ?_) (fun c28 => ?_)
      · skip
        refine lv_iconst (v := 0) hx hb dX2_isReturnable_35 (by decide) ?_
        exact r_zret hx hb hr hlocks (by decide) (by unfold retX; rw [if_neg c4, if_pos c11, if_pos c28] <;> rfl) dX2_isReturnable_36
      · skip
        refine lv_iconst (v := 1) hx hb dX2_isReturnable_31 (by decide) ?_
        refine lv_goto (tgt := 36) hx hb dX2_isReturnable_32 (by decide) ?_
        exact r_zret hx hb hr hlocks (by decide) (by unfold retX; rw [if_neg c4, if_pos c11, if_neg c28] <;> rfl) dX2_isReturnable_36
set_option maxHeartbeats 4000000 in
set_option maxRecDepth 100000 in
theorem kX2_mayComeBack (l : Launch) (hlt : l.stackTraces = false) {D : va_G} {cI cO cL cJ : ClassId} (g : XG) (X : MS) (hz sz : Nat) (d bk : Nat) (hd : g 3 0 = some d) (hbk : g 4 0 = some bk) (n : Nat) (kc : Nat → Nat) (hC : xC g X n kc) (p0 p1 p2 : Int32) : vx_Met l yX2_mayComeBack wsX2_mayComeBack ({ frames := 7, cells := 3, slots := 18, locals := 104 } : Room) (xP D cI cO cL cJ g X hz sz [.ref d, .int p0, .int p1, .int p2]) (vp_Si (fun r : Int32 => ∃ k j, isL n kc p0 p1 k j ∧ inR p2 0 1 ∧ r = retX X k (8 * k + j) p2)) (xT (fun E : String => noO n p0 E ∨ noL n kc p0 p1 E ∨ (E = IAE ∧ ∃ k j, isL n kc p0 p1 k j ∧ ¬ inR p2 0 1))) 3 18 (fun _ => False) := by
  refine x_body (cc := cX2_mayComeBack) (maxL := 6) (ret := some .boolean) (by decide) rfl [.ref d, .int p0, .int p1, .int p2] (Nat.le_of_ble_eq_true rfl) ?_
  intro p e s m args below meth c hx hb hr hts hown hml hlocks htab hsz hW hK hE ls hl
  subst hsz
  have hown : s.vm.findClass RX2 = some m.cls := hown
  have hl : lv_has ls 6 [(0, .ref d), (1, .int p0), (2, .int p1), (3, .int p2)] := hl
  have hin0 : ∀ w ∈ u_ws RX0 TX0 5, w ∈ wsX2_mayComeBack := (fun w h => List.mem_cons_of_mem _ (List.mem_append_left _ (List.mem_append_left _ (List.mem_append_right _ (h)))))
  have hin1 : ∀ w ∈ u_ws RX1 TX1 12, w ∈ wsX2_mayComeBack := (fun w h => List.mem_cons_of_mem _ (List.mem_append_left _ (List.mem_append_left _ (List.mem_append_left _ (List.mem_append_right _ (h))))))
  have hin2 : ∀ w ∈ u_ws RX2 TX2 6, w ∈ wsX2_mayComeBack := (fun w h => List.mem_cons_of_mem _ (List.mem_append_left _ (List.mem_append_left _ (List.mem_append_left _ (List.mem_append_left _ (List.mem_append_right _ (h)))))))
  refine lv_aload_n hx hb dX2_mayComeBack_0 rfl (lv_at hl 0 rfl) ?_
  refine lv_iload_n hx hb dX2_mayComeBack_1 rfl (lv_at hl 1 rfl) ?_
  refine x_cR (vx_runV (As := [.int p0]) (rest := []) (b := d) ⟨hx, hb, hml, hown, hts⟩ (kX2_findOrder l hlt g X hz _ d bk hd hbk n hC.1 hC.2.2.1 p0) (cwV 1 hts gX2_mayComeBack_X2_findOrder rfl rfl rfl (by decide +kernel) ⟨Nat.le_of_ble_eq_true rfl, Nat.le_of_ble_eq_true rfl⟩) (x_preV hW hK hE (x_recvD hK hW hd)) rfl rfl hl.1 rfl (lv_room (Nat.le_of_ble_eq_true rfl)) dX2_mayComeBack_2 ⟨Nat.le_of_ble_eq_true rfl, Nat.le_of_ble_eq_true rfl⟩) (va_S.rf (A := fun _ => True)) (fun E ce q9 H1 locs1 hc hz1 hk1 hS1 hL1 hce hcv hcl => x_prop htab hlocks hce hcv hcl hz1 hk1 (fun z h => (hL1 z h).elim (fun h => nomatch h) (fun h => h.elim)) ⟨Nat.le_of_ble_eq_true rfl, Nat.le_of_ble_eq_true rfl⟩ (Or.inl hc)) (fun ao hp => ?_)
  obtain ⟨k, hk, hp0, ho⟩ := hp
  subst hp0
  obtain ⟨hkk, hX7, ⟨la, hla⟩, hln⟩ := hC.2.2.2 k hk
  refine lv_astore (lv' := [(4, .ref ao), (0, .ref d), (1, .int (nI k)), (2, .int p1), (3, .int p2)]) hx hb dX2_mayComeBack_5 hl (by decide) rfl (fun ls hl => ?_)
  refine lv_aload hx hb dX2_mayComeBack_7 (lv_at hl 0 rfl) ?_
  refine lv_iload_n hx hb dX2_mayComeBack_9 rfl (lv_at hl 3 rfl) ?_
  refine x_cR (vx_runS (As := [.ref ao, .int p1]) (rest := []) ⟨hx, hb, hml, hown, hts⟩ (kX2_findLine l hlt g X hz _ ao la k ho hla p1 (kc k) hkk hln) (va_cwS 2 hts gX2_mayComeBack_X2_findLine rfl rfl rfl (by decide +kernel) ⟨Nat.le_of_ble_eq_true rfl, Nat.le_of_ble_eq_true rfl⟩) (x_preS hW hK hE) rfl rfl hl.1 rfl (lv_room (Nat.le_of_ble_eq_true rfl)) dX2_mayComeBack_10 ⟨Nat.le_of_ble_eq_true rfl, Nat.le_of_ble_eq_true rfl⟩) (va_S.rf (A := fun _ => True)) (fun E ce q9 H1 locs1 hc hz1 hk1 hS1 hL1 hce hcv hcl => x_prop htab hlocks hce hcv hcl hz1 hk1 (fun z h => (hL1 z h).elim (fun h => nomatch h) (fun h => h.elim)) ⟨Nat.le_of_ble_eq_true rfl, Nat.le_of_ble_eq_true rfl⟩ (Or.inr (Or.inl ⟨hc.1, k, hk, rfl, hc.2⟩))) (fun al hp => ?_)
  obtain ⟨j, hj, hp1, hal⟩ := hp
  subst hp1
  refine lv_astore (lv' := [(5, .ref al), (4, .ref ao), (0, .ref d), (1, .int (nI k)), (2, .int (nI j)), (3, .int p2)]) hx hb dX2_mayComeBack_13 hl (by decide) rfl (fun ls hl => ?_)
  refine lv_iload_n hx hb dX2_mayComeBack_15 rfl (lv_at hl 5 rfl) ?_
  refine lv_iconst (v := 0) hx hb dX2_mayComeBack_16 (by decide) ?_
  refine lv_iconst (v := 1) hx hb dX2_mayComeBack_17 (by decide) ?_
  refine x_cV (vx_runS (As := [.int p2, .int 0, .int 1]) (rest := []) ⟨hx, hb, hml, hown, hts⟩ (kX2_requireRange l hlt g X hz _ p2 0 1) (va_cwS 3 hts gX2_mayComeBack_X2_requireRange rfl rfl rfl (by decide +kernel) ⟨Nat.le_of_ble_eq_true rfl, Nat.le_of_ble_eq_true rfl⟩) (x_preS hW hK hE) rfl rfl hl.1 rfl (lv_room (Nat.le_of_ble_eq_true rfl)) dX2_mayComeBack_18 ⟨Nat.le_of_ble_eq_true rfl, Nat.le_of_ble_eq_true rfl⟩) (va_S.rf (A := fun _ => True)) (fun E ce q9 H1 locs1 hc hz1 hk1 hS1 hL1 hce hcv hcl => x_prop htab hlocks hce hcv hcl hz1 hk1 (fun z h => (hL1 z h).elim (fun h => nomatch h) (fun h => h.elim)) ⟨Nat.le_of_ble_eq_true rfl, Nat.le_of_ble_eq_true rfl⟩ (Or.inr (Or.inr ⟨hc.1, k, j, ⟨hk, rfl, hj, rfl⟩, hc.2⟩))) (fun h18 => ?_)
  refine lv_aload_n hx hb dX2_mayComeBack_21 rfl (lv_at hl 2 rfl) ?_
  refine lv_aload hx hb dX2_mayComeBack_22 (lv_at hl 1 rfl) ?_
  refine lv_aload hx hb dX2_mayComeBack_24 (lv_at hl 0 rfl) ?_
  refine lv_iload_n hx hb dX2_mayComeBack_26 rfl (lv_at hl 5 rfl) ?_
  refine vp_callSi (va_runV (As := [.ref ao, .ref al, .int p2]) (rest := []) (b := d) ⟨hx, hb, hml, hown, hts⟩ (kX2_isReturnable l g X hz _ d bk hd hbk ao la k ho hla al (8 * k + j) hal p2) (cwV 3 hts gX2_mayComeBack_X2_isReturnable rfl rfl rfl (by decide +kernel) ⟨Nat.le_of_ble_eq_true rfl, Nat.le_of_ble_eq_true rfl⟩) (x_preV hW hK hE (x_recvD hK hW hd)) rfl rfl hl.1 rfl (lv_room (Nat.le_of_ble_eq_true rfl)) dX2_mayComeBack_27 ⟨Nat.le_of_ble_eq_true rfl, Nat.le_of_ble_eq_true rfl⟩).run (fun r hp => ?_)
  subst hp
  exact xr_zret hx hb hr hlocks ⟨Nat.le_of_ble_eq_true rfl, Nat.le_of_ble_eq_true rfl⟩ (retX_01 _ _ _ _) ⟨k, j, ⟨hk, rfl, hj, rfl⟩, h18, rfl⟩ dX2_mayComeBack_30

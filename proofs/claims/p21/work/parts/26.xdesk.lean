/-! THE CLASS: the desk, what writes. -/
set_option maxHeartbeats 4000000 in
set_option maxRecDepth 100000 in
theorem kX2_startWait (l : Launch) (hlt : l.stackTraces = false) {D : va_G} {cI cO cL cJ : ClassId} (g : XG) (X : MS) (hz sz : Nat) (hI : xI g) (hO : xO g hz sz) (d bk : Nat) (hd : g 3 0 = some d) (hbk : g 4 0 = some bk) (n : Nat) (kc : Nat → Nat) (hC : xC g X n kc) (p0 p1 p2 z : Int32) : vx_Met l yX2_startWait wsX2_startWait ({ frames := 7, cells := 4, slots := 24, locals := 104 } : Room) (xP D cI cO cL cJ g X hz sz [.ref d, .int p0, .int p1, .int p2, .int z]) (xQi D cO cL g sz (fun (r : Int32) (X9 : MS) => ∃ k j, isL n kc p0 p1 k j ∧ inR p2 0 1 ∧ ¬ retX X k (8 * k + j) p2 = 0 ∧ r = X 1 0 + 21 ∧ X9 = swX X (8 * k + j) p2 z)) (xT (fun E : String => noO n p0 E ∨ noL n kc p0 p1 E ∨ (E = IAE ∧ ∃ k j, isL n kc p0 p1 k j ∧ ¬ inR p2 0 1) ∨ (E = ISE ∧ ∃ k j, isL n kc p0 p1 k j ∧ inR p2 0 1 ∧ retX X k (8 * k + j) p2 = 0))) 4 24 (xA g sz) := by
  refine x_body (cc := cX2_startWait) (maxL := 7) (ret := some .int) (by decide) rfl [.ref d, .int p0, .int p1, .int p2, .int z] (Nat.le_of_ble_eq_true rfl) ?_
  intro p e s m args below meth c hx hb hr hts hown hml hlocks htab hsz hW hK hE ls hl
  subst hsz
  have hown : s.vm.findClass RX2 = some m.cls := hown
  have hl : lv_has ls 7 [(0, .ref d), (1, .int p0), (2, .int p1), (3, .int p2), (4, .int z)] := hl
  have hin0 : ∀ w ∈ u_ws RX0 TX0 5, w ∈ wsX2_startWait := (fun w h => List.mem_cons_of_mem _ (List.mem_append_left _ (List.mem_append_left _ (List.mem_append_left _ (List.mem_append_left _ (List.mem_append_left _ (List.mem_append_right _ (h))))))))
  have hin1 : ∀ w ∈ u_ws RX1 TX1 12, w ∈ wsX2_startWait := (fun w h => List.mem_cons_of_mem _ (List.mem_append_left _ (List.mem_append_left _ (List.mem_append_left _ (List.mem_append_right _ (h))))))
  have hin2 : ∀ w ∈ u_ws RX2 TX2 6, w ∈ wsX2_startWait := (fun w h => List.mem_cons_of_mem _ (List.mem_append_left _ (List.mem_append_left _ (List.mem_append_left _ (List.mem_append_left _ (List.mem_append_right _ (h)))))))
  have hS : va_S (xA g s.heap.size) s.heap s.heap [] := va_S.rf
  refine lv_aload_n hx hb dX2_startWait_0 rfl (lv_at hl 0 rfl) ?_
  refine lv_iload_n hx hb dX2_startWait_1 rfl (lv_at hl 1 rfl) ?_
  refine x_cR (vx_runV (As := [.int p0]) (rest := []) (b := d) ⟨hx, hb, hml, hown, hts⟩ (kX2_findOrder l hlt g X hz _ d bk hd hbk n hC.1 hC.2.2.1 p0) (cwV 1 hts gX2_startWait_X2_findOrder rfl rfl rfl (by decide +kernel) ⟨Nat.le_of_ble_eq_true rfl, Nat.le_of_ble_eq_true rfl⟩) (x_preV hW hK hE (x_recvD hK hW hd)) rfl rfl hl.1 rfl (lv_room (Nat.le_of_ble_eq_true rfl)) dX2_startWait_2 ⟨Nat.le_of_ble_eq_true rfl, Nat.le_of_ble_eq_true rfl⟩) hS (fun E ce q9 H1 locs1 hc hz1 hk1 hS1 hL1 hce hcv hcl => x_prop htab hlocks hce hcv hcl hz1 hk1 (fun z h => (hL1 z h).elim (fun h => nomatch h) (fun h => h.elim)) ⟨Nat.le_of_ble_eq_true rfl, Nat.le_of_ble_eq_true rfl⟩ (Or.inl hc)) (fun ao hp => ?_)
  obtain ⟨k, hk, hp0, ho⟩ := hp
  subst hp0
  obtain ⟨hkk, hX7, ⟨la, hla⟩, hln⟩ := hC.2.2.2 k hk
  refine lv_astore (lv' := [(5, .ref ao), (0, .ref d), (1, .int (nI k)), (2, .int p1), (3, .int p2), (4, .int z)]) hx hb dX2_startWait_5 hl (by decide) rfl (fun ls hl => ?_)
  refine lv_aload hx hb dX2_startWait_7 (lv_at hl 0 rfl) ?_
  refine lv_iload_n hx hb dX2_startWait_9 rfl (lv_at hl 3 rfl) ?_
  refine x_cR (vx_runS (As := [.ref ao, .int p1]) (rest := []) ⟨hx, hb, hml, hown, hts⟩ (kX2_findLine l hlt g X hz _ ao la k ho hla p1 (kc k) hkk hln) (va_cwS 2 hts gX2_startWait_X2_findLine rfl rfl rfl (by decide +kernel) ⟨Nat.le_of_ble_eq_true rfl, Nat.le_of_ble_eq_true rfl⟩) (x_preS hW hK hE) rfl rfl hl.1 rfl (lv_room (Nat.le_of_ble_eq_true rfl)) dX2_startWait_10 ⟨Nat.le_of_ble_eq_true rfl, Nat.le_of_ble_eq_true rfl⟩) hS (fun E ce q9 H1 locs1 hc hz1 hk1 hS1 hL1 hce hcv hcl => x_prop htab hlocks hce hcv hcl hz1 hk1 (fun z h => (hL1 z h).elim (fun h => nomatch h) (fun h => h.elim)) ⟨Nat.le_of_ble_eq_true rfl, Nat.le_of_ble_eq_true rfl⟩ (Or.inr (Or.inl ⟨hc.1, k, hk, rfl, hc.2⟩))) (fun al hp => ?_)
  obtain ⟨j, hj, hp1, hal⟩ := hp
  subst hp1
  refine lv_astore (lv' := [(6, .ref al), (5, .ref ao), (0, .ref d), (1, .int (nI k)), (2, .int (nI j)), (3, .int p2), (4, .int z)]) hx hb dX2_startWait_13 hl (by decide) rfl (fun ls hl => ?_)
  refine lv_iload_n hx hb dX2_startWait_15 rfl (lv_at hl 5 rfl) ?_
  refine lv_iconst (v := 0) hx hb dX2_startWait_16 (by decide) ?_
  refine lv_iconst (v := 1) hx hb dX2_startWait_17 (by decide) ?_
  refine x_cV (vx_runS (As := [.int p2, .int 0, .int 1]) (rest := []) ⟨hx, hb, hml, hown, hts⟩ (kX2_requireRange l hlt g X hz _ p2 0 1) (va_cwS 3 hts gX2_startWait_X2_requireRange rfl rfl rfl (by decide +kernel) ⟨Nat.le_of_ble_eq_true rfl, Nat.le_of_ble_eq_true rfl⟩) (x_preS hW hK hE) rfl rfl hl.1 rfl (lv_room (Nat.le_of_ble_eq_true rfl)) dX2_startWait_18 ⟨Nat.le_of_ble_eq_true rfl, Nat.le_of_ble_eq_true rfl⟩) hS (fun E ce q9 H1 locs1 hc hz1 hk1 hS1 hL1 hce hcv hcl => x_prop htab hlocks hce hcv hcl hz1 hk1 (fun z h => (hL1 z h).elim (fun h => nomatch h) (fun h => h.elim)) ⟨Nat.le_of_ble_eq_true rfl, Nat.le_of_ble_eq_true rfl⟩ (Or.inr (Or.inr (Or.inl ⟨hc.1, k, j, ⟨hk, rfl, hj, rfl⟩, hc.2⟩)))) (fun h18 => ?_)
  refine lv_aload_n hx hb dX2_startWait_21 rfl (lv_at hl 2 rfl) ?_
  refine lv_aload hx hb dX2_startWait_22 (lv_at hl 1 rfl) ?_
  refine lv_aload hx hb dX2_startWait_24 (lv_at hl 0 rfl) ?_
  refine lv_iload_n hx hb dX2_startWait_26 rfl (lv_at hl 5 rfl) ?_
  refine vp_callSi (va_runV (As := [.ref ao, .ref al, .int p2]) (rest := []) (b := d) ⟨hx, hb, hml, hown, hts⟩ (kX2_isReturnable l g X hz _ d bk hd hbk ao la k ho hla al (8 * k + j) hal p2) (cwV 3 hts gX2_startWait_X2_isReturnable rfl rfl rfl (by decide +kernel) ⟨Nat.le_of_ble_eq_true rfl, Nat.le_of_ble_eq_true rfl⟩) (x_preV hW hK hE (x_recvD hK hW hd)) rfl rfl hl.1 rfl (lv_room (Nat.le_of_ble_eq_true rfl)) dX2_startWait_27 ⟨Nat.le_of_ble_eq_true rfl, Nat.le_of_ble_eq_true rfl⟩).run (fun r hp => ?_)
  subst hp
  refine lv_if_ne (tgt := 43) hx hb dX2_startWait_30 (by decide) (fun c30 => ?_) (fun c30 => ?_)
  · skip
    refine lv_aload hx hb dX2_startWait_43 (lv_at hl 0 rfl) ?_
    refine lv_iload hx hb dX2_startWait_45 (lv_at hl 6 rfl) ?_
    refine x_putL hx hb hts hin0 hown hK hI hW hS hal (Or.inl ⟨2, 8 * k + j, hal⟩) 2 18 (by decide) (hts (.fieldLink RX2 100 "ReturnsDesk$Line" "state" "I") (List.mem_of_getElem? (i := 3) rfl)) (fun _ h9 => h9) dX2_startWait_47 (fun H locs hW hz1 _ hS => ?_)
    refine lv_aload hx hb dX2_startWait_50 (lv_at hl 0 rfl) ?_
    refine lv_iload_n hx hb dX2_startWait_52 rfl (lv_at hl 5 rfl) ?_
    refine x_putL hx hb hts hin0 hown hK hI hW hS hal (Or.inl ⟨2, 8 * k + j, hal⟩) 3 19 (by decide) (hts (.fieldLink RX2 94 "ReturnsDesk$Line" "reason" "I") (List.mem_of_getElem? (i := 4) rfl)) (fun _ h9 => h9) dX2_startWait_53 (fun H locs hW hz1 _ hS => ?_)
    refine lv_aload hx hb dX2_startWait_56 (lv_at hl 0 rfl) ?_
    refine lv_aload_n hx hb dX2_startWait_58 rfl (lv_at hl 2 rfl) ?_
    refine f_get (ci := 2) (fs := xobD g (mu (mu X 18 (8 * k + j) z) 19 (8 * k + j) p2) 0) (v := .int (X 1 0)) hx hb hts hin2 hown hK (hW 3 0 _ hd) rfl 2 (by decide) (hts (.fieldLink RX2 61 "ReturnsDesk" "today" "I") (List.mem_of_getElem? (i := 5) rfl)) (fun _ h9 => h9) (congrArg (fun z => some (Value.int z)) ((mu_f _ _ _ _ (by decide)).trans (mu_f _ _ _ _ (by decide)))) dX2_startWait_59 ?_
    refine lv_bipush (v := 21) hx hb dX2_startWait_62 (by decide) ?_
    refine lv_iadd hx hb dX2_startWait_64 ?_
    refine x_putL hx hb hts hin0 hown hK hI hW hS hal (Or.inl ⟨2, 8 * k + j, hal⟩) 4 20 (by decide) (hts (.fieldLink RX2 172 "ReturnsDesk$Line" "waitEnds" "I") (List.mem_of_getElem? (i := 6) rfl)) (fun _ h9 => h9) dX2_startWait_65 (fun H locs hW hz1 _ hS => ?_)
    refine lv_aload hx hb dX2_startWait_68 (lv_at hl 0 rfl) ?_
    refine f_get (ci := 0) (fs := xobL (mu (mu (mu X 18 (8 * k + j) z) 19 (8 * k + j) p2) 20 (8 * k + j) ((X 1 0) + 21)) (8 * k + j)) (v := .int ((X 1 0) + 21)) hx hb hts hin0 hown hK (hW 2 (8 * k + j) _ hal) rfl 4 (by decide) (hts (.fieldLink RX2 172 "ReturnsDesk$Line" "waitEnds" "I") (List.mem_of_getElem? (i := 6) rfl)) (fun _ h9 => h9) (congrArg (fun z => some (Value.int z)) (mu_s _ _ _ _)) dX2_startWait_70 ?_
    exact xw_ret hx hb hr hlocks ⟨Nat.le_of_ble_eq_true rfl, Nat.le_of_ble_eq_true rfl⟩ hW hS ⟨k, j, ⟨hk, rfl, hj, rfl⟩, h18, c30, rfl, rfl⟩ dX2_startWait_73
  · skip
    exact x_throw (cls := ISE) (text := "the line may not come back") (ik := 24) (is := 170) (ic := 28) hlt hx hb hown hts hE (by decide +kernel) (by decide +kernel) (hts (.classLink RX2 24 "java/lang/IllegalStateException") (List.mem_of_getElem? (i := 1) rfl)) (hts (.initialized "java/lang/IllegalStateException") (List.mem_of_getElem? (i := 2) rfl)) (List.mem_of_getElem? (i := 8) rfl) (fun w h => List.mem_cons_of_mem _ (List.mem_append_left _ (List.mem_append_left _ (List.mem_append_right _ (h))))) tn_S tg_S (hl.1.trans hml.symm) htab hlocks dX2_startWait_33 dX2_startWait_36 dX2_startWait_37 dX2_startWait_39 dX2_startWait_42 ⟨(Nat.le_of_ble_eq_true rfl), (Nat.le_of_ble_eq_true rfl), (Nat.le_of_ble_eq_true rfl), (Nat.le_of_ble_eq_true rfl)⟩ ⟨(Nat.le_of_ble_eq_true rfl), (Nat.le_of_ble_eq_true rfl)⟩ rfl rfl (Or.inr (Or.inr (Or.inr ⟨rfl, k, j, ⟨hk, rfl, hj, rfl⟩, h18, c30⟩)))
set_option maxHeartbeats 4000000 in
set_option maxRecDepth 100000 in
theorem kX2_ask (l : Launch) (hlt : l.stackTraces = false) {D : va_G} {cI cO cL cJ : ClassId} (g : XG) (X : MS) (hz sz : Nat) (hI : xI g) (hO : xO g hz sz) (d bk : Nat) (hd : g 3 0 = some d) (hbk : g 4 0 = some bk) (n : Nat) (kc : Nat → Nat) (hC : xC g X n kc) (p0 p1 p2 : Int32) : vx_Met l yX2_ask wsX2_ask ({ frames := 8, cells := 4, slots := 24, locals := 130 } : Room) (xP D cI cO cL cJ g X hz sz [.ref d, .int p0, .int p1, .int p2]) (xQi D cO cL g sz (fun (r : Int32) (X9 : MS) => ∃ k j, isL n kc p0 p1 k j ∧ inR p2 0 1 ∧ ¬ retX X k (8 * k + j) p2 = 0 ∧ r = X 1 0 + 21 ∧ X9 = swX X (8 * k + j) p2 1)) (xT (fun E : String => noO n p0 E ∨ noL n kc p0 p1 E ∨ (E = IAE ∧ ∃ k j, isL n kc p0 p1 k j ∧ ¬ inR p2 0 1) ∨ (E = ISE ∧ ∃ k j, isL n kc p0 p1 k j ∧ inR p2 0 1 ∧ retX X k (8 * k + j) p2 = 0))) 4 24 (xA g sz) := by
  refine x_body (cc := cX2_ask) (maxL := 4) (ret := some .int) (by decide) rfl [.ref d, .int p0, .int p1, .int p2] (Nat.le_of_ble_eq_true rfl) ?_
  intro p e s m args below meth c hx hb hr hts hown hml hlocks htab hsz hW hK hE ls hl
  subst hsz
  have hown : s.vm.findClass RX2 = some m.cls := hown
  have hl : lv_has ls 4 [(0, .ref d), (1, .int p0), (2, .int p1), (3, .int p2)] := hl
  have hin0 : ∀ w ∈ u_ws RX0 TX0 5, w ∈ wsX2_ask := (fun w h => List.mem_cons_of_mem _ (List.mem_append_left _ (List.mem_append_left _ (List.mem_append_left _ (List.mem_append_left _ (List.mem_append_left _ (List.mem_append_right _ (h))))))))
  have hin1 : ∀ w ∈ u_ws RX1 TX1 12, w ∈ wsX2_ask := (fun w h => List.mem_cons_of_mem _ (List.mem_append_left _ (List.mem_append_left _ (List.mem_append_left _ (List.mem_append_right _ (h))))))
  have hin2 : ∀ w ∈ u_ws RX2 TX2 6, w ∈ wsX2_ask := (fun w h => List.mem_cons_of_mem _ (List.mem_append_left _ (List.mem_append_left _ (List.mem_append_left _ (List.mem_append_left _ (List.mem_append_right _ (h)))))))
  have hS : va_S (xA g s.heap.size) s.heap s.heap [] := va_S.rf
  refine lv_aload_n hx hb dX2_ask_0 rfl (lv_at hl 0 rfl) ?_
  refine lv_iload_n hx hb dX2_ask_1 rfl (lv_at hl 1 rfl) ?_
  refine lv_iload_n hx hb dX2_ask_2 rfl (lv_at hl 2 rfl) ?_
  refine lv_iload_n hx hb dX2_ask_3 rfl (lv_at hl 3 rfl) ?_
  refine lv_iconst (v := 1) hx hb dX2_ask_4 (by decide) ?_
  refine x_cWI (vx_runV (As := [.int p0, .int p1, .int p2, .int 1]) (rest := []) (b := d) ⟨hx, hb, hml, hown, hts⟩ (kX2_startWait l hlt g X hz _ hI ⟨hO.1, Nat.le_trans hO.2 hS.1⟩ d bk hd hbk n kc hC p0 p1 p2 1) (cwV 4 hts gX2_ask_X2_startWait rfl rfl rfl (by decide +kernel) ⟨Nat.le_of_ble_eq_true rfl, Nat.le_of_ble_eq_true rfl⟩) (x_preV hW hK hE (x_recvD hK hW hd)) rfl rfl hl.1 rfl (lv_room (Nat.le_of_ble_eq_true rfl)) dX2_ask_5 ⟨Nat.le_of_ble_eq_true rfl, Nat.le_of_ble_eq_true rfl⟩) hS hS.1 (fun E ce q9 H1 locs1 hc hz1 hk1 hS1 hL1 hce hcv hcl => x_prop htab hlocks hce hcv hcl hz1 hk1 (fun z h => (hL1 z h).elim (fun h => nomatch h) (fun h => h)) ⟨Nat.le_of_ble_eq_true rfl, Nat.le_of_ble_eq_true rfl⟩ hc) (fun r X9 H locs hp hW hz1 _ hS => ?_)
  exact xw_ret hx hb hr hlocks ⟨Nat.le_of_ble_eq_true rfl, Nat.le_of_ble_eq_true rfl⟩ hW hS hp dX2_ask_8
set_option maxHeartbeats 4000000 in
set_option maxRecDepth 100000 in
theorem kX2_exchange (l : Launch) (hlt : l.stackTraces = false) {D : va_G} {cI cO cL cJ : ClassId} (g : XG) (X : MS) (hz sz : Nat) (hI : xI g) (hO : xO g hz sz) (d bk : Nat) (hd : g 3 0 = some d) (hbk : g 4 0 = some bk) (n : Nat) (kc : Nat → Nat) (hC : xC g X n kc) (p0 p1 p2 : Int32) : vx_Met l yX2_exchange wsX2_exchange ({ frames := 8, cells := 4, slots := 24, locals := 130 } : Room) (xP D cI cO cL cJ g X hz sz [.ref d, .int p0, .int p1, .int p2]) (xQi D cO cL g sz (fun (r : Int32) (X9 : MS) => ∃ k j, isL n kc p0 p1 k j ∧ inR p2 0 1 ∧ ¬ retX X k (8 * k + j) p2 = 0 ∧ r = X 1 0 + 21 ∧ X9 = swX X (8 * k + j) p2 2)) (xT (fun E : String => noO n p0 E ∨ noL n kc p0 p1 E ∨ (E = IAE ∧ ∃ k j, isL n kc p0 p1 k j ∧ ¬ inR p2 0 1) ∨ (E = ISE ∧ ∃ k j, isL n kc p0 p1 k j ∧ inR p2 0 1 ∧ retX X k (8 * k + j) p2 = 0))) 4 24 (xA g sz) := by
  refine x_body (cc := cX2_exchange) (maxL := 4) (ret := some .int) (by decide) rfl [.ref d, .int p0, .int p1, .int p2] (Nat.le_of_ble_eq_true rfl) ?_
  intro p e s m args below meth c hx hb hr hts hown hml hlocks htab hsz hW hK hE ls hl
  subst hsz
  have hown : s.vm.findClass RX2 = some m.cls := hown
  have hl : lv_has ls 4 [(0, .ref d), (1, .int p0), (2, .int p1), (3, .int p2)] := hl
  have hin0 : ∀ w ∈ u_ws RX0 TX0 5, w ∈ wsX2_exchange := (fun w h => List.mem_cons_of_mem _ (List.mem_append_left _ (List.mem_append_left _ (List.mem_append_left _ (List.mem_append_left _ (List.mem_append_left _ (List.mem_append_right _ (h))))))))
  have hin1 : ∀ w ∈ u_ws RX1 TX1 12, w ∈ wsX2_exchange := (fun w h => List.mem_cons_of_mem _ (List.mem_append_left _ (List.mem_append_left _ (List.mem_append_left _ (List.mem_append_right _ (h))))))
  have hin2 : ∀ w ∈ u_ws RX2 TX2 6, w ∈ wsX2_exchange := (fun w h => List.mem_cons_of_mem _ (List.mem_append_left _ (List.mem_append_left _ (List.mem_append_left _ (List.mem_append_left _ (List.mem_append_right _ (h)))))))
  have hS : va_S (xA g s.heap.size) s.heap s.heap [] := va_S.rf
  refine lv_aload_n hx hb dX2_exchange_0 rfl (lv_at hl 0 rfl) ?_
  refine lv_iload_n hx hb dX2_exchange_1 rfl (lv_at hl 1 rfl) ?_
  refine lv_iload_n hx hb dX2_exchange_2 rfl (lv_at hl 2 rfl) ?_
  refine lv_iload_n hx hb dX2_exchange_3 rfl (lv_at hl 3 rfl) ?_
  refine lv_iconst (v := 2) hx hb dX2_exchange_4 (by decide) ?_
  refine x_cWI (vx_runV (As := [.int p0, .int p1, .int p2, .int 2]) (rest := []) (b := d) ⟨hx, hb, hml, hown, hts⟩ (kX2_startWait l hlt g X hz _ hI ⟨hO.1, Nat.le_trans hO.2 hS.1⟩ d bk hd hbk n kc hC p0 p1 p2 2) (cwV 4 hts gX2_exchange_X2_startWait rfl rfl rfl (by decide +kernel) ⟨Nat.le_of_ble_eq_true rfl, Nat.le_of_ble_eq_true rfl⟩) (x_preV hW hK hE (x_recvD hK hW hd)) rfl rfl hl.1 rfl (lv_room (Nat.le_of_ble_eq_true rfl)) dX2_exchange_5 ⟨Nat.le_of_ble_eq_true rfl, Nat.le_of_ble_eq_true rfl⟩) hS hS.1 (fun E ce q9 H1 locs1 hc hz1 hk1 hS1 hL1 hce hcv hcl => x_prop htab hlocks hce hcv hcl hz1 hk1 (fun z h => (hL1 z h).elim (fun h => nomatch h) (fun h => h)) ⟨Nat.le_of_ble_eq_true rfl, Nat.le_of_ble_eq_true rfl⟩ hc) (fun r X9 H locs hp hW hz1 _ hS => ?_)
  exact xw_ret hx hb hr hlocks ⟨Nat.le_of_ble_eq_true rfl, Nat.le_of_ble_eq_true rfl⟩ hW hS hp dX2_exchange_8
set_option maxHeartbeats 4000000 in
set_option maxRecDepth 100000 in
theorem kX2_pay (l : Launch) (hlt : l.stackTraces = false) {D : va_G} {cI cO cL cJ : ClassId} (g : XG) (X : MS) (hz sz : Nat) (hI : xI g) (hO : xO g hz sz) (d bk : Nat) (hd : g 3 0 = some d) (hbk : g 4 0 = some bk) (n : Nat) (kc : Nat → Nat) (hC : xC g X n kc) (p0 p1 p2 : Int32) : vx_Met l yX2_pay wsX2_pay ({ frames := 7, cells := 4, slots := 24, locals := 104 } : Room) (xP D cI cO cL cJ g X hz sz [.ref d, .int p0, .int p1, .int p2]) (xQi D cO cL g sz (fun (r : Int32) (X9 : MS) => ∃ k, k < n ∧ p0 = nI k ∧ inR p1 0 1000000 ∧ inR p2 0 1000000 ∧ X 8 k = 0 ∧ ¬ X 7 k = 0 ∧ X9 = settleX X k (kc k) p1 p2 (X 1 0) ∧ r = X9 13 k)) (xT (fun E : String => noO n p0 E ∨ (E = IAE ∧ ∃ k, k < n ∧ p0 = nI k ∧ (¬ inR p1 0 1000000 ∨ ¬ inR p2 0 1000000)) ∨ (E = ISE ∧ ∃ k, k < n ∧ p0 = nI k ∧ inR p1 0 1000000 ∧ inR p2 0 1000000 ∧ (¬ X 8 k = 0 ∨ X 7 k = 0)))) 4 24 (xA g sz) := by
  refine x_body (cc := cX2_pay) (maxL := 5) (ret := some .int) (by decide) rfl [.ref d, .int p0, .int p1, .int p2] (Nat.le_of_ble_eq_true rfl) ?_
  intro p e s m args below meth c hx hb hr hts hown hml hlocks htab hsz hW hK hE ls hl
  subst hsz
  have hown : s.vm.findClass RX2 = some m.cls := hown
  have hl : lv_has ls 5 [(0, .ref d), (1, .int p0), (2, .int p1), (3, .int p2)] := hl
  have hin0 : ∀ w ∈ u_ws RX0 TX0 5, w ∈ wsX2_pay := (fun w h => List.mem_cons_of_mem _ (List.mem_append_left _ (List.mem_append_left _ (List.mem_append_left _ (List.mem_append_right _ (h))))))
  have hin1 : ∀ w ∈ u_ws RX1 TX1 12, w ∈ wsX2_pay := (fun w h => List.mem_cons_of_mem _ (List.mem_append_left _ (List.mem_append_left _ (List.mem_append_left _ (List.mem_append_left _ (List.mem_append_left _ (List.mem_append_right _ (h))))))))
  have hin2 : ∀ w ∈ u_ws RX2 TX2 6, w ∈ wsX2_pay := (fun w h => List.mem_cons_of_mem _ (List.mem_append_left _ (List.mem_append_left _ (List.mem_append_left _ (List.mem_append_left _ (List.mem_append_right _ (h)))))))
  have hS : va_S (xA g s.heap.size) s.heap s.heap [] := va_S.rf
  refine lv_aload_n hx hb dX2_pay_0 rfl (lv_at hl 0 rfl) ?_
  refine lv_iload_n hx hb dX2_pay_1 rfl (lv_at hl 1 rfl) ?_
  refine x_cR (vx_runV (As := [.int p0]) (rest := []) (b := d) ⟨hx, hb, hml, hown, hts⟩ (kX2_findOrder l hlt g X hz _ d bk hd hbk n hC.1 hC.2.2.1 p0) (cwV 1 hts gX2_pay_X2_findOrder rfl rfl rfl (by decide +kernel) ⟨Nat.le_of_ble_eq_true rfl, Nat.le_of_ble_eq_true rfl⟩) (x_preV hW hK hE (x_recvD hK hW hd)) rfl rfl hl.1 rfl (lv_room (Nat.le_of_ble_eq_true rfl)) dX2_pay_2 ⟨Nat.le_of_ble_eq_true rfl, Nat.le_of_ble_eq_true rfl⟩) hS (fun E ce q9 H1 locs1 hc hz1 hk1 hS1 hL1 hce hcv hcl => x_prop htab hlocks hce hcv hcl hz1 hk1 (fun z h => (hL1 z h).elim (fun h => nomatch h) (fun h => h.elim)) ⟨Nat.le_of_ble_eq_true rfl, Nat.le_of_ble_eq_true rfl⟩ (Or.inl hc)) (fun ao hp => ?_)
  obtain ⟨k, hk, hp0, ho⟩ := hp
  subst hp0
  obtain ⟨hkk, hX7, ⟨la, hla⟩, hln⟩ := hC.2.2.2 k hk
  refine lv_astore (lv' := [(4, .ref ao), (0, .ref d), (1, .int (nI k)), (2, .int p1), (3, .int p2)]) hx hb dX2_pay_5 hl (by decide) rfl (fun ls hl => ?_)
  refine lv_iload_n hx hb dX2_pay_7 rfl (lv_at hl 3 rfl) ?_
  refine lv_iconst (v := 0) hx hb dX2_pay_8 (by decide) ?_
  refine lv_ldc (v := 1000000) hx hb hown (hts (.constant RX2 19 (1000000)) (List.mem_of_getElem? (i := 3) rfl)) dX2_pay_9 ?_
  refine x_cV (vx_runS (As := [.int p1, .int 0, .int 1000000]) (rest := []) ⟨hx, hb, hml, hown, hts⟩ (kX2_requireRange l hlt g X hz _ p1 0 1000000) (va_cwS 3 hts gX2_pay_X2_requireRange rfl rfl rfl (by decide +kernel) ⟨Nat.le_of_ble_eq_true rfl, Nat.le_of_ble_eq_true rfl⟩) (x_preS hW hK hE) rfl rfl hl.1 rfl (lv_room (Nat.le_of_ble_eq_true rfl)) dX2_pay_11 ⟨Nat.le_of_ble_eq_true rfl, Nat.le_of_ble_eq_true rfl⟩) hS (fun E ce q9 H1 locs1 hc hz1 hk1 hS1 hL1 hce hcv hcl => x_prop htab hlocks hce hcv hcl hz1 hk1 (fun z h => (hL1 z h).elim (fun h => nomatch h) (fun h => h.elim)) ⟨Nat.le_of_ble_eq_true rfl, Nat.le_of_ble_eq_true rfl⟩ (Or.inr (Or.inl ⟨hc.1, k, hk, rfl, Or.inl hc.2⟩))) (fun h11 => ?_)
  refine lv_iload_n hx hb dX2_pay_14 rfl (lv_at hl 4 rfl) ?_
  refine lv_iconst (v := 0) hx hb dX2_pay_15 (by decide) ?_
  refine lv_ldc (v := 1000000) hx hb hown (hts (.constant RX2 19 (1000000)) (List.mem_of_getElem? (i := 3) rfl)) dX2_pay_16 ?_
  refine x_cV (vx_runS (As := [.int p2, .int 0, .int 1000000]) (rest := []) ⟨hx, hb, hml, hown, hts⟩ (kX2_requireRange l hlt g X hz _ p2 0 1000000) (va_cwS 3 hts gX2_pay_X2_requireRange rfl rfl rfl (by decide +kernel) ⟨Nat.le_of_ble_eq_true rfl, Nat.le_of_ble_eq_true rfl⟩) (x_preS hW hK hE) rfl rfl hl.1 rfl (lv_room (Nat.le_of_ble_eq_true rfl)) dX2_pay_18 ⟨Nat.le_of_ble_eq_true rfl, Nat.le_of_ble_eq_true rfl⟩) hS (fun E ce q9 H1 locs1 hc hz1 hk1 hS1 hL1 hce hcv hcl => x_prop htab hlocks hce hcv hcl hz1 hk1 (fun z h => (hL1 z h).elim (fun h => nomatch h) (fun h => h.elim)) ⟨Nat.le_of_ble_eq_true rfl, Nat.le_of_ble_eq_true rfl⟩ (Or.inr (Or.inl ⟨hc.1, k, hk, rfl, Or.inr hc.2⟩))) (fun h18 => ?_)
  refine lv_aload hx hb dX2_pay_21 (lv_at hl 0 rfl) ?_
  refine f_get (ci := 1) (fs := xobO g X k) (v := .int (X 8 k)) hx hb hts hin1 hown hK (hW 0 k _ ho) rfl 4 (by decide) (hts (.fieldLink RX2 39 "ReturnsDesk$Order" "isPaid" "Z") (List.mem_of_getElem? (i := 4) rfl)) (fun _ h9 => h9) rfl dX2_pay_23 ?_
  refine lv_if_ne (tgt := 37) hx hb dX2_pay_26 (by decide) (fun c26 => ?_) (fun c26 => ?_)
  · skip
    exact x_throw (cls := ISE) (text := "the order is paid or has no lines") (ik := 24) (is := 59) (ic := 28) hlt hx hb hown hts hE (by decide +kernel) (by decide +kernel) (hts (.classLink RX2 24 "java/lang/IllegalStateException") (List.mem_of_getElem? (i := 1) rfl)) (hts (.initialized "java/lang/IllegalStateException") (List.mem_of_getElem? (i := 2) rfl)) (List.mem_of_getElem? (i := 2) rfl) (fun w h => List.mem_cons_of_mem _ (List.mem_append_left _ (List.mem_append_left _ (List.mem_append_right _ (h))))) tn_S tg_S (hl.1.trans hml.symm) htab hlocks dX2_pay_37 dX2_pay_40 dX2_pay_41 dX2_pay_43 dX2_pay_46 ⟨(Nat.le_of_ble_eq_true rfl), (Nat.le_of_ble_eq_true rfl), (Nat.le_of_ble_eq_true rfl), (Nat.le_of_ble_eq_true rfl)⟩ ⟨(Nat.le_of_ble_eq_true rfl), (Nat.le_of_ble_eq_true rfl)⟩ rfl rfl (Or.inr (Or.inr ⟨rfl, k, hk, rfl, h11, h18, Or.inl c26⟩))
  · skip
    refine lv_aload hx hb dX2_pay_29 (lv_at hl 0 rfl) ?_
    refine f_get (ci := 1) (fs := xobO g X k) (v := .int (X 7 k)) hx hb hts hin1 hown hK (hW 0 k _ ho) rfl 3 (by decide) (hts (.fieldLink RX2 56 "ReturnsDesk$Order" "lineCount" "I") (List.mem_of_getElem? (i := 5) rfl)) (fun _ h9 => h9) rfl dX2_pay_31 ?_
    refine lv_if_ne (tgt := 47) hx hb dX2_pay_34 (by decide) (fun c34 => ?_) (fun c34 => ?_)
    · skip
      refine lv_aload hx hb dX2_pay_47 (lv_at hl 0 rfl) ?_
      refine lv_iload_n hx hb dX2_pay_49 rfl (lv_at hl 3 rfl) ?_
      refine lv_iload_n hx hb dX2_pay_50 rfl (lv_at hl 4 rfl) ?_
      refine lv_aload_n hx hb dX2_pay_51 rfl (lv_at hl 1 rfl) ?_
      refine f_get (ci := 2) (fs := xobD g X 0) (v := .int (X 1 0)) hx hb hts hin2 hown hK (hW 3 0 _ hd) rfl 2 (by decide) (hts (.fieldLink RX2 61 "ReturnsDesk" "today" "I") (List.mem_of_getElem? (i := 6) rfl)) (fun _ h9 => h9) rfl dX2_pay_52 ?_
      refine x_wV (va_runV (As := [.int p1, .int p2, .int (X 1 0)]) (rest := []) (b := ao) ⟨hx, hb, hml, hown, hts⟩ (kX1_settle l g X hz _ hI ⟨hO.1, Nat.le_trans hO.2 hS.1⟩ ao la k ho hla (kc k) hkk hln p1 p2 (X 1 0)) (cwV 3 hts gX2_pay_X1_settle rfl rfl rfl (by decide +kernel) ⟨Nat.le_of_ble_eq_true rfl, Nat.le_of_ble_eq_true rfl⟩) (x_preV hW hK hE (x_recvO hK hW ho)) rfl rfl hl.1 rfl (lv_room (Nat.le_of_ble_eq_true rfl)) dX2_pay_55 ⟨Nat.le_of_ble_eq_true rfl, Nat.le_of_ble_eq_true rfl⟩) hS hS.1 (fun X9 H locs hp hW hz1 hS => ?_)
      subst hp
      refine lv_aload hx hb dX2_pay_58 (lv_at hl 0 rfl) ?_
      refine f_get (ci := 1) (fs := xobO g (settleX X k (kc k) p1 p2 (X 1 0)) k) (v := .int ((settleX X k (kc k) p1 p2 (X 1 0)) 13 k)) hx hb hts hin1 hown hK (hW 0 k _ ho) rfl 9 (by decide) (hts (.fieldLink RX2 67 "ReturnsDesk$Order" "byCard" "I") (List.mem_of_getElem? (i := 7) rfl)) (fun _ h9 => h9) rfl dX2_pay_60 ?_
      exact xw_ret hx hb hr hlocks ⟨Nat.le_of_ble_eq_true rfl, Nat.le_of_ble_eq_true rfl⟩ hW hS ⟨k, hk, rfl, h11, h18, c26, c34, rfl, rfl⟩ dX2_pay_63
    · skip
      exact x_throw (cls := ISE) (text := "the order is paid or has no lines") (ik := 24) (is := 59) (ic := 28) hlt hx hb hown hts hE (by decide +kernel) (by decide +kernel) (hts (.classLink RX2 24 "java/lang/IllegalStateException") (List.mem_of_getElem? (i := 1) rfl)) (hts (.initialized "java/lang/IllegalStateException") (List.mem_of_getElem? (i := 2) rfl)) (List.mem_of_getElem? (i := 2) rfl) (fun w h => List.mem_cons_of_mem _ (List.mem_append_left _ (List.mem_append_left _ (List.mem_append_right _ (h))))) tn_S tg_S (hl.1.trans hml.symm) htab hlocks dX2_pay_37 dX2_pay_40 dX2_pay_41 dX2_pay_43 dX2_pay_46 ⟨(Nat.le_of_ble_eq_true rfl), (Nat.le_of_ble_eq_true rfl), (Nat.le_of_ble_eq_true rfl), (Nat.le_of_ble_eq_true rfl)⟩ ⟨(Nat.le_of_ble_eq_true rfl), (Nat.le_of_ble_eq_true rfl)⟩ rfl rfl (Or.inr (Or.inr ⟨rfl, k, hk, rfl, h11, h18, Or.inr c34⟩))
set_option maxHeartbeats 4000000 in
set_option maxRecDepth 100000 in
theorem kX2_grade (l : Launch) (hlt : l.stackTraces = false) {D : va_G} {cI cO cL cJ : ClassId} (g : XG) (X : MS) (hz sz : Nat) (hI : xI g) (hO : xO g hz sz) (d bk : Nat) (hd : g 3 0 = some d) (hbk : g 4 0 = some bk) (n : Nat) (kc : Nat → Nat) (hC : xC g X n kc) (p0 p1 p2 : Int32) : vx_Met l yX2_grade wsX2_grade ({ frames := 7, cells := 4, slots := 24, locals := 104 } : Room) (xP D cI cO cL cJ g X hz sz [.ref d, .int p0, .int p1, .int p2]) (xQi D cO cL g sz (fun (r : Int32) (X9 : MS) => ∃ k j, isL n kc p0 p1 k j ∧ inR p2 0 3 ∧ ¬ wtX X (8 * k + j) = 0 ∧ (r, X9) = gradeX X k (kc k) (8 * k + j) p2)) (xT (fun E : String => noO n p0 E ∨ noL n kc p0 p1 E ∨ (E = IAE ∧ ∃ k j, isL n kc p0 p1 k j ∧ ¬ inR p2 0 3) ∨ (E = ISE ∧ ∃ k j, isL n kc p0 p1 k j ∧ inR p2 0 3 ∧ wtX X (8 * k + j) = 0))) 4 24 (xA g sz) := by
  refine x_body (cc := cX2_grade) (maxL := 6) (ret := some .int) (by decide) rfl [.ref d, .int p0, .int p1, .int p2] (Nat.le_of_ble_eq_true rfl) ?_
  intro p e s m args below meth c hx hb hr hts hown hml hlocks htab hsz hW hK hE ls hl
  subst hsz
  have hown : s.vm.findClass RX2 = some m.cls := hown
  have hl : lv_has ls 6 [(0, .ref d), (1, .int p0), (2, .int p1), (3, .int p2)] := hl
  have hin0 : ∀ w ∈ u_ws RX0 TX0 5, w ∈ wsX2_grade := (fun w h => List.mem_cons_of_mem _ (List.mem_append_left _ (List.mem_append_left _ (List.mem_append_left _ (List.mem_append_left _ (List.mem_append_right _ (h)))))))
  have hin1 : ∀ w ∈ u_ws RX1 TX1 12, w ∈ wsX2_grade := (fun w h => List.mem_cons_of_mem _ (List.mem_append_left _ (List.mem_append_left _ (List.mem_append_left _ (List.mem_append_left _ (List.mem_append_left _ (List.mem_append_right _ (h))))))))
  have hin2 : ∀ w ∈ u_ws RX2 TX2 6, w ∈ wsX2_grade := (fun w h => List.mem_cons_of_mem _ (List.mem_append_left _ (List.mem_append_left _ (List.mem_append_left _ (List.mem_append_right _ (h))))))
  have hS : va_S (xA g s.heap.size) s.heap s.heap [] := va_S.rf
  refine lv_aload_n hx hb dX2_grade_0 rfl (lv_at hl 0 rfl) ?_
  refine lv_iload_n hx hb dX2_grade_1 rfl (lv_at hl 1 rfl) ?_
  refine x_cR (vx_runV (As := [.int p0]) (rest := []) (b := d) ⟨hx, hb, hml, hown, hts⟩ (kX2_findOrder l hlt g X hz _ d bk hd hbk n hC.1 hC.2.2.1 p0) (cwV 1 hts gX2_grade_X2_findOrder rfl rfl rfl (by decide +kernel) ⟨Nat.le_of_ble_eq_true rfl, Nat.le_of_ble_eq_true rfl⟩) (x_preV hW hK hE (x_recvD hK hW hd)) rfl rfl hl.1 rfl (lv_room (Nat.le_of_ble_eq_true rfl)) dX2_grade_2 ⟨Nat.le_of_ble_eq_true rfl, Nat.le_of_ble_eq_true rfl⟩) hS (fun E ce q9 H1 locs1 hc hz1 hk1 hS1 hL1 hce hcv hcl => x_prop htab hlocks hce hcv hcl hz1 hk1 (fun z h => (hL1 z h).elim (fun h => nomatch h) (fun h => h.elim)) ⟨Nat.le_of_ble_eq_true rfl, Nat.le_of_ble_eq_true rfl⟩ (Or.inl hc)) (fun ao hp => ?_)
  obtain ⟨k, hk, hp0, ho⟩ := hp
  subst hp0
  obtain ⟨hkk, hX7, ⟨la, hla⟩, hln⟩ := hC.2.2.2 k hk
  refine lv_astore (lv' := [(4, .ref ao), (0, .ref d), (1, .int (nI k)), (2, .int p1), (3, .int p2)]) hx hb dX2_grade_5 hl (by decide) rfl (fun ls hl => ?_)
  refine lv_aload hx hb dX2_grade_7 (lv_at hl 0 rfl) ?_
  refine lv_iload_n hx hb dX2_grade_9 rfl (lv_at hl 3 rfl) ?_
  refine x_cR (vx_runS (As := [.ref ao, .int p1]) (rest := []) ⟨hx, hb, hml, hown, hts⟩ (kX2_findLine l hlt g X hz _ ao la k ho hla p1 (kc k) hkk hln) (va_cwS 2 hts gX2_grade_X2_findLine rfl rfl rfl (by decide +kernel) ⟨Nat.le_of_ble_eq_true rfl, Nat.le_of_ble_eq_true rfl⟩) (x_preS hW hK hE) rfl rfl hl.1 rfl (lv_room (Nat.le_of_ble_eq_true rfl)) dX2_grade_10 ⟨Nat.le_of_ble_eq_true rfl, Nat.le_of_ble_eq_true rfl⟩) hS (fun E ce q9 H1 locs1 hc hz1 hk1 hS1 hL1 hce hcv hcl => x_prop htab hlocks hce hcv hcl hz1 hk1 (fun z h => (hL1 z h).elim (fun h => nomatch h) (fun h => h.elim)) ⟨Nat.le_of_ble_eq_true rfl, Nat.le_of_ble_eq_true rfl⟩ (Or.inr (Or.inl ⟨hc.1, k, hk, rfl, hc.2⟩))) (fun al hp => ?_)
  obtain ⟨j, hj, hp1, hal⟩ := hp
  subst hp1
  refine lv_astore (lv' := [(5, .ref al), (4, .ref ao), (0, .ref d), (1, .int (nI k)), (2, .int (nI j)), (3, .int p2)]) hx hb dX2_grade_13 hl (by decide) rfl (fun ls hl => ?_)
  refine lv_iload_n hx hb dX2_grade_15 rfl (lv_at hl 5 rfl) ?_
  refine lv_iconst (v := 0) hx hb dX2_grade_16 (by decide) ?_
  refine lv_iconst (v := 3) hx hb dX2_grade_17 (by decide) ?_
  refine x_cV (vx_runS (As := [.int p2, .int 0, .int 3]) (rest := []) ⟨hx, hb, hml, hown, hts⟩ (kX2_requireRange l hlt g X hz _ p2 0 3) (va_cwS 3 hts gX2_grade_X2_requireRange rfl rfl rfl (by decide +kernel) ⟨Nat.le_of_ble_eq_true rfl, Nat.le_of_ble_eq_true rfl⟩) (x_preS hW hK hE) rfl rfl hl.1 rfl (lv_room (Nat.le_of_ble_eq_true rfl)) dX2_grade_18 ⟨Nat.le_of_ble_eq_true rfl, Nat.le_of_ble_eq_true rfl⟩) hS (fun E ce q9 H1 locs1 hc hz1 hk1 hS1 hL1 hce hcv hcl => x_prop htab hlocks hce hcv hcl hz1 hk1 (fun z h => (hL1 z h).elim (fun h => nomatch h) (fun h => h.elim)) ⟨Nat.le_of_ble_eq_true rfl, Nat.le_of_ble_eq_true rfl⟩ (Or.inr (Or.inr (Or.inl ⟨hc.1, k, j, ⟨hk, rfl, hj, rfl⟩, hc.2⟩)))) (fun h18 => ?_)
  refine lv_aload hx hb dX2_grade_21 (lv_at hl 0 rfl) ?_
  refine vp_callSi (va_runV (As := []) (rest := []) (b := al) ⟨hx, hb, hml, hown, hts⟩ (kX0_isWaitedFor l g X hz _ al (8 * k + j) hal) (cwV 0 hts gX2_grade_X0_isWaitedFor rfl rfl rfl (by decide +kernel) ⟨Nat.le_of_ble_eq_true rfl, Nat.le_of_ble_eq_true rfl⟩) (x_preV hW hK hE (x_recvL hK hW hal)) rfl rfl hl.1 rfl (lv_room (Nat.le_of_ble_eq_true rfl)) dX2_grade_23 ⟨Nat.le_of_ble_eq_true rfl, Nat.le_of_ble_eq_true rfl⟩).run (fun r hp => ?_)
  subst hp
  refine lv_if_ne (tgt := 39) hx hb dX2_grade_26 (by decide) (fun c26 => ?_) (fun c26 => ?_)
  · skip
    refine lv_aload hx hb dX2_grade_39 (lv_at hl 1 rfl) ?_
    refine lv_dup hx hb dX2_grade_41 rfl ?_
    refine f_get (ci := 1) (fs := xobO g X k) (v := .int (X 10 k)) hx hb hts hin1 hown hK (hW 0 k _ ho) rfl 6 (by decide) (hts (.fieldLink RX2 87 "ReturnsDesk$Order" "fees" "I") (List.mem_of_getElem? (i := 3) rfl)) (fun _ h9 => h9) rfl dX2_grade_42 ?_
    refine lv_aload hx hb dX2_grade_45 (lv_at hl 0 rfl) ?_
    refine lv_iload_n hx hb dX2_grade_47 rfl (lv_at hl 5 rfl) ?_
    refine vp_callSi (va_runV (As := [.int p2]) (rest := [.int (X 10 k), .ref ao]) (b := al) ⟨hx, hb, hml, hown, hts⟩ (kX0_feeFor l g X hz _ al (8 * k + j) hal p2) (cwV 1 hts gX2_grade_X0_feeFor rfl rfl rfl (by decide +kernel) ⟨Nat.le_of_ble_eq_true rfl, Nat.le_of_ble_eq_true rfl⟩) (x_preV hW hK hE (x_recvL hK hW hal)) rfl rfl hl.1 rfl (lv_room (Nat.le_of_ble_eq_true rfl)) dX2_grade_48 ⟨Nat.le_of_ble_eq_true rfl, Nat.le_of_ble_eq_true rfl⟩).run (fun r hp => ?_)
    subst hp
    refine lv_iadd hx hb dX2_grade_51 ?_
    refine x_putO hx hb hts hin1 hown hK hI hW hS ho (Or.inl ⟨0, k, ho⟩) 6 10 (by decide) (hts (.fieldLink RX2 87 "ReturnsDesk$Order" "fees" "I") (List.mem_of_getElem? (i := 3) rfl)) (fun _ h9 => h9) .int (tyX1_ok 6 (by decide)) rfl rfl dX2_grade_52 (fun H locs hW hz1 _ hS => ?_)
    refine lv_aload_n hx hb dX2_grade_55 rfl (lv_at hl 2 rfl) ?_
    refine lv_aload hx hb dX2_grade_56 (lv_at hl 0 rfl) ?_
    refine f_get (ci := 0) (fs := xobL (mu X 10 k ((X 10 k) + (feeX X (8 * k + j) p2))) (8 * k + j)) (v := .int (X 19 (8 * k + j))) hx hb hts hin0 hown hK (hW 2 (8 * k + j) _ hal) rfl 3 (by decide) (hts (.fieldLink RX2 94 "ReturnsDesk$Line" "reason" "I") (List.mem_of_getElem? (i := 4) rfl)) (fun _ h9 => h9) (congrArg (fun z => some (Value.int z)) (mu_f _ _ _ _ (by decide))) dX2_grade_58 ?_
    refine lv_iload_n hx hb dX2_grade_61 rfl (lv_at hl 5 rfl) ?_
    refine x_wV (va_runV (As := [.int (X 19 (8 * k + j)), .int p2]) (rest := []) (b := d) ⟨hx, hb, hml, hown, hts⟩ (kX2_putIntoStock l g (mu X 10 k ((X 10 k) + (feeX X (8 * k + j) p2))) hz _ hI ⟨hO.1, Nat.le_trans hO.2 hS.1⟩ d bk hd hbk (X 19 (8 * k + j)) p2) (cwV 2 hts gX2_grade_X2_putIntoStock rfl rfl rfl (by decide +kernel) ⟨Nat.le_of_ble_eq_true rfl, Nat.le_of_ble_eq_true rfl⟩) (x_preV hW hK (hE.S hO hS) (x_recvD hK hW hd)) rfl rfl hl.1 rfl (lv_room (Nat.le_of_ble_eq_true rfl)) dX2_grade_62 ⟨Nat.le_of_ble_eq_true rfl, Nat.le_of_ble_eq_true rfl⟩) hS hS.1 (fun X9 H locs hp hW hz1 hS => ?_)
    subst hp
    refine lv_aload hx hb dX2_grade_65 (lv_at hl 0 rfl) ?_
    refine lv_aload hx hb dX2_grade_67 (lv_at hl 0 rfl) ?_
    refine f_get (ci := 0) (fs := xobL (putX (mu X 10 k ((X 10 k) + (feeX X (8 * k + j) p2))) (X 19 (8 * k + j)) p2) (8 * k + j)) (v := .int ((putX (mu X 10 k ((X 10 k) + (feeX X (8 * k + j) p2))) (X 19 (8 * k + j)) p2) 18 (8 * k + j))) hx hb hts hin0 hown hK (hW 2 (8 * k + j) _ hal) rfl 2 (by decide) (hts (.fieldLink RX2 100 "ReturnsDesk$Line" "state" "I") (List.mem_of_getElem? (i := 5) rfl)) (fun _ h9 => h9) rfl dX2_grade_69 ?_
    refine lv_iconst (v := 1) hx hb dX2_grade_72 (by decide) ?_
    refine mg1 (c0 := (putX (mu X 10 k ((X 10 k) + (feeX X (8 * k + j) p2))) (X 19 (8 * k + j)) p2) 18 (8 * k + j) = 1) (a := 3) (b := 0) (J := 81) (rest := [.ref al]) (fun kj => ?_) ?_
    · skip
      refine lv_icmp_ne (tgt := 80) hx hb dX2_grade_73 (by decide) (fun c73 => ?_) (fun c73 => ?_)
      · skip
        refine lv_iconst (v := 0) hx hb dX2_grade_80 (by decide) ?_
        rw [if_neg c73] at kj; exact kj
      · skip
        refine lv_iconst (v := 3) hx hb dX2_grade_76 (by decide) ?_
        refine lv_goto (tgt := 81) hx hb dX2_grade_77 (by decide) ?_
        rw [if_pos c73] at kj; exact kj
    · skip
      refine x_putL hx hb hts hin0 hown hK hI hW hS hal (Or.inl ⟨2, 8 * k + j, hal⟩) 2 18 (by decide) (hts (.fieldLink RX2 100 "ReturnsDesk$Line" "state" "I") (List.mem_of_getElem? (i := 5) rfl)) (fun _ h9 => h9) dX2_grade_81 (fun H locs hW hz1 _ hS => ?_)
      refine lv_aload hx hb dX2_grade_84 (lv_at hl 1 rfl) ?_
      refine x_wI (va_runV (As := []) (rest := []) (b := ao) ⟨hx, hb, hml, hown, hts⟩ (kX1_refundSurplus l g (mu (putX (mu X 10 k ((X 10 k) + (feeX X (8 * k + j) p2))) (X 19 (8 * k + j)) p2) 18 (8 * k + j) (if (putX (mu X 10 k ((X 10 k) + (feeX X (8 * k + j) p2))) (X 19 (8 * k + j)) p2) 18 (8 * k + j) = 1 then 3 else 0)) hz _ hI ⟨hO.1, Nat.le_trans hO.2 hS.1⟩ ao la k ho hla (kc k) hkk hln) (cwV 0 hts gX2_grade_X1_refundSurplus rfl rfl rfl (by decide +kernel) ⟨Nat.le_of_ble_eq_true rfl, Nat.le_of_ble_eq_true rfl⟩) (x_preV hW hK (hE.S hO hS) (x_recvO hK hW ho)) rfl rfl hl.1 rfl (lv_room (Nat.le_of_ble_eq_true rfl)) dX2_grade_86 ⟨Nat.le_of_ble_eq_true rfl, Nat.le_of_ble_eq_true rfl⟩) hS hS.1 (fun r X9 H locs hp hW hz1 hS => ?_)
      exact xw_ret hx hb hr hlocks ⟨Nat.le_of_ble_eq_true rfl, Nat.le_of_ble_eq_true rfl⟩ hW hS ⟨k, j, ⟨hk, rfl, hj, rfl⟩, h18, c26, hp⟩ dX2_grade_89
  · skip
    exact x_throw (cls := ISE) (text := "the line is not waited for") (ik := 24) (is := 85) (ic := 28) hlt hx hb hown hts hE (by decide +kernel) (by decide +kernel) (hts (.classLink RX2 24 "java/lang/IllegalStateException") (List.mem_of_getElem? (i := 1) rfl)) (hts (.initialized "java/lang/IllegalStateException") (List.mem_of_getElem? (i := 2) rfl)) (List.mem_of_getElem? (i := 3) rfl) (fun w h => List.mem_cons_of_mem _ (List.mem_append_left _ (List.mem_append_left _ (List.mem_append_right _ (h))))) tn_S tg_S (hl.1.trans hml.symm) htab hlocks dX2_grade_29 dX2_grade_32 dX2_grade_33 dX2_grade_35 dX2_grade_38 ⟨(Nat.le_of_ble_eq_true rfl), (Nat.le_of_ble_eq_true rfl), (Nat.le_of_ble_eq_true rfl), (Nat.le_of_ble_eq_true rfl)⟩ ⟨(Nat.le_of_ble_eq_true rfl), (Nat.le_of_ble_eq_true rfl)⟩ rfl rfl (Or.inr (Or.inr (Or.inr ⟨rfl, k, j, ⟨hk, rfl, hj, rfl⟩, h18, c26⟩)))
set_option maxHeartbeats 4000000 in
set_option maxRecDepth 100000 in
theorem kX2_pass (l : Launch) (hlt : l.stackTraces = false) {D : va_G} {cI cO cL cJ : ClassId} (g : XG) (X : MS) (hz sz : Nat) (hI : xI g) (hO : xO g hz sz) (d bk : Nat) (hd : g 3 0 = some d) (hbk : g 4 0 = some bk) (n : Nat) (kc : Nat → Nat) (hC : xC g X n kc) (p0 : Int32) : vx_Met l yX2_pass wsX2_pass ({ frames := 7, cells := 2, slots := 12, locals := 104 } : Room) (xP D cI cO cL cJ g X hz sz [.ref d, .int p0]) (xQi D cO cL g sz (fun (r : Int32) (X9 : MS) => inR p0 1 400 ∧ p0 ≤ 10000 - X 1 0 ∧ (r, X9) = qIt (mu X 1 0 (X 1 0 + p0)) kc (X 1 0 + p0) n)) (xT (fun E : String => (E = IAE ∧ ¬ inR p0 1 400) ∨ (E = ISE ∧ inR p0 1 400 ∧ ¬ p0 ≤ 10000 - X 1 0))) 2 12 (xA g sz) := by
  refine x_body (cc := cX2_pass) (maxL := 7) (ret := some .int) (by decide) rfl [.ref d, .int p0] (Nat.le_of_ble_eq_true rfl) ?_
  intro p e s m args below meth c hx hb hr hts hown hml hlocks htab hsz hW hK hE ls hl
  subst hsz
  have hown : s.vm.findClass RX2 = some m.cls := hown
  have hl : lv_has ls 7 [(0, .ref d), (1, .int p0)] := hl
  have hin0 : ∀ w ∈ u_ws RX0 TX0 5, w ∈ wsX2_pass := (fun w h => List.mem_cons_of_mem _ (List.mem_append_left _ (List.mem_append_left _ (List.mem_append_right _ (h)))))
  have hin1 : ∀ w ∈ u_ws RX1 TX1 12, w ∈ wsX2_pass := (fun w h => List.mem_cons_of_mem _ (List.mem_append_left _ (List.mem_append_left _ (List.mem_append_left _ (List.mem_append_right _ (h))))))
  have hin2 : ∀ w ∈ u_ws RX2 TX2 6, w ∈ wsX2_pass := (fun w h => List.mem_cons_of_mem _ (List.mem_append_left _ (List.mem_append_left _ (List.mem_append_left _ (List.mem_append_left _ (List.mem_append_right _ (h)))))))
  have hS : va_S (xA g s.heap.size) s.heap s.heap [] := va_S.rf
  refine lv_iload_n hx hb dX2_pass_0 rfl (lv_at hl 1 rfl) ?_
  refine lv_iconst (v := 1) hx hb dX2_pass_1 (by decide) ?_
  refine lv_sipush (v := 400) hx hb dX2_pass_2 (by decide) ?_
  refine x_cV (vx_runS (As := [.int p0, .int 1, .int 400]) (rest := []) ⟨hx, hb, hml, hown, hts⟩ (kX2_requireRange l hlt g X hz _ p0 1 400) (va_cwS 3 hts gX2_pass_X2_requireRange rfl rfl rfl (by decide +kernel) ⟨Nat.le_of_ble_eq_true rfl, Nat.le_of_ble_eq_true rfl⟩) (x_preS hW hK hE) rfl rfl hl.1 rfl (lv_room (Nat.le_of_ble_eq_true rfl)) dX2_pass_5 ⟨Nat.le_of_ble_eq_true rfl, Nat.le_of_ble_eq_true rfl⟩) hS (fun E ce q9 H1 locs1 hc hz1 hk1 hS1 hL1 hce hcv hcl => x_prop htab hlocks hce hcv hcl hz1 hk1 (fun z h => (hL1 z h).elim (fun h => nomatch h) (fun h => h.elim)) ⟨Nat.le_of_ble_eq_true rfl, Nat.le_of_ble_eq_true rfl⟩ (Or.inl hc)) (fun h5 => ?_)
  refine lv_iload_n hx hb dX2_pass_8 rfl (lv_at hl 1 rfl) ?_
  refine lv_sipush (v := 10000) hx hb dX2_pass_9 (by decide) ?_
  refine lv_aload_n hx hb dX2_pass_12 rfl (lv_at hl 0 rfl) ?_
  refine f_get (ci := 2) (fs := xobD g X 0) (v := .int (X 1 0)) hx hb hts hin2 hown hK (hW 3 0 _ hd) rfl 2 (by decide) (hts (.fieldLink RX2 61 "ReturnsDesk" "today" "I") (List.mem_of_getElem? (i := 3) rfl)) (fun _ h9 => h9) rfl dX2_pass_13 ?_
  refine lv_isub hx hb dX2_pass_16 ?_
  refine lv_icmp_le (tgt := 30) hx hb dX2_pass_17 (by decide) (fun c17 => ?_) (fun c17 => ?_)
  · skip
    refine lv_aload_n hx hb dX2_pass_30 rfl (lv_at hl 0 rfl) ?_
    refine lv_dup hx hb dX2_pass_31 rfl ?_
    refine f_get (ci := 2) (fs := xobD g X 0) (v := .int (X 1 0)) hx hb hts hin2 hown hK (hW 3 0 _ hd) rfl 2 (by decide) (hts (.fieldLink RX2 61 "ReturnsDesk" "today" "I") (List.mem_of_getElem? (i := 3) rfl)) (fun _ h9 => h9) rfl dX2_pass_32 ?_
    refine lv_iload_n hx hb dX2_pass_35 rfl (lv_at hl 1 rfl) ?_
    refine lv_iadd hx hb dX2_pass_36 ?_
    refine x_putD hx hb hts hin2 hown hK hI hW hS hd (Or.inl ⟨3, 0, hd⟩) 2 1 (by decide) (hts (.fieldLink RX2 61 "ReturnsDesk" "today" "I") (List.mem_of_getElem? (i := 3) rfl)) (fun _ h9 => h9) dX2_pass_37 (fun H locs hW hz1 _ hS => ?_)
    refine lv_iconst (v := 0) hx hb dX2_pass_40 (by decide) ?_
    refine lv_istore_n (lv' := [(2, .int 0), (0, .ref d), (1, .int p0)]) hx hb dX2_pass_41 rfl hl (by decide) rfl (fun ls hl => ?_)
    refine lv_aload_n hx hb dX2_pass_42 rfl (lv_at hl 1 rfl) ?_
    refine f_get (ci := 2) (fs := xobD g (mu X 1 0 ((X 1 0) + p0)) 0) (v := .ref bk) hx hb hts hin2 hown hK (hW 3 0 _ hd) rfl 0 (by decide) (hts (.fieldLink RX2 11 "ReturnsDesk" "book" "[LReturnsDesk$Order;") (List.mem_of_getElem? (i := 4) rfl)) (fun _ h9 => h9) (congrArg (fun z => some (va_rf z)) hbk) dX2_pass_43 ?_
    refine lv_astore_n (lv' := [(3, .ref bk), (2, .int 0), (0, .ref d), (1, .int p0)]) hx hb dX2_pass_46 rfl hl (by decide) rfl (fun ls hl => ?_)
    refine lv_aload_n hx hb dX2_pass_47 rfl (lv_at hl 0 rfl) ?_
    refine f_alen (v := 30) hx hb hK 1 rfl (hW 4 0 _ hbk) rfl dX2_pass_48 ?_
    refine lv_istore (lv' := [(4, .int 30), (3, .ref bk), (2, .int 0), (0, .ref d), (1, .int p0)]) hx hb dX2_pass_49 hl (by decide) rfl (fun ls hl => ?_)
    refine lv_iconst (v := 0) hx hb dX2_pass_51 (by decide) ?_
    refine lv_istore (lv' := [(5, .int 0), (4, .int 30), (3, .ref bk), (2, .int 0), (0, .ref d), (1, .int p0)]) hx hb dX2_pass_52 hl (by decide) rfl (fun ls hl => ?_)
    have loop : ∀ (z i : Nat) (B : Int32 × MS) (H : Heap) (locs : List Loc) (ls : Array Slot), B = qIt (mu X 1 0 (X 1 0 + p0)) kc (X 1 0 + p0) (min i n) → i ≤ 30 → 30 - i < z → xW D cO cL g B.2 H → va_S (xA g s.heap.size) s.heap H locs → lv_has ls 7 [(5, .int (nI i)), (2, .int B.1), (4, .int 30), (3, .ref bk), (0, .ref d), (1, .int p0)] → W p l e ({ frames := 7, cells := 2, slots := 12, locals := 104 } : Room) s m args below meth c H locs 1 6 (vx_MQ below (xQi D cO cL g s.heap.size (fun (r : Int32) (X9 : MS) => inR p0 1 400 ∧ p0 ≤ 10000 - X 1 0 ∧ (r, X9) = qIt (mu X 1 0 (X 1 0 + p0)) kc (X 1 0 + p0) n)) (xT (fun E : String => (E = IAE ∧ ¬ inR p0 1 400) ∨ (E = ISE ∧ inR p0 1 400 ∧ ¬ p0 ≤ 10000 - X 1 0))) args s 2 12 (xA g s.heap.size)) (F0 m 54 ls []) := by
      intro z
      induction z with
      | zero => intro i B H locs ls h0 h1 h2; exact absurd h2 (by omega)
      | succ z ih =>
        intro i B H locs ls hB hi hz9 hW hS hl
        refine lv_iload hx hb dX2_pass_54 (lv_at hl 0 rfl) ?_
        refine lv_iload hx hb dX2_pass_56 (lv_at hl 2 rfl) ?_
        refine lv_icmp_ge (tgt := 90) hx hb dX2_pass_58 (by decide) (fun c58 => ?_) (fun c58 => ?_)
        · skip
          have hie : min i n = n := by
            have h0 := hC.1
            rcases Nat.lt_or_ge i 30 with z | z
            · exact absurd c58 (nI_ge z (by decide))
            · omega
          rw [hie] at hB
          refine lv_iload_n hx hb dX2_pass_90 rfl (lv_at hl 1 rfl) ?_
          exact xw_ret hx hb hr hlocks ⟨Nat.le_of_ble_eq_true rfl, Nat.le_of_ble_eq_true rfl⟩ hW hS ⟨h5, c17, by show (B.1, B.2) = _; rw [← hB]⟩ dX2_pass_91
        · skip
          have hi9 : i < 30 := Nat.not_le.mp (fun z => c58 (nI_le (a := 30) z (by omega)))
          refine lv_aload_n hx hb dX2_pass_61 rfl (lv_at hl 3 rfl) ?_
          refine lv_iload hx hb dX2_pass_62 (lv_at hl 0 rfl) ?_
          rcases hq64 : g 0 i with _ | ao
          · skip
            have hmn : min (i + 1) n = min i n := by have := (hC.2.2.1 i hi9).mp hq64; omega
            refine f_aaldV (v := .null) hx hb hK 1 rfl (hW 4 0 _ hbk) rfl (show i < 30 by omega) (by decide) (congrArg va_rf hq64) dX2_pass_64 ?_
            refine lv_astoreN (lv' := [(6, .null), (5, .int (nI i)), (2, .int B.1), (4, .int 30), (3, .ref bk), (0, .ref d), (1, .int p0)]) hx hb dX2_pass_65 hl (by decide) rfl (fun ls hl => ?_)
            refine lv_aloadN hx hb dX2_pass_67 (lv_at hl 0 rfl) ?_
            refine lv_ifnullN (tgt := 84) hx hb dX2_pass_69 (by decide) ?_
            refine lv_iinc (v := nI (i + 1)) (lv' := [(5, .int (nI (i + 1))), (6, .null), (2, .int B.1), (4, .int 30), (3, .ref bk), (0, .ref d), (1, .int p0)]) hx hb dX2_pass_84 hl (k := 1) rfl (nI_addx (a := i) (b := 1) rfl rfl) (by decide) rfl (fun ls hl => ?_)
            refine lv_goto (tgt := 54) hx hb dX2_pass_87 (by decide) ?_
            exact ih (i + 1) B H locs ls (by rw [hmn]; exact hB) (by omega) (by omega) hW hS (lv_sub hl [0, 2, 3, 4, 5, 6] rfl)
          · skip
            have hik : i < n := by rcases Nat.lt_or_ge i n with z | z; exact z; exact absurd ((hC.2.2.1 i hi9).mpr z) (by rw [hq64]; intro h; cases h)
            have hmi : min i n = i := by omega
            have hmn : min (i + 1) n = i + 1 := by omega
            rw [hmi] at hB
            obtain ⟨hkk, hX7, ⟨la, hla⟩, hln⟩ := hC.2.2.2 i hik
            have hB1 : B.2 1 0 = (X 1 0 + p0) := by rw [hB, qIt_1]; exact mu_s _ _ _ _
            refine f_aaldV (v := .ref ao) hx hb hK 1 rfl (hW 4 0 _ hbk) rfl (show i < 30 by omega) (by decide) (congrArg va_rf hq64) dX2_pass_64 ?_
            refine lv_astore (lv' := [(6, .ref ao), (5, .int (nI i)), (2, .int B.1), (4, .int 30), (3, .ref bk), (0, .ref d), (1, .int p0)]) hx hb dX2_pass_65 hl (by decide) rfl (fun ls hl => ?_)
            refine lv_aload hx hb dX2_pass_67 (lv_at hl 0 rfl) ?_
            refine lv_ifnull hx hb dX2_pass_69 ?_
            refine lv_iload_n hx hb dX2_pass_72 rfl (lv_at hl 2 rfl) ?_
            refine lv_aload hx hb dX2_pass_73 (lv_at hl 0 rfl) ?_
            refine lv_aload_n hx hb dX2_pass_75 rfl (lv_at hl 5 rfl) ?_
            refine f_get (ci := 2) (fs := xobD g B.2 0) (v := .int (B.2 1 0)) hx hb hts hin2 hown hK (hW 3 0 _ hd) rfl 2 (by decide) (hts (.fieldLink RX2 61 "ReturnsDesk" "today" "I") (List.mem_of_getElem? (i := 3) rfl)) (fun _ h9 => h9) rfl dX2_pass_76 ?_
            refine cv (y := (X 1 0 + p0)) hB1 ?_
            refine x_wI (va_runV (As := [.int (X 1 0 + p0)]) (rest := [.int B.1]) (b := ao) ⟨hx, hb, hml, hown, hts⟩ (kX1_endWaits l g B.2 hz _ hI ⟨hO.1, Nat.le_trans hO.2 hS.1⟩ ao la i hq64 hla (kc i) hkk hln (X 1 0 + p0)) (cwV 1 hts gX2_pass_X1_endWaits rfl rfl rfl (by decide +kernel) ⟨Nat.le_of_ble_eq_true rfl, Nat.le_of_ble_eq_true rfl⟩) (x_preV hW hK (hE.S hO hS) (x_recvO hK hW hq64)) rfl rfl hl.1 rfl (lv_room (Nat.le_of_ble_eq_true rfl)) dX2_pass_79 ⟨Nat.le_of_ble_eq_true rfl, Nat.le_of_ble_eq_true rfl⟩) hS hS.1 (fun r X9 H locs hp hW hz1 hS => ?_)
            refine lv_iadd hx hb dX2_pass_82 ?_
            refine lv_istore_n (lv' := [(2, .int (B.1 + r)), (6, .ref ao), (5, .int (nI i)), (4, .int 30), (3, .ref bk), (0, .ref d), (1, .int p0)]) hx hb dX2_pass_83 rfl hl (by decide) rfl (fun ls hl => ?_)
            refine lv_iinc (v := nI (i + 1)) (lv' := [(5, .int (nI (i + 1))), (2, .int (B.1 + r)), (6, .ref ao), (4, .int 30), (3, .ref bk), (0, .ref d), (1, .int p0)]) hx hb dX2_pass_84 hl (k := 2) rfl (nI_addx (a := i) (b := 1) rfl rfl) (by decide) rfl (fun ls hl => ?_)
            refine lv_goto (tgt := 54) hx hb dX2_pass_87 (by decide) ?_
            exact ih (i + 1) (B.1 + r, X9) H locs ls (by rw [hmn]; show _ = qNext (qIt (mu X 1 0 (X 1 0 + p0)) kc (X 1 0 + p0) i) kc (X 1 0 + p0) i; rw [← hB]; unfold qNext; rw [← hp]) (by omega) (by omega) hW hS (lv_sub hl [0, 1, 3, 4, 5, 6] rfl)
    exact loop 31 0 (0, (mu X 1 0 (X 1 0 + p0))) H locs ls (by rw [Nat.zero_min]; rfl) (by decide) (by decide) hW hS (lv_sub hl [0, 3, 1, 2, 4, 5] rfl)
  · skip
    exact x_throw (cls := ISE) (text := "the day would be above the last one") (ik := 24) (is := 143) (ic := 28) hlt hx hb hown hts hE (by decide +kernel) (by decide +kernel) (hts (.classLink RX2 24 "java/lang/IllegalStateException") (List.mem_of_getElem? (i := 1) rfl)) (hts (.initialized "java/lang/IllegalStateException") (List.mem_of_getElem? (i := 2) rfl)) (List.mem_of_getElem? (i := 4) rfl) (fun w h => List.mem_cons_of_mem _ (List.mem_append_left _ (List.mem_append_right _ (h)))) tn_S tg_S (hl.1.trans hml.symm) htab hlocks dX2_pass_20 dX2_pass_23 dX2_pass_24 dX2_pass_26 dX2_pass_29 ⟨(Nat.le_of_ble_eq_true rfl), (Nat.le_of_ble_eq_true rfl), (Nat.le_of_ble_eq_true rfl), (Nat.le_of_ble_eq_true rfl)⟩ ⟨(Nat.le_of_ble_eq_true rfl), (Nat.le_of_ble_eq_true rfl)⟩ rfl rfl (Or.inr ⟨rfl, h5, c17⟩)

/-! THE REFERENCE, method by method: grade and the reads. -/
set_option maxHeartbeats 4000000 in
set_option maxRecDepth 100000 in
theorem kX3_grade_bad (l : Launch) {D : va_G} {cI cO cL cJ : ClassId} {ao : Nat} {q : Nat → Nat} (hI : mI ao q) (M : MS) (p0 p1 p2 : Int32) (n : Nat) (hbad : ¬ vp_in p0 n) (hn : n ≤ 30) (hM1 : M 1 0 = nI n) : Met l yX3_grade wsX3_grade ({ frames := 2, cells := 0, slots := 0, locals := 44 } : Room) (mP D cI cO cL cJ ao q M [.int p0, .int p1, .int p2]) (mQ D cI cO cL cJ ao q (fun (r : Int32) (M9 : MS) => r = 0 ∧ M9 = mu M 16 0 1)) 0 0 (mA ao q) := by
  refine m_body (cc := cX3_grade) (maxL := 9) (ret := some .int) (by decide) rfl [.int p0, .int p1, .int p2] (Nat.le_of_ble_eq_true rfl) ?_
  intro p e s m args below meth c hx hb hr hts hown hml hlocks hW hK ls hl
  have hown : s.vm.findClass RX3 = some m.cls := hown
  have hl : lv_has ls 9 [(0, .ref ao), (1, .int p0), (2, .int p1), (3, .int p2)] := hl
  have hin : ∀ w ∈ u_ws RX3 TX3 17, w ∈ wsX3_grade := (fun w h => List.mem_cons_of_mem _ (List.mem_append_right _ (h)))
  have hS : va_S (mA ao q) s.heap s.heap [] := va_S.rf
  refine lv_aload_n hx hb dX3_grade_0 rfl (lv_at hl 0 rfl) ?_
  refine lv_iload_n hx hb dX3_grade_1 rfl (lv_at hl 1 rfl) ?_
  refine lv_iload_n hx hb dX3_grade_2 rfl (lv_at hl 2 rfl) ?_
  refine m_call 2 hx hb hts hown hml (kX3_isLine_bad l hI M p0 p1 n hbad hn hM1) rfl gX3_grade_X3_isLine rfl rfl rfl (by decide +kernel) ⟨Nat.le_of_ble_eq_true rfl, Nat.le_of_ble_eq_true rfl⟩ hl.1 hW hK hS (fun _ h => h) rfl (Nat.le_of_ble_eq_true rfl) dX3_grade_3 ⟨Nat.zero_le _, Nat.zero_le _⟩ (fun r M9 H locs hp hW _ _ hS => ?_)
  obtain ⟨rfl, rfl⟩ := hp
  refine lv_if_ne (tgt := 11) hx hb dX3_grade_6 (by decide) (fun h9 => absurd (by decide) h9) (fun _ => ?_)
  refine lv_iconst (v := 0) hx hb dX3_grade_9 (by decide) ?_
  exact m_ret hx hb hr hlocks hK hW hS ⟨rfl, rfl⟩ dX3_grade_10
set_option maxHeartbeats 4000000 in
set_option maxRecDepth 100000 in
theorem kX3_grade_bad2 (l : Launch) {D : va_G} {cI cO cL cJ : ClassId} {ao : Nat} {q : Nat → Nat} (hI : mI ao q) (M : MS) (o n kc : Nat) (p1 p2 : Int32) (ho : o < n) (hn : n ≤ 30) (hM1 : M 1 0 = nI n) (hkc : kc ≤ 8) (hM4 : M 4 o = nI kc) (hbad : ¬ vp_in p1 kc) : Met l yX3_grade wsX3_grade ({ frames := 2, cells := 0, slots := 0, locals := 44 } : Room) (mP D cI cO cL cJ ao q M [.int (nI o), .int p1, .int p2]) (mQ D cI cO cL cJ ao q (fun (r : Int32) (M9 : MS) => r = 0 ∧ M9 = mu M 16 0 1)) 0 0 (mA ao q) := by
  refine m_body (cc := cX3_grade) (maxL := 9) (ret := some .int) (by decide) rfl [.int (nI o), .int p1, .int p2] (Nat.le_of_ble_eq_true rfl) ?_
  intro p e s m args below meth c hx hb hr hts hown hml hlocks hW hK ls hl
  have hown : s.vm.findClass RX3 = some m.cls := hown
  have hl : lv_has ls 9 [(0, .ref ao), (1, .int (nI o)), (2, .int p1), (3, .int p2)] := hl
  have hin : ∀ w ∈ u_ws RX3 TX3 17, w ∈ wsX3_grade := (fun w h => List.mem_cons_of_mem _ (List.mem_append_right _ (h)))
  have hS : va_S (mA ao q) s.heap s.heap [] := va_S.rf
  refine lv_aload_n hx hb dX3_grade_0 rfl (lv_at hl 0 rfl) ?_
  refine lv_iload_n hx hb dX3_grade_1 rfl (lv_at hl 1 rfl) ?_
  refine lv_iload_n hx hb dX3_grade_2 rfl (lv_at hl 2 rfl) ?_
  refine m_call 2 hx hb hts hown hml (kX3_isLine_bad2 l hI M o n kc p1 ho hn hM1 hkc hM4 hbad) rfl gX3_grade_X3_isLine rfl rfl rfl (by decide +kernel) ⟨Nat.le_of_ble_eq_true rfl, Nat.le_of_ble_eq_true rfl⟩ hl.1 hW hK hS (fun _ h => h) rfl (Nat.le_of_ble_eq_true rfl) dX3_grade_3 ⟨Nat.zero_le _, Nat.zero_le _⟩ (fun r M9 H locs hp hW _ _ hS => ?_)
  obtain ⟨rfl, rfl⟩ := hp
  refine lv_if_ne (tgt := 11) hx hb dX3_grade_6 (by decide) (fun h9 => absurd (by decide) h9) (fun _ => ?_)
  refine lv_iconst (v := 0) hx hb dX3_grade_9 (by decide) ?_
  exact m_ret hx hb hr hlocks hK hW hS ⟨rfl, rfl⟩ dX3_grade_10
set_option maxHeartbeats 4000000 in
set_option maxRecDepth 100000 in
theorem kX3_grade_badg (l : Launch) {D : va_G} {cI cO cL cJ : ClassId} {ao : Nat} {q : Nat → Nat} (hI : mI ao q) (M : MS) (o n j kc : Nat) (p2 : Int32) (ho : o < n) (hn : n ≤ 30) (hM1 : M 1 0 = nI n) (hj : j < kc) (hkc : kc ≤ 8) (hM4 : M 4 o = nI kc) (h2 : ¬ inR p2 0 3) : Met l yX3_grade wsX3_grade ({ frames := 2, cells := 0, slots := 0, locals := 44 } : Room) (mP D cI cO cL cJ ao q M [.int (nI o), .int (nI j), .int p2]) (mQ D cI cO cL cJ ao q (fun (r : Int32) (M9 : MS) => r = 0 ∧ M9 = th2 M 2)) 0 0 (mA ao q) := by
  refine m_body (cc := cX3_grade) (maxL := 9) (ret := some .int) (by decide) rfl [.int (nI o), .int (nI j), .int p2] (Nat.le_of_ble_eq_true rfl) ?_
  intro p e s m args below meth c hx hb hr hts hown hml hlocks hW hK ls hl
  have hown : s.vm.findClass RX3 = some m.cls := hown
  have hl : lv_has ls 9 [(0, .ref ao), (1, .int (nI o)), (2, .int (nI j)), (3, .int p2)] := hl
  have hin : ∀ w ∈ u_ws RX3 TX3 17, w ∈ wsX3_grade := (fun w h => List.mem_cons_of_mem _ (List.mem_append_right _ (h)))
  have hS : va_S (mA ao q) s.heap s.heap [] := va_S.rf
  refine lv_aload_n hx hb dX3_grade_0 rfl (lv_at hl 0 rfl) ?_
  refine lv_iload_n hx hb dX3_grade_1 rfl (lv_at hl 1 rfl) ?_
  refine lv_iload_n hx hb dX3_grade_2 rfl (lv_at hl 2 rfl) ?_
  refine m_call 2 hx hb hts hown hml (kX3_isLine_ok l hI M o n j kc ho hn hM1 hj hkc hM4) rfl gX3_grade_X3_isLine rfl rfl rfl (by decide +kernel) ⟨Nat.le_of_ble_eq_true rfl, Nat.le_of_ble_eq_true rfl⟩ hl.1 hW hK hS (fun _ h => h) rfl (Nat.le_of_ble_eq_true rfl) dX3_grade_3 ⟨Nat.zero_le _, Nat.zero_le _⟩ (fun r M9 H locs hp hW _ _ hS => ?_)
  obtain ⟨rfl, rfl⟩ := hp
  refine lv_if_ne (tgt := 11) hx hb dX3_grade_6 (by decide) (fun _ => ?_) (fun h9 => absurd h9 (by decide))
  refine lv_iload_n hx hb dX3_grade_11 rfl (lv_at hl 3 rfl) ?_
  refine lv_iconst (v := 0) hx hb dX3_grade_12 (by decide) ?_
  refine lv_iconst (v := 3) hx hb dX3_grade_13 (by decide) ?_
  refine s_call0 3 hx hb hts hown hml (kX3_in_f l p2 0 3 h2) rfl gX3_grade_X3_in rfl rfl rfl (by decide +kernel) ⟨Nat.le_of_ble_eq_true rfl, Nat.le_of_ble_eq_true rfl⟩ hl.1 rfl (Nat.le_of_ble_eq_true rfl) dX3_grade_14 ⟨Nat.zero_le _, Nat.zero_le _⟩ (fun r hp => ?_)
  subst hp
  refine lv_if_ne (tgt := 26) hx hb dX3_grade_17 (by decide) (fun h9 => absurd (by decide) h9) (fun _ => ?_)
  refine lv_aload_n hx hb dX3_grade_20 rfl (lv_at hl 0 rfl) ?_
  refine lv_iconst (v := 2) hx hb dX3_grade_21 (by decide) ?_
  refine m_call 1 hx hb hts hown hml (kX3_fails l hI (mu M 16 0 0) 2) rfl gX3_grade_X3_fails rfl rfl rfl (by decide +kernel) ⟨Nat.le_of_ble_eq_true rfl, Nat.le_of_ble_eq_true rfl⟩ hl.1 hW hK hS (fun _ h => h) rfl (Nat.le_of_ble_eq_true rfl) dX3_grade_22 ⟨Nat.zero_le _, Nat.zero_le _⟩ (fun r M9 H locs hp hW _ _ hS => ?_)
  obtain ⟨rfl, rfl⟩ := hp
  exact m_ret hx hb hr hlocks hK hW hS ⟨rfl, rfl⟩ dX3_grade_25
set_option maxHeartbeats 4000000 in
set_option maxRecDepth 100000 in
theorem kX3_grade_ok (l : Launch) {D : va_G} {cI cO cL cJ : ClassId} {ao : Nat} {q : Nat → Nat} (hI : mI ao q) (M : MS) (o n j kc g : Nat) (ho : o < n) (hn : n ≤ 30) (hM1 : M 1 0 = nI n) (hj : j < kc) (hkc : kc ≤ 8) (hM4 : M 4 o = nI kc) (hg : g ≤ 3) : Met l yX3_grade wsX3_grade ({ frames := 2, cells := 0, slots := 0, locals := 44 } : Room) (mP D cI cO cL cJ ao q M [.int (nI o), .int (nI j), .int (nI g)]) (mQ D cI cO cL cJ ao q (fun (r : Int32) (M9 : MS) => (r, M9) = mGrade M o kc j g)) 0 0 (mA ao q) := by
  refine m_body (cc := cX3_grade) (maxL := 9) (ret := some .int) (by decide) rfl [.int (nI o), .int (nI j), .int (nI g)] (Nat.le_of_ble_eq_true rfl) ?_
  intro p e s m args below meth c hx hb hr hts hown hml hlocks hW hK ls hl
  have hown : s.vm.findClass RX3 = some m.cls := hown
  have hl : lv_has ls 9 [(0, .ref ao), (1, .int (nI o)), (2, .int (nI j)), (3, .int (nI g))] := hl
  have hin : ∀ w ∈ u_ws RX3 TX3 17, w ∈ wsX3_grade := (fun w h => List.mem_cons_of_mem _ (List.mem_append_right _ (h)))
  have hS : va_S (mA ao q) s.heap s.heap [] := va_S.rf
  have tail : ∀ (M3 : MS) (H : Heap) (locs : List Loc) (ls : Array Slot), M3 4 o = nI kc → mGrade M o kc j g = gTail M3 o kc → mW D cI ao q M3 H → va_S (mA ao q) s.heap H locs → lv_has ls 9 [(4, .int (nI (8 * o + j))), (0, .ref ao), (1, .int (nI o)), (2, .int (nI j)), (3, .int (nI g))] → W p l e ({ frames := 2, cells := 0, slots := 0, locals := 44 } : Room) s m args below meth c H locs 0 0 (MQ below (mQ D cI cO cL cJ ao q (fun (r : Int32) (M9 : MS) => (r, M9) = mGrade M o kc j g)) args s 0 0 (mA ao q)) (F0 m 154 ls []) := by
    intro M3 H locs ls hM4 hsp hW hS hl
    refine lv_aload_n hx hb dX3_grade_154 rfl (lv_at hl 1 rfl) ?_
    refine lv_iload_n hx hb dX3_grade_155 rfl (lv_at hl 2 rfl) ?_
    refine m_call0 1 hx hb hts hown hml (kX3_takenOf l M3 o n ho hn) rfl gX3_grade_X3_takenOf rfl rfl rfl (by decide +kernel) ⟨Nat.le_of_ble_eq_true rfl, Nat.le_of_ble_eq_true rfl⟩ hl.1 hW hK rfl (Nat.le_of_ble_eq_true rfl) dX3_grade_156 ⟨Nat.zero_le _, Nat.zero_le _⟩ (fun r hp => ?_)
    subst hp
    refine lv_aload_n hx hb dX3_grade_159 rfl (lv_at hl 1 rfl) ?_
    refine lv_iload_n hx hb dX3_grade_160 rfl (lv_at hl 2 rfl) ?_
    refine m_call0 1 hx hb hts hown hml (kX3_owes l M3 o n kc ho hn hkc hM4) rfl gX3_grade_X3_owes rfl rfl rfl (by decide +kernel) ⟨Nat.le_of_ble_eq_true rfl, Nat.le_of_ble_eq_true rfl⟩ hl.1 hW hK rfl (Nat.le_of_ble_eq_true rfl) dX3_grade_161 ⟨Nat.zero_le _, Nat.zero_le _⟩ (fun r hp => ?_)
    subst hp
    refine lv_isub hx hb dX3_grade_164 ?_
    refine lv_istore (lv' := [(5, .int ((takenM M3 o) - (owesM M3 o kc))), (4, .int (nI (8 * o + j))), (0, .ref ao), (1, .int (nI o)), (2, .int (nI j)), (3, .int (nI g))]) hx hb dX3_grade_165 hl (by decide) rfl (fun ls hl => ?_)
    refine lv_iload hx hb dX3_grade_167 (lv_at hl 0 rfl) ?_
    refine mg1 (c0 := takenM M3 o - owesM M3 o kc ≤ 0) (a := 0) (b := (takenM M3 o - owesM M3 o kc)) (J := 178) (rest := []) (fun kj => ?_) ?_
    · skip
      refine lv_if_le (tgt := 177) hx hb dX3_grade_169 (by decide) (fun c169 => ?_) (fun c169 => ?_)
      · skip
        refine lv_iconst (v := 0) hx hb dX3_grade_177 (by decide) ?_
        rw [if_pos c169] at kj; exact kj
      · skip
        refine lv_iload hx hb dX3_grade_172 (lv_at hl 0 rfl) ?_
        refine lv_goto (tgt := 178) hx hb dX3_grade_174 (by decide) ?_
        rw [if_neg c169] at kj; exact kj
    · skip
      refine lv_topi (fun bk hbk => ?_)
      refine lv_istore (lv' := [(6, .int bk), (5, .int ((takenM M3 o) - (owesM M3 o kc))), (4, .int (nI (8 * o + j))), (0, .ref ao), (1, .int (nI o)), (2, .int (nI j)), (3, .int (nI g))]) hx hb dX3_grade_178 hl (by decide) rfl (fun ls hl => ?_)
      refine lv_iload hx hb dX3_grade_180 (lv_at hl 0 rfl) ?_
      refine lv_istore (lv' := [(5, .int bk), (6, .int bk), (4, .int (nI (8 * o + j))), (0, .ref ao), (1, .int (nI o)), (2, .int (nI j)), (3, .int (nI g))]) hx hb dX3_grade_182 hl (by decide) rfl (fun ls hl => ?_)
      refine lv_iconst (v := 0) hx hb dX3_grade_184 (by decide) ?_
      refine lv_istore (lv' := [(7, .int 0), (5, .int bk), (6, .int bk), (4, .int (nI (8 * o + j))), (0, .ref ao), (1, .int (nI o)), (2, .int (nI j)), (3, .int (nI g))]) hx hb dX3_grade_185 hl (by decide) rfl (fun ls hl => ?_)
      refine lv_iload hx hb dX3_grade_187 (lv_at hl 0 rfl) ?_
      refine lv_iconst (v := 3) hx hb dX3_grade_189 (by decide) ?_
      refine lv_icmp_ge (tgt := 240) hx hb dX3_grade_190 (by decide) (fun h9 => absurd h9 (by decide)) (fun _ => ?_)
      refine lv_iload hx hb dX3_grade_193 (lv_at hl 1 rfl) ?_
      refine lv_aload_n hx hb dX3_grade_195 rfl (lv_at hl 4 rfl) ?_
      refine m_get (v := .ref (q 9)) hx hb hts hin hown hK hW 9 (by decide) (hts (.fieldLink RX3 31 "ReturnsDeskModel" "taken" "[I") (List.mem_of_getElem? (i := 5) rfl)) (fun _ h9 => h9) rfl dX3_grade_196 ?_
      refine lv_iconst (v := 3) hx hb dX3_grade_199 (by decide) ?_
      refine lv_iload_n hx hb dX3_grade_200 rfl (lv_at hl 5 rfl) ?_
      refine lv_imul hx hb dX3_grade_201 ?_
      refine cv (y := nI (3 * o)) (nI_mulx (a := 3) (b := o) rfl rfl) ?_
      refine lv_iload hx hb dX3_grade_202 (lv_at hl 0 rfl) ?_
      refine lv_iadd hx hb dX3_grade_204 ?_
      refine cv (y := nI (3 * o)) (nI_addx (a := 3 * o) (b := 0) rfl rfl) ?_
      refine m_ald (v := M3 9 (3 * o)) hx hb hK hW 9 (3 * o) (by decide) rfl (show 3 * o < 90 by omega) rfl dX3_grade_205 ?_
      refine s_call0 2 hx hb hts hown hml (kX3_least l bk (M3 9 (3 * o))) rfl gX3_grade_X3_least rfl rfl rfl (by decide +kernel) ⟨Nat.le_of_ble_eq_true rfl, Nat.le_of_ble_eq_true rfl⟩ hl.1 rfl (Nat.le_of_ble_eq_true rfl) dX3_grade_206 ⟨Nat.zero_le _, Nat.zero_le _⟩ (fun r hp => ?_)
      subst hp
      refine lv_istore (lv' := [(8, .int (leastI bk (M3 9 (3 * o)))), (7, .int 0), (5, .int bk), (6, .int bk), (4, .int (nI (8 * o + j))), (0, .ref ao), (1, .int (nI o)), (2, .int (nI j)), (3, .int (nI g))]) hx hb dX3_grade_209 hl (by decide) rfl (fun ls hl => ?_)
      refine lv_aload_n hx hb dX3_grade_211 rfl (lv_at hl 5 rfl) ?_
      refine m_get (v := .ref (q 9)) hx hb hts hin hown hK hW 9 (by decide) (hts (.fieldLink RX3 31 "ReturnsDeskModel" "taken" "[I") (List.mem_of_getElem? (i := 5) rfl)) (fun _ h9 => h9) rfl dX3_grade_212 ?_
      refine lv_iconst (v := 3) hx hb dX3_grade_215 (by decide) ?_
      refine lv_iload_n hx hb dX3_grade_216 rfl (lv_at hl 6 rfl) ?_
      refine lv_imul hx hb dX3_grade_217 ?_
      refine cv (y := nI (3 * o)) (nI_mulx (a := 3) (b := o) rfl rfl) ?_
      refine lv_iload hx hb dX3_grade_218 (lv_at hl 1 rfl) ?_
      refine lv_iadd hx hb dX3_grade_220 ?_
      refine cv (y := nI (3 * o)) (nI_addx (a := 3 * o) (b := 0) rfl rfl) ?_
      refine lv_dup2_11 hx hb dX3_grade_221 rfl rfl ?_
      refine m_ald (v := M3 9 (3 * o)) hx hb hK hW 9 (3 * o) (by decide) rfl (show 3 * o < 90 by omega) rfl dX3_grade_222 ?_
      refine lv_iload hx hb dX3_grade_223 (lv_at hl 0 rfl) ?_
      refine lv_isub hx hb dX3_grade_225 ?_
      refine m_ast hx hb hK hI hW hS 9 (3 * o) (by decide) rfl (show 3 * o < 90 by omega) dX3_grade_226 (fun H locs hW hS => ?_)
      refine lv_iload hx hb dX3_grade_227 (lv_at hl 2 rfl) ?_
      refine lv_iload hx hb dX3_grade_229 (lv_at hl 0 rfl) ?_
      refine lv_isub hx hb dX3_grade_231 ?_
      refine lv_istore (lv' := [(5, .int (bk - (leastI bk (M3 9 (3 * o))))), (8, .int (leastI bk (M3 9 (3 * o)))), (7, .int 0), (6, .int bk), (4, .int (nI (8 * o + j))), (0, .ref ao), (1, .int (nI o)), (2, .int (nI j)), (3, .int (nI g))]) hx hb dX3_grade_232 hl (by decide) rfl (fun ls hl => ?_)
      refine lv_iinc (v := 1) (lv' := [(7, .int 1), (5, .int (bk - (leastI bk (M3 9 (3 * o))))), (8, .int (leastI bk (M3 9 (3 * o)))), (6, .int bk), (4, .int (nI (8 * o + j))), (0, .ref ao), (1, .int (nI o)), (2, .int (nI j)), (3, .int (nI g))]) hx hb dX3_grade_234 hl (k := 2) rfl (by decide) (by decide) rfl (fun ls hl => ?_)
      refine lv_goto (tgt := 187) hx hb dX3_grade_237 (by decide) ?_
      refine lv_iload hx hb dX3_grade_187 (lv_at hl 0 rfl) ?_
      refine lv_iconst (v := 3) hx hb dX3_grade_189 (by decide) ?_
      refine lv_icmp_ge (tgt := 240) hx hb dX3_grade_190 (by decide) (fun h9 => absurd h9 (by decide)) (fun _ => ?_)
      refine lv_iload hx hb dX3_grade_193 (lv_at hl 1 rfl) ?_
      refine lv_aload_n hx hb dX3_grade_195 rfl (lv_at hl 5 rfl) ?_
      refine m_get (v := .ref (q 9)) hx hb hts hin hown hK hW 9 (by decide) (hts (.fieldLink RX3 31 "ReturnsDeskModel" "taken" "[I") (List.mem_of_getElem? (i := 5) rfl)) (fun _ h9 => h9) rfl dX3_grade_196 ?_
      refine lv_iconst (v := 3) hx hb dX3_grade_199 (by decide) ?_
      refine lv_iload_n hx hb dX3_grade_200 rfl (lv_at hl 6 rfl) ?_
      refine lv_imul hx hb dX3_grade_201 ?_
      refine cv (y := nI (3 * o)) (nI_mulx (a := 3) (b := o) rfl rfl) ?_
      refine lv_iload hx hb dX3_grade_202 (lv_at hl 0 rfl) ?_
      refine lv_iadd hx hb dX3_grade_204 ?_
      refine cv (y := nI (3 * o + 1)) (nI_addx (a := 3 * o) (b := 1) rfl rfl) ?_
      refine m_ald (v := M3 9 (3 * o + 1)) hx hb hK hW 9 (3 * o + 1) (by decide) rfl (show 3 * o + 1 < 90 by omega) (mu_i _ _ _ _ (by omega)) dX3_grade_205 ?_
      refine s_call0 2 hx hb hts hown hml (kX3_least l (bk - (leastI bk (M3 9 (3 * o)))) (M3 9 (3 * o + 1))) rfl gX3_grade_X3_least rfl rfl rfl (by decide +kernel) ⟨Nat.le_of_ble_eq_true rfl, Nat.le_of_ble_eq_true rfl⟩ hl.1 rfl (Nat.le_of_ble_eq_true rfl) dX3_grade_206 ⟨Nat.zero_le _, Nat.zero_le _⟩ (fun r hp => ?_)
      subst hp
      refine lv_istore (lv' := [(8, .int (leastI (bk - (leastI bk (M3 9 (3 * o)))) (M3 9 (3 * o + 1)))), (7, .int 1), (5, .int (bk - (leastI bk (M3 9 (3 * o))))), (6, .int bk), (4, .int (nI (8 * o + j))), (0, .ref ao), (1, .int (nI o)), (2, .int (nI j)), (3, .int (nI g))]) hx hb dX3_grade_209 hl (by decide) rfl (fun ls hl => ?_)
      refine lv_aload_n hx hb dX3_grade_211 rfl (lv_at hl 5 rfl) ?_
      refine m_get (v := .ref (q 9)) hx hb hts hin hown hK hW 9 (by decide) (hts (.fieldLink RX3 31 "ReturnsDeskModel" "taken" "[I") (List.mem_of_getElem? (i := 5) rfl)) (fun _ h9 => h9) rfl dX3_grade_212 ?_
      refine lv_iconst (v := 3) hx hb dX3_grade_215 (by decide) ?_
      refine lv_iload_n hx hb dX3_grade_216 rfl (lv_at hl 6 rfl) ?_
      refine lv_imul hx hb dX3_grade_217 ?_
      refine cv (y := nI (3 * o)) (nI_mulx (a := 3) (b := o) rfl rfl) ?_
      refine lv_iload hx hb dX3_grade_218 (lv_at hl 1 rfl) ?_
      refine lv_iadd hx hb dX3_grade_220 ?_
      refine cv (y := nI (3 * o + 1)) (nI_addx (a := 3 * o) (b := 1) rfl rfl) ?_
      refine lv_dup2_11 hx hb dX3_grade_221 rfl rfl ?_
      refine m_ald (v := M3 9 (3 * o + 1)) hx hb hK hW 9 (3 * o + 1) (by decide) rfl (show 3 * o + 1 < 90 by omega) (mu_i _ _ _ _ (by omega)) dX3_grade_222 ?_
      refine lv_iload hx hb dX3_grade_223 (lv_at hl 0 rfl) ?_
      refine lv_isub hx hb dX3_grade_225 ?_
      refine m_ast hx hb hK hI hW hS 9 (3 * o + 1) (by decide) rfl (show 3 * o + 1 < 90 by omega) dX3_grade_226 (fun H locs hW hS => ?_)
      refine lv_iload hx hb dX3_grade_227 (lv_at hl 2 rfl) ?_
      refine lv_iload hx hb dX3_grade_229 (lv_at hl 0 rfl) ?_
      refine lv_isub hx hb dX3_grade_231 ?_
      refine lv_istore (lv' := [(5, .int ((bk - (leastI bk (M3 9 (3 * o)))) - (leastI (bk - (leastI bk (M3 9 (3 * o)))) (M3 9 (3 * o + 1))))), (8, .int (leastI (bk - (leastI bk (M3 9 (3 * o)))) (M3 9 (3 * o + 1)))), (7, .int 1), (6, .int bk), (4, .int (nI (8 * o + j))), (0, .ref ao), (1, .int (nI o)), (2, .int (nI j)), (3, .int (nI g))]) hx hb dX3_grade_232 hl (by decide) rfl (fun ls hl => ?_)
      refine lv_iinc (v := 2) (lv' := [(7, .int 2), (5, .int ((bk - (leastI bk (M3 9 (3 * o)))) - (leastI (bk - (leastI bk (M3 9 (3 * o)))) (M3 9 (3 * o + 1))))), (8, .int (leastI (bk - (leastI bk (M3 9 (3 * o)))) (M3 9 (3 * o + 1)))), (6, .int bk), (4, .int (nI (8 * o + j))), (0, .ref ao), (1, .int (nI o)), (2, .int (nI j)), (3, .int (nI g))]) hx hb dX3_grade_234 hl (k := 2) rfl (by decide) (by decide) rfl (fun ls hl => ?_)
      refine lv_goto (tgt := 187) hx hb dX3_grade_237 (by decide) ?_
      refine lv_iload hx hb dX3_grade_187 (lv_at hl 0 rfl) ?_
      refine lv_iconst (v := 3) hx hb dX3_grade_189 (by decide) ?_
      refine lv_icmp_ge (tgt := 240) hx hb dX3_grade_190 (by decide) (fun h9 => absurd h9 (by decide)) (fun _ => ?_)
      refine lv_iload hx hb dX3_grade_193 (lv_at hl 1 rfl) ?_
      refine lv_aload_n hx hb dX3_grade_195 rfl (lv_at hl 5 rfl) ?_
      refine m_get (v := .ref (q 9)) hx hb hts hin hown hK hW 9 (by decide) (hts (.fieldLink RX3 31 "ReturnsDeskModel" "taken" "[I") (List.mem_of_getElem? (i := 5) rfl)) (fun _ h9 => h9) rfl dX3_grade_196 ?_
      refine lv_iconst (v := 3) hx hb dX3_grade_199 (by decide) ?_
      refine lv_iload_n hx hb dX3_grade_200 rfl (lv_at hl 6 rfl) ?_
      refine lv_imul hx hb dX3_grade_201 ?_
      refine cv (y := nI (3 * o)) (nI_mulx (a := 3) (b := o) rfl rfl) ?_
      refine lv_iload hx hb dX3_grade_202 (lv_at hl 0 rfl) ?_
      refine lv_iadd hx hb dX3_grade_204 ?_
      refine cv (y := nI (3 * o + 2)) (nI_addx (a := 3 * o) (b := 2) rfl rfl) ?_
      refine m_ald (v := M3 9 (3 * o + 2)) hx hb hK hW 9 (3 * o + 2) (by decide) rfl (show 3 * o + 2 < 90 by omega) ((mu_i _ _ _ _ (by omega)).trans (mu_i _ _ _ _ (by omega))) dX3_grade_205 ?_
      refine s_call0 2 hx hb hts hown hml (kX3_least l ((bk - (leastI bk (M3 9 (3 * o)))) - (leastI (bk - (leastI bk (M3 9 (3 * o)))) (M3 9 (3 * o + 1)))) (M3 9 (3 * o + 2))) rfl gX3_grade_X3_least rfl rfl rfl (by decide +kernel) ⟨Nat.le_of_ble_eq_true rfl, Nat.le_of_ble_eq_true rfl⟩ hl.1 rfl (Nat.le_of_ble_eq_true rfl) dX3_grade_206 ⟨Nat.zero_le _, Nat.zero_le _⟩ (fun r hp => ?_)
      subst hp
      refine lv_istore (lv' := [(8, .int (leastI ((bk - (leastI bk (M3 9 (3 * o)))) - (leastI (bk - (leastI bk (M3 9 (3 * o)))) (M3 9 (3 * o + 1)))) (M3 9 (3 * o + 2)))), (7, .int 2), (5, .int ((bk - (leastI bk (M3 9 (3 * o)))) - (leastI (bk - (leastI bk (M3 9 (3 * o)))) (M3 9 (3 * o + 1))))), (6, .int bk), (4, .int (nI (8 * o + j))), (0, .ref ao), (1, .int (nI o)), (2, .int (nI j)), (3, .int (nI g))]) hx hb dX3_grade_209 hl (by decide) rfl (fun ls hl => ?_)
      refine lv_aload_n hx hb dX3_grade_211 rfl (lv_at hl 5 rfl) ?_
      refine m_get (v := .ref (q 9)) hx hb hts hin hown hK hW 9 (by decide) (hts (.fieldLink RX3 31 "ReturnsDeskModel" "taken" "[I") (List.mem_of_getElem? (i := 5) rfl)) (fun _ h9 => h9) rfl dX3_grade_212 ?_
      refine lv_iconst (v := 3) hx hb dX3_grade_215 (by decide) ?_
      refine lv_iload_n hx hb dX3_grade_216 rfl (lv_at hl 6 rfl) ?_
      refine lv_imul hx hb dX3_grade_217 ?_
      refine cv (y := nI (3 * o)) (nI_mulx (a := 3) (b := o) rfl rfl) ?_
      refine lv_iload hx hb dX3_grade_218 (lv_at hl 1 rfl) ?_
      refine lv_iadd hx hb dX3_grade_220 ?_
      refine cv (y := nI (3 * o + 2)) (nI_addx (a := 3 * o) (b := 2) rfl rfl) ?_
      refine lv_dup2_11 hx hb dX3_grade_221 rfl rfl ?_
      refine m_ald (v := M3 9 (3 * o + 2)) hx hb hK hW 9 (3 * o + 2) (by decide) rfl (show 3 * o + 2 < 90 by omega) ((mu_i _ _ _ _ (by omega)).trans (mu_i _ _ _ _ (by omega))) dX3_grade_222 ?_
      refine lv_iload hx hb dX3_grade_223 (lv_at hl 0 rfl) ?_
      refine lv_isub hx hb dX3_grade_225 ?_
      refine m_ast hx hb hK hI hW hS 9 (3 * o + 2) (by decide) rfl (show 3 * o + 2 < 90 by omega) dX3_grade_226 (fun H locs hW hS => ?_)
      refine lv_iload hx hb dX3_grade_227 (lv_at hl 2 rfl) ?_
      refine lv_iload hx hb dX3_grade_229 (lv_at hl 0 rfl) ?_
      refine lv_isub hx hb dX3_grade_231 ?_
      refine lv_istore (lv' := [(5, .int (((bk - (leastI bk (M3 9 (3 * o)))) - (leastI (bk - (leastI bk (M3 9 (3 * o)))) (M3 9 (3 * o + 1)))) - (leastI ((bk - (leastI bk (M3 9 (3 * o)))) - (leastI (bk - (leastI bk (M3 9 (3 * o)))) (M3 9 (3 * o + 1)))) (M3 9 (3 * o + 2))))), (8, .int (leastI ((bk - (leastI bk (M3 9 (3 * o)))) - (leastI (bk - (leastI bk (M3 9 (3 * o)))) (M3 9 (3 * o + 1)))) (M3 9 (3 * o + 2)))), (7, .int 2), (6, .int bk), (4, .int (nI (8 * o + j))), (0, .ref ao), (1, .int (nI o)), (2, .int (nI j)), (3, .int (nI g))]) hx hb dX3_grade_232 hl (by decide) rfl (fun ls hl => ?_)
      refine lv_iinc (v := 3) (lv' := [(7, .int 3), (5, .int (((bk - (leastI bk (M3 9 (3 * o)))) - (leastI (bk - (leastI bk (M3 9 (3 * o)))) (M3 9 (3 * o + 1)))) - (leastI ((bk - (leastI bk (M3 9 (3 * o)))) - (leastI (bk - (leastI bk (M3 9 (3 * o)))) (M3 9 (3 * o + 1)))) (M3 9 (3 * o + 2))))), (8, .int (leastI ((bk - (leastI bk (M3 9 (3 * o)))) - (leastI (bk - (leastI bk (M3 9 (3 * o)))) (M3 9 (3 * o + 1)))) (M3 9 (3 * o + 2)))), (6, .int bk), (4, .int (nI (8 * o + j))), (0, .ref ao), (1, .int (nI o)), (2, .int (nI j)), (3, .int (nI g))]) hx hb dX3_grade_234 hl (k := 2) rfl (by decide) (by decide) rfl (fun ls hl => ?_)
      refine lv_goto (tgt := 187) hx hb dX3_grade_237 (by decide) ?_
      refine lv_iload hx hb dX3_grade_187 (lv_at hl 0 rfl) ?_
      refine lv_iconst (v := 3) hx hb dX3_grade_189 (by decide) ?_
      refine lv_icmp_ge (tgt := 240) hx hb dX3_grade_190 (by decide) (fun _ => ?_) (fun h9 => absurd (by decide) h9)
      refine lv_aload_n hx hb dX3_grade_240 rfl (lv_at hl 5 rfl) ?_
      refine m_get (v := .ref (q 8)) hx hb hts hin hown hK hW 8 (by decide) (hts (.fieldLink RX3 28 "ReturnsDeskModel" "refunds" "[I") (List.mem_of_getElem? (i := 6) rfl)) (fun _ h9 => h9) rfl dX3_grade_241 ?_
      refine lv_iload_n hx hb dX3_grade_244 rfl (lv_at hl 6 rfl) ?_
      refine lv_dup2_11 hx hb dX3_grade_245 rfl rfl ?_
      refine m_ald (v := M3 8 o) hx hb hK hW 8 o (by decide) rfl (show o < 30 by omega) ((mu_f _ _ _ _ (by decide)).trans ((mu_f _ _ _ _ (by decide)).trans (mu_f _ _ _ _ (by decide)))) dX3_grade_246 ?_
      refine lv_iload hx hb dX3_grade_247 (lv_at hl 3 rfl) ?_
      refine lv_iadd hx hb dX3_grade_249 ?_
      refine m_ast hx hb hK hI hW hS 8 o (by decide) rfl (show o < 30 by omega) dX3_grade_250 (fun H locs hW hS => ?_)
      refine lv_iload hx hb dX3_grade_251 (lv_at hl 3 rfl) ?_
      exact m_ret hx hb hr hlocks hK hW hS (by show _ = _; rw [hsp]; unfold gTail; rw [← hbk]; rfl) dX3_grade_253
  refine lv_aload_n hx hb dX3_grade_0 rfl (lv_at hl 0 rfl) ?_
  refine lv_iload_n hx hb dX3_grade_1 rfl (lv_at hl 1 rfl) ?_
  refine lv_iload_n hx hb dX3_grade_2 rfl (lv_at hl 2 rfl) ?_
  refine m_call 2 hx hb hts hown hml (kX3_isLine_ok l hI M o n j kc ho hn hM1 hj hkc hM4) rfl gX3_grade_X3_isLine rfl rfl rfl (by decide +kernel) ⟨Nat.le_of_ble_eq_true rfl, Nat.le_of_ble_eq_true rfl⟩ hl.1 hW hK hS (fun _ h => h) rfl (Nat.le_of_ble_eq_true rfl) dX3_grade_3 ⟨Nat.zero_le _, Nat.zero_le _⟩ (fun r M9 H locs hp hW _ _ hS => ?_)
  obtain ⟨rfl, rfl⟩ := hp
  refine lv_if_ne (tgt := 11) hx hb dX3_grade_6 (by decide) (fun _ => ?_) (fun h9 => absurd h9 (by decide))
  refine lv_iload_n hx hb dX3_grade_11 rfl (lv_at hl 3 rfl) ?_
  refine lv_iconst (v := 0) hx hb dX3_grade_12 (by decide) ?_
  refine lv_iconst (v := 3) hx hb dX3_grade_13 (by decide) ?_
  refine s_call0 3 hx hb hts hown hml (kX3_in_t l (nI g) 0 3 (in_g hg)) rfl gX3_grade_X3_in rfl rfl rfl (by decide +kernel) ⟨Nat.le_of_ble_eq_true rfl, Nat.le_of_ble_eq_true rfl⟩ hl.1 rfl (Nat.le_of_ble_eq_true rfl) dX3_grade_14 ⟨Nat.zero_le _, Nat.zero_le _⟩ (fun r hp => ?_)
  subst hp
  refine lv_if_ne (tgt := 26) hx hb dX3_grade_17 (by decide) (fun _ => ?_) (fun h9 => absurd h9 (by decide))
  refine lv_bipush (v := 8) hx hb dX3_grade_26 (by decide) ?_
  refine lv_iload_n hx hb dX3_grade_28 rfl (lv_at hl 1 rfl) ?_
  refine lv_imul hx hb dX3_grade_29 ?_
  refine cv (y := nI (8 * o)) (nI_mulx (a := 8) (b := o) rfl rfl) ?_
  refine lv_iload_n hx hb dX3_grade_30 rfl (lv_at hl 2 rfl) ?_
  refine lv_iadd hx hb dX3_grade_31 ?_
  refine cv (y := nI (8 * o + j)) (nI_addx (a := 8 * o) (b := j) rfl rfl) ?_
  refine lv_istore (lv' := [(4, .int (nI (8 * o + j))), (0, .ref ao), (1, .int (nI o)), (2, .int (nI j)), (3, .int (nI g))]) hx hb dX3_grade_32 hl (by decide) rfl (fun ls hl => ?_)
  refine lv_aload_n hx hb dX3_grade_34 rfl (lv_at hl 1 rfl) ?_
  refine m_get (v := .ref (q 12)) hx hb hts hin hown hK hW 12 (by decide) (hts (.fieldLink RX3 40 "ReturnsDeskModel" "states" "[I") (List.mem_of_getElem? (i := 1) rfl)) (fun _ h9 => h9) rfl dX3_grade_35 ?_
  refine lv_iload hx hb dX3_grade_38 (lv_at hl 0 rfl) ?_
  refine m_ald (v := M 12 (8 * o + j)) hx hb hK hW 12 (8 * o + j) (by decide) rfl (show 8 * o + j < 240 by omega) (mu_f _ _ _ _ (by decide)) dX3_grade_40 ?_
  refine lv_iconst (v := 1) hx hb dX3_grade_41 (by decide) ?_
  refine lv_icmp_eq (tgt := 62) hx hb dX3_grade_42 (by decide) (fun c42 => ?_) (fun c42 => ?_)
  · skip
    refine lv_aload_n hx hb dX3_grade_62 rfl (lv_at hl 1 rfl) ?_
    refine m_get (v := .ref (q 12)) hx hb hts hin hown hK hW 12 (by decide) (hts (.fieldLink RX3 40 "ReturnsDeskModel" "states" "[I") (List.mem_of_getElem? (i := 1) rfl)) (fun _ h9 => h9) rfl dX3_grade_63 ?_
    refine lv_iload hx hb dX3_grade_66 (lv_at hl 0 rfl) ?_
    refine lv_aload_n hx hb dX3_grade_68 rfl (lv_at hl 1 rfl) ?_
    refine m_get (v := .ref (q 12)) hx hb hts hin hown hK hW 12 (by decide) (hts (.fieldLink RX3 40 "ReturnsDeskModel" "states" "[I") (List.mem_of_getElem? (i := 1) rfl)) (fun _ h9 => h9) rfl dX3_grade_69 ?_
    refine lv_iload hx hb dX3_grade_72 (lv_at hl 0 rfl) ?_
    refine m_ald (v := M 12 (8 * o + j)) hx hb hK hW 12 (8 * o + j) (by decide) rfl (show 8 * o + j < 240 by omega) (mu_f _ _ _ _ (by decide)) dX3_grade_74 ?_
    refine lv_iconst (v := 1) hx hb dX3_grade_75 (by decide) ?_
    refine lv_icmp_ne (tgt := 83) hx hb dX3_grade_76 (by decide) (fun h9 => absurd c42 h9) (fun _ => ?_)
    refine lv_iconst (v := 3) hx hb dX3_grade_79 (by decide) ?_
    refine lv_goto (tgt := 84) hx hb dX3_grade_80 (by decide) ?_
    refine m_ast hx hb hK hI hW hS 12 (8 * o + j) (by decide) rfl (show 8 * o + j < 240 by omega) dX3_grade_84 (fun H locs hW hS => ?_)
    refine lv_aload_n hx hb dX3_grade_85 rfl (lv_at hl 1 rfl) ?_
    refine m_get (v := .ref (q 6)) hx hb hts hin hown hK hW 6 (by decide) (hts (.fieldLink RX3 22 "ReturnsDeskModel" "fees" "[I") (List.mem_of_getElem? (i := 2) rfl)) (fun _ h9 => h9) rfl dX3_grade_86 ?_
    refine lv_iload_n hx hb dX3_grade_89 rfl (lv_at hl 2 rfl) ?_
    refine lv_dup2_11 hx hb dX3_grade_90 rfl rfl ?_
    refine m_ald (v := M 6 o) hx hb hK hW 6 o (by decide) rfl (show o < 30 by omega) ((mu_f _ _ _ _ (by decide)).trans (mu_f _ _ _ _ (by decide))) dX3_grade_91 ?_
    refine lv_aload_n hx hb dX3_grade_92 rfl (lv_at hl 1 rfl) ?_
    refine lv_iload hx hb dX3_grade_93 (lv_at hl 0 rfl) ?_
    refine lv_iload_n hx hb dX3_grade_95 rfl (lv_at hl 4 rfl) ?_
    refine m_call0 2 hx hb hts hown hml (kX3_fee l (mu (mu M 16 0 0) 12 (8 * o + j) 3) (8 * o + j) (nI g) (by omega)) rfl gX3_grade_X3_fee rfl rfl rfl (by decide +kernel) ⟨Nat.le_of_ble_eq_true rfl, Nat.le_of_ble_eq_true rfl⟩ hl.1 hW hK rfl (Nat.le_of_ble_eq_true rfl) dX3_grade_96 ⟨Nat.zero_le _, Nat.zero_le _⟩ (fun r hp => ?_)
    subst hp
    refine lv_aload_n hx hb dX3_grade_99 rfl (lv_at hl 1 rfl) ?_
    refine m_get (v := .ref (q 13)) hx hb hts hin hown hK hW 13 (by decide) (hts (.fieldLink RX3 43 "ReturnsDeskModel" "reasons" "[I") (List.mem_of_getElem? (i := 3) rfl)) (fun _ h9 => h9) rfl dX3_grade_100 ?_
    refine lv_iload hx hb dX3_grade_103 (lv_at hl 0 rfl) ?_
    refine m_ald (v := M 13 (8 * o + j)) hx hb hK hW 13 (8 * o + j) (by decide) rfl (show 8 * o + j < 240 by omega) ((mu_f _ _ _ _ (by decide)).trans (mu_f _ _ _ _ (by decide))) dX3_grade_105 ?_
    refine mg1 (c0 := M 13 (8 * o + j) = 0) (a := 500) (b := 0) (J := 116) (rest := [.int (feeM (mu (mu M 16 0 0) 12 (8 * o + j) 3) (8 * o + j) (nI g)), .int (M 6 o), .int (nI o), .ref (q 6)]) (fun kj => ?_) ?_
    · skip
      refine lv_if_ne (tgt := 115) hx hb dX3_grade_106 (by decide) (fun c106 => ?_) (fun c106 => ?_)
      · skip
        refine lv_iconst (v := 0) hx hb dX3_grade_115 (by decide) ?_
        rw [if_neg c106] at kj; exact kj
      · skip
        refine lv_sipush (v := 500) hx hb dX3_grade_109 (by decide) ?_
        refine lv_goto (tgt := 116) hx hb dX3_grade_112 (by decide) ?_
        rw [if_pos c106] at kj; exact kj
    · skip
      refine lv_iadd hx hb dX3_grade_116 ?_
      refine lv_iadd hx hb dX3_grade_117 ?_
      refine m_ast hx hb hK hI hW hS 6 o (by decide) rfl (show o < 30 by omega) dX3_grade_118 (fun H locs hW hS => ?_)
      refine lv_iload_n hx hb dX3_grade_119 rfl (lv_at hl 4 rfl) ?_
      refine lv_iconst (v := 3) hx hb dX3_grade_120 (by decide) ?_
      refine lv_icmp_eq (tgt := 154) hx hb dX3_grade_121 (by decide) (fun c121 => ?_) (fun c121 => ?_)
      · skip
        exact tail (mu (mu (mu M 16 0 0) 12 (8 * o + j) 3) 6 o ((M 6 o) + ((feeM (mu (mu M 16 0 0) 12 (8 * o + j) 3) (8 * o + j) (nI g)) + (if M 13 (8 * o + j) = 0 then 500 else 0)))) H locs ls ((((mu_f _ _ _ _ (by decide)).trans ((mu_f _ _ _ _ (by decide)).trans (mu_f _ _ _ _ (by decide))))).trans hM4) (by unfold mGrade gMid; rw [if_pos c42, if_pos c121] <;> rfl) hW hS (lv_sub hl [0, 1, 2, 3, 4] rfl)
      · skip
        have hg9 : g < 3 := nI_lt30 rfl c121 hg (by decide)
        refine lv_aload_n hx hb dX3_grade_124 rfl (lv_at hl 1 rfl) ?_
        refine m_get (v := .ref (q 15)) hx hb hts hin hown hK hW 15 (by decide) (hts (.fieldLink RX3 49 "ReturnsDeskModel" "stocks" "[I") (List.mem_of_getElem? (i := 4) rfl)) (fun _ h9 => h9) rfl dX3_grade_125 ?_
        refine lv_iload_n hx hb dX3_grade_128 rfl (lv_at hl 4 rfl) ?_
        refine lv_iconst (v := 1) hx hb dX3_grade_129 (by decide) ?_
        refine lv_icmp_ne (tgt := 148) hx hb dX3_grade_130 (by decide) (fun c130 => ?_) (fun c130 => ?_)
        · skip
          refine lv_iload_n hx hb dX3_grade_148 rfl (lv_at hl 4 rfl) ?_
          refine lv_dup2_11 hx hb dX3_grade_149 rfl rfl ?_
          refine m_ald (v := M 15 g) hx hb hK hW 15 g (by decide) rfl (show g < 3 by omega) ((mu_f _ _ _ _ (by decide)).trans ((mu_f _ _ _ _ (by decide)).trans (mu_f _ _ _ _ (by decide)))) dX3_grade_150 ?_
          refine lv_iconst (v := 1) hx hb dX3_grade_151 (by decide) ?_
          refine lv_iadd hx hb dX3_grade_152 ?_
          refine m_ast hx hb hK hI hW hS 15 g (by decide) rfl (show g < 3 by omega) dX3_grade_153 (fun H locs hW hS => ?_)
          exact tail (mu (mu (mu (mu M 16 0 0) 12 (8 * o + j) 3) 6 o ((M 6 o) + ((feeM (mu (mu M 16 0 0) 12 (8 * o + j) 3) (8 * o + j) (nI g)) + (if M 13 (8 * o + j) = 0 then 500 else 0)))) 15 g ((M 15 g) + 1)) H locs ls ((((mu_f _ _ _ _ (by decide)).trans ((mu_f _ _ _ _ (by decide)).trans ((mu_f _ _ _ _ (by decide)).trans (mu_f _ _ _ _ (by decide)))))).trans hM4) (by unfold mGrade gMid; rw [if_pos c42, if_neg c121, if_neg c130] <;> rfl) hW hS (lv_sub hl [0, 1, 2, 3, 4] rfl)
        · skip
          refine lv_aload_n hx hb dX3_grade_133 rfl (lv_at hl 1 rfl) ?_
          refine m_get (v := .ref (q 13)) hx hb hts hin hown hK hW 13 (by decide) (hts (.fieldLink RX3 43 "ReturnsDeskModel" "reasons" "[I") (List.mem_of_getElem? (i := 3) rfl)) (fun _ h9 => h9) rfl dX3_grade_134 ?_
          refine lv_iload hx hb dX3_grade_137 (lv_at hl 0 rfl) ?_
          refine m_ald (v := M 13 (8 * o + j)) hx hb hK hW 13 (8 * o + j) (by decide) rfl (show 8 * o + j < 240 by omega) ((mu_f _ _ _ _ (by decide)).trans ((mu_f _ _ _ _ (by decide)).trans (mu_f _ _ _ _ (by decide)))) dX3_grade_139 ?_
          refine lv_iconst (v := 1) hx hb dX3_grade_140 (by decide) ?_
          refine lv_icmp_ne (tgt := 148) hx hb dX3_grade_141 (by decide) (fun c141 => ?_) (fun c141 => ?_)
          · skip
            refine lv_iload_n hx hb dX3_grade_148 rfl (lv_at hl 4 rfl) ?_
            refine lv_dup2_11 hx hb dX3_grade_149 rfl rfl ?_
            refine m_ald (v := M 15 g) hx hb hK hW 15 g (by decide) rfl (show g < 3 by omega) ((mu_f _ _ _ _ (by decide)).trans ((mu_f _ _ _ _ (by decide)).trans (mu_f _ _ _ _ (by decide)))) dX3_grade_150 ?_
            refine lv_iconst (v := 1) hx hb dX3_grade_151 (by decide) ?_
            refine lv_iadd hx hb dX3_grade_152 ?_
            refine m_ast hx hb hK hI hW hS 15 g (by decide) rfl (show g < 3 by omega) dX3_grade_153 (fun H locs hW hS => ?_)
            exact tail (mu (mu (mu (mu M 16 0 0) 12 (8 * o + j) 3) 6 o ((M 6 o) + ((feeM (mu (mu M 16 0 0) 12 (8 * o + j) 3) (8 * o + j) (nI g)) + (if M 13 (8 * o + j) = 0 then 500 else 0)))) 15 g ((M 15 g) + 1)) H locs ls ((((mu_f _ _ _ _ (by decide)).trans ((mu_f _ _ _ _ (by decide)).trans ((mu_f _ _ _ _ (by decide)).trans (mu_f _ _ _ _ (by decide)))))).trans hM4) (by unfold mGrade gMid; rw [if_pos c42, if_neg c121, if_pos c130, if_neg c141] <;> rfl) hW hS (lv_sub hl [0, 1, 2, 3, 4] rfl)
          · skip
            refine lv_iconst (v := 2) hx hb dX3_grade_144 (by decide) ?_
            refine lv_goto (tgt := 149) hx hb dX3_grade_145 (by decide) ?_
            refine lv_dup2_11 hx hb dX3_grade_149 rfl rfl ?_
            refine m_ald (v := M 15 2) hx hb hK hW 15 2 (by decide) rfl (show 2 < 3 by omega) ((mu_f _ _ _ _ (by decide)).trans ((mu_f _ _ _ _ (by decide)).trans (mu_f _ _ _ _ (by decide)))) dX3_grade_150 ?_
            refine lv_iconst (v := 1) hx hb dX3_grade_151 (by decide) ?_
            refine lv_iadd hx hb dX3_grade_152 ?_
            refine m_ast hx hb hK hI hW hS 15 2 (by decide) rfl (show 2 < 3 by omega) dX3_grade_153 (fun H locs hW hS => ?_)
            exact tail (mu (mu (mu (mu M 16 0 0) 12 (8 * o + j) 3) 6 o ((M 6 o) + ((feeM (mu (mu M 16 0 0) 12 (8 * o + j) 3) (8 * o + j) (nI g)) + (if M 13 (8 * o + j) = 0 then 500 else 0)))) 15 2 ((M 15 2) + 1)) H locs ls ((((mu_f _ _ _ _ (by decide)).trans ((mu_f _ _ _ _ (by decide)).trans ((mu_f _ _ _ _ (by decide)).trans (mu_f _ _ _ _ (by decide)))))).trans hM4) (by unfold mGrade gMid; rw [if_pos c42, if_neg c121, if_pos c130, if_pos c141] <;> rfl) hW hS (lv_sub hl [0, 1, 2, 3, 4] rfl)
  · skip
    refine lv_aload_n hx hb dX3_grade_45 rfl (lv_at hl 1 rfl) ?_
    refine m_get (v := .ref (q 12)) hx hb hts hin hown hK hW 12 (by decide) (hts (.fieldLink RX3 40 "ReturnsDeskModel" "states" "[I") (List.mem_of_getElem? (i := 1) rfl)) (fun _ h9 => h9) rfl dX3_grade_46 ?_
    refine lv_iload hx hb dX3_grade_49 (lv_at hl 0 rfl) ?_
    refine m_ald (v := M 12 (8 * o + j)) hx hb hK hW 12 (8 * o + j) (by decide) rfl (show 8 * o + j < 240 by omega) (mu_f _ _ _ _ (by decide)) dX3_grade_51 ?_
    refine lv_iconst (v := 2) hx hb dX3_grade_52 (by decide) ?_
    refine lv_icmp_eq (tgt := 62) hx hb dX3_grade_53 (by decide) (fun c53 => ?_) (fun c53 => ?_)
    · skip
      refine lv_aload_n hx hb dX3_grade_62 rfl (lv_at hl 1 rfl) ?_
      refine m_get (v := .ref (q 12)) hx hb hts hin hown hK hW 12 (by decide) (hts (.fieldLink RX3 40 "ReturnsDeskModel" "states" "[I") (List.mem_of_getElem? (i := 1) rfl)) (fun _ h9 => h9) rfl dX3_grade_63 ?_
      refine lv_iload hx hb dX3_grade_66 (lv_at hl 0 rfl) ?_
      refine lv_aload_n hx hb dX3_grade_68 rfl (lv_at hl 1 rfl) ?_
      refine m_get (v := .ref (q 12)) hx hb hts hin hown hK hW 12 (by decide) (hts (.fieldLink RX3 40 "ReturnsDeskModel" "states" "[I") (List.mem_of_getElem? (i := 1) rfl)) (fun _ h9 => h9) rfl dX3_grade_69 ?_
      refine lv_iload hx hb dX3_grade_72 (lv_at hl 0 rfl) ?_
      refine m_ald (v := M 12 (8 * o + j)) hx hb hK hW 12 (8 * o + j) (by decide) rfl (show 8 * o + j < 240 by omega) (mu_f _ _ _ _ (by decide)) dX3_grade_74 ?_
      refine lv_iconst (v := 1) hx hb dX3_grade_75 (by decide) ?_
      refine lv_icmp_ne (tgt := 83) hx hb dX3_grade_76 (by decide) (fun _ => ?_) (fun h9 => absurd h9 c42)
      refine lv_iconst (v := 0) hx hb dX3_grade_83 (by decide) ?_
      refine m_ast hx hb hK hI hW hS 12 (8 * o + j) (by decide) rfl (show 8 * o + j < 240 by omega) dX3_grade_84 (fun H locs hW hS => ?_)
      refine lv_aload_n hx hb dX3_grade_85 rfl (lv_at hl 1 rfl) ?_
      refine m_get (v := .ref (q 6)) hx hb hts hin hown hK hW 6 (by decide) (hts (.fieldLink RX3 22 "ReturnsDeskModel" "fees" "[I") (List.mem_of_getElem? (i := 2) rfl)) (fun _ h9 => h9) rfl dX3_grade_86 ?_
      refine lv_iload_n hx hb dX3_grade_89 rfl (lv_at hl 2 rfl) ?_
      refine lv_dup2_11 hx hb dX3_grade_90 rfl rfl ?_
      refine m_ald (v := M 6 o) hx hb hK hW 6 o (by decide) rfl (show o < 30 by omega) ((mu_f _ _ _ _ (by decide)).trans (mu_f _ _ _ _ (by decide))) dX3_grade_91 ?_
      refine lv_aload_n hx hb dX3_grade_92 rfl (lv_at hl 1 rfl) ?_
      refine lv_iload hx hb dX3_grade_93 (lv_at hl 0 rfl) ?_
      refine lv_iload_n hx hb dX3_grade_95 rfl (lv_at hl 4 rfl) ?_
      refine m_call0 2 hx hb hts hown hml (kX3_fee l (mu (mu M 16 0 0) 12 (8 * o + j) 0) (8 * o + j) (nI g) (by omega)) rfl gX3_grade_X3_fee rfl rfl rfl (by decide +kernel) ⟨Nat.le_of_ble_eq_true rfl, Nat.le_of_ble_eq_true rfl⟩ hl.1 hW hK rfl (Nat.le_of_ble_eq_true rfl) dX3_grade_96 ⟨Nat.zero_le _, Nat.zero_le _⟩ (fun r hp => ?_)
      subst hp
      refine lv_aload_n hx hb dX3_grade_99 rfl (lv_at hl 1 rfl) ?_
      refine m_get (v := .ref (q 13)) hx hb hts hin hown hK hW 13 (by decide) (hts (.fieldLink RX3 43 "ReturnsDeskModel" "reasons" "[I") (List.mem_of_getElem? (i := 3) rfl)) (fun _ h9 => h9) rfl dX3_grade_100 ?_
      refine lv_iload hx hb dX3_grade_103 (lv_at hl 0 rfl) ?_
      refine m_ald (v := M 13 (8 * o + j)) hx hb hK hW 13 (8 * o + j) (by decide) rfl (show 8 * o + j < 240 by omega) ((mu_f _ _ _ _ (by decide)).trans (mu_f _ _ _ _ (by decide))) dX3_grade_105 ?_
      refine mg1 (c0 := M 13 (8 * o + j) = 0) (a := 500) (b := 0) (J := 116) (rest := [.int (feeM (mu (mu M 16 0 0) 12 (8 * o + j) 0) (8 * o + j) (nI g)), .int (M 6 o), .int (nI o), .ref (q 6)]) (fun kj => ?_) ?_
      · skip
        refine lv_if_ne (tgt := 115) hx hb dX3_grade_106 (by decide) (fun c106 => ?_) (fun c106 => ?_)
        · skip
          refine lv_iconst (v := 0) hx hb dX3_grade_115 (by decide) ?_
          rw [if_neg c106] at kj; exact kj
        · skip
          refine lv_sipush (v := 500) hx hb dX3_grade_109 (by decide) ?_
          refine lv_goto (tgt := 116) hx hb dX3_grade_112 (by decide) ?_
          rw [if_pos c106] at kj; exact kj
      · skip
        refine lv_iadd hx hb dX3_grade_116 ?_
        refine lv_iadd hx hb dX3_grade_117 ?_
        refine m_ast hx hb hK hI hW hS 6 o (by decide) rfl (show o < 30 by omega) dX3_grade_118 (fun H locs hW hS => ?_)
        refine lv_iload_n hx hb dX3_grade_119 rfl (lv_at hl 4 rfl) ?_
        refine lv_iconst (v := 3) hx hb dX3_grade_120 (by decide) ?_
        refine lv_icmp_eq (tgt := 154) hx hb dX3_grade_121 (by decide) (fun c121 => ?_) (fun c121 => ?_)
        · skip
          exact tail (mu (mu (mu M 16 0 0) 12 (8 * o + j) 0) 6 o ((M 6 o) + ((feeM (mu (mu M 16 0 0) 12 (8 * o + j) 0) (8 * o + j) (nI g)) + (if M 13 (8 * o + j) = 0 then 500 else 0)))) H locs ls ((((mu_f _ _ _ _ (by decide)).trans ((mu_f _ _ _ _ (by decide)).trans (mu_f _ _ _ _ (by decide))))).trans hM4) (by unfold mGrade gMid; rw [if_neg c42, if_pos c53, if_pos c121] <;> rfl) hW hS (lv_sub hl [0, 1, 2, 3, 4] rfl)
        · skip
          have hg9 : g < 3 := nI_lt30 rfl c121 hg (by decide)
          refine lv_aload_n hx hb dX3_grade_124 rfl (lv_at hl 1 rfl) ?_
          refine m_get (v := .ref (q 15)) hx hb hts hin hown hK hW 15 (by decide) (hts (.fieldLink RX3 49 "ReturnsDeskModel" "stocks" "[I") (List.mem_of_getElem? (i := 4) rfl)) (fun _ h9 => h9) rfl dX3_grade_125 ?_
          refine lv_iload_n hx hb dX3_grade_128 rfl (lv_at hl 4 rfl) ?_
          refine lv_iconst (v := 1) hx hb dX3_grade_129 (by decide) ?_
          refine lv_icmp_ne (tgt := 148) hx hb dX3_grade_130 (by decide) (fun c130 => ?_) (fun c130 => ?_)
          · skip
            refine lv_iload_n hx hb dX3_grade_148 rfl (lv_at hl 4 rfl) ?_
            refine lv_dup2_11 hx hb dX3_grade_149 rfl rfl ?_
            refine m_ald (v := M 15 g) hx hb hK hW 15 g (by decide) rfl (show g < 3 by omega) ((mu_f _ _ _ _ (by decide)).trans ((mu_f _ _ _ _ (by decide)).trans (mu_f _ _ _ _ (by decide)))) dX3_grade_150 ?_
            refine lv_iconst (v := 1) hx hb dX3_grade_151 (by decide) ?_
            refine lv_iadd hx hb dX3_grade_152 ?_
            refine m_ast hx hb hK hI hW hS 15 g (by decide) rfl (show g < 3 by omega) dX3_grade_153 (fun H locs hW hS => ?_)
            exact tail (mu (mu (mu (mu M 16 0 0) 12 (8 * o + j) 0) 6 o ((M 6 o) + ((feeM (mu (mu M 16 0 0) 12 (8 * o + j) 0) (8 * o + j) (nI g)) + (if M 13 (8 * o + j) = 0 then 500 else 0)))) 15 g ((M 15 g) + 1)) H locs ls ((((mu_f _ _ _ _ (by decide)).trans ((mu_f _ _ _ _ (by decide)).trans ((mu_f _ _ _ _ (by decide)).trans (mu_f _ _ _ _ (by decide)))))).trans hM4) (by unfold mGrade gMid; rw [if_neg c42, if_pos c53, if_neg c121, if_neg c130] <;> rfl) hW hS (lv_sub hl [0, 1, 2, 3, 4] rfl)
          · skip
            refine lv_aload_n hx hb dX3_grade_133 rfl (lv_at hl 1 rfl) ?_
            refine m_get (v := .ref (q 13)) hx hb hts hin hown hK hW 13 (by decide) (hts (.fieldLink RX3 43 "ReturnsDeskModel" "reasons" "[I") (List.mem_of_getElem? (i := 3) rfl)) (fun _ h9 => h9) rfl dX3_grade_134 ?_
            refine lv_iload hx hb dX3_grade_137 (lv_at hl 0 rfl) ?_
            refine m_ald (v := M 13 (8 * o + j)) hx hb hK hW 13 (8 * o + j) (by decide) rfl (show 8 * o + j < 240 by omega) ((mu_f _ _ _ _ (by decide)).trans ((mu_f _ _ _ _ (by decide)).trans (mu_f _ _ _ _ (by decide)))) dX3_grade_139 ?_
            refine lv_iconst (v := 1) hx hb dX3_grade_140 (by decide) ?_
            refine lv_icmp_ne (tgt := 148) hx hb dX3_grade_141 (by decide) (fun c141 => ?_) (fun c141 => ?_)
            · skip
              refine lv_iload_n hx hb dX3_grade_148 rfl (lv_at hl 4 rfl) ?_
              refine lv_dup2_11 hx hb dX3_grade_149 rfl rfl ?_
              refine m_ald (v := M 15 g) hx hb hK hW 15 g (by decide) rfl (show g < 3 by omega) ((mu_f _ _ _ _ (by decide)).trans ((mu_f _ _ _ _ (by decide)).trans (mu_f _ _ _ _ (by decide)))) dX3_grade_150 ?_
              refine lv_iconst (v := 1) hx hb dX3_grade_151 (by decide) ?_
              refine lv_iadd hx hb dX3_grade_152 ?_
              refine m_ast hx hb hK hI hW hS 15 g (by decide) rfl (show g < 3 by omega) dX3_grade_153 (fun H locs hW hS => ?_)
              exact tail (mu (mu (mu (mu M 16 0 0) 12 (8 * o + j) 0) 6 o ((M 6 o) + ((feeM (mu (mu M 16 0 0) 12 (8 * o + j) 0) (8 * o + j) (nI g)) + (if M 13 (8 * o + j) = 0 then 500 else 0)))) 15 g ((M 15 g) + 1)) H locs ls ((((mu_f _ _ _ _ (by decide)).trans ((mu_f _ _ _ _ (by decide)).trans ((mu_f _ _ _ _ (by decide)).trans (mu_f _ _ _ _ (by decide)))))).trans hM4) (by unfold mGrade gMid; rw [if_neg c42, if_pos c53, if_neg c121, if_pos c130, if_neg c141] <;> rfl) hW hS (lv_sub hl [0, 1, 2, 3, 4] rfl)
            · skip
              refine lv_iconst (v := 2) hx hb dX3_grade_144 (by decide) ?_
              refine lv_goto (tgt := 149) hx hb dX3_grade_145 (by decide) ?_
              refine lv_dup2_11 hx hb dX3_grade_149 rfl rfl ?_
              refine m_ald (v := M 15 2) hx hb hK hW 15 2 (by decide) rfl (show 2 < 3 by omega) ((mu_f _ _ _ _ (by decide)).trans ((mu_f _ _ _ _ (by decide)).trans (mu_f _ _ _ _ (by decide)))) dX3_grade_150 ?_
              refine lv_iconst (v := 1) hx hb dX3_grade_151 (by decide) ?_
              refine lv_iadd hx hb dX3_grade_152 ?_
              refine m_ast hx hb hK hI hW hS 15 2 (by decide) rfl (show 2 < 3 by omega) dX3_grade_153 (fun H locs hW hS => ?_)
              exact tail (mu (mu (mu (mu M 16 0 0) 12 (8 * o + j) 0) 6 o ((M 6 o) + ((feeM (mu (mu M 16 0 0) 12 (8 * o + j) 0) (8 * o + j) (nI g)) + (if M 13 (8 * o + j) = 0 then 500 else 0)))) 15 2 ((M 15 2) + 1)) H locs ls ((((mu_f _ _ _ _ (by decide)).trans ((mu_f _ _ _ _ (by decide)).trans ((mu_f _ _ _ _ (by decide)).trans (mu_f _ _ _ _ (by decide)))))).trans hM4) (by unfold mGrade gMid; rw [if_neg c42, if_pos c53, if_neg c121, if_pos c130, if_pos c141] <;> rfl) hW hS (lv_sub hl [0, 1, 2, 3, 4] rfl)
    · skip
      refine lv_aload_n hx hb dX3_grade_56 rfl (lv_at hl 1 rfl) ?_
      refine lv_iconst (v := 3) hx hb dX3_grade_57 (by decide) ?_
      refine m_call 1 hx hb hts hown hml (kX3_fails l hI (mu M 16 0 0) 3) rfl gX3_grade_X3_fails rfl rfl rfl (by decide +kernel) ⟨Nat.le_of_ble_eq_true rfl, Nat.le_of_ble_eq_true rfl⟩ hl.1 hW hK hS (fun _ h => h) rfl (Nat.le_of_ble_eq_true rfl) dX3_grade_58 ⟨Nat.zero_le _, Nat.zero_le _⟩ (fun r M9 H locs hp hW _ _ hS => ?_)
      obtain ⟨rfl, rfl⟩ := hp
      exact m_ret hx hb hr hlocks hK hW hS (by show _ = _; unfold mGrade; rw [if_neg c42, if_neg c53] <;> rfl) dX3_grade_61
set_option maxHeartbeats 4000000 in
set_option maxRecDepth 100000 in
theorem kX3_price_bad (l : Launch) {D : va_G} {cI cO cL cJ : ClassId} {ao : Nat} {q : Nat → Nat} (hI : mI ao q) (M : MS) (p0 : Int32) (n : Nat) (hbad : ¬ vp_in p0 n) (hn : n ≤ 30) (hM1 : M 1 0 = nI n) : Met l yX3_price wsX3_price ({ frames := 2, cells := 0, slots := 0, locals := 43 } : Room) (mP D cI cO cL cJ ao q M [.int p0]) (mQ D cI cO cL cJ ao q (fun (r : Int32) (M9 : MS) => r = 0 ∧ M9 = mu M 16 0 1)) 0 0 (mA ao q) := by
  refine m_body (cc := cX3_price) (maxL := 2) (ret := some .int) (by decide) rfl [.int p0] (Nat.le_of_ble_eq_true rfl) ?_
  intro p e s m args below meth c hx hb hr hts hown hml hlocks hW hK ls hl
  have hown : s.vm.findClass RX3 = some m.cls := hown
  have hl : lv_has ls 2 [(0, .ref ao), (1, .int p0)] := hl
  have hin : ∀ w ∈ u_ws RX3 TX3 17, w ∈ wsX3_price := (fun w h => List.mem_cons_of_mem _ (List.mem_append_right _ (h)))
  have hS : va_S (mA ao q) s.heap s.heap [] := va_S.rf
  refine lv_aload_n hx hb dX3_price_0 rfl (lv_at hl 0 rfl) ?_
  refine lv_iload_n hx hb dX3_price_1 rfl (lv_at hl 1 rfl) ?_
  refine m_call 1 hx hb hts hown hml (kX3_isOrder_bad l hI M p0 n hbad hn hM1) rfl gX3_price_X3_isOrder rfl rfl rfl (by decide +kernel) ⟨Nat.le_of_ble_eq_true rfl, Nat.le_of_ble_eq_true rfl⟩ hl.1 hW hK hS (fun _ h => h) rfl (Nat.le_of_ble_eq_true rfl) dX3_price_2 ⟨Nat.zero_le _, Nat.zero_le _⟩ (fun r M9 H locs hp hW _ _ hS => ?_)
  obtain ⟨rfl, rfl⟩ := hp
  refine lv_if_eq (tgt := 16) hx hb dX3_price_5 (by decide) (fun _ => ?_) (fun h9 => absurd (by decide) h9)
  refine lv_iconst (v := 0) hx hb dX3_price_16 (by decide) ?_
  exact m_ret hx hb hr hlocks hK hW hS ⟨rfl, rfl⟩ dX3_price_17
set_option maxHeartbeats 4000000 in
set_option maxRecDepth 100000 in
theorem kX3_price_ok (l : Launch) {D : va_G} {cI cO cL cJ : ClassId} {ao : Nat} {q : Nat → Nat} (hI : mI ao q) (M : MS) (o n kc : Nat) (ho : o < n) (hn : n ≤ 30) (hM1 : M 1 0 = nI n) (hkc : kc ≤ 8) (hM4 : M 4 o = nI kc) : Met l yX3_price wsX3_price ({ frames := 2, cells := 0, slots := 0, locals := 43 } : Room) (mP D cI cO cL cJ ao q M [.int (nI o)]) (mQ D cI cO cL cJ ao q (fun (r : Int32) (M9 : MS) => r = priceM (th0 M) o kc ∧ M9 = th0 M)) 0 0 (mA ao q) := by
  refine m_body (cc := cX3_price) (maxL := 2) (ret := some .int) (by decide) rfl [.int (nI o)] (Nat.le_of_ble_eq_true rfl) ?_
  intro p e s m args below meth c hx hb hr hts hown hml hlocks hW hK ls hl
  have hown : s.vm.findClass RX3 = some m.cls := hown
  have hl : lv_has ls 2 [(0, .ref ao), (1, .int (nI o))] := hl
  have hin : ∀ w ∈ u_ws RX3 TX3 17, w ∈ wsX3_price := (fun w h => List.mem_cons_of_mem _ (List.mem_append_right _ (h)))
  have hS : va_S (mA ao q) s.heap s.heap [] := va_S.rf
  refine lv_aload_n hx hb dX3_price_0 rfl (lv_at hl 0 rfl) ?_
  refine lv_iload_n hx hb dX3_price_1 rfl (lv_at hl 1 rfl) ?_
  refine m_call 1 hx hb hts hown hml (kX3_isOrder_ok l hI M o n ho hn hM1) rfl gX3_price_X3_isOrder rfl rfl rfl (by decide +kernel) ⟨Nat.le_of_ble_eq_true rfl, Nat.le_of_ble_eq_true rfl⟩ hl.1 hW hK hS (fun _ h => h) rfl (Nat.le_of_ble_eq_true rfl) dX3_price_2 ⟨Nat.zero_le _, Nat.zero_le _⟩ (fun r M9 H locs hp hW _ _ hS => ?_)
  obtain ⟨rfl, rfl⟩ := hp
  refine lv_if_eq (tgt := 16) hx hb dX3_price_5 (by decide) (fun h9 => absurd h9 (by decide)) (fun _ => ?_)
  refine lv_aload_n hx hb dX3_price_8 rfl (lv_at hl 0 rfl) ?_
  refine lv_iload_n hx hb dX3_price_9 rfl (lv_at hl 1 rfl) ?_
  refine m_call0 1 hx hb hts hown hml (kX3_priced l (mu M 16 0 0) o n kc ho hn hkc (((mu_f _ _ _ _ (by decide))).trans hM4)) rfl gX3_price_X3_priced rfl rfl rfl (by decide +kernel) ⟨Nat.le_of_ble_eq_true rfl, Nat.le_of_ble_eq_true rfl⟩ hl.1 hW hK rfl (Nat.le_of_ble_eq_true rfl) dX3_price_10 ⟨Nat.zero_le _, Nat.zero_le _⟩ (fun r hp => ?_)
  subst hp
  refine lv_goto (tgt := 17) hx hb dX3_price_13 (by decide) ?_
  exact m_ret hx hb hr hlocks hK hW hS ⟨rfl, rfl⟩ dX3_price_17
set_option maxHeartbeats 4000000 in
set_option maxRecDepth 100000 in
theorem kX3_fees_bad (l : Launch) {D : va_G} {cI cO cL cJ : ClassId} {ao : Nat} {q : Nat → Nat} (hI : mI ao q) (M : MS) (p0 : Int32) (n : Nat) (hbad : ¬ vp_in p0 n) (hn : n ≤ 30) (hM1 : M 1 0 = nI n) : Met l yX3_fees wsX3_fees ({ frames := 2, cells := 0, slots := 0, locals := 43 } : Room) (mP D cI cO cL cJ ao q M [.int p0]) (mQ D cI cO cL cJ ao q (fun (r : Int32) (M9 : MS) => r = 0 ∧ M9 = mu M 16 0 1)) 0 0 (mA ao q) := by
  refine m_body (cc := cX3_fees) (maxL := 2) (ret := some .int) (by decide) rfl [.int p0] (Nat.le_of_ble_eq_true rfl) ?_
  intro p e s m args below meth c hx hb hr hts hown hml hlocks hW hK ls hl
  have hown : s.vm.findClass RX3 = some m.cls := hown
  have hl : lv_has ls 2 [(0, .ref ao), (1, .int p0)] := hl
  have hin : ∀ w ∈ u_ws RX3 TX3 17, w ∈ wsX3_fees := (fun w h => List.mem_cons_of_mem _ (List.mem_append_right _ (h)))
  have hS : va_S (mA ao q) s.heap s.heap [] := va_S.rf
  refine lv_aload_n hx hb dX3_fees_0 rfl (lv_at hl 0 rfl) ?_
  refine lv_iload_n hx hb dX3_fees_1 rfl (lv_at hl 1 rfl) ?_
  refine m_call 1 hx hb hts hown hml (kX3_isOrder_bad l hI M p0 n hbad hn hM1) rfl gX3_fees_X3_isOrder rfl rfl rfl (by decide +kernel) ⟨Nat.le_of_ble_eq_true rfl, Nat.le_of_ble_eq_true rfl⟩ hl.1 hW hK hS (fun _ h => h) rfl (Nat.le_of_ble_eq_true rfl) dX3_fees_2 ⟨Nat.zero_le _, Nat.zero_le _⟩ (fun r M9 H locs hp hW _ _ hS => ?_)
  obtain ⟨rfl, rfl⟩ := hp
  refine lv_if_eq (tgt := 17) hx hb dX3_fees_5 (by decide) (fun _ => ?_) (fun h9 => absurd (by decide) h9)
  refine lv_iconst (v := 0) hx hb dX3_fees_17 (by decide) ?_
  exact m_ret hx hb hr hlocks hK hW hS ⟨rfl, rfl⟩ dX3_fees_18
set_option maxHeartbeats 4000000 in
set_option maxRecDepth 100000 in
theorem kX3_fees_ok (l : Launch) {D : va_G} {cI cO cL cJ : ClassId} {ao : Nat} {q : Nat → Nat} (hI : mI ao q) (M : MS) (o n kc : Nat) (ho : o < n) (hn : n ≤ 30) (hM1 : M 1 0 = nI n) (hkc : kc ≤ 8) (hM4 : M 4 o = nI kc) : Met l yX3_fees wsX3_fees ({ frames := 2, cells := 0, slots := 0, locals := 43 } : Room) (mP D cI cO cL cJ ao q M [.int (nI o)]) (mQ D cI cO cL cJ ao q (fun (r : Int32) (M9 : MS) => r = M 6 o ∧ M9 = th0 M)) 0 0 (mA ao q) := by
  refine m_body (cc := cX3_fees) (maxL := 2) (ret := some .int) (by decide) rfl [.int (nI o)] (Nat.le_of_ble_eq_true rfl) ?_
  intro p e s m args below meth c hx hb hr hts hown hml hlocks hW hK ls hl
  have hown : s.vm.findClass RX3 = some m.cls := hown
  have hl : lv_has ls 2 [(0, .ref ao), (1, .int (nI o))] := hl
  have hin : ∀ w ∈ u_ws RX3 TX3 17, w ∈ wsX3_fees := (fun w h => List.mem_cons_of_mem _ (List.mem_append_right _ (h)))
  have hS : va_S (mA ao q) s.heap s.heap [] := va_S.rf
  refine lv_aload_n hx hb dX3_fees_0 rfl (lv_at hl 0 rfl) ?_
  refine lv_iload_n hx hb dX3_fees_1 rfl (lv_at hl 1 rfl) ?_
  refine m_call 1 hx hb hts hown hml (kX3_isOrder_ok l hI M o n ho hn hM1) rfl gX3_fees_X3_isOrder rfl rfl rfl (by decide +kernel) ⟨Nat.le_of_ble_eq_true rfl, Nat.le_of_ble_eq_true rfl⟩ hl.1 hW hK hS (fun _ h => h) rfl (Nat.le_of_ble_eq_true rfl) dX3_fees_2 ⟨Nat.zero_le _, Nat.zero_le _⟩ (fun r M9 H locs hp hW _ _ hS => ?_)
  obtain ⟨rfl, rfl⟩ := hp
  refine lv_if_eq (tgt := 17) hx hb dX3_fees_5 (by decide) (fun h9 => absurd h9 (by decide)) (fun _ => ?_)
  refine lv_aload_n hx hb dX3_fees_8 rfl (lv_at hl 0 rfl) ?_
  refine m_get (v := .ref (q 6)) hx hb hts hin hown hK hW 6 (by decide) (hts (.fieldLink RX3 22 "ReturnsDeskModel" "fees" "[I") (List.mem_of_getElem? (i := 1) rfl)) (fun _ h9 => h9) rfl dX3_fees_9 ?_
  refine lv_iload_n hx hb dX3_fees_12 rfl (lv_at hl 1 rfl) ?_
  refine m_ald (v := M 6 o) hx hb hK hW 6 o (by decide) rfl (show o < 30 by omega) (mu_f _ _ _ _ (by decide)) dX3_fees_13 ?_
  refine lv_goto (tgt := 18) hx hb dX3_fees_14 (by decide) ?_
  exact m_ret hx hb hr hlocks hK hW hS ⟨rfl, rfl⟩ dX3_fees_18
set_option maxHeartbeats 4000000 in
set_option maxRecDepth 100000 in
theorem kX3_charges_bad (l : Launch) {D : va_G} {cI cO cL cJ : ClassId} {ao : Nat} {q : Nat → Nat} (hI : mI ao q) (M : MS) (p0 : Int32) (n : Nat) (hbad : ¬ vp_in p0 n) (hn : n ≤ 30) (hM1 : M 1 0 = nI n) : Met l yX3_charges wsX3_charges ({ frames := 2, cells := 0, slots := 0, locals := 43 } : Room) (mP D cI cO cL cJ ao q M [.int p0]) (mQ D cI cO cL cJ ao q (fun (r : Int32) (M9 : MS) => r = 0 ∧ M9 = mu M 16 0 1)) 0 0 (mA ao q) := by
  refine m_body (cc := cX3_charges) (maxL := 2) (ret := some .int) (by decide) rfl [.int p0] (Nat.le_of_ble_eq_true rfl) ?_
  intro p e s m args below meth c hx hb hr hts hown hml hlocks hW hK ls hl
  have hown : s.vm.findClass RX3 = some m.cls := hown
  have hl : lv_has ls 2 [(0, .ref ao), (1, .int p0)] := hl
  have hin : ∀ w ∈ u_ws RX3 TX3 17, w ∈ wsX3_charges := (fun w h => List.mem_cons_of_mem _ (List.mem_append_right _ (h)))
  have hS : va_S (mA ao q) s.heap s.heap [] := va_S.rf
  refine lv_aload_n hx hb dX3_charges_0 rfl (lv_at hl 0 rfl) ?_
  refine lv_iload_n hx hb dX3_charges_1 rfl (lv_at hl 1 rfl) ?_
  refine m_call 1 hx hb hts hown hml (kX3_isOrder_bad l hI M p0 n hbad hn hM1) rfl gX3_charges_X3_isOrder rfl rfl rfl (by decide +kernel) ⟨Nat.le_of_ble_eq_true rfl, Nat.le_of_ble_eq_true rfl⟩ hl.1 hW hK hS (fun _ h => h) rfl (Nat.le_of_ble_eq_true rfl) dX3_charges_2 ⟨Nat.zero_le _, Nat.zero_le _⟩ (fun r M9 H locs hp hW _ _ hS => ?_)
  obtain ⟨rfl, rfl⟩ := hp
  refine lv_if_eq (tgt := 17) hx hb dX3_charges_5 (by decide) (fun _ => ?_) (fun h9 => absurd (by decide) h9)
  refine lv_iconst (v := 0) hx hb dX3_charges_17 (by decide) ?_
  exact m_ret hx hb hr hlocks hK hW hS ⟨rfl, rfl⟩ dX3_charges_18
set_option maxHeartbeats 4000000 in
set_option maxRecDepth 100000 in
theorem kX3_charges_ok (l : Launch) {D : va_G} {cI cO cL cJ : ClassId} {ao : Nat} {q : Nat → Nat} (hI : mI ao q) (M : MS) (o n kc : Nat) (ho : o < n) (hn : n ≤ 30) (hM1 : M 1 0 = nI n) (hkc : kc ≤ 8) (hM4 : M 4 o = nI kc) : Met l yX3_charges wsX3_charges ({ frames := 2, cells := 0, slots := 0, locals := 43 } : Room) (mP D cI cO cL cJ ao q M [.int (nI o)]) (mQ D cI cO cL cJ ao q (fun (r : Int32) (M9 : MS) => r = M 7 o ∧ M9 = th0 M)) 0 0 (mA ao q) := by
  refine m_body (cc := cX3_charges) (maxL := 2) (ret := some .int) (by decide) rfl [.int (nI o)] (Nat.le_of_ble_eq_true rfl) ?_
  intro p e s m args below meth c hx hb hr hts hown hml hlocks hW hK ls hl
  have hown : s.vm.findClass RX3 = some m.cls := hown
  have hl : lv_has ls 2 [(0, .ref ao), (1, .int (nI o))] := hl
  have hin : ∀ w ∈ u_ws RX3 TX3 17, w ∈ wsX3_charges := (fun w h => List.mem_cons_of_mem _ (List.mem_append_right _ (h)))
  have hS : va_S (mA ao q) s.heap s.heap [] := va_S.rf
  refine lv_aload_n hx hb dX3_charges_0 rfl (lv_at hl 0 rfl) ?_
  refine lv_iload_n hx hb dX3_charges_1 rfl (lv_at hl 1 rfl) ?_
  refine m_call 1 hx hb hts hown hml (kX3_isOrder_ok l hI M o n ho hn hM1) rfl gX3_charges_X3_isOrder rfl rfl rfl (by decide +kernel) ⟨Nat.le_of_ble_eq_true rfl, Nat.le_of_ble_eq_true rfl⟩ hl.1 hW hK hS (fun _ h => h) rfl (Nat.le_of_ble_eq_true rfl) dX3_charges_2 ⟨Nat.zero_le _, Nat.zero_le _⟩ (fun r M9 H locs hp hW _ _ hS => ?_)
  obtain ⟨rfl, rfl⟩ := hp
  refine lv_if_eq (tgt := 17) hx hb dX3_charges_5 (by decide) (fun h9 => absurd h9 (by decide)) (fun _ => ?_)
  refine lv_aload_n hx hb dX3_charges_8 rfl (lv_at hl 0 rfl) ?_
  refine m_get (v := .ref (q 7)) hx hb hts hin hown hK hW 7 (by decide) (hts (.fieldLink RX3 25 "ReturnsDeskModel" "charges" "[I") (List.mem_of_getElem? (i := 1) rfl)) (fun _ h9 => h9) rfl dX3_charges_9 ?_
  refine lv_iload_n hx hb dX3_charges_12 rfl (lv_at hl 1 rfl) ?_
  refine m_ald (v := M 7 o) hx hb hK hW 7 o (by decide) rfl (show o < 30 by omega) (mu_f _ _ _ _ (by decide)) dX3_charges_13 ?_
  refine lv_goto (tgt := 18) hx hb dX3_charges_14 (by decide) ?_
  exact m_ret hx hb hr hlocks hK hW hS ⟨rfl, rfl⟩ dX3_charges_18
set_option maxHeartbeats 4000000 in
set_option maxRecDepth 100000 in
theorem kX3_refunded_bad (l : Launch) {D : va_G} {cI cO cL cJ : ClassId} {ao : Nat} {q : Nat → Nat} (hI : mI ao q) (M : MS) (p0 : Int32) (n : Nat) (hbad : ¬ vp_in p0 n) (hn : n ≤ 30) (hM1 : M 1 0 = nI n) : Met l yX3_refunded wsX3_refunded ({ frames := 2, cells := 0, slots := 0, locals := 43 } : Room) (mP D cI cO cL cJ ao q M [.int p0]) (mQ D cI cO cL cJ ao q (fun (r : Int32) (M9 : MS) => r = 0 ∧ M9 = mu M 16 0 1)) 0 0 (mA ao q) := by
  refine m_body (cc := cX3_refunded) (maxL := 2) (ret := some .int) (by decide) rfl [.int p0] (Nat.le_of_ble_eq_true rfl) ?_
  intro p e s m args below meth c hx hb hr hts hown hml hlocks hW hK ls hl
  have hown : s.vm.findClass RX3 = some m.cls := hown
  have hl : lv_has ls 2 [(0, .ref ao), (1, .int p0)] := hl
  have hin : ∀ w ∈ u_ws RX3 TX3 17, w ∈ wsX3_refunded := (fun w h => List.mem_cons_of_mem _ (List.mem_append_right _ (h)))
  have hS : va_S (mA ao q) s.heap s.heap [] := va_S.rf
  refine lv_aload_n hx hb dX3_refunded_0 rfl (lv_at hl 0 rfl) ?_
  refine lv_iload_n hx hb dX3_refunded_1 rfl (lv_at hl 1 rfl) ?_
  refine m_call 1 hx hb hts hown hml (kX3_isOrder_bad l hI M p0 n hbad hn hM1) rfl gX3_refunded_X3_isOrder rfl rfl rfl (by decide +kernel) ⟨Nat.le_of_ble_eq_true rfl, Nat.le_of_ble_eq_true rfl⟩ hl.1 hW hK hS (fun _ h => h) rfl (Nat.le_of_ble_eq_true rfl) dX3_refunded_2 ⟨Nat.zero_le _, Nat.zero_le _⟩ (fun r M9 H locs hp hW _ _ hS => ?_)
  obtain ⟨rfl, rfl⟩ := hp
  refine lv_if_eq (tgt := 17) hx hb dX3_refunded_5 (by decide) (fun _ => ?_) (fun h9 => absurd (by decide) h9)
  refine lv_iconst (v := 0) hx hb dX3_refunded_17 (by decide) ?_
  exact m_ret hx hb hr hlocks hK hW hS ⟨rfl, rfl⟩ dX3_refunded_18
set_option maxHeartbeats 4000000 in
set_option maxRecDepth 100000 in
theorem kX3_refunded_ok (l : Launch) {D : va_G} {cI cO cL cJ : ClassId} {ao : Nat} {q : Nat → Nat} (hI : mI ao q) (M : MS) (o n kc : Nat) (ho : o < n) (hn : n ≤ 30) (hM1 : M 1 0 = nI n) (hkc : kc ≤ 8) (hM4 : M 4 o = nI kc) : Met l yX3_refunded wsX3_refunded ({ frames := 2, cells := 0, slots := 0, locals := 43 } : Room) (mP D cI cO cL cJ ao q M [.int (nI o)]) (mQ D cI cO cL cJ ao q (fun (r : Int32) (M9 : MS) => r = M 8 o ∧ M9 = th0 M)) 0 0 (mA ao q) := by
  refine m_body (cc := cX3_refunded) (maxL := 2) (ret := some .int) (by decide) rfl [.int (nI o)] (Nat.le_of_ble_eq_true rfl) ?_
  intro p e s m args below meth c hx hb hr hts hown hml hlocks hW hK ls hl
  have hown : s.vm.findClass RX3 = some m.cls := hown
  have hl : lv_has ls 2 [(0, .ref ao), (1, .int (nI o))] := hl
  have hin : ∀ w ∈ u_ws RX3 TX3 17, w ∈ wsX3_refunded := (fun w h => List.mem_cons_of_mem _ (List.mem_append_right _ (h)))
  have hS : va_S (mA ao q) s.heap s.heap [] := va_S.rf
  refine lv_aload_n hx hb dX3_refunded_0 rfl (lv_at hl 0 rfl) ?_
  refine lv_iload_n hx hb dX3_refunded_1 rfl (lv_at hl 1 rfl) ?_
  refine m_call 1 hx hb hts hown hml (kX3_isOrder_ok l hI M o n ho hn hM1) rfl gX3_refunded_X3_isOrder rfl rfl rfl (by decide +kernel) ⟨Nat.le_of_ble_eq_true rfl, Nat.le_of_ble_eq_true rfl⟩ hl.1 hW hK hS (fun _ h => h) rfl (Nat.le_of_ble_eq_true rfl) dX3_refunded_2 ⟨Nat.zero_le _, Nat.zero_le _⟩ (fun r M9 H locs hp hW _ _ hS => ?_)
  obtain ⟨rfl, rfl⟩ := hp
  refine lv_if_eq (tgt := 17) hx hb dX3_refunded_5 (by decide) (fun h9 => absurd h9 (by decide)) (fun _ => ?_)
  refine lv_aload_n hx hb dX3_refunded_8 rfl (lv_at hl 0 rfl) ?_
  refine m_get (v := .ref (q 8)) hx hb hts hin hown hK hW 8 (by decide) (hts (.fieldLink RX3 28 "ReturnsDeskModel" "refunds" "[I") (List.mem_of_getElem? (i := 1) rfl)) (fun _ h9 => h9) rfl dX3_refunded_9 ?_
  refine lv_iload_n hx hb dX3_refunded_12 rfl (lv_at hl 1 rfl) ?_
  refine m_ald (v := M 8 o) hx hb hK hW 8 o (by decide) rfl (show o < 30 by omega) (mu_f _ _ _ _ (by decide)) dX3_refunded_13 ?_
  refine lv_goto (tgt := 18) hx hb dX3_refunded_14 (by decide) ?_
  exact m_ret hx hb hr hlocks hK hW hS ⟨rfl, rfl⟩ dX3_refunded_18
set_option maxHeartbeats 4000000 in
set_option maxRecDepth 100000 in
theorem kX3_state_bad (l : Launch) {D : va_G} {cI cO cL cJ : ClassId} {ao : Nat} {q : Nat → Nat} (hI : mI ao q) (M : MS) (p0 p1 : Int32) (n : Nat) (hbad : ¬ vp_in p0 n) (hn : n ≤ 30) (hM1 : M 1 0 = nI n) : Met l yX3_state wsX3_state ({ frames := 2, cells := 0, slots := 0, locals := 44 } : Room) (mP D cI cO cL cJ ao q M [.int p0, .int p1]) (mQ D cI cO cL cJ ao q (fun (r : Int32) (M9 : MS) => r = 0 ∧ M9 = mu M 16 0 1)) 0 0 (mA ao q) := by
  refine m_body (cc := cX3_state) (maxL := 3) (ret := some .int) (by decide) rfl [.int p0, .int p1] (Nat.le_of_ble_eq_true rfl) ?_
  intro p e s m args below meth c hx hb hr hts hown hml hlocks hW hK ls hl
  have hown : s.vm.findClass RX3 = some m.cls := hown
  have hl : lv_has ls 3 [(0, .ref ao), (1, .int p0), (2, .int p1)] := hl
  have hin : ∀ w ∈ u_ws RX3 TX3 17, w ∈ wsX3_state := (fun w h => List.mem_cons_of_mem _ (List.mem_append_right _ (h)))
  have hS : va_S (mA ao q) s.heap s.heap [] := va_S.rf
  refine lv_aload_n hx hb dX3_state_0 rfl (lv_at hl 0 rfl) ?_
  refine lv_iload_n hx hb dX3_state_1 rfl (lv_at hl 1 rfl) ?_
  refine lv_iload_n hx hb dX3_state_2 rfl (lv_at hl 2 rfl) ?_
  refine m_call 2 hx hb hts hown hml (kX3_isLine_bad l hI M p0 p1 n hbad hn hM1) rfl gX3_state_X3_isLine rfl rfl rfl (by decide +kernel) ⟨Nat.le_of_ble_eq_true rfl, Nat.le_of_ble_eq_true rfl⟩ hl.1 hW hK hS (fun _ h => h) rfl (Nat.le_of_ble_eq_true rfl) dX3_state_3 ⟨Nat.zero_le _, Nat.zero_le _⟩ (fun r M9 H locs hp hW _ _ hS => ?_)
  obtain ⟨rfl, rfl⟩ := hp
  refine lv_if_eq (tgt := 23) hx hb dX3_state_6 (by decide) (fun _ => ?_) (fun h9 => absurd (by decide) h9)
  refine lv_iconst (v := 0) hx hb dX3_state_23 (by decide) ?_
  exact m_ret hx hb hr hlocks hK hW hS ⟨rfl, rfl⟩ dX3_state_24
set_option maxHeartbeats 4000000 in
set_option maxRecDepth 100000 in
theorem kX3_state_bad2 (l : Launch) {D : va_G} {cI cO cL cJ : ClassId} {ao : Nat} {q : Nat → Nat} (hI : mI ao q) (M : MS) (o n kc : Nat) (p1 : Int32) (ho : o < n) (hn : n ≤ 30) (hM1 : M 1 0 = nI n) (hkc : kc ≤ 8) (hM4 : M 4 o = nI kc) (hbad : ¬ vp_in p1 kc) : Met l yX3_state wsX3_state ({ frames := 2, cells := 0, slots := 0, locals := 44 } : Room) (mP D cI cO cL cJ ao q M [.int (nI o), .int p1]) (mQ D cI cO cL cJ ao q (fun (r : Int32) (M9 : MS) => r = 0 ∧ M9 = mu M 16 0 1)) 0 0 (mA ao q) := by
  refine m_body (cc := cX3_state) (maxL := 3) (ret := some .int) (by decide) rfl [.int (nI o), .int p1] (Nat.le_of_ble_eq_true rfl) ?_
  intro p e s m args below meth c hx hb hr hts hown hml hlocks hW hK ls hl
  have hown : s.vm.findClass RX3 = some m.cls := hown
  have hl : lv_has ls 3 [(0, .ref ao), (1, .int (nI o)), (2, .int p1)] := hl
  have hin : ∀ w ∈ u_ws RX3 TX3 17, w ∈ wsX3_state := (fun w h => List.mem_cons_of_mem _ (List.mem_append_right _ (h)))
  have hS : va_S (mA ao q) s.heap s.heap [] := va_S.rf
  refine lv_aload_n hx hb dX3_state_0 rfl (lv_at hl 0 rfl) ?_
  refine lv_iload_n hx hb dX3_state_1 rfl (lv_at hl 1 rfl) ?_
  refine lv_iload_n hx hb dX3_state_2 rfl (lv_at hl 2 rfl) ?_
  refine m_call 2 hx hb hts hown hml (kX3_isLine_bad2 l hI M o n kc p1 ho hn hM1 hkc hM4 hbad) rfl gX3_state_X3_isLine rfl rfl rfl (by decide +kernel) ⟨Nat.le_of_ble_eq_true rfl, Nat.le_of_ble_eq_true rfl⟩ hl.1 hW hK hS (fun _ h => h) rfl (Nat.le_of_ble_eq_true rfl) dX3_state_3 ⟨Nat.zero_le _, Nat.zero_le _⟩ (fun r M9 H locs hp hW _ _ hS => ?_)
  obtain ⟨rfl, rfl⟩ := hp
  refine lv_if_eq (tgt := 23) hx hb dX3_state_6 (by decide) (fun _ => ?_) (fun h9 => absurd (by decide) h9)
  refine lv_iconst (v := 0) hx hb dX3_state_23 (by decide) ?_
  exact m_ret hx hb hr hlocks hK hW hS ⟨rfl, rfl⟩ dX3_state_24
set_option maxHeartbeats 4000000 in
set_option maxRecDepth 100000 in
theorem kX3_state_ok (l : Launch) {D : va_G} {cI cO cL cJ : ClassId} {ao : Nat} {q : Nat → Nat} (hI : mI ao q) (M : MS) (o n j kc : Nat) (ho : o < n) (hn : n ≤ 30) (hM1 : M 1 0 = nI n) (hj : j < kc) (hkc : kc ≤ 8) (hM4 : M 4 o = nI kc) : Met l yX3_state wsX3_state ({ frames := 2, cells := 0, slots := 0, locals := 44 } : Room) (mP D cI cO cL cJ ao q M [.int (nI o), .int (nI j)]) (mQ D cI cO cL cJ ao q (fun (r : Int32) (M9 : MS) => r = M 12 (8 * o + j) ∧ M9 = th0 M)) 0 0 (mA ao q) := by
  refine m_body (cc := cX3_state) (maxL := 3) (ret := some .int) (by decide) rfl [.int (nI o), .int (nI j)] (Nat.le_of_ble_eq_true rfl) ?_
  intro p e s m args below meth c hx hb hr hts hown hml hlocks hW hK ls hl
  have hown : s.vm.findClass RX3 = some m.cls := hown
  have hl : lv_has ls 3 [(0, .ref ao), (1, .int (nI o)), (2, .int (nI j))] := hl
  have hin : ∀ w ∈ u_ws RX3 TX3 17, w ∈ wsX3_state := (fun w h => List.mem_cons_of_mem _ (List.mem_append_right _ (h)))
  have hS : va_S (mA ao q) s.heap s.heap [] := va_S.rf
  refine lv_aload_n hx hb dX3_state_0 rfl (lv_at hl 0 rfl) ?_
  refine lv_iload_n hx hb dX3_state_1 rfl (lv_at hl 1 rfl) ?_
  refine lv_iload_n hx hb dX3_state_2 rfl (lv_at hl 2 rfl) ?_
  refine m_call 2 hx hb hts hown hml (kX3_isLine_ok l hI M o n j kc ho hn hM1 hj hkc hM4) rfl gX3_state_X3_isLine rfl rfl rfl (by decide +kernel) ⟨Nat.le_of_ble_eq_true rfl, Nat.le_of_ble_eq_true rfl⟩ hl.1 hW hK hS (fun _ h => h) rfl (Nat.le_of_ble_eq_true rfl) dX3_state_3 ⟨Nat.zero_le _, Nat.zero_le _⟩ (fun r M9 H locs hp hW _ _ hS => ?_)
  obtain ⟨rfl, rfl⟩ := hp
  refine lv_if_eq (tgt := 23) hx hb dX3_state_6 (by decide) (fun h9 => absurd h9 (by decide)) (fun _ => ?_)
  refine lv_aload_n hx hb dX3_state_9 rfl (lv_at hl 0 rfl) ?_
  refine m_get (v := .ref (q 12)) hx hb hts hin hown hK hW 12 (by decide) (hts (.fieldLink RX3 40 "ReturnsDeskModel" "states" "[I") (List.mem_of_getElem? (i := 1) rfl)) (fun _ h9 => h9) rfl dX3_state_10 ?_
  refine lv_bipush (v := 8) hx hb dX3_state_13 (by decide) ?_
  refine lv_iload_n hx hb dX3_state_15 rfl (lv_at hl 1 rfl) ?_
  refine lv_imul hx hb dX3_state_16 ?_
  refine cv (y := nI (8 * o)) (nI_mulx (a := 8) (b := o) rfl rfl) ?_
  refine lv_iload_n hx hb dX3_state_17 rfl (lv_at hl 2 rfl) ?_
  refine lv_iadd hx hb dX3_state_18 ?_
  refine cv (y := nI (8 * o + j)) (nI_addx (a := 8 * o) (b := j) rfl rfl) ?_
  refine m_ald (v := M 12 (8 * o + j)) hx hb hK hW 12 (8 * o + j) (by decide) rfl (show 8 * o + j < 240 by omega) (mu_f _ _ _ _ (by decide)) dX3_state_19 ?_
  refine lv_goto (tgt := 24) hx hb dX3_state_20 (by decide) ?_
  exact m_ret hx hb hr hlocks hK hW hS ⟨rfl, rfl⟩ dX3_state_24
set_option maxHeartbeats 4000000 in
set_option maxRecDepth 100000 in
theorem kX3_taken_bad (l : Launch) {D : va_G} {cI cO cL cJ : ClassId} {ao : Nat} {q : Nat → Nat} (hI : mI ao q) (M : MS) (p0 p1 : Int32) (n : Nat) (hbad : ¬ vp_in p0 n) (hn : n ≤ 30) (hM1 : M 1 0 = nI n) : Met l yX3_taken wsX3_taken ({ frames := 2, cells := 0, slots := 0, locals := 43 } : Room) (mP D cI cO cL cJ ao q M [.int p0, .int p1]) (mQ D cI cO cL cJ ao q (fun (r : Int32) (M9 : MS) => r = 0 ∧ M9 = mu M 16 0 1)) 0 0 (mA ao q) := by
  refine m_body (cc := cX3_taken) (maxL := 3) (ret := some .int) (by decide) rfl [.int p0, .int p1] (Nat.le_of_ble_eq_true rfl) ?_
  intro p e s m args below meth c hx hb hr hts hown hml hlocks hW hK ls hl
  have hown : s.vm.findClass RX3 = some m.cls := hown
  have hl : lv_has ls 3 [(0, .ref ao), (1, .int p0), (2, .int p1)] := hl
  have hin : ∀ w ∈ u_ws RX3 TX3 17, w ∈ wsX3_taken := (fun w h => List.mem_cons_of_mem _ (List.mem_append_right _ (h)))
  have hS : va_S (mA ao q) s.heap s.heap [] := va_S.rf
  refine lv_aload_n hx hb dX3_taken_0 rfl (lv_at hl 0 rfl) ?_
  refine lv_iload_n hx hb dX3_taken_1 rfl (lv_at hl 1 rfl) ?_
  refine m_call 1 hx hb hts hown hml (kX3_isOrder_bad l hI M p0 n hbad hn hM1) rfl gX3_taken_X3_isOrder rfl rfl rfl (by decide +kernel) ⟨Nat.le_of_ble_eq_true rfl, Nat.le_of_ble_eq_true rfl⟩ hl.1 hW hK hS (fun _ h => h) rfl (Nat.le_of_ble_eq_true rfl) dX3_taken_2 ⟨Nat.zero_le _, Nat.zero_le _⟩ (fun r M9 H locs hp hW _ _ hS => ?_)
  obtain ⟨rfl, rfl⟩ := hp
  refine lv_if_ne (tgt := 10) hx hb dX3_taken_5 (by decide) (fun h9 => absurd (by decide) h9) (fun _ => ?_)
  refine lv_iconst (v := 0) hx hb dX3_taken_8 (by decide) ?_
  exact m_ret hx hb hr hlocks hK hW hS ⟨rfl, rfl⟩ dX3_taken_9
set_option maxHeartbeats 4000000 in
set_option maxRecDepth 100000 in
theorem kX3_taken_badg (l : Launch) {D : va_G} {cI cO cL cJ : ClassId} {ao : Nat} {q : Nat → Nat} (hI : mI ao q) (M : MS) (o n : Nat) (p1 : Int32) (ho : o < n) (hn : n ≤ 30) (hM1 : M 1 0 = nI n) (h2 : ¬ inR p1 0 2) : Met l yX3_taken wsX3_taken ({ frames := 2, cells := 0, slots := 0, locals := 43 } : Room) (mP D cI cO cL cJ ao q M [.int (nI o), .int p1]) (mQ D cI cO cL cJ ao q (fun (r : Int32) (M9 : MS) => r = 0 ∧ M9 = th2 M 2)) 0 0 (mA ao q) := by
  refine m_body (cc := cX3_taken) (maxL := 3) (ret := some .int) (by decide) rfl [.int (nI o), .int p1] (Nat.le_of_ble_eq_true rfl) ?_
  intro p e s m args below meth c hx hb hr hts hown hml hlocks hW hK ls hl
  have hown : s.vm.findClass RX3 = some m.cls := hown
  have hl : lv_has ls 3 [(0, .ref ao), (1, .int (nI o)), (2, .int p1)] := hl
  have hin : ∀ w ∈ u_ws RX3 TX3 17, w ∈ wsX3_taken := (fun w h => List.mem_cons_of_mem _ (List.mem_append_right _ (h)))
  have hS : va_S (mA ao q) s.heap s.heap [] := va_S.rf
  refine lv_aload_n hx hb dX3_taken_0 rfl (lv_at hl 0 rfl) ?_
  refine lv_iload_n hx hb dX3_taken_1 rfl (lv_at hl 1 rfl) ?_
  refine m_call 1 hx hb hts hown hml (kX3_isOrder_ok l hI M o n ho hn hM1) rfl gX3_taken_X3_isOrder rfl rfl rfl (by decide +kernel) ⟨Nat.le_of_ble_eq_true rfl, Nat.le_of_ble_eq_true rfl⟩ hl.1 hW hK hS (fun _ h => h) rfl (Nat.le_of_ble_eq_true rfl) dX3_taken_2 ⟨Nat.zero_le _, Nat.zero_le _⟩ (fun r M9 H locs hp hW _ _ hS => ?_)
  obtain ⟨rfl, rfl⟩ := hp
  refine lv_if_ne (tgt := 10) hx hb dX3_taken_5 (by decide) (fun _ => ?_) (fun h9 => absurd h9 (by decide))
  refine lv_iload_n hx hb dX3_taken_10 rfl (lv_at hl 2 rfl) ?_
  refine lv_iconst (v := 0) hx hb dX3_taken_11 (by decide) ?_
  refine lv_iconst (v := 2) hx hb dX3_taken_12 (by decide) ?_
  refine s_call0 3 hx hb hts hown hml (kX3_in_f l p1 0 2 h2) rfl gX3_taken_X3_in rfl rfl rfl (by decide +kernel) ⟨Nat.le_of_ble_eq_true rfl, Nat.le_of_ble_eq_true rfl⟩ hl.1 rfl (Nat.le_of_ble_eq_true rfl) dX3_taken_13 ⟨Nat.zero_le _, Nat.zero_le _⟩ (fun r hp => ?_)
  subst hp
  refine lv_if_eq (tgt := 32) hx hb dX3_taken_16 (by decide) (fun _ => ?_) (fun h9 => absurd (by decide) h9)
  refine lv_aload_n hx hb dX3_taken_32 rfl (lv_at hl 0 rfl) ?_
  refine lv_iconst (v := 2) hx hb dX3_taken_33 (by decide) ?_
  refine m_call 1 hx hb hts hown hml (kX3_fails l hI (mu M 16 0 0) 2) rfl gX3_taken_X3_fails rfl rfl rfl (by decide +kernel) ⟨Nat.le_of_ble_eq_true rfl, Nat.le_of_ble_eq_true rfl⟩ hl.1 hW hK hS (fun _ h => h) rfl (Nat.le_of_ble_eq_true rfl) dX3_taken_34 ⟨Nat.zero_le _, Nat.zero_le _⟩ (fun r M9 H locs hp hW _ _ hS => ?_)
  obtain ⟨rfl, rfl⟩ := hp
  exact m_ret hx hb hr hlocks hK hW hS ⟨rfl, rfl⟩ dX3_taken_37
set_option maxHeartbeats 4000000 in
set_option maxRecDepth 100000 in
theorem kX3_taken_ok (l : Launch) {D : va_G} {cI cO cL cJ : ClassId} {ao : Nat} {q : Nat → Nat} (hI : mI ao q) (M : MS) (o n g : Nat) (ho : o < n) (hn : n ≤ 30) (hM1 : M 1 0 = nI n) (hg : g ≤ 2) : Met l yX3_taken wsX3_taken ({ frames := 2, cells := 0, slots := 0, locals := 43 } : Room) (mP D cI cO cL cJ ao q M [.int (nI o), .int (nI g)]) (mQ D cI cO cL cJ ao q (fun (r : Int32) (M9 : MS) => r = M 9 (3 * o + g) ∧ M9 = th0 M)) 0 0 (mA ao q) := by
  refine m_body (cc := cX3_taken) (maxL := 3) (ret := some .int) (by decide) rfl [.int (nI o), .int (nI g)] (Nat.le_of_ble_eq_true rfl) ?_
  intro p e s m args below meth c hx hb hr hts hown hml hlocks hW hK ls hl
  have hown : s.vm.findClass RX3 = some m.cls := hown
  have hl : lv_has ls 3 [(0, .ref ao), (1, .int (nI o)), (2, .int (nI g))] := hl
  have hin : ∀ w ∈ u_ws RX3 TX3 17, w ∈ wsX3_taken := (fun w h => List.mem_cons_of_mem _ (List.mem_append_right _ (h)))
  have hS : va_S (mA ao q) s.heap s.heap [] := va_S.rf
  refine lv_aload_n hx hb dX3_taken_0 rfl (lv_at hl 0 rfl) ?_
  refine lv_iload_n hx hb dX3_taken_1 rfl (lv_at hl 1 rfl) ?_
  refine m_call 1 hx hb hts hown hml (kX3_isOrder_ok l hI M o n ho hn hM1) rfl gX3_taken_X3_isOrder rfl rfl rfl (by decide +kernel) ⟨Nat.le_of_ble_eq_true rfl, Nat.le_of_ble_eq_true rfl⟩ hl.1 hW hK hS (fun _ h => h) rfl (Nat.le_of_ble_eq_true rfl) dX3_taken_2 ⟨Nat.zero_le _, Nat.zero_le _⟩ (fun r M9 H locs hp hW _ _ hS => ?_)
  obtain ⟨rfl, rfl⟩ := hp
  refine lv_if_ne (tgt := 10) hx hb dX3_taken_5 (by decide) (fun _ => ?_) (fun h9 => absurd h9 (by decide))
  refine lv_iload_n hx hb dX3_taken_10 rfl (lv_at hl 2 rfl) ?_
  refine lv_iconst (v := 0) hx hb dX3_taken_11 (by decide) ?_
  refine lv_iconst (v := 2) hx hb dX3_taken_12 (by decide) ?_
  refine s_call0 3 hx hb hts hown hml (kX3_in_t l (nI g) 0 2 (in_g hg)) rfl gX3_taken_X3_in rfl rfl rfl (by decide +kernel) ⟨Nat.le_of_ble_eq_true rfl, Nat.le_of_ble_eq_true rfl⟩ hl.1 rfl (Nat.le_of_ble_eq_true rfl) dX3_taken_13 ⟨Nat.zero_le _, Nat.zero_le _⟩ (fun r hp => ?_)
  subst hp
  refine lv_if_eq (tgt := 32) hx hb dX3_taken_16 (by decide) (fun h9 => absurd h9 (by decide)) (fun _ => ?_)
  refine lv_aload_n hx hb dX3_taken_19 rfl (lv_at hl 0 rfl) ?_
  refine m_get (v := .ref (q 9)) hx hb hts hin hown hK hW 9 (by decide) (hts (.fieldLink RX3 31 "ReturnsDeskModel" "taken" "[I") (List.mem_of_getElem? (i := 1) rfl)) (fun _ h9 => h9) rfl dX3_taken_20 ?_
  refine lv_iconst (v := 3) hx hb dX3_taken_23 (by decide) ?_
  refine lv_iload_n hx hb dX3_taken_24 rfl (lv_at hl 1 rfl) ?_
  refine lv_imul hx hb dX3_taken_25 ?_
  refine cv (y := nI (3 * o)) (nI_mulx (a := 3) (b := o) rfl rfl) ?_
  refine lv_iload_n hx hb dX3_taken_26 rfl (lv_at hl 2 rfl) ?_
  refine lv_iadd hx hb dX3_taken_27 ?_
  refine cv (y := nI (3 * o + g)) (nI_addx (a := 3 * o) (b := g) rfl rfl) ?_
  refine m_ald (v := M 9 (3 * o + g)) hx hb hK hW 9 (3 * o + g) (by decide) rfl (show 3 * o + g < 90 by omega) (mu_f _ _ _ _ (by decide)) dX3_taken_28 ?_
  refine lv_goto (tgt := 37) hx hb dX3_taken_29 (by decide) ?_
  exact m_ret hx hb hr hlocks hK hW hS ⟨rfl, rfl⟩ dX3_taken_37
set_option maxHeartbeats 4000000 in
set_option maxRecDepth 100000 in
theorem kX3_isShortBy_bad (l : Launch) {D : va_G} {cI cO cL cJ : ClassId} {ao : Nat} {q : Nat → Nat} (hI : mI ao q) (M : MS) (p0 : Int32) (n : Nat) (hbad : ¬ vp_in p0 n) (hn : n ≤ 30) (hM1 : M 1 0 = nI n) : Met l yX3_isShortBy wsX3_isShortBy ({ frames := 2, cells := 0, slots := 0, locals := 43 } : Room) (mP D cI cO cL cJ ao q M [.int p0]) (mQ D cI cO cL cJ ao q (fun (r : Int32) (M9 : MS) => r = 0 ∧ M9 = mu M 16 0 1)) 0 0 (mA ao q) := by
  refine m_body (cc := cX3_isShortBy) (maxL := 3) (ret := some .int) (by decide) rfl [.int p0] (Nat.le_of_ble_eq_true rfl) ?_
  intro p e s m args below meth c hx hb hr hts hown hml hlocks hW hK ls hl
  have hown : s.vm.findClass RX3 = some m.cls := hown
  have hl : lv_has ls 3 [(0, .ref ao), (1, .int p0)] := hl
  have hin : ∀ w ∈ u_ws RX3 TX3 17, w ∈ wsX3_isShortBy := (fun w h => List.mem_cons_of_mem _ (List.mem_append_right _ (h)))
  have hS : va_S (mA ao q) s.heap s.heap [] := va_S.rf
  refine lv_aload_n hx hb dX3_isShortBy_0 rfl (lv_at hl 0 rfl) ?_
  refine lv_iload_n hx hb dX3_isShortBy_1 rfl (lv_at hl 1 rfl) ?_
  refine m_call 1 hx hb hts hown hml (kX3_isOrder_bad l hI M p0 n hbad hn hM1) rfl gX3_isShortBy_X3_isOrder rfl rfl rfl (by decide +kernel) ⟨Nat.le_of_ble_eq_true rfl, Nat.le_of_ble_eq_true rfl⟩ hl.1 hW hK hS (fun _ h => h) rfl (Nat.le_of_ble_eq_true rfl) dX3_isShortBy_2 ⟨Nat.zero_le _, Nat.zero_le _⟩ (fun r M9 H locs hp hW _ _ hS => ?_)
  obtain ⟨rfl, rfl⟩ := hp
  refine lv_if_eq (tgt := 17) hx hb dX3_isShortBy_5 (by decide) (fun _ => ?_) (fun h9 => absurd (by decide) h9)
  refine lv_iconst (v := 0) hx hb dX3_isShortBy_17 (by decide) ?_
  exact m_ret hx hb hr hlocks hK hW hS ⟨rfl, rfl⟩ dX3_isShortBy_18
set_option maxHeartbeats 4000000 in
set_option maxRecDepth 100000 in
theorem kX3_isShortBy_ok (l : Launch) {D : va_G} {cI cO cL cJ : ClassId} {ao : Nat} {q : Nat → Nat} (hI : mI ao q) (M : MS) (o n kc : Nat) (ho : o < n) (hn : n ≤ 30) (hM1 : M 1 0 = nI n) (hkc : kc ≤ 8) (hM4 : M 4 o = nI kc) : Met l yX3_isShortBy wsX3_isShortBy ({ frames := 2, cells := 0, slots := 0, locals := 44 } : Room) (mP D cI cO cL cJ ao q M [.int (nI o)]) (mQ D cI cO cL cJ ao q (fun (r : Int32) (M9 : MS) => r = mShort M o kc ∧ M9 = th0 M)) 0 0 (mA ao q) := by
  refine m_body (cc := cX3_isShortBy) (maxL := 3) (ret := some .int) (by decide) rfl [.int (nI o)] (Nat.le_of_ble_eq_true rfl) ?_
  intro p e s m args below meth c hx hb hr hts hown hml hlocks hW hK ls hl
  have hown : s.vm.findClass RX3 = some m.cls := hown
  have hl : lv_has ls 3 [(0, .ref ao), (1, .int (nI o))] := hl
  have hin : ∀ w ∈ u_ws RX3 TX3 17, w ∈ wsX3_isShortBy := (fun w h => List.mem_cons_of_mem _ (List.mem_append_right _ (h)))
  have hS : va_S (mA ao q) s.heap s.heap [] := va_S.rf
  refine lv_aload_n hx hb dX3_isShortBy_0 rfl (lv_at hl 0 rfl) ?_
  refine lv_iload_n hx hb dX3_isShortBy_1 rfl (lv_at hl 1 rfl) ?_
  refine m_call 1 hx hb hts hown hml (kX3_isOrder_ok l hI M o n ho hn hM1) rfl gX3_isShortBy_X3_isOrder rfl rfl rfl (by decide +kernel) ⟨Nat.le_of_ble_eq_true rfl, Nat.le_of_ble_eq_true rfl⟩ hl.1 hW hK hS (fun _ h => h) rfl (Nat.le_of_ble_eq_true rfl) dX3_isShortBy_2 ⟨Nat.zero_le _, Nat.zero_le _⟩ (fun r M9 H locs hp hW _ _ hS => ?_)
  obtain ⟨rfl, rfl⟩ := hp
  refine lv_if_eq (tgt := 17) hx hb dX3_isShortBy_5 (by decide) (fun h9 => absurd h9 (by decide)) (fun _ => ?_)
  refine lv_aload_n hx hb dX3_isShortBy_8 rfl (lv_at hl 0 rfl) ?_
  refine m_get (v := .ref (q 5)) hx hb hts hin hown hK hW 5 (by decide) (hts (.fieldLink RX3 19 "ReturnsDeskModel" "days" "[I") (List.mem_of_getElem? (i := 1) rfl)) (fun _ h9 => h9) rfl dX3_isShortBy_9 ?_
  refine lv_iload_n hx hb dX3_isShortBy_12 rfl (lv_at hl 1 rfl) ?_
  refine m_ald (v := M 5 o) hx hb hK hW 5 o (by decide) rfl (show o < 30 by omega) (mu_f _ _ _ _ (by decide)) dX3_isShortBy_13 ?_
  refine lv_if_ne (tgt := 19) hx hb dX3_isShortBy_14 (by decide) (fun c14 => ?_) (fun c14 => ?_)
  · skip
    refine lv_aload_n hx hb dX3_isShortBy_19 rfl (lv_at hl 0 rfl) ?_
    refine lv_iload_n hx hb dX3_isShortBy_20 rfl (lv_at hl 1 rfl) ?_
    refine m_call0 1 hx hb hts hown hml (kX3_owes l (mu M 16 0 0) o n kc ho hn hkc (((mu_f _ _ _ _ (by decide))).trans hM4)) rfl gX3_isShortBy_X3_owes rfl rfl rfl (by decide +kernel) ⟨Nat.le_of_ble_eq_true rfl, Nat.le_of_ble_eq_true rfl⟩ hl.1 hW hK rfl (Nat.le_of_ble_eq_true rfl) dX3_isShortBy_21 ⟨Nat.zero_le _, Nat.zero_le _⟩ (fun r hp => ?_)
    subst hp
    refine lv_aload_n hx hb dX3_isShortBy_24 rfl (lv_at hl 0 rfl) ?_
    refine lv_iload_n hx hb dX3_isShortBy_25 rfl (lv_at hl 1 rfl) ?_
    refine m_call0 1 hx hb hts hown hml (kX3_takenOf l (mu M 16 0 0) o n ho hn) rfl gX3_isShortBy_X3_takenOf rfl rfl rfl (by decide +kernel) ⟨Nat.le_of_ble_eq_true rfl, Nat.le_of_ble_eq_true rfl⟩ hl.1 hW hK rfl (Nat.le_of_ble_eq_true rfl) dX3_isShortBy_26 ⟨Nat.zero_le _, Nat.zero_le _⟩ (fun r hp => ?_)
    subst hp
    refine lv_isub hx hb dX3_isShortBy_29 ?_
    refine lv_istore_n (lv' := [(2, .int ((owesM (mu M 16 0 0) o kc) - (takenM (mu M 16 0 0) o))), (0, .ref ao), (1, .int (nI o))]) hx hb dX3_isShortBy_30 rfl hl (by decide) rfl (fun ls hl => ?_)
    refine lv_iload_n hx hb dX3_isShortBy_31 rfl (lv_at hl 0 rfl) ?_
    refine lv_if_le (tgt := 39) hx hb dX3_isShortBy_32 (by decide) (fun c32 => ?_) (fun c32 => ?_)
    · skip
      refine lv_iconst (v := 0) hx hb dX3_isShortBy_39 (by decide) ?_
      exact m_ret hx hb hr hlocks hK hW hS ⟨by unfold mShort; rw [if_neg c14, if_pos c32] <;> rfl, rfl⟩ dX3_isShortBy_40
    · skip
      refine lv_iload_n hx hb dX3_isShortBy_35 rfl (lv_at hl 0 rfl) ?_
      refine lv_goto (tgt := 40) hx hb dX3_isShortBy_36 (by decide) ?_
      exact m_ret hx hb hr hlocks hK hW hS ⟨by unfold mShort; rw [if_neg c14, if_neg c32] <;> rfl, rfl⟩ dX3_isShortBy_40
  · skip
    refine lv_iconst (v := 0) hx hb dX3_isShortBy_17 (by decide) ?_
    exact m_ret hx hb hr hlocks hK hW hS ⟨by unfold mShort; rw [if_pos c14] <;> rfl, rfl⟩ dX3_isShortBy_18
set_option maxHeartbeats 4000000 in
set_option maxRecDepth 100000 in
theorem kX3_stock_bad (l : Launch) {D : va_G} {cI cO cL cJ : ClassId} {ao : Nat} {q : Nat → Nat} (hI : mI ao q) (M : MS) (p0 : Int32) (h2 : ¬ inR p0 0 2) : Met l yX3_stock wsX3_stock ({ frames := 1, cells := 0, slots := 0, locals := 22 } : Room) (mP D cI cO cL cJ ao q M [.int p0]) (mQ D cI cO cL cJ ao q (fun (r : Int32) (M9 : MS) => r = 0 ∧ M9 = mu M 16 0 1)) 0 0 (mA ao q) := by
  refine m_body (cc := cX3_stock) (maxL := 2) (ret := some .int) (by decide) rfl [.int p0] (Nat.le_of_ble_eq_true rfl) ?_
  intro p e s m args below meth c hx hb hr hts hown hml hlocks hW hK ls hl
  have hown : s.vm.findClass RX3 = some m.cls := hown
  have hl : lv_has ls 2 [(0, .ref ao), (1, .int p0)] := hl
  have hin : ∀ w ∈ u_ws RX3 TX3 17, w ∈ wsX3_stock := (fun w h => List.mem_cons_of_mem _ (List.mem_append_right _ (h)))
  have hS : va_S (mA ao q) s.heap s.heap [] := va_S.rf
  refine lv_aload_n hx hb dX3_stock_0 rfl (lv_at hl 0 rfl) ?_
  refine lv_iload_n hx hb dX3_stock_1 rfl (lv_at hl 1 rfl) ?_
  refine lv_iconst (v := 0) hx hb dX3_stock_2 (by decide) ?_
  refine lv_iconst (v := 2) hx hb dX3_stock_3 (by decide) ?_
  refine s_call0 3 hx hb hts hown hml (kX3_in_f l p0 0 2 h2) rfl gX3_stock_X3_in rfl rfl rfl (by decide +kernel) ⟨Nat.le_of_ble_eq_true rfl, Nat.le_of_ble_eq_true rfl⟩ hl.1 rfl (Nat.le_of_ble_eq_true rfl) dX3_stock_4 ⟨Nat.zero_le _, Nat.zero_le _⟩ (fun r hp => ?_)
  subst hp
  refine lv_if_eq (tgt := 14) hx hb dX3_stock_7 (by decide) (fun _ => ?_) (fun h9 => absurd (by decide) h9)
  refine lv_iconst (v := 1) hx hb dX3_stock_14 (by decide) ?_
  refine m_put hx hb hts hin hown hK hI hW hS 16 (by decide) (hts (.fieldLink RX3 52 "ReturnsDeskModel" "thrown" "I") (List.mem_of_getElem? (i := 1) rfl)) (fun _ h9 => h9) dX3_stock_15 (fun H locs hW hS => ?_)
  refine lv_aload_n hx hb dX3_stock_18 rfl (lv_at hl 0 rfl) ?_
  refine m_get (v := .int 1) hx hb hts hin hown hK hW 16 (by decide) (hts (.fieldLink RX3 52 "ReturnsDeskModel" "thrown" "I") (List.mem_of_getElem? (i := 1) rfl)) (fun _ h9 => h9) (congrArg (fun z => some (Value.int z)) (mu_s _ _ _ _)) dX3_stock_19 ?_
  refine lv_if_ne (tgt := 34) hx hb dX3_stock_22 (by decide) (fun _ => ?_) (fun h9 => absurd h9 (by decide))
  refine lv_iconst (v := 0) hx hb dX3_stock_34 (by decide) ?_
  exact m_ret hx hb hr hlocks hK hW hS ⟨rfl, rfl⟩ dX3_stock_35
set_option maxHeartbeats 4000000 in
set_option maxRecDepth 100000 in
theorem kX3_stock_ok (l : Launch) {D : va_G} {cI cO cL cJ : ClassId} {ao : Nat} {q : Nat → Nat} (hI : mI ao q) (M : MS) (g : Nat) (hg : g ≤ 2) : Met l yX3_stock wsX3_stock ({ frames := 1, cells := 0, slots := 0, locals := 22 } : Room) (mP D cI cO cL cJ ao q M [.int (nI g)]) (mQ D cI cO cL cJ ao q (fun (r : Int32) (M9 : MS) => r = M 15 g ∧ M9 = th0 M)) 0 0 (mA ao q) := by
  refine m_body (cc := cX3_stock) (maxL := 2) (ret := some .int) (by decide) rfl [.int (nI g)] (Nat.le_of_ble_eq_true rfl) ?_
  intro p e s m args below meth c hx hb hr hts hown hml hlocks hW hK ls hl
  have hown : s.vm.findClass RX3 = some m.cls := hown
  have hl : lv_has ls 2 [(0, .ref ao), (1, .int (nI g))] := hl
  have hin : ∀ w ∈ u_ws RX3 TX3 17, w ∈ wsX3_stock := (fun w h => List.mem_cons_of_mem _ (List.mem_append_right _ (h)))
  have hS : va_S (mA ao q) s.heap s.heap [] := va_S.rf
  refine lv_aload_n hx hb dX3_stock_0 rfl (lv_at hl 0 rfl) ?_
  refine lv_iload_n hx hb dX3_stock_1 rfl (lv_at hl 1 rfl) ?_
  refine lv_iconst (v := 0) hx hb dX3_stock_2 (by decide) ?_
  refine lv_iconst (v := 2) hx hb dX3_stock_3 (by decide) ?_
  refine s_call0 3 hx hb hts hown hml (kX3_in_t l (nI g) 0 2 (in_g hg)) rfl gX3_stock_X3_in rfl rfl rfl (by decide +kernel) ⟨Nat.le_of_ble_eq_true rfl, Nat.le_of_ble_eq_true rfl⟩ hl.1 rfl (Nat.le_of_ble_eq_true rfl) dX3_stock_4 ⟨Nat.zero_le _, Nat.zero_le _⟩ (fun r hp => ?_)
  subst hp
  refine lv_if_eq (tgt := 14) hx hb dX3_stock_7 (by decide) (fun h9 => absurd h9 (by decide)) (fun _ => ?_)
  refine lv_iconst (v := 0) hx hb dX3_stock_10 (by decide) ?_
  refine lv_goto (tgt := 15) hx hb dX3_stock_11 (by decide) ?_
  refine m_put hx hb hts hin hown hK hI hW hS 16 (by decide) (hts (.fieldLink RX3 52 "ReturnsDeskModel" "thrown" "I") (List.mem_of_getElem? (i := 1) rfl)) (fun _ h9 => h9) dX3_stock_15 (fun H locs hW hS => ?_)
  refine lv_aload_n hx hb dX3_stock_18 rfl (lv_at hl 0 rfl) ?_
  refine m_get (v := .int 0) hx hb hts hin hown hK hW 16 (by decide) (hts (.fieldLink RX3 52 "ReturnsDeskModel" "thrown" "I") (List.mem_of_getElem? (i := 1) rfl)) (fun _ h9 => h9) (congrArg (fun z => some (Value.int z)) (mu_s _ _ _ _)) dX3_stock_19 ?_
  refine lv_if_ne (tgt := 34) hx hb dX3_stock_22 (by decide) (fun h9 => absurd (by decide) h9) (fun _ => ?_)
  refine lv_aload_n hx hb dX3_stock_25 rfl (lv_at hl 0 rfl) ?_
  refine m_get (v := .ref (q 15)) hx hb hts hin hown hK hW 15 (by decide) (hts (.fieldLink RX3 49 "ReturnsDeskModel" "stocks" "[I") (List.mem_of_getElem? (i := 2) rfl)) (fun _ h9 => h9) rfl dX3_stock_26 ?_
  refine lv_iload_n hx hb dX3_stock_29 rfl (lv_at hl 1 rfl) ?_
  refine m_ald (v := M 15 g) hx hb hK hW 15 g (by decide) rfl (show g < 3 by omega) (mu_f _ _ _ _ (by decide)) dX3_stock_30 ?_
  refine lv_goto (tgt := 35) hx hb dX3_stock_31 (by decide) ?_
  exact m_ret hx hb hr hlocks hK hW hS ⟨rfl, rfl⟩ dX3_stock_35
set_option maxHeartbeats 4000000 in
set_option maxRecDepth 100000 in
theorem kX3_ending (l : Launch) {D : va_G} {cI cO cL cJ : ClassId} {ao : Nat} {q : Nat → Nat} (hI : mI ao q) (M : MS) (n : Nat) (hn : n ≤ 30) (hM1 : M 1 0 = nI n) : Met l yX3_ending wsX3_ending ({ frames := 0, cells := 0, slots := 0, locals := 0 } : Room) (mP D cI cO cL cJ ao q M []) (mQ D cI cO cL cJ ao q (fun (r : Int32) (M9 : MS) => r = (eIt M (8 * n)).1 ∧ M9 = (eIt M (8 * n)).2)) 0 0 (mA ao q) := by
  refine m_body (cc := cX3_ending) (maxL := 4) (ret := some .int) (by decide) rfl [] (Nat.le_of_ble_eq_true rfl) ?_
  intro p e s m args below meth c hx hb hr hts hown hml hlocks hW hK ls hl
  have hown : s.vm.findClass RX3 = some m.cls := hown
  have hl : lv_has ls 4 [(0, .ref ao)] := hl
  have hin : ∀ w ∈ u_ws RX3 TX3 17, w ∈ wsX3_ending := (fun w h => List.mem_cons_of_mem _ (List.mem_append_right _ (h)))
  have hS : va_S (mA ao q) s.heap s.heap [] := va_S.rf
  refine lv_iconst (v := 0) hx hb dX3_ending_0 (by decide) ?_
  refine lv_istore_n (lv' := [(1, .int 0), (0, .ref ao)]) hx hb dX3_ending_1 rfl hl (by decide) rfl (fun ls hl => ?_)
  refine lv_iconst (v := 0) hx hb dX3_ending_2 (by decide) ?_
  refine lv_istore_n (lv' := [(2, .int 0), (1, .int 0), (0, .ref ao)]) hx hb dX3_ending_3 rfl hl (by decide) rfl (fun ls hl => ?_)
  have loop : ∀ (k i : Nat) (B : Int32 × MS) (H : Heap) (locs : List Loc) (ls : Array Slot), B = eIt M i → B.2 1 0 = nI n → i ≤ 8 * n → 8 * n - i < k → mW D cI ao q B.2 H → va_S (mA ao q) s.heap H locs → lv_has ls 4 [(2, .int (nI i)), (1, .int B.1), (0, .ref ao)] → W p l e ({ frames := 0, cells := 0, slots := 0, locals := 0 } : Room) s m args below meth c H locs 0 0 (MQ below (mQ D cI cO cL cJ ao q (fun (r : Int32) (M9 : MS) => r = (eIt M (8 * n)).1 ∧ M9 = (eIt M (8 * n)).2)) args s 0 0 (mA ao q)) (F0 m 4 ls []) := by
    intro k
    induction k with
    | zero => intro i B H locs ls h0 h9 h1 h2; exact absurd h2 (by omega)
    | succ k ih =>
      intro i B H locs ls hB hB1 hi hk hW hS hl
      refine lv_iload_n hx hb dX3_ending_4 rfl (lv_at hl 0 rfl) ?_
      refine lv_bipush (v := 8) hx hb dX3_ending_5 (by decide) ?_
      refine lv_aload_n hx hb dX3_ending_7 rfl (lv_at hl 2 rfl) ?_
      refine m_get (v := .int (B.2 1 0)) hx hb hts hin hown hK hW 1 (by decide) (hts (.fieldLink RX3 56 "ReturnsDeskModel" "orders" "I") (List.mem_of_getElem? (i := 1) rfl)) (fun _ h9 => h9) rfl dX3_ending_8 ?_
      refine cv (y := nI n) hB1 ?_
      refine lv_imul hx hb dX3_ending_11 ?_
      refine cv (y := nI (8 * n)) (nI_mulx (a := 8) (b := n) rfl rfl) ?_
      refine lv_icmp_ge (tgt := 113) hx hb dX3_ending_12 (by decide) (fun c12 => ?_) (fun c12 => ?_)
      · skip
        have hie : i = 8 * n := by
          rcases Nat.lt_or_ge i (8 * n) with z | z
          · exact absurd c12 (nI_ge z (by omega))
          · omega
        rw [hie] at hB
        refine lv_iload_n hx hb dX3_ending_113 rfl (lv_at hl 1 rfl) ?_
        exact m_ret hx hb hr hlocks hK hW hS ⟨by rw [hB], by rw [hB]⟩ dX3_ending_114
      · skip
        have hi9 : i < 8 * n := Nat.not_le.mp (fun z => c12 (nI_le z (by omega)))
        refine lv_aload_n hx hb dX3_ending_15 rfl (lv_at hl 2 rfl) ?_
        refine m_get (v := .ref (q 12)) hx hb hts hin hown hK hW 12 (by decide) (hts (.fieldLink RX3 40 "ReturnsDeskModel" "states" "[I") (List.mem_of_getElem? (i := 2) rfl)) (fun _ h9 => h9) rfl dX3_ending_16 ?_
        refine lv_iload_n hx hb dX3_ending_19 rfl (lv_at hl 0 rfl) ?_
        refine m_ald (v := B.2 12 i) hx hb hK hW 12 i (by decide) rfl (show i < 240 by omega) rfl dX3_ending_20 ?_
        refine lv_iconst (v := 1) hx hb dX3_ending_21 (by decide) ?_
        refine lv_icmp_eq (tgt := 35) hx hb dX3_ending_22 (by decide) (fun c22 => ?_) (fun c22 => ?_)
        · skip
          refine lv_aload_n hx hb dX3_ending_35 rfl (lv_at hl 2 rfl) ?_
          refine m_get (v := .ref (q 14)) hx hb hts hin hown hK hW 14 (by decide) (hts (.fieldLink RX3 46 "ReturnsDeskModel" "ends" "[I") (List.mem_of_getElem? (i := 3) rfl)) (fun _ h9 => h9) rfl dX3_ending_36 ?_
          refine lv_iload_n hx hb dX3_ending_39 rfl (lv_at hl 0 rfl) ?_
          refine m_ald (v := B.2 14 i) hx hb hK hW 14 i (by decide) rfl (show i < 240 by omega) rfl dX3_ending_40 ?_
          refine lv_aload_n hx hb dX3_ending_41 rfl (lv_at hl 2 rfl) ?_
          refine m_get (v := .int (B.2 0 0)) hx hb hts hin hown hK hW 0 (by decide) (hts (.fieldLink RX3 80 "ReturnsDeskModel" "day" "I") (List.mem_of_getElem? (i := 4) rfl)) (fun _ h9 => h9) rfl dX3_ending_42 ?_
          refine lv_icmp_ne (tgt := 107) hx hb dX3_ending_45 (by decide) (fun c45 => ?_) (fun c45 => ?_)
          · skip
            refine lv_iinc (v := nI (i + 1)) (lv' := [(2, .int (nI (i + 1))), (1, .int B.1), (0, .ref ao)]) hx hb dX3_ending_107 hl (k := 0) rfl (nI_addx (a := i) (b := 1) rfl rfl) (by decide) rfl (fun ls hl => ?_)
            refine lv_goto (tgt := 4) hx hb dX3_ending_110 (by decide) ?_
            exact ih (i + 1) (B.1, B.2) H locs ls (by show _ = eNext (eIt M i) i; rw [← hB]; unfold eNext; rw [if_pos c22, if_neg c45] <;> rfl) hB1 (by omega) (by omega) hW hS (lv_sub hl [0, 1, 2] rfl)
          · skip
            refine lv_aload_n hx hb dX3_ending_48 rfl (lv_at hl 2 rfl) ?_
            refine m_get (v := .ref (q 12)) hx hb hts hin hown hK hW 12 (by decide) (hts (.fieldLink RX3 40 "ReturnsDeskModel" "states" "[I") (List.mem_of_getElem? (i := 2) rfl)) (fun _ h9 => h9) rfl dX3_ending_49 ?_
            refine lv_iload_n hx hb dX3_ending_52 rfl (lv_at hl 0 rfl) ?_
            refine m_ald (v := B.2 12 i) hx hb hK hW 12 i (by decide) rfl (show i < 240 by omega) rfl dX3_ending_53 ?_
            refine lv_iconst (v := 2) hx hb dX3_ending_54 (by decide) ?_
            refine lv_icmp_ne (tgt := 67) hx hb dX3_ending_55 (by decide) (fun _ => ?_) (fun h9 => absurd h9 (by rw [c22]; decide))
            refine lv_iconst (v := 0) hx hb dX3_ending_67 (by decide) ?_
            refine lv_istore_n (lv' := [(3, .int 0), (2, .int (nI i)), (1, .int B.1), (0, .ref ao)]) hx hb dX3_ending_68 rfl hl (by decide) rfl (fun ls hl => ?_)
            refine lv_aload_n hx hb dX3_ending_69 rfl (lv_at hl 3 rfl) ?_
            refine m_get (v := .ref (q 7)) hx hb hts hin hown hK hW 7 (by decide) (hts (.fieldLink RX3 25 "ReturnsDeskModel" "charges" "[I") (List.mem_of_getElem? (i := 6) rfl)) (fun _ h9 => h9) rfl dX3_ending_70 ?_
            refine lv_iload_n hx hb dX3_ending_73 rfl (lv_at hl 1 rfl) ?_
            refine lv_bipush (v := 8) hx hb dX3_ending_74 (by decide) ?_
            refine lv_idiv hx hb dX3_ending_76 (by decide) ?_
            refine cv (y := nI (i / 8)) (pk_div (d := 8) (by omega) (by decide) (by decide)) ?_
            refine lv_dup2_11 hx hb dX3_ending_77 rfl rfl ?_
            refine m_ald (v := B.2 7 (i / 8)) hx hb hK hW 7 (i / 8) (by decide) rfl (show i / 8 < 30 by omega) rfl dX3_ending_78 ?_
            refine lv_iload_n hx hb dX3_ending_79 rfl (lv_at hl 0 rfl) ?_
            refine lv_iadd hx hb dX3_ending_80 ?_
            refine m_ast hx hb hK hI hW hS 7 (i / 8) (by decide) rfl (show i / 8 < 30 by omega) dX3_ending_81 (fun H locs hW hS => ?_)
            refine lv_aload_n hx hb dX3_ending_82 rfl (lv_at hl 3 rfl) ?_
            refine m_get (v := .ref (q 9)) hx hb hts hin hown hK hW 9 (by decide) (hts (.fieldLink RX3 31 "ReturnsDeskModel" "taken" "[I") (List.mem_of_getElem? (i := 7) rfl)) (fun _ h9 => h9) rfl dX3_ending_83 ?_
            refine lv_iconst (v := 3) hx hb dX3_ending_86 (by decide) ?_
            refine lv_iload_n hx hb dX3_ending_87 rfl (lv_at hl 1 rfl) ?_
            refine lv_bipush (v := 8) hx hb dX3_ending_88 (by decide) ?_
            refine lv_idiv hx hb dX3_ending_90 (by decide) ?_
            refine cv (y := nI (i / 8)) (pk_div (d := 8) (by omega) (by decide) (by decide)) ?_
            refine lv_imul hx hb dX3_ending_91 ?_
            refine cv (y := nI (3 * (i / 8))) (nI_mulx (a := 3) (b := i / 8) rfl rfl) ?_
            refine lv_dup2_11 hx hb dX3_ending_92 rfl rfl ?_
            refine m_ald (v := B.2 9 (3 * (i / 8))) hx hb hK hW 9 (3 * (i / 8)) (by decide) rfl (show 3 * (i / 8) < 90 by omega) (mu_f _ _ _ _ (by decide)) dX3_ending_93 ?_
            refine lv_iload_n hx hb dX3_ending_94 rfl (lv_at hl 0 rfl) ?_
            refine lv_iadd hx hb dX3_ending_95 ?_
            refine m_ast hx hb hK hI hW hS 9 (3 * (i / 8)) (by decide) rfl (show 3 * (i / 8) < 90 by omega) dX3_ending_96 (fun H locs hW hS => ?_)
            refine lv_aload_n hx hb dX3_ending_97 rfl (lv_at hl 3 rfl) ?_
            refine m_get (v := .ref (q 12)) hx hb hts hin hown hK hW 12 (by decide) (hts (.fieldLink RX3 40 "ReturnsDeskModel" "states" "[I") (List.mem_of_getElem? (i := 2) rfl)) (fun _ h9 => h9) rfl dX3_ending_98 ?_
            refine lv_iload_n hx hb dX3_ending_101 rfl (lv_at hl 1 rfl) ?_
            refine lv_iconst (v := 0) hx hb dX3_ending_102 (by decide) ?_
            refine m_ast hx hb hK hI hW hS 12 i (by decide) rfl (show i < 240 by omega) dX3_ending_103 (fun H locs hW hS => ?_)
            refine lv_iinc (v := B.1 + 1) (lv' := [(1, .int (B.1 + 1)), (3, .int 0), (2, .int (nI i)), (0, .ref ao)]) hx hb dX3_ending_104 hl (k := 2) rfl rfl (by decide) rfl (fun ls hl => ?_)
            refine lv_iinc (v := nI (i + 1)) (lv' := [(2, .int (nI (i + 1))), (1, .int (B.1 + 1)), (3, .int 0), (0, .ref ao)]) hx hb dX3_ending_107 hl (k := 2) rfl (nI_addx (a := i) (b := 1) rfl rfl) (by decide) rfl (fun ls hl => ?_)
            refine lv_goto (tgt := 4) hx hb dX3_ending_110 (by decide) ?_
            exact ih (i + 1) (B.1 + 1, (mu (mu (mu B.2 7 (i / 8) ((B.2 7 (i / 8)) + 0)) 9 (3 * (i / 8)) ((B.2 9 (3 * (i / 8))) + 0)) 12 i 0)) H locs ls (by show _ = eNext (eIt M i) i; rw [← hB]; unfold eNext; rw [if_pos c22, if_pos c45] <;> rfl) hB1 (by omega) (by omega) hW hS (lv_sub hl [0, 1, 3] rfl)
        · skip
          refine lv_aload_n hx hb dX3_ending_25 rfl (lv_at hl 2 rfl) ?_
          refine m_get (v := .ref (q 12)) hx hb hts hin hown hK hW 12 (by decide) (hts (.fieldLink RX3 40 "ReturnsDeskModel" "states" "[I") (List.mem_of_getElem? (i := 2) rfl)) (fun _ h9 => h9) rfl dX3_ending_26 ?_
          refine lv_iload_n hx hb dX3_ending_29 rfl (lv_at hl 0 rfl) ?_
          refine m_ald (v := B.2 12 i) hx hb hK hW 12 i (by decide) rfl (show i < 240 by omega) rfl dX3_ending_30 ?_
          refine lv_iconst (v := 2) hx hb dX3_ending_31 (by decide) ?_
          refine lv_icmp_ne (tgt := 107) hx hb dX3_ending_32 (by decide) (fun c32 => ?_) (fun c32 => ?_)
          · skip
            refine lv_iinc (v := nI (i + 1)) (lv' := [(2, .int (nI (i + 1))), (1, .int B.1), (0, .ref ao)]) hx hb dX3_ending_107 hl (k := 0) rfl (nI_addx (a := i) (b := 1) rfl rfl) (by decide) rfl (fun ls hl => ?_)
            refine lv_goto (tgt := 4) hx hb dX3_ending_110 (by decide) ?_
            exact ih (i + 1) (B.1, B.2) H locs ls (by show _ = eNext (eIt M i) i; rw [← hB]; unfold eNext; rw [if_neg c22, if_neg c32] <;> rfl) hB1 (by omega) (by omega) hW hS (lv_sub hl [0, 1, 2] rfl)
          · skip
            refine lv_aload_n hx hb dX3_ending_35 rfl (lv_at hl 2 rfl) ?_
            refine m_get (v := .ref (q 14)) hx hb hts hin hown hK hW 14 (by decide) (hts (.fieldLink RX3 46 "ReturnsDeskModel" "ends" "[I") (List.mem_of_getElem? (i := 3) rfl)) (fun _ h9 => h9) rfl dX3_ending_36 ?_
            refine lv_iload_n hx hb dX3_ending_39 rfl (lv_at hl 0 rfl) ?_
            refine m_ald (v := B.2 14 i) hx hb hK hW 14 i (by decide) rfl (show i < 240 by omega) rfl dX3_ending_40 ?_
            refine lv_aload_n hx hb dX3_ending_41 rfl (lv_at hl 2 rfl) ?_
            refine m_get (v := .int (B.2 0 0)) hx hb hts hin hown hK hW 0 (by decide) (hts (.fieldLink RX3 80 "ReturnsDeskModel" "day" "I") (List.mem_of_getElem? (i := 4) rfl)) (fun _ h9 => h9) rfl dX3_ending_42 ?_
            refine lv_icmp_ne (tgt := 107) hx hb dX3_ending_45 (by decide) (fun c45 => ?_) (fun c45 => ?_)
            · skip
              refine lv_iinc (v := nI (i + 1)) (lv' := [(2, .int (nI (i + 1))), (1, .int B.1), (0, .ref ao)]) hx hb dX3_ending_107 hl (k := 0) rfl (nI_addx (a := i) (b := 1) rfl rfl) (by decide) rfl (fun ls hl => ?_)
              refine lv_goto (tgt := 4) hx hb dX3_ending_110 (by decide) ?_
              exact ih (i + 1) (B.1, B.2) H locs ls (by show _ = eNext (eIt M i) i; rw [← hB]; unfold eNext; rw [if_neg c22, if_pos c32, if_neg c45] <;> rfl) hB1 (by omega) (by omega) hW hS (lv_sub hl [0, 1, 2] rfl)
            · skip
              refine lv_aload_n hx hb dX3_ending_48 rfl (lv_at hl 2 rfl) ?_
              refine m_get (v := .ref (q 12)) hx hb hts hin hown hK hW 12 (by decide) (hts (.fieldLink RX3 40 "ReturnsDeskModel" "states" "[I") (List.mem_of_getElem? (i := 2) rfl)) (fun _ h9 => h9) rfl dX3_ending_49 ?_
              refine lv_iload_n hx hb dX3_ending_52 rfl (lv_at hl 0 rfl) ?_
              refine m_ald (v := B.2 12 i) hx hb hK hW 12 i (by decide) rfl (show i < 240 by omega) rfl dX3_ending_53 ?_
              refine lv_iconst (v := 2) hx hb dX3_ending_54 (by decide) ?_
              refine lv_icmp_ne (tgt := 67) hx hb dX3_ending_55 (by decide) (fun h9 => absurd c32 h9) (fun _ => ?_)
              refine lv_aload_n hx hb dX3_ending_58 rfl (lv_at hl 2 rfl) ?_
              refine m_get (v := .ref (q 10)) hx hb hts hin hown hK hW 10 (by decide) (hts (.fieldLink RX3 34 "ReturnsDeskModel" "prices" "[I") (List.mem_of_getElem? (i := 5) rfl)) (fun _ h9 => h9) rfl dX3_ending_59 ?_
              refine lv_iload_n hx hb dX3_ending_62 rfl (lv_at hl 0 rfl) ?_
              refine m_ald (v := B.2 10 i) hx hb hK hW 10 i (by decide) rfl (show i < 240 by omega) rfl dX3_ending_63 ?_
              refine lv_goto (tgt := 68) hx hb dX3_ending_64 (by decide) ?_
              refine lv_istore_n (lv' := [(3, .int (B.2 10 i)), (2, .int (nI i)), (1, .int B.1), (0, .ref ao)]) hx hb dX3_ending_68 rfl hl (by decide) rfl (fun ls hl => ?_)
              refine lv_aload_n hx hb dX3_ending_69 rfl (lv_at hl 3 rfl) ?_
              refine m_get (v := .ref (q 7)) hx hb hts hin hown hK hW 7 (by decide) (hts (.fieldLink RX3 25 "ReturnsDeskModel" "charges" "[I") (List.mem_of_getElem? (i := 6) rfl)) (fun _ h9 => h9) rfl dX3_ending_70 ?_
              refine lv_iload_n hx hb dX3_ending_73 rfl (lv_at hl 1 rfl) ?_
              refine lv_bipush (v := 8) hx hb dX3_ending_74 (by decide) ?_
              refine lv_idiv hx hb dX3_ending_76 (by decide) ?_
              refine cv (y := nI (i / 8)) (pk_div (d := 8) (by omega) (by decide) (by decide)) ?_
              refine lv_dup2_11 hx hb dX3_ending_77 rfl rfl ?_
              refine m_ald (v := B.2 7 (i / 8)) hx hb hK hW 7 (i / 8) (by decide) rfl (show i / 8 < 30 by omega) rfl dX3_ending_78 ?_
              refine lv_iload_n hx hb dX3_ending_79 rfl (lv_at hl 0 rfl) ?_
              refine lv_iadd hx hb dX3_ending_80 ?_
              refine m_ast hx hb hK hI hW hS 7 (i / 8) (by decide) rfl (show i / 8 < 30 by omega) dX3_ending_81 (fun H locs hW hS => ?_)
              refine lv_aload_n hx hb dX3_ending_82 rfl (lv_at hl 3 rfl) ?_
              refine m_get (v := .ref (q 9)) hx hb hts hin hown hK hW 9 (by decide) (hts (.fieldLink RX3 31 "ReturnsDeskModel" "taken" "[I") (List.mem_of_getElem? (i := 7) rfl)) (fun _ h9 => h9) rfl dX3_ending_83 ?_
              refine lv_iconst (v := 3) hx hb dX3_ending_86 (by decide) ?_
              refine lv_iload_n hx hb dX3_ending_87 rfl (lv_at hl 1 rfl) ?_
              refine lv_bipush (v := 8) hx hb dX3_ending_88 (by decide) ?_
              refine lv_idiv hx hb dX3_ending_90 (by decide) ?_
              refine cv (y := nI (i / 8)) (pk_div (d := 8) (by omega) (by decide) (by decide)) ?_
              refine lv_imul hx hb dX3_ending_91 ?_
              refine cv (y := nI (3 * (i / 8))) (nI_mulx (a := 3) (b := i / 8) rfl rfl) ?_
              refine lv_dup2_11 hx hb dX3_ending_92 rfl rfl ?_
              refine m_ald (v := B.2 9 (3 * (i / 8))) hx hb hK hW 9 (3 * (i / 8)) (by decide) rfl (show 3 * (i / 8) < 90 by omega) (mu_f _ _ _ _ (by decide)) dX3_ending_93 ?_
              refine lv_iload_n hx hb dX3_ending_94 rfl (lv_at hl 0 rfl) ?_
              refine lv_iadd hx hb dX3_ending_95 ?_
              refine m_ast hx hb hK hI hW hS 9 (3 * (i / 8)) (by decide) rfl (show 3 * (i / 8) < 90 by omega) dX3_ending_96 (fun H locs hW hS => ?_)
              refine lv_aload_n hx hb dX3_ending_97 rfl (lv_at hl 3 rfl) ?_
              refine m_get (v := .ref (q 12)) hx hb hts hin hown hK hW 12 (by decide) (hts (.fieldLink RX3 40 "ReturnsDeskModel" "states" "[I") (List.mem_of_getElem? (i := 2) rfl)) (fun _ h9 => h9) rfl dX3_ending_98 ?_
              refine lv_iload_n hx hb dX3_ending_101 rfl (lv_at hl 1 rfl) ?_
              refine lv_iconst (v := 0) hx hb dX3_ending_102 (by decide) ?_
              refine m_ast hx hb hK hI hW hS 12 i (by decide) rfl (show i < 240 by omega) dX3_ending_103 (fun H locs hW hS => ?_)
              refine lv_iinc (v := B.1 + 1) (lv' := [(1, .int (B.1 + 1)), (3, .int (B.2 10 i)), (2, .int (nI i)), (0, .ref ao)]) hx hb dX3_ending_104 hl (k := 2) rfl rfl (by decide) rfl (fun ls hl => ?_)
              refine lv_iinc (v := nI (i + 1)) (lv' := [(2, .int (nI (i + 1))), (1, .int (B.1 + 1)), (3, .int (B.2 10 i)), (0, .ref ao)]) hx hb dX3_ending_107 hl (k := 2) rfl (nI_addx (a := i) (b := 1) rfl rfl) (by decide) rfl (fun ls hl => ?_)
              refine lv_goto (tgt := 4) hx hb dX3_ending_110 (by decide) ?_
              exact ih (i + 1) (B.1 + 1, (mu (mu (mu B.2 7 (i / 8) ((B.2 7 (i / 8)) + (B.2 10 i))) 9 (3 * (i / 8)) ((B.2 9 (3 * (i / 8))) + (B.2 10 i))) 12 i 0)) H locs ls (by show _ = eNext (eIt M i) i; rw [← hB]; unfold eNext; rw [if_neg c22, if_pos c32, if_pos c45] <;> rfl) hB1 (by omega) (by omega) hW hS (lv_sub hl [0, 1, 3] rfl)
  exact loop (8 * n + 1) 0 (0, M) s.heap [] ls rfl hM1 (Nat.zero_le _) (by omega) hW hS (lv_sub hl [0, 1, 2] rfl)
set_option maxHeartbeats 4000000 in
set_option maxRecDepth 100000 in
theorem kX3_pass_bad (l : Launch) {D : va_G} {cI cO cL cJ : ClassId} {ao : Nat} {q : Nat → Nat} (hI : mI ao q) (M : MS) (p0 : Int32) (h2 : ¬ inR p0 1 400) : Met l yX3_pass wsX3_pass ({ frames := 1, cells := 0, slots := 0, locals := 22 } : Room) (mP D cI cO cL cJ ao q M [.int p0]) (mQ D cI cO cL cJ ao q (fun (r : Int32) (M9 : MS) => r = 0 ∧ M9 = mu M 16 0 1)) 0 0 (mA ao q) := by
  refine m_body (cc := cX3_pass) (maxL := 4) (ret := some .int) (by decide) rfl [.int p0] (Nat.le_of_ble_eq_true rfl) ?_
  intro p e s m args below meth c hx hb hr hts hown hml hlocks hW hK ls hl
  have hown : s.vm.findClass RX3 = some m.cls := hown
  have hl : lv_has ls 4 [(0, .ref ao), (1, .int p0)] := hl
  have hin : ∀ w ∈ u_ws RX3 TX3 17, w ∈ wsX3_pass := (fun w h => List.mem_cons_of_mem _ (List.mem_append_right _ (h)))
  have hS : va_S (mA ao q) s.heap s.heap [] := va_S.rf
  refine lv_aload_n hx hb dX3_pass_0 rfl (lv_at hl 0 rfl) ?_
  refine lv_iload_n hx hb dX3_pass_1 rfl (lv_at hl 1 rfl) ?_
  refine lv_iconst (v := 1) hx hb dX3_pass_2 (by decide) ?_
  refine lv_sipush (v := 400) hx hb dX3_pass_3 (by decide) ?_
  refine s_call0 3 hx hb hts hown hml (kX3_in_f l p0 1 400 h2) rfl gX3_pass_X3_in rfl rfl rfl (by decide +kernel) ⟨Nat.le_of_ble_eq_true rfl, Nat.le_of_ble_eq_true rfl⟩ hl.1 rfl (Nat.le_of_ble_eq_true rfl) dX3_pass_6 ⟨Nat.zero_le _, Nat.zero_le _⟩ (fun r hp => ?_)
  subst hp
  refine lv_if_ne (tgt := 16) hx hb dX3_pass_9 (by decide) (fun h9 => absurd (by decide) h9) (fun _ => ?_)
  refine lv_iconst (v := 1) hx hb dX3_pass_12 (by decide) ?_
  refine lv_goto (tgt := 33) hx hb dX3_pass_13 (by decide) ?_
  refine m_put hx hb hts hin hown hK hI hW hS 16 (by decide) (hts (.fieldLink RX3 52 "ReturnsDeskModel" "thrown" "I") (List.mem_of_getElem? (i := 2) rfl)) (fun _ h9 => h9) dX3_pass_33 (fun H locs hW hS => ?_)
  refine lv_iconst (v := 0) hx hb dX3_pass_36 (by decide) ?_
  refine lv_istore_n (lv' := [(2, .int 0), (0, .ref ao), (1, .int p0)]) hx hb dX3_pass_37 rfl hl (by decide) rfl (fun ls hl => ?_)
  refine lv_iconst (v := 0) hx hb dX3_pass_38 (by decide) ?_
  refine lv_istore_n (lv' := [(3, .int 0), (2, .int 0), (0, .ref ao), (1, .int p0)]) hx hb dX3_pass_39 rfl hl (by decide) rfl (fun ls hl => ?_)
  refine lv_iload_n hx hb dX3_pass_40 rfl (lv_at hl 0 rfl) ?_
  refine lv_iload_n hx hb dX3_pass_41 rfl (lv_at hl 3 rfl) ?_
  refine lv_icmp_ge (tgt := 75) hx hb dX3_pass_42 (by decide) (fun c42 => ?_) (fun c42 => ?_)
  · skip
    refine lv_iload_n hx hb dX3_pass_75 rfl (lv_at hl 1 rfl) ?_
    exact m_ret hx hb hr hlocks hK hW hS ⟨rfl, rfl⟩ dX3_pass_76
  · skip
    refine lv_aload_n hx hb dX3_pass_45 rfl (lv_at hl 2 rfl) ?_
    refine m_get (v := .int 1) hx hb hts hin hown hK hW 16 (by decide) (hts (.fieldLink RX3 52 "ReturnsDeskModel" "thrown" "I") (List.mem_of_getElem? (i := 2) rfl)) (fun _ h9 => h9) (congrArg (fun z => some (Value.int z)) (mu_s _ _ _ _)) dX3_pass_46 ?_
    refine lv_if_ne (tgt := 75) hx hb dX3_pass_49 (by decide) (fun _ => ?_) (fun h9 => absurd h9 (by decide))
    refine lv_iload_n hx hb dX3_pass_75 rfl (lv_at hl 1 rfl) ?_
    exact m_ret hx hb hr hlocks hK hW hS ⟨rfl, rfl⟩ dX3_pass_76
set_option maxHeartbeats 4000000 in
set_option maxRecDepth 100000 in
theorem kX3_pass_late (l : Launch) {D : va_G} {cI cO cL cJ : ClassId} {ao : Nat} {q : Nat → Nat} (hI : mI ao q) (M : MS) (p0 : Int32) (h2 : inR p0 1 400) (h3 : ¬ M 0 0 + p0 ≤ 10000) : Met l yX3_pass wsX3_pass ({ frames := 1, cells := 0, slots := 0, locals := 22 } : Room) (mP D cI cO cL cJ ao q M [.int p0]) (mQ D cI cO cL cJ ao q (fun (r : Int32) (M9 : MS) => r = 0 ∧ M9 = mu M 16 0 2)) 0 0 (mA ao q) := by
  refine m_body (cc := cX3_pass) (maxL := 4) (ret := some .int) (by decide) rfl [.int p0] (Nat.le_of_ble_eq_true rfl) ?_
  intro p e s m args below meth c hx hb hr hts hown hml hlocks hW hK ls hl
  have hown : s.vm.findClass RX3 = some m.cls := hown
  have hl : lv_has ls 4 [(0, .ref ao), (1, .int p0)] := hl
  have hin : ∀ w ∈ u_ws RX3 TX3 17, w ∈ wsX3_pass := (fun w h => List.mem_cons_of_mem _ (List.mem_append_right _ (h)))
  have hS : va_S (mA ao q) s.heap s.heap [] := va_S.rf
  refine lv_aload_n hx hb dX3_pass_0 rfl (lv_at hl 0 rfl) ?_
  refine lv_iload_n hx hb dX3_pass_1 rfl (lv_at hl 1 rfl) ?_
  refine lv_iconst (v := 1) hx hb dX3_pass_2 (by decide) ?_
  refine lv_sipush (v := 400) hx hb dX3_pass_3 (by decide) ?_
  refine s_call0 3 hx hb hts hown hml (kX3_in_t l p0 1 400 h2) rfl gX3_pass_X3_in rfl rfl rfl (by decide +kernel) ⟨Nat.le_of_ble_eq_true rfl, Nat.le_of_ble_eq_true rfl⟩ hl.1 rfl (Nat.le_of_ble_eq_true rfl) dX3_pass_6 ⟨Nat.zero_le _, Nat.zero_le _⟩ (fun r hp => ?_)
  subst hp
  refine lv_if_ne (tgt := 16) hx hb dX3_pass_9 (by decide) (fun _ => ?_) (fun h9 => absurd h9 (by decide))
  refine lv_aload_n hx hb dX3_pass_16 rfl (lv_at hl 0 rfl) ?_
  refine m_get (v := .int (M 0 0)) hx hb hts hin hown hK hW 0 (by decide) (hts (.fieldLink RX3 80 "ReturnsDeskModel" "day" "I") (List.mem_of_getElem? (i := 1) rfl)) (fun _ h9 => h9) rfl dX3_pass_17 ?_
  refine lv_iload_n hx hb dX3_pass_20 rfl (lv_at hl 1 rfl) ?_
  refine lv_iadd hx hb dX3_pass_21 ?_
  refine lv_sipush (v := 10000) hx hb dX3_pass_22 (by decide) ?_
  refine lv_icmp_le (tgt := 32) hx hb dX3_pass_25 (by decide) (fun h9 => absurd h9 h3) (fun _ => ?_)
  refine lv_iconst (v := 2) hx hb dX3_pass_28 (by decide) ?_
  refine lv_goto (tgt := 33) hx hb dX3_pass_29 (by decide) ?_
  refine m_put hx hb hts hin hown hK hI hW hS 16 (by decide) (hts (.fieldLink RX3 52 "ReturnsDeskModel" "thrown" "I") (List.mem_of_getElem? (i := 2) rfl)) (fun _ h9 => h9) dX3_pass_33 (fun H locs hW hS => ?_)
  refine lv_iconst (v := 0) hx hb dX3_pass_36 (by decide) ?_
  refine lv_istore_n (lv' := [(2, .int 0), (0, .ref ao), (1, .int p0)]) hx hb dX3_pass_37 rfl hl (by decide) rfl (fun ls hl => ?_)
  refine lv_iconst (v := 0) hx hb dX3_pass_38 (by decide) ?_
  refine lv_istore_n (lv' := [(3, .int 0), (2, .int 0), (0, .ref ao), (1, .int p0)]) hx hb dX3_pass_39 rfl hl (by decide) rfl (fun ls hl => ?_)
  refine lv_iload_n hx hb dX3_pass_40 rfl (lv_at hl 0 rfl) ?_
  refine lv_iload_n hx hb dX3_pass_41 rfl (lv_at hl 3 rfl) ?_
  refine lv_icmp_ge (tgt := 75) hx hb dX3_pass_42 (by decide) (fun c42 => ?_) (fun c42 => ?_)
  · skip
    refine lv_iload_n hx hb dX3_pass_75 rfl (lv_at hl 1 rfl) ?_
    exact m_ret hx hb hr hlocks hK hW hS ⟨rfl, rfl⟩ dX3_pass_76
  · skip
    refine lv_aload_n hx hb dX3_pass_45 rfl (lv_at hl 2 rfl) ?_
    refine m_get (v := .int 2) hx hb hts hin hown hK hW 16 (by decide) (hts (.fieldLink RX3 52 "ReturnsDeskModel" "thrown" "I") (List.mem_of_getElem? (i := 2) rfl)) (fun _ h9 => h9) (congrArg (fun z => some (Value.int z)) (mu_s _ _ _ _)) dX3_pass_46 ?_
    refine lv_if_ne (tgt := 75) hx hb dX3_pass_49 (by decide) (fun _ => ?_) (fun h9 => absurd h9 (by decide))
    refine lv_iload_n hx hb dX3_pass_75 rfl (lv_at hl 1 rfl) ?_
    exact m_ret hx hb hr hlocks hK hW hS ⟨rfl, rfl⟩ dX3_pass_76
set_option maxHeartbeats 4000000 in
set_option maxRecDepth 100000 in
theorem kX3_pass_ok (l : Launch) {D : va_G} {cI cO cL cJ : ClassId} {ao : Nat} {q : Nat → Nat} (hI : mI ao q) (M : MS) (n d : Nat) (hn : n ≤ 30) (hM1 : M 1 0 = nI n) (hd : d ≤ 400) (h2 : inR (nI d) 1 400) (h3 : M 0 0 + nI d ≤ 10000) : Met l yX3_pass wsX3_pass ({ frames := 1, cells := 0, slots := 0, locals := 23 } : Room) (mP D cI cO cL cJ ao q M [.int (nI d)]) (mQ D cI cO cL cJ ao q (fun (r : Int32) (M9 : MS) => r = (pIt n (th0 M) d).1 ∧ M9 = (pIt n (th0 M) d).2)) 0 0 (mA ao q) := by
  refine m_body (cc := cX3_pass) (maxL := 4) (ret := some .int) (by decide) rfl [.int (nI d)] (Nat.le_of_ble_eq_true rfl) ?_
  intro p e s m args below meth c hx hb hr hts hown hml hlocks hW hK ls hl
  have hown : s.vm.findClass RX3 = some m.cls := hown
  have hl : lv_has ls 4 [(0, .ref ao), (1, .int (nI d))] := hl
  have hin : ∀ w ∈ u_ws RX3 TX3 17, w ∈ wsX3_pass := (fun w h => List.mem_cons_of_mem _ (List.mem_append_right _ (h)))
  have hS : va_S (mA ao q) s.heap s.heap [] := va_S.rf
  refine lv_aload_n hx hb dX3_pass_0 rfl (lv_at hl 0 rfl) ?_
  refine lv_iload_n hx hb dX3_pass_1 rfl (lv_at hl 1 rfl) ?_
  refine lv_iconst (v := 1) hx hb dX3_pass_2 (by decide) ?_
  refine lv_sipush (v := 400) hx hb dX3_pass_3 (by decide) ?_
  refine s_call0 3 hx hb hts hown hml (kX3_in_t l (nI d) 1 400 h2) rfl gX3_pass_X3_in rfl rfl rfl (by decide +kernel) ⟨Nat.le_of_ble_eq_true rfl, Nat.le_of_ble_eq_true rfl⟩ hl.1 rfl (Nat.le_of_ble_eq_true rfl) dX3_pass_6 ⟨Nat.zero_le _, Nat.zero_le _⟩ (fun r hp => ?_)
  subst hp
  refine lv_if_ne (tgt := 16) hx hb dX3_pass_9 (by decide) (fun _ => ?_) (fun h9 => absurd h9 (by decide))
  refine lv_aload_n hx hb dX3_pass_16 rfl (lv_at hl 0 rfl) ?_
  refine m_get (v := .int (M 0 0)) hx hb hts hin hown hK hW 0 (by decide) (hts (.fieldLink RX3 80 "ReturnsDeskModel" "day" "I") (List.mem_of_getElem? (i := 1) rfl)) (fun _ h9 => h9) rfl dX3_pass_17 ?_
  refine lv_iload_n hx hb dX3_pass_20 rfl (lv_at hl 1 rfl) ?_
  refine lv_iadd hx hb dX3_pass_21 ?_
  refine lv_sipush (v := 10000) hx hb dX3_pass_22 (by decide) ?_
  refine lv_icmp_le (tgt := 32) hx hb dX3_pass_25 (by decide) (fun _ => ?_) (fun h9 => absurd h3 h9)
  refine lv_iconst (v := 0) hx hb dX3_pass_32 (by decide) ?_
  refine m_put hx hb hts hin hown hK hI hW hS 16 (by decide) (hts (.fieldLink RX3 52 "ReturnsDeskModel" "thrown" "I") (List.mem_of_getElem? (i := 2) rfl)) (fun _ h9 => h9) dX3_pass_33 (fun H locs hW hS => ?_)
  refine lv_iconst (v := 0) hx hb dX3_pass_36 (by decide) ?_
  refine lv_istore_n (lv' := [(2, .int 0), (0, .ref ao), (1, .int (nI d))]) hx hb dX3_pass_37 rfl hl (by decide) rfl (fun ls hl => ?_)
  refine lv_iconst (v := 0) hx hb dX3_pass_38 (by decide) ?_
  refine lv_istore_n (lv' := [(3, .int 0), (2, .int 0), (0, .ref ao), (1, .int (nI d))]) hx hb dX3_pass_39 rfl hl (by decide) rfl (fun ls hl => ?_)
  have loop : ∀ (z k : Nat) (B : Int32 × MS) (H : Heap) (locs : List Loc) (ls : Array Slot), B = pIt n (th0 M) k → B.2 1 0 = nI n → B.2 16 0 = 0 → k ≤ d → d - k < z → mW D cI ao q B.2 H → va_S (mA ao q) s.heap H locs → lv_has ls 4 [(3, .int (nI k)), (2, .int B.1), (0, .ref ao), (1, .int (nI d))] → W p l e ({ frames := 1, cells := 0, slots := 0, locals := 23 } : Room) s m args below meth c H locs 0 0 (MQ below (mQ D cI cO cL cJ ao q (fun (r : Int32) (M9 : MS) => r = (pIt n (th0 M) d).1 ∧ M9 = (pIt n (th0 M) d).2)) args s 0 0 (mA ao q)) (F0 m 40 ls []) := by
    intro z
    induction z with
    | zero => intro k B H locs ls h0 h9 h8 h1 h2; exact absurd h2 (by omega)
    | succ z ih =>
      intro k B H locs ls hB hB1 hB16 hk hz hW hS hl
      refine lv_iload_n hx hb dX3_pass_40 rfl (lv_at hl 0 rfl) ?_
      refine lv_iload_n hx hb dX3_pass_41 rfl (lv_at hl 3 rfl) ?_
      refine lv_icmp_ge (tgt := 75) hx hb dX3_pass_42 (by decide) (fun c42 => ?_) (fun c42 => ?_)
      · skip
        have hke : k = d := by
          rcases Nat.lt_or_ge k d with z | z
          · exact absurd c42 (nI_ge z (by omega))
          · omega
        rw [hke] at hB
        refine lv_iload_n hx hb dX3_pass_75 rfl (lv_at hl 1 rfl) ?_
        exact m_ret hx hb hr hlocks hK hW hS ⟨by rw [hB], by rw [hB]⟩ dX3_pass_76
      · skip
        have hk9 : k < d := Nat.not_le.mp (fun z => c42 (nI_le z (by omega)))
        refine lv_aload_n hx hb dX3_pass_45 rfl (lv_at hl 2 rfl) ?_
        refine m_get (v := .int (B.2 16 0)) hx hb hts hin hown hK hW 16 (by decide) (hts (.fieldLink RX3 52 "ReturnsDeskModel" "thrown" "I") (List.mem_of_getElem? (i := 2) rfl)) (fun _ h9 => h9) rfl dX3_pass_46 ?_
        refine cv (y := 0) hB16 ?_
        refine lv_if_ne (tgt := 75) hx hb dX3_pass_49 (by decide) (fun h9 => absurd (by decide) h9) (fun _ => ?_)
        refine lv_aload_n hx hb dX3_pass_52 rfl (lv_at hl 2 rfl) ?_
        refine lv_dup hx hb dX3_pass_53 rfl ?_
        refine m_get (v := .int (B.2 0 0)) hx hb hts hin hown hK hW 0 (by decide) (hts (.fieldLink RX3 80 "ReturnsDeskModel" "day" "I") (List.mem_of_getElem? (i := 1) rfl)) (fun _ h9 => h9) rfl dX3_pass_54 ?_
        refine lv_iconst (v := 1) hx hb dX3_pass_57 (by decide) ?_
        refine lv_iadd hx hb dX3_pass_58 ?_
        refine m_put hx hb hts hin hown hK hI hW hS 0 (by decide) (hts (.fieldLink RX3 80 "ReturnsDeskModel" "day" "I") (List.mem_of_getElem? (i := 1) rfl)) (fun _ h9 => h9) dX3_pass_59 (fun H locs hW hS => ?_)
        refine lv_iload_n hx hb dX3_pass_62 rfl (lv_at hl 1 rfl) ?_
        refine lv_aload_n hx hb dX3_pass_63 rfl (lv_at hl 2 rfl) ?_
        refine m_call 0 hx hb hts hown hml (kX3_ending l hI (mu B.2 0 0 ((B.2 0 0) + 1)) n hn (((mu_f _ _ _ _ (by decide))).trans hB1)) rfl gX3_pass_X3_ending rfl rfl rfl (by decide +kernel) ⟨Nat.le_of_ble_eq_true rfl, Nat.le_of_ble_eq_true rfl⟩ hl.1 hW hK hS (fun _ h => h) rfl (Nat.le_of_ble_eq_true rfl) dX3_pass_64 ⟨Nat.zero_le _, Nat.zero_le _⟩ (fun r M9 H locs hp hW _ _ hS => ?_)
        obtain ⟨rfl, rfl⟩ := hp
        refine lv_iadd hx hb dX3_pass_67 ?_
        refine lv_istore_n (lv' := [(2, .int (B.1 + ((eIt (mu B.2 0 0 ((B.2 0 0) + 1)) (8 * n)).1))), (3, .int (nI k)), (0, .ref ao), (1, .int (nI d))]) hx hb dX3_pass_68 rfl hl (by decide) rfl (fun ls hl => ?_)
        refine lv_iinc (v := nI (k + 1)) (lv' := [(3, .int (nI (k + 1))), (2, .int (B.1 + ((eIt (mu B.2 0 0 ((B.2 0 0) + 1)) (8 * n)).1))), (0, .ref ao), (1, .int (nI d))]) hx hb dX3_pass_69 hl (k := 1) rfl (nI_addx (a := k) (b := 1) rfl rfl) (by decide) rfl (fun ls hl => ?_)
        refine lv_goto (tgt := 40) hx hb dX3_pass_72 (by decide) ?_
        exact ih (k + 1) (B.1 + ((eIt (mu B.2 0 0 ((B.2 0 0) + 1)) (8 * n)).1), (eIt (mu B.2 0 0 (B.2 0 0 + 1)) (8 * n)).2) H locs ls (by rw [hB]; rfl) ((eIt_10 _ _).trans ((mu_f _ _ _ _ (by decide)).trans hB1)) ((eIt_160 _ _).trans ((mu_f _ _ _ _ (by decide)).trans hB16)) (by omega) (by omega) hW hS (lv_sub hl [0, 1, 2, 3] rfl)
  exact loop (d + 1) 0 (0, th0 M) H locs ls rfl hM1 rfl (Nat.zero_le _) (by omega) hW hS (lv_sub hl [0, 1, 2, 3] rfl)

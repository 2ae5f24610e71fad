/-! THE LAW'S RETURNS: a line is asked back or exchanged, or graded. -/
def RetTo (X : MS) (k kk : Nat) (X9 : MS) : Prop := (∃ q, q < 4 ∧ X9 = (gradeX X k kk (8 * k + 0) (nI q)).2) ∨ X9 = X ∨ ∃ (q : Nat) (z : Int32), q < 2 ∧ (z = 1 ∨ z = 2) ∧ ¬ retX X k (8 * k + 0) (nI q) = 0 ∧ X9 = (gradeX (swX X (8 * k + 0) (nI q) z) k kk (8 * k + 0) 0).2
set_option maxHeartbeats 4000000 in
set_option maxRecDepth 100000 in
theorem kL_returns (l : Launch) (hlt : l.stackTraces = false) {D : va_G} {cI cO cL cJ : ClassId} (g : XG) (X : MS) (hz sz : Nat) (hI : xI g) (hO : xO g hz sz) (d bk : Nat) (hd : g 3 0 = some d) (hbk : g 4 0 = some bk) (n : Nat) (kc : Nat → Nat) (hC : xC g X n kc) (k : Nat) (hk : k < n) (hj : 0 < kc k) (v : Int32) : Met l yL_returns wsL_returns ({ frames := 10, cells := 29, slots := 174, locals := 177 } : Room) (xP D cI cO cL cJ g X hz sz [.ref d, .int (nI k), .int (nI 0), .int v]) (xQi D cO cL g sz (fun (r : Int32) (X9 : MS) => r = 1 ∧ RetTo X k (kc k) X9)) 29 174 (xA g sz) := by
  refine x_bodyM (cc := cL_returns) (maxL := 11) (ret := some .boolean) (by decide) rfl [.ref d, .int (nI k), .int (nI 0), .int v] (Nat.le_of_ble_eq_true rfl) ?_
  intro p e s m args below meth c hx hb hr hts hown hml hlocks hsz hW hK hE ls hl
  subst hsz
  have hown : s.vm.findClass RL = some m.cls := hown
  have hl : lv_has ls 11 [(0, .ref d), (1, .int (nI k)), (2, .int (nI 0)), (3, .int v)] := hl
  have hS : va_S (xA g s.heap.size) s.heap s.heap [] := va_S.rf
  have hA : ∀ q, xA g s.heap.size q → xA g s.heap.size q := fun _ h => h
  have hE0 := hE
  have hO0 := hO
  refine lv_aload_n hx hb dL_returns_0 rfl (lv_at hl 0 rfl) ?_
  refine lv_iload_n hx hb dL_returns_1 rfl (lv_at hl 1 rfl) ?_
  refine lv_iload_n hx hb dL_returns_2 rfl (lv_at hl 2 rfl) ?_
  refine z_state hlt ⟨hx, hb, hml, hown, hts⟩ gL_returns_X2_state hW hK hE hd hbk hC hk hj hl.1 (Nat.le_of_ble_eq_true rfl) dL_returns_3 ⟨Nat.le_of_ble_eq_true rfl, Nat.le_of_ble_eq_true rfl⟩ ⟨Nat.le_of_ble_eq_true rfl, Nat.le_of_ble_eq_true rfl⟩ ?_
  refine lv_istore (lv' := [(4, .int (X 18 (8 * k + 0))), (0, .ref d), (1, .int (nI k)), (2, .int (nI 0)), (3, .int v)]) hx hb dL_returns_6 hl (by decide) rfl (fun ls hl => ?_)
  refine lv_iload_n hx hb dL_returns_8 rfl (lv_at hl 4 rfl) ?_
  refine lv_iconst (v := 2) hx hb dL_returns_9 (by decide) ?_
  refine z_low ⟨hx, hb, hml, hown, hts⟩ gL_returns_L_low (N := 2) (by decide) (by decide) hl.1 (Nat.le_of_ble_eq_true rfl) dL_returns_10 ⟨Nat.le_of_ble_eq_true rfl, Nat.le_of_ble_eq_true rfl⟩ ⟨Nat.le_of_ble_eq_true rfl, Nat.le_of_ble_eq_true rfl⟩ (fun q1 hq1 => ?_)
  refine lv_istore (lv' := [(5, .int (nI q1)), (4, .int (X 18 (8 * k + 0))), (0, .ref d), (1, .int (nI k)), (2, .int (nI 0)), (3, .int v)]) hx hb dL_returns_13 hl (by decide) rfl (fun ls hl => ?_)
  refine lv_iload hx hb dL_returns_15 (lv_at hl 1 rfl) ?_
  refine lv_iconst (v := 1) hx hb dL_returns_17 (by decide) ?_
  refine lv_icmp_eq (tgt := 27) hx hb dL_returns_18 (by decide) (fun c18 => ?_) (fun c18 => ?_)
  · skip
    refine lv_aload_n hx hb dL_returns_27 rfl (lv_at hl 2 rfl) ?_
    refine lv_iload_n hx hb dL_returns_28 rfl (lv_at hl 3 rfl) ?_
    refine z_all hlt ⟨hx, hb, hml, hown, hts⟩ gL_returns_L_all hW hK hE hd hbk hC hk hl.1 (Nat.le_of_ble_eq_true rfl) dL_returns_29 ⟨Nat.le_of_ble_eq_true rfl, Nat.le_of_ble_eq_true rfl⟩ ⟨Nat.le_of_ble_eq_true rfl, Nat.le_of_ble_eq_true rfl⟩ ?_
    refine lv_istore (lv' := [(6, .int (takenX X k)), (5, .int (nI q1)), (4, .int (X 18 (8 * k + 0))), (0, .ref d), (1, .int (nI k)), (2, .int (nI 0)), (3, .int v)]) hx hb dL_returns_32 hl (by decide) rfl (fun ls hl => ?_)
    refine lv_aload_n hx hb dL_returns_34 rfl (lv_at hl 3 rfl) ?_
    refine lv_iload_n hx hb dL_returns_35 rfl (lv_at hl 4 rfl) ?_
    refine z_refunded hlt ⟨hx, hb, hml, hown, hts⟩ gL_returns_X2_refunded hW hK hE hd hbk hC hk hl.1 (Nat.le_of_ble_eq_true rfl) dL_returns_36 ⟨Nat.le_of_ble_eq_true rfl, Nat.le_of_ble_eq_true rfl⟩ ⟨Nat.le_of_ble_eq_true rfl, Nat.le_of_ble_eq_true rfl⟩ ?_
    refine lv_istore (lv' := [(7, .int (X 12 k)), (6, .int (takenX X k)), (5, .int (nI q1)), (4, .int (X 18 (8 * k + 0))), (0, .ref d), (1, .int (nI k)), (2, .int (nI 0)), (3, .int v)]) hx hb dL_returns_39 hl (by decide) rfl (fun ls hl => ?_)
    refine lv_aload_n hx hb dL_returns_41 rfl (lv_at hl 4 rfl) ?_
    refine lv_iconst (v := 0) hx hb dL_returns_42 (by decide) ?_
    refine z_stock hlt ⟨hx, hb, hml, hown, hts⟩ gL_returns_X2_stock hW hK hE hd hbk (v := X 2 0) (y_in 0 (N := 2) rfl (by decide) (by decide)) rfl hl.1 (Nat.le_of_ble_eq_true rfl) dL_returns_43 ⟨Nat.le_of_ble_eq_true rfl, Nat.le_of_ble_eq_true rfl⟩ ⟨Nat.le_of_ble_eq_true rfl, Nat.le_of_ble_eq_true rfl⟩ ?_
    refine lv_aload_n hx hb dL_returns_46 rfl (lv_at hl 4 rfl) ?_
    refine lv_iconst (v := 1) hx hb dL_returns_47 (by decide) ?_
    refine z_stock hlt ⟨hx, hb, hml, hown, hts⟩ gL_returns_X2_stock hW hK hE hd hbk (v := X 3 0) (y_in 1 (N := 2) rfl (by decide) (by decide)) rfl hl.1 (Nat.le_of_ble_eq_true rfl) dL_returns_48 ⟨Nat.le_of_ble_eq_true rfl, Nat.le_of_ble_eq_true rfl⟩ ⟨Nat.le_of_ble_eq_true rfl, Nat.le_of_ble_eq_true rfl⟩ ?_
    refine lv_iadd hx hb dL_returns_51 ?_
    refine lv_aload_n hx hb dL_returns_52 rfl (lv_at hl 4 rfl) ?_
    refine lv_iconst (v := 2) hx hb dL_returns_53 (by decide) ?_
    refine z_stock hlt ⟨hx, hb, hml, hown, hts⟩ gL_returns_X2_stock hW hK hE hd hbk (v := X 4 0) (y_in 2 (N := 2) rfl (by decide) (by decide)) rfl hl.1 (Nat.le_of_ble_eq_true rfl) dL_returns_54 ⟨Nat.le_of_ble_eq_true rfl, Nat.le_of_ble_eq_true rfl⟩ ⟨Nat.le_of_ble_eq_true rfl, Nat.le_of_ble_eq_true rfl⟩ ?_
    refine lv_iadd hx hb dL_returns_57 ?_
    refine lv_istore (lv' := [(8, .int (((X 2 0) + (X 3 0)) + (X 4 0))), (7, .int (X 12 k)), (6, .int (takenX X k)), (5, .int (nI q1)), (4, .int (X 18 (8 * k + 0))), (0, .ref d), (1, .int (nI k)), (2, .int (nI 0)), (3, .int v)]) hx hb dL_returns_58 hl (by decide) rfl (fun ls hl => ?_)
    refine lv_iload_n hx hb dL_returns_60 rfl (lv_at hl 8 rfl) ?_
    refine lv_iconst (v := 3) hx hb dL_returns_61 (by decide) ?_
    refine lv_ishr hx hb dL_returns_62 ?_
    refine lv_iconst (v := 4) hx hb dL_returns_63 (by decide) ?_
    refine z_low ⟨hx, hb, hml, hown, hts⟩ gL_returns_L_low (N := 4) (by decide) (by decide) hl.1 (Nat.le_of_ble_eq_true rfl) dL_returns_64 ⟨Nat.le_of_ble_eq_true rfl, Nat.le_of_ble_eq_true rfl⟩ ⟨Nat.le_of_ble_eq_true rfl, Nat.le_of_ble_eq_true rfl⟩ (fun q2 hq2 => ?_)
    refine lv_istore (lv' := [(9, .int (nI q2)), (8, .int (((X 2 0) + (X 3 0)) + (X 4 0))), (7, .int (X 12 k)), (6, .int (takenX X k)), (5, .int (nI q1)), (4, .int (X 18 (8 * k + 0))), (0, .ref d), (1, .int (nI k)), (2, .int (nI 0)), (3, .int v)]) hx hb dL_returns_67 hl (by decide) rfl (fun ls hl => ?_)
    refine lv_aload_n hx hb dL_returns_69 rfl (lv_at hl 6 rfl) ?_
    refine lv_iload_n hx hb dL_returns_70 rfl (lv_at hl 7 rfl) ?_
    refine lv_iload_n hx hb dL_returns_71 rfl (lv_at hl 8 rfl) ?_
    refine lv_iload hx hb dL_returns_72 (lv_at hl 0 rfl) ?_
    refine z_grade hlt ⟨hx, hb, hml, hown, hts⟩ gL_returns_X2_grade hW hK hE hd hbk hI hO hS hA hC hk hj (y_in q2 (N := 3) rfl (by omega) (by decide)) (by unfold wtX; rw [if_pos c18]; decide) hl.1 (Nat.le_of_ble_eq_true rfl) dL_returns_74 ⟨Nat.le_of_ble_eq_true rfl, Nat.le_of_ble_eq_true rfl⟩ ⟨Nat.le_of_ble_eq_true rfl, Nat.le_of_ble_eq_true rfl⟩ (fun H locs hW hz9 hk9 hS => ?_)
    have hf := gr_facts X k (kc k) (8 * k + 0) (nI q2)
    have hC2 := gr_C hC k (kc k) (8 * k + 0) (nI q2)
    generalize hG : gradeX X k (kc k) (8 * k + 0) (nI q2) = G at hW hf hC2 ⊢
    obtain ⟨f1, f2, f3, f4, f5, f6, f7, f8⟩ := hf
    have hE := hE0.S hO0 hS
    have hO : xO g hz H.size := ⟨hO0.1, Nat.le_trans hO0.2 hS.1⟩
    have hA : ∀ q, xA g H.size q → xA g s.heap.size q := fun q h => h.imp id (fun h => Nat.le_trans hS.1 h)
    have hC : xC g G.2 n kc := hC2
    refine lv_istore (lv' := [(10, .int G.1), (9, .int (nI q2)), (8, .int (((X 2 0) + (X 3 0)) + (X 4 0))), (7, .int (X 12 k)), (6, .int (takenX X k)), (5, .int (nI q1)), (4, .int (X 18 (8 * k + 0))), (0, .ref d), (1, .int (nI k)), (2, .int (nI 0)), (3, .int v)]) hx hb dL_returns_77 hl (by decide) rfl (fun ls hl => ?_)
    refine lv_iload hx hb dL_returns_79 (lv_at hl 0 rfl) ?_
    refine lv_if_lt (tgt := 181) hx hb dL_returns_81 (by decide) (fun h9 => absurd h9 f1) (fun _ => ?_)
    refine lv_aload_n hx hb dL_returns_84 rfl (lv_at hl 7 rfl) ?_
    refine lv_iload_n hx hb dL_returns_85 rfl (lv_at hl 8 rfl) ?_
    refine z_all hlt ⟨hx, hb, hml, hown, hts⟩ gL_returns_L_all hW hK hE hd hbk hC hk hl.1 (Nat.le_of_ble_eq_true rfl) dL_returns_86 ⟨Nat.le_of_ble_eq_true rfl, Nat.le_of_ble_eq_true rfl⟩ ⟨Nat.le_of_ble_eq_true rfl, Nat.le_of_ble_eq_true rfl⟩ ?_
    refine lv_iload hx hb dL_returns_89 (lv_at hl 4 rfl) ?_
    refine lv_iload hx hb dL_returns_91 (lv_at hl 0 rfl) ?_
    refine lv_isub hx hb dL_returns_93 ?_
    refine lv_icmp_ne (tgt := 181) hx hb dL_returns_94 (by decide) (fun h9 => absurd f2 h9) (fun _ => ?_)
    refine lv_aload_n hx hb dL_returns_97 rfl (lv_at hl 7 rfl) ?_
    refine lv_iload_n hx hb dL_returns_98 rfl (lv_at hl 8 rfl) ?_
    refine z_refunded hlt ⟨hx, hb, hml, hown, hts⟩ gL_returns_X2_refunded hW hK hE hd hbk hC hk hl.1 (Nat.le_of_ble_eq_true rfl) dL_returns_99 ⟨Nat.le_of_ble_eq_true rfl, Nat.le_of_ble_eq_true rfl⟩ ⟨Nat.le_of_ble_eq_true rfl, Nat.le_of_ble_eq_true rfl⟩ ?_
    refine lv_iload hx hb dL_returns_102 (lv_at hl 3 rfl) ?_
    refine lv_iload hx hb dL_returns_104 (lv_at hl 0 rfl) ?_
    refine lv_iadd hx hb dL_returns_106 ?_
    refine lv_icmp_ne (tgt := 181) hx hb dL_returns_107 (by decide) (fun h9 => absurd f3 h9) (fun _ => ?_)
    refine lv_aload_n hx hb dL_returns_110 rfl (lv_at hl 7 rfl) ?_
    refine lv_iload_n hx hb dL_returns_111 rfl (lv_at hl 8 rfl) ?_
    refine lv_iload_n hx hb dL_returns_112 rfl (lv_at hl 9 rfl) ?_
    refine z_state hlt ⟨hx, hb, hml, hown, hts⟩ gL_returns_X2_state hW hK hE hd hbk hC hk hj hl.1 (Nat.le_of_ble_eq_true rfl) dL_returns_113 ⟨Nat.le_of_ble_eq_true rfl, Nat.le_of_ble_eq_true rfl⟩ ⟨Nat.le_of_ble_eq_true rfl, Nat.le_of_ble_eq_true rfl⟩ ?_
    refine lv_iload hx hb dL_returns_116 (lv_at hl 6 rfl) ?_
    refine lv_iconst (v := 1) hx hb dL_returns_118 (by decide) ?_
    refine lv_icmp_ne (tgt := 126) hx hb dL_returns_119 (by decide) (fun h9 => absurd c18 h9) (fun _ => ?_)
    refine lv_iconst (v := 3) hx hb dL_returns_122 (by decide) ?_
    refine lv_goto (tgt := 127) hx hb dL_returns_123 (by decide) ?_
    refine lv_icmp_ne (tgt := 181) hx hb dL_returns_127 (by decide) (fun h9 => absurd (f4.trans (if_pos c18)) h9) (fun _ => ?_)
    refine lv_aload_n hx hb dL_returns_130 rfl (lv_at hl 7 rfl) ?_
    refine lv_iconst (v := 0) hx hb dL_returns_131 (by decide) ?_
    refine z_stock hlt ⟨hx, hb, hml, hown, hts⟩ gL_returns_X2_stock hW hK hE hd hbk (v := G.2 2 0) (y_in 0 (N := 2) rfl (by decide) (by decide)) rfl hl.1 (Nat.le_of_ble_eq_true rfl) dL_returns_132 ⟨Nat.le_of_ble_eq_true rfl, Nat.le_of_ble_eq_true rfl⟩ ⟨Nat.le_of_ble_eq_true rfl, Nat.le_of_ble_eq_true rfl⟩ ?_
    refine lv_aload_n hx hb dL_returns_135 rfl (lv_at hl 7 rfl) ?_
    refine lv_iconst (v := 1) hx hb dL_returns_136 (by decide) ?_
    refine z_stock hlt ⟨hx, hb, hml, hown, hts⟩ gL_returns_X2_stock hW hK hE hd hbk (v := G.2 3 0) (y_in 1 (N := 2) rfl (by decide) (by decide)) rfl hl.1 (Nat.le_of_ble_eq_true rfl) dL_returns_137 ⟨Nat.le_of_ble_eq_true rfl, Nat.le_of_ble_eq_true rfl⟩ ⟨Nat.le_of_ble_eq_true rfl, Nat.le_of_ble_eq_true rfl⟩ ?_
    refine lv_iadd hx hb dL_returns_140 ?_
    refine lv_aload_n hx hb dL_returns_141 rfl (lv_at hl 7 rfl) ?_
    refine lv_iconst (v := 2) hx hb dL_returns_142 (by decide) ?_
    refine z_stock hlt ⟨hx, hb, hml, hown, hts⟩ gL_returns_X2_stock hW hK hE hd hbk (v := G.2 4 0) (y_in 2 (N := 2) rfl (by decide) (by decide)) rfl hl.1 (Nat.le_of_ble_eq_true rfl) dL_returns_143 ⟨Nat.le_of_ble_eq_true rfl, Nat.le_of_ble_eq_true rfl⟩ ⟨Nat.le_of_ble_eq_true rfl, Nat.le_of_ble_eq_true rfl⟩ ?_
    refine lv_iadd hx hb dL_returns_146 ?_
    refine lv_iload hx hb dL_returns_147 (lv_at hl 2 rfl) ?_
    refine lv_iload hx hb dL_returns_149 (lv_at hl 1 rfl) ?_
    refine lv_iconst (v := 3) hx hb dL_returns_151 (by decide) ?_
    refine lv_icmp_ne (tgt := 159) hx hb dL_returns_152 (by decide) (fun c152 => ?_) (fun c152 => ?_)
    · skip
      refine lv_iconst (v := 1) hx hb dL_returns_159 (by decide) ?_
      refine lv_iadd hx hb dL_returns_160 ?_
      refine lv_icmp_ne (tgt := 181) hx hb dL_returns_161 (by decide) (fun h9 => absurd (f5.trans (by rw [if_neg c152])) h9) (fun _ => ?_)
      refine lv_iload hx hb dL_returns_164 (lv_at hl 0 rfl) ?_
      refine lv_if_eq (tgt := 177) hx hb dL_returns_166 (by decide) (fun c166 => ?_) (fun c166 => ?_)
      · skip
        refine lv_iconst (v := 1) hx hb dL_returns_177 (by decide) ?_
        refine lv_goto (tgt := 182) hx hb dL_returns_178 (by decide) ?_
        exact y_wzret hx hb hr hlocks ⟨Nat.le_of_ble_eq_true rfl, Nat.le_of_ble_eq_true rfl⟩ hW hS (Or.inr rfl) ⟨rfl, Or.inl ⟨q2, by omega, by rw [hG]⟩⟩ dL_returns_182
      · skip
        refine lv_aload_n hx hb dL_returns_169 rfl (lv_at hl 7 rfl) ?_
        refine lv_iload_n hx hb dL_returns_170 rfl (lv_at hl 8 rfl) ?_
        refine z_isShortBy hlt ⟨hx, hb, hml, hown, hts⟩ gL_returns_X2_isShortBy hW hK hE hd hbk hC hk hl.1 (Nat.le_of_ble_eq_true rfl) dL_returns_171 ⟨Nat.le_of_ble_eq_true rfl, Nat.le_of_ble_eq_true rfl⟩ ⟨Nat.le_of_ble_eq_true rfl, Nat.le_of_ble_eq_true rfl⟩ ?_
        refine lv_if_ne (tgt := 181) hx hb dL_returns_174 (by decide) (fun h9 => absurd (f6.resolve_left c166) h9) (fun _ => ?_)
        refine lv_iconst (v := 1) hx hb dL_returns_177 (by decide) ?_
        refine lv_goto (tgt := 182) hx hb dL_returns_178 (by decide) ?_
        exact y_wzret hx hb hr hlocks ⟨Nat.le_of_ble_eq_true rfl, Nat.le_of_ble_eq_true rfl⟩ hW hS (Or.inr rfl) ⟨rfl, Or.inl ⟨q2, by omega, by rw [hG]⟩⟩ dL_returns_182
    · skip
      refine lv_iconst (v := 0) hx hb dL_returns_155 (by decide) ?_
      refine lv_goto (tgt := 160) hx hb dL_returns_156 (by decide) ?_
      refine lv_iadd hx hb dL_returns_160 ?_
      refine lv_icmp_ne (tgt := 181) hx hb dL_returns_161 (by decide) (fun h9 => absurd (f5.trans (by rw [if_pos c152])) h9) (fun _ => ?_)
      refine lv_iload hx hb dL_returns_164 (lv_at hl 0 rfl) ?_
      refine lv_if_eq (tgt := 177) hx hb dL_returns_166 (by decide) (fun c166 => ?_) (fun c166 => ?_)
      · skip
        refine lv_iconst (v := 1) hx hb dL_returns_177 (by decide) ?_
        refine lv_goto (tgt := 182) hx hb dL_returns_178 (by decide) ?_
        exact y_wzret hx hb hr hlocks ⟨Nat.le_of_ble_eq_true rfl, Nat.le_of_ble_eq_true rfl⟩ hW hS (Or.inr rfl) ⟨rfl, Or.inl ⟨q2, by omega, by rw [hG]⟩⟩ dL_returns_182
      · skip
        refine lv_aload_n hx hb dL_returns_169 rfl (lv_at hl 7 rfl) ?_
        refine lv_iload_n hx hb dL_returns_170 rfl (lv_at hl 8 rfl) ?_
        refine z_isShortBy hlt ⟨hx, hb, hml, hown, hts⟩ gL_returns_X2_isShortBy hW hK hE hd hbk hC hk hl.1 (Nat.le_of_ble_eq_true rfl) dL_returns_171 ⟨Nat.le_of_ble_eq_true rfl, Nat.le_of_ble_eq_true rfl⟩ ⟨Nat.le_of_ble_eq_true rfl, Nat.le_of_ble_eq_true rfl⟩ ?_
        refine lv_if_ne (tgt := 181) hx hb dL_returns_174 (by decide) (fun h9 => absurd (f6.resolve_left c166) h9) (fun _ => ?_)
        refine lv_iconst (v := 1) hx hb dL_returns_177 (by decide) ?_
        refine lv_goto (tgt := 182) hx hb dL_returns_178 (by decide) ?_
        exact y_wzret hx hb hr hlocks ⟨Nat.le_of_ble_eq_true rfl, Nat.le_of_ble_eq_true rfl⟩ hW hS (Or.inr rfl) ⟨rfl, Or.inl ⟨q2, by omega, by rw [hG]⟩⟩ dL_returns_182
  · skip
    refine lv_iload hx hb dL_returns_21 (lv_at hl 1 rfl) ?_
    refine lv_iconst (v := 2) hx hb dL_returns_23 (by decide) ?_
    refine lv_icmp_ne (tgt := 183) hx hb dL_returns_24 (by decide) (fun c24 => ?_) (fun c24 => ?_)
    · skip
      refine lv_aload_n hx hb dL_returns_183 rfl (lv_at hl 2 rfl) ?_
      refine lv_iload_n hx hb dL_returns_184 rfl (lv_at hl 3 rfl) ?_
      refine lv_iload_n hx hb dL_returns_185 rfl (lv_at hl 4 rfl) ?_
      refine lv_iload hx hb dL_returns_186 (lv_at hl 0 rfl) ?_
      refine z_mayComeBack hlt ⟨hx, hb, hml, hown, hts⟩ gL_returns_X2_mayComeBack hW hK hE hd hbk hC hk hj (y_in q1 (N := 1) rfl (by omega) (by decide)) hl.1 (Nat.le_of_ble_eq_true rfl) dL_returns_188 ⟨Nat.le_of_ble_eq_true rfl, Nat.le_of_ble_eq_true rfl⟩ ⟨Nat.le_of_ble_eq_true rfl, Nat.le_of_ble_eq_true rfl⟩ ?_
      refine lv_istore (lv' := [(6, .int (retX X k (8 * k + 0) (nI q1))), (5, .int (nI q1)), (4, .int (X 18 (8 * k + 0))), (0, .ref d), (1, .int (nI k)), (2, .int (nI 0)), (3, .int v)]) hx hb dL_returns_191 hl (by decide) rfl (fun ls hl => ?_)
      refine lv_iload_n hx hb dL_returns_193 rfl (lv_at hl 6 rfl) ?_
      refine lv_iconst (v := 5) hx hb dL_returns_194 (by decide) ?_
      refine lv_ishr hx hb dL_returns_195 ?_
      refine lv_iconst (v := 2) hx hb dL_returns_196 (by decide) ?_
      refine z_low ⟨hx, hb, hml, hown, hts⟩ gL_returns_L_low (N := 2) (by decide) (by decide) hl.1 (Nat.le_of_ble_eq_true rfl) dL_returns_197 ⟨Nat.le_of_ble_eq_true rfl, Nat.le_of_ble_eq_true rfl⟩ ⟨Nat.le_of_ble_eq_true rfl, Nat.le_of_ble_eq_true rfl⟩ (fun q3 hq3 => ?_)
      refine lv_if_ne (tgt := 214) hx hb dL_returns_200 (by decide) (fun c200 => ?_) (fun c200 => ?_)
      · skip
        refine lv_aload_n hx hb dL_returns_214 rfl (lv_at hl 3 rfl) ?_
        refine lv_iload_n hx hb dL_returns_215 rfl (lv_at hl 4 rfl) ?_
        refine lv_iload_n hx hb dL_returns_216 rfl (lv_at hl 5 rfl) ?_
        refine lv_iload hx hb dL_returns_217 (lv_at hl 1 rfl) ?_
        refine z_exchange hlt ⟨hx, hb, hml, hown, hts⟩ gL_returns_L_exchange hW hK hE hd hbk hI hO hS hA hC hk hj (y_in q1 (N := 1) rfl (by omega) (by decide)) hl.1 (Nat.le_of_ble_eq_true rfl) dL_returns_219 ⟨Nat.le_of_ble_eq_true rfl, Nat.le_of_ble_eq_true rfl⟩ ⟨Nat.le_of_ble_eq_true rfl, Nat.le_of_ble_eq_true rfl⟩ (fun r X9 H locs hp hW hz9 hk9 hS => ?_)
        rcases hp with ⟨hmay, rfl, rfl⟩ | ⟨rfl, hmay, hX⟩
        · skip
          have hE := hE0.S hO0 hS
          have hO : xO g hz H.size := ⟨hO0.1, Nat.le_trans hO0.2 hS.1⟩
          have hA : ∀ q, xA g H.size q → xA g s.heap.size q := fun q h => h.imp id (fun h => Nat.le_trans hS.1 h)
          have hC : xC g (swX X (8 * k + 0) (nI q1) 2) n kc := hC.same rfl (fun _ => rfl)
          refine lv_istore (lv' := [(7, .int (X 1 0 + 21)), (6, .int (retX X k (8 * k + 0) (nI q1))), (5, .int (nI q1)), (4, .int (X 18 (8 * k + 0))), (0, .ref d), (1, .int (nI k)), (2, .int (nI 0)), (3, .int v)]) hx hb dL_returns_222 hl (by decide) rfl (fun ls hl => ?_)
          refine lv_aload_n hx hb dL_returns_224 rfl (lv_at hl 4 rfl) ?_
          refine lv_iload_n hx hb dL_returns_225 rfl (lv_at hl 5 rfl) ?_
          refine lv_iload_n hx hb dL_returns_226 rfl (lv_at hl 6 rfl) ?_
          refine lv_iconst (v := 0) hx hb dL_returns_227 (by decide) ?_
          refine z_wgrade hlt ⟨hx, hb, hml, hown, hts⟩ gL_returns_L_grade hW hK hE hd hbk hI hO hS hA hC hk hj (p2 := 0) (y_in 0 (N := 3) rfl (by decide) (by decide)) hl.1 (Nat.le_of_ble_eq_true rfl) dL_returns_228 ⟨Nat.le_of_ble_eq_true rfl, Nat.le_of_ble_eq_true rfl⟩ ⟨Nat.le_of_ble_eq_true rfl, Nat.le_of_ble_eq_true rfl⟩ (fun r Y H locs hp hW hz9 hk9 hS => ?_)
          have hG : (r, Y) = gradeX (swX X (8 * k + 0) (nI q1) 2) k (kc k) (8 * k + 0) 0 := hp.elim (fun h => h.2) (fun h => absurd h.2.1 (wtX_sw _ _ _ _ (by decide)))
          have hf := gr_facts (swX X (8 * k + 0) (nI q1) 2) k (kc k) (8 * k + 0) 0
          have hC2 := gr_C hC k (kc k) (8 * k + 0) 0
          rw [← hG] at hf hC2
          obtain ⟨f1, f2, f3, f4, f5, f6, f7, f8⟩ := hf
          dsimp only at f1 f7 hC2
          have hE := hE0.S hO0 hS
          have hO : xO g hz H.size := ⟨hO0.1, Nat.le_trans hO0.2 hS.1⟩
          have hA : ∀ q, xA g H.size q → xA g s.heap.size q := fun q h => h.imp id (fun h => Nat.le_trans hS.1 h)
          have hC : xC g Y n kc := hC2
          refine lv_bipush (v := (-3)) hx hb dL_returns_231 (by decide) ?_
          refine lv_icmp_ne (tgt := 240) hx hb dL_returns_233 (by decide) (fun _ => ?_) (fun h9 => absurd h9 (fun h => f1 (by rw [h]; decide)))
          refine lv_iconst (v := 0) hx hb dL_returns_240 (by decide) ?_
          refine lv_iload hx hb dL_returns_241 (lv_at hl 1 rfl) ?_
          refine lv_if_ne (tgt := 250) hx hb dL_returns_243 (by decide) (fun _ => ?_) (fun h9 => absurd h9 hmay)
          refine lv_iconst (v := 0) hx hb dL_returns_250 (by decide) ?_
          refine lv_icmp_ne (tgt := 296) hx hb dL_returns_251 (by decide) (fun h9 => absurd (by decide) h9) (fun _ => ?_)
          refine lv_iload hx hb dL_returns_254 (lv_at hl 1 rfl) ?_
          refine lv_if_eq (tgt := 274) hx hb dL_returns_256 (by decide) (fun h9 => absurd h9 hmay) (fun _ => ?_)
          refine lv_iload hx hb dL_returns_259 (lv_at hl 0 rfl) ?_
          refine lv_aload_n hx hb dL_returns_261 rfl (lv_at hl 4 rfl) ?_
          refine z_day hlt ⟨hx, hb, hml, hown, hts⟩ gL_returns_X2_day hW hK hE hd hbk hl.1 (Nat.le_of_ble_eq_true rfl) dL_returns_262 ⟨Nat.le_of_ble_eq_true rfl, Nat.le_of_ble_eq_true rfl⟩ ⟨Nat.le_of_ble_eq_true rfl, Nat.le_of_ble_eq_true rfl⟩ ?_
          refine lv_bipush (v := 21) hx hb dL_returns_265 (by decide) ?_
          refine lv_iadd hx hb dL_returns_267 ?_
          refine lv_icmp_ne (tgt := 296) hx hb dL_returns_268 (by decide) (fun h9 => absurd (by rw [f7]; rfl) h9) (fun _ => ?_)
          refine lv_goto (tgt := 292) hx hb dL_returns_271 (by decide) ?_
          refine lv_iconst (v := 1) hx hb dL_returns_292 (by decide) ?_
          refine lv_goto (tgt := 297) hx hb dL_returns_293 (by decide) ?_
          exact y_wzret hx hb hr hlocks ⟨Nat.le_of_ble_eq_true rfl, Nat.le_of_ble_eq_true rfl⟩ hW hS (Or.inr rfl) ⟨rfl, Or.inr (Or.inr ⟨q1, 2, by omega, by decide, hmay, by rw [← hG]⟩)⟩ dL_returns_297
        · skip
          have hX := hX.symm
          subst hX
          have hE := hE0.S hO0 hS
          have hO : xO g hz H.size := ⟨hO0.1, Nat.le_trans hO0.2 hS.1⟩
          have hA : ∀ q, xA g H.size q → xA g s.heap.size q := fun q h => h.imp id (fun h => Nat.le_trans hS.1 h)
          have hC : xC g X n kc := hC
          refine lv_istore (lv' := [(7, .int (-3)), (6, .int (retX X k (8 * k + 0) (nI q1))), (5, .int (nI q1)), (4, .int (X 18 (8 * k + 0))), (0, .ref d), (1, .int (nI k)), (2, .int (nI 0)), (3, .int v)]) hx hb dL_returns_222 hl (by decide) rfl (fun ls hl => ?_)
          refine lv_aload_n hx hb dL_returns_224 rfl (lv_at hl 4 rfl) ?_
          refine lv_iload_n hx hb dL_returns_225 rfl (lv_at hl 5 rfl) ?_
          refine lv_iload_n hx hb dL_returns_226 rfl (lv_at hl 6 rfl) ?_
          refine lv_iconst (v := 0) hx hb dL_returns_227 (by decide) ?_
          refine z_wgrade hlt ⟨hx, hb, hml, hown, hts⟩ gL_returns_L_grade hW hK hE hd hbk hI hO hS hA hC hk hj (p2 := 0) (y_in 0 (N := 3) rfl (by decide) (by decide)) hl.1 (Nat.le_of_ble_eq_true rfl) dL_returns_228 ⟨Nat.le_of_ble_eq_true rfl, Nat.le_of_ble_eq_true rfl⟩ ⟨Nat.le_of_ble_eq_true rfl, Nat.le_of_ble_eq_true rfl⟩ (fun r Y H locs hp hW hz9 hk9 hS => ?_)
          obtain ⟨rfl, hX⟩ : r = -3 ∧ X = Y := hp.elim (fun h => absurd (by unfold wtX; rw [if_neg c18, if_neg c24]) h.1) (fun h => ⟨h.1, h.2.2.symm⟩)
          subst hX
          have hE := hE0.S hO0 hS
          have hO : xO g hz H.size := ⟨hO0.1, Nat.le_trans hO0.2 hS.1⟩
          have hA : ∀ q, xA g H.size q → xA g s.heap.size q := fun q h => h.imp id (fun h => Nat.le_trans hS.1 h)
          have hC : xC g X n kc := hC
          refine lv_bipush (v := (-3)) hx hb dL_returns_231 (by decide) ?_
          refine lv_icmp_ne (tgt := 240) hx hb dL_returns_233 (by decide) (fun h9 => absurd rfl h9) (fun _ => ?_)
          refine lv_iconst (v := 1) hx hb dL_returns_236 (by decide) ?_
          refine lv_goto (tgt := 241) hx hb dL_returns_237 (by decide) ?_
          refine lv_iload hx hb dL_returns_241 (lv_at hl 1 rfl) ?_
          refine lv_if_ne (tgt := 250) hx hb dL_returns_243 (by decide) (fun h9 => absurd hmay h9) (fun _ => ?_)
          refine lv_iconst (v := 1) hx hb dL_returns_246 (by decide) ?_
          refine lv_goto (tgt := 251) hx hb dL_returns_247 (by decide) ?_
          refine lv_icmp_ne (tgt := 296) hx hb dL_returns_251 (by decide) (fun h9 => absurd (by decide) h9) (fun _ => ?_)
          refine lv_iload hx hb dL_returns_254 (lv_at hl 1 rfl) ?_
          refine lv_if_eq (tgt := 274) hx hb dL_returns_256 (by decide) (fun _ => ?_) (fun h9 => absurd hmay h9)
          refine lv_iload hx hb dL_returns_274 (lv_at hl 0 rfl) ?_
          refine lv_bipush (v := (-3)) hx hb dL_returns_276 (by decide) ?_
          refine lv_icmp_ne (tgt := 296) hx hb dL_returns_278 (by decide) (fun h9 => absurd (by decide) h9) (fun _ => ?_)
          refine lv_aload_n hx hb dL_returns_281 rfl (lv_at hl 4 rfl) ?_
          refine lv_iload_n hx hb dL_returns_282 rfl (lv_at hl 5 rfl) ?_
          refine lv_iload_n hx hb dL_returns_283 rfl (lv_at hl 6 rfl) ?_
          refine z_state hlt ⟨hx, hb, hml, hown, hts⟩ gL_returns_X2_state hW hK hE hd hbk hC hk hj hl.1 (Nat.le_of_ble_eq_true rfl) dL_returns_284 ⟨Nat.le_of_ble_eq_true rfl, Nat.le_of_ble_eq_true rfl⟩ ⟨Nat.le_of_ble_eq_true rfl, Nat.le_of_ble_eq_true rfl⟩ ?_
          refine lv_iload hx hb dL_returns_287 (lv_at hl 3 rfl) ?_
          refine lv_icmp_ne (tgt := 296) hx hb dL_returns_289 (by decide) (fun h9 => absurd rfl h9) (fun _ => ?_)
          refine lv_iconst (v := 1) hx hb dL_returns_292 (by decide) ?_
          refine lv_goto (tgt := 297) hx hb dL_returns_293 (by decide) ?_
          exact y_wzret hx hb hr hlocks ⟨Nat.le_of_ble_eq_true rfl, Nat.le_of_ble_eq_true rfl⟩ hW hS (Or.inr rfl) ⟨rfl, Or.inr (Or.inl rfl)⟩ dL_returns_297
      · skip
        refine lv_aload_n hx hb dL_returns_203 rfl (lv_at hl 3 rfl) ?_
        refine lv_iload_n hx hb dL_returns_204 rfl (lv_at hl 4 rfl) ?_
        refine lv_iload_n hx hb dL_returns_205 rfl (lv_at hl 5 rfl) ?_
        refine lv_iload hx hb dL_returns_206 (lv_at hl 1 rfl) ?_
        refine z_ask hlt ⟨hx, hb, hml, hown, hts⟩ gL_returns_L_ask hW hK hE hd hbk hI hO hS hA hC hk hj (y_in q1 (N := 1) rfl (by omega) (by decide)) hl.1 (Nat.le_of_ble_eq_true rfl) dL_returns_208 ⟨Nat.le_of_ble_eq_true rfl, Nat.le_of_ble_eq_true rfl⟩ ⟨Nat.le_of_ble_eq_true rfl, Nat.le_of_ble_eq_true rfl⟩ (fun r X9 H locs hp hW hz9 hk9 hS => ?_)
        rcases hp with ⟨hmay, rfl, rfl⟩ | ⟨rfl, hmay, hX⟩
        · skip
          have hE := hE0.S hO0 hS
          have hO : xO g hz H.size := ⟨hO0.1, Nat.le_trans hO0.2 hS.1⟩
          have hA : ∀ q, xA g H.size q → xA g s.heap.size q := fun q h => h.imp id (fun h => Nat.le_trans hS.1 h)
          have hC : xC g (swX X (8 * k + 0) (nI q1) 1) n kc := hC.same rfl (fun _ => rfl)
          refine lv_goto (tgt := 222) hx hb dL_returns_211 (by decide) ?_
          refine lv_istore (lv' := [(7, .int (X 1 0 + 21)), (6, .int (retX X k (8 * k + 0) (nI q1))), (5, .int (nI q1)), (4, .int (X 18 (8 * k + 0))), (0, .ref d), (1, .int (nI k)), (2, .int (nI 0)), (3, .int v)]) hx hb dL_returns_222 hl (by decide) rfl (fun ls hl => ?_)
          refine lv_aload_n hx hb dL_returns_224 rfl (lv_at hl 4 rfl) ?_
          refine lv_iload_n hx hb dL_returns_225 rfl (lv_at hl 5 rfl) ?_
          refine lv_iload_n hx hb dL_returns_226 rfl (lv_at hl 6 rfl) ?_
          refine lv_iconst (v := 0) hx hb dL_returns_227 (by decide) ?_
          refine z_wgrade hlt ⟨hx, hb, hml, hown, hts⟩ gL_returns_L_grade hW hK hE hd hbk hI hO hS hA hC hk hj (p2 := 0) (y_in 0 (N := 3) rfl (by decide) (by decide)) hl.1 (Nat.le_of_ble_eq_true rfl) dL_returns_228 ⟨Nat.le_of_ble_eq_true rfl, Nat.le_of_ble_eq_true rfl⟩ ⟨Nat.le_of_ble_eq_true rfl, Nat.le_of_ble_eq_true rfl⟩ (fun r Y H locs hp hW hz9 hk9 hS => ?_)
          have hG : (r, Y) = gradeX (swX X (8 * k + 0) (nI q1) 1) k (kc k) (8 * k + 0) 0 := hp.elim (fun h => h.2) (fun h => absurd h.2.1 (wtX_sw _ _ _ _ (by decide)))
          have hf := gr_facts (swX X (8 * k + 0) (nI q1) 1) k (kc k) (8 * k + 0) 0
          have hC2 := gr_C hC k (kc k) (8 * k + 0) 0
          rw [← hG] at hf hC2
          obtain ⟨f1, f2, f3, f4, f5, f6, f7, f8⟩ := hf
          dsimp only at f1 f7 hC2
          have hE := hE0.S hO0 hS
          have hO : xO g hz H.size := ⟨hO0.1, Nat.le_trans hO0.2 hS.1⟩
          have hA : ∀ q, xA g H.size q → xA g s.heap.size q := fun q h => h.imp id (fun h => Nat.le_trans hS.1 h)
          have hC : xC g Y n kc := hC2
          refine lv_bipush (v := (-3)) hx hb dL_returns_231 (by decide) ?_
          refine lv_icmp_ne (tgt := 240) hx hb dL_returns_233 (by decide) (fun _ => ?_) (fun h9 => absurd h9 (fun h => f1 (by rw [h]; decide)))
          refine lv_iconst (v := 0) hx hb dL_returns_240 (by decide) ?_
          refine lv_iload hx hb dL_returns_241 (lv_at hl 1 rfl) ?_
          refine lv_if_ne (tgt := 250) hx hb dL_returns_243 (by decide) (fun _ => ?_) (fun h9 => absurd h9 hmay)
          refine lv_iconst (v := 0) hx hb dL_returns_250 (by decide) ?_
          refine lv_icmp_ne (tgt := 296) hx hb dL_returns_251 (by decide) (fun h9 => absurd (by decide) h9) (fun _ => ?_)
          refine lv_iload hx hb dL_returns_254 (lv_at hl 1 rfl) ?_
          refine lv_if_eq (tgt := 274) hx hb dL_returns_256 (by decide) (fun h9 => absurd h9 hmay) (fun _ => ?_)
          refine lv_iload hx hb dL_returns_259 (lv_at hl 0 rfl) ?_
          refine lv_aload_n hx hb dL_returns_261 rfl (lv_at hl 4 rfl) ?_
          refine z_day hlt ⟨hx, hb, hml, hown, hts⟩ gL_returns_X2_day hW hK hE hd hbk hl.1 (Nat.le_of_ble_eq_true rfl) dL_returns_262 ⟨Nat.le_of_ble_eq_true rfl, Nat.le_of_ble_eq_true rfl⟩ ⟨Nat.le_of_ble_eq_true rfl, Nat.le_of_ble_eq_true rfl⟩ ?_
          refine lv_bipush (v := 21) hx hb dL_returns_265 (by decide) ?_
          refine lv_iadd hx hb dL_returns_267 ?_
          refine lv_icmp_ne (tgt := 296) hx hb dL_returns_268 (by decide) (fun h9 => absurd (by rw [f7]; rfl) h9) (fun _ => ?_)
          refine lv_goto (tgt := 292) hx hb dL_returns_271 (by decide) ?_
          refine lv_iconst (v := 1) hx hb dL_returns_292 (by decide) ?_
          refine lv_goto (tgt := 297) hx hb dL_returns_293 (by decide) ?_
          exact y_wzret hx hb hr hlocks ⟨Nat.le_of_ble_eq_true rfl, Nat.le_of_ble_eq_true rfl⟩ hW hS (Or.inr rfl) ⟨rfl, Or.inr (Or.inr ⟨q1, 1, by omega, by decide, hmay, by rw [← hG]⟩)⟩ dL_returns_297
        · skip
          have hX := hX.symm
          subst hX
          have hE := hE0.S hO0 hS
          have hO : xO g hz H.size := ⟨hO0.1, Nat.le_trans hO0.2 hS.1⟩
          have hA : ∀ q, xA g H.size q → xA g s.heap.size q := fun q h => h.imp id (fun h => Nat.le_trans hS.1 h)
          have hC : xC g X n kc := hC
          refine lv_goto (tgt := 222) hx hb dL_returns_211 (by decide) ?_
          refine lv_istore (lv' := [(7, .int (-3)), (6, .int (retX X k (8 * k + 0) (nI q1))), (5, .int (nI q1)), (4, .int (X 18 (8 * k + 0))), (0, .ref d), (1, .int (nI k)), (2, .int (nI 0)), (3, .int v)]) hx hb dL_returns_222 hl (by decide) rfl (fun ls hl => ?_)
          refine lv_aload_n hx hb dL_returns_224 rfl (lv_at hl 4 rfl) ?_
          refine lv_iload_n hx hb dL_returns_225 rfl (lv_at hl 5 rfl) ?_
          refine lv_iload_n hx hb dL_returns_226 rfl (lv_at hl 6 rfl) ?_
          refine lv_iconst (v := 0) hx hb dL_returns_227 (by decide) ?_
          refine z_wgrade hlt ⟨hx, hb, hml, hown, hts⟩ gL_returns_L_grade hW hK hE hd hbk hI hO hS hA hC hk hj (p2 := 0) (y_in 0 (N := 3) rfl (by decide) (by decide)) hl.1 (Nat.le_of_ble_eq_true rfl) dL_returns_228 ⟨Nat.le_of_ble_eq_true rfl, Nat.le_of_ble_eq_true rfl⟩ ⟨Nat.le_of_ble_eq_true rfl, Nat.le_of_ble_eq_true rfl⟩ (fun r Y H locs hp hW hz9 hk9 hS => ?_)
          obtain ⟨rfl, hX⟩ : r = -3 ∧ X = Y := hp.elim (fun h => absurd (by unfold wtX; rw [if_neg c18, if_neg c24]) h.1) (fun h => ⟨h.1, h.2.2.symm⟩)
          subst hX
          have hE := hE0.S hO0 hS
          have hO : xO g hz H.size := ⟨hO0.1, Nat.le_trans hO0.2 hS.1⟩
          have hA : ∀ q, xA g H.size q → xA g s.heap.size q := fun q h => h.imp id (fun h => Nat.le_trans hS.1 h)
          have hC : xC g X n kc := hC
          refine lv_bipush (v := (-3)) hx hb dL_returns_231 (by decide) ?_
          refine lv_icmp_ne (tgt := 240) hx hb dL_returns_233 (by decide) (fun h9 => absurd rfl h9) (fun _ => ?_)
          refine lv_iconst (v := 1) hx hb dL_returns_236 (by decide) ?_
          refine lv_goto (tgt := 241) hx hb dL_returns_237 (by decide) ?_
          refine lv_iload hx hb dL_returns_241 (lv_at hl 1 rfl) ?_
          refine lv_if_ne (tgt := 250) hx hb dL_returns_243 (by decide) (fun h9 => absurd hmay h9) (fun _ => ?_)
          refine lv_iconst (v := 1) hx hb dL_returns_246 (by decide) ?_
          refine lv_goto (tgt := 251) hx hb dL_returns_247 (by decide) ?_
          refine lv_icmp_ne (tgt := 296) hx hb dL_returns_251 (by decide) (fun h9 => absurd (by decide) h9) (fun _ => ?_)
          refine lv_iload hx hb dL_returns_254 (lv_at hl 1 rfl) ?_
          refine lv_if_eq (tgt := 274) hx hb dL_returns_256 (by decide) (fun _ => ?_) (fun h9 => absurd hmay h9)
          refine lv_iload hx hb dL_returns_274 (lv_at hl 0 rfl) ?_
          refine lv_bipush (v := (-3)) hx hb dL_returns_276 (by decide) ?_
          refine lv_icmp_ne (tgt := 296) hx hb dL_returns_278 (by decide) (fun h9 => absurd (by decide) h9) (fun _ => ?_)
          refine lv_aload_n hx hb dL_returns_281 rfl (lv_at hl 4 rfl) ?_
          refine lv_iload_n hx hb dL_returns_282 rfl (lv_at hl 5 rfl) ?_
          refine lv_iload_n hx hb dL_returns_283 rfl (lv_at hl 6 rfl) ?_
          refine z_state hlt ⟨hx, hb, hml, hown, hts⟩ gL_returns_X2_state hW hK hE hd hbk hC hk hj hl.1 (Nat.le_of_ble_eq_true rfl) dL_returns_284 ⟨Nat.le_of_ble_eq_true rfl, Nat.le_of_ble_eq_true rfl⟩ ⟨Nat.le_of_ble_eq_true rfl, Nat.le_of_ble_eq_true rfl⟩ ?_
          refine lv_iload hx hb dL_returns_287 (lv_at hl 3 rfl) ?_
          refine lv_icmp_ne (tgt := 296) hx hb dL_returns_289 (by decide) (fun h9 => absurd rfl h9) (fun _ => ?_)
          refine lv_iconst (v := 1) hx hb dL_returns_292 (by decide) ?_
          refine lv_goto (tgt := 297) hx hb dL_returns_293 (by decide) ?_
          exact y_wzret hx hb hr hlocks ⟨Nat.le_of_ble_eq_true rfl, Nat.le_of_ble_eq_true rfl⟩ hW hS (Or.inr rfl) ⟨rfl, Or.inr (Or.inl rfl)⟩ dL_returns_297
    · skip
      refine lv_aload_n hx hb dL_returns_27 rfl (lv_at hl 2 rfl) ?_
      refine lv_iload_n hx hb dL_returns_28 rfl (lv_at hl 3 rfl) ?_
      refine z_all hlt ⟨hx, hb, hml, hown, hts⟩ gL_returns_L_all hW hK hE hd hbk hC hk hl.1 (Nat.le_of_ble_eq_true rfl) dL_returns_29 ⟨Nat.le_of_ble_eq_true rfl, Nat.le_of_ble_eq_true rfl⟩ ⟨Nat.le_of_ble_eq_true rfl, Nat.le_of_ble_eq_true rfl⟩ ?_
      refine lv_istore (lv' := [(6, .int (takenX X k)), (5, .int (nI q1)), (4, .int (X 18 (8 * k + 0))), (0, .ref d), (1, .int (nI k)), (2, .int (nI 0)), (3, .int v)]) hx hb dL_returns_32 hl (by decide) rfl (fun ls hl => ?_)
      refine lv_aload_n hx hb dL_returns_34 rfl (lv_at hl 3 rfl) ?_
      refine lv_iload_n hx hb dL_returns_35 rfl (lv_at hl 4 rfl) ?_
      refine z_refunded hlt ⟨hx, hb, hml, hown, hts⟩ gL_returns_X2_refunded hW hK hE hd hbk hC hk hl.1 (Nat.le_of_ble_eq_true rfl) dL_returns_36 ⟨Nat.le_of_ble_eq_true rfl, Nat.le_of_ble_eq_true rfl⟩ ⟨Nat.le_of_ble_eq_true rfl, Nat.le_of_ble_eq_true rfl⟩ ?_
      refine lv_istore (lv' := [(7, .int (X 12 k)), (6, .int (takenX X k)), (5, .int (nI q1)), (4, .int (X 18 (8 * k + 0))), (0, .ref d), (1, .int (nI k)), (2, .int (nI 0)), (3, .int v)]) hx hb dL_returns_39 hl (by decide) rfl (fun ls hl => ?_)
      refine lv_aload_n hx hb dL_returns_41 rfl (lv_at hl 4 rfl) ?_
      refine lv_iconst (v := 0) hx hb dL_returns_42 (by decide) ?_
      refine z_stock hlt ⟨hx, hb, hml, hown, hts⟩ gL_returns_X2_stock hW hK hE hd hbk (v := X 2 0) (y_in 0 (N := 2) rfl (by decide) (by decide)) rfl hl.1 (Nat.le_of_ble_eq_true rfl) dL_returns_43 ⟨Nat.le_of_ble_eq_true rfl, Nat.le_of_ble_eq_true rfl⟩ ⟨Nat.le_of_ble_eq_true rfl, Nat.le_of_ble_eq_true rfl⟩ ?_
      refine lv_aload_n hx hb dL_returns_46 rfl (lv_at hl 4 rfl) ?_
      refine lv_iconst (v := 1) hx hb dL_returns_47 (by decide) ?_
      refine z_stock hlt ⟨hx, hb, hml, hown, hts⟩ gL_returns_X2_stock hW hK hE hd hbk (v := X 3 0) (y_in 1 (N := 2) rfl (by decide) (by decide)) rfl hl.1 (Nat.le_of_ble_eq_true rfl) dL_returns_48 ⟨Nat.le_of_ble_eq_true rfl, Nat.le_of_ble_eq_true rfl⟩ ⟨Nat.le_of_ble_eq_true rfl, Nat.le_of_ble_eq_true rfl⟩ ?_
      refine lv_iadd hx hb dL_returns_51 ?_
      refine lv_aload_n hx hb dL_returns_52 rfl (lv_at hl 4 rfl) ?_
      refine lv_iconst (v := 2) hx hb dL_returns_53 (by decide) ?_
      refine z_stock hlt ⟨hx, hb, hml, hown, hts⟩ gL_returns_X2_stock hW hK hE hd hbk (v := X 4 0) (y_in 2 (N := 2) rfl (by decide) (by decide)) rfl hl.1 (Nat.le_of_ble_eq_true rfl) dL_returns_54 ⟨Nat.le_of_ble_eq_true rfl, Nat.le_of_ble_eq_true rfl⟩ ⟨Nat.le_of_ble_eq_true rfl, Nat.le_of_ble_eq_true rfl⟩ ?_
      refine lv_iadd hx hb dL_returns_57 ?_
      refine lv_istore (lv' := [(8, .int (((X 2 0) + (X 3 0)) + (X 4 0))), (7, .int (X 12 k)), (6, .int (takenX X k)), (5, .int (nI q1)), (4, .int (X 18 (8 * k + 0))), (0, .ref d), (1, .int (nI k)), (2, .int (nI 0)), (3, .int v)]) hx hb dL_returns_58 hl (by decide) rfl (fun ls hl => ?_)
      refine lv_iload_n hx hb dL_returns_60 rfl (lv_at hl 8 rfl) ?_
      refine lv_iconst (v := 3) hx hb dL_returns_61 (by decide) ?_
      refine lv_ishr hx hb dL_returns_62 ?_
      refine lv_iconst (v := 4) hx hb dL_returns_63 (by decide) ?_
      refine z_low ⟨hx, hb, hml, hown, hts⟩ gL_returns_L_low (N := 4) (by decide) (by decide) hl.1 (Nat.le_of_ble_eq_true rfl) dL_returns_64 ⟨Nat.le_of_ble_eq_true rfl, Nat.le_of_ble_eq_true rfl⟩ ⟨Nat.le_of_ble_eq_true rfl, Nat.le_of_ble_eq_true rfl⟩ (fun q4 hq4 => ?_)
      refine lv_istore (lv' := [(9, .int (nI q4)), (8, .int (((X 2 0) + (X 3 0)) + (X 4 0))), (7, .int (X 12 k)), (6, .int (takenX X k)), (5, .int (nI q1)), (4, .int (X 18 (8 * k + 0))), (0, .ref d), (1, .int (nI k)), (2, .int (nI 0)), (3, .int v)]) hx hb dL_returns_67 hl (by decide) rfl (fun ls hl => ?_)
      refine lv_aload_n hx hb dL_returns_69 rfl (lv_at hl 6 rfl) ?_
      refine lv_iload_n hx hb dL_returns_70 rfl (lv_at hl 7 rfl) ?_
      refine lv_iload_n hx hb dL_returns_71 rfl (lv_at hl 8 rfl) ?_
      refine lv_iload hx hb dL_returns_72 (lv_at hl 0 rfl) ?_
      refine z_grade hlt ⟨hx, hb, hml, hown, hts⟩ gL_returns_X2_grade hW hK hE hd hbk hI hO hS hA hC hk hj (y_in q4 (N := 3) rfl (by omega) (by decide)) (by unfold wtX; rw [if_neg c18, if_pos c24]; decide) hl.1 (Nat.le_of_ble_eq_true rfl) dL_returns_74 ⟨Nat.le_of_ble_eq_true rfl, Nat.le_of_ble_eq_true rfl⟩ ⟨Nat.le_of_ble_eq_true rfl, Nat.le_of_ble_eq_true rfl⟩ (fun H locs hW hz9 hk9 hS => ?_)
      have hf := gr_facts X k (kc k) (8 * k + 0) (nI q4)
      have hC2 := gr_C hC k (kc k) (8 * k + 0) (nI q4)
      generalize hG : gradeX X k (kc k) (8 * k + 0) (nI q4) = G at hW hf hC2 ⊢
      obtain ⟨f1, f2, f3, f4, f5, f6, f7, f8⟩ := hf
      have hE := hE0.S hO0 hS
      have hO : xO g hz H.size := ⟨hO0.1, Nat.le_trans hO0.2 hS.1⟩
      have hA : ∀ q, xA g H.size q → xA g s.heap.size q := fun q h => h.imp id (fun h => Nat.le_trans hS.1 h)
      have hC : xC g G.2 n kc := hC2
      refine lv_istore (lv' := [(10, .int G.1), (9, .int (nI q4)), (8, .int (((X 2 0) + (X 3 0)) + (X 4 0))), (7, .int (X 12 k)), (6, .int (takenX X k)), (5, .int (nI q1)), (4, .int (X 18 (8 * k + 0))), (0, .ref d), (1, .int (nI k)), (2, .int (nI 0)), (3, .int v)]) hx hb dL_returns_77 hl (by decide) rfl (fun ls hl => ?_)
      refine lv_iload hx hb dL_returns_79 (lv_at hl 0 rfl) ?_
      refine lv_if_lt (tgt := 181) hx hb dL_returns_81 (by decide) (fun h9 => absurd h9 f1) (fun _ => ?_)
      refine lv_aload_n hx hb dL_returns_84 rfl (lv_at hl 7 rfl) ?_
      refine lv_iload_n hx hb dL_returns_85 rfl (lv_at hl 8 rfl) ?_
      refine z_all hlt ⟨hx, hb, hml, hown, hts⟩ gL_returns_L_all hW hK hE hd hbk hC hk hl.1 (Nat.le_of_ble_eq_true rfl) dL_returns_86 ⟨Nat.le_of_ble_eq_true rfl, Nat.le_of_ble_eq_true rfl⟩ ⟨Nat.le_of_ble_eq_true rfl, Nat.le_of_ble_eq_true rfl⟩ ?_
      refine lv_iload hx hb dL_returns_89 (lv_at hl 4 rfl) ?_
      refine lv_iload hx hb dL_returns_91 (lv_at hl 0 rfl) ?_
      refine lv_isub hx hb dL_returns_93 ?_
      refine lv_icmp_ne (tgt := 181) hx hb dL_returns_94 (by decide) (fun h9 => absurd f2 h9) (fun _ => ?_)
      refine lv_aload_n hx hb dL_returns_97 rfl (lv_at hl 7 rfl) ?_
      refine lv_iload_n hx hb dL_returns_98 rfl (lv_at hl 8 rfl) ?_
      refine z_refunded hlt ⟨hx, hb, hml, hown, hts⟩ gL_returns_X2_refunded hW hK hE hd hbk hC hk hl.1 (Nat.le_of_ble_eq_true rfl) dL_returns_99 ⟨Nat.le_of_ble_eq_true rfl, Nat.le_of_ble_eq_true rfl⟩ ⟨Nat.le_of_ble_eq_true rfl, Nat.le_of_ble_eq_true rfl⟩ ?_
      refine lv_iload hx hb dL_returns_102 (lv_at hl 3 rfl) ?_
      refine lv_iload hx hb dL_returns_104 (lv_at hl 0 rfl) ?_
      refine lv_iadd hx hb dL_returns_106 ?_
      refine lv_icmp_ne (tgt := 181) hx hb dL_returns_107 (by decide) (fun h9 => absurd f3 h9) (fun _ => ?_)
      refine lv_aload_n hx hb dL_returns_110 rfl (lv_at hl 7 rfl) ?_
      refine lv_iload_n hx hb dL_returns_111 rfl (lv_at hl 8 rfl) ?_
      refine lv_iload_n hx hb dL_returns_112 rfl (lv_at hl 9 rfl) ?_
      refine z_state hlt ⟨hx, hb, hml, hown, hts⟩ gL_returns_X2_state hW hK hE hd hbk hC hk hj hl.1 (Nat.le_of_ble_eq_true rfl) dL_returns_113 ⟨Nat.le_of_ble_eq_true rfl, Nat.le_of_ble_eq_true rfl⟩ ⟨Nat.le_of_ble_eq_true rfl, Nat.le_of_ble_eq_true rfl⟩ ?_
      refine lv_iload hx hb dL_returns_116 (lv_at hl 6 rfl) ?_
      refine lv_iconst (v := 1) hx hb dL_returns_118 (by decide) ?_
      refine lv_icmp_ne (tgt := 126) hx hb dL_returns_119 (by decide) (fun _ => ?_) (fun h9 => absurd h9 c18)
      refine lv_iconst (v := 0) hx hb dL_returns_126 (by decide) ?_
      refine lv_icmp_ne (tgt := 181) hx hb dL_returns_127 (by decide) (fun h9 => absurd (f4.trans (if_neg c18)) h9) (fun _ => ?_)
      refine lv_aload_n hx hb dL_returns_130 rfl (lv_at hl 7 rfl) ?_
      refine lv_iconst (v := 0) hx hb dL_returns_131 (by decide) ?_
      refine z_stock hlt ⟨hx, hb, hml, hown, hts⟩ gL_returns_X2_stock hW hK hE hd hbk (v := G.2 2 0) (y_in 0 (N := 2) rfl (by decide) (by decide)) rfl hl.1 (Nat.le_of_ble_eq_true rfl) dL_returns_132 ⟨Nat.le_of_ble_eq_true rfl, Nat.le_of_ble_eq_true rfl⟩ ⟨Nat.le_of_ble_eq_true rfl, Nat.le_of_ble_eq_true rfl⟩ ?_
      refine lv_aload_n hx hb dL_returns_135 rfl (lv_at hl 7 rfl) ?_
      refine lv_iconst (v := 1) hx hb dL_returns_136 (by decide) ?_
      refine z_stock hlt ⟨hx, hb, hml, hown, hts⟩ gL_returns_X2_stock hW hK hE hd hbk (v := G.2 3 0) (y_in 1 (N := 2) rfl (by decide) (by decide)) rfl hl.1 (Nat.le_of_ble_eq_true rfl) dL_returns_137 ⟨Nat.le_of_ble_eq_true rfl, Nat.le_of_ble_eq_true rfl⟩ ⟨Nat.le_of_ble_eq_true rfl, Nat.le_of_ble_eq_true rfl⟩ ?_
      refine lv_iadd hx hb dL_returns_140 ?_
      refine lv_aload_n hx hb dL_returns_141 rfl (lv_at hl 7 rfl) ?_
      refine lv_iconst (v := 2) hx hb dL_returns_142 (by decide) ?_
      refine z_stock hlt ⟨hx, hb, hml, hown, hts⟩ gL_returns_X2_stock hW hK hE hd hbk (v := G.2 4 0) (y_in 2 (N := 2) rfl (by decide) (by decide)) rfl hl.1 (Nat.le_of_ble_eq_true rfl) dL_returns_143 ⟨Nat.le_of_ble_eq_true rfl, Nat.le_of_ble_eq_true rfl⟩ ⟨Nat.le_of_ble_eq_true rfl, Nat.le_of_ble_eq_true rfl⟩ ?_
      refine lv_iadd hx hb dL_returns_146 ?_
      refine lv_iload hx hb dL_returns_147 (lv_at hl 2 rfl) ?_
      refine lv_iload hx hb dL_returns_149 (lv_at hl 1 rfl) ?_
      refine lv_iconst (v := 3) hx hb dL_returns_151 (by decide) ?_
      refine lv_icmp_ne (tgt := 159) hx hb dL_returns_152 (by decide) (fun c152 => ?_) (fun c152 => ?_)
      · skip
        refine lv_iconst (v := 1) hx hb dL_returns_159 (by decide) ?_
        refine lv_iadd hx hb dL_returns_160 ?_
        refine lv_icmp_ne (tgt := 181) hx hb dL_returns_161 (by decide) (fun h9 => absurd (f5.trans (by rw [if_neg c152])) h9) (fun _ => ?_)
        refine lv_iload hx hb dL_returns_164 (lv_at hl 0 rfl) ?_
        refine lv_if_eq (tgt := 177) hx hb dL_returns_166 (by decide) (fun c166 => ?_) (fun c166 => ?_)
        · skip
          refine lv_iconst (v := 1) hx hb dL_returns_177 (by decide) ?_
          refine lv_goto (tgt := 182) hx hb dL_returns_178 (by decide) ?_
          exact y_wzret hx hb hr hlocks ⟨Nat.le_of_ble_eq_true rfl, Nat.le_of_ble_eq_true rfl⟩ hW hS (Or.inr rfl) ⟨rfl, Or.inl ⟨q4, by omega, by rw [hG]⟩⟩ dL_returns_182
        · skip
          refine lv_aload_n hx hb dL_returns_169 rfl (lv_at hl 7 rfl) ?_
          refine lv_iload_n hx hb dL_returns_170 rfl (lv_at hl 8 rfl) ?_
          refine z_isShortBy hlt ⟨hx, hb, hml, hown, hts⟩ gL_returns_X2_isShortBy hW hK hE hd hbk hC hk hl.1 (Nat.le_of_ble_eq_true rfl) dL_returns_171 ⟨Nat.le_of_ble_eq_true rfl, Nat.le_of_ble_eq_true rfl⟩ ⟨Nat.le_of_ble_eq_true rfl, Nat.le_of_ble_eq_true rfl⟩ ?_
          refine lv_if_ne (tgt := 181) hx hb dL_returns_174 (by decide) (fun h9 => absurd (f6.resolve_left c166) h9) (fun _ => ?_)
          refine lv_iconst (v := 1) hx hb dL_returns_177 (by decide) ?_
          refine lv_goto (tgt := 182) hx hb dL_returns_178 (by decide) ?_
          exact y_wzret hx hb hr hlocks ⟨Nat.le_of_ble_eq_true rfl, Nat.le_of_ble_eq_true rfl⟩ hW hS (Or.inr rfl) ⟨rfl, Or.inl ⟨q4, by omega, by rw [hG]⟩⟩ dL_returns_182
      · skip
        refine lv_iconst (v := 0) hx hb dL_returns_155 (by decide) ?_
        refine lv_goto (tgt := 160) hx hb dL_returns_156 (by decide) ?_
        refine lv_iadd hx hb dL_returns_160 ?_
        refine lv_icmp_ne (tgt := 181) hx hb dL_returns_161 (by decide) (fun h9 => absurd (f5.trans (by rw [if_pos c152])) h9) (fun _ => ?_)
        refine lv_iload hx hb dL_returns_164 (lv_at hl 0 rfl) ?_
        refine lv_if_eq (tgt := 177) hx hb dL_returns_166 (by decide) (fun c166 => ?_) (fun c166 => ?_)
        · skip
          refine lv_iconst (v := 1) hx hb dL_returns_177 (by decide) ?_
          refine lv_goto (tgt := 182) hx hb dL_returns_178 (by decide) ?_
          exact y_wzret hx hb hr hlocks ⟨Nat.le_of_ble_eq_true rfl, Nat.le_of_ble_eq_true rfl⟩ hW hS (Or.inr rfl) ⟨rfl, Or.inl ⟨q4, by omega, by rw [hG]⟩⟩ dL_returns_182
        · skip
          refine lv_aload_n hx hb dL_returns_169 rfl (lv_at hl 7 rfl) ?_
          refine lv_iload_n hx hb dL_returns_170 rfl (lv_at hl 8 rfl) ?_
          refine z_isShortBy hlt ⟨hx, hb, hml, hown, hts⟩ gL_returns_X2_isShortBy hW hK hE hd hbk hC hk hl.1 (Nat.le_of_ble_eq_true rfl) dL_returns_171 ⟨Nat.le_of_ble_eq_true rfl, Nat.le_of_ble_eq_true rfl⟩ ⟨Nat.le_of_ble_eq_true rfl, Nat.le_of_ble_eq_true rfl⟩ ?_
          refine lv_if_ne (tgt := 181) hx hb dL_returns_174 (by decide) (fun h9 => absurd (f6.resolve_left c166) h9) (fun _ => ?_)
          refine lv_iconst (v := 1) hx hb dL_returns_177 (by decide) ?_
          refine lv_goto (tgt := 182) hx hb dL_returns_178 (by decide) ?_
          exact y_wzret hx hb hr hlocks ⟨Nat.le_of_ble_eq_true rfl, Nat.le_of_ble_eq_true rfl⟩ hW hS (Or.inr rfl) ⟨rfl, Or.inl ⟨q4, by omega, by rw [hG]⟩⟩ dL_returns_182

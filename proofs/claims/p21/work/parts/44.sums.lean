/-! THE LAW'S CHECK OF AN ORDER'S SUMS. -/
def SOK (X : MS) (k kk : Nat) (pv : Int32) : Prop := (¬ X 13 k < 0 ∧ ¬ X 14 k < 0 ∧ ¬ X 15 k < 0 ∧ ¬ X 12 k < 0 ∧ ¬ X 10 k < 0 ∧ ¬ X 11 k < 0) ∧ ((pv = 0 ∧ shX X k kk = 0 ∧ takenX X k = 0 ∧ X 12 k = 0 ∧ X 10 k = 0) ∨ (pv = 1 ∧ owedX X k kk ≤ takenX X k ∧ shX X k kk = 0) ∨ (pv = 1 ∧ ¬ owedX X k kk ≤ takenX X k ∧ shX X k kk = owedX X k kk - takenX X k))
set_option maxHeartbeats 4000000 in
set_option maxRecDepth 100000 in
theorem kL_sums (l : Launch) (hlt : l.stackTraces = false) {D : va_G} {cI cO cL cJ : ClassId} (g : XG) (X : MS) (hz sz : Nat) (d bk : Nat) (hd : g 3 0 = some d) (hbk : g 4 0 = some bk) (n : Nat) (kc : Nat → Nat) (hC : xC g X n kc) (k : Nat) (hk : k < n) (pv : Int32) (hs : SOK X k (kc k) pv) : Met l yL_sums wsL_sums ({ frames := 9, cells := 21, slots := 126, locals := 148 } : Room) (xP D cI cO cL cJ g X hz sz [.ref d, .int (nI k), .int pv]) (vp_Si (fun r : Int32 => r = 1)) 21 126 (fun _ => False) := by
  refine x_bodyM (cc := cL_sums) (maxL := 6) (ret := some .boolean) (by decide) rfl [.ref d, .int (nI k), .int pv] (Nat.le_of_ble_eq_true rfl) ?_
  intro p e s m args below meth c hx hb hr hts hown hml hlocks hsz hW hK hE ls hl
  subst hsz
  have hown : s.vm.findClass RL = some m.cls := hown
  obtain ⟨⟨h13, h14, h15, h12, h10, h11⟩, hs⟩ := hs
  rcases hs with ⟨rfl, hsh, ht0, hr0, hf0⟩ | ⟨rfl, hle, hsh⟩ | ⟨rfl, hle, hsh⟩
  · skip
    have hl : lv_has ls 6 [(0, .ref d), (1, .int (nI k)), (2, .int 0)] := hl
    refine lv_aload_n hx hb dL_sums_0 rfl (lv_at hl 0 rfl) ?_
    refine lv_iload_n hx hb dL_sums_1 rfl (lv_at hl 1 rfl) ?_
    refine z_price hlt ⟨hx, hb, hml, hown, hts⟩ gL_sums_X2_price hW hK hE hd hbk hC hk hl.1 (Nat.le_of_ble_eq_true rfl) dL_sums_2 ⟨Nat.le_of_ble_eq_true rfl, Nat.le_of_ble_eq_true rfl⟩ ⟨Nat.le_of_ble_eq_true rfl, Nat.le_of_ble_eq_true rfl⟩ ?_
    refine lv_aload_n hx hb dL_sums_5 rfl (lv_at hl 0 rfl) ?_
    refine lv_iload_n hx hb dL_sums_6 rfl (lv_at hl 1 rfl) ?_
    refine z_fees hlt ⟨hx, hb, hml, hown, hts⟩ gL_sums_X2_fees hW hK hE hd hbk hC hk hl.1 (Nat.le_of_ble_eq_true rfl) dL_sums_7 ⟨Nat.le_of_ble_eq_true rfl, Nat.le_of_ble_eq_true rfl⟩ ⟨Nat.le_of_ble_eq_true rfl, Nat.le_of_ble_eq_true rfl⟩ ?_
    refine lv_iadd hx hb dL_sums_10 ?_
    refine lv_aload_n hx hb dL_sums_11 rfl (lv_at hl 0 rfl) ?_
    refine lv_iload_n hx hb dL_sums_12 rfl (lv_at hl 1 rfl) ?_
    refine z_charges hlt ⟨hx, hb, hml, hown, hts⟩ gL_sums_X2_charges hW hK hE hd hbk hC hk hl.1 (Nat.le_of_ble_eq_true rfl) dL_sums_13 ⟨Nat.le_of_ble_eq_true rfl, Nat.le_of_ble_eq_true rfl⟩ ⟨Nat.le_of_ble_eq_true rfl, Nat.le_of_ble_eq_true rfl⟩ ?_
    refine lv_iadd hx hb dL_sums_16 ?_
    refine cv (y := owedX X k (kc k)) rfl ?_
    refine lv_istore_n (lv' := [(3, .int (owedX X k (kc k))), (0, .ref d), (1, .int (nI k)), (2, .int 0)]) hx hb dL_sums_17 rfl hl (by decide) rfl (fun ls hl => ?_)
    refine lv_aload_n hx hb dL_sums_18 rfl (lv_at hl 1 rfl) ?_
    refine lv_iload_n hx hb dL_sums_19 rfl (lv_at hl 2 rfl) ?_
    refine z_all hlt ⟨hx, hb, hml, hown, hts⟩ gL_sums_L_all hW hK hE hd hbk hC hk hl.1 (Nat.le_of_ble_eq_true rfl) dL_sums_20 ⟨Nat.le_of_ble_eq_true rfl, Nat.le_of_ble_eq_true rfl⟩ ⟨Nat.le_of_ble_eq_true rfl, Nat.le_of_ble_eq_true rfl⟩ ?_
    refine lv_istore (lv' := [(4, .int (takenX X k)), (3, .int (owedX X k (kc k))), (0, .ref d), (1, .int (nI k)), (2, .int 0)]) hx hb dL_sums_23 hl (by decide) rfl (fun ls hl => ?_)
    refine lv_aload_n hx hb dL_sums_25 rfl (lv_at hl 2 rfl) ?_
    refine lv_iload_n hx hb dL_sums_26 rfl (lv_at hl 3 rfl) ?_
    refine lv_iconst (v := 0) hx hb dL_sums_27 (by decide) ?_
    refine z_taken hlt ⟨hx, hb, hml, hown, hts⟩ gL_sums_X2_taken hW hK hE hd hbk hC hk (v := X 13 k) (y_in 0 (N := 2) rfl (by decide) (by decide)) rfl hl.1 (Nat.le_of_ble_eq_true rfl) dL_sums_28 ⟨Nat.le_of_ble_eq_true rfl, Nat.le_of_ble_eq_true rfl⟩ ⟨Nat.le_of_ble_eq_true rfl, Nat.le_of_ble_eq_true rfl⟩ ?_
    refine lv_if_lt (tgt := 80) hx hb dL_sums_31 (by decide) (fun h9 => absurd h9 h13) (fun _ => ?_)
    refine lv_aload_n hx hb dL_sums_34 rfl (lv_at hl 2 rfl) ?_
    refine lv_iload_n hx hb dL_sums_35 rfl (lv_at hl 3 rfl) ?_
    refine lv_iconst (v := 1) hx hb dL_sums_36 (by decide) ?_
    refine z_taken hlt ⟨hx, hb, hml, hown, hts⟩ gL_sums_X2_taken hW hK hE hd hbk hC hk (v := X 14 k) (y_in 1 (N := 2) rfl (by decide) (by decide)) rfl hl.1 (Nat.le_of_ble_eq_true rfl) dL_sums_37 ⟨Nat.le_of_ble_eq_true rfl, Nat.le_of_ble_eq_true rfl⟩ ⟨Nat.le_of_ble_eq_true rfl, Nat.le_of_ble_eq_true rfl⟩ ?_
    refine lv_if_lt (tgt := 80) hx hb dL_sums_40 (by decide) (fun h9 => absurd h9 h14) (fun _ => ?_)
    refine lv_aload_n hx hb dL_sums_43 rfl (lv_at hl 2 rfl) ?_
    refine lv_iload_n hx hb dL_sums_44 rfl (lv_at hl 3 rfl) ?_
    refine lv_iconst (v := 2) hx hb dL_sums_45 (by decide) ?_
    refine z_taken hlt ⟨hx, hb, hml, hown, hts⟩ gL_sums_X2_taken hW hK hE hd hbk hC hk (v := X 15 k) (y_in 2 (N := 2) rfl (by decide) (by decide)) rfl hl.1 (Nat.le_of_ble_eq_true rfl) dL_sums_46 ⟨Nat.le_of_ble_eq_true rfl, Nat.le_of_ble_eq_true rfl⟩ ⟨Nat.le_of_ble_eq_true rfl, Nat.le_of_ble_eq_true rfl⟩ ?_
    refine lv_if_lt (tgt := 80) hx hb dL_sums_49 (by decide) (fun h9 => absurd h9 h15) (fun _ => ?_)
    refine lv_aload_n hx hb dL_sums_52 rfl (lv_at hl 2 rfl) ?_
    refine lv_iload_n hx hb dL_sums_53 rfl (lv_at hl 3 rfl) ?_
    refine z_refunded hlt ⟨hx, hb, hml, hown, hts⟩ gL_sums_X2_refunded hW hK hE hd hbk hC hk hl.1 (Nat.le_of_ble_eq_true rfl) dL_sums_54 ⟨Nat.le_of_ble_eq_true rfl, Nat.le_of_ble_eq_true rfl⟩ ⟨Nat.le_of_ble_eq_true rfl, Nat.le_of_ble_eq_true rfl⟩ ?_
    refine lv_if_lt (tgt := 80) hx hb dL_sums_57 (by decide) (fun h9 => absurd h9 h12) (fun _ => ?_)
    refine lv_aload_n hx hb dL_sums_60 rfl (lv_at hl 2 rfl) ?_
    refine lv_iload_n hx hb dL_sums_61 rfl (lv_at hl 3 rfl) ?_
    refine z_fees hlt ⟨hx, hb, hml, hown, hts⟩ gL_sums_X2_fees hW hK hE hd hbk hC hk hl.1 (Nat.le_of_ble_eq_true rfl) dL_sums_62 ⟨Nat.le_of_ble_eq_true rfl, Nat.le_of_ble_eq_true rfl⟩ ⟨Nat.le_of_ble_eq_true rfl, Nat.le_of_ble_eq_true rfl⟩ ?_
    refine lv_if_lt (tgt := 80) hx hb dL_sums_65 (by decide) (fun h9 => absurd h9 h10) (fun _ => ?_)
    refine lv_aload_n hx hb dL_sums_68 rfl (lv_at hl 2 rfl) ?_
    refine lv_iload_n hx hb dL_sums_69 rfl (lv_at hl 3 rfl) ?_
    refine z_charges hlt ⟨hx, hb, hml, hown, hts⟩ gL_sums_X2_charges hW hK hE hd hbk hC hk hl.1 (Nat.le_of_ble_eq_true rfl) dL_sums_70 ⟨Nat.le_of_ble_eq_true rfl, Nat.le_of_ble_eq_true rfl⟩ ⟨Nat.le_of_ble_eq_true rfl, Nat.le_of_ble_eq_true rfl⟩ ?_
    refine lv_if_lt (tgt := 80) hx hb dL_sums_73 (by decide) (fun h9 => absurd h9 h11) (fun _ => ?_)
    refine lv_iconst (v := 1) hx hb dL_sums_76 (by decide) ?_
    refine lv_goto (tgt := 81) hx hb dL_sums_77 (by decide) ?_
    refine lv_istore (lv' := [(5, .int 1), (4, .int (takenX X k)), (3, .int (owedX X k (kc k))), (0, .ref d), (1, .int (nI k)), (2, .int 0)]) hx hb dL_sums_81 hl (by decide) rfl (fun ls hl => ?_)
    refine lv_iload hx hb dL_sums_83 (lv_at hl 0 rfl) ?_
    refine lv_if_eq (tgt := 143) hx hb dL_sums_85 (by decide) (fun h9 => absurd h9 (by decide)) (fun _ => ?_)
    refine lv_aload_n hx hb dL_sums_88 rfl (lv_at hl 3 rfl) ?_
    refine lv_iload_n hx hb dL_sums_89 rfl (lv_at hl 4 rfl) ?_
    refine z_isShortBy hlt ⟨hx, hb, hml, hown, hts⟩ gL_sums_X2_isShortBy hW hK hE hd hbk hC hk hl.1 (Nat.le_of_ble_eq_true rfl) dL_sums_90 ⟨Nat.le_of_ble_eq_true rfl, Nat.le_of_ble_eq_true rfl⟩ ⟨Nat.le_of_ble_eq_true rfl, Nat.le_of_ble_eq_true rfl⟩ ?_
    refine lv_iload_n hx hb dL_sums_93 rfl (lv_at hl 5 rfl) ?_
    refine lv_if_eq (tgt := 110) hx hb dL_sums_94 (by decide) (fun _ => ?_) (fun h9 => absurd (by decide) h9)
    refine lv_iconst (v := 0) hx hb dL_sums_110 (by decide) ?_
    refine lv_icmp_ne (tgt := 143) hx hb dL_sums_111 (by decide) (fun h9 => absurd hsh h9) (fun _ => ?_)
    refine lv_iload_n hx hb dL_sums_114 rfl (lv_at hl 5 rfl) ?_
    refine lv_if_ne (tgt := 139) hx hb dL_sums_115 (by decide) (fun h9 => absurd (by decide) h9) (fun _ => ?_)
    refine lv_iload hx hb dL_sums_118 (lv_at hl 1 rfl) ?_
    refine lv_if_ne (tgt := 143) hx hb dL_sums_120 (by decide) (fun h9 => absurd ht0 h9) (fun _ => ?_)
    refine lv_aload_n hx hb dL_sums_123 rfl (lv_at hl 3 rfl) ?_
    refine lv_iload_n hx hb dL_sums_124 rfl (lv_at hl 4 rfl) ?_
    refine z_refunded hlt ⟨hx, hb, hml, hown, hts⟩ gL_sums_X2_refunded hW hK hE hd hbk hC hk hl.1 (Nat.le_of_ble_eq_true rfl) dL_sums_125 ⟨Nat.le_of_ble_eq_true rfl, Nat.le_of_ble_eq_true rfl⟩ ⟨Nat.le_of_ble_eq_true rfl, Nat.le_of_ble_eq_true rfl⟩ ?_
    refine lv_if_ne (tgt := 143) hx hb dL_sums_128 (by decide) (fun h9 => absurd hr0 h9) (fun _ => ?_)
    refine lv_aload_n hx hb dL_sums_131 rfl (lv_at hl 3 rfl) ?_
    refine lv_iload_n hx hb dL_sums_132 rfl (lv_at hl 4 rfl) ?_
    refine z_fees hlt ⟨hx, hb, hml, hown, hts⟩ gL_sums_X2_fees hW hK hE hd hbk hC hk hl.1 (Nat.le_of_ble_eq_true rfl) dL_sums_133 ⟨Nat.le_of_ble_eq_true rfl, Nat.le_of_ble_eq_true rfl⟩ ⟨Nat.le_of_ble_eq_true rfl, Nat.le_of_ble_eq_true rfl⟩ ?_
    refine lv_if_ne (tgt := 143) hx hb dL_sums_136 (by decide) (fun h9 => absurd hf0 h9) (fun _ => ?_)
    refine lv_iconst (v := 1) hx hb dL_sums_139 (by decide) ?_
    refine lv_goto (tgt := 144) hx hb dL_sums_140 (by decide) ?_
    exact y_zret hx hb hr hlocks ⟨Nat.le_of_ble_eq_true rfl, Nat.le_of_ble_eq_true rfl⟩ (Or.inr rfl) rfl dL_sums_144
  · skip
    have hl : lv_has ls 6 [(0, .ref d), (1, .int (nI k)), (2, .int 1)] := hl
    refine lv_aload_n hx hb dL_sums_0 rfl (lv_at hl 0 rfl) ?_
    refine lv_iload_n hx hb dL_sums_1 rfl (lv_at hl 1 rfl) ?_
    refine z_price hlt ⟨hx, hb, hml, hown, hts⟩ gL_sums_X2_price hW hK hE hd hbk hC hk hl.1 (Nat.le_of_ble_eq_true rfl) dL_sums_2 ⟨Nat.le_of_ble_eq_true rfl, Nat.le_of_ble_eq_true rfl⟩ ⟨Nat.le_of_ble_eq_true rfl, Nat.le_of_ble_eq_true rfl⟩ ?_
    refine lv_aload_n hx hb dL_sums_5 rfl (lv_at hl 0 rfl) ?_
    refine lv_iload_n hx hb dL_sums_6 rfl (lv_at hl 1 rfl) ?_
    refine z_fees hlt ⟨hx, hb, hml, hown, hts⟩ gL_sums_X2_fees hW hK hE hd hbk hC hk hl.1 (Nat.le_of_ble_eq_true rfl) dL_sums_7 ⟨Nat.le_of_ble_eq_true rfl, Nat.le_of_ble_eq_true rfl⟩ ⟨Nat.le_of_ble_eq_true rfl, Nat.le_of_ble_eq_true rfl⟩ ?_
    refine lv_iadd hx hb dL_sums_10 ?_
    refine lv_aload_n hx hb dL_sums_11 rfl (lv_at hl 0 rfl) ?_
    refine lv_iload_n hx hb dL_sums_12 rfl (lv_at hl 1 rfl) ?_
    refine z_charges hlt ⟨hx, hb, hml, hown, hts⟩ gL_sums_X2_charges hW hK hE hd hbk hC hk hl.1 (Nat.le_of_ble_eq_true rfl) dL_sums_13 ⟨Nat.le_of_ble_eq_true rfl, Nat.le_of_ble_eq_true rfl⟩ ⟨Nat.le_of_ble_eq_true rfl, Nat.le_of_ble_eq_true rfl⟩ ?_
    refine lv_iadd hx hb dL_sums_16 ?_
    refine cv (y := owedX X k (kc k)) rfl ?_
    refine lv_istore_n (lv' := [(3, .int (owedX X k (kc k))), (0, .ref d), (1, .int (nI k)), (2, .int 1)]) hx hb dL_sums_17 rfl hl (by decide) rfl (fun ls hl => ?_)
    refine lv_aload_n hx hb dL_sums_18 rfl (lv_at hl 1 rfl) ?_
    refine lv_iload_n hx hb dL_sums_19 rfl (lv_at hl 2 rfl) ?_
    refine z_all hlt ⟨hx, hb, hml, hown, hts⟩ gL_sums_L_all hW hK hE hd hbk hC hk hl.1 (Nat.le_of_ble_eq_true rfl) dL_sums_20 ⟨Nat.le_of_ble_eq_true rfl, Nat.le_of_ble_eq_true rfl⟩ ⟨Nat.le_of_ble_eq_true rfl, Nat.le_of_ble_eq_true rfl⟩ ?_
    refine lv_istore (lv' := [(4, .int (takenX X k)), (3, .int (owedX X k (kc k))), (0, .ref d), (1, .int (nI k)), (2, .int 1)]) hx hb dL_sums_23 hl (by decide) rfl (fun ls hl => ?_)
    refine lv_aload_n hx hb dL_sums_25 rfl (lv_at hl 2 rfl) ?_
    refine lv_iload_n hx hb dL_sums_26 rfl (lv_at hl 3 rfl) ?_
    refine lv_iconst (v := 0) hx hb dL_sums_27 (by decide) ?_
    refine z_taken hlt ⟨hx, hb, hml, hown, hts⟩ gL_sums_X2_taken hW hK hE hd hbk hC hk (v := X 13 k) (y_in 0 (N := 2) rfl (by decide) (by decide)) rfl hl.1 (Nat.le_of_ble_eq_true rfl) dL_sums_28 ⟨Nat.le_of_ble_eq_true rfl, Nat.le_of_ble_eq_true rfl⟩ ⟨Nat.le_of_ble_eq_true rfl, Nat.le_of_ble_eq_true rfl⟩ ?_
    refine lv_if_lt (tgt := 80) hx hb dL_sums_31 (by decide) (fun h9 => absurd h9 h13) (fun _ => ?_)
    refine lv_aload_n hx hb dL_sums_34 rfl (lv_at hl 2 rfl) ?_
    refine lv_iload_n hx hb dL_sums_35 rfl (lv_at hl 3 rfl) ?_
    refine lv_iconst (v := 1) hx hb dL_sums_36 (by decide) ?_
    refine z_taken hlt ⟨hx, hb, hml, hown, hts⟩ gL_sums_X2_taken hW hK hE hd hbk hC hk (v := X 14 k) (y_in 1 (N := 2) rfl (by decide) (by decide)) rfl hl.1 (Nat.le_of_ble_eq_true rfl) dL_sums_37 ⟨Nat.le_of_ble_eq_true rfl, Nat.le_of_ble_eq_true rfl⟩ ⟨Nat.le_of_ble_eq_true rfl, Nat.le_of_ble_eq_true rfl⟩ ?_
    refine lv_if_lt (tgt := 80) hx hb dL_sums_40 (by decide) (fun h9 => absurd h9 h14) (fun _ => ?_)
    refine lv_aload_n hx hb dL_sums_43 rfl (lv_at hl 2 rfl) ?_
    refine lv_iload_n hx hb dL_sums_44 rfl (lv_at hl 3 rfl) ?_
    refine lv_iconst (v := 2) hx hb dL_sums_45 (by decide) ?_
    refine z_taken hlt ⟨hx, hb, hml, hown, hts⟩ gL_sums_X2_taken hW hK hE hd hbk hC hk (v := X 15 k) (y_in 2 (N := 2) rfl (by decide) (by decide)) rfl hl.1 (Nat.le_of_ble_eq_true rfl) dL_sums_46 ⟨Nat.le_of_ble_eq_true rfl, Nat.le_of_ble_eq_true rfl⟩ ⟨Nat.le_of_ble_eq_true rfl, Nat.le_of_ble_eq_true rfl⟩ ?_
    refine lv_if_lt (tgt := 80) hx hb dL_sums_49 (by decide) (fun h9 => absurd h9 h15) (fun _ => ?_)
    refine lv_aload_n hx hb dL_sums_52 rfl (lv_at hl 2 rfl) ?_
    refine lv_iload_n hx hb dL_sums_53 rfl (lv_at hl 3 rfl) ?_
    refine z_refunded hlt ⟨hx, hb, hml, hown, hts⟩ gL_sums_X2_refunded hW hK hE hd hbk hC hk hl.1 (Nat.le_of_ble_eq_true rfl) dL_sums_54 ⟨Nat.le_of_ble_eq_true rfl, Nat.le_of_ble_eq_true rfl⟩ ⟨Nat.le_of_ble_eq_true rfl, Nat.le_of_ble_eq_true rfl⟩ ?_
    refine lv_if_lt (tgt := 80) hx hb dL_sums_57 (by decide) (fun h9 => absurd h9 h12) (fun _ => ?_)
    refine lv_aload_n hx hb dL_sums_60 rfl (lv_at hl 2 rfl) ?_
    refine lv_iload_n hx hb dL_sums_61 rfl (lv_at hl 3 rfl) ?_
    refine z_fees hlt ⟨hx, hb, hml, hown, hts⟩ gL_sums_X2_fees hW hK hE hd hbk hC hk hl.1 (Nat.le_of_ble_eq_true rfl) dL_sums_62 ⟨Nat.le_of_ble_eq_true rfl, Nat.le_of_ble_eq_true rfl⟩ ⟨Nat.le_of_ble_eq_true rfl, Nat.le_of_ble_eq_true rfl⟩ ?_
    refine lv_if_lt (tgt := 80) hx hb dL_sums_65 (by decide) (fun h9 => absurd h9 h10) (fun _ => ?_)
    refine lv_aload_n hx hb dL_sums_68 rfl (lv_at hl 2 rfl) ?_
    refine lv_iload_n hx hb dL_sums_69 rfl (lv_at hl 3 rfl) ?_
    refine z_charges hlt ⟨hx, hb, hml, hown, hts⟩ gL_sums_X2_charges hW hK hE hd hbk hC hk hl.1 (Nat.le_of_ble_eq_true rfl) dL_sums_70 ⟨Nat.le_of_ble_eq_true rfl, Nat.le_of_ble_eq_true rfl⟩ ⟨Nat.le_of_ble_eq_true rfl, Nat.le_of_ble_eq_true rfl⟩ ?_
    refine lv_if_lt (tgt := 80) hx hb dL_sums_73 (by decide) (fun h9 => absurd h9 h11) (fun _ => ?_)
    refine lv_iconst (v := 1) hx hb dL_sums_76 (by decide) ?_
    refine lv_goto (tgt := 81) hx hb dL_sums_77 (by decide) ?_
    refine lv_istore (lv' := [(5, .int 1), (4, .int (takenX X k)), (3, .int (owedX X k (kc k))), (0, .ref d), (1, .int (nI k)), (2, .int 1)]) hx hb dL_sums_81 hl (by decide) rfl (fun ls hl => ?_)
    refine lv_iload hx hb dL_sums_83 (lv_at hl 0 rfl) ?_
    refine lv_if_eq (tgt := 143) hx hb dL_sums_85 (by decide) (fun h9 => absurd h9 (by decide)) (fun _ => ?_)
    refine lv_aload_n hx hb dL_sums_88 rfl (lv_at hl 3 rfl) ?_
    refine lv_iload_n hx hb dL_sums_89 rfl (lv_at hl 4 rfl) ?_
    refine z_isShortBy hlt ⟨hx, hb, hml, hown, hts⟩ gL_sums_X2_isShortBy hW hK hE hd hbk hC hk hl.1 (Nat.le_of_ble_eq_true rfl) dL_sums_90 ⟨Nat.le_of_ble_eq_true rfl, Nat.le_of_ble_eq_true rfl⟩ ⟨Nat.le_of_ble_eq_true rfl, Nat.le_of_ble_eq_true rfl⟩ ?_
    refine lv_iload_n hx hb dL_sums_93 rfl (lv_at hl 5 rfl) ?_
    refine lv_if_eq (tgt := 110) hx hb dL_sums_94 (by decide) (fun h9 => absurd h9 (by decide)) (fun _ => ?_)
    refine lv_iload_n hx hb dL_sums_97 rfl (lv_at hl 2 rfl) ?_
    refine lv_iload hx hb dL_sums_98 (lv_at hl 1 rfl) ?_
    refine lv_icmp_le (tgt := 110) hx hb dL_sums_100 (by decide) (fun _ => ?_) (fun h9 => absurd hle h9)
    refine lv_iconst (v := 0) hx hb dL_sums_110 (by decide) ?_
    refine lv_icmp_ne (tgt := 143) hx hb dL_sums_111 (by decide) (fun h9 => absurd hsh h9) (fun _ => ?_)
    refine lv_iload_n hx hb dL_sums_114 rfl (lv_at hl 5 rfl) ?_
    refine lv_if_ne (tgt := 139) hx hb dL_sums_115 (by decide) (fun _ => ?_) (fun h9 => absurd h9 (by decide))
    refine lv_iconst (v := 1) hx hb dL_sums_139 (by decide) ?_
    refine lv_goto (tgt := 144) hx hb dL_sums_140 (by decide) ?_
    exact y_zret hx hb hr hlocks ⟨Nat.le_of_ble_eq_true rfl, Nat.le_of_ble_eq_true rfl⟩ (Or.inr rfl) rfl dL_sums_144
  · skip
    have hl : lv_has ls 6 [(0, .ref d), (1, .int (nI k)), (2, .int 1)] := hl
    refine lv_aload_n hx hb dL_sums_0 rfl (lv_at hl 0 rfl) ?_
    refine lv_iload_n hx hb dL_sums_1 rfl (lv_at hl 1 rfl) ?_
    refine z_price hlt ⟨hx, hb, hml, hown, hts⟩ gL_sums_X2_price hW hK hE hd hbk hC hk hl.1 (Nat.le_of_ble_eq_true rfl) dL_sums_2 ⟨Nat.le_of_ble_eq_true rfl, Nat.le_of_ble_eq_true rfl⟩ ⟨Nat.le_of_ble_eq_true rfl, Nat.le_of_ble_eq_true rfl⟩ ?_
    refine lv_aload_n hx hb dL_sums_5 rfl (lv_at hl 0 rfl) ?_
    refine lv_iload_n hx hb dL_sums_6 rfl (lv_at hl 1 rfl) ?_
    refine z_fees hlt ⟨hx, hb, hml, hown, hts⟩ gL_sums_X2_fees hW hK hE hd hbk hC hk hl.1 (Nat.le_of_ble_eq_true rfl) dL_sums_7 ⟨Nat.le_of_ble_eq_true rfl, Nat.le_of_ble_eq_true rfl⟩ ⟨Nat.le_of_ble_eq_true rfl, Nat.le_of_ble_eq_true rfl⟩ ?_
    refine lv_iadd hx hb dL_sums_10 ?_
    refine lv_aload_n hx hb dL_sums_11 rfl (lv_at hl 0 rfl) ?_
    refine lv_iload_n hx hb dL_sums_12 rfl (lv_at hl 1 rfl) ?_
    refine z_charges hlt ⟨hx, hb, hml, hown, hts⟩ gL_sums_X2_charges hW hK hE hd hbk hC hk hl.1 (Nat.le_of_ble_eq_true rfl) dL_sums_13 ⟨Nat.le_of_ble_eq_true rfl, Nat.le_of_ble_eq_true rfl⟩ ⟨Nat.le_of_ble_eq_true rfl, Nat.le_of_ble_eq_true rfl⟩ ?_
    refine lv_iadd hx hb dL_sums_16 ?_
    refine cv (y := owedX X k (kc k)) rfl ?_
    refine lv_istore_n (lv' := [(3, .int (owedX X k (kc k))), (0, .ref d), (1, .int (nI k)), (2, .int 1)]) hx hb dL_sums_17 rfl hl (by decide) rfl (fun ls hl => ?_)
    refine lv_aload_n hx hb dL_sums_18 rfl (lv_at hl 1 rfl) ?_
    refine lv_iload_n hx hb dL_sums_19 rfl (lv_at hl 2 rfl) ?_
    refine z_all hlt ⟨hx, hb, hml, hown, hts⟩ gL_sums_L_all hW hK hE hd hbk hC hk hl.1 (Nat.le_of_ble_eq_true rfl) dL_sums_20 ⟨Nat.le_of_ble_eq_true rfl, Nat.le_of_ble_eq_true rfl⟩ ⟨Nat.le_of_ble_eq_true rfl, Nat.le_of_ble_eq_true rfl⟩ ?_
    refine lv_istore (lv' := [(4, .int (takenX X k)), (3, .int (owedX X k (kc k))), (0, .ref d), (1, .int (nI k)), (2, .int 1)]) hx hb dL_sums_23 hl (by decide) rfl (fun ls hl => ?_)
    refine lv_aload_n hx hb dL_sums_25 rfl (lv_at hl 2 rfl) ?_
    refine lv_iload_n hx hb dL_sums_26 rfl (lv_at hl 3 rfl) ?_
    refine lv_iconst (v := 0) hx hb dL_sums_27 (by decide) ?_
    refine z_taken hlt ⟨hx, hb, hml, hown, hts⟩ gL_sums_X2_taken hW hK hE hd hbk hC hk (v := X 13 k) (y_in 0 (N := 2) rfl (by decide) (by decide)) rfl hl.1 (Nat.le_of_ble_eq_true rfl) dL_sums_28 ⟨Nat.le_of_ble_eq_true rfl, Nat.le_of_ble_eq_true rfl⟩ ⟨Nat.le_of_ble_eq_true rfl, Nat.le_of_ble_eq_true rfl⟩ ?_
    refine lv_if_lt (tgt := 80) hx hb dL_sums_31 (by decide) (fun h9 => absurd h9 h13) (fun _ => ?_)
    refine lv_aload_n hx hb dL_sums_34 rfl (lv_at hl 2 rfl) ?_
    refine lv_iload_n hx hb dL_sums_35 rfl (lv_at hl 3 rfl) ?_
    refine lv_iconst (v := 1) hx hb dL_sums_36 (by decide) ?_
    refine z_taken hlt ⟨hx, hb, hml, hown, hts⟩ gL_sums_X2_taken hW hK hE hd hbk hC hk (v := X 14 k) (y_in 1 (N := 2) rfl (by decide) (by decide)) rfl hl.1 (Nat.le_of_ble_eq_true rfl) dL_sums_37 ⟨Nat.le_of_ble_eq_true rfl, Nat.le_of_ble_eq_true rfl⟩ ⟨Nat.le_of_ble_eq_true rfl, Nat.le_of_ble_eq_true rfl⟩ ?_
    refine lv_if_lt (tgt := 80) hx hb dL_sums_40 (by decide) (fun h9 => absurd h9 h14) (fun _ => ?_)
    refine lv_aload_n hx hb dL_sums_43 rfl (lv_at hl 2 rfl) ?_
    refine lv_iload_n hx hb dL_sums_44 rfl (lv_at hl 3 rfl) ?_
    refine lv_iconst (v := 2) hx hb dL_sums_45 (by decide) ?_
    refine z_taken hlt ⟨hx, hb, hml, hown, hts⟩ gL_sums_X2_taken hW hK hE hd hbk hC hk (v := X 15 k) (y_in 2 (N := 2) rfl (by decide) (by decide)) rfl hl.1 (Nat.le_of_ble_eq_true rfl) dL_sums_46 ⟨Nat.le_of_ble_eq_true rfl, Nat.le_of_ble_eq_true rfl⟩ ⟨Nat.le_of_ble_eq_true rfl, Nat.le_of_ble_eq_true rfl⟩ ?_
    refine lv_if_lt (tgt := 80) hx hb dL_sums_49 (by decide) (fun h9 => absurd h9 h15) (fun _ => ?_)
    refine lv_aload_n hx hb dL_sums_52 rfl (lv_at hl 2 rfl) ?_
    refine lv_iload_n hx hb dL_sums_53 rfl (lv_at hl 3 rfl) ?_
    refine z_refunded hlt ⟨hx, hb, hml, hown, hts⟩ gL_sums_X2_refunded hW hK hE hd hbk hC hk hl.1 (Nat.le_of_ble_eq_true rfl) dL_sums_54 ⟨Nat.le_of_ble_eq_true rfl, Nat.le_of_ble_eq_true rfl⟩ ⟨Nat.le_of_ble_eq_true rfl, Nat.le_of_ble_eq_true rfl⟩ ?_
    refine lv_if_lt (tgt := 80) hx hb dL_sums_57 (by decide) (fun h9 => absurd h9 h12) (fun _ => ?_)
    refine lv_aload_n hx hb dL_sums_60 rfl (lv_at hl 2 rfl) ?_
    refine lv_iload_n hx hb dL_sums_61 rfl (lv_at hl 3 rfl) ?_
    refine z_fees hlt ⟨hx, hb, hml, hown, hts⟩ gL_sums_X2_fees hW hK hE hd hbk hC hk hl.1 (Nat.le_of_ble_eq_true rfl) dL_sums_62 ⟨Nat.le_of_ble_eq_true rfl, Nat.le_of_ble_eq_true rfl⟩ ⟨Nat.le_of_ble_eq_true rfl, Nat.le_of_ble_eq_true rfl⟩ ?_
    refine lv_if_lt (tgt := 80) hx hb dL_sums_65 (by decide) (fun h9 => absurd h9 h10) (fun _ => ?_)
    refine lv_aload_n hx hb dL_sums_68 rfl (lv_at hl 2 rfl) ?_
    refine lv_iload_n hx hb dL_sums_69 rfl (lv_at hl 3 rfl) ?_
    refine z_charges hlt ⟨hx, hb, hml, hown, hts⟩ gL_sums_X2_charges hW hK hE hd hbk hC hk hl.1 (Nat.le_of_ble_eq_true rfl) dL_sums_70 ⟨Nat.le_of_ble_eq_true rfl, Nat.le_of_ble_eq_true rfl⟩ ⟨Nat.le_of_ble_eq_true rfl, Nat.le_of_ble_eq_true rfl⟩ ?_
    refine lv_if_lt (tgt := 80) hx hb dL_sums_73 (by decide) (fun h9 => absurd h9 h11) (fun _ => ?_)
    refine lv_iconst (v := 1) hx hb dL_sums_76 (by decide) ?_
    refine lv_goto (tgt := 81) hx hb dL_sums_77 (by decide) ?_
    refine lv_istore (lv' := [(5, .int 1), (4, .int (takenX X k)), (3, .int (owedX X k (kc k))), (0, .ref d), (1, .int (nI k)), (2, .int 1)]) hx hb dL_sums_81 hl (by decide) rfl (fun ls hl => ?_)
    refine lv_iload hx hb dL_sums_83 (lv_at hl 0 rfl) ?_
    refine lv_if_eq (tgt := 143) hx hb dL_sums_85 (by decide) (fun h9 => absurd h9 (by decide)) (fun _ => ?_)
    refine lv_aload_n hx hb dL_sums_88 rfl (lv_at hl 3 rfl) ?_
    refine lv_iload_n hx hb dL_sums_89 rfl (lv_at hl 4 rfl) ?_
    refine z_isShortBy hlt ⟨hx, hb, hml, hown, hts⟩ gL_sums_X2_isShortBy hW hK hE hd hbk hC hk hl.1 (Nat.le_of_ble_eq_true rfl) dL_sums_90 ⟨Nat.le_of_ble_eq_true rfl, Nat.le_of_ble_eq_true rfl⟩ ⟨Nat.le_of_ble_eq_true rfl, Nat.le_of_ble_eq_true rfl⟩ ?_
    refine lv_iload_n hx hb dL_sums_93 rfl (lv_at hl 5 rfl) ?_
    refine lv_if_eq (tgt := 110) hx hb dL_sums_94 (by decide) (fun h9 => absurd h9 (by decide)) (fun _ => ?_)
    refine lv_iload_n hx hb dL_sums_97 rfl (lv_at hl 2 rfl) ?_
    refine lv_iload hx hb dL_sums_98 (lv_at hl 1 rfl) ?_
    refine lv_icmp_le (tgt := 110) hx hb dL_sums_100 (by decide) (fun h9 => absurd h9 hle) (fun _ => ?_)
    refine lv_iload_n hx hb dL_sums_103 rfl (lv_at hl 2 rfl) ?_
    refine lv_iload hx hb dL_sums_104 (lv_at hl 1 rfl) ?_
    refine lv_isub hx hb dL_sums_106 ?_
    refine lv_goto (tgt := 111) hx hb dL_sums_107 (by decide) ?_
    refine lv_icmp_ne (tgt := 143) hx hb dL_sums_111 (by decide) (fun h9 => absurd hsh h9) (fun _ => ?_)
    refine lv_iload_n hx hb dL_sums_114 rfl (lv_at hl 5 rfl) ?_
    refine lv_if_ne (tgt := 139) hx hb dL_sums_115 (by decide) (fun _ => ?_) (fun h9 => absurd h9 (by decide))
    refine lv_iconst (v := 1) hx hb dL_sums_139 (by decide) ?_
    refine lv_goto (tgt := 144) hx hb dL_sums_140 (by decide) ?_
    exact y_zret hx hb hr hlocks ⟨Nat.le_of_ble_eq_true rfl, Nat.le_of_ble_eq_true rfl⟩ (Or.inr rfl) rfl dL_sums_144

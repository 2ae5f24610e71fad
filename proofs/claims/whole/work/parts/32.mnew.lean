/-! THE REFERENCE'S CONSTRUCTOR. -/
def mzs (sz j : Nat) : List Value := [.int 0, .int 0, if 0 < j then .ref sz else .null, if 1 < j then .ref (sz + 1) else .null, if 2 < j then .ref (sz + 2) else .null, if 3 < j then .ref (sz + 3) else .null, if 4 < j then .ref (sz + 4) else .null, if 5 < j then .ref (sz + 5) else .null, if 6 < j then .ref (sz + 6) else .null, if 7 < j then .ref (sz + 7) else .null, if 8 < j then .ref (sz + 8) else .null, if 9 < j then .ref (sz + 9) else .null, if 10 < j then .ref (sz + 10) else .null, if 11 < j then .ref (sz + 11) else .null, if 12 < j then .ref (sz + 12) else .null, if 13 < j then .ref (sz + 13) else .null, .int 0]
theorem mzs_set {j : Nat} (sz : Nat) (hj : j < 14) : (mzs sz j).set (j + 2) (.ref (sz + j)) = mzs sz (j + 1) := by
  rcases (show j = 0 ∨ j = 1 ∨ j = 2 ∨ j = 3 ∨ j = 4 ∨ j = 5 ∨ j = 6 ∨ j = 7 ∨ j = 8 ∨ j = 9 ∨ j = 10 ∨ j = 11 ∨ j = 12 ∨ j = 13 by omega) with rfl | rfl | rfl | rfl | rfl | rfl | rfl | rfl | rfl | rfl | rfl | rfl | rfl | rfl <;> rfl
theorem mzs_fin {j : Nat} (hj : j < 14) : (TX3 (j + 2)).2.2.2 = true ∧ (TX3 (j + 2)).1 = RX3 ∧ parseFieldDescriptor (TX3 (j + 2)).2.2.1 = some (tyX3 (j + 2)) ∧ ∀ x : Nat, fits (tyX3 (j + 2)) (.ref x) = true ∧ narrow (tyX3 (j + 2)) (.ref x) = .ref x := by
  refine ⟨?_, ?_, tyX3_ok _ (by omega), ?_⟩
  · rcases (show j = 0 ∨ j = 1 ∨ j = 2 ∨ j = 3 ∨ j = 4 ∨ j = 5 ∨ j = 6 ∨ j = 7 ∨ j = 8 ∨ j = 9 ∨ j = 10 ∨ j = 11 ∨ j = 12 ∨ j = 13 by omega) with rfl | rfl | rfl | rfl | rfl | rfl | rfl | rfl | rfl | rfl | rfl | rfl | rfl | rfl <;> rfl
  · rcases (show j = 0 ∨ j = 1 ∨ j = 2 ∨ j = 3 ∨ j = 4 ∨ j = 5 ∨ j = 6 ∨ j = 7 ∨ j = 8 ∨ j = 9 ∨ j = 10 ∨ j = 11 ∨ j = 12 ∨ j = 13 by omega) with rfl | rfl | rfl | rfl | rfl | rfl | rfl | rfl | rfl | rfl | rfl | rfl | rfl | rfl <;> rfl
  · intro x
    rcases (show j = 0 ∨ j = 1 ∨ j = 2 ∨ j = 3 ∨ j = 4 ∨ j = 5 ∨ j = 6 ∨ j = 7 ∨ j = 8 ∨ j = 9 ∨ j = 10 ∨ j = 11 ∨ j = 12 ∨ j = 13 by omega) with rfl | rfl | rfl | rfl | rfl | rfl | rfl | rfl | rfl | rfl | rfl | rfl | rfl | rfl <;> exact ⟨rfl, rfl⟩
def mB (D : va_G) (cI : ClassId) (a sz j : Nat) (H : Heap) : Prop := va_at D vwCl (a, .inr (3, mzs sz j)) H ∧ (∀ i, i < j → va_at D vwCl (sz + i, .inl (cI, mlen (i + 2), .inl (fun _ => 0))) H) ∧ H.size = sz + j
section MNew
variable {p : Program} {l : Launch} {e : Env} {R : Room} {s : State} {m : MethodId} {args : Array Value} {below : List Frame} {meth : Method} {c : Code} {H : Heap} {locs : List Loc} {cells slots : Nat} {Q : State → Prop}
variable {cc : ByteArray} {pc : Nat} {ls : Array Slot} {rest : List Value} {D : va_G} {cI cO cL cJ : ClassId} {H0 : Heap} {A : Nat → Prop}
theorem m_mk (hexec : p.tables.exec = Jvm.exec) (hb : c.code = cc) {ref : String} {index : Nat} {Ts : List Cond} (hts : ∀ w ∈ Ts, w.before args s = true) (hin : ∀ w ∈ u_ws RX3 TX3 17, w ∈ Ts) (harr : (Cond.arrayClass .int).before args s = true) (hown : s.vm.findClass RX3 = some m.cls) (hin2 : meth.name = "<init>") (hK : KK D cI cO cL cJ s) {a sz : Nat} (ha : a < sz) (j : Nat) (hj : j < 14) (hB : mB D cI a sz j H) (hS : va_S A H0 H locs) (hA : A a) (hlink : (Cond.fieldLink RX3 index ref (TX3 (j + 2)).2.1 (TX3 (j + 2)).2.2.1).before args s = true) (hsame : ∀ x, s.fieldFound? (TX3 (j + 2)).1 (TX3 (j + 2)).2.1 (TX3 (j + 2)).2.2.1 = some x → s.fieldFound? ref (TX3 (j + 2)).2.1 (TX3 (j + 2)).2.2.1 = some x) {n : Int32} (hn : n = nI (mlen (j + 2))) (hcells : cells + 1 ≤ R.cells) (hslots : slots + mlen (j + 2) ≤ R.slots) (d1 : decode cc pc = .ok (.newarray .int, 2)) (d2 : decode cc (pc + 2) = .ok (.putfield index, 3))
    (kk : ∀ (H1 : Heap) (locs1 : List Loc), mB D cI a sz (j + 1) H1 → va_S A H0 H1 locs1 → W p l e R s m args below meth c H1 locs1 (cells + 1) (slots + mlen (j + 2)) Q (F0 m (pc + 5) ls rest)) : W p l e R s m args below meth c H locs cells slots Q (F0 m pc ls (.int n :: .ref a :: rest)) := by
  obtain ⟨hat, harrs, hsz⟩ := hB
  refine f_newi hexec hb harr hK hS hn (by unfold mlen; split <;> decide) hcells hslots d1 (fun H1 hn1 hz1 ho1 hS => ?_)
  obtain ⟨f1, f2, f3, f4⟩ := mzs_fin hj
  refine f_putF hexec hb hts hin tyX3 tyX3_ok nmX3 hown hK (hat.kept (ho1 a (by omega))) hS hA rfl (j + 2) (by omega) hlink hsame f1 hin2 f2 (v := .ref H.size) f3 (f4 _).2 (f4 _).1 (show j + 2 < 17 by omega) d2 (fun H2 locs hat2 hz2 ho2 hS => ?_)
  refine kk H2 locs ⟨?_, ?_, by omega⟩ hS
  · rw [← mzs_set sz hj, ← hsz]; exact hat2
  · intro i hi
    by_cases hij : i = j
    · subst hij
      rw [← hsz]
      exact hn1.kept (ho2 _ (by omega))
    · exact ((harrs i (by omega)).kept (ho1 _ (by omega))).kept (ho2 _ (by omega))
end MNew
theorem nwX3 (sz : Nat) : ∀ j, j < 17 → defaultValue (tyX3 j) = vp_V (mzs sz 0) j := by
  intro j hj
  rcases (show j = 0 ∨ j = 1 ∨ j = 2 ∨ j = 3 ∨ j = 4 ∨ j = 5 ∨ j = 6 ∨ j = 7 ∨ j = 8 ∨ j = 9 ∨ j = 10 ∨ j = 11 ∨ j = 12 ∨ j = 13 ∨ j = 14 ∨ j = 15 ∨ j = 16 by omega) with rfl | rfl | rfl | rfl | rfl | rfl | rfl | rfl | rfl | rfl | rfl | rfl | rfl | rfl | rfl | rfl | rfl <;> rfl
theorem mB_end {D : va_G} {cI : ClassId} {a sz : Nat} {H : Heap} (h : mB D cI a sz 14 H) : mW D cI a (fun f => sz + (f - 2)) (fun _ _ => 0) H := by
  refine ⟨h.1, fun f h2 h15 => ?_⟩
  have h3 := h.2.1 (f - 2) (by omega)
  rw [show f - 2 + 2 = f by omega] at h3
  exact h3
theorem mI_end {a sz : Nat} (h : a < sz) : mI a (fun f => sz + (f - 2)) := ⟨fun f _ _ e => by have e : sz + (f - 2) = a := e; omega, fun f g h1 h2 h3 h4 e => by have e : sz + (f - 2) = sz + (g - 2) := e; omega⟩
set_option maxHeartbeats 4000000 in
set_option maxRecDepth 100000 in
theorem kX3_init (l : Launch) {D : va_G} {cI cO cL cJ : ClassId} (sz a : Nat) (haz : a < sz) : Met l yX3_init wsX3_init ({ frames := 1, cells := 14, slots := 1503, locals := 13 } : Room) (cP D cI cO cL cJ sz (a, .inr (3, mzs sz 0)) [.ref a]) (va_Qv (fun _ : Unit => True) (fun _ t => mW D cI a (fun f => sz + (f - 2)) (fun _ _ => 0) t.heap) (fun q => q = a ∨ sz ≤ q)) 14 1503 (fun q => q = a ∨ sz ≤ q) := by
  refine Met.ofW (cc := cX3_init) (maxL := 1) (ret := none) (by decide) rfl ?_
  intro p e s m args below meth c s₁ B hml hv
  obtain ⟨rfl, hsz, hat, hK, hA0, hA1⟩ := hv
  subst hsz
  have hx := B.exec
  have hb := B.bytes
  have hr := B.returns
  have hts := atoms_spec (ws := wsX3_init) B.pre
  have hown : s.vm.findClass RX3 = some m.cls := findClass_of_methodNamed B.named
  have hlocks := B.notSynchronized
  have hin2 : meth.name = "<init>" := (name_of_methodNamed B.named B.method).1
  have hl := lv_entry ([.ref a] : List Value) (n := 1) (Nat.le_of_ble_eq_true rfl)
  rw [lg_entry_eq]
  generalize (lg_sl ([.ref a] : List Value) ++ List.replicate (1 - (lg_sl ([.ref a] : List Value)).length) Slot.unset).toArray = ls at hl ⊢
  have hl : lv_has ls 1 [(0, .ref a)] := hl
  have hS : va_S (fun q => q = a ∨ s.heap.size ≤ q) s.heap s.heap [] := va_S.rf
  have hin : ∀ w ∈ u_ws RX3 TX3 17, w ∈ wsX3_init := (fun w h => List.mem_cons_of_mem _ (List.mem_append_right _ (h)))
  have harr := (hts (.arrayClass .int) (List.mem_of_getElem? (i := 4) rfl))
  have hB : mB D cI a s.heap.size 0 s.heap := ⟨hat, fun i h => absurd h (Nat.not_lt_zero i), rfl⟩
  refine lv_aload_n hx hb dX3_init_0 rfl (lv_at hl 0 rfl) ?_
  refine W.objInit hx hb hown (hts (.methodLink RX3 1 objectInit) (List.mem_of_getElem? (i := 1) rfl)) (hts (.instanceMethod objectInit) (List.mem_of_getElem? (i := 2) rfl)) (hts (.code objectInit ⟨#[0xb1]⟩ 1 none) (List.mem_of_getElem? (i := 3) rfl)) rfl (by rw [hml]; exact hl.1) rfl dX3_init_1 (Nat.le_of_ble_eq_true rfl) (Nat.le_of_ble_eq_true rfl) ?_
  refine W.eq (g2 := F0 m 4 ls []) rfl ?_
  refine lv_aload_n hx hb dX3_init_4 rfl (lv_at hl 0 rfl) ?_
  refine lv_bipush (v := 30) hx hb dX3_init_5 (by decide) ?_
  refine m_mk hx hb hts hin harr hown hin2 hK haz 0 (by decide) hB hS (Or.inl rfl) (hts (.fieldLink RX3 7 "ReturnsDeskModel" "percents" "[I") (List.mem_of_getElem? (i := 5) rfl)) (fun _ h9 => h9) rfl (Nat.le_of_ble_eq_true rfl) (Nat.le_of_ble_eq_true rfl) dX3_init_7 dX3_init_9 (fun H locs hB hS => ?_)
  refine lv_aload_n hx hb dX3_init_12 rfl (lv_at hl 0 rfl) ?_
  refine lv_bipush (v := 30) hx hb dX3_init_13 (by decide) ?_
  refine m_mk hx hb hts hin harr hown hin2 hK haz 1 (by decide) hB hS (Or.inl rfl) (hts (.fieldLink RX3 13 "ReturnsDeskModel" "leasts" "[I") (List.mem_of_getElem? (i := 6) rfl)) (fun _ h9 => h9) rfl (Nat.le_of_ble_eq_true rfl) (Nat.le_of_ble_eq_true rfl) dX3_init_15 dX3_init_17 (fun H locs hB hS => ?_)
  refine lv_aload_n hx hb dX3_init_20 rfl (lv_at hl 0 rfl) ?_
  refine lv_bipush (v := 30) hx hb dX3_init_21 (by decide) ?_
  refine m_mk hx hb hts hin harr hown hin2 hK haz 2 (by decide) hB hS (Or.inl rfl) (hts (.fieldLink RX3 16 "ReturnsDeskModel" "lines" "[I") (List.mem_of_getElem? (i := 7) rfl)) (fun _ h9 => h9) rfl (Nat.le_of_ble_eq_true rfl) (Nat.le_of_ble_eq_true rfl) dX3_init_23 dX3_init_25 (fun H locs hB hS => ?_)
  refine lv_aload_n hx hb dX3_init_28 rfl (lv_at hl 0 rfl) ?_
  refine lv_bipush (v := 30) hx hb dX3_init_29 (by decide) ?_
  refine m_mk hx hb hts hin harr hown hin2 hK haz 3 (by decide) hB hS (Or.inl rfl) (hts (.fieldLink RX3 19 "ReturnsDeskModel" "days" "[I") (List.mem_of_getElem? (i := 8) rfl)) (fun _ h9 => h9) rfl (Nat.le_of_ble_eq_true rfl) (Nat.le_of_ble_eq_true rfl) dX3_init_31 dX3_init_33 (fun H locs hB hS => ?_)
  refine lv_aload_n hx hb dX3_init_36 rfl (lv_at hl 0 rfl) ?_
  refine lv_bipush (v := 30) hx hb dX3_init_37 (by decide) ?_
  refine m_mk hx hb hts hin harr hown hin2 hK haz 4 (by decide) hB hS (Or.inl rfl) (hts (.fieldLink RX3 22 "ReturnsDeskModel" "fees" "[I") (List.mem_of_getElem? (i := 9) rfl)) (fun _ h9 => h9) rfl (Nat.le_of_ble_eq_true rfl) (Nat.le_of_ble_eq_true rfl) dX3_init_39 dX3_init_41 (fun H locs hB hS => ?_)
  refine lv_aload_n hx hb dX3_init_44 rfl (lv_at hl 0 rfl) ?_
  refine lv_bipush (v := 30) hx hb dX3_init_45 (by decide) ?_
  refine m_mk hx hb hts hin harr hown hin2 hK haz 5 (by decide) hB hS (Or.inl rfl) (hts (.fieldLink RX3 25 "ReturnsDeskModel" "charges" "[I") (List.mem_of_getElem? (i := 10) rfl)) (fun _ h9 => h9) rfl (Nat.le_of_ble_eq_true rfl) (Nat.le_of_ble_eq_true rfl) dX3_init_47 dX3_init_49 (fun H locs hB hS => ?_)
  refine lv_aload_n hx hb dX3_init_52 rfl (lv_at hl 0 rfl) ?_
  refine lv_bipush (v := 30) hx hb dX3_init_53 (by decide) ?_
  refine m_mk hx hb hts hin harr hown hin2 hK haz 6 (by decide) hB hS (Or.inl rfl) (hts (.fieldLink RX3 28 "ReturnsDeskModel" "refunds" "[I") (List.mem_of_getElem? (i := 11) rfl)) (fun _ h9 => h9) rfl (Nat.le_of_ble_eq_true rfl) (Nat.le_of_ble_eq_true rfl) dX3_init_55 dX3_init_57 (fun H locs hB hS => ?_)
  refine lv_aload_n hx hb dX3_init_60 rfl (lv_at hl 0 rfl) ?_
  refine lv_bipush (v := 90) hx hb dX3_init_61 (by decide) ?_
  refine m_mk hx hb hts hin harr hown hin2 hK haz 7 (by decide) hB hS (Or.inl rfl) (hts (.fieldLink RX3 31 "ReturnsDeskModel" "taken" "[I") (List.mem_of_getElem? (i := 12) rfl)) (fun _ h9 => h9) rfl (Nat.le_of_ble_eq_true rfl) (Nat.le_of_ble_eq_true rfl) dX3_init_63 dX3_init_65 (fun H locs hB hS => ?_)
  refine lv_aload_n hx hb dX3_init_68 rfl (lv_at hl 0 rfl) ?_
  refine lv_sipush (v := 240) hx hb dX3_init_69 (by decide) ?_
  refine m_mk hx hb hts hin harr hown hin2 hK haz 8 (by decide) hB hS (Or.inl rfl) (hts (.fieldLink RX3 34 "ReturnsDeskModel" "prices" "[I") (List.mem_of_getElem? (i := 13) rfl)) (fun _ h9 => h9) rfl (Nat.le_of_ble_eq_true rfl) (Nat.le_of_ble_eq_true rfl) dX3_init_72 dX3_init_74 (fun H locs hB hS => ?_)
  refine lv_aload_n hx hb dX3_init_77 rfl (lv_at hl 0 rfl) ?_
  refine lv_sipush (v := 240) hx hb dX3_init_78 (by decide) ?_
  refine m_mk hx hb hts hin harr hown hin2 hK haz 9 (by decide) hB hS (Or.inl rfl) (hts (.fieldLink RX3 37 "ReturnsDeskModel" "kinds" "[I") (List.mem_of_getElem? (i := 14) rfl)) (fun _ h9 => h9) rfl (Nat.le_of_ble_eq_true rfl) (Nat.le_of_ble_eq_true rfl) dX3_init_81 dX3_init_83 (fun H locs hB hS => ?_)
  refine lv_aload_n hx hb dX3_init_86 rfl (lv_at hl 0 rfl) ?_
  refine lv_sipush (v := 240) hx hb dX3_init_87 (by decide) ?_
  refine m_mk hx hb hts hin harr hown hin2 hK haz 10 (by decide) hB hS (Or.inl rfl) (hts (.fieldLink RX3 40 "ReturnsDeskModel" "states" "[I") (List.mem_of_getElem? (i := 15) rfl)) (fun _ h9 => h9) rfl (Nat.le_of_ble_eq_true rfl) (Nat.le_of_ble_eq_true rfl) dX3_init_90 dX3_init_92 (fun H locs hB hS => ?_)
  refine lv_aload_n hx hb dX3_init_95 rfl (lv_at hl 0 rfl) ?_
  refine lv_sipush (v := 240) hx hb dX3_init_96 (by decide) ?_
  refine m_mk hx hb hts hin harr hown hin2 hK haz 11 (by decide) hB hS (Or.inl rfl) (hts (.fieldLink RX3 43 "ReturnsDeskModel" "reasons" "[I") (List.mem_of_getElem? (i := 16) rfl)) (fun _ h9 => h9) rfl (Nat.le_of_ble_eq_true rfl) (Nat.le_of_ble_eq_true rfl) dX3_init_99 dX3_init_101 (fun H locs hB hS => ?_)
  refine lv_aload_n hx hb dX3_init_104 rfl (lv_at hl 0 rfl) ?_
  refine lv_sipush (v := 240) hx hb dX3_init_105 (by decide) ?_
  refine m_mk hx hb hts hin harr hown hin2 hK haz 12 (by decide) hB hS (Or.inl rfl) (hts (.fieldLink RX3 46 "ReturnsDeskModel" "ends" "[I") (List.mem_of_getElem? (i := 17) rfl)) (fun _ h9 => h9) rfl (Nat.le_of_ble_eq_true rfl) (Nat.le_of_ble_eq_true rfl) dX3_init_108 dX3_init_110 (fun H locs hB hS => ?_)
  refine lv_aload_n hx hb dX3_init_113 rfl (lv_at hl 0 rfl) ?_
  refine lv_iconst (v := 3) hx hb dX3_init_114 (by decide) ?_
  refine m_mk hx hb hts hin harr hown hin2 hK haz 13 (by decide) hB hS (Or.inl rfl) (hts (.fieldLink RX3 49 "ReturnsDeskModel" "stocks" "[I") (List.mem_of_getElem? (i := 18) rfl)) (fun _ h9 => h9) rfl (Nat.le_of_ble_eq_true rfl) (Nat.le_of_ble_eq_true rfl) dX3_init_115 dX3_init_117 (fun H locs hB hS => ?_)
  exact W.vret hx hb hr (fun t ht _ => ⟨⟨(), rfl, trivial, by show mW _ _ _ _ _ t.heap; rw [ht]; exact mB_end hB⟩, hS.F ht⟩) hS.2.2 dX3_init_120 hlocks

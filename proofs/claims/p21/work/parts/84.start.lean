/-! THE LAW FROM ITS ENTRY. -/
def wsStart : List Cond := [.instantiable RX0 5, .instantiable RX1 12, .instantiable RX2 6, .arrayOver (.object RX1), .arrayOver (.object RX0), .castable ISE ISE, .castable IAE IAE, .castable IOE IOE, .declares (Bundle.initS "java/lang/RuntimeException"), .declares (Bundle.initS "java/lang/Exception"), .declares (Bundle.initS "java/lang/Throwable"), .laysStatic Bundle.tN "UNASSIGNED_STACK" Bundle.steD, .laysStatic Bundle.tN "SUPPRESSED_SENTINEL" Bundle.listD, .initialized Bundle.tN, .stringRef RX2 26 "no room for another order", .stringRef RX2 47 "the order takes no more lines", .stringRef RX2 59 "the order is paid or has no lines", .stringRef RX2 85 "the line is not waited for", .stringRef RX2 143 "the day would be above the last one", .stringRef RX2 150 "an argument is out of range", .stringRef RX2 155 "no such order", .stringRef RX2 162 "no such line", .stringRef RX2 170 "the line may not come back"]
set_option maxRecDepth 100000 in
theorem wsStart_in : ∀ w ∈ wsStart, w ∈ lw_tbl := by_places [288, 197, 19, 27, 226, 172, 148, 61, 63, 65, 67, 86, 88, 9, 220, 286, 325, 375, 179, 155, 100, 130, 418] (by rfl)
theorem str_of {args : Array Value} {s : State} {k : Nat} {tx : String} (h1 : (Cond.stringRef RX2 k tx).before args s = true) (h2 : (Cond.exactly (.string RX2 k) "java/lang/String").before args s = true) : ∃ sa, vk_R RX2 k tx sa s := by
  obtain ⟨a, c, cell, kk, h, -⟩ := Cond.exactly_spec h2
  exact ⟨a, vk_R.of h1 h⟩
def given_flat : List Cond := [.exactly (.string RX2 26) "java/lang/String", .exactly (.string RX2 47) "java/lang/String", .exactly (.string RX2 59) "java/lang/String", .exactly (.string RX2 85) "java/lang/String", .exactly (.string RX2 143) "java/lang/String", .exactly (.string RX2 150) "java/lang/String", .exactly (.string RX2 155) "java/lang/String", .exactly (.string RX2 162) "java/lang/String", .exactly (.string RX2 170) "java/lang/String", .isRef (.static Bundle.tN "UNASSIGNED_STACK" Bundle.steD), .isRef (.static Bundle.tN "SUPPRESSED_SENTINEL" Bundle.listD)]
set_option maxRecDepth 100000 in
set_option maxHeartbeats 4000000 in
theorem given_of {args : Array Value} {s : State} (h : (Jvm.Cond.and given_1 narrow_1).before args s = true) : ∀ w ∈ given_flat, w.before args s = true := by
  have hs := flat_of_before _ h
  have hin : ∀ w ∈ given_flat, w ∈ flatC (Jvm.Cond.and given_1 narrow_1) := by decide +kernel
  exact fun w hw => hs w (hin w hw)
def g0 (d bk : Nat) : XG := fun t i => if t = 3 ∧ i = 0 then some d else if t = 4 ∧ i = 0 then some bk else none
theorem g0_key {d bk t i a : Nat} (h : g0 d bk t i = some a) : (t = 3 ∧ i = 0 ∧ a = d) ∨ (t = 4 ∧ i = 0 ∧ a = bk) := by
  unfold g0 at h
  split at h
  · next h1 => exact Or.inl ⟨h1.1, h1.2, (Option.some.inj h).symm⟩
  · split at h
    · next h2 => exact Or.inr ⟨h2.1, h2.2, (Option.some.inj h).symm⟩
    · cases h
theorem g0_C (d bk : Nat) : xC (g0 d bk) (fun _ _ => 0) 0 (fun _ => 0) :=
  ⟨by omega, rfl, fun k hk => by simp [g0], fun k hk => absurd hk (Nat.not_lt_zero k)⟩
theorem g0_Z (d bk : Nat) : xZ (g0 d bk) 0 := by
  refine ⟨fun t i a ht h => ?_, fun i _ => ?_, fun i a h => ?_⟩
  · rcases g0_key h with ⟨h1, h2, _⟩ | ⟨h1, h2, _⟩
    · omega
    · exact ⟨h1, h2⟩
  · simp [g0]
  · rcases g0_key h with ⟨h1, h2, _⟩ | ⟨h1, h2, _⟩ <;> omega
theorem PI0 : PI 0 (fun _ _ => 0) 0 (fun _ => 0) 0 0 :=
  ⟨⟨0, by omega, nI_0.symm⟩, fun k hk => absurd hk (Nat.not_lt_zero k), Nat.le_refl 0, Nat.le_refl 0, by decide, fun k _ => ⟨fun h => by simp at h, fun h => absurd h.1 (Nat.not_lt_zero k)⟩⟩
theorem start_E {args : Array Value} {s : State} (hts : ∀ w ∈ lw_tbl, w.before args s = true) (hg : ∀ w ∈ given_flat, w.before args s = true) : xE s.heap.size s s.heap := by
  have hA : ∀ a : Nat, a < s.heap.size → ¬ (fun a => s.heap.size ≤ a) a := fun a h z => absurd h (Nat.not_lt.mpr z)
  refine ⟨vx_Zqof (hts (.laysStatic Bundle.tN "UNASSIGNED_STACK" Bundle.steD) (wsStart_in _ (List.mem_of_getElem? (i := 11) rfl))) (hts (.initialized Bundle.tN) (wsStart_in _ (List.mem_of_getElem? (i := 13) rfl))) (hg _ (List.mem_of_getElem? (i := 9) rfl)) hA, vx_Zqof (hts (.laysStatic Bundle.tN "SUPPRESSED_SENTINEL" Bundle.listD) (wsStart_in _ (List.mem_of_getElem? (i := 12) rfl))) (hts (.initialized Bundle.tN) (wsStart_in _ (List.mem_of_getElem? (i := 13) rfl))) (hg _ (List.mem_of_getElem? (i := 10) rfl)) hA, ?_, ?_, va_AO.of (hts (.arrayOver (.object RX0)) (wsStart_in _ (List.mem_of_getElem? (i := 4) rfl))), va_AO.of (hts (.arrayOver (.object RX1)) (wsStart_in _ (List.mem_of_getElem? (i := 3) rfl)))⟩
  · intro w hw
    have h1 : w.before args s = true := by
      simp only [xNon, List.mem_cons, List.not_mem_nil, or_false] at hw
      rcases hw with rfl | rfl | rfl | rfl | rfl | rfl
      · exact (hts (.castable ISE ISE) (wsStart_in _ (List.mem_of_getElem? (i := 5) rfl)))
      · exact (hts (.castable IAE IAE) (wsStart_in _ (List.mem_of_getElem? (i := 6) rfl)))
      · exact (hts (.castable IOE IOE) (wsStart_in _ (List.mem_of_getElem? (i := 7) rfl)))
      · exact (hts (.declares (Bundle.initS "java/lang/RuntimeException")) (wsStart_in _ (List.mem_of_getElem? (i := 8) rfl)))
      · exact (hts (.declares (Bundle.initS "java/lang/Exception")) (wsStart_in _ (List.mem_of_getElem? (i := 9) rfl)))
      · exact (hts (.declares (Bundle.initS "java/lang/Throwable")) (wsStart_in _ (List.mem_of_getElem? (i := 10) rfl)))
    exact va_Nw.of (xNon_tab w hw) h1
  · intro z hz
    simp only [xStr, List.mem_cons, List.not_mem_nil, or_false] at hz
    rcases hz with rfl | rfl | rfl | rfl | rfl | rfl | rfl | rfl | rfl
    · exact str_of (hts (.stringRef RX2 26 "no room for another order") (wsStart_in _ (List.mem_of_getElem? (i := 14) rfl))) (hg _ (List.mem_of_getElem? (i := 0) rfl))
    · exact str_of (hts (.stringRef RX2 47 "the order takes no more lines") (wsStart_in _ (List.mem_of_getElem? (i := 15) rfl))) (hg _ (List.mem_of_getElem? (i := 1) rfl))
    · exact str_of (hts (.stringRef RX2 59 "the order is paid or has no lines") (wsStart_in _ (List.mem_of_getElem? (i := 16) rfl))) (hg _ (List.mem_of_getElem? (i := 2) rfl))
    · exact str_of (hts (.stringRef RX2 85 "the line is not waited for") (wsStart_in _ (List.mem_of_getElem? (i := 17) rfl))) (hg _ (List.mem_of_getElem? (i := 3) rfl))
    · exact str_of (hts (.stringRef RX2 143 "the day would be above the last one") (wsStart_in _ (List.mem_of_getElem? (i := 18) rfl))) (hg _ (List.mem_of_getElem? (i := 4) rfl))
    · exact str_of (hts (.stringRef RX2 150 "an argument is out of range") (wsStart_in _ (List.mem_of_getElem? (i := 19) rfl))) (hg _ (List.mem_of_getElem? (i := 5) rfl))
    · exact str_of (hts (.stringRef RX2 155 "no such order") (wsStart_in _ (List.mem_of_getElem? (i := 20) rfl))) (hg _ (List.mem_of_getElem? (i := 6) rfl))
    · exact str_of (hts (.stringRef RX2 162 "no such line") (wsStart_in _ (List.mem_of_getElem? (i := 21) rfl))) (hg _ (List.mem_of_getElem? (i := 7) rfl))
    · exact str_of (hts (.stringRef RX2 170 "the line may not come back") (wsStart_in _ (List.mem_of_getElem? (i := 22) rfl))) (hg _ (List.mem_of_getElem? (i := 8) rfl))
theorem start_K {args : Array Value} {s : State} (hts : ∀ w ∈ lw_tbl, w.before args s = true) : ∃ (D : va_G) (cI cO cL cJ : ClassId), KK D cI cO cL cJ s := by
  obtain ⟨c0, iS0, hKn0⟩ := u_known (C := RX0) (T := TX0) (N := 5) (n := 5) hts inX0 (hts (.instantiable RX0 5) (wsStart_in _ (List.mem_of_getElem? (i := 0) rfl)))
  obtain ⟨c1, iS1, hKn1⟩ := u_known (C := RX1) (T := TX1) (N := 12) (n := 12) hts inX1 (hts (.instantiable RX1 12) (wsStart_in _ (List.mem_of_getElem? (i := 1) rfl)))
  obtain ⟨c2, iS2, hKn2⟩ := u_known (C := RX2) (T := TX2) (N := 6) (n := 6) hts inX2 (hts (.instantiable RX2 6) (wsStart_in _ (List.mem_of_getElem? (i := 2) rfl)))
  obtain ⟨pO, cO, kO, o1, -, o3, o4, o5⟩ := Cond.arrayOver_spec (hts (.arrayOver (.object RX1)) (wsStart_in _ (List.mem_of_getElem? (i := 3) rfl)))
  obtain ⟨pL, cL, kL, l1, -, l3, l4, l5⟩ := Cond.arrayOver_spec (hts (.arrayOver (.object RX0)) (wsStart_in _ (List.mem_of_getElem? (i := 4) rfl)))
  refine ⟨(fun k => if k = 0 then c0 else if k = 1 then c1 else c2, fun k => if k = 0 then iS0 else if k = 1 then iS1 else iS2), cO, cO, cL, cO, ?_, ?_⟩
  · intro k q hq
    match k, hq with
    | 0, hq => cases hq; exact hKn0
    | 1, hq => cases hq; exact hKn1
    | 2, hq => cases hq; exact hKn2
    | k + 3, hq => simp [vwCl] at hq
  · intro k q hq
    match k, hq with
    | 0, hq => cases hq; exact ⟨fun n z => ⟨fun k h => (by cases h), kO, o3, pO, o4⟩, ⟨kO, pO, o3, o4, o1, o5⟩⟩
    | 1, hq => cases hq; exact ⟨fun n z => ⟨fun k h => (by cases h), kO, o3, pO, o4⟩, ⟨kO, pO, o3, o4, o1, o5⟩⟩
    | 2, hq => cases hq; exact ⟨fun n z => ⟨fun k h => (by cases h), kL, l3, pL, l4⟩, ⟨kL, pL, l3, l4, l1, l5⟩⟩
    | k + 3, hq => simp at hq

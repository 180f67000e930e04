/-- WHAT HOLDS AT THE LAW'S ENTRY, as the contracts want it -/
def basS : List Nat := [33, 41, 50, 56, 61, 68, 76, 84, 93, 101, 106, 114, 122, 143, 163, 214, 223, 233, 240, 248, 257, 266, 276, 285, 294, 300, 309, 315, 345, 384, 431, 448, 496, 521, 568, 593, 609, 626, 655, 681, 710, 748, 787, 825]
def tmS (i : Nat) : Term := Term.string (refS.getD i ("", 0, "")).1 (refS.getD i ("", 0, "")).2.1
def wdS (i : Nat) : List Cond := [Cond.exactly (tmS i) "java/lang/String", Cond.eq (.field (tmS i) "java/lang/String" "coder" "B") (.int 0), Cond.arrayOf (.field (tmS i) "java/lang/String" "value" "[B") .byte, Cond.eq (.length (.field (tmS i) "java/lang/String" "value" "[B")) (.int (Int32.ofNat (lnS i)))] ++ (List.range (lnS i)).map (fun j => Cond.eq (.elem (.field (tmS i) "java/lang/String" "value" "[B") (.int (Int32.ofNat j))) (.int ((bytS.getD i []).getD j 0)))
set_option maxRecDepth 100000 in
theorem wdS_at : ∀ i, i < nS → ((flatC narrow_1).drop (basS.getD i 0)).take (4 + lnS i) = wdS i := by decide +kernel
def basT : List Nat := [326, 404, 414, 419, 437, 451, 452, 453, 466, 479, 480, 489, 622, 658, 682, 687, 703, 704, 707, 708, 709, 710, 711, 712, 713, 714, 715, 720, 728, 741, 753, 766, 781, 790, 810, 840, 854, 866, 867, 895, 912, 927, 941, 958]
set_option maxRecDepth 100000 in
theorem rfS_at : ∀ i, i < nS → tables_1[basT.getD i 0]? = some (Cond.stringRef (refS.getD i ("", 0, "")).1 (refS.getD i ("", 0, "")).2.1 (refS.getD i ("", 0, "")).2.2) := by decide +kernel
theorem sS_of {args : Array Value} {s : State} {A : Nat → Prop} (hts : ∀ w ∈ lw_tbl, w.before args s = true) (hgv : (Jvm.Cond.and given_1 narrow_1).before args s = true) (hA : ∀ a : Nat, a < s.heap.size → ¬ A a) : ∃ adK adV : Nat → Nat, sS adK adV A s := by
  have hn : ∀ c ∈ flatC narrow_1, c.before args s = true := fun c hc => flat_of_before _ hgv c (List.mem_append_right _ hc)
  have hnw : ∀ (i : Nat) {c : Cond}, (flatC narrow_1)[i]? = some c → c.before args s = true := fun i c h => hn c (List.mem_of_getElem? h)
  have hw : ∀ i, i < nS → ∀ c ∈ wdS i, c.before args s = true := fun i hi c hc => hn c (by
    rw [← wdS_at i hi] at hc
    exact List.mem_of_mem_drop (List.mem_of_mem_take hc))
  have h0 : ∀ i : Nat, ∃ q : Nat × Nat, i < nS → (tmS i).eval args s none [] s = some (.ref q.1) ∧ va_O "java/lang/String" q.1 A s s.heap ∧ va_OF "java/lang/String" "coder" "B" (.int 0) q.1 A s s.heap ∧ va_OF "java/lang/String" "value" "[B" (.ref q.2) q.1 A s s.heap ∧ va_T .byte q.2 (lnS i) (fun j => .int ((bytS.getD i []).getD j 0)) A s s.heap := by
    intro i
    by_cases hi : i < nS
    · have hex : (Cond.exactly (tmS i) "java/lang/String").before args s = true := hw i hi _ (by simp [wdS])
      have hco : (Cond.eq (.field (tmS i) "java/lang/String" "coder" "B") (.int 0)).before args s = true := hw i hi _ (by simp [wdS])
      have har : (Cond.arrayOf (.field (tmS i) "java/lang/String" "value" "[B") .byte).before args s = true := hw i hi _ (by simp [wdS])
      have hle : (Cond.eq (.length (.field (tmS i) "java/lang/String" "value" "[B")) (.int (Int32.ofNat (lnS i)))).before args s = true := hw i hi _ (by simp [wdS])
      have hel : ∀ j : Nat, j < lnS i → (Cond.eq (.elem (.field (tmS i) "java/lang/String" "value" "[B") (.int (Int32.ofNat j))) (.int ((bytS.getD i []).getD j 0))).before args s = true := fun j hj => hw i hi _ (List.mem_append_right _ (List.mem_map.mpr ⟨j, List.mem_range.mpr hj, rfl⟩))
      obtain ⟨a, c, cA, kA, q1, q2, q3, q4, q5, q6, -⟩ := Cond.exactly_spec (args := args) (first := s) (o := none) (s := s) (idx := []) (t := tmS i) (cls := "java/lang/String") hex
      obtain ⟨t, ht, hT⟩ := va_Tof (f := fun j => .int ((bytS.getD i []).getD j 0)) (A := A) (lnS_lt i hi) har (va_eqt hle) (fun j hj => va_eqt (hel j hj)) hA
      exact ⟨(a, t), fun _ => ⟨q1, ⟨cA, q3, q5, by rw [q6]; exact q2, hA a (Array.getElem?_eq_some_iff.mp q3).1⟩, vk_OFof q1 (va_eqt hco) hA, vk_OFof q1 ht hA, hT⟩⟩
    · exact ⟨(0, 0), fun h => absurd h hi⟩
  obtain ⟨ad, had⟩ := Classical.axiomOfChoice h0
  refine ⟨fun i => (ad i).1, fun i => (ad i).2, fun i hi => (had i hi).2, va_Zof (hts _ (in_t2 (List.mem_of_getElem? (i := 100) rfl))) (hts _ (in_t1 (List.mem_of_getElem? (i := 16) rfl))) (va_eqt (hnw 2 rfl)) hA, va_Zqof (hts _ (in_t2 (List.mem_of_getElem? (i := 116) rfl))) (hts _ (in_t1 (List.mem_of_getElem? (i := 18) rfl))) (hnw 3 rfl) hA, fun i hi => ?_⟩
  have hr : (Cond.stringRef (refS.getD i ("", 0, "")).1 (refS.getD i ("", 0, "")).2.1 (refS.getD i ("", 0, "")).2.2).before args s = true := hts _ (List.mem_append_right _ (List.mem_of_getElem? (rfS_at i hi)))
  exact vk_R.of hr (had i hi).1
/-- what is said beside the cells, all through the law -/
def gx (adK adV : Nat → Nat) (b L : Nat) (xs : Nat → Int32) : (Nat → Prop) → State → Prop := fun A U => (∀ w ∈ nestW, va_Nw w U) ∧ sS adK adV A U ∧ gThr A U ∧ va_AO "AlarmMatrix$Loop" U ∧ kNot "java/lang/IllegalStateException" "java/lang/IllegalArgumentException" U ∧ va_X b L xs U U.heap ∧ b < U.heap.size ∧ ¬ A b
theorem nest_ok : ∀ w ∈ nestW, w.onTables = true ∧ ∀ (s U : State), s.WarmedH U.vm → va_Nw w s → va_Nw w U := by
  intro w hw
  have h1 : ∀ w ∈ nestW, ∃ a i x h, w = Cond.methodLinkNest a i x h := by
    intro w hw
    simp only [nestW, List.mem_cons, List.not_mem_nil, or_false] at hw
    rcases hw with rfl | rfl | rfl | rfl | rfl | rfl | rfl | rfl | rfl | rfl | rfl | rfl | rfl | rfl <;> exact ⟨_, _, _, _, rfl⟩
  obtain ⟨a, i, x, h, rfl⟩ := h1 w hw
  exact ⟨rfl, fun s U hW hZ => va_Nw.warmM hW hZ⟩
theorem decl_ok : ∀ w ∈ declW, w.onTables = true ∧ ∀ (s U : State), s.WarmedH U.vm → va_Nw w s → va_Nw w U := by
  intro w hw
  simp only [declW, List.mem_cons, List.not_mem_nil, or_false] at hw
  rcases hw with rfl | rfl | rfl <;> exact ⟨rfl, fun s U hW hZ => va_Nw.warmD hW hZ⟩
theorem gx_ok (adK adV : Nat → Nat) (b L : Nat) (xs : Nat → Int32) : gok (gx adK adV b L xs) := by
  refine ⟨fun A u U hv hh h => ?_, fun A B u hAB h => ?_, fun A u U hW hk h => ?_⟩
  · obtain ⟨h1, ⟨h2, h3, h4, h5⟩, ⟨t1, t2, t3, t4, t5⟩, h6, h7, h8, h9, h10⟩ := h
    have hal : u.vm.Alike U.vm := by rw [hv]; exact Vm.Alike.refl _
    refine ⟨fun w hw => va_Nw.same (nest_ok w hw).1 hv (h1 w hw), ⟨fun i hi => ?_, ?_, ?_, fun i hi => vk_R.same hv.symm (h5 i hi)⟩, ⟨?_, ?_, va_Nw.same rfl hv t3, va_Nw.same rfl hv t4, fun w hw => va_Nw.same (decl_ok w hw).1 hv (t5 w hw)⟩, h6.moved hal, h7.moved hal, ?_, by rw [← hh]; exact h9, h10⟩
    · rw [← hh]
      exact ⟨va_O.moved hal (h2 i hi).1, va_OF.moved hal (h2 i hi).2.1, va_OF.moved hal (h2 i hi).2.2.1, va_T.moved hal (h2 i hi).2.2.2⟩
    · rw [← hh]; exact va_Z.moved hal h3
    · rw [← hh]; exact va_Zq.moved hal h4
    · rw [← hh]; exact kZ.moved hal t1
    · rw [← hh]; exact kZ.moved hal t2
    · rw [← hh]; exact va_X.moved hal h8
  · obtain ⟨h1, ⟨h2, h3, h4, h5⟩, ⟨t1, t2, t3, t4, t5⟩, h6, h7, h8, h9, h10⟩ := h
    exact ⟨h1, ⟨fun i hi => ⟨(h2 i hi).1.narrow hAB, (h2 i hi).2.1.narrow hAB, (h2 i hi).2.2.1.narrow hAB, (h2 i hi).2.2.2.narrow hAB⟩, h3.narrow hAB, h4.narrow hAB, h5⟩, ⟨t1.narrow hAB, t2.narrow hAB, t3, t4, t5⟩, h6, h7, h8, h9, fun z => h10 (hAB b z)⟩
  · obtain ⟨h1, ⟨h2, h3, h4, h5⟩, ⟨t1, t2, t3, t4, t5⟩, h6, h7, h8, h9, h10⟩ := h
    have hal : u.vm.Alike U.vm := hW.alike
    have hb : U.heap[b]? = u.heap[b]? := hk b h9 h10
    refine ⟨fun w hw => (nest_ok w hw).2 u U hW (h1 w hw), ⟨fun i hi => ⟨(va_O.moved hal (h2 i hi).1).kept hk, (va_OF.moved hal (h2 i hi).2.1).kept hk, (va_OF.moved hal (h2 i hi).2.2.1).kept hk, (va_T.moved hal (h2 i hi).2.2.2).kept hk⟩, (va_Z.moved hal h3).kept hk, (va_Zq.moved hal h4).kept hk, fun i hi => vk_R.warm hW (h5 i hi)⟩, ⟨(kZ.moved hal t1).kept hk, (kZ.moved hal t2).kept hk, va_Nw.warmC hW t3, va_Nw.warmC hW t4, fun w hw => (decl_ok w hw).2 u U hW (t5 w hw)⟩, h6.moved hal, h7.moved hal, (va_X.moved hal h8).kept hb, ?_, h10⟩
    have h9' : (U.heap[b]?).isSome := by rw [hb, Array.getElem?_eq_getElem h9]; rfl
    cases hq : U.heap[b]? with
    | none => rw [hq] at h9'; cases h9'
    | some z => exact (Array.getElem?_eq_some_iff.mp hq).1
theorem gx_N {adK adV : Nat → Nat} {b L : Nat} {xs : Nat → Int32} : gN (gx adK adV b L xs) := fun _ _ h => h.1
theorem gx_St {adK adV : Nat → Nat} {b L : Nat} {xs : Nat → Int32} : gSt adK adV (gx adK adV b L xs) := fun _ _ h => h.2.1
theorem gx_Th {adK adV : Nat → Nat} {b L : Nat} {xs : Nat → Int32} : gTh (gx adK adV b L xs) := fun _ _ h => h.2.2.1
theorem gx_AO {adK adV : Nat → Nat} {b L : Nat} {xs : Nat → Int32} : gAO (gx adK adV b L xs) := fun _ _ h => h.2.2.2.1
theorem gx_NC {adK adV : Nat → Nat} {b L : Nat} {xs : Nat → Int32} : gNC (gx adK adV b L xs) := fun _ _ h => h.2.2.2.2.1
theorem gx_of {args : Array Value} {s : State} {A : Nat → Prop} {b L : Nat} {xs : Nat → Int32} (hts : ∀ w ∈ lw_tbl, w.before args s = true) (hgv : (Jvm.Cond.and given_1 narrow_1).before args s = true) (hA : ∀ a : Nat, a < s.heap.size → ¬ A a) (hX : va_X b L xs s s.heap) (hbl : b < s.heap.size) : ∃ adK adV : Nat → Nat, gx adK adV b L xs A s := by
  have hn : ∀ c ∈ flatC narrow_1, c.before args s = true := fun c hc => flat_of_before _ hgv c (List.mem_append_right _ hc)
  have hnw : ∀ (i : Nat) {c : Cond}, (flatC narrow_1)[i]? = some c → c.before args s = true := fun i c h => hn c (List.mem_of_getElem? h)
  obtain ⟨adK, adV, hs⟩ := sS_of (A := A) hts hgv hA
  have hnest : ∀ w ∈ nestW, w ∈ lw_tbl := by
    simp only [nestW, List.forall_mem_cons]
    exact ⟨(in_t1 (List.mem_of_getElem? (i := 33) rfl)), (in_t1 (List.mem_of_getElem? (i := 84) rfl)), (in_t1 (List.mem_of_getElem? (i := 106) rfl)), (in_t1 (List.mem_of_getElem? (i := 128) rfl)), (in_t1 (List.mem_of_getElem? (i := 134) rfl)), (in_t1 (List.mem_of_getElem? (i := 156) rfl)), (in_t2 (List.mem_of_getElem? (i := 152) rfl)), (in_t2 (List.mem_of_getElem? (i := 163) rfl)), (in_t2 (List.mem_of_getElem? (i := 210) rfl)), (in_t3 (List.mem_of_getElem? (i := 48) rfl)), (in_t4 (List.mem_of_getElem? (i := 20) rfl)), (in_t4 (List.mem_of_getElem? (i := 126) rfl)), (in_t4 (List.mem_of_getElem? (i := 197) rfl)), (in_t4 (List.mem_of_getElem? (i := 226) rfl)), fun _ h => nomatch h⟩
  have hdecl : ∀ w ∈ declW, w ∈ lw_tbl := by
    simp only [declW, List.forall_mem_cons]
    exact ⟨(in_t3 (List.mem_of_getElem? (i := 106) rfl)), (in_t3 (List.mem_of_getElem? (i := 108) rfl)), (in_t3 (List.mem_of_getElem? (i := 110) rfl)), fun _ h => nomatch h⟩
  exact ⟨adK, adV, fun w hw => va_Nw.of (nest_ok w hw).1 (hts w (hnest w hw)), hs, ⟨kZ.of (hts _ (in_t3 (List.mem_of_getElem? (i := 129) rfl))) (hnw 7 rfl) hA, kZ.of (hts _ (in_t3 (List.mem_of_getElem? (i := 131) rfl))) (hnw 8 rfl) hA, va_Nw.of rfl (hts _ (in_t3 (List.mem_of_getElem? (i := 104) rfl))), va_Nw.of rfl (hts _ (in_t3 (List.mem_of_getElem? (i := 171) rfl))), fun w hw => va_Nw.of (decl_ok w hw).1 (hts w (hdecl w hw))⟩, va_AO.of (hts _ (in_t1 (List.mem_of_getElem? (i := 82) rfl))), kNot.of (hnw 18 rfl), hX, hbl, hA b hbl⟩

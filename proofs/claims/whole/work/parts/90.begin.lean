abbrev b_LW_cell : ByteArray := method_2_code
abbrev y_LW_cell : MethodName := ⟨"AlarmMatrixLaw", "cell", "([II)I"⟩
theorem d_LW_cell_0 : decode b_LW_cell 0 = .ok (.iload_n 1, 1) := by decide +kernel
theorem d_LW_cell_1 : decode b_LW_cell 1 = .ok (.aload_n 0, 1) := by decide +kernel
theorem d_LW_cell_2 : decode b_LW_cell 2 = .ok (.arraylength, 1) := by decide +kernel
theorem d_LW_cell_3 : decode b_LW_cell 3 = .ok (.if_icmp .ge 9, 3) := by decide +kernel
theorem d_LW_cell_6 : decode b_LW_cell 6 = .ok (.aload_n 0, 1) := by decide +kernel
theorem d_LW_cell_7 : decode b_LW_cell 7 = .ok (.iload_n 1, 1) := by decide +kernel
theorem d_LW_cell_8 : decode b_LW_cell 8 = .ok (.iaload, 1) := by decide +kernel
theorem d_LW_cell_9 : decode b_LW_cell 9 = .ok (.goto 4, 3) := by decide +kernel
theorem d_LW_cell_12 : decode b_LW_cell 12 = .ok (.iconst 0, 1) := by decide +kernel
theorem d_LW_cell_13 : decode b_LW_cell 13 = .ok (.ireturn, 1) := by decide +kernel
def gXs (b L : Nat) (xs : Nat → Int32) (G : (Nat → Prop) → State → Prop) : Prop := ∀ (A : Nat → Prop) (U : State), G A U → va_X b L xs U U.heap ∧ b < U.heap.size ∧ ¬ A b
theorem gx_Xs {adK adV : Nat → Nat} {b L : Nat} {xs : Nat → Int32} : gXs b L xs (gx adK adV b L xs) := fun _ _ h => h.2.2.2.2.2
def c0v (L : Nat) (xs : Nat → Int32) : Int32 := if L = 0 then 0 else xs 0
abbrev rm_LW_cell : Room := { frames := 0, cells := 0, slots := 0, locals := 0 }
set_option maxHeartbeats 4000000 in
theorem c_LW_cell {G : (Nat → Prop) → State → Prop} {b L : Nat} {xs : Nat → Int32} (hGx : gXs b L xs G) (hL : L < 2 ^ 31) (l : Launch) (dC : Nat → ClassId) (dI : Nat → Nat → Nat) (g : Nat → ClassId) (sz : Nat) : Met l y_LW_cell (.code y_LW_cell b_LW_cell 2 (some .int) :: gw) rm_LW_cell (kq (dC, dI) vwCl (tyv g) G [.ref b, .int 0] sz ([] : va_W)) (kqi (dC, dI) vwCl (tyv g) ([] : va_W) (c0v L xs) ([] : va_W) sz) 0 0 (va_A ([] : va_W) sz) := by
  refine km (Qc := fun sz => kqi (dC, dI) vwCl (tyv g) ([] : va_W) (c0v L xs) ([] : va_W) sz) (cc := b_LW_cell) (maxL := 2) (ret := some .int) (by decide) rfl (Nat.le_of_ble_eq_true rfl) ?_
  intro p e s m args below meth c Q hQ hx hb hr hts hown hlocks hml hnm H locs A hAe hA hP hK hD hS hGA ls hl
  have hl : lv_has ls 2 [(0, .ref b), (1, .int 0)] := hl
  obtain ⟨hX, hbl, hbA⟩ := hGx A s hGA
  refine lv_iload_n hx hb d_LW_cell_0 rfl (lv_at hl 1 rfl) ?_
  refine lv_aload_n hx hb d_LW_cell_1 rfl (lv_at hl 0 rfl) ?_
  refine va_slen hx hb hX hbl hbA hS d_LW_cell_2 ?_
  refine lv_icmp_ge (tgt := 12) hx hb d_LW_cell_3 (by decide) (fun hc => ?_) (fun hc => ?_)
  · have h0 : L = 0 := by
      rcases Nat.eq_zero_or_pos L with q | q
      · exact q
      · exact absurd hc (nI_nle q hL)
    refine lv_iconst (v := (0 : Int32)) hx hb d_LW_cell_12 (by decide) ?_
    rw [hQ, show c0v L xs = 0 by unfold c0v; rw [if_pos h0]]
    exact kri hx hb hr hlocks hAe hP hK hD hS d_LW_cell_13
  · have h0 : 0 < L := by
      rcases Nat.eq_zero_or_pos L with q | q
      · subst q; exact absurd (by decide) hc
      · exact q
    refine lv_aload_n hx hb d_LW_cell_6 rfl (lv_at hl 0 rfl) ?_
    refine lv_iload_n hx hb d_LW_cell_7 rfl (lv_at hl 1 rfl) ?_
    refine va_sld hx hb hX hbl hbA hS (vp_in_nI (n := 0) h0 hL) d_LW_cell_8 ?_
    refine lv_goto (tgt := 13) hx hb d_LW_cell_9 (by decide) ?_
    have e9 : xs (0 : Int32).toNatClampNeg = c0v L xs := by unfold c0v; rw [if_neg (by omega)]; rfl
    rw [hQ]
    rw [e9]
    exact kri hx hb hr hlocks hAe hP hK hD hS d_LW_cell_13
theorem pts_of (a : Int32) : ∃ n : Nat, 1 ≤ n ∧ n ≤ 200 ∧ (if (1 : Int32) < (if a < (200 : Int32) then a else (200 : Int32)) then (if a < (200 : Int32) then a else (200 : Int32)) else (1 : Int32)) = nI n ∧ ptM a = nI n := by
  unfold ptM
  by_cases h1 : (1 : Int32) ≤ a
  · have ha0 : ¬ a < 0 := by
      rw [Int32.lt_iff_toInt_lt]; rw [Int32.le_iff_toInt_le] at h1
      have e1 : (1 : Int32).toInt = 1 := by decide
      have e0 : (0 : Int32).toInt = 0 := by decide
      omega
    obtain ⟨j, hj, rfl⟩ := nI_of ha0
    have h1' : 1 ≤ j := (nI_leI (a := 1) (by omega) hj).mp h1
    by_cases h2 : j < 200
    · have hlt : nI j < (200 : Int32) := (nI_ltI (b := 200) hj (by omega)).mpr h2
      have hle : nI j ≤ (200 : Int32) := (nI_leI (b := 200) hj (by omega)).mpr (by omega)
      refine ⟨j, h1', by omega, ?_, by rw [if_pos h1, if_pos hle]⟩
      rw [if_pos hlt]
      by_cases h3 : (1 : Int32) < nI j
      · rw [if_pos h3]
      · rw [if_neg h3]
        have : ¬ 1 < j := fun z => h3 ((nI_ltI (a := 1) (by omega) hj).mpr z)
        rw [show j = 1 by omega]; rfl
    · have hlt : ¬ nI j < (200 : Int32) := fun z => h2 ((nI_ltI (b := 200) hj (by omega)).mp z)
      refine ⟨200, by omega, by omega, ?_, ?_⟩
      · rw [if_neg hlt, if_pos (by decide)]; rfl
      · rw [if_pos h1]
        by_cases h3 : nI j ≤ (200 : Int32)
        · rw [if_pos h3]
          have : j ≤ 200 := (nI_leI (b := 200) hj (by omega)).mp h3
          rw [show j = 200 by omega]
        · rw [if_neg h3]; rfl
  · refine ⟨1, by omega, by omega, ?_, by rw [if_neg h1]; rfl⟩
    have hlt : a < (200 : Int32) := by
      rw [Int32.lt_iff_toInt_lt]; rw [Int32.le_iff_toInt_le] at h1
      have e1 : (1 : Int32).toInt = 1 := by decide
      have e2 : (200 : Int32).toInt = 200 := by decide
      omega
    rw [if_pos hlt, if_neg (fun z => h1 (Int32.le_of_lt z))]; rfl
theorem arr_of {args : Array Value} {s : State} {t : FieldType} (h : (Cond.arrayClass t).before args s = true) : ∃ cA : ClassId, ArrOfT s cA t ∧ s.vm.findClass ("[" ++ t.toString) = some cA := by
  obtain ⟨c, k, comp, h1, h2, h3⟩ := Cond.arrayClass_spec h
  exact ⟨c, fun n z => ⟨fun k h => (by cases h), k, h2, comp, h3⟩, h1⟩
theorem arr_ov {args : Array Value} {s : State} {C : String} (h : (Cond.arrayOver (.object C)).before args s = true) : ∃ cA : ClassId, ArrOfT s cA (.object C) ∧ va_RA s cA (.object C) := by
  obtain ⟨comp, c, k, h1, h2, h3, h4, h5⟩ := Cond.arrayOver_spec h
  exact ⟨c, fun n z => ⟨fun k h => (by cases h), k, h3, comp, h4⟩, k, comp, h3, h4, h1, h5⟩
set_option maxHeartbeats 4000000 in
theorem vaK_of {args : Array Value} {s : State} (hts : ∀ w ∈ gw, w.before args s = true) (hov : (Cond.arrayOver (.object "AlarmMatrix$Loop")).before args s = true) : ∃ (dC : Nat → ClassId) (dI : Nat → Nat → Nat) (g : Nat → ClassId), va_K (dC, dI) vwCl (tyv g) s := by
  obtain ⟨c0, iS0, hKn0⟩ := u_known (C := "AlarmMatrix") (T := T_AM) (N := 7) (n := 7) hts i_AM (hts _ k1_24)
  obtain ⟨c1, iS1, hKn1⟩ := u_known (C := "AlarmMatrix$Text") (T := T_Text) (N := 3) (n := 3) hts i_Text (hts _ k1_32)
  obtain ⟨c2, iS2, hKn2⟩ := u_known (C := "AlarmMatrix$Words") (T := T_Words) (N := 4) (n := 4) hts i_Words (hts _ k2_16)
  obtain ⟨c3, iS3, hKn3⟩ := u_known (C := "AlarmMatrix$Reader") (T := T_Reader) (N := 3) (n := 3) hts i_Reader (hts _ k2_6)
  obtain ⟨c4, iS4, hKn4⟩ := u_known (C := "AlarmMatrix$Plan") (T := T_Plan) (N := 6) (n := 6) hts i_Plan (hts _ k1_127)
  obtain ⟨c5, iS5, hKn5⟩ := u_known (C := "AlarmMatrix$Zones") (T := T_Zones) (N := 5) (n := 5) hts i_Zones (hts _ k1_133)
  obtain ⟨c6, iS6, hKn6⟩ := u_known (C := "AlarmMatrix$Acts") (T := T_Acts) (N := 13) (n := 13) hts i_Acts (hts _ k1_155)
  obtain ⟨c7, iS7, hKn7⟩ := u_known (C := "AlarmMatrix$Points") (T := T_Points) (N := 6) (n := 6) hts i_Points (hts _ k1_49)
  obtain ⟨c8, iS8, hKn8⟩ := u_known (C := "AlarmMatrix$Loop") (T := T_Loop) (N := 5) (n := 5) hts i_Loop (hts _ k1_83)
  obtain ⟨c9, iS9, hKn9⟩ := u_known (C := "AlarmMatrix$Events") (T := T_Events) (N := 5) (n := 5) hts i_Events (hts _ k1_105)
  obtain ⟨c10, iS10, hKn10⟩ := u_known (C := "AlarmMatrixModel") (T := T_MD) (N := 42) (n := 42) hts i_MD (hts _ k5_15)
  obtain ⟨g0, hA0, hB0⟩ := arr_of (hts _ k1_79)
  obtain ⟨g1, hA1, hB1⟩ := arr_of (hts _ k1_80)
  obtain ⟨g2, hA2, hB2⟩ := arr_of (hts _ k1_47)
  obtain ⟨g3, hA3, hB3⟩ := arr_ov hov
  obtain ⟨g4, hA4, hB4⟩ := arr_of (hts _ k6_149)
  refine ⟨fun k => match k with | 0 => c0 | 1 => c1 | 2 => c2 | 3 => c3 | 4 => c4 | 5 => c5 | 6 => c6 | 7 => c7 | 8 => c8 | 9 => c9 | _ => c10, fun k => match k with | 0 => iS0 | 1 => iS1 | 2 => iS2 | 3 => iS3 | 4 => iS4 | 5 => iS5 | 6 => iS6 | 7 => iS7 | 8 => iS8 | 9 => iS9 | _ => iS10, fun k => match k with | 0 => g0 | 1 => g1 | 2 => g2 | 3 => g3 | _ => g4, fun k q hq => ?_, fun k q hq => ?_⟩
  · match k, hq with
    | 0, hq => cases hq; exact hKn0
    | 1, hq => cases hq; exact hKn1
    | 2, hq => cases hq; exact hKn2
    | 3, hq => cases hq; exact hKn3
    | 4, hq => cases hq; exact hKn4
    | 5, hq => cases hq; exact hKn5
    | 6, hq => cases hq; exact hKn6
    | 7, hq => cases hq; exact hKn7
    | 8, hq => cases hq; exact hKn8
    | 9, hq => cases hq; exact hKn9
    | 10, hq => cases hq; exact hKn10
    | k + 11, hq => simp [vwCl] at hq
  · match k, hq with
    | 0, hq => cases hq; exact ⟨hA0, hB0⟩
    | 1, hq => cases hq; exact ⟨hA1, hB1⟩
    | 2, hq => cases hq; exact ⟨hA2, hB2⟩
    | 3, hq => cases hq; exact ⟨hA3, hB3⟩
    | 4, hq => cases hq; exact ⟨hA4, hB4⟩
    | k + 5, hq => simp [tyv] at hq
section MyCtorP
variable {p : Program} {l : Launch} {e : Env} {R : Room} {s : State} {m : MethodId} {args : Array Value} {below : List Frame} {meth : Method} {c : Code} {H : Heap} {locs : List Loc} {cells slots : Nat} {Q : State → Prop} {pc : Nat} {ls : Array Slot} {st0 rest : List Value} {D : va_G} {cl : List vw_C} {A : Nat → Prop} {ty : List (ClassId × FieldType)} {wc wr : va_W} {mc ms : Nat} {a : Array Value}
theorem kccP {w1 : (Nat → Nat → Nat) → va_W} (hP : va_P D cl (wc ++ wr) H) (hD : va_D A (wc ++ wr)) (hS : va_S A s.heap H locs) (hA : ∀ q, s.heap.size ≤ q → A q)
    (hr : va_Run p l e R s m args below meth c H locs cells slots mc ms (F0 m pc ls st0) rest (kqc D cl ty wc w1 H.size a) (va_A wc H.size))
    (kk : ∀ (u : Nat → Nat → Nat) (H1 : Heap) (locs1 : List Loc), va_P D cl (w1 u ++ wr) H1 → va_D A (w1 u ++ wr) → va_S A s.heap H1 locs1 → W p l e R s m args below meth c H1 locs1 (cells + mc) (slots + ms) Q (F0 m (pc + 3) ls rest)) : W p l e R s m args below meth c H locs cells slots Q (F0 m pc ls st0) :=
  kcc hP hD hS hA (List.range wc.length) ((List.range wr.length).map (fun k => k + wc.length)) ix_C ix_R nd_R dis_R hr (fun u H1 locs1 h1 h2 h3 => kk u H1 locs1 (h1.perm List.perm_append_comm) (h2.perm List.perm_append_comm) h3)
end MyCtorP
theorem pm_beg {α : Type} (A B D : List α) : ((A ++ B) ++ D).Perm ((D ++ B) ++ A) := by
  classical
  refine List.perm_iff_count.mpr (fun a => ?_)
  simp only [List.count_append]
  omega
set_option maxHeartbeats 40000000 in
set_option maxRecDepth 100000 in
theorem whole_begin {p : Program} {e : Env} {s : State} {m : MethodId} {below : List Frame} {meth : Method} {c : Code} (l : Launch) (hst : l.stackTraces = false) {b L : Nat} {xs : Nat → Int32} (hL : L ≤ 3073) (C0 : lw_At p s m meth c b L xs) (F : Nat) {Rl : (Nat → St) → Nat → St → Prop} (hsim : sims F Rl) (hinit : ∀ n : Nat, 1 ≤ n → n ≤ 200 → Rl (xI n) n (yI (nI n))) : W p l e room_1 s m #[Value.ref b] below meth c s.heap [] 0 0 (lw_Z below #[Value.ref b] s) (entryFrame m ([Value.ref b] : List Value).toArray 7) := by
  have C1 := C0
  obtain ⟨hx, hb, hr, hml, hown, hts0, hX, hbl, hlocks, hgv⟩ := C0
  have hA : ∀ q : Nat, s.heap.size ≤ q → (fun q : Nat => s.heap.size ≤ q) q := fun _ h => h
  have hbA : ¬ (fun q : Nat => s.heap.size ≤ q) b := Nat.not_le.mpr hbl
  have hts : ∀ w ∈ gw, w.before #[Value.ref b] s = true := fun w h => hts0 w (List.mem_filter.mp h).1
  have hown : s.vm.findClass "AlarmMatrixLaw" = some m.cls := hown
  obtain ⟨adK, adV, hGA⟩ := gx_of (A := fun q : Nat => s.heap.size ≤ q) hts0 hgv (fun a h => Nat.not_le.mpr h) hX hbl
  have hG := gx_ok adK adV b L xs
  obtain ⟨dC, dI, g, hK⟩ := vaK_of hts (hts0 _ (in_t1 (List.mem_of_getElem? (i := 82) rfl)))
  have hS : va_S (fun q : Nat => s.heap.size ≤ q) s.heap s.heap [] := va_S.rf
  have hP : va_P (dC, dI) vwCl ([] : va_W) s.heap := fun k q h => by simp at h
  have hD : va_D (fun q : Nat => s.heap.size ≤ q) ([] : va_W) := ⟨fun i j p q h => by simp at h, fun k q h => by simp at h⟩
  have hl := lv_entry ([.ref b]) (n := 7) (Nat.le_of_ble_eq_true rfl)
  rw [lg_entry_eq]
  generalize (lg_sl ([.ref b]) ++ List.replicate (7 - (lg_sl ([.ref b])).length) Slot.unset).toArray = ls at hl ⊢
  have hl : lv_has ls 7 [(0, .ref b)] := hl
  obtain ⟨n, hn1, hn2, hn3, hn4⟩ := pts_of (c0v L xs)
  refine va_new (ci := 0) (fs := [.null, .null, .null, .null, .null, .null, .int 0]) (C := "AlarmMatrix") (T := T_AM) (N := 7) hx hb hts i_AM t_AM o_AM hown (hts _ k1_23) (hts _ k1_24) (hts _ k1_1) hK hP hD hS hA rfl (by decide) (Nat.le_of_ble_eq_true rfl) (Nat.le_of_ble_eq_true rfl) d_law_0 (fun h H hP hD hS => ?_)
  have hP : va_P (dC, dI) vwCl (([] : va_W) ++ [(h, .inr (0, [.null, .null, .null, .null, .null, .null, .int 0]))]) H := hP
  have hD : va_D (fun q : Nat => s.heap.size ≤ q) (([] : va_W) ++ [(h, .inr (0, [.null, .null, .null, .null, .null, .null, .int 0]))]) := hD
  refine lv_dup hx hb d_law_3 rfl ?_
  refine lv_aload_n hx hb d_law_4 rfl (lv_at hl 0 rfl) ?_
  refine lv_iconst (v := (0 : Int32)) hx hb d_law_5 (by decide) ?_
  refine kciP (wc := ([] : va_W)) (wr := [(h, .inr (0, [.null, .null, .null, .null, .null, .null, .int 0]))]) (w1 := ([] : va_W)) hP hD hS hA (va_runS (As := [.ref b, .int 0]) (rest := [.ref h, .ref h]) ⟨hx, hb, hml, hown, hts⟩ (c_LW_cell gx_Xs (by omega) l dC dI g H.size) (cwS 2 hts (gdS k3_89 k3_90 k1_0 k3_91) rfl rfl rfl (by decide +kernel) ⟨Nat.le_of_ble_eq_true rfl, Nat.le_of_ble_eq_true rfl⟩) (kpSP hG hP hK hD hS hA hGA) rfl rfl hl.1 rfl (lv_room (Nat.le_of_ble_eq_true rfl)) d_law_6 ⟨Nat.le_of_ble_eq_true rfl, Nat.le_of_ble_eq_true rfl⟩) (fun H locs hP hD hS => ?_)
  have hP : va_P (dC, dI) vwCl ([(h, .inr (0, [.null, .null, .null, .null, .null, .null, .int 0]))] ++ ([] : va_W)) H := hP
  have hD : va_D (fun q : Nat => s.heap.size ≤ q) ([(h, .inr (0, [.null, .null, .null, .null, .null, .null, .int 0]))] ++ ([] : va_W)) := hD
  refine kccP (wc := [(h, .inr (0, [.null, .null, .null, .null, .null, .null, .int 0]))]) (wr := ([] : va_W)) (w1 := fun u => wd_C g h u (xI n) n) hP hD hS hA (va_runI (As := [.int (c0v L xs)]) (rest := [.ref h]) ⟨hx, hb, hml, hown, hts⟩ (c_AM_init hG gx_N gx_AO l dC dI g H.size h (c0v L xs) n hn2 hn3) (cwI 1 hts (gdI k1_27) rfl rfl rfl (hts _ k1_1) (hts _ k1_25) (hts _ k1_26) rfl (by decide +kernel) ⟨Nat.le_of_ble_eq_true rfl, Nat.le_of_ble_eq_true rfl⟩) (kpSP (As := .ref h :: [.int (c0v L xs)]) hG hP hK hD hS hA hGA) rfl rfl hl.1 rfl (lv_room (Nat.le_of_ble_eq_true rfl)) d_law_9 ⟨Nat.le_of_ble_eq_true rfl, Nat.le_of_ble_eq_true rfl⟩) (fun u H locs hP hD hS => ?_)
  have hP : va_P (dC, dI) vwCl (wd_C g h u (xI n) n ++ ([] : va_W)) H := hP
  have hD : va_D (fun q : Nat => s.heap.size ≤ q) (wd_C g h u (xI n) n ++ ([] : va_W)) := hD
  rw [List.append_nil] at hP hD
  refine lv_astore_n (lv' := [(1, .ref h), (0, .ref b)]) hx hb d_law_12 rfl hl (by decide) rfl (fun ls hl => ?_)
  generalize hWC : wd_C g h u (xI n) n = WC at hP hD
  refine va_new (ci := 10) (fs := [.int 0, .int 0, .int 0, .null, .null, .null, .null, .null, .null, .null, .null, .null, .int 0, .int 0, .null, .null, .int 0, .int 0, .null, .null, .null, .null, .null, .null, .null, .null, .null, .int 0, .int 0, .null, .null, .null, .null, .null, .null, .null, .int 0, .null, .null, .null, .null, .int 0]) (C := "AlarmMatrixModel") (T := T_MD) (N := 42) hx hb hts i_MD t_MD o_MD hown (hts _ k5_14) (hts _ k5_15) (hts _ k1_10) hK hP hD hS hA rfl (by decide) (Nat.le_of_ble_eq_true rfl) (Nat.le_of_ble_eq_true rfl) d_law_13 (fun hm H hP hD hS => ?_)
  refine lv_dup hx hb d_law_16 rfl ?_
  refine lv_aload_n hx hb d_law_17 rfl (lv_at hl 1 rfl) ?_
  refine lv_iconst (v := (0 : Int32)) hx hb d_law_18 (by decide) ?_
  have hP0 : va_P (dC, dI) vwCl (([] : va_W) ++ (WC ++ [(hm, .inr (10, [.int 0, .int 0, .int 0, .null, .null, .null, .null, .null, .null, .null, .null, .null, .int 0, .int 0, .null, .null, .int 0, .int 0, .null, .null, .null, .null, .null, .null, .null, .null, .null, .int 0, .int 0, .null, .null, .null, .null, .null, .null, .null, .int 0, .null, .null, .null, .null, .int 0]))])) H := by rw [List.nil_append]; exact hP
  have hD0 : va_D (fun q : Nat => s.heap.size ≤ q) (([] : va_W) ++ (WC ++ [(hm, .inr (10, [.int 0, .int 0, .int 0, .null, .null, .null, .null, .null, .null, .null, .null, .null, .int 0, .int 0, .null, .null, .int 0, .int 0, .null, .null, .null, .null, .null, .null, .null, .null, .null, .int 0, .int 0, .null, .null, .null, .null, .null, .null, .null, .int 0, .null, .null, .null, .null, .int 0]))])) := by rw [List.nil_append]; exact hD
  refine kciP (wc := ([] : va_W)) (wr := WC ++ [(hm, .inr (10, [.int 0, .int 0, .int 0, .null, .null, .null, .null, .null, .null, .null, .null, .null, .int 0, .int 0, .null, .null, .int 0, .int 0, .null, .null, .null, .null, .null, .null, .null, .null, .null, .int 0, .int 0, .null, .null, .null, .null, .null, .null, .null, .int 0, .null, .null, .null, .null, .int 0]))]) (w1 := ([] : va_W)) hP0 hD0 hS hA (va_runS (As := [.ref b, .int 0]) (rest := [.ref hm, .ref hm]) ⟨hx, hb, hml, hown, hts⟩ (c_LW_cell gx_Xs (by omega) l dC dI g H.size) (cwS 2 hts (gdS k3_89 k3_90 k1_0 k3_91) rfl rfl rfl (by decide +kernel) ⟨Nat.le_of_ble_eq_true rfl, Nat.le_of_ble_eq_true rfl⟩) (kpSP (wc := ([] : va_W)) (wr := WC ++ [(hm, .inr (10, [.int 0, .int 0, .int 0, .null, .null, .null, .null, .null, .null, .null, .null, .null, .int 0, .int 0, .null, .null, .int 0, .int 0, .null, .null, .null, .null, .null, .null, .null, .null, .null, .int 0, .int 0, .null, .null, .null, .null, .null, .null, .null, .int 0, .null, .null, .null, .null, .int 0]))]) hG hP0 hK hD0 hS hA hGA) rfl rfl hl.1 rfl (lv_room (Nat.le_of_ble_eq_true rfl)) d_law_19 ⟨Nat.le_of_ble_eq_true rfl, Nat.le_of_ble_eq_true rfl⟩) (fun H locs hP hD hS => ?_)
  rw [List.nil_append] at hP hD
  have hP := hP.perm (List.perm_append_comm (l₁ := WC) (l₂ := [(hm, .inr (10, [.int 0, .int 0, .int 0, .null, .null, .null, .null, .null, .null, .null, .null, .null, .int 0, .int 0, .null, .null, .int 0, .int 0, .null, .null, .null, .null, .null, .null, .null, .null, .null, .int 0, .int 0, .null, .null, .null, .null, .null, .null, .null, .int 0, .null, .null, .null, .null, .int 0]))]))
  have hD := hD.perm (List.perm_append_comm (l₁ := WC) (l₂ := [(hm, .inr (10, [.int 0, .int 0, .int 0, .null, .null, .null, .null, .null, .null, .null, .null, .null, .int 0, .int 0, .null, .null, .int 0, .int 0, .null, .null, .null, .null, .null, .null, .null, .null, .null, .int 0, .int 0, .null, .null, .null, .null, .null, .null, .null, .int 0, .null, .null, .null, .null, .int 0]))]))
  refine kccP (wc := [(hm, .inr (10, [.int 0, .int 0, .int 0, .null, .null, .null, .null, .null, .null, .null, .null, .null, .int 0, .int 0, .null, .null, .int 0, .int 0, .null, .null, .null, .null, .null, .null, .null, .null, .null, .int 0, .int 0, .null, .null, .null, .null, .null, .null, .null, .int 0, .null, .null, .null, .null, .int 0]))]) (wr := WC) (w1 := fun u => wd_MD g hm (u 0) (yI (ptM (c0v L xs)))) hP hD hS hA (va_runI (As := [.int (c0v L xs)]) (rest := [.ref hm]) ⟨hx, hb, hml, hown, hts⟩ (c_MD_init hG gx_N l dC dI g H.size hm (c0v L xs)) (cwI 1 hts (gdI k5_18) rfl rfl rfl (hts _ k1_10) (hts _ k5_16) (hts _ k5_17) rfl (by decide +kernel) ⟨Nat.le_of_ble_eq_true rfl, Nat.le_of_ble_eq_true rfl⟩) (kpSP (As := .ref hm :: [.int (c0v L xs)]) hG hP hK hD hS hA hGA) rfl rfl hl.1 rfl (lv_room (Nat.le_of_ble_eq_true rfl)) d_law_22 ⟨Nat.le_of_ble_eq_true rfl, Nat.le_of_ble_eq_true rfl⟩) (fun v H locs hP hD hS => ?_)
  rw [hn4] at hP hD
  refine lv_astore_n (lv' := [(2, .ref hm), (1, .ref h), (0, .ref b)]) hx hb d_law_25 rfl hl (by decide) rfl (fun ls hl => ?_)
  refine lv_iconst (v := (1 : Int32)) hx hb d_law_26 (by decide) ?_
  refine va_newa (atype := .long) (ty := .long) (a0 := (1, .inr (.inl (fun _ => 0)))) hx hb (hts _ k6_149) rfl hK hP hD hS hA (fun cA => rfl) (by decide) (by decide) (by decide) (Nat.le_of_ble_eq_true rfl) (Nat.le_of_ble_eq_true rfl) d_law_27 (fun ho cA H hK hP hD hS => ?_)
  obtain rfl := ty_one hK (i := 4) (j := 5) rfl rfl
  have hK := hK.sub (tys' := tyv g) [0, 1, 2, 3, 4] rfl
  have hpm : ((wd_MD g hm (v 0) (yI (nI n)) ++ WC) ++ wd_O g ho (fun _ => 0)).Perm ((wd_O g ho (fun _ => 0) ++ WC) ++ wd_MD g hm (v 0) (yI (nI n))) := pm_beg _ _ _
  have hP := hP.perm hpm
  have hD := hD.perm hpm
  refine lv_astore_n (lv' := [(3, .ref ho), (2, .ref hm), (1, .ref h), (0, .ref b)]) hx hb d_law_29 rfl hl (by decide) rfl (fun ls hl => ?_)
  refine lv_iconst (v := (1 : Int32)) hx hb d_law_30 (by decide) ?_
  refine lv_istore (lv' := [(4, .int 1), (3, .ref ho), (2, .ref hm), (1, .ref h), (0, .ref b)]) hx hb d_law_31 hl (by decide) rfl (fun ls hl => ?_)
  refine W.widen (k := 200 + 2 * 0) (n := 20000 + 7 * 0) (Nat.le_of_ble_eq_true rfl) (Nat.le_of_ble_eq_true rfl) ?_
  subst hWC
  exact law_main hG gx_N gx_St gx_Th gx_NC hst C1 hGA hK F hsim hL 200 20000 (by omega) (by omega) 513 0 rfl _ _ _ _ H _ ls (hinit n hn1 hn2) hP hD hS (lv_sub hl [4, 3, 2, 1, 0] rfl)

abbrev b_LW_loop : ByteArray := method_9_code
abbrev y_LW_loop : MethodName := ⟨"AlarmMatrixLaw", "loop", "(LAlarmMatrix;II[J)I"⟩
theorem d_LW_loop_0 : decode b_LW_loop 0 = .ok (.aload_n 3, 1) := by decide +kernel
theorem d_LW_loop_1 : decode b_LW_loop 1 = .ok (.iconst 0, 1) := by decide +kernel
theorem d_LW_loop_2 : decode b_LW_loop 2 = .ok (.aload_n 0, 1) := by decide +kernel
theorem d_LW_loop_3 : decode b_LW_loop 3 = .ok (.iload_n 1, 1) := by decide +kernel
theorem d_LW_loop_4 : decode b_LW_loop 4 = .ok (.iload_n 2, 1) := by decide +kernel
theorem d_LW_loop_5 : decode b_LW_loop 5 = .ok (.invokevirtual 35, 3) := by decide +kernel
theorem d_LW_loop_8 : decode b_LW_loop 8 = .ok (.i2l, 1) := by decide +kernel
theorem d_LW_loop_9 : decode b_LW_loop 9 = .ok (.lastore, 1) := by decide +kernel
theorem d_LW_loop_10 : decode b_LW_loop 10 = .ok (.goto 11, 3) := by decide +kernel
theorem d_LW_loop_13 : decode b_LW_loop 13 = .ok (.astore 4, 2) := by decide +kernel
theorem d_LW_loop_15 : decode b_LW_loop 15 = .ok (.iconst 1, 1) := by decide +kernel
theorem d_LW_loop_16 : decode b_LW_loop 16 = .ok (.ireturn, 1) := by decide +kernel
theorem d_LW_loop_17 : decode b_LW_loop 17 = .ok (.astore 4, 2) := by decide +kernel
theorem d_LW_loop_19 : decode b_LW_loop 19 = .ok (.iconst 2, 1) := by decide +kernel
theorem d_LW_loop_20 : decode b_LW_loop 20 = .ok (.ireturn, 1) := by decide +kernel
theorem d_LW_loop_21 : decode b_LW_loop 21 = .ok (.iconst 0, 1) := by decide +kernel
theorem d_LW_loop_22 : decode b_LW_loop 22 = .ok (.ireturn, 1) := by decide +kernel
abbrev hh_LW_loop : List (Nat × Nat × Nat × Nat) := [(0, 10, 13, 13), (0, 10, 17, 15)]
abbrev rm_LW_loop : Room := { frames := 7, cells := 1, slots := 6, locals := 112 }
theorem pm_LW_loop {α : Type} (B0 B1 B2 B3 B4 B5 B6 B7 B8 B9 B10 B11 B12 B13 : List α) : (B0 ++ (B1 ++ B2 ++ B3 ++ B4 ++ B5 ++ B6 ++ B7 ++ B8 ++ B9 ++ B10 ++ B11 ++ B12 ++ B13)).Perm ((B1 ++ B4 ++ B5 ++ B3) ++ (B0 ++ B2 ++ B6 ++ B7 ++ B8 ++ B9 ++ B10 ++ B11 ++ B12 ++ B13)) := by
  classical
  refine List.perm_iff_count.mpr (fun a => ?_)
  simp only [List.count_append, List.count_nil]
  omega
set_option maxHeartbeats 40000000 in
set_option maxRecDepth 100000 in
theorem c_LW_loop {G : (Nat → Prop) → State → Prop} (hG : gok G) (hGn : gN G) {adK adV : Nat → Nat} (hGs : gSt adK adV G) (hGt : gTh G) (hGc : gNC G) (l : Launch) (hst : l.stackTraces = false) (dC : Nat → ClassId) (dI : Nat → Nat → Nat) (g : Nat → ClassId) (F : Nat) (sz : Nat) (h : Nat) (u : Nat → Nat → Nat) (x : Nat → St) (n : Nat) (ho : Nat) (f : Nat → Int64) (j : Nat) (hj : j < 8) (a2 : Int32) {o : Nat × Int32 × St × St} (hm : m_AM_loop F (x 0) (x (10 + j)) (x 2) n j a2 = some o) (hk : o.1 = 0 ∨ o.1 = 1 ∨ o.1 = 2) : Met l y_LW_loop (.codeWith y_LW_loop b_LW_loop 5 (some .int) hh_LW_loop :: gw) rm_LW_loop (kq (dC, dI) vwCl (tyv g) G [.ref h, .int (nI j), .int a2, .ref ho] sz (wd_O g ho f ++ wd_C g h u x n)) (kqi (dC, dI) vwCl (tyv g) (wd_O g ho f ++ wd_C g h u x n) (nI o.1) (wd_O g ho (ot o.1 o.2.1 f) ++ wd_C g h u (up (up x 2 (o.2.2.2)) (10 + j) (o.2.2.1)) n) sz) 1 6 (va_A (wd_O g ho f ++ wd_C g h u x n) sz) := by
  refine kmW (Qc := fun sz => kqi (dC, dI) vwCl (tyv g) (wd_O g ho f ++ wd_C g h u x n) (nI o.1) (wd_O g ho (ot o.1 o.2.1 f) ++ wd_C g h u (up (up x 2 (o.2.2.2)) (10 + j) (o.2.2.1)) n) sz) (cc := b_LW_loop) (maxL := 5) (ret := some .int) (hh := hh_LW_loop) (by decide) rfl (Nat.le_of_ble_eq_true rfl) ?_
  intro p e s m args below meth c Q hQ hx hb hr hts hown hlocks hml htab H locs A hAe hA hP hK hD hS hGA ls hl
  have hl : lv_has ls 5 [(0, .ref h), (1, .int (nI j)), (2, .int a2), (3, .ref ho)] := hl
  have hts : ∀ w ∈ gw, w.before args s = true := fun w h => hts w (List.mem_cons_of_mem _ h)
  have hown : s.vm.findClass "AlarmMatrixLaw" = some m.cls := hown
  obtain ⟨hP, hD⟩ := kswap g h u x n j hj hP hD
  refine lv_aload_n hx hb d_LW_loop_0 rfl (lv_at hl 3 rfl) ?_
  refine lv_iconst (v := (0 : Int32)) hx hb d_LW_loop_1 (by decide) ?_
  refine lv_aload_n hx hb d_LW_loop_2 rfl (lv_at hl 0 rfl) ?_
  refine lv_iload_n hx hb d_LW_loop_3 rfl (lv_at hl 1 rfl) ?_
  refine lv_iload_n hx hb d_LW_loop_4 rfl (lv_at hl 2 rfl) ?_
  have hP : va_P (dC, dI) vwCl ((wd_AM g h (u 0) (x 0) ++ wd_LA g ((u 0) 2) (u 3) ++ wd_Loop g (u 3 j) (u (10 + j)) (x (10 + j)) ++ wd_Points g ((u 0) 1) (u 2) (x 2) n) ++ (wd_O g ho f ++ wd_Text g ((u 0) 0) (u 1) (x 1) ++ wd_LO g u x j ++ wd_Events g ((u 0) 3) (u 4) (x 4) ++ wd_Plan g ((u 0) 4) (u 5) (x 5) ++ wd_Zones g ((u 5) 0) (u 6) (x 6) ++ wd_Acts g ((u 5) 1) (u 7) (x 7) ++ wd_Plan g ((u 0) 5) (u 8) (x 8) ++ wd_Zones g ((u 8) 0) (u 9) (x 9) ++ wd_Acts g ((u 8) 1) (u 18) (x 18))) H := hP.perm (pm_LW_loop _ _ _ _ _ _ _ _ _ _ _ _ _ _)
  have hD : va_D A ((wd_AM g h (u 0) (x 0) ++ wd_LA g ((u 0) 2) (u 3) ++ wd_Loop g (u 3 j) (u (10 + j)) (x (10 + j)) ++ wd_Points g ((u 0) 1) (u 2) (x 2) n) ++ (wd_O g ho f ++ wd_Text g ((u 0) 0) (u 1) (x 1) ++ wd_LO g u x j ++ wd_Events g ((u 0) 3) (u 4) (x 4) ++ wd_Plan g ((u 0) 4) (u 5) (x 5) ++ wd_Zones g ((u 5) 0) (u 6) (x 6) ++ wd_Acts g ((u 5) 1) (u 7) (x 7) ++ wd_Plan g ((u 0) 5) (u 8) (x 8) ++ wd_Zones g ((u 8) 0) (u 9) (x 9) ++ wd_Acts g ((u 8) 1) (u 18) (x 18))) := hD.perm (pm_LW_loop _ _ _ _ _ _ _ _ _ _ _ _ _ _)
  rcases hk with hk | hk | hk
  · have hM := c_AM_loop hG hGn hGs hGt l hst dC dI g F H.size h (u 0) (x 0) (u 3) (u (10 + j)) (x (10 + j)) (u 2) (x 2) n j hj a2 hm
    rw [hk] at hM
    refine kciP (wc := wd_AM g h (u 0) (x 0) ++ wd_LA g ((u 0) 2) (u 3) ++ wd_Loop g (u 3 j) (u (10 + j)) (x (10 + j)) ++ wd_Points g ((u 0) 1) (u 2) (x 2) n) (wr := wd_O g ho f ++ wd_Text g ((u 0) 0) (u 1) (x 1) ++ wd_LO g u x j ++ wd_Events g ((u 0) 3) (u 4) (x 4) ++ wd_Plan g ((u 0) 4) (u 5) (x 5) ++ wd_Zones g ((u 5) 0) (u 6) (x 6) ++ wd_Acts g ((u 5) 1) (u 7) (x 7) ++ wd_Plan g ((u 0) 5) (u 8) (x 8) ++ wd_Zones g ((u 8) 0) (u 9) (x 9) ++ wd_Acts g ((u 8) 1) (u 18) (x 18)) (w1 := wd_AM g h (u 0) (x 0) ++ wd_LA g ((u 0) 2) (u 3) ++ wd_Loop g (u 3 j) (u (10 + j)) (o.2.2.1) ++ wd_Points g ((u 0) 1) (u 2) (o.2.2.2) n) hP hD hS hA (va_runV (As := [.int (nI j), .int a2]) (rest := [.int (0 : Int32), .ref ho]) ⟨hx, hb, hml, hown, hts⟩ hM.met (cwV 2 hts (gdV k4_54 k4_55 k4_56 k1_1 k4_57) rfl rfl rfl (by decide +kernel) ⟨Nat.le_of_ble_eq_true rfl, Nat.le_of_ble_eq_true rfl⟩) (kpVP hG hP hK hD hS hA hGA (ci := 0) (q0 := 0) rfl rfl rfl) rfl rfl hl.1 rfl (lv_room (Nat.le_of_ble_eq_true rfl)) d_LW_loop_5 ⟨Nat.le_of_ble_eq_true rfl, Nat.le_of_ble_eq_true rfl⟩) (fun H locs hP hD hS => ?_)
    have hP : va_P (dC, dI) vwCl (wd_O g ho f ++ wd_D g h u x n j (o.2.2.1) (o.2.2.2)) H := hP.perm (pm_LW_loop (wd_O g ho f) (wd_AM g h (u 0) (x 0)) (wd_Text g ((u 0) 0) (u 1) (x 1)) (wd_Points g ((u 0) 1) (u 2) (o.2.2.2) n) (wd_LA g ((u 0) 2) (u 3)) (wd_Loop g (u 3 j) (u (10 + j)) (o.2.2.1)) (wd_LO g u x j) (wd_Events g ((u 0) 3) (u 4) (x 4)) (wd_Plan g ((u 0) 4) (u 5) (x 5)) (wd_Zones g ((u 5) 0) (u 6) (x 6)) (wd_Acts g ((u 5) 1) (u 7) (x 7)) (wd_Plan g ((u 0) 5) (u 8) (x 8)) (wd_Zones g ((u 8) 0) (u 9) (x 9)) (wd_Acts g ((u 8) 1) (u 18) (x 18))).symm
    have hD : va_D A (wd_O g ho f ++ wd_D g h u x n j (o.2.2.1) (o.2.2.2)) := hD.perm (pm_LW_loop (wd_O g ho f) (wd_AM g h (u 0) (x 0)) (wd_Text g ((u 0) 0) (u 1) (x 1)) (wd_Points g ((u 0) 1) (u 2) (o.2.2.2) n) (wd_LA g ((u 0) 2) (u 3)) (wd_Loop g (u 3 j) (u (10 + j)) (o.2.2.1)) (wd_LO g u x j) (wd_Events g ((u 0) 3) (u 4) (x 4)) (wd_Plan g ((u 0) 4) (u 5) (x 5)) (wd_Zones g ((u 5) 0) (u 6) (x 6)) (wd_Acts g ((u 5) 1) (u 7) (x 7)) (wd_Plan g ((u 0) 5) (u 8) (x 8)) (wd_Zones g ((u 8) 0) (u 9) (x 9)) (wd_Acts g ((u 8) 1) (u 18) (x 18))).symm
    obtain ⟨hP, hD⟩ := kback g h u x n j (o.2.2.1) (o.2.2.2) hj hP hD
    refine lv_i2l (v := (o.2.1).toInt64) hx hb d_LW_loop_8 rfl ?_
    refine va_last (f := f) hx hb hK hP hD hS 0 4 rfl rfl (by unfold vp_in; decide) d_LW_loop_9 (fun H locs hP hD hS => ?_)
    have hP : va_P (dC, dI) vwCl (wd_O g ho (vp_updL f (0 : Int32).toNatClampNeg (o.2.1).toInt64) ++ wd_C g h u (up (up x 2 (o.2.2.2)) (10 + j) (o.2.2.1)) n) H := hP
    have hD : va_D A (wd_O g ho (vp_updL f (0 : Int32).toNatClampNeg (o.2.1).toInt64) ++ wd_C g h u (up (up x 2 (o.2.2.2)) (10 + j) (o.2.2.1)) n) := hD
    refine lv_goto (tgt := 21) hx hb d_LW_loop_10 (by decide) ?_
    refine lv_iconst (v := (0 : Int32)) hx hb d_LW_loop_21 (by decide) ?_
    rw [hQ, hk]
    exact kri hx hb hr hlocks hAe hP hK hD hS d_LW_loop_22
  · have hM := c_AM_loop hG hGn hGs hGt l hst dC dI g F H.size h (u 0) (x 0) (u 3) (u (10 + j)) (x (10 + j)) (u 2) (x 2) n j hj a2 hm
    rw [hk] at hM
    refine kcTP (k := 1) (hpc := 13) (wc := wd_AM g h (u 0) (x 0) ++ wd_LA g ((u 0) 2) (u 3) ++ wd_Loop g (u 3 j) (u (10 + j)) (x (10 + j)) ++ wd_Points g ((u 0) 1) (u 2) (x 2) n) (wr := wd_O g ho f ++ wd_Text g ((u 0) 0) (u 1) (x 1) ++ wd_LO g u x j ++ wd_Events g ((u 0) 3) (u 4) (x 4) ++ wd_Plan g ((u 0) 4) (u 5) (x 5) ++ wd_Zones g ((u 5) 0) (u 6) (x 6) ++ wd_Acts g ((u 5) 1) (u 7) (x 7) ++ wd_Plan g ((u 0) 5) (u 8) (x 8) ++ wd_Zones g ((u 8) 0) (u 9) (x 9) ++ wd_Acts g ((u 8) 1) (u 18) (x 18)) (w1 := wd_AM g h (u 0) (x 0) ++ wd_LA g ((u 0) 2) (u 3) ++ wd_Loop g (u 3 j) (u (10 + j)) (o.2.2.1) ++ wd_Points g ((u 0) 1) (u 2) (o.2.2.2) n) (As := [.int (nI j), .int a2]) (rest := [.int (0 : Int32), .ref ho]) ⟨hx, hb, hml, hown, hts⟩ hM (by decide) (cwV 2 hts (gdV k4_54 k4_55 k4_56 k1_1 k4_57) rfl rfl rfl (by decide +kernel) ⟨Nat.le_of_ble_eq_true rfl, Nat.le_of_ble_eq_true rfl⟩) (kpVP hG hP hK hD hS hA hGA (ci := 0) (q0 := 0) rfl rfl rfl) rfl hl.1 (lv_room (Nat.le_of_ble_eq_true rfl)) d_LW_loop_5 ⟨Nat.le_of_ble_eq_true rfl, Nat.le_of_ble_eq_true rfl⟩ hP hD hS hA (fun E hE => ?_) (fun q H locs hP hD hS => ?_)
    · rcases hE with ⟨-, rfl⟩ | ⟨h9, -⟩
      · exact kHand1 htab (by decide) (by decide) (hts _ k3_95) (gHand hGt hGA).1
      · cases h9
    · have hP : va_P (dC, dI) vwCl (wd_O g ho f ++ wd_D g h u x n j (o.2.2.1) (o.2.2.2)) H := hP.perm (pm_LW_loop (wd_O g ho f) (wd_AM g h (u 0) (x 0)) (wd_Text g ((u 0) 0) (u 1) (x 1)) (wd_Points g ((u 0) 1) (u 2) (o.2.2.2) n) (wd_LA g ((u 0) 2) (u 3)) (wd_Loop g (u 3 j) (u (10 + j)) (o.2.2.1)) (wd_LO g u x j) (wd_Events g ((u 0) 3) (u 4) (x 4)) (wd_Plan g ((u 0) 4) (u 5) (x 5)) (wd_Zones g ((u 5) 0) (u 6) (x 6)) (wd_Acts g ((u 5) 1) (u 7) (x 7)) (wd_Plan g ((u 0) 5) (u 8) (x 8)) (wd_Zones g ((u 8) 0) (u 9) (x 9)) (wd_Acts g ((u 8) 1) (u 18) (x 18))).symm
      have hD : va_D A (wd_O g ho f ++ wd_D g h u x n j (o.2.2.1) (o.2.2.2)) := hD.perm (pm_LW_loop (wd_O g ho f) (wd_AM g h (u 0) (x 0)) (wd_Text g ((u 0) 0) (u 1) (x 1)) (wd_Points g ((u 0) 1) (u 2) (o.2.2.2) n) (wd_LA g ((u 0) 2) (u 3)) (wd_Loop g (u 3 j) (u (10 + j)) (o.2.2.1)) (wd_LO g u x j) (wd_Events g ((u 0) 3) (u 4) (x 4)) (wd_Plan g ((u 0) 4) (u 5) (x 5)) (wd_Zones g ((u 5) 0) (u 6) (x 6)) (wd_Acts g ((u 5) 1) (u 7) (x 7)) (wd_Plan g ((u 0) 5) (u 8) (x 8)) (wd_Zones g ((u 8) 0) (u 9) (x 9)) (wd_Acts g ((u 8) 1) (u 18) (x 18))).symm
      obtain ⟨hP, hD⟩ := kback g h u x n j (o.2.2.1) (o.2.2.2) hj hP hD
      refine lv_astore (lv' := [(4, .ref q), (0, .ref h), (1, .int (nI j)), (2, .int a2), (3, .ref ho)]) hx hb d_LW_loop_13 hl (by decide) rfl (fun ls hl => ?_)
      refine lv_iconst (v := (1 : Int32)) hx hb d_LW_loop_15 (by decide) ?_
      rw [hQ, hk]
      exact kri hx hb hr hlocks hAe hP hK hD hS d_LW_loop_16
  · have hM := c_AM_loop hG hGn hGs hGt l hst dC dI g F H.size h (u 0) (x 0) (u 3) (u (10 + j)) (x (10 + j)) (u 2) (x 2) n j hj a2 hm
    rw [hk] at hM
    refine kcTP (k := 2) (hpc := 17) (wc := wd_AM g h (u 0) (x 0) ++ wd_LA g ((u 0) 2) (u 3) ++ wd_Loop g (u 3 j) (u (10 + j)) (x (10 + j)) ++ wd_Points g ((u 0) 1) (u 2) (x 2) n) (wr := wd_O g ho f ++ wd_Text g ((u 0) 0) (u 1) (x 1) ++ wd_LO g u x j ++ wd_Events g ((u 0) 3) (u 4) (x 4) ++ wd_Plan g ((u 0) 4) (u 5) (x 5) ++ wd_Zones g ((u 5) 0) (u 6) (x 6) ++ wd_Acts g ((u 5) 1) (u 7) (x 7) ++ wd_Plan g ((u 0) 5) (u 8) (x 8) ++ wd_Zones g ((u 8) 0) (u 9) (x 9) ++ wd_Acts g ((u 8) 1) (u 18) (x 18)) (w1 := wd_AM g h (u 0) (x 0) ++ wd_LA g ((u 0) 2) (u 3) ++ wd_Loop g (u 3 j) (u (10 + j)) (o.2.2.1) ++ wd_Points g ((u 0) 1) (u 2) (o.2.2.2) n) (As := [.int (nI j), .int a2]) (rest := [.int (0 : Int32), .ref ho]) ⟨hx, hb, hml, hown, hts⟩ hM (by decide) (cwV 2 hts (gdV k4_54 k4_55 k4_56 k1_1 k4_57) rfl rfl rfl (by decide +kernel) ⟨Nat.le_of_ble_eq_true rfl, Nat.le_of_ble_eq_true rfl⟩) (kpVP hG hP hK hD hS hA hGA (ci := 0) (q0 := 0) rfl rfl rfl) rfl hl.1 (lv_room (Nat.le_of_ble_eq_true rfl)) d_LW_loop_5 ⟨Nat.le_of_ble_eq_true rfl, Nat.le_of_ble_eq_true rfl⟩ hP hD hS hA (fun E hE => ?_) (fun q H locs hP hD hS => ?_)
    · rcases hE with ⟨h9, -⟩ | ⟨-, rfl⟩
      · cases h9
      · exact kHand2 htab (by decide) (by decide) (by decide) (by decide) (hts _ k3_95) (gHandN hGc hGA) (hts _ k3_96) (gHand hGt hGA).2
    · have hP : va_P (dC, dI) vwCl (wd_O g ho f ++ wd_D g h u x n j (o.2.2.1) (o.2.2.2)) H := hP.perm (pm_LW_loop (wd_O g ho f) (wd_AM g h (u 0) (x 0)) (wd_Text g ((u 0) 0) (u 1) (x 1)) (wd_Points g ((u 0) 1) (u 2) (o.2.2.2) n) (wd_LA g ((u 0) 2) (u 3)) (wd_Loop g (u 3 j) (u (10 + j)) (o.2.2.1)) (wd_LO g u x j) (wd_Events g ((u 0) 3) (u 4) (x 4)) (wd_Plan g ((u 0) 4) (u 5) (x 5)) (wd_Zones g ((u 5) 0) (u 6) (x 6)) (wd_Acts g ((u 5) 1) (u 7) (x 7)) (wd_Plan g ((u 0) 5) (u 8) (x 8)) (wd_Zones g ((u 8) 0) (u 9) (x 9)) (wd_Acts g ((u 8) 1) (u 18) (x 18))).symm
      have hD : va_D A (wd_O g ho f ++ wd_D g h u x n j (o.2.2.1) (o.2.2.2)) := hD.perm (pm_LW_loop (wd_O g ho f) (wd_AM g h (u 0) (x 0)) (wd_Text g ((u 0) 0) (u 1) (x 1)) (wd_Points g ((u 0) 1) (u 2) (o.2.2.2) n) (wd_LA g ((u 0) 2) (u 3)) (wd_Loop g (u 3 j) (u (10 + j)) (o.2.2.1)) (wd_LO g u x j) (wd_Events g ((u 0) 3) (u 4) (x 4)) (wd_Plan g ((u 0) 4) (u 5) (x 5)) (wd_Zones g ((u 5) 0) (u 6) (x 6)) (wd_Acts g ((u 5) 1) (u 7) (x 7)) (wd_Plan g ((u 0) 5) (u 8) (x 8)) (wd_Zones g ((u 8) 0) (u 9) (x 9)) (wd_Acts g ((u 8) 1) (u 18) (x 18))).symm
      obtain ⟨hP, hD⟩ := kback g h u x n j (o.2.2.1) (o.2.2.2) hj hP hD
      refine lv_astore (lv' := [(4, .ref q), (0, .ref h), (1, .int (nI j)), (2, .int a2), (3, .ref ho)]) hx hb d_LW_loop_17 hl (by decide) rfl (fun ls hl => ?_)
      refine lv_iconst (v := (2 : Int32)) hx hb d_LW_loop_19 (by decide) ?_
      rw [hQ, hk]
      exact kri hx hb hr hlocks hAe hP hK hD hS d_LW_loop_20
abbrev rm_LW_loop_x : Room := { frames := 7, cells := 1, slots := 6, locals := 112 }
-- no cells
set_option maxHeartbeats 40000000 in
set_option maxRecDepth 100000 in
theorem c_LW_loop_x {G : (Nat → Prop) → State → Prop} (hG : gok G) (hGn : gN G) {adK adV : Nat → Nat} (hGs : gSt adK adV G) (hGt : gTh G) (hGc : gNC G) (l : Launch) (hst : l.stackTraces = false) (dC : Nat → ClassId) (dI : Nat → Nat → Nat) (g : Nat → ClassId) (F : Nat) (sz : Nat) (h : Nat) (u : Nat → Nat → Nat) (x : Nat → St) (n : Nat) (ho : Nat) (f : Nat → Int64) (a1 : Int32) (a2 : Int32) {o : Nat × Int32} (hm : m_AM_loop_x F a1 a2 = some o) (hk : o.1 = 0 ∨ o.1 = 1 ∨ o.1 = 2) : Met l y_LW_loop (.codeWith y_LW_loop b_LW_loop 5 (some .int) hh_LW_loop :: gw) rm_LW_loop_x (kq (dC, dI) vwCl (tyv g) G [.ref h, .int a1, .int a2, .ref ho] sz (wd_O g ho f ++ wd_C g h u x n)) (kqi (dC, dI) vwCl (tyv g) (wd_O g ho f ++ wd_C g h u x n) (nI o.1) (wd_O g ho (ot o.1 o.2 f) ++ wd_C g h u x n) sz) 1 6 (va_A (wd_O g ho f ++ wd_C g h u x n) sz) := by
  refine kmW (Qc := fun sz => kqi (dC, dI) vwCl (tyv g) (wd_O g ho f ++ wd_C g h u x n) (nI o.1) (wd_O g ho (ot o.1 o.2 f) ++ wd_C g h u x n) sz) (cc := b_LW_loop) (maxL := 5) (ret := some .int) (hh := hh_LW_loop) (by decide) rfl (Nat.le_of_ble_eq_true rfl) ?_
  intro p e s m args below meth c Q hQ hx hb hr hts hown hlocks hml htab H locs A hAe hA hP hK hD hS hGA ls hl
  have hl : lv_has ls 5 [(0, .ref h), (1, .int a1), (2, .int a2), (3, .ref ho)] := hl
  have hts : ∀ w ∈ gw, w.before args s = true := fun w h => hts w (List.mem_cons_of_mem _ h)
  have hown : s.vm.findClass "AlarmMatrixLaw" = some m.cls := hown
  refine lv_aload_n hx hb d_LW_loop_0 rfl (lv_at hl 3 rfl) ?_
  refine lv_iconst (v := (0 : Int32)) hx hb d_LW_loop_1 (by decide) ?_
  refine lv_aload_n hx hb d_LW_loop_2 rfl (lv_at hl 0 rfl) ?_
  refine lv_iload_n hx hb d_LW_loop_3 rfl (lv_at hl 1 rfl) ?_
  refine lv_iload_n hx hb d_LW_loop_4 rfl (lv_at hl 2 rfl) ?_
  rcases hk with hk | hk | hk
  · have hM := c_AM_loop_x hG hGn hGs hGt l hst dC dI g F H.size h a1 a2 hm
    rw [hk] at hM
    refine kciP (wc := ([] : va_W)) (wr := wd_O g ho f ++ wd_C g h u x n) (w1 := ([] : va_W)) hP hD hS hA (va_runV (As := [.int a1, .int a2]) (rest := [.int (0 : Int32), .ref ho]) ⟨hx, hb, hml, hown, hts⟩ hM.met (cwV 2 hts (gdV k4_54 k4_55 k4_56 k1_1 k4_57) rfl rfl rfl (by decide +kernel) ⟨Nat.le_of_ble_eq_true rfl, Nat.le_of_ble_eq_true rfl⟩) (kpVe hG hP hK hD hS hA hGA (ci := 0) (q0 := 1) rfl rfl rfl) rfl rfl hl.1 rfl (lv_room (Nat.le_of_ble_eq_true rfl)) d_LW_loop_5 ⟨Nat.le_of_ble_eq_true rfl, Nat.le_of_ble_eq_true rfl⟩) (fun H locs hP hD hS => ?_)
    have hP : va_P (dC, dI) vwCl (wd_O g ho f ++ wd_C g h u x n) H := hP
    have hD : va_D A (wd_O g ho f ++ wd_C g h u x n) := hD
    refine lv_i2l (v := (o.2).toInt64) hx hb d_LW_loop_8 rfl ?_
    refine va_last (f := f) hx hb hK hP hD hS 0 4 rfl rfl (by unfold vp_in; decide) d_LW_loop_9 (fun H locs hP hD hS => ?_)
    have hP : va_P (dC, dI) vwCl (wd_O g ho (vp_updL f (0 : Int32).toNatClampNeg (o.2).toInt64) ++ wd_C g h u x n) H := hP
    have hD : va_D A (wd_O g ho (vp_updL f (0 : Int32).toNatClampNeg (o.2).toInt64) ++ wd_C g h u x n) := hD
    refine lv_goto (tgt := 21) hx hb d_LW_loop_10 (by decide) ?_
    refine lv_iconst (v := (0 : Int32)) hx hb d_LW_loop_21 (by decide) ?_
    rw [hQ, hk]
    exact kri hx hb hr hlocks hAe hP hK hD hS d_LW_loop_22
  · have hM := c_AM_loop_x hG hGn hGs hGt l hst dC dI g F H.size h a1 a2 hm
    rw [hk] at hM
    refine kcTP (k := 1) (hpc := 13) (wc := ([] : va_W)) (wr := wd_O g ho f ++ wd_C g h u x n) (w1 := ([] : va_W)) (As := [.int a1, .int a2]) (rest := [.int (0 : Int32), .ref ho]) ⟨hx, hb, hml, hown, hts⟩ hM (by decide) (cwV 2 hts (gdV k4_54 k4_55 k4_56 k1_1 k4_57) rfl rfl rfl (by decide +kernel) ⟨Nat.le_of_ble_eq_true rfl, Nat.le_of_ble_eq_true rfl⟩) (kpVe hG hP hK hD hS hA hGA (ci := 0) (q0 := 1) rfl rfl rfl) rfl hl.1 (lv_room (Nat.le_of_ble_eq_true rfl)) d_LW_loop_5 ⟨Nat.le_of_ble_eq_true rfl, Nat.le_of_ble_eq_true rfl⟩ hP hD hS hA (fun E hE => ?_) (fun q H locs hP hD hS => ?_)
    · rcases hE with ⟨-, rfl⟩ | ⟨h9, -⟩
      · exact kHand1 htab (by decide) (by decide) (hts _ k3_95) (gHand hGt hGA).1
      · cases h9
    · have hP : va_P (dC, dI) vwCl (wd_O g ho f ++ wd_C g h u x n) H := hP
      have hD : va_D A (wd_O g ho f ++ wd_C g h u x n) := hD
      refine lv_astore (lv' := [(4, .ref q), (0, .ref h), (1, .int a1), (2, .int a2), (3, .ref ho)]) hx hb d_LW_loop_13 hl (by decide) rfl (fun ls hl => ?_)
      refine lv_iconst (v := (1 : Int32)) hx hb d_LW_loop_15 (by decide) ?_
      rw [hQ, hk]
      exact kri hx hb hr hlocks hAe hP hK hD hS d_LW_loop_16
  · have hM := c_AM_loop_x hG hGn hGs hGt l hst dC dI g F H.size h a1 a2 hm
    rw [hk] at hM
    refine kcTP (k := 2) (hpc := 17) (wc := ([] : va_W)) (wr := wd_O g ho f ++ wd_C g h u x n) (w1 := ([] : va_W)) (As := [.int a1, .int a2]) (rest := [.int (0 : Int32), .ref ho]) ⟨hx, hb, hml, hown, hts⟩ hM (by decide) (cwV 2 hts (gdV k4_54 k4_55 k4_56 k1_1 k4_57) rfl rfl rfl (by decide +kernel) ⟨Nat.le_of_ble_eq_true rfl, Nat.le_of_ble_eq_true rfl⟩) (kpVe hG hP hK hD hS hA hGA (ci := 0) (q0 := 1) rfl rfl rfl) rfl hl.1 (lv_room (Nat.le_of_ble_eq_true rfl)) d_LW_loop_5 ⟨Nat.le_of_ble_eq_true rfl, Nat.le_of_ble_eq_true rfl⟩ hP hD hS hA (fun E hE => ?_) (fun q H locs hP hD hS => ?_)
    · rcases hE with ⟨h9, -⟩ | ⟨-, rfl⟩
      · cases h9
      · exact kHand2 htab (by decide) (by decide) (by decide) (by decide) (hts _ k3_95) (gHandN hGc hGA) (hts _ k3_96) (gHand hGt hGA).2
    · have hP : va_P (dC, dI) vwCl (wd_O g ho f ++ wd_C g h u x n) H := hP
      have hD : va_D A (wd_O g ho f ++ wd_C g h u x n) := hD
      refine lv_astore (lv' := [(4, .ref q), (0, .ref h), (1, .int a1), (2, .int a2), (3, .ref ho)]) hx hb d_LW_loop_17 hl (by decide) rfl (fun ls hl => ?_)
      refine lv_iconst (v := (2 : Int32)) hx hb d_LW_loop_19 (by decide) ?_
      rw [hQ, hk]
      exact kri hx hb hr hlocks hAe hP hK hD hS d_LW_loop_20
abbrev b_LW_cut : ByteArray := method_10_code
abbrev y_LW_cut : MethodName := ⟨"AlarmMatrixLaw", "cut", "(LAlarmMatrix;IIZ[J)I"⟩
theorem d_LW_cut_0 : decode b_LW_cut 0 = .ok (.aload 4, 2) := by decide +kernel
theorem d_LW_cut_2 : decode b_LW_cut 2 = .ok (.iconst 0, 1) := by decide +kernel
theorem d_LW_cut_3 : decode b_LW_cut 3 = .ok (.aload_n 0, 1) := by decide +kernel
theorem d_LW_cut_4 : decode b_LW_cut 4 = .ok (.iload_n 1, 1) := by decide +kernel
theorem d_LW_cut_5 : decode b_LW_cut 5 = .ok (.iload_n 2, 1) := by decide +kernel
theorem d_LW_cut_6 : decode b_LW_cut 6 = .ok (.iload_n 3, 1) := by decide +kernel
theorem d_LW_cut_7 : decode b_LW_cut 7 = .ok (.invokevirtual 38, 3) := by decide +kernel
theorem d_LW_cut_10 : decode b_LW_cut 10 = .ok (.ifCond .eq 7, 3) := by decide +kernel
theorem d_LW_cut_13 : decode b_LW_cut 13 = .ok (.lconst 1, 1) := by decide +kernel
theorem d_LW_cut_14 : decode b_LW_cut 14 = .ok (.goto 4, 3) := by decide +kernel
theorem d_LW_cut_17 : decode b_LW_cut 17 = .ok (.lconst 0, 1) := by decide +kernel
theorem d_LW_cut_18 : decode b_LW_cut 18 = .ok (.lastore, 1) := by decide +kernel
theorem d_LW_cut_19 : decode b_LW_cut 19 = .ok (.goto 7, 3) := by decide +kernel
theorem d_LW_cut_22 : decode b_LW_cut 22 = .ok (.astore 5, 2) := by decide +kernel
theorem d_LW_cut_24 : decode b_LW_cut 24 = .ok (.iconst 1, 1) := by decide +kernel
theorem d_LW_cut_25 : decode b_LW_cut 25 = .ok (.ireturn, 1) := by decide +kernel
theorem d_LW_cut_26 : decode b_LW_cut 26 = .ok (.iconst 0, 1) := by decide +kernel
theorem d_LW_cut_27 : decode b_LW_cut 27 = .ok (.ireturn, 1) := by decide +kernel
abbrev hh_LW_cut : List (Nat × Nat × Nat × Nat) := [(0, 19, 22, 13)]
abbrev rm_LW_cut : Room := { frames := 7, cells := 1, slots := 6, locals := 114 }
theorem pm_LW_cut {α : Type} (B0 B1 B2 B3 B4 B5 B6 B7 B8 B9 B10 B11 B12 B13 : List α) : (B0 ++ (B1 ++ B2 ++ B3 ++ B4 ++ B5 ++ B6 ++ B7 ++ B8 ++ B9 ++ B10 ++ B11 ++ B12 ++ B13)).Perm ((B1 ++ B4 ++ B5 ++ B3) ++ (B0 ++ B2 ++ B6 ++ B7 ++ B8 ++ B9 ++ B10 ++ B11 ++ B12 ++ B13)) := by
  classical
  refine List.perm_iff_count.mpr (fun a => ?_)
  simp only [List.count_append, List.count_nil]
  omega
set_option maxHeartbeats 40000000 in
set_option maxRecDepth 100000 in
theorem c_LW_cut {G : (Nat → Prop) → State → Prop} (hG : gok G) (hGn : gN G) {adK adV : Nat → Nat} (hGs : gSt adK adV G) (hGt : gTh G) (hGc : gNC G) (l : Launch) (hst : l.stackTraces = false) (dC : Nat → ClassId) (dI : Nat → Nat → Nat) (g : Nat → ClassId) (F : Nat) (sz : Nat) (h : Nat) (u : Nat → Nat → Nat) (x : Nat → St) (n : Nat) (ho : Nat) (f : Nat → Int64) (j : Nat) (hj : j < 8) (a2 : Int32) (a3 : Int32) {o : Nat × Int32 × St × St} (hm : m_AM_cut F (x 0) (x (10 + j)) (x 2) n j a2 a3 = some o) (hk : o.1 = 0 ∨ o.1 = 1) : Met l y_LW_cut (.codeWith y_LW_cut b_LW_cut 6 (some .int) hh_LW_cut :: gw) rm_LW_cut (kq (dC, dI) vwCl (tyv g) G [.ref h, .int (nI j), .int a2, .int a3, .ref ho] sz (wd_O g ho f ++ wd_C g h u x n)) (kqi (dC, dI) vwCl (tyv g) (wd_O g ho f ++ wd_C g h u x n) (nI o.1) (wd_O g ho (oz o.1 o.2.1 f) ++ wd_C g h u (up (up x 2 (o.2.2.2)) (10 + j) (o.2.2.1)) n) sz) 1 6 (va_A (wd_O g ho f ++ wd_C g h u x n) sz) := by
  refine kmW (Qc := fun sz => kqi (dC, dI) vwCl (tyv g) (wd_O g ho f ++ wd_C g h u x n) (nI o.1) (wd_O g ho (oz o.1 o.2.1 f) ++ wd_C g h u (up (up x 2 (o.2.2.2)) (10 + j) (o.2.2.1)) n) sz) (cc := b_LW_cut) (maxL := 6) (ret := some .int) (hh := hh_LW_cut) (by decide) rfl (Nat.le_of_ble_eq_true rfl) ?_
  intro p e s m args below meth c Q hQ hx hb hr hts hown hlocks hml htab H locs A hAe hA hP hK hD hS hGA ls hl
  have hl : lv_has ls 6 [(0, .ref h), (1, .int (nI j)), (2, .int a2), (3, .int a3), (4, .ref ho)] := hl
  have hts : ∀ w ∈ gw, w.before args s = true := fun w h => hts w (List.mem_cons_of_mem _ h)
  have hown : s.vm.findClass "AlarmMatrixLaw" = some m.cls := hown
  obtain ⟨hP, hD⟩ := kswap g h u x n j hj hP hD
  refine lv_aload hx hb d_LW_cut_0 (lv_at hl 4 rfl) ?_
  refine lv_iconst (v := (0 : Int32)) hx hb d_LW_cut_2 (by decide) ?_
  refine lv_aload_n hx hb d_LW_cut_3 rfl (lv_at hl 0 rfl) ?_
  refine lv_iload_n hx hb d_LW_cut_4 rfl (lv_at hl 1 rfl) ?_
  refine lv_iload_n hx hb d_LW_cut_5 rfl (lv_at hl 2 rfl) ?_
  refine lv_iload_n hx hb d_LW_cut_6 rfl (lv_at hl 3 rfl) ?_
  have hP : va_P (dC, dI) vwCl ((wd_AM g h (u 0) (x 0) ++ wd_LA g ((u 0) 2) (u 3) ++ wd_Loop g (u 3 j) (u (10 + j)) (x (10 + j)) ++ wd_Points g ((u 0) 1) (u 2) (x 2) n) ++ (wd_O g ho f ++ wd_Text g ((u 0) 0) (u 1) (x 1) ++ wd_LO g u x j ++ wd_Events g ((u 0) 3) (u 4) (x 4) ++ wd_Plan g ((u 0) 4) (u 5) (x 5) ++ wd_Zones g ((u 5) 0) (u 6) (x 6) ++ wd_Acts g ((u 5) 1) (u 7) (x 7) ++ wd_Plan g ((u 0) 5) (u 8) (x 8) ++ wd_Zones g ((u 8) 0) (u 9) (x 9) ++ wd_Acts g ((u 8) 1) (u 18) (x 18))) H := hP.perm (pm_LW_cut _ _ _ _ _ _ _ _ _ _ _ _ _ _)
  have hD : va_D A ((wd_AM g h (u 0) (x 0) ++ wd_LA g ((u 0) 2) (u 3) ++ wd_Loop g (u 3 j) (u (10 + j)) (x (10 + j)) ++ wd_Points g ((u 0) 1) (u 2) (x 2) n) ++ (wd_O g ho f ++ wd_Text g ((u 0) 0) (u 1) (x 1) ++ wd_LO g u x j ++ wd_Events g ((u 0) 3) (u 4) (x 4) ++ wd_Plan g ((u 0) 4) (u 5) (x 5) ++ wd_Zones g ((u 5) 0) (u 6) (x 6) ++ wd_Acts g ((u 5) 1) (u 7) (x 7) ++ wd_Plan g ((u 0) 5) (u 8) (x 8) ++ wd_Zones g ((u 8) 0) (u 9) (x 9) ++ wd_Acts g ((u 8) 1) (u 18) (x 18))) := hD.perm (pm_LW_cut _ _ _ _ _ _ _ _ _ _ _ _ _ _)
  rcases hk with hk | hk
  · have hM := c_AM_cut hG hGn hGs hGt l hst dC dI g F H.size h (u 0) (x 0) (u 3) (u (10 + j)) (x (10 + j)) (u 2) (x 2) n j hj a2 a3 hm
    rw [hk] at hM
    refine kciP (wc := wd_AM g h (u 0) (x 0) ++ wd_LA g ((u 0) 2) (u 3) ++ wd_Loop g (u 3 j) (u (10 + j)) (x (10 + j)) ++ wd_Points g ((u 0) 1) (u 2) (x 2) n) (wr := wd_O g ho f ++ wd_Text g ((u 0) 0) (u 1) (x 1) ++ wd_LO g u x j ++ wd_Events g ((u 0) 3) (u 4) (x 4) ++ wd_Plan g ((u 0) 4) (u 5) (x 5) ++ wd_Zones g ((u 5) 0) (u 6) (x 6) ++ wd_Acts g ((u 5) 1) (u 7) (x 7) ++ wd_Plan g ((u 0) 5) (u 8) (x 8) ++ wd_Zones g ((u 8) 0) (u 9) (x 9) ++ wd_Acts g ((u 8) 1) (u 18) (x 18)) (w1 := wd_AM g h (u 0) (x 0) ++ wd_LA g ((u 0) 2) (u 3) ++ wd_Loop g (u 3 j) (u (10 + j)) (o.2.2.1) ++ wd_Points g ((u 0) 1) (u 2) (o.2.2.2) n) hP hD hS hA (va_runV (As := [.int (nI j), .int a2, .int a3]) (rest := [.int (0 : Int32), .ref ho]) ⟨hx, hb, hml, hown, hts⟩ hM.met (cwV 3 hts (gdV k4_86 k4_87 k4_88 k1_1 k4_89) rfl rfl rfl (by decide +kernel) ⟨Nat.le_of_ble_eq_true rfl, Nat.le_of_ble_eq_true rfl⟩) (kpVP hG hP hK hD hS hA hGA (ci := 0) (q0 := 0) rfl rfl rfl) rfl rfl hl.1 rfl (lv_room (Nat.le_of_ble_eq_true rfl)) d_LW_cut_7 ⟨Nat.le_of_ble_eq_true rfl, Nat.le_of_ble_eq_true rfl⟩) (fun H locs hP hD hS => ?_)
    have hP : va_P (dC, dI) vwCl (wd_O g ho f ++ wd_D g h u x n j (o.2.2.1) (o.2.2.2)) H := hP.perm (pm_LW_cut (wd_O g ho f) (wd_AM g h (u 0) (x 0)) (wd_Text g ((u 0) 0) (u 1) (x 1)) (wd_Points g ((u 0) 1) (u 2) (o.2.2.2) n) (wd_LA g ((u 0) 2) (u 3)) (wd_Loop g (u 3 j) (u (10 + j)) (o.2.2.1)) (wd_LO g u x j) (wd_Events g ((u 0) 3) (u 4) (x 4)) (wd_Plan g ((u 0) 4) (u 5) (x 5)) (wd_Zones g ((u 5) 0) (u 6) (x 6)) (wd_Acts g ((u 5) 1) (u 7) (x 7)) (wd_Plan g ((u 0) 5) (u 8) (x 8)) (wd_Zones g ((u 8) 0) (u 9) (x 9)) (wd_Acts g ((u 8) 1) (u 18) (x 18))).symm
    have hD : va_D A (wd_O g ho f ++ wd_D g h u x n j (o.2.2.1) (o.2.2.2)) := hD.perm (pm_LW_cut (wd_O g ho f) (wd_AM g h (u 0) (x 0)) (wd_Text g ((u 0) 0) (u 1) (x 1)) (wd_Points g ((u 0) 1) (u 2) (o.2.2.2) n) (wd_LA g ((u 0) 2) (u 3)) (wd_Loop g (u 3 j) (u (10 + j)) (o.2.2.1)) (wd_LO g u x j) (wd_Events g ((u 0) 3) (u 4) (x 4)) (wd_Plan g ((u 0) 4) (u 5) (x 5)) (wd_Zones g ((u 5) 0) (u 6) (x 6)) (wd_Acts g ((u 5) 1) (u 7) (x 7)) (wd_Plan g ((u 0) 5) (u 8) (x 8)) (wd_Zones g ((u 8) 0) (u 9) (x 9)) (wd_Acts g ((u 8) 1) (u 18) (x 18))).symm
    obtain ⟨hP, hD⟩ := kback g h u x n j (o.2.2.1) (o.2.2.2) hj hP hD
    refine lv_if_eq (tgt := 17) hx hb d_LW_cut_10 (by decide) (fun hc => ?_) (fun hc => ?_)
    · refine lv_lconst (v := (0 : Int64)) hx hb d_LW_cut_17 (by decide) ?_
      refine va_last (f := f) hx hb hK hP hD hS 0 4 rfl rfl (by unfold vp_in; decide) d_LW_cut_18 (fun H locs hP hD hS => ?_)
      have hP : va_P (dC, dI) vwCl (wd_O g ho (vp_updL f (0 : Int32).toNatClampNeg (0 : Int64)) ++ wd_C g h u (up (up x 2 (o.2.2.2)) (10 + j) (o.2.2.1)) n) H := hP
      have hD : va_D A (wd_O g ho (vp_updL f (0 : Int32).toNatClampNeg (0 : Int64)) ++ wd_C g h u (up (up x 2 (o.2.2.2)) (10 + j) (o.2.2.1)) n) := hD
      refine lv_goto (tgt := 26) hx hb d_LW_cut_19 (by decide) ?_
      refine lv_iconst (v := (0 : Int32)) hx hb d_LW_cut_26 (by decide) ?_
      rw [hQ, hk, show oz 0 o.2.1 f = vp_updL f (0 : Int32).toNatClampNeg (0 : Int64) by unfold oz; rw [if_pos hc]]
      exact kri hx hb hr hlocks hAe hP hK hD hS d_LW_cut_27
    · refine lv_lconst (v := (1 : Int64)) hx hb d_LW_cut_13 (by decide) ?_
      refine lv_goto (tgt := 18) hx hb d_LW_cut_14 (by decide) ?_
      refine va_last (f := f) hx hb hK hP hD hS 0 4 rfl rfl (by unfold vp_in; decide) d_LW_cut_18 (fun H locs hP hD hS => ?_)
      have hP : va_P (dC, dI) vwCl (wd_O g ho (vp_updL f (0 : Int32).toNatClampNeg (1 : Int64)) ++ wd_C g h u (up (up x 2 (o.2.2.2)) (10 + j) (o.2.2.1)) n) H := hP
      have hD : va_D A (wd_O g ho (vp_updL f (0 : Int32).toNatClampNeg (1 : Int64)) ++ wd_C g h u (up (up x 2 (o.2.2.2)) (10 + j) (o.2.2.1)) n) := hD
      refine lv_goto (tgt := 26) hx hb d_LW_cut_19 (by decide) ?_
      refine lv_iconst (v := (0 : Int32)) hx hb d_LW_cut_26 (by decide) ?_
      rw [hQ, hk, show oz 0 o.2.1 f = vp_updL f (0 : Int32).toNatClampNeg (1 : Int64) by unfold oz; rw [if_neg hc]]
      exact kri hx hb hr hlocks hAe hP hK hD hS d_LW_cut_27
  · have hM := c_AM_cut hG hGn hGs hGt l hst dC dI g F H.size h (u 0) (x 0) (u 3) (u (10 + j)) (x (10 + j)) (u 2) (x 2) n j hj a2 a3 hm
    rw [hk] at hM
    refine kcTP (k := 1) (hpc := 22) (wc := wd_AM g h (u 0) (x 0) ++ wd_LA g ((u 0) 2) (u 3) ++ wd_Loop g (u 3 j) (u (10 + j)) (x (10 + j)) ++ wd_Points g ((u 0) 1) (u 2) (x 2) n) (wr := wd_O g ho f ++ wd_Text g ((u 0) 0) (u 1) (x 1) ++ wd_LO g u x j ++ wd_Events g ((u 0) 3) (u 4) (x 4) ++ wd_Plan g ((u 0) 4) (u 5) (x 5) ++ wd_Zones g ((u 5) 0) (u 6) (x 6) ++ wd_Acts g ((u 5) 1) (u 7) (x 7) ++ wd_Plan g ((u 0) 5) (u 8) (x 8) ++ wd_Zones g ((u 8) 0) (u 9) (x 9) ++ wd_Acts g ((u 8) 1) (u 18) (x 18)) (w1 := wd_AM g h (u 0) (x 0) ++ wd_LA g ((u 0) 2) (u 3) ++ wd_Loop g (u 3 j) (u (10 + j)) (o.2.2.1) ++ wd_Points g ((u 0) 1) (u 2) (o.2.2.2) n) (As := [.int (nI j), .int a2, .int a3]) (rest := [.int (0 : Int32), .ref ho]) ⟨hx, hb, hml, hown, hts⟩ hM (by decide) (cwV 3 hts (gdV k4_86 k4_87 k4_88 k1_1 k4_89) rfl rfl rfl (by decide +kernel) ⟨Nat.le_of_ble_eq_true rfl, Nat.le_of_ble_eq_true rfl⟩) (kpVP hG hP hK hD hS hA hGA (ci := 0) (q0 := 0) rfl rfl rfl) rfl hl.1 (lv_room (Nat.le_of_ble_eq_true rfl)) d_LW_cut_7 ⟨Nat.le_of_ble_eq_true rfl, Nat.le_of_ble_eq_true rfl⟩ hP hD hS hA (fun E hE => ?_) (fun q H locs hP hD hS => ?_)
    · rcases hE with ⟨-, rfl⟩ | ⟨h9, -⟩
      · exact kHand1 htab (by decide) (by decide) (hts _ k3_95) (gHand hGt hGA).1
      · cases h9
    · have hP : va_P (dC, dI) vwCl (wd_O g ho f ++ wd_D g h u x n j (o.2.2.1) (o.2.2.2)) H := hP.perm (pm_LW_cut (wd_O g ho f) (wd_AM g h (u 0) (x 0)) (wd_Text g ((u 0) 0) (u 1) (x 1)) (wd_Points g ((u 0) 1) (u 2) (o.2.2.2) n) (wd_LA g ((u 0) 2) (u 3)) (wd_Loop g (u 3 j) (u (10 + j)) (o.2.2.1)) (wd_LO g u x j) (wd_Events g ((u 0) 3) (u 4) (x 4)) (wd_Plan g ((u 0) 4) (u 5) (x 5)) (wd_Zones g ((u 5) 0) (u 6) (x 6)) (wd_Acts g ((u 5) 1) (u 7) (x 7)) (wd_Plan g ((u 0) 5) (u 8) (x 8)) (wd_Zones g ((u 8) 0) (u 9) (x 9)) (wd_Acts g ((u 8) 1) (u 18) (x 18))).symm
      have hD : va_D A (wd_O g ho f ++ wd_D g h u x n j (o.2.2.1) (o.2.2.2)) := hD.perm (pm_LW_cut (wd_O g ho f) (wd_AM g h (u 0) (x 0)) (wd_Text g ((u 0) 0) (u 1) (x 1)) (wd_Points g ((u 0) 1) (u 2) (o.2.2.2) n) (wd_LA g ((u 0) 2) (u 3)) (wd_Loop g (u 3 j) (u (10 + j)) (o.2.2.1)) (wd_LO g u x j) (wd_Events g ((u 0) 3) (u 4) (x 4)) (wd_Plan g ((u 0) 4) (u 5) (x 5)) (wd_Zones g ((u 5) 0) (u 6) (x 6)) (wd_Acts g ((u 5) 1) (u 7) (x 7)) (wd_Plan g ((u 0) 5) (u 8) (x 8)) (wd_Zones g ((u 8) 0) (u 9) (x 9)) (wd_Acts g ((u 8) 1) (u 18) (x 18))).symm
      obtain ⟨hP, hD⟩ := kback g h u x n j (o.2.2.1) (o.2.2.2) hj hP hD
      refine lv_astore (lv' := [(5, .ref q), (0, .ref h), (1, .int (nI j)), (2, .int a2), (3, .int a3), (4, .ref ho)]) hx hb d_LW_cut_22 hl (by decide) rfl (fun ls hl => ?_)
      refine lv_iconst (v := (1 : Int32)) hx hb d_LW_cut_24 (by decide) ?_
      rw [hQ, hk]
      exact kri hx hb hr hlocks hAe hP hK hD hS d_LW_cut_25
abbrev rm_LW_cut_x : Room := { frames := 7, cells := 1, slots := 6, locals := 114 }
-- no cells
set_option maxHeartbeats 40000000 in
set_option maxRecDepth 100000 in
theorem c_LW_cut_x {G : (Nat → Prop) → State → Prop} (hG : gok G) (hGn : gN G) {adK adV : Nat → Nat} (hGs : gSt adK adV G) (hGt : gTh G) (hGc : gNC G) (l : Launch) (hst : l.stackTraces = false) (dC : Nat → ClassId) (dI : Nat → Nat → Nat) (g : Nat → ClassId) (F : Nat) (sz : Nat) (h : Nat) (u : Nat → Nat → Nat) (x : Nat → St) (n : Nat) (ho : Nat) (f : Nat → Int64) (a1 : Int32) (a2 : Int32) (a3 : Int32) {o : Nat × Int32} (hm : m_AM_cut_x F a1 a2 a3 = some o) (hk : o.1 = 0 ∨ o.1 = 1) : Met l y_LW_cut (.codeWith y_LW_cut b_LW_cut 6 (some .int) hh_LW_cut :: gw) rm_LW_cut_x (kq (dC, dI) vwCl (tyv g) G [.ref h, .int a1, .int a2, .int a3, .ref ho] sz (wd_O g ho f ++ wd_C g h u x n)) (kqi (dC, dI) vwCl (tyv g) (wd_O g ho f ++ wd_C g h u x n) (nI o.1) (wd_O g ho (oz o.1 o.2 f) ++ wd_C g h u x n) sz) 1 6 (va_A (wd_O g ho f ++ wd_C g h u x n) sz) := by
  refine kmW (Qc := fun sz => kqi (dC, dI) vwCl (tyv g) (wd_O g ho f ++ wd_C g h u x n) (nI o.1) (wd_O g ho (oz o.1 o.2 f) ++ wd_C g h u x n) sz) (cc := b_LW_cut) (maxL := 6) (ret := some .int) (hh := hh_LW_cut) (by decide) rfl (Nat.le_of_ble_eq_true rfl) ?_
  intro p e s m args below meth c Q hQ hx hb hr hts hown hlocks hml htab H locs A hAe hA hP hK hD hS hGA ls hl
  have hl : lv_has ls 6 [(0, .ref h), (1, .int a1), (2, .int a2), (3, .int a3), (4, .ref ho)] := hl
  have hts : ∀ w ∈ gw, w.before args s = true := fun w h => hts w (List.mem_cons_of_mem _ h)
  have hown : s.vm.findClass "AlarmMatrixLaw" = some m.cls := hown
  refine lv_aload hx hb d_LW_cut_0 (lv_at hl 4 rfl) ?_
  refine lv_iconst (v := (0 : Int32)) hx hb d_LW_cut_2 (by decide) ?_
  refine lv_aload_n hx hb d_LW_cut_3 rfl (lv_at hl 0 rfl) ?_
  refine lv_iload_n hx hb d_LW_cut_4 rfl (lv_at hl 1 rfl) ?_
  refine lv_iload_n hx hb d_LW_cut_5 rfl (lv_at hl 2 rfl) ?_
  refine lv_iload_n hx hb d_LW_cut_6 rfl (lv_at hl 3 rfl) ?_
  rcases hk with hk | hk
  · have hM := c_AM_cut_x hG hGn hGs hGt l hst dC dI g F H.size h a1 a2 a3 hm
    rw [hk] at hM
    refine kciP (wc := ([] : va_W)) (wr := wd_O g ho f ++ wd_C g h u x n) (w1 := ([] : va_W)) hP hD hS hA (va_runV (As := [.int a1, .int a2, .int a3]) (rest := [.int (0 : Int32), .ref ho]) ⟨hx, hb, hml, hown, hts⟩ hM.met (cwV 3 hts (gdV k4_86 k4_87 k4_88 k1_1 k4_89) rfl rfl rfl (by decide +kernel) ⟨Nat.le_of_ble_eq_true rfl, Nat.le_of_ble_eq_true rfl⟩) (kpVe hG hP hK hD hS hA hGA (ci := 0) (q0 := 1) rfl rfl rfl) rfl rfl hl.1 rfl (lv_room (Nat.le_of_ble_eq_true rfl)) d_LW_cut_7 ⟨Nat.le_of_ble_eq_true rfl, Nat.le_of_ble_eq_true rfl⟩) (fun H locs hP hD hS => ?_)
    have hP : va_P (dC, dI) vwCl (wd_O g ho f ++ wd_C g h u x n) H := hP
    have hD : va_D A (wd_O g ho f ++ wd_C g h u x n) := hD
    refine lv_if_eq (tgt := 17) hx hb d_LW_cut_10 (by decide) (fun hc => ?_) (fun hc => ?_)
    · refine lv_lconst (v := (0 : Int64)) hx hb d_LW_cut_17 (by decide) ?_
      refine va_last (f := f) hx hb hK hP hD hS 0 4 rfl rfl (by unfold vp_in; decide) d_LW_cut_18 (fun H locs hP hD hS => ?_)
      have hP : va_P (dC, dI) vwCl (wd_O g ho (vp_updL f (0 : Int32).toNatClampNeg (0 : Int64)) ++ wd_C g h u x n) H := hP
      have hD : va_D A (wd_O g ho (vp_updL f (0 : Int32).toNatClampNeg (0 : Int64)) ++ wd_C g h u x n) := hD
      refine lv_goto (tgt := 26) hx hb d_LW_cut_19 (by decide) ?_
      refine lv_iconst (v := (0 : Int32)) hx hb d_LW_cut_26 (by decide) ?_
      rw [hQ, hk, show oz 0 o.2 f = vp_updL f (0 : Int32).toNatClampNeg (0 : Int64) by unfold oz; rw [if_pos hc]]
      exact kri hx hb hr hlocks hAe hP hK hD hS d_LW_cut_27
    · refine lv_lconst (v := (1 : Int64)) hx hb d_LW_cut_13 (by decide) ?_
      refine lv_goto (tgt := 18) hx hb d_LW_cut_14 (by decide) ?_
      refine va_last (f := f) hx hb hK hP hD hS 0 4 rfl rfl (by unfold vp_in; decide) d_LW_cut_18 (fun H locs hP hD hS => ?_)
      have hP : va_P (dC, dI) vwCl (wd_O g ho (vp_updL f (0 : Int32).toNatClampNeg (1 : Int64)) ++ wd_C g h u x n) H := hP
      have hD : va_D A (wd_O g ho (vp_updL f (0 : Int32).toNatClampNeg (1 : Int64)) ++ wd_C g h u x n) := hD
      refine lv_goto (tgt := 26) hx hb d_LW_cut_19 (by decide) ?_
      refine lv_iconst (v := (0 : Int32)) hx hb d_LW_cut_26 (by decide) ?_
      rw [hQ, hk, show oz 0 o.2 f = vp_updL f (0 : Int32).toNatClampNeg (1 : Int64) by unfold oz; rw [if_neg hc]]
      exact kri hx hb hr hlocks hAe hP hK hD hS d_LW_cut_27
  · have hM := c_AM_cut_x hG hGn hGs hGt l hst dC dI g F H.size h a1 a2 a3 hm
    rw [hk] at hM
    refine kcTP (k := 1) (hpc := 22) (wc := ([] : va_W)) (wr := wd_O g ho f ++ wd_C g h u x n) (w1 := ([] : va_W)) (As := [.int a1, .int a2, .int a3]) (rest := [.int (0 : Int32), .ref ho]) ⟨hx, hb, hml, hown, hts⟩ hM (by decide) (cwV 3 hts (gdV k4_86 k4_87 k4_88 k1_1 k4_89) rfl rfl rfl (by decide +kernel) ⟨Nat.le_of_ble_eq_true rfl, Nat.le_of_ble_eq_true rfl⟩) (kpVe hG hP hK hD hS hA hGA (ci := 0) (q0 := 1) rfl rfl rfl) rfl hl.1 (lv_room (Nat.le_of_ble_eq_true rfl)) d_LW_cut_7 ⟨Nat.le_of_ble_eq_true rfl, Nat.le_of_ble_eq_true rfl⟩ hP hD hS hA (fun E hE => ?_) (fun q H locs hP hD hS => ?_)
    · rcases hE with ⟨-, rfl⟩ | ⟨h9, -⟩
      · exact kHand1 htab (by decide) (by decide) (hts _ k3_95) (gHand hGt hGA).1
      · cases h9
    · have hP : va_P (dC, dI) vwCl (wd_O g ho f ++ wd_C g h u x n) H := hP
      have hD : va_D A (wd_O g ho f ++ wd_C g h u x n) := hD
      refine lv_astore (lv' := [(5, .ref q), (0, .ref h), (1, .int a1), (2, .int a2), (3, .int a3), (4, .ref ho)]) hx hb d_LW_cut_22 hl (by decide) rfl (fun ls hl => ?_)
      refine lv_iconst (v := (1 : Int32)) hx hb d_LW_cut_24 (by decide) ?_
      rw [hQ, hk]
      exact kri hx hb hr hlocks hAe hP hK hD hS d_LW_cut_25
abbrev b_LW_heard : ByteArray := method_11_code
abbrev y_LW_heard : MethodName := ⟨"AlarmMatrixLaw", "heard", "(LAlarmMatrix;I[J)I"⟩
theorem d_LW_heard_0 : decode b_LW_heard 0 = .ok (.aload_n 2, 1) := by decide +kernel
theorem d_LW_heard_1 : decode b_LW_heard 1 = .ok (.iconst 0, 1) := by decide +kernel
theorem d_LW_heard_2 : decode b_LW_heard 2 = .ok (.aload_n 0, 1) := by decide +kernel
theorem d_LW_heard_3 : decode b_LW_heard 3 = .ok (.iload_n 1, 1) := by decide +kernel
theorem d_LW_heard_4 : decode b_LW_heard 4 = .ok (.invokevirtual 42, 3) := by decide +kernel
theorem d_LW_heard_7 : decode b_LW_heard 7 = .ok (.i2l, 1) := by decide +kernel
theorem d_LW_heard_8 : decode b_LW_heard 8 = .ok (.lastore, 1) := by decide +kernel
theorem d_LW_heard_9 : decode b_LW_heard 9 = .ok (.goto 6, 3) := by decide +kernel
theorem d_LW_heard_12 : decode b_LW_heard 12 = .ok (.astore_n 3, 1) := by decide +kernel
theorem d_LW_heard_13 : decode b_LW_heard 13 = .ok (.iconst 1, 1) := by decide +kernel
theorem d_LW_heard_14 : decode b_LW_heard 14 = .ok (.ireturn, 1) := by decide +kernel
theorem d_LW_heard_15 : decode b_LW_heard 15 = .ok (.iconst 0, 1) := by decide +kernel
theorem d_LW_heard_16 : decode b_LW_heard 16 = .ok (.ireturn, 1) := by decide +kernel
abbrev hh_LW_heard : List (Nat × Nat × Nat × Nat) := [(0, 9, 12, 13)]
abbrev rm_LW_heard : Room := { frames := 7, cells := 1, slots := 6, locals := 111 }
theorem pm_LW_heard {α : Type} (B0 B1 B2 B3 B4 B5 B6 B7 B8 B9 B10 B11 B12 B13 : List α) : (B0 ++ (B1 ++ B2 ++ B3 ++ B4 ++ B5 ++ B6 ++ B7 ++ B8 ++ B9 ++ B10 ++ B11 ++ B12 ++ B13)).Perm ((B1 ++ B4 ++ B5) ++ (B0 ++ B2 ++ B3 ++ B6 ++ B7 ++ B8 ++ B9 ++ B10 ++ B11 ++ B12 ++ B13)) := by
  classical
  refine List.perm_iff_count.mpr (fun a => ?_)
  simp only [List.count_append, List.count_nil]
  omega
set_option maxHeartbeats 40000000 in
set_option maxRecDepth 100000 in
theorem c_LW_heard {G : (Nat → Prop) → State → Prop} (hG : gok G) (hGn : gN G) {adK adV : Nat → Nat} (hGs : gSt adK adV G) (hGt : gTh G) (hGc : gNC G) (l : Launch) (hst : l.stackTraces = false) (dC : Nat → ClassId) (dI : Nat → Nat → Nat) (g : Nat → ClassId) (F : Nat) (sz : Nat) (h : Nat) (u : Nat → Nat → Nat) (x : Nat → St) (n : Nat) (ho : Nat) (f : Nat → Int64) (j : Nat) (hj : j < 8)  {o : Nat × Int32} (hm : m_AM_heard F (x 0) (x (10 + j)) j = some o) (hk : o.1 = 0 ∨ o.1 = 1) : Met l y_LW_heard (.codeWith y_LW_heard b_LW_heard 4 (some .int) hh_LW_heard :: gw) rm_LW_heard (kq (dC, dI) vwCl (tyv g) G [.ref h, .int (nI j), .ref ho] sz (wd_O g ho f ++ wd_C g h u x n)) (kqi (dC, dI) vwCl (tyv g) (wd_O g ho f ++ wd_C g h u x n) (nI o.1) (wd_O g ho (ot o.1 o.2 f) ++ wd_C g h u (up (up x 2 (x 2)) (10 + j) (x (10 + j))) n) sz) 1 6 (va_A (wd_O g ho f ++ wd_C g h u x n) sz) := by
  refine kmW (Qc := fun sz => kqi (dC, dI) vwCl (tyv g) (wd_O g ho f ++ wd_C g h u x n) (nI o.1) (wd_O g ho (ot o.1 o.2 f) ++ wd_C g h u (up (up x 2 (x 2)) (10 + j) (x (10 + j))) n) sz) (cc := b_LW_heard) (maxL := 4) (ret := some .int) (hh := hh_LW_heard) (by decide) rfl (Nat.le_of_ble_eq_true rfl) ?_
  intro p e s m args below meth c Q hQ hx hb hr hts hown hlocks hml htab H locs A hAe hA hP hK hD hS hGA ls hl
  have hl : lv_has ls 4 [(0, .ref h), (1, .int (nI j)), (2, .ref ho)] := hl
  have hts : ∀ w ∈ gw, w.before args s = true := fun w h => hts w (List.mem_cons_of_mem _ h)
  have hown : s.vm.findClass "AlarmMatrixLaw" = some m.cls := hown
  obtain ⟨hP, hD⟩ := kswap g h u x n j hj hP hD
  refine lv_aload_n hx hb d_LW_heard_0 rfl (lv_at hl 2 rfl) ?_
  refine lv_iconst (v := (0 : Int32)) hx hb d_LW_heard_1 (by decide) ?_
  refine lv_aload_n hx hb d_LW_heard_2 rfl (lv_at hl 0 rfl) ?_
  refine lv_iload_n hx hb d_LW_heard_3 rfl (lv_at hl 1 rfl) ?_
  have hP : va_P (dC, dI) vwCl ((wd_AM g h (u 0) (x 0) ++ wd_LA g ((u 0) 2) (u 3) ++ wd_Loop g (u 3 j) (u (10 + j)) (x (10 + j))) ++ (wd_O g ho f ++ wd_Text g ((u 0) 0) (u 1) (x 1) ++ wd_Points g ((u 0) 1) (u 2) (x 2) n ++ wd_LO g u x j ++ wd_Events g ((u 0) 3) (u 4) (x 4) ++ wd_Plan g ((u 0) 4) (u 5) (x 5) ++ wd_Zones g ((u 5) 0) (u 6) (x 6) ++ wd_Acts g ((u 5) 1) (u 7) (x 7) ++ wd_Plan g ((u 0) 5) (u 8) (x 8) ++ wd_Zones g ((u 8) 0) (u 9) (x 9) ++ wd_Acts g ((u 8) 1) (u 18) (x 18))) H := hP.perm (pm_LW_heard _ _ _ _ _ _ _ _ _ _ _ _ _ _)
  have hD : va_D A ((wd_AM g h (u 0) (x 0) ++ wd_LA g ((u 0) 2) (u 3) ++ wd_Loop g (u 3 j) (u (10 + j)) (x (10 + j))) ++ (wd_O g ho f ++ wd_Text g ((u 0) 0) (u 1) (x 1) ++ wd_Points g ((u 0) 1) (u 2) (x 2) n ++ wd_LO g u x j ++ wd_Events g ((u 0) 3) (u 4) (x 4) ++ wd_Plan g ((u 0) 4) (u 5) (x 5) ++ wd_Zones g ((u 5) 0) (u 6) (x 6) ++ wd_Acts g ((u 5) 1) (u 7) (x 7) ++ wd_Plan g ((u 0) 5) (u 8) (x 8) ++ wd_Zones g ((u 8) 0) (u 9) (x 9) ++ wd_Acts g ((u 8) 1) (u 18) (x 18))) := hD.perm (pm_LW_heard _ _ _ _ _ _ _ _ _ _ _ _ _ _)
  rcases hk with hk | hk
  · have hM := c_AM_heard hG hGn hGs hGt l hst dC dI g F H.size h (u 0) (x 0) (u 3) (u (10 + j)) (x (10 + j)) j hj hm
    rw [hk] at hM
    refine kciP (wc := wd_AM g h (u 0) (x 0) ++ wd_LA g ((u 0) 2) (u 3) ++ wd_Loop g (u 3 j) (u (10 + j)) (x (10 + j))) (wr := wd_O g ho f ++ wd_Text g ((u 0) 0) (u 1) (x 1) ++ wd_Points g ((u 0) 1) (u 2) (x 2) n ++ wd_LO g u x j ++ wd_Events g ((u 0) 3) (u 4) (x 4) ++ wd_Plan g ((u 0) 4) (u 5) (x 5) ++ wd_Zones g ((u 5) 0) (u 6) (x 6) ++ wd_Acts g ((u 5) 1) (u 7) (x 7) ++ wd_Plan g ((u 0) 5) (u 8) (x 8) ++ wd_Zones g ((u 8) 0) (u 9) (x 9) ++ wd_Acts g ((u 8) 1) (u 18) (x 18)) (w1 := wd_AM g h (u 0) (x 0) ++ wd_LA g ((u 0) 2) (u 3) ++ wd_Loop g (u 3 j) (u (10 + j)) (x (10 + j))) hP hD hS hA (va_runV (As := [.int (nI j)]) (rest := [.int (0 : Int32), .ref ho]) ⟨hx, hb, hml, hown, hts⟩ hM.met (cwV 1 hts (gdV k4_116 k4_117 k4_118 k1_1 k4_119) rfl rfl rfl (by decide +kernel) ⟨Nat.le_of_ble_eq_true rfl, Nat.le_of_ble_eq_true rfl⟩) (kpVP hG hP hK hD hS hA hGA (ci := 0) (q0 := 0) rfl rfl rfl) rfl rfl hl.1 rfl (lv_room (Nat.le_of_ble_eq_true rfl)) d_LW_heard_4 ⟨Nat.le_of_ble_eq_true rfl, Nat.le_of_ble_eq_true rfl⟩) (fun H locs hP hD hS => ?_)
    have hP : va_P (dC, dI) vwCl (wd_O g ho f ++ wd_D g h u x n j (x (10 + j)) (x 2)) H := hP.perm (pm_LW_heard (wd_O g ho f) (wd_AM g h (u 0) (x 0)) (wd_Text g ((u 0) 0) (u 1) (x 1)) (wd_Points g ((u 0) 1) (u 2) (x 2) n) (wd_LA g ((u 0) 2) (u 3)) (wd_Loop g (u 3 j) (u (10 + j)) (x (10 + j))) (wd_LO g u x j) (wd_Events g ((u 0) 3) (u 4) (x 4)) (wd_Plan g ((u 0) 4) (u 5) (x 5)) (wd_Zones g ((u 5) 0) (u 6) (x 6)) (wd_Acts g ((u 5) 1) (u 7) (x 7)) (wd_Plan g ((u 0) 5) (u 8) (x 8)) (wd_Zones g ((u 8) 0) (u 9) (x 9)) (wd_Acts g ((u 8) 1) (u 18) (x 18))).symm
    have hD : va_D A (wd_O g ho f ++ wd_D g h u x n j (x (10 + j)) (x 2)) := hD.perm (pm_LW_heard (wd_O g ho f) (wd_AM g h (u 0) (x 0)) (wd_Text g ((u 0) 0) (u 1) (x 1)) (wd_Points g ((u 0) 1) (u 2) (x 2) n) (wd_LA g ((u 0) 2) (u 3)) (wd_Loop g (u 3 j) (u (10 + j)) (x (10 + j))) (wd_LO g u x j) (wd_Events g ((u 0) 3) (u 4) (x 4)) (wd_Plan g ((u 0) 4) (u 5) (x 5)) (wd_Zones g ((u 5) 0) (u 6) (x 6)) (wd_Acts g ((u 5) 1) (u 7) (x 7)) (wd_Plan g ((u 0) 5) (u 8) (x 8)) (wd_Zones g ((u 8) 0) (u 9) (x 9)) (wd_Acts g ((u 8) 1) (u 18) (x 18))).symm
    obtain ⟨hP, hD⟩ := kback g h u x n j (x (10 + j)) (x 2) hj hP hD
    refine lv_i2l (v := (o.2).toInt64) hx hb d_LW_heard_7 rfl ?_
    refine va_last (f := f) hx hb hK hP hD hS 0 4 rfl rfl (by unfold vp_in; decide) d_LW_heard_8 (fun H locs hP hD hS => ?_)
    have hP : va_P (dC, dI) vwCl (wd_O g ho (vp_updL f (0 : Int32).toNatClampNeg (o.2).toInt64) ++ wd_C g h u (up (up x 2 (x 2)) (10 + j) (x (10 + j))) n) H := hP
    have hD : va_D A (wd_O g ho (vp_updL f (0 : Int32).toNatClampNeg (o.2).toInt64) ++ wd_C g h u (up (up x 2 (x 2)) (10 + j) (x (10 + j))) n) := hD
    refine lv_goto (tgt := 15) hx hb d_LW_heard_9 (by decide) ?_
    refine lv_iconst (v := (0 : Int32)) hx hb d_LW_heard_15 (by decide) ?_
    rw [hQ, hk]
    exact kri hx hb hr hlocks hAe hP hK hD hS d_LW_heard_16
  · have hM := c_AM_heard hG hGn hGs hGt l hst dC dI g F H.size h (u 0) (x 0) (u 3) (u (10 + j)) (x (10 + j)) j hj hm
    rw [hk] at hM
    refine kcTP (k := 1) (hpc := 12) (wc := wd_AM g h (u 0) (x 0) ++ wd_LA g ((u 0) 2) (u 3) ++ wd_Loop g (u 3 j) (u (10 + j)) (x (10 + j))) (wr := wd_O g ho f ++ wd_Text g ((u 0) 0) (u 1) (x 1) ++ wd_Points g ((u 0) 1) (u 2) (x 2) n ++ wd_LO g u x j ++ wd_Events g ((u 0) 3) (u 4) (x 4) ++ wd_Plan g ((u 0) 4) (u 5) (x 5) ++ wd_Zones g ((u 5) 0) (u 6) (x 6) ++ wd_Acts g ((u 5) 1) (u 7) (x 7) ++ wd_Plan g ((u 0) 5) (u 8) (x 8) ++ wd_Zones g ((u 8) 0) (u 9) (x 9) ++ wd_Acts g ((u 8) 1) (u 18) (x 18)) (w1 := wd_AM g h (u 0) (x 0) ++ wd_LA g ((u 0) 2) (u 3) ++ wd_Loop g (u 3 j) (u (10 + j)) (x (10 + j))) (As := [.int (nI j)]) (rest := [.int (0 : Int32), .ref ho]) ⟨hx, hb, hml, hown, hts⟩ hM (by decide) (cwV 1 hts (gdV k4_116 k4_117 k4_118 k1_1 k4_119) rfl rfl rfl (by decide +kernel) ⟨Nat.le_of_ble_eq_true rfl, Nat.le_of_ble_eq_true rfl⟩) (kpVP hG hP hK hD hS hA hGA (ci := 0) (q0 := 0) rfl rfl rfl) rfl hl.1 (lv_room (Nat.le_of_ble_eq_true rfl)) d_LW_heard_4 ⟨Nat.le_of_ble_eq_true rfl, Nat.le_of_ble_eq_true rfl⟩ hP hD hS hA (fun E hE => ?_) (fun q H locs hP hD hS => ?_)
    · rcases hE with ⟨-, rfl⟩ | ⟨h9, -⟩
      · exact kHand1 htab (by decide) (by decide) (hts _ k3_95) (gHand hGt hGA).1
      · cases h9
    · have hP : va_P (dC, dI) vwCl (wd_O g ho f ++ wd_D g h u x n j (x (10 + j)) (x 2)) H := hP.perm (pm_LW_heard (wd_O g ho f) (wd_AM g h (u 0) (x 0)) (wd_Text g ((u 0) 0) (u 1) (x 1)) (wd_Points g ((u 0) 1) (u 2) (x 2) n) (wd_LA g ((u 0) 2) (u 3)) (wd_Loop g (u 3 j) (u (10 + j)) (x (10 + j))) (wd_LO g u x j) (wd_Events g ((u 0) 3) (u 4) (x 4)) (wd_Plan g ((u 0) 4) (u 5) (x 5)) (wd_Zones g ((u 5) 0) (u 6) (x 6)) (wd_Acts g ((u 5) 1) (u 7) (x 7)) (wd_Plan g ((u 0) 5) (u 8) (x 8)) (wd_Zones g ((u 8) 0) (u 9) (x 9)) (wd_Acts g ((u 8) 1) (u 18) (x 18))).symm
      have hD : va_D A (wd_O g ho f ++ wd_D g h u x n j (x (10 + j)) (x 2)) := hD.perm (pm_LW_heard (wd_O g ho f) (wd_AM g h (u 0) (x 0)) (wd_Text g ((u 0) 0) (u 1) (x 1)) (wd_Points g ((u 0) 1) (u 2) (x 2) n) (wd_LA g ((u 0) 2) (u 3)) (wd_Loop g (u 3 j) (u (10 + j)) (x (10 + j))) (wd_LO g u x j) (wd_Events g ((u 0) 3) (u 4) (x 4)) (wd_Plan g ((u 0) 4) (u 5) (x 5)) (wd_Zones g ((u 5) 0) (u 6) (x 6)) (wd_Acts g ((u 5) 1) (u 7) (x 7)) (wd_Plan g ((u 0) 5) (u 8) (x 8)) (wd_Zones g ((u 8) 0) (u 9) (x 9)) (wd_Acts g ((u 8) 1) (u 18) (x 18))).symm
      obtain ⟨hP, hD⟩ := kback g h u x n j (x (10 + j)) (x 2) hj hP hD
      refine lv_astore_n (lv' := [(3, .ref q), (0, .ref h), (1, .int (nI j)), (2, .ref ho)]) hx hb d_LW_heard_12 rfl hl (by decide) rfl (fun ls hl => ?_)
      refine lv_iconst (v := (1 : Int32)) hx hb d_LW_heard_13 (by decide) ?_
      rw [hQ, hk]
      exact kri hx hb hr hlocks hAe hP hK hD hS d_LW_heard_14
abbrev rm_LW_heard_x : Room := { frames := 7, cells := 1, slots := 6, locals := 111 }
-- no cells
set_option maxHeartbeats 40000000 in
set_option maxRecDepth 100000 in
theorem c_LW_heard_x {G : (Nat → Prop) → State → Prop} (hG : gok G) (hGn : gN G) {adK adV : Nat → Nat} (hGs : gSt adK adV G) (hGt : gTh G) (hGc : gNC G) (l : Launch) (hst : l.stackTraces = false) (dC : Nat → ClassId) (dI : Nat → Nat → Nat) (g : Nat → ClassId) (F : Nat) (sz : Nat) (h : Nat) (u : Nat → Nat → Nat) (x : Nat → St) (n : Nat) (ho : Nat) (f : Nat → Int64) (a1 : Int32) {o : Nat × Int32} (hm : m_AM_heard_x F a1 = some o) (hk : o.1 = 0 ∨ o.1 = 1) : Met l y_LW_heard (.codeWith y_LW_heard b_LW_heard 4 (some .int) hh_LW_heard :: gw) rm_LW_heard_x (kq (dC, dI) vwCl (tyv g) G [.ref h, .int a1, .ref ho] sz (wd_O g ho f ++ wd_C g h u x n)) (kqi (dC, dI) vwCl (tyv g) (wd_O g ho f ++ wd_C g h u x n) (nI o.1) (wd_O g ho (ot o.1 o.2 f) ++ wd_C g h u x n) sz) 1 6 (va_A (wd_O g ho f ++ wd_C g h u x n) sz) := by
  refine kmW (Qc := fun sz => kqi (dC, dI) vwCl (tyv g) (wd_O g ho f ++ wd_C g h u x n) (nI o.1) (wd_O g ho (ot o.1 o.2 f) ++ wd_C g h u x n) sz) (cc := b_LW_heard) (maxL := 4) (ret := some .int) (hh := hh_LW_heard) (by decide) rfl (Nat.le_of_ble_eq_true rfl) ?_
  intro p e s m args below meth c Q hQ hx hb hr hts hown hlocks hml htab H locs A hAe hA hP hK hD hS hGA ls hl
  have hl : lv_has ls 4 [(0, .ref h), (1, .int a1), (2, .ref ho)] := hl
  have hts : ∀ w ∈ gw, w.before args s = true := fun w h => hts w (List.mem_cons_of_mem _ h)
  have hown : s.vm.findClass "AlarmMatrixLaw" = some m.cls := hown
  refine lv_aload_n hx hb d_LW_heard_0 rfl (lv_at hl 2 rfl) ?_
  refine lv_iconst (v := (0 : Int32)) hx hb d_LW_heard_1 (by decide) ?_
  refine lv_aload_n hx hb d_LW_heard_2 rfl (lv_at hl 0 rfl) ?_
  refine lv_iload_n hx hb d_LW_heard_3 rfl (lv_at hl 1 rfl) ?_
  rcases hk with hk | hk
  · have hM := c_AM_heard_x hG hGn hGs hGt l hst dC dI g F H.size h a1 hm
    rw [hk] at hM
    refine kciP (wc := ([] : va_W)) (wr := wd_O g ho f ++ wd_C g h u x n) (w1 := ([] : va_W)) hP hD hS hA (va_runV (As := [.int a1]) (rest := [.int (0 : Int32), .ref ho]) ⟨hx, hb, hml, hown, hts⟩ hM.met (cwV 1 hts (gdV k4_116 k4_117 k4_118 k1_1 k4_119) rfl rfl rfl (by decide +kernel) ⟨Nat.le_of_ble_eq_true rfl, Nat.le_of_ble_eq_true rfl⟩) (kpVe hG hP hK hD hS hA hGA (ci := 0) (q0 := 1) rfl rfl rfl) rfl rfl hl.1 rfl (lv_room (Nat.le_of_ble_eq_true rfl)) d_LW_heard_4 ⟨Nat.le_of_ble_eq_true rfl, Nat.le_of_ble_eq_true rfl⟩) (fun H locs hP hD hS => ?_)
    have hP : va_P (dC, dI) vwCl (wd_O g ho f ++ wd_C g h u x n) H := hP
    have hD : va_D A (wd_O g ho f ++ wd_C g h u x n) := hD
    refine lv_i2l (v := (o.2).toInt64) hx hb d_LW_heard_7 rfl ?_
    refine va_last (f := f) hx hb hK hP hD hS 0 4 rfl rfl (by unfold vp_in; decide) d_LW_heard_8 (fun H locs hP hD hS => ?_)
    have hP : va_P (dC, dI) vwCl (wd_O g ho (vp_updL f (0 : Int32).toNatClampNeg (o.2).toInt64) ++ wd_C g h u x n) H := hP
    have hD : va_D A (wd_O g ho (vp_updL f (0 : Int32).toNatClampNeg (o.2).toInt64) ++ wd_C g h u x n) := hD
    refine lv_goto (tgt := 15) hx hb d_LW_heard_9 (by decide) ?_
    refine lv_iconst (v := (0 : Int32)) hx hb d_LW_heard_15 (by decide) ?_
    rw [hQ, hk]
    exact kri hx hb hr hlocks hAe hP hK hD hS d_LW_heard_16
  · have hM := c_AM_heard_x hG hGn hGs hGt l hst dC dI g F H.size h a1 hm
    rw [hk] at hM
    refine kcTP (k := 1) (hpc := 12) (wc := ([] : va_W)) (wr := wd_O g ho f ++ wd_C g h u x n) (w1 := ([] : va_W)) (As := [.int a1]) (rest := [.int (0 : Int32), .ref ho]) ⟨hx, hb, hml, hown, hts⟩ hM (by decide) (cwV 1 hts (gdV k4_116 k4_117 k4_118 k1_1 k4_119) rfl rfl rfl (by decide +kernel) ⟨Nat.le_of_ble_eq_true rfl, Nat.le_of_ble_eq_true rfl⟩) (kpVe hG hP hK hD hS hA hGA (ci := 0) (q0 := 1) rfl rfl rfl) rfl hl.1 (lv_room (Nat.le_of_ble_eq_true rfl)) d_LW_heard_4 ⟨Nat.le_of_ble_eq_true rfl, Nat.le_of_ble_eq_true rfl⟩ hP hD hS hA (fun E hE => ?_) (fun q H locs hP hD hS => ?_)
    · rcases hE with ⟨-, rfl⟩ | ⟨h9, -⟩
      · exact kHand1 htab (by decide) (by decide) (hts _ k3_95) (gHand hGt hGA).1
      · cases h9
    · have hP : va_P (dC, dI) vwCl (wd_O g ho f ++ wd_C g h u x n) H := hP
      have hD : va_D A (wd_O g ho f ++ wd_C g h u x n) := hD
      refine lv_astore_n (lv' := [(3, .ref q), (0, .ref h), (1, .int a1), (2, .ref ho)]) hx hb d_LW_heard_12 rfl hl (by decide) rfl (fun ls hl => ?_)
      refine lv_iconst (v := (1 : Int32)) hx hb d_LW_heard_13 (by decide) ?_
      rw [hQ, hk]
      exact kri hx hb hr hlocks hAe hP hK hD hS d_LW_heard_14

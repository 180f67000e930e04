abbrev b_LW_unit : ByteArray := method_3_code
abbrev y_LW_unit : MethodName := ⟨"AlarmMatrixLaw", "unit", "(LAlarmMatrix;I[J)I"⟩
theorem d_LW_unit_0 : decode b_LW_unit 0 = .ok (.aload_n 2, 1) := by decide +kernel
theorem d_LW_unit_1 : decode b_LW_unit 1 = .ok (.iconst 0, 1) := by decide +kernel
theorem d_LW_unit_2 : decode b_LW_unit 2 = .ok (.aload_n 0, 1) := by decide +kernel
theorem d_LW_unit_3 : decode b_LW_unit 3 = .ok (.iload_n 1, 1) := by decide +kernel
theorem d_LW_unit_4 : decode b_LW_unit 4 = .ok (.invokevirtual 7, 3) := by decide +kernel
theorem d_LW_unit_7 : decode b_LW_unit 7 = .ok (.i2l, 1) := by decide +kernel
theorem d_LW_unit_8 : decode b_LW_unit 8 = .ok (.lastore, 1) := by decide +kernel
theorem d_LW_unit_9 : decode b_LW_unit 9 = .ok (.goto 9, 3) := by decide +kernel
theorem d_LW_unit_12 : decode b_LW_unit 12 = .ok (.astore_n 3, 1) := by decide +kernel
theorem d_LW_unit_13 : decode b_LW_unit 13 = .ok (.iconst 1, 1) := by decide +kernel
theorem d_LW_unit_14 : decode b_LW_unit 14 = .ok (.ireturn, 1) := by decide +kernel
theorem d_LW_unit_15 : decode b_LW_unit 15 = .ok (.astore_n 3, 1) := by decide +kernel
theorem d_LW_unit_16 : decode b_LW_unit 16 = .ok (.iconst 2, 1) := by decide +kernel
theorem d_LW_unit_17 : decode b_LW_unit 17 = .ok (.ireturn, 1) := by decide +kernel
theorem d_LW_unit_18 : decode b_LW_unit 18 = .ok (.iconst 0, 1) := by decide +kernel
theorem d_LW_unit_19 : decode b_LW_unit 19 = .ok (.ireturn, 1) := by decide +kernel
abbrev hh_LW_unit : List (Nat × Nat × Nat × Nat) := [(0, 9, 12, 13), (0, 9, 15, 15)]
abbrev rm_LW_unit : Room := { frames := 7, cells := 1, slots := 6, locals := 111 }
theorem pm_LW_unit {α : Type} (B0 B1 B2 B3 B4 B5 B6 B7 B8 B9 B10 B11 B12 : List α) : (B0 ++ (B1 ++ B2 ++ B3 ++ B4 ++ B5 ++ B6 ++ B7 ++ B8 ++ B9 ++ B10 ++ B11 ++ B12)).Perm ((B1 ++ B2) ++ (B0 ++ B3 ++ B4 ++ B5 ++ B6 ++ B7 ++ B8 ++ B9 ++ B10 ++ B11 ++ B12)) := by
  classical
  refine List.perm_iff_count.mpr (fun a => ?_)
  simp only [List.count_append, List.count_nil]
  omega
set_option maxHeartbeats 40000000 in
set_option maxRecDepth 100000 in
theorem c_LW_unit {G : (Nat → Prop) → State → Prop} (hG : gok G) (hGn : gN G) {adK adV : Nat → Nat} (hGs : gSt adK adV G) (hGt : gTh G) (hGc : gNC G) (l : Launch) (hst : l.stackTraces = false) (dC : Nat → ClassId) (dI : Nat → Nat → Nat) (g : Nat → ClassId) (F : Nat) (sz : Nat) (h : Nat) (u : Nat → Nat → Nat) (x : Nat → St) (n : Nat) (ho : Nat) (f : Nat → Int64) (a1 : Int32) {o : Nat × Int32 × St} (hm : m_AM_unit F (x 0) (x 1) a1 = some o) (hk : o.1 = 0 ∨ o.1 = 1 ∨ o.1 = 2) : Met l y_LW_unit (.codeWith y_LW_unit b_LW_unit 4 (some .int) hh_LW_unit :: gw) rm_LW_unit (kq (dC, dI) vwCl (tyv g) G [.ref h, .int a1, .ref ho] sz (wd_O g ho f ++ wd_C g h u x n)) (kqi (dC, dI) vwCl (tyv g) (wd_O g ho f ++ wd_C g h u x n) (nI o.1) (wd_O g ho (ot o.1 o.2.1 f) ++ wd_C g h u (up x 1 (o.2.2)) n) sz) 1 6 (va_A (wd_O g ho f ++ wd_C g h u x n) sz) := by
  refine kmW (Qc := fun sz => kqi (dC, dI) vwCl (tyv g) (wd_O g ho f ++ wd_C g h u x n) (nI o.1) (wd_O g ho (ot o.1 o.2.1 f) ++ wd_C g h u (up x 1 (o.2.2)) n) sz) (cc := b_LW_unit) (maxL := 4) (ret := some .int) (hh := hh_LW_unit) (by decide) rfl (Nat.le_of_ble_eq_true rfl) ?_
  intro p e s m args below meth c Q hQ hx hb hr hts hown hlocks hml htab H locs A hAe hA hP hK hD hS hGA ls hl
  have hl : lv_has ls 4 [(0, .ref h), (1, .int a1), (2, .ref ho)] := hl
  have hts : ∀ w ∈ gw, w.before args s = true := fun w h => hts w (List.mem_cons_of_mem _ h)
  have hown : s.vm.findClass "AlarmMatrixLaw" = some m.cls := hown
  refine lv_aload_n hx hb d_LW_unit_0 rfl (lv_at hl 2 rfl) ?_
  refine lv_iconst (v := (0 : Int32)) hx hb d_LW_unit_1 (by decide) ?_
  refine lv_aload_n hx hb d_LW_unit_2 rfl (lv_at hl 0 rfl) ?_
  refine lv_iload_n hx hb d_LW_unit_3 rfl (lv_at hl 1 rfl) ?_
  have hP : va_P (dC, dI) vwCl ((wd_AM g h (u 0) (x 0) ++ wd_Text g ((u 0) 0) (u 1) (x 1)) ++ (wd_O g ho f ++ wd_Points g ((u 0) 1) (u 2) (x 2) n ++ wd_LA g ((u 0) 2) (u 3) ++ wd_LS g (u 3) (fun j => u (10 + j)) (fun j => x (10 + j)) ++ wd_Events g ((u 0) 3) (u 4) (x 4) ++ wd_Plan g ((u 0) 4) (u 5) (x 5) ++ wd_Zones g ((u 5) 0) (u 6) (x 6) ++ wd_Acts g ((u 5) 1) (u 7) (x 7) ++ wd_Plan g ((u 0) 5) (u 8) (x 8) ++ wd_Zones g ((u 8) 0) (u 9) (x 9) ++ wd_Acts g ((u 8) 1) (u 18) (x 18))) H := hP.perm (pm_LW_unit _ _ _ _ _ _ _ _ _ _ _ _ _)
  have hD : va_D A ((wd_AM g h (u 0) (x 0) ++ wd_Text g ((u 0) 0) (u 1) (x 1)) ++ (wd_O g ho f ++ wd_Points g ((u 0) 1) (u 2) (x 2) n ++ wd_LA g ((u 0) 2) (u 3) ++ wd_LS g (u 3) (fun j => u (10 + j)) (fun j => x (10 + j)) ++ wd_Events g ((u 0) 3) (u 4) (x 4) ++ wd_Plan g ((u 0) 4) (u 5) (x 5) ++ wd_Zones g ((u 5) 0) (u 6) (x 6) ++ wd_Acts g ((u 5) 1) (u 7) (x 7) ++ wd_Plan g ((u 0) 5) (u 8) (x 8) ++ wd_Zones g ((u 8) 0) (u 9) (x 9) ++ wd_Acts g ((u 8) 1) (u 18) (x 18))) := hD.perm (pm_LW_unit _ _ _ _ _ _ _ _ _ _ _ _ _)
  rcases hk with hk | hk | hk
  · have hM := c_AM_unit hG hGn hGs hGt l hst dC dI g F H.size h (u 0) (x 0) (u 1) (x 1) a1 hm
    rw [hk] at hM
    refine kciP (wc := wd_AM g h (u 0) (x 0) ++ wd_Text g ((u 0) 0) (u 1) (x 1)) (wr := wd_O g ho f ++ wd_Points g ((u 0) 1) (u 2) (x 2) n ++ wd_LA g ((u 0) 2) (u 3) ++ wd_LS g (u 3) (fun j => u (10 + j)) (fun j => x (10 + j)) ++ wd_Events g ((u 0) 3) (u 4) (x 4) ++ wd_Plan g ((u 0) 4) (u 5) (x 5) ++ wd_Zones g ((u 5) 0) (u 6) (x 6) ++ wd_Acts g ((u 5) 1) (u 7) (x 7) ++ wd_Plan g ((u 0) 5) (u 8) (x 8) ++ wd_Zones g ((u 8) 0) (u 9) (x 9) ++ wd_Acts g ((u 8) 1) (u 18) (x 18)) (w1 := wd_AM g h (u 0) (x 0) ++ wd_Text g ((u 0) 0) (u 1) (o.2.2)) hP hD hS hA (va_runV (As := [.int a1]) (rest := [.int (0 : Int32), .ref ho]) ⟨hx, hb, hml, hown, hts⟩ hM.met (cwV 1 hts (gdV k3_97 k3_98 k3_99 k1_1 k3_100) rfl rfl rfl (by decide +kernel) ⟨Nat.le_of_ble_eq_true rfl, Nat.le_of_ble_eq_true rfl⟩) (kpVP hG hP hK hD hS hA hGA (ci := 0) (q0 := 0) rfl rfl rfl) rfl rfl hl.1 rfl (lv_room (Nat.le_of_ble_eq_true rfl)) d_LW_unit_4 ⟨Nat.le_of_ble_eq_true rfl, Nat.le_of_ble_eq_true rfl⟩) (fun H locs hP hD hS => ?_)
    have hP : va_P (dC, dI) vwCl (wd_O g ho f ++ wd_C g h u (up x 1 (o.2.2)) n) H := hP.perm (pm_LW_unit (wd_O g ho f) (wd_AM g h (u 0) (x 0)) (wd_Text g ((u 0) 0) (u 1) (o.2.2)) (wd_Points g ((u 0) 1) (u 2) (x 2) n) (wd_LA g ((u 0) 2) (u 3)) (wd_LS g (u 3) (fun j => u (10 + j)) (fun j => x (10 + j))) (wd_Events g ((u 0) 3) (u 4) (x 4)) (wd_Plan g ((u 0) 4) (u 5) (x 5)) (wd_Zones g ((u 5) 0) (u 6) (x 6)) (wd_Acts g ((u 5) 1) (u 7) (x 7)) (wd_Plan g ((u 0) 5) (u 8) (x 8)) (wd_Zones g ((u 8) 0) (u 9) (x 9)) (wd_Acts g ((u 8) 1) (u 18) (x 18))).symm
    have hD : va_D A (wd_O g ho f ++ wd_C g h u (up x 1 (o.2.2)) n) := hD.perm (pm_LW_unit (wd_O g ho f) (wd_AM g h (u 0) (x 0)) (wd_Text g ((u 0) 0) (u 1) (o.2.2)) (wd_Points g ((u 0) 1) (u 2) (x 2) n) (wd_LA g ((u 0) 2) (u 3)) (wd_LS g (u 3) (fun j => u (10 + j)) (fun j => x (10 + j))) (wd_Events g ((u 0) 3) (u 4) (x 4)) (wd_Plan g ((u 0) 4) (u 5) (x 5)) (wd_Zones g ((u 5) 0) (u 6) (x 6)) (wd_Acts g ((u 5) 1) (u 7) (x 7)) (wd_Plan g ((u 0) 5) (u 8) (x 8)) (wd_Zones g ((u 8) 0) (u 9) (x 9)) (wd_Acts g ((u 8) 1) (u 18) (x 18))).symm
    refine lv_i2l (v := (o.2.1).toInt64) hx hb d_LW_unit_7 rfl ?_
    refine va_last (f := f) hx hb hK hP hD hS 0 4 rfl rfl (by unfold vp_in; decide) d_LW_unit_8 (fun H locs hP hD hS => ?_)
    have hP : va_P (dC, dI) vwCl (wd_O g ho (vp_updL f (0 : Int32).toNatClampNeg (o.2.1).toInt64) ++ wd_C g h u (up x 1 (o.2.2)) n) H := hP
    have hD : va_D A (wd_O g ho (vp_updL f (0 : Int32).toNatClampNeg (o.2.1).toInt64) ++ wd_C g h u (up x 1 (o.2.2)) n) := hD
    refine lv_goto (tgt := 18) hx hb d_LW_unit_9 (by decide) ?_
    refine lv_iconst (v := (0 : Int32)) hx hb d_LW_unit_18 (by decide) ?_
    rw [hQ, hk]
    exact kri hx hb hr hlocks hAe hP hK hD hS d_LW_unit_19
  · have hM := c_AM_unit hG hGn hGs hGt l hst dC dI g F H.size h (u 0) (x 0) (u 1) (x 1) a1 hm
    rw [hk] at hM
    refine kcTP (k := 1) (hpc := 12) (wc := wd_AM g h (u 0) (x 0) ++ wd_Text g ((u 0) 0) (u 1) (x 1)) (wr := wd_O g ho f ++ wd_Points g ((u 0) 1) (u 2) (x 2) n ++ wd_LA g ((u 0) 2) (u 3) ++ wd_LS g (u 3) (fun j => u (10 + j)) (fun j => x (10 + j)) ++ wd_Events g ((u 0) 3) (u 4) (x 4) ++ wd_Plan g ((u 0) 4) (u 5) (x 5) ++ wd_Zones g ((u 5) 0) (u 6) (x 6) ++ wd_Acts g ((u 5) 1) (u 7) (x 7) ++ wd_Plan g ((u 0) 5) (u 8) (x 8) ++ wd_Zones g ((u 8) 0) (u 9) (x 9) ++ wd_Acts g ((u 8) 1) (u 18) (x 18)) (w1 := wd_AM g h (u 0) (x 0) ++ wd_Text g ((u 0) 0) (u 1) (o.2.2)) (As := [.int a1]) (rest := [.int (0 : Int32), .ref ho]) ⟨hx, hb, hml, hown, hts⟩ hM (by decide) (cwV 1 hts (gdV k3_97 k3_98 k3_99 k1_1 k3_100) rfl rfl rfl (by decide +kernel) ⟨Nat.le_of_ble_eq_true rfl, Nat.le_of_ble_eq_true rfl⟩) (kpVP hG hP hK hD hS hA hGA (ci := 0) (q0 := 0) rfl rfl rfl) rfl hl.1 (lv_room (Nat.le_of_ble_eq_true rfl)) d_LW_unit_4 ⟨Nat.le_of_ble_eq_true rfl, Nat.le_of_ble_eq_true rfl⟩ hP hD hS hA (fun E hE => ?_) (fun q H locs hP hD hS => ?_)
    · rcases hE with ⟨-, rfl⟩ | ⟨h9, -⟩
      · exact kHand1 htab (by decide) (by decide) (hts _ k3_95) (gHand hGt hGA).1
      · cases h9
    · have hP : va_P (dC, dI) vwCl (wd_O g ho f ++ wd_C g h u (up x 1 (o.2.2)) n) H := hP.perm (pm_LW_unit (wd_O g ho f) (wd_AM g h (u 0) (x 0)) (wd_Text g ((u 0) 0) (u 1) (o.2.2)) (wd_Points g ((u 0) 1) (u 2) (x 2) n) (wd_LA g ((u 0) 2) (u 3)) (wd_LS g (u 3) (fun j => u (10 + j)) (fun j => x (10 + j))) (wd_Events g ((u 0) 3) (u 4) (x 4)) (wd_Plan g ((u 0) 4) (u 5) (x 5)) (wd_Zones g ((u 5) 0) (u 6) (x 6)) (wd_Acts g ((u 5) 1) (u 7) (x 7)) (wd_Plan g ((u 0) 5) (u 8) (x 8)) (wd_Zones g ((u 8) 0) (u 9) (x 9)) (wd_Acts g ((u 8) 1) (u 18) (x 18))).symm
      have hD : va_D A (wd_O g ho f ++ wd_C g h u (up x 1 (o.2.2)) n) := hD.perm (pm_LW_unit (wd_O g ho f) (wd_AM g h (u 0) (x 0)) (wd_Text g ((u 0) 0) (u 1) (o.2.2)) (wd_Points g ((u 0) 1) (u 2) (x 2) n) (wd_LA g ((u 0) 2) (u 3)) (wd_LS g (u 3) (fun j => u (10 + j)) (fun j => x (10 + j))) (wd_Events g ((u 0) 3) (u 4) (x 4)) (wd_Plan g ((u 0) 4) (u 5) (x 5)) (wd_Zones g ((u 5) 0) (u 6) (x 6)) (wd_Acts g ((u 5) 1) (u 7) (x 7)) (wd_Plan g ((u 0) 5) (u 8) (x 8)) (wd_Zones g ((u 8) 0) (u 9) (x 9)) (wd_Acts g ((u 8) 1) (u 18) (x 18))).symm
      refine lv_astore_n (lv' := [(3, .ref q), (0, .ref h), (1, .int a1), (2, .ref ho)]) hx hb d_LW_unit_12 rfl hl (by decide) rfl (fun ls hl => ?_)
      refine lv_iconst (v := (1 : Int32)) hx hb d_LW_unit_13 (by decide) ?_
      rw [hQ, hk]
      exact kri hx hb hr hlocks hAe hP hK hD hS d_LW_unit_14
  · have hM := c_AM_unit hG hGn hGs hGt l hst dC dI g F H.size h (u 0) (x 0) (u 1) (x 1) a1 hm
    rw [hk] at hM
    refine kcTP (k := 2) (hpc := 15) (wc := wd_AM g h (u 0) (x 0) ++ wd_Text g ((u 0) 0) (u 1) (x 1)) (wr := wd_O g ho f ++ wd_Points g ((u 0) 1) (u 2) (x 2) n ++ wd_LA g ((u 0) 2) (u 3) ++ wd_LS g (u 3) (fun j => u (10 + j)) (fun j => x (10 + j)) ++ wd_Events g ((u 0) 3) (u 4) (x 4) ++ wd_Plan g ((u 0) 4) (u 5) (x 5) ++ wd_Zones g ((u 5) 0) (u 6) (x 6) ++ wd_Acts g ((u 5) 1) (u 7) (x 7) ++ wd_Plan g ((u 0) 5) (u 8) (x 8) ++ wd_Zones g ((u 8) 0) (u 9) (x 9) ++ wd_Acts g ((u 8) 1) (u 18) (x 18)) (w1 := wd_AM g h (u 0) (x 0) ++ wd_Text g ((u 0) 0) (u 1) (o.2.2)) (As := [.int a1]) (rest := [.int (0 : Int32), .ref ho]) ⟨hx, hb, hml, hown, hts⟩ hM (by decide) (cwV 1 hts (gdV k3_97 k3_98 k3_99 k1_1 k3_100) rfl rfl rfl (by decide +kernel) ⟨Nat.le_of_ble_eq_true rfl, Nat.le_of_ble_eq_true rfl⟩) (kpVP hG hP hK hD hS hA hGA (ci := 0) (q0 := 0) rfl rfl rfl) rfl hl.1 (lv_room (Nat.le_of_ble_eq_true rfl)) d_LW_unit_4 ⟨Nat.le_of_ble_eq_true rfl, Nat.le_of_ble_eq_true rfl⟩ hP hD hS hA (fun E hE => ?_) (fun q H locs hP hD hS => ?_)
    · rcases hE with ⟨h9, -⟩ | ⟨-, rfl⟩
      · cases h9
      · exact kHand2 htab (by decide) (by decide) (by decide) (by decide) (hts _ k3_95) (gHandN hGc hGA) (hts _ k3_96) (gHand hGt hGA).2
    · have hP : va_P (dC, dI) vwCl (wd_O g ho f ++ wd_C g h u (up x 1 (o.2.2)) n) H := hP.perm (pm_LW_unit (wd_O g ho f) (wd_AM g h (u 0) (x 0)) (wd_Text g ((u 0) 0) (u 1) (o.2.2)) (wd_Points g ((u 0) 1) (u 2) (x 2) n) (wd_LA g ((u 0) 2) (u 3)) (wd_LS g (u 3) (fun j => u (10 + j)) (fun j => x (10 + j))) (wd_Events g ((u 0) 3) (u 4) (x 4)) (wd_Plan g ((u 0) 4) (u 5) (x 5)) (wd_Zones g ((u 5) 0) (u 6) (x 6)) (wd_Acts g ((u 5) 1) (u 7) (x 7)) (wd_Plan g ((u 0) 5) (u 8) (x 8)) (wd_Zones g ((u 8) 0) (u 9) (x 9)) (wd_Acts g ((u 8) 1) (u 18) (x 18))).symm
      have hD : va_D A (wd_O g ho f ++ wd_C g h u (up x 1 (o.2.2)) n) := hD.perm (pm_LW_unit (wd_O g ho f) (wd_AM g h (u 0) (x 0)) (wd_Text g ((u 0) 0) (u 1) (o.2.2)) (wd_Points g ((u 0) 1) (u 2) (x 2) n) (wd_LA g ((u 0) 2) (u 3)) (wd_LS g (u 3) (fun j => u (10 + j)) (fun j => x (10 + j))) (wd_Events g ((u 0) 3) (u 4) (x 4)) (wd_Plan g ((u 0) 4) (u 5) (x 5)) (wd_Zones g ((u 5) 0) (u 6) (x 6)) (wd_Acts g ((u 5) 1) (u 7) (x 7)) (wd_Plan g ((u 0) 5) (u 8) (x 8)) (wd_Zones g ((u 8) 0) (u 9) (x 9)) (wd_Acts g ((u 8) 1) (u 18) (x 18))).symm
      refine lv_astore_n (lv' := [(3, .ref q), (0, .ref h), (1, .int a1), (2, .ref ho)]) hx hb d_LW_unit_15 rfl hl (by decide) rfl (fun ls hl => ?_)
      refine lv_iconst (v := (2 : Int32)) hx hb d_LW_unit_16 (by decide) ?_
      rw [hQ, hk]
      exact kri hx hb hr hlocks hAe hP hK hD hS d_LW_unit_17
abbrev b_LW_say : ByteArray := method_4_code
abbrev y_LW_say : MethodName := ⟨"AlarmMatrixLaw", "say", "(LAlarmMatrix;IIIII[J)I"⟩
theorem d_LW_say_0 : decode b_LW_say 0 = .ok (.aload 6, 2) := by decide +kernel
theorem d_LW_say_2 : decode b_LW_say 2 = .ok (.iconst 0, 1) := by decide +kernel
theorem d_LW_say_3 : decode b_LW_say 3 = .ok (.aload_n 0, 1) := by decide +kernel
theorem d_LW_say_4 : decode b_LW_say 4 = .ok (.iload_n 1, 1) := by decide +kernel
theorem d_LW_say_5 : decode b_LW_say 5 = .ok (.iload_n 2, 1) := by decide +kernel
theorem d_LW_say_6 : decode b_LW_say 6 = .ok (.iload_n 3, 1) := by decide +kernel
theorem d_LW_say_7 : decode b_LW_say 7 = .ok (.iload 4, 2) := by decide +kernel
theorem d_LW_say_9 : decode b_LW_say 9 = .ok (.iload 5, 2) := by decide +kernel
theorem d_LW_say_11 : decode b_LW_say 11 = .ok (.invokevirtual 17, 3) := by decide +kernel
theorem d_LW_say_14 : decode b_LW_say 14 = .ok (.i2l, 1) := by decide +kernel
theorem d_LW_say_15 : decode b_LW_say 15 = .ok (.lastore, 1) := by decide +kernel
theorem d_LW_say_16 : decode b_LW_say 16 = .ok (.goto 11, 3) := by decide +kernel
theorem d_LW_say_19 : decode b_LW_say 19 = .ok (.astore 7, 2) := by decide +kernel
theorem d_LW_say_21 : decode b_LW_say 21 = .ok (.iconst 1, 1) := by decide +kernel
theorem d_LW_say_22 : decode b_LW_say 22 = .ok (.ireturn, 1) := by decide +kernel
theorem d_LW_say_23 : decode b_LW_say 23 = .ok (.astore 7, 2) := by decide +kernel
theorem d_LW_say_25 : decode b_LW_say 25 = .ok (.iconst 2, 1) := by decide +kernel
theorem d_LW_say_26 : decode b_LW_say 26 = .ok (.ireturn, 1) := by decide +kernel
theorem d_LW_say_27 : decode b_LW_say 27 = .ok (.iconst 0, 1) := by decide +kernel
theorem d_LW_say_28 : decode b_LW_say 28 = .ok (.ireturn, 1) := by decide +kernel
abbrev hh_LW_say : List (Nat × Nat × Nat × Nat) := [(0, 16, 19, 13), (0, 16, 23, 15)]
abbrev rm_LW_say : Room := { frames := 8, cells := 1, slots := 6, locals := 181 }
theorem pm_LW_say {α : Type} (B0 B1 B2 B3 B4 B5 B6 B7 B8 B9 B10 B11 B12 : List α) : (B0 ++ (B1 ++ B2 ++ B3 ++ B4 ++ B5 ++ B6 ++ B7 ++ B8 ++ B9 ++ B10 ++ B11 ++ B12)).Perm ((B1 ++ B2) ++ (B0 ++ B3 ++ B4 ++ B5 ++ B6 ++ B7 ++ B8 ++ B9 ++ B10 ++ B11 ++ B12)) := by
  classical
  refine List.perm_iff_count.mpr (fun a => ?_)
  simp only [List.count_append, List.count_nil]
  omega
set_option maxHeartbeats 40000000 in
set_option maxRecDepth 100000 in
theorem c_LW_say {G : (Nat → Prop) → State → Prop} (hG : gok G) (hGn : gN G) {adK adV : Nat → Nat} (hGs : gSt adK adV G) (hGt : gTh G) (hGc : gNC G) (l : Launch) (hst : l.stackTraces = false) (dC : Nat → ClassId) (dI : Nat → Nat → Nat) (g : Nat → ClassId) (F : Nat) (sz : Nat) (h : Nat) (u : Nat → Nat → Nat) (x : Nat → St) (n : Nat) (ho : Nat) (f : Nat → Int64) (a1 : Int32) (a2 : Int32) (a3 : Int32) (a4 : Int32) (a5 : Int32) {o : Nat × Int32 × St} (hm : m_AM_say F (x 0) (x 1) a1 a2 a3 a4 a5 = some o) (hk : o.1 = 0 ∨ o.1 = 1 ∨ o.1 = 2) : Met l y_LW_say (.codeWith y_LW_say b_LW_say 8 (some .int) hh_LW_say :: gw) rm_LW_say (kq (dC, dI) vwCl (tyv g) G [.ref h, .int a1, .int a2, .int a3, .int a4, .int a5, .ref ho] sz (wd_O g ho f ++ wd_C g h u x n)) (kqi (dC, dI) vwCl (tyv g) (wd_O g ho f ++ wd_C g h u x n) (nI o.1) (wd_O g ho (ot o.1 o.2.1 f) ++ wd_C g h u (up x 1 (o.2.2)) n) sz) 1 6 (va_A (wd_O g ho f ++ wd_C g h u x n) sz) := by
  refine kmW (Qc := fun sz => kqi (dC, dI) vwCl (tyv g) (wd_O g ho f ++ wd_C g h u x n) (nI o.1) (wd_O g ho (ot o.1 o.2.1 f) ++ wd_C g h u (up x 1 (o.2.2)) n) sz) (cc := b_LW_say) (maxL := 8) (ret := some .int) (hh := hh_LW_say) (by decide) rfl (Nat.le_of_ble_eq_true rfl) ?_
  intro p e s m args below meth c Q hQ hx hb hr hts hown hlocks hml htab H locs A hAe hA hP hK hD hS hGA ls hl
  have hl : lv_has ls 8 [(0, .ref h), (1, .int a1), (2, .int a2), (3, .int a3), (4, .int a4), (5, .int a5), (6, .ref ho)] := hl
  have hts : ∀ w ∈ gw, w.before args s = true := fun w h => hts w (List.mem_cons_of_mem _ h)
  have hown : s.vm.findClass "AlarmMatrixLaw" = some m.cls := hown
  refine lv_aload hx hb d_LW_say_0 (lv_at hl 6 rfl) ?_
  refine lv_iconst (v := (0 : Int32)) hx hb d_LW_say_2 (by decide) ?_
  refine lv_aload_n hx hb d_LW_say_3 rfl (lv_at hl 0 rfl) ?_
  refine lv_iload_n hx hb d_LW_say_4 rfl (lv_at hl 1 rfl) ?_
  refine lv_iload_n hx hb d_LW_say_5 rfl (lv_at hl 2 rfl) ?_
  refine lv_iload_n hx hb d_LW_say_6 rfl (lv_at hl 3 rfl) ?_
  refine lv_iload hx hb d_LW_say_7 (lv_at hl 4 rfl) ?_
  refine lv_iload hx hb d_LW_say_9 (lv_at hl 5 rfl) ?_
  have hP : va_P (dC, dI) vwCl ((wd_AM g h (u 0) (x 0) ++ wd_Text g ((u 0) 0) (u 1) (x 1)) ++ (wd_O g ho f ++ wd_Points g ((u 0) 1) (u 2) (x 2) n ++ wd_LA g ((u 0) 2) (u 3) ++ wd_LS g (u 3) (fun j => u (10 + j)) (fun j => x (10 + j)) ++ wd_Events g ((u 0) 3) (u 4) (x 4) ++ wd_Plan g ((u 0) 4) (u 5) (x 5) ++ wd_Zones g ((u 5) 0) (u 6) (x 6) ++ wd_Acts g ((u 5) 1) (u 7) (x 7) ++ wd_Plan g ((u 0) 5) (u 8) (x 8) ++ wd_Zones g ((u 8) 0) (u 9) (x 9) ++ wd_Acts g ((u 8) 1) (u 18) (x 18))) H := hP.perm (pm_LW_say _ _ _ _ _ _ _ _ _ _ _ _ _)
  have hD : va_D A ((wd_AM g h (u 0) (x 0) ++ wd_Text g ((u 0) 0) (u 1) (x 1)) ++ (wd_O g ho f ++ wd_Points g ((u 0) 1) (u 2) (x 2) n ++ wd_LA g ((u 0) 2) (u 3) ++ wd_LS g (u 3) (fun j => u (10 + j)) (fun j => x (10 + j)) ++ wd_Events g ((u 0) 3) (u 4) (x 4) ++ wd_Plan g ((u 0) 4) (u 5) (x 5) ++ wd_Zones g ((u 5) 0) (u 6) (x 6) ++ wd_Acts g ((u 5) 1) (u 7) (x 7) ++ wd_Plan g ((u 0) 5) (u 8) (x 8) ++ wd_Zones g ((u 8) 0) (u 9) (x 9) ++ wd_Acts g ((u 8) 1) (u 18) (x 18))) := hD.perm (pm_LW_say _ _ _ _ _ _ _ _ _ _ _ _ _)
  rcases hk with hk | hk | hk
  · have hM := c_AM_say hG hGn hGs hGt l hst dC dI g F H.size h (u 0) (x 0) (u 1) (x 1) a1 a2 a3 a4 a5 hm
    rw [hk] at hM
    refine kciP (wc := wd_AM g h (u 0) (x 0) ++ wd_Text g ((u 0) 0) (u 1) (x 1)) (wr := wd_O g ho f ++ wd_Points g ((u 0) 1) (u 2) (x 2) n ++ wd_LA g ((u 0) 2) (u 3) ++ wd_LS g (u 3) (fun j => u (10 + j)) (fun j => x (10 + j)) ++ wd_Events g ((u 0) 3) (u 4) (x 4) ++ wd_Plan g ((u 0) 4) (u 5) (x 5) ++ wd_Zones g ((u 5) 0) (u 6) (x 6) ++ wd_Acts g ((u 5) 1) (u 7) (x 7) ++ wd_Plan g ((u 0) 5) (u 8) (x 8) ++ wd_Zones g ((u 8) 0) (u 9) (x 9) ++ wd_Acts g ((u 8) 1) (u 18) (x 18)) (w1 := wd_AM g h (u 0) (x 0) ++ wd_Text g ((u 0) 0) (u 1) (o.2.2)) hP hD hS hA (va_runV (As := [.int a1, .int a2, .int a3, .int a4, .int a5]) (rest := [.int (0 : Int32), .ref ho]) ⟨hx, hb, hml, hown, hts⟩ hM.met (cwV 5 hts (gdV k3_192 k3_193 k3_194 k1_1 k3_195) rfl rfl rfl (by decide +kernel) ⟨Nat.le_of_ble_eq_true rfl, Nat.le_of_ble_eq_true rfl⟩) (kpVP hG hP hK hD hS hA hGA (ci := 0) (q0 := 0) rfl rfl rfl) rfl rfl hl.1 rfl (lv_room (Nat.le_of_ble_eq_true rfl)) d_LW_say_11 ⟨Nat.le_of_ble_eq_true rfl, Nat.le_of_ble_eq_true rfl⟩) (fun H locs hP hD hS => ?_)
    have hP : va_P (dC, dI) vwCl (wd_O g ho f ++ wd_C g h u (up x 1 (o.2.2)) n) H := hP.perm (pm_LW_say (wd_O g ho f) (wd_AM g h (u 0) (x 0)) (wd_Text g ((u 0) 0) (u 1) (o.2.2)) (wd_Points g ((u 0) 1) (u 2) (x 2) n) (wd_LA g ((u 0) 2) (u 3)) (wd_LS g (u 3) (fun j => u (10 + j)) (fun j => x (10 + j))) (wd_Events g ((u 0) 3) (u 4) (x 4)) (wd_Plan g ((u 0) 4) (u 5) (x 5)) (wd_Zones g ((u 5) 0) (u 6) (x 6)) (wd_Acts g ((u 5) 1) (u 7) (x 7)) (wd_Plan g ((u 0) 5) (u 8) (x 8)) (wd_Zones g ((u 8) 0) (u 9) (x 9)) (wd_Acts g ((u 8) 1) (u 18) (x 18))).symm
    have hD : va_D A (wd_O g ho f ++ wd_C g h u (up x 1 (o.2.2)) n) := hD.perm (pm_LW_say (wd_O g ho f) (wd_AM g h (u 0) (x 0)) (wd_Text g ((u 0) 0) (u 1) (o.2.2)) (wd_Points g ((u 0) 1) (u 2) (x 2) n) (wd_LA g ((u 0) 2) (u 3)) (wd_LS g (u 3) (fun j => u (10 + j)) (fun j => x (10 + j))) (wd_Events g ((u 0) 3) (u 4) (x 4)) (wd_Plan g ((u 0) 4) (u 5) (x 5)) (wd_Zones g ((u 5) 0) (u 6) (x 6)) (wd_Acts g ((u 5) 1) (u 7) (x 7)) (wd_Plan g ((u 0) 5) (u 8) (x 8)) (wd_Zones g ((u 8) 0) (u 9) (x 9)) (wd_Acts g ((u 8) 1) (u 18) (x 18))).symm
    refine lv_i2l (v := (o.2.1).toInt64) hx hb d_LW_say_14 rfl ?_
    refine va_last (f := f) hx hb hK hP hD hS 0 4 rfl rfl (by unfold vp_in; decide) d_LW_say_15 (fun H locs hP hD hS => ?_)
    have hP : va_P (dC, dI) vwCl (wd_O g ho (vp_updL f (0 : Int32).toNatClampNeg (o.2.1).toInt64) ++ wd_C g h u (up x 1 (o.2.2)) n) H := hP
    have hD : va_D A (wd_O g ho (vp_updL f (0 : Int32).toNatClampNeg (o.2.1).toInt64) ++ wd_C g h u (up x 1 (o.2.2)) n) := hD
    refine lv_goto (tgt := 27) hx hb d_LW_say_16 (by decide) ?_
    refine lv_iconst (v := (0 : Int32)) hx hb d_LW_say_27 (by decide) ?_
    rw [hQ, hk]
    exact kri hx hb hr hlocks hAe hP hK hD hS d_LW_say_28
  · have hM := c_AM_say hG hGn hGs hGt l hst dC dI g F H.size h (u 0) (x 0) (u 1) (x 1) a1 a2 a3 a4 a5 hm
    rw [hk] at hM
    refine kcTP (k := 1) (hpc := 19) (wc := wd_AM g h (u 0) (x 0) ++ wd_Text g ((u 0) 0) (u 1) (x 1)) (wr := wd_O g ho f ++ wd_Points g ((u 0) 1) (u 2) (x 2) n ++ wd_LA g ((u 0) 2) (u 3) ++ wd_LS g (u 3) (fun j => u (10 + j)) (fun j => x (10 + j)) ++ wd_Events g ((u 0) 3) (u 4) (x 4) ++ wd_Plan g ((u 0) 4) (u 5) (x 5) ++ wd_Zones g ((u 5) 0) (u 6) (x 6) ++ wd_Acts g ((u 5) 1) (u 7) (x 7) ++ wd_Plan g ((u 0) 5) (u 8) (x 8) ++ wd_Zones g ((u 8) 0) (u 9) (x 9) ++ wd_Acts g ((u 8) 1) (u 18) (x 18)) (w1 := wd_AM g h (u 0) (x 0) ++ wd_Text g ((u 0) 0) (u 1) (o.2.2)) (As := [.int a1, .int a2, .int a3, .int a4, .int a5]) (rest := [.int (0 : Int32), .ref ho]) ⟨hx, hb, hml, hown, hts⟩ hM (by decide) (cwV 5 hts (gdV k3_192 k3_193 k3_194 k1_1 k3_195) rfl rfl rfl (by decide +kernel) ⟨Nat.le_of_ble_eq_true rfl, Nat.le_of_ble_eq_true rfl⟩) (kpVP hG hP hK hD hS hA hGA (ci := 0) (q0 := 0) rfl rfl rfl) rfl hl.1 (lv_room (Nat.le_of_ble_eq_true rfl)) d_LW_say_11 ⟨Nat.le_of_ble_eq_true rfl, Nat.le_of_ble_eq_true rfl⟩ hP hD hS hA (fun E hE => ?_) (fun q H locs hP hD hS => ?_)
    · rcases hE with ⟨-, rfl⟩ | ⟨h9, -⟩
      · exact kHand1 htab (by decide) (by decide) (hts _ k3_95) (gHand hGt hGA).1
      · cases h9
    · have hP : va_P (dC, dI) vwCl (wd_O g ho f ++ wd_C g h u (up x 1 (o.2.2)) n) H := hP.perm (pm_LW_say (wd_O g ho f) (wd_AM g h (u 0) (x 0)) (wd_Text g ((u 0) 0) (u 1) (o.2.2)) (wd_Points g ((u 0) 1) (u 2) (x 2) n) (wd_LA g ((u 0) 2) (u 3)) (wd_LS g (u 3) (fun j => u (10 + j)) (fun j => x (10 + j))) (wd_Events g ((u 0) 3) (u 4) (x 4)) (wd_Plan g ((u 0) 4) (u 5) (x 5)) (wd_Zones g ((u 5) 0) (u 6) (x 6)) (wd_Acts g ((u 5) 1) (u 7) (x 7)) (wd_Plan g ((u 0) 5) (u 8) (x 8)) (wd_Zones g ((u 8) 0) (u 9) (x 9)) (wd_Acts g ((u 8) 1) (u 18) (x 18))).symm
      have hD : va_D A (wd_O g ho f ++ wd_C g h u (up x 1 (o.2.2)) n) := hD.perm (pm_LW_say (wd_O g ho f) (wd_AM g h (u 0) (x 0)) (wd_Text g ((u 0) 0) (u 1) (o.2.2)) (wd_Points g ((u 0) 1) (u 2) (x 2) n) (wd_LA g ((u 0) 2) (u 3)) (wd_LS g (u 3) (fun j => u (10 + j)) (fun j => x (10 + j))) (wd_Events g ((u 0) 3) (u 4) (x 4)) (wd_Plan g ((u 0) 4) (u 5) (x 5)) (wd_Zones g ((u 5) 0) (u 6) (x 6)) (wd_Acts g ((u 5) 1) (u 7) (x 7)) (wd_Plan g ((u 0) 5) (u 8) (x 8)) (wd_Zones g ((u 8) 0) (u 9) (x 9)) (wd_Acts g ((u 8) 1) (u 18) (x 18))).symm
      refine lv_astore (lv' := [(7, .ref q), (0, .ref h), (1, .int a1), (2, .int a2), (3, .int a3), (4, .int a4), (5, .int a5), (6, .ref ho)]) hx hb d_LW_say_19 hl (by decide) rfl (fun ls hl => ?_)
      refine lv_iconst (v := (1 : Int32)) hx hb d_LW_say_21 (by decide) ?_
      rw [hQ, hk]
      exact kri hx hb hr hlocks hAe hP hK hD hS d_LW_say_22
  · have hM := c_AM_say hG hGn hGs hGt l hst dC dI g F H.size h (u 0) (x 0) (u 1) (x 1) a1 a2 a3 a4 a5 hm
    rw [hk] at hM
    refine kcTP (k := 2) (hpc := 23) (wc := wd_AM g h (u 0) (x 0) ++ wd_Text g ((u 0) 0) (u 1) (x 1)) (wr := wd_O g ho f ++ wd_Points g ((u 0) 1) (u 2) (x 2) n ++ wd_LA g ((u 0) 2) (u 3) ++ wd_LS g (u 3) (fun j => u (10 + j)) (fun j => x (10 + j)) ++ wd_Events g ((u 0) 3) (u 4) (x 4) ++ wd_Plan g ((u 0) 4) (u 5) (x 5) ++ wd_Zones g ((u 5) 0) (u 6) (x 6) ++ wd_Acts g ((u 5) 1) (u 7) (x 7) ++ wd_Plan g ((u 0) 5) (u 8) (x 8) ++ wd_Zones g ((u 8) 0) (u 9) (x 9) ++ wd_Acts g ((u 8) 1) (u 18) (x 18)) (w1 := wd_AM g h (u 0) (x 0) ++ wd_Text g ((u 0) 0) (u 1) (o.2.2)) (As := [.int a1, .int a2, .int a3, .int a4, .int a5]) (rest := [.int (0 : Int32), .ref ho]) ⟨hx, hb, hml, hown, hts⟩ hM (by decide) (cwV 5 hts (gdV k3_192 k3_193 k3_194 k1_1 k3_195) rfl rfl rfl (by decide +kernel) ⟨Nat.le_of_ble_eq_true rfl, Nat.le_of_ble_eq_true rfl⟩) (kpVP hG hP hK hD hS hA hGA (ci := 0) (q0 := 0) rfl rfl rfl) rfl hl.1 (lv_room (Nat.le_of_ble_eq_true rfl)) d_LW_say_11 ⟨Nat.le_of_ble_eq_true rfl, Nat.le_of_ble_eq_true rfl⟩ hP hD hS hA (fun E hE => ?_) (fun q H locs hP hD hS => ?_)
    · rcases hE with ⟨h9, -⟩ | ⟨-, rfl⟩
      · cases h9
      · exact kHand2 htab (by decide) (by decide) (by decide) (by decide) (hts _ k3_95) (gHandN hGc hGA) (hts _ k3_96) (gHand hGt hGA).2
    · have hP : va_P (dC, dI) vwCl (wd_O g ho f ++ wd_C g h u (up x 1 (o.2.2)) n) H := hP.perm (pm_LW_say (wd_O g ho f) (wd_AM g h (u 0) (x 0)) (wd_Text g ((u 0) 0) (u 1) (o.2.2)) (wd_Points g ((u 0) 1) (u 2) (x 2) n) (wd_LA g ((u 0) 2) (u 3)) (wd_LS g (u 3) (fun j => u (10 + j)) (fun j => x (10 + j))) (wd_Events g ((u 0) 3) (u 4) (x 4)) (wd_Plan g ((u 0) 4) (u 5) (x 5)) (wd_Zones g ((u 5) 0) (u 6) (x 6)) (wd_Acts g ((u 5) 1) (u 7) (x 7)) (wd_Plan g ((u 0) 5) (u 8) (x 8)) (wd_Zones g ((u 8) 0) (u 9) (x 9)) (wd_Acts g ((u 8) 1) (u 18) (x 18))).symm
      have hD : va_D A (wd_O g ho f ++ wd_C g h u (up x 1 (o.2.2)) n) := hD.perm (pm_LW_say (wd_O g ho f) (wd_AM g h (u 0) (x 0)) (wd_Text g ((u 0) 0) (u 1) (o.2.2)) (wd_Points g ((u 0) 1) (u 2) (x 2) n) (wd_LA g ((u 0) 2) (u 3)) (wd_LS g (u 3) (fun j => u (10 + j)) (fun j => x (10 + j))) (wd_Events g ((u 0) 3) (u 4) (x 4)) (wd_Plan g ((u 0) 4) (u 5) (x 5)) (wd_Zones g ((u 5) 0) (u 6) (x 6)) (wd_Acts g ((u 5) 1) (u 7) (x 7)) (wd_Plan g ((u 0) 5) (u 8) (x 8)) (wd_Zones g ((u 8) 0) (u 9) (x 9)) (wd_Acts g ((u 8) 1) (u 18) (x 18))).symm
      refine lv_astore (lv' := [(7, .ref q), (0, .ref h), (1, .int a1), (2, .int a2), (3, .int a3), (4, .int a4), (5, .int a5), (6, .ref ho)]) hx hb d_LW_say_23 hl (by decide) rfl (fun ls hl => ?_)
      refine lv_iconst (v := (2 : Int32)) hx hb d_LW_say_25 (by decide) ?_
      rw [hQ, hk]
      exact kri hx hb hr hlocks hAe hP hK hD hS d_LW_say_26
abbrev b_LW_cutText : ByteArray := method_5_code
abbrev y_LW_cutText : MethodName := ⟨"AlarmMatrixLaw", "cutText", "(LAlarmMatrix;I[J)I"⟩
theorem d_LW_cutText_0 : decode b_LW_cutText 0 = .ok (.aload_n 2, 1) := by decide +kernel
theorem d_LW_cutText_1 : decode b_LW_cutText 1 = .ok (.iconst 0, 1) := by decide +kernel
theorem d_LW_cutText_2 : decode b_LW_cutText 2 = .ok (.aload_n 0, 1) := by decide +kernel
theorem d_LW_cutText_3 : decode b_LW_cutText 3 = .ok (.iload_n 1, 1) := by decide +kernel
theorem d_LW_cutText_4 : decode b_LW_cutText 4 = .ok (.invokevirtual 21, 3) := by decide +kernel
theorem d_LW_cutText_7 : decode b_LW_cutText 7 = .ok (.i2l, 1) := by decide +kernel
theorem d_LW_cutText_8 : decode b_LW_cutText 8 = .ok (.lastore, 1) := by decide +kernel
theorem d_LW_cutText_9 : decode b_LW_cutText 9 = .ok (.goto 6, 3) := by decide +kernel
theorem d_LW_cutText_12 : decode b_LW_cutText 12 = .ok (.astore_n 3, 1) := by decide +kernel
theorem d_LW_cutText_13 : decode b_LW_cutText 13 = .ok (.iconst 1, 1) := by decide +kernel
theorem d_LW_cutText_14 : decode b_LW_cutText 14 = .ok (.ireturn, 1) := by decide +kernel
theorem d_LW_cutText_15 : decode b_LW_cutText 15 = .ok (.iconst 0, 1) := by decide +kernel
theorem d_LW_cutText_16 : decode b_LW_cutText 16 = .ok (.ireturn, 1) := by decide +kernel
abbrev hh_LW_cutText : List (Nat × Nat × Nat × Nat) := [(0, 9, 12, 13)]
abbrev rm_LW_cutText : Room := { frames := 7, cells := 1, slots := 6, locals := 111 }
theorem pm_LW_cutText {α : Type} (B0 B1 B2 B3 B4 B5 B6 B7 B8 B9 B10 B11 B12 : List α) : (B0 ++ (B1 ++ B2 ++ B3 ++ B4 ++ B5 ++ B6 ++ B7 ++ B8 ++ B9 ++ B10 ++ B11 ++ B12)).Perm ((B1 ++ B2) ++ (B0 ++ B3 ++ B4 ++ B5 ++ B6 ++ B7 ++ B8 ++ B9 ++ B10 ++ B11 ++ B12)) := by
  classical
  refine List.perm_iff_count.mpr (fun a => ?_)
  simp only [List.count_append, List.count_nil]
  omega
set_option maxHeartbeats 40000000 in
set_option maxRecDepth 100000 in
theorem c_LW_cutText {G : (Nat → Prop) → State → Prop} (hG : gok G) (hGn : gN G) {adK adV : Nat → Nat} (hGs : gSt adK adV G) (hGt : gTh G) (hGc : gNC G) (l : Launch) (hst : l.stackTraces = false) (dC : Nat → ClassId) (dI : Nat → Nat → Nat) (g : Nat → ClassId) (F : Nat) (sz : Nat) (h : Nat) (u : Nat → Nat → Nat) (x : Nat → St) (n : Nat) (ho : Nat) (f : Nat → Int64) (a1 : Int32) {o : Nat × Int32 × St} (hm : m_AM_cutText F (x 0) (x 1) a1 = some o) (hk : o.1 = 0 ∨ o.1 = 1) : Met l y_LW_cutText (.codeWith y_LW_cutText b_LW_cutText 4 (some .int) hh_LW_cutText :: gw) rm_LW_cutText (kq (dC, dI) vwCl (tyv g) G [.ref h, .int a1, .ref ho] sz (wd_O g ho f ++ wd_C g h u x n)) (kqi (dC, dI) vwCl (tyv g) (wd_O g ho f ++ wd_C g h u x n) (nI o.1) (wd_O g ho (ot o.1 o.2.1 f) ++ wd_C g h u (up x 1 (o.2.2)) n) sz) 1 6 (va_A (wd_O g ho f ++ wd_C g h u x n) sz) := by
  refine kmW (Qc := fun sz => kqi (dC, dI) vwCl (tyv g) (wd_O g ho f ++ wd_C g h u x n) (nI o.1) (wd_O g ho (ot o.1 o.2.1 f) ++ wd_C g h u (up x 1 (o.2.2)) n) sz) (cc := b_LW_cutText) (maxL := 4) (ret := some .int) (hh := hh_LW_cutText) (by decide) rfl (Nat.le_of_ble_eq_true rfl) ?_
  intro p e s m args below meth c Q hQ hx hb hr hts hown hlocks hml htab H locs A hAe hA hP hK hD hS hGA ls hl
  have hl : lv_has ls 4 [(0, .ref h), (1, .int a1), (2, .ref ho)] := hl
  have hts : ∀ w ∈ gw, w.before args s = true := fun w h => hts w (List.mem_cons_of_mem _ h)
  have hown : s.vm.findClass "AlarmMatrixLaw" = some m.cls := hown
  refine lv_aload_n hx hb d_LW_cutText_0 rfl (lv_at hl 2 rfl) ?_
  refine lv_iconst (v := (0 : Int32)) hx hb d_LW_cutText_1 (by decide) ?_
  refine lv_aload_n hx hb d_LW_cutText_2 rfl (lv_at hl 0 rfl) ?_
  refine lv_iload_n hx hb d_LW_cutText_3 rfl (lv_at hl 1 rfl) ?_
  have hP : va_P (dC, dI) vwCl ((wd_AM g h (u 0) (x 0) ++ wd_Text g ((u 0) 0) (u 1) (x 1)) ++ (wd_O g ho f ++ wd_Points g ((u 0) 1) (u 2) (x 2) n ++ wd_LA g ((u 0) 2) (u 3) ++ wd_LS g (u 3) (fun j => u (10 + j)) (fun j => x (10 + j)) ++ wd_Events g ((u 0) 3) (u 4) (x 4) ++ wd_Plan g ((u 0) 4) (u 5) (x 5) ++ wd_Zones g ((u 5) 0) (u 6) (x 6) ++ wd_Acts g ((u 5) 1) (u 7) (x 7) ++ wd_Plan g ((u 0) 5) (u 8) (x 8) ++ wd_Zones g ((u 8) 0) (u 9) (x 9) ++ wd_Acts g ((u 8) 1) (u 18) (x 18))) H := hP.perm (pm_LW_cutText _ _ _ _ _ _ _ _ _ _ _ _ _)
  have hD : va_D A ((wd_AM g h (u 0) (x 0) ++ wd_Text g ((u 0) 0) (u 1) (x 1)) ++ (wd_O g ho f ++ wd_Points g ((u 0) 1) (u 2) (x 2) n ++ wd_LA g ((u 0) 2) (u 3) ++ wd_LS g (u 3) (fun j => u (10 + j)) (fun j => x (10 + j)) ++ wd_Events g ((u 0) 3) (u 4) (x 4) ++ wd_Plan g ((u 0) 4) (u 5) (x 5) ++ wd_Zones g ((u 5) 0) (u 6) (x 6) ++ wd_Acts g ((u 5) 1) (u 7) (x 7) ++ wd_Plan g ((u 0) 5) (u 8) (x 8) ++ wd_Zones g ((u 8) 0) (u 9) (x 9) ++ wd_Acts g ((u 8) 1) (u 18) (x 18))) := hD.perm (pm_LW_cutText _ _ _ _ _ _ _ _ _ _ _ _ _)
  rcases hk with hk | hk
  · have hM := c_AM_cutText hG hGn hGs hGt l hst dC dI g F H.size h (u 0) (x 0) (u 1) (x 1) a1 hm
    rw [hk] at hM
    refine kciP (wc := wd_AM g h (u 0) (x 0) ++ wd_Text g ((u 0) 0) (u 1) (x 1)) (wr := wd_O g ho f ++ wd_Points g ((u 0) 1) (u 2) (x 2) n ++ wd_LA g ((u 0) 2) (u 3) ++ wd_LS g (u 3) (fun j => u (10 + j)) (fun j => x (10 + j)) ++ wd_Events g ((u 0) 3) (u 4) (x 4) ++ wd_Plan g ((u 0) 4) (u 5) (x 5) ++ wd_Zones g ((u 5) 0) (u 6) (x 6) ++ wd_Acts g ((u 5) 1) (u 7) (x 7) ++ wd_Plan g ((u 0) 5) (u 8) (x 8) ++ wd_Zones g ((u 8) 0) (u 9) (x 9) ++ wd_Acts g ((u 8) 1) (u 18) (x 18)) (w1 := wd_AM g h (u 0) (x 0) ++ wd_Text g ((u 0) 0) (u 1) (o.2.2)) hP hD hS hA (va_runV (As := [.int a1]) (rest := [.int (0 : Int32), .ref ho]) ⟨hx, hb, hml, hown, hts⟩ hM.met (cwV 1 hts (gdV k4_4 k4_5 k4_6 k1_1 k4_7) rfl rfl rfl (by decide +kernel) ⟨Nat.le_of_ble_eq_true rfl, Nat.le_of_ble_eq_true rfl⟩) (kpVP hG hP hK hD hS hA hGA (ci := 0) (q0 := 0) rfl rfl rfl) rfl rfl hl.1 rfl (lv_room (Nat.le_of_ble_eq_true rfl)) d_LW_cutText_4 ⟨Nat.le_of_ble_eq_true rfl, Nat.le_of_ble_eq_true rfl⟩) (fun H locs hP hD hS => ?_)
    have hP : va_P (dC, dI) vwCl (wd_O g ho f ++ wd_C g h u (up x 1 (o.2.2)) n) H := hP.perm (pm_LW_cutText (wd_O g ho f) (wd_AM g h (u 0) (x 0)) (wd_Text g ((u 0) 0) (u 1) (o.2.2)) (wd_Points g ((u 0) 1) (u 2) (x 2) n) (wd_LA g ((u 0) 2) (u 3)) (wd_LS g (u 3) (fun j => u (10 + j)) (fun j => x (10 + j))) (wd_Events g ((u 0) 3) (u 4) (x 4)) (wd_Plan g ((u 0) 4) (u 5) (x 5)) (wd_Zones g ((u 5) 0) (u 6) (x 6)) (wd_Acts g ((u 5) 1) (u 7) (x 7)) (wd_Plan g ((u 0) 5) (u 8) (x 8)) (wd_Zones g ((u 8) 0) (u 9) (x 9)) (wd_Acts g ((u 8) 1) (u 18) (x 18))).symm
    have hD : va_D A (wd_O g ho f ++ wd_C g h u (up x 1 (o.2.2)) n) := hD.perm (pm_LW_cutText (wd_O g ho f) (wd_AM g h (u 0) (x 0)) (wd_Text g ((u 0) 0) (u 1) (o.2.2)) (wd_Points g ((u 0) 1) (u 2) (x 2) n) (wd_LA g ((u 0) 2) (u 3)) (wd_LS g (u 3) (fun j => u (10 + j)) (fun j => x (10 + j))) (wd_Events g ((u 0) 3) (u 4) (x 4)) (wd_Plan g ((u 0) 4) (u 5) (x 5)) (wd_Zones g ((u 5) 0) (u 6) (x 6)) (wd_Acts g ((u 5) 1) (u 7) (x 7)) (wd_Plan g ((u 0) 5) (u 8) (x 8)) (wd_Zones g ((u 8) 0) (u 9) (x 9)) (wd_Acts g ((u 8) 1) (u 18) (x 18))).symm
    refine lv_i2l (v := (o.2.1).toInt64) hx hb d_LW_cutText_7 rfl ?_
    refine va_last (f := f) hx hb hK hP hD hS 0 4 rfl rfl (by unfold vp_in; decide) d_LW_cutText_8 (fun H locs hP hD hS => ?_)
    have hP : va_P (dC, dI) vwCl (wd_O g ho (vp_updL f (0 : Int32).toNatClampNeg (o.2.1).toInt64) ++ wd_C g h u (up x 1 (o.2.2)) n) H := hP
    have hD : va_D A (wd_O g ho (vp_updL f (0 : Int32).toNatClampNeg (o.2.1).toInt64) ++ wd_C g h u (up x 1 (o.2.2)) n) := hD
    refine lv_goto (tgt := 15) hx hb d_LW_cutText_9 (by decide) ?_
    refine lv_iconst (v := (0 : Int32)) hx hb d_LW_cutText_15 (by decide) ?_
    rw [hQ, hk]
    exact kri hx hb hr hlocks hAe hP hK hD hS d_LW_cutText_16
  · have hM := c_AM_cutText hG hGn hGs hGt l hst dC dI g F H.size h (u 0) (x 0) (u 1) (x 1) a1 hm
    rw [hk] at hM
    refine kcTP (k := 1) (hpc := 12) (wc := wd_AM g h (u 0) (x 0) ++ wd_Text g ((u 0) 0) (u 1) (x 1)) (wr := wd_O g ho f ++ wd_Points g ((u 0) 1) (u 2) (x 2) n ++ wd_LA g ((u 0) 2) (u 3) ++ wd_LS g (u 3) (fun j => u (10 + j)) (fun j => x (10 + j)) ++ wd_Events g ((u 0) 3) (u 4) (x 4) ++ wd_Plan g ((u 0) 4) (u 5) (x 5) ++ wd_Zones g ((u 5) 0) (u 6) (x 6) ++ wd_Acts g ((u 5) 1) (u 7) (x 7) ++ wd_Plan g ((u 0) 5) (u 8) (x 8) ++ wd_Zones g ((u 8) 0) (u 9) (x 9) ++ wd_Acts g ((u 8) 1) (u 18) (x 18)) (w1 := wd_AM g h (u 0) (x 0) ++ wd_Text g ((u 0) 0) (u 1) (o.2.2)) (As := [.int a1]) (rest := [.int (0 : Int32), .ref ho]) ⟨hx, hb, hml, hown, hts⟩ hM (by decide) (cwV 1 hts (gdV k4_4 k4_5 k4_6 k1_1 k4_7) rfl rfl rfl (by decide +kernel) ⟨Nat.le_of_ble_eq_true rfl, Nat.le_of_ble_eq_true rfl⟩) (kpVP hG hP hK hD hS hA hGA (ci := 0) (q0 := 0) rfl rfl rfl) rfl hl.1 (lv_room (Nat.le_of_ble_eq_true rfl)) d_LW_cutText_4 ⟨Nat.le_of_ble_eq_true rfl, Nat.le_of_ble_eq_true rfl⟩ hP hD hS hA (fun E hE => ?_) (fun q H locs hP hD hS => ?_)
    · rcases hE with ⟨-, rfl⟩ | ⟨h9, -⟩
      · exact kHand1 htab (by decide) (by decide) (hts _ k3_95) (gHand hGt hGA).1
      · cases h9
    · have hP : va_P (dC, dI) vwCl (wd_O g ho f ++ wd_C g h u (up x 1 (o.2.2)) n) H := hP.perm (pm_LW_cutText (wd_O g ho f) (wd_AM g h (u 0) (x 0)) (wd_Text g ((u 0) 0) (u 1) (o.2.2)) (wd_Points g ((u 0) 1) (u 2) (x 2) n) (wd_LA g ((u 0) 2) (u 3)) (wd_LS g (u 3) (fun j => u (10 + j)) (fun j => x (10 + j))) (wd_Events g ((u 0) 3) (u 4) (x 4)) (wd_Plan g ((u 0) 4) (u 5) (x 5)) (wd_Zones g ((u 5) 0) (u 6) (x 6)) (wd_Acts g ((u 5) 1) (u 7) (x 7)) (wd_Plan g ((u 0) 5) (u 8) (x 8)) (wd_Zones g ((u 8) 0) (u 9) (x 9)) (wd_Acts g ((u 8) 1) (u 18) (x 18))).symm
      have hD : va_D A (wd_O g ho f ++ wd_C g h u (up x 1 (o.2.2)) n) := hD.perm (pm_LW_cutText (wd_O g ho f) (wd_AM g h (u 0) (x 0)) (wd_Text g ((u 0) 0) (u 1) (o.2.2)) (wd_Points g ((u 0) 1) (u 2) (x 2) n) (wd_LA g ((u 0) 2) (u 3)) (wd_LS g (u 3) (fun j => u (10 + j)) (fun j => x (10 + j))) (wd_Events g ((u 0) 3) (u 4) (x 4)) (wd_Plan g ((u 0) 4) (u 5) (x 5)) (wd_Zones g ((u 5) 0) (u 6) (x 6)) (wd_Acts g ((u 5) 1) (u 7) (x 7)) (wd_Plan g ((u 0) 5) (u 8) (x 8)) (wd_Zones g ((u 8) 0) (u 9) (x 9)) (wd_Acts g ((u 8) 1) (u 18) (x 18))).symm
      refine lv_astore_n (lv' := [(3, .ref q), (0, .ref h), (1, .int a1), (2, .ref ho)]) hx hb d_LW_cutText_12 rfl hl (by decide) rfl (fun ls hl => ?_)
      refine lv_iconst (v := (1 : Int32)) hx hb d_LW_cutText_13 (by decide) ?_
      rw [hQ, hk]
      exact kri hx hb hr hlocks hAe hP hK hD hS d_LW_cutText_14
abbrev b_LW_signal : ByteArray := method_6_code
abbrev y_LW_signal : MethodName := ⟨"AlarmMatrixLaw", "signal", "(LAlarmMatrix;II[J)I"⟩
theorem d_LW_signal_0 : decode b_LW_signal 0 = .ok (.aload_n 3, 1) := by decide +kernel
theorem d_LW_signal_1 : decode b_LW_signal 1 = .ok (.iconst 0, 1) := by decide +kernel
theorem d_LW_signal_2 : decode b_LW_signal 2 = .ok (.aload_n 0, 1) := by decide +kernel
theorem d_LW_signal_3 : decode b_LW_signal 3 = .ok (.iload_n 1, 1) := by decide +kernel
theorem d_LW_signal_4 : decode b_LW_signal 4 = .ok (.iload_n 2, 1) := by decide +kernel
theorem d_LW_signal_5 : decode b_LW_signal 5 = .ok (.invokevirtual 24, 3) := by decide +kernel
theorem d_LW_signal_8 : decode b_LW_signal 8 = .ok (.i2l, 1) := by decide +kernel
theorem d_LW_signal_9 : decode b_LW_signal 9 = .ok (.lastore, 1) := by decide +kernel
theorem d_LW_signal_10 : decode b_LW_signal 10 = .ok (.goto 7, 3) := by decide +kernel
theorem d_LW_signal_13 : decode b_LW_signal 13 = .ok (.astore 4, 2) := by decide +kernel
theorem d_LW_signal_15 : decode b_LW_signal 15 = .ok (.iconst 1, 1) := by decide +kernel
theorem d_LW_signal_16 : decode b_LW_signal 16 = .ok (.ireturn, 1) := by decide +kernel
theorem d_LW_signal_17 : decode b_LW_signal 17 = .ok (.iconst 0, 1) := by decide +kernel
theorem d_LW_signal_18 : decode b_LW_signal 18 = .ok (.ireturn, 1) := by decide +kernel
abbrev hh_LW_signal : List (Nat × Nat × Nat × Nat) := [(0, 10, 13, 13)]
abbrev rm_LW_signal : Room := { frames := 7, cells := 1, slots := 6, locals := 112 }
theorem pm_LW_signal {α : Type} (B0 B1 B2 B3 B4 B5 B6 B7 B8 B9 B10 B11 B12 : List α) : (B0 ++ (B1 ++ B2 ++ B3 ++ B4 ++ B5 ++ B6 ++ B7 ++ B8 ++ B9 ++ B10 ++ B11 ++ B12)).Perm ((B1 ++ B3) ++ (B0 ++ B2 ++ B4 ++ B5 ++ B6 ++ B7 ++ B8 ++ B9 ++ B10 ++ B11 ++ B12)) := by
  classical
  refine List.perm_iff_count.mpr (fun a => ?_)
  simp only [List.count_append, List.count_nil]
  omega
set_option maxHeartbeats 40000000 in
set_option maxRecDepth 100000 in
theorem c_LW_signal {G : (Nat → Prop) → State → Prop} (hG : gok G) (hGn : gN G) {adK adV : Nat → Nat} (hGs : gSt adK adV G) (hGt : gTh G) (hGc : gNC G) (l : Launch) (hst : l.stackTraces = false) (dC : Nat → ClassId) (dI : Nat → Nat → Nat) (g : Nat → ClassId) (F : Nat) (sz : Nat) (h : Nat) (u : Nat → Nat → Nat) (x : Nat → St) (n : Nat) (ho : Nat) (f : Nat → Int64) (a1 : Int32) (a2 : Int32) {o : Nat × Int32 × St} (hm : m_AM_signal F (x 0) (x 2) n a1 a2 = some o) (hk : o.1 = 0 ∨ o.1 = 1) : Met l y_LW_signal (.codeWith y_LW_signal b_LW_signal 5 (some .int) hh_LW_signal :: gw) rm_LW_signal (kq (dC, dI) vwCl (tyv g) G [.ref h, .int a1, .int a2, .ref ho] sz (wd_O g ho f ++ wd_C g h u x n)) (kqi (dC, dI) vwCl (tyv g) (wd_O g ho f ++ wd_C g h u x n) (nI o.1) (wd_O g ho (ot o.1 o.2.1 f) ++ wd_C g h u (up x 2 (o.2.2)) n) sz) 1 6 (va_A (wd_O g ho f ++ wd_C g h u x n) sz) := by
  refine kmW (Qc := fun sz => kqi (dC, dI) vwCl (tyv g) (wd_O g ho f ++ wd_C g h u x n) (nI o.1) (wd_O g ho (ot o.1 o.2.1 f) ++ wd_C g h u (up x 2 (o.2.2)) n) sz) (cc := b_LW_signal) (maxL := 5) (ret := some .int) (hh := hh_LW_signal) (by decide) rfl (Nat.le_of_ble_eq_true rfl) ?_
  intro p e s m args below meth c Q hQ hx hb hr hts hown hlocks hml htab H locs A hAe hA hP hK hD hS hGA ls hl
  have hl : lv_has ls 5 [(0, .ref h), (1, .int a1), (2, .int a2), (3, .ref ho)] := hl
  have hts : ∀ w ∈ gw, w.before args s = true := fun w h => hts w (List.mem_cons_of_mem _ h)
  have hown : s.vm.findClass "AlarmMatrixLaw" = some m.cls := hown
  refine lv_aload_n hx hb d_LW_signal_0 rfl (lv_at hl 3 rfl) ?_
  refine lv_iconst (v := (0 : Int32)) hx hb d_LW_signal_1 (by decide) ?_
  refine lv_aload_n hx hb d_LW_signal_2 rfl (lv_at hl 0 rfl) ?_
  refine lv_iload_n hx hb d_LW_signal_3 rfl (lv_at hl 1 rfl) ?_
  refine lv_iload_n hx hb d_LW_signal_4 rfl (lv_at hl 2 rfl) ?_
  have hP : va_P (dC, dI) vwCl ((wd_AM g h (u 0) (x 0) ++ wd_Points g ((u 0) 1) (u 2) (x 2) n) ++ (wd_O g ho f ++ wd_Text g ((u 0) 0) (u 1) (x 1) ++ wd_LA g ((u 0) 2) (u 3) ++ wd_LS g (u 3) (fun j => u (10 + j)) (fun j => x (10 + j)) ++ wd_Events g ((u 0) 3) (u 4) (x 4) ++ wd_Plan g ((u 0) 4) (u 5) (x 5) ++ wd_Zones g ((u 5) 0) (u 6) (x 6) ++ wd_Acts g ((u 5) 1) (u 7) (x 7) ++ wd_Plan g ((u 0) 5) (u 8) (x 8) ++ wd_Zones g ((u 8) 0) (u 9) (x 9) ++ wd_Acts g ((u 8) 1) (u 18) (x 18))) H := hP.perm (pm_LW_signal _ _ _ _ _ _ _ _ _ _ _ _ _)
  have hD : va_D A ((wd_AM g h (u 0) (x 0) ++ wd_Points g ((u 0) 1) (u 2) (x 2) n) ++ (wd_O g ho f ++ wd_Text g ((u 0) 0) (u 1) (x 1) ++ wd_LA g ((u 0) 2) (u 3) ++ wd_LS g (u 3) (fun j => u (10 + j)) (fun j => x (10 + j)) ++ wd_Events g ((u 0) 3) (u 4) (x 4) ++ wd_Plan g ((u 0) 4) (u 5) (x 5) ++ wd_Zones g ((u 5) 0) (u 6) (x 6) ++ wd_Acts g ((u 5) 1) (u 7) (x 7) ++ wd_Plan g ((u 0) 5) (u 8) (x 8) ++ wd_Zones g ((u 8) 0) (u 9) (x 9) ++ wd_Acts g ((u 8) 1) (u 18) (x 18))) := hD.perm (pm_LW_signal _ _ _ _ _ _ _ _ _ _ _ _ _)
  rcases hk with hk | hk
  · have hM := c_AM_signal hG hGn hGs hGt l hst dC dI g F H.size h (u 0) (x 0) (u 2) (x 2) n a1 a2 hm
    rw [hk] at hM
    refine kciP (wc := wd_AM g h (u 0) (x 0) ++ wd_Points g ((u 0) 1) (u 2) (x 2) n) (wr := wd_O g ho f ++ wd_Text g ((u 0) 0) (u 1) (x 1) ++ wd_LA g ((u 0) 2) (u 3) ++ wd_LS g (u 3) (fun j => u (10 + j)) (fun j => x (10 + j)) ++ wd_Events g ((u 0) 3) (u 4) (x 4) ++ wd_Plan g ((u 0) 4) (u 5) (x 5) ++ wd_Zones g ((u 5) 0) (u 6) (x 6) ++ wd_Acts g ((u 5) 1) (u 7) (x 7) ++ wd_Plan g ((u 0) 5) (u 8) (x 8) ++ wd_Zones g ((u 8) 0) (u 9) (x 9) ++ wd_Acts g ((u 8) 1) (u 18) (x 18)) (w1 := wd_AM g h (u 0) (x 0) ++ wd_Points g ((u 0) 1) (u 2) (o.2.2) n) hP hD hS hA (va_runV (As := [.int a1, .int a2]) (rest := [.int (0 : Int32), .ref ho]) ⟨hx, hb, hml, hown, hts⟩ hM.met (cwV 2 hts (gdV k4_12 k4_13 k4_14 k1_1 k4_15) rfl rfl rfl (by decide +kernel) ⟨Nat.le_of_ble_eq_true rfl, Nat.le_of_ble_eq_true rfl⟩) (kpVP hG hP hK hD hS hA hGA (ci := 0) (q0 := 0) rfl rfl rfl) rfl rfl hl.1 rfl (lv_room (Nat.le_of_ble_eq_true rfl)) d_LW_signal_5 ⟨Nat.le_of_ble_eq_true rfl, Nat.le_of_ble_eq_true rfl⟩) (fun H locs hP hD hS => ?_)
    have hP : va_P (dC, dI) vwCl (wd_O g ho f ++ wd_C g h u (up x 2 (o.2.2)) n) H := hP.perm (pm_LW_signal (wd_O g ho f) (wd_AM g h (u 0) (x 0)) (wd_Text g ((u 0) 0) (u 1) (x 1)) (wd_Points g ((u 0) 1) (u 2) (o.2.2) n) (wd_LA g ((u 0) 2) (u 3)) (wd_LS g (u 3) (fun j => u (10 + j)) (fun j => x (10 + j))) (wd_Events g ((u 0) 3) (u 4) (x 4)) (wd_Plan g ((u 0) 4) (u 5) (x 5)) (wd_Zones g ((u 5) 0) (u 6) (x 6)) (wd_Acts g ((u 5) 1) (u 7) (x 7)) (wd_Plan g ((u 0) 5) (u 8) (x 8)) (wd_Zones g ((u 8) 0) (u 9) (x 9)) (wd_Acts g ((u 8) 1) (u 18) (x 18))).symm
    have hD : va_D A (wd_O g ho f ++ wd_C g h u (up x 2 (o.2.2)) n) := hD.perm (pm_LW_signal (wd_O g ho f) (wd_AM g h (u 0) (x 0)) (wd_Text g ((u 0) 0) (u 1) (x 1)) (wd_Points g ((u 0) 1) (u 2) (o.2.2) n) (wd_LA g ((u 0) 2) (u 3)) (wd_LS g (u 3) (fun j => u (10 + j)) (fun j => x (10 + j))) (wd_Events g ((u 0) 3) (u 4) (x 4)) (wd_Plan g ((u 0) 4) (u 5) (x 5)) (wd_Zones g ((u 5) 0) (u 6) (x 6)) (wd_Acts g ((u 5) 1) (u 7) (x 7)) (wd_Plan g ((u 0) 5) (u 8) (x 8)) (wd_Zones g ((u 8) 0) (u 9) (x 9)) (wd_Acts g ((u 8) 1) (u 18) (x 18))).symm
    refine lv_i2l (v := (o.2.1).toInt64) hx hb d_LW_signal_8 rfl ?_
    refine va_last (f := f) hx hb hK hP hD hS 0 4 rfl rfl (by unfold vp_in; decide) d_LW_signal_9 (fun H locs hP hD hS => ?_)
    have hP : va_P (dC, dI) vwCl (wd_O g ho (vp_updL f (0 : Int32).toNatClampNeg (o.2.1).toInt64) ++ wd_C g h u (up x 2 (o.2.2)) n) H := hP
    have hD : va_D A (wd_O g ho (vp_updL f (0 : Int32).toNatClampNeg (o.2.1).toInt64) ++ wd_C g h u (up x 2 (o.2.2)) n) := hD
    refine lv_goto (tgt := 17) hx hb d_LW_signal_10 (by decide) ?_
    refine lv_iconst (v := (0 : Int32)) hx hb d_LW_signal_17 (by decide) ?_
    rw [hQ, hk]
    exact kri hx hb hr hlocks hAe hP hK hD hS d_LW_signal_18
  · have hM := c_AM_signal hG hGn hGs hGt l hst dC dI g F H.size h (u 0) (x 0) (u 2) (x 2) n a1 a2 hm
    rw [hk] at hM
    refine kcTP (k := 1) (hpc := 13) (wc := wd_AM g h (u 0) (x 0) ++ wd_Points g ((u 0) 1) (u 2) (x 2) n) (wr := wd_O g ho f ++ wd_Text g ((u 0) 0) (u 1) (x 1) ++ wd_LA g ((u 0) 2) (u 3) ++ wd_LS g (u 3) (fun j => u (10 + j)) (fun j => x (10 + j)) ++ wd_Events g ((u 0) 3) (u 4) (x 4) ++ wd_Plan g ((u 0) 4) (u 5) (x 5) ++ wd_Zones g ((u 5) 0) (u 6) (x 6) ++ wd_Acts g ((u 5) 1) (u 7) (x 7) ++ wd_Plan g ((u 0) 5) (u 8) (x 8) ++ wd_Zones g ((u 8) 0) (u 9) (x 9) ++ wd_Acts g ((u 8) 1) (u 18) (x 18)) (w1 := wd_AM g h (u 0) (x 0) ++ wd_Points g ((u 0) 1) (u 2) (o.2.2) n) (As := [.int a1, .int a2]) (rest := [.int (0 : Int32), .ref ho]) ⟨hx, hb, hml, hown, hts⟩ hM (by decide) (cwV 2 hts (gdV k4_12 k4_13 k4_14 k1_1 k4_15) rfl rfl rfl (by decide +kernel) ⟨Nat.le_of_ble_eq_true rfl, Nat.le_of_ble_eq_true rfl⟩) (kpVP hG hP hK hD hS hA hGA (ci := 0) (q0 := 0) rfl rfl rfl) rfl hl.1 (lv_room (Nat.le_of_ble_eq_true rfl)) d_LW_signal_5 ⟨Nat.le_of_ble_eq_true rfl, Nat.le_of_ble_eq_true rfl⟩ hP hD hS hA (fun E hE => ?_) (fun q H locs hP hD hS => ?_)
    · rcases hE with ⟨-, rfl⟩ | ⟨h9, -⟩
      · exact kHand1 htab (by decide) (by decide) (hts _ k3_95) (gHand hGt hGA).1
      · cases h9
    · have hP : va_P (dC, dI) vwCl (wd_O g ho f ++ wd_C g h u (up x 2 (o.2.2)) n) H := hP.perm (pm_LW_signal (wd_O g ho f) (wd_AM g h (u 0) (x 0)) (wd_Text g ((u 0) 0) (u 1) (x 1)) (wd_Points g ((u 0) 1) (u 2) (o.2.2) n) (wd_LA g ((u 0) 2) (u 3)) (wd_LS g (u 3) (fun j => u (10 + j)) (fun j => x (10 + j))) (wd_Events g ((u 0) 3) (u 4) (x 4)) (wd_Plan g ((u 0) 4) (u 5) (x 5)) (wd_Zones g ((u 5) 0) (u 6) (x 6)) (wd_Acts g ((u 5) 1) (u 7) (x 7)) (wd_Plan g ((u 0) 5) (u 8) (x 8)) (wd_Zones g ((u 8) 0) (u 9) (x 9)) (wd_Acts g ((u 8) 1) (u 18) (x 18))).symm
      have hD : va_D A (wd_O g ho f ++ wd_C g h u (up x 2 (o.2.2)) n) := hD.perm (pm_LW_signal (wd_O g ho f) (wd_AM g h (u 0) (x 0)) (wd_Text g ((u 0) 0) (u 1) (x 1)) (wd_Points g ((u 0) 1) (u 2) (o.2.2) n) (wd_LA g ((u 0) 2) (u 3)) (wd_LS g (u 3) (fun j => u (10 + j)) (fun j => x (10 + j))) (wd_Events g ((u 0) 3) (u 4) (x 4)) (wd_Plan g ((u 0) 4) (u 5) (x 5)) (wd_Zones g ((u 5) 0) (u 6) (x 6)) (wd_Acts g ((u 5) 1) (u 7) (x 7)) (wd_Plan g ((u 0) 5) (u 8) (x 8)) (wd_Zones g ((u 8) 0) (u 9) (x 9)) (wd_Acts g ((u 8) 1) (u 18) (x 18))).symm
      refine lv_astore (lv' := [(4, .ref q), (0, .ref h), (1, .int a1), (2, .int a2), (3, .ref ho)]) hx hb d_LW_signal_13 hl (by decide) rfl (fun ls hl => ?_)
      refine lv_iconst (v := (1 : Int32)) hx hb d_LW_signal_15 (by decide) ?_
      rw [hQ, hk]
      exact kri hx hb hr hlocks hAe hP hK hD hS d_LW_signal_16
abbrev b_LW_fault : ByteArray := method_7_code
abbrev y_LW_fault : MethodName := ⟨"AlarmMatrixLaw", "fault", "(LAlarmMatrix;IZ[J)I"⟩
theorem d_LW_fault_0 : decode b_LW_fault 0 = .ok (.aload_n 3, 1) := by decide +kernel
theorem d_LW_fault_1 : decode b_LW_fault 1 = .ok (.iconst 0, 1) := by decide +kernel
theorem d_LW_fault_2 : decode b_LW_fault 2 = .ok (.aload_n 0, 1) := by decide +kernel
theorem d_LW_fault_3 : decode b_LW_fault 3 = .ok (.iload_n 1, 1) := by decide +kernel
theorem d_LW_fault_4 : decode b_LW_fault 4 = .ok (.iload_n 2, 1) := by decide +kernel
theorem d_LW_fault_5 : decode b_LW_fault 5 = .ok (.invokevirtual 28, 3) := by decide +kernel
theorem d_LW_fault_8 : decode b_LW_fault 8 = .ok (.ifCond .eq 7, 3) := by decide +kernel
theorem d_LW_fault_11 : decode b_LW_fault 11 = .ok (.lconst 1, 1) := by decide +kernel
theorem d_LW_fault_12 : decode b_LW_fault 12 = .ok (.goto 4, 3) := by decide +kernel
theorem d_LW_fault_15 : decode b_LW_fault 15 = .ok (.lconst 0, 1) := by decide +kernel
theorem d_LW_fault_16 : decode b_LW_fault 16 = .ok (.lastore, 1) := by decide +kernel
theorem d_LW_fault_17 : decode b_LW_fault 17 = .ok (.goto 7, 3) := by decide +kernel
theorem d_LW_fault_20 : decode b_LW_fault 20 = .ok (.astore 4, 2) := by decide +kernel
theorem d_LW_fault_22 : decode b_LW_fault 22 = .ok (.iconst 1, 1) := by decide +kernel
theorem d_LW_fault_23 : decode b_LW_fault 23 = .ok (.ireturn, 1) := by decide +kernel
theorem d_LW_fault_24 : decode b_LW_fault 24 = .ok (.iconst 0, 1) := by decide +kernel
theorem d_LW_fault_25 : decode b_LW_fault 25 = .ok (.ireturn, 1) := by decide +kernel
abbrev hh_LW_fault : List (Nat × Nat × Nat × Nat) := [(0, 17, 20, 13)]
abbrev rm_LW_fault : Room := { frames := 7, cells := 1, slots := 6, locals := 112 }
theorem pm_LW_fault {α : Type} (B0 B1 B2 B3 B4 B5 B6 B7 B8 B9 B10 B11 B12 : List α) : (B0 ++ (B1 ++ B2 ++ B3 ++ B4 ++ B5 ++ B6 ++ B7 ++ B8 ++ B9 ++ B10 ++ B11 ++ B12)).Perm ((B1 ++ B3) ++ (B0 ++ B2 ++ B4 ++ B5 ++ B6 ++ B7 ++ B8 ++ B9 ++ B10 ++ B11 ++ B12)) := by
  classical
  refine List.perm_iff_count.mpr (fun a => ?_)
  simp only [List.count_append, List.count_nil]
  omega
set_option maxHeartbeats 40000000 in
set_option maxRecDepth 100000 in
theorem c_LW_fault {G : (Nat → Prop) → State → Prop} (hG : gok G) (hGn : gN G) {adK adV : Nat → Nat} (hGs : gSt adK adV G) (hGt : gTh G) (hGc : gNC G) (l : Launch) (hst : l.stackTraces = false) (dC : Nat → ClassId) (dI : Nat → Nat → Nat) (g : Nat → ClassId) (F : Nat) (sz : Nat) (h : Nat) (u : Nat → Nat → Nat) (x : Nat → St) (n : Nat) (ho : Nat) (f : Nat → Int64) (a1 : Int32) (a2 : Int32) {o : Nat × Int32 × St} (hm : m_AM_fault F (x 0) (x 2) n a1 a2 = some o) (hk : o.1 = 0 ∨ o.1 = 1) : Met l y_LW_fault (.codeWith y_LW_fault b_LW_fault 5 (some .int) hh_LW_fault :: gw) rm_LW_fault (kq (dC, dI) vwCl (tyv g) G [.ref h, .int a1, .int a2, .ref ho] sz (wd_O g ho f ++ wd_C g h u x n)) (kqi (dC, dI) vwCl (tyv g) (wd_O g ho f ++ wd_C g h u x n) (nI o.1) (wd_O g ho (oz o.1 o.2.1 f) ++ wd_C g h u (up x 2 (o.2.2)) n) sz) 1 6 (va_A (wd_O g ho f ++ wd_C g h u x n) sz) := by
  refine kmW (Qc := fun sz => kqi (dC, dI) vwCl (tyv g) (wd_O g ho f ++ wd_C g h u x n) (nI o.1) (wd_O g ho (oz o.1 o.2.1 f) ++ wd_C g h u (up x 2 (o.2.2)) n) sz) (cc := b_LW_fault) (maxL := 5) (ret := some .int) (hh := hh_LW_fault) (by decide) rfl (Nat.le_of_ble_eq_true rfl) ?_
  intro p e s m args below meth c Q hQ hx hb hr hts hown hlocks hml htab H locs A hAe hA hP hK hD hS hGA ls hl
  have hl : lv_has ls 5 [(0, .ref h), (1, .int a1), (2, .int a2), (3, .ref ho)] := hl
  have hts : ∀ w ∈ gw, w.before args s = true := fun w h => hts w (List.mem_cons_of_mem _ h)
  have hown : s.vm.findClass "AlarmMatrixLaw" = some m.cls := hown
  refine lv_aload_n hx hb d_LW_fault_0 rfl (lv_at hl 3 rfl) ?_
  refine lv_iconst (v := (0 : Int32)) hx hb d_LW_fault_1 (by decide) ?_
  refine lv_aload_n hx hb d_LW_fault_2 rfl (lv_at hl 0 rfl) ?_
  refine lv_iload_n hx hb d_LW_fault_3 rfl (lv_at hl 1 rfl) ?_
  refine lv_iload_n hx hb d_LW_fault_4 rfl (lv_at hl 2 rfl) ?_
  have hP : va_P (dC, dI) vwCl ((wd_AM g h (u 0) (x 0) ++ wd_Points g ((u 0) 1) (u 2) (x 2) n) ++ (wd_O g ho f ++ wd_Text g ((u 0) 0) (u 1) (x 1) ++ wd_LA g ((u 0) 2) (u 3) ++ wd_LS g (u 3) (fun j => u (10 + j)) (fun j => x (10 + j)) ++ wd_Events g ((u 0) 3) (u 4) (x 4) ++ wd_Plan g ((u 0) 4) (u 5) (x 5) ++ wd_Zones g ((u 5) 0) (u 6) (x 6) ++ wd_Acts g ((u 5) 1) (u 7) (x 7) ++ wd_Plan g ((u 0) 5) (u 8) (x 8) ++ wd_Zones g ((u 8) 0) (u 9) (x 9) ++ wd_Acts g ((u 8) 1) (u 18) (x 18))) H := hP.perm (pm_LW_fault _ _ _ _ _ _ _ _ _ _ _ _ _)
  have hD : va_D A ((wd_AM g h (u 0) (x 0) ++ wd_Points g ((u 0) 1) (u 2) (x 2) n) ++ (wd_O g ho f ++ wd_Text g ((u 0) 0) (u 1) (x 1) ++ wd_LA g ((u 0) 2) (u 3) ++ wd_LS g (u 3) (fun j => u (10 + j)) (fun j => x (10 + j)) ++ wd_Events g ((u 0) 3) (u 4) (x 4) ++ wd_Plan g ((u 0) 4) (u 5) (x 5) ++ wd_Zones g ((u 5) 0) (u 6) (x 6) ++ wd_Acts g ((u 5) 1) (u 7) (x 7) ++ wd_Plan g ((u 0) 5) (u 8) (x 8) ++ wd_Zones g ((u 8) 0) (u 9) (x 9) ++ wd_Acts g ((u 8) 1) (u 18) (x 18))) := hD.perm (pm_LW_fault _ _ _ _ _ _ _ _ _ _ _ _ _)
  rcases hk with hk | hk
  · have hM := c_AM_fault hG hGn hGs hGt l hst dC dI g F H.size h (u 0) (x 0) (u 2) (x 2) n a1 a2 hm
    rw [hk] at hM
    refine kciP (wc := wd_AM g h (u 0) (x 0) ++ wd_Points g ((u 0) 1) (u 2) (x 2) n) (wr := wd_O g ho f ++ wd_Text g ((u 0) 0) (u 1) (x 1) ++ wd_LA g ((u 0) 2) (u 3) ++ wd_LS g (u 3) (fun j => u (10 + j)) (fun j => x (10 + j)) ++ wd_Events g ((u 0) 3) (u 4) (x 4) ++ wd_Plan g ((u 0) 4) (u 5) (x 5) ++ wd_Zones g ((u 5) 0) (u 6) (x 6) ++ wd_Acts g ((u 5) 1) (u 7) (x 7) ++ wd_Plan g ((u 0) 5) (u 8) (x 8) ++ wd_Zones g ((u 8) 0) (u 9) (x 9) ++ wd_Acts g ((u 8) 1) (u 18) (x 18)) (w1 := wd_AM g h (u 0) (x 0) ++ wd_Points g ((u 0) 1) (u 2) (o.2.2) n) hP hD hS hA (va_runV (As := [.int a1, .int a2]) (rest := [.int (0 : Int32), .ref ho]) ⟨hx, hb, hml, hown, hts⟩ hM.met (cwV 2 hts (gdV k4_29 k4_30 k4_31 k1_1 k4_32) rfl rfl rfl (by decide +kernel) ⟨Nat.le_of_ble_eq_true rfl, Nat.le_of_ble_eq_true rfl⟩) (kpVP hG hP hK hD hS hA hGA (ci := 0) (q0 := 0) rfl rfl rfl) rfl rfl hl.1 rfl (lv_room (Nat.le_of_ble_eq_true rfl)) d_LW_fault_5 ⟨Nat.le_of_ble_eq_true rfl, Nat.le_of_ble_eq_true rfl⟩) (fun H locs hP hD hS => ?_)
    have hP : va_P (dC, dI) vwCl (wd_O g ho f ++ wd_C g h u (up x 2 (o.2.2)) n) H := hP.perm (pm_LW_fault (wd_O g ho f) (wd_AM g h (u 0) (x 0)) (wd_Text g ((u 0) 0) (u 1) (x 1)) (wd_Points g ((u 0) 1) (u 2) (o.2.2) n) (wd_LA g ((u 0) 2) (u 3)) (wd_LS g (u 3) (fun j => u (10 + j)) (fun j => x (10 + j))) (wd_Events g ((u 0) 3) (u 4) (x 4)) (wd_Plan g ((u 0) 4) (u 5) (x 5)) (wd_Zones g ((u 5) 0) (u 6) (x 6)) (wd_Acts g ((u 5) 1) (u 7) (x 7)) (wd_Plan g ((u 0) 5) (u 8) (x 8)) (wd_Zones g ((u 8) 0) (u 9) (x 9)) (wd_Acts g ((u 8) 1) (u 18) (x 18))).symm
    have hD : va_D A (wd_O g ho f ++ wd_C g h u (up x 2 (o.2.2)) n) := hD.perm (pm_LW_fault (wd_O g ho f) (wd_AM g h (u 0) (x 0)) (wd_Text g ((u 0) 0) (u 1) (x 1)) (wd_Points g ((u 0) 1) (u 2) (o.2.2) n) (wd_LA g ((u 0) 2) (u 3)) (wd_LS g (u 3) (fun j => u (10 + j)) (fun j => x (10 + j))) (wd_Events g ((u 0) 3) (u 4) (x 4)) (wd_Plan g ((u 0) 4) (u 5) (x 5)) (wd_Zones g ((u 5) 0) (u 6) (x 6)) (wd_Acts g ((u 5) 1) (u 7) (x 7)) (wd_Plan g ((u 0) 5) (u 8) (x 8)) (wd_Zones g ((u 8) 0) (u 9) (x 9)) (wd_Acts g ((u 8) 1) (u 18) (x 18))).symm
    refine lv_if_eq (tgt := 15) hx hb d_LW_fault_8 (by decide) (fun hc => ?_) (fun hc => ?_)
    · refine lv_lconst (v := (0 : Int64)) hx hb d_LW_fault_15 (by decide) ?_
      refine va_last (f := f) hx hb hK hP hD hS 0 4 rfl rfl (by unfold vp_in; decide) d_LW_fault_16 (fun H locs hP hD hS => ?_)
      have hP : va_P (dC, dI) vwCl (wd_O g ho (vp_updL f (0 : Int32).toNatClampNeg (0 : Int64)) ++ wd_C g h u (up x 2 (o.2.2)) n) H := hP
      have hD : va_D A (wd_O g ho (vp_updL f (0 : Int32).toNatClampNeg (0 : Int64)) ++ wd_C g h u (up x 2 (o.2.2)) n) := hD
      refine lv_goto (tgt := 24) hx hb d_LW_fault_17 (by decide) ?_
      refine lv_iconst (v := (0 : Int32)) hx hb d_LW_fault_24 (by decide) ?_
      rw [hQ, hk, show oz 0 o.2.1 f = vp_updL f (0 : Int32).toNatClampNeg (0 : Int64) by unfold oz; rw [if_pos hc]]
      exact kri hx hb hr hlocks hAe hP hK hD hS d_LW_fault_25
    · refine lv_lconst (v := (1 : Int64)) hx hb d_LW_fault_11 (by decide) ?_
      refine lv_goto (tgt := 16) hx hb d_LW_fault_12 (by decide) ?_
      refine va_last (f := f) hx hb hK hP hD hS 0 4 rfl rfl (by unfold vp_in; decide) d_LW_fault_16 (fun H locs hP hD hS => ?_)
      have hP : va_P (dC, dI) vwCl (wd_O g ho (vp_updL f (0 : Int32).toNatClampNeg (1 : Int64)) ++ wd_C g h u (up x 2 (o.2.2)) n) H := hP
      have hD : va_D A (wd_O g ho (vp_updL f (0 : Int32).toNatClampNeg (1 : Int64)) ++ wd_C g h u (up x 2 (o.2.2)) n) := hD
      refine lv_goto (tgt := 24) hx hb d_LW_fault_17 (by decide) ?_
      refine lv_iconst (v := (0 : Int32)) hx hb d_LW_fault_24 (by decide) ?_
      rw [hQ, hk, show oz 0 o.2.1 f = vp_updL f (0 : Int32).toNatClampNeg (1 : Int64) by unfold oz; rw [if_neg hc]]
      exact kri hx hb hr hlocks hAe hP hK hD hS d_LW_fault_25
  · have hM := c_AM_fault hG hGn hGs hGt l hst dC dI g F H.size h (u 0) (x 0) (u 2) (x 2) n a1 a2 hm
    rw [hk] at hM
    refine kcTP (k := 1) (hpc := 20) (wc := wd_AM g h (u 0) (x 0) ++ wd_Points g ((u 0) 1) (u 2) (x 2) n) (wr := wd_O g ho f ++ wd_Text g ((u 0) 0) (u 1) (x 1) ++ wd_LA g ((u 0) 2) (u 3) ++ wd_LS g (u 3) (fun j => u (10 + j)) (fun j => x (10 + j)) ++ wd_Events g ((u 0) 3) (u 4) (x 4) ++ wd_Plan g ((u 0) 4) (u 5) (x 5) ++ wd_Zones g ((u 5) 0) (u 6) (x 6) ++ wd_Acts g ((u 5) 1) (u 7) (x 7) ++ wd_Plan g ((u 0) 5) (u 8) (x 8) ++ wd_Zones g ((u 8) 0) (u 9) (x 9) ++ wd_Acts g ((u 8) 1) (u 18) (x 18)) (w1 := wd_AM g h (u 0) (x 0) ++ wd_Points g ((u 0) 1) (u 2) (o.2.2) n) (As := [.int a1, .int a2]) (rest := [.int (0 : Int32), .ref ho]) ⟨hx, hb, hml, hown, hts⟩ hM (by decide) (cwV 2 hts (gdV k4_29 k4_30 k4_31 k1_1 k4_32) rfl rfl rfl (by decide +kernel) ⟨Nat.le_of_ble_eq_true rfl, Nat.le_of_ble_eq_true rfl⟩) (kpVP hG hP hK hD hS hA hGA (ci := 0) (q0 := 0) rfl rfl rfl) rfl hl.1 (lv_room (Nat.le_of_ble_eq_true rfl)) d_LW_fault_5 ⟨Nat.le_of_ble_eq_true rfl, Nat.le_of_ble_eq_true rfl⟩ hP hD hS hA (fun E hE => ?_) (fun q H locs hP hD hS => ?_)
    · rcases hE with ⟨-, rfl⟩ | ⟨h9, -⟩
      · exact kHand1 htab (by decide) (by decide) (hts _ k3_95) (gHand hGt hGA).1
      · cases h9
    · have hP : va_P (dC, dI) vwCl (wd_O g ho f ++ wd_C g h u (up x 2 (o.2.2)) n) H := hP.perm (pm_LW_fault (wd_O g ho f) (wd_AM g h (u 0) (x 0)) (wd_Text g ((u 0) 0) (u 1) (x 1)) (wd_Points g ((u 0) 1) (u 2) (o.2.2) n) (wd_LA g ((u 0) 2) (u 3)) (wd_LS g (u 3) (fun j => u (10 + j)) (fun j => x (10 + j))) (wd_Events g ((u 0) 3) (u 4) (x 4)) (wd_Plan g ((u 0) 4) (u 5) (x 5)) (wd_Zones g ((u 5) 0) (u 6) (x 6)) (wd_Acts g ((u 5) 1) (u 7) (x 7)) (wd_Plan g ((u 0) 5) (u 8) (x 8)) (wd_Zones g ((u 8) 0) (u 9) (x 9)) (wd_Acts g ((u 8) 1) (u 18) (x 18))).symm
      have hD : va_D A (wd_O g ho f ++ wd_C g h u (up x 2 (o.2.2)) n) := hD.perm (pm_LW_fault (wd_O g ho f) (wd_AM g h (u 0) (x 0)) (wd_Text g ((u 0) 0) (u 1) (x 1)) (wd_Points g ((u 0) 1) (u 2) (o.2.2) n) (wd_LA g ((u 0) 2) (u 3)) (wd_LS g (u 3) (fun j => u (10 + j)) (fun j => x (10 + j))) (wd_Events g ((u 0) 3) (u 4) (x 4)) (wd_Plan g ((u 0) 4) (u 5) (x 5)) (wd_Zones g ((u 5) 0) (u 6) (x 6)) (wd_Acts g ((u 5) 1) (u 7) (x 7)) (wd_Plan g ((u 0) 5) (u 8) (x 8)) (wd_Zones g ((u 8) 0) (u 9) (x 9)) (wd_Acts g ((u 8) 1) (u 18) (x 18))).symm
      refine lv_astore (lv' := [(4, .ref q), (0, .ref h), (1, .int a1), (2, .int a2), (3, .ref ho)]) hx hb d_LW_fault_20 hl (by decide) rfl (fun ls hl => ?_)
      refine lv_iconst (v := (1 : Int32)) hx hb d_LW_fault_22 (by decide) ?_
      rw [hQ, hk]
      exact kri hx hb hr hlocks hAe hP hK hD hS d_LW_fault_23
abbrev b_LW_disable : ByteArray := method_8_code
abbrev y_LW_disable : MethodName := ⟨"AlarmMatrixLaw", "disable", "(LAlarmMatrix;II[J)I"⟩
theorem d_LW_disable_0 : decode b_LW_disable 0 = .ok (.aload_n 3, 1) := by decide +kernel
theorem d_LW_disable_1 : decode b_LW_disable 1 = .ok (.iconst 0, 1) := by decide +kernel
theorem d_LW_disable_2 : decode b_LW_disable 2 = .ok (.aload_n 0, 1) := by decide +kernel
theorem d_LW_disable_3 : decode b_LW_disable 3 = .ok (.iload_n 1, 1) := by decide +kernel
theorem d_LW_disable_4 : decode b_LW_disable 4 = .ok (.iload_n 2, 1) := by decide +kernel
theorem d_LW_disable_5 : decode b_LW_disable 5 = .ok (.invokevirtual 32, 3) := by decide +kernel
theorem d_LW_disable_8 : decode b_LW_disable 8 = .ok (.i2l, 1) := by decide +kernel
theorem d_LW_disable_9 : decode b_LW_disable 9 = .ok (.lastore, 1) := by decide +kernel
theorem d_LW_disable_10 : decode b_LW_disable 10 = .ok (.goto 7, 3) := by decide +kernel
theorem d_LW_disable_13 : decode b_LW_disable 13 = .ok (.astore 4, 2) := by decide +kernel
theorem d_LW_disable_15 : decode b_LW_disable 15 = .ok (.iconst 1, 1) := by decide +kernel
theorem d_LW_disable_16 : decode b_LW_disable 16 = .ok (.ireturn, 1) := by decide +kernel
theorem d_LW_disable_17 : decode b_LW_disable 17 = .ok (.iconst 0, 1) := by decide +kernel
theorem d_LW_disable_18 : decode b_LW_disable 18 = .ok (.ireturn, 1) := by decide +kernel
abbrev hh_LW_disable : List (Nat × Nat × Nat × Nat) := [(0, 10, 13, 13)]
abbrev rm_LW_disable : Room := { frames := 7, cells := 1, slots := 6, locals := 112 }
theorem pm_LW_disable {α : Type} (B0 B1 B2 B3 B4 B5 B6 B7 B8 B9 B10 B11 B12 : List α) : (B0 ++ (B1 ++ B2 ++ B3 ++ B4 ++ B5 ++ B6 ++ B7 ++ B8 ++ B9 ++ B10 ++ B11 ++ B12)).Perm ((B1 ++ B3) ++ (B0 ++ B2 ++ B4 ++ B5 ++ B6 ++ B7 ++ B8 ++ B9 ++ B10 ++ B11 ++ B12)) := by
  classical
  refine List.perm_iff_count.mpr (fun a => ?_)
  simp only [List.count_append, List.count_nil]
  omega
set_option maxHeartbeats 40000000 in
set_option maxRecDepth 100000 in
theorem c_LW_disable {G : (Nat → Prop) → State → Prop} (hG : gok G) (hGn : gN G) {adK adV : Nat → Nat} (hGs : gSt adK adV G) (hGt : gTh G) (hGc : gNC G) (l : Launch) (hst : l.stackTraces = false) (dC : Nat → ClassId) (dI : Nat → Nat → Nat) (g : Nat → ClassId) (F : Nat) (sz : Nat) (h : Nat) (u : Nat → Nat → Nat) (x : Nat → St) (n : Nat) (ho : Nat) (f : Nat → Int64) (a1 : Int32) (a2 : Int32) {o : Nat × Int32 × St} (hm : m_AM_disable F (x 0) (x 2) n a1 a2 = some o) (hk : o.1 = 0 ∨ o.1 = 1) : Met l y_LW_disable (.codeWith y_LW_disable b_LW_disable 5 (some .int) hh_LW_disable :: gw) rm_LW_disable (kq (dC, dI) vwCl (tyv g) G [.ref h, .int a1, .int a2, .ref ho] sz (wd_O g ho f ++ wd_C g h u x n)) (kqi (dC, dI) vwCl (tyv g) (wd_O g ho f ++ wd_C g h u x n) (nI o.1) (wd_O g ho (ot o.1 o.2.1 f) ++ wd_C g h u (up x 2 (o.2.2)) n) sz) 1 6 (va_A (wd_O g ho f ++ wd_C g h u x n) sz) := by
  refine kmW (Qc := fun sz => kqi (dC, dI) vwCl (tyv g) (wd_O g ho f ++ wd_C g h u x n) (nI o.1) (wd_O g ho (ot o.1 o.2.1 f) ++ wd_C g h u (up x 2 (o.2.2)) n) sz) (cc := b_LW_disable) (maxL := 5) (ret := some .int) (hh := hh_LW_disable) (by decide) rfl (Nat.le_of_ble_eq_true rfl) ?_
  intro p e s m args below meth c Q hQ hx hb hr hts hown hlocks hml htab H locs A hAe hA hP hK hD hS hGA ls hl
  have hl : lv_has ls 5 [(0, .ref h), (1, .int a1), (2, .int a2), (3, .ref ho)] := hl
  have hts : ∀ w ∈ gw, w.before args s = true := fun w h => hts w (List.mem_cons_of_mem _ h)
  have hown : s.vm.findClass "AlarmMatrixLaw" = some m.cls := hown
  refine lv_aload_n hx hb d_LW_disable_0 rfl (lv_at hl 3 rfl) ?_
  refine lv_iconst (v := (0 : Int32)) hx hb d_LW_disable_1 (by decide) ?_
  refine lv_aload_n hx hb d_LW_disable_2 rfl (lv_at hl 0 rfl) ?_
  refine lv_iload_n hx hb d_LW_disable_3 rfl (lv_at hl 1 rfl) ?_
  refine lv_iload_n hx hb d_LW_disable_4 rfl (lv_at hl 2 rfl) ?_
  have hP : va_P (dC, dI) vwCl ((wd_AM g h (u 0) (x 0) ++ wd_Points g ((u 0) 1) (u 2) (x 2) n) ++ (wd_O g ho f ++ wd_Text g ((u 0) 0) (u 1) (x 1) ++ wd_LA g ((u 0) 2) (u 3) ++ wd_LS g (u 3) (fun j => u (10 + j)) (fun j => x (10 + j)) ++ wd_Events g ((u 0) 3) (u 4) (x 4) ++ wd_Plan g ((u 0) 4) (u 5) (x 5) ++ wd_Zones g ((u 5) 0) (u 6) (x 6) ++ wd_Acts g ((u 5) 1) (u 7) (x 7) ++ wd_Plan g ((u 0) 5) (u 8) (x 8) ++ wd_Zones g ((u 8) 0) (u 9) (x 9) ++ wd_Acts g ((u 8) 1) (u 18) (x 18))) H := hP.perm (pm_LW_disable _ _ _ _ _ _ _ _ _ _ _ _ _)
  have hD : va_D A ((wd_AM g h (u 0) (x 0) ++ wd_Points g ((u 0) 1) (u 2) (x 2) n) ++ (wd_O g ho f ++ wd_Text g ((u 0) 0) (u 1) (x 1) ++ wd_LA g ((u 0) 2) (u 3) ++ wd_LS g (u 3) (fun j => u (10 + j)) (fun j => x (10 + j)) ++ wd_Events g ((u 0) 3) (u 4) (x 4) ++ wd_Plan g ((u 0) 4) (u 5) (x 5) ++ wd_Zones g ((u 5) 0) (u 6) (x 6) ++ wd_Acts g ((u 5) 1) (u 7) (x 7) ++ wd_Plan g ((u 0) 5) (u 8) (x 8) ++ wd_Zones g ((u 8) 0) (u 9) (x 9) ++ wd_Acts g ((u 8) 1) (u 18) (x 18))) := hD.perm (pm_LW_disable _ _ _ _ _ _ _ _ _ _ _ _ _)
  rcases hk with hk | hk
  · have hM := c_AM_disable hG hGn hGs hGt l hst dC dI g F H.size h (u 0) (x 0) (u 2) (x 2) n a1 a2 hm
    rw [hk] at hM
    refine kciP (wc := wd_AM g h (u 0) (x 0) ++ wd_Points g ((u 0) 1) (u 2) (x 2) n) (wr := wd_O g ho f ++ wd_Text g ((u 0) 0) (u 1) (x 1) ++ wd_LA g ((u 0) 2) (u 3) ++ wd_LS g (u 3) (fun j => u (10 + j)) (fun j => x (10 + j)) ++ wd_Events g ((u 0) 3) (u 4) (x 4) ++ wd_Plan g ((u 0) 4) (u 5) (x 5) ++ wd_Zones g ((u 5) 0) (u 6) (x 6) ++ wd_Acts g ((u 5) 1) (u 7) (x 7) ++ wd_Plan g ((u 0) 5) (u 8) (x 8) ++ wd_Zones g ((u 8) 0) (u 9) (x 9) ++ wd_Acts g ((u 8) 1) (u 18) (x 18)) (w1 := wd_AM g h (u 0) (x 0) ++ wd_Points g ((u 0) 1) (u 2) (o.2.2) n) hP hD hS hA (va_runV (As := [.int a1, .int a2]) (rest := [.int (0 : Int32), .ref ho]) ⟨hx, hb, hml, hown, hts⟩ hM.met (cwV 2 hts (gdV k4_41 k4_42 k4_43 k1_1 k4_44) rfl rfl rfl (by decide +kernel) ⟨Nat.le_of_ble_eq_true rfl, Nat.le_of_ble_eq_true rfl⟩) (kpVP hG hP hK hD hS hA hGA (ci := 0) (q0 := 0) rfl rfl rfl) rfl rfl hl.1 rfl (lv_room (Nat.le_of_ble_eq_true rfl)) d_LW_disable_5 ⟨Nat.le_of_ble_eq_true rfl, Nat.le_of_ble_eq_true rfl⟩) (fun H locs hP hD hS => ?_)
    have hP : va_P (dC, dI) vwCl (wd_O g ho f ++ wd_C g h u (up x 2 (o.2.2)) n) H := hP.perm (pm_LW_disable (wd_O g ho f) (wd_AM g h (u 0) (x 0)) (wd_Text g ((u 0) 0) (u 1) (x 1)) (wd_Points g ((u 0) 1) (u 2) (o.2.2) n) (wd_LA g ((u 0) 2) (u 3)) (wd_LS g (u 3) (fun j => u (10 + j)) (fun j => x (10 + j))) (wd_Events g ((u 0) 3) (u 4) (x 4)) (wd_Plan g ((u 0) 4) (u 5) (x 5)) (wd_Zones g ((u 5) 0) (u 6) (x 6)) (wd_Acts g ((u 5) 1) (u 7) (x 7)) (wd_Plan g ((u 0) 5) (u 8) (x 8)) (wd_Zones g ((u 8) 0) (u 9) (x 9)) (wd_Acts g ((u 8) 1) (u 18) (x 18))).symm
    have hD : va_D A (wd_O g ho f ++ wd_C g h u (up x 2 (o.2.2)) n) := hD.perm (pm_LW_disable (wd_O g ho f) (wd_AM g h (u 0) (x 0)) (wd_Text g ((u 0) 0) (u 1) (x 1)) (wd_Points g ((u 0) 1) (u 2) (o.2.2) n) (wd_LA g ((u 0) 2) (u 3)) (wd_LS g (u 3) (fun j => u (10 + j)) (fun j => x (10 + j))) (wd_Events g ((u 0) 3) (u 4) (x 4)) (wd_Plan g ((u 0) 4) (u 5) (x 5)) (wd_Zones g ((u 5) 0) (u 6) (x 6)) (wd_Acts g ((u 5) 1) (u 7) (x 7)) (wd_Plan g ((u 0) 5) (u 8) (x 8)) (wd_Zones g ((u 8) 0) (u 9) (x 9)) (wd_Acts g ((u 8) 1) (u 18) (x 18))).symm
    refine lv_i2l (v := (o.2.1).toInt64) hx hb d_LW_disable_8 rfl ?_
    refine va_last (f := f) hx hb hK hP hD hS 0 4 rfl rfl (by unfold vp_in; decide) d_LW_disable_9 (fun H locs hP hD hS => ?_)
    have hP : va_P (dC, dI) vwCl (wd_O g ho (vp_updL f (0 : Int32).toNatClampNeg (o.2.1).toInt64) ++ wd_C g h u (up x 2 (o.2.2)) n) H := hP
    have hD : va_D A (wd_O g ho (vp_updL f (0 : Int32).toNatClampNeg (o.2.1).toInt64) ++ wd_C g h u (up x 2 (o.2.2)) n) := hD
    refine lv_goto (tgt := 17) hx hb d_LW_disable_10 (by decide) ?_
    refine lv_iconst (v := (0 : Int32)) hx hb d_LW_disable_17 (by decide) ?_
    rw [hQ, hk]
    exact kri hx hb hr hlocks hAe hP hK hD hS d_LW_disable_18
  · have hM := c_AM_disable hG hGn hGs hGt l hst dC dI g F H.size h (u 0) (x 0) (u 2) (x 2) n a1 a2 hm
    rw [hk] at hM
    refine kcTP (k := 1) (hpc := 13) (wc := wd_AM g h (u 0) (x 0) ++ wd_Points g ((u 0) 1) (u 2) (x 2) n) (wr := wd_O g ho f ++ wd_Text g ((u 0) 0) (u 1) (x 1) ++ wd_LA g ((u 0) 2) (u 3) ++ wd_LS g (u 3) (fun j => u (10 + j)) (fun j => x (10 + j)) ++ wd_Events g ((u 0) 3) (u 4) (x 4) ++ wd_Plan g ((u 0) 4) (u 5) (x 5) ++ wd_Zones g ((u 5) 0) (u 6) (x 6) ++ wd_Acts g ((u 5) 1) (u 7) (x 7) ++ wd_Plan g ((u 0) 5) (u 8) (x 8) ++ wd_Zones g ((u 8) 0) (u 9) (x 9) ++ wd_Acts g ((u 8) 1) (u 18) (x 18)) (w1 := wd_AM g h (u 0) (x 0) ++ wd_Points g ((u 0) 1) (u 2) (o.2.2) n) (As := [.int a1, .int a2]) (rest := [.int (0 : Int32), .ref ho]) ⟨hx, hb, hml, hown, hts⟩ hM (by decide) (cwV 2 hts (gdV k4_41 k4_42 k4_43 k1_1 k4_44) rfl rfl rfl (by decide +kernel) ⟨Nat.le_of_ble_eq_true rfl, Nat.le_of_ble_eq_true rfl⟩) (kpVP hG hP hK hD hS hA hGA (ci := 0) (q0 := 0) rfl rfl rfl) rfl hl.1 (lv_room (Nat.le_of_ble_eq_true rfl)) d_LW_disable_5 ⟨Nat.le_of_ble_eq_true rfl, Nat.le_of_ble_eq_true rfl⟩ hP hD hS hA (fun E hE => ?_) (fun q H locs hP hD hS => ?_)
    · rcases hE with ⟨-, rfl⟩ | ⟨h9, -⟩
      · exact kHand1 htab (by decide) (by decide) (hts _ k3_95) (gHand hGt hGA).1
      · cases h9
    · have hP : va_P (dC, dI) vwCl (wd_O g ho f ++ wd_C g h u (up x 2 (o.2.2)) n) H := hP.perm (pm_LW_disable (wd_O g ho f) (wd_AM g h (u 0) (x 0)) (wd_Text g ((u 0) 0) (u 1) (x 1)) (wd_Points g ((u 0) 1) (u 2) (o.2.2) n) (wd_LA g ((u 0) 2) (u 3)) (wd_LS g (u 3) (fun j => u (10 + j)) (fun j => x (10 + j))) (wd_Events g ((u 0) 3) (u 4) (x 4)) (wd_Plan g ((u 0) 4) (u 5) (x 5)) (wd_Zones g ((u 5) 0) (u 6) (x 6)) (wd_Acts g ((u 5) 1) (u 7) (x 7)) (wd_Plan g ((u 0) 5) (u 8) (x 8)) (wd_Zones g ((u 8) 0) (u 9) (x 9)) (wd_Acts g ((u 8) 1) (u 18) (x 18))).symm
      have hD : va_D A (wd_O g ho f ++ wd_C g h u (up x 2 (o.2.2)) n) := hD.perm (pm_LW_disable (wd_O g ho f) (wd_AM g h (u 0) (x 0)) (wd_Text g ((u 0) 0) (u 1) (x 1)) (wd_Points g ((u 0) 1) (u 2) (o.2.2) n) (wd_LA g ((u 0) 2) (u 3)) (wd_LS g (u 3) (fun j => u (10 + j)) (fun j => x (10 + j))) (wd_Events g ((u 0) 3) (u 4) (x 4)) (wd_Plan g ((u 0) 4) (u 5) (x 5)) (wd_Zones g ((u 5) 0) (u 6) (x 6)) (wd_Acts g ((u 5) 1) (u 7) (x 7)) (wd_Plan g ((u 0) 5) (u 8) (x 8)) (wd_Zones g ((u 8) 0) (u 9) (x 9)) (wd_Acts g ((u 8) 1) (u 18) (x 18))).symm
      refine lv_astore (lv' := [(4, .ref q), (0, .ref h), (1, .int a1), (2, .int a2), (3, .ref ho)]) hx hb d_LW_disable_13 hl (by decide) rfl (fun ls hl => ?_)
      refine lv_iconst (v := (1 : Int32)) hx hb d_LW_disable_15 (by decide) ?_
      rw [hQ, hk]
      exact kri hx hb hr hlocks hAe hP hK hD hS d_LW_disable_16
abbrev b_LW_unreachable : ByteArray := method_12_code
abbrev y_LW_unreachable : MethodName := ⟨"AlarmMatrixLaw", "unreachable", "(LAlarmMatrix;I[J)I"⟩
theorem d_LW_unreachable_0 : decode b_LW_unreachable 0 = .ok (.aload_n 2, 1) := by decide +kernel
theorem d_LW_unreachable_1 : decode b_LW_unreachable 1 = .ok (.iconst 0, 1) := by decide +kernel
theorem d_LW_unreachable_2 : decode b_LW_unreachable 2 = .ok (.aload_n 0, 1) := by decide +kernel
theorem d_LW_unreachable_3 : decode b_LW_unreachable 3 = .ok (.iload_n 1, 1) := by decide +kernel
theorem d_LW_unreachable_4 : decode b_LW_unreachable 4 = .ok (.invokevirtual 45, 3) := by decide +kernel
theorem d_LW_unreachable_7 : decode b_LW_unreachable 7 = .ok (.i2l, 1) := by decide +kernel
theorem d_LW_unreachable_8 : decode b_LW_unreachable 8 = .ok (.lastore, 1) := by decide +kernel
theorem d_LW_unreachable_9 : decode b_LW_unreachable 9 = .ok (.goto 6, 3) := by decide +kernel
theorem d_LW_unreachable_12 : decode b_LW_unreachable 12 = .ok (.astore_n 3, 1) := by decide +kernel
theorem d_LW_unreachable_13 : decode b_LW_unreachable 13 = .ok (.iconst 1, 1) := by decide +kernel
theorem d_LW_unreachable_14 : decode b_LW_unreachable 14 = .ok (.ireturn, 1) := by decide +kernel
theorem d_LW_unreachable_15 : decode b_LW_unreachable 15 = .ok (.iconst 0, 1) := by decide +kernel
theorem d_LW_unreachable_16 : decode b_LW_unreachable 16 = .ok (.ireturn, 1) := by decide +kernel
abbrev hh_LW_unreachable : List (Nat × Nat × Nat × Nat) := [(0, 9, 12, 13)]
abbrev rm_LW_unreachable : Room := { frames := 7, cells := 1, slots := 6, locals := 111 }
theorem pm_LW_unreachable {α : Type} (B0 B1 B2 B3 B4 B5 B6 B7 B8 B9 B10 B11 B12 : List α) : (B0 ++ (B1 ++ B2 ++ B3 ++ B4 ++ B5 ++ B6 ++ B7 ++ B8 ++ B9 ++ B10 ++ B11 ++ B12)).Perm ((B1 ++ B3) ++ (B0 ++ B2 ++ B4 ++ B5 ++ B6 ++ B7 ++ B8 ++ B9 ++ B10 ++ B11 ++ B12)) := by
  classical
  refine List.perm_iff_count.mpr (fun a => ?_)
  simp only [List.count_append, List.count_nil]
  omega
set_option maxHeartbeats 40000000 in
set_option maxRecDepth 100000 in
theorem c_LW_unreachable {G : (Nat → Prop) → State → Prop} (hG : gok G) (hGn : gN G) {adK adV : Nat → Nat} (hGs : gSt adK adV G) (hGt : gTh G) (hGc : gNC G) (l : Launch) (hst : l.stackTraces = false) (dC : Nat → ClassId) (dI : Nat → Nat → Nat) (g : Nat → ClassId) (F : Nat) (sz : Nat) (h : Nat) (u : Nat → Nat → Nat) (x : Nat → St) (n : Nat) (ho : Nat) (f : Nat → Int64) (a1 : Int32) {o : Nat × Int32} (hm : m_AM_unreachable F (x 0) (x 2) n a1 = some o) (hk : o.1 = 0 ∨ o.1 = 1) : Met l y_LW_unreachable (.codeWith y_LW_unreachable b_LW_unreachable 4 (some .int) hh_LW_unreachable :: gw) rm_LW_unreachable (kq (dC, dI) vwCl (tyv g) G [.ref h, .int a1, .ref ho] sz (wd_O g ho f ++ wd_C g h u x n)) (kqi (dC, dI) vwCl (tyv g) (wd_O g ho f ++ wd_C g h u x n) (nI o.1) (wd_O g ho (ot o.1 o.2 f) ++ wd_C g h u x n) sz) 1 6 (va_A (wd_O g ho f ++ wd_C g h u x n) sz) := by
  refine kmW (Qc := fun sz => kqi (dC, dI) vwCl (tyv g) (wd_O g ho f ++ wd_C g h u x n) (nI o.1) (wd_O g ho (ot o.1 o.2 f) ++ wd_C g h u x n) sz) (cc := b_LW_unreachable) (maxL := 4) (ret := some .int) (hh := hh_LW_unreachable) (by decide) rfl (Nat.le_of_ble_eq_true rfl) ?_
  intro p e s m args below meth c Q hQ hx hb hr hts hown hlocks hml htab H locs A hAe hA hP hK hD hS hGA ls hl
  have hl : lv_has ls 4 [(0, .ref h), (1, .int a1), (2, .ref ho)] := hl
  have hts : ∀ w ∈ gw, w.before args s = true := fun w h => hts w (List.mem_cons_of_mem _ h)
  have hown : s.vm.findClass "AlarmMatrixLaw" = some m.cls := hown
  refine lv_aload_n hx hb d_LW_unreachable_0 rfl (lv_at hl 2 rfl) ?_
  refine lv_iconst (v := (0 : Int32)) hx hb d_LW_unreachable_1 (by decide) ?_
  refine lv_aload_n hx hb d_LW_unreachable_2 rfl (lv_at hl 0 rfl) ?_
  refine lv_iload_n hx hb d_LW_unreachable_3 rfl (lv_at hl 1 rfl) ?_
  have hP : va_P (dC, dI) vwCl ((wd_AM g h (u 0) (x 0) ++ wd_Points g ((u 0) 1) (u 2) (x 2) n) ++ (wd_O g ho f ++ wd_Text g ((u 0) 0) (u 1) (x 1) ++ wd_LA g ((u 0) 2) (u 3) ++ wd_LS g (u 3) (fun j => u (10 + j)) (fun j => x (10 + j)) ++ wd_Events g ((u 0) 3) (u 4) (x 4) ++ wd_Plan g ((u 0) 4) (u 5) (x 5) ++ wd_Zones g ((u 5) 0) (u 6) (x 6) ++ wd_Acts g ((u 5) 1) (u 7) (x 7) ++ wd_Plan g ((u 0) 5) (u 8) (x 8) ++ wd_Zones g ((u 8) 0) (u 9) (x 9) ++ wd_Acts g ((u 8) 1) (u 18) (x 18))) H := hP.perm (pm_LW_unreachable _ _ _ _ _ _ _ _ _ _ _ _ _)
  have hD : va_D A ((wd_AM g h (u 0) (x 0) ++ wd_Points g ((u 0) 1) (u 2) (x 2) n) ++ (wd_O g ho f ++ wd_Text g ((u 0) 0) (u 1) (x 1) ++ wd_LA g ((u 0) 2) (u 3) ++ wd_LS g (u 3) (fun j => u (10 + j)) (fun j => x (10 + j)) ++ wd_Events g ((u 0) 3) (u 4) (x 4) ++ wd_Plan g ((u 0) 4) (u 5) (x 5) ++ wd_Zones g ((u 5) 0) (u 6) (x 6) ++ wd_Acts g ((u 5) 1) (u 7) (x 7) ++ wd_Plan g ((u 0) 5) (u 8) (x 8) ++ wd_Zones g ((u 8) 0) (u 9) (x 9) ++ wd_Acts g ((u 8) 1) (u 18) (x 18))) := hD.perm (pm_LW_unreachable _ _ _ _ _ _ _ _ _ _ _ _ _)
  rcases hk with hk | hk
  · have hM := c_AM_unreachable hG hGn hGs hGt l hst dC dI g F H.size h (u 0) (x 0) (u 2) (x 2) n a1 hm
    rw [hk] at hM
    refine kciP (wc := wd_AM g h (u 0) (x 0) ++ wd_Points g ((u 0) 1) (u 2) (x 2) n) (wr := wd_O g ho f ++ wd_Text g ((u 0) 0) (u 1) (x 1) ++ wd_LA g ((u 0) 2) (u 3) ++ wd_LS g (u 3) (fun j => u (10 + j)) (fun j => x (10 + j)) ++ wd_Events g ((u 0) 3) (u 4) (x 4) ++ wd_Plan g ((u 0) 4) (u 5) (x 5) ++ wd_Zones g ((u 5) 0) (u 6) (x 6) ++ wd_Acts g ((u 5) 1) (u 7) (x 7) ++ wd_Plan g ((u 0) 5) (u 8) (x 8) ++ wd_Zones g ((u 8) 0) (u 9) (x 9) ++ wd_Acts g ((u 8) 1) (u 18) (x 18)) (w1 := wd_AM g h (u 0) (x 0) ++ wd_Points g ((u 0) 1) (u 2) (x 2) n) hP hD hS hA (va_runV (As := [.int a1]) (rest := [.int (0 : Int32), .ref ho]) ⟨hx, hb, hml, hown, hts⟩ hM.met (cwV 1 hts (gdV k4_130 k4_131 k4_132 k1_1 k4_133) rfl rfl rfl (by decide +kernel) ⟨Nat.le_of_ble_eq_true rfl, Nat.le_of_ble_eq_true rfl⟩) (kpVP hG hP hK hD hS hA hGA (ci := 0) (q0 := 0) rfl rfl rfl) rfl rfl hl.1 rfl (lv_room (Nat.le_of_ble_eq_true rfl)) d_LW_unreachable_4 ⟨Nat.le_of_ble_eq_true rfl, Nat.le_of_ble_eq_true rfl⟩) (fun H locs hP hD hS => ?_)
    have hP : va_P (dC, dI) vwCl (wd_O g ho f ++ wd_C g h u x n) H := hP.perm (pm_LW_unreachable (wd_O g ho f) (wd_AM g h (u 0) (x 0)) (wd_Text g ((u 0) 0) (u 1) (x 1)) (wd_Points g ((u 0) 1) (u 2) (x 2) n) (wd_LA g ((u 0) 2) (u 3)) (wd_LS g (u 3) (fun j => u (10 + j)) (fun j => x (10 + j))) (wd_Events g ((u 0) 3) (u 4) (x 4)) (wd_Plan g ((u 0) 4) (u 5) (x 5)) (wd_Zones g ((u 5) 0) (u 6) (x 6)) (wd_Acts g ((u 5) 1) (u 7) (x 7)) (wd_Plan g ((u 0) 5) (u 8) (x 8)) (wd_Zones g ((u 8) 0) (u 9) (x 9)) (wd_Acts g ((u 8) 1) (u 18) (x 18))).symm
    have hD : va_D A (wd_O g ho f ++ wd_C g h u x n) := hD.perm (pm_LW_unreachable (wd_O g ho f) (wd_AM g h (u 0) (x 0)) (wd_Text g ((u 0) 0) (u 1) (x 1)) (wd_Points g ((u 0) 1) (u 2) (x 2) n) (wd_LA g ((u 0) 2) (u 3)) (wd_LS g (u 3) (fun j => u (10 + j)) (fun j => x (10 + j))) (wd_Events g ((u 0) 3) (u 4) (x 4)) (wd_Plan g ((u 0) 4) (u 5) (x 5)) (wd_Zones g ((u 5) 0) (u 6) (x 6)) (wd_Acts g ((u 5) 1) (u 7) (x 7)) (wd_Plan g ((u 0) 5) (u 8) (x 8)) (wd_Zones g ((u 8) 0) (u 9) (x 9)) (wd_Acts g ((u 8) 1) (u 18) (x 18))).symm
    refine lv_i2l (v := (o.2).toInt64) hx hb d_LW_unreachable_7 rfl ?_
    refine va_last (f := f) hx hb hK hP hD hS 0 4 rfl rfl (by unfold vp_in; decide) d_LW_unreachable_8 (fun H locs hP hD hS => ?_)
    have hP : va_P (dC, dI) vwCl (wd_O g ho (vp_updL f (0 : Int32).toNatClampNeg (o.2).toInt64) ++ wd_C g h u x n) H := hP
    have hD : va_D A (wd_O g ho (vp_updL f (0 : Int32).toNatClampNeg (o.2).toInt64) ++ wd_C g h u x n) := hD
    refine lv_goto (tgt := 15) hx hb d_LW_unreachable_9 (by decide) ?_
    refine lv_iconst (v := (0 : Int32)) hx hb d_LW_unreachable_15 (by decide) ?_
    rw [hQ, hk]
    exact kri hx hb hr hlocks hAe hP hK hD hS d_LW_unreachable_16
  · have hM := c_AM_unreachable hG hGn hGs hGt l hst dC dI g F H.size h (u 0) (x 0) (u 2) (x 2) n a1 hm
    rw [hk] at hM
    refine kcTP (k := 1) (hpc := 12) (wc := wd_AM g h (u 0) (x 0) ++ wd_Points g ((u 0) 1) (u 2) (x 2) n) (wr := wd_O g ho f ++ wd_Text g ((u 0) 0) (u 1) (x 1) ++ wd_LA g ((u 0) 2) (u 3) ++ wd_LS g (u 3) (fun j => u (10 + j)) (fun j => x (10 + j)) ++ wd_Events g ((u 0) 3) (u 4) (x 4) ++ wd_Plan g ((u 0) 4) (u 5) (x 5) ++ wd_Zones g ((u 5) 0) (u 6) (x 6) ++ wd_Acts g ((u 5) 1) (u 7) (x 7) ++ wd_Plan g ((u 0) 5) (u 8) (x 8) ++ wd_Zones g ((u 8) 0) (u 9) (x 9) ++ wd_Acts g ((u 8) 1) (u 18) (x 18)) (w1 := wd_AM g h (u 0) (x 0) ++ wd_Points g ((u 0) 1) (u 2) (x 2) n) (As := [.int a1]) (rest := [.int (0 : Int32), .ref ho]) ⟨hx, hb, hml, hown, hts⟩ hM (by decide) (cwV 1 hts (gdV k4_130 k4_131 k4_132 k1_1 k4_133) rfl rfl rfl (by decide +kernel) ⟨Nat.le_of_ble_eq_true rfl, Nat.le_of_ble_eq_true rfl⟩) (kpVP hG hP hK hD hS hA hGA (ci := 0) (q0 := 0) rfl rfl rfl) rfl hl.1 (lv_room (Nat.le_of_ble_eq_true rfl)) d_LW_unreachable_4 ⟨Nat.le_of_ble_eq_true rfl, Nat.le_of_ble_eq_true rfl⟩ hP hD hS hA (fun E hE => ?_) (fun q H locs hP hD hS => ?_)
    · rcases hE with ⟨-, rfl⟩ | ⟨h9, -⟩
      · exact kHand1 htab (by decide) (by decide) (hts _ k3_95) (gHand hGt hGA).1
      · cases h9
    · have hP : va_P (dC, dI) vwCl (wd_O g ho f ++ wd_C g h u x n) H := hP.perm (pm_LW_unreachable (wd_O g ho f) (wd_AM g h (u 0) (x 0)) (wd_Text g ((u 0) 0) (u 1) (x 1)) (wd_Points g ((u 0) 1) (u 2) (x 2) n) (wd_LA g ((u 0) 2) (u 3)) (wd_LS g (u 3) (fun j => u (10 + j)) (fun j => x (10 + j))) (wd_Events g ((u 0) 3) (u 4) (x 4)) (wd_Plan g ((u 0) 4) (u 5) (x 5)) (wd_Zones g ((u 5) 0) (u 6) (x 6)) (wd_Acts g ((u 5) 1) (u 7) (x 7)) (wd_Plan g ((u 0) 5) (u 8) (x 8)) (wd_Zones g ((u 8) 0) (u 9) (x 9)) (wd_Acts g ((u 8) 1) (u 18) (x 18))).symm
      have hD : va_D A (wd_O g ho f ++ wd_C g h u x n) := hD.perm (pm_LW_unreachable (wd_O g ho f) (wd_AM g h (u 0) (x 0)) (wd_Text g ((u 0) 0) (u 1) (x 1)) (wd_Points g ((u 0) 1) (u 2) (x 2) n) (wd_LA g ((u 0) 2) (u 3)) (wd_LS g (u 3) (fun j => u (10 + j)) (fun j => x (10 + j))) (wd_Events g ((u 0) 3) (u 4) (x 4)) (wd_Plan g ((u 0) 4) (u 5) (x 5)) (wd_Zones g ((u 5) 0) (u 6) (x 6)) (wd_Acts g ((u 5) 1) (u 7) (x 7)) (wd_Plan g ((u 0) 5) (u 8) (x 8)) (wd_Zones g ((u 8) 0) (u 9) (x 9)) (wd_Acts g ((u 8) 1) (u 18) (x 18))).symm
      refine lv_astore_n (lv' := [(3, .ref q), (0, .ref h), (1, .int a1), (2, .ref ho)]) hx hb d_LW_unreachable_12 rfl hl (by decide) rfl (fun ls hl => ?_)
      refine lv_iconst (v := (1 : Int32)) hx hb d_LW_unreachable_13 (by decide) ?_
      rw [hQ, hk]
      exact kri hx hb hr hlocks hAe hP hK hD hS d_LW_unreachable_14
abbrev b_LW_ticks : ByteArray := method_13_code
abbrev y_LW_ticks : MethodName := ⟨"AlarmMatrixLaw", "ticks", "(LAlarmMatrix;I[J)I"⟩
theorem d_LW_ticks_0 : decode b_LW_ticks 0 = .ok (.aload_n 2, 1) := by decide +kernel
theorem d_LW_ticks_1 : decode b_LW_ticks 1 = .ok (.iconst 0, 1) := by decide +kernel
theorem d_LW_ticks_2 : decode b_LW_ticks 2 = .ok (.aload_n 0, 1) := by decide +kernel
theorem d_LW_ticks_3 : decode b_LW_ticks 3 = .ok (.iload_n 1, 1) := by decide +kernel
theorem d_LW_ticks_4 : decode b_LW_ticks 4 = .ok (.invokevirtual 48, 3) := by decide +kernel
theorem d_LW_ticks_7 : decode b_LW_ticks 7 = .ok (.i2l, 1) := by decide +kernel
theorem d_LW_ticks_8 : decode b_LW_ticks 8 = .ok (.lastore, 1) := by decide +kernel
theorem d_LW_ticks_9 : decode b_LW_ticks 9 = .ok (.goto 9, 3) := by decide +kernel
theorem d_LW_ticks_12 : decode b_LW_ticks 12 = .ok (.astore_n 3, 1) := by decide +kernel
theorem d_LW_ticks_13 : decode b_LW_ticks 13 = .ok (.iconst 1, 1) := by decide +kernel
theorem d_LW_ticks_14 : decode b_LW_ticks 14 = .ok (.ireturn, 1) := by decide +kernel
theorem d_LW_ticks_15 : decode b_LW_ticks 15 = .ok (.astore_n 3, 1) := by decide +kernel
theorem d_LW_ticks_16 : decode b_LW_ticks 16 = .ok (.iconst 2, 1) := by decide +kernel
theorem d_LW_ticks_17 : decode b_LW_ticks 17 = .ok (.ireturn, 1) := by decide +kernel
theorem d_LW_ticks_18 : decode b_LW_ticks 18 = .ok (.iconst 0, 1) := by decide +kernel
theorem d_LW_ticks_19 : decode b_LW_ticks 19 = .ok (.ireturn, 1) := by decide +kernel
abbrev hh_LW_ticks : List (Nat × Nat × Nat × Nat) := [(0, 9, 12, 13), (0, 9, 15, 15)]
abbrev rm_LW_ticks : Room := { frames := 7, cells := 1, slots := 6, locals := 119 }
theorem pm_LW_ticks {α : Type} (B0 B1 B2 B3 B4 B5 B6 B7 B8 B9 B10 B11 B12 : List α) : (B0 ++ (B1 ++ B2 ++ B3 ++ B4 ++ B5 ++ B6 ++ B7 ++ B8 ++ B9 ++ B10 ++ B11 ++ B12)).Perm ((B1 ++ B6 ++ B7 ++ B3 ++ B9 ++ B8) ++ (B0 ++ B2 ++ B4 ++ B5 ++ B10 ++ B11 ++ B12)) := by
  classical
  refine List.perm_iff_count.mpr (fun a => ?_)
  simp only [List.count_append, List.count_nil]
  omega
set_option maxHeartbeats 40000000 in
set_option maxRecDepth 100000 in
theorem c_LW_ticks {G : (Nat → Prop) → State → Prop} (hG : gok G) (hGn : gN G) {adK adV : Nat → Nat} (hGs : gSt adK adV G) (hGt : gTh G) (hGc : gNC G) (l : Launch) (hst : l.stackTraces = false) (dC : Nat → ClassId) (dI : Nat → Nat → Nat) (g : Nat → ClassId) (F : Nat) (sz : Nat) (h : Nat) (u : Nat → Nat → Nat) (x : Nat → St) (n : Nat) (ho : Nat) (f : Nat → Int64) (a1 : Int32) {o : Nat × Int32 × St × St × St × St} (hm : m_AM_ticks F (x 0) (x 4) (x 5) (x 2) n (x 7) (x 6) a1 = some o) (hk : o.1 = 0 ∨ o.1 = 1 ∨ o.1 = 2) : Met l y_LW_ticks (.codeWith y_LW_ticks b_LW_ticks 4 (some .int) hh_LW_ticks :: gw) rm_LW_ticks (kq (dC, dI) vwCl (tyv g) G [.ref h, .int a1, .ref ho] sz (wd_O g ho f ++ wd_C g h u x n)) (kqi (dC, dI) vwCl (tyv g) (wd_O g ho f ++ wd_C g h u x n) (nI o.1) (wd_O g ho (ot o.1 o.2.1 f) ++ wd_C g h u (up (up (up (up x 0 (o.2.2.1)) 4 (o.2.2.2.1)) 7 (o.2.2.2.2.1)) 6 (o.2.2.2.2.2)) n) sz) 1 6 (va_A (wd_O g ho f ++ wd_C g h u x n) sz) := by
  refine kmW (Qc := fun sz => kqi (dC, dI) vwCl (tyv g) (wd_O g ho f ++ wd_C g h u x n) (nI o.1) (wd_O g ho (ot o.1 o.2.1 f) ++ wd_C g h u (up (up (up (up x 0 (o.2.2.1)) 4 (o.2.2.2.1)) 7 (o.2.2.2.2.1)) 6 (o.2.2.2.2.2)) n) sz) (cc := b_LW_ticks) (maxL := 4) (ret := some .int) (hh := hh_LW_ticks) (by decide) rfl (Nat.le_of_ble_eq_true rfl) ?_
  intro p e s m args below meth c Q hQ hx hb hr hts hown hlocks hml htab H locs A hAe hA hP hK hD hS hGA ls hl
  have hl : lv_has ls 4 [(0, .ref h), (1, .int a1), (2, .ref ho)] := hl
  have hts : ∀ w ∈ gw, w.before args s = true := fun w h => hts w (List.mem_cons_of_mem _ h)
  have hown : s.vm.findClass "AlarmMatrixLaw" = some m.cls := hown
  refine lv_aload_n hx hb d_LW_ticks_0 rfl (lv_at hl 2 rfl) ?_
  refine lv_iconst (v := (0 : Int32)) hx hb d_LW_ticks_1 (by decide) ?_
  refine lv_aload_n hx hb d_LW_ticks_2 rfl (lv_at hl 0 rfl) ?_
  refine lv_iload_n hx hb d_LW_ticks_3 rfl (lv_at hl 1 rfl) ?_
  have hP : va_P (dC, dI) vwCl ((wd_AM g h (u 0) (x 0) ++ wd_Events g ((u 0) 3) (u 4) (x 4) ++ wd_Plan g ((u 0) 4) (u 5) (x 5) ++ wd_Points g ((u 0) 1) (u 2) (x 2) n ++ wd_Acts g ((u 5) 1) (u 7) (x 7) ++ wd_Zones g ((u 5) 0) (u 6) (x 6)) ++ (wd_O g ho f ++ wd_Text g ((u 0) 0) (u 1) (x 1) ++ wd_LA g ((u 0) 2) (u 3) ++ wd_LS g (u 3) (fun j => u (10 + j)) (fun j => x (10 + j)) ++ wd_Plan g ((u 0) 5) (u 8) (x 8) ++ wd_Zones g ((u 8) 0) (u 9) (x 9) ++ wd_Acts g ((u 8) 1) (u 18) (x 18))) H := hP.perm (pm_LW_ticks _ _ _ _ _ _ _ _ _ _ _ _ _)
  have hD : va_D A ((wd_AM g h (u 0) (x 0) ++ wd_Events g ((u 0) 3) (u 4) (x 4) ++ wd_Plan g ((u 0) 4) (u 5) (x 5) ++ wd_Points g ((u 0) 1) (u 2) (x 2) n ++ wd_Acts g ((u 5) 1) (u 7) (x 7) ++ wd_Zones g ((u 5) 0) (u 6) (x 6)) ++ (wd_O g ho f ++ wd_Text g ((u 0) 0) (u 1) (x 1) ++ wd_LA g ((u 0) 2) (u 3) ++ wd_LS g (u 3) (fun j => u (10 + j)) (fun j => x (10 + j)) ++ wd_Plan g ((u 0) 5) (u 8) (x 8) ++ wd_Zones g ((u 8) 0) (u 9) (x 9) ++ wd_Acts g ((u 8) 1) (u 18) (x 18))) := hD.perm (pm_LW_ticks _ _ _ _ _ _ _ _ _ _ _ _ _)
  rcases hk with hk | hk | hk
  · have hM := c_AM_ticks hG hGn hGs hGt l hst dC dI g F H.size h (u 0) (x 0) (u 4) (x 4) (u 5) (x 5) (u 2) (x 2) n (u 7) (x 7) (u 6) (x 6) a1 hm
    rw [hk] at hM
    refine kciP (wc := wd_AM g h (u 0) (x 0) ++ wd_Events g ((u 0) 3) (u 4) (x 4) ++ wd_Plan g ((u 0) 4) (u 5) (x 5) ++ wd_Points g ((u 0) 1) (u 2) (x 2) n ++ wd_Acts g ((u 5) 1) (u 7) (x 7) ++ wd_Zones g ((u 5) 0) (u 6) (x 6)) (wr := wd_O g ho f ++ wd_Text g ((u 0) 0) (u 1) (x 1) ++ wd_LA g ((u 0) 2) (u 3) ++ wd_LS g (u 3) (fun j => u (10 + j)) (fun j => x (10 + j)) ++ wd_Plan g ((u 0) 5) (u 8) (x 8) ++ wd_Zones g ((u 8) 0) (u 9) (x 9) ++ wd_Acts g ((u 8) 1) (u 18) (x 18)) (w1 := wd_AM g h (u 0) (o.2.2.1) ++ wd_Events g ((u 0) 3) (u 4) (o.2.2.2.1) ++ wd_Plan g ((u 0) 4) (u 5) (x 5) ++ wd_Points g ((u 0) 1) (u 2) (x 2) n ++ wd_Acts g ((u 5) 1) (u 7) (o.2.2.2.2.1) ++ wd_Zones g ((u 5) 0) (u 6) (o.2.2.2.2.2)) hP hD hS hA (va_runV (As := [.int a1]) (rest := [.int (0 : Int32), .ref ho]) ⟨hx, hb, hml, hown, hts⟩ hM.met (cwV 1 hts (gdV k4_142 k4_143 k4_144 k1_1 k4_145) rfl rfl rfl (by decide +kernel) ⟨Nat.le_of_ble_eq_true rfl, Nat.le_of_ble_eq_true rfl⟩) (kpVP hG hP hK hD hS hA hGA (ci := 0) (q0 := 0) rfl rfl rfl) rfl rfl hl.1 rfl (lv_room (Nat.le_of_ble_eq_true rfl)) d_LW_ticks_4 ⟨Nat.le_of_ble_eq_true rfl, Nat.le_of_ble_eq_true rfl⟩) (fun H locs hP hD hS => ?_)
    have hP : va_P (dC, dI) vwCl (wd_O g ho f ++ wd_C g h u (up (up (up (up x 0 (o.2.2.1)) 4 (o.2.2.2.1)) 7 (o.2.2.2.2.1)) 6 (o.2.2.2.2.2)) n) H := hP.perm (pm_LW_ticks (wd_O g ho f) (wd_AM g h (u 0) (o.2.2.1)) (wd_Text g ((u 0) 0) (u 1) (x 1)) (wd_Points g ((u 0) 1) (u 2) (x 2) n) (wd_LA g ((u 0) 2) (u 3)) (wd_LS g (u 3) (fun j => u (10 + j)) (fun j => x (10 + j))) (wd_Events g ((u 0) 3) (u 4) (o.2.2.2.1)) (wd_Plan g ((u 0) 4) (u 5) (x 5)) (wd_Zones g ((u 5) 0) (u 6) (o.2.2.2.2.2)) (wd_Acts g ((u 5) 1) (u 7) (o.2.2.2.2.1)) (wd_Plan g ((u 0) 5) (u 8) (x 8)) (wd_Zones g ((u 8) 0) (u 9) (x 9)) (wd_Acts g ((u 8) 1) (u 18) (x 18))).symm
    have hD : va_D A (wd_O g ho f ++ wd_C g h u (up (up (up (up x 0 (o.2.2.1)) 4 (o.2.2.2.1)) 7 (o.2.2.2.2.1)) 6 (o.2.2.2.2.2)) n) := hD.perm (pm_LW_ticks (wd_O g ho f) (wd_AM g h (u 0) (o.2.2.1)) (wd_Text g ((u 0) 0) (u 1) (x 1)) (wd_Points g ((u 0) 1) (u 2) (x 2) n) (wd_LA g ((u 0) 2) (u 3)) (wd_LS g (u 3) (fun j => u (10 + j)) (fun j => x (10 + j))) (wd_Events g ((u 0) 3) (u 4) (o.2.2.2.1)) (wd_Plan g ((u 0) 4) (u 5) (x 5)) (wd_Zones g ((u 5) 0) (u 6) (o.2.2.2.2.2)) (wd_Acts g ((u 5) 1) (u 7) (o.2.2.2.2.1)) (wd_Plan g ((u 0) 5) (u 8) (x 8)) (wd_Zones g ((u 8) 0) (u 9) (x 9)) (wd_Acts g ((u 8) 1) (u 18) (x 18))).symm
    refine lv_i2l (v := (o.2.1).toInt64) hx hb d_LW_ticks_7 rfl ?_
    refine va_last (f := f) hx hb hK hP hD hS 0 4 rfl rfl (by unfold vp_in; decide) d_LW_ticks_8 (fun H locs hP hD hS => ?_)
    have hP : va_P (dC, dI) vwCl (wd_O g ho (vp_updL f (0 : Int32).toNatClampNeg (o.2.1).toInt64) ++ wd_C g h u (up (up (up (up x 0 (o.2.2.1)) 4 (o.2.2.2.1)) 7 (o.2.2.2.2.1)) 6 (o.2.2.2.2.2)) n) H := hP
    have hD : va_D A (wd_O g ho (vp_updL f (0 : Int32).toNatClampNeg (o.2.1).toInt64) ++ wd_C g h u (up (up (up (up x 0 (o.2.2.1)) 4 (o.2.2.2.1)) 7 (o.2.2.2.2.1)) 6 (o.2.2.2.2.2)) n) := hD
    refine lv_goto (tgt := 18) hx hb d_LW_ticks_9 (by decide) ?_
    refine lv_iconst (v := (0 : Int32)) hx hb d_LW_ticks_18 (by decide) ?_
    rw [hQ, hk]
    exact kri hx hb hr hlocks hAe hP hK hD hS d_LW_ticks_19
  · have hM := c_AM_ticks hG hGn hGs hGt l hst dC dI g F H.size h (u 0) (x 0) (u 4) (x 4) (u 5) (x 5) (u 2) (x 2) n (u 7) (x 7) (u 6) (x 6) a1 hm
    rw [hk] at hM
    refine kcTP (k := 1) (hpc := 12) (wc := wd_AM g h (u 0) (x 0) ++ wd_Events g ((u 0) 3) (u 4) (x 4) ++ wd_Plan g ((u 0) 4) (u 5) (x 5) ++ wd_Points g ((u 0) 1) (u 2) (x 2) n ++ wd_Acts g ((u 5) 1) (u 7) (x 7) ++ wd_Zones g ((u 5) 0) (u 6) (x 6)) (wr := wd_O g ho f ++ wd_Text g ((u 0) 0) (u 1) (x 1) ++ wd_LA g ((u 0) 2) (u 3) ++ wd_LS g (u 3) (fun j => u (10 + j)) (fun j => x (10 + j)) ++ wd_Plan g ((u 0) 5) (u 8) (x 8) ++ wd_Zones g ((u 8) 0) (u 9) (x 9) ++ wd_Acts g ((u 8) 1) (u 18) (x 18)) (w1 := wd_AM g h (u 0) (o.2.2.1) ++ wd_Events g ((u 0) 3) (u 4) (o.2.2.2.1) ++ wd_Plan g ((u 0) 4) (u 5) (x 5) ++ wd_Points g ((u 0) 1) (u 2) (x 2) n ++ wd_Acts g ((u 5) 1) (u 7) (o.2.2.2.2.1) ++ wd_Zones g ((u 5) 0) (u 6) (o.2.2.2.2.2)) (As := [.int a1]) (rest := [.int (0 : Int32), .ref ho]) ⟨hx, hb, hml, hown, hts⟩ hM (by decide) (cwV 1 hts (gdV k4_142 k4_143 k4_144 k1_1 k4_145) rfl rfl rfl (by decide +kernel) ⟨Nat.le_of_ble_eq_true rfl, Nat.le_of_ble_eq_true rfl⟩) (kpVP hG hP hK hD hS hA hGA (ci := 0) (q0 := 0) rfl rfl rfl) rfl hl.1 (lv_room (Nat.le_of_ble_eq_true rfl)) d_LW_ticks_4 ⟨Nat.le_of_ble_eq_true rfl, Nat.le_of_ble_eq_true rfl⟩ hP hD hS hA (fun E hE => ?_) (fun q H locs hP hD hS => ?_)
    · rcases hE with ⟨-, rfl⟩ | ⟨h9, -⟩
      · exact kHand1 htab (by decide) (by decide) (hts _ k3_95) (gHand hGt hGA).1
      · cases h9
    · have hP : va_P (dC, dI) vwCl (wd_O g ho f ++ wd_C g h u (up (up (up (up x 0 (o.2.2.1)) 4 (o.2.2.2.1)) 7 (o.2.2.2.2.1)) 6 (o.2.2.2.2.2)) n) H := hP.perm (pm_LW_ticks (wd_O g ho f) (wd_AM g h (u 0) (o.2.2.1)) (wd_Text g ((u 0) 0) (u 1) (x 1)) (wd_Points g ((u 0) 1) (u 2) (x 2) n) (wd_LA g ((u 0) 2) (u 3)) (wd_LS g (u 3) (fun j => u (10 + j)) (fun j => x (10 + j))) (wd_Events g ((u 0) 3) (u 4) (o.2.2.2.1)) (wd_Plan g ((u 0) 4) (u 5) (x 5)) (wd_Zones g ((u 5) 0) (u 6) (o.2.2.2.2.2)) (wd_Acts g ((u 5) 1) (u 7) (o.2.2.2.2.1)) (wd_Plan g ((u 0) 5) (u 8) (x 8)) (wd_Zones g ((u 8) 0) (u 9) (x 9)) (wd_Acts g ((u 8) 1) (u 18) (x 18))).symm
      have hD : va_D A (wd_O g ho f ++ wd_C g h u (up (up (up (up x 0 (o.2.2.1)) 4 (o.2.2.2.1)) 7 (o.2.2.2.2.1)) 6 (o.2.2.2.2.2)) n) := hD.perm (pm_LW_ticks (wd_O g ho f) (wd_AM g h (u 0) (o.2.2.1)) (wd_Text g ((u 0) 0) (u 1) (x 1)) (wd_Points g ((u 0) 1) (u 2) (x 2) n) (wd_LA g ((u 0) 2) (u 3)) (wd_LS g (u 3) (fun j => u (10 + j)) (fun j => x (10 + j))) (wd_Events g ((u 0) 3) (u 4) (o.2.2.2.1)) (wd_Plan g ((u 0) 4) (u 5) (x 5)) (wd_Zones g ((u 5) 0) (u 6) (o.2.2.2.2.2)) (wd_Acts g ((u 5) 1) (u 7) (o.2.2.2.2.1)) (wd_Plan g ((u 0) 5) (u 8) (x 8)) (wd_Zones g ((u 8) 0) (u 9) (x 9)) (wd_Acts g ((u 8) 1) (u 18) (x 18))).symm
      refine lv_astore_n (lv' := [(3, .ref q), (0, .ref h), (1, .int a1), (2, .ref ho)]) hx hb d_LW_ticks_12 rfl hl (by decide) rfl (fun ls hl => ?_)
      refine lv_iconst (v := (1 : Int32)) hx hb d_LW_ticks_13 (by decide) ?_
      rw [hQ, hk]
      exact kri hx hb hr hlocks hAe hP hK hD hS d_LW_ticks_14
  · have hM := c_AM_ticks hG hGn hGs hGt l hst dC dI g F H.size h (u 0) (x 0) (u 4) (x 4) (u 5) (x 5) (u 2) (x 2) n (u 7) (x 7) (u 6) (x 6) a1 hm
    rw [hk] at hM
    refine kcTP (k := 2) (hpc := 15) (wc := wd_AM g h (u 0) (x 0) ++ wd_Events g ((u 0) 3) (u 4) (x 4) ++ wd_Plan g ((u 0) 4) (u 5) (x 5) ++ wd_Points g ((u 0) 1) (u 2) (x 2) n ++ wd_Acts g ((u 5) 1) (u 7) (x 7) ++ wd_Zones g ((u 5) 0) (u 6) (x 6)) (wr := wd_O g ho f ++ wd_Text g ((u 0) 0) (u 1) (x 1) ++ wd_LA g ((u 0) 2) (u 3) ++ wd_LS g (u 3) (fun j => u (10 + j)) (fun j => x (10 + j)) ++ wd_Plan g ((u 0) 5) (u 8) (x 8) ++ wd_Zones g ((u 8) 0) (u 9) (x 9) ++ wd_Acts g ((u 8) 1) (u 18) (x 18)) (w1 := wd_AM g h (u 0) (o.2.2.1) ++ wd_Events g ((u 0) 3) (u 4) (o.2.2.2.1) ++ wd_Plan g ((u 0) 4) (u 5) (x 5) ++ wd_Points g ((u 0) 1) (u 2) (x 2) n ++ wd_Acts g ((u 5) 1) (u 7) (o.2.2.2.2.1) ++ wd_Zones g ((u 5) 0) (u 6) (o.2.2.2.2.2)) (As := [.int a1]) (rest := [.int (0 : Int32), .ref ho]) ⟨hx, hb, hml, hown, hts⟩ hM (by decide) (cwV 1 hts (gdV k4_142 k4_143 k4_144 k1_1 k4_145) rfl rfl rfl (by decide +kernel) ⟨Nat.le_of_ble_eq_true rfl, Nat.le_of_ble_eq_true rfl⟩) (kpVP hG hP hK hD hS hA hGA (ci := 0) (q0 := 0) rfl rfl rfl) rfl hl.1 (lv_room (Nat.le_of_ble_eq_true rfl)) d_LW_ticks_4 ⟨Nat.le_of_ble_eq_true rfl, Nat.le_of_ble_eq_true rfl⟩ hP hD hS hA (fun E hE => ?_) (fun q H locs hP hD hS => ?_)
    · rcases hE with ⟨h9, -⟩ | ⟨-, rfl⟩
      · cases h9
      · exact kHand2 htab (by decide) (by decide) (by decide) (by decide) (hts _ k3_95) (gHandN hGc hGA) (hts _ k3_96) (gHand hGt hGA).2
    · have hP : va_P (dC, dI) vwCl (wd_O g ho f ++ wd_C g h u (up (up (up (up x 0 (o.2.2.1)) 4 (o.2.2.2.1)) 7 (o.2.2.2.2.1)) 6 (o.2.2.2.2.2)) n) H := hP.perm (pm_LW_ticks (wd_O g ho f) (wd_AM g h (u 0) (o.2.2.1)) (wd_Text g ((u 0) 0) (u 1) (x 1)) (wd_Points g ((u 0) 1) (u 2) (x 2) n) (wd_LA g ((u 0) 2) (u 3)) (wd_LS g (u 3) (fun j => u (10 + j)) (fun j => x (10 + j))) (wd_Events g ((u 0) 3) (u 4) (o.2.2.2.1)) (wd_Plan g ((u 0) 4) (u 5) (x 5)) (wd_Zones g ((u 5) 0) (u 6) (o.2.2.2.2.2)) (wd_Acts g ((u 5) 1) (u 7) (o.2.2.2.2.1)) (wd_Plan g ((u 0) 5) (u 8) (x 8)) (wd_Zones g ((u 8) 0) (u 9) (x 9)) (wd_Acts g ((u 8) 1) (u 18) (x 18))).symm
      have hD : va_D A (wd_O g ho f ++ wd_C g h u (up (up (up (up x 0 (o.2.2.1)) 4 (o.2.2.2.1)) 7 (o.2.2.2.2.1)) 6 (o.2.2.2.2.2)) n) := hD.perm (pm_LW_ticks (wd_O g ho f) (wd_AM g h (u 0) (o.2.2.1)) (wd_Text g ((u 0) 0) (u 1) (x 1)) (wd_Points g ((u 0) 1) (u 2) (x 2) n) (wd_LA g ((u 0) 2) (u 3)) (wd_LS g (u 3) (fun j => u (10 + j)) (fun j => x (10 + j))) (wd_Events g ((u 0) 3) (u 4) (o.2.2.2.1)) (wd_Plan g ((u 0) 4) (u 5) (x 5)) (wd_Zones g ((u 5) 0) (u 6) (o.2.2.2.2.2)) (wd_Acts g ((u 5) 1) (u 7) (o.2.2.2.2.1)) (wd_Plan g ((u 0) 5) (u 8) (x 8)) (wd_Zones g ((u 8) 0) (u 9) (x 9)) (wd_Acts g ((u 8) 1) (u 18) (x 18))).symm
      refine lv_astore_n (lv' := [(3, .ref q), (0, .ref h), (1, .int a1), (2, .ref ho)]) hx hb d_LW_ticks_15 rfl hl (by decide) rfl (fun ls hl => ?_)
      refine lv_iconst (v := (2 : Int32)) hx hb d_LW_ticks_16 (by decide) ?_
      rw [hQ, hk]
      exact kri hx hb hr hlocks hAe hP hK hD hS d_LW_ticks_17
abbrev b_LW_person : ByteArray := method_14_code
abbrev y_LW_person : MethodName := ⟨"AlarmMatrixLaw", "person", "(LAlarmMatrix;I[J)I"⟩
theorem d_LW_person_0 : decode b_LW_person 0 = .ok (.aload_n 2, 1) := by decide +kernel
theorem d_LW_person_1 : decode b_LW_person 1 = .ok (.iconst 0, 1) := by decide +kernel
theorem d_LW_person_2 : decode b_LW_person 2 = .ok (.aload_n 0, 1) := by decide +kernel
theorem d_LW_person_3 : decode b_LW_person 3 = .ok (.iload_n 1, 1) := by decide +kernel
theorem d_LW_person_4 : decode b_LW_person 4 = .ok (.invokevirtual 51, 3) := by decide +kernel
theorem d_LW_person_7 : decode b_LW_person 7 = .ok (.i2l, 1) := by decide +kernel
theorem d_LW_person_8 : decode b_LW_person 8 = .ok (.lastore, 1) := by decide +kernel
theorem d_LW_person_9 : decode b_LW_person 9 = .ok (.goto 6, 3) := by decide +kernel
theorem d_LW_person_12 : decode b_LW_person 12 = .ok (.astore_n 3, 1) := by decide +kernel
theorem d_LW_person_13 : decode b_LW_person 13 = .ok (.iconst 1, 1) := by decide +kernel
theorem d_LW_person_14 : decode b_LW_person 14 = .ok (.ireturn, 1) := by decide +kernel
theorem d_LW_person_15 : decode b_LW_person 15 = .ok (.iconst 0, 1) := by decide +kernel
theorem d_LW_person_16 : decode b_LW_person 16 = .ok (.ireturn, 1) := by decide +kernel
abbrev hh_LW_person : List (Nat × Nat × Nat × Nat) := [(0, 9, 12, 13)]
abbrev rm_LW_person : Room := { frames := 7, cells := 1, slots := 6, locals := 111 }
theorem pm_LW_person {α : Type} (B0 B1 B2 B3 B4 B5 B6 B7 B8 B9 B10 B11 B12 : List α) : (B0 ++ (B1 ++ B2 ++ B3 ++ B4 ++ B5 ++ B6 ++ B7 ++ B8 ++ B9 ++ B10 ++ B11 ++ B12)).Perm ((B1 ++ B7 ++ B9) ++ (B0 ++ B2 ++ B3 ++ B4 ++ B5 ++ B6 ++ B8 ++ B10 ++ B11 ++ B12)) := by
  classical
  refine List.perm_iff_count.mpr (fun a => ?_)
  simp only [List.count_append, List.count_nil]
  omega
set_option maxHeartbeats 40000000 in
set_option maxRecDepth 100000 in
theorem c_LW_person {G : (Nat → Prop) → State → Prop} (hG : gok G) (hGn : gN G) {adK adV : Nat → Nat} (hGs : gSt adK adV G) (hGt : gTh G) (hGc : gNC G) (l : Launch) (hst : l.stackTraces = false) (dC : Nat → ClassId) (dI : Nat → Nat → Nat) (g : Nat → ClassId) (F : Nat) (sz : Nat) (h : Nat) (u : Nat → Nat → Nat) (x : Nat → St) (n : Nat) (ho : Nat) (f : Nat → Int64) (a1 : Int32) {o : Nat × Int32 × St} (hm : m_AM_person F (x 0) (x 5) (x 7) a1 = some o) (hk : o.1 = 0 ∨ o.1 = 1) : Met l y_LW_person (.codeWith y_LW_person b_LW_person 4 (some .int) hh_LW_person :: gw) rm_LW_person (kq (dC, dI) vwCl (tyv g) G [.ref h, .int a1, .ref ho] sz (wd_O g ho f ++ wd_C g h u x n)) (kqi (dC, dI) vwCl (tyv g) (wd_O g ho f ++ wd_C g h u x n) (nI o.1) (wd_O g ho (ot o.1 o.2.1 f) ++ wd_C g h u (up x 7 (o.2.2)) n) sz) 1 6 (va_A (wd_O g ho f ++ wd_C g h u x n) sz) := by
  refine kmW (Qc := fun sz => kqi (dC, dI) vwCl (tyv g) (wd_O g ho f ++ wd_C g h u x n) (nI o.1) (wd_O g ho (ot o.1 o.2.1 f) ++ wd_C g h u (up x 7 (o.2.2)) n) sz) (cc := b_LW_person) (maxL := 4) (ret := some .int) (hh := hh_LW_person) (by decide) rfl (Nat.le_of_ble_eq_true rfl) ?_
  intro p e s m args below meth c Q hQ hx hb hr hts hown hlocks hml htab H locs A hAe hA hP hK hD hS hGA ls hl
  have hl : lv_has ls 4 [(0, .ref h), (1, .int a1), (2, .ref ho)] := hl
  have hts : ∀ w ∈ gw, w.before args s = true := fun w h => hts w (List.mem_cons_of_mem _ h)
  have hown : s.vm.findClass "AlarmMatrixLaw" = some m.cls := hown
  refine lv_aload_n hx hb d_LW_person_0 rfl (lv_at hl 2 rfl) ?_
  refine lv_iconst (v := (0 : Int32)) hx hb d_LW_person_1 (by decide) ?_
  refine lv_aload_n hx hb d_LW_person_2 rfl (lv_at hl 0 rfl) ?_
  refine lv_iload_n hx hb d_LW_person_3 rfl (lv_at hl 1 rfl) ?_
  have hP : va_P (dC, dI) vwCl ((wd_AM g h (u 0) (x 0) ++ wd_Plan g ((u 0) 4) (u 5) (x 5) ++ wd_Acts g ((u 5) 1) (u 7) (x 7)) ++ (wd_O g ho f ++ wd_Text g ((u 0) 0) (u 1) (x 1) ++ wd_Points g ((u 0) 1) (u 2) (x 2) n ++ wd_LA g ((u 0) 2) (u 3) ++ wd_LS g (u 3) (fun j => u (10 + j)) (fun j => x (10 + j)) ++ wd_Events g ((u 0) 3) (u 4) (x 4) ++ wd_Zones g ((u 5) 0) (u 6) (x 6) ++ wd_Plan g ((u 0) 5) (u 8) (x 8) ++ wd_Zones g ((u 8) 0) (u 9) (x 9) ++ wd_Acts g ((u 8) 1) (u 18) (x 18))) H := hP.perm (pm_LW_person _ _ _ _ _ _ _ _ _ _ _ _ _)
  have hD : va_D A ((wd_AM g h (u 0) (x 0) ++ wd_Plan g ((u 0) 4) (u 5) (x 5) ++ wd_Acts g ((u 5) 1) (u 7) (x 7)) ++ (wd_O g ho f ++ wd_Text g ((u 0) 0) (u 1) (x 1) ++ wd_Points g ((u 0) 1) (u 2) (x 2) n ++ wd_LA g ((u 0) 2) (u 3) ++ wd_LS g (u 3) (fun j => u (10 + j)) (fun j => x (10 + j)) ++ wd_Events g ((u 0) 3) (u 4) (x 4) ++ wd_Zones g ((u 5) 0) (u 6) (x 6) ++ wd_Plan g ((u 0) 5) (u 8) (x 8) ++ wd_Zones g ((u 8) 0) (u 9) (x 9) ++ wd_Acts g ((u 8) 1) (u 18) (x 18))) := hD.perm (pm_LW_person _ _ _ _ _ _ _ _ _ _ _ _ _)
  rcases hk with hk | hk
  · have hM := c_AM_person hG hGn hGs hGt l hst dC dI g F H.size h (u 0) (x 0) (u 5) (x 5) (u 7) (x 7) a1 hm
    rw [hk] at hM
    refine kciP (wc := wd_AM g h (u 0) (x 0) ++ wd_Plan g ((u 0) 4) (u 5) (x 5) ++ wd_Acts g ((u 5) 1) (u 7) (x 7)) (wr := wd_O g ho f ++ wd_Text g ((u 0) 0) (u 1) (x 1) ++ wd_Points g ((u 0) 1) (u 2) (x 2) n ++ wd_LA g ((u 0) 2) (u 3) ++ wd_LS g (u 3) (fun j => u (10 + j)) (fun j => x (10 + j)) ++ wd_Events g ((u 0) 3) (u 4) (x 4) ++ wd_Zones g ((u 5) 0) (u 6) (x 6) ++ wd_Plan g ((u 0) 5) (u 8) (x 8) ++ wd_Zones g ((u 8) 0) (u 9) (x 9) ++ wd_Acts g ((u 8) 1) (u 18) (x 18)) (w1 := wd_AM g h (u 0) (x 0) ++ wd_Plan g ((u 0) 4) (u 5) (x 5) ++ wd_Acts g ((u 5) 1) (u 7) (o.2.2)) hP hD hS hA (va_runV (As := [.int a1]) (rest := [.int (0 : Int32), .ref ho]) ⟨hx, hb, hml, hown, hts⟩ hM.met (cwV 1 hts (gdV k4_171 k4_172 k4_173 k1_1 k4_174) rfl rfl rfl (by decide +kernel) ⟨Nat.le_of_ble_eq_true rfl, Nat.le_of_ble_eq_true rfl⟩) (kpVP hG hP hK hD hS hA hGA (ci := 0) (q0 := 0) rfl rfl rfl) rfl rfl hl.1 rfl (lv_room (Nat.le_of_ble_eq_true rfl)) d_LW_person_4 ⟨Nat.le_of_ble_eq_true rfl, Nat.le_of_ble_eq_true rfl⟩) (fun H locs hP hD hS => ?_)
    have hP : va_P (dC, dI) vwCl (wd_O g ho f ++ wd_C g h u (up x 7 (o.2.2)) n) H := hP.perm (pm_LW_person (wd_O g ho f) (wd_AM g h (u 0) (x 0)) (wd_Text g ((u 0) 0) (u 1) (x 1)) (wd_Points g ((u 0) 1) (u 2) (x 2) n) (wd_LA g ((u 0) 2) (u 3)) (wd_LS g (u 3) (fun j => u (10 + j)) (fun j => x (10 + j))) (wd_Events g ((u 0) 3) (u 4) (x 4)) (wd_Plan g ((u 0) 4) (u 5) (x 5)) (wd_Zones g ((u 5) 0) (u 6) (x 6)) (wd_Acts g ((u 5) 1) (u 7) (o.2.2)) (wd_Plan g ((u 0) 5) (u 8) (x 8)) (wd_Zones g ((u 8) 0) (u 9) (x 9)) (wd_Acts g ((u 8) 1) (u 18) (x 18))).symm
    have hD : va_D A (wd_O g ho f ++ wd_C g h u (up x 7 (o.2.2)) n) := hD.perm (pm_LW_person (wd_O g ho f) (wd_AM g h (u 0) (x 0)) (wd_Text g ((u 0) 0) (u 1) (x 1)) (wd_Points g ((u 0) 1) (u 2) (x 2) n) (wd_LA g ((u 0) 2) (u 3)) (wd_LS g (u 3) (fun j => u (10 + j)) (fun j => x (10 + j))) (wd_Events g ((u 0) 3) (u 4) (x 4)) (wd_Plan g ((u 0) 4) (u 5) (x 5)) (wd_Zones g ((u 5) 0) (u 6) (x 6)) (wd_Acts g ((u 5) 1) (u 7) (o.2.2)) (wd_Plan g ((u 0) 5) (u 8) (x 8)) (wd_Zones g ((u 8) 0) (u 9) (x 9)) (wd_Acts g ((u 8) 1) (u 18) (x 18))).symm
    refine lv_i2l (v := (o.2.1).toInt64) hx hb d_LW_person_7 rfl ?_
    refine va_last (f := f) hx hb hK hP hD hS 0 4 rfl rfl (by unfold vp_in; decide) d_LW_person_8 (fun H locs hP hD hS => ?_)
    have hP : va_P (dC, dI) vwCl (wd_O g ho (vp_updL f (0 : Int32).toNatClampNeg (o.2.1).toInt64) ++ wd_C g h u (up x 7 (o.2.2)) n) H := hP
    have hD : va_D A (wd_O g ho (vp_updL f (0 : Int32).toNatClampNeg (o.2.1).toInt64) ++ wd_C g h u (up x 7 (o.2.2)) n) := hD
    refine lv_goto (tgt := 15) hx hb d_LW_person_9 (by decide) ?_
    refine lv_iconst (v := (0 : Int32)) hx hb d_LW_person_15 (by decide) ?_
    rw [hQ, hk]
    exact kri hx hb hr hlocks hAe hP hK hD hS d_LW_person_16
  · have hM := c_AM_person hG hGn hGs hGt l hst dC dI g F H.size h (u 0) (x 0) (u 5) (x 5) (u 7) (x 7) a1 hm
    rw [hk] at hM
    refine kcTP (k := 1) (hpc := 12) (wc := wd_AM g h (u 0) (x 0) ++ wd_Plan g ((u 0) 4) (u 5) (x 5) ++ wd_Acts g ((u 5) 1) (u 7) (x 7)) (wr := wd_O g ho f ++ wd_Text g ((u 0) 0) (u 1) (x 1) ++ wd_Points g ((u 0) 1) (u 2) (x 2) n ++ wd_LA g ((u 0) 2) (u 3) ++ wd_LS g (u 3) (fun j => u (10 + j)) (fun j => x (10 + j)) ++ wd_Events g ((u 0) 3) (u 4) (x 4) ++ wd_Zones g ((u 5) 0) (u 6) (x 6) ++ wd_Plan g ((u 0) 5) (u 8) (x 8) ++ wd_Zones g ((u 8) 0) (u 9) (x 9) ++ wd_Acts g ((u 8) 1) (u 18) (x 18)) (w1 := wd_AM g h (u 0) (x 0) ++ wd_Plan g ((u 0) 4) (u 5) (x 5) ++ wd_Acts g ((u 5) 1) (u 7) (o.2.2)) (As := [.int a1]) (rest := [.int (0 : Int32), .ref ho]) ⟨hx, hb, hml, hown, hts⟩ hM (by decide) (cwV 1 hts (gdV k4_171 k4_172 k4_173 k1_1 k4_174) rfl rfl rfl (by decide +kernel) ⟨Nat.le_of_ble_eq_true rfl, Nat.le_of_ble_eq_true rfl⟩) (kpVP hG hP hK hD hS hA hGA (ci := 0) (q0 := 0) rfl rfl rfl) rfl hl.1 (lv_room (Nat.le_of_ble_eq_true rfl)) d_LW_person_4 ⟨Nat.le_of_ble_eq_true rfl, Nat.le_of_ble_eq_true rfl⟩ hP hD hS hA (fun E hE => ?_) (fun q H locs hP hD hS => ?_)
    · rcases hE with ⟨-, rfl⟩ | ⟨h9, -⟩
      · exact kHand1 htab (by decide) (by decide) (hts _ k3_95) (gHand hGt hGA).1
      · cases h9
    · have hP : va_P (dC, dI) vwCl (wd_O g ho f ++ wd_C g h u (up x 7 (o.2.2)) n) H := hP.perm (pm_LW_person (wd_O g ho f) (wd_AM g h (u 0) (x 0)) (wd_Text g ((u 0) 0) (u 1) (x 1)) (wd_Points g ((u 0) 1) (u 2) (x 2) n) (wd_LA g ((u 0) 2) (u 3)) (wd_LS g (u 3) (fun j => u (10 + j)) (fun j => x (10 + j))) (wd_Events g ((u 0) 3) (u 4) (x 4)) (wd_Plan g ((u 0) 4) (u 5) (x 5)) (wd_Zones g ((u 5) 0) (u 6) (x 6)) (wd_Acts g ((u 5) 1) (u 7) (o.2.2)) (wd_Plan g ((u 0) 5) (u 8) (x 8)) (wd_Zones g ((u 8) 0) (u 9) (x 9)) (wd_Acts g ((u 8) 1) (u 18) (x 18))).symm
      have hD : va_D A (wd_O g ho f ++ wd_C g h u (up x 7 (o.2.2)) n) := hD.perm (pm_LW_person (wd_O g ho f) (wd_AM g h (u 0) (x 0)) (wd_Text g ((u 0) 0) (u 1) (x 1)) (wd_Points g ((u 0) 1) (u 2) (x 2) n) (wd_LA g ((u 0) 2) (u 3)) (wd_LS g (u 3) (fun j => u (10 + j)) (fun j => x (10 + j))) (wd_Events g ((u 0) 3) (u 4) (x 4)) (wd_Plan g ((u 0) 4) (u 5) (x 5)) (wd_Zones g ((u 5) 0) (u 6) (x 6)) (wd_Acts g ((u 5) 1) (u 7) (o.2.2)) (wd_Plan g ((u 0) 5) (u 8) (x 8)) (wd_Zones g ((u 8) 0) (u 9) (x 9)) (wd_Acts g ((u 8) 1) (u 18) (x 18))).symm
      refine lv_astore_n (lv' := [(3, .ref q), (0, .ref h), (1, .int a1), (2, .ref ho)]) hx hb d_LW_person_12 rfl hl (by decide) rfl (fun ls hl => ?_)
      refine lv_iconst (v := (1 : Int32)) hx hb d_LW_person_13 (by decide) ?_
      rw [hQ, hk]
      exact kri hx hb hr hlocks hAe hP hK hD hS d_LW_person_14
abbrev b_LW_act : ByteArray := method_15_code
abbrev y_LW_act : MethodName := ⟨"AlarmMatrixLaw", "act", "(LAlarmMatrix;II[J)I"⟩
theorem d_LW_act_0 : decode b_LW_act 0 = .ok (.aload_n 3, 1) := by decide +kernel
theorem d_LW_act_1 : decode b_LW_act 1 = .ok (.iconst 0, 1) := by decide +kernel
theorem d_LW_act_2 : decode b_LW_act 2 = .ok (.aload_n 0, 1) := by decide +kernel
theorem d_LW_act_3 : decode b_LW_act 3 = .ok (.iload_n 1, 1) := by decide +kernel
theorem d_LW_act_4 : decode b_LW_act 4 = .ok (.iload_n 2, 1) := by decide +kernel
theorem d_LW_act_5 : decode b_LW_act 5 = .ok (.invokevirtual 54, 3) := by decide +kernel
theorem d_LW_act_8 : decode b_LW_act 8 = .ok (.i2l, 1) := by decide +kernel
theorem d_LW_act_9 : decode b_LW_act 9 = .ok (.lastore, 1) := by decide +kernel
theorem d_LW_act_10 : decode b_LW_act 10 = .ok (.goto 7, 3) := by decide +kernel
theorem d_LW_act_13 : decode b_LW_act 13 = .ok (.astore 4, 2) := by decide +kernel
theorem d_LW_act_15 : decode b_LW_act 15 = .ok (.iconst 1, 1) := by decide +kernel
theorem d_LW_act_16 : decode b_LW_act 16 = .ok (.ireturn, 1) := by decide +kernel
theorem d_LW_act_17 : decode b_LW_act 17 = .ok (.iconst 0, 1) := by decide +kernel
theorem d_LW_act_18 : decode b_LW_act 18 = .ok (.ireturn, 1) := by decide +kernel
abbrev hh_LW_act : List (Nat × Nat × Nat × Nat) := [(0, 10, 13, 13)]
abbrev rm_LW_act : Room := { frames := 7, cells := 1, slots := 6, locals := 112 }
theorem pm_LW_act {α : Type} (B0 B1 B2 B3 B4 B5 B6 B7 B8 B9 B10 B11 B12 : List α) : (B0 ++ (B1 ++ B2 ++ B3 ++ B4 ++ B5 ++ B6 ++ B7 ++ B8 ++ B9 ++ B10 ++ B11 ++ B12)).Perm ((B1 ++ B7 ++ B9) ++ (B0 ++ B2 ++ B3 ++ B4 ++ B5 ++ B6 ++ B8 ++ B10 ++ B11 ++ B12)) := by
  classical
  refine List.perm_iff_count.mpr (fun a => ?_)
  simp only [List.count_append, List.count_nil]
  omega
set_option maxHeartbeats 40000000 in
set_option maxRecDepth 100000 in
theorem c_LW_act {G : (Nat → Prop) → State → Prop} (hG : gok G) (hGn : gN G) {adK adV : Nat → Nat} (hGs : gSt adK adV G) (hGt : gTh G) (hGc : gNC G) (l : Launch) (hst : l.stackTraces = false) (dC : Nat → ClassId) (dI : Nat → Nat → Nat) (g : Nat → ClassId) (F : Nat) (sz : Nat) (h : Nat) (u : Nat → Nat → Nat) (x : Nat → St) (n : Nat) (ho : Nat) (f : Nat → Int64) (a1 : Int32) (a2 : Int32) {o : Nat × Int32} (hm : m_AM_act F (x 0) (x 5) (x 7) a1 a2 = some o) (hk : o.1 = 0 ∨ o.1 = 1) : Met l y_LW_act (.codeWith y_LW_act b_LW_act 5 (some .int) hh_LW_act :: gw) rm_LW_act (kq (dC, dI) vwCl (tyv g) G [.ref h, .int a1, .int a2, .ref ho] sz (wd_O g ho f ++ wd_C g h u x n)) (kqi (dC, dI) vwCl (tyv g) (wd_O g ho f ++ wd_C g h u x n) (nI o.1) (wd_O g ho (ot o.1 o.2 f) ++ wd_C g h u x n) sz) 1 6 (va_A (wd_O g ho f ++ wd_C g h u x n) sz) := by
  refine kmW (Qc := fun sz => kqi (dC, dI) vwCl (tyv g) (wd_O g ho f ++ wd_C g h u x n) (nI o.1) (wd_O g ho (ot o.1 o.2 f) ++ wd_C g h u x n) sz) (cc := b_LW_act) (maxL := 5) (ret := some .int) (hh := hh_LW_act) (by decide) rfl (Nat.le_of_ble_eq_true rfl) ?_
  intro p e s m args below meth c Q hQ hx hb hr hts hown hlocks hml htab H locs A hAe hA hP hK hD hS hGA ls hl
  have hl : lv_has ls 5 [(0, .ref h), (1, .int a1), (2, .int a2), (3, .ref ho)] := hl
  have hts : ∀ w ∈ gw, w.before args s = true := fun w h => hts w (List.mem_cons_of_mem _ h)
  have hown : s.vm.findClass "AlarmMatrixLaw" = some m.cls := hown
  refine lv_aload_n hx hb d_LW_act_0 rfl (lv_at hl 3 rfl) ?_
  refine lv_iconst (v := (0 : Int32)) hx hb d_LW_act_1 (by decide) ?_
  refine lv_aload_n hx hb d_LW_act_2 rfl (lv_at hl 0 rfl) ?_
  refine lv_iload_n hx hb d_LW_act_3 rfl (lv_at hl 1 rfl) ?_
  refine lv_iload_n hx hb d_LW_act_4 rfl (lv_at hl 2 rfl) ?_
  have hP : va_P (dC, dI) vwCl ((wd_AM g h (u 0) (x 0) ++ wd_Plan g ((u 0) 4) (u 5) (x 5) ++ wd_Acts g ((u 5) 1) (u 7) (x 7)) ++ (wd_O g ho f ++ wd_Text g ((u 0) 0) (u 1) (x 1) ++ wd_Points g ((u 0) 1) (u 2) (x 2) n ++ wd_LA g ((u 0) 2) (u 3) ++ wd_LS g (u 3) (fun j => u (10 + j)) (fun j => x (10 + j)) ++ wd_Events g ((u 0) 3) (u 4) (x 4) ++ wd_Zones g ((u 5) 0) (u 6) (x 6) ++ wd_Plan g ((u 0) 5) (u 8) (x 8) ++ wd_Zones g ((u 8) 0) (u 9) (x 9) ++ wd_Acts g ((u 8) 1) (u 18) (x 18))) H := hP.perm (pm_LW_act _ _ _ _ _ _ _ _ _ _ _ _ _)
  have hD : va_D A ((wd_AM g h (u 0) (x 0) ++ wd_Plan g ((u 0) 4) (u 5) (x 5) ++ wd_Acts g ((u 5) 1) (u 7) (x 7)) ++ (wd_O g ho f ++ wd_Text g ((u 0) 0) (u 1) (x 1) ++ wd_Points g ((u 0) 1) (u 2) (x 2) n ++ wd_LA g ((u 0) 2) (u 3) ++ wd_LS g (u 3) (fun j => u (10 + j)) (fun j => x (10 + j)) ++ wd_Events g ((u 0) 3) (u 4) (x 4) ++ wd_Zones g ((u 5) 0) (u 6) (x 6) ++ wd_Plan g ((u 0) 5) (u 8) (x 8) ++ wd_Zones g ((u 8) 0) (u 9) (x 9) ++ wd_Acts g ((u 8) 1) (u 18) (x 18))) := hD.perm (pm_LW_act _ _ _ _ _ _ _ _ _ _ _ _ _)
  rcases hk with hk | hk
  · have hM := c_AM_act hG hGn hGs hGt l hst dC dI g F H.size h (u 0) (x 0) (u 5) (x 5) (u 7) (x 7) a1 a2 hm
    rw [hk] at hM
    refine kciP (wc := wd_AM g h (u 0) (x 0) ++ wd_Plan g ((u 0) 4) (u 5) (x 5) ++ wd_Acts g ((u 5) 1) (u 7) (x 7)) (wr := wd_O g ho f ++ wd_Text g ((u 0) 0) (u 1) (x 1) ++ wd_Points g ((u 0) 1) (u 2) (x 2) n ++ wd_LA g ((u 0) 2) (u 3) ++ wd_LS g (u 3) (fun j => u (10 + j)) (fun j => x (10 + j)) ++ wd_Events g ((u 0) 3) (u 4) (x 4) ++ wd_Zones g ((u 5) 0) (u 6) (x 6) ++ wd_Plan g ((u 0) 5) (u 8) (x 8) ++ wd_Zones g ((u 8) 0) (u 9) (x 9) ++ wd_Acts g ((u 8) 1) (u 18) (x 18)) (w1 := wd_AM g h (u 0) (x 0) ++ wd_Plan g ((u 0) 4) (u 5) (x 5) ++ wd_Acts g ((u 5) 1) (u 7) (x 7)) hP hD hS hA (va_runV (As := [.int a1, .int a2]) (rest := [.int (0 : Int32), .ref ho]) ⟨hx, hb, hml, hown, hts⟩ hM.met (cwV 2 hts (gdV k4_187 k4_188 k4_189 k1_1 k4_190) rfl rfl rfl (by decide +kernel) ⟨Nat.le_of_ble_eq_true rfl, Nat.le_of_ble_eq_true rfl⟩) (kpVP hG hP hK hD hS hA hGA (ci := 0) (q0 := 0) rfl rfl rfl) rfl rfl hl.1 rfl (lv_room (Nat.le_of_ble_eq_true rfl)) d_LW_act_5 ⟨Nat.le_of_ble_eq_true rfl, Nat.le_of_ble_eq_true rfl⟩) (fun H locs hP hD hS => ?_)
    have hP : va_P (dC, dI) vwCl (wd_O g ho f ++ wd_C g h u x n) H := hP.perm (pm_LW_act (wd_O g ho f) (wd_AM g h (u 0) (x 0)) (wd_Text g ((u 0) 0) (u 1) (x 1)) (wd_Points g ((u 0) 1) (u 2) (x 2) n) (wd_LA g ((u 0) 2) (u 3)) (wd_LS g (u 3) (fun j => u (10 + j)) (fun j => x (10 + j))) (wd_Events g ((u 0) 3) (u 4) (x 4)) (wd_Plan g ((u 0) 4) (u 5) (x 5)) (wd_Zones g ((u 5) 0) (u 6) (x 6)) (wd_Acts g ((u 5) 1) (u 7) (x 7)) (wd_Plan g ((u 0) 5) (u 8) (x 8)) (wd_Zones g ((u 8) 0) (u 9) (x 9)) (wd_Acts g ((u 8) 1) (u 18) (x 18))).symm
    have hD : va_D A (wd_O g ho f ++ wd_C g h u x n) := hD.perm (pm_LW_act (wd_O g ho f) (wd_AM g h (u 0) (x 0)) (wd_Text g ((u 0) 0) (u 1) (x 1)) (wd_Points g ((u 0) 1) (u 2) (x 2) n) (wd_LA g ((u 0) 2) (u 3)) (wd_LS g (u 3) (fun j => u (10 + j)) (fun j => x (10 + j))) (wd_Events g ((u 0) 3) (u 4) (x 4)) (wd_Plan g ((u 0) 4) (u 5) (x 5)) (wd_Zones g ((u 5) 0) (u 6) (x 6)) (wd_Acts g ((u 5) 1) (u 7) (x 7)) (wd_Plan g ((u 0) 5) (u 8) (x 8)) (wd_Zones g ((u 8) 0) (u 9) (x 9)) (wd_Acts g ((u 8) 1) (u 18) (x 18))).symm
    refine lv_i2l (v := (o.2).toInt64) hx hb d_LW_act_8 rfl ?_
    refine va_last (f := f) hx hb hK hP hD hS 0 4 rfl rfl (by unfold vp_in; decide) d_LW_act_9 (fun H locs hP hD hS => ?_)
    have hP : va_P (dC, dI) vwCl (wd_O g ho (vp_updL f (0 : Int32).toNatClampNeg (o.2).toInt64) ++ wd_C g h u x n) H := hP
    have hD : va_D A (wd_O g ho (vp_updL f (0 : Int32).toNatClampNeg (o.2).toInt64) ++ wd_C g h u x n) := hD
    refine lv_goto (tgt := 17) hx hb d_LW_act_10 (by decide) ?_
    refine lv_iconst (v := (0 : Int32)) hx hb d_LW_act_17 (by decide) ?_
    rw [hQ, hk]
    exact kri hx hb hr hlocks hAe hP hK hD hS d_LW_act_18
  · have hM := c_AM_act hG hGn hGs hGt l hst dC dI g F H.size h (u 0) (x 0) (u 5) (x 5) (u 7) (x 7) a1 a2 hm
    rw [hk] at hM
    refine kcTP (k := 1) (hpc := 13) (wc := wd_AM g h (u 0) (x 0) ++ wd_Plan g ((u 0) 4) (u 5) (x 5) ++ wd_Acts g ((u 5) 1) (u 7) (x 7)) (wr := wd_O g ho f ++ wd_Text g ((u 0) 0) (u 1) (x 1) ++ wd_Points g ((u 0) 1) (u 2) (x 2) n ++ wd_LA g ((u 0) 2) (u 3) ++ wd_LS g (u 3) (fun j => u (10 + j)) (fun j => x (10 + j)) ++ wd_Events g ((u 0) 3) (u 4) (x 4) ++ wd_Zones g ((u 5) 0) (u 6) (x 6) ++ wd_Plan g ((u 0) 5) (u 8) (x 8) ++ wd_Zones g ((u 8) 0) (u 9) (x 9) ++ wd_Acts g ((u 8) 1) (u 18) (x 18)) (w1 := wd_AM g h (u 0) (x 0) ++ wd_Plan g ((u 0) 4) (u 5) (x 5) ++ wd_Acts g ((u 5) 1) (u 7) (x 7)) (As := [.int a1, .int a2]) (rest := [.int (0 : Int32), .ref ho]) ⟨hx, hb, hml, hown, hts⟩ hM (by decide) (cwV 2 hts (gdV k4_187 k4_188 k4_189 k1_1 k4_190) rfl rfl rfl (by decide +kernel) ⟨Nat.le_of_ble_eq_true rfl, Nat.le_of_ble_eq_true rfl⟩) (kpVP hG hP hK hD hS hA hGA (ci := 0) (q0 := 0) rfl rfl rfl) rfl hl.1 (lv_room (Nat.le_of_ble_eq_true rfl)) d_LW_act_5 ⟨Nat.le_of_ble_eq_true rfl, Nat.le_of_ble_eq_true rfl⟩ hP hD hS hA (fun E hE => ?_) (fun q H locs hP hD hS => ?_)
    · rcases hE with ⟨-, rfl⟩ | ⟨h9, -⟩
      · exact kHand1 htab (by decide) (by decide) (hts _ k3_95) (gHand hGt hGA).1
      · cases h9
    · have hP : va_P (dC, dI) vwCl (wd_O g ho f ++ wd_C g h u x n) H := hP.perm (pm_LW_act (wd_O g ho f) (wd_AM g h (u 0) (x 0)) (wd_Text g ((u 0) 0) (u 1) (x 1)) (wd_Points g ((u 0) 1) (u 2) (x 2) n) (wd_LA g ((u 0) 2) (u 3)) (wd_LS g (u 3) (fun j => u (10 + j)) (fun j => x (10 + j))) (wd_Events g ((u 0) 3) (u 4) (x 4)) (wd_Plan g ((u 0) 4) (u 5) (x 5)) (wd_Zones g ((u 5) 0) (u 6) (x 6)) (wd_Acts g ((u 5) 1) (u 7) (x 7)) (wd_Plan g ((u 0) 5) (u 8) (x 8)) (wd_Zones g ((u 8) 0) (u 9) (x 9)) (wd_Acts g ((u 8) 1) (u 18) (x 18))).symm
      have hD : va_D A (wd_O g ho f ++ wd_C g h u x n) := hD.perm (pm_LW_act (wd_O g ho f) (wd_AM g h (u 0) (x 0)) (wd_Text g ((u 0) 0) (u 1) (x 1)) (wd_Points g ((u 0) 1) (u 2) (x 2) n) (wd_LA g ((u 0) 2) (u 3)) (wd_LS g (u 3) (fun j => u (10 + j)) (fun j => x (10 + j))) (wd_Events g ((u 0) 3) (u 4) (x 4)) (wd_Plan g ((u 0) 4) (u 5) (x 5)) (wd_Zones g ((u 5) 0) (u 6) (x 6)) (wd_Acts g ((u 5) 1) (u 7) (x 7)) (wd_Plan g ((u 0) 5) (u 8) (x 8)) (wd_Zones g ((u 8) 0) (u 9) (x 9)) (wd_Acts g ((u 8) 1) (u 18) (x 18))).symm
      refine lv_astore (lv' := [(4, .ref q), (0, .ref h), (1, .int a1), (2, .int a2), (3, .ref ho)]) hx hb d_LW_act_13 hl (by decide) rfl (fun ls hl => ?_)
      refine lv_iconst (v := (1 : Int32)) hx hb d_LW_act_15 (by decide) ?_
      rw [hQ, hk]
      exact kri hx hb hr hlocks hAe hP hK hD hS d_LW_act_16
abbrev b_LW_zone : ByteArray := method_16_code
abbrev y_LW_zone : MethodName := ⟨"AlarmMatrixLaw", "zone", "(LAlarmMatrix;II[J)I"⟩
theorem d_LW_zone_0 : decode b_LW_zone 0 = .ok (.aload_n 3, 1) := by decide +kernel
theorem d_LW_zone_1 : decode b_LW_zone 1 = .ok (.iconst 0, 1) := by decide +kernel
theorem d_LW_zone_2 : decode b_LW_zone 2 = .ok (.aload_n 0, 1) := by decide +kernel
theorem d_LW_zone_3 : decode b_LW_zone 3 = .ok (.iload_n 1, 1) := by decide +kernel
theorem d_LW_zone_4 : decode b_LW_zone 4 = .ok (.iload_n 2, 1) := by decide +kernel
theorem d_LW_zone_5 : decode b_LW_zone 5 = .ok (.invokevirtual 57, 3) := by decide +kernel
theorem d_LW_zone_8 : decode b_LW_zone 8 = .ok (.i2l, 1) := by decide +kernel
theorem d_LW_zone_9 : decode b_LW_zone 9 = .ok (.lastore, 1) := by decide +kernel
theorem d_LW_zone_10 : decode b_LW_zone 10 = .ok (.goto 7, 3) := by decide +kernel
theorem d_LW_zone_13 : decode b_LW_zone 13 = .ok (.astore 4, 2) := by decide +kernel
theorem d_LW_zone_15 : decode b_LW_zone 15 = .ok (.iconst 1, 1) := by decide +kernel
theorem d_LW_zone_16 : decode b_LW_zone 16 = .ok (.ireturn, 1) := by decide +kernel
theorem d_LW_zone_17 : decode b_LW_zone 17 = .ok (.iconst 0, 1) := by decide +kernel
theorem d_LW_zone_18 : decode b_LW_zone 18 = .ok (.ireturn, 1) := by decide +kernel
abbrev hh_LW_zone : List (Nat × Nat × Nat × Nat) := [(0, 10, 13, 13)]
abbrev rm_LW_zone : Room := { frames := 7, cells := 1, slots := 6, locals := 118 }
theorem pm_LW_zone {α : Type} (B0 B1 B2 B3 B4 B5 B6 B7 B8 B9 B10 B11 B12 : List α) : (B0 ++ (B1 ++ B2 ++ B3 ++ B4 ++ B5 ++ B6 ++ B7 ++ B8 ++ B9 ++ B10 ++ B11 ++ B12)).Perm ((B1 ++ B7 ++ B3 ++ B9 ++ B8) ++ (B0 ++ B2 ++ B4 ++ B5 ++ B6 ++ B10 ++ B11 ++ B12)) := by
  classical
  refine List.perm_iff_count.mpr (fun a => ?_)
  simp only [List.count_append, List.count_nil]
  omega
set_option maxHeartbeats 40000000 in
set_option maxRecDepth 100000 in
theorem c_LW_zone {G : (Nat → Prop) → State → Prop} (hG : gok G) (hGn : gN G) {adK adV : Nat → Nat} (hGs : gSt adK adV G) (hGt : gTh G) (hGc : gNC G) (l : Launch) (hst : l.stackTraces = false) (dC : Nat → ClassId) (dI : Nat → Nat → Nat) (g : Nat → ClassId) (F : Nat) (sz : Nat) (h : Nat) (u : Nat → Nat → Nat) (x : Nat → St) (n : Nat) (ho : Nat) (f : Nat → Int64) (a1 : Int32) (a2 : Int32) {o : Nat × Int32 × St × St} (hm : m_AM_zone F (x 0) (x 5) (x 2) n (x 7) (x 6) a1 a2 = some o) (hk : o.1 = 0 ∨ o.1 = 1) : Met l y_LW_zone (.codeWith y_LW_zone b_LW_zone 5 (some .int) hh_LW_zone :: gw) rm_LW_zone (kq (dC, dI) vwCl (tyv g) G [.ref h, .int a1, .int a2, .ref ho] sz (wd_O g ho f ++ wd_C g h u x n)) (kqi (dC, dI) vwCl (tyv g) (wd_O g ho f ++ wd_C g h u x n) (nI o.1) (wd_O g ho (ot o.1 o.2.1 f) ++ wd_C g h u (up (up x 7 (o.2.2.1)) 6 (o.2.2.2)) n) sz) 1 6 (va_A (wd_O g ho f ++ wd_C g h u x n) sz) := by
  refine kmW (Qc := fun sz => kqi (dC, dI) vwCl (tyv g) (wd_O g ho f ++ wd_C g h u x n) (nI o.1) (wd_O g ho (ot o.1 o.2.1 f) ++ wd_C g h u (up (up x 7 (o.2.2.1)) 6 (o.2.2.2)) n) sz) (cc := b_LW_zone) (maxL := 5) (ret := some .int) (hh := hh_LW_zone) (by decide) rfl (Nat.le_of_ble_eq_true rfl) ?_
  intro p e s m args below meth c Q hQ hx hb hr hts hown hlocks hml htab H locs A hAe hA hP hK hD hS hGA ls hl
  have hl : lv_has ls 5 [(0, .ref h), (1, .int a1), (2, .int a2), (3, .ref ho)] := hl
  have hts : ∀ w ∈ gw, w.before args s = true := fun w h => hts w (List.mem_cons_of_mem _ h)
  have hown : s.vm.findClass "AlarmMatrixLaw" = some m.cls := hown
  refine lv_aload_n hx hb d_LW_zone_0 rfl (lv_at hl 3 rfl) ?_
  refine lv_iconst (v := (0 : Int32)) hx hb d_LW_zone_1 (by decide) ?_
  refine lv_aload_n hx hb d_LW_zone_2 rfl (lv_at hl 0 rfl) ?_
  refine lv_iload_n hx hb d_LW_zone_3 rfl (lv_at hl 1 rfl) ?_
  refine lv_iload_n hx hb d_LW_zone_4 rfl (lv_at hl 2 rfl) ?_
  have hP : va_P (dC, dI) vwCl ((wd_AM g h (u 0) (x 0) ++ wd_Plan g ((u 0) 4) (u 5) (x 5) ++ wd_Points g ((u 0) 1) (u 2) (x 2) n ++ wd_Acts g ((u 5) 1) (u 7) (x 7) ++ wd_Zones g ((u 5) 0) (u 6) (x 6)) ++ (wd_O g ho f ++ wd_Text g ((u 0) 0) (u 1) (x 1) ++ wd_LA g ((u 0) 2) (u 3) ++ wd_LS g (u 3) (fun j => u (10 + j)) (fun j => x (10 + j)) ++ wd_Events g ((u 0) 3) (u 4) (x 4) ++ wd_Plan g ((u 0) 5) (u 8) (x 8) ++ wd_Zones g ((u 8) 0) (u 9) (x 9) ++ wd_Acts g ((u 8) 1) (u 18) (x 18))) H := hP.perm (pm_LW_zone _ _ _ _ _ _ _ _ _ _ _ _ _)
  have hD : va_D A ((wd_AM g h (u 0) (x 0) ++ wd_Plan g ((u 0) 4) (u 5) (x 5) ++ wd_Points g ((u 0) 1) (u 2) (x 2) n ++ wd_Acts g ((u 5) 1) (u 7) (x 7) ++ wd_Zones g ((u 5) 0) (u 6) (x 6)) ++ (wd_O g ho f ++ wd_Text g ((u 0) 0) (u 1) (x 1) ++ wd_LA g ((u 0) 2) (u 3) ++ wd_LS g (u 3) (fun j => u (10 + j)) (fun j => x (10 + j)) ++ wd_Events g ((u 0) 3) (u 4) (x 4) ++ wd_Plan g ((u 0) 5) (u 8) (x 8) ++ wd_Zones g ((u 8) 0) (u 9) (x 9) ++ wd_Acts g ((u 8) 1) (u 18) (x 18))) := hD.perm (pm_LW_zone _ _ _ _ _ _ _ _ _ _ _ _ _)
  rcases hk with hk | hk
  · have hM := c_AM_zone hG hGn hGs hGt l hst dC dI g F H.size h (u 0) (x 0) (u 5) (x 5) (u 2) (x 2) n (u 7) (x 7) (u 6) (x 6) a1 a2 hm
    rw [hk] at hM
    refine kciP (wc := wd_AM g h (u 0) (x 0) ++ wd_Plan g ((u 0) 4) (u 5) (x 5) ++ wd_Points g ((u 0) 1) (u 2) (x 2) n ++ wd_Acts g ((u 5) 1) (u 7) (x 7) ++ wd_Zones g ((u 5) 0) (u 6) (x 6)) (wr := wd_O g ho f ++ wd_Text g ((u 0) 0) (u 1) (x 1) ++ wd_LA g ((u 0) 2) (u 3) ++ wd_LS g (u 3) (fun j => u (10 + j)) (fun j => x (10 + j)) ++ wd_Events g ((u 0) 3) (u 4) (x 4) ++ wd_Plan g ((u 0) 5) (u 8) (x 8) ++ wd_Zones g ((u 8) 0) (u 9) (x 9) ++ wd_Acts g ((u 8) 1) (u 18) (x 18)) (w1 := wd_AM g h (u 0) (x 0) ++ wd_Plan g ((u 0) 4) (u 5) (x 5) ++ wd_Points g ((u 0) 1) (u 2) (x 2) n ++ wd_Acts g ((u 5) 1) (u 7) (o.2.2.1) ++ wd_Zones g ((u 5) 0) (u 6) (o.2.2.2)) hP hD hS hA (va_runV (As := [.int a1, .int a2]) (rest := [.int (0 : Int32), .ref ho]) ⟨hx, hb, hml, hown, hts⟩ hM.met (cwV 2 hts (gdV k4_201 k4_202 k4_203 k1_1 k4_204) rfl rfl rfl (by decide +kernel) ⟨Nat.le_of_ble_eq_true rfl, Nat.le_of_ble_eq_true rfl⟩) (kpVP hG hP hK hD hS hA hGA (ci := 0) (q0 := 0) rfl rfl rfl) rfl rfl hl.1 rfl (lv_room (Nat.le_of_ble_eq_true rfl)) d_LW_zone_5 ⟨Nat.le_of_ble_eq_true rfl, Nat.le_of_ble_eq_true rfl⟩) (fun H locs hP hD hS => ?_)
    have hP : va_P (dC, dI) vwCl (wd_O g ho f ++ wd_C g h u (up (up x 7 (o.2.2.1)) 6 (o.2.2.2)) n) H := hP.perm (pm_LW_zone (wd_O g ho f) (wd_AM g h (u 0) (x 0)) (wd_Text g ((u 0) 0) (u 1) (x 1)) (wd_Points g ((u 0) 1) (u 2) (x 2) n) (wd_LA g ((u 0) 2) (u 3)) (wd_LS g (u 3) (fun j => u (10 + j)) (fun j => x (10 + j))) (wd_Events g ((u 0) 3) (u 4) (x 4)) (wd_Plan g ((u 0) 4) (u 5) (x 5)) (wd_Zones g ((u 5) 0) (u 6) (o.2.2.2)) (wd_Acts g ((u 5) 1) (u 7) (o.2.2.1)) (wd_Plan g ((u 0) 5) (u 8) (x 8)) (wd_Zones g ((u 8) 0) (u 9) (x 9)) (wd_Acts g ((u 8) 1) (u 18) (x 18))).symm
    have hD : va_D A (wd_O g ho f ++ wd_C g h u (up (up x 7 (o.2.2.1)) 6 (o.2.2.2)) n) := hD.perm (pm_LW_zone (wd_O g ho f) (wd_AM g h (u 0) (x 0)) (wd_Text g ((u 0) 0) (u 1) (x 1)) (wd_Points g ((u 0) 1) (u 2) (x 2) n) (wd_LA g ((u 0) 2) (u 3)) (wd_LS g (u 3) (fun j => u (10 + j)) (fun j => x (10 + j))) (wd_Events g ((u 0) 3) (u 4) (x 4)) (wd_Plan g ((u 0) 4) (u 5) (x 5)) (wd_Zones g ((u 5) 0) (u 6) (o.2.2.2)) (wd_Acts g ((u 5) 1) (u 7) (o.2.2.1)) (wd_Plan g ((u 0) 5) (u 8) (x 8)) (wd_Zones g ((u 8) 0) (u 9) (x 9)) (wd_Acts g ((u 8) 1) (u 18) (x 18))).symm
    refine lv_i2l (v := (o.2.1).toInt64) hx hb d_LW_zone_8 rfl ?_
    refine va_last (f := f) hx hb hK hP hD hS 0 4 rfl rfl (by unfold vp_in; decide) d_LW_zone_9 (fun H locs hP hD hS => ?_)
    have hP : va_P (dC, dI) vwCl (wd_O g ho (vp_updL f (0 : Int32).toNatClampNeg (o.2.1).toInt64) ++ wd_C g h u (up (up x 7 (o.2.2.1)) 6 (o.2.2.2)) n) H := hP
    have hD : va_D A (wd_O g ho (vp_updL f (0 : Int32).toNatClampNeg (o.2.1).toInt64) ++ wd_C g h u (up (up x 7 (o.2.2.1)) 6 (o.2.2.2)) n) := hD
    refine lv_goto (tgt := 17) hx hb d_LW_zone_10 (by decide) ?_
    refine lv_iconst (v := (0 : Int32)) hx hb d_LW_zone_17 (by decide) ?_
    rw [hQ, hk]
    exact kri hx hb hr hlocks hAe hP hK hD hS d_LW_zone_18
  · have hM := c_AM_zone hG hGn hGs hGt l hst dC dI g F H.size h (u 0) (x 0) (u 5) (x 5) (u 2) (x 2) n (u 7) (x 7) (u 6) (x 6) a1 a2 hm
    rw [hk] at hM
    refine kcTP (k := 1) (hpc := 13) (wc := wd_AM g h (u 0) (x 0) ++ wd_Plan g ((u 0) 4) (u 5) (x 5) ++ wd_Points g ((u 0) 1) (u 2) (x 2) n ++ wd_Acts g ((u 5) 1) (u 7) (x 7) ++ wd_Zones g ((u 5) 0) (u 6) (x 6)) (wr := wd_O g ho f ++ wd_Text g ((u 0) 0) (u 1) (x 1) ++ wd_LA g ((u 0) 2) (u 3) ++ wd_LS g (u 3) (fun j => u (10 + j)) (fun j => x (10 + j)) ++ wd_Events g ((u 0) 3) (u 4) (x 4) ++ wd_Plan g ((u 0) 5) (u 8) (x 8) ++ wd_Zones g ((u 8) 0) (u 9) (x 9) ++ wd_Acts g ((u 8) 1) (u 18) (x 18)) (w1 := wd_AM g h (u 0) (x 0) ++ wd_Plan g ((u 0) 4) (u 5) (x 5) ++ wd_Points g ((u 0) 1) (u 2) (x 2) n ++ wd_Acts g ((u 5) 1) (u 7) (o.2.2.1) ++ wd_Zones g ((u 5) 0) (u 6) (o.2.2.2)) (As := [.int a1, .int a2]) (rest := [.int (0 : Int32), .ref ho]) ⟨hx, hb, hml, hown, hts⟩ hM (by decide) (cwV 2 hts (gdV k4_201 k4_202 k4_203 k1_1 k4_204) rfl rfl rfl (by decide +kernel) ⟨Nat.le_of_ble_eq_true rfl, Nat.le_of_ble_eq_true rfl⟩) (kpVP hG hP hK hD hS hA hGA (ci := 0) (q0 := 0) rfl rfl rfl) rfl hl.1 (lv_room (Nat.le_of_ble_eq_true rfl)) d_LW_zone_5 ⟨Nat.le_of_ble_eq_true rfl, Nat.le_of_ble_eq_true rfl⟩ hP hD hS hA (fun E hE => ?_) (fun q H locs hP hD hS => ?_)
    · rcases hE with ⟨-, rfl⟩ | ⟨h9, -⟩
      · exact kHand1 htab (by decide) (by decide) (hts _ k3_95) (gHand hGt hGA).1
      · cases h9
    · have hP : va_P (dC, dI) vwCl (wd_O g ho f ++ wd_C g h u (up (up x 7 (o.2.2.1)) 6 (o.2.2.2)) n) H := hP.perm (pm_LW_zone (wd_O g ho f) (wd_AM g h (u 0) (x 0)) (wd_Text g ((u 0) 0) (u 1) (x 1)) (wd_Points g ((u 0) 1) (u 2) (x 2) n) (wd_LA g ((u 0) 2) (u 3)) (wd_LS g (u 3) (fun j => u (10 + j)) (fun j => x (10 + j))) (wd_Events g ((u 0) 3) (u 4) (x 4)) (wd_Plan g ((u 0) 4) (u 5) (x 5)) (wd_Zones g ((u 5) 0) (u 6) (o.2.2.2)) (wd_Acts g ((u 5) 1) (u 7) (o.2.2.1)) (wd_Plan g ((u 0) 5) (u 8) (x 8)) (wd_Zones g ((u 8) 0) (u 9) (x 9)) (wd_Acts g ((u 8) 1) (u 18) (x 18))).symm
      have hD : va_D A (wd_O g ho f ++ wd_C g h u (up (up x 7 (o.2.2.1)) 6 (o.2.2.2)) n) := hD.perm (pm_LW_zone (wd_O g ho f) (wd_AM g h (u 0) (x 0)) (wd_Text g ((u 0) 0) (u 1) (x 1)) (wd_Points g ((u 0) 1) (u 2) (x 2) n) (wd_LA g ((u 0) 2) (u 3)) (wd_LS g (u 3) (fun j => u (10 + j)) (fun j => x (10 + j))) (wd_Events g ((u 0) 3) (u 4) (x 4)) (wd_Plan g ((u 0) 4) (u 5) (x 5)) (wd_Zones g ((u 5) 0) (u 6) (o.2.2.2)) (wd_Acts g ((u 5) 1) (u 7) (o.2.2.1)) (wd_Plan g ((u 0) 5) (u 8) (x 8)) (wd_Zones g ((u 8) 0) (u 9) (x 9)) (wd_Acts g ((u 8) 1) (u 18) (x 18))).symm
      refine lv_astore (lv' := [(4, .ref q), (0, .ref h), (1, .int a1), (2, .int a2), (3, .ref ho)]) hx hb d_LW_zone_13 hl (by decide) rfl (fun ls hl => ?_)
      refine lv_iconst (v := (1 : Int32)) hx hb d_LW_zone_15 (by decide) ?_
      rw [hQ, hk]
      exact kri hx hb hr hlocks hAe hP hK hD hS d_LW_zone_16
abbrev b_LW_row : ByteArray := method_17_code
abbrev y_LW_row : MethodName := ⟨"AlarmMatrixLaw", "row", "(LAlarmMatrix;II[J)I"⟩
theorem d_LW_row_0 : decode b_LW_row 0 = .ok (.aload_n 3, 1) := by decide +kernel
theorem d_LW_row_1 : decode b_LW_row 1 = .ok (.iconst 0, 1) := by decide +kernel
theorem d_LW_row_2 : decode b_LW_row 2 = .ok (.aload_n 0, 1) := by decide +kernel
theorem d_LW_row_3 : decode b_LW_row 3 = .ok (.iload_n 1, 1) := by decide +kernel
theorem d_LW_row_4 : decode b_LW_row 4 = .ok (.iload_n 2, 1) := by decide +kernel
theorem d_LW_row_5 : decode b_LW_row 5 = .ok (.invokevirtual 60, 3) := by decide +kernel
theorem d_LW_row_8 : decode b_LW_row 8 = .ok (.i2l, 1) := by decide +kernel
theorem d_LW_row_9 : decode b_LW_row 9 = .ok (.lastore, 1) := by decide +kernel
theorem d_LW_row_10 : decode b_LW_row 10 = .ok (.goto 7, 3) := by decide +kernel
theorem d_LW_row_13 : decode b_LW_row 13 = .ok (.astore 4, 2) := by decide +kernel
theorem d_LW_row_15 : decode b_LW_row 15 = .ok (.iconst 1, 1) := by decide +kernel
theorem d_LW_row_16 : decode b_LW_row 16 = .ok (.ireturn, 1) := by decide +kernel
theorem d_LW_row_17 : decode b_LW_row 17 = .ok (.iconst 0, 1) := by decide +kernel
theorem d_LW_row_18 : decode b_LW_row 18 = .ok (.ireturn, 1) := by decide +kernel
abbrev hh_LW_row : List (Nat × Nat × Nat × Nat) := [(0, 10, 13, 13)]
abbrev rm_LW_row : Room := { frames := 7, cells := 1, slots := 6, locals := 118 }
theorem pm_LW_row {α : Type} (B0 B1 B2 B3 B4 B5 B6 B7 B8 B9 B10 B11 B12 : List α) : (B0 ++ (B1 ++ B2 ++ B3 ++ B4 ++ B5 ++ B6 ++ B7 ++ B8 ++ B9 ++ B10 ++ B11 ++ B12)).Perm ((B1 ++ B7 ++ B3 ++ B9 ++ B8) ++ (B0 ++ B2 ++ B4 ++ B5 ++ B6 ++ B10 ++ B11 ++ B12)) := by
  classical
  refine List.perm_iff_count.mpr (fun a => ?_)
  simp only [List.count_append, List.count_nil]
  omega
set_option maxHeartbeats 40000000 in
set_option maxRecDepth 100000 in
theorem c_LW_row {G : (Nat → Prop) → State → Prop} (hG : gok G) (hGn : gN G) {adK adV : Nat → Nat} (hGs : gSt adK adV G) (hGt : gTh G) (hGc : gNC G) (l : Launch) (hst : l.stackTraces = false) (dC : Nat → ClassId) (dI : Nat → Nat → Nat) (g : Nat → ClassId) (F : Nat) (sz : Nat) (h : Nat) (u : Nat → Nat → Nat) (x : Nat → St) (n : Nat) (ho : Nat) (f : Nat → Int64) (a1 : Int32) (a2 : Int32) {o : Nat × Int32 × St × St} (hm : m_AM_row F (x 0) (x 5) (x 2) n (x 7) (x 6) a1 a2 = some o) (hk : o.1 = 0 ∨ o.1 = 1) : Met l y_LW_row (.codeWith y_LW_row b_LW_row 5 (some .int) hh_LW_row :: gw) rm_LW_row (kq (dC, dI) vwCl (tyv g) G [.ref h, .int a1, .int a2, .ref ho] sz (wd_O g ho f ++ wd_C g h u x n)) (kqi (dC, dI) vwCl (tyv g) (wd_O g ho f ++ wd_C g h u x n) (nI o.1) (wd_O g ho (ot o.1 o.2.1 f) ++ wd_C g h u (up (up x 7 (o.2.2.1)) 6 (o.2.2.2)) n) sz) 1 6 (va_A (wd_O g ho f ++ wd_C g h u x n) sz) := by
  refine kmW (Qc := fun sz => kqi (dC, dI) vwCl (tyv g) (wd_O g ho f ++ wd_C g h u x n) (nI o.1) (wd_O g ho (ot o.1 o.2.1 f) ++ wd_C g h u (up (up x 7 (o.2.2.1)) 6 (o.2.2.2)) n) sz) (cc := b_LW_row) (maxL := 5) (ret := some .int) (hh := hh_LW_row) (by decide) rfl (Nat.le_of_ble_eq_true rfl) ?_
  intro p e s m args below meth c Q hQ hx hb hr hts hown hlocks hml htab H locs A hAe hA hP hK hD hS hGA ls hl
  have hl : lv_has ls 5 [(0, .ref h), (1, .int a1), (2, .int a2), (3, .ref ho)] := hl
  have hts : ∀ w ∈ gw, w.before args s = true := fun w h => hts w (List.mem_cons_of_mem _ h)
  have hown : s.vm.findClass "AlarmMatrixLaw" = some m.cls := hown
  refine lv_aload_n hx hb d_LW_row_0 rfl (lv_at hl 3 rfl) ?_
  refine lv_iconst (v := (0 : Int32)) hx hb d_LW_row_1 (by decide) ?_
  refine lv_aload_n hx hb d_LW_row_2 rfl (lv_at hl 0 rfl) ?_
  refine lv_iload_n hx hb d_LW_row_3 rfl (lv_at hl 1 rfl) ?_
  refine lv_iload_n hx hb d_LW_row_4 rfl (lv_at hl 2 rfl) ?_
  have hP : va_P (dC, dI) vwCl ((wd_AM g h (u 0) (x 0) ++ wd_Plan g ((u 0) 4) (u 5) (x 5) ++ wd_Points g ((u 0) 1) (u 2) (x 2) n ++ wd_Acts g ((u 5) 1) (u 7) (x 7) ++ wd_Zones g ((u 5) 0) (u 6) (x 6)) ++ (wd_O g ho f ++ wd_Text g ((u 0) 0) (u 1) (x 1) ++ wd_LA g ((u 0) 2) (u 3) ++ wd_LS g (u 3) (fun j => u (10 + j)) (fun j => x (10 + j)) ++ wd_Events g ((u 0) 3) (u 4) (x 4) ++ wd_Plan g ((u 0) 5) (u 8) (x 8) ++ wd_Zones g ((u 8) 0) (u 9) (x 9) ++ wd_Acts g ((u 8) 1) (u 18) (x 18))) H := hP.perm (pm_LW_row _ _ _ _ _ _ _ _ _ _ _ _ _)
  have hD : va_D A ((wd_AM g h (u 0) (x 0) ++ wd_Plan g ((u 0) 4) (u 5) (x 5) ++ wd_Points g ((u 0) 1) (u 2) (x 2) n ++ wd_Acts g ((u 5) 1) (u 7) (x 7) ++ wd_Zones g ((u 5) 0) (u 6) (x 6)) ++ (wd_O g ho f ++ wd_Text g ((u 0) 0) (u 1) (x 1) ++ wd_LA g ((u 0) 2) (u 3) ++ wd_LS g (u 3) (fun j => u (10 + j)) (fun j => x (10 + j)) ++ wd_Events g ((u 0) 3) (u 4) (x 4) ++ wd_Plan g ((u 0) 5) (u 8) (x 8) ++ wd_Zones g ((u 8) 0) (u 9) (x 9) ++ wd_Acts g ((u 8) 1) (u 18) (x 18))) := hD.perm (pm_LW_row _ _ _ _ _ _ _ _ _ _ _ _ _)
  rcases hk with hk | hk
  · have hM := c_AM_row hG hGn hGs hGt l hst dC dI g F H.size h (u 0) (x 0) (u 5) (x 5) (u 2) (x 2) n (u 7) (x 7) (u 6) (x 6) a1 a2 hm
    rw [hk] at hM
    refine kciP (wc := wd_AM g h (u 0) (x 0) ++ wd_Plan g ((u 0) 4) (u 5) (x 5) ++ wd_Points g ((u 0) 1) (u 2) (x 2) n ++ wd_Acts g ((u 5) 1) (u 7) (x 7) ++ wd_Zones g ((u 5) 0) (u 6) (x 6)) (wr := wd_O g ho f ++ wd_Text g ((u 0) 0) (u 1) (x 1) ++ wd_LA g ((u 0) 2) (u 3) ++ wd_LS g (u 3) (fun j => u (10 + j)) (fun j => x (10 + j)) ++ wd_Events g ((u 0) 3) (u 4) (x 4) ++ wd_Plan g ((u 0) 5) (u 8) (x 8) ++ wd_Zones g ((u 8) 0) (u 9) (x 9) ++ wd_Acts g ((u 8) 1) (u 18) (x 18)) (w1 := wd_AM g h (u 0) (x 0) ++ wd_Plan g ((u 0) 4) (u 5) (x 5) ++ wd_Points g ((u 0) 1) (u 2) (x 2) n ++ wd_Acts g ((u 5) 1) (u 7) (o.2.2.1) ++ wd_Zones g ((u 5) 0) (u 6) (o.2.2.2)) hP hD hS hA (va_runV (As := [.int a1, .int a2]) (rest := [.int (0 : Int32), .ref ho]) ⟨hx, hb, hml, hown, hts⟩ hM.met (cwV 2 hts (gdV k4_217 k4_218 k4_219 k1_1 k4_220) rfl rfl rfl (by decide +kernel) ⟨Nat.le_of_ble_eq_true rfl, Nat.le_of_ble_eq_true rfl⟩) (kpVP hG hP hK hD hS hA hGA (ci := 0) (q0 := 0) rfl rfl rfl) rfl rfl hl.1 rfl (lv_room (Nat.le_of_ble_eq_true rfl)) d_LW_row_5 ⟨Nat.le_of_ble_eq_true rfl, Nat.le_of_ble_eq_true rfl⟩) (fun H locs hP hD hS => ?_)
    have hP : va_P (dC, dI) vwCl (wd_O g ho f ++ wd_C g h u (up (up x 7 (o.2.2.1)) 6 (o.2.2.2)) n) H := hP.perm (pm_LW_row (wd_O g ho f) (wd_AM g h (u 0) (x 0)) (wd_Text g ((u 0) 0) (u 1) (x 1)) (wd_Points g ((u 0) 1) (u 2) (x 2) n) (wd_LA g ((u 0) 2) (u 3)) (wd_LS g (u 3) (fun j => u (10 + j)) (fun j => x (10 + j))) (wd_Events g ((u 0) 3) (u 4) (x 4)) (wd_Plan g ((u 0) 4) (u 5) (x 5)) (wd_Zones g ((u 5) 0) (u 6) (o.2.2.2)) (wd_Acts g ((u 5) 1) (u 7) (o.2.2.1)) (wd_Plan g ((u 0) 5) (u 8) (x 8)) (wd_Zones g ((u 8) 0) (u 9) (x 9)) (wd_Acts g ((u 8) 1) (u 18) (x 18))).symm
    have hD : va_D A (wd_O g ho f ++ wd_C g h u (up (up x 7 (o.2.2.1)) 6 (o.2.2.2)) n) := hD.perm (pm_LW_row (wd_O g ho f) (wd_AM g h (u 0) (x 0)) (wd_Text g ((u 0) 0) (u 1) (x 1)) (wd_Points g ((u 0) 1) (u 2) (x 2) n) (wd_LA g ((u 0) 2) (u 3)) (wd_LS g (u 3) (fun j => u (10 + j)) (fun j => x (10 + j))) (wd_Events g ((u 0) 3) (u 4) (x 4)) (wd_Plan g ((u 0) 4) (u 5) (x 5)) (wd_Zones g ((u 5) 0) (u 6) (o.2.2.2)) (wd_Acts g ((u 5) 1) (u 7) (o.2.2.1)) (wd_Plan g ((u 0) 5) (u 8) (x 8)) (wd_Zones g ((u 8) 0) (u 9) (x 9)) (wd_Acts g ((u 8) 1) (u 18) (x 18))).symm
    refine lv_i2l (v := (o.2.1).toInt64) hx hb d_LW_row_8 rfl ?_
    refine va_last (f := f) hx hb hK hP hD hS 0 4 rfl rfl (by unfold vp_in; decide) d_LW_row_9 (fun H locs hP hD hS => ?_)
    have hP : va_P (dC, dI) vwCl (wd_O g ho (vp_updL f (0 : Int32).toNatClampNeg (o.2.1).toInt64) ++ wd_C g h u (up (up x 7 (o.2.2.1)) 6 (o.2.2.2)) n) H := hP
    have hD : va_D A (wd_O g ho (vp_updL f (0 : Int32).toNatClampNeg (o.2.1).toInt64) ++ wd_C g h u (up (up x 7 (o.2.2.1)) 6 (o.2.2.2)) n) := hD
    refine lv_goto (tgt := 17) hx hb d_LW_row_10 (by decide) ?_
    refine lv_iconst (v := (0 : Int32)) hx hb d_LW_row_17 (by decide) ?_
    rw [hQ, hk]
    exact kri hx hb hr hlocks hAe hP hK hD hS d_LW_row_18
  · have hM := c_AM_row hG hGn hGs hGt l hst dC dI g F H.size h (u 0) (x 0) (u 5) (x 5) (u 2) (x 2) n (u 7) (x 7) (u 6) (x 6) a1 a2 hm
    rw [hk] at hM
    refine kcTP (k := 1) (hpc := 13) (wc := wd_AM g h (u 0) (x 0) ++ wd_Plan g ((u 0) 4) (u 5) (x 5) ++ wd_Points g ((u 0) 1) (u 2) (x 2) n ++ wd_Acts g ((u 5) 1) (u 7) (x 7) ++ wd_Zones g ((u 5) 0) (u 6) (x 6)) (wr := wd_O g ho f ++ wd_Text g ((u 0) 0) (u 1) (x 1) ++ wd_LA g ((u 0) 2) (u 3) ++ wd_LS g (u 3) (fun j => u (10 + j)) (fun j => x (10 + j)) ++ wd_Events g ((u 0) 3) (u 4) (x 4) ++ wd_Plan g ((u 0) 5) (u 8) (x 8) ++ wd_Zones g ((u 8) 0) (u 9) (x 9) ++ wd_Acts g ((u 8) 1) (u 18) (x 18)) (w1 := wd_AM g h (u 0) (x 0) ++ wd_Plan g ((u 0) 4) (u 5) (x 5) ++ wd_Points g ((u 0) 1) (u 2) (x 2) n ++ wd_Acts g ((u 5) 1) (u 7) (o.2.2.1) ++ wd_Zones g ((u 5) 0) (u 6) (o.2.2.2)) (As := [.int a1, .int a2]) (rest := [.int (0 : Int32), .ref ho]) ⟨hx, hb, hml, hown, hts⟩ hM (by decide) (cwV 2 hts (gdV k4_217 k4_218 k4_219 k1_1 k4_220) rfl rfl rfl (by decide +kernel) ⟨Nat.le_of_ble_eq_true rfl, Nat.le_of_ble_eq_true rfl⟩) (kpVP hG hP hK hD hS hA hGA (ci := 0) (q0 := 0) rfl rfl rfl) rfl hl.1 (lv_room (Nat.le_of_ble_eq_true rfl)) d_LW_row_5 ⟨Nat.le_of_ble_eq_true rfl, Nat.le_of_ble_eq_true rfl⟩ hP hD hS hA (fun E hE => ?_) (fun q H locs hP hD hS => ?_)
    · rcases hE with ⟨-, rfl⟩ | ⟨h9, -⟩
      · exact kHand1 htab (by decide) (by decide) (hts _ k3_95) (gHand hGt hGA).1
      · cases h9
    · have hP : va_P (dC, dI) vwCl (wd_O g ho f ++ wd_C g h u (up (up x 7 (o.2.2.1)) 6 (o.2.2.2)) n) H := hP.perm (pm_LW_row (wd_O g ho f) (wd_AM g h (u 0) (x 0)) (wd_Text g ((u 0) 0) (u 1) (x 1)) (wd_Points g ((u 0) 1) (u 2) (x 2) n) (wd_LA g ((u 0) 2) (u 3)) (wd_LS g (u 3) (fun j => u (10 + j)) (fun j => x (10 + j))) (wd_Events g ((u 0) 3) (u 4) (x 4)) (wd_Plan g ((u 0) 4) (u 5) (x 5)) (wd_Zones g ((u 5) 0) (u 6) (o.2.2.2)) (wd_Acts g ((u 5) 1) (u 7) (o.2.2.1)) (wd_Plan g ((u 0) 5) (u 8) (x 8)) (wd_Zones g ((u 8) 0) (u 9) (x 9)) (wd_Acts g ((u 8) 1) (u 18) (x 18))).symm
      have hD : va_D A (wd_O g ho f ++ wd_C g h u (up (up x 7 (o.2.2.1)) 6 (o.2.2.2)) n) := hD.perm (pm_LW_row (wd_O g ho f) (wd_AM g h (u 0) (x 0)) (wd_Text g ((u 0) 0) (u 1) (x 1)) (wd_Points g ((u 0) 1) (u 2) (x 2) n) (wd_LA g ((u 0) 2) (u 3)) (wd_LS g (u 3) (fun j => u (10 + j)) (fun j => x (10 + j))) (wd_Events g ((u 0) 3) (u 4) (x 4)) (wd_Plan g ((u 0) 4) (u 5) (x 5)) (wd_Zones g ((u 5) 0) (u 6) (o.2.2.2)) (wd_Acts g ((u 5) 1) (u 7) (o.2.2.1)) (wd_Plan g ((u 0) 5) (u 8) (x 8)) (wd_Zones g ((u 8) 0) (u 9) (x 9)) (wd_Acts g ((u 8) 1) (u 18) (x 18))).symm
      refine lv_astore (lv' := [(4, .ref q), (0, .ref h), (1, .int a1), (2, .int a2), (3, .ref ho)]) hx hb d_LW_row_13 hl (by decide) rfl (fun ls hl => ?_)
      refine lv_iconst (v := (1 : Int32)) hx hb d_LW_row_15 (by decide) ?_
      rw [hQ, hk]
      exact kri hx hb hr hlocks hAe hP hK hD hS d_LW_row_16
abbrev b_LW_event : ByteArray := method_18_code
abbrev y_LW_event : MethodName := ⟨"AlarmMatrixLaw", "event", "(LAlarmMatrix;II[J)I"⟩
theorem d_LW_event_0 : decode b_LW_event 0 = .ok (.aload_n 3, 1) := by decide +kernel
theorem d_LW_event_1 : decode b_LW_event 1 = .ok (.iconst 0, 1) := by decide +kernel
theorem d_LW_event_2 : decode b_LW_event 2 = .ok (.aload_n 0, 1) := by decide +kernel
theorem d_LW_event_3 : decode b_LW_event 3 = .ok (.iload_n 1, 1) := by decide +kernel
theorem d_LW_event_4 : decode b_LW_event 4 = .ok (.iload_n 2, 1) := by decide +kernel
theorem d_LW_event_5 : decode b_LW_event 5 = .ok (.invokevirtual 63, 3) := by decide +kernel
theorem d_LW_event_8 : decode b_LW_event 8 = .ok (.i2l, 1) := by decide +kernel
theorem d_LW_event_9 : decode b_LW_event 9 = .ok (.lastore, 1) := by decide +kernel
theorem d_LW_event_10 : decode b_LW_event 10 = .ok (.goto 7, 3) := by decide +kernel
theorem d_LW_event_13 : decode b_LW_event 13 = .ok (.astore 4, 2) := by decide +kernel
theorem d_LW_event_15 : decode b_LW_event 15 = .ok (.iconst 1, 1) := by decide +kernel
theorem d_LW_event_16 : decode b_LW_event 16 = .ok (.ireturn, 1) := by decide +kernel
theorem d_LW_event_17 : decode b_LW_event 17 = .ok (.iconst 0, 1) := by decide +kernel
theorem d_LW_event_18 : decode b_LW_event 18 = .ok (.ireturn, 1) := by decide +kernel
abbrev hh_LW_event : List (Nat × Nat × Nat × Nat) := [(0, 10, 13, 13)]
abbrev rm_LW_event : Room := { frames := 7, cells := 1, slots := 6, locals := 112 }
theorem pm_LW_event {α : Type} (B0 B1 B2 B3 B4 B5 B6 B7 B8 B9 B10 B11 B12 : List α) : (B0 ++ (B1 ++ B2 ++ B3 ++ B4 ++ B5 ++ B6 ++ B7 ++ B8 ++ B9 ++ B10 ++ B11 ++ B12)).Perm ((B1 ++ B6) ++ (B0 ++ B2 ++ B3 ++ B4 ++ B5 ++ B7 ++ B8 ++ B9 ++ B10 ++ B11 ++ B12)) := by
  classical
  refine List.perm_iff_count.mpr (fun a => ?_)
  simp only [List.count_append, List.count_nil]
  omega
set_option maxHeartbeats 40000000 in
set_option maxRecDepth 100000 in
theorem c_LW_event {G : (Nat → Prop) → State → Prop} (hG : gok G) (hGn : gN G) {adK adV : Nat → Nat} (hGs : gSt adK adV G) (hGt : gTh G) (hGc : gNC G) (l : Launch) (hst : l.stackTraces = false) (dC : Nat → ClassId) (dI : Nat → Nat → Nat) (g : Nat → ClassId) (F : Nat) (sz : Nat) (h : Nat) (u : Nat → Nat → Nat) (x : Nat → St) (n : Nat) (ho : Nat) (f : Nat → Int64) (a1 : Int32) (a2 : Int32) {o : Nat × Int32} (hm : m_AM_event F (x 0) (x 4) a1 a2 = some o) (hk : o.1 = 0 ∨ o.1 = 1) : Met l y_LW_event (.codeWith y_LW_event b_LW_event 5 (some .int) hh_LW_event :: gw) rm_LW_event (kq (dC, dI) vwCl (tyv g) G [.ref h, .int a1, .int a2, .ref ho] sz (wd_O g ho f ++ wd_C g h u x n)) (kqi (dC, dI) vwCl (tyv g) (wd_O g ho f ++ wd_C g h u x n) (nI o.1) (wd_O g ho (ot o.1 o.2 f) ++ wd_C g h u x n) sz) 1 6 (va_A (wd_O g ho f ++ wd_C g h u x n) sz) := by
  refine kmW (Qc := fun sz => kqi (dC, dI) vwCl (tyv g) (wd_O g ho f ++ wd_C g h u x n) (nI o.1) (wd_O g ho (ot o.1 o.2 f) ++ wd_C g h u x n) sz) (cc := b_LW_event) (maxL := 5) (ret := some .int) (hh := hh_LW_event) (by decide) rfl (Nat.le_of_ble_eq_true rfl) ?_
  intro p e s m args below meth c Q hQ hx hb hr hts hown hlocks hml htab H locs A hAe hA hP hK hD hS hGA ls hl
  have hl : lv_has ls 5 [(0, .ref h), (1, .int a1), (2, .int a2), (3, .ref ho)] := hl
  have hts : ∀ w ∈ gw, w.before args s = true := fun w h => hts w (List.mem_cons_of_mem _ h)
  have hown : s.vm.findClass "AlarmMatrixLaw" = some m.cls := hown
  refine lv_aload_n hx hb d_LW_event_0 rfl (lv_at hl 3 rfl) ?_
  refine lv_iconst (v := (0 : Int32)) hx hb d_LW_event_1 (by decide) ?_
  refine lv_aload_n hx hb d_LW_event_2 rfl (lv_at hl 0 rfl) ?_
  refine lv_iload_n hx hb d_LW_event_3 rfl (lv_at hl 1 rfl) ?_
  refine lv_iload_n hx hb d_LW_event_4 rfl (lv_at hl 2 rfl) ?_
  have hP : va_P (dC, dI) vwCl ((wd_AM g h (u 0) (x 0) ++ wd_Events g ((u 0) 3) (u 4) (x 4)) ++ (wd_O g ho f ++ wd_Text g ((u 0) 0) (u 1) (x 1) ++ wd_Points g ((u 0) 1) (u 2) (x 2) n ++ wd_LA g ((u 0) 2) (u 3) ++ wd_LS g (u 3) (fun j => u (10 + j)) (fun j => x (10 + j)) ++ wd_Plan g ((u 0) 4) (u 5) (x 5) ++ wd_Zones g ((u 5) 0) (u 6) (x 6) ++ wd_Acts g ((u 5) 1) (u 7) (x 7) ++ wd_Plan g ((u 0) 5) (u 8) (x 8) ++ wd_Zones g ((u 8) 0) (u 9) (x 9) ++ wd_Acts g ((u 8) 1) (u 18) (x 18))) H := hP.perm (pm_LW_event _ _ _ _ _ _ _ _ _ _ _ _ _)
  have hD : va_D A ((wd_AM g h (u 0) (x 0) ++ wd_Events g ((u 0) 3) (u 4) (x 4)) ++ (wd_O g ho f ++ wd_Text g ((u 0) 0) (u 1) (x 1) ++ wd_Points g ((u 0) 1) (u 2) (x 2) n ++ wd_LA g ((u 0) 2) (u 3) ++ wd_LS g (u 3) (fun j => u (10 + j)) (fun j => x (10 + j)) ++ wd_Plan g ((u 0) 4) (u 5) (x 5) ++ wd_Zones g ((u 5) 0) (u 6) (x 6) ++ wd_Acts g ((u 5) 1) (u 7) (x 7) ++ wd_Plan g ((u 0) 5) (u 8) (x 8) ++ wd_Zones g ((u 8) 0) (u 9) (x 9) ++ wd_Acts g ((u 8) 1) (u 18) (x 18))) := hD.perm (pm_LW_event _ _ _ _ _ _ _ _ _ _ _ _ _)
  rcases hk with hk | hk
  · have hM := c_AM_event hG hGn hGs hGt l hst dC dI g F H.size h (u 0) (x 0) (u 4) (x 4) a1 a2 hm
    rw [hk] at hM
    refine kciP (wc := wd_AM g h (u 0) (x 0) ++ wd_Events g ((u 0) 3) (u 4) (x 4)) (wr := wd_O g ho f ++ wd_Text g ((u 0) 0) (u 1) (x 1) ++ wd_Points g ((u 0) 1) (u 2) (x 2) n ++ wd_LA g ((u 0) 2) (u 3) ++ wd_LS g (u 3) (fun j => u (10 + j)) (fun j => x (10 + j)) ++ wd_Plan g ((u 0) 4) (u 5) (x 5) ++ wd_Zones g ((u 5) 0) (u 6) (x 6) ++ wd_Acts g ((u 5) 1) (u 7) (x 7) ++ wd_Plan g ((u 0) 5) (u 8) (x 8) ++ wd_Zones g ((u 8) 0) (u 9) (x 9) ++ wd_Acts g ((u 8) 1) (u 18) (x 18)) (w1 := wd_AM g h (u 0) (x 0) ++ wd_Events g ((u 0) 3) (u 4) (x 4)) hP hD hS hA (va_runV (As := [.int a1, .int a2]) (rest := [.int (0 : Int32), .ref ho]) ⟨hx, hb, hml, hown, hts⟩ hM.met (cwV 2 hts (gdV k4_230 k4_231 k4_232 k1_1 k4_233) rfl rfl rfl (by decide +kernel) ⟨Nat.le_of_ble_eq_true rfl, Nat.le_of_ble_eq_true rfl⟩) (kpVP hG hP hK hD hS hA hGA (ci := 0) (q0 := 0) rfl rfl rfl) rfl rfl hl.1 rfl (lv_room (Nat.le_of_ble_eq_true rfl)) d_LW_event_5 ⟨Nat.le_of_ble_eq_true rfl, Nat.le_of_ble_eq_true rfl⟩) (fun H locs hP hD hS => ?_)
    have hP : va_P (dC, dI) vwCl (wd_O g ho f ++ wd_C g h u x n) H := hP.perm (pm_LW_event (wd_O g ho f) (wd_AM g h (u 0) (x 0)) (wd_Text g ((u 0) 0) (u 1) (x 1)) (wd_Points g ((u 0) 1) (u 2) (x 2) n) (wd_LA g ((u 0) 2) (u 3)) (wd_LS g (u 3) (fun j => u (10 + j)) (fun j => x (10 + j))) (wd_Events g ((u 0) 3) (u 4) (x 4)) (wd_Plan g ((u 0) 4) (u 5) (x 5)) (wd_Zones g ((u 5) 0) (u 6) (x 6)) (wd_Acts g ((u 5) 1) (u 7) (x 7)) (wd_Plan g ((u 0) 5) (u 8) (x 8)) (wd_Zones g ((u 8) 0) (u 9) (x 9)) (wd_Acts g ((u 8) 1) (u 18) (x 18))).symm
    have hD : va_D A (wd_O g ho f ++ wd_C g h u x n) := hD.perm (pm_LW_event (wd_O g ho f) (wd_AM g h (u 0) (x 0)) (wd_Text g ((u 0) 0) (u 1) (x 1)) (wd_Points g ((u 0) 1) (u 2) (x 2) n) (wd_LA g ((u 0) 2) (u 3)) (wd_LS g (u 3) (fun j => u (10 + j)) (fun j => x (10 + j))) (wd_Events g ((u 0) 3) (u 4) (x 4)) (wd_Plan g ((u 0) 4) (u 5) (x 5)) (wd_Zones g ((u 5) 0) (u 6) (x 6)) (wd_Acts g ((u 5) 1) (u 7) (x 7)) (wd_Plan g ((u 0) 5) (u 8) (x 8)) (wd_Zones g ((u 8) 0) (u 9) (x 9)) (wd_Acts g ((u 8) 1) (u 18) (x 18))).symm
    refine lv_i2l (v := (o.2).toInt64) hx hb d_LW_event_8 rfl ?_
    refine va_last (f := f) hx hb hK hP hD hS 0 4 rfl rfl (by unfold vp_in; decide) d_LW_event_9 (fun H locs hP hD hS => ?_)
    have hP : va_P (dC, dI) vwCl (wd_O g ho (vp_updL f (0 : Int32).toNatClampNeg (o.2).toInt64) ++ wd_C g h u x n) H := hP
    have hD : va_D A (wd_O g ho (vp_updL f (0 : Int32).toNatClampNeg (o.2).toInt64) ++ wd_C g h u x n) := hD
    refine lv_goto (tgt := 17) hx hb d_LW_event_10 (by decide) ?_
    refine lv_iconst (v := (0 : Int32)) hx hb d_LW_event_17 (by decide) ?_
    rw [hQ, hk]
    exact kri hx hb hr hlocks hAe hP hK hD hS d_LW_event_18
  · have hM := c_AM_event hG hGn hGs hGt l hst dC dI g F H.size h (u 0) (x 0) (u 4) (x 4) a1 a2 hm
    rw [hk] at hM
    refine kcTP (k := 1) (hpc := 13) (wc := wd_AM g h (u 0) (x 0) ++ wd_Events g ((u 0) 3) (u 4) (x 4)) (wr := wd_O g ho f ++ wd_Text g ((u 0) 0) (u 1) (x 1) ++ wd_Points g ((u 0) 1) (u 2) (x 2) n ++ wd_LA g ((u 0) 2) (u 3) ++ wd_LS g (u 3) (fun j => u (10 + j)) (fun j => x (10 + j)) ++ wd_Plan g ((u 0) 4) (u 5) (x 5) ++ wd_Zones g ((u 5) 0) (u 6) (x 6) ++ wd_Acts g ((u 5) 1) (u 7) (x 7) ++ wd_Plan g ((u 0) 5) (u 8) (x 8) ++ wd_Zones g ((u 8) 0) (u 9) (x 9) ++ wd_Acts g ((u 8) 1) (u 18) (x 18)) (w1 := wd_AM g h (u 0) (x 0) ++ wd_Events g ((u 0) 3) (u 4) (x 4)) (As := [.int a1, .int a2]) (rest := [.int (0 : Int32), .ref ho]) ⟨hx, hb, hml, hown, hts⟩ hM (by decide) (cwV 2 hts (gdV k4_230 k4_231 k4_232 k1_1 k4_233) rfl rfl rfl (by decide +kernel) ⟨Nat.le_of_ble_eq_true rfl, Nat.le_of_ble_eq_true rfl⟩) (kpVP hG hP hK hD hS hA hGA (ci := 0) (q0 := 0) rfl rfl rfl) rfl hl.1 (lv_room (Nat.le_of_ble_eq_true rfl)) d_LW_event_5 ⟨Nat.le_of_ble_eq_true rfl, Nat.le_of_ble_eq_true rfl⟩ hP hD hS hA (fun E hE => ?_) (fun q H locs hP hD hS => ?_)
    · rcases hE with ⟨-, rfl⟩ | ⟨h9, -⟩
      · exact kHand1 htab (by decide) (by decide) (hts _ k3_95) (gHand hGt hGA).1
      · cases h9
    · have hP : va_P (dC, dI) vwCl (wd_O g ho f ++ wd_C g h u x n) H := hP.perm (pm_LW_event (wd_O g ho f) (wd_AM g h (u 0) (x 0)) (wd_Text g ((u 0) 0) (u 1) (x 1)) (wd_Points g ((u 0) 1) (u 2) (x 2) n) (wd_LA g ((u 0) 2) (u 3)) (wd_LS g (u 3) (fun j => u (10 + j)) (fun j => x (10 + j))) (wd_Events g ((u 0) 3) (u 4) (x 4)) (wd_Plan g ((u 0) 4) (u 5) (x 5)) (wd_Zones g ((u 5) 0) (u 6) (x 6)) (wd_Acts g ((u 5) 1) (u 7) (x 7)) (wd_Plan g ((u 0) 5) (u 8) (x 8)) (wd_Zones g ((u 8) 0) (u 9) (x 9)) (wd_Acts g ((u 8) 1) (u 18) (x 18))).symm
      have hD : va_D A (wd_O g ho f ++ wd_C g h u x n) := hD.perm (pm_LW_event (wd_O g ho f) (wd_AM g h (u 0) (x 0)) (wd_Text g ((u 0) 0) (u 1) (x 1)) (wd_Points g ((u 0) 1) (u 2) (x 2) n) (wd_LA g ((u 0) 2) (u 3)) (wd_LS g (u 3) (fun j => u (10 + j)) (fun j => x (10 + j))) (wd_Events g ((u 0) 3) (u 4) (x 4)) (wd_Plan g ((u 0) 4) (u 5) (x 5)) (wd_Zones g ((u 5) 0) (u 6) (x 6)) (wd_Acts g ((u 5) 1) (u 7) (x 7)) (wd_Plan g ((u 0) 5) (u 8) (x 8)) (wd_Zones g ((u 8) 0) (u 9) (x 9)) (wd_Acts g ((u 8) 1) (u 18) (x 18))).symm
      refine lv_astore (lv' := [(4, .ref q), (0, .ref h), (1, .int a1), (2, .int a2), (3, .ref ho)]) hx hb d_LW_event_13 hl (by decide) rfl (fun ls hl => ?_)
      refine lv_iconst (v := (1 : Int32)) hx hb d_LW_event_15 (by decide) ?_
      rw [hQ, hk]
      exact kri hx hb hr hlocks hAe hP hK hD hS d_LW_event_16
abbrev b_LW_ranked : ByteArray := method_19_code
abbrev y_LW_ranked : MethodName := ⟨"AlarmMatrixLaw", "ranked", "(LAlarmMatrix;I[J)I"⟩
theorem d_LW_ranked_0 : decode b_LW_ranked 0 = .ok (.aload_n 2, 1) := by decide +kernel
theorem d_LW_ranked_1 : decode b_LW_ranked 1 = .ok (.iconst 0, 1) := by decide +kernel
theorem d_LW_ranked_2 : decode b_LW_ranked 2 = .ok (.aload_n 0, 1) := by decide +kernel
theorem d_LW_ranked_3 : decode b_LW_ranked 3 = .ok (.iload_n 1, 1) := by decide +kernel
theorem d_LW_ranked_4 : decode b_LW_ranked 4 = .ok (.invokevirtual 66, 3) := by decide +kernel
theorem d_LW_ranked_7 : decode b_LW_ranked 7 = .ok (.i2l, 1) := by decide +kernel
theorem d_LW_ranked_8 : decode b_LW_ranked 8 = .ok (.lastore, 1) := by decide +kernel
theorem d_LW_ranked_9 : decode b_LW_ranked 9 = .ok (.goto 6, 3) := by decide +kernel
theorem d_LW_ranked_12 : decode b_LW_ranked 12 = .ok (.astore_n 3, 1) := by decide +kernel
theorem d_LW_ranked_13 : decode b_LW_ranked 13 = .ok (.iconst 1, 1) := by decide +kernel
theorem d_LW_ranked_14 : decode b_LW_ranked 14 = .ok (.ireturn, 1) := by decide +kernel
theorem d_LW_ranked_15 : decode b_LW_ranked 15 = .ok (.iconst 0, 1) := by decide +kernel
theorem d_LW_ranked_16 : decode b_LW_ranked 16 = .ok (.ireturn, 1) := by decide +kernel
abbrev hh_LW_ranked : List (Nat × Nat × Nat × Nat) := [(0, 9, 12, 13)]
abbrev rm_LW_ranked : Room := { frames := 7, cells := 1, slots := 6, locals := 111 }
theorem pm_LW_ranked {α : Type} (B0 B1 B2 B3 B4 B5 B6 B7 B8 B9 B10 B11 B12 : List α) : (B0 ++ (B1 ++ B2 ++ B3 ++ B4 ++ B5 ++ B6 ++ B7 ++ B8 ++ B9 ++ B10 ++ B11 ++ B12)).Perm ((B1 ++ B7 ++ B9) ++ (B0 ++ B2 ++ B3 ++ B4 ++ B5 ++ B6 ++ B8 ++ B10 ++ B11 ++ B12)) := by
  classical
  refine List.perm_iff_count.mpr (fun a => ?_)
  simp only [List.count_append, List.count_nil]
  omega
set_option maxHeartbeats 40000000 in
set_option maxRecDepth 100000 in
theorem c_LW_ranked {G : (Nat → Prop) → State → Prop} (hG : gok G) (hGn : gN G) {adK adV : Nat → Nat} (hGs : gSt adK adV G) (hGt : gTh G) (hGc : gNC G) (l : Launch) (hst : l.stackTraces = false) (dC : Nat → ClassId) (dI : Nat → Nat → Nat) (g : Nat → ClassId) (F : Nat) (sz : Nat) (h : Nat) (u : Nat → Nat → Nat) (x : Nat → St) (n : Nat) (ho : Nat) (f : Nat → Int64) (a1 : Int32) {o : Nat × Int32} (hm : m_AM_ranked F (x 0) (x 5) (x 7) a1 = some o) (hk : o.1 = 0 ∨ o.1 = 1) : Met l y_LW_ranked (.codeWith y_LW_ranked b_LW_ranked 4 (some .int) hh_LW_ranked :: gw) rm_LW_ranked (kq (dC, dI) vwCl (tyv g) G [.ref h, .int a1, .ref ho] sz (wd_O g ho f ++ wd_C g h u x n)) (kqi (dC, dI) vwCl (tyv g) (wd_O g ho f ++ wd_C g h u x n) (nI o.1) (wd_O g ho (ot o.1 o.2 f) ++ wd_C g h u x n) sz) 1 6 (va_A (wd_O g ho f ++ wd_C g h u x n) sz) := by
  refine kmW (Qc := fun sz => kqi (dC, dI) vwCl (tyv g) (wd_O g ho f ++ wd_C g h u x n) (nI o.1) (wd_O g ho (ot o.1 o.2 f) ++ wd_C g h u x n) sz) (cc := b_LW_ranked) (maxL := 4) (ret := some .int) (hh := hh_LW_ranked) (by decide) rfl (Nat.le_of_ble_eq_true rfl) ?_
  intro p e s m args below meth c Q hQ hx hb hr hts hown hlocks hml htab H locs A hAe hA hP hK hD hS hGA ls hl
  have hl : lv_has ls 4 [(0, .ref h), (1, .int a1), (2, .ref ho)] := hl
  have hts : ∀ w ∈ gw, w.before args s = true := fun w h => hts w (List.mem_cons_of_mem _ h)
  have hown : s.vm.findClass "AlarmMatrixLaw" = some m.cls := hown
  refine lv_aload_n hx hb d_LW_ranked_0 rfl (lv_at hl 2 rfl) ?_
  refine lv_iconst (v := (0 : Int32)) hx hb d_LW_ranked_1 (by decide) ?_
  refine lv_aload_n hx hb d_LW_ranked_2 rfl (lv_at hl 0 rfl) ?_
  refine lv_iload_n hx hb d_LW_ranked_3 rfl (lv_at hl 1 rfl) ?_
  have hP : va_P (dC, dI) vwCl ((wd_AM g h (u 0) (x 0) ++ wd_Plan g ((u 0) 4) (u 5) (x 5) ++ wd_Acts g ((u 5) 1) (u 7) (x 7)) ++ (wd_O g ho f ++ wd_Text g ((u 0) 0) (u 1) (x 1) ++ wd_Points g ((u 0) 1) (u 2) (x 2) n ++ wd_LA g ((u 0) 2) (u 3) ++ wd_LS g (u 3) (fun j => u (10 + j)) (fun j => x (10 + j)) ++ wd_Events g ((u 0) 3) (u 4) (x 4) ++ wd_Zones g ((u 5) 0) (u 6) (x 6) ++ wd_Plan g ((u 0) 5) (u 8) (x 8) ++ wd_Zones g ((u 8) 0) (u 9) (x 9) ++ wd_Acts g ((u 8) 1) (u 18) (x 18))) H := hP.perm (pm_LW_ranked _ _ _ _ _ _ _ _ _ _ _ _ _)
  have hD : va_D A ((wd_AM g h (u 0) (x 0) ++ wd_Plan g ((u 0) 4) (u 5) (x 5) ++ wd_Acts g ((u 5) 1) (u 7) (x 7)) ++ (wd_O g ho f ++ wd_Text g ((u 0) 0) (u 1) (x 1) ++ wd_Points g ((u 0) 1) (u 2) (x 2) n ++ wd_LA g ((u 0) 2) (u 3) ++ wd_LS g (u 3) (fun j => u (10 + j)) (fun j => x (10 + j)) ++ wd_Events g ((u 0) 3) (u 4) (x 4) ++ wd_Zones g ((u 5) 0) (u 6) (x 6) ++ wd_Plan g ((u 0) 5) (u 8) (x 8) ++ wd_Zones g ((u 8) 0) (u 9) (x 9) ++ wd_Acts g ((u 8) 1) (u 18) (x 18))) := hD.perm (pm_LW_ranked _ _ _ _ _ _ _ _ _ _ _ _ _)
  rcases hk with hk | hk
  · have hM := c_AM_ranked hG hGn hGs hGt l hst dC dI g F H.size h (u 0) (x 0) (u 5) (x 5) (u 7) (x 7) a1 hm
    rw [hk] at hM
    refine kciP (wc := wd_AM g h (u 0) (x 0) ++ wd_Plan g ((u 0) 4) (u 5) (x 5) ++ wd_Acts g ((u 5) 1) (u 7) (x 7)) (wr := wd_O g ho f ++ wd_Text g ((u 0) 0) (u 1) (x 1) ++ wd_Points g ((u 0) 1) (u 2) (x 2) n ++ wd_LA g ((u 0) 2) (u 3) ++ wd_LS g (u 3) (fun j => u (10 + j)) (fun j => x (10 + j)) ++ wd_Events g ((u 0) 3) (u 4) (x 4) ++ wd_Zones g ((u 5) 0) (u 6) (x 6) ++ wd_Plan g ((u 0) 5) (u 8) (x 8) ++ wd_Zones g ((u 8) 0) (u 9) (x 9) ++ wd_Acts g ((u 8) 1) (u 18) (x 18)) (w1 := wd_AM g h (u 0) (x 0) ++ wd_Plan g ((u 0) 4) (u 5) (x 5) ++ wd_Acts g ((u 5) 1) (u 7) (x 7)) hP hD hS hA (va_runV (As := [.int a1]) (rest := [.int (0 : Int32), .ref ho]) ⟨hx, hb, hml, hown, hts⟩ hM.met (cwV 1 hts (gdV k5_6 k5_7 k5_8 k1_1 k5_9) rfl rfl rfl (by decide +kernel) ⟨Nat.le_of_ble_eq_true rfl, Nat.le_of_ble_eq_true rfl⟩) (kpVP hG hP hK hD hS hA hGA (ci := 0) (q0 := 0) rfl rfl rfl) rfl rfl hl.1 rfl (lv_room (Nat.le_of_ble_eq_true rfl)) d_LW_ranked_4 ⟨Nat.le_of_ble_eq_true rfl, Nat.le_of_ble_eq_true rfl⟩) (fun H locs hP hD hS => ?_)
    have hP : va_P (dC, dI) vwCl (wd_O g ho f ++ wd_C g h u x n) H := hP.perm (pm_LW_ranked (wd_O g ho f) (wd_AM g h (u 0) (x 0)) (wd_Text g ((u 0) 0) (u 1) (x 1)) (wd_Points g ((u 0) 1) (u 2) (x 2) n) (wd_LA g ((u 0) 2) (u 3)) (wd_LS g (u 3) (fun j => u (10 + j)) (fun j => x (10 + j))) (wd_Events g ((u 0) 3) (u 4) (x 4)) (wd_Plan g ((u 0) 4) (u 5) (x 5)) (wd_Zones g ((u 5) 0) (u 6) (x 6)) (wd_Acts g ((u 5) 1) (u 7) (x 7)) (wd_Plan g ((u 0) 5) (u 8) (x 8)) (wd_Zones g ((u 8) 0) (u 9) (x 9)) (wd_Acts g ((u 8) 1) (u 18) (x 18))).symm
    have hD : va_D A (wd_O g ho f ++ wd_C g h u x n) := hD.perm (pm_LW_ranked (wd_O g ho f) (wd_AM g h (u 0) (x 0)) (wd_Text g ((u 0) 0) (u 1) (x 1)) (wd_Points g ((u 0) 1) (u 2) (x 2) n) (wd_LA g ((u 0) 2) (u 3)) (wd_LS g (u 3) (fun j => u (10 + j)) (fun j => x (10 + j))) (wd_Events g ((u 0) 3) (u 4) (x 4)) (wd_Plan g ((u 0) 4) (u 5) (x 5)) (wd_Zones g ((u 5) 0) (u 6) (x 6)) (wd_Acts g ((u 5) 1) (u 7) (x 7)) (wd_Plan g ((u 0) 5) (u 8) (x 8)) (wd_Zones g ((u 8) 0) (u 9) (x 9)) (wd_Acts g ((u 8) 1) (u 18) (x 18))).symm
    refine lv_i2l (v := (o.2).toInt64) hx hb d_LW_ranked_7 rfl ?_
    refine va_last (f := f) hx hb hK hP hD hS 0 4 rfl rfl (by unfold vp_in; decide) d_LW_ranked_8 (fun H locs hP hD hS => ?_)
    have hP : va_P (dC, dI) vwCl (wd_O g ho (vp_updL f (0 : Int32).toNatClampNeg (o.2).toInt64) ++ wd_C g h u x n) H := hP
    have hD : va_D A (wd_O g ho (vp_updL f (0 : Int32).toNatClampNeg (o.2).toInt64) ++ wd_C g h u x n) := hD
    refine lv_goto (tgt := 15) hx hb d_LW_ranked_9 (by decide) ?_
    refine lv_iconst (v := (0 : Int32)) hx hb d_LW_ranked_15 (by decide) ?_
    rw [hQ, hk]
    exact kri hx hb hr hlocks hAe hP hK hD hS d_LW_ranked_16
  · have hM := c_AM_ranked hG hGn hGs hGt l hst dC dI g F H.size h (u 0) (x 0) (u 5) (x 5) (u 7) (x 7) a1 hm
    rw [hk] at hM
    refine kcTP (k := 1) (hpc := 12) (wc := wd_AM g h (u 0) (x 0) ++ wd_Plan g ((u 0) 4) (u 5) (x 5) ++ wd_Acts g ((u 5) 1) (u 7) (x 7)) (wr := wd_O g ho f ++ wd_Text g ((u 0) 0) (u 1) (x 1) ++ wd_Points g ((u 0) 1) (u 2) (x 2) n ++ wd_LA g ((u 0) 2) (u 3) ++ wd_LS g (u 3) (fun j => u (10 + j)) (fun j => x (10 + j)) ++ wd_Events g ((u 0) 3) (u 4) (x 4) ++ wd_Zones g ((u 5) 0) (u 6) (x 6) ++ wd_Plan g ((u 0) 5) (u 8) (x 8) ++ wd_Zones g ((u 8) 0) (u 9) (x 9) ++ wd_Acts g ((u 8) 1) (u 18) (x 18)) (w1 := wd_AM g h (u 0) (x 0) ++ wd_Plan g ((u 0) 4) (u 5) (x 5) ++ wd_Acts g ((u 5) 1) (u 7) (x 7)) (As := [.int a1]) (rest := [.int (0 : Int32), .ref ho]) ⟨hx, hb, hml, hown, hts⟩ hM (by decide) (cwV 1 hts (gdV k5_6 k5_7 k5_8 k1_1 k5_9) rfl rfl rfl (by decide +kernel) ⟨Nat.le_of_ble_eq_true rfl, Nat.le_of_ble_eq_true rfl⟩) (kpVP hG hP hK hD hS hA hGA (ci := 0) (q0 := 0) rfl rfl rfl) rfl hl.1 (lv_room (Nat.le_of_ble_eq_true rfl)) d_LW_ranked_4 ⟨Nat.le_of_ble_eq_true rfl, Nat.le_of_ble_eq_true rfl⟩ hP hD hS hA (fun E hE => ?_) (fun q H locs hP hD hS => ?_)
    · rcases hE with ⟨-, rfl⟩ | ⟨h9, -⟩
      · exact kHand1 htab (by decide) (by decide) (hts _ k3_95) (gHand hGt hGA).1
      · cases h9
    · have hP : va_P (dC, dI) vwCl (wd_O g ho f ++ wd_C g h u x n) H := hP.perm (pm_LW_ranked (wd_O g ho f) (wd_AM g h (u 0) (x 0)) (wd_Text g ((u 0) 0) (u 1) (x 1)) (wd_Points g ((u 0) 1) (u 2) (x 2) n) (wd_LA g ((u 0) 2) (u 3)) (wd_LS g (u 3) (fun j => u (10 + j)) (fun j => x (10 + j))) (wd_Events g ((u 0) 3) (u 4) (x 4)) (wd_Plan g ((u 0) 4) (u 5) (x 5)) (wd_Zones g ((u 5) 0) (u 6) (x 6)) (wd_Acts g ((u 5) 1) (u 7) (x 7)) (wd_Plan g ((u 0) 5) (u 8) (x 8)) (wd_Zones g ((u 8) 0) (u 9) (x 9)) (wd_Acts g ((u 8) 1) (u 18) (x 18))).symm
      have hD : va_D A (wd_O g ho f ++ wd_C g h u x n) := hD.perm (pm_LW_ranked (wd_O g ho f) (wd_AM g h (u 0) (x 0)) (wd_Text g ((u 0) 0) (u 1) (x 1)) (wd_Points g ((u 0) 1) (u 2) (x 2) n) (wd_LA g ((u 0) 2) (u 3)) (wd_LS g (u 3) (fun j => u (10 + j)) (fun j => x (10 + j))) (wd_Events g ((u 0) 3) (u 4) (x 4)) (wd_Plan g ((u 0) 4) (u 5) (x 5)) (wd_Zones g ((u 5) 0) (u 6) (x 6)) (wd_Acts g ((u 5) 1) (u 7) (x 7)) (wd_Plan g ((u 0) 5) (u 8) (x 8)) (wd_Zones g ((u 8) 0) (u 9) (x 9)) (wd_Acts g ((u 8) 1) (u 18) (x 18))).symm
      refine lv_astore_n (lv' := [(3, .ref q), (0, .ref h), (1, .int a1), (2, .ref ho)]) hx hb d_LW_ranked_12 rfl hl (by decide) rfl (fun ls hl => ?_)
      refine lv_iconst (v := (1 : Int32)) hx hb d_LW_ranked_13 (by decide) ?_
      rw [hQ, hk]
      exact kri hx hb hr hlocks hAe hP hK hD hS d_LW_ranked_14

abbrev b_Reader_stepToToldZone : ByteArray := prog_7_method_9_code
abbrev y_Reader_stepToToldZone : MethodName := ⟨"AlarmMatrix$Reader", "stepToToldZone", "()I"⟩
theorem d_Reader_stepToToldZone_0 : decode b_Reader_stepToToldZone 0 = .ok (.aload_n 0, 1) := by decide +kernel
theorem d_Reader_stepToToldZone_1 : decode b_Reader_stepToToldZone 1 = .ok (.getfield 14, 3) := by decide +kernel
theorem d_Reader_stepToToldZone_4 : decode b_Reader_stepToToldZone 4 = .ok (.invokevirtual 33, 3) := by decide +kernel
theorem d_Reader_stepToToldZone_7 : decode b_Reader_stepToToldZone 7 = .ok (.aload_n 0, 1) := by decide +kernel
theorem d_Reader_stepToToldZone_8 : decode b_Reader_stepToToldZone 8 = .ok (.getfield 14, 3) := by decide +kernel
theorem d_Reader_stepToToldZone_11 : decode b_Reader_stepToToldZone 11 = .ok (.iconst 0, 1) := by decide +kernel
theorem d_Reader_stepToToldZone_12 : decode b_Reader_stepToToldZone 12 = .ok (.bipush 19, 2) := by decide +kernel
theorem d_Reader_stepToToldZone_14 : decode b_Reader_stepToToldZone 14 = .ok (.invokevirtual 105, 3) := by decide +kernel
theorem d_Reader_stepToToldZone_17 : decode b_Reader_stepToToldZone 17 = .ok (.istore_n 1, 1) := by decide +kernel
theorem d_Reader_stepToToldZone_18 : decode b_Reader_stepToToldZone 18 = .ok (.aload_n 0, 1) := by decide +kernel
theorem d_Reader_stepToToldZone_19 : decode b_Reader_stepToToldZone 19 = .ok (.getfield 20, 3) := by decide +kernel
theorem d_Reader_stepToToldZone_22 : decode b_Reader_stepToToldZone 22 = .ok (.invokevirtual 75, 3) := by decide +kernel
theorem d_Reader_stepToToldZone_25 : decode b_Reader_stepToToldZone 25 = .ok (.iload_n 1, 1) := by decide +kernel
theorem d_Reader_stepToToldZone_26 : decode b_Reader_stepToToldZone 26 = .ok (.invokevirtual 79, 3) := by decide +kernel
theorem d_Reader_stepToToldZone_29 : decode b_Reader_stepToToldZone 29 = .ok (.ifCond .eq 7, 3) := by decide +kernel
theorem d_Reader_stepToToldZone_32 : decode b_Reader_stepToToldZone 32 = .ok (.iload_n 1, 1) := by decide +kernel
theorem d_Reader_stepToToldZone_33 : decode b_Reader_stepToToldZone 33 = .ok (.goto 4, 3) := by decide +kernel
theorem d_Reader_stepToToldZone_36 : decode b_Reader_stepToToldZone 36 = .ok (.iconst (-1), 1) := by decide +kernel
theorem d_Reader_stepToToldZone_37 : decode b_Reader_stepToToldZone 37 = .ok (.ireturn, 1) := by decide +kernel
def m_Reader_stepToToldZone (F : Nat) (x0 : St) (x1 : St) (x2 : St) (x3 : St) (x4 : St) : Option (Int32 × St) :=
  (bn1 (m_Words_step F x2 x4) (fun z2_4 => (bn1 (m_Words_valueWithin F z2_4 x4 (0 : Int32) (19 : Int32)) (fun r14 => (bn1 (m_Zones_isTold F x3 r14) (fun r26 => (if r26 = (0 : Int32) then (some ((-1 : Int32), z2_4)) else (some (r14, z2_4)))))))))
abbrev rm_Reader_stepToToldZone : Room := { frames := 2, cells := 0, slots := 0, locals := 47 }
set_option maxHeartbeats 4000000 in
set_option maxRecDepth 100000 in
theorem c_Reader_stepToToldZone {G : (Nat → Prop) → State → Prop} (hG : gok G) (hGn : gN G) (l : Launch) (dC : Nat → ClassId) (dI : Nat → Nat → Nat) (g : Nat → ClassId) (F : Nat) (sz : Nat) (h0 : Nat) (q0 : Nat → Nat) (x0 : St) (q1 : Nat → Nat) (x1 : St) (q2 : Nat → Nat) (x2 : St) (q3 : Nat → Nat) (x3 : St) (q4 : Nat → Nat) (x4 : St) {o : Int32 × St} (hm : m_Reader_stepToToldZone F x0 x1 x2 x3 x4 = some o) : Met l y_Reader_stepToToldZone (.code y_Reader_stepToToldZone b_Reader_stepToToldZone 2 (some .int) :: gw) rm_Reader_stepToToldZone (kq (dC, dI) vwCl (tyv g) G [.ref h0] sz (wd_Reader g h0 q0 x0 ++ wd_Plan g (q0 1) q1 x1 ++ wd_Words g (q0 0) q2 x2 ++ wd_Zones g (q1 0) q3 x3 ++ wd_Text g (q2 0) q4 x4)) (kqi (dC, dI) vwCl (tyv g) (wd_Reader g h0 q0 x0 ++ wd_Plan g (q0 1) q1 x1 ++ wd_Words g (q0 0) q2 x2 ++ wd_Zones g (q1 0) q3 x3 ++ wd_Text g (q2 0) q4 x4) o.1 (wd_Reader g h0 q0 x0 ++ wd_Plan g (q0 1) q1 x1 ++ wd_Words g (q0 0) q2 (o.2) ++ wd_Zones g (q1 0) q3 x3 ++ wd_Text g (q2 0) q4 x4) sz) 0 0 (va_A (wd_Reader g h0 q0 x0 ++ wd_Plan g (q0 1) q1 x1 ++ wd_Words g (q0 0) q2 x2 ++ wd_Zones g (q1 0) q3 x3 ++ wd_Text g (q2 0) q4 x4) sz) := by
  unfold m_Reader_stepToToldZone at hm
  refine km (Qc := fun sz => kqi (dC, dI) vwCl (tyv g) (wd_Reader g h0 q0 x0 ++ wd_Plan g (q0 1) q1 x1 ++ wd_Words g (q0 0) q2 x2 ++ wd_Zones g (q1 0) q3 x3 ++ wd_Text g (q2 0) q4 x4) o.1 (wd_Reader g h0 q0 x0 ++ wd_Plan g (q0 1) q1 x1 ++ wd_Words g (q0 0) q2 (o.2) ++ wd_Zones g (q1 0) q3 x3 ++ wd_Text g (q2 0) q4 x4) sz) (cc := b_Reader_stepToToldZone) (maxL := 2) (ret := some .int) (by decide) rfl (Nat.le_of_ble_eq_true rfl) ?_
  intro p e s m args below meth c Q hQ hx hb hr hts hown hlocks hml hnm H locs A hAe hA hP hK hD hS hGA ls hl
  have hl : lv_has ls 2 [(0, .ref h0)] := hl
  have hts : ∀ w ∈ gw, w.before args s = true := fun w h => hts w (List.mem_cons_of_mem _ h)
  have hown : s.vm.findClass "AlarmMatrix$Reader" = some m.cls := hown
  refine lv_aload_n hx hb d_Reader_stepToToldZone_0 rfl (lv_at hl 0 rfl) ?_
  refine va_get (D := (dC, dI)) (ci := 3) (v := .ref (q0 0)) (C := "AlarmMatrix$Reader") (T := T_Reader) (N := 3) hx hb hts i_Reader hown hK hP 0 rfl rfl 0 (by decide) (hts _ k2_34) (fun _ h9 => h9) rfl d_Reader_stepToToldZone_1 ?_
  obtain ⟨z2_4, hcl, hm⟩ := bn1_s hm
  refine kcv (wc := wd_Words g (q0 0) q2 x2 ++ wd_Text g (q2 0) q4 x4) (wr := wd_Reader g h0 q0 x0 ++ wd_Plan g (q0 1) q1 x1 ++ wd_Zones g (q1 0) q3 x3) (w1 := wd_Words g (q0 0) q2 z2_4 ++ wd_Text g (q2 0) q4 x4) hP hD hS hA [5, 12, 13, 14] [0, 1, 2, 3, 4, 6, 7, 8, 9, 10, 11] rfl rfl (by decide) (by decide) (va_runV (As := []) (rest := []) ⟨hx, hb, hml, hown, hts⟩ (c_Words_step hG hGn l dC dI g F H.size (q0 0) q2 x2 q4 x4 hcl) (cwV 0 hts (gdV k2_63 k2_64 k2_65 k1_21 k2_66) rfl rfl rfl (by decide +kernel) ⟨Nat.le_of_ble_eq_true rfl, Nat.le_of_ble_eq_true rfl⟩) (kpV hG hP hK hD hS hA hGA [5, 12, 13, 14] (by decide) rfl (ci := 2) (q0 := 0) rfl rfl rfl) rfl rfl hl.1 rfl (lv_room (Nat.le_of_ble_eq_true rfl)) d_Reader_stepToToldZone_4 ⟨Nat.le_of_ble_eq_true rfl, Nat.le_of_ble_eq_true rfl⟩) (fun H locs hP hD hS => ?_)
  have hP : va_P (dC, dI) vwCl (wd_Reader g h0 q0 x0 ++ wd_Plan g (q0 1) q1 x1 ++ wd_Words g (q0 0) q2 z2_4 ++ wd_Zones g (q1 0) q3 x3 ++ wd_Text g (q2 0) q4 x4) H := hP.sub (ws' := wd_Reader g h0 q0 x0 ++ wd_Plan g (q0 1) q1 x1 ++ wd_Words g (q0 0) q2 z2_4 ++ wd_Zones g (q1 0) q3 x3 ++ wd_Text g (q2 0) q4 x4) [0, 1, 2, 3, 4, 11, 5, 6, 7, 8, 9, 10, 12, 13, 14] rfl
  have hD : va_D A (wd_Reader g h0 q0 x0 ++ wd_Plan g (q0 1) q1 x1 ++ wd_Words g (q0 0) q2 z2_4 ++ wd_Zones g (q1 0) q3 x3 ++ wd_Text g (q2 0) q4 x4) := hD.sub (ws' := wd_Reader g h0 q0 x0 ++ wd_Plan g (q0 1) q1 x1 ++ wd_Words g (q0 0) q2 z2_4 ++ wd_Zones g (q1 0) q3 x3 ++ wd_Text g (q2 0) q4 x4) [0, 1, 2, 3, 4, 11, 5, 6, 7, 8, 9, 10, 12, 13, 14] (by decide) rfl
  refine lv_aload_n hx hb d_Reader_stepToToldZone_7 rfl (lv_at hl 0 rfl) ?_
  refine va_get (D := (dC, dI)) (ci := 3) (v := .ref (q0 0)) (C := "AlarmMatrix$Reader") (T := T_Reader) (N := 3) hx hb hts i_Reader hown hK hP 0 rfl rfl 0 (by decide) (hts _ k2_34) (fun _ h9 => h9) rfl d_Reader_stepToToldZone_8 ?_
  refine lv_iconst (v := (0 : Int32)) hx hb d_Reader_stepToToldZone_11 (by decide) ?_
  refine lv_bipush (v := (19 : Int32)) hx hb d_Reader_stepToToldZone_12 (by decide) ?_
  obtain ⟨r14, hcl, hm⟩ := bn1_s hm
  refine kci (wc := wd_Words g (q0 0) q2 z2_4 ++ wd_Text g (q2 0) q4 x4) (wr := wd_Reader g h0 q0 x0 ++ wd_Plan g (q0 1) q1 x1 ++ wd_Zones g (q1 0) q3 x3) (w1 := wd_Words g (q0 0) q2 z2_4 ++ wd_Text g (q2 0) q4 x4) hP hD hS hA [5, 12, 13, 14] [0, 1, 2, 3, 4, 6, 7, 8, 9, 10, 11] rfl rfl (by decide) (by decide) (va_runV (As := [.int (0 : Int32), .int (19 : Int32)]) (rest := []) ⟨hx, hb, hml, hown, hts⟩ (c_Words_valueWithin hG hGn l dC dI g F H.size (q0 0) q2 z2_4 q4 x4 (0 : Int32) (19 : Int32) hcl) (cwV 2 hts (gdV k2_180 k2_149 k2_150 k1_21 k2_151) rfl rfl rfl (by decide +kernel) ⟨Nat.le_of_ble_eq_true rfl, Nat.le_of_ble_eq_true rfl⟩) (kpV hG hP hK hD hS hA hGA [5, 12, 13, 14] (by decide) rfl (ci := 2) (q0 := 0) rfl rfl rfl) rfl rfl hl.1 rfl (lv_room (Nat.le_of_ble_eq_true rfl)) d_Reader_stepToToldZone_14 ⟨Nat.le_of_ble_eq_true rfl, Nat.le_of_ble_eq_true rfl⟩) (fun H locs hP hD hS => ?_)
  have hP : va_P (dC, dI) vwCl (wd_Reader g h0 q0 x0 ++ wd_Plan g (q0 1) q1 x1 ++ wd_Words g (q0 0) q2 z2_4 ++ wd_Zones g (q1 0) q3 x3 ++ wd_Text g (q2 0) q4 x4) H := hP.sub (ws' := wd_Reader g h0 q0 x0 ++ wd_Plan g (q0 1) q1 x1 ++ wd_Words g (q0 0) q2 z2_4 ++ wd_Zones g (q1 0) q3 x3 ++ wd_Text g (q2 0) q4 x4) [0, 1, 2, 3, 4, 11, 5, 6, 7, 8, 9, 10, 12, 13, 14] rfl
  have hD : va_D A (wd_Reader g h0 q0 x0 ++ wd_Plan g (q0 1) q1 x1 ++ wd_Words g (q0 0) q2 z2_4 ++ wd_Zones g (q1 0) q3 x3 ++ wd_Text g (q2 0) q4 x4) := hD.sub (ws' := wd_Reader g h0 q0 x0 ++ wd_Plan g (q0 1) q1 x1 ++ wd_Words g (q0 0) q2 z2_4 ++ wd_Zones g (q1 0) q3 x3 ++ wd_Text g (q2 0) q4 x4) [0, 1, 2, 3, 4, 11, 5, 6, 7, 8, 9, 10, 12, 13, 14] (by decide) rfl
  refine lv_istore_n (lv' := [(1, .int r14), (0, .ref h0)]) hx hb d_Reader_stepToToldZone_17 rfl hl (by decide) rfl (fun ls hl => ?_)
  refine lv_aload_n hx hb d_Reader_stepToToldZone_18 rfl (lv_at hl 1 rfl) ?_
  refine va_get (D := (dC, dI)) (ci := 3) (v := .ref (q0 1)) (C := "AlarmMatrix$Reader") (T := T_Reader) (N := 3) hx hb hts i_Reader hown hK hP 0 rfl rfl 1 (by decide) (hts _ k2_35) (fun _ h9 => h9) rfl d_Reader_stepToToldZone_19 ?_
  refine kcr (wc := wd_Plan g (q0 1) q1 x1) (wr := wd_Reader g h0 q0 x0 ++ wd_Words g (q0 0) q2 z2_4 ++ wd_Zones g (q1 0) q3 x3 ++ wd_Text g (q2 0) q4 x4) (w1 := wd_Plan g (q0 1) q1 x1) hP hD hS hA [1, 2, 3, 4] [0, 5, 6, 7, 8, 9, 10, 11, 12, 13, 14] rfl rfl (by decide) (by decide) (va_runV (As := []) (rest := []) ⟨hx, hb, hml, hown, hts⟩ (c_Plan_zones hG hGn l dC dI g F H.size (q0 1) q1 x1) (cwV 0 hts (gdV k2_155 k2_156 k2_157 k1_7 k2_158) rfl rfl rfl (by decide +kernel) ⟨Nat.le_of_ble_eq_true rfl, Nat.le_of_ble_eq_true rfl⟩) (kpV hG hP hK hD hS hA hGA [1, 2, 3, 4] (by decide) rfl (ci := 4) (q0 := 0) rfl rfl rfl) rfl rfl hl.1 rfl (lv_room (Nat.le_of_ble_eq_true rfl)) d_Reader_stepToToldZone_22 ⟨Nat.le_of_ble_eq_true rfl, Nat.le_of_ble_eq_true rfl⟩) (fun H locs hP hD hS => ?_)
  have hP : va_P (dC, dI) vwCl (wd_Reader g h0 q0 x0 ++ wd_Plan g (q0 1) q1 x1 ++ wd_Words g (q0 0) q2 z2_4 ++ wd_Zones g (q1 0) q3 x3 ++ wd_Text g (q2 0) q4 x4) H := hP.sub (ws' := wd_Reader g h0 q0 x0 ++ wd_Plan g (q0 1) q1 x1 ++ wd_Words g (q0 0) q2 z2_4 ++ wd_Zones g (q1 0) q3 x3 ++ wd_Text g (q2 0) q4 x4) [0, 11, 12, 13, 14, 1, 2, 3, 4, 5, 6, 7, 8, 9, 10] rfl
  have hD : va_D A (wd_Reader g h0 q0 x0 ++ wd_Plan g (q0 1) q1 x1 ++ wd_Words g (q0 0) q2 z2_4 ++ wd_Zones g (q1 0) q3 x3 ++ wd_Text g (q2 0) q4 x4) := hD.sub (ws' := wd_Reader g h0 q0 x0 ++ wd_Plan g (q0 1) q1 x1 ++ wd_Words g (q0 0) q2 z2_4 ++ wd_Zones g (q1 0) q3 x3 ++ wd_Text g (q2 0) q4 x4) [0, 11, 12, 13, 14, 1, 2, 3, 4, 5, 6, 7, 8, 9, 10] (by decide) rfl
  refine lv_iload_n hx hb d_Reader_stepToToldZone_25 rfl (lv_at hl 0 rfl) ?_
  obtain ⟨r26, hcl, hm⟩ := bn1_s hm
  refine kci (wc := wd_Zones g (q1 0) q3 x3) (wr := wd_Reader g h0 q0 x0 ++ wd_Plan g (q0 1) q1 x1 ++ wd_Words g (q0 0) q2 z2_4 ++ wd_Text g (q2 0) q4 x4) (w1 := wd_Zones g (q1 0) q3 x3) hP hD hS hA [6, 7, 8, 9, 10, 11] [0, 1, 2, 3, 4, 5, 12, 13, 14] rfl rfl (by decide) (by decide) (va_runV (As := [.int r14]) (rest := []) ⟨hx, hb, hml, hown, hts⟩ (c_Zones_isTold hG hGn l dC dI g F H.size (q1 0) q3 x3 r14 hcl) (cwV 1 hts (gdV k2_159 k2_160 k2_161 k1_8 k2_162) rfl rfl rfl (by decide +kernel) ⟨Nat.le_of_ble_eq_true rfl, Nat.le_of_ble_eq_true rfl⟩) (kpV hG hP hK hD hS hA hGA [6, 7, 8, 9, 10, 11] (by decide) rfl (ci := 5) (q0 := 0) rfl rfl rfl) rfl rfl hl.1 rfl (lv_room (Nat.le_of_ble_eq_true rfl)) d_Reader_stepToToldZone_26 ⟨Nat.le_of_ble_eq_true rfl, Nat.le_of_ble_eq_true rfl⟩) (fun H locs hP hD hS => ?_)
  have hP : va_P (dC, dI) vwCl (wd_Reader g h0 q0 x0 ++ wd_Plan g (q0 1) q1 x1 ++ wd_Words g (q0 0) q2 z2_4 ++ wd_Zones g (q1 0) q3 x3 ++ wd_Text g (q2 0) q4 x4) H := hP.sub (ws' := wd_Reader g h0 q0 x0 ++ wd_Plan g (q0 1) q1 x1 ++ wd_Words g (q0 0) q2 z2_4 ++ wd_Zones g (q1 0) q3 x3 ++ wd_Text g (q2 0) q4 x4) [0, 1, 2, 3, 4, 5, 9, 10, 11, 12, 13, 14, 6, 7, 8] rfl
  have hD : va_D A (wd_Reader g h0 q0 x0 ++ wd_Plan g (q0 1) q1 x1 ++ wd_Words g (q0 0) q2 z2_4 ++ wd_Zones g (q1 0) q3 x3 ++ wd_Text g (q2 0) q4 x4) := hD.sub (ws' := wd_Reader g h0 q0 x0 ++ wd_Plan g (q0 1) q1 x1 ++ wd_Words g (q0 0) q2 z2_4 ++ wd_Zones g (q1 0) q3 x3 ++ wd_Text g (q2 0) q4 x4) [0, 1, 2, 3, 4, 5, 9, 10, 11, 12, 13, 14, 6, 7, 8] (by decide) rfl
  refine lv_if_eq (tgt := 36) hx hb d_Reader_stepToToldZone_29 (by decide) (fun hc => ?_) (fun hc => ?_)
  · replace hm := if_t hm hc
    refine lv_iconst (v := (-1 : Int32)) hx hb d_Reader_stepToToldZone_36 (by decide) ?_
    obtain rfl := Option.some.inj hm
    rw [hQ]
    exact kri hx hb hr hlocks hAe hP hK hD hS d_Reader_stepToToldZone_37
  · replace hm := if_f hm hc
    refine lv_iload_n hx hb d_Reader_stepToToldZone_32 rfl (lv_at hl 0 rfl) ?_
    refine lv_goto (tgt := 37) hx hb d_Reader_stepToToldZone_33 (by decide) ?_
    obtain rfl := Option.some.inj hm
    rw [hQ]
    exact kri hx hb hr hlocks hAe hP hK hD hS d_Reader_stepToToldZone_37
abbrev b_Reader_stepToToldAct : ByteArray := prog_7_method_10_code
abbrev y_Reader_stepToToldAct : MethodName := ⟨"AlarmMatrix$Reader", "stepToToldAct", "()I"⟩
theorem d_Reader_stepToToldAct_0 : decode b_Reader_stepToToldAct 0 = .ok (.aload_n 0, 1) := by decide +kernel
theorem d_Reader_stepToToldAct_1 : decode b_Reader_stepToToldAct 1 = .ok (.getfield 14, 3) := by decide +kernel
theorem d_Reader_stepToToldAct_4 : decode b_Reader_stepToToldAct 4 = .ok (.invokevirtual 33, 3) := by decide +kernel
theorem d_Reader_stepToToldAct_7 : decode b_Reader_stepToToldAct 7 = .ok (.aload_n 0, 1) := by decide +kernel
theorem d_Reader_stepToToldAct_8 : decode b_Reader_stepToToldAct 8 = .ok (.getfield 14, 3) := by decide +kernel
theorem d_Reader_stepToToldAct_11 : decode b_Reader_stepToToldAct 11 = .ok (.iconst 0, 1) := by decide +kernel
theorem d_Reader_stepToToldAct_12 : decode b_Reader_stepToToldAct 12 = .ok (.bipush 19, 2) := by decide +kernel
theorem d_Reader_stepToToldAct_14 : decode b_Reader_stepToToldAct 14 = .ok (.invokevirtual 105, 3) := by decide +kernel
theorem d_Reader_stepToToldAct_17 : decode b_Reader_stepToToldAct 17 = .ok (.istore_n 1, 1) := by decide +kernel
theorem d_Reader_stepToToldAct_18 : decode b_Reader_stepToToldAct 18 = .ok (.aload_n 0, 1) := by decide +kernel
theorem d_Reader_stepToToldAct_19 : decode b_Reader_stepToToldAct 19 = .ok (.getfield 20, 3) := by decide +kernel
theorem d_Reader_stepToToldAct_22 : decode b_Reader_stepToToldAct 22 = .ok (.invokevirtual 115, 3) := by decide +kernel
theorem d_Reader_stepToToldAct_25 : decode b_Reader_stepToToldAct 25 = .ok (.iload_n 1, 1) := by decide +kernel
theorem d_Reader_stepToToldAct_26 : decode b_Reader_stepToToldAct 26 = .ok (.invokevirtual 119, 3) := by decide +kernel
theorem d_Reader_stepToToldAct_29 : decode b_Reader_stepToToldAct 29 = .ok (.ifCond .eq 7, 3) := by decide +kernel
theorem d_Reader_stepToToldAct_32 : decode b_Reader_stepToToldAct 32 = .ok (.iload_n 1, 1) := by decide +kernel
theorem d_Reader_stepToToldAct_33 : decode b_Reader_stepToToldAct 33 = .ok (.goto 4, 3) := by decide +kernel
theorem d_Reader_stepToToldAct_36 : decode b_Reader_stepToToldAct 36 = .ok (.iconst (-1), 1) := by decide +kernel
theorem d_Reader_stepToToldAct_37 : decode b_Reader_stepToToldAct 37 = .ok (.ireturn, 1) := by decide +kernel
def m_Reader_stepToToldAct (F : Nat) (x0 : St) (x1 : St) (x2 : St) (x3 : St) (x4 : St) : Option (Int32 × St) :=
  (bn1 (m_Words_step F x2 x4) (fun z2_4 => (bn1 (m_Words_valueWithin F z2_4 x4 (0 : Int32) (19 : Int32)) (fun r14 => (bn1 (m_Acts_isTold F x3 r14) (fun r26 => (if r26 = (0 : Int32) then (some ((-1 : Int32), z2_4)) else (some (r14, z2_4)))))))))
abbrev rm_Reader_stepToToldAct : Room := { frames := 2, cells := 0, slots := 0, locals := 47 }
set_option maxHeartbeats 4000000 in
set_option maxRecDepth 100000 in
theorem c_Reader_stepToToldAct {G : (Nat → Prop) → State → Prop} (hG : gok G) (hGn : gN G) (l : Launch) (dC : Nat → ClassId) (dI : Nat → Nat → Nat) (g : Nat → ClassId) (F : Nat) (sz : Nat) (h0 : Nat) (q0 : Nat → Nat) (x0 : St) (q1 : Nat → Nat) (x1 : St) (q2 : Nat → Nat) (x2 : St) (q3 : Nat → Nat) (x3 : St) (q4 : Nat → Nat) (x4 : St) {o : Int32 × St} (hm : m_Reader_stepToToldAct F x0 x1 x2 x3 x4 = some o) : Met l y_Reader_stepToToldAct (.code y_Reader_stepToToldAct b_Reader_stepToToldAct 2 (some .int) :: gw) rm_Reader_stepToToldAct (kq (dC, dI) vwCl (tyv g) G [.ref h0] sz (wd_Reader g h0 q0 x0 ++ wd_Plan g (q0 1) q1 x1 ++ wd_Words g (q0 0) q2 x2 ++ wd_Acts g (q1 1) q3 x3 ++ wd_Text g (q2 0) q4 x4)) (kqi (dC, dI) vwCl (tyv g) (wd_Reader g h0 q0 x0 ++ wd_Plan g (q0 1) q1 x1 ++ wd_Words g (q0 0) q2 x2 ++ wd_Acts g (q1 1) q3 x3 ++ wd_Text g (q2 0) q4 x4) o.1 (wd_Reader g h0 q0 x0 ++ wd_Plan g (q0 1) q1 x1 ++ wd_Words g (q0 0) q2 (o.2) ++ wd_Acts g (q1 1) q3 x3 ++ wd_Text g (q2 0) q4 x4) sz) 0 0 (va_A (wd_Reader g h0 q0 x0 ++ wd_Plan g (q0 1) q1 x1 ++ wd_Words g (q0 0) q2 x2 ++ wd_Acts g (q1 1) q3 x3 ++ wd_Text g (q2 0) q4 x4) sz) := by
  unfold m_Reader_stepToToldAct at hm
  refine km (Qc := fun sz => kqi (dC, dI) vwCl (tyv g) (wd_Reader g h0 q0 x0 ++ wd_Plan g (q0 1) q1 x1 ++ wd_Words g (q0 0) q2 x2 ++ wd_Acts g (q1 1) q3 x3 ++ wd_Text g (q2 0) q4 x4) o.1 (wd_Reader g h0 q0 x0 ++ wd_Plan g (q0 1) q1 x1 ++ wd_Words g (q0 0) q2 (o.2) ++ wd_Acts g (q1 1) q3 x3 ++ wd_Text g (q2 0) q4 x4) sz) (cc := b_Reader_stepToToldAct) (maxL := 2) (ret := some .int) (by decide) rfl (Nat.le_of_ble_eq_true rfl) ?_
  intro p e s m args below meth c Q hQ hx hb hr hts hown hlocks hml hnm H locs A hAe hA hP hK hD hS hGA ls hl
  have hl : lv_has ls 2 [(0, .ref h0)] := hl
  have hts : ∀ w ∈ gw, w.before args s = true := fun w h => hts w (List.mem_cons_of_mem _ h)
  have hown : s.vm.findClass "AlarmMatrix$Reader" = some m.cls := hown
  refine lv_aload_n hx hb d_Reader_stepToToldAct_0 rfl (lv_at hl 0 rfl) ?_
  refine va_get (D := (dC, dI)) (ci := 3) (v := .ref (q0 0)) (C := "AlarmMatrix$Reader") (T := T_Reader) (N := 3) hx hb hts i_Reader hown hK hP 0 rfl rfl 0 (by decide) (hts _ k2_34) (fun _ h9 => h9) rfl d_Reader_stepToToldAct_1 ?_
  obtain ⟨z2_4, hcl, hm⟩ := bn1_s hm
  refine kcv (wc := wd_Words g (q0 0) q2 x2 ++ wd_Text g (q2 0) q4 x4) (wr := wd_Reader g h0 q0 x0 ++ wd_Plan g (q0 1) q1 x1 ++ wd_Acts g (q1 1) q3 x3) (w1 := wd_Words g (q0 0) q2 z2_4 ++ wd_Text g (q2 0) q4 x4) hP hD hS hA [5, 19, 20, 21] [0, 1, 2, 3, 4, 6, 7, 8, 9, 10, 11, 12, 13, 14, 15, 16, 17, 18] rfl rfl (by decide) (by decide) (va_runV (As := []) (rest := []) ⟨hx, hb, hml, hown, hts⟩ (c_Words_step hG hGn l dC dI g F H.size (q0 0) q2 x2 q4 x4 hcl) (cwV 0 hts (gdV k2_63 k2_64 k2_65 k1_21 k2_66) rfl rfl rfl (by decide +kernel) ⟨Nat.le_of_ble_eq_true rfl, Nat.le_of_ble_eq_true rfl⟩) (kpV hG hP hK hD hS hA hGA [5, 19, 20, 21] (by decide) rfl (ci := 2) (q0 := 0) rfl rfl rfl) rfl rfl hl.1 rfl (lv_room (Nat.le_of_ble_eq_true rfl)) d_Reader_stepToToldAct_4 ⟨Nat.le_of_ble_eq_true rfl, Nat.le_of_ble_eq_true rfl⟩) (fun H locs hP hD hS => ?_)
  have hP : va_P (dC, dI) vwCl (wd_Reader g h0 q0 x0 ++ wd_Plan g (q0 1) q1 x1 ++ wd_Words g (q0 0) q2 z2_4 ++ wd_Acts g (q1 1) q3 x3 ++ wd_Text g (q2 0) q4 x4) H := hP.sub (ws' := wd_Reader g h0 q0 x0 ++ wd_Plan g (q0 1) q1 x1 ++ wd_Words g (q0 0) q2 z2_4 ++ wd_Acts g (q1 1) q3 x3 ++ wd_Text g (q2 0) q4 x4) [0, 1, 2, 3, 4, 18, 5, 6, 7, 8, 9, 10, 11, 12, 13, 14, 15, 16, 17, 19, 20, 21] rfl
  have hD : va_D A (wd_Reader g h0 q0 x0 ++ wd_Plan g (q0 1) q1 x1 ++ wd_Words g (q0 0) q2 z2_4 ++ wd_Acts g (q1 1) q3 x3 ++ wd_Text g (q2 0) q4 x4) := hD.sub (ws' := wd_Reader g h0 q0 x0 ++ wd_Plan g (q0 1) q1 x1 ++ wd_Words g (q0 0) q2 z2_4 ++ wd_Acts g (q1 1) q3 x3 ++ wd_Text g (q2 0) q4 x4) [0, 1, 2, 3, 4, 18, 5, 6, 7, 8, 9, 10, 11, 12, 13, 14, 15, 16, 17, 19, 20, 21] (by decide) rfl
  refine lv_aload_n hx hb d_Reader_stepToToldAct_7 rfl (lv_at hl 0 rfl) ?_
  refine va_get (D := (dC, dI)) (ci := 3) (v := .ref (q0 0)) (C := "AlarmMatrix$Reader") (T := T_Reader) (N := 3) hx hb hts i_Reader hown hK hP 0 rfl rfl 0 (by decide) (hts _ k2_34) (fun _ h9 => h9) rfl d_Reader_stepToToldAct_8 ?_
  refine lv_iconst (v := (0 : Int32)) hx hb d_Reader_stepToToldAct_11 (by decide) ?_
  refine lv_bipush (v := (19 : Int32)) hx hb d_Reader_stepToToldAct_12 (by decide) ?_
  obtain ⟨r14, hcl, hm⟩ := bn1_s hm
  refine kci (wc := wd_Words g (q0 0) q2 z2_4 ++ wd_Text g (q2 0) q4 x4) (wr := wd_Reader g h0 q0 x0 ++ wd_Plan g (q0 1) q1 x1 ++ wd_Acts g (q1 1) q3 x3) (w1 := wd_Words g (q0 0) q2 z2_4 ++ wd_Text g (q2 0) q4 x4) hP hD hS hA [5, 19, 20, 21] [0, 1, 2, 3, 4, 6, 7, 8, 9, 10, 11, 12, 13, 14, 15, 16, 17, 18] rfl rfl (by decide) (by decide) (va_runV (As := [.int (0 : Int32), .int (19 : Int32)]) (rest := []) ⟨hx, hb, hml, hown, hts⟩ (c_Words_valueWithin hG hGn l dC dI g F H.size (q0 0) q2 z2_4 q4 x4 (0 : Int32) (19 : Int32) hcl) (cwV 2 hts (gdV k2_180 k2_149 k2_150 k1_21 k2_151) rfl rfl rfl (by decide +kernel) ⟨Nat.le_of_ble_eq_true rfl, Nat.le_of_ble_eq_true rfl⟩) (kpV hG hP hK hD hS hA hGA [5, 19, 20, 21] (by decide) rfl (ci := 2) (q0 := 0) rfl rfl rfl) rfl rfl hl.1 rfl (lv_room (Nat.le_of_ble_eq_true rfl)) d_Reader_stepToToldAct_14 ⟨Nat.le_of_ble_eq_true rfl, Nat.le_of_ble_eq_true rfl⟩) (fun H locs hP hD hS => ?_)
  have hP : va_P (dC, dI) vwCl (wd_Reader g h0 q0 x0 ++ wd_Plan g (q0 1) q1 x1 ++ wd_Words g (q0 0) q2 z2_4 ++ wd_Acts g (q1 1) q3 x3 ++ wd_Text g (q2 0) q4 x4) H := hP.sub (ws' := wd_Reader g h0 q0 x0 ++ wd_Plan g (q0 1) q1 x1 ++ wd_Words g (q0 0) q2 z2_4 ++ wd_Acts g (q1 1) q3 x3 ++ wd_Text g (q2 0) q4 x4) [0, 1, 2, 3, 4, 18, 5, 6, 7, 8, 9, 10, 11, 12, 13, 14, 15, 16, 17, 19, 20, 21] rfl
  have hD : va_D A (wd_Reader g h0 q0 x0 ++ wd_Plan g (q0 1) q1 x1 ++ wd_Words g (q0 0) q2 z2_4 ++ wd_Acts g (q1 1) q3 x3 ++ wd_Text g (q2 0) q4 x4) := hD.sub (ws' := wd_Reader g h0 q0 x0 ++ wd_Plan g (q0 1) q1 x1 ++ wd_Words g (q0 0) q2 z2_4 ++ wd_Acts g (q1 1) q3 x3 ++ wd_Text g (q2 0) q4 x4) [0, 1, 2, 3, 4, 18, 5, 6, 7, 8, 9, 10, 11, 12, 13, 14, 15, 16, 17, 19, 20, 21] (by decide) rfl
  refine lv_istore_n (lv' := [(1, .int r14), (0, .ref h0)]) hx hb d_Reader_stepToToldAct_17 rfl hl (by decide) rfl (fun ls hl => ?_)
  refine lv_aload_n hx hb d_Reader_stepToToldAct_18 rfl (lv_at hl 1 rfl) ?_
  refine va_get (D := (dC, dI)) (ci := 3) (v := .ref (q0 1)) (C := "AlarmMatrix$Reader") (T := T_Reader) (N := 3) hx hb hts i_Reader hown hK hP 0 rfl rfl 1 (by decide) (hts _ k2_35) (fun _ h9 => h9) rfl d_Reader_stepToToldAct_19 ?_
  refine kcr (wc := wd_Plan g (q0 1) q1 x1) (wr := wd_Reader g h0 q0 x0 ++ wd_Words g (q0 0) q2 z2_4 ++ wd_Acts g (q1 1) q3 x3 ++ wd_Text g (q2 0) q4 x4) (w1 := wd_Plan g (q0 1) q1 x1) hP hD hS hA [1, 2, 3, 4] [0, 5, 6, 7, 8, 9, 10, 11, 12, 13, 14, 15, 16, 17, 18, 19, 20, 21] rfl rfl (by decide) (by decide) (va_runV (As := []) (rest := []) ⟨hx, hb, hml, hown, hts⟩ (c_Plan_acts hG hGn l dC dI g F H.size (q0 1) q1 x1) (cwV 0 hts (gdV k2_202 k2_203 k2_204 k1_7 k2_205) rfl rfl rfl (by decide +kernel) ⟨Nat.le_of_ble_eq_true rfl, Nat.le_of_ble_eq_true rfl⟩) (kpV hG hP hK hD hS hA hGA [1, 2, 3, 4] (by decide) rfl (ci := 4) (q0 := 0) rfl rfl rfl) rfl rfl hl.1 rfl (lv_room (Nat.le_of_ble_eq_true rfl)) d_Reader_stepToToldAct_22 ⟨Nat.le_of_ble_eq_true rfl, Nat.le_of_ble_eq_true rfl⟩) (fun H locs hP hD hS => ?_)
  have hP : va_P (dC, dI) vwCl (wd_Reader g h0 q0 x0 ++ wd_Plan g (q0 1) q1 x1 ++ wd_Words g (q0 0) q2 z2_4 ++ wd_Acts g (q1 1) q3 x3 ++ wd_Text g (q2 0) q4 x4) H := hP.sub (ws' := wd_Reader g h0 q0 x0 ++ wd_Plan g (q0 1) q1 x1 ++ wd_Words g (q0 0) q2 z2_4 ++ wd_Acts g (q1 1) q3 x3 ++ wd_Text g (q2 0) q4 x4) [0, 18, 19, 20, 21, 1, 2, 3, 4, 5, 6, 7, 8, 9, 10, 11, 12, 13, 14, 15, 16, 17] rfl
  have hD : va_D A (wd_Reader g h0 q0 x0 ++ wd_Plan g (q0 1) q1 x1 ++ wd_Words g (q0 0) q2 z2_4 ++ wd_Acts g (q1 1) q3 x3 ++ wd_Text g (q2 0) q4 x4) := hD.sub (ws' := wd_Reader g h0 q0 x0 ++ wd_Plan g (q0 1) q1 x1 ++ wd_Words g (q0 0) q2 z2_4 ++ wd_Acts g (q1 1) q3 x3 ++ wd_Text g (q2 0) q4 x4) [0, 18, 19, 20, 21, 1, 2, 3, 4, 5, 6, 7, 8, 9, 10, 11, 12, 13, 14, 15, 16, 17] (by decide) rfl
  refine lv_iload_n hx hb d_Reader_stepToToldAct_25 rfl (lv_at hl 0 rfl) ?_
  obtain ⟨r26, hcl, hm⟩ := bn1_s hm
  refine kci (wc := wd_Acts g (q1 1) q3 x3) (wr := wd_Reader g h0 q0 x0 ++ wd_Plan g (q0 1) q1 x1 ++ wd_Words g (q0 0) q2 z2_4 ++ wd_Text g (q2 0) q4 x4) (w1 := wd_Acts g (q1 1) q3 x3) hP hD hS hA [6, 7, 8, 9, 10, 11, 12, 13, 14, 15, 16, 17, 18] [0, 1, 2, 3, 4, 5, 19, 20, 21] rfl rfl (by decide) (by decide) (va_runV (As := [.int r14]) (rest := []) ⟨hx, hb, hml, hown, hts⟩ (c_Acts_isTold hG hGn l dC dI g F H.size (q1 1) q3 x3 r14 hcl) (cwV 1 hts (gdV k2_206 k2_207 k2_208 k1_9 k2_209) rfl rfl rfl (by decide +kernel) ⟨Nat.le_of_ble_eq_true rfl, Nat.le_of_ble_eq_true rfl⟩) (kpV hG hP hK hD hS hA hGA [6, 7, 8, 9, 10, 11, 12, 13, 14, 15, 16, 17, 18] (by decide) rfl (ci := 6) (q0 := 0) rfl rfl rfl) rfl rfl hl.1 rfl (lv_room (Nat.le_of_ble_eq_true rfl)) d_Reader_stepToToldAct_26 ⟨Nat.le_of_ble_eq_true rfl, Nat.le_of_ble_eq_true rfl⟩) (fun H locs hP hD hS => ?_)
  have hP : va_P (dC, dI) vwCl (wd_Reader g h0 q0 x0 ++ wd_Plan g (q0 1) q1 x1 ++ wd_Words g (q0 0) q2 z2_4 ++ wd_Acts g (q1 1) q3 x3 ++ wd_Text g (q2 0) q4 x4) H := hP.sub (ws' := wd_Reader g h0 q0 x0 ++ wd_Plan g (q0 1) q1 x1 ++ wd_Words g (q0 0) q2 z2_4 ++ wd_Acts g (q1 1) q3 x3 ++ wd_Text g (q2 0) q4 x4) [0, 1, 2, 3, 4, 5, 9, 10, 11, 12, 13, 14, 15, 16, 17, 18, 19, 20, 21, 6, 7, 8] rfl
  have hD : va_D A (wd_Reader g h0 q0 x0 ++ wd_Plan g (q0 1) q1 x1 ++ wd_Words g (q0 0) q2 z2_4 ++ wd_Acts g (q1 1) q3 x3 ++ wd_Text g (q2 0) q4 x4) := hD.sub (ws' := wd_Reader g h0 q0 x0 ++ wd_Plan g (q0 1) q1 x1 ++ wd_Words g (q0 0) q2 z2_4 ++ wd_Acts g (q1 1) q3 x3 ++ wd_Text g (q2 0) q4 x4) [0, 1, 2, 3, 4, 5, 9, 10, 11, 12, 13, 14, 15, 16, 17, 18, 19, 20, 21, 6, 7, 8] (by decide) rfl
  refine lv_if_eq (tgt := 36) hx hb d_Reader_stepToToldAct_29 (by decide) (fun hc => ?_) (fun hc => ?_)
  · replace hm := if_t hm hc
    refine lv_iconst (v := (-1 : Int32)) hx hb d_Reader_stepToToldAct_36 (by decide) ?_
    obtain rfl := Option.some.inj hm
    rw [hQ]
    exact kri hx hb hr hlocks hAe hP hK hD hS d_Reader_stepToToldAct_37
  · replace hm := if_f hm hc
    refine lv_iload_n hx hb d_Reader_stepToToldAct_32 rfl (lv_at hl 0 rfl) ?_
    refine lv_goto (tgt := 37) hx hb d_Reader_stepToToldAct_33 (by decide) ?_
    obtain rfl := Option.some.inj hm
    rw [hQ]
    exact kri hx hb hr hlocks hAe hP hK hD hS d_Reader_stepToToldAct_37

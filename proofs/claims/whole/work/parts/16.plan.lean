abbrev b_Plan_zones : ByteArray := prog_5_method_2_code
abbrev y_Plan_zones : MethodName := ⟨"AlarmMatrix$Plan", "zones", "()LAlarmMatrix$Zones;"⟩
theorem d_Plan_zones_0 : decode b_Plan_zones 0 = .ok (.aload_n 0, 1) := by decide +kernel
theorem d_Plan_zones_1 : decode b_Plan_zones 1 = .ok (.getfield 12, 3) := by decide +kernel
theorem d_Plan_zones_4 : decode b_Plan_zones 4 = .ok (.areturn, 1) := by decide +kernel
abbrev rm_Plan_zones : Room := { frames := 0, cells := 0, slots := 0, locals := 0 }
set_option maxHeartbeats 4000000 in
set_option maxRecDepth 100000 in
theorem c_Plan_zones {G : (Nat → Prop) → State → Prop} (hG : gok G) (hGn : gN G) (l : Launch) (dC : Nat → ClassId) (dI : Nat → Nat → Nat) (g : Nat → ClassId) (F : Nat) (sz : Nat) (h0 : Nat) (q0 : Nat → Nat) (x0 : St) : Met l y_Plan_zones (.code y_Plan_zones b_Plan_zones 1 (some (.object "AlarmMatrix$Zones")) :: gw) rm_Plan_zones (kq (dC, dI) vwCl (tyv g) G [.ref h0] sz (wd_Plan g h0 q0 x0)) (kqr (dC, dI) vwCl (tyv g) (wd_Plan g h0 q0 x0) (q0 0) (wd_Plan g h0 q0 x0) sz) 0 0 (va_A (wd_Plan g h0 q0 x0) sz) := by
  refine km (Qc := fun sz => kqr (dC, dI) vwCl (tyv g) (wd_Plan g h0 q0 x0) (q0 0) (wd_Plan g h0 q0 x0) sz) (cc := b_Plan_zones) (maxL := 1) (ret := some (.object "AlarmMatrix$Zones")) (by decide) rfl (Nat.le_of_ble_eq_true rfl) ?_
  intro p e s m args below meth c Q hQ hx hb hr hts hown hlocks hml hnm H locs A hAe hA hP hK hD hS hGA ls hl
  have hl : lv_has ls 1 [(0, .ref h0)] := hl
  have hts : ∀ w ∈ gw, w.before args s = true := fun w h => hts w (List.mem_cons_of_mem _ h)
  have hown : s.vm.findClass "AlarmMatrix$Plan" = some m.cls := hown
  refine lv_aload_n hx hb d_Plan_zones_0 rfl (lv_at hl 0 rfl) ?_
  refine va_get (D := (dC, dI)) (ci := 4) (v := .ref (q0 0)) (C := "AlarmMatrix$Plan") (T := T_Plan) (N := 6) hx hb hts i_Plan hown hK hP 0 rfl rfl 0 (by decide) (hts _ k1_200) (fun _ h9 => h9) rfl d_Plan_zones_1 ?_
  rw [hQ]
  exact krr hx hb hr (Or.inl ⟨_, rfl⟩) hlocks hAe hP hK hD hS d_Plan_zones_4
abbrev b_Plan_acts : ByteArray := prog_5_method_3_code
abbrev y_Plan_acts : MethodName := ⟨"AlarmMatrix$Plan", "acts", "()LAlarmMatrix$Acts;"⟩
theorem d_Plan_acts_0 : decode b_Plan_acts 0 = .ok (.aload_n 0, 1) := by decide +kernel
theorem d_Plan_acts_1 : decode b_Plan_acts 1 = .ok (.getfield 21, 3) := by decide +kernel
theorem d_Plan_acts_4 : decode b_Plan_acts 4 = .ok (.areturn, 1) := by decide +kernel
abbrev rm_Plan_acts : Room := { frames := 0, cells := 0, slots := 0, locals := 0 }
set_option maxHeartbeats 4000000 in
set_option maxRecDepth 100000 in
theorem c_Plan_acts {G : (Nat → Prop) → State → Prop} (hG : gok G) (hGn : gN G) (l : Launch) (dC : Nat → ClassId) (dI : Nat → Nat → Nat) (g : Nat → ClassId) (F : Nat) (sz : Nat) (h0 : Nat) (q0 : Nat → Nat) (x0 : St) : Met l y_Plan_acts (.code y_Plan_acts b_Plan_acts 1 (some (.object "AlarmMatrix$Acts")) :: gw) rm_Plan_acts (kq (dC, dI) vwCl (tyv g) G [.ref h0] sz (wd_Plan g h0 q0 x0)) (kqr (dC, dI) vwCl (tyv g) (wd_Plan g h0 q0 x0) (q0 1) (wd_Plan g h0 q0 x0) sz) 0 0 (va_A (wd_Plan g h0 q0 x0) sz) := by
  refine km (Qc := fun sz => kqr (dC, dI) vwCl (tyv g) (wd_Plan g h0 q0 x0) (q0 1) (wd_Plan g h0 q0 x0) sz) (cc := b_Plan_acts) (maxL := 1) (ret := some (.object "AlarmMatrix$Acts")) (by decide) rfl (Nat.le_of_ble_eq_true rfl) ?_
  intro p e s m args below meth c Q hQ hx hb hr hts hown hlocks hml hnm H locs A hAe hA hP hK hD hS hGA ls hl
  have hl : lv_has ls 1 [(0, .ref h0)] := hl
  have hts : ∀ w ∈ gw, w.before args s = true := fun w h => hts w (List.mem_cons_of_mem _ h)
  have hown : s.vm.findClass "AlarmMatrix$Plan" = some m.cls := hown
  refine lv_aload_n hx hb d_Plan_acts_0 rfl (lv_at hl 0 rfl) ?_
  refine va_get (D := (dC, dI)) (ci := 4) (v := .ref (q0 1)) (C := "AlarmMatrix$Plan") (T := T_Plan) (N := 6) hx hb hts i_Plan hown hK hP 0 rfl rfl 1 (by decide) (hts _ k1_201) (fun _ h9 => h9) rfl d_Plan_acts_1 ?_
  rw [hQ]
  exact krr hx hb hr (Or.inl ⟨_, rfl⟩) hlocks hAe hP hK hD hS d_Plan_acts_4
abbrev b_Plan_rowCount : ByteArray := prog_5_method_4_code
abbrev y_Plan_rowCount : MethodName := ⟨"AlarmMatrix$Plan", "rowCount", "()I"⟩
theorem d_Plan_rowCount_0 : decode b_Plan_rowCount 0 = .ok (.aload_n 0, 1) := by decide +kernel
theorem d_Plan_rowCount_1 : decode b_Plan_rowCount 1 = .ok (.getfield 35, 3) := by decide +kernel
theorem d_Plan_rowCount_4 : decode b_Plan_rowCount 4 = .ok (.ireturn, 1) := by decide +kernel
def m_Plan_rowCount (F : Nat) (x0 : St) : Option (Int32) :=
  (some (x0 5 0))
abbrev rm_Plan_rowCount : Room := { frames := 0, cells := 0, slots := 0, locals := 0 }
set_option maxHeartbeats 4000000 in
set_option maxRecDepth 100000 in
theorem c_Plan_rowCount {G : (Nat → Prop) → State → Prop} (hG : gok G) (hGn : gN G) (l : Launch) (dC : Nat → ClassId) (dI : Nat → Nat → Nat) (g : Nat → ClassId) (F : Nat) (sz : Nat) (h0 : Nat) (q0 : Nat → Nat) (x0 : St) {o : Int32} (hm : m_Plan_rowCount F x0 = some o) : Met l y_Plan_rowCount (.code y_Plan_rowCount b_Plan_rowCount 1 (some .int) :: gw) rm_Plan_rowCount (kq (dC, dI) vwCl (tyv g) G [.ref h0] sz (wd_Plan g h0 q0 x0)) (kqi (dC, dI) vwCl (tyv g) (wd_Plan g h0 q0 x0) o (wd_Plan g h0 q0 x0) sz) 0 0 (va_A (wd_Plan g h0 q0 x0) sz) := by
  unfold m_Plan_rowCount at hm
  refine km (Qc := fun sz => kqi (dC, dI) vwCl (tyv g) (wd_Plan g h0 q0 x0) o (wd_Plan g h0 q0 x0) sz) (cc := b_Plan_rowCount) (maxL := 1) (ret := some .int) (by decide) rfl (Nat.le_of_ble_eq_true rfl) ?_
  intro p e s m args below meth c Q hQ hx hb hr hts hown hlocks hml hnm H locs A hAe hA hP hK hD hS hGA ls hl
  have hl : lv_has ls 1 [(0, .ref h0)] := hl
  have hts : ∀ w ∈ gw, w.before args s = true := fun w h => hts w (List.mem_cons_of_mem _ h)
  have hown : s.vm.findClass "AlarmMatrix$Plan" = some m.cls := hown
  refine lv_aload_n hx hb d_Plan_rowCount_0 rfl (lv_at hl 0 rfl) ?_
  refine va_get (D := (dC, dI)) (ci := 4) (v := .int (x0 5 0)) (C := "AlarmMatrix$Plan") (T := T_Plan) (N := 6) hx hb hts i_Plan hown hK hP 0 rfl rfl 5 (by decide) (hts _ k1_205) (fun _ h9 => h9) rfl d_Plan_rowCount_1 ?_
  obtain rfl := Option.some.inj hm
  rw [hQ]
  exact kri hx hb hr hlocks hAe hP hK hD hS d_Plan_rowCount_4
abbrev b_Plan_clear : ByteArray := prog_5_method_5_code
abbrev y_Plan_clear : MethodName := ⟨"AlarmMatrix$Plan", "clear", "()V"⟩
theorem d_Plan_clear_0 : decode b_Plan_clear 0 = .ok (.aload_n 0, 1) := by decide +kernel
theorem d_Plan_clear_1 : decode b_Plan_clear 1 = .ok (.getfield 12, 3) := by decide +kernel
theorem d_Plan_clear_4 : decode b_Plan_clear 4 = .ok (.invokevirtual 39, 3) := by decide +kernel
theorem d_Plan_clear_7 : decode b_Plan_clear 7 = .ok (.aload_n 0, 1) := by decide +kernel
theorem d_Plan_clear_8 : decode b_Plan_clear 8 = .ok (.getfield 21, 3) := by decide +kernel
theorem d_Plan_clear_11 : decode b_Plan_clear 11 = .ok (.invokevirtual 42, 3) := by decide +kernel
theorem d_Plan_clear_14 : decode b_Plan_clear 14 = .ok (.aload_n 0, 1) := by decide +kernel
theorem d_Plan_clear_15 : decode b_Plan_clear 15 = .ok (.iconst 0, 1) := by decide +kernel
theorem d_Plan_clear_16 : decode b_Plan_clear 16 = .ok (.putfield 35, 3) := by decide +kernel
theorem d_Plan_clear_19 : decode b_Plan_clear 19 = .ok (.return_, 1) := by decide +kernel
def m_Plan_clear (F : Nat) (x0 : St) (x1 : St) (x2 : St) : Option (St × St × St) :=
  (bn1 (m_Zones_clear F x2) (fun z2_4 => (bn1 (m_Acts_clear F x1) (fun z1_11 => (lz (sc x0 5 (0 : Int32)) (fun e0_16 => (some (e0_16, z1_11, z2_4))))))))
abbrev rm_Plan_clear : Room := { frames := 2, cells := 0, slots := 0, locals := 43 }
set_option maxHeartbeats 4000000 in
set_option maxRecDepth 100000 in
theorem c_Plan_clear {G : (Nat → Prop) → State → Prop} (hG : gok G) (hGn : gN G) (l : Launch) (dC : Nat → ClassId) (dI : Nat → Nat → Nat) (g : Nat → ClassId) (F : Nat) (sz : Nat) (h0 : Nat) (q0 : Nat → Nat) (x0 : St) (q1 : Nat → Nat) (x1 : St) (q2 : Nat → Nat) (x2 : St) {o : St × St × St} (hm : m_Plan_clear F x0 x1 x2 = some o) : Met l y_Plan_clear (.code y_Plan_clear b_Plan_clear 1 none :: gw) rm_Plan_clear (kq (dC, dI) vwCl (tyv g) G [.ref h0] sz (wd_Plan g h0 q0 x0 ++ wd_Acts g (q0 1) q1 x1 ++ wd_Zones g (q0 0) q2 x2)) (kqv (dC, dI) vwCl (tyv g) (wd_Plan g h0 q0 x0 ++ wd_Acts g (q0 1) q1 x1 ++ wd_Zones g (q0 0) q2 x2) (wd_Plan g h0 q0 (o.1) ++ wd_Acts g (q0 1) q1 (o.2.1) ++ wd_Zones g (q0 0) q2 (o.2.2)) sz) 0 0 (va_A (wd_Plan g h0 q0 x0 ++ wd_Acts g (q0 1) q1 x1 ++ wd_Zones g (q0 0) q2 x2) sz) := by
  unfold m_Plan_clear at hm
  refine km (Qc := fun sz => kqv (dC, dI) vwCl (tyv g) (wd_Plan g h0 q0 x0 ++ wd_Acts g (q0 1) q1 x1 ++ wd_Zones g (q0 0) q2 x2) (wd_Plan g h0 q0 (o.1) ++ wd_Acts g (q0 1) q1 (o.2.1) ++ wd_Zones g (q0 0) q2 (o.2.2)) sz) (cc := b_Plan_clear) (maxL := 1) (ret := none) (by decide) rfl (Nat.le_of_ble_eq_true rfl) ?_
  intro p e s m args below meth c Q hQ hx hb hr hts hown hlocks hml hnm H locs A hAe hA hP hK hD hS hGA ls hl
  have hl : lv_has ls 1 [(0, .ref h0)] := hl
  have hts : ∀ w ∈ gw, w.before args s = true := fun w h => hts w (List.mem_cons_of_mem _ h)
  have hown : s.vm.findClass "AlarmMatrix$Plan" = some m.cls := hown
  refine lv_aload_n hx hb d_Plan_clear_0 rfl (lv_at hl 0 rfl) ?_
  refine va_get (D := (dC, dI)) (ci := 4) (v := .ref (q0 0)) (C := "AlarmMatrix$Plan") (T := T_Plan) (N := 6) hx hb hts i_Plan hown hK hP 0 rfl rfl 0 (by decide) (hts _ k1_200) (fun _ h9 => h9) rfl d_Plan_clear_1 ?_
  obtain ⟨z2_4, hcl, hm⟩ := bn1_s hm
  refine kcv (wc := wd_Zones g (q0 0) q2 x2) (wr := wd_Plan g h0 q0 x0 ++ wd_Acts g (q0 1) q1 x1) (w1 := wd_Zones g (q0 0) q2 z2_4) hP hD hS hA [17, 18, 19, 20, 21, 22] [0, 1, 2, 3, 4, 5, 6, 7, 8, 9, 10, 11, 12, 13, 14, 15, 16] rfl rfl (by decide) (by decide) (va_runV (As := []) (rest := []) ⟨hx, hb, hml, hown, hts⟩ (c_Zones_clear hG hGn l dC dI g F H.size (q0 0) q2 x2 hcl) (cwV 0 hts (gdV k2_52 k2_53 k2_54 k1_8 k2_55) rfl rfl rfl (by decide +kernel) ⟨Nat.le_of_ble_eq_true rfl, Nat.le_of_ble_eq_true rfl⟩) (kpV hG hP hK hD hS hA hGA [17, 18, 19, 20, 21, 22] (by decide) rfl (ci := 5) (q0 := 0) rfl rfl rfl) rfl rfl hl.1 rfl (lv_room (Nat.le_of_ble_eq_true rfl)) d_Plan_clear_4 ⟨Nat.le_of_ble_eq_true rfl, Nat.le_of_ble_eq_true rfl⟩) (fun H locs hP hD hS => ?_)
  have hP : va_P (dC, dI) vwCl (wd_Plan g h0 q0 x0 ++ wd_Acts g (q0 1) q1 x1 ++ wd_Zones g (q0 0) q2 z2_4) H := hP
  have hD : va_D A (wd_Plan g h0 q0 x0 ++ wd_Acts g (q0 1) q1 x1 ++ wd_Zones g (q0 0) q2 z2_4) := hD
  refine lv_aload_n hx hb d_Plan_clear_7 rfl (lv_at hl 0 rfl) ?_
  refine va_get (D := (dC, dI)) (ci := 4) (v := .ref (q0 1)) (C := "AlarmMatrix$Plan") (T := T_Plan) (N := 6) hx hb hts i_Plan hown hK hP 0 rfl rfl 1 (by decide) (hts _ k1_201) (fun _ h9 => h9) rfl d_Plan_clear_8 ?_
  obtain ⟨z1_11, hcl, hm⟩ := bn1_s hm
  refine kcv (wc := wd_Acts g (q0 1) q1 x1) (wr := wd_Plan g h0 q0 x0 ++ wd_Zones g (q0 0) q2 z2_4) (w1 := wd_Acts g (q0 1) q1 z1_11) hP hD hS hA [4, 5, 6, 7, 8, 9, 10, 11, 12, 13, 14, 15, 16] [0, 1, 2, 3, 17, 18, 19, 20, 21, 22] rfl rfl (by decide) (by decide) (va_runV (As := []) (rest := []) ⟨hx, hb, hml, hown, hts⟩ (c_Acts_clear hG hGn l dC dI g F H.size (q0 1) q1 x1 hcl) (cwV 0 hts (gdV k2_59 k2_60 k2_61 k1_9 k2_62) rfl rfl rfl (by decide +kernel) ⟨Nat.le_of_ble_eq_true rfl, Nat.le_of_ble_eq_true rfl⟩) (kpV hG hP hK hD hS hA hGA [4, 5, 6, 7, 8, 9, 10, 11, 12, 13, 14, 15, 16] (by decide) rfl (ci := 6) (q0 := 0) rfl rfl rfl) rfl rfl hl.1 rfl (lv_room (Nat.le_of_ble_eq_true rfl)) d_Plan_clear_11 ⟨Nat.le_of_ble_eq_true rfl, Nat.le_of_ble_eq_true rfl⟩) (fun H locs hP hD hS => ?_)
  have hP : va_P (dC, dI) vwCl (wd_Plan g h0 q0 x0 ++ wd_Acts g (q0 1) q1 z1_11 ++ wd_Zones g (q0 0) q2 z2_4) H := hP.sub (ws' := wd_Plan g h0 q0 x0 ++ wd_Acts g (q0 1) q1 z1_11 ++ wd_Zones g (q0 0) q2 z2_4) [0, 1, 2, 3, 10, 11, 12, 13, 14, 15, 16, 17, 18, 19, 20, 21, 22, 4, 5, 6, 7, 8, 9] rfl
  have hD : va_D A (wd_Plan g h0 q0 x0 ++ wd_Acts g (q0 1) q1 z1_11 ++ wd_Zones g (q0 0) q2 z2_4) := hD.sub (ws' := wd_Plan g h0 q0 x0 ++ wd_Acts g (q0 1) q1 z1_11 ++ wd_Zones g (q0 0) q2 z2_4) [0, 1, 2, 3, 10, 11, 12, 13, 14, 15, 16, 17, 18, 19, 20, 21, 22, 4, 5, 6, 7, 8, 9] (by decide) rfl
  refine lv_aload_n hx hb d_Plan_clear_14 rfl (lv_at hl 0 rfl) ?_
  refine lv_iconst (v := (0 : Int32)) hx hb d_Plan_clear_15 (by decide) ?_
  obtain ⟨e0_16, he, hm⟩ := lz_s hm
  refine va_put (D := (dC, dI)) (ci := 4) (v := .int (0 : Int32)) (ty := .int) (C := "AlarmMatrix$Plan") (T := T_Plan) (N := 6) hx hb hts i_Plan t_Plan o_Plan n_Plan hown hK hP hD hS 0 rfl rfl 5 (by decide) (hts _ k1_205) (fun _ h9 => h9) rfl (by decide +kernel) rfl rfl (Nat.le_of_ble_eq_true rfl) d_Plan_clear_16 (fun H locs hP hD hS => ?_)
  have hP : va_P (dC, dI) vwCl (wd_Plan g h0 q0 e0_16 ++ wd_Acts g (q0 1) q1 z1_11 ++ wd_Zones g (q0 0) q2 z2_4) H := by rw [he]; exact hP
  have hD : va_D A (wd_Plan g h0 q0 e0_16 ++ wd_Acts g (q0 1) q1 z1_11 ++ wd_Zones g (q0 0) q2 z2_4) := by rw [he]; exact hD
  obtain rfl := Option.some.inj hm
  rw [hQ]
  exact krv hx hb hr hlocks hAe hP hK hD hS d_Plan_clear_19
abbrev b_Plan_addRow : ByteArray := prog_5_method_6_code
abbrev y_Plan_addRow : MethodName := ⟨"AlarmMatrix$Plan", "addRow", "(III)V"⟩
theorem d_Plan_addRow_0 : decode b_Plan_addRow 0 = .ok (.aload_n 0, 1) := by decide +kernel
theorem d_Plan_addRow_1 : decode b_Plan_addRow 1 = .ok (.getfield 35, 3) := by decide +kernel
theorem d_Plan_addRow_4 : decode b_Plan_addRow 4 = .ok (.bipush 50, 2) := by decide +kernel
theorem d_Plan_addRow_6 : decode b_Plan_addRow 6 = .ok (.if_icmp .ge 43, 3) := by decide +kernel
theorem d_Plan_addRow_9 : decode b_Plan_addRow 9 = .ok (.aload_n 0, 1) := by decide +kernel
theorem d_Plan_addRow_10 : decode b_Plan_addRow 10 = .ok (.getfield 25, 3) := by decide +kernel
theorem d_Plan_addRow_13 : decode b_Plan_addRow 13 = .ok (.aload_n 0, 1) := by decide +kernel
theorem d_Plan_addRow_14 : decode b_Plan_addRow 14 = .ok (.getfield 35, 3) := by decide +kernel
theorem d_Plan_addRow_17 : decode b_Plan_addRow 17 = .ok (.iload_n 1, 1) := by decide +kernel
theorem d_Plan_addRow_18 : decode b_Plan_addRow 18 = .ok (.iastore, 1) := by decide +kernel
theorem d_Plan_addRow_19 : decode b_Plan_addRow 19 = .ok (.aload_n 0, 1) := by decide +kernel
theorem d_Plan_addRow_20 : decode b_Plan_addRow 20 = .ok (.getfield 29, 3) := by decide +kernel
theorem d_Plan_addRow_23 : decode b_Plan_addRow 23 = .ok (.aload_n 0, 1) := by decide +kernel
theorem d_Plan_addRow_24 : decode b_Plan_addRow 24 = .ok (.getfield 35, 3) := by decide +kernel
theorem d_Plan_addRow_27 : decode b_Plan_addRow 27 = .ok (.iload_n 2, 1) := by decide +kernel
theorem d_Plan_addRow_28 : decode b_Plan_addRow 28 = .ok (.iastore, 1) := by decide +kernel
theorem d_Plan_addRow_29 : decode b_Plan_addRow 29 = .ok (.aload_n 0, 1) := by decide +kernel
theorem d_Plan_addRow_30 : decode b_Plan_addRow 30 = .ok (.getfield 32, 3) := by decide +kernel
theorem d_Plan_addRow_33 : decode b_Plan_addRow 33 = .ok (.aload_n 0, 1) := by decide +kernel
theorem d_Plan_addRow_34 : decode b_Plan_addRow 34 = .ok (.getfield 35, 3) := by decide +kernel
theorem d_Plan_addRow_37 : decode b_Plan_addRow 37 = .ok (.iload_n 3, 1) := by decide +kernel
theorem d_Plan_addRow_38 : decode b_Plan_addRow 38 = .ok (.iastore, 1) := by decide +kernel
theorem d_Plan_addRow_39 : decode b_Plan_addRow 39 = .ok (.aload_n 0, 1) := by decide +kernel
theorem d_Plan_addRow_40 : decode b_Plan_addRow 40 = .ok (.dup, 1) := by decide +kernel
theorem d_Plan_addRow_41 : decode b_Plan_addRow 41 = .ok (.getfield 35, 3) := by decide +kernel
theorem d_Plan_addRow_44 : decode b_Plan_addRow 44 = .ok (.iconst 1, 1) := by decide +kernel
theorem d_Plan_addRow_45 : decode b_Plan_addRow 45 = .ok (.iadd, 1) := by decide +kernel
theorem d_Plan_addRow_46 : decode b_Plan_addRow 46 = .ok (.putfield 35, 3) := by decide +kernel
theorem d_Plan_addRow_49 : decode b_Plan_addRow 49 = .ok (.return_, 1) := by decide +kernel
def m_Plan_addRow (F : Nat) (x0 : St) (a1 : Int32) (a2 : Int32) (a3 : Int32) : Option (St) :=
  (if (50 : Int32) ≤ (x0 5 0) then (some x0) else (ck (x0 5 0) 50 (lz (st x0 2 (upd (x0 2) (x0 5 0).toNatClampNeg a1)) (fun e0_18 => (ck (e0_18 5 0) 50 (lz (st e0_18 3 (upd (e0_18 3) (e0_18 5 0).toNatClampNeg a2)) (fun e0_28 => (ck (e0_28 5 0) 50 (lz (st e0_28 4 (upd (e0_28 4) (e0_28 5 0).toNatClampNeg a3)) (fun e0_38 => (lz (sc e0_38 5 ((e0_38 5 0) + (1 : Int32))) (fun e0_46 => (some e0_46)))))))))))))
abbrev rm_Plan_addRow : Room := { frames := 0, cells := 0, slots := 0, locals := 0 }
set_option maxHeartbeats 4000000 in
set_option maxRecDepth 100000 in
theorem c_Plan_addRow {G : (Nat → Prop) → State → Prop} (hG : gok G) (hGn : gN G) (l : Launch) (dC : Nat → ClassId) (dI : Nat → Nat → Nat) (g : Nat → ClassId) (F : Nat) (sz : Nat) (h0 : Nat) (q0 : Nat → Nat) (x0 : St) (a1 : Int32) (a2 : Int32) (a3 : Int32) {o : St} (hm : m_Plan_addRow F x0 a1 a2 a3 = some o) : Met l y_Plan_addRow (.code y_Plan_addRow b_Plan_addRow 4 none :: gw) rm_Plan_addRow (kq (dC, dI) vwCl (tyv g) G [.ref h0, .int a1, .int a2, .int a3] sz (wd_Plan g h0 q0 x0)) (kqv (dC, dI) vwCl (tyv g) (wd_Plan g h0 q0 x0) (wd_Plan g h0 q0 o) sz) 0 0 (va_A (wd_Plan g h0 q0 x0) sz) := by
  unfold m_Plan_addRow at hm
  refine km (Qc := fun sz => kqv (dC, dI) vwCl (tyv g) (wd_Plan g h0 q0 x0) (wd_Plan g h0 q0 o) sz) (cc := b_Plan_addRow) (maxL := 4) (ret := none) (by decide) rfl (Nat.le_of_ble_eq_true rfl) ?_
  intro p e s m args below meth c Q hQ hx hb hr hts hown hlocks hml hnm H locs A hAe hA hP hK hD hS hGA ls hl
  have hl : lv_has ls 4 [(0, .ref h0), (1, .int a1), (2, .int a2), (3, .int a3)] := hl
  have hts : ∀ w ∈ gw, w.before args s = true := fun w h => hts w (List.mem_cons_of_mem _ h)
  have hown : s.vm.findClass "AlarmMatrix$Plan" = some m.cls := hown
  refine lv_aload_n hx hb d_Plan_addRow_0 rfl (lv_at hl 0 rfl) ?_
  refine va_get (D := (dC, dI)) (ci := 4) (v := .int (x0 5 0)) (C := "AlarmMatrix$Plan") (T := T_Plan) (N := 6) hx hb hts i_Plan hown hK hP 0 rfl rfl 5 (by decide) (hts _ k1_205) (fun _ h9 => h9) rfl d_Plan_addRow_1 ?_
  refine lv_bipush (v := (50 : Int32)) hx hb d_Plan_addRow_4 (by decide) ?_
  refine lv_icmp_ge (tgt := 49) hx hb d_Plan_addRow_6 (by decide) (fun hc => ?_) (fun hc => ?_)
  · replace hm := if_t hm hc
    obtain rfl := Option.some.inj hm
    rw [hQ]
    exact krv hx hb hr hlocks hAe hP hK hD hS d_Plan_addRow_49
  · replace hm := if_f hm hc
    refine lv_aload_n hx hb d_Plan_addRow_9 rfl (lv_at hl 0 rfl) ?_
    refine va_get (D := (dC, dI)) (ci := 4) (v := .ref (q0 2)) (C := "AlarmMatrix$Plan") (T := T_Plan) (N := 6) hx hb hts i_Plan hown hK hP 0 rfl rfl 2 (by decide) (hts _ k1_202) (fun _ h9 => h9) rfl d_Plan_addRow_10 ?_
    refine lv_aload_n hx hb d_Plan_addRow_13 rfl (lv_at hl 0 rfl) ?_
    refine va_get (D := (dC, dI)) (ci := 4) (v := .int (x0 5 0)) (C := "AlarmMatrix$Plan") (T := T_Plan) (N := 6) hx hb hts i_Plan hown hK hP 0 rfl rfl 5 (by decide) (hts _ k1_205) (fun _ h9 => h9) rfl d_Plan_addRow_14 ?_
    refine lv_iload_n hx hb d_Plan_addRow_17 rfl (lv_at hl 1 rfl) ?_
    obtain ⟨h_18, hm⟩ := ck_s hm
    obtain ⟨e0_18, he, hm⟩ := lz_s hm
    refine va_iast (f := (x0 2)) hx hb hK hP hD hS 1 0 rfl rfl h_18 d_Plan_addRow_18 (fun H locs hP hD hS => ?_)
    have hP : va_P (dC, dI) vwCl (wd_Plan g h0 q0 e0_18) H := by rw [he]; exact hP
    have hD : va_D A (wd_Plan g h0 q0 e0_18) := by rw [he]; exact hD
    refine lv_aload_n hx hb d_Plan_addRow_19 rfl (lv_at hl 0 rfl) ?_
    refine va_get (D := (dC, dI)) (ci := 4) (v := .ref (q0 3)) (C := "AlarmMatrix$Plan") (T := T_Plan) (N := 6) hx hb hts i_Plan hown hK hP 0 rfl rfl 3 (by decide) (hts _ k1_203) (fun _ h9 => h9) rfl d_Plan_addRow_20 ?_
    refine lv_aload_n hx hb d_Plan_addRow_23 rfl (lv_at hl 0 rfl) ?_
    refine va_get (D := (dC, dI)) (ci := 4) (v := .int (e0_18 5 0)) (C := "AlarmMatrix$Plan") (T := T_Plan) (N := 6) hx hb hts i_Plan hown hK hP 0 rfl rfl 5 (by decide) (hts _ k1_205) (fun _ h9 => h9) rfl d_Plan_addRow_24 ?_
    refine lv_iload_n hx hb d_Plan_addRow_27 rfl (lv_at hl 2 rfl) ?_
    obtain ⟨h_28, hm⟩ := ck_s hm
    obtain ⟨e0_28, he, hm⟩ := lz_s hm
    refine va_iast (f := (e0_18 3)) hx hb hK hP hD hS 2 0 rfl rfl h_28 d_Plan_addRow_28 (fun H locs hP hD hS => ?_)
    have hP : va_P (dC, dI) vwCl (wd_Plan g h0 q0 e0_28) H := by rw [he]; exact hP
    have hD : va_D A (wd_Plan g h0 q0 e0_28) := by rw [he]; exact hD
    refine lv_aload_n hx hb d_Plan_addRow_29 rfl (lv_at hl 0 rfl) ?_
    refine va_get (D := (dC, dI)) (ci := 4) (v := .ref (q0 4)) (C := "AlarmMatrix$Plan") (T := T_Plan) (N := 6) hx hb hts i_Plan hown hK hP 0 rfl rfl 4 (by decide) (hts _ k1_204) (fun _ h9 => h9) rfl d_Plan_addRow_30 ?_
    refine lv_aload_n hx hb d_Plan_addRow_33 rfl (lv_at hl 0 rfl) ?_
    refine va_get (D := (dC, dI)) (ci := 4) (v := .int (e0_28 5 0)) (C := "AlarmMatrix$Plan") (T := T_Plan) (N := 6) hx hb hts i_Plan hown hK hP 0 rfl rfl 5 (by decide) (hts _ k1_205) (fun _ h9 => h9) rfl d_Plan_addRow_34 ?_
    refine lv_iload_n hx hb d_Plan_addRow_37 rfl (lv_at hl 3 rfl) ?_
    obtain ⟨h_38, hm⟩ := ck_s hm
    obtain ⟨e0_38, he, hm⟩ := lz_s hm
    refine va_iast (f := (e0_28 4)) hx hb hK hP hD hS 3 0 rfl rfl h_38 d_Plan_addRow_38 (fun H locs hP hD hS => ?_)
    have hP : va_P (dC, dI) vwCl (wd_Plan g h0 q0 e0_38) H := by rw [he]; exact hP
    have hD : va_D A (wd_Plan g h0 q0 e0_38) := by rw [he]; exact hD
    refine lv_aload_n hx hb d_Plan_addRow_39 rfl (lv_at hl 0 rfl) ?_
    refine lv_dup hx hb d_Plan_addRow_40 rfl ?_
    refine va_get (D := (dC, dI)) (ci := 4) (v := .int (e0_38 5 0)) (C := "AlarmMatrix$Plan") (T := T_Plan) (N := 6) hx hb hts i_Plan hown hK hP 0 rfl rfl 5 (by decide) (hts _ k1_205) (fun _ h9 => h9) rfl d_Plan_addRow_41 ?_
    refine lv_iconst (v := (1 : Int32)) hx hb d_Plan_addRow_44 (by decide) ?_
    refine lv_iadd hx hb d_Plan_addRow_45 ?_
    obtain ⟨e0_46, he, hm⟩ := lz_s hm
    refine va_put (D := (dC, dI)) (ci := 4) (v := .int ((e0_38 5 0) + (1 : Int32))) (ty := .int) (C := "AlarmMatrix$Plan") (T := T_Plan) (N := 6) hx hb hts i_Plan t_Plan o_Plan n_Plan hown hK hP hD hS 0 rfl rfl 5 (by decide) (hts _ k1_205) (fun _ h9 => h9) rfl (by decide +kernel) rfl rfl (Nat.le_of_ble_eq_true rfl) d_Plan_addRow_46 (fun H locs hP hD hS => ?_)
    have hP : va_P (dC, dI) vwCl (wd_Plan g h0 q0 e0_46) H := by rw [he]; exact hP
    have hD : va_D A (wd_Plan g h0 q0 e0_46) := by rw [he]; exact hD
    obtain rfl := Option.some.inj hm
    rw [hQ]
    exact krv hx hb hr hlocks hAe hP hK hD hS d_Plan_addRow_49
abbrev b_Plan_isMet : ByteArray := prog_5_method_9_code
abbrev y_Plan_isMet : MethodName := ⟨"AlarmMatrix$Plan", "isMet", "(I)Z"⟩
theorem d_Plan_isMet_0 : decode b_Plan_isMet 0 = .ok (.aload_n 0, 1) := by decide +kernel
theorem d_Plan_isMet_1 : decode b_Plan_isMet 1 = .ok (.getfield 29, 3) := by decide +kernel
theorem d_Plan_isMet_4 : decode b_Plan_isMet 4 = .ok (.iload_n 1, 1) := by decide +kernel
theorem d_Plan_isMet_5 : decode b_Plan_isMet 5 = .ok (.iaload, 1) := by decide +kernel
theorem d_Plan_isMet_6 : decode b_Plan_isMet 6 = .ok (.istore_n 2, 1) := by decide +kernel
theorem d_Plan_isMet_7 : decode b_Plan_isMet 7 = .ok (.aload_n 0, 1) := by decide +kernel
theorem d_Plan_isMet_8 : decode b_Plan_isMet 8 = .ok (.getfield 12, 3) := by decide +kernel
theorem d_Plan_isMet_11 : decode b_Plan_isMet 11 = .ok (.aload_n 0, 1) := by decide +kernel
theorem d_Plan_isMet_12 : decode b_Plan_isMet 12 = .ok (.getfield 25, 3) := by decide +kernel
theorem d_Plan_isMet_15 : decode b_Plan_isMet 15 = .ok (.iload_n 1, 1) := by decide +kernel
theorem d_Plan_isMet_16 : decode b_Plan_isMet 16 = .ok (.iaload, 1) := by decide +kernel
theorem d_Plan_isMet_17 : decode b_Plan_isMet 17 = .ok (.invokevirtual 65, 3) := by decide +kernel
theorem d_Plan_isMet_20 : decode b_Plan_isMet 20 = .ok (.ifCond .eq 23, 3) := by decide +kernel
theorem d_Plan_isMet_23 : decode b_Plan_isMet 23 = .ok (.iload_n 2, 1) := by decide +kernel
theorem d_Plan_isMet_24 : decode b_Plan_isMet 24 = .ok (.iconst (-1), 1) := by decide +kernel
theorem d_Plan_isMet_25 : decode b_Plan_isMet 25 = .ok (.if_icmp .eq 14, 3) := by decide +kernel
theorem d_Plan_isMet_28 : decode b_Plan_isMet 28 = .ok (.aload_n 0, 1) := by decide +kernel
theorem d_Plan_isMet_29 : decode b_Plan_isMet 29 = .ok (.getfield 12, 3) := by decide +kernel
theorem d_Plan_isMet_32 : decode b_Plan_isMet 32 = .ok (.iload_n 2, 1) := by decide +kernel
theorem d_Plan_isMet_33 : decode b_Plan_isMet 33 = .ok (.invokevirtual 65, 3) := by decide +kernel
theorem d_Plan_isMet_36 : decode b_Plan_isMet 36 = .ok (.ifCond .eq 7, 3) := by decide +kernel
theorem d_Plan_isMet_39 : decode b_Plan_isMet 39 = .ok (.iconst 1, 1) := by decide +kernel
theorem d_Plan_isMet_40 : decode b_Plan_isMet 40 = .ok (.goto 4, 3) := by decide +kernel
theorem d_Plan_isMet_43 : decode b_Plan_isMet 43 = .ok (.iconst 0, 1) := by decide +kernel
theorem d_Plan_isMet_44 : decode b_Plan_isMet 44 = .ok (.ireturn, 1) := by decide +kernel
def m_Plan_isMet (F : Nat) (x0 : St) (x1 : St) (a1 : Int32) : Option (Int32) :=
  (ck a1 50 (ck a1 50 (bn1 (m_Zones_isOn F x1 ((x0 2) a1.toNatClampNeg)) (fun r17 => (if r17 = (0 : Int32) then (some (0 : Int32)) else (if ((x0 3) a1.toNatClampNeg) = (-1 : Int32) then (some (1 : Int32)) else (bn1 (m_Zones_isOn F x1 ((x0 3) a1.toNatClampNeg)) (fun r33 => (if r33 = (0 : Int32) then (some (0 : Int32)) else (some (1 : Int32)))))))))))
abbrev rm_Plan_isMet : Room := { frames := 1, cells := 0, slots := 0, locals := 21 }
set_option maxHeartbeats 4000000 in
set_option maxRecDepth 100000 in
theorem c_Plan_isMet {G : (Nat → Prop) → State → Prop} (hG : gok G) (hGn : gN G) (l : Launch) (dC : Nat → ClassId) (dI : Nat → Nat → Nat) (g : Nat → ClassId) (F : Nat) (sz : Nat) (h0 : Nat) (q0 : Nat → Nat) (x0 : St) (q1 : Nat → Nat) (x1 : St) (a1 : Int32) {o : Int32} (hm : m_Plan_isMet F x0 x1 a1 = some o) : Met l y_Plan_isMet (.code y_Plan_isMet b_Plan_isMet 3 (some .boolean) :: gw) rm_Plan_isMet (kq (dC, dI) vwCl (tyv g) G [.ref h0, .int a1] sz (wd_Plan g h0 q0 x0 ++ wd_Zones g (q0 0) q1 x1)) (kqi (dC, dI) vwCl (tyv g) (wd_Plan g h0 q0 x0 ++ wd_Zones g (q0 0) q1 x1) o (wd_Plan g h0 q0 x0 ++ wd_Zones g (q0 0) q1 x1) sz) 0 0 (va_A (wd_Plan g h0 q0 x0 ++ wd_Zones g (q0 0) q1 x1) sz) := by
  unfold m_Plan_isMet at hm
  refine km (Qc := fun sz => kqi (dC, dI) vwCl (tyv g) (wd_Plan g h0 q0 x0 ++ wd_Zones g (q0 0) q1 x1) o (wd_Plan g h0 q0 x0 ++ wd_Zones g (q0 0) q1 x1) sz) (cc := b_Plan_isMet) (maxL := 3) (ret := some .boolean) (by decide) rfl (Nat.le_of_ble_eq_true rfl) ?_
  intro p e s m args below meth c Q hQ hx hb hr hts hown hlocks hml hnm H locs A hAe hA hP hK hD hS hGA ls hl
  have hl : lv_has ls 3 [(0, .ref h0), (1, .int a1)] := hl
  have hts : ∀ w ∈ gw, w.before args s = true := fun w h => hts w (List.mem_cons_of_mem _ h)
  have hown : s.vm.findClass "AlarmMatrix$Plan" = some m.cls := hown
  refine lv_aload_n hx hb d_Plan_isMet_0 rfl (lv_at hl 0 rfl) ?_
  refine va_get (D := (dC, dI)) (ci := 4) (v := .ref (q0 3)) (C := "AlarmMatrix$Plan") (T := T_Plan) (N := 6) hx hb hts i_Plan hown hK hP 0 rfl rfl 3 (by decide) (hts _ k1_203) (fun _ h9 => h9) rfl d_Plan_isMet_1 ?_
  refine lv_iload_n hx hb d_Plan_isMet_4 rfl (lv_at hl 1 rfl) ?_
  obtain ⟨h_5, hm⟩ := ck_s hm
  refine va_iald (f := (x0 3)) hx hb hK hP 2 0 rfl rfl h_5 d_Plan_isMet_5 ?_
  refine lv_istore_n (lv' := [(2, .int ((x0 3) a1.toNatClampNeg)), (0, .ref h0), (1, .int a1)]) hx hb d_Plan_isMet_6 rfl hl (by decide) rfl (fun ls hl => ?_)
  refine lv_aload_n hx hb d_Plan_isMet_7 rfl (lv_at hl 1 rfl) ?_
  refine va_get (D := (dC, dI)) (ci := 4) (v := .ref (q0 0)) (C := "AlarmMatrix$Plan") (T := T_Plan) (N := 6) hx hb hts i_Plan hown hK hP 0 rfl rfl 0 (by decide) (hts _ k1_200) (fun _ h9 => h9) rfl d_Plan_isMet_8 ?_
  refine lv_aload_n hx hb d_Plan_isMet_11 rfl (lv_at hl 1 rfl) ?_
  refine va_get (D := (dC, dI)) (ci := 4) (v := .ref (q0 2)) (C := "AlarmMatrix$Plan") (T := T_Plan) (N := 6) hx hb hts i_Plan hown hK hP 0 rfl rfl 2 (by decide) (hts _ k1_202) (fun _ h9 => h9) rfl d_Plan_isMet_12 ?_
  refine lv_iload_n hx hb d_Plan_isMet_15 rfl (lv_at hl 2 rfl) ?_
  obtain ⟨h_16, hm⟩ := ck_s hm
  refine va_iald (f := (x0 2)) hx hb hK hP 1 0 rfl rfl h_16 d_Plan_isMet_16 ?_
  obtain ⟨r17, hcl, hm⟩ := bn1_s hm
  refine kci (wc := wd_Zones g (q0 0) q1 x1) (wr := wd_Plan g h0 q0 x0) (w1 := wd_Zones g (q0 0) q1 x1) hP hD hS hA [4, 5, 6, 7, 8, 9] [0, 1, 2, 3] rfl rfl (by decide) (by decide) (va_runV (As := [.int ((x0 2) a1.toNatClampNeg)]) (rest := []) ⟨hx, hb, hml, hown, hts⟩ (c_Zones_isOn hG hGn l dC dI g F H.size (q0 0) q1 x1 ((x0 2) a1.toNatClampNeg) hcl) (cwV 1 hts (gdV k3_59 k3_60 k3_61 k1_8 k3_62) rfl rfl rfl (by decide +kernel) ⟨Nat.le_of_ble_eq_true rfl, Nat.le_of_ble_eq_true rfl⟩) (kpV hG hP hK hD hS hA hGA [4, 5, 6, 7, 8, 9] (by decide) rfl (ci := 5) (q0 := 0) rfl rfl rfl) rfl rfl hl.1 rfl (lv_room (Nat.le_of_ble_eq_true rfl)) d_Plan_isMet_17 ⟨Nat.le_of_ble_eq_true rfl, Nat.le_of_ble_eq_true rfl⟩) (fun H locs hP hD hS => ?_)
  have hP : va_P (dC, dI) vwCl (wd_Plan g h0 q0 x0 ++ wd_Zones g (q0 0) q1 x1) H := hP
  have hD : va_D A (wd_Plan g h0 q0 x0 ++ wd_Zones g (q0 0) q1 x1) := hD
  refine lv_if_eq (tgt := 43) hx hb d_Plan_isMet_20 (by decide) (fun hc => ?_) (fun hc => ?_)
  · replace hm := if_t hm hc
    refine lv_iconst (v := (0 : Int32)) hx hb d_Plan_isMet_43 (by decide) ?_
    obtain rfl := Option.some.inj hm
    rw [hQ]
    exact krz hx hb hr nar_0 hlocks hAe hP hK hD hS d_Plan_isMet_44
  · replace hm := if_f hm hc
    refine lv_iload_n hx hb d_Plan_isMet_23 rfl (lv_at hl 0 rfl) ?_
    refine lv_iconst (v := (-1 : Int32)) hx hb d_Plan_isMet_24 (by decide) ?_
    refine lv_icmp_eq (tgt := 39) hx hb d_Plan_isMet_25 (by decide) (fun hc => ?_) (fun hc => ?_)
    · replace hm := if_t hm hc
      refine lv_iconst (v := (1 : Int32)) hx hb d_Plan_isMet_39 (by decide) ?_
      refine lv_goto (tgt := 44) hx hb d_Plan_isMet_40 (by decide) ?_
      obtain rfl := Option.some.inj hm
      rw [hQ]
      exact krz hx hb hr nar_1 hlocks hAe hP hK hD hS d_Plan_isMet_44
    · replace hm := if_f hm hc
      refine lv_aload_n hx hb d_Plan_isMet_28 rfl (lv_at hl 1 rfl) ?_
      refine va_get (D := (dC, dI)) (ci := 4) (v := .ref (q0 0)) (C := "AlarmMatrix$Plan") (T := T_Plan) (N := 6) hx hb hts i_Plan hown hK hP 0 rfl rfl 0 (by decide) (hts _ k1_200) (fun _ h9 => h9) rfl d_Plan_isMet_29 ?_
      refine lv_iload_n hx hb d_Plan_isMet_32 rfl (lv_at hl 0 rfl) ?_
      obtain ⟨r33, hcl, hm⟩ := bn1_s hm
      refine kci (wc := wd_Zones g (q0 0) q1 x1) (wr := wd_Plan g h0 q0 x0) (w1 := wd_Zones g (q0 0) q1 x1) hP hD hS hA [4, 5, 6, 7, 8, 9] [0, 1, 2, 3] rfl rfl (by decide) (by decide) (va_runV (As := [.int ((x0 3) a1.toNatClampNeg)]) (rest := []) ⟨hx, hb, hml, hown, hts⟩ (c_Zones_isOn hG hGn l dC dI g F H.size (q0 0) q1 x1 ((x0 3) a1.toNatClampNeg) hcl) (cwV 1 hts (gdV k3_59 k3_60 k3_61 k1_8 k3_62) rfl rfl rfl (by decide +kernel) ⟨Nat.le_of_ble_eq_true rfl, Nat.le_of_ble_eq_true rfl⟩) (kpV hG hP hK hD hS hA hGA [4, 5, 6, 7, 8, 9] (by decide) rfl (ci := 5) (q0 := 0) rfl rfl rfl) rfl rfl hl.1 rfl (lv_room (Nat.le_of_ble_eq_true rfl)) d_Plan_isMet_33 ⟨Nat.le_of_ble_eq_true rfl, Nat.le_of_ble_eq_true rfl⟩) (fun H locs hP hD hS => ?_)
      have hP : va_P (dC, dI) vwCl (wd_Plan g h0 q0 x0 ++ wd_Zones g (q0 0) q1 x1) H := hP
      have hD : va_D A (wd_Plan g h0 q0 x0 ++ wd_Zones g (q0 0) q1 x1) := hD
      refine lv_if_eq (tgt := 43) hx hb d_Plan_isMet_36 (by decide) (fun hc => ?_) (fun hc => ?_)
      · replace hm := if_t hm hc
        refine lv_iconst (v := (0 : Int32)) hx hb d_Plan_isMet_43 (by decide) ?_
        obtain rfl := Option.some.inj hm
        rw [hQ]
        exact krz hx hb hr nar_0 hlocks hAe hP hK hD hS d_Plan_isMet_44
      · replace hm := if_f hm hc
        refine lv_iconst (v := (1 : Int32)) hx hb d_Plan_isMet_39 (by decide) ?_
        refine lv_goto (tgt := 44) hx hb d_Plan_isMet_40 (by decide) ?_
        obtain rfl := Option.some.inj hm
        rw [hQ]
        exact krz hx hb hr nar_1 hlocks hAe hP hK hD hS d_Plan_isMet_44
abbrev b_Plan_hasSureZone : ByteArray := prog_5_method_10_code
abbrev y_Plan_hasSureZone : MethodName := ⟨"AlarmMatrix$Plan", "hasSureZone", "(I)Z"⟩
theorem d_Plan_hasSureZone_0 : decode b_Plan_hasSureZone 0 = .ok (.aload_n 0, 1) := by decide +kernel
theorem d_Plan_hasSureZone_1 : decode b_Plan_hasSureZone 1 = .ok (.getfield 29, 3) := by decide +kernel
theorem d_Plan_hasSureZone_4 : decode b_Plan_hasSureZone 4 = .ok (.iload_n 1, 1) := by decide +kernel
theorem d_Plan_hasSureZone_5 : decode b_Plan_hasSureZone 5 = .ok (.iaload, 1) := by decide +kernel
theorem d_Plan_hasSureZone_6 : decode b_Plan_hasSureZone 6 = .ok (.istore_n 2, 1) := by decide +kernel
theorem d_Plan_hasSureZone_7 : decode b_Plan_hasSureZone 7 = .ok (.aload_n 0, 1) := by decide +kernel
theorem d_Plan_hasSureZone_8 : decode b_Plan_hasSureZone 8 = .ok (.getfield 12, 3) := by decide +kernel
theorem d_Plan_hasSureZone_11 : decode b_Plan_hasSureZone 11 = .ok (.aload_n 0, 1) := by decide +kernel
theorem d_Plan_hasSureZone_12 : decode b_Plan_hasSureZone 12 = .ok (.getfield 25, 3) := by decide +kernel
theorem d_Plan_hasSureZone_15 : decode b_Plan_hasSureZone 15 = .ok (.iload_n 1, 1) := by decide +kernel
theorem d_Plan_hasSureZone_16 : decode b_Plan_hasSureZone 16 = .ok (.iaload, 1) := by decide +kernel
theorem d_Plan_hasSureZone_17 : decode b_Plan_hasSureZone 17 = .ok (.invokevirtual 68, 3) := by decide +kernel
theorem d_Plan_hasSureZone_20 : decode b_Plan_hasSureZone 20 = .ok (.ifCond .ne 19, 3) := by decide +kernel
theorem d_Plan_hasSureZone_23 : decode b_Plan_hasSureZone 23 = .ok (.iload_n 2, 1) := by decide +kernel
theorem d_Plan_hasSureZone_24 : decode b_Plan_hasSureZone 24 = .ok (.iconst (-1), 1) := by decide +kernel
theorem d_Plan_hasSureZone_25 : decode b_Plan_hasSureZone 25 = .ok (.if_icmp .eq 18, 3) := by decide +kernel
theorem d_Plan_hasSureZone_28 : decode b_Plan_hasSureZone 28 = .ok (.aload_n 0, 1) := by decide +kernel
theorem d_Plan_hasSureZone_29 : decode b_Plan_hasSureZone 29 = .ok (.getfield 12, 3) := by decide +kernel
theorem d_Plan_hasSureZone_32 : decode b_Plan_hasSureZone 32 = .ok (.iload_n 2, 1) := by decide +kernel
theorem d_Plan_hasSureZone_33 : decode b_Plan_hasSureZone 33 = .ok (.invokevirtual 68, 3) := by decide +kernel
theorem d_Plan_hasSureZone_36 : decode b_Plan_hasSureZone 36 = .ok (.ifCond .eq 7, 3) := by decide +kernel
theorem d_Plan_hasSureZone_39 : decode b_Plan_hasSureZone 39 = .ok (.iconst 1, 1) := by decide +kernel
theorem d_Plan_hasSureZone_40 : decode b_Plan_hasSureZone 40 = .ok (.goto 4, 3) := by decide +kernel
theorem d_Plan_hasSureZone_43 : decode b_Plan_hasSureZone 43 = .ok (.iconst 0, 1) := by decide +kernel
theorem d_Plan_hasSureZone_44 : decode b_Plan_hasSureZone 44 = .ok (.ireturn, 1) := by decide +kernel
def m_Plan_hasSureZone (F : Nat) (x0 : St) (x1 : St) (a1 : Int32) : Option (Int32) :=
  (ck a1 50 (ck a1 50 (bn1 (m_Zones_isSure F x1 ((x0 2) a1.toNatClampNeg)) (fun r17 => (if r17 = (0 : Int32) then (if ((x0 3) a1.toNatClampNeg) = (-1 : Int32) then (some (0 : Int32)) else (bn1 (m_Zones_isSure F x1 ((x0 3) a1.toNatClampNeg)) (fun r33 => (if r33 = (0 : Int32) then (some (0 : Int32)) else (some (1 : Int32)))))) else (some (1 : Int32)))))))
abbrev rm_Plan_hasSureZone : Room := { frames := 1, cells := 0, slots := 0, locals := 21 }
set_option maxHeartbeats 4000000 in
set_option maxRecDepth 100000 in
theorem c_Plan_hasSureZone {G : (Nat → Prop) → State → Prop} (hG : gok G) (hGn : gN G) (l : Launch) (dC : Nat → ClassId) (dI : Nat → Nat → Nat) (g : Nat → ClassId) (F : Nat) (sz : Nat) (h0 : Nat) (q0 : Nat → Nat) (x0 : St) (q1 : Nat → Nat) (x1 : St) (a1 : Int32) {o : Int32} (hm : m_Plan_hasSureZone F x0 x1 a1 = some o) : Met l y_Plan_hasSureZone (.code y_Plan_hasSureZone b_Plan_hasSureZone 3 (some .boolean) :: gw) rm_Plan_hasSureZone (kq (dC, dI) vwCl (tyv g) G [.ref h0, .int a1] sz (wd_Plan g h0 q0 x0 ++ wd_Zones g (q0 0) q1 x1)) (kqi (dC, dI) vwCl (tyv g) (wd_Plan g h0 q0 x0 ++ wd_Zones g (q0 0) q1 x1) o (wd_Plan g h0 q0 x0 ++ wd_Zones g (q0 0) q1 x1) sz) 0 0 (va_A (wd_Plan g h0 q0 x0 ++ wd_Zones g (q0 0) q1 x1) sz) := by
  unfold m_Plan_hasSureZone at hm
  refine km (Qc := fun sz => kqi (dC, dI) vwCl (tyv g) (wd_Plan g h0 q0 x0 ++ wd_Zones g (q0 0) q1 x1) o (wd_Plan g h0 q0 x0 ++ wd_Zones g (q0 0) q1 x1) sz) (cc := b_Plan_hasSureZone) (maxL := 3) (ret := some .boolean) (by decide) rfl (Nat.le_of_ble_eq_true rfl) ?_
  intro p e s m args below meth c Q hQ hx hb hr hts hown hlocks hml hnm H locs A hAe hA hP hK hD hS hGA ls hl
  have hl : lv_has ls 3 [(0, .ref h0), (1, .int a1)] := hl
  have hts : ∀ w ∈ gw, w.before args s = true := fun w h => hts w (List.mem_cons_of_mem _ h)
  have hown : s.vm.findClass "AlarmMatrix$Plan" = some m.cls := hown
  refine lv_aload_n hx hb d_Plan_hasSureZone_0 rfl (lv_at hl 0 rfl) ?_
  refine va_get (D := (dC, dI)) (ci := 4) (v := .ref (q0 3)) (C := "AlarmMatrix$Plan") (T := T_Plan) (N := 6) hx hb hts i_Plan hown hK hP 0 rfl rfl 3 (by decide) (hts _ k1_203) (fun _ h9 => h9) rfl d_Plan_hasSureZone_1 ?_
  refine lv_iload_n hx hb d_Plan_hasSureZone_4 rfl (lv_at hl 1 rfl) ?_
  obtain ⟨h_5, hm⟩ := ck_s hm
  refine va_iald (f := (x0 3)) hx hb hK hP 2 0 rfl rfl h_5 d_Plan_hasSureZone_5 ?_
  refine lv_istore_n (lv' := [(2, .int ((x0 3) a1.toNatClampNeg)), (0, .ref h0), (1, .int a1)]) hx hb d_Plan_hasSureZone_6 rfl hl (by decide) rfl (fun ls hl => ?_)
  refine lv_aload_n hx hb d_Plan_hasSureZone_7 rfl (lv_at hl 1 rfl) ?_
  refine va_get (D := (dC, dI)) (ci := 4) (v := .ref (q0 0)) (C := "AlarmMatrix$Plan") (T := T_Plan) (N := 6) hx hb hts i_Plan hown hK hP 0 rfl rfl 0 (by decide) (hts _ k1_200) (fun _ h9 => h9) rfl d_Plan_hasSureZone_8 ?_
  refine lv_aload_n hx hb d_Plan_hasSureZone_11 rfl (lv_at hl 1 rfl) ?_
  refine va_get (D := (dC, dI)) (ci := 4) (v := .ref (q0 2)) (C := "AlarmMatrix$Plan") (T := T_Plan) (N := 6) hx hb hts i_Plan hown hK hP 0 rfl rfl 2 (by decide) (hts _ k1_202) (fun _ h9 => h9) rfl d_Plan_hasSureZone_12 ?_
  refine lv_iload_n hx hb d_Plan_hasSureZone_15 rfl (lv_at hl 2 rfl) ?_
  obtain ⟨h_16, hm⟩ := ck_s hm
  refine va_iald (f := (x0 2)) hx hb hK hP 1 0 rfl rfl h_16 d_Plan_hasSureZone_16 ?_
  obtain ⟨r17, hcl, hm⟩ := bn1_s hm
  refine kci (wc := wd_Zones g (q0 0) q1 x1) (wr := wd_Plan g h0 q0 x0) (w1 := wd_Zones g (q0 0) q1 x1) hP hD hS hA [4, 5, 6, 7, 8, 9] [0, 1, 2, 3] rfl rfl (by decide) (by decide) (va_runV (As := [.int ((x0 2) a1.toNatClampNeg)]) (rest := []) ⟨hx, hb, hml, hown, hts⟩ (c_Zones_isSure hG hGn l dC dI g F H.size (q0 0) q1 x1 ((x0 2) a1.toNatClampNeg) hcl) (cwV 1 hts (gdV k3_67 k3_68 k3_69 k1_8 k3_70) rfl rfl rfl (by decide +kernel) ⟨Nat.le_of_ble_eq_true rfl, Nat.le_of_ble_eq_true rfl⟩) (kpV hG hP hK hD hS hA hGA [4, 5, 6, 7, 8, 9] (by decide) rfl (ci := 5) (q0 := 0) rfl rfl rfl) rfl rfl hl.1 rfl (lv_room (Nat.le_of_ble_eq_true rfl)) d_Plan_hasSureZone_17 ⟨Nat.le_of_ble_eq_true rfl, Nat.le_of_ble_eq_true rfl⟩) (fun H locs hP hD hS => ?_)
  have hP : va_P (dC, dI) vwCl (wd_Plan g h0 q0 x0 ++ wd_Zones g (q0 0) q1 x1) H := hP
  have hD : va_D A (wd_Plan g h0 q0 x0 ++ wd_Zones g (q0 0) q1 x1) := hD
  refine lv_if_ne (tgt := 39) hx hb d_Plan_hasSureZone_20 (by decide) (fun hc => ?_) (fun hc => ?_)
  · replace hm := if_f hm hc
    refine lv_iconst (v := (1 : Int32)) hx hb d_Plan_hasSureZone_39 (by decide) ?_
    refine lv_goto (tgt := 44) hx hb d_Plan_hasSureZone_40 (by decide) ?_
    obtain rfl := Option.some.inj hm
    rw [hQ]
    exact krz hx hb hr nar_1 hlocks hAe hP hK hD hS d_Plan_hasSureZone_44
  · replace hm := if_t hm hc
    refine lv_iload_n hx hb d_Plan_hasSureZone_23 rfl (lv_at hl 0 rfl) ?_
    refine lv_iconst (v := (-1 : Int32)) hx hb d_Plan_hasSureZone_24 (by decide) ?_
    refine lv_icmp_eq (tgt := 43) hx hb d_Plan_hasSureZone_25 (by decide) (fun hc => ?_) (fun hc => ?_)
    · replace hm := if_t hm hc
      refine lv_iconst (v := (0 : Int32)) hx hb d_Plan_hasSureZone_43 (by decide) ?_
      obtain rfl := Option.some.inj hm
      rw [hQ]
      exact krz hx hb hr nar_0 hlocks hAe hP hK hD hS d_Plan_hasSureZone_44
    · replace hm := if_f hm hc
      refine lv_aload_n hx hb d_Plan_hasSureZone_28 rfl (lv_at hl 1 rfl) ?_
      refine va_get (D := (dC, dI)) (ci := 4) (v := .ref (q0 0)) (C := "AlarmMatrix$Plan") (T := T_Plan) (N := 6) hx hb hts i_Plan hown hK hP 0 rfl rfl 0 (by decide) (hts _ k1_200) (fun _ h9 => h9) rfl d_Plan_hasSureZone_29 ?_
      refine lv_iload_n hx hb d_Plan_hasSureZone_32 rfl (lv_at hl 0 rfl) ?_
      obtain ⟨r33, hcl, hm⟩ := bn1_s hm
      refine kci (wc := wd_Zones g (q0 0) q1 x1) (wr := wd_Plan g h0 q0 x0) (w1 := wd_Zones g (q0 0) q1 x1) hP hD hS hA [4, 5, 6, 7, 8, 9] [0, 1, 2, 3] rfl rfl (by decide) (by decide) (va_runV (As := [.int ((x0 3) a1.toNatClampNeg)]) (rest := []) ⟨hx, hb, hml, hown, hts⟩ (c_Zones_isSure hG hGn l dC dI g F H.size (q0 0) q1 x1 ((x0 3) a1.toNatClampNeg) hcl) (cwV 1 hts (gdV k3_67 k3_68 k3_69 k1_8 k3_70) rfl rfl rfl (by decide +kernel) ⟨Nat.le_of_ble_eq_true rfl, Nat.le_of_ble_eq_true rfl⟩) (kpV hG hP hK hD hS hA hGA [4, 5, 6, 7, 8, 9] (by decide) rfl (ci := 5) (q0 := 0) rfl rfl rfl) rfl rfl hl.1 rfl (lv_room (Nat.le_of_ble_eq_true rfl)) d_Plan_hasSureZone_33 ⟨Nat.le_of_ble_eq_true rfl, Nat.le_of_ble_eq_true rfl⟩) (fun H locs hP hD hS => ?_)
      have hP : va_P (dC, dI) vwCl (wd_Plan g h0 q0 x0 ++ wd_Zones g (q0 0) q1 x1) H := hP
      have hD : va_D A (wd_Plan g h0 q0 x0 ++ wd_Zones g (q0 0) q1 x1) := hD
      refine lv_if_eq (tgt := 43) hx hb d_Plan_hasSureZone_36 (by decide) (fun hc => ?_) (fun hc => ?_)
      · replace hm := if_t hm hc
        refine lv_iconst (v := (0 : Int32)) hx hb d_Plan_hasSureZone_43 (by decide) ?_
        obtain rfl := Option.some.inj hm
        rw [hQ]
        exact krz hx hb hr nar_0 hlocks hAe hP hK hD hS d_Plan_hasSureZone_44
      · replace hm := if_f hm hc
        refine lv_iconst (v := (1 : Int32)) hx hb d_Plan_hasSureZone_39 (by decide) ?_
        refine lv_goto (tgt := 44) hx hb d_Plan_hasSureZone_40 (by decide) ?_
        obtain rfl := Option.some.inj hm
        rw [hQ]
        exact krz hx hb hr nar_1 hlocks hAe hP hK hD hS d_Plan_hasSureZone_44
abbrev b_Plan_look : ByteArray := prog_5_method_7_code
abbrev y_Plan_look : MethodName := ⟨"AlarmMatrix$Plan", "look", "(LAlarmMatrix$Points;I)V"⟩
theorem d_Plan_look_0 : decode b_Plan_look 0 = .ok (.aload_n 0, 1) := by decide +kernel
theorem d_Plan_look_1 : decode b_Plan_look 1 = .ok (.getfield 12, 3) := by decide +kernel
theorem d_Plan_look_4 : decode b_Plan_look 4 = .ok (.aload_n 1, 1) := by decide +kernel
theorem d_Plan_look_5 : decode b_Plan_look 5 = .ok (.iload_n 2, 1) := by decide +kernel
theorem d_Plan_look_6 : decode b_Plan_look 6 = .ok (.invokevirtual 43, 3) := by decide +kernel
theorem d_Plan_look_9 : decode b_Plan_look 9 = .ok (.aload_n 0, 1) := by decide +kernel
theorem d_Plan_look_10 : decode b_Plan_look 10 = .ok (.getfield 21, 3) := by decide +kernel
theorem d_Plan_look_13 : decode b_Plan_look 13 = .ok (.invokevirtual 47, 3) := by decide +kernel
theorem d_Plan_look_16 : decode b_Plan_look 16 = .ok (.iconst 0, 1) := by decide +kernel
theorem d_Plan_look_17 : decode b_Plan_look 17 = .ok (.istore_n 3, 1) := by decide +kernel
theorem d_Plan_look_18 : decode b_Plan_look 18 = .ok (.iload_n 3, 1) := by decide +kernel
theorem d_Plan_look_19 : decode b_Plan_look 19 = .ok (.aload_n 0, 1) := by decide +kernel
theorem d_Plan_look_20 : decode b_Plan_look 20 = .ok (.getfield 35, 3) := by decide +kernel
theorem d_Plan_look_23 : decode b_Plan_look 23 = .ok (.if_icmp .ge 35, 3) := by decide +kernel
theorem d_Plan_look_26 : decode b_Plan_look 26 = .ok (.aload_n 0, 1) := by decide +kernel
theorem d_Plan_look_27 : decode b_Plan_look 27 = .ok (.iload_n 3, 1) := by decide +kernel
theorem d_Plan_look_28 : decode b_Plan_look 28 = .ok (.invokevirtual 50, 3) := by decide +kernel
theorem d_Plan_look_31 : decode b_Plan_look 31 = .ok (.ifCond .eq 21, 3) := by decide +kernel
theorem d_Plan_look_34 : decode b_Plan_look 34 = .ok (.aload_n 0, 1) := by decide +kernel
theorem d_Plan_look_35 : decode b_Plan_look 35 = .ok (.getfield 21, 3) := by decide +kernel
theorem d_Plan_look_38 : decode b_Plan_look 38 = .ok (.aload_n 0, 1) := by decide +kernel
theorem d_Plan_look_39 : decode b_Plan_look 39 = .ok (.getfield 32, 3) := by decide +kernel
theorem d_Plan_look_42 : decode b_Plan_look 42 = .ok (.iload_n 3, 1) := by decide +kernel
theorem d_Plan_look_43 : decode b_Plan_look 43 = .ok (.iaload, 1) := by decide +kernel
theorem d_Plan_look_44 : decode b_Plan_look 44 = .ok (.aload_n 0, 1) := by decide +kernel
theorem d_Plan_look_45 : decode b_Plan_look 45 = .ok (.iload_n 3, 1) := by decide +kernel
theorem d_Plan_look_46 : decode b_Plan_look 46 = .ok (.invokevirtual 54, 3) := by decide +kernel
theorem d_Plan_look_49 : decode b_Plan_look 49 = .ok (.invokevirtual 57, 3) := by decide +kernel
theorem d_Plan_look_52 : decode b_Plan_look 52 = .ok (.iinc 3 1, 3) := by decide +kernel
theorem d_Plan_look_55 : decode b_Plan_look 55 = .ok (.goto (-37), 3) := by decide +kernel
theorem d_Plan_look_58 : decode b_Plan_look 58 = .ok (.return_, 1) := by decide +kernel
def m_Plan_look_B18 {R : Type} (F : Nat) (x0 : St) (z2_6 : St) (k18_58 : Int32 → St → Option R) (rec18 : Int32 → St → Option R) (v3_18 : Int32) (y1_18 : St) : Option R :=
  (if (x0 5 0) ≤ v3_18 then (k18_58 v3_18 y1_18) else (bn1 (m_Plan_isMet F x0 z2_6 v3_18) (fun r28 => (if r28 = (0 : Int32) then (rec18 (v3_18 + (1 : Int32)) y1_18) else (ck v3_18 50 (bn1 (m_Plan_hasSureZone F x0 z2_6 v3_18) (fun r46 => (bn1 (m_Acts_call F y1_18 ((x0 4) v3_18.toNatClampNeg) r46) (fun z1_49 => (rec18 (v3_18 + (1 : Int32)) z1_49))))))))))
theorem m_Plan_look_B18_h {R : Type} {F : Nat} {x0 : St} {z2_6 : St} {k18_58 : Int32 → St → Option R} {rec18 : Int32 → St → Option R} {v3_18 : Int32} {y1_18 : St} {o : R} (h : m_Plan_look_B18 F x0 z2_6 k18_58 rec18 v3_18 y1_18 = some o) :
  (if (x0 5 0) ≤ v3_18 then (k18_58 v3_18 y1_18) else (bn1 (m_Plan_isMet F x0 z2_6 v3_18) (fun r28 => (if r28 = (0 : Int32) then (rec18 (v3_18 + (1 : Int32)) y1_18) else (ck v3_18 50 (bn1 (m_Plan_hasSureZone F x0 z2_6 v3_18) (fun r46 => (bn1 (m_Acts_call F y1_18 ((x0 4) v3_18.toNatClampNeg) r46) (fun z1_49 => (rec18 (v3_18 + (1 : Int32)) z1_49)))))))))) = some o := h
def m_Plan_look (F : Nat) (x0 : St) (x1 : St) (x2 : St) (x3 : St) (n3 : Nat) (a2 : Int32) : Option (St × St) :=
  (bn1 (m_Zones_look F x2 x3 n3 a2) (fun z2_6 => (bn1 (m_Acts_forgetCalls F x1) (fun z1_13 => (lq2 (m_Plan_look_B18 F x0 z2_6 (fun v3_18 y1_18 => (some (y1_18, z2_6)))) F (0 : Int32) z1_13)))))
abbrev rm_Plan_look : Room := { frames := 3, cells := 0, slots := 0, locals := 73 }
set_option maxHeartbeats 4000000 in
set_option maxRecDepth 100000 in
theorem c_Plan_look {G : (Nat → Prop) → State → Prop} (hG : gok G) (hGn : gN G) (l : Launch) (dC : Nat → ClassId) (dI : Nat → Nat → Nat) (g : Nat → ClassId) (F : Nat) (sz : Nat) (h0 : Nat) (q0 : Nat → Nat) (x0 : St) (q1 : Nat → Nat) (x1 : St) (q2 : Nat → Nat) (x2 : St) (h3 : Nat) (q3 : Nat → Nat) (x3 : St) (n3 : Nat) (a2 : Int32) {o : St × St} (hm : m_Plan_look F x0 x1 x2 x3 n3 a2 = some o) : Met l y_Plan_look (.code y_Plan_look b_Plan_look 4 none :: gw) rm_Plan_look (kq (dC, dI) vwCl (tyv g) G [.ref h0, .ref h3, .int a2] sz (wd_Plan g h0 q0 x0 ++ wd_Acts g (q0 1) q1 x1 ++ wd_Zones g (q0 0) q2 x2 ++ wd_Points g h3 q3 x3 n3)) (kqv (dC, dI) vwCl (tyv g) (wd_Plan g h0 q0 x0 ++ wd_Acts g (q0 1) q1 x1 ++ wd_Zones g (q0 0) q2 x2 ++ wd_Points g h3 q3 x3 n3) (wd_Plan g h0 q0 x0 ++ wd_Acts g (q0 1) q1 (o.1) ++ wd_Zones g (q0 0) q2 (o.2) ++ wd_Points g h3 q3 x3 n3) sz) 0 0 (va_A (wd_Plan g h0 q0 x0 ++ wd_Acts g (q0 1) q1 x1 ++ wd_Zones g (q0 0) q2 x2 ++ wd_Points g h3 q3 x3 n3) sz) := by
  unfold m_Plan_look at hm
  refine km (Qc := fun sz => kqv (dC, dI) vwCl (tyv g) (wd_Plan g h0 q0 x0 ++ wd_Acts g (q0 1) q1 x1 ++ wd_Zones g (q0 0) q2 x2 ++ wd_Points g h3 q3 x3 n3) (wd_Plan g h0 q0 x0 ++ wd_Acts g (q0 1) q1 (o.1) ++ wd_Zones g (q0 0) q2 (o.2) ++ wd_Points g h3 q3 x3 n3) sz) (cc := b_Plan_look) (maxL := 4) (ret := none) (by decide) rfl (Nat.le_of_ble_eq_true rfl) ?_
  intro p e s m args below meth c Q hQ hx hb hr hts hown hlocks hml hnm H locs A hAe hA hP hK hD hS hGA ls hl
  have hl : lv_has ls 4 [(0, .ref h0), (1, .ref h3), (2, .int a2)] := hl
  have hts : ∀ w ∈ gw, w.before args s = true := fun w h => hts w (List.mem_cons_of_mem _ h)
  have hown : s.vm.findClass "AlarmMatrix$Plan" = some m.cls := hown
  refine lv_aload_n hx hb d_Plan_look_0 rfl (lv_at hl 0 rfl) ?_
  refine va_get (D := (dC, dI)) (ci := 4) (v := .ref (q0 0)) (C := "AlarmMatrix$Plan") (T := T_Plan) (N := 6) hx hb hts i_Plan hown hK hP 0 rfl rfl 0 (by decide) (hts _ k1_200) (fun _ h9 => h9) rfl d_Plan_look_1 ?_
  refine lv_aload_n hx hb d_Plan_look_4 rfl (lv_at hl 1 rfl) ?_
  refine lv_iload_n hx hb d_Plan_look_5 rfl (lv_at hl 2 rfl) ?_
  obtain ⟨z2_6, hcl, hm⟩ := bn1_s hm
  refine kcv (wc := wd_Zones g (q0 0) q2 x2 ++ wd_Points g h3 q3 x3 n3) (wr := wd_Plan g h0 q0 x0 ++ wd_Acts g (q0 1) q1 x1) (w1 := wd_Zones g (q0 0) q2 z2_6 ++ wd_Points g h3 q3 x3 n3) hP hD hS hA [17, 18, 19, 20, 21, 22, 23, 24, 25, 26, 27, 28] [0, 1, 2, 3, 4, 5, 6, 7, 8, 9, 10, 11, 12, 13, 14, 15, 16] rfl rfl (by decide) (by decide) (va_runV (As := [.ref h3, .int a2]) (rest := []) ⟨hx, hb, hml, hown, hts⟩ (c_Zones_look hG hGn l dC dI g F H.size (q0 0) q2 x2 h3 q3 x3 n3 a2 hcl) (cwV 2 hts (gdV k3_32 k3_33 k3_34 k1_8 k3_35) rfl rfl rfl (by decide +kernel) ⟨Nat.le_of_ble_eq_true rfl, Nat.le_of_ble_eq_true rfl⟩) (kpV hG hP hK hD hS hA hGA [17, 18, 19, 20, 21, 22, 23, 24, 25, 26, 27, 28] (by decide) rfl (ci := 5) (q0 := 0) rfl rfl rfl) rfl rfl hl.1 rfl (lv_room (Nat.le_of_ble_eq_true rfl)) d_Plan_look_6 ⟨Nat.le_of_ble_eq_true rfl, Nat.le_of_ble_eq_true rfl⟩) (fun H locs hP hD hS => ?_)
  have hP : va_P (dC, dI) vwCl (wd_Plan g h0 q0 x0 ++ wd_Acts g (q0 1) q1 x1 ++ wd_Zones g (q0 0) q2 z2_6 ++ wd_Points g h3 q3 x3 n3) H := hP
  have hD : va_D A (wd_Plan g h0 q0 x0 ++ wd_Acts g (q0 1) q1 x1 ++ wd_Zones g (q0 0) q2 z2_6 ++ wd_Points g h3 q3 x3 n3) := hD
  refine lv_aload_n hx hb d_Plan_look_9 rfl (lv_at hl 0 rfl) ?_
  refine va_get (D := (dC, dI)) (ci := 4) (v := .ref (q0 1)) (C := "AlarmMatrix$Plan") (T := T_Plan) (N := 6) hx hb hts i_Plan hown hK hP 0 rfl rfl 1 (by decide) (hts _ k1_201) (fun _ h9 => h9) rfl d_Plan_look_10 ?_
  obtain ⟨z1_13, hcl, hm⟩ := bn1_s hm
  refine kcv (wc := wd_Acts g (q0 1) q1 x1) (wr := wd_Plan g h0 q0 x0 ++ wd_Zones g (q0 0) q2 z2_6 ++ wd_Points g h3 q3 x3 n3) (w1 := wd_Acts g (q0 1) q1 z1_13) hP hD hS hA [4, 5, 6, 7, 8, 9, 10, 11, 12, 13, 14, 15, 16] [0, 1, 2, 3, 17, 18, 19, 20, 21, 22, 23, 24, 25, 26, 27, 28] rfl rfl (by decide) (by decide) (va_runV (As := []) (rest := []) ⟨hx, hb, hml, hown, hts⟩ (c_Acts_forgetCalls hG hGn l dC dI g F H.size (q0 1) q1 x1 hcl) (cwV 0 hts (gdV k3_51 k3_52 k3_53 k1_9 k3_54) rfl rfl rfl (by decide +kernel) ⟨Nat.le_of_ble_eq_true rfl, Nat.le_of_ble_eq_true rfl⟩) (kpV hG hP hK hD hS hA hGA [4, 5, 6, 7, 8, 9, 10, 11, 12, 13, 14, 15, 16] (by decide) rfl (ci := 6) (q0 := 0) rfl rfl rfl) rfl rfl hl.1 rfl (lv_room (Nat.le_of_ble_eq_true rfl)) d_Plan_look_13 ⟨Nat.le_of_ble_eq_true rfl, Nat.le_of_ble_eq_true rfl⟩) (fun H locs hP hD hS => ?_)
  have hP : va_P (dC, dI) vwCl (wd_Plan g h0 q0 x0 ++ wd_Acts g (q0 1) q1 z1_13 ++ wd_Zones g (q0 0) q2 z2_6 ++ wd_Points g h3 q3 x3 n3) H := hP.sub (ws' := wd_Plan g h0 q0 x0 ++ wd_Acts g (q0 1) q1 z1_13 ++ wd_Zones g (q0 0) q2 z2_6 ++ wd_Points g h3 q3 x3 n3) [0, 1, 2, 3, 16, 17, 18, 19, 20, 21, 22, 23, 24, 25, 26, 27, 28, 4, 5, 6, 7, 8, 9, 10, 11, 12, 13, 14, 15] rfl
  have hD : va_D A (wd_Plan g h0 q0 x0 ++ wd_Acts g (q0 1) q1 z1_13 ++ wd_Zones g (q0 0) q2 z2_6 ++ wd_Points g h3 q3 x3 n3) := hD.sub (ws' := wd_Plan g h0 q0 x0 ++ wd_Acts g (q0 1) q1 z1_13 ++ wd_Zones g (q0 0) q2 z2_6 ++ wd_Points g h3 q3 x3 n3) [0, 1, 2, 3, 16, 17, 18, 19, 20, 21, 22, 23, 24, 25, 26, 27, 28, 4, 5, 6, 7, 8, 9, 10, 11, 12, 13, 14, 15] (by decide) rfl
  refine lv_iconst (v := (0 : Int32)) hx hb d_Plan_look_16 (by decide) ?_
  refine lv_istore_n (lv' := [(3, .int (0 : Int32)), (0, .ref h0), (1, .ref h3), (2, .int a2)]) hx hb d_Plan_look_17 rfl hl (by decide) rfl (fun ls hl => ?_)
  have L18 : ∀ (n18 : Nat) (v3_18 : Int32) (y1_18 : St) (H : Heap) (locs : List Loc) (ls : Array Slot), lq2 (m_Plan_look_B18 F x0 z2_6 (fun v3_18 y1_18 => (some (y1_18, z2_6)))) n18 v3_18 y1_18 = some o → va_P (dC, dI) vwCl (wd_Plan g h0 q0 x0 ++ wd_Acts g (q0 1) q1 y1_18 ++ wd_Zones g (q0 0) q2 z2_6 ++ wd_Points g h3 q3 x3 n3) H → va_D A (wd_Plan g h0 q0 x0 ++ wd_Acts g (q0 1) q1 y1_18 ++ wd_Zones g (q0 0) q2 z2_6 ++ wd_Points g h3 q3 x3 n3) → va_S A s.heap H locs → lv_has ls 4 [(0, .ref h0), (1, .ref h3), (2, .int a2), (3, .int v3_18)] → W p l e rm_Plan_look s m args below meth c H locs 0 0 Q (F0 m 18 ls []) := by
    intro n18
    induction n18 with
    | zero => intro v3_18 y1_18 H locs ls hm; exact absurd hm (by intro z; cases z)
    | succ n18 ih18 =>
      intro v3_18 y1_18 H locs ls hm hP hD hS hl
      replace hm := m_Plan_look_B18_h (lq2_h hm)
      refine lv_iload_n hx hb d_Plan_look_18 rfl (lv_at hl 3 rfl) ?_
      refine lv_aload_n hx hb d_Plan_look_19 rfl (lv_at hl 0 rfl) ?_
      refine va_get (D := (dC, dI)) (ci := 4) (v := .int (x0 5 0)) (C := "AlarmMatrix$Plan") (T := T_Plan) (N := 6) hx hb hts i_Plan hown hK hP 0 rfl rfl 5 (by decide) (hts _ k1_205) (fun _ h9 => h9) rfl d_Plan_look_20 ?_
      refine lv_icmp_ge (tgt := 58) hx hb d_Plan_look_23 (by decide) (fun hc => ?_) (fun hc => ?_)
      · replace hm := if_t hm hc
        obtain rfl := Option.some.inj hm
        rw [hQ]
        exact krv hx hb hr hlocks hAe hP hK hD hS d_Plan_look_58
      · replace hm := if_f hm hc
        refine lv_aload_n hx hb d_Plan_look_26 rfl (lv_at hl 0 rfl) ?_
        refine lv_iload_n hx hb d_Plan_look_27 rfl (lv_at hl 3 rfl) ?_
        obtain ⟨r28, hcl, hm⟩ := bn1_s hm
        refine kci (wc := wd_Plan g h0 q0 x0 ++ wd_Zones g (q0 0) q2 z2_6) (wr := wd_Acts g (q0 1) q1 y1_18 ++ wd_Points g h3 q3 x3 n3) (w1 := wd_Plan g h0 q0 x0 ++ wd_Zones g (q0 0) q2 z2_6) hP hD hS hA [0, 1, 2, 3, 17, 18, 19, 20, 21, 22] [4, 5, 6, 7, 8, 9, 10, 11, 12, 13, 14, 15, 16, 23, 24, 25, 26, 27, 28] rfl rfl (by decide) (by decide) (va_runV (As := [.int v3_18]) (rest := []) ⟨hx, hb, hml, hown, hts⟩ (c_Plan_isMet hG hGn l dC dI g F H.size h0 q0 x0 q2 z2_6 v3_18 hcl) (cwV 1 hts (gdV k3_55 k3_57 kp_11 k1_7 k3_58) rfl rfl rfl (by decide +kernel) ⟨Nat.le_of_ble_eq_true rfl, Nat.le_of_ble_eq_true rfl⟩) (kpV hG hP hK hD hS hA hGA [0, 1, 2, 3, 17, 18, 19, 20, 21, 22] (by decide) rfl (ci := 4) (q0 := 0) rfl rfl rfl) rfl rfl hl.1 rfl (lv_room (Nat.le_of_ble_eq_true rfl)) d_Plan_look_28 ⟨Nat.le_of_ble_eq_true rfl, Nat.le_of_ble_eq_true rfl⟩) (fun H locs hP hD hS => ?_)
        have hP : va_P (dC, dI) vwCl (wd_Plan g h0 q0 x0 ++ wd_Acts g (q0 1) q1 y1_18 ++ wd_Zones g (q0 0) q2 z2_6 ++ wd_Points g h3 q3 x3 n3) H := hP.sub (ws' := wd_Plan g h0 q0 x0 ++ wd_Acts g (q0 1) q1 y1_18 ++ wd_Zones g (q0 0) q2 z2_6 ++ wd_Points g h3 q3 x3 n3) [19, 20, 21, 22, 0, 1, 2, 3, 4, 5, 6, 7, 8, 9, 10, 11, 12, 23, 24, 25, 26, 27, 28, 13, 14, 15, 16, 17, 18] rfl
        have hD : va_D A (wd_Plan g h0 q0 x0 ++ wd_Acts g (q0 1) q1 y1_18 ++ wd_Zones g (q0 0) q2 z2_6 ++ wd_Points g h3 q3 x3 n3) := hD.sub (ws' := wd_Plan g h0 q0 x0 ++ wd_Acts g (q0 1) q1 y1_18 ++ wd_Zones g (q0 0) q2 z2_6 ++ wd_Points g h3 q3 x3 n3) [19, 20, 21, 22, 0, 1, 2, 3, 4, 5, 6, 7, 8, 9, 10, 11, 12, 23, 24, 25, 26, 27, 28, 13, 14, 15, 16, 17, 18] (by decide) rfl
        refine lv_if_eq (tgt := 52) hx hb d_Plan_look_31 (by decide) (fun hc => ?_) (fun hc => ?_)
        · replace hm := if_t hm hc
          refine lv_iinc (v := (v3_18 + (1 : Int32))) (lv' := [(3, .int (v3_18 + (1 : Int32))), (0, .ref h0), (1, .ref h3), (2, .int a2)]) hx hb d_Plan_look_52 hl (k := 3) rfl rfl (by decide) rfl (fun ls hl => ?_)
          refine lv_goto (tgt := 18) hx hb d_Plan_look_55 (by decide) ?_
          exact ih18 (v3_18 + (1 : Int32)) y1_18 H locs ls hm hP hD hS (lv_sub hl [1, 2, 3, 0] rfl)
        · replace hm := if_f hm hc
          refine lv_aload_n hx hb d_Plan_look_34 rfl (lv_at hl 0 rfl) ?_
          refine va_get (D := (dC, dI)) (ci := 4) (v := .ref (q0 1)) (C := "AlarmMatrix$Plan") (T := T_Plan) (N := 6) hx hb hts i_Plan hown hK hP 0 rfl rfl 1 (by decide) (hts _ k1_201) (fun _ h9 => h9) rfl d_Plan_look_35 ?_
          refine lv_aload_n hx hb d_Plan_look_38 rfl (lv_at hl 0 rfl) ?_
          refine va_get (D := (dC, dI)) (ci := 4) (v := .ref (q0 4)) (C := "AlarmMatrix$Plan") (T := T_Plan) (N := 6) hx hb hts i_Plan hown hK hP 0 rfl rfl 4 (by decide) (hts _ k1_204) (fun _ h9 => h9) rfl d_Plan_look_39 ?_
          refine lv_iload_n hx hb d_Plan_look_42 rfl (lv_at hl 3 rfl) ?_
          obtain ⟨h_43, hm⟩ := ck_s hm
          refine va_iald (f := (x0 4)) hx hb hK hP 3 0 rfl rfl h_43 d_Plan_look_43 ?_
          refine lv_aload_n hx hb d_Plan_look_44 rfl (lv_at hl 0 rfl) ?_
          refine lv_iload_n hx hb d_Plan_look_45 rfl (lv_at hl 3 rfl) ?_
          obtain ⟨r46, hcl, hm⟩ := bn1_s hm
          refine kci (wc := wd_Plan g h0 q0 x0 ++ wd_Zones g (q0 0) q2 z2_6) (wr := wd_Acts g (q0 1) q1 y1_18 ++ wd_Points g h3 q3 x3 n3) (w1 := wd_Plan g h0 q0 x0 ++ wd_Zones g (q0 0) q2 z2_6) hP hD hS hA [0, 1, 2, 3, 17, 18, 19, 20, 21, 22] [4, 5, 6, 7, 8, 9, 10, 11, 12, 13, 14, 15, 16, 23, 24, 25, 26, 27, 28] rfl rfl (by decide) (by decide) (va_runV (As := [.int v3_18]) (rest := [.int ((x0 4) v3_18.toNatClampNeg), .ref (q0 1)]) ⟨hx, hb, hml, hown, hts⟩ (c_Plan_hasSureZone hG hGn l dC dI g F H.size h0 q0 x0 q2 z2_6 v3_18 hcl) (cwV 1 hts (gdV k3_63 k3_65 kp_12 k1_7 k3_66) rfl rfl rfl (by decide +kernel) ⟨Nat.le_of_ble_eq_true rfl, Nat.le_of_ble_eq_true rfl⟩) (kpV hG hP hK hD hS hA hGA [0, 1, 2, 3, 17, 18, 19, 20, 21, 22] (by decide) rfl (ci := 4) (q0 := 0) rfl rfl rfl) rfl rfl hl.1 rfl (lv_room (Nat.le_of_ble_eq_true rfl)) d_Plan_look_46 ⟨Nat.le_of_ble_eq_true rfl, Nat.le_of_ble_eq_true rfl⟩) (fun H locs hP hD hS => ?_)
          have hP : va_P (dC, dI) vwCl (wd_Plan g h0 q0 x0 ++ wd_Acts g (q0 1) q1 y1_18 ++ wd_Zones g (q0 0) q2 z2_6 ++ wd_Points g h3 q3 x3 n3) H := hP.sub (ws' := wd_Plan g h0 q0 x0 ++ wd_Acts g (q0 1) q1 y1_18 ++ wd_Zones g (q0 0) q2 z2_6 ++ wd_Points g h3 q3 x3 n3) [19, 20, 21, 22, 0, 1, 2, 3, 4, 5, 6, 7, 8, 9, 10, 11, 12, 23, 24, 25, 26, 27, 28, 13, 14, 15, 16, 17, 18] rfl
          have hD : va_D A (wd_Plan g h0 q0 x0 ++ wd_Acts g (q0 1) q1 y1_18 ++ wd_Zones g (q0 0) q2 z2_6 ++ wd_Points g h3 q3 x3 n3) := hD.sub (ws' := wd_Plan g h0 q0 x0 ++ wd_Acts g (q0 1) q1 y1_18 ++ wd_Zones g (q0 0) q2 z2_6 ++ wd_Points g h3 q3 x3 n3) [19, 20, 21, 22, 0, 1, 2, 3, 4, 5, 6, 7, 8, 9, 10, 11, 12, 23, 24, 25, 26, 27, 28, 13, 14, 15, 16, 17, 18] (by decide) rfl
          obtain ⟨z1_49, hcl, hm⟩ := bn1_s hm
          refine kcv (wc := wd_Acts g (q0 1) q1 y1_18) (wr := wd_Plan g h0 q0 x0 ++ wd_Zones g (q0 0) q2 z2_6 ++ wd_Points g h3 q3 x3 n3) (w1 := wd_Acts g (q0 1) q1 z1_49) hP hD hS hA [4, 5, 6, 7, 8, 9, 10, 11, 12, 13, 14, 15, 16] [0, 1, 2, 3, 17, 18, 19, 20, 21, 22, 23, 24, 25, 26, 27, 28] rfl rfl (by decide) (by decide) (va_runV (As := [.int ((x0 4) v3_18.toNatClampNeg), .int r46]) (rest := []) ⟨hx, hb, hml, hown, hts⟩ (c_Acts_call hG hGn l dC dI g F H.size (q0 1) q1 y1_18 ((x0 4) v3_18.toNatClampNeg) r46 hcl) (cwV 2 hts (gdV k3_71 k3_72 k3_73 k1_9 k3_74) rfl rfl rfl (by decide +kernel) ⟨Nat.le_of_ble_eq_true rfl, Nat.le_of_ble_eq_true rfl⟩) (kpV hG hP hK hD hS hA hGA [4, 5, 6, 7, 8, 9, 10, 11, 12, 13, 14, 15, 16] (by decide) rfl (ci := 6) (q0 := 0) rfl rfl rfl) rfl rfl hl.1 rfl (lv_room (Nat.le_of_ble_eq_true rfl)) d_Plan_look_49 ⟨Nat.le_of_ble_eq_true rfl, Nat.le_of_ble_eq_true rfl⟩) (fun H locs hP hD hS => ?_)
          have hP : va_P (dC, dI) vwCl (wd_Plan g h0 q0 x0 ++ wd_Acts g (q0 1) q1 z1_49 ++ wd_Zones g (q0 0) q2 z2_6 ++ wd_Points g h3 q3 x3 n3) H := hP.sub (ws' := wd_Plan g h0 q0 x0 ++ wd_Acts g (q0 1) q1 z1_49 ++ wd_Zones g (q0 0) q2 z2_6 ++ wd_Points g h3 q3 x3 n3) [0, 1, 2, 3, 16, 17, 18, 19, 20, 21, 22, 23, 24, 25, 26, 27, 28, 4, 5, 6, 7, 8, 9, 10, 11, 12, 13, 14, 15] rfl
          have hD : va_D A (wd_Plan g h0 q0 x0 ++ wd_Acts g (q0 1) q1 z1_49 ++ wd_Zones g (q0 0) q2 z2_6 ++ wd_Points g h3 q3 x3 n3) := hD.sub (ws' := wd_Plan g h0 q0 x0 ++ wd_Acts g (q0 1) q1 z1_49 ++ wd_Zones g (q0 0) q2 z2_6 ++ wd_Points g h3 q3 x3 n3) [0, 1, 2, 3, 16, 17, 18, 19, 20, 21, 22, 23, 24, 25, 26, 27, 28, 4, 5, 6, 7, 8, 9, 10, 11, 12, 13, 14, 15] (by decide) rfl
          refine lv_iinc (v := (v3_18 + (1 : Int32))) (lv' := [(3, .int (v3_18 + (1 : Int32))), (0, .ref h0), (1, .ref h3), (2, .int a2)]) hx hb d_Plan_look_52 hl (k := 3) rfl rfl (by decide) rfl (fun ls hl => ?_)
          refine lv_goto (tgt := 18) hx hb d_Plan_look_55 (by decide) ?_
          exact ih18 (v3_18 + (1 : Int32)) z1_49 H locs ls hm hP hD hS (lv_sub hl [1, 2, 3, 0] rfl)
  exact L18 F (0 : Int32) z1_13 H locs ls hm hP hD hS (lv_sub hl [1, 2, 3, 0] rfl)
abbrev b_Plan_tellOfRow : ByteArray := prog_5_method_8_code
abbrev y_Plan_tellOfRow : MethodName := ⟨"AlarmMatrix$Plan", "tellOfRow", "(II)I"⟩
theorem d_Plan_tellOfRow_0 : decode b_Plan_tellOfRow 0 = .ok (.iload_n 2, 1) := by decide +kernel
theorem d_Plan_tellOfRow_1 : decode b_Plan_tellOfRow 1 = .ok (.tableswitch 48 0 2 #[27, 34, 41], 27) := by decide +kernel
theorem d_Plan_tellOfRow_28 : decode b_Plan_tellOfRow 28 = .ok (.aload_n 0, 1) := by decide +kernel
theorem d_Plan_tellOfRow_29 : decode b_Plan_tellOfRow 29 = .ok (.getfield 25, 3) := by decide +kernel
theorem d_Plan_tellOfRow_32 : decode b_Plan_tellOfRow 32 = .ok (.iload_n 1, 1) := by decide +kernel
theorem d_Plan_tellOfRow_33 : decode b_Plan_tellOfRow 33 = .ok (.iaload, 1) := by decide +kernel
theorem d_Plan_tellOfRow_34 : decode b_Plan_tellOfRow 34 = .ok (.ireturn, 1) := by decide +kernel
theorem d_Plan_tellOfRow_35 : decode b_Plan_tellOfRow 35 = .ok (.aload_n 0, 1) := by decide +kernel
theorem d_Plan_tellOfRow_36 : decode b_Plan_tellOfRow 36 = .ok (.getfield 29, 3) := by decide +kernel
theorem d_Plan_tellOfRow_39 : decode b_Plan_tellOfRow 39 = .ok (.iload_n 1, 1) := by decide +kernel
theorem d_Plan_tellOfRow_40 : decode b_Plan_tellOfRow 40 = .ok (.iaload, 1) := by decide +kernel
theorem d_Plan_tellOfRow_41 : decode b_Plan_tellOfRow 41 = .ok (.ireturn, 1) := by decide +kernel
theorem d_Plan_tellOfRow_42 : decode b_Plan_tellOfRow 42 = .ok (.aload_n 0, 1) := by decide +kernel
theorem d_Plan_tellOfRow_43 : decode b_Plan_tellOfRow 43 = .ok (.getfield 32, 3) := by decide +kernel
theorem d_Plan_tellOfRow_46 : decode b_Plan_tellOfRow 46 = .ok (.iload_n 1, 1) := by decide +kernel
theorem d_Plan_tellOfRow_47 : decode b_Plan_tellOfRow 47 = .ok (.iaload, 1) := by decide +kernel
theorem d_Plan_tellOfRow_48 : decode b_Plan_tellOfRow 48 = .ok (.ireturn, 1) := by decide +kernel
theorem d_Plan_tellOfRow_49 : decode b_Plan_tellOfRow 49 = .ok (.aload_n 0, 1) := by decide +kernel
theorem d_Plan_tellOfRow_50 : decode b_Plan_tellOfRow 50 = .ok (.iload_n 1, 1) := by decide +kernel
theorem d_Plan_tellOfRow_51 : decode b_Plan_tellOfRow 51 = .ok (.invokevirtual 50, 3) := by decide +kernel
theorem d_Plan_tellOfRow_54 : decode b_Plan_tellOfRow 54 = .ok (.invokestatic 61, 3) := by decide +kernel
theorem d_Plan_tellOfRow_57 : decode b_Plan_tellOfRow 57 = .ok (.ireturn, 1) := by decide +kernel
def m_Plan_tellOfRow (F : Nat) (x0 : St) (x1 : St) (a1 : Int32) (a2 : Int32) : Option (Int32) :=
  (if a2 = (0 : Int32) then (ck a1 50 (some ((x0 2) a1.toNatClampNeg))) else (if a2 = (1 : Int32) then (ck a1 50 (some ((x0 3) a1.toNatClampNeg))) else (if a2 = (2 : Int32) then (ck a1 50 (some ((x0 4) a1.toNatClampNeg))) else (bn1 (m_Plan_isMet F x0 x1 a1) (fun r51 => (bn1 (m_AM_oneIf F r51) (fun r54 => (some r54))))))))
abbrev rm_Plan_tellOfRow : Room := { frames := 2, cells := 0, slots := 0, locals := 43 }
set_option maxHeartbeats 4000000 in
set_option maxRecDepth 100000 in
theorem c_Plan_tellOfRow {G : (Nat → Prop) → State → Prop} (hG : gok G) (hGn : gN G) (l : Launch) (dC : Nat → ClassId) (dI : Nat → Nat → Nat) (g : Nat → ClassId) (F : Nat) (sz : Nat) (h0 : Nat) (q0 : Nat → Nat) (x0 : St) (q1 : Nat → Nat) (x1 : St) (a1 : Int32) (a2 : Int32) {o : Int32} (hm : m_Plan_tellOfRow F x0 x1 a1 a2 = some o) : Met l y_Plan_tellOfRow (.code y_Plan_tellOfRow b_Plan_tellOfRow 3 (some .int) :: gw) rm_Plan_tellOfRow (kq (dC, dI) vwCl (tyv g) G [.ref h0, .int a1, .int a2] sz (wd_Plan g h0 q0 x0 ++ wd_Zones g (q0 0) q1 x1)) (kqi (dC, dI) vwCl (tyv g) (wd_Plan g h0 q0 x0 ++ wd_Zones g (q0 0) q1 x1) o (wd_Plan g h0 q0 x0 ++ wd_Zones g (q0 0) q1 x1) sz) 0 0 (va_A (wd_Plan g h0 q0 x0 ++ wd_Zones g (q0 0) q1 x1) sz) := by
  unfold m_Plan_tellOfRow at hm
  refine km (Qc := fun sz => kqi (dC, dI) vwCl (tyv g) (wd_Plan g h0 q0 x0 ++ wd_Zones g (q0 0) q1 x1) o (wd_Plan g h0 q0 x0 ++ wd_Zones g (q0 0) q1 x1) sz) (cc := b_Plan_tellOfRow) (maxL := 3) (ret := some .int) (by decide) rfl (Nat.le_of_ble_eq_true rfl) ?_
  intro p e s m args below meth c Q hQ hx hb hr hts hown hlocks hml hnm H locs A hAe hA hP hK hD hS hGA ls hl
  have hl : lv_has ls 3 [(0, .ref h0), (1, .int a1), (2, .int a2)] := hl
  have hts : ∀ w ∈ gw, w.before args s = true := fun w h => hts w (List.mem_cons_of_mem _ h)
  have hown : s.vm.findClass "AlarmMatrix$Plan" = some m.cls := hown
  refine lv_iload_n hx hb d_Plan_tellOfRow_0 rfl (lv_at hl 2 rfl) ?_
  by_cases hc0 : a2 = (0 : Int32)
  · replace hm := if_t hm hc0
    refine lv_tableIn (tgt := 28) hx hb d_Plan_tellOfRow_1 (by rw [hc0]; decide) (by rw [hc0]; decide) (by rw [hc0]; rfl) (by decide) ?_
    refine lv_aload_n hx hb d_Plan_tellOfRow_28 rfl (lv_at hl 0 rfl) ?_
    refine va_get (D := (dC, dI)) (ci := 4) (v := .ref (q0 2)) (C := "AlarmMatrix$Plan") (T := T_Plan) (N := 6) hx hb hts i_Plan hown hK hP 0 rfl rfl 2 (by decide) (hts _ k1_202) (fun _ h9 => h9) rfl d_Plan_tellOfRow_29 ?_
    refine lv_iload_n hx hb d_Plan_tellOfRow_32 rfl (lv_at hl 1 rfl) ?_
    obtain ⟨h_33, hm⟩ := ck_s hm
    refine va_iald (f := (x0 2)) hx hb hK hP 1 0 rfl rfl h_33 d_Plan_tellOfRow_33 ?_
    obtain rfl := Option.some.inj hm
    rw [hQ]
    exact kri hx hb hr hlocks hAe hP hK hD hS d_Plan_tellOfRow_34
  · replace hm := if_f hm hc0
    by_cases hc1 : a2 = (1 : Int32)
    · replace hm := if_t hm hc1
      refine lv_tableIn (tgt := 35) hx hb d_Plan_tellOfRow_1 (by rw [hc1]; decide) (by rw [hc1]; decide) (by rw [hc1]; rfl) (by decide) ?_
      refine lv_aload_n hx hb d_Plan_tellOfRow_35 rfl (lv_at hl 0 rfl) ?_
      refine va_get (D := (dC, dI)) (ci := 4) (v := .ref (q0 3)) (C := "AlarmMatrix$Plan") (T := T_Plan) (N := 6) hx hb hts i_Plan hown hK hP 0 rfl rfl 3 (by decide) (hts _ k1_203) (fun _ h9 => h9) rfl d_Plan_tellOfRow_36 ?_
      refine lv_iload_n hx hb d_Plan_tellOfRow_39 rfl (lv_at hl 1 rfl) ?_
      obtain ⟨h_40, hm⟩ := ck_s hm
      refine va_iald (f := (x0 3)) hx hb hK hP 2 0 rfl rfl h_40 d_Plan_tellOfRow_40 ?_
      obtain rfl := Option.some.inj hm
      rw [hQ]
      exact kri hx hb hr hlocks hAe hP hK hD hS d_Plan_tellOfRow_41
    · replace hm := if_f hm hc1
      by_cases hc2 : a2 = (2 : Int32)
      · replace hm := if_t hm hc2
        refine lv_tableIn (tgt := 42) hx hb d_Plan_tellOfRow_1 (by rw [hc2]; decide) (by rw [hc2]; decide) (by rw [hc2]; rfl) (by decide) ?_
        refine lv_aload_n hx hb d_Plan_tellOfRow_42 rfl (lv_at hl 0 rfl) ?_
        refine va_get (D := (dC, dI)) (ci := 4) (v := .ref (q0 4)) (C := "AlarmMatrix$Plan") (T := T_Plan) (N := 6) hx hb hts i_Plan hown hK hP 0 rfl rfl 4 (by decide) (hts _ k1_204) (fun _ h9 => h9) rfl d_Plan_tellOfRow_43 ?_
        refine lv_iload_n hx hb d_Plan_tellOfRow_46 rfl (lv_at hl 1 rfl) ?_
        obtain ⟨h_47, hm⟩ := ck_s hm
        refine va_iald (f := (x0 4)) hx hb hK hP 3 0 rfl rfl h_47 d_Plan_tellOfRow_47 ?_
        obtain rfl := Option.some.inj hm
        rw [hQ]
        exact kri hx hb hr hlocks hAe hP hK hD hS d_Plan_tellOfRow_48
      · replace hm := if_f hm hc2
        refine lv_tableOut (tgt := 49) hx hb d_Plan_tellOfRow_1 (sw_out (lo := 0) (n := 3) (by decide) (fun k hk => by rcases (show k = 0 ∨ k = 1 ∨ k = 2 by omega) with rfl | rfl | rfl <;> assumption)) (by decide) ?_
        refine lv_aload_n hx hb d_Plan_tellOfRow_49 rfl (lv_at hl 0 rfl) ?_
        refine lv_iload_n hx hb d_Plan_tellOfRow_50 rfl (lv_at hl 1 rfl) ?_
        obtain ⟨r51, hcl, hm⟩ := bn1_s hm
        refine kci (wc := wd_Plan g h0 q0 x0 ++ wd_Zones g (q0 0) q1 x1) (wr := ([] : va_W)) (w1 := wd_Plan g h0 q0 x0 ++ wd_Zones g (q0 0) q1 x1) hP hD hS hA [0, 1, 2, 3, 4, 5, 6, 7, 8, 9] [] rfl rfl (by decide) (by decide) (va_runV (As := [.int a1]) (rest := []) ⟨hx, hb, hml, hown, hts⟩ (c_Plan_isMet hG hGn l dC dI g F H.size h0 q0 x0 q1 x1 a1 hcl) (cwV 1 hts (gdV k3_55 k3_57 kp_11 k1_7 k3_58) rfl rfl rfl (by decide +kernel) ⟨Nat.le_of_ble_eq_true rfl, Nat.le_of_ble_eq_true rfl⟩) (kpV hG hP hK hD hS hA hGA [0, 1, 2, 3, 4, 5, 6, 7, 8, 9] (by decide) rfl (ci := 4) (q0 := 0) rfl rfl rfl) rfl rfl hl.1 rfl (lv_room (Nat.le_of_ble_eq_true rfl)) d_Plan_tellOfRow_51 ⟨Nat.le_of_ble_eq_true rfl, Nat.le_of_ble_eq_true rfl⟩) (fun H locs hP hD hS => ?_)
        have hP : va_P (dC, dI) vwCl (wd_Plan g h0 q0 x0 ++ wd_Zones g (q0 0) q1 x1) H := hP
        have hD : va_D A (wd_Plan g h0 q0 x0 ++ wd_Zones g (q0 0) q1 x1) := hD
        obtain ⟨r54, hcl, hm⟩ := bn1_s hm
        refine kci (wc := ([] : va_W)) (wr := wd_Plan g h0 q0 x0 ++ wd_Zones g (q0 0) q1 x1) (w1 := ([] : va_W)) hP hD hS hA [] [0, 1, 2, 3, 4, 5, 6, 7, 8, 9] rfl rfl (by decide) (by decide) (va_runSN (host := "AlarmMatrix") (As := [.int r51]) (rest := []) ⟨hx, hb, hml, hown, hts⟩ (c_AM_oneIf hG hGn l dC dI g F H.size r51 hcl) ⟨va_cnB 1 hts (gdI k3_50) rfl rfl rfl (hGn A s hGA _ nw4_226) (hts _ k1_1) (by decide +kernel) ⟨Nat.le_of_ble_eq_true rfl, Nat.le_of_ble_eq_true rfl⟩, (hts _ k3_49), trivial⟩ (kpS hG hP hK hD hS hA hGA [] (by decide) rfl) rfl rfl hl.1 rfl (lv_room (Nat.le_of_ble_eq_true rfl)) d_Plan_tellOfRow_54 ⟨Nat.le_of_ble_eq_true rfl, Nat.le_of_ble_eq_true rfl⟩) (fun H locs hP hD hS => ?_)
        have hP : va_P (dC, dI) vwCl (wd_Plan g h0 q0 x0 ++ wd_Zones g (q0 0) q1 x1) H := hP
        have hD : va_D A (wd_Plan g h0 q0 x0 ++ wd_Zones g (q0 0) q1 x1) := hD
        obtain rfl := Option.some.inj hm
        rw [hQ]
        exact kri hx hb hr hlocks hAe hP hK hD hS d_Plan_tellOfRow_57

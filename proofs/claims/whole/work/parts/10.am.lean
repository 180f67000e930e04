abbrev b_AM_isWithin : ByteArray := prog_1_method_22_code
abbrev y_AM_isWithin : MethodName := ⟨"AlarmMatrix", "isWithin", "(III)Z"⟩
theorem d_AM_isWithin_0 : decode b_AM_isWithin 0 = .ok (.iload_n 0, 1) := by decide +kernel
theorem d_AM_isWithin_1 : decode b_AM_isWithin 1 = .ok (.iload_n 1, 1) := by decide +kernel
theorem d_AM_isWithin_2 : decode b_AM_isWithin 2 = .ok (.if_icmp .lt 12, 3) := by decide +kernel
theorem d_AM_isWithin_5 : decode b_AM_isWithin 5 = .ok (.iload_n 0, 1) := by decide +kernel
theorem d_AM_isWithin_6 : decode b_AM_isWithin 6 = .ok (.iload_n 2, 1) := by decide +kernel
theorem d_AM_isWithin_7 : decode b_AM_isWithin 7 = .ok (.if_icmp .gt 7, 3) := by decide +kernel
theorem d_AM_isWithin_10 : decode b_AM_isWithin 10 = .ok (.iconst 1, 1) := by decide +kernel
theorem d_AM_isWithin_11 : decode b_AM_isWithin 11 = .ok (.goto 4, 3) := by decide +kernel
theorem d_AM_isWithin_14 : decode b_AM_isWithin 14 = .ok (.iconst 0, 1) := by decide +kernel
theorem d_AM_isWithin_15 : decode b_AM_isWithin 15 = .ok (.ireturn, 1) := by decide +kernel
def m_AM_isWithin (F : Nat) (a1 : Int32) (a2 : Int32) (a3 : Int32) : Option (Int32) :=
  (if a1 < a2 then (some (0 : Int32)) else (if a3 < a1 then (some (0 : Int32)) else (some (1 : Int32))))
abbrev rm_AM_isWithin : Room := { frames := 0, cells := 0, slots := 0, locals := 0 }
set_option maxHeartbeats 4000000 in
set_option maxRecDepth 100000 in
theorem c_AM_isWithin {G : (Nat → Prop) → State → Prop} (hG : gok G) (hGn : gN G) (l : Launch) (dC : Nat → ClassId) (dI : Nat → Nat → Nat) (g : Nat → ClassId) (F : Nat) (sz : Nat) (a1 : Int32) (a2 : Int32) (a3 : Int32) {o : Int32} (hm : m_AM_isWithin F a1 a2 a3 = some o) : Met l y_AM_isWithin (.code y_AM_isWithin b_AM_isWithin 3 (some .boolean) :: gw) rm_AM_isWithin (kq (dC, dI) vwCl (tyv g) G [.int a1, .int a2, .int a3] sz (([] : va_W))) (kqi (dC, dI) vwCl (tyv g) (([] : va_W)) o (([] : va_W)) sz) 0 0 (va_A (([] : va_W)) sz) := by
  unfold m_AM_isWithin at hm
  refine km (Qc := fun sz => kqi (dC, dI) vwCl (tyv g) (([] : va_W)) o (([] : va_W)) sz) (cc := b_AM_isWithin) (maxL := 3) (ret := some .boolean) (by decide) rfl (Nat.le_of_ble_eq_true rfl) ?_
  intro p e s m args below meth c Q hQ hx hb hr hts hown hlocks hml hnm H locs A hAe hA hP hK hD hS hGA ls hl
  have hl : lv_has ls 3 [(0, .int a1), (1, .int a2), (2, .int a3)] := hl
  have hts : ∀ w ∈ gw, w.before args s = true := fun w h => hts w (List.mem_cons_of_mem _ h)
  have hown : s.vm.findClass "AlarmMatrix" = some m.cls := hown
  refine lv_iload_n hx hb d_AM_isWithin_0 rfl (lv_at hl 0 rfl) ?_
  refine lv_iload_n hx hb d_AM_isWithin_1 rfl (lv_at hl 1 rfl) ?_
  refine lv_icmp_lt (tgt := 14) hx hb d_AM_isWithin_2 (by decide) (fun hc => ?_) (fun hc => ?_)
  · replace hm := if_t hm hc
    refine lv_iconst (v := (0 : Int32)) hx hb d_AM_isWithin_14 (by decide) ?_
    obtain rfl := Option.some.inj hm
    rw [hQ]
    exact krz hx hb hr nar_0 hlocks hAe hP hK hD hS d_AM_isWithin_15
  · replace hm := if_f hm hc
    refine lv_iload_n hx hb d_AM_isWithin_5 rfl (lv_at hl 0 rfl) ?_
    refine lv_iload_n hx hb d_AM_isWithin_6 rfl (lv_at hl 2 rfl) ?_
    refine lv_icmp_gt (tgt := 14) hx hb d_AM_isWithin_7 (by decide) (fun hc => ?_) (fun hc => ?_)
    · replace hm := if_t hm hc
      refine lv_iconst (v := (0 : Int32)) hx hb d_AM_isWithin_14 (by decide) ?_
      obtain rfl := Option.some.inj hm
      rw [hQ]
      exact krz hx hb hr nar_0 hlocks hAe hP hK hD hS d_AM_isWithin_15
    · replace hm := if_f hm hc
      refine lv_iconst (v := (1 : Int32)) hx hb d_AM_isWithin_10 (by decide) ?_
      refine lv_goto (tgt := 15) hx hb d_AM_isWithin_11 (by decide) ?_
      obtain rfl := Option.some.inj hm
      rw [hQ]
      exact krz hx hb hr nar_1 hlocks hAe hP hK hD hS d_AM_isWithin_15
abbrev b_AM_oneIf : ByteArray := prog_1_method_23_code
abbrev y_AM_oneIf : MethodName := ⟨"AlarmMatrix", "oneIf", "(Z)I"⟩
theorem d_AM_oneIf_0 : decode b_AM_oneIf 0 = .ok (.iload_n 0, 1) := by decide +kernel
theorem d_AM_oneIf_1 : decode b_AM_oneIf 1 = .ok (.ifCond .eq 7, 3) := by decide +kernel
theorem d_AM_oneIf_4 : decode b_AM_oneIf 4 = .ok (.iconst 1, 1) := by decide +kernel
theorem d_AM_oneIf_5 : decode b_AM_oneIf 5 = .ok (.goto 4, 3) := by decide +kernel
theorem d_AM_oneIf_8 : decode b_AM_oneIf 8 = .ok (.iconst 0, 1) := by decide +kernel
theorem d_AM_oneIf_9 : decode b_AM_oneIf 9 = .ok (.ireturn, 1) := by decide +kernel
def m_AM_oneIf (F : Nat) (a1 : Int32) : Option (Int32) :=
  (if a1 = (0 : Int32) then (some (0 : Int32)) else (some (1 : Int32)))
abbrev rm_AM_oneIf : Room := { frames := 0, cells := 0, slots := 0, locals := 0 }
set_option maxHeartbeats 4000000 in
set_option maxRecDepth 100000 in
theorem c_AM_oneIf {G : (Nat → Prop) → State → Prop} (hG : gok G) (hGn : gN G) (l : Launch) (dC : Nat → ClassId) (dI : Nat → Nat → Nat) (g : Nat → ClassId) (F : Nat) (sz : Nat) (a1 : Int32) {o : Int32} (hm : m_AM_oneIf F a1 = some o) : Met l y_AM_oneIf (.code y_AM_oneIf b_AM_oneIf 1 (some .int) :: gw) rm_AM_oneIf (kq (dC, dI) vwCl (tyv g) G [.int a1] sz (([] : va_W))) (kqi (dC, dI) vwCl (tyv g) (([] : va_W)) o (([] : va_W)) sz) 0 0 (va_A (([] : va_W)) sz) := by
  unfold m_AM_oneIf at hm
  refine km (Qc := fun sz => kqi (dC, dI) vwCl (tyv g) (([] : va_W)) o (([] : va_W)) sz) (cc := b_AM_oneIf) (maxL := 1) (ret := some .int) (by decide) rfl (Nat.le_of_ble_eq_true rfl) ?_
  intro p e s m args below meth c Q hQ hx hb hr hts hown hlocks hml hnm H locs A hAe hA hP hK hD hS hGA ls hl
  have hl : lv_has ls 1 [(0, .int a1)] := hl
  have hts : ∀ w ∈ gw, w.before args s = true := fun w h => hts w (List.mem_cons_of_mem _ h)
  have hown : s.vm.findClass "AlarmMatrix" = some m.cls := hown
  refine lv_iload_n hx hb d_AM_oneIf_0 rfl (lv_at hl 0 rfl) ?_
  refine lv_if_eq (tgt := 8) hx hb d_AM_oneIf_1 (by decide) (fun hc => ?_) (fun hc => ?_)
  · replace hm := if_t hm hc
    refine lv_iconst (v := (0 : Int32)) hx hb d_AM_oneIf_8 (by decide) ?_
    obtain rfl := Option.some.inj hm
    rw [hQ]
    exact kri hx hb hr hlocks hAe hP hK hD hS d_AM_oneIf_9
  · replace hm := if_f hm hc
    refine lv_iconst (v := (1 : Int32)) hx hb d_AM_oneIf_4 (by decide) ?_
    refine lv_goto (tgt := 9) hx hb d_AM_oneIf_5 (by decide) ?_
    obtain rfl := Option.some.inj hm
    rw [hQ]
    exact kri hx hb hr hlocks hAe hP hK hD hS d_AM_oneIf_9
abbrev b_AM_isLoop : ByteArray := prog_1_method_24_code
abbrev y_AM_isLoop : MethodName := ⟨"AlarmMatrix", "isLoop", "(I)Z"⟩
theorem d_AM_isLoop_0 : decode b_AM_isLoop 0 = .ok (.iload_n 0, 1) := by decide +kernel
theorem d_AM_isLoop_1 : decode b_AM_isLoop 1 = .ok (.iconst 0, 1) := by decide +kernel
theorem d_AM_isLoop_2 : decode b_AM_isLoop 2 = .ok (.bipush 7, 2) := by decide +kernel
theorem d_AM_isLoop_4 : decode b_AM_isLoop 4 = .ok (.invokestatic 62, 3) := by decide +kernel
theorem d_AM_isLoop_7 : decode b_AM_isLoop 7 = .ok (.ireturn, 1) := by decide +kernel
def m_AM_isLoop (F : Nat) (a1 : Int32) : Option (Int32) :=
  (bn1 (m_AM_isWithin F a1 (0 : Int32) (7 : Int32)) (fun r4 => (ckb r4 (some r4))))
abbrev rm_AM_isLoop : Room := { frames := 1, cells := 0, slots := 0, locals := 22 }
set_option maxHeartbeats 4000000 in
set_option maxRecDepth 100000 in
theorem c_AM_isLoop {G : (Nat → Prop) → State → Prop} (hG : gok G) (hGn : gN G) (l : Launch) (dC : Nat → ClassId) (dI : Nat → Nat → Nat) (g : Nat → ClassId) (F : Nat) (sz : Nat) (a1 : Int32) {o : Int32} (hm : m_AM_isLoop F a1 = some o) : Met l y_AM_isLoop (.code y_AM_isLoop b_AM_isLoop 1 (some .boolean) :: gw) rm_AM_isLoop (kq (dC, dI) vwCl (tyv g) G [.int a1] sz (([] : va_W))) (kqi (dC, dI) vwCl (tyv g) (([] : va_W)) o (([] : va_W)) sz) 0 0 (va_A (([] : va_W)) sz) := by
  unfold m_AM_isLoop at hm
  refine km (Qc := fun sz => kqi (dC, dI) vwCl (tyv g) (([] : va_W)) o (([] : va_W)) sz) (cc := b_AM_isLoop) (maxL := 1) (ret := some .boolean) (by decide) rfl (Nat.le_of_ble_eq_true rfl) ?_
  intro p e s m args below meth c Q hQ hx hb hr hts hown hlocks hml hnm H locs A hAe hA hP hK hD hS hGA ls hl
  have hl : lv_has ls 1 [(0, .int a1)] := hl
  have hts : ∀ w ∈ gw, w.before args s = true := fun w h => hts w (List.mem_cons_of_mem _ h)
  have hown : s.vm.findClass "AlarmMatrix" = some m.cls := hown
  refine lv_iload_n hx hb d_AM_isLoop_0 rfl (lv_at hl 0 rfl) ?_
  refine lv_iconst (v := (0 : Int32)) hx hb d_AM_isLoop_1 (by decide) ?_
  refine lv_bipush (v := (7 : Int32)) hx hb d_AM_isLoop_2 (by decide) ?_
  obtain ⟨r4, hcl, hm⟩ := bn1_s hm
  refine kci (wc := ([] : va_W)) (wr := ([] : va_W)) (w1 := ([] : va_W)) hP hD hS hA [] [] rfl rfl (by decide) (by decide) (va_runS (As := [.int a1, .int (0 : Int32), .int (7 : Int32)]) (rest := []) ⟨hx, hb, hml, hown, hts⟩ (c_AM_isWithin hG hGn l dC dI g F H.size a1 (0 : Int32) (7 : Int32) hcl) (cwS 3 hts (gdS k3_101 k2_153 k1_1 k2_154) rfl rfl rfl (by decide +kernel) ⟨Nat.le_of_ble_eq_true rfl, Nat.le_of_ble_eq_true rfl⟩) (kpS hG hP hK hD hS hA hGA [] (by decide) rfl) rfl rfl hl.1 rfl (lv_room (Nat.le_of_ble_eq_true rfl)) d_AM_isLoop_4 ⟨Nat.le_of_ble_eq_true rfl, Nat.le_of_ble_eq_true rfl⟩) (fun H locs hP hD hS => ?_)
  have hP : va_P (dC, dI) vwCl (([] : va_W)) H := hP
  have hD : va_D A (([] : va_W)) := hD
  obtain ⟨hz, hm⟩ := ckb_s hm
  obtain rfl := Option.some.inj hm
  rw [hQ]
  exact krz hx hb hr hz hlocks hAe hP hK hD hS d_AM_isLoop_7
abbrev b_AM_isSayable : ByteArray := prog_1_method_25_code
abbrev y_AM_isSayable : MethodName := ⟨"AlarmMatrix", "isSayable", "(I)Z"⟩
theorem d_AM_isSayable_0 : decode b_AM_isSayable 0 = .ok (.iload_n 0, 1) := by decide +kernel
theorem d_AM_isSayable_1 : decode b_AM_isSayable 1 = .ok (.iconst 0, 1) := by decide +kernel
theorem d_AM_isSayable_2 : decode b_AM_isSayable 2 = .ok (.sipush 9999, 3) := by decide +kernel
theorem d_AM_isSayable_5 : decode b_AM_isSayable 5 = .ok (.invokestatic 62, 3) := by decide +kernel
theorem d_AM_isSayable_8 : decode b_AM_isSayable 8 = .ok (.ireturn, 1) := by decide +kernel
def m_AM_isSayable (F : Nat) (a1 : Int32) : Option (Int32) :=
  (bn1 (m_AM_isWithin F a1 (0 : Int32) (9999 : Int32)) (fun r5 => (ckb r5 (some r5))))
abbrev rm_AM_isSayable : Room := { frames := 1, cells := 0, slots := 0, locals := 22 }
set_option maxHeartbeats 4000000 in
set_option maxRecDepth 100000 in
theorem c_AM_isSayable {G : (Nat → Prop) → State → Prop} (hG : gok G) (hGn : gN G) (l : Launch) (dC : Nat → ClassId) (dI : Nat → Nat → Nat) (g : Nat → ClassId) (F : Nat) (sz : Nat) (a1 : Int32) {o : Int32} (hm : m_AM_isSayable F a1 = some o) : Met l y_AM_isSayable (.code y_AM_isSayable b_AM_isSayable 1 (some .boolean) :: gw) rm_AM_isSayable (kq (dC, dI) vwCl (tyv g) G [.int a1] sz (([] : va_W))) (kqi (dC, dI) vwCl (tyv g) (([] : va_W)) o (([] : va_W)) sz) 0 0 (va_A (([] : va_W)) sz) := by
  unfold m_AM_isSayable at hm
  refine km (Qc := fun sz => kqi (dC, dI) vwCl (tyv g) (([] : va_W)) o (([] : va_W)) sz) (cc := b_AM_isSayable) (maxL := 1) (ret := some .boolean) (by decide) rfl (Nat.le_of_ble_eq_true rfl) ?_
  intro p e s m args below meth c Q hQ hx hb hr hts hown hlocks hml hnm H locs A hAe hA hP hK hD hS hGA ls hl
  have hl : lv_has ls 1 [(0, .int a1)] := hl
  have hts : ∀ w ∈ gw, w.before args s = true := fun w h => hts w (List.mem_cons_of_mem _ h)
  have hown : s.vm.findClass "AlarmMatrix" = some m.cls := hown
  refine lv_iload_n hx hb d_AM_isSayable_0 rfl (lv_at hl 0 rfl) ?_
  refine lv_iconst (v := (0 : Int32)) hx hb d_AM_isSayable_1 (by decide) ?_
  refine lv_sipush (v := (9999 : Int32)) hx hb d_AM_isSayable_2 (by decide) ?_
  obtain ⟨r5, hcl, hm⟩ := bn1_s hm
  refine kci (wc := ([] : va_W)) (wr := ([] : va_W)) (w1 := ([] : va_W)) hP hD hS hA [] [] rfl rfl (by decide) (by decide) (va_runS (As := [.int a1, .int (0 : Int32), .int (9999 : Int32)]) (rest := []) ⟨hx, hb, hml, hown, hts⟩ (c_AM_isWithin hG hGn l dC dI g F H.size a1 (0 : Int32) (9999 : Int32) hcl) (cwS 3 hts (gdS k3_101 k2_153 k1_1 k2_154) rfl rfl rfl (by decide +kernel) ⟨Nat.le_of_ble_eq_true rfl, Nat.le_of_ble_eq_true rfl⟩) (kpS hG hP hK hD hS hA hGA [] (by decide) rfl) rfl rfl hl.1 rfl (lv_room (Nat.le_of_ble_eq_true rfl)) d_AM_isSayable_5 ⟨Nat.le_of_ble_eq_true rfl, Nat.le_of_ble_eq_true rfl⟩) (fun H locs hP hD hS => ?_)
  have hP : va_P (dC, dI) vwCl (([] : va_W)) H := hP
  have hD : va_D A (([] : va_W)) := hD
  obtain ⟨hz, hm⟩ := ckb_s hm
  obtain rfl := Option.some.inj hm
  rw [hQ]
  exact krz hx hb hr hz hlocks hAe hP hK hD hS d_AM_isSayable_8
abbrev b_AM_canBeSaid : ByteArray := prog_1_method_26_code
abbrev y_AM_canBeSaid : MethodName := ⟨"AlarmMatrix", "canBeSaid", "(IIIII)Z"⟩
theorem d_AM_canBeSaid_0 : decode b_AM_canBeSaid 0 = .ok (.iload_n 0, 1) := by decide +kernel
theorem d_AM_canBeSaid_1 : decode b_AM_canBeSaid 1 = .ok (.tableswitch 160 0 4 #[35, 73, 108, 128, 155], 35) := by decide +kernel
theorem d_AM_canBeSaid_36 : decode b_AM_canBeSaid 36 = .ok (.iload_n 1, 1) := by decide +kernel
theorem d_AM_canBeSaid_37 : decode b_AM_canBeSaid 37 = .ok (.invokestatic 238, 3) := by decide +kernel
theorem d_AM_canBeSaid_40 : decode b_AM_canBeSaid 40 = .ok (.ifCond .eq 32, 3) := by decide +kernel
theorem d_AM_canBeSaid_43 : decode b_AM_canBeSaid 43 = .ok (.iload_n 2, 1) := by decide +kernel
theorem d_AM_canBeSaid_44 : decode b_AM_canBeSaid 44 = .ok (.invokestatic 238, 3) := by decide +kernel
theorem d_AM_canBeSaid_47 : decode b_AM_canBeSaid 47 = .ok (.ifCond .eq 25, 3) := by decide +kernel
theorem d_AM_canBeSaid_50 : decode b_AM_canBeSaid 50 = .ok (.iload_n 3, 1) := by decide +kernel
theorem d_AM_canBeSaid_51 : decode b_AM_canBeSaid 51 = .ok (.invokestatic 238, 3) := by decide +kernel
theorem d_AM_canBeSaid_54 : decode b_AM_canBeSaid 54 = .ok (.ifCond .eq 18, 3) := by decide +kernel
theorem d_AM_canBeSaid_57 : decode b_AM_canBeSaid 57 = .ok (.iload 4, 2) := by decide +kernel
theorem d_AM_canBeSaid_59 : decode b_AM_canBeSaid 59 = .ok (.iconst 1, 1) := by decide +kernel
theorem d_AM_canBeSaid_60 : decode b_AM_canBeSaid 60 = .ok (.bipush 12, 2) := by decide +kernel
theorem d_AM_canBeSaid_62 : decode b_AM_canBeSaid 62 = .ok (.invokestatic 62, 3) := by decide +kernel
theorem d_AM_canBeSaid_65 : decode b_AM_canBeSaid 65 = .ok (.ifCond .eq 7, 3) := by decide +kernel
theorem d_AM_canBeSaid_68 : decode b_AM_canBeSaid 68 = .ok (.iconst 1, 1) := by decide +kernel
theorem d_AM_canBeSaid_69 : decode b_AM_canBeSaid 69 = .ok (.goto 4, 3) := by decide +kernel
theorem d_AM_canBeSaid_72 : decode b_AM_canBeSaid 72 = .ok (.iconst 0, 1) := by decide +kernel
theorem d_AM_canBeSaid_73 : decode b_AM_canBeSaid 73 = .ok (.ireturn, 1) := by decide +kernel
theorem d_AM_canBeSaid_74 : decode b_AM_canBeSaid 74 = .ok (.iload_n 1, 1) := by decide +kernel
theorem d_AM_canBeSaid_75 : decode b_AM_canBeSaid 75 = .ok (.invokestatic 238, 3) := by decide +kernel
theorem d_AM_canBeSaid_78 : decode b_AM_canBeSaid 78 = .ok (.ifCond .eq 29, 3) := by decide +kernel
theorem d_AM_canBeSaid_81 : decode b_AM_canBeSaid 81 = .ok (.iload_n 2, 1) := by decide +kernel
theorem d_AM_canBeSaid_82 : decode b_AM_canBeSaid 82 = .ok (.invokestatic 238, 3) := by decide +kernel
theorem d_AM_canBeSaid_85 : decode b_AM_canBeSaid 85 = .ok (.ifCond .eq 22, 3) := by decide +kernel
theorem d_AM_canBeSaid_88 : decode b_AM_canBeSaid 88 = .ok (.iload_n 3, 1) := by decide +kernel
theorem d_AM_canBeSaid_89 : decode b_AM_canBeSaid 89 = .ok (.invokestatic 238, 3) := by decide +kernel
theorem d_AM_canBeSaid_92 : decode b_AM_canBeSaid 92 = .ok (.ifCond .eq 15, 3) := by decide +kernel
theorem d_AM_canBeSaid_95 : decode b_AM_canBeSaid 95 = .ok (.iload 4, 2) := by decide +kernel
theorem d_AM_canBeSaid_97 : decode b_AM_canBeSaid 97 = .ok (.invokestatic 238, 3) := by decide +kernel
theorem d_AM_canBeSaid_100 : decode b_AM_canBeSaid 100 = .ok (.ifCond .eq 7, 3) := by decide +kernel
theorem d_AM_canBeSaid_103 : decode b_AM_canBeSaid 103 = .ok (.iconst 1, 1) := by decide +kernel
theorem d_AM_canBeSaid_104 : decode b_AM_canBeSaid 104 = .ok (.goto 4, 3) := by decide +kernel
theorem d_AM_canBeSaid_107 : decode b_AM_canBeSaid 107 = .ok (.iconst 0, 1) := by decide +kernel
theorem d_AM_canBeSaid_108 : decode b_AM_canBeSaid 108 = .ok (.ireturn, 1) := by decide +kernel
theorem d_AM_canBeSaid_109 : decode b_AM_canBeSaid 109 = .ok (.iload_n 1, 1) := by decide +kernel
theorem d_AM_canBeSaid_110 : decode b_AM_canBeSaid 110 = .ok (.invokestatic 238, 3) := by decide +kernel
theorem d_AM_canBeSaid_113 : decode b_AM_canBeSaid 113 = .ok (.ifCond .eq 14, 3) := by decide +kernel
theorem d_AM_canBeSaid_116 : decode b_AM_canBeSaid 116 = .ok (.iload_n 2, 1) := by decide +kernel
theorem d_AM_canBeSaid_117 : decode b_AM_canBeSaid 117 = .ok (.invokestatic 238, 3) := by decide +kernel
theorem d_AM_canBeSaid_120 : decode b_AM_canBeSaid 120 = .ok (.ifCond .eq 7, 3) := by decide +kernel
theorem d_AM_canBeSaid_123 : decode b_AM_canBeSaid 123 = .ok (.iconst 1, 1) := by decide +kernel
theorem d_AM_canBeSaid_124 : decode b_AM_canBeSaid 124 = .ok (.goto 4, 3) := by decide +kernel
theorem d_AM_canBeSaid_127 : decode b_AM_canBeSaid 127 = .ok (.iconst 0, 1) := by decide +kernel
theorem d_AM_canBeSaid_128 : decode b_AM_canBeSaid 128 = .ok (.ireturn, 1) := by decide +kernel
theorem d_AM_canBeSaid_129 : decode b_AM_canBeSaid 129 = .ok (.iload_n 1, 1) := by decide +kernel
theorem d_AM_canBeSaid_130 : decode b_AM_canBeSaid 130 = .ok (.invokestatic 238, 3) := by decide +kernel
theorem d_AM_canBeSaid_133 : decode b_AM_canBeSaid 133 = .ok (.ifCond .eq 21, 3) := by decide +kernel
theorem d_AM_canBeSaid_136 : decode b_AM_canBeSaid 136 = .ok (.iload_n 2, 1) := by decide +kernel
theorem d_AM_canBeSaid_137 : decode b_AM_canBeSaid 137 = .ok (.invokestatic 238, 3) := by decide +kernel
theorem d_AM_canBeSaid_140 : decode b_AM_canBeSaid 140 = .ok (.ifCond .eq 14, 3) := by decide +kernel
theorem d_AM_canBeSaid_143 : decode b_AM_canBeSaid 143 = .ok (.iload_n 3, 1) := by decide +kernel
theorem d_AM_canBeSaid_144 : decode b_AM_canBeSaid 144 = .ok (.invokestatic 238, 3) := by decide +kernel
theorem d_AM_canBeSaid_147 : decode b_AM_canBeSaid 147 = .ok (.ifCond .eq 7, 3) := by decide +kernel
theorem d_AM_canBeSaid_150 : decode b_AM_canBeSaid 150 = .ok (.iconst 1, 1) := by decide +kernel
theorem d_AM_canBeSaid_151 : decode b_AM_canBeSaid 151 = .ok (.goto 4, 3) := by decide +kernel
theorem d_AM_canBeSaid_154 : decode b_AM_canBeSaid 154 = .ok (.iconst 0, 1) := by decide +kernel
theorem d_AM_canBeSaid_155 : decode b_AM_canBeSaid 155 = .ok (.ireturn, 1) := by decide +kernel
theorem d_AM_canBeSaid_156 : decode b_AM_canBeSaid 156 = .ok (.iload_n 1, 1) := by decide +kernel
theorem d_AM_canBeSaid_157 : decode b_AM_canBeSaid 157 = .ok (.invokestatic 238, 3) := by decide +kernel
theorem d_AM_canBeSaid_160 : decode b_AM_canBeSaid 160 = .ok (.ireturn, 1) := by decide +kernel
theorem d_AM_canBeSaid_161 : decode b_AM_canBeSaid 161 = .ok (.iconst 0, 1) := by decide +kernel
theorem d_AM_canBeSaid_162 : decode b_AM_canBeSaid 162 = .ok (.ireturn, 1) := by decide +kernel
def m_AM_canBeSaid (F : Nat) (a1 : Int32) (a2 : Int32) (a3 : Int32) (a4 : Int32) (a5 : Int32) : Option (Int32) :=
  (if a1 = (0 : Int32) then (bn1 (m_AM_isSayable F a2) (fun r37 => (if r37 = (0 : Int32) then (some (0 : Int32)) else (bn1 (m_AM_isSayable F a3) (fun r44 => (if r44 = (0 : Int32) then (some (0 : Int32)) else (bn1 (m_AM_isSayable F a4) (fun r51 => (if r51 = (0 : Int32) then (some (0 : Int32)) else (bn1 (m_AM_isWithin F a5 (1 : Int32) (12 : Int32)) (fun r62 => (if r62 = (0 : Int32) then (some (0 : Int32)) else (some (1 : Int32)))))))))))))) else (if a1 = (1 : Int32) then (bn1 (m_AM_isSayable F a2) (fun r75 => (if r75 = (0 : Int32) then (some (0 : Int32)) else (bn1 (m_AM_isSayable F a3) (fun r82 => (if r82 = (0 : Int32) then (some (0 : Int32)) else (bn1 (m_AM_isSayable F a4) (fun r89 => (if r89 = (0 : Int32) then (some (0 : Int32)) else (bn1 (m_AM_isSayable F a5) (fun r97 => (if r97 = (0 : Int32) then (some (0 : Int32)) else (some (1 : Int32)))))))))))))) else (if a1 = (2 : Int32) then (bn1 (m_AM_isSayable F a2) (fun r110 => (if r110 = (0 : Int32) then (some (0 : Int32)) else (bn1 (m_AM_isSayable F a3) (fun r117 => (if r117 = (0 : Int32) then (some (0 : Int32)) else (some (1 : Int32)))))))) else (if a1 = (3 : Int32) then (bn1 (m_AM_isSayable F a2) (fun r130 => (if r130 = (0 : Int32) then (some (0 : Int32)) else (bn1 (m_AM_isSayable F a3) (fun r137 => (if r137 = (0 : Int32) then (some (0 : Int32)) else (bn1 (m_AM_isSayable F a4) (fun r144 => (if r144 = (0 : Int32) then (some (0 : Int32)) else (some (1 : Int32))))))))))) else (if a1 = (4 : Int32) then (bn1 (m_AM_isSayable F a2) (fun r157 => (ckb r157 (some r157)))) else (some (0 : Int32)))))))
abbrev rm_AM_canBeSaid : Room := { frames := 2, cells := 0, slots := 0, locals := 42 }
set_option maxHeartbeats 4000000 in
set_option maxRecDepth 100000 in
theorem c_AM_canBeSaid {G : (Nat → Prop) → State → Prop} (hG : gok G) (hGn : gN G) (l : Launch) (dC : Nat → ClassId) (dI : Nat → Nat → Nat) (g : Nat → ClassId) (F : Nat) (sz : Nat) (a1 : Int32) (a2 : Int32) (a3 : Int32) (a4 : Int32) (a5 : Int32) {o : Int32} (hm : m_AM_canBeSaid F a1 a2 a3 a4 a5 = some o) : Met l y_AM_canBeSaid (.code y_AM_canBeSaid b_AM_canBeSaid 5 (some .boolean) :: gw) rm_AM_canBeSaid (kq (dC, dI) vwCl (tyv g) G [.int a1, .int a2, .int a3, .int a4, .int a5] sz (([] : va_W))) (kqi (dC, dI) vwCl (tyv g) (([] : va_W)) o (([] : va_W)) sz) 0 0 (va_A (([] : va_W)) sz) := by
  unfold m_AM_canBeSaid at hm
  refine km (Qc := fun sz => kqi (dC, dI) vwCl (tyv g) (([] : va_W)) o (([] : va_W)) sz) (cc := b_AM_canBeSaid) (maxL := 5) (ret := some .boolean) (by decide) rfl (Nat.le_of_ble_eq_true rfl) ?_
  intro p e s m args below meth c Q hQ hx hb hr hts hown hlocks hml hnm H locs A hAe hA hP hK hD hS hGA ls hl
  have hl : lv_has ls 5 [(0, .int a1), (1, .int a2), (2, .int a3), (3, .int a4), (4, .int a5)] := hl
  have hts : ∀ w ∈ gw, w.before args s = true := fun w h => hts w (List.mem_cons_of_mem _ h)
  have hown : s.vm.findClass "AlarmMatrix" = some m.cls := hown
  refine lv_iload_n hx hb d_AM_canBeSaid_0 rfl (lv_at hl 0 rfl) ?_
  by_cases hc0 : a1 = (0 : Int32)
  · replace hm := if_t hm hc0
    refine lv_tableIn (tgt := 36) hx hb d_AM_canBeSaid_1 (by rw [hc0]; decide) (by rw [hc0]; decide) (by rw [hc0]; rfl) (by decide) ?_
    refine lv_iload_n hx hb d_AM_canBeSaid_36 rfl (lv_at hl 1 rfl) ?_
    obtain ⟨r37, hcl, hm⟩ := bn1_s hm
    refine kci (wc := ([] : va_W)) (wr := ([] : va_W)) (w1 := ([] : va_W)) hP hD hS hA [] [] rfl rfl (by decide) (by decide) (va_runS (As := [.int a2]) (rest := []) ⟨hx, hb, hml, hown, hts⟩ (c_AM_isSayable hG hGn l dC dI g F H.size a2 hcl) (cwS 1 hts (gdS k3_199 k3_200 k1_1 k3_201) rfl rfl rfl (by decide +kernel) ⟨Nat.le_of_ble_eq_true rfl, Nat.le_of_ble_eq_true rfl⟩) (kpS hG hP hK hD hS hA hGA [] (by decide) rfl) rfl rfl hl.1 rfl (lv_room (Nat.le_of_ble_eq_true rfl)) d_AM_canBeSaid_37 ⟨Nat.le_of_ble_eq_true rfl, Nat.le_of_ble_eq_true rfl⟩) (fun H locs hP hD hS => ?_)
    have hP : va_P (dC, dI) vwCl (([] : va_W)) H := hP
    have hD : va_D A (([] : va_W)) := hD
    refine lv_if_eq (tgt := 72) hx hb d_AM_canBeSaid_40 (by decide) (fun hc => ?_) (fun hc => ?_)
    · replace hm := if_t hm hc
      refine lv_iconst (v := (0 : Int32)) hx hb d_AM_canBeSaid_72 (by decide) ?_
      obtain rfl := Option.some.inj hm
      rw [hQ]
      exact krz hx hb hr nar_0 hlocks hAe hP hK hD hS d_AM_canBeSaid_73
    · replace hm := if_f hm hc
      refine lv_iload_n hx hb d_AM_canBeSaid_43 rfl (lv_at hl 2 rfl) ?_
      obtain ⟨r44, hcl, hm⟩ := bn1_s hm
      refine kci (wc := ([] : va_W)) (wr := ([] : va_W)) (w1 := ([] : va_W)) hP hD hS hA [] [] rfl rfl (by decide) (by decide) (va_runS (As := [.int a3]) (rest := []) ⟨hx, hb, hml, hown, hts⟩ (c_AM_isSayable hG hGn l dC dI g F H.size a3 hcl) (cwS 1 hts (gdS k3_199 k3_200 k1_1 k3_201) rfl rfl rfl (by decide +kernel) ⟨Nat.le_of_ble_eq_true rfl, Nat.le_of_ble_eq_true rfl⟩) (kpS hG hP hK hD hS hA hGA [] (by decide) rfl) rfl rfl hl.1 rfl (lv_room (Nat.le_of_ble_eq_true rfl)) d_AM_canBeSaid_44 ⟨Nat.le_of_ble_eq_true rfl, Nat.le_of_ble_eq_true rfl⟩) (fun H locs hP hD hS => ?_)
      have hP : va_P (dC, dI) vwCl (([] : va_W)) H := hP
      have hD : va_D A (([] : va_W)) := hD
      refine lv_if_eq (tgt := 72) hx hb d_AM_canBeSaid_47 (by decide) (fun hc => ?_) (fun hc => ?_)
      · replace hm := if_t hm hc
        refine lv_iconst (v := (0 : Int32)) hx hb d_AM_canBeSaid_72 (by decide) ?_
        obtain rfl := Option.some.inj hm
        rw [hQ]
        exact krz hx hb hr nar_0 hlocks hAe hP hK hD hS d_AM_canBeSaid_73
      · replace hm := if_f hm hc
        refine lv_iload_n hx hb d_AM_canBeSaid_50 rfl (lv_at hl 3 rfl) ?_
        obtain ⟨r51, hcl, hm⟩ := bn1_s hm
        refine kci (wc := ([] : va_W)) (wr := ([] : va_W)) (w1 := ([] : va_W)) hP hD hS hA [] [] rfl rfl (by decide) (by decide) (va_runS (As := [.int a4]) (rest := []) ⟨hx, hb, hml, hown, hts⟩ (c_AM_isSayable hG hGn l dC dI g F H.size a4 hcl) (cwS 1 hts (gdS k3_199 k3_200 k1_1 k3_201) rfl rfl rfl (by decide +kernel) ⟨Nat.le_of_ble_eq_true rfl, Nat.le_of_ble_eq_true rfl⟩) (kpS hG hP hK hD hS hA hGA [] (by decide) rfl) rfl rfl hl.1 rfl (lv_room (Nat.le_of_ble_eq_true rfl)) d_AM_canBeSaid_51 ⟨Nat.le_of_ble_eq_true rfl, Nat.le_of_ble_eq_true rfl⟩) (fun H locs hP hD hS => ?_)
        have hP : va_P (dC, dI) vwCl (([] : va_W)) H := hP
        have hD : va_D A (([] : va_W)) := hD
        refine lv_if_eq (tgt := 72) hx hb d_AM_canBeSaid_54 (by decide) (fun hc => ?_) (fun hc => ?_)
        · replace hm := if_t hm hc
          refine lv_iconst (v := (0 : Int32)) hx hb d_AM_canBeSaid_72 (by decide) ?_
          obtain rfl := Option.some.inj hm
          rw [hQ]
          exact krz hx hb hr nar_0 hlocks hAe hP hK hD hS d_AM_canBeSaid_73
        · replace hm := if_f hm hc
          refine lv_iload hx hb d_AM_canBeSaid_57 (lv_at hl 4 rfl) ?_
          refine lv_iconst (v := (1 : Int32)) hx hb d_AM_canBeSaid_59 (by decide) ?_
          refine lv_bipush (v := (12 : Int32)) hx hb d_AM_canBeSaid_60 (by decide) ?_
          obtain ⟨r62, hcl, hm⟩ := bn1_s hm
          refine kci (wc := ([] : va_W)) (wr := ([] : va_W)) (w1 := ([] : va_W)) hP hD hS hA [] [] rfl rfl (by decide) (by decide) (va_runS (As := [.int a5, .int (1 : Int32), .int (12 : Int32)]) (rest := []) ⟨hx, hb, hml, hown, hts⟩ (c_AM_isWithin hG hGn l dC dI g F H.size a5 (1 : Int32) (12 : Int32) hcl) (cwS 3 hts (gdS k3_101 k2_153 k1_1 k2_154) rfl rfl rfl (by decide +kernel) ⟨Nat.le_of_ble_eq_true rfl, Nat.le_of_ble_eq_true rfl⟩) (kpS hG hP hK hD hS hA hGA [] (by decide) rfl) rfl rfl hl.1 rfl (lv_room (Nat.le_of_ble_eq_true rfl)) d_AM_canBeSaid_62 ⟨Nat.le_of_ble_eq_true rfl, Nat.le_of_ble_eq_true rfl⟩) (fun H locs hP hD hS => ?_)
          have hP : va_P (dC, dI) vwCl (([] : va_W)) H := hP
          have hD : va_D A (([] : va_W)) := hD
          refine lv_if_eq (tgt := 72) hx hb d_AM_canBeSaid_65 (by decide) (fun hc => ?_) (fun hc => ?_)
          · replace hm := if_t hm hc
            refine lv_iconst (v := (0 : Int32)) hx hb d_AM_canBeSaid_72 (by decide) ?_
            obtain rfl := Option.some.inj hm
            rw [hQ]
            exact krz hx hb hr nar_0 hlocks hAe hP hK hD hS d_AM_canBeSaid_73
          · replace hm := if_f hm hc
            refine lv_iconst (v := (1 : Int32)) hx hb d_AM_canBeSaid_68 (by decide) ?_
            refine lv_goto (tgt := 73) hx hb d_AM_canBeSaid_69 (by decide) ?_
            obtain rfl := Option.some.inj hm
            rw [hQ]
            exact krz hx hb hr nar_1 hlocks hAe hP hK hD hS d_AM_canBeSaid_73
  · replace hm := if_f hm hc0
    by_cases hc1 : a1 = (1 : Int32)
    · replace hm := if_t hm hc1
      refine lv_tableIn (tgt := 74) hx hb d_AM_canBeSaid_1 (by rw [hc1]; decide) (by rw [hc1]; decide) (by rw [hc1]; rfl) (by decide) ?_
      refine lv_iload_n hx hb d_AM_canBeSaid_74 rfl (lv_at hl 1 rfl) ?_
      obtain ⟨r75, hcl, hm⟩ := bn1_s hm
      refine kci (wc := ([] : va_W)) (wr := ([] : va_W)) (w1 := ([] : va_W)) hP hD hS hA [] [] rfl rfl (by decide) (by decide) (va_runS (As := [.int a2]) (rest := []) ⟨hx, hb, hml, hown, hts⟩ (c_AM_isSayable hG hGn l dC dI g F H.size a2 hcl) (cwS 1 hts (gdS k3_199 k3_200 k1_1 k3_201) rfl rfl rfl (by decide +kernel) ⟨Nat.le_of_ble_eq_true rfl, Nat.le_of_ble_eq_true rfl⟩) (kpS hG hP hK hD hS hA hGA [] (by decide) rfl) rfl rfl hl.1 rfl (lv_room (Nat.le_of_ble_eq_true rfl)) d_AM_canBeSaid_75 ⟨Nat.le_of_ble_eq_true rfl, Nat.le_of_ble_eq_true rfl⟩) (fun H locs hP hD hS => ?_)
      have hP : va_P (dC, dI) vwCl (([] : va_W)) H := hP
      have hD : va_D A (([] : va_W)) := hD
      refine lv_if_eq (tgt := 107) hx hb d_AM_canBeSaid_78 (by decide) (fun hc => ?_) (fun hc => ?_)
      · replace hm := if_t hm hc
        refine lv_iconst (v := (0 : Int32)) hx hb d_AM_canBeSaid_107 (by decide) ?_
        obtain rfl := Option.some.inj hm
        rw [hQ]
        exact krz hx hb hr nar_0 hlocks hAe hP hK hD hS d_AM_canBeSaid_108
      · replace hm := if_f hm hc
        refine lv_iload_n hx hb d_AM_canBeSaid_81 rfl (lv_at hl 2 rfl) ?_
        obtain ⟨r82, hcl, hm⟩ := bn1_s hm
        refine kci (wc := ([] : va_W)) (wr := ([] : va_W)) (w1 := ([] : va_W)) hP hD hS hA [] [] rfl rfl (by decide) (by decide) (va_runS (As := [.int a3]) (rest := []) ⟨hx, hb, hml, hown, hts⟩ (c_AM_isSayable hG hGn l dC dI g F H.size a3 hcl) (cwS 1 hts (gdS k3_199 k3_200 k1_1 k3_201) rfl rfl rfl (by decide +kernel) ⟨Nat.le_of_ble_eq_true rfl, Nat.le_of_ble_eq_true rfl⟩) (kpS hG hP hK hD hS hA hGA [] (by decide) rfl) rfl rfl hl.1 rfl (lv_room (Nat.le_of_ble_eq_true rfl)) d_AM_canBeSaid_82 ⟨Nat.le_of_ble_eq_true rfl, Nat.le_of_ble_eq_true rfl⟩) (fun H locs hP hD hS => ?_)
        have hP : va_P (dC, dI) vwCl (([] : va_W)) H := hP
        have hD : va_D A (([] : va_W)) := hD
        refine lv_if_eq (tgt := 107) hx hb d_AM_canBeSaid_85 (by decide) (fun hc => ?_) (fun hc => ?_)
        · replace hm := if_t hm hc
          refine lv_iconst (v := (0 : Int32)) hx hb d_AM_canBeSaid_107 (by decide) ?_
          obtain rfl := Option.some.inj hm
          rw [hQ]
          exact krz hx hb hr nar_0 hlocks hAe hP hK hD hS d_AM_canBeSaid_108
        · replace hm := if_f hm hc
          refine lv_iload_n hx hb d_AM_canBeSaid_88 rfl (lv_at hl 3 rfl) ?_
          obtain ⟨r89, hcl, hm⟩ := bn1_s hm
          refine kci (wc := ([] : va_W)) (wr := ([] : va_W)) (w1 := ([] : va_W)) hP hD hS hA [] [] rfl rfl (by decide) (by decide) (va_runS (As := [.int a4]) (rest := []) ⟨hx, hb, hml, hown, hts⟩ (c_AM_isSayable hG hGn l dC dI g F H.size a4 hcl) (cwS 1 hts (gdS k3_199 k3_200 k1_1 k3_201) rfl rfl rfl (by decide +kernel) ⟨Nat.le_of_ble_eq_true rfl, Nat.le_of_ble_eq_true rfl⟩) (kpS hG hP hK hD hS hA hGA [] (by decide) rfl) rfl rfl hl.1 rfl (lv_room (Nat.le_of_ble_eq_true rfl)) d_AM_canBeSaid_89 ⟨Nat.le_of_ble_eq_true rfl, Nat.le_of_ble_eq_true rfl⟩) (fun H locs hP hD hS => ?_)
          have hP : va_P (dC, dI) vwCl (([] : va_W)) H := hP
          have hD : va_D A (([] : va_W)) := hD
          refine lv_if_eq (tgt := 107) hx hb d_AM_canBeSaid_92 (by decide) (fun hc => ?_) (fun hc => ?_)
          · replace hm := if_t hm hc
            refine lv_iconst (v := (0 : Int32)) hx hb d_AM_canBeSaid_107 (by decide) ?_
            obtain rfl := Option.some.inj hm
            rw [hQ]
            exact krz hx hb hr nar_0 hlocks hAe hP hK hD hS d_AM_canBeSaid_108
          · replace hm := if_f hm hc
            refine lv_iload hx hb d_AM_canBeSaid_95 (lv_at hl 4 rfl) ?_
            obtain ⟨r97, hcl, hm⟩ := bn1_s hm
            refine kci (wc := ([] : va_W)) (wr := ([] : va_W)) (w1 := ([] : va_W)) hP hD hS hA [] [] rfl rfl (by decide) (by decide) (va_runS (As := [.int a5]) (rest := []) ⟨hx, hb, hml, hown, hts⟩ (c_AM_isSayable hG hGn l dC dI g F H.size a5 hcl) (cwS 1 hts (gdS k3_199 k3_200 k1_1 k3_201) rfl rfl rfl (by decide +kernel) ⟨Nat.le_of_ble_eq_true rfl, Nat.le_of_ble_eq_true rfl⟩) (kpS hG hP hK hD hS hA hGA [] (by decide) rfl) rfl rfl hl.1 rfl (lv_room (Nat.le_of_ble_eq_true rfl)) d_AM_canBeSaid_97 ⟨Nat.le_of_ble_eq_true rfl, Nat.le_of_ble_eq_true rfl⟩) (fun H locs hP hD hS => ?_)
            have hP : va_P (dC, dI) vwCl (([] : va_W)) H := hP
            have hD : va_D A (([] : va_W)) := hD
            refine lv_if_eq (tgt := 107) hx hb d_AM_canBeSaid_100 (by decide) (fun hc => ?_) (fun hc => ?_)
            · replace hm := if_t hm hc
              refine lv_iconst (v := (0 : Int32)) hx hb d_AM_canBeSaid_107 (by decide) ?_
              obtain rfl := Option.some.inj hm
              rw [hQ]
              exact krz hx hb hr nar_0 hlocks hAe hP hK hD hS d_AM_canBeSaid_108
            · replace hm := if_f hm hc
              refine lv_iconst (v := (1 : Int32)) hx hb d_AM_canBeSaid_103 (by decide) ?_
              refine lv_goto (tgt := 108) hx hb d_AM_canBeSaid_104 (by decide) ?_
              obtain rfl := Option.some.inj hm
              rw [hQ]
              exact krz hx hb hr nar_1 hlocks hAe hP hK hD hS d_AM_canBeSaid_108
    · replace hm := if_f hm hc1
      by_cases hc2 : a1 = (2 : Int32)
      · replace hm := if_t hm hc2
        refine lv_tableIn (tgt := 109) hx hb d_AM_canBeSaid_1 (by rw [hc2]; decide) (by rw [hc2]; decide) (by rw [hc2]; rfl) (by decide) ?_
        refine lv_iload_n hx hb d_AM_canBeSaid_109 rfl (lv_at hl 1 rfl) ?_
        obtain ⟨r110, hcl, hm⟩ := bn1_s hm
        refine kci (wc := ([] : va_W)) (wr := ([] : va_W)) (w1 := ([] : va_W)) hP hD hS hA [] [] rfl rfl (by decide) (by decide) (va_runS (As := [.int a2]) (rest := []) ⟨hx, hb, hml, hown, hts⟩ (c_AM_isSayable hG hGn l dC dI g F H.size a2 hcl) (cwS 1 hts (gdS k3_199 k3_200 k1_1 k3_201) rfl rfl rfl (by decide +kernel) ⟨Nat.le_of_ble_eq_true rfl, Nat.le_of_ble_eq_true rfl⟩) (kpS hG hP hK hD hS hA hGA [] (by decide) rfl) rfl rfl hl.1 rfl (lv_room (Nat.le_of_ble_eq_true rfl)) d_AM_canBeSaid_110 ⟨Nat.le_of_ble_eq_true rfl, Nat.le_of_ble_eq_true rfl⟩) (fun H locs hP hD hS => ?_)
        have hP : va_P (dC, dI) vwCl (([] : va_W)) H := hP
        have hD : va_D A (([] : va_W)) := hD
        refine lv_if_eq (tgt := 127) hx hb d_AM_canBeSaid_113 (by decide) (fun hc => ?_) (fun hc => ?_)
        · replace hm := if_t hm hc
          refine lv_iconst (v := (0 : Int32)) hx hb d_AM_canBeSaid_127 (by decide) ?_
          obtain rfl := Option.some.inj hm
          rw [hQ]
          exact krz hx hb hr nar_0 hlocks hAe hP hK hD hS d_AM_canBeSaid_128
        · replace hm := if_f hm hc
          refine lv_iload_n hx hb d_AM_canBeSaid_116 rfl (lv_at hl 2 rfl) ?_
          obtain ⟨r117, hcl, hm⟩ := bn1_s hm
          refine kci (wc := ([] : va_W)) (wr := ([] : va_W)) (w1 := ([] : va_W)) hP hD hS hA [] [] rfl rfl (by decide) (by decide) (va_runS (As := [.int a3]) (rest := []) ⟨hx, hb, hml, hown, hts⟩ (c_AM_isSayable hG hGn l dC dI g F H.size a3 hcl) (cwS 1 hts (gdS k3_199 k3_200 k1_1 k3_201) rfl rfl rfl (by decide +kernel) ⟨Nat.le_of_ble_eq_true rfl, Nat.le_of_ble_eq_true rfl⟩) (kpS hG hP hK hD hS hA hGA [] (by decide) rfl) rfl rfl hl.1 rfl (lv_room (Nat.le_of_ble_eq_true rfl)) d_AM_canBeSaid_117 ⟨Nat.le_of_ble_eq_true rfl, Nat.le_of_ble_eq_true rfl⟩) (fun H locs hP hD hS => ?_)
          have hP : va_P (dC, dI) vwCl (([] : va_W)) H := hP
          have hD : va_D A (([] : va_W)) := hD
          refine lv_if_eq (tgt := 127) hx hb d_AM_canBeSaid_120 (by decide) (fun hc => ?_) (fun hc => ?_)
          · replace hm := if_t hm hc
            refine lv_iconst (v := (0 : Int32)) hx hb d_AM_canBeSaid_127 (by decide) ?_
            obtain rfl := Option.some.inj hm
            rw [hQ]
            exact krz hx hb hr nar_0 hlocks hAe hP hK hD hS d_AM_canBeSaid_128
          · replace hm := if_f hm hc
            refine lv_iconst (v := (1 : Int32)) hx hb d_AM_canBeSaid_123 (by decide) ?_
            refine lv_goto (tgt := 128) hx hb d_AM_canBeSaid_124 (by decide) ?_
            obtain rfl := Option.some.inj hm
            rw [hQ]
            exact krz hx hb hr nar_1 hlocks hAe hP hK hD hS d_AM_canBeSaid_128
      · replace hm := if_f hm hc2
        by_cases hc3 : a1 = (3 : Int32)
        · replace hm := if_t hm hc3
          refine lv_tableIn (tgt := 129) hx hb d_AM_canBeSaid_1 (by rw [hc3]; decide) (by rw [hc3]; decide) (by rw [hc3]; rfl) (by decide) ?_
          refine lv_iload_n hx hb d_AM_canBeSaid_129 rfl (lv_at hl 1 rfl) ?_
          obtain ⟨r130, hcl, hm⟩ := bn1_s hm
          refine kci (wc := ([] : va_W)) (wr := ([] : va_W)) (w1 := ([] : va_W)) hP hD hS hA [] [] rfl rfl (by decide) (by decide) (va_runS (As := [.int a2]) (rest := []) ⟨hx, hb, hml, hown, hts⟩ (c_AM_isSayable hG hGn l dC dI g F H.size a2 hcl) (cwS 1 hts (gdS k3_199 k3_200 k1_1 k3_201) rfl rfl rfl (by decide +kernel) ⟨Nat.le_of_ble_eq_true rfl, Nat.le_of_ble_eq_true rfl⟩) (kpS hG hP hK hD hS hA hGA [] (by decide) rfl) rfl rfl hl.1 rfl (lv_room (Nat.le_of_ble_eq_true rfl)) d_AM_canBeSaid_130 ⟨Nat.le_of_ble_eq_true rfl, Nat.le_of_ble_eq_true rfl⟩) (fun H locs hP hD hS => ?_)
          have hP : va_P (dC, dI) vwCl (([] : va_W)) H := hP
          have hD : va_D A (([] : va_W)) := hD
          refine lv_if_eq (tgt := 154) hx hb d_AM_canBeSaid_133 (by decide) (fun hc => ?_) (fun hc => ?_)
          · replace hm := if_t hm hc
            refine lv_iconst (v := (0 : Int32)) hx hb d_AM_canBeSaid_154 (by decide) ?_
            obtain rfl := Option.some.inj hm
            rw [hQ]
            exact krz hx hb hr nar_0 hlocks hAe hP hK hD hS d_AM_canBeSaid_155
          · replace hm := if_f hm hc
            refine lv_iload_n hx hb d_AM_canBeSaid_136 rfl (lv_at hl 2 rfl) ?_
            obtain ⟨r137, hcl, hm⟩ := bn1_s hm
            refine kci (wc := ([] : va_W)) (wr := ([] : va_W)) (w1 := ([] : va_W)) hP hD hS hA [] [] rfl rfl (by decide) (by decide) (va_runS (As := [.int a3]) (rest := []) ⟨hx, hb, hml, hown, hts⟩ (c_AM_isSayable hG hGn l dC dI g F H.size a3 hcl) (cwS 1 hts (gdS k3_199 k3_200 k1_1 k3_201) rfl rfl rfl (by decide +kernel) ⟨Nat.le_of_ble_eq_true rfl, Nat.le_of_ble_eq_true rfl⟩) (kpS hG hP hK hD hS hA hGA [] (by decide) rfl) rfl rfl hl.1 rfl (lv_room (Nat.le_of_ble_eq_true rfl)) d_AM_canBeSaid_137 ⟨Nat.le_of_ble_eq_true rfl, Nat.le_of_ble_eq_true rfl⟩) (fun H locs hP hD hS => ?_)
            have hP : va_P (dC, dI) vwCl (([] : va_W)) H := hP
            have hD : va_D A (([] : va_W)) := hD
            refine lv_if_eq (tgt := 154) hx hb d_AM_canBeSaid_140 (by decide) (fun hc => ?_) (fun hc => ?_)
            · replace hm := if_t hm hc
              refine lv_iconst (v := (0 : Int32)) hx hb d_AM_canBeSaid_154 (by decide) ?_
              obtain rfl := Option.some.inj hm
              rw [hQ]
              exact krz hx hb hr nar_0 hlocks hAe hP hK hD hS d_AM_canBeSaid_155
            · replace hm := if_f hm hc
              refine lv_iload_n hx hb d_AM_canBeSaid_143 rfl (lv_at hl 3 rfl) ?_
              obtain ⟨r144, hcl, hm⟩ := bn1_s hm
              refine kci (wc := ([] : va_W)) (wr := ([] : va_W)) (w1 := ([] : va_W)) hP hD hS hA [] [] rfl rfl (by decide) (by decide) (va_runS (As := [.int a4]) (rest := []) ⟨hx, hb, hml, hown, hts⟩ (c_AM_isSayable hG hGn l dC dI g F H.size a4 hcl) (cwS 1 hts (gdS k3_199 k3_200 k1_1 k3_201) rfl rfl rfl (by decide +kernel) ⟨Nat.le_of_ble_eq_true rfl, Nat.le_of_ble_eq_true rfl⟩) (kpS hG hP hK hD hS hA hGA [] (by decide) rfl) rfl rfl hl.1 rfl (lv_room (Nat.le_of_ble_eq_true rfl)) d_AM_canBeSaid_144 ⟨Nat.le_of_ble_eq_true rfl, Nat.le_of_ble_eq_true rfl⟩) (fun H locs hP hD hS => ?_)
              have hP : va_P (dC, dI) vwCl (([] : va_W)) H := hP
              have hD : va_D A (([] : va_W)) := hD
              refine lv_if_eq (tgt := 154) hx hb d_AM_canBeSaid_147 (by decide) (fun hc => ?_) (fun hc => ?_)
              · replace hm := if_t hm hc
                refine lv_iconst (v := (0 : Int32)) hx hb d_AM_canBeSaid_154 (by decide) ?_
                obtain rfl := Option.some.inj hm
                rw [hQ]
                exact krz hx hb hr nar_0 hlocks hAe hP hK hD hS d_AM_canBeSaid_155
              · replace hm := if_f hm hc
                refine lv_iconst (v := (1 : Int32)) hx hb d_AM_canBeSaid_150 (by decide) ?_
                refine lv_goto (tgt := 155) hx hb d_AM_canBeSaid_151 (by decide) ?_
                obtain rfl := Option.some.inj hm
                rw [hQ]
                exact krz hx hb hr nar_1 hlocks hAe hP hK hD hS d_AM_canBeSaid_155
        · replace hm := if_f hm hc3
          by_cases hc4 : a1 = (4 : Int32)
          · replace hm := if_t hm hc4
            refine lv_tableIn (tgt := 156) hx hb d_AM_canBeSaid_1 (by rw [hc4]; decide) (by rw [hc4]; decide) (by rw [hc4]; rfl) (by decide) ?_
            refine lv_iload_n hx hb d_AM_canBeSaid_156 rfl (lv_at hl 1 rfl) ?_
            obtain ⟨r157, hcl, hm⟩ := bn1_s hm
            refine kci (wc := ([] : va_W)) (wr := ([] : va_W)) (w1 := ([] : va_W)) hP hD hS hA [] [] rfl rfl (by decide) (by decide) (va_runS (As := [.int a2]) (rest := []) ⟨hx, hb, hml, hown, hts⟩ (c_AM_isSayable hG hGn l dC dI g F H.size a2 hcl) (cwS 1 hts (gdS k3_199 k3_200 k1_1 k3_201) rfl rfl rfl (by decide +kernel) ⟨Nat.le_of_ble_eq_true rfl, Nat.le_of_ble_eq_true rfl⟩) (kpS hG hP hK hD hS hA hGA [] (by decide) rfl) rfl rfl hl.1 rfl (lv_room (Nat.le_of_ble_eq_true rfl)) d_AM_canBeSaid_157 ⟨Nat.le_of_ble_eq_true rfl, Nat.le_of_ble_eq_true rfl⟩) (fun H locs hP hD hS => ?_)
            have hP : va_P (dC, dI) vwCl (([] : va_W)) H := hP
            have hD : va_D A (([] : va_W)) := hD
            obtain ⟨hz, hm⟩ := ckb_s hm
            obtain rfl := Option.some.inj hm
            rw [hQ]
            exact krz hx hb hr hz hlocks hAe hP hK hD hS d_AM_canBeSaid_160
          · replace hm := if_f hm hc4
            refine lv_tableOut (tgt := 161) hx hb d_AM_canBeSaid_1 (sw_out (lo := 0) (n := 5) (by decide) (fun k hk => by rcases (show k = 0 ∨ k = 1 ∨ k = 2 ∨ k = 3 ∨ k = 4 by omega) with rfl | rfl | rfl | rfl | rfl <;> assumption)) (by decide) ?_
            refine lv_iconst (v := (0 : Int32)) hx hb d_AM_canBeSaid_161 (by decide) ?_
            obtain rfl := Option.some.inj hm
            rw [hQ]
            exact krz hx hb hr nar_0 hlocks hAe hP hK hD hS d_AM_canBeSaid_162

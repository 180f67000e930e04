abbrev b_Words_number : ByteArray := prog_9_method_2_code
abbrev y_Words_number : MethodName := ⟨"AlarmMatrix$Words", "number", "()I"⟩
theorem d_Words_number_0 : decode b_Words_number 0 = .ok (.aload_n 0, 1) := by decide +kernel
theorem d_Words_number_1 : decode b_Words_number 1 = .ok (.getfield 18, 3) := by decide +kernel
theorem d_Words_number_4 : decode b_Words_number 4 = .ok (.ireturn, 1) := by decide +kernel
def m_Words_number (F : Nat) (x0 : St) : Option (Int32) :=
  (some (x0 3 0))
abbrev rm_Words_number : Room := { frames := 0, cells := 0, slots := 0, locals := 0 }
set_option maxHeartbeats 4000000 in
set_option maxRecDepth 100000 in
theorem c_Words_number {G : (Nat → Prop) → State → Prop} (hG : gok G) (hGn : gN G) (l : Launch) (dC : Nat → ClassId) (dI : Nat → Nat → Nat) (g : Nat → ClassId) (F : Nat) (sz : Nat) (h0 : Nat) (q0 : Nat → Nat) (x0 : St) {o : Int32} (hm : m_Words_number F x0 = some o) : Met l y_Words_number (.code y_Words_number b_Words_number 1 (some .int) :: gw) rm_Words_number (kq (dC, dI) vwCl (tyv g) G [.ref h0] sz (wd_Words g h0 q0 x0)) (kqi (dC, dI) vwCl (tyv g) (wd_Words g h0 q0 x0) o (wd_Words g h0 q0 x0) sz) 0 0 (va_A (wd_Words g h0 q0 x0) sz) := by
  unfold m_Words_number at hm
  refine km (Qc := fun sz => kqi (dC, dI) vwCl (tyv g) (wd_Words g h0 q0 x0) o (wd_Words g h0 q0 x0) sz) (cc := b_Words_number) (maxL := 1) (ret := some .int) (by decide) rfl (Nat.le_of_ble_eq_true rfl) ?_
  intro p e s m args below meth c Q hQ hx hb hr hts hown hlocks hml hnm H locs A hAe hA hP hK hD hS hGA ls hl
  have hl : lv_has ls 1 [(0, .ref h0)] := hl
  have hts : ∀ w ∈ gw, w.before args s = true := fun w h => hts w (List.mem_cons_of_mem _ h)
  have hown : s.vm.findClass "AlarmMatrix$Words" = some m.cls := hown
  refine lv_aload_n hx hb d_Words_number_0 rfl (lv_at hl 0 rfl) ?_
  refine va_get (D := (dC, dI)) (ci := 2) (v := .int (x0 3 0)) (C := "AlarmMatrix$Words") (T := T_Words) (N := 4) hx hb hts i_Words hown hK hP 0 rfl rfl 3 (by decide) (hts _ k2_24) (fun _ h9 => h9) rfl d_Words_number_1 ?_
  obtain rfl := Option.some.inj hm
  rw [hQ]
  exact kri hx hb hr hlocks hAe hP hK hD hS d_Words_number_4
abbrev b_Words_isBehindLast : ByteArray := prog_9_method_3_code
abbrev y_Words_isBehindLast : MethodName := ⟨"AlarmMatrix$Words", "isBehindLast", "()Z"⟩
theorem d_Words_isBehindLast_0 : decode b_Words_isBehindLast 0 = .ok (.aload_n 0, 1) := by decide +kernel
theorem d_Words_isBehindLast_1 : decode b_Words_isBehindLast 1 = .ok (.getfield 9, 3) := by decide +kernel
theorem d_Words_isBehindLast_4 : decode b_Words_isBehindLast 4 = .ok (.aload_n 0, 1) := by decide +kernel
theorem d_Words_isBehindLast_5 : decode b_Words_isBehindLast 5 = .ok (.getfield 21, 3) := by decide +kernel
theorem d_Words_isBehindLast_8 : decode b_Words_isBehindLast 8 = .ok (.invokevirtual 25, 3) := by decide +kernel
theorem d_Words_isBehindLast_11 : decode b_Words_isBehindLast 11 = .ok (.if_icmp .lt 7, 3) := by decide +kernel
theorem d_Words_isBehindLast_14 : decode b_Words_isBehindLast 14 = .ok (.iconst 1, 1) := by decide +kernel
theorem d_Words_isBehindLast_15 : decode b_Words_isBehindLast 15 = .ok (.goto 4, 3) := by decide +kernel
theorem d_Words_isBehindLast_18 : decode b_Words_isBehindLast 18 = .ok (.iconst 0, 1) := by decide +kernel
theorem d_Words_isBehindLast_19 : decode b_Words_isBehindLast 19 = .ok (.ireturn, 1) := by decide +kernel
def m_Words_isBehindLast (F : Nat) (x0 : St) (x1 : St) : Option (Int32) :=
  (bn1 (m_Text_size F x1) (fun r8 => (if (x0 1 0) < r8 then (some (0 : Int32)) else (some (1 : Int32)))))
abbrev rm_Words_isBehindLast : Room := { frames := 1, cells := 0, slots := 0, locals := 20 }
set_option maxHeartbeats 4000000 in
set_option maxRecDepth 100000 in
theorem c_Words_isBehindLast {G : (Nat → Prop) → State → Prop} (hG : gok G) (hGn : gN G) (l : Launch) (dC : Nat → ClassId) (dI : Nat → Nat → Nat) (g : Nat → ClassId) (F : Nat) (sz : Nat) (h0 : Nat) (q0 : Nat → Nat) (x0 : St) (q1 : Nat → Nat) (x1 : St) {o : Int32} (hm : m_Words_isBehindLast F x0 x1 = some o) : Met l y_Words_isBehindLast (.code y_Words_isBehindLast b_Words_isBehindLast 1 (some .boolean) :: gw) rm_Words_isBehindLast (kq (dC, dI) vwCl (tyv g) G [.ref h0] sz (wd_Words g h0 q0 x0 ++ wd_Text g (q0 0) q1 x1)) (kqi (dC, dI) vwCl (tyv g) (wd_Words g h0 q0 x0 ++ wd_Text g (q0 0) q1 x1) o (wd_Words g h0 q0 x0 ++ wd_Text g (q0 0) q1 x1) sz) 0 0 (va_A (wd_Words g h0 q0 x0 ++ wd_Text g (q0 0) q1 x1) sz) := by
  unfold m_Words_isBehindLast at hm
  refine km (Qc := fun sz => kqi (dC, dI) vwCl (tyv g) (wd_Words g h0 q0 x0 ++ wd_Text g (q0 0) q1 x1) o (wd_Words g h0 q0 x0 ++ wd_Text g (q0 0) q1 x1) sz) (cc := b_Words_isBehindLast) (maxL := 1) (ret := some .boolean) (by decide) rfl (Nat.le_of_ble_eq_true rfl) ?_
  intro p e s m args below meth c Q hQ hx hb hr hts hown hlocks hml hnm H locs A hAe hA hP hK hD hS hGA ls hl
  have hl : lv_has ls 1 [(0, .ref h0)] := hl
  have hts : ∀ w ∈ gw, w.before args s = true := fun w h => hts w (List.mem_cons_of_mem _ h)
  have hown : s.vm.findClass "AlarmMatrix$Words" = some m.cls := hown
  refine lv_aload_n hx hb d_Words_isBehindLast_0 rfl (lv_at hl 0 rfl) ?_
  refine va_get (D := (dC, dI)) (ci := 2) (v := .int (x0 1 0)) (C := "AlarmMatrix$Words") (T := T_Words) (N := 4) hx hb hts i_Words hown hK hP 0 rfl rfl 1 (by decide) (hts _ k2_22) (fun _ h9 => h9) rfl d_Words_isBehindLast_1 ?_
  refine lv_aload_n hx hb d_Words_isBehindLast_4 rfl (lv_at hl 0 rfl) ?_
  refine va_get (D := (dC, dI)) (ci := 2) (v := .ref (q0 0)) (C := "AlarmMatrix$Words") (T := T_Words) (N := 4) hx hb hts i_Words hown hK hP 0 rfl rfl 0 (by decide) (hts _ k2_21) (fun _ h9 => h9) rfl d_Words_isBehindLast_5 ?_
  obtain ⟨r8, hcl, hm⟩ := bn1_s hm
  refine kci (wc := wd_Text g (q0 0) q1 x1) (wr := wd_Words g h0 q0 x0) (w1 := wd_Text g (q0 0) q1 x1) hP hD hS hA [1, 2, 3] [0] rfl rfl (by decide) (by decide) (va_runV (As := []) (rest := [.int (x0 1 0)]) ⟨hx, hb, hml, hown, hts⟩ (c_Text_size hG hGn l dC dI g F H.size (q0 0) q1 x1 hcl) (cwV 0 hts (gdV k2_67 k2_68 k2_69 k1_2 k2_70) rfl rfl rfl (by decide +kernel) ⟨Nat.le_of_ble_eq_true rfl, Nat.le_of_ble_eq_true rfl⟩) (kpV hG hP hK hD hS hA hGA [1, 2, 3] (by decide) rfl (ci := 1) (q0 := 0) rfl rfl rfl) rfl rfl hl.1 rfl (lv_room (Nat.le_of_ble_eq_true rfl)) d_Words_isBehindLast_8 ⟨Nat.le_of_ble_eq_true rfl, Nat.le_of_ble_eq_true rfl⟩) (fun H locs hP hD hS => ?_)
  have hP : va_P (dC, dI) vwCl (wd_Words g h0 q0 x0 ++ wd_Text g (q0 0) q1 x1) H := hP
  have hD : va_D A (wd_Words g h0 q0 x0 ++ wd_Text g (q0 0) q1 x1) := hD
  refine lv_icmp_lt (tgt := 18) hx hb d_Words_isBehindLast_11 (by decide) (fun hc => ?_) (fun hc => ?_)
  · replace hm := if_t hm hc
    refine lv_iconst (v := (0 : Int32)) hx hb d_Words_isBehindLast_18 (by decide) ?_
    obtain rfl := Option.some.inj hm
    rw [hQ]
    exact krz hx hb hr nar_0 hlocks hAe hP hK hD hS d_Words_isBehindLast_19
  · replace hm := if_f hm hc
    refine lv_iconst (v := (1 : Int32)) hx hb d_Words_isBehindLast_14 (by decide) ?_
    refine lv_goto (tgt := 19) hx hb d_Words_isBehindLast_15 (by decide) ?_
    obtain rfl := Option.some.inj hm
    rw [hQ]
    exact krz hx hb hr nar_1 hlocks hAe hP hK hD hS d_Words_isBehindLast_19
abbrev b_Words_kindOf : ByteArray := prog_9_method_9_code
abbrev y_Words_kindOf : MethodName := ⟨"AlarmMatrix$Words", "kindOf", "(C)I"⟩
theorem d_Words_kindOf_0 : decode b_Words_kindOf 0 = .ok (.iload_n 0, 1) := by decide +kernel
theorem d_Words_kindOf_1 : decode b_Words_kindOf 1 = .ok (.bipush 32, 2) := by decide +kernel
theorem d_Words_kindOf_3 : decode b_Words_kindOf 3 = .ok (.if_icmp .eq 9, 3) := by decide +kernel
theorem d_Words_kindOf_6 : decode b_Words_kindOf 6 = .ok (.iload_n 0, 1) := by decide +kernel
theorem d_Words_kindOf_7 : decode b_Words_kindOf 7 = .ok (.bipush 10, 2) := by decide +kernel
theorem d_Words_kindOf_9 : decode b_Words_kindOf 9 = .ok (.if_icmp .ne 5, 3) := by decide +kernel
theorem d_Words_kindOf_12 : decode b_Words_kindOf 12 = .ok (.iconst 0, 1) := by decide +kernel
theorem d_Words_kindOf_13 : decode b_Words_kindOf 13 = .ok (.ireturn, 1) := by decide +kernel
theorem d_Words_kindOf_14 : decode b_Words_kindOf 14 = .ok (.iload_n 0, 1) := by decide +kernel
theorem d_Words_kindOf_15 : decode b_Words_kindOf 15 = .ok (.bipush 97, 2) := by decide +kernel
theorem d_Words_kindOf_17 : decode b_Words_kindOf 17 = .ok (.if_icmp .lt 11, 3) := by decide +kernel
theorem d_Words_kindOf_20 : decode b_Words_kindOf 20 = .ok (.iload_n 0, 1) := by decide +kernel
theorem d_Words_kindOf_21 : decode b_Words_kindOf 21 = .ok (.bipush 122, 2) := by decide +kernel
theorem d_Words_kindOf_23 : decode b_Words_kindOf 23 = .ok (.if_icmp .gt 5, 3) := by decide +kernel
theorem d_Words_kindOf_26 : decode b_Words_kindOf 26 = .ok (.iconst 1, 1) := by decide +kernel
theorem d_Words_kindOf_27 : decode b_Words_kindOf 27 = .ok (.ireturn, 1) := by decide +kernel
theorem d_Words_kindOf_28 : decode b_Words_kindOf 28 = .ok (.iload_n 0, 1) := by decide +kernel
theorem d_Words_kindOf_29 : decode b_Words_kindOf 29 = .ok (.bipush 48, 2) := by decide +kernel
theorem d_Words_kindOf_31 : decode b_Words_kindOf 31 = .ok (.if_icmp .lt 13, 3) := by decide +kernel
theorem d_Words_kindOf_34 : decode b_Words_kindOf 34 = .ok (.iload_n 0, 1) := by decide +kernel
theorem d_Words_kindOf_35 : decode b_Words_kindOf 35 = .ok (.bipush 57, 2) := by decide +kernel
theorem d_Words_kindOf_37 : decode b_Words_kindOf 37 = .ok (.if_icmp .gt 7, 3) := by decide +kernel
theorem d_Words_kindOf_40 : decode b_Words_kindOf 40 = .ok (.iconst 2, 1) := by decide +kernel
theorem d_Words_kindOf_41 : decode b_Words_kindOf 41 = .ok (.goto 4, 3) := by decide +kernel
theorem d_Words_kindOf_44 : decode b_Words_kindOf 44 = .ok (.iconst 3, 1) := by decide +kernel
theorem d_Words_kindOf_45 : decode b_Words_kindOf 45 = .ok (.ireturn, 1) := by decide +kernel
def m_Words_kindOf (F : Nat) (a1 : Int32) : Option (Int32) :=
  (if a1 = (32 : Int32) then (some (0 : Int32)) else (if a1 = (10 : Int32) then (some (0 : Int32)) else (if a1 < (97 : Int32) then (if a1 < (48 : Int32) then (some (3 : Int32)) else (if (57 : Int32) < a1 then (some (3 : Int32)) else (some (2 : Int32)))) else (if (122 : Int32) < a1 then (if a1 < (48 : Int32) then (some (3 : Int32)) else (if (57 : Int32) < a1 then (some (3 : Int32)) else (some (2 : Int32)))) else (some (1 : Int32))))))
abbrev rm_Words_kindOf : Room := { frames := 0, cells := 0, slots := 0, locals := 0 }
set_option maxHeartbeats 4000000 in
set_option maxRecDepth 100000 in
theorem c_Words_kindOf {G : (Nat → Prop) → State → Prop} (hG : gok G) (hGn : gN G) (l : Launch) (dC : Nat → ClassId) (dI : Nat → Nat → Nat) (g : Nat → ClassId) (F : Nat) (sz : Nat) (a1 : Int32) {o : Int32} (hm : m_Words_kindOf F a1 = some o) : Met l y_Words_kindOf (.code y_Words_kindOf b_Words_kindOf 1 (some .int) :: gw) rm_Words_kindOf (kq (dC, dI) vwCl (tyv g) G [.int a1] sz (([] : va_W))) (kqi (dC, dI) vwCl (tyv g) (([] : va_W)) o (([] : va_W)) sz) 0 0 (va_A (([] : va_W)) sz) := by
  unfold m_Words_kindOf at hm
  refine km (Qc := fun sz => kqi (dC, dI) vwCl (tyv g) (([] : va_W)) o (([] : va_W)) sz) (cc := b_Words_kindOf) (maxL := 1) (ret := some .int) (by decide) rfl (Nat.le_of_ble_eq_true rfl) ?_
  intro p e s m args below meth c Q hQ hx hb hr hts hown hlocks hml hnm H locs A hAe hA hP hK hD hS hGA ls hl
  have hl : lv_has ls 1 [(0, .int a1)] := hl
  have hts : ∀ w ∈ gw, w.before args s = true := fun w h => hts w (List.mem_cons_of_mem _ h)
  have hown : s.vm.findClass "AlarmMatrix$Words" = some m.cls := hown
  refine lv_iload_n hx hb d_Words_kindOf_0 rfl (lv_at hl 0 rfl) ?_
  refine lv_bipush (v := (32 : Int32)) hx hb d_Words_kindOf_1 (by decide) ?_
  refine lv_icmp_eq (tgt := 12) hx hb d_Words_kindOf_3 (by decide) (fun hc => ?_) (fun hc => ?_)
  · replace hm := if_t hm hc
    refine lv_iconst (v := (0 : Int32)) hx hb d_Words_kindOf_12 (by decide) ?_
    obtain rfl := Option.some.inj hm
    rw [hQ]
    exact kri hx hb hr hlocks hAe hP hK hD hS d_Words_kindOf_13
  · replace hm := if_f hm hc
    refine lv_iload_n hx hb d_Words_kindOf_6 rfl (lv_at hl 0 rfl) ?_
    refine lv_bipush (v := (10 : Int32)) hx hb d_Words_kindOf_7 (by decide) ?_
    refine lv_icmp_ne (tgt := 14) hx hb d_Words_kindOf_9 (by decide) (fun hc => ?_) (fun hc => ?_)
    · replace hm := if_f hm hc
      refine lv_iload_n hx hb d_Words_kindOf_14 rfl (lv_at hl 0 rfl) ?_
      refine lv_bipush (v := (97 : Int32)) hx hb d_Words_kindOf_15 (by decide) ?_
      refine lv_icmp_lt (tgt := 28) hx hb d_Words_kindOf_17 (by decide) (fun hc => ?_) (fun hc => ?_)
      · replace hm := if_t hm hc
        refine lv_iload_n hx hb d_Words_kindOf_28 rfl (lv_at hl 0 rfl) ?_
        refine lv_bipush (v := (48 : Int32)) hx hb d_Words_kindOf_29 (by decide) ?_
        refine lv_icmp_lt (tgt := 44) hx hb d_Words_kindOf_31 (by decide) (fun hc => ?_) (fun hc => ?_)
        · replace hm := if_t hm hc
          refine lv_iconst (v := (3 : Int32)) hx hb d_Words_kindOf_44 (by decide) ?_
          obtain rfl := Option.some.inj hm
          rw [hQ]
          exact kri hx hb hr hlocks hAe hP hK hD hS d_Words_kindOf_45
        · replace hm := if_f hm hc
          refine lv_iload_n hx hb d_Words_kindOf_34 rfl (lv_at hl 0 rfl) ?_
          refine lv_bipush (v := (57 : Int32)) hx hb d_Words_kindOf_35 (by decide) ?_
          refine lv_icmp_gt (tgt := 44) hx hb d_Words_kindOf_37 (by decide) (fun hc => ?_) (fun hc => ?_)
          · replace hm := if_t hm hc
            refine lv_iconst (v := (3 : Int32)) hx hb d_Words_kindOf_44 (by decide) ?_
            obtain rfl := Option.some.inj hm
            rw [hQ]
            exact kri hx hb hr hlocks hAe hP hK hD hS d_Words_kindOf_45
          · replace hm := if_f hm hc
            refine lv_iconst (v := (2 : Int32)) hx hb d_Words_kindOf_40 (by decide) ?_
            refine lv_goto (tgt := 45) hx hb d_Words_kindOf_41 (by decide) ?_
            obtain rfl := Option.some.inj hm
            rw [hQ]
            exact kri hx hb hr hlocks hAe hP hK hD hS d_Words_kindOf_45
      · replace hm := if_f hm hc
        refine lv_iload_n hx hb d_Words_kindOf_20 rfl (lv_at hl 0 rfl) ?_
        refine lv_bipush (v := (122 : Int32)) hx hb d_Words_kindOf_21 (by decide) ?_
        refine lv_icmp_gt (tgt := 28) hx hb d_Words_kindOf_23 (by decide) (fun hc => ?_) (fun hc => ?_)
        · replace hm := if_t hm hc
          refine lv_iload_n hx hb d_Words_kindOf_28 rfl (lv_at hl 0 rfl) ?_
          refine lv_bipush (v := (48 : Int32)) hx hb d_Words_kindOf_29 (by decide) ?_
          refine lv_icmp_lt (tgt := 44) hx hb d_Words_kindOf_31 (by decide) (fun hc => ?_) (fun hc => ?_)
          · replace hm := if_t hm hc
            refine lv_iconst (v := (3 : Int32)) hx hb d_Words_kindOf_44 (by decide) ?_
            obtain rfl := Option.some.inj hm
            rw [hQ]
            exact kri hx hb hr hlocks hAe hP hK hD hS d_Words_kindOf_45
          · replace hm := if_f hm hc
            refine lv_iload_n hx hb d_Words_kindOf_34 rfl (lv_at hl 0 rfl) ?_
            refine lv_bipush (v := (57 : Int32)) hx hb d_Words_kindOf_35 (by decide) ?_
            refine lv_icmp_gt (tgt := 44) hx hb d_Words_kindOf_37 (by decide) (fun hc => ?_) (fun hc => ?_)
            · replace hm := if_t hm hc
              refine lv_iconst (v := (3 : Int32)) hx hb d_Words_kindOf_44 (by decide) ?_
              obtain rfl := Option.some.inj hm
              rw [hQ]
              exact kri hx hb hr hlocks hAe hP hK hD hS d_Words_kindOf_45
            · replace hm := if_f hm hc
              refine lv_iconst (v := (2 : Int32)) hx hb d_Words_kindOf_40 (by decide) ?_
              refine lv_goto (tgt := 45) hx hb d_Words_kindOf_41 (by decide) ?_
              obtain rfl := Option.some.inj hm
              rw [hQ]
              exact kri hx hb hr hlocks hAe hP hK hD hS d_Words_kindOf_45
        · replace hm := if_f hm hc
          refine lv_iconst (v := (1 : Int32)) hx hb d_Words_kindOf_26 (by decide) ?_
          obtain rfl := Option.some.inj hm
          rw [hQ]
          exact kri hx hb hr hlocks hAe hP hK hD hS d_Words_kindOf_27
    · replace hm := if_t hm hc
      refine lv_iconst (v := (0 : Int32)) hx hb d_Words_kindOf_12 (by decide) ?_
      obtain rfl := Option.some.inj hm
      rw [hQ]
      exact kri hx hb hr hlocks hAe hP hK hD hS d_Words_kindOf_13
abbrev b_Words_step : ByteArray := prog_9_method_4_code
abbrev y_Words_step : MethodName := ⟨"AlarmMatrix$Words", "step", "()V"⟩
theorem d_Words_step_0 : decode b_Words_step 0 = .ok (.aload_n 0, 1) := by decide +kernel
theorem d_Words_step_1 : decode b_Words_step 1 = .ok (.getfield 21, 3) := by decide +kernel
theorem d_Words_step_4 : decode b_Words_step 4 = .ok (.invokevirtual 25, 3) := by decide +kernel
theorem d_Words_step_7 : decode b_Words_step 7 = .ok (.istore_n 1, 1) := by decide +kernel
theorem d_Words_step_8 : decode b_Words_step 8 = .ok (.aload_n 0, 1) := by decide +kernel
theorem d_Words_step_9 : decode b_Words_step 9 = .ok (.getfield 15, 3) := by decide +kernel
theorem d_Words_step_12 : decode b_Words_step 12 = .ok (.istore_n 2, 1) := by decide +kernel
theorem d_Words_step_13 : decode b_Words_step 13 = .ok (.iload_n 2, 1) := by decide +kernel
theorem d_Words_step_14 : decode b_Words_step 14 = .ok (.iload_n 1, 1) := by decide +kernel
theorem d_Words_step_15 : decode b_Words_step 15 = .ok (.if_icmp .ge 23, 3) := by decide +kernel
theorem d_Words_step_18 : decode b_Words_step 18 = .ok (.aload_n 0, 1) := by decide +kernel
theorem d_Words_step_19 : decode b_Words_step 19 = .ok (.getfield 21, 3) := by decide +kernel
theorem d_Words_step_22 : decode b_Words_step 22 = .ok (.iload_n 2, 1) := by decide +kernel
theorem d_Words_step_23 : decode b_Words_step 23 = .ok (.invokevirtual 31, 3) := by decide +kernel
theorem d_Words_step_26 : decode b_Words_step 26 = .ok (.invokestatic 35, 3) := by decide +kernel
theorem d_Words_step_29 : decode b_Words_step 29 = .ok (.ifCond .ne 9, 3) := by decide +kernel
theorem d_Words_step_32 : decode b_Words_step 32 = .ok (.iinc 2 1, 3) := by decide +kernel
theorem d_Words_step_35 : decode b_Words_step 35 = .ok (.goto (-22), 3) := by decide +kernel
theorem d_Words_step_38 : decode b_Words_step 38 = .ok (.aload_n 0, 1) := by decide +kernel
theorem d_Words_step_39 : decode b_Words_step 39 = .ok (.iload_n 2, 1) := by decide +kernel
theorem d_Words_step_40 : decode b_Words_step 40 = .ok (.putfield 9, 3) := by decide +kernel
theorem d_Words_step_43 : decode b_Words_step 43 = .ok (.iload_n 2, 1) := by decide +kernel
theorem d_Words_step_44 : decode b_Words_step 44 = .ok (.iload_n 1, 1) := by decide +kernel
theorem d_Words_step_45 : decode b_Words_step 45 = .ok (.if_icmp .ge 49, 3) := by decide +kernel
theorem d_Words_step_48 : decode b_Words_step 48 = .ok (.aload_n 0, 1) := by decide +kernel
theorem d_Words_step_49 : decode b_Words_step 49 = .ok (.getfield 21, 3) := by decide +kernel
theorem d_Words_step_52 : decode b_Words_step 52 = .ok (.iload_n 2, 1) := by decide +kernel
theorem d_Words_step_53 : decode b_Words_step 53 = .ok (.invokevirtual 31, 3) := by decide +kernel
theorem d_Words_step_56 : decode b_Words_step 56 = .ok (.invokestatic 35, 3) := by decide +kernel
theorem d_Words_step_59 : decode b_Words_step 59 = .ok (.istore_n 3, 1) := by decide +kernel
theorem d_Words_step_60 : decode b_Words_step 60 = .ok (.iinc 2 1, 3) := by decide +kernel
theorem d_Words_step_63 : decode b_Words_step 63 = .ok (.iload_n 2, 1) := by decide +kernel
theorem d_Words_step_64 : decode b_Words_step 64 = .ok (.iload_n 1, 1) := by decide +kernel
theorem d_Words_step_65 : decode b_Words_step 65 = .ok (.if_icmp .ge 29, 3) := by decide +kernel
theorem d_Words_step_68 : decode b_Words_step 68 = .ok (.iload_n 3, 1) := by decide +kernel
theorem d_Words_step_69 : decode b_Words_step 69 = .ok (.iconst 3, 1) := by decide +kernel
theorem d_Words_step_70 : decode b_Words_step 70 = .ok (.if_icmp .eq 24, 3) := by decide +kernel
theorem d_Words_step_73 : decode b_Words_step 73 = .ok (.aload_n 0, 1) := by decide +kernel
theorem d_Words_step_74 : decode b_Words_step 74 = .ok (.getfield 21, 3) := by decide +kernel
theorem d_Words_step_77 : decode b_Words_step 77 = .ok (.iload_n 2, 1) := by decide +kernel
theorem d_Words_step_78 : decode b_Words_step 78 = .ok (.invokevirtual 31, 3) := by decide +kernel
theorem d_Words_step_81 : decode b_Words_step 81 = .ok (.invokestatic 35, 3) := by decide +kernel
theorem d_Words_step_84 : decode b_Words_step 84 = .ok (.iload_n 3, 1) := by decide +kernel
theorem d_Words_step_85 : decode b_Words_step 85 = .ok (.if_icmp .ne 9, 3) := by decide +kernel
theorem d_Words_step_88 : decode b_Words_step 88 = .ok (.iinc 2 1, 3) := by decide +kernel
theorem d_Words_step_91 : decode b_Words_step 91 = .ok (.goto (-28), 3) := by decide +kernel
theorem d_Words_step_94 : decode b_Words_step 94 = .ok (.aload_n 0, 1) := by decide +kernel
theorem d_Words_step_95 : decode b_Words_step 95 = .ok (.iload_n 2, 1) := by decide +kernel
theorem d_Words_step_96 : decode b_Words_step 96 = .ok (.putfield 15, 3) := by decide +kernel
theorem d_Words_step_99 : decode b_Words_step 99 = .ok (.aload_n 0, 1) := by decide +kernel
theorem d_Words_step_100 : decode b_Words_step 100 = .ok (.dup, 1) := by decide +kernel
theorem d_Words_step_101 : decode b_Words_step 101 = .ok (.getfield 18, 3) := by decide +kernel
theorem d_Words_step_104 : decode b_Words_step 104 = .ok (.iconst 1, 1) := by decide +kernel
theorem d_Words_step_105 : decode b_Words_step 105 = .ok (.iadd, 1) := by decide +kernel
theorem d_Words_step_106 : decode b_Words_step 106 = .ok (.putfield 18, 3) := by decide +kernel
theorem d_Words_step_109 : decode b_Words_step 109 = .ok (.return_, 1) := by decide +kernel
def m_Words_step_B13 {R : Type} (F : Nat) (r4 : Int32) (x1 : St) (k13_38 : Int32 → Option R) (rec13 : Int32 → Option R) (v2_13 : Int32) : Option R :=
  (if r4 ≤ v2_13 then (k13_38 v2_13) else (bn1 (m_Text_at F x1 v2_13) (fun r23 => (bn1 (m_Words_kindOf F r23) (fun r26 => (if r26 = (0 : Int32) then (rec13 (v2_13 + (1 : Int32))) else (k13_38 v2_13)))))))
theorem m_Words_step_B13_h {R : Type} {F : Nat} {r4 : Int32} {x1 : St} {k13_38 : Int32 → Option R} {rec13 : Int32 → Option R} {v2_13 : Int32} {o : R} (h : m_Words_step_B13 F r4 x1 k13_38 rec13 v2_13 = some o) :
  (if r4 ≤ v2_13 then (k13_38 v2_13) else (bn1 (m_Text_at F x1 v2_13) (fun r23 => (bn1 (m_Words_kindOf F r23) (fun r26 => (if r26 = (0 : Int32) then (rec13 (v2_13 + (1 : Int32))) else (k13_38 v2_13))))))) = some o := h
def m_Words_step_B63 {R : Type} (F : Nat) (r4 : Int32) (r56 : Int32) (x1 : St) (k63_94 : Int32 → Option R) (rec63 : Int32 → Option R) (v2_63 : Int32) : Option R :=
  (if r4 ≤ v2_63 then (k63_94 v2_63) else (if r56 = (3 : Int32) then (k63_94 v2_63) else (bn1 (m_Text_at F x1 v2_63) (fun r78 => (bn1 (m_Words_kindOf F r78) (fun r81 => (if r81 = r56 then (rec63 (v2_63 + (1 : Int32))) else (k63_94 v2_63))))))))
theorem m_Words_step_B63_h {R : Type} {F : Nat} {r4 : Int32} {r56 : Int32} {x1 : St} {k63_94 : Int32 → Option R} {rec63 : Int32 → Option R} {v2_63 : Int32} {o : R} (h : m_Words_step_B63 F r4 r56 x1 k63_94 rec63 v2_63 = some o) :
  (if r4 ≤ v2_63 then (k63_94 v2_63) else (if r56 = (3 : Int32) then (k63_94 v2_63) else (bn1 (m_Text_at F x1 v2_63) (fun r78 => (bn1 (m_Words_kindOf F r78) (fun r81 => (if r81 = r56 then (rec63 (v2_63 + (1 : Int32))) else (k63_94 v2_63)))))))) = some o := h
def m_Words_step (F : Nat) (x0 : St) (x1 : St) : Option (St) :=
  (bn1 (m_Text_size F x1) (fun r4 => (lq1 (m_Words_step_B13 F r4 x1 (fun v2_13 => (lz (sc x0 1 v2_13) (fun e0_40 => (if r4 ≤ v2_13 then (lz (sc e0_40 2 v2_13) (fun e0_96 => (lz (sc e0_96 3 ((e0_96 3 0) + (1 : Int32))) (fun e0_106 => (some e0_106))))) else (bn1 (m_Text_at F x1 v2_13) (fun r53 => (bn1 (m_Words_kindOf F r53) (fun r56 => (lq1 (m_Words_step_B63 F r4 r56 x1 (fun v2_63 => (lz (sc e0_40 2 v2_63) (fun e0_96 => (lz (sc e0_96 3 ((e0_96 3 0) + (1 : Int32))) (fun e0_106 => (some e0_106))))))) F (v2_13 + (1 : Int32)))))))))))) F (x0 2 0))))
abbrev rm_Words_step : Room := { frames := 1, cells := 0, slots := 0, locals := 21 }
set_option maxHeartbeats 4000000 in
set_option maxRecDepth 100000 in
theorem c_Words_step {G : (Nat → Prop) → State → Prop} (hG : gok G) (hGn : gN G) (l : Launch) (dC : Nat → ClassId) (dI : Nat → Nat → Nat) (g : Nat → ClassId) (F : Nat) (sz : Nat) (h0 : Nat) (q0 : Nat → Nat) (x0 : St) (q1 : Nat → Nat) (x1 : St) {o : St} (hm : m_Words_step F x0 x1 = some o) : Met l y_Words_step (.code y_Words_step b_Words_step 4 none :: gw) rm_Words_step (kq (dC, dI) vwCl (tyv g) G [.ref h0] sz (wd_Words g h0 q0 x0 ++ wd_Text g (q0 0) q1 x1)) (kqv (dC, dI) vwCl (tyv g) (wd_Words g h0 q0 x0 ++ wd_Text g (q0 0) q1 x1) (wd_Words g h0 q0 o ++ wd_Text g (q0 0) q1 x1) sz) 0 0 (va_A (wd_Words g h0 q0 x0 ++ wd_Text g (q0 0) q1 x1) sz) := by
  unfold m_Words_step at hm
  refine km (Qc := fun sz => kqv (dC, dI) vwCl (tyv g) (wd_Words g h0 q0 x0 ++ wd_Text g (q0 0) q1 x1) (wd_Words g h0 q0 o ++ wd_Text g (q0 0) q1 x1) sz) (cc := b_Words_step) (maxL := 4) (ret := none) (by decide) rfl (Nat.le_of_ble_eq_true rfl) ?_
  intro p e s m args below meth c Q hQ hx hb hr hts hown hlocks hml hnm H locs A hAe hA hP hK hD hS hGA ls hl
  have hl : lv_has ls 4 [(0, .ref h0)] := hl
  have hts : ∀ w ∈ gw, w.before args s = true := fun w h => hts w (List.mem_cons_of_mem _ h)
  have hown : s.vm.findClass "AlarmMatrix$Words" = some m.cls := hown
  refine lv_aload_n hx hb d_Words_step_0 rfl (lv_at hl 0 rfl) ?_
  refine va_get (D := (dC, dI)) (ci := 2) (v := .ref (q0 0)) (C := "AlarmMatrix$Words") (T := T_Words) (N := 4) hx hb hts i_Words hown hK hP 0 rfl rfl 0 (by decide) (hts _ k2_21) (fun _ h9 => h9) rfl d_Words_step_1 ?_
  obtain ⟨r4, hcl, hm⟩ := bn1_s hm
  refine kci (wc := wd_Text g (q0 0) q1 x1) (wr := wd_Words g h0 q0 x0) (w1 := wd_Text g (q0 0) q1 x1) hP hD hS hA [1, 2, 3] [0] rfl rfl (by decide) (by decide) (va_runV (As := []) (rest := []) ⟨hx, hb, hml, hown, hts⟩ (c_Text_size hG hGn l dC dI g F H.size (q0 0) q1 x1 hcl) (cwV 0 hts (gdV k2_67 k2_68 k2_69 k1_2 k2_70) rfl rfl rfl (by decide +kernel) ⟨Nat.le_of_ble_eq_true rfl, Nat.le_of_ble_eq_true rfl⟩) (kpV hG hP hK hD hS hA hGA [1, 2, 3] (by decide) rfl (ci := 1) (q0 := 0) rfl rfl rfl) rfl rfl hl.1 rfl (lv_room (Nat.le_of_ble_eq_true rfl)) d_Words_step_4 ⟨Nat.le_of_ble_eq_true rfl, Nat.le_of_ble_eq_true rfl⟩) (fun H locs hP hD hS => ?_)
  have hP : va_P (dC, dI) vwCl (wd_Words g h0 q0 x0 ++ wd_Text g (q0 0) q1 x1) H := hP
  have hD : va_D A (wd_Words g h0 q0 x0 ++ wd_Text g (q0 0) q1 x1) := hD
  refine lv_istore_n (lv' := [(1, .int r4), (0, .ref h0)]) hx hb d_Words_step_7 rfl hl (by decide) rfl (fun ls hl => ?_)
  refine lv_aload_n hx hb d_Words_step_8 rfl (lv_at hl 1 rfl) ?_
  refine va_get (D := (dC, dI)) (ci := 2) (v := .int (x0 2 0)) (C := "AlarmMatrix$Words") (T := T_Words) (N := 4) hx hb hts i_Words hown hK hP 0 rfl rfl 2 (by decide) (hts _ k2_23) (fun _ h9 => h9) rfl d_Words_step_9 ?_
  refine lv_istore_n (lv' := [(2, .int (x0 2 0)), (1, .int r4), (0, .ref h0)]) hx hb d_Words_step_12 rfl hl (by decide) rfl (fun ls hl => ?_)
  have L13 : ∀ (n13 : Nat) (v2_13 : Int32) (H : Heap) (locs : List Loc) (ls : Array Slot), lq1 (m_Words_step_B13 F r4 x1 (fun v2_13 => (lz (sc x0 1 v2_13) (fun e0_40 => (if r4 ≤ v2_13 then (lz (sc e0_40 2 v2_13) (fun e0_96 => (lz (sc e0_96 3 ((e0_96 3 0) + (1 : Int32))) (fun e0_106 => (some e0_106))))) else (bn1 (m_Text_at F x1 v2_13) (fun r53 => (bn1 (m_Words_kindOf F r53) (fun r56 => (lq1 (m_Words_step_B63 F r4 r56 x1 (fun v2_63 => (lz (sc e0_40 2 v2_63) (fun e0_96 => (lz (sc e0_96 3 ((e0_96 3 0) + (1 : Int32))) (fun e0_106 => (some e0_106))))))) F (v2_13 + (1 : Int32)))))))))))) n13 v2_13 = some o → va_P (dC, dI) vwCl (wd_Words g h0 q0 x0 ++ wd_Text g (q0 0) q1 x1) H → va_D A (wd_Words g h0 q0 x0 ++ wd_Text g (q0 0) q1 x1) → va_S A s.heap H locs → lv_has ls 4 [(0, .ref h0), (1, .int r4), (2, .int v2_13)] → W p l e rm_Words_step s m args below meth c H locs 0 0 Q (F0 m 13 ls []) := by
    intro n13
    induction n13 with
    | zero => intro v2_13 H locs ls hm; exact absurd hm (by intro z; cases z)
    | succ n13 ih13 =>
      intro v2_13 H locs ls hm hP hD hS hl
      replace hm := m_Words_step_B13_h (lq1_h hm)
      refine lv_iload_n hx hb d_Words_step_13 rfl (lv_at hl 2 rfl) ?_
      refine lv_iload_n hx hb d_Words_step_14 rfl (lv_at hl 1 rfl) ?_
      refine lv_icmp_ge (tgt := 38) hx hb d_Words_step_15 (by decide) (fun hc => ?_) (fun hc => ?_)
      · replace hm := if_t hm hc
        refine lv_aload_n hx hb d_Words_step_38 rfl (lv_at hl 0 rfl) ?_
        refine lv_iload_n hx hb d_Words_step_39 rfl (lv_at hl 2 rfl) ?_
        obtain ⟨e0_40, he, hm⟩ := lz_s hm
        refine va_put (D := (dC, dI)) (ci := 2) (v := .int v2_13) (ty := .int) (C := "AlarmMatrix$Words") (T := T_Words) (N := 4) hx hb hts i_Words t_Words o_Words n_Words hown hK hP hD hS 0 rfl rfl 1 (by decide) (hts _ k2_22) (fun _ h9 => h9) rfl (by decide +kernel) rfl rfl (Nat.le_of_ble_eq_true rfl) d_Words_step_40 (fun H locs hP hD hS => ?_)
        have hP : va_P (dC, dI) vwCl (wd_Words g h0 q0 e0_40 ++ wd_Text g (q0 0) q1 x1) H := by rw [he]; exact hP
        have hD : va_D A (wd_Words g h0 q0 e0_40 ++ wd_Text g (q0 0) q1 x1) := by rw [he]; exact hD
        refine lv_iload_n hx hb d_Words_step_43 rfl (lv_at hl 2 rfl) ?_
        refine lv_iload_n hx hb d_Words_step_44 rfl (lv_at hl 1 rfl) ?_
        refine lv_icmp_ge (tgt := 94) hx hb d_Words_step_45 (by decide) (fun hc => ?_) (fun hc => ?_)
        · replace hm := if_t hm hc
          refine lv_aload_n hx hb d_Words_step_94 rfl (lv_at hl 0 rfl) ?_
          refine lv_iload_n hx hb d_Words_step_95 rfl (lv_at hl 2 rfl) ?_
          obtain ⟨e0_96, he, hm⟩ := lz_s hm
          refine va_put (D := (dC, dI)) (ci := 2) (v := .int v2_13) (ty := .int) (C := "AlarmMatrix$Words") (T := T_Words) (N := 4) hx hb hts i_Words t_Words o_Words n_Words hown hK hP hD hS 0 rfl rfl 2 (by decide) (hts _ k2_23) (fun _ h9 => h9) rfl (by decide +kernel) rfl rfl (Nat.le_of_ble_eq_true rfl) d_Words_step_96 (fun H locs hP hD hS => ?_)
          have hP : va_P (dC, dI) vwCl (wd_Words g h0 q0 e0_96 ++ wd_Text g (q0 0) q1 x1) H := by rw [he]; exact hP
          have hD : va_D A (wd_Words g h0 q0 e0_96 ++ wd_Text g (q0 0) q1 x1) := by rw [he]; exact hD
          refine lv_aload_n hx hb d_Words_step_99 rfl (lv_at hl 0 rfl) ?_
          refine lv_dup hx hb d_Words_step_100 rfl ?_
          refine va_get (D := (dC, dI)) (ci := 2) (v := .int (e0_96 3 0)) (C := "AlarmMatrix$Words") (T := T_Words) (N := 4) hx hb hts i_Words hown hK hP 0 rfl rfl 3 (by decide) (hts _ k2_24) (fun _ h9 => h9) rfl d_Words_step_101 ?_
          refine lv_iconst (v := (1 : Int32)) hx hb d_Words_step_104 (by decide) ?_
          refine lv_iadd hx hb d_Words_step_105 ?_
          obtain ⟨e0_106, he, hm⟩ := lz_s hm
          refine va_put (D := (dC, dI)) (ci := 2) (v := .int ((e0_96 3 0) + (1 : Int32))) (ty := .int) (C := "AlarmMatrix$Words") (T := T_Words) (N := 4) hx hb hts i_Words t_Words o_Words n_Words hown hK hP hD hS 0 rfl rfl 3 (by decide) (hts _ k2_24) (fun _ h9 => h9) rfl (by decide +kernel) rfl rfl (Nat.le_of_ble_eq_true rfl) d_Words_step_106 (fun H locs hP hD hS => ?_)
          have hP : va_P (dC, dI) vwCl (wd_Words g h0 q0 e0_106 ++ wd_Text g (q0 0) q1 x1) H := by rw [he]; exact hP
          have hD : va_D A (wd_Words g h0 q0 e0_106 ++ wd_Text g (q0 0) q1 x1) := by rw [he]; exact hD
          obtain rfl := Option.some.inj hm
          rw [hQ]
          exact krv hx hb hr hlocks hAe hP hK hD hS d_Words_step_109
        · replace hm := if_f hm hc
          refine lv_aload_n hx hb d_Words_step_48 rfl (lv_at hl 0 rfl) ?_
          refine va_get (D := (dC, dI)) (ci := 2) (v := .ref (q0 0)) (C := "AlarmMatrix$Words") (T := T_Words) (N := 4) hx hb hts i_Words hown hK hP 0 rfl rfl 0 (by decide) (hts _ k2_21) (fun _ h9 => h9) rfl d_Words_step_49 ?_
          refine lv_iload_n hx hb d_Words_step_52 rfl (lv_at hl 2 rfl) ?_
          obtain ⟨r53, hcl, hm⟩ := bn1_s hm
          refine kci (wc := wd_Text g (q0 0) q1 x1) (wr := wd_Words g h0 q0 e0_40) (w1 := wd_Text g (q0 0) q1 x1) hP hD hS hA [1, 2, 3] [0] rfl rfl (by decide) (by decide) (va_runV (As := [.int v2_13]) (rest := []) ⟨hx, hb, hml, hown, hts⟩ (c_Text_at hG hGn l dC dI g F H.size (q0 0) q1 x1 v2_13 hcl) (cwV 1 hts (gdV k2_71 k2_72 k2_73 k1_2 k2_74) rfl rfl rfl (by decide +kernel) ⟨Nat.le_of_ble_eq_true rfl, Nat.le_of_ble_eq_true rfl⟩) (kpV hG hP hK hD hS hA hGA [1, 2, 3] (by decide) rfl (ci := 1) (q0 := 0) rfl rfl rfl) rfl rfl hl.1 rfl (lv_room (Nat.le_of_ble_eq_true rfl)) d_Words_step_53 ⟨Nat.le_of_ble_eq_true rfl, Nat.le_of_ble_eq_true rfl⟩) (fun H locs hP hD hS => ?_)
          have hP : va_P (dC, dI) vwCl (wd_Words g h0 q0 e0_40 ++ wd_Text g (q0 0) q1 x1) H := hP
          have hD : va_D A (wd_Words g h0 q0 e0_40 ++ wd_Text g (q0 0) q1 x1) := hD
          obtain ⟨r56, hcl, hm⟩ := bn1_s hm
          refine kci (wc := ([] : va_W)) (wr := wd_Words g h0 q0 e0_40 ++ wd_Text g (q0 0) q1 x1) (w1 := ([] : va_W)) hP hD hS hA [] [0, 1, 2, 3] rfl rfl (by decide) (by decide) (va_runS (As := [.int r53]) (rest := []) ⟨hx, hb, hml, hown, hts⟩ (c_Words_kindOf hG hGn l dC dI g F H.size r53 hcl) (cwS 1 hts (gdS k2_75 k2_76 k1_21 k2_77) rfl rfl rfl (by decide +kernel) ⟨Nat.le_of_ble_eq_true rfl, Nat.le_of_ble_eq_true rfl⟩) (kpS hG hP hK hD hS hA hGA [] (by decide) rfl) rfl rfl hl.1 rfl (lv_room (Nat.le_of_ble_eq_true rfl)) d_Words_step_56 ⟨Nat.le_of_ble_eq_true rfl, Nat.le_of_ble_eq_true rfl⟩) (fun H locs hP hD hS => ?_)
          have hP : va_P (dC, dI) vwCl (wd_Words g h0 q0 e0_40 ++ wd_Text g (q0 0) q1 x1) H := hP
          have hD : va_D A (wd_Words g h0 q0 e0_40 ++ wd_Text g (q0 0) q1 x1) := hD
          refine lv_istore_n (lv' := [(3, .int r56), (0, .ref h0), (1, .int r4), (2, .int v2_13)]) hx hb d_Words_step_59 rfl hl (by decide) rfl (fun ls hl => ?_)
          refine lv_iinc (v := (v2_13 + (1 : Int32))) (lv' := [(2, .int (v2_13 + (1 : Int32))), (3, .int r56), (0, .ref h0), (1, .int r4)]) hx hb d_Words_step_60 hl (k := 3) rfl rfl (by decide) rfl (fun ls hl => ?_)
          have L63 : ∀ (n63 : Nat) (v2_63 : Int32) (H : Heap) (locs : List Loc) (ls : Array Slot), lq1 (m_Words_step_B63 F r4 r56 x1 (fun v2_63 => (lz (sc e0_40 2 v2_63) (fun e0_96 => (lz (sc e0_96 3 ((e0_96 3 0) + (1 : Int32))) (fun e0_106 => (some e0_106))))))) n63 v2_63 = some o → va_P (dC, dI) vwCl (wd_Words g h0 q0 e0_40 ++ wd_Text g (q0 0) q1 x1) H → va_D A (wd_Words g h0 q0 e0_40 ++ wd_Text g (q0 0) q1 x1) → va_S A s.heap H locs → lv_has ls 4 [(0, .ref h0), (1, .int r4), (2, .int v2_63), (3, .int r56)] → W p l e rm_Words_step s m args below meth c H locs 0 0 Q (F0 m 63 ls []) := by
            intro n63
            induction n63 with
            | zero => intro v2_63 H locs ls hm; exact absurd hm (by intro z; cases z)
            | succ n63 ih63 =>
              intro v2_63 H locs ls hm hP hD hS hl
              replace hm := m_Words_step_B63_h (lq1_h hm)
              refine lv_iload_n hx hb d_Words_step_63 rfl (lv_at hl 2 rfl) ?_
              refine lv_iload_n hx hb d_Words_step_64 rfl (lv_at hl 1 rfl) ?_
              refine lv_icmp_ge (tgt := 94) hx hb d_Words_step_65 (by decide) (fun hc => ?_) (fun hc => ?_)
              · replace hm := if_t hm hc
                refine lv_aload_n hx hb d_Words_step_94 rfl (lv_at hl 0 rfl) ?_
                refine lv_iload_n hx hb d_Words_step_95 rfl (lv_at hl 2 rfl) ?_
                obtain ⟨e0_96, he, hm⟩ := lz_s hm
                refine va_put (D := (dC, dI)) (ci := 2) (v := .int v2_63) (ty := .int) (C := "AlarmMatrix$Words") (T := T_Words) (N := 4) hx hb hts i_Words t_Words o_Words n_Words hown hK hP hD hS 0 rfl rfl 2 (by decide) (hts _ k2_23) (fun _ h9 => h9) rfl (by decide +kernel) rfl rfl (Nat.le_of_ble_eq_true rfl) d_Words_step_96 (fun H locs hP hD hS => ?_)
                have hP : va_P (dC, dI) vwCl (wd_Words g h0 q0 e0_96 ++ wd_Text g (q0 0) q1 x1) H := by rw [he]; exact hP
                have hD : va_D A (wd_Words g h0 q0 e0_96 ++ wd_Text g (q0 0) q1 x1) := by rw [he]; exact hD
                refine lv_aload_n hx hb d_Words_step_99 rfl (lv_at hl 0 rfl) ?_
                refine lv_dup hx hb d_Words_step_100 rfl ?_
                refine va_get (D := (dC, dI)) (ci := 2) (v := .int (e0_96 3 0)) (C := "AlarmMatrix$Words") (T := T_Words) (N := 4) hx hb hts i_Words hown hK hP 0 rfl rfl 3 (by decide) (hts _ k2_24) (fun _ h9 => h9) rfl d_Words_step_101 ?_
                refine lv_iconst (v := (1 : Int32)) hx hb d_Words_step_104 (by decide) ?_
                refine lv_iadd hx hb d_Words_step_105 ?_
                obtain ⟨e0_106, he, hm⟩ := lz_s hm
                refine va_put (D := (dC, dI)) (ci := 2) (v := .int ((e0_96 3 0) + (1 : Int32))) (ty := .int) (C := "AlarmMatrix$Words") (T := T_Words) (N := 4) hx hb hts i_Words t_Words o_Words n_Words hown hK hP hD hS 0 rfl rfl 3 (by decide) (hts _ k2_24) (fun _ h9 => h9) rfl (by decide +kernel) rfl rfl (Nat.le_of_ble_eq_true rfl) d_Words_step_106 (fun H locs hP hD hS => ?_)
                have hP : va_P (dC, dI) vwCl (wd_Words g h0 q0 e0_106 ++ wd_Text g (q0 0) q1 x1) H := by rw [he]; exact hP
                have hD : va_D A (wd_Words g h0 q0 e0_106 ++ wd_Text g (q0 0) q1 x1) := by rw [he]; exact hD
                obtain rfl := Option.some.inj hm
                rw [hQ]
                exact krv hx hb hr hlocks hAe hP hK hD hS d_Words_step_109
              · replace hm := if_f hm hc
                refine lv_iload_n hx hb d_Words_step_68 rfl (lv_at hl 3 rfl) ?_
                refine lv_iconst (v := (3 : Int32)) hx hb d_Words_step_69 (by decide) ?_
                refine lv_icmp_eq (tgt := 94) hx hb d_Words_step_70 (by decide) (fun hc => ?_) (fun hc => ?_)
                · replace hm := if_t hm hc
                  refine lv_aload_n hx hb d_Words_step_94 rfl (lv_at hl 0 rfl) ?_
                  refine lv_iload_n hx hb d_Words_step_95 rfl (lv_at hl 2 rfl) ?_
                  obtain ⟨e0_96, he, hm⟩ := lz_s hm
                  refine va_put (D := (dC, dI)) (ci := 2) (v := .int v2_63) (ty := .int) (C := "AlarmMatrix$Words") (T := T_Words) (N := 4) hx hb hts i_Words t_Words o_Words n_Words hown hK hP hD hS 0 rfl rfl 2 (by decide) (hts _ k2_23) (fun _ h9 => h9) rfl (by decide +kernel) rfl rfl (Nat.le_of_ble_eq_true rfl) d_Words_step_96 (fun H locs hP hD hS => ?_)
                  have hP : va_P (dC, dI) vwCl (wd_Words g h0 q0 e0_96 ++ wd_Text g (q0 0) q1 x1) H := by rw [he]; exact hP
                  have hD : va_D A (wd_Words g h0 q0 e0_96 ++ wd_Text g (q0 0) q1 x1) := by rw [he]; exact hD
                  refine lv_aload_n hx hb d_Words_step_99 rfl (lv_at hl 0 rfl) ?_
                  refine lv_dup hx hb d_Words_step_100 rfl ?_
                  refine va_get (D := (dC, dI)) (ci := 2) (v := .int (e0_96 3 0)) (C := "AlarmMatrix$Words") (T := T_Words) (N := 4) hx hb hts i_Words hown hK hP 0 rfl rfl 3 (by decide) (hts _ k2_24) (fun _ h9 => h9) rfl d_Words_step_101 ?_
                  refine lv_iconst (v := (1 : Int32)) hx hb d_Words_step_104 (by decide) ?_
                  refine lv_iadd hx hb d_Words_step_105 ?_
                  obtain ⟨e0_106, he, hm⟩ := lz_s hm
                  refine va_put (D := (dC, dI)) (ci := 2) (v := .int ((e0_96 3 0) + (1 : Int32))) (ty := .int) (C := "AlarmMatrix$Words") (T := T_Words) (N := 4) hx hb hts i_Words t_Words o_Words n_Words hown hK hP hD hS 0 rfl rfl 3 (by decide) (hts _ k2_24) (fun _ h9 => h9) rfl (by decide +kernel) rfl rfl (Nat.le_of_ble_eq_true rfl) d_Words_step_106 (fun H locs hP hD hS => ?_)
                  have hP : va_P (dC, dI) vwCl (wd_Words g h0 q0 e0_106 ++ wd_Text g (q0 0) q1 x1) H := by rw [he]; exact hP
                  have hD : va_D A (wd_Words g h0 q0 e0_106 ++ wd_Text g (q0 0) q1 x1) := by rw [he]; exact hD
                  obtain rfl := Option.some.inj hm
                  rw [hQ]
                  exact krv hx hb hr hlocks hAe hP hK hD hS d_Words_step_109
                · replace hm := if_f hm hc
                  refine lv_aload_n hx hb d_Words_step_73 rfl (lv_at hl 0 rfl) ?_
                  refine va_get (D := (dC, dI)) (ci := 2) (v := .ref (q0 0)) (C := "AlarmMatrix$Words") (T := T_Words) (N := 4) hx hb hts i_Words hown hK hP 0 rfl rfl 0 (by decide) (hts _ k2_21) (fun _ h9 => h9) rfl d_Words_step_74 ?_
                  refine lv_iload_n hx hb d_Words_step_77 rfl (lv_at hl 2 rfl) ?_
                  obtain ⟨r78, hcl, hm⟩ := bn1_s hm
                  refine kci (wc := wd_Text g (q0 0) q1 x1) (wr := wd_Words g h0 q0 e0_40) (w1 := wd_Text g (q0 0) q1 x1) hP hD hS hA [1, 2, 3] [0] rfl rfl (by decide) (by decide) (va_runV (As := [.int v2_63]) (rest := []) ⟨hx, hb, hml, hown, hts⟩ (c_Text_at hG hGn l dC dI g F H.size (q0 0) q1 x1 v2_63 hcl) (cwV 1 hts (gdV k2_71 k2_72 k2_73 k1_2 k2_74) rfl rfl rfl (by decide +kernel) ⟨Nat.le_of_ble_eq_true rfl, Nat.le_of_ble_eq_true rfl⟩) (kpV hG hP hK hD hS hA hGA [1, 2, 3] (by decide) rfl (ci := 1) (q0 := 0) rfl rfl rfl) rfl rfl hl.1 rfl (lv_room (Nat.le_of_ble_eq_true rfl)) d_Words_step_78 ⟨Nat.le_of_ble_eq_true rfl, Nat.le_of_ble_eq_true rfl⟩) (fun H locs hP hD hS => ?_)
                  have hP : va_P (dC, dI) vwCl (wd_Words g h0 q0 e0_40 ++ wd_Text g (q0 0) q1 x1) H := hP
                  have hD : va_D A (wd_Words g h0 q0 e0_40 ++ wd_Text g (q0 0) q1 x1) := hD
                  obtain ⟨r81, hcl, hm⟩ := bn1_s hm
                  refine kci (wc := ([] : va_W)) (wr := wd_Words g h0 q0 e0_40 ++ wd_Text g (q0 0) q1 x1) (w1 := ([] : va_W)) hP hD hS hA [] [0, 1, 2, 3] rfl rfl (by decide) (by decide) (va_runS (As := [.int r78]) (rest := []) ⟨hx, hb, hml, hown, hts⟩ (c_Words_kindOf hG hGn l dC dI g F H.size r78 hcl) (cwS 1 hts (gdS k2_75 k2_76 k1_21 k2_77) rfl rfl rfl (by decide +kernel) ⟨Nat.le_of_ble_eq_true rfl, Nat.le_of_ble_eq_true rfl⟩) (kpS hG hP hK hD hS hA hGA [] (by decide) rfl) rfl rfl hl.1 rfl (lv_room (Nat.le_of_ble_eq_true rfl)) d_Words_step_81 ⟨Nat.le_of_ble_eq_true rfl, Nat.le_of_ble_eq_true rfl⟩) (fun H locs hP hD hS => ?_)
                  have hP : va_P (dC, dI) vwCl (wd_Words g h0 q0 e0_40 ++ wd_Text g (q0 0) q1 x1) H := hP
                  have hD : va_D A (wd_Words g h0 q0 e0_40 ++ wd_Text g (q0 0) q1 x1) := hD
                  refine lv_iload_n hx hb d_Words_step_84 rfl (lv_at hl 3 rfl) ?_
                  refine lv_icmp_ne (tgt := 94) hx hb d_Words_step_85 (by decide) (fun hc => ?_) (fun hc => ?_)
                  · replace hm := if_f hm hc
                    refine lv_aload_n hx hb d_Words_step_94 rfl (lv_at hl 0 rfl) ?_
                    refine lv_iload_n hx hb d_Words_step_95 rfl (lv_at hl 2 rfl) ?_
                    obtain ⟨e0_96, he, hm⟩ := lz_s hm
                    refine va_put (D := (dC, dI)) (ci := 2) (v := .int v2_63) (ty := .int) (C := "AlarmMatrix$Words") (T := T_Words) (N := 4) hx hb hts i_Words t_Words o_Words n_Words hown hK hP hD hS 0 rfl rfl 2 (by decide) (hts _ k2_23) (fun _ h9 => h9) rfl (by decide +kernel) rfl rfl (Nat.le_of_ble_eq_true rfl) d_Words_step_96 (fun H locs hP hD hS => ?_)
                    have hP : va_P (dC, dI) vwCl (wd_Words g h0 q0 e0_96 ++ wd_Text g (q0 0) q1 x1) H := by rw [he]; exact hP
                    have hD : va_D A (wd_Words g h0 q0 e0_96 ++ wd_Text g (q0 0) q1 x1) := by rw [he]; exact hD
                    refine lv_aload_n hx hb d_Words_step_99 rfl (lv_at hl 0 rfl) ?_
                    refine lv_dup hx hb d_Words_step_100 rfl ?_
                    refine va_get (D := (dC, dI)) (ci := 2) (v := .int (e0_96 3 0)) (C := "AlarmMatrix$Words") (T := T_Words) (N := 4) hx hb hts i_Words hown hK hP 0 rfl rfl 3 (by decide) (hts _ k2_24) (fun _ h9 => h9) rfl d_Words_step_101 ?_
                    refine lv_iconst (v := (1 : Int32)) hx hb d_Words_step_104 (by decide) ?_
                    refine lv_iadd hx hb d_Words_step_105 ?_
                    obtain ⟨e0_106, he, hm⟩ := lz_s hm
                    refine va_put (D := (dC, dI)) (ci := 2) (v := .int ((e0_96 3 0) + (1 : Int32))) (ty := .int) (C := "AlarmMatrix$Words") (T := T_Words) (N := 4) hx hb hts i_Words t_Words o_Words n_Words hown hK hP hD hS 0 rfl rfl 3 (by decide) (hts _ k2_24) (fun _ h9 => h9) rfl (by decide +kernel) rfl rfl (Nat.le_of_ble_eq_true rfl) d_Words_step_106 (fun H locs hP hD hS => ?_)
                    have hP : va_P (dC, dI) vwCl (wd_Words g h0 q0 e0_106 ++ wd_Text g (q0 0) q1 x1) H := by rw [he]; exact hP
                    have hD : va_D A (wd_Words g h0 q0 e0_106 ++ wd_Text g (q0 0) q1 x1) := by rw [he]; exact hD
                    obtain rfl := Option.some.inj hm
                    rw [hQ]
                    exact krv hx hb hr hlocks hAe hP hK hD hS d_Words_step_109
                  · replace hm := if_t hm hc
                    refine lv_iinc (v := (v2_63 + (1 : Int32))) (lv' := [(2, .int (v2_63 + (1 : Int32))), (0, .ref h0), (1, .int r4), (3, .int r56)]) hx hb d_Words_step_88 hl (k := 2) rfl rfl (by decide) rfl (fun ls hl => ?_)
                    refine lv_goto (tgt := 63) hx hb d_Words_step_91 (by decide) ?_
                    exact ih63 (v2_63 + (1 : Int32)) H locs ls hm hP hD hS (lv_sub hl [1, 2, 0, 3] rfl)
          exact L63 F (v2_13 + (1 : Int32)) H locs ls hm hP hD hS (lv_sub hl [2, 3, 0, 1] rfl)
      · replace hm := if_f hm hc
        refine lv_aload_n hx hb d_Words_step_18 rfl (lv_at hl 0 rfl) ?_
        refine va_get (D := (dC, dI)) (ci := 2) (v := .ref (q0 0)) (C := "AlarmMatrix$Words") (T := T_Words) (N := 4) hx hb hts i_Words hown hK hP 0 rfl rfl 0 (by decide) (hts _ k2_21) (fun _ h9 => h9) rfl d_Words_step_19 ?_
        refine lv_iload_n hx hb d_Words_step_22 rfl (lv_at hl 2 rfl) ?_
        obtain ⟨r23, hcl, hm⟩ := bn1_s hm
        refine kci (wc := wd_Text g (q0 0) q1 x1) (wr := wd_Words g h0 q0 x0) (w1 := wd_Text g (q0 0) q1 x1) hP hD hS hA [1, 2, 3] [0] rfl rfl (by decide) (by decide) (va_runV (As := [.int v2_13]) (rest := []) ⟨hx, hb, hml, hown, hts⟩ (c_Text_at hG hGn l dC dI g F H.size (q0 0) q1 x1 v2_13 hcl) (cwV 1 hts (gdV k2_71 k2_72 k2_73 k1_2 k2_74) rfl rfl rfl (by decide +kernel) ⟨Nat.le_of_ble_eq_true rfl, Nat.le_of_ble_eq_true rfl⟩) (kpV hG hP hK hD hS hA hGA [1, 2, 3] (by decide) rfl (ci := 1) (q0 := 0) rfl rfl rfl) rfl rfl hl.1 rfl (lv_room (Nat.le_of_ble_eq_true rfl)) d_Words_step_23 ⟨Nat.le_of_ble_eq_true rfl, Nat.le_of_ble_eq_true rfl⟩) (fun H locs hP hD hS => ?_)
        have hP : va_P (dC, dI) vwCl (wd_Words g h0 q0 x0 ++ wd_Text g (q0 0) q1 x1) H := hP
        have hD : va_D A (wd_Words g h0 q0 x0 ++ wd_Text g (q0 0) q1 x1) := hD
        obtain ⟨r26, hcl, hm⟩ := bn1_s hm
        refine kci (wc := ([] : va_W)) (wr := wd_Words g h0 q0 x0 ++ wd_Text g (q0 0) q1 x1) (w1 := ([] : va_W)) hP hD hS hA [] [0, 1, 2, 3] rfl rfl (by decide) (by decide) (va_runS (As := [.int r23]) (rest := []) ⟨hx, hb, hml, hown, hts⟩ (c_Words_kindOf hG hGn l dC dI g F H.size r23 hcl) (cwS 1 hts (gdS k2_75 k2_76 k1_21 k2_77) rfl rfl rfl (by decide +kernel) ⟨Nat.le_of_ble_eq_true rfl, Nat.le_of_ble_eq_true rfl⟩) (kpS hG hP hK hD hS hA hGA [] (by decide) rfl) rfl rfl hl.1 rfl (lv_room (Nat.le_of_ble_eq_true rfl)) d_Words_step_26 ⟨Nat.le_of_ble_eq_true rfl, Nat.le_of_ble_eq_true rfl⟩) (fun H locs hP hD hS => ?_)
        have hP : va_P (dC, dI) vwCl (wd_Words g h0 q0 x0 ++ wd_Text g (q0 0) q1 x1) H := hP
        have hD : va_D A (wd_Words g h0 q0 x0 ++ wd_Text g (q0 0) q1 x1) := hD
        refine lv_if_ne (tgt := 38) hx hb d_Words_step_29 (by decide) (fun hc => ?_) (fun hc => ?_)
        · replace hm := if_f hm hc
          refine lv_aload_n hx hb d_Words_step_38 rfl (lv_at hl 0 rfl) ?_
          refine lv_iload_n hx hb d_Words_step_39 rfl (lv_at hl 2 rfl) ?_
          obtain ⟨e0_40, he, hm⟩ := lz_s hm
          refine va_put (D := (dC, dI)) (ci := 2) (v := .int v2_13) (ty := .int) (C := "AlarmMatrix$Words") (T := T_Words) (N := 4) hx hb hts i_Words t_Words o_Words n_Words hown hK hP hD hS 0 rfl rfl 1 (by decide) (hts _ k2_22) (fun _ h9 => h9) rfl (by decide +kernel) rfl rfl (Nat.le_of_ble_eq_true rfl) d_Words_step_40 (fun H locs hP hD hS => ?_)
          have hP : va_P (dC, dI) vwCl (wd_Words g h0 q0 e0_40 ++ wd_Text g (q0 0) q1 x1) H := by rw [he]; exact hP
          have hD : va_D A (wd_Words g h0 q0 e0_40 ++ wd_Text g (q0 0) q1 x1) := by rw [he]; exact hD
          refine lv_iload_n hx hb d_Words_step_43 rfl (lv_at hl 2 rfl) ?_
          refine lv_iload_n hx hb d_Words_step_44 rfl (lv_at hl 1 rfl) ?_
          refine lv_icmp_ge (tgt := 94) hx hb d_Words_step_45 (by decide) (fun hc => ?_) (fun hc => ?_)
          · replace hm := if_t hm hc
            refine lv_aload_n hx hb d_Words_step_94 rfl (lv_at hl 0 rfl) ?_
            refine lv_iload_n hx hb d_Words_step_95 rfl (lv_at hl 2 rfl) ?_
            obtain ⟨e0_96, he, hm⟩ := lz_s hm
            refine va_put (D := (dC, dI)) (ci := 2) (v := .int v2_13) (ty := .int) (C := "AlarmMatrix$Words") (T := T_Words) (N := 4) hx hb hts i_Words t_Words o_Words n_Words hown hK hP hD hS 0 rfl rfl 2 (by decide) (hts _ k2_23) (fun _ h9 => h9) rfl (by decide +kernel) rfl rfl (Nat.le_of_ble_eq_true rfl) d_Words_step_96 (fun H locs hP hD hS => ?_)
            have hP : va_P (dC, dI) vwCl (wd_Words g h0 q0 e0_96 ++ wd_Text g (q0 0) q1 x1) H := by rw [he]; exact hP
            have hD : va_D A (wd_Words g h0 q0 e0_96 ++ wd_Text g (q0 0) q1 x1) := by rw [he]; exact hD
            refine lv_aload_n hx hb d_Words_step_99 rfl (lv_at hl 0 rfl) ?_
            refine lv_dup hx hb d_Words_step_100 rfl ?_
            refine va_get (D := (dC, dI)) (ci := 2) (v := .int (e0_96 3 0)) (C := "AlarmMatrix$Words") (T := T_Words) (N := 4) hx hb hts i_Words hown hK hP 0 rfl rfl 3 (by decide) (hts _ k2_24) (fun _ h9 => h9) rfl d_Words_step_101 ?_
            refine lv_iconst (v := (1 : Int32)) hx hb d_Words_step_104 (by decide) ?_
            refine lv_iadd hx hb d_Words_step_105 ?_
            obtain ⟨e0_106, he, hm⟩ := lz_s hm
            refine va_put (D := (dC, dI)) (ci := 2) (v := .int ((e0_96 3 0) + (1 : Int32))) (ty := .int) (C := "AlarmMatrix$Words") (T := T_Words) (N := 4) hx hb hts i_Words t_Words o_Words n_Words hown hK hP hD hS 0 rfl rfl 3 (by decide) (hts _ k2_24) (fun _ h9 => h9) rfl (by decide +kernel) rfl rfl (Nat.le_of_ble_eq_true rfl) d_Words_step_106 (fun H locs hP hD hS => ?_)
            have hP : va_P (dC, dI) vwCl (wd_Words g h0 q0 e0_106 ++ wd_Text g (q0 0) q1 x1) H := by rw [he]; exact hP
            have hD : va_D A (wd_Words g h0 q0 e0_106 ++ wd_Text g (q0 0) q1 x1) := by rw [he]; exact hD
            obtain rfl := Option.some.inj hm
            rw [hQ]
            exact krv hx hb hr hlocks hAe hP hK hD hS d_Words_step_109
          · replace hm := if_f hm hc
            refine lv_aload_n hx hb d_Words_step_48 rfl (lv_at hl 0 rfl) ?_
            refine va_get (D := (dC, dI)) (ci := 2) (v := .ref (q0 0)) (C := "AlarmMatrix$Words") (T := T_Words) (N := 4) hx hb hts i_Words hown hK hP 0 rfl rfl 0 (by decide) (hts _ k2_21) (fun _ h9 => h9) rfl d_Words_step_49 ?_
            refine lv_iload_n hx hb d_Words_step_52 rfl (lv_at hl 2 rfl) ?_
            obtain ⟨r53, hcl, hm⟩ := bn1_s hm
            refine kci (wc := wd_Text g (q0 0) q1 x1) (wr := wd_Words g h0 q0 e0_40) (w1 := wd_Text g (q0 0) q1 x1) hP hD hS hA [1, 2, 3] [0] rfl rfl (by decide) (by decide) (va_runV (As := [.int v2_13]) (rest := []) ⟨hx, hb, hml, hown, hts⟩ (c_Text_at hG hGn l dC dI g F H.size (q0 0) q1 x1 v2_13 hcl) (cwV 1 hts (gdV k2_71 k2_72 k2_73 k1_2 k2_74) rfl rfl rfl (by decide +kernel) ⟨Nat.le_of_ble_eq_true rfl, Nat.le_of_ble_eq_true rfl⟩) (kpV hG hP hK hD hS hA hGA [1, 2, 3] (by decide) rfl (ci := 1) (q0 := 0) rfl rfl rfl) rfl rfl hl.1 rfl (lv_room (Nat.le_of_ble_eq_true rfl)) d_Words_step_53 ⟨Nat.le_of_ble_eq_true rfl, Nat.le_of_ble_eq_true rfl⟩) (fun H locs hP hD hS => ?_)
            have hP : va_P (dC, dI) vwCl (wd_Words g h0 q0 e0_40 ++ wd_Text g (q0 0) q1 x1) H := hP
            have hD : va_D A (wd_Words g h0 q0 e0_40 ++ wd_Text g (q0 0) q1 x1) := hD
            obtain ⟨r56, hcl, hm⟩ := bn1_s hm
            refine kci (wc := ([] : va_W)) (wr := wd_Words g h0 q0 e0_40 ++ wd_Text g (q0 0) q1 x1) (w1 := ([] : va_W)) hP hD hS hA [] [0, 1, 2, 3] rfl rfl (by decide) (by decide) (va_runS (As := [.int r53]) (rest := []) ⟨hx, hb, hml, hown, hts⟩ (c_Words_kindOf hG hGn l dC dI g F H.size r53 hcl) (cwS 1 hts (gdS k2_75 k2_76 k1_21 k2_77) rfl rfl rfl (by decide +kernel) ⟨Nat.le_of_ble_eq_true rfl, Nat.le_of_ble_eq_true rfl⟩) (kpS hG hP hK hD hS hA hGA [] (by decide) rfl) rfl rfl hl.1 rfl (lv_room (Nat.le_of_ble_eq_true rfl)) d_Words_step_56 ⟨Nat.le_of_ble_eq_true rfl, Nat.le_of_ble_eq_true rfl⟩) (fun H locs hP hD hS => ?_)
            have hP : va_P (dC, dI) vwCl (wd_Words g h0 q0 e0_40 ++ wd_Text g (q0 0) q1 x1) H := hP
            have hD : va_D A (wd_Words g h0 q0 e0_40 ++ wd_Text g (q0 0) q1 x1) := hD
            refine lv_istore_n (lv' := [(3, .int r56), (0, .ref h0), (1, .int r4), (2, .int v2_13)]) hx hb d_Words_step_59 rfl hl (by decide) rfl (fun ls hl => ?_)
            refine lv_iinc (v := (v2_13 + (1 : Int32))) (lv' := [(2, .int (v2_13 + (1 : Int32))), (3, .int r56), (0, .ref h0), (1, .int r4)]) hx hb d_Words_step_60 hl (k := 3) rfl rfl (by decide) rfl (fun ls hl => ?_)
            have L63 : ∀ (n63 : Nat) (v2_63 : Int32) (H : Heap) (locs : List Loc) (ls : Array Slot), lq1 (m_Words_step_B63 F r4 r56 x1 (fun v2_63 => (lz (sc e0_40 2 v2_63) (fun e0_96 => (lz (sc e0_96 3 ((e0_96 3 0) + (1 : Int32))) (fun e0_106 => (some e0_106))))))) n63 v2_63 = some o → va_P (dC, dI) vwCl (wd_Words g h0 q0 e0_40 ++ wd_Text g (q0 0) q1 x1) H → va_D A (wd_Words g h0 q0 e0_40 ++ wd_Text g (q0 0) q1 x1) → va_S A s.heap H locs → lv_has ls 4 [(0, .ref h0), (1, .int r4), (2, .int v2_63), (3, .int r56)] → W p l e rm_Words_step s m args below meth c H locs 0 0 Q (F0 m 63 ls []) := by
              intro n63
              induction n63 with
              | zero => intro v2_63 H locs ls hm; exact absurd hm (by intro z; cases z)
              | succ n63 ih63 =>
                intro v2_63 H locs ls hm hP hD hS hl
                replace hm := m_Words_step_B63_h (lq1_h hm)
                refine lv_iload_n hx hb d_Words_step_63 rfl (lv_at hl 2 rfl) ?_
                refine lv_iload_n hx hb d_Words_step_64 rfl (lv_at hl 1 rfl) ?_
                refine lv_icmp_ge (tgt := 94) hx hb d_Words_step_65 (by decide) (fun hc => ?_) (fun hc => ?_)
                · replace hm := if_t hm hc
                  refine lv_aload_n hx hb d_Words_step_94 rfl (lv_at hl 0 rfl) ?_
                  refine lv_iload_n hx hb d_Words_step_95 rfl (lv_at hl 2 rfl) ?_
                  obtain ⟨e0_96, he, hm⟩ := lz_s hm
                  refine va_put (D := (dC, dI)) (ci := 2) (v := .int v2_63) (ty := .int) (C := "AlarmMatrix$Words") (T := T_Words) (N := 4) hx hb hts i_Words t_Words o_Words n_Words hown hK hP hD hS 0 rfl rfl 2 (by decide) (hts _ k2_23) (fun _ h9 => h9) rfl (by decide +kernel) rfl rfl (Nat.le_of_ble_eq_true rfl) d_Words_step_96 (fun H locs hP hD hS => ?_)
                  have hP : va_P (dC, dI) vwCl (wd_Words g h0 q0 e0_96 ++ wd_Text g (q0 0) q1 x1) H := by rw [he]; exact hP
                  have hD : va_D A (wd_Words g h0 q0 e0_96 ++ wd_Text g (q0 0) q1 x1) := by rw [he]; exact hD
                  refine lv_aload_n hx hb d_Words_step_99 rfl (lv_at hl 0 rfl) ?_
                  refine lv_dup hx hb d_Words_step_100 rfl ?_
                  refine va_get (D := (dC, dI)) (ci := 2) (v := .int (e0_96 3 0)) (C := "AlarmMatrix$Words") (T := T_Words) (N := 4) hx hb hts i_Words hown hK hP 0 rfl rfl 3 (by decide) (hts _ k2_24) (fun _ h9 => h9) rfl d_Words_step_101 ?_
                  refine lv_iconst (v := (1 : Int32)) hx hb d_Words_step_104 (by decide) ?_
                  refine lv_iadd hx hb d_Words_step_105 ?_
                  obtain ⟨e0_106, he, hm⟩ := lz_s hm
                  refine va_put (D := (dC, dI)) (ci := 2) (v := .int ((e0_96 3 0) + (1 : Int32))) (ty := .int) (C := "AlarmMatrix$Words") (T := T_Words) (N := 4) hx hb hts i_Words t_Words o_Words n_Words hown hK hP hD hS 0 rfl rfl 3 (by decide) (hts _ k2_24) (fun _ h9 => h9) rfl (by decide +kernel) rfl rfl (Nat.le_of_ble_eq_true rfl) d_Words_step_106 (fun H locs hP hD hS => ?_)
                  have hP : va_P (dC, dI) vwCl (wd_Words g h0 q0 e0_106 ++ wd_Text g (q0 0) q1 x1) H := by rw [he]; exact hP
                  have hD : va_D A (wd_Words g h0 q0 e0_106 ++ wd_Text g (q0 0) q1 x1) := by rw [he]; exact hD
                  obtain rfl := Option.some.inj hm
                  rw [hQ]
                  exact krv hx hb hr hlocks hAe hP hK hD hS d_Words_step_109
                · replace hm := if_f hm hc
                  refine lv_iload_n hx hb d_Words_step_68 rfl (lv_at hl 3 rfl) ?_
                  refine lv_iconst (v := (3 : Int32)) hx hb d_Words_step_69 (by decide) ?_
                  refine lv_icmp_eq (tgt := 94) hx hb d_Words_step_70 (by decide) (fun hc => ?_) (fun hc => ?_)
                  · replace hm := if_t hm hc
                    refine lv_aload_n hx hb d_Words_step_94 rfl (lv_at hl 0 rfl) ?_
                    refine lv_iload_n hx hb d_Words_step_95 rfl (lv_at hl 2 rfl) ?_
                    obtain ⟨e0_96, he, hm⟩ := lz_s hm
                    refine va_put (D := (dC, dI)) (ci := 2) (v := .int v2_63) (ty := .int) (C := "AlarmMatrix$Words") (T := T_Words) (N := 4) hx hb hts i_Words t_Words o_Words n_Words hown hK hP hD hS 0 rfl rfl 2 (by decide) (hts _ k2_23) (fun _ h9 => h9) rfl (by decide +kernel) rfl rfl (Nat.le_of_ble_eq_true rfl) d_Words_step_96 (fun H locs hP hD hS => ?_)
                    have hP : va_P (dC, dI) vwCl (wd_Words g h0 q0 e0_96 ++ wd_Text g (q0 0) q1 x1) H := by rw [he]; exact hP
                    have hD : va_D A (wd_Words g h0 q0 e0_96 ++ wd_Text g (q0 0) q1 x1) := by rw [he]; exact hD
                    refine lv_aload_n hx hb d_Words_step_99 rfl (lv_at hl 0 rfl) ?_
                    refine lv_dup hx hb d_Words_step_100 rfl ?_
                    refine va_get (D := (dC, dI)) (ci := 2) (v := .int (e0_96 3 0)) (C := "AlarmMatrix$Words") (T := T_Words) (N := 4) hx hb hts i_Words hown hK hP 0 rfl rfl 3 (by decide) (hts _ k2_24) (fun _ h9 => h9) rfl d_Words_step_101 ?_
                    refine lv_iconst (v := (1 : Int32)) hx hb d_Words_step_104 (by decide) ?_
                    refine lv_iadd hx hb d_Words_step_105 ?_
                    obtain ⟨e0_106, he, hm⟩ := lz_s hm
                    refine va_put (D := (dC, dI)) (ci := 2) (v := .int ((e0_96 3 0) + (1 : Int32))) (ty := .int) (C := "AlarmMatrix$Words") (T := T_Words) (N := 4) hx hb hts i_Words t_Words o_Words n_Words hown hK hP hD hS 0 rfl rfl 3 (by decide) (hts _ k2_24) (fun _ h9 => h9) rfl (by decide +kernel) rfl rfl (Nat.le_of_ble_eq_true rfl) d_Words_step_106 (fun H locs hP hD hS => ?_)
                    have hP : va_P (dC, dI) vwCl (wd_Words g h0 q0 e0_106 ++ wd_Text g (q0 0) q1 x1) H := by rw [he]; exact hP
                    have hD : va_D A (wd_Words g h0 q0 e0_106 ++ wd_Text g (q0 0) q1 x1) := by rw [he]; exact hD
                    obtain rfl := Option.some.inj hm
                    rw [hQ]
                    exact krv hx hb hr hlocks hAe hP hK hD hS d_Words_step_109
                  · replace hm := if_f hm hc
                    refine lv_aload_n hx hb d_Words_step_73 rfl (lv_at hl 0 rfl) ?_
                    refine va_get (D := (dC, dI)) (ci := 2) (v := .ref (q0 0)) (C := "AlarmMatrix$Words") (T := T_Words) (N := 4) hx hb hts i_Words hown hK hP 0 rfl rfl 0 (by decide) (hts _ k2_21) (fun _ h9 => h9) rfl d_Words_step_74 ?_
                    refine lv_iload_n hx hb d_Words_step_77 rfl (lv_at hl 2 rfl) ?_
                    obtain ⟨r78, hcl, hm⟩ := bn1_s hm
                    refine kci (wc := wd_Text g (q0 0) q1 x1) (wr := wd_Words g h0 q0 e0_40) (w1 := wd_Text g (q0 0) q1 x1) hP hD hS hA [1, 2, 3] [0] rfl rfl (by decide) (by decide) (va_runV (As := [.int v2_63]) (rest := []) ⟨hx, hb, hml, hown, hts⟩ (c_Text_at hG hGn l dC dI g F H.size (q0 0) q1 x1 v2_63 hcl) (cwV 1 hts (gdV k2_71 k2_72 k2_73 k1_2 k2_74) rfl rfl rfl (by decide +kernel) ⟨Nat.le_of_ble_eq_true rfl, Nat.le_of_ble_eq_true rfl⟩) (kpV hG hP hK hD hS hA hGA [1, 2, 3] (by decide) rfl (ci := 1) (q0 := 0) rfl rfl rfl) rfl rfl hl.1 rfl (lv_room (Nat.le_of_ble_eq_true rfl)) d_Words_step_78 ⟨Nat.le_of_ble_eq_true rfl, Nat.le_of_ble_eq_true rfl⟩) (fun H locs hP hD hS => ?_)
                    have hP : va_P (dC, dI) vwCl (wd_Words g h0 q0 e0_40 ++ wd_Text g (q0 0) q1 x1) H := hP
                    have hD : va_D A (wd_Words g h0 q0 e0_40 ++ wd_Text g (q0 0) q1 x1) := hD
                    obtain ⟨r81, hcl, hm⟩ := bn1_s hm
                    refine kci (wc := ([] : va_W)) (wr := wd_Words g h0 q0 e0_40 ++ wd_Text g (q0 0) q1 x1) (w1 := ([] : va_W)) hP hD hS hA [] [0, 1, 2, 3] rfl rfl (by decide) (by decide) (va_runS (As := [.int r78]) (rest := []) ⟨hx, hb, hml, hown, hts⟩ (c_Words_kindOf hG hGn l dC dI g F H.size r78 hcl) (cwS 1 hts (gdS k2_75 k2_76 k1_21 k2_77) rfl rfl rfl (by decide +kernel) ⟨Nat.le_of_ble_eq_true rfl, Nat.le_of_ble_eq_true rfl⟩) (kpS hG hP hK hD hS hA hGA [] (by decide) rfl) rfl rfl hl.1 rfl (lv_room (Nat.le_of_ble_eq_true rfl)) d_Words_step_81 ⟨Nat.le_of_ble_eq_true rfl, Nat.le_of_ble_eq_true rfl⟩) (fun H locs hP hD hS => ?_)
                    have hP : va_P (dC, dI) vwCl (wd_Words g h0 q0 e0_40 ++ wd_Text g (q0 0) q1 x1) H := hP
                    have hD : va_D A (wd_Words g h0 q0 e0_40 ++ wd_Text g (q0 0) q1 x1) := hD
                    refine lv_iload_n hx hb d_Words_step_84 rfl (lv_at hl 3 rfl) ?_
                    refine lv_icmp_ne (tgt := 94) hx hb d_Words_step_85 (by decide) (fun hc => ?_) (fun hc => ?_)
                    · replace hm := if_f hm hc
                      refine lv_aload_n hx hb d_Words_step_94 rfl (lv_at hl 0 rfl) ?_
                      refine lv_iload_n hx hb d_Words_step_95 rfl (lv_at hl 2 rfl) ?_
                      obtain ⟨e0_96, he, hm⟩ := lz_s hm
                      refine va_put (D := (dC, dI)) (ci := 2) (v := .int v2_63) (ty := .int) (C := "AlarmMatrix$Words") (T := T_Words) (N := 4) hx hb hts i_Words t_Words o_Words n_Words hown hK hP hD hS 0 rfl rfl 2 (by decide) (hts _ k2_23) (fun _ h9 => h9) rfl (by decide +kernel) rfl rfl (Nat.le_of_ble_eq_true rfl) d_Words_step_96 (fun H locs hP hD hS => ?_)
                      have hP : va_P (dC, dI) vwCl (wd_Words g h0 q0 e0_96 ++ wd_Text g (q0 0) q1 x1) H := by rw [he]; exact hP
                      have hD : va_D A (wd_Words g h0 q0 e0_96 ++ wd_Text g (q0 0) q1 x1) := by rw [he]; exact hD
                      refine lv_aload_n hx hb d_Words_step_99 rfl (lv_at hl 0 rfl) ?_
                      refine lv_dup hx hb d_Words_step_100 rfl ?_
                      refine va_get (D := (dC, dI)) (ci := 2) (v := .int (e0_96 3 0)) (C := "AlarmMatrix$Words") (T := T_Words) (N := 4) hx hb hts i_Words hown hK hP 0 rfl rfl 3 (by decide) (hts _ k2_24) (fun _ h9 => h9) rfl d_Words_step_101 ?_
                      refine lv_iconst (v := (1 : Int32)) hx hb d_Words_step_104 (by decide) ?_
                      refine lv_iadd hx hb d_Words_step_105 ?_
                      obtain ⟨e0_106, he, hm⟩ := lz_s hm
                      refine va_put (D := (dC, dI)) (ci := 2) (v := .int ((e0_96 3 0) + (1 : Int32))) (ty := .int) (C := "AlarmMatrix$Words") (T := T_Words) (N := 4) hx hb hts i_Words t_Words o_Words n_Words hown hK hP hD hS 0 rfl rfl 3 (by decide) (hts _ k2_24) (fun _ h9 => h9) rfl (by decide +kernel) rfl rfl (Nat.le_of_ble_eq_true rfl) d_Words_step_106 (fun H locs hP hD hS => ?_)
                      have hP : va_P (dC, dI) vwCl (wd_Words g h0 q0 e0_106 ++ wd_Text g (q0 0) q1 x1) H := by rw [he]; exact hP
                      have hD : va_D A (wd_Words g h0 q0 e0_106 ++ wd_Text g (q0 0) q1 x1) := by rw [he]; exact hD
                      obtain rfl := Option.some.inj hm
                      rw [hQ]
                      exact krv hx hb hr hlocks hAe hP hK hD hS d_Words_step_109
                    · replace hm := if_t hm hc
                      refine lv_iinc (v := (v2_63 + (1 : Int32))) (lv' := [(2, .int (v2_63 + (1 : Int32))), (0, .ref h0), (1, .int r4), (3, .int r56)]) hx hb d_Words_step_88 hl (k := 2) rfl rfl (by decide) rfl (fun ls hl => ?_)
                      refine lv_goto (tgt := 63) hx hb d_Words_step_91 (by decide) ?_
                      exact ih63 (v2_63 + (1 : Int32)) H locs ls hm hP hD hS (lv_sub hl [1, 2, 0, 3] rfl)
            exact L63 F (v2_13 + (1 : Int32)) H locs ls hm hP hD hS (lv_sub hl [2, 3, 0, 1] rfl)
        · replace hm := if_t hm hc
          refine lv_iinc (v := (v2_13 + (1 : Int32))) (lv' := [(2, .int (v2_13 + (1 : Int32))), (0, .ref h0), (1, .int r4)]) hx hb d_Words_step_32 hl (k := 2) rfl rfl (by decide) rfl (fun ls hl => ?_)
          refine lv_goto (tgt := 13) hx hb d_Words_step_35 (by decide) ?_
          exact ih13 (v2_13 + (1 : Int32)) H locs ls hm hP hD hS (lv_sub hl [1, 2, 0] rfl)
  exact L13 F (x0 2 0) H locs ls hm hP hD hS (lv_sub hl [2, 1, 0] rfl)
abbrev b_Words_is : ByteArray := prog_9_method_5_code
abbrev y_Words_is : MethodName := ⟨"AlarmMatrix$Words", "is", "(Ljava/lang/String;)Z"⟩
theorem d_Words_is_0 : decode b_Words_is 0 = .ok (.aload_n 0, 1) := by decide +kernel
theorem d_Words_is_1 : decode b_Words_is 1 = .ok (.getfield 15, 3) := by decide +kernel
theorem d_Words_is_4 : decode b_Words_is 4 = .ok (.aload_n 0, 1) := by decide +kernel
theorem d_Words_is_5 : decode b_Words_is 5 = .ok (.getfield 9, 3) := by decide +kernel
theorem d_Words_is_8 : decode b_Words_is 8 = .ok (.isub, 1) := by decide +kernel
theorem d_Words_is_9 : decode b_Words_is 9 = .ok (.aload_n 1, 1) := by decide +kernel
theorem d_Words_is_10 : decode b_Words_is 10 = .ok (.invokevirtual 39, 3) := by decide +kernel
theorem d_Words_is_13 : decode b_Words_is 13 = .ok (.if_icmp .eq 5, 3) := by decide +kernel
theorem d_Words_is_16 : decode b_Words_is 16 = .ok (.iconst 0, 1) := by decide +kernel
theorem d_Words_is_17 : decode b_Words_is 17 = .ok (.ireturn, 1) := by decide +kernel
theorem d_Words_is_18 : decode b_Words_is 18 = .ok (.iconst 0, 1) := by decide +kernel
theorem d_Words_is_19 : decode b_Words_is 19 = .ok (.istore_n 2, 1) := by decide +kernel
theorem d_Words_is_20 : decode b_Words_is 20 = .ok (.iload_n 2, 1) := by decide +kernel
theorem d_Words_is_21 : decode b_Words_is 21 = .ok (.aload_n 1, 1) := by decide +kernel
theorem d_Words_is_22 : decode b_Words_is 22 = .ok (.invokevirtual 39, 3) := by decide +kernel
theorem d_Words_is_25 : decode b_Words_is 25 = .ok (.if_icmp .ge 32, 3) := by decide +kernel
theorem d_Words_is_28 : decode b_Words_is 28 = .ok (.aload_n 0, 1) := by decide +kernel
theorem d_Words_is_29 : decode b_Words_is 29 = .ok (.getfield 21, 3) := by decide +kernel
theorem d_Words_is_32 : decode b_Words_is 32 = .ok (.aload_n 0, 1) := by decide +kernel
theorem d_Words_is_33 : decode b_Words_is 33 = .ok (.getfield 9, 3) := by decide +kernel
theorem d_Words_is_36 : decode b_Words_is 36 = .ok (.iload_n 2, 1) := by decide +kernel
theorem d_Words_is_37 : decode b_Words_is 37 = .ok (.iadd, 1) := by decide +kernel
theorem d_Words_is_38 : decode b_Words_is 38 = .ok (.invokevirtual 31, 3) := by decide +kernel
theorem d_Words_is_41 : decode b_Words_is 41 = .ok (.aload_n 1, 1) := by decide +kernel
theorem d_Words_is_42 : decode b_Words_is 42 = .ok (.iload_n 2, 1) := by decide +kernel
theorem d_Words_is_43 : decode b_Words_is 43 = .ok (.invokevirtual 44, 3) := by decide +kernel
theorem d_Words_is_46 : decode b_Words_is 46 = .ok (.if_icmp .eq 5, 3) := by decide +kernel
theorem d_Words_is_49 : decode b_Words_is 49 = .ok (.iconst 0, 1) := by decide +kernel
theorem d_Words_is_50 : decode b_Words_is 50 = .ok (.ireturn, 1) := by decide +kernel
theorem d_Words_is_51 : decode b_Words_is 51 = .ok (.iinc 2 1, 3) := by decide +kernel
theorem d_Words_is_54 : decode b_Words_is 54 = .ok (.goto (-34), 3) := by decide +kernel
theorem d_Words_is_57 : decode b_Words_is 57 = .ok (.iconst 1, 1) := by decide +kernel
theorem d_Words_is_58 : decode b_Words_is 58 = .ok (.ireturn, 1) := by decide +kernel
def m_Words_is_B20 {R : Type} (F : Nat) (w1 : Nat) (x1 : St) (x0 : St) (k20_49 : Int32 → Option R) (k20_57 : Int32 → Option R) (rec20 : Int32 → Option R) (v2_20 : Int32) : Option R :=
  (if (nI (lnS w1)) ≤ v2_20 then (k20_57 v2_20) else (bn1 (m_Text_at F x1 ((x0 1 0) + v2_20)) (fun r38 => (ck v2_20 (lnS w1) (if r38 = (chS w1 v2_20.toNatClampNeg) then (rec20 (v2_20 + (1 : Int32))) else (k20_49 v2_20))))))
theorem m_Words_is_B20_h {R : Type} {F : Nat} {w1 : Nat} {x1 : St} {x0 : St} {k20_49 : Int32 → Option R} {k20_57 : Int32 → Option R} {rec20 : Int32 → Option R} {v2_20 : Int32} {o : R} (h : m_Words_is_B20 F w1 x1 x0 k20_49 k20_57 rec20 v2_20 = some o) :
  (if (nI (lnS w1)) ≤ v2_20 then (k20_57 v2_20) else (bn1 (m_Text_at F x1 ((x0 1 0) + v2_20)) (fun r38 => (ck v2_20 (lnS w1) (if r38 = (chS w1 v2_20.toNatClampNeg) then (rec20 (v2_20 + (1 : Int32))) else (k20_49 v2_20)))))) = some o := h
def m_Words_is (F : Nat) (x0 : St) (x1 : St) (w1 : Nat) : Option (Int32) :=
  (if ((x0 2 0) - (x0 1 0)) = (nI (lnS w1)) then (lq1 (m_Words_is_B20 F w1 x1 x0 (fun v2_20 => (some (0 : Int32))) (fun v2_20 => (some (1 : Int32)))) F (0 : Int32)) else (some (0 : Int32)))
abbrev rm_Words_is : Room := { frames := 4, cells := 0, slots := 0, locals := 85 }
set_option maxHeartbeats 4000000 in
set_option maxRecDepth 100000 in
theorem c_Words_is {G : (Nat → Prop) → State → Prop} (hG : gok G) (hGn : gN G) {adK adV : Nat → Nat} (hGs : gSt adK adV G) (l : Launch) (dC : Nat → ClassId) (dI : Nat → Nat → Nat) (g : Nat → ClassId) (F : Nat) (sz : Nat) (h0 : Nat) (q0 : Nat → Nat) (x0 : St) (q1 : Nat → Nat) (x1 : St) (w1 : Nat) (hw1 : w1 < nS) {o : Int32} (hm : m_Words_is F x0 x1 w1 = some o) : Met l y_Words_is (.code y_Words_is b_Words_is 3 (some .boolean) :: gw) rm_Words_is (kq (dC, dI) vwCl (tyv g) G [.ref h0, .ref (adK w1)] sz (wd_Words g h0 q0 x0 ++ wd_Text g (q0 0) q1 x1)) (kqi (dC, dI) vwCl (tyv g) (wd_Words g h0 q0 x0 ++ wd_Text g (q0 0) q1 x1) o (wd_Words g h0 q0 x0 ++ wd_Text g (q0 0) q1 x1) sz) 0 0 (va_A (wd_Words g h0 q0 x0 ++ wd_Text g (q0 0) q1 x1) sz) := by
  unfold m_Words_is at hm
  refine km (Qc := fun sz => kqi (dC, dI) vwCl (tyv g) (wd_Words g h0 q0 x0 ++ wd_Text g (q0 0) q1 x1) o (wd_Words g h0 q0 x0 ++ wd_Text g (q0 0) q1 x1) sz) (cc := b_Words_is) (maxL := 3) (ret := some .boolean) (by decide) rfl (Nat.le_of_ble_eq_true rfl) ?_
  intro p e s m args below meth c Q hQ hx hb hr hts hown hlocks hml hnm H locs A hAe hA hP hK hD hS hGA ls hl
  have hl : lv_has ls 3 [(0, .ref h0), (1, .ref (adK w1))] := hl
  have hts : ∀ w ∈ gw, w.before args s = true := fun w h => hts w (List.mem_cons_of_mem _ h)
  have hown : s.vm.findClass "AlarmMatrix$Words" = some m.cls := hown
  refine lv_aload_n hx hb d_Words_is_0 rfl (lv_at hl 0 rfl) ?_
  refine va_get (D := (dC, dI)) (ci := 2) (v := .int (x0 2 0)) (C := "AlarmMatrix$Words") (T := T_Words) (N := 4) hx hb hts i_Words hown hK hP 0 rfl rfl 2 (by decide) (hts _ k2_23) (fun _ h9 => h9) rfl d_Words_is_1 ?_
  refine lv_aload_n hx hb d_Words_is_4 rfl (lv_at hl 0 rfl) ?_
  refine va_get (D := (dC, dI)) (ci := 2) (v := .int (x0 1 0)) (C := "AlarmMatrix$Words") (T := T_Words) (N := 4) hx hb hts i_Words hown hK hP 0 rfl rfl 1 (by decide) (hts _ k2_22) (fun _ h9 => h9) rfl d_Words_is_5 ?_
  refine lv_isub hx hb d_Words_is_8 ?_
  refine lv_aload_n hx hb d_Words_is_9 rfl (lv_at hl 1 rfl) ?_
  refine kci (wc := []) (wr := wd_Words g h0 q0 x0 ++ wd_Text g (q0 0) q1 x1) (w1 := []) hP hD hS hA [] [0, 1, 2, 3] rfl rfl (by decide) (by decide) (va_runV (As := []) (rest := [.int ((x0 2 0) - (x0 1 0))]) ⟨hx, hb, hml, hown, hts⟩ (c_Str_length hG hGs l dC dI g H.size w1 hw1) (cwV 0 hts (gdV k2_91 k2_92 k2_93 k1_16 k2_94) rfl rfl rfl (by decide +kernel) ⟨Nat.le_of_ble_eq_true rfl, Nat.le_of_ble_eq_true rfl⟩) (kpK hG ((hGs A s hGA).1 w1 hw1).1 hP hK hD hS hA hGA) rfl rfl hl.1 rfl (lv_room (Nat.le_of_ble_eq_true rfl)) d_Words_is_10 ⟨Nat.le_of_ble_eq_true rfl, Nat.le_of_ble_eq_true rfl⟩) (fun H locs hP hD hS => ?_)
  have hP : va_P (dC, dI) vwCl (wd_Words g h0 q0 x0 ++ wd_Text g (q0 0) q1 x1) H := hP
  have hD : va_D A (wd_Words g h0 q0 x0 ++ wd_Text g (q0 0) q1 x1) := hD
  refine lv_icmp_eq (tgt := 18) hx hb d_Words_is_13 (by decide) (fun hc => ?_) (fun hc => ?_)
  · replace hm := if_t hm hc
    refine lv_iconst (v := (0 : Int32)) hx hb d_Words_is_18 (by decide) ?_
    refine lv_istore_n (lv' := [(2, .int (0 : Int32)), (0, .ref h0), (1, .ref (adK w1))]) hx hb d_Words_is_19 rfl hl (by decide) rfl (fun ls hl => ?_)
    have L20 : ∀ (n20 : Nat) (v2_20 : Int32) (H : Heap) (locs : List Loc) (ls : Array Slot), lq1 (m_Words_is_B20 F w1 x1 x0 (fun v2_20 => (some (0 : Int32))) (fun v2_20 => (some (1 : Int32)))) n20 v2_20 = some o → va_P (dC, dI) vwCl (wd_Words g h0 q0 x0 ++ wd_Text g (q0 0) q1 x1) H → va_D A (wd_Words g h0 q0 x0 ++ wd_Text g (q0 0) q1 x1) → va_S A s.heap H locs → lv_has ls 3 [(0, .ref h0), (1, .ref (adK w1)), (2, .int v2_20)] → W p l e rm_Words_is s m args below meth c H locs 0 0 Q (F0 m 20 ls []) := by
      intro n20
      induction n20 with
      | zero => intro v2_20 H locs ls hm; exact absurd hm (by intro z; cases z)
      | succ n20 ih20 =>
        intro v2_20 H locs ls hm hP hD hS hl
        replace hm := m_Words_is_B20_h (lq1_h hm)
        refine lv_iload_n hx hb d_Words_is_20 rfl (lv_at hl 2 rfl) ?_
        refine lv_aload_n hx hb d_Words_is_21 rfl (lv_at hl 1 rfl) ?_
        refine kci (wc := []) (wr := wd_Words g h0 q0 x0 ++ wd_Text g (q0 0) q1 x1) (w1 := []) hP hD hS hA [] [0, 1, 2, 3] rfl rfl (by decide) (by decide) (va_runV (As := []) (rest := [.int v2_20]) ⟨hx, hb, hml, hown, hts⟩ (c_Str_length hG hGs l dC dI g H.size w1 hw1) (cwV 0 hts (gdV k2_91 k2_92 k2_93 k1_16 k2_94) rfl rfl rfl (by decide +kernel) ⟨Nat.le_of_ble_eq_true rfl, Nat.le_of_ble_eq_true rfl⟩) (kpK hG ((hGs A s hGA).1 w1 hw1).1 hP hK hD hS hA hGA) rfl rfl hl.1 rfl (lv_room (Nat.le_of_ble_eq_true rfl)) d_Words_is_22 ⟨Nat.le_of_ble_eq_true rfl, Nat.le_of_ble_eq_true rfl⟩) (fun H locs hP hD hS => ?_)
        have hP : va_P (dC, dI) vwCl (wd_Words g h0 q0 x0 ++ wd_Text g (q0 0) q1 x1) H := hP
        have hD : va_D A (wd_Words g h0 q0 x0 ++ wd_Text g (q0 0) q1 x1) := hD
        refine lv_icmp_ge (tgt := 57) hx hb d_Words_is_25 (by decide) (fun hc => ?_) (fun hc => ?_)
        · replace hm := if_t hm hc
          refine lv_iconst (v := (1 : Int32)) hx hb d_Words_is_57 (by decide) ?_
          obtain rfl := Option.some.inj hm
          rw [hQ]
          exact krz hx hb hr nar_1 hlocks hAe hP hK hD hS d_Words_is_58
        · replace hm := if_f hm hc
          refine lv_aload_n hx hb d_Words_is_28 rfl (lv_at hl 0 rfl) ?_
          refine va_get (D := (dC, dI)) (ci := 2) (v := .ref (q0 0)) (C := "AlarmMatrix$Words") (T := T_Words) (N := 4) hx hb hts i_Words hown hK hP 0 rfl rfl 0 (by decide) (hts _ k2_21) (fun _ h9 => h9) rfl d_Words_is_29 ?_
          refine lv_aload_n hx hb d_Words_is_32 rfl (lv_at hl 0 rfl) ?_
          refine va_get (D := (dC, dI)) (ci := 2) (v := .int (x0 1 0)) (C := "AlarmMatrix$Words") (T := T_Words) (N := 4) hx hb hts i_Words hown hK hP 0 rfl rfl 1 (by decide) (hts _ k2_22) (fun _ h9 => h9) rfl d_Words_is_33 ?_
          refine lv_iload_n hx hb d_Words_is_36 rfl (lv_at hl 2 rfl) ?_
          refine lv_iadd hx hb d_Words_is_37 ?_
          obtain ⟨r38, hcl, hm⟩ := bn1_s hm
          refine kci (wc := wd_Text g (q0 0) q1 x1) (wr := wd_Words g h0 q0 x0) (w1 := wd_Text g (q0 0) q1 x1) hP hD hS hA [1, 2, 3] [0] rfl rfl (by decide) (by decide) (va_runV (As := [.int ((x0 1 0) + v2_20)]) (rest := []) ⟨hx, hb, hml, hown, hts⟩ (c_Text_at hG hGn l dC dI g F H.size (q0 0) q1 x1 ((x0 1 0) + v2_20) hcl) (cwV 1 hts (gdV k2_71 k2_72 k2_73 k1_2 k2_74) rfl rfl rfl (by decide +kernel) ⟨Nat.le_of_ble_eq_true rfl, Nat.le_of_ble_eq_true rfl⟩) (kpV hG hP hK hD hS hA hGA [1, 2, 3] (by decide) rfl (ci := 1) (q0 := 0) rfl rfl rfl) rfl rfl hl.1 rfl (lv_room (Nat.le_of_ble_eq_true rfl)) d_Words_is_38 ⟨Nat.le_of_ble_eq_true rfl, Nat.le_of_ble_eq_true rfl⟩) (fun H locs hP hD hS => ?_)
          have hP : va_P (dC, dI) vwCl (wd_Words g h0 q0 x0 ++ wd_Text g (q0 0) q1 x1) H := hP
          have hD : va_D A (wd_Words g h0 q0 x0 ++ wd_Text g (q0 0) q1 x1) := hD
          refine lv_aload_n hx hb d_Words_is_41 rfl (lv_at hl 1 rfl) ?_
          refine lv_iload_n hx hb d_Words_is_42 rfl (lv_at hl 2 rfl) ?_
          obtain ⟨h_43, hm⟩ := ck_s hm
          refine kci (wc := []) (wr := wd_Words g h0 q0 x0 ++ wd_Text g (q0 0) q1 x1) (w1 := []) hP hD hS hA [] [0, 1, 2, 3] rfl rfl (by decide) (by decide) (va_runV (As := [.int v2_20]) (rest := [.int r38]) ⟨hx, hb, hml, hown, hts⟩ (c_Str_charAtI hG hGs l dC dI g H.size w1 hw1 v2_20 h_43) (cwV 1 hts (gdV k2_101 k2_102 k2_103 k1_16 k2_104) rfl rfl rfl (by decide +kernel) ⟨Nat.le_of_ble_eq_true rfl, Nat.le_of_ble_eq_true rfl⟩) (kpK hG ((hGs A s hGA).1 w1 hw1).1 hP hK hD hS hA hGA) rfl rfl hl.1 rfl (lv_room (Nat.le_of_ble_eq_true rfl)) d_Words_is_43 ⟨Nat.le_of_ble_eq_true rfl, Nat.le_of_ble_eq_true rfl⟩) (fun H locs hP hD hS => ?_)
          have hP : va_P (dC, dI) vwCl (wd_Words g h0 q0 x0 ++ wd_Text g (q0 0) q1 x1) H := hP
          have hD : va_D A (wd_Words g h0 q0 x0 ++ wd_Text g (q0 0) q1 x1) := hD
          refine lv_icmp_eq (tgt := 51) hx hb d_Words_is_46 (by decide) (fun hc => ?_) (fun hc => ?_)
          · replace hm := if_t hm hc
            refine lv_iinc (v := (v2_20 + (1 : Int32))) (lv' := [(2, .int (v2_20 + (1 : Int32))), (0, .ref h0), (1, .ref (adK w1))]) hx hb d_Words_is_51 hl (k := 2) rfl rfl (by decide) rfl (fun ls hl => ?_)
            refine lv_goto (tgt := 20) hx hb d_Words_is_54 (by decide) ?_
            exact ih20 (v2_20 + (1 : Int32)) H locs ls hm hP hD hS (lv_sub hl [1, 2, 0] rfl)
          · replace hm := if_f hm hc
            refine lv_iconst (v := (0 : Int32)) hx hb d_Words_is_49 (by decide) ?_
            obtain rfl := Option.some.inj hm
            rw [hQ]
            exact krz hx hb hr nar_0 hlocks hAe hP hK hD hS d_Words_is_50
    exact L20 F (0 : Int32) H locs ls hm hP hD hS (lv_sub hl [1, 2, 0] rfl)
  · replace hm := if_f hm hc
    refine lv_iconst (v := (0 : Int32)) hx hb d_Words_is_16 (by decide) ?_
    obtain rfl := Option.some.inj hm
    rw [hQ]
    exact krz hx hb hr nar_0 hlocks hAe hP hK hD hS d_Words_is_17
abbrev b_Words_stepTo : ByteArray := prog_9_method_6_code
abbrev y_Words_stepTo : MethodName := ⟨"AlarmMatrix$Words", "stepTo", "(Ljava/lang/String;)Z"⟩
theorem d_Words_stepTo_0 : decode b_Words_stepTo 0 = .ok (.aload_n 0, 1) := by decide +kernel
theorem d_Words_stepTo_1 : decode b_Words_stepTo 1 = .ok (.invokevirtual 47, 3) := by decide +kernel
theorem d_Words_stepTo_4 : decode b_Words_stepTo 4 = .ok (.aload_n 0, 1) := by decide +kernel
theorem d_Words_stepTo_5 : decode b_Words_stepTo 5 = .ok (.aload_n 1, 1) := by decide +kernel
theorem d_Words_stepTo_6 : decode b_Words_stepTo 6 = .ok (.invokevirtual 50, 3) := by decide +kernel
theorem d_Words_stepTo_9 : decode b_Words_stepTo 9 = .ok (.ireturn, 1) := by decide +kernel
def m_Words_stepTo (F : Nat) (x0 : St) (x1 : St) (w1 : Nat) : Option (Int32 × St) :=
  (bn1 (m_Words_step F x0 x1) (fun z0_1 => (bn1 (m_Words_is F z0_1 x1 w1) (fun r6 => (ckb r6 (some (r6, z0_1)))))))
abbrev rm_Words_stepTo : Room := { frames := 5, cells := 0, slots := 0, locals := 107 }
set_option maxHeartbeats 4000000 in
set_option maxRecDepth 100000 in
theorem c_Words_stepTo {G : (Nat → Prop) → State → Prop} (hG : gok G) (hGn : gN G) {adK adV : Nat → Nat} (hGs : gSt adK adV G) (l : Launch) (dC : Nat → ClassId) (dI : Nat → Nat → Nat) (g : Nat → ClassId) (F : Nat) (sz : Nat) (h0 : Nat) (q0 : Nat → Nat) (x0 : St) (q1 : Nat → Nat) (x1 : St) (w1 : Nat) (hw1 : w1 < nS) {o : Int32 × St} (hm : m_Words_stepTo F x0 x1 w1 = some o) : Met l y_Words_stepTo (.code y_Words_stepTo b_Words_stepTo 2 (some .boolean) :: gw) rm_Words_stepTo (kq (dC, dI) vwCl (tyv g) G [.ref h0, .ref (adK w1)] sz (wd_Words g h0 q0 x0 ++ wd_Text g (q0 0) q1 x1)) (kqi (dC, dI) vwCl (tyv g) (wd_Words g h0 q0 x0 ++ wd_Text g (q0 0) q1 x1) o.1 (wd_Words g h0 q0 (o.2) ++ wd_Text g (q0 0) q1 x1) sz) 0 0 (va_A (wd_Words g h0 q0 x0 ++ wd_Text g (q0 0) q1 x1) sz) := by
  unfold m_Words_stepTo at hm
  refine km (Qc := fun sz => kqi (dC, dI) vwCl (tyv g) (wd_Words g h0 q0 x0 ++ wd_Text g (q0 0) q1 x1) o.1 (wd_Words g h0 q0 (o.2) ++ wd_Text g (q0 0) q1 x1) sz) (cc := b_Words_stepTo) (maxL := 2) (ret := some .boolean) (by decide) rfl (Nat.le_of_ble_eq_true rfl) ?_
  intro p e s m args below meth c Q hQ hx hb hr hts hown hlocks hml hnm H locs A hAe hA hP hK hD hS hGA ls hl
  have hl : lv_has ls 2 [(0, .ref h0), (1, .ref (adK w1))] := hl
  have hts : ∀ w ∈ gw, w.before args s = true := fun w h => hts w (List.mem_cons_of_mem _ h)
  have hown : s.vm.findClass "AlarmMatrix$Words" = some m.cls := hown
  refine lv_aload_n hx hb d_Words_stepTo_0 rfl (lv_at hl 0 rfl) ?_
  obtain ⟨z0_1, hcl, hm⟩ := bn1_s hm
  refine kcv (wc := wd_Words g h0 q0 x0 ++ wd_Text g (q0 0) q1 x1) (wr := ([] : va_W)) (w1 := wd_Words g h0 q0 z0_1 ++ wd_Text g (q0 0) q1 x1) hP hD hS hA [0, 1, 2, 3] [] rfl rfl (by decide) (by decide) (va_runV (As := []) (rest := []) ⟨hx, hb, hml, hown, hts⟩ (c_Words_step hG hGn l dC dI g F H.size h0 q0 x0 q1 x1 hcl) (cwV 0 hts (gdV k2_147 k2_64 k2_65 k1_21 k2_66) rfl rfl rfl (by decide +kernel) ⟨Nat.le_of_ble_eq_true rfl, Nat.le_of_ble_eq_true rfl⟩) (kpV hG hP hK hD hS hA hGA [0, 1, 2, 3] (by decide) rfl (ci := 2) (q0 := 0) rfl rfl rfl) rfl rfl hl.1 rfl (lv_room (Nat.le_of_ble_eq_true rfl)) d_Words_stepTo_1 ⟨Nat.le_of_ble_eq_true rfl, Nat.le_of_ble_eq_true rfl⟩) (fun H locs hP hD hS => ?_)
  have hP : va_P (dC, dI) vwCl (wd_Words g h0 q0 z0_1 ++ wd_Text g (q0 0) q1 x1) H := hP
  have hD : va_D A (wd_Words g h0 q0 z0_1 ++ wd_Text g (q0 0) q1 x1) := hD
  refine lv_aload_n hx hb d_Words_stepTo_4 rfl (lv_at hl 0 rfl) ?_
  refine lv_aload_n hx hb d_Words_stepTo_5 rfl (lv_at hl 1 rfl) ?_
  obtain ⟨r6, hcl, hm⟩ := bn1_s hm
  refine kci (wc := wd_Words g h0 q0 z0_1 ++ wd_Text g (q0 0) q1 x1) (wr := ([] : va_W)) (w1 := wd_Words g h0 q0 z0_1 ++ wd_Text g (q0 0) q1 x1) hP hD hS hA [0, 1, 2, 3] [] rfl rfl (by decide) (by decide) (va_runV (As := [.ref (adK w1)]) (rest := []) ⟨hx, hb, hml, hown, hts⟩ (c_Words_is hG hGn hGs l dC dI g F H.size h0 q0 z0_1 q1 x1 w1 hw1 hcl) (cwV 1 hts (gdV k2_169 k2_88 k2_89 k1_21 k2_90) rfl rfl rfl (by decide +kernel) ⟨Nat.le_of_ble_eq_true rfl, Nat.le_of_ble_eq_true rfl⟩) (kpV hG hP hK hD hS hA hGA [0, 1, 2, 3] (by decide) rfl (ci := 2) (q0 := 0) rfl rfl rfl) rfl rfl hl.1 rfl (lv_room (Nat.le_of_ble_eq_true rfl)) d_Words_stepTo_6 ⟨Nat.le_of_ble_eq_true rfl, Nat.le_of_ble_eq_true rfl⟩) (fun H locs hP hD hS => ?_)
  have hP : va_P (dC, dI) vwCl (wd_Words g h0 q0 z0_1 ++ wd_Text g (q0 0) q1 x1) H := hP
  have hD : va_D A (wd_Words g h0 q0 z0_1 ++ wd_Text g (q0 0) q1 x1) := hD
  obtain ⟨hz, hm⟩ := ckb_s hm
  obtain rfl := Option.some.inj hm
  rw [hQ]
  exact krz hx hb hr hz hlocks hAe hP hK hD hS d_Words_stepTo_9
abbrev b_Words_valueWithin : ByteArray := prog_9_method_7_code
abbrev y_Words_valueWithin : MethodName := ⟨"AlarmMatrix$Words", "valueWithin", "(II)I"⟩
theorem d_Words_valueWithin_0 : decode b_Words_valueWithin 0 = .ok (.aload_n 0, 1) := by decide +kernel
theorem d_Words_valueWithin_1 : decode b_Words_valueWithin 1 = .ok (.getfield 15, 3) := by decide +kernel
theorem d_Words_valueWithin_4 : decode b_Words_valueWithin 4 = .ok (.aload_n 0, 1) := by decide +kernel
theorem d_Words_valueWithin_5 : decode b_Words_valueWithin 5 = .ok (.getfield 9, 3) := by decide +kernel
theorem d_Words_valueWithin_8 : decode b_Words_valueWithin 8 = .ok (.isub, 1) := by decide +kernel
theorem d_Words_valueWithin_9 : decode b_Words_valueWithin 9 = .ok (.istore_n 3, 1) := by decide +kernel
theorem d_Words_valueWithin_10 : decode b_Words_valueWithin 10 = .ok (.iload_n 3, 1) := by decide +kernel
theorem d_Words_valueWithin_11 : decode b_Words_valueWithin 11 = .ok (.iconst 1, 1) := by decide +kernel
theorem d_Words_valueWithin_12 : decode b_Words_valueWithin 12 = .ok (.if_icmp .lt 27, 3) := by decide +kernel
theorem d_Words_valueWithin_15 : decode b_Words_valueWithin 15 = .ok (.iload_n 3, 1) := by decide +kernel
theorem d_Words_valueWithin_16 : decode b_Words_valueWithin 16 = .ok (.bipush 6, 2) := by decide +kernel
theorem d_Words_valueWithin_18 : decode b_Words_valueWithin 18 = .ok (.if_icmp .gt 21, 3) := by decide +kernel
theorem d_Words_valueWithin_21 : decode b_Words_valueWithin 21 = .ok (.aload_n 0, 1) := by decide +kernel
theorem d_Words_valueWithin_22 : decode b_Words_valueWithin 22 = .ok (.getfield 21, 3) := by decide +kernel
theorem d_Words_valueWithin_25 : decode b_Words_valueWithin 25 = .ok (.aload_n 0, 1) := by decide +kernel
theorem d_Words_valueWithin_26 : decode b_Words_valueWithin 26 = .ok (.getfield 9, 3) := by decide +kernel
theorem d_Words_valueWithin_29 : decode b_Words_valueWithin 29 = .ok (.invokevirtual 31, 3) := by decide +kernel
theorem d_Words_valueWithin_32 : decode b_Words_valueWithin 32 = .ok (.invokestatic 35, 3) := by decide +kernel
theorem d_Words_valueWithin_35 : decode b_Words_valueWithin 35 = .ok (.iconst 2, 1) := by decide +kernel
theorem d_Words_valueWithin_36 : decode b_Words_valueWithin 36 = .ok (.if_icmp .eq 5, 3) := by decide +kernel
theorem d_Words_valueWithin_39 : decode b_Words_valueWithin 39 = .ok (.iconst (-1), 1) := by decide +kernel
theorem d_Words_valueWithin_40 : decode b_Words_valueWithin 40 = .ok (.ireturn, 1) := by decide +kernel
theorem d_Words_valueWithin_41 : decode b_Words_valueWithin 41 = .ok (.iconst 0, 1) := by decide +kernel
theorem d_Words_valueWithin_42 : decode b_Words_valueWithin 42 = .ok (.istore 4, 2) := by decide +kernel
theorem d_Words_valueWithin_44 : decode b_Words_valueWithin 44 = .ok (.aload_n 0, 1) := by decide +kernel
theorem d_Words_valueWithin_45 : decode b_Words_valueWithin 45 = .ok (.getfield 9, 3) := by decide +kernel
theorem d_Words_valueWithin_48 : decode b_Words_valueWithin 48 = .ok (.istore 5, 2) := by decide +kernel
theorem d_Words_valueWithin_50 : decode b_Words_valueWithin 50 = .ok (.iload 5, 2) := by decide +kernel
theorem d_Words_valueWithin_52 : decode b_Words_valueWithin 52 = .ok (.aload_n 0, 1) := by decide +kernel
theorem d_Words_valueWithin_53 : decode b_Words_valueWithin 53 = .ok (.getfield 15, 3) := by decide +kernel
theorem d_Words_valueWithin_56 : decode b_Words_valueWithin 56 = .ok (.if_icmp .ge 29, 3) := by decide +kernel
theorem d_Words_valueWithin_59 : decode b_Words_valueWithin 59 = .ok (.iload 4, 2) := by decide +kernel
theorem d_Words_valueWithin_61 : decode b_Words_valueWithin 61 = .ok (.bipush 10, 2) := by decide +kernel
theorem d_Words_valueWithin_63 : decode b_Words_valueWithin 63 = .ok (.imul, 1) := by decide +kernel
theorem d_Words_valueWithin_64 : decode b_Words_valueWithin 64 = .ok (.aload_n 0, 1) := by decide +kernel
theorem d_Words_valueWithin_65 : decode b_Words_valueWithin 65 = .ok (.getfield 21, 3) := by decide +kernel
theorem d_Words_valueWithin_68 : decode b_Words_valueWithin 68 = .ok (.iload 5, 2) := by decide +kernel
theorem d_Words_valueWithin_70 : decode b_Words_valueWithin 70 = .ok (.invokevirtual 31, 3) := by decide +kernel
theorem d_Words_valueWithin_73 : decode b_Words_valueWithin 73 = .ok (.bipush 48, 2) := by decide +kernel
theorem d_Words_valueWithin_75 : decode b_Words_valueWithin 75 = .ok (.isub, 1) := by decide +kernel
theorem d_Words_valueWithin_76 : decode b_Words_valueWithin 76 = .ok (.iadd, 1) := by decide +kernel
theorem d_Words_valueWithin_77 : decode b_Words_valueWithin 77 = .ok (.istore 4, 2) := by decide +kernel
theorem d_Words_valueWithin_79 : decode b_Words_valueWithin 79 = .ok (.iinc 5 1, 3) := by decide +kernel
theorem d_Words_valueWithin_82 : decode b_Words_valueWithin 82 = .ok (.goto (-32), 3) := by decide +kernel
theorem d_Words_valueWithin_85 : decode b_Words_valueWithin 85 = .ok (.iload 4, 2) := by decide +kernel
theorem d_Words_valueWithin_87 : decode b_Words_valueWithin 87 = .ok (.iload_n 1, 1) := by decide +kernel
theorem d_Words_valueWithin_88 : decode b_Words_valueWithin 88 = .ok (.iload_n 2, 1) := by decide +kernel
theorem d_Words_valueWithin_89 : decode b_Words_valueWithin 89 = .ok (.invokestatic 54, 3) := by decide +kernel
theorem d_Words_valueWithin_92 : decode b_Words_valueWithin 92 = .ok (.ifCond .eq 8, 3) := by decide +kernel
theorem d_Words_valueWithin_95 : decode b_Words_valueWithin 95 = .ok (.iload 4, 2) := by decide +kernel
theorem d_Words_valueWithin_97 : decode b_Words_valueWithin 97 = .ok (.goto 4, 3) := by decide +kernel
theorem d_Words_valueWithin_100 : decode b_Words_valueWithin 100 = .ok (.iconst (-1), 1) := by decide +kernel
theorem d_Words_valueWithin_101 : decode b_Words_valueWithin 101 = .ok (.ireturn, 1) := by decide +kernel
def m_Words_valueWithin_B50 {R : Type} (F : Nat) (x0 : St) (x1 : St) (k50_85 : Int32 → Int32 → Option R) (rec50 : Int32 → Int32 → Option R) (v4_50 : Int32) (v5_50 : Int32) : Option R :=
  (if (x0 2 0) ≤ v5_50 then (k50_85 v4_50 v5_50) else (bn1 (m_Text_at F x1 v5_50) (fun r70 => (rec50 ((v4_50 * (10 : Int32)) + (r70 - (48 : Int32))) (v5_50 + (1 : Int32))))))
theorem m_Words_valueWithin_B50_h {R : Type} {F : Nat} {x0 : St} {x1 : St} {k50_85 : Int32 → Int32 → Option R} {rec50 : Int32 → Int32 → Option R} {v4_50 : Int32} {v5_50 : Int32} {o : R} (h : m_Words_valueWithin_B50 F x0 x1 k50_85 rec50 v4_50 v5_50 = some o) :
  (if (x0 2 0) ≤ v5_50 then (k50_85 v4_50 v5_50) else (bn1 (m_Text_at F x1 v5_50) (fun r70 => (rec50 ((v4_50 * (10 : Int32)) + (r70 - (48 : Int32))) (v5_50 + (1 : Int32)))))) = some o := h
def m_Words_valueWithin (F : Nat) (x0 : St) (x1 : St) (a1 : Int32) (a2 : Int32) : Option (Int32) :=
  (if ((x0 2 0) - (x0 1 0)) < (1 : Int32) then (some (-1 : Int32)) else (if (6 : Int32) < ((x0 2 0) - (x0 1 0)) then (some (-1 : Int32)) else (bn1 (m_Text_at F x1 (x0 1 0)) (fun r29 => (bn1 (m_Words_kindOf F r29) (fun r32 => (if r32 = (2 : Int32) then (lq2 (m_Words_valueWithin_B50 F x0 x1 (fun v4_50 v5_50 => (bn1 (m_AM_isWithin F v4_50 a1 a2) (fun r89 => (if r89 = (0 : Int32) then (some (-1 : Int32)) else (some v4_50)))))) F (0 : Int32) (x0 1 0)) else (some (-1 : Int32)))))))))
abbrev rm_Words_valueWithin : Room := { frames := 1, cells := 0, slots := 0, locals := 22 }
set_option maxHeartbeats 4000000 in
set_option maxRecDepth 100000 in
theorem c_Words_valueWithin {G : (Nat → Prop) → State → Prop} (hG : gok G) (hGn : gN G) (l : Launch) (dC : Nat → ClassId) (dI : Nat → Nat → Nat) (g : Nat → ClassId) (F : Nat) (sz : Nat) (h0 : Nat) (q0 : Nat → Nat) (x0 : St) (q1 : Nat → Nat) (x1 : St) (a1 : Int32) (a2 : Int32) {o : Int32} (hm : m_Words_valueWithin F x0 x1 a1 a2 = some o) : Met l y_Words_valueWithin (.code y_Words_valueWithin b_Words_valueWithin 6 (some .int) :: gw) rm_Words_valueWithin (kq (dC, dI) vwCl (tyv g) G [.ref h0, .int a1, .int a2] sz (wd_Words g h0 q0 x0 ++ wd_Text g (q0 0) q1 x1)) (kqi (dC, dI) vwCl (tyv g) (wd_Words g h0 q0 x0 ++ wd_Text g (q0 0) q1 x1) o (wd_Words g h0 q0 x0 ++ wd_Text g (q0 0) q1 x1) sz) 0 0 (va_A (wd_Words g h0 q0 x0 ++ wd_Text g (q0 0) q1 x1) sz) := by
  unfold m_Words_valueWithin at hm
  refine km (Qc := fun sz => kqi (dC, dI) vwCl (tyv g) (wd_Words g h0 q0 x0 ++ wd_Text g (q0 0) q1 x1) o (wd_Words g h0 q0 x0 ++ wd_Text g (q0 0) q1 x1) sz) (cc := b_Words_valueWithin) (maxL := 6) (ret := some .int) (by decide) rfl (Nat.le_of_ble_eq_true rfl) ?_
  intro p e s m args below meth c Q hQ hx hb hr hts hown hlocks hml hnm H locs A hAe hA hP hK hD hS hGA ls hl
  have hl : lv_has ls 6 [(0, .ref h0), (1, .int a1), (2, .int a2)] := hl
  have hts : ∀ w ∈ gw, w.before args s = true := fun w h => hts w (List.mem_cons_of_mem _ h)
  have hown : s.vm.findClass "AlarmMatrix$Words" = some m.cls := hown
  refine lv_aload_n hx hb d_Words_valueWithin_0 rfl (lv_at hl 0 rfl) ?_
  refine va_get (D := (dC, dI)) (ci := 2) (v := .int (x0 2 0)) (C := "AlarmMatrix$Words") (T := T_Words) (N := 4) hx hb hts i_Words hown hK hP 0 rfl rfl 2 (by decide) (hts _ k2_23) (fun _ h9 => h9) rfl d_Words_valueWithin_1 ?_
  refine lv_aload_n hx hb d_Words_valueWithin_4 rfl (lv_at hl 0 rfl) ?_
  refine va_get (D := (dC, dI)) (ci := 2) (v := .int (x0 1 0)) (C := "AlarmMatrix$Words") (T := T_Words) (N := 4) hx hb hts i_Words hown hK hP 0 rfl rfl 1 (by decide) (hts _ k2_22) (fun _ h9 => h9) rfl d_Words_valueWithin_5 ?_
  refine lv_isub hx hb d_Words_valueWithin_8 ?_
  refine lv_istore_n (lv' := [(3, .int ((x0 2 0) - (x0 1 0))), (0, .ref h0), (1, .int a1), (2, .int a2)]) hx hb d_Words_valueWithin_9 rfl hl (by decide) rfl (fun ls hl => ?_)
  refine lv_iload_n hx hb d_Words_valueWithin_10 rfl (lv_at hl 0 rfl) ?_
  refine lv_iconst (v := (1 : Int32)) hx hb d_Words_valueWithin_11 (by decide) ?_
  refine lv_icmp_lt (tgt := 39) hx hb d_Words_valueWithin_12 (by decide) (fun hc => ?_) (fun hc => ?_)
  · replace hm := if_t hm hc
    refine lv_iconst (v := (-1 : Int32)) hx hb d_Words_valueWithin_39 (by decide) ?_
    obtain rfl := Option.some.inj hm
    rw [hQ]
    exact kri hx hb hr hlocks hAe hP hK hD hS d_Words_valueWithin_40
  · replace hm := if_f hm hc
    refine lv_iload_n hx hb d_Words_valueWithin_15 rfl (lv_at hl 0 rfl) ?_
    refine lv_bipush (v := (6 : Int32)) hx hb d_Words_valueWithin_16 (by decide) ?_
    refine lv_icmp_gt (tgt := 39) hx hb d_Words_valueWithin_18 (by decide) (fun hc => ?_) (fun hc => ?_)
    · replace hm := if_t hm hc
      refine lv_iconst (v := (-1 : Int32)) hx hb d_Words_valueWithin_39 (by decide) ?_
      obtain rfl := Option.some.inj hm
      rw [hQ]
      exact kri hx hb hr hlocks hAe hP hK hD hS d_Words_valueWithin_40
    · replace hm := if_f hm hc
      refine lv_aload_n hx hb d_Words_valueWithin_21 rfl (lv_at hl 1 rfl) ?_
      refine va_get (D := (dC, dI)) (ci := 2) (v := .ref (q0 0)) (C := "AlarmMatrix$Words") (T := T_Words) (N := 4) hx hb hts i_Words hown hK hP 0 rfl rfl 0 (by decide) (hts _ k2_21) (fun _ h9 => h9) rfl d_Words_valueWithin_22 ?_
      refine lv_aload_n hx hb d_Words_valueWithin_25 rfl (lv_at hl 1 rfl) ?_
      refine va_get (D := (dC, dI)) (ci := 2) (v := .int (x0 1 0)) (C := "AlarmMatrix$Words") (T := T_Words) (N := 4) hx hb hts i_Words hown hK hP 0 rfl rfl 1 (by decide) (hts _ k2_22) (fun _ h9 => h9) rfl d_Words_valueWithin_26 ?_
      obtain ⟨r29, hcl, hm⟩ := bn1_s hm
      refine kci (wc := wd_Text g (q0 0) q1 x1) (wr := wd_Words g h0 q0 x0) (w1 := wd_Text g (q0 0) q1 x1) hP hD hS hA [1, 2, 3] [0] rfl rfl (by decide) (by decide) (va_runV (As := [.int (x0 1 0)]) (rest := []) ⟨hx, hb, hml, hown, hts⟩ (c_Text_at hG hGn l dC dI g F H.size (q0 0) q1 x1 (x0 1 0) hcl) (cwV 1 hts (gdV k2_71 k2_72 k2_73 k1_2 k2_74) rfl rfl rfl (by decide +kernel) ⟨Nat.le_of_ble_eq_true rfl, Nat.le_of_ble_eq_true rfl⟩) (kpV hG hP hK hD hS hA hGA [1, 2, 3] (by decide) rfl (ci := 1) (q0 := 0) rfl rfl rfl) rfl rfl hl.1 rfl (lv_room (Nat.le_of_ble_eq_true rfl)) d_Words_valueWithin_29 ⟨Nat.le_of_ble_eq_true rfl, Nat.le_of_ble_eq_true rfl⟩) (fun H locs hP hD hS => ?_)
      have hP : va_P (dC, dI) vwCl (wd_Words g h0 q0 x0 ++ wd_Text g (q0 0) q1 x1) H := hP
      have hD : va_D A (wd_Words g h0 q0 x0 ++ wd_Text g (q0 0) q1 x1) := hD
      obtain ⟨r32, hcl, hm⟩ := bn1_s hm
      refine kci (wc := ([] : va_W)) (wr := wd_Words g h0 q0 x0 ++ wd_Text g (q0 0) q1 x1) (w1 := ([] : va_W)) hP hD hS hA [] [0, 1, 2, 3] rfl rfl (by decide) (by decide) (va_runS (As := [.int r29]) (rest := []) ⟨hx, hb, hml, hown, hts⟩ (c_Words_kindOf hG hGn l dC dI g F H.size r29 hcl) (cwS 1 hts (gdS k2_75 k2_76 k1_21 k2_77) rfl rfl rfl (by decide +kernel) ⟨Nat.le_of_ble_eq_true rfl, Nat.le_of_ble_eq_true rfl⟩) (kpS hG hP hK hD hS hA hGA [] (by decide) rfl) rfl rfl hl.1 rfl (lv_room (Nat.le_of_ble_eq_true rfl)) d_Words_valueWithin_32 ⟨Nat.le_of_ble_eq_true rfl, Nat.le_of_ble_eq_true rfl⟩) (fun H locs hP hD hS => ?_)
      have hP : va_P (dC, dI) vwCl (wd_Words g h0 q0 x0 ++ wd_Text g (q0 0) q1 x1) H := hP
      have hD : va_D A (wd_Words g h0 q0 x0 ++ wd_Text g (q0 0) q1 x1) := hD
      refine lv_iconst (v := (2 : Int32)) hx hb d_Words_valueWithin_35 (by decide) ?_
      refine lv_icmp_eq (tgt := 41) hx hb d_Words_valueWithin_36 (by decide) (fun hc => ?_) (fun hc => ?_)
      · replace hm := if_t hm hc
        refine lv_iconst (v := (0 : Int32)) hx hb d_Words_valueWithin_41 (by decide) ?_
        refine lv_istore (lv' := [(4, .int (0 : Int32)), (3, .int ((x0 2 0) - (x0 1 0))), (0, .ref h0), (1, .int a1), (2, .int a2)]) hx hb d_Words_valueWithin_42 hl (by decide) rfl (fun ls hl => ?_)
        refine lv_aload_n hx hb d_Words_valueWithin_44 rfl (lv_at hl 2 rfl) ?_
        refine va_get (D := (dC, dI)) (ci := 2) (v := .int (x0 1 0)) (C := "AlarmMatrix$Words") (T := T_Words) (N := 4) hx hb hts i_Words hown hK hP 0 rfl rfl 1 (by decide) (hts _ k2_22) (fun _ h9 => h9) rfl d_Words_valueWithin_45 ?_
        refine lv_istore (lv' := [(5, .int (x0 1 0)), (4, .int (0 : Int32)), (3, .int ((x0 2 0) - (x0 1 0))), (0, .ref h0), (1, .int a1), (2, .int a2)]) hx hb d_Words_valueWithin_48 hl (by decide) rfl (fun ls hl => ?_)
        have L50 : ∀ (n50 : Nat) (v4_50 : Int32) (v5_50 : Int32) (H : Heap) (locs : List Loc) (ls : Array Slot), lq2 (m_Words_valueWithin_B50 F x0 x1 (fun v4_50 v5_50 => (bn1 (m_AM_isWithin F v4_50 a1 a2) (fun r89 => (if r89 = (0 : Int32) then (some (-1 : Int32)) else (some v4_50)))))) n50 v4_50 v5_50 = some o → va_P (dC, dI) vwCl (wd_Words g h0 q0 x0 ++ wd_Text g (q0 0) q1 x1) H → va_D A (wd_Words g h0 q0 x0 ++ wd_Text g (q0 0) q1 x1) → va_S A s.heap H locs → lv_has ls 6 [(0, .ref h0), (1, .int a1), (2, .int a2), (3, .int ((x0 2 0) - (x0 1 0))), (4, .int v4_50), (5, .int v5_50)] → W p l e rm_Words_valueWithin s m args below meth c H locs 0 0 Q (F0 m 50 ls []) := by
          intro n50
          induction n50 with
          | zero => intro v4_50 v5_50 H locs ls hm; exact absurd hm (by intro z; cases z)
          | succ n50 ih50 =>
            intro v4_50 v5_50 H locs ls hm hP hD hS hl
            replace hm := m_Words_valueWithin_B50_h (lq2_h hm)
            refine lv_iload hx hb d_Words_valueWithin_50 (lv_at hl 5 rfl) ?_
            refine lv_aload_n hx hb d_Words_valueWithin_52 rfl (lv_at hl 0 rfl) ?_
            refine va_get (D := (dC, dI)) (ci := 2) (v := .int (x0 2 0)) (C := "AlarmMatrix$Words") (T := T_Words) (N := 4) hx hb hts i_Words hown hK hP 0 rfl rfl 2 (by decide) (hts _ k2_23) (fun _ h9 => h9) rfl d_Words_valueWithin_53 ?_
            refine lv_icmp_ge (tgt := 85) hx hb d_Words_valueWithin_56 (by decide) (fun hc => ?_) (fun hc => ?_)
            · replace hm := if_t hm hc
              refine lv_iload hx hb d_Words_valueWithin_85 (lv_at hl 4 rfl) ?_
              refine lv_iload_n hx hb d_Words_valueWithin_87 rfl (lv_at hl 1 rfl) ?_
              refine lv_iload_n hx hb d_Words_valueWithin_88 rfl (lv_at hl 2 rfl) ?_
              obtain ⟨r89, hcl, hm⟩ := bn1_s hm
              refine kci (wc := ([] : va_W)) (wr := wd_Words g h0 q0 x0 ++ wd_Text g (q0 0) q1 x1) (w1 := ([] : va_W)) hP hD hS hA [] [0, 1, 2, 3] rfl rfl (by decide) (by decide) (va_runSN (host := "AlarmMatrix") (As := [.int v4_50, .int a1, .int a2]) (rest := []) ⟨hx, hb, hml, hown, hts⟩ (c_AM_isWithin hG hGn l dC dI g F H.size v4_50 a1 a2 hcl) ⟨va_cnB 3 hts (gdI k2_154) rfl rfl rfl (hGn A s hGA _ nw2_152) (hts _ k1_1) (by decide +kernel) ⟨Nat.le_of_ble_eq_true rfl, Nat.le_of_ble_eq_true rfl⟩, (hts _ k2_153), trivial⟩ (kpS hG hP hK hD hS hA hGA [] (by decide) rfl) rfl rfl hl.1 rfl (lv_room (Nat.le_of_ble_eq_true rfl)) d_Words_valueWithin_89 ⟨Nat.le_of_ble_eq_true rfl, Nat.le_of_ble_eq_true rfl⟩) (fun H locs hP hD hS => ?_)
              have hP : va_P (dC, dI) vwCl (wd_Words g h0 q0 x0 ++ wd_Text g (q0 0) q1 x1) H := hP
              have hD : va_D A (wd_Words g h0 q0 x0 ++ wd_Text g (q0 0) q1 x1) := hD
              refine lv_if_eq (tgt := 100) hx hb d_Words_valueWithin_92 (by decide) (fun hc => ?_) (fun hc => ?_)
              · replace hm := if_t hm hc
                refine lv_iconst (v := (-1 : Int32)) hx hb d_Words_valueWithin_100 (by decide) ?_
                obtain rfl := Option.some.inj hm
                rw [hQ]
                exact kri hx hb hr hlocks hAe hP hK hD hS d_Words_valueWithin_101
              · replace hm := if_f hm hc
                refine lv_iload hx hb d_Words_valueWithin_95 (lv_at hl 4 rfl) ?_
                refine lv_goto (tgt := 101) hx hb d_Words_valueWithin_97 (by decide) ?_
                obtain rfl := Option.some.inj hm
                rw [hQ]
                exact kri hx hb hr hlocks hAe hP hK hD hS d_Words_valueWithin_101
            · replace hm := if_f hm hc
              refine lv_iload hx hb d_Words_valueWithin_59 (lv_at hl 4 rfl) ?_
              refine lv_bipush (v := (10 : Int32)) hx hb d_Words_valueWithin_61 (by decide) ?_
              refine lv_imul hx hb d_Words_valueWithin_63 ?_
              refine lv_aload_n hx hb d_Words_valueWithin_64 rfl (lv_at hl 0 rfl) ?_
              refine va_get (D := (dC, dI)) (ci := 2) (v := .ref (q0 0)) (C := "AlarmMatrix$Words") (T := T_Words) (N := 4) hx hb hts i_Words hown hK hP 0 rfl rfl 0 (by decide) (hts _ k2_21) (fun _ h9 => h9) rfl d_Words_valueWithin_65 ?_
              refine lv_iload hx hb d_Words_valueWithin_68 (lv_at hl 5 rfl) ?_
              obtain ⟨r70, hcl, hm⟩ := bn1_s hm
              refine kci (wc := wd_Text g (q0 0) q1 x1) (wr := wd_Words g h0 q0 x0) (w1 := wd_Text g (q0 0) q1 x1) hP hD hS hA [1, 2, 3] [0] rfl rfl (by decide) (by decide) (va_runV (As := [.int v5_50]) (rest := [.int (v4_50 * (10 : Int32))]) ⟨hx, hb, hml, hown, hts⟩ (c_Text_at hG hGn l dC dI g F H.size (q0 0) q1 x1 v5_50 hcl) (cwV 1 hts (gdV k2_71 k2_72 k2_73 k1_2 k2_74) rfl rfl rfl (by decide +kernel) ⟨Nat.le_of_ble_eq_true rfl, Nat.le_of_ble_eq_true rfl⟩) (kpV hG hP hK hD hS hA hGA [1, 2, 3] (by decide) rfl (ci := 1) (q0 := 0) rfl rfl rfl) rfl rfl hl.1 rfl (lv_room (Nat.le_of_ble_eq_true rfl)) d_Words_valueWithin_70 ⟨Nat.le_of_ble_eq_true rfl, Nat.le_of_ble_eq_true rfl⟩) (fun H locs hP hD hS => ?_)
              have hP : va_P (dC, dI) vwCl (wd_Words g h0 q0 x0 ++ wd_Text g (q0 0) q1 x1) H := hP
              have hD : va_D A (wd_Words g h0 q0 x0 ++ wd_Text g (q0 0) q1 x1) := hD
              refine lv_bipush (v := (48 : Int32)) hx hb d_Words_valueWithin_73 (by decide) ?_
              refine lv_isub hx hb d_Words_valueWithin_75 ?_
              refine lv_iadd hx hb d_Words_valueWithin_76 ?_
              refine lv_istore (lv' := [(4, .int ((v4_50 * (10 : Int32)) + (r70 - (48 : Int32)))), (0, .ref h0), (1, .int a1), (2, .int a2), (3, .int ((x0 2 0) - (x0 1 0))), (5, .int v5_50)]) hx hb d_Words_valueWithin_77 hl (by decide) rfl (fun ls hl => ?_)
              refine lv_iinc (v := (v5_50 + (1 : Int32))) (lv' := [(5, .int (v5_50 + (1 : Int32))), (4, .int ((v4_50 * (10 : Int32)) + (r70 - (48 : Int32)))), (0, .ref h0), (1, .int a1), (2, .int a2), (3, .int ((x0 2 0) - (x0 1 0)))]) hx hb d_Words_valueWithin_79 hl (k := 5) rfl rfl (by decide) rfl (fun ls hl => ?_)
              refine lv_goto (tgt := 50) hx hb d_Words_valueWithin_82 (by decide) ?_
              exact ih50 ((v4_50 * (10 : Int32)) + (r70 - (48 : Int32))) (v5_50 + (1 : Int32)) H locs ls hm hP hD hS (lv_sub hl [2, 3, 4, 5, 1, 0] rfl)
        exact L50 F (0 : Int32) (x0 1 0) H locs ls hm hP hD hS (lv_sub hl [3, 4, 5, 2, 1, 0] rfl)
      · replace hm := if_f hm hc
        refine lv_iconst (v := (-1 : Int32)) hx hb d_Words_valueWithin_39 (by decide) ?_
        obtain rfl := Option.some.inj hm
        rw [hQ]
        exact kri hx hb hr hlocks hAe hP hK hD hS d_Words_valueWithin_40
abbrev b_Words_stepToValue : ByteArray := prog_9_method_8_code
abbrev y_Words_stepToValue : MethodName := ⟨"AlarmMatrix$Words", "stepToValue", "(II)I"⟩
theorem d_Words_stepToValue_0 : decode b_Words_stepToValue 0 = .ok (.aload_n 0, 1) := by decide +kernel
theorem d_Words_stepToValue_1 : decode b_Words_stepToValue 1 = .ok (.invokevirtual 47, 3) := by decide +kernel
theorem d_Words_stepToValue_4 : decode b_Words_stepToValue 4 = .ok (.aload_n 0, 1) := by decide +kernel
theorem d_Words_stepToValue_5 : decode b_Words_stepToValue 5 = .ok (.iload_n 1, 1) := by decide +kernel
theorem d_Words_stepToValue_6 : decode b_Words_stepToValue 6 = .ok (.iload_n 2, 1) := by decide +kernel
theorem d_Words_stepToValue_7 : decode b_Words_stepToValue 7 = .ok (.invokevirtual 58, 3) := by decide +kernel
theorem d_Words_stepToValue_10 : decode b_Words_stepToValue 10 = .ok (.ireturn, 1) := by decide +kernel
def m_Words_stepToValue (F : Nat) (x0 : St) (x1 : St) (a1 : Int32) (a2 : Int32) : Option (Int32 × St) :=
  (bn1 (m_Words_step F x0 x1) (fun z0_1 => (bn1 (m_Words_valueWithin F z0_1 x1 a1 a2) (fun r7 => (some (r7, z0_1))))))
abbrev rm_Words_stepToValue : Room := { frames := 2, cells := 0, slots := 0, locals := 47 }
set_option maxHeartbeats 4000000 in
set_option maxRecDepth 100000 in
theorem c_Words_stepToValue {G : (Nat → Prop) → State → Prop} (hG : gok G) (hGn : gN G) (l : Launch) (dC : Nat → ClassId) (dI : Nat → Nat → Nat) (g : Nat → ClassId) (F : Nat) (sz : Nat) (h0 : Nat) (q0 : Nat → Nat) (x0 : St) (q1 : Nat → Nat) (x1 : St) (a1 : Int32) (a2 : Int32) {o : Int32 × St} (hm : m_Words_stepToValue F x0 x1 a1 a2 = some o) : Met l y_Words_stepToValue (.code y_Words_stepToValue b_Words_stepToValue 3 (some .int) :: gw) rm_Words_stepToValue (kq (dC, dI) vwCl (tyv g) G [.ref h0, .int a1, .int a2] sz (wd_Words g h0 q0 x0 ++ wd_Text g (q0 0) q1 x1)) (kqi (dC, dI) vwCl (tyv g) (wd_Words g h0 q0 x0 ++ wd_Text g (q0 0) q1 x1) o.1 (wd_Words g h0 q0 (o.2) ++ wd_Text g (q0 0) q1 x1) sz) 0 0 (va_A (wd_Words g h0 q0 x0 ++ wd_Text g (q0 0) q1 x1) sz) := by
  unfold m_Words_stepToValue at hm
  refine km (Qc := fun sz => kqi (dC, dI) vwCl (tyv g) (wd_Words g h0 q0 x0 ++ wd_Text g (q0 0) q1 x1) o.1 (wd_Words g h0 q0 (o.2) ++ wd_Text g (q0 0) q1 x1) sz) (cc := b_Words_stepToValue) (maxL := 3) (ret := some .int) (by decide) rfl (Nat.le_of_ble_eq_true rfl) ?_
  intro p e s m args below meth c Q hQ hx hb hr hts hown hlocks hml hnm H locs A hAe hA hP hK hD hS hGA ls hl
  have hl : lv_has ls 3 [(0, .ref h0), (1, .int a1), (2, .int a2)] := hl
  have hts : ∀ w ∈ gw, w.before args s = true := fun w h => hts w (List.mem_cons_of_mem _ h)
  have hown : s.vm.findClass "AlarmMatrix$Words" = some m.cls := hown
  refine lv_aload_n hx hb d_Words_stepToValue_0 rfl (lv_at hl 0 rfl) ?_
  obtain ⟨z0_1, hcl, hm⟩ := bn1_s hm
  refine kcv (wc := wd_Words g h0 q0 x0 ++ wd_Text g (q0 0) q1 x1) (wr := ([] : va_W)) (w1 := wd_Words g h0 q0 z0_1 ++ wd_Text g (q0 0) q1 x1) hP hD hS hA [0, 1, 2, 3] [] rfl rfl (by decide) (by decide) (va_runV (As := []) (rest := []) ⟨hx, hb, hml, hown, hts⟩ (c_Words_step hG hGn l dC dI g F H.size h0 q0 x0 q1 x1 hcl) (cwV 0 hts (gdV k2_147 k2_64 k2_65 k1_21 k2_66) rfl rfl rfl (by decide +kernel) ⟨Nat.le_of_ble_eq_true rfl, Nat.le_of_ble_eq_true rfl⟩) (kpV hG hP hK hD hS hA hGA [0, 1, 2, 3] (by decide) rfl (ci := 2) (q0 := 0) rfl rfl rfl) rfl rfl hl.1 rfl (lv_room (Nat.le_of_ble_eq_true rfl)) d_Words_stepToValue_1 ⟨Nat.le_of_ble_eq_true rfl, Nat.le_of_ble_eq_true rfl⟩) (fun H locs hP hD hS => ?_)
  have hP : va_P (dC, dI) vwCl (wd_Words g h0 q0 z0_1 ++ wd_Text g (q0 0) q1 x1) H := hP
  have hD : va_D A (wd_Words g h0 q0 z0_1 ++ wd_Text g (q0 0) q1 x1) := hD
  refine lv_aload_n hx hb d_Words_stepToValue_4 rfl (lv_at hl 0 rfl) ?_
  refine lv_iload_n hx hb d_Words_stepToValue_5 rfl (lv_at hl 1 rfl) ?_
  refine lv_iload_n hx hb d_Words_stepToValue_6 rfl (lv_at hl 2 rfl) ?_
  obtain ⟨r7, hcl, hm⟩ := bn1_s hm
  refine kci (wc := wd_Words g h0 q0 z0_1 ++ wd_Text g (q0 0) q1 x1) (wr := ([] : va_W)) (w1 := wd_Words g h0 q0 z0_1 ++ wd_Text g (q0 0) q1 x1) hP hD hS hA [0, 1, 2, 3] [] rfl rfl (by decide) (by decide) (va_runV (As := [.int a1, .int a2]) (rest := []) ⟨hx, hb, hml, hown, hts⟩ (c_Words_valueWithin hG hGn l dC dI g F H.size h0 q0 z0_1 q1 x1 a1 a2 hcl) (cwV 2 hts (gdV k2_148 k2_149 k2_150 k1_21 k2_151) rfl rfl rfl (by decide +kernel) ⟨Nat.le_of_ble_eq_true rfl, Nat.le_of_ble_eq_true rfl⟩) (kpV hG hP hK hD hS hA hGA [0, 1, 2, 3] (by decide) rfl (ci := 2) (q0 := 0) rfl rfl rfl) rfl rfl hl.1 rfl (lv_room (Nat.le_of_ble_eq_true rfl)) d_Words_stepToValue_7 ⟨Nat.le_of_ble_eq_true rfl, Nat.le_of_ble_eq_true rfl⟩) (fun H locs hP hD hS => ?_)
  have hP : va_P (dC, dI) vwCl (wd_Words g h0 q0 z0_1 ++ wd_Text g (q0 0) q1 x1) H := hP
  have hD : va_D A (wd_Words g h0 q0 z0_1 ++ wd_Text g (q0 0) q1 x1) := hD
  obtain rfl := Option.some.inj hm
  rw [hQ]
  exact kri hx hb hr hlocks hAe hP hK hD hS d_Words_stepToValue_10

abbrev b_Zones_clear : ByteArray := prog_10_method_2_code
abbrev y_Zones_clear : MethodName := ⟨"AlarmMatrix$Zones", "clear", "()V"⟩
theorem d_Zones_clear_0 : decode b_Zones_clear 0 = .ok (.aload_n 0, 1) := by decide +kernel
theorem d_Zones_clear_1 : decode b_Zones_clear 1 = .ok (.getfield 9, 3) := by decide +kernel
theorem d_Zones_clear_4 : decode b_Zones_clear 4 = .ok (.iconst 0, 1) := by decide +kernel
theorem d_Zones_clear_5 : decode b_Zones_clear 5 = .ok (.invokestatic 27, 3) := by decide +kernel
theorem d_Zones_clear_8 : decode b_Zones_clear 8 = .ok (.aload_n 0, 1) := by decide +kernel
theorem d_Zones_clear_9 : decode b_Zones_clear 9 = .ok (.getfield 15, 3) := by decide +kernel
theorem d_Zones_clear_12 : decode b_Zones_clear 12 = .ok (.iconst 0, 1) := by decide +kernel
theorem d_Zones_clear_13 : decode b_Zones_clear 13 = .ok (.invokestatic 27, 3) := by decide +kernel
theorem d_Zones_clear_16 : decode b_Zones_clear 16 = .ok (.return_, 1) := by decide +kernel
def m_Zones_clear (F : Nat) (x0 : St) : Option (St) :=
  (lz (st x0 0 (flI (x0 0) 20 (0 : Int32))) (fun e0_5 => (lz (st e0_5 1 (flI (e0_5 1) 20 (0 : Int32))) (fun e0_13 => (some e0_13)))))
abbrev rm_Zones_clear : Room := { frames := 1, cells := 0, slots := 0, locals := 23 }
set_option maxHeartbeats 4000000 in
set_option maxRecDepth 100000 in
theorem c_Zones_clear {G : (Nat → Prop) → State → Prop} (hG : gok G) (hGn : gN G) (l : Launch) (dC : Nat → ClassId) (dI : Nat → Nat → Nat) (g : Nat → ClassId) (F : Nat) (sz : Nat) (h0 : Nat) (q0 : Nat → Nat) (x0 : St) {o : St} (hm : m_Zones_clear F x0 = some o) : Met l y_Zones_clear (.code y_Zones_clear b_Zones_clear 1 none :: gw) rm_Zones_clear (kq (dC, dI) vwCl (tyv g) G [.ref h0] sz (wd_Zones g h0 q0 x0)) (kqv (dC, dI) vwCl (tyv g) (wd_Zones g h0 q0 x0) (wd_Zones g h0 q0 o) sz) 0 0 (va_A (wd_Zones g h0 q0 x0) sz) := by
  unfold m_Zones_clear at hm
  refine km (Qc := fun sz => kqv (dC, dI) vwCl (tyv g) (wd_Zones g h0 q0 x0) (wd_Zones g h0 q0 o) sz) (cc := b_Zones_clear) (maxL := 1) (ret := none) (by decide) rfl (Nat.le_of_ble_eq_true rfl) ?_
  intro p e s m args below meth c Q hQ hx hb hr hts hown hlocks hml hnm H locs A hAe hA hP hK hD hS hGA ls hl
  have hl : lv_has ls 1 [(0, .ref h0)] := hl
  have hts : ∀ w ∈ gw, w.before args s = true := fun w h => hts w (List.mem_cons_of_mem _ h)
  have hown : s.vm.findClass "AlarmMatrix$Zones" = some m.cls := hown
  refine lv_aload_n hx hb d_Zones_clear_0 rfl (lv_at hl 0 rfl) ?_
  refine va_get (D := (dC, dI)) (ci := 5) (v := .ref (q0 0)) (C := "AlarmMatrix$Zones") (T := T_Zones) (N := 5) hx hb hts i_Zones hown hK hP 0 rfl rfl 0 (by decide) (hts _ k1_138) (fun _ h9 => h9) rfl d_Zones_clear_1 ?_
  refine lv_iconst (v := (0 : Int32)) hx hb d_Zones_clear_4 (by decide) ?_
  obtain ⟨e0_5, he, hm⟩ := lz_s hm
  refine kcv (wc := [(q0 0, .inl (g 0, 20, .inl (x0 0)))]) (wr := [(h0, .inr (5, [.ref (q0 0), .ref (q0 1), .ref (q0 2), .ref (q0 3), .ref (q0 4)])), (q0 1, .inl (g 0, 20, .inl (x0 1))), (q0 2, .inl (g 0, 240, .inl (x0 2))), (q0 3, .inl (g 0, 20, .inl (x0 3))), (q0 4, .inl (g 0, 20, .inl (x0 4)))]) (w1 := [(q0 0, .inl (g 0, 20, .inl (flI (x0 0) 20 (0 : Int32))))]) hP hD hS hA [1] [0, 2, 3, 4, 5] rfl rfl (by decide) (by decide) (va_runS (As := [.ref (q0 0), .int (0 : Int32)]) (rest := []) ⟨hx, hb, hml, hown, hts⟩ (c_fill hG l dC dI g H.size (q0 0) 20 (x0 0) (0 : Int32) (by decide)) ⟨callB_of 2 hts (gdI k2_58) rfl rfl rfl (hts _ k1_22) (hts _ k2_56) (by decide +kernel) ⟨Nat.le_of_ble_eq_true rfl, Nat.le_of_ble_eq_true rfl⟩, hts _ k2_57⟩ (kpS hG hP hK hD hS hA hGA [1] (by decide) rfl) rfl rfl hl.1 rfl (lv_room (Nat.le_of_ble_eq_true rfl)) d_Zones_clear_5 ⟨Nat.le_of_ble_eq_true rfl, Nat.le_of_ble_eq_true rfl⟩) (fun H locs hP hD hS => ?_)
  have hP : va_P (dC, dI) vwCl (wd_Zones g h0 q0 e0_5) H := by rw [he]; exact hP.sub (ws' := wd_Zones g h0 q0 (st x0 0 (flI (x0 0) 20 (0 : Int32)))) [0, 5, 1, 2, 3, 4] rfl
  have hD : va_D A (wd_Zones g h0 q0 e0_5) := by rw [he]; exact hD.sub (ws' := wd_Zones g h0 q0 (st x0 0 (flI (x0 0) 20 (0 : Int32)))) [0, 5, 1, 2, 3, 4] (by decide) rfl
  refine lv_aload_n hx hb d_Zones_clear_8 rfl (lv_at hl 0 rfl) ?_
  refine va_get (D := (dC, dI)) (ci := 5) (v := .ref (q0 1)) (C := "AlarmMatrix$Zones") (T := T_Zones) (N := 5) hx hb hts i_Zones hown hK hP 0 rfl rfl 1 (by decide) (hts _ k1_139) (fun _ h9 => h9) rfl d_Zones_clear_9 ?_
  refine lv_iconst (v := (0 : Int32)) hx hb d_Zones_clear_12 (by decide) ?_
  obtain ⟨e0_13, he, hm⟩ := lz_s hm
  refine kcv (wc := [(q0 1, .inl (g 0, 20, .inl (e0_5 1)))]) (wr := [(h0, .inr (5, [.ref (q0 0), .ref (q0 1), .ref (q0 2), .ref (q0 3), .ref (q0 4)])), (q0 0, .inl (g 0, 20, .inl (e0_5 0))), (q0 2, .inl (g 0, 240, .inl (e0_5 2))), (q0 3, .inl (g 0, 20, .inl (e0_5 3))), (q0 4, .inl (g 0, 20, .inl (e0_5 4)))]) (w1 := [(q0 1, .inl (g 0, 20, .inl (flI (e0_5 1) 20 (0 : Int32))))]) hP hD hS hA [2] [0, 1, 3, 4, 5] rfl rfl (by decide) (by decide) (va_runS (As := [.ref (q0 1), .int (0 : Int32)]) (rest := []) ⟨hx, hb, hml, hown, hts⟩ (c_fill hG l dC dI g H.size (q0 1) 20 (e0_5 1) (0 : Int32) (by decide)) ⟨callB_of 2 hts (gdI k2_58) rfl rfl rfl (hts _ k1_22) (hts _ k2_56) (by decide +kernel) ⟨Nat.le_of_ble_eq_true rfl, Nat.le_of_ble_eq_true rfl⟩, hts _ k2_57⟩ (kpS hG hP hK hD hS hA hGA [2] (by decide) rfl) rfl rfl hl.1 rfl (lv_room (Nat.le_of_ble_eq_true rfl)) d_Zones_clear_13 ⟨Nat.le_of_ble_eq_true rfl, Nat.le_of_ble_eq_true rfl⟩) (fun H locs hP hD hS => ?_)
  have hP : va_P (dC, dI) vwCl (wd_Zones g h0 q0 e0_13) H := by rw [he]; exact hP.sub (ws' := wd_Zones g h0 q0 (st e0_5 1 (flI (e0_5 1) 20 (0 : Int32)))) [0, 1, 5, 2, 3, 4] rfl
  have hD : va_D A (wd_Zones g h0 q0 e0_13) := by rw [he]; exact hD.sub (ws' := wd_Zones g h0 q0 (st e0_5 1 (flI (e0_5 1) 20 (0 : Int32)))) [0, 1, 5, 2, 3, 4] (by decide) rfl
  obtain rfl := Option.some.inj hm
  rw [hQ]
  exact krv hx hb hr hlocks hAe hP hK hD hS d_Zones_clear_16
abbrev b_Zones_isTold : ByteArray := prog_10_method_3_code
abbrev y_Zones_isTold : MethodName := ⟨"AlarmMatrix$Zones", "isTold", "(I)Z"⟩
theorem d_Zones_isTold_0 : decode b_Zones_isTold 0 = .ok (.iload_n 1, 1) := by decide +kernel
theorem d_Zones_isTold_1 : decode b_Zones_isTold 1 = .ok (.iconst 0, 1) := by decide +kernel
theorem d_Zones_isTold_2 : decode b_Zones_isTold 2 = .ok (.bipush 19, 2) := by decide +kernel
theorem d_Zones_isTold_4 : decode b_Zones_isTold 4 = .ok (.invokestatic 33, 3) := by decide +kernel
theorem d_Zones_isTold_7 : decode b_Zones_isTold 7 = .ok (.ifCond .eq 16, 3) := by decide +kernel
theorem d_Zones_isTold_10 : decode b_Zones_isTold 10 = .ok (.aload_n 0, 1) := by decide +kernel
theorem d_Zones_isTold_11 : decode b_Zones_isTold 11 = .ok (.getfield 9, 3) := by decide +kernel
theorem d_Zones_isTold_14 : decode b_Zones_isTold 14 = .ok (.iload_n 1, 1) := by decide +kernel
theorem d_Zones_isTold_15 : decode b_Zones_isTold 15 = .ok (.iaload, 1) := by decide +kernel
theorem d_Zones_isTold_16 : decode b_Zones_isTold 16 = .ok (.ifCond .le 7, 3) := by decide +kernel
theorem d_Zones_isTold_19 : decode b_Zones_isTold 19 = .ok (.iconst 1, 1) := by decide +kernel
theorem d_Zones_isTold_20 : decode b_Zones_isTold 20 = .ok (.goto 4, 3) := by decide +kernel
theorem d_Zones_isTold_23 : decode b_Zones_isTold 23 = .ok (.iconst 0, 1) := by decide +kernel
theorem d_Zones_isTold_24 : decode b_Zones_isTold 24 = .ok (.ireturn, 1) := by decide +kernel
def m_Zones_isTold (F : Nat) (x0 : St) (a1 : Int32) : Option (Int32) :=
  (bn1 (m_AM_isWithin F a1 (0 : Int32) (19 : Int32)) (fun r4 => (if r4 = (0 : Int32) then (some (0 : Int32)) else (ck a1 20 (if ((x0 0) a1.toNatClampNeg) ≤ (0 : Int32) then (some (0 : Int32)) else (some (1 : Int32)))))))
abbrev rm_Zones_isTold : Room := { frames := 1, cells := 0, slots := 0, locals := 22 }
set_option maxHeartbeats 4000000 in
set_option maxRecDepth 100000 in
theorem c_Zones_isTold {G : (Nat → Prop) → State → Prop} (hG : gok G) (hGn : gN G) (l : Launch) (dC : Nat → ClassId) (dI : Nat → Nat → Nat) (g : Nat → ClassId) (F : Nat) (sz : Nat) (h0 : Nat) (q0 : Nat → Nat) (x0 : St) (a1 : Int32) {o : Int32} (hm : m_Zones_isTold F x0 a1 = some o) : Met l y_Zones_isTold (.code y_Zones_isTold b_Zones_isTold 2 (some .boolean) :: gw) rm_Zones_isTold (kq (dC, dI) vwCl (tyv g) G [.ref h0, .int a1] sz (wd_Zones g h0 q0 x0)) (kqi (dC, dI) vwCl (tyv g) (wd_Zones g h0 q0 x0) o (wd_Zones g h0 q0 x0) sz) 0 0 (va_A (wd_Zones g h0 q0 x0) sz) := by
  unfold m_Zones_isTold at hm
  refine km (Qc := fun sz => kqi (dC, dI) vwCl (tyv g) (wd_Zones g h0 q0 x0) o (wd_Zones g h0 q0 x0) sz) (cc := b_Zones_isTold) (maxL := 2) (ret := some .boolean) (by decide) rfl (Nat.le_of_ble_eq_true rfl) ?_
  intro p e s m args below meth c Q hQ hx hb hr hts hown hlocks hml hnm H locs A hAe hA hP hK hD hS hGA ls hl
  have hl : lv_has ls 2 [(0, .ref h0), (1, .int a1)] := hl
  have hts : ∀ w ∈ gw, w.before args s = true := fun w h => hts w (List.mem_cons_of_mem _ h)
  have hown : s.vm.findClass "AlarmMatrix$Zones" = some m.cls := hown
  refine lv_iload_n hx hb d_Zones_isTold_0 rfl (lv_at hl 1 rfl) ?_
  refine lv_iconst (v := (0 : Int32)) hx hb d_Zones_isTold_1 (by decide) ?_
  refine lv_bipush (v := (19 : Int32)) hx hb d_Zones_isTold_2 (by decide) ?_
  obtain ⟨r4, hcl, hm⟩ := bn1_s hm
  refine kci (wc := ([] : va_W)) (wr := wd_Zones g h0 q0 x0) (w1 := ([] : va_W)) hP hD hS hA [] [0, 1, 2, 3, 4, 5] rfl rfl (by decide) (by decide) (va_runSN (host := "AlarmMatrix") (As := [.int a1, .int (0 : Int32), .int (19 : Int32)]) (rest := []) ⟨hx, hb, hml, hown, hts⟩ (c_AM_isWithin hG hGn l dC dI g F H.size a1 (0 : Int32) (19 : Int32) hcl) ⟨va_cnB 3 hts (gdI k2_154) rfl rfl rfl (hGn A s hGA _ nw2_163) (hts _ k1_1) (by decide +kernel) ⟨Nat.le_of_ble_eq_true rfl, Nat.le_of_ble_eq_true rfl⟩, (hts _ k2_153), trivial⟩ (kpS hG hP hK hD hS hA hGA [] (by decide) rfl) rfl rfl hl.1 rfl (lv_room (Nat.le_of_ble_eq_true rfl)) d_Zones_isTold_4 ⟨Nat.le_of_ble_eq_true rfl, Nat.le_of_ble_eq_true rfl⟩) (fun H locs hP hD hS => ?_)
  have hP : va_P (dC, dI) vwCl (wd_Zones g h0 q0 x0) H := hP
  have hD : va_D A (wd_Zones g h0 q0 x0) := hD
  refine lv_if_eq (tgt := 23) hx hb d_Zones_isTold_7 (by decide) (fun hc => ?_) (fun hc => ?_)
  · replace hm := if_t hm hc
    refine lv_iconst (v := (0 : Int32)) hx hb d_Zones_isTold_23 (by decide) ?_
    obtain rfl := Option.some.inj hm
    rw [hQ]
    exact krz hx hb hr nar_0 hlocks hAe hP hK hD hS d_Zones_isTold_24
  · replace hm := if_f hm hc
    refine lv_aload_n hx hb d_Zones_isTold_10 rfl (lv_at hl 0 rfl) ?_
    refine va_get (D := (dC, dI)) (ci := 5) (v := .ref (q0 0)) (C := "AlarmMatrix$Zones") (T := T_Zones) (N := 5) hx hb hts i_Zones hown hK hP 0 rfl rfl 0 (by decide) (hts _ k1_138) (fun _ h9 => h9) rfl d_Zones_isTold_11 ?_
    refine lv_iload_n hx hb d_Zones_isTold_14 rfl (lv_at hl 1 rfl) ?_
    obtain ⟨h_15, hm⟩ := ck_s hm
    refine va_iald (f := (x0 0)) hx hb hK hP 1 0 rfl rfl h_15 d_Zones_isTold_15 ?_
    refine lv_if_le (tgt := 23) hx hb d_Zones_isTold_16 (by decide) (fun hc => ?_) (fun hc => ?_)
    · replace hm := if_t hm hc
      refine lv_iconst (v := (0 : Int32)) hx hb d_Zones_isTold_23 (by decide) ?_
      obtain rfl := Option.some.inj hm
      rw [hQ]
      exact krz hx hb hr nar_0 hlocks hAe hP hK hD hS d_Zones_isTold_24
    · replace hm := if_f hm hc
      refine lv_iconst (v := (1 : Int32)) hx hb d_Zones_isTold_19 (by decide) ?_
      refine lv_goto (tgt := 24) hx hb d_Zones_isTold_20 (by decide) ?_
      obtain rfl := Option.some.inj hm
      rw [hQ]
      exact krz hx hb hr nar_1 hlocks hAe hP hK hD hS d_Zones_isTold_24
abbrev b_Zones_tell : ByteArray := prog_10_method_4_code
abbrev y_Zones_tell : MethodName := ⟨"AlarmMatrix$Zones", "tell", "(II)V"⟩
theorem d_Zones_tell_0 : decode b_Zones_tell 0 = .ok (.aload_n 0, 1) := by decide +kernel
theorem d_Zones_tell_1 : decode b_Zones_tell 1 = .ok (.getfield 9, 3) := by decide +kernel
theorem d_Zones_tell_4 : decode b_Zones_tell 4 = .ok (.iload_n 1, 1) := by decide +kernel
theorem d_Zones_tell_5 : decode b_Zones_tell 5 = .ok (.iload_n 2, 1) := by decide +kernel
theorem d_Zones_tell_6 : decode b_Zones_tell 6 = .ok (.iastore, 1) := by decide +kernel
theorem d_Zones_tell_7 : decode b_Zones_tell 7 = .ok (.return_, 1) := by decide +kernel
def m_Zones_tell (F : Nat) (x0 : St) (a1 : Int32) (a2 : Int32) : Option (St) :=
  (ck a1 20 (lz (st x0 0 (upd (x0 0) a1.toNatClampNeg a2)) (fun e0_6 => (some e0_6))))
abbrev rm_Zones_tell : Room := { frames := 0, cells := 0, slots := 0, locals := 0 }
set_option maxHeartbeats 4000000 in
set_option maxRecDepth 100000 in
theorem c_Zones_tell {G : (Nat → Prop) → State → Prop} (hG : gok G) (hGn : gN G) (l : Launch) (dC : Nat → ClassId) (dI : Nat → Nat → Nat) (g : Nat → ClassId) (F : Nat) (sz : Nat) (h0 : Nat) (q0 : Nat → Nat) (x0 : St) (a1 : Int32) (a2 : Int32) {o : St} (hm : m_Zones_tell F x0 a1 a2 = some o) : Met l y_Zones_tell (.code y_Zones_tell b_Zones_tell 3 none :: gw) rm_Zones_tell (kq (dC, dI) vwCl (tyv g) G [.ref h0, .int a1, .int a2] sz (wd_Zones g h0 q0 x0)) (kqv (dC, dI) vwCl (tyv g) (wd_Zones g h0 q0 x0) (wd_Zones g h0 q0 o) sz) 0 0 (va_A (wd_Zones g h0 q0 x0) sz) := by
  unfold m_Zones_tell at hm
  refine km (Qc := fun sz => kqv (dC, dI) vwCl (tyv g) (wd_Zones g h0 q0 x0) (wd_Zones g h0 q0 o) sz) (cc := b_Zones_tell) (maxL := 3) (ret := none) (by decide) rfl (Nat.le_of_ble_eq_true rfl) ?_
  intro p e s m args below meth c Q hQ hx hb hr hts hown hlocks hml hnm H locs A hAe hA hP hK hD hS hGA ls hl
  have hl : lv_has ls 3 [(0, .ref h0), (1, .int a1), (2, .int a2)] := hl
  have hts : ∀ w ∈ gw, w.before args s = true := fun w h => hts w (List.mem_cons_of_mem _ h)
  have hown : s.vm.findClass "AlarmMatrix$Zones" = some m.cls := hown
  refine lv_aload_n hx hb d_Zones_tell_0 rfl (lv_at hl 0 rfl) ?_
  refine va_get (D := (dC, dI)) (ci := 5) (v := .ref (q0 0)) (C := "AlarmMatrix$Zones") (T := T_Zones) (N := 5) hx hb hts i_Zones hown hK hP 0 rfl rfl 0 (by decide) (hts _ k1_138) (fun _ h9 => h9) rfl d_Zones_tell_1 ?_
  refine lv_iload_n hx hb d_Zones_tell_4 rfl (lv_at hl 1 rfl) ?_
  refine lv_iload_n hx hb d_Zones_tell_5 rfl (lv_at hl 2 rfl) ?_
  obtain ⟨h_6, hm⟩ := ck_s hm
  obtain ⟨e0_6, he, hm⟩ := lz_s hm
  refine va_iast (f := (x0 0)) hx hb hK hP hD hS 1 0 rfl rfl h_6 d_Zones_tell_6 (fun H locs hP hD hS => ?_)
  have hP : va_P (dC, dI) vwCl (wd_Zones g h0 q0 e0_6) H := by rw [he]; exact hP
  have hD : va_D A (wd_Zones g h0 q0 e0_6) := by rw [he]; exact hD
  obtain rfl := Option.some.inj hm
  rw [hQ]
  exact krv hx hb hr hlocks hAe hP hK hD hS d_Zones_tell_7
abbrev b_Zones_sizeOf : ByteArray := prog_10_method_5_code
abbrev y_Zones_sizeOf : MethodName := ⟨"AlarmMatrix$Zones", "sizeOf", "(I)I"⟩
theorem d_Zones_sizeOf_0 : decode b_Zones_sizeOf 0 = .ok (.aload_n 0, 1) := by decide +kernel
theorem d_Zones_sizeOf_1 : decode b_Zones_sizeOf 1 = .ok (.getfield 15, 3) := by decide +kernel
theorem d_Zones_sizeOf_4 : decode b_Zones_sizeOf 4 = .ok (.iload_n 1, 1) := by decide +kernel
theorem d_Zones_sizeOf_5 : decode b_Zones_sizeOf 5 = .ok (.iaload, 1) := by decide +kernel
theorem d_Zones_sizeOf_6 : decode b_Zones_sizeOf 6 = .ok (.ireturn, 1) := by decide +kernel
def m_Zones_sizeOf (F : Nat) (x0 : St) (a1 : Int32) : Option (Int32) :=
  (ck a1 20 (some ((x0 1) a1.toNatClampNeg)))
abbrev rm_Zones_sizeOf : Room := { frames := 0, cells := 0, slots := 0, locals := 0 }
set_option maxHeartbeats 4000000 in
set_option maxRecDepth 100000 in
theorem c_Zones_sizeOf {G : (Nat → Prop) → State → Prop} (hG : gok G) (hGn : gN G) (l : Launch) (dC : Nat → ClassId) (dI : Nat → Nat → Nat) (g : Nat → ClassId) (F : Nat) (sz : Nat) (h0 : Nat) (q0 : Nat → Nat) (x0 : St) (a1 : Int32) {o : Int32} (hm : m_Zones_sizeOf F x0 a1 = some o) : Met l y_Zones_sizeOf (.code y_Zones_sizeOf b_Zones_sizeOf 2 (some .int) :: gw) rm_Zones_sizeOf (kq (dC, dI) vwCl (tyv g) G [.ref h0, .int a1] sz (wd_Zones g h0 q0 x0)) (kqi (dC, dI) vwCl (tyv g) (wd_Zones g h0 q0 x0) o (wd_Zones g h0 q0 x0) sz) 0 0 (va_A (wd_Zones g h0 q0 x0) sz) := by
  unfold m_Zones_sizeOf at hm
  refine km (Qc := fun sz => kqi (dC, dI) vwCl (tyv g) (wd_Zones g h0 q0 x0) o (wd_Zones g h0 q0 x0) sz) (cc := b_Zones_sizeOf) (maxL := 2) (ret := some .int) (by decide) rfl (Nat.le_of_ble_eq_true rfl) ?_
  intro p e s m args below meth c Q hQ hx hb hr hts hown hlocks hml hnm H locs A hAe hA hP hK hD hS hGA ls hl
  have hl : lv_has ls 2 [(0, .ref h0), (1, .int a1)] := hl
  have hts : ∀ w ∈ gw, w.before args s = true := fun w h => hts w (List.mem_cons_of_mem _ h)
  have hown : s.vm.findClass "AlarmMatrix$Zones" = some m.cls := hown
  refine lv_aload_n hx hb d_Zones_sizeOf_0 rfl (lv_at hl 0 rfl) ?_
  refine va_get (D := (dC, dI)) (ci := 5) (v := .ref (q0 1)) (C := "AlarmMatrix$Zones") (T := T_Zones) (N := 5) hx hb hts i_Zones hown hK hP 0 rfl rfl 1 (by decide) (hts _ k1_139) (fun _ h9 => h9) rfl d_Zones_sizeOf_1 ?_
  refine lv_iload_n hx hb d_Zones_sizeOf_4 rfl (lv_at hl 1 rfl) ?_
  obtain ⟨h_5, hm⟩ := ck_s hm
  refine va_iald (f := (x0 1)) hx hb hK hP 2 0 rfl rfl h_5 d_Zones_sizeOf_5 ?_
  obtain rfl := Option.some.inj hm
  rw [hQ]
  exact kri hx hb hr hlocks hAe hP hK hD hS d_Zones_sizeOf_6
abbrev b_Zones_hasPoint : ByteArray := prog_10_method_6_code
abbrev y_Zones_hasPoint : MethodName := ⟨"AlarmMatrix$Zones", "hasPoint", "(II)Z"⟩
theorem d_Zones_hasPoint_0 : decode b_Zones_hasPoint 0 = .ok (.iload_n 1, 1) := by decide +kernel
theorem d_Zones_hasPoint_1 : decode b_Zones_hasPoint 1 = .ok (.bipush 12, 2) := by decide +kernel
theorem d_Zones_hasPoint_3 : decode b_Zones_hasPoint 3 = .ok (.imul, 1) := by decide +kernel
theorem d_Zones_hasPoint_4 : decode b_Zones_hasPoint 4 = .ok (.istore_n 3, 1) := by decide +kernel
theorem d_Zones_hasPoint_5 : decode b_Zones_hasPoint 5 = .ok (.iconst 0, 1) := by decide +kernel
theorem d_Zones_hasPoint_6 : decode b_Zones_hasPoint 6 = .ok (.istore 4, 2) := by decide +kernel
theorem d_Zones_hasPoint_8 : decode b_Zones_hasPoint 8 = .ok (.iload 4, 2) := by decide +kernel
theorem d_Zones_hasPoint_10 : decode b_Zones_hasPoint 10 = .ok (.aload_n 0, 1) := by decide +kernel
theorem d_Zones_hasPoint_11 : decode b_Zones_hasPoint 11 = .ok (.getfield 15, 3) := by decide +kernel
theorem d_Zones_hasPoint_14 : decode b_Zones_hasPoint 14 = .ok (.iload_n 1, 1) := by decide +kernel
theorem d_Zones_hasPoint_15 : decode b_Zones_hasPoint 15 = .ok (.iaload, 1) := by decide +kernel
theorem d_Zones_hasPoint_16 : decode b_Zones_hasPoint 16 = .ok (.if_icmp .ge 24, 3) := by decide +kernel
theorem d_Zones_hasPoint_19 : decode b_Zones_hasPoint 19 = .ok (.aload_n 0, 1) := by decide +kernel
theorem d_Zones_hasPoint_20 : decode b_Zones_hasPoint 20 = .ok (.getfield 18, 3) := by decide +kernel
theorem d_Zones_hasPoint_23 : decode b_Zones_hasPoint 23 = .ok (.iload_n 3, 1) := by decide +kernel
theorem d_Zones_hasPoint_24 : decode b_Zones_hasPoint 24 = .ok (.iload 4, 2) := by decide +kernel
theorem d_Zones_hasPoint_26 : decode b_Zones_hasPoint 26 = .ok (.iadd, 1) := by decide +kernel
theorem d_Zones_hasPoint_27 : decode b_Zones_hasPoint 27 = .ok (.iaload, 1) := by decide +kernel
theorem d_Zones_hasPoint_28 : decode b_Zones_hasPoint 28 = .ok (.iload_n 2, 1) := by decide +kernel
theorem d_Zones_hasPoint_29 : decode b_Zones_hasPoint 29 = .ok (.if_icmp .ne 5, 3) := by decide +kernel
theorem d_Zones_hasPoint_32 : decode b_Zones_hasPoint 32 = .ok (.iconst 1, 1) := by decide +kernel
theorem d_Zones_hasPoint_33 : decode b_Zones_hasPoint 33 = .ok (.ireturn, 1) := by decide +kernel
theorem d_Zones_hasPoint_34 : decode b_Zones_hasPoint 34 = .ok (.iinc 4 1, 3) := by decide +kernel
theorem d_Zones_hasPoint_37 : decode b_Zones_hasPoint 37 = .ok (.goto (-29), 3) := by decide +kernel
theorem d_Zones_hasPoint_40 : decode b_Zones_hasPoint 40 = .ok (.iconst 0, 1) := by decide +kernel
theorem d_Zones_hasPoint_41 : decode b_Zones_hasPoint 41 = .ok (.ireturn, 1) := by decide +kernel
def m_Zones_hasPoint_B8 {R : Type} (F : Nat) (a1 : Int32) (x0 : St) (a2 : Int32) (k8_32 : Int32 → Option R) (k8_40 : Int32 → Option R) (rec8 : Int32 → Option R) (v4_8 : Int32) : Option R :=
  (ck a1 20 (if ((x0 1) a1.toNatClampNeg) ≤ v4_8 then (k8_40 v4_8) else (ck ((a1 * (12 : Int32)) + v4_8) 240 (if ((x0 2) ((a1 * (12 : Int32)) + v4_8).toNatClampNeg) = a2 then (k8_32 v4_8) else (rec8 (v4_8 + (1 : Int32)))))))
theorem m_Zones_hasPoint_B8_h {R : Type} {F : Nat} {a1 : Int32} {x0 : St} {a2 : Int32} {k8_32 : Int32 → Option R} {k8_40 : Int32 → Option R} {rec8 : Int32 → Option R} {v4_8 : Int32} {o : R} (h : m_Zones_hasPoint_B8 F a1 x0 a2 k8_32 k8_40 rec8 v4_8 = some o) :
  (ck a1 20 (if ((x0 1) a1.toNatClampNeg) ≤ v4_8 then (k8_40 v4_8) else (ck ((a1 * (12 : Int32)) + v4_8) 240 (if ((x0 2) ((a1 * (12 : Int32)) + v4_8).toNatClampNeg) = a2 then (k8_32 v4_8) else (rec8 (v4_8 + (1 : Int32))))))) = some o := h
def m_Zones_hasPoint (F : Nat) (x0 : St) (a1 : Int32) (a2 : Int32) : Option (Int32) :=
  (lq1 (m_Zones_hasPoint_B8 F a1 x0 a2 (fun v4_8 => (some (1 : Int32))) (fun v4_8 => (some (0 : Int32)))) F (0 : Int32))
abbrev rm_Zones_hasPoint : Room := { frames := 0, cells := 0, slots := 0, locals := 0 }
set_option maxHeartbeats 4000000 in
set_option maxRecDepth 100000 in
theorem c_Zones_hasPoint {G : (Nat → Prop) → State → Prop} (hG : gok G) (hGn : gN G) (l : Launch) (dC : Nat → ClassId) (dI : Nat → Nat → Nat) (g : Nat → ClassId) (F : Nat) (sz : Nat) (h0 : Nat) (q0 : Nat → Nat) (x0 : St) (a1 : Int32) (a2 : Int32) {o : Int32} (hm : m_Zones_hasPoint F x0 a1 a2 = some o) : Met l y_Zones_hasPoint (.code y_Zones_hasPoint b_Zones_hasPoint 5 (some .boolean) :: gw) rm_Zones_hasPoint (kq (dC, dI) vwCl (tyv g) G [.ref h0, .int a1, .int a2] sz (wd_Zones g h0 q0 x0)) (kqi (dC, dI) vwCl (tyv g) (wd_Zones g h0 q0 x0) o (wd_Zones g h0 q0 x0) sz) 0 0 (va_A (wd_Zones g h0 q0 x0) sz) := by
  unfold m_Zones_hasPoint at hm
  refine km (Qc := fun sz => kqi (dC, dI) vwCl (tyv g) (wd_Zones g h0 q0 x0) o (wd_Zones g h0 q0 x0) sz) (cc := b_Zones_hasPoint) (maxL := 5) (ret := some .boolean) (by decide) rfl (Nat.le_of_ble_eq_true rfl) ?_
  intro p e s m args below meth c Q hQ hx hb hr hts hown hlocks hml hnm H locs A hAe hA hP hK hD hS hGA ls hl
  have hl : lv_has ls 5 [(0, .ref h0), (1, .int a1), (2, .int a2)] := hl
  have hts : ∀ w ∈ gw, w.before args s = true := fun w h => hts w (List.mem_cons_of_mem _ h)
  have hown : s.vm.findClass "AlarmMatrix$Zones" = some m.cls := hown
  refine lv_iload_n hx hb d_Zones_hasPoint_0 rfl (lv_at hl 1 rfl) ?_
  refine lv_bipush (v := (12 : Int32)) hx hb d_Zones_hasPoint_1 (by decide) ?_
  refine lv_imul hx hb d_Zones_hasPoint_3 ?_
  refine lv_istore_n (lv' := [(3, .int (a1 * (12 : Int32))), (0, .ref h0), (1, .int a1), (2, .int a2)]) hx hb d_Zones_hasPoint_4 rfl hl (by decide) rfl (fun ls hl => ?_)
  refine lv_iconst (v := (0 : Int32)) hx hb d_Zones_hasPoint_5 (by decide) ?_
  refine lv_istore (lv' := [(4, .int (0 : Int32)), (3, .int (a1 * (12 : Int32))), (0, .ref h0), (1, .int a1), (2, .int a2)]) hx hb d_Zones_hasPoint_6 hl (by decide) rfl (fun ls hl => ?_)
  have L8 : ∀ (n8 : Nat) (v4_8 : Int32) (H : Heap) (locs : List Loc) (ls : Array Slot), lq1 (m_Zones_hasPoint_B8 F a1 x0 a2 (fun v4_8 => (some (1 : Int32))) (fun v4_8 => (some (0 : Int32)))) n8 v4_8 = some o → va_P (dC, dI) vwCl (wd_Zones g h0 q0 x0) H → va_D A (wd_Zones g h0 q0 x0) → va_S A s.heap H locs → lv_has ls 5 [(0, .ref h0), (1, .int a1), (2, .int a2), (3, .int (a1 * (12 : Int32))), (4, .int v4_8)] → W p l e rm_Zones_hasPoint s m args below meth c H locs 0 0 Q (F0 m 8 ls []) := by
    intro n8
    induction n8 with
    | zero => intro v4_8 H locs ls hm; exact absurd hm (by intro z; cases z)
    | succ n8 ih8 =>
      intro v4_8 H locs ls hm hP hD hS hl
      replace hm := m_Zones_hasPoint_B8_h (lq1_h hm)
      refine lv_iload hx hb d_Zones_hasPoint_8 (lv_at hl 4 rfl) ?_
      refine lv_aload_n hx hb d_Zones_hasPoint_10 rfl (lv_at hl 0 rfl) ?_
      refine va_get (D := (dC, dI)) (ci := 5) (v := .ref (q0 1)) (C := "AlarmMatrix$Zones") (T := T_Zones) (N := 5) hx hb hts i_Zones hown hK hP 0 rfl rfl 1 (by decide) (hts _ k1_139) (fun _ h9 => h9) rfl d_Zones_hasPoint_11 ?_
      refine lv_iload_n hx hb d_Zones_hasPoint_14 rfl (lv_at hl 1 rfl) ?_
      obtain ⟨h_15, hm⟩ := ck_s hm
      refine va_iald (f := (x0 1)) hx hb hK hP 2 0 rfl rfl h_15 d_Zones_hasPoint_15 ?_
      refine lv_icmp_ge (tgt := 40) hx hb d_Zones_hasPoint_16 (by decide) (fun hc => ?_) (fun hc => ?_)
      · replace hm := if_t hm hc
        refine lv_iconst (v := (0 : Int32)) hx hb d_Zones_hasPoint_40 (by decide) ?_
        obtain rfl := Option.some.inj hm
        rw [hQ]
        exact krz hx hb hr nar_0 hlocks hAe hP hK hD hS d_Zones_hasPoint_41
      · replace hm := if_f hm hc
        refine lv_aload_n hx hb d_Zones_hasPoint_19 rfl (lv_at hl 0 rfl) ?_
        refine va_get (D := (dC, dI)) (ci := 5) (v := .ref (q0 2)) (C := "AlarmMatrix$Zones") (T := T_Zones) (N := 5) hx hb hts i_Zones hown hK hP 0 rfl rfl 2 (by decide) (hts _ k1_140) (fun _ h9 => h9) rfl d_Zones_hasPoint_20 ?_
        refine lv_iload_n hx hb d_Zones_hasPoint_23 rfl (lv_at hl 3 rfl) ?_
        refine lv_iload hx hb d_Zones_hasPoint_24 (lv_at hl 4 rfl) ?_
        refine lv_iadd hx hb d_Zones_hasPoint_26 ?_
        obtain ⟨h_27, hm⟩ := ck_s hm
        refine va_iald (f := (x0 2)) hx hb hK hP 3 0 rfl rfl h_27 d_Zones_hasPoint_27 ?_
        refine lv_iload_n hx hb d_Zones_hasPoint_28 rfl (lv_at hl 2 rfl) ?_
        refine lv_icmp_ne (tgt := 34) hx hb d_Zones_hasPoint_29 (by decide) (fun hc => ?_) (fun hc => ?_)
        · replace hm := if_f hm hc
          refine lv_iinc (v := (v4_8 + (1 : Int32))) (lv' := [(4, .int (v4_8 + (1 : Int32))), (0, .ref h0), (1, .int a1), (2, .int a2), (3, .int (a1 * (12 : Int32)))]) hx hb d_Zones_hasPoint_34 hl (k := 4) rfl rfl (by decide) rfl (fun ls hl => ?_)
          refine lv_goto (tgt := 8) hx hb d_Zones_hasPoint_37 (by decide) ?_
          exact ih8 (v4_8 + (1 : Int32)) H locs ls hm hP hD hS (lv_sub hl [1, 2, 3, 4, 0] rfl)
        · replace hm := if_t hm hc
          refine lv_iconst (v := (1 : Int32)) hx hb d_Zones_hasPoint_32 (by decide) ?_
          obtain rfl := Option.some.inj hm
          rw [hQ]
          exact krz hx hb hr nar_1 hlocks hAe hP hK hD hS d_Zones_hasPoint_33
  exact L8 F (0 : Int32) H locs ls hm hP hD hS (lv_sub hl [2, 3, 4, 1, 0] rfl)
abbrev b_Zones_addPoint : ByteArray := prog_10_method_7_code
abbrev y_Zones_addPoint : MethodName := ⟨"AlarmMatrix$Zones", "addPoint", "(II)V"⟩
theorem d_Zones_addPoint_0 : decode b_Zones_addPoint 0 = .ok (.aload_n 0, 1) := by decide +kernel
theorem d_Zones_addPoint_1 : decode b_Zones_addPoint 1 = .ok (.getfield 15, 3) := by decide +kernel
theorem d_Zones_addPoint_4 : decode b_Zones_addPoint 4 = .ok (.iload_n 1, 1) := by decide +kernel
theorem d_Zones_addPoint_5 : decode b_Zones_addPoint 5 = .ok (.iaload, 1) := by decide +kernel
theorem d_Zones_addPoint_6 : decode b_Zones_addPoint 6 = .ok (.bipush 12, 2) := by decide +kernel
theorem d_Zones_addPoint_8 : decode b_Zones_addPoint 8 = .ok (.if_icmp .ge 30, 3) := by decide +kernel
theorem d_Zones_addPoint_11 : decode b_Zones_addPoint 11 = .ok (.aload_n 0, 1) := by decide +kernel
theorem d_Zones_addPoint_12 : decode b_Zones_addPoint 12 = .ok (.getfield 18, 3) := by decide +kernel
theorem d_Zones_addPoint_15 : decode b_Zones_addPoint 15 = .ok (.iload_n 1, 1) := by decide +kernel
theorem d_Zones_addPoint_16 : decode b_Zones_addPoint 16 = .ok (.bipush 12, 2) := by decide +kernel
theorem d_Zones_addPoint_18 : decode b_Zones_addPoint 18 = .ok (.imul, 1) := by decide +kernel
theorem d_Zones_addPoint_19 : decode b_Zones_addPoint 19 = .ok (.aload_n 0, 1) := by decide +kernel
theorem d_Zones_addPoint_20 : decode b_Zones_addPoint 20 = .ok (.getfield 15, 3) := by decide +kernel
theorem d_Zones_addPoint_23 : decode b_Zones_addPoint 23 = .ok (.iload_n 1, 1) := by decide +kernel
theorem d_Zones_addPoint_24 : decode b_Zones_addPoint 24 = .ok (.iaload, 1) := by decide +kernel
theorem d_Zones_addPoint_25 : decode b_Zones_addPoint 25 = .ok (.iadd, 1) := by decide +kernel
theorem d_Zones_addPoint_26 : decode b_Zones_addPoint 26 = .ok (.iload_n 2, 1) := by decide +kernel
theorem d_Zones_addPoint_27 : decode b_Zones_addPoint 27 = .ok (.iastore, 1) := by decide +kernel
theorem d_Zones_addPoint_28 : decode b_Zones_addPoint 28 = .ok (.aload_n 0, 1) := by decide +kernel
theorem d_Zones_addPoint_29 : decode b_Zones_addPoint 29 = .ok (.getfield 15, 3) := by decide +kernel
theorem d_Zones_addPoint_32 : decode b_Zones_addPoint 32 = .ok (.iload_n 1, 1) := by decide +kernel
theorem d_Zones_addPoint_33 : decode b_Zones_addPoint 33 = .ok (.dup2, 1) := by decide +kernel
theorem d_Zones_addPoint_34 : decode b_Zones_addPoint 34 = .ok (.iaload, 1) := by decide +kernel
theorem d_Zones_addPoint_35 : decode b_Zones_addPoint 35 = .ok (.iconst 1, 1) := by decide +kernel
theorem d_Zones_addPoint_36 : decode b_Zones_addPoint 36 = .ok (.iadd, 1) := by decide +kernel
theorem d_Zones_addPoint_37 : decode b_Zones_addPoint 37 = .ok (.iastore, 1) := by decide +kernel
theorem d_Zones_addPoint_38 : decode b_Zones_addPoint 38 = .ok (.return_, 1) := by decide +kernel
def m_Zones_addPoint (F : Nat) (x0 : St) (a1 : Int32) (a2 : Int32) : Option (St) :=
  (ck a1 20 (if (12 : Int32) ≤ ((x0 1) a1.toNatClampNeg) then (some x0) else (ck a1 20 (ck ((a1 * (12 : Int32)) + ((x0 1) a1.toNatClampNeg)) 240 (lz (st x0 2 (upd (x0 2) ((a1 * (12 : Int32)) + ((x0 1) a1.toNatClampNeg)).toNatClampNeg a2)) (fun e0_27 => (ck a1 20 (ck a1 20 (lz (st e0_27 1 (upd (e0_27 1) a1.toNatClampNeg (((e0_27 1) a1.toNatClampNeg) + (1 : Int32)))) (fun e0_37 => (some e0_37)))))))))))
abbrev rm_Zones_addPoint : Room := { frames := 0, cells := 0, slots := 0, locals := 0 }
set_option maxHeartbeats 4000000 in
set_option maxRecDepth 100000 in
theorem c_Zones_addPoint {G : (Nat → Prop) → State → Prop} (hG : gok G) (hGn : gN G) (l : Launch) (dC : Nat → ClassId) (dI : Nat → Nat → Nat) (g : Nat → ClassId) (F : Nat) (sz : Nat) (h0 : Nat) (q0 : Nat → Nat) (x0 : St) (a1 : Int32) (a2 : Int32) {o : St} (hm : m_Zones_addPoint F x0 a1 a2 = some o) : Met l y_Zones_addPoint (.code y_Zones_addPoint b_Zones_addPoint 3 none :: gw) rm_Zones_addPoint (kq (dC, dI) vwCl (tyv g) G [.ref h0, .int a1, .int a2] sz (wd_Zones g h0 q0 x0)) (kqv (dC, dI) vwCl (tyv g) (wd_Zones g h0 q0 x0) (wd_Zones g h0 q0 o) sz) 0 0 (va_A (wd_Zones g h0 q0 x0) sz) := by
  unfold m_Zones_addPoint at hm
  refine km (Qc := fun sz => kqv (dC, dI) vwCl (tyv g) (wd_Zones g h0 q0 x0) (wd_Zones g h0 q0 o) sz) (cc := b_Zones_addPoint) (maxL := 3) (ret := none) (by decide) rfl (Nat.le_of_ble_eq_true rfl) ?_
  intro p e s m args below meth c Q hQ hx hb hr hts hown hlocks hml hnm H locs A hAe hA hP hK hD hS hGA ls hl
  have hl : lv_has ls 3 [(0, .ref h0), (1, .int a1), (2, .int a2)] := hl
  have hts : ∀ w ∈ gw, w.before args s = true := fun w h => hts w (List.mem_cons_of_mem _ h)
  have hown : s.vm.findClass "AlarmMatrix$Zones" = some m.cls := hown
  refine lv_aload_n hx hb d_Zones_addPoint_0 rfl (lv_at hl 0 rfl) ?_
  refine va_get (D := (dC, dI)) (ci := 5) (v := .ref (q0 1)) (C := "AlarmMatrix$Zones") (T := T_Zones) (N := 5) hx hb hts i_Zones hown hK hP 0 rfl rfl 1 (by decide) (hts _ k1_139) (fun _ h9 => h9) rfl d_Zones_addPoint_1 ?_
  refine lv_iload_n hx hb d_Zones_addPoint_4 rfl (lv_at hl 1 rfl) ?_
  obtain ⟨h_5, hm⟩ := ck_s hm
  refine va_iald (f := (x0 1)) hx hb hK hP 2 0 rfl rfl h_5 d_Zones_addPoint_5 ?_
  refine lv_bipush (v := (12 : Int32)) hx hb d_Zones_addPoint_6 (by decide) ?_
  refine lv_icmp_ge (tgt := 38) hx hb d_Zones_addPoint_8 (by decide) (fun hc => ?_) (fun hc => ?_)
  · replace hm := if_t hm hc
    obtain rfl := Option.some.inj hm
    rw [hQ]
    exact krv hx hb hr hlocks hAe hP hK hD hS d_Zones_addPoint_38
  · replace hm := if_f hm hc
    refine lv_aload_n hx hb d_Zones_addPoint_11 rfl (lv_at hl 0 rfl) ?_
    refine va_get (D := (dC, dI)) (ci := 5) (v := .ref (q0 2)) (C := "AlarmMatrix$Zones") (T := T_Zones) (N := 5) hx hb hts i_Zones hown hK hP 0 rfl rfl 2 (by decide) (hts _ k1_140) (fun _ h9 => h9) rfl d_Zones_addPoint_12 ?_
    refine lv_iload_n hx hb d_Zones_addPoint_15 rfl (lv_at hl 1 rfl) ?_
    refine lv_bipush (v := (12 : Int32)) hx hb d_Zones_addPoint_16 (by decide) ?_
    refine lv_imul hx hb d_Zones_addPoint_18 ?_
    refine lv_aload_n hx hb d_Zones_addPoint_19 rfl (lv_at hl 0 rfl) ?_
    refine va_get (D := (dC, dI)) (ci := 5) (v := .ref (q0 1)) (C := "AlarmMatrix$Zones") (T := T_Zones) (N := 5) hx hb hts i_Zones hown hK hP 0 rfl rfl 1 (by decide) (hts _ k1_139) (fun _ h9 => h9) rfl d_Zones_addPoint_20 ?_
    refine lv_iload_n hx hb d_Zones_addPoint_23 rfl (lv_at hl 1 rfl) ?_
    obtain ⟨h_24, hm⟩ := ck_s hm
    refine va_iald (f := (x0 1)) hx hb hK hP 2 0 rfl rfl h_24 d_Zones_addPoint_24 ?_
    refine lv_iadd hx hb d_Zones_addPoint_25 ?_
    refine lv_iload_n hx hb d_Zones_addPoint_26 rfl (lv_at hl 2 rfl) ?_
    obtain ⟨h_27, hm⟩ := ck_s hm
    obtain ⟨e0_27, he, hm⟩ := lz_s hm
    refine va_iast (f := (x0 2)) hx hb hK hP hD hS 3 0 rfl rfl h_27 d_Zones_addPoint_27 (fun H locs hP hD hS => ?_)
    have hP : va_P (dC, dI) vwCl (wd_Zones g h0 q0 e0_27) H := by rw [he]; exact hP
    have hD : va_D A (wd_Zones g h0 q0 e0_27) := by rw [he]; exact hD
    refine lv_aload_n hx hb d_Zones_addPoint_28 rfl (lv_at hl 0 rfl) ?_
    refine va_get (D := (dC, dI)) (ci := 5) (v := .ref (q0 1)) (C := "AlarmMatrix$Zones") (T := T_Zones) (N := 5) hx hb hts i_Zones hown hK hP 0 rfl rfl 1 (by decide) (hts _ k1_139) (fun _ h9 => h9) rfl d_Zones_addPoint_29 ?_
    refine lv_iload_n hx hb d_Zones_addPoint_32 rfl (lv_at hl 1 rfl) ?_
    refine lv_dup2_11 hx hb d_Zones_addPoint_33 rfl rfl ?_
    obtain ⟨h_34, hm⟩ := ck_s hm
    refine va_iald (f := (e0_27 1)) hx hb hK hP 2 0 rfl rfl h_34 d_Zones_addPoint_34 ?_
    refine lv_iconst (v := (1 : Int32)) hx hb d_Zones_addPoint_35 (by decide) ?_
    refine lv_iadd hx hb d_Zones_addPoint_36 ?_
    obtain ⟨h_37, hm⟩ := ck_s hm
    obtain ⟨e0_37, he, hm⟩ := lz_s hm
    refine va_iast (f := (e0_27 1)) hx hb hK hP hD hS 2 0 rfl rfl h_37 d_Zones_addPoint_37 (fun H locs hP hD hS => ?_)
    have hP : va_P (dC, dI) vwCl (wd_Zones g h0 q0 e0_37) H := by rw [he]; exact hP
    have hD : va_D A (wd_Zones g h0 q0 e0_37) := by rw [he]; exact hD
    obtain rfl := Option.some.inj hm
    rw [hQ]
    exact krv hx hb hr hlocks hAe hP hK hD hS d_Zones_addPoint_38
abbrev b_Zones_lookAt : ByteArray := prog_10_method_9_code
abbrev y_Zones_lookAt : MethodName := ⟨"AlarmMatrix$Zones", "lookAt", "(ILAlarmMatrix$Points;I)V"⟩
theorem d_Zones_lookAt_0 : decode b_Zones_lookAt 0 = .ok (.iload_n 1, 1) := by decide +kernel
theorem d_Zones_lookAt_1 : decode b_Zones_lookAt 1 = .ok (.bipush 12, 2) := by decide +kernel
theorem d_Zones_lookAt_3 : decode b_Zones_lookAt 3 = .ok (.imul, 1) := by decide +kernel
theorem d_Zones_lookAt_4 : decode b_Zones_lookAt 4 = .ok (.istore 4, 2) := by decide +kernel
theorem d_Zones_lookAt_6 : decode b_Zones_lookAt 6 = .ok (.iconst 0, 1) := by decide +kernel
theorem d_Zones_lookAt_7 : decode b_Zones_lookAt 7 = .ok (.istore 5, 2) := by decide +kernel
theorem d_Zones_lookAt_9 : decode b_Zones_lookAt 9 = .ok (.iconst 0, 1) := by decide +kernel
theorem d_Zones_lookAt_10 : decode b_Zones_lookAt 10 = .ok (.istore 6, 2) := by decide +kernel
theorem d_Zones_lookAt_12 : decode b_Zones_lookAt 12 = .ok (.iconst 0, 1) := by decide +kernel
theorem d_Zones_lookAt_13 : decode b_Zones_lookAt 13 = .ok (.istore 7, 2) := by decide +kernel
theorem d_Zones_lookAt_15 : decode b_Zones_lookAt 15 = .ok (.iload 7, 2) := by decide +kernel
theorem d_Zones_lookAt_17 : decode b_Zones_lookAt 17 = .ok (.aload_n 0, 1) := by decide +kernel
theorem d_Zones_lookAt_18 : decode b_Zones_lookAt 18 = .ok (.getfield 15, 3) := by decide +kernel
theorem d_Zones_lookAt_21 : decode b_Zones_lookAt 21 = .ok (.iload_n 1, 1) := by decide +kernel
theorem d_Zones_lookAt_22 : decode b_Zones_lookAt 22 = .ok (.iaload, 1) := by decide +kernel
theorem d_Zones_lookAt_23 : decode b_Zones_lookAt 23 = .ok (.if_icmp .ge 48, 3) := by decide +kernel
theorem d_Zones_lookAt_26 : decode b_Zones_lookAt 26 = .ok (.aload_n 0, 1) := by decide +kernel
theorem d_Zones_lookAt_27 : decode b_Zones_lookAt 27 = .ok (.getfield 18, 3) := by decide +kernel
theorem d_Zones_lookAt_30 : decode b_Zones_lookAt 30 = .ok (.iload 4, 2) := by decide +kernel
theorem d_Zones_lookAt_32 : decode b_Zones_lookAt 32 = .ok (.iload 7, 2) := by decide +kernel
theorem d_Zones_lookAt_34 : decode b_Zones_lookAt 34 = .ok (.iadd, 1) := by decide +kernel
theorem d_Zones_lookAt_35 : decode b_Zones_lookAt 35 = .ok (.iaload, 1) := by decide +kernel
theorem d_Zones_lookAt_36 : decode b_Zones_lookAt 36 = .ok (.istore 8, 2) := by decide +kernel
theorem d_Zones_lookAt_38 : decode b_Zones_lookAt 38 = .ok (.aload_n 2, 1) := by decide +kernel
theorem d_Zones_lookAt_39 : decode b_Zones_lookAt 39 = .ok (.iload 8, 2) := by decide +kernel
theorem d_Zones_lookAt_41 : decode b_Zones_lookAt 41 = .ok (.iload_n 3, 1) := by decide +kernel
theorem d_Zones_lookAt_42 : decode b_Zones_lookAt 42 = .ok (.invokevirtual 41, 3) := by decide +kernel
theorem d_Zones_lookAt_45 : decode b_Zones_lookAt 45 = .ok (.ifCond .eq 20, 3) := by decide +kernel
theorem d_Zones_lookAt_48 : decode b_Zones_lookAt 48 = .ok (.iinc 6 1, 3) := by decide +kernel
theorem d_Zones_lookAt_51 : decode b_Zones_lookAt 51 = .ok (.iload 5, 2) := by decide +kernel
theorem d_Zones_lookAt_53 : decode b_Zones_lookAt 53 = .ok (.aload_n 2, 1) := by decide +kernel
theorem d_Zones_lookAt_54 : decode b_Zones_lookAt 54 = .ok (.iload 8, 2) := by decide +kernel
theorem d_Zones_lookAt_56 : decode b_Zones_lookAt 56 = .ok (.invokevirtual 47, 3) := by decide +kernel
theorem d_Zones_lookAt_59 : decode b_Zones_lookAt 59 = .ok (.invokestatic 51, 3) := by decide +kernel
theorem d_Zones_lookAt_62 : decode b_Zones_lookAt 62 = .ok (.iadd, 1) := by decide +kernel
theorem d_Zones_lookAt_63 : decode b_Zones_lookAt 63 = .ok (.istore 5, 2) := by decide +kernel
theorem d_Zones_lookAt_65 : decode b_Zones_lookAt 65 = .ok (.iinc 7 1, 3) := by decide +kernel
theorem d_Zones_lookAt_68 : decode b_Zones_lookAt 68 = .ok (.goto (-53), 3) := by decide +kernel
theorem d_Zones_lookAt_71 : decode b_Zones_lookAt 71 = .ok (.aload_n 0, 1) := by decide +kernel
theorem d_Zones_lookAt_72 : decode b_Zones_lookAt 72 = .ok (.getfield 21, 3) := by decide +kernel
theorem d_Zones_lookAt_75 : decode b_Zones_lookAt 75 = .ok (.iload_n 1, 1) := by decide +kernel
theorem d_Zones_lookAt_76 : decode b_Zones_lookAt 76 = .ok (.iload 5, 2) := by decide +kernel
theorem d_Zones_lookAt_78 : decode b_Zones_lookAt 78 = .ok (.iastore, 1) := by decide +kernel
theorem d_Zones_lookAt_79 : decode b_Zones_lookAt 79 = .ok (.aload_n 0, 1) := by decide +kernel
theorem d_Zones_lookAt_80 : decode b_Zones_lookAt 80 = .ok (.getfield 24, 3) := by decide +kernel
theorem d_Zones_lookAt_83 : decode b_Zones_lookAt 83 = .ok (.iload_n 1, 1) := by decide +kernel
theorem d_Zones_lookAt_84 : decode b_Zones_lookAt 84 = .ok (.iload 6, 2) := by decide +kernel
theorem d_Zones_lookAt_86 : decode b_Zones_lookAt 86 = .ok (.iastore, 1) := by decide +kernel
theorem d_Zones_lookAt_87 : decode b_Zones_lookAt 87 = .ok (.return_, 1) := by decide +kernel
def m_Zones_lookAt_B15 {R : Type} (F : Nat) (a1 : Int32) (x0 : St) (x1 : St) (n1 : Nat) (a3 : Int32) (k15_71 : Int32 → Int32 → Int32 → Option R) (rec15 : Int32 → Int32 → Int32 → Option R) (v5_15 : Int32) (v6_15 : Int32) (v7_15 : Int32) : Option R :=
  (ck a1 20 (if ((x0 1) a1.toNatClampNeg) ≤ v7_15 then (k15_71 v5_15 v6_15 v7_15) else (ck ((a1 * (12 : Int32)) + v7_15) 240 (bn1 (m_Points_isAble F x1 n1 ((x0 2) ((a1 * (12 : Int32)) + v7_15).toNatClampNeg) a3) (fun r42 => (if r42 = (0 : Int32) then (rec15 v5_15 v6_15 (v7_15 + (1 : Int32))) else (bn1 (m_Points_isHigh F x1 n1 ((x0 2) ((a1 * (12 : Int32)) + v7_15).toNatClampNeg)) (fun r56 => (bn1 (m_AM_oneIf F r56) (fun r59 => (rec15 (v5_15 + r59) (v6_15 + (1 : Int32)) (v7_15 + (1 : Int32)))))))))))))
theorem m_Zones_lookAt_B15_h {R : Type} {F : Nat} {a1 : Int32} {x0 : St} {x1 : St} {n1 : Nat} {a3 : Int32} {k15_71 : Int32 → Int32 → Int32 → Option R} {rec15 : Int32 → Int32 → Int32 → Option R} {v5_15 : Int32} {v6_15 : Int32} {v7_15 : Int32} {o : R} (h : m_Zones_lookAt_B15 F a1 x0 x1 n1 a3 k15_71 rec15 v5_15 v6_15 v7_15 = some o) :
  (ck a1 20 (if ((x0 1) a1.toNatClampNeg) ≤ v7_15 then (k15_71 v5_15 v6_15 v7_15) else (ck ((a1 * (12 : Int32)) + v7_15) 240 (bn1 (m_Points_isAble F x1 n1 ((x0 2) ((a1 * (12 : Int32)) + v7_15).toNatClampNeg) a3) (fun r42 => (if r42 = (0 : Int32) then (rec15 v5_15 v6_15 (v7_15 + (1 : Int32))) else (bn1 (m_Points_isHigh F x1 n1 ((x0 2) ((a1 * (12 : Int32)) + v7_15).toNatClampNeg)) (fun r56 => (bn1 (m_AM_oneIf F r56) (fun r59 => (rec15 (v5_15 + r59) (v6_15 + (1 : Int32)) (v7_15 + (1 : Int32))))))))))))) = some o := h
def m_Zones_lookAt (F : Nat) (x0 : St) (x1 : St) (n1 : Nat) (a1 : Int32) (a3 : Int32) : Option (St) :=
  (lq3 (m_Zones_lookAt_B15 F a1 x0 x1 n1 a3 (fun v5_15 v6_15 v7_15 => (ck a1 20 (lz (st x0 3 (upd (x0 3) a1.toNatClampNeg v5_15)) (fun e0_78 => (ck a1 20 (lz (st e0_78 4 (upd (e0_78 4) a1.toNatClampNeg v6_15)) (fun e0_86 => (some e0_86))))))))) F (0 : Int32) (0 : Int32) (0 : Int32))
abbrev rm_Zones_lookAt : Room := { frames := 1, cells := 0, slots := 0, locals := 22 }
set_option maxHeartbeats 4000000 in
set_option maxRecDepth 100000 in
theorem c_Zones_lookAt {G : (Nat → Prop) → State → Prop} (hG : gok G) (hGn : gN G) (l : Launch) (dC : Nat → ClassId) (dI : Nat → Nat → Nat) (g : Nat → ClassId) (F : Nat) (sz : Nat) (h0 : Nat) (q0 : Nat → Nat) (x0 : St) (h1 : Nat) (q1 : Nat → Nat) (x1 : St) (n1 : Nat) (a1 : Int32) (a3 : Int32) {o : St} (hm : m_Zones_lookAt F x0 x1 n1 a1 a3 = some o) : Met l y_Zones_lookAt (.code y_Zones_lookAt b_Zones_lookAt 9 none :: gw) rm_Zones_lookAt (kq (dC, dI) vwCl (tyv g) G [.ref h0, .int a1, .ref h1, .int a3] sz (wd_Zones g h0 q0 x0 ++ wd_Points g h1 q1 x1 n1)) (kqv (dC, dI) vwCl (tyv g) (wd_Zones g h0 q0 x0 ++ wd_Points g h1 q1 x1 n1) (wd_Zones g h0 q0 o ++ wd_Points g h1 q1 x1 n1) sz) 0 0 (va_A (wd_Zones g h0 q0 x0 ++ wd_Points g h1 q1 x1 n1) sz) := by
  unfold m_Zones_lookAt at hm
  refine km (Qc := fun sz => kqv (dC, dI) vwCl (tyv g) (wd_Zones g h0 q0 x0 ++ wd_Points g h1 q1 x1 n1) (wd_Zones g h0 q0 o ++ wd_Points g h1 q1 x1 n1) sz) (cc := b_Zones_lookAt) (maxL := 9) (ret := none) (by decide) rfl (Nat.le_of_ble_eq_true rfl) ?_
  intro p e s m args below meth c Q hQ hx hb hr hts hown hlocks hml hnm H locs A hAe hA hP hK hD hS hGA ls hl
  have hl : lv_has ls 9 [(0, .ref h0), (1, .int a1), (2, .ref h1), (3, .int a3)] := hl
  have hts : ∀ w ∈ gw, w.before args s = true := fun w h => hts w (List.mem_cons_of_mem _ h)
  have hown : s.vm.findClass "AlarmMatrix$Zones" = some m.cls := hown
  refine lv_iload_n hx hb d_Zones_lookAt_0 rfl (lv_at hl 1 rfl) ?_
  refine lv_bipush (v := (12 : Int32)) hx hb d_Zones_lookAt_1 (by decide) ?_
  refine lv_imul hx hb d_Zones_lookAt_3 ?_
  refine lv_istore (lv' := [(4, .int (a1 * (12 : Int32))), (0, .ref h0), (1, .int a1), (2, .ref h1), (3, .int a3)]) hx hb d_Zones_lookAt_4 hl (by decide) rfl (fun ls hl => ?_)
  refine lv_iconst (v := (0 : Int32)) hx hb d_Zones_lookAt_6 (by decide) ?_
  refine lv_istore (lv' := [(5, .int (0 : Int32)), (4, .int (a1 * (12 : Int32))), (0, .ref h0), (1, .int a1), (2, .ref h1), (3, .int a3)]) hx hb d_Zones_lookAt_7 hl (by decide) rfl (fun ls hl => ?_)
  refine lv_iconst (v := (0 : Int32)) hx hb d_Zones_lookAt_9 (by decide) ?_
  refine lv_istore (lv' := [(6, .int (0 : Int32)), (5, .int (0 : Int32)), (4, .int (a1 * (12 : Int32))), (0, .ref h0), (1, .int a1), (2, .ref h1), (3, .int a3)]) hx hb d_Zones_lookAt_10 hl (by decide) rfl (fun ls hl => ?_)
  refine lv_iconst (v := (0 : Int32)) hx hb d_Zones_lookAt_12 (by decide) ?_
  refine lv_istore (lv' := [(7, .int (0 : Int32)), (6, .int (0 : Int32)), (5, .int (0 : Int32)), (4, .int (a1 * (12 : Int32))), (0, .ref h0), (1, .int a1), (2, .ref h1), (3, .int a3)]) hx hb d_Zones_lookAt_13 hl (by decide) rfl (fun ls hl => ?_)
  have L15 : ∀ (n15 : Nat) (v5_15 : Int32) (v6_15 : Int32) (v7_15 : Int32) (H : Heap) (locs : List Loc) (ls : Array Slot), lq3 (m_Zones_lookAt_B15 F a1 x0 x1 n1 a3 (fun v5_15 v6_15 v7_15 => (ck a1 20 (lz (st x0 3 (upd (x0 3) a1.toNatClampNeg v5_15)) (fun e0_78 => (ck a1 20 (lz (st e0_78 4 (upd (e0_78 4) a1.toNatClampNeg v6_15)) (fun e0_86 => (some e0_86))))))))) n15 v5_15 v6_15 v7_15 = some o → va_P (dC, dI) vwCl (wd_Zones g h0 q0 x0 ++ wd_Points g h1 q1 x1 n1) H → va_D A (wd_Zones g h0 q0 x0 ++ wd_Points g h1 q1 x1 n1) → va_S A s.heap H locs → lv_has ls 9 [(0, .ref h0), (1, .int a1), (2, .ref h1), (3, .int a3), (4, .int (a1 * (12 : Int32))), (5, .int v5_15), (6, .int v6_15), (7, .int v7_15)] → W p l e rm_Zones_lookAt s m args below meth c H locs 0 0 Q (F0 m 15 ls []) := by
    intro n15
    induction n15 with
    | zero => intro v5_15 v6_15 v7_15 H locs ls hm; exact absurd hm (by intro z; cases z)
    | succ n15 ih15 =>
      intro v5_15 v6_15 v7_15 H locs ls hm hP hD hS hl
      replace hm := m_Zones_lookAt_B15_h (lq3_h hm)
      refine lv_iload hx hb d_Zones_lookAt_15 (lv_at hl 7 rfl) ?_
      refine lv_aload_n hx hb d_Zones_lookAt_17 rfl (lv_at hl 0 rfl) ?_
      refine va_get (D := (dC, dI)) (ci := 5) (v := .ref (q0 1)) (C := "AlarmMatrix$Zones") (T := T_Zones) (N := 5) hx hb hts i_Zones hown hK hP 0 rfl rfl 1 (by decide) (hts _ k1_139) (fun _ h9 => h9) rfl d_Zones_lookAt_18 ?_
      refine lv_iload_n hx hb d_Zones_lookAt_21 rfl (lv_at hl 1 rfl) ?_
      obtain ⟨h_22, hm⟩ := ck_s hm
      refine va_iald (f := (x0 1)) hx hb hK hP 2 0 rfl rfl h_22 d_Zones_lookAt_22 ?_
      refine lv_icmp_ge (tgt := 71) hx hb d_Zones_lookAt_23 (by decide) (fun hc => ?_) (fun hc => ?_)
      · replace hm := if_t hm hc
        refine lv_aload_n hx hb d_Zones_lookAt_71 rfl (lv_at hl 0 rfl) ?_
        refine va_get (D := (dC, dI)) (ci := 5) (v := .ref (q0 3)) (C := "AlarmMatrix$Zones") (T := T_Zones) (N := 5) hx hb hts i_Zones hown hK hP 0 rfl rfl 3 (by decide) (hts _ k1_141) (fun _ h9 => h9) rfl d_Zones_lookAt_72 ?_
        refine lv_iload_n hx hb d_Zones_lookAt_75 rfl (lv_at hl 1 rfl) ?_
        refine lv_iload hx hb d_Zones_lookAt_76 (lv_at hl 5 rfl) ?_
        obtain ⟨h_78, hm⟩ := ck_s hm
        obtain ⟨e0_78, he, hm⟩ := lz_s hm
        refine va_iast (f := (x0 3)) hx hb hK hP hD hS 4 0 rfl rfl h_78 d_Zones_lookAt_78 (fun H locs hP hD hS => ?_)
        have hP : va_P (dC, dI) vwCl (wd_Zones g h0 q0 e0_78 ++ wd_Points g h1 q1 x1 n1) H := by rw [he]; exact hP
        have hD : va_D A (wd_Zones g h0 q0 e0_78 ++ wd_Points g h1 q1 x1 n1) := by rw [he]; exact hD
        refine lv_aload_n hx hb d_Zones_lookAt_79 rfl (lv_at hl 0 rfl) ?_
        refine va_get (D := (dC, dI)) (ci := 5) (v := .ref (q0 4)) (C := "AlarmMatrix$Zones") (T := T_Zones) (N := 5) hx hb hts i_Zones hown hK hP 0 rfl rfl 4 (by decide) (hts _ k1_142) (fun _ h9 => h9) rfl d_Zones_lookAt_80 ?_
        refine lv_iload_n hx hb d_Zones_lookAt_83 rfl (lv_at hl 1 rfl) ?_
        refine lv_iload hx hb d_Zones_lookAt_84 (lv_at hl 6 rfl) ?_
        obtain ⟨h_86, hm⟩ := ck_s hm
        obtain ⟨e0_86, he, hm⟩ := lz_s hm
        refine va_iast (f := (e0_78 4)) hx hb hK hP hD hS 5 0 rfl rfl h_86 d_Zones_lookAt_86 (fun H locs hP hD hS => ?_)
        have hP : va_P (dC, dI) vwCl (wd_Zones g h0 q0 e0_86 ++ wd_Points g h1 q1 x1 n1) H := by rw [he]; exact hP
        have hD : va_D A (wd_Zones g h0 q0 e0_86 ++ wd_Points g h1 q1 x1 n1) := by rw [he]; exact hD
        obtain rfl := Option.some.inj hm
        rw [hQ]
        exact krv hx hb hr hlocks hAe hP hK hD hS d_Zones_lookAt_87
      · replace hm := if_f hm hc
        refine lv_aload_n hx hb d_Zones_lookAt_26 rfl (lv_at hl 0 rfl) ?_
        refine va_get (D := (dC, dI)) (ci := 5) (v := .ref (q0 2)) (C := "AlarmMatrix$Zones") (T := T_Zones) (N := 5) hx hb hts i_Zones hown hK hP 0 rfl rfl 2 (by decide) (hts _ k1_140) (fun _ h9 => h9) rfl d_Zones_lookAt_27 ?_
        refine lv_iload hx hb d_Zones_lookAt_30 (lv_at hl 4 rfl) ?_
        refine lv_iload hx hb d_Zones_lookAt_32 (lv_at hl 7 rfl) ?_
        refine lv_iadd hx hb d_Zones_lookAt_34 ?_
        obtain ⟨h_35, hm⟩ := ck_s hm
        refine va_iald (f := (x0 2)) hx hb hK hP 3 0 rfl rfl h_35 d_Zones_lookAt_35 ?_
        refine lv_istore (lv' := [(8, .int ((x0 2) ((a1 * (12 : Int32)) + v7_15).toNatClampNeg)), (0, .ref h0), (1, .int a1), (2, .ref h1), (3, .int a3), (4, .int (a1 * (12 : Int32))), (5, .int v5_15), (6, .int v6_15), (7, .int v7_15)]) hx hb d_Zones_lookAt_36 hl (by decide) rfl (fun ls hl => ?_)
        refine lv_aload_n hx hb d_Zones_lookAt_38 rfl (lv_at hl 3 rfl) ?_
        refine lv_iload hx hb d_Zones_lookAt_39 (lv_at hl 0 rfl) ?_
        refine lv_iload_n hx hb d_Zones_lookAt_41 rfl (lv_at hl 4 rfl) ?_
        obtain ⟨r42, hcl, hm⟩ := bn1_s hm
        refine kci (wc := wd_Points g h1 q1 x1 n1) (wr := wd_Zones g h0 q0 x0) (w1 := wd_Points g h1 q1 x1 n1) hP hD hS hA [6, 7, 8, 9, 10, 11] [0, 1, 2, 3, 4, 5] rfl rfl (by decide) (by decide) (va_runV (As := [.int ((x0 2) ((a1 * (12 : Int32)) + v7_15).toNatClampNeg), .int a3]) (rest := []) ⟨hx, hb, hml, hown, hts⟩ (c_Points_isAble hG hGn l dC dI g F H.size h1 q1 x1 n1 ((x0 2) ((a1 * (12 : Int32)) + v7_15).toNatClampNeg) a3 hcl) (cwV 2 hts (gdV k3_40 k3_41 k3_42 k1_3 k3_43) rfl rfl rfl (by decide +kernel) ⟨Nat.le_of_ble_eq_true rfl, Nat.le_of_ble_eq_true rfl⟩) (kpV hG hP hK hD hS hA hGA [6, 7, 8, 9, 10, 11] (by decide) rfl (ci := 7) (q0 := 0) rfl rfl rfl) rfl rfl hl.1 rfl (lv_room (Nat.le_of_ble_eq_true rfl)) d_Zones_lookAt_42 ⟨Nat.le_of_ble_eq_true rfl, Nat.le_of_ble_eq_true rfl⟩) (fun H locs hP hD hS => ?_)
        have hP : va_P (dC, dI) vwCl (wd_Zones g h0 q0 x0 ++ wd_Points g h1 q1 x1 n1) H := hP
        have hD : va_D A (wd_Zones g h0 q0 x0 ++ wd_Points g h1 q1 x1 n1) := hD
        refine lv_if_eq (tgt := 65) hx hb d_Zones_lookAt_45 (by decide) (fun hc => ?_) (fun hc => ?_)
        · replace hm := if_t hm hc
          refine lv_iinc (v := (v7_15 + (1 : Int32))) (lv' := [(7, .int (v7_15 + (1 : Int32))), (8, .int ((x0 2) ((a1 * (12 : Int32)) + v7_15).toNatClampNeg)), (0, .ref h0), (1, .int a1), (2, .ref h1), (3, .int a3), (4, .int (a1 * (12 : Int32))), (5, .int v5_15), (6, .int v6_15)]) hx hb d_Zones_lookAt_65 hl (k := 8) rfl rfl (by decide) rfl (fun ls hl => ?_)
          refine lv_goto (tgt := 15) hx hb d_Zones_lookAt_68 (by decide) ?_
          exact ih15 v5_15 v6_15 (v7_15 + (1 : Int32)) H locs ls hm hP hD hS (lv_sub hl [2, 3, 4, 5, 6, 7, 8, 0] rfl)
        · replace hm := if_f hm hc
          refine lv_iinc (v := (v6_15 + (1 : Int32))) (lv' := [(6, .int (v6_15 + (1 : Int32))), (8, .int ((x0 2) ((a1 * (12 : Int32)) + v7_15).toNatClampNeg)), (0, .ref h0), (1, .int a1), (2, .ref h1), (3, .int a3), (4, .int (a1 * (12 : Int32))), (5, .int v5_15), (7, .int v7_15)]) hx hb d_Zones_lookAt_48 hl (k := 7) rfl rfl (by decide) rfl (fun ls hl => ?_)
          refine lv_iload hx hb d_Zones_lookAt_51 (lv_at hl 7 rfl) ?_
          refine lv_aload_n hx hb d_Zones_lookAt_53 rfl (lv_at hl 4 rfl) ?_
          refine lv_iload hx hb d_Zones_lookAt_54 (lv_at hl 1 rfl) ?_
          obtain ⟨r56, hcl, hm⟩ := bn1_s hm
          refine kci (wc := wd_Points g h1 q1 x1 n1) (wr := wd_Zones g h0 q0 x0) (w1 := wd_Points g h1 q1 x1 n1) hP hD hS hA [6, 7, 8, 9, 10, 11] [0, 1, 2, 3, 4, 5] rfl rfl (by decide) (by decide) (va_runV (As := [.int ((x0 2) ((a1 * (12 : Int32)) + v7_15).toNatClampNeg)]) (rest := [.int v5_15]) ⟨hx, hb, hml, hown, hts⟩ (c_Points_isHigh hG hGn l dC dI g F H.size h1 q1 x1 n1 ((x0 2) ((a1 * (12 : Int32)) + v7_15).toNatClampNeg) hcl) (cwV 1 hts (gdV k3_44 k3_45 k3_46 k1_3 k3_47) rfl rfl rfl (by decide +kernel) ⟨Nat.le_of_ble_eq_true rfl, Nat.le_of_ble_eq_true rfl⟩) (kpV hG hP hK hD hS hA hGA [6, 7, 8, 9, 10, 11] (by decide) rfl (ci := 7) (q0 := 0) rfl rfl rfl) rfl rfl hl.1 rfl (lv_room (Nat.le_of_ble_eq_true rfl)) d_Zones_lookAt_56 ⟨Nat.le_of_ble_eq_true rfl, Nat.le_of_ble_eq_true rfl⟩) (fun H locs hP hD hS => ?_)
          have hP : va_P (dC, dI) vwCl (wd_Zones g h0 q0 x0 ++ wd_Points g h1 q1 x1 n1) H := hP
          have hD : va_D A (wd_Zones g h0 q0 x0 ++ wd_Points g h1 q1 x1 n1) := hD
          obtain ⟨r59, hcl, hm⟩ := bn1_s hm
          refine kci (wc := ([] : va_W)) (wr := wd_Zones g h0 q0 x0 ++ wd_Points g h1 q1 x1 n1) (w1 := ([] : va_W)) hP hD hS hA [] [0, 1, 2, 3, 4, 5, 6, 7, 8, 9, 10, 11] rfl rfl (by decide) (by decide) (va_runSN (host := "AlarmMatrix") (As := [.int r56]) (rest := [.int v5_15]) ⟨hx, hb, hml, hown, hts⟩ (c_AM_oneIf hG hGn l dC dI g F H.size r56 hcl) ⟨va_cnB 1 hts (gdI k3_50) rfl rfl rfl (hGn A s hGA _ nw3_48) (hts _ k1_1) (by decide +kernel) ⟨Nat.le_of_ble_eq_true rfl, Nat.le_of_ble_eq_true rfl⟩, (hts _ k3_49), trivial⟩ (kpS hG hP hK hD hS hA hGA [] (by decide) rfl) rfl rfl hl.1 rfl (lv_room (Nat.le_of_ble_eq_true rfl)) d_Zones_lookAt_59 ⟨Nat.le_of_ble_eq_true rfl, Nat.le_of_ble_eq_true rfl⟩) (fun H locs hP hD hS => ?_)
          have hP : va_P (dC, dI) vwCl (wd_Zones g h0 q0 x0 ++ wd_Points g h1 q1 x1 n1) H := hP
          have hD : va_D A (wd_Zones g h0 q0 x0 ++ wd_Points g h1 q1 x1 n1) := hD
          refine lv_iadd hx hb d_Zones_lookAt_62 ?_
          refine lv_istore (lv' := [(5, .int (v5_15 + r59)), (6, .int (v6_15 + (1 : Int32))), (8, .int ((x0 2) ((a1 * (12 : Int32)) + v7_15).toNatClampNeg)), (0, .ref h0), (1, .int a1), (2, .ref h1), (3, .int a3), (4, .int (a1 * (12 : Int32))), (7, .int v7_15)]) hx hb d_Zones_lookAt_63 hl (by decide) rfl (fun ls hl => ?_)
          refine lv_iinc (v := (v7_15 + (1 : Int32))) (lv' := [(7, .int (v7_15 + (1 : Int32))), (5, .int (v5_15 + r59)), (6, .int (v6_15 + (1 : Int32))), (8, .int ((x0 2) ((a1 * (12 : Int32)) + v7_15).toNatClampNeg)), (0, .ref h0), (1, .int a1), (2, .ref h1), (3, .int a3), (4, .int (a1 * (12 : Int32)))]) hx hb d_Zones_lookAt_65 hl (k := 8) rfl rfl (by decide) rfl (fun ls hl => ?_)
          refine lv_goto (tgt := 15) hx hb d_Zones_lookAt_68 (by decide) ?_
          exact ih15 (v5_15 + r59) (v6_15 + (1 : Int32)) (v7_15 + (1 : Int32)) H locs ls hm hP hD hS (lv_sub hl [4, 5, 6, 7, 8, 1, 2, 0] rfl)
  exact L15 F (0 : Int32) (0 : Int32) (0 : Int32) H locs ls hm hP hD hS (lv_sub hl [4, 5, 6, 7, 3, 2, 1, 0] rfl)
abbrev b_Zones_look : ByteArray := prog_10_method_8_code
abbrev y_Zones_look : MethodName := ⟨"AlarmMatrix$Zones", "look", "(LAlarmMatrix$Points;I)V"⟩
theorem d_Zones_look_0 : decode b_Zones_look 0 = .ok (.iconst 0, 1) := by decide +kernel
theorem d_Zones_look_1 : decode b_Zones_look 1 = .ok (.istore_n 3, 1) := by decide +kernel
theorem d_Zones_look_2 : decode b_Zones_look 2 = .ok (.iload_n 3, 1) := by decide +kernel
theorem d_Zones_look_3 : decode b_Zones_look 3 = .ok (.bipush 20, 2) := by decide +kernel
theorem d_Zones_look_5 : decode b_Zones_look 5 = .ok (.if_icmp .ge 16, 3) := by decide +kernel
theorem d_Zones_look_8 : decode b_Zones_look 8 = .ok (.aload_n 0, 1) := by decide +kernel
theorem d_Zones_look_9 : decode b_Zones_look 9 = .ok (.iload_n 3, 1) := by decide +kernel
theorem d_Zones_look_10 : decode b_Zones_look 10 = .ok (.aload_n 1, 1) := by decide +kernel
theorem d_Zones_look_11 : decode b_Zones_look 11 = .ok (.iload_n 2, 1) := by decide +kernel
theorem d_Zones_look_12 : decode b_Zones_look 12 = .ok (.invokevirtual 37, 3) := by decide +kernel
theorem d_Zones_look_15 : decode b_Zones_look 15 = .ok (.iinc 3 1, 3) := by decide +kernel
theorem d_Zones_look_18 : decode b_Zones_look 18 = .ok (.goto (-16), 3) := by decide +kernel
theorem d_Zones_look_21 : decode b_Zones_look 21 = .ok (.return_, 1) := by decide +kernel
def m_Zones_look_B2 {R : Type} (F : Nat) (x1 : St) (n1 : Nat) (a2 : Int32) (k2_21 : Int32 → St → Option R) (rec2 : Int32 → St → Option R) (v3_2 : Int32) (y0_2 : St) : Option R :=
  (if (20 : Int32) ≤ v3_2 then (k2_21 v3_2 y0_2) else (bn1 (m_Zones_lookAt F y0_2 x1 n1 v3_2 a2) (fun z0_12 => (rec2 (v3_2 + (1 : Int32)) z0_12))))
theorem m_Zones_look_B2_h {R : Type} {F : Nat} {x1 : St} {n1 : Nat} {a2 : Int32} {k2_21 : Int32 → St → Option R} {rec2 : Int32 → St → Option R} {v3_2 : Int32} {y0_2 : St} {o : R} (h : m_Zones_look_B2 F x1 n1 a2 k2_21 rec2 v3_2 y0_2 = some o) :
  (if (20 : Int32) ≤ v3_2 then (k2_21 v3_2 y0_2) else (bn1 (m_Zones_lookAt F y0_2 x1 n1 v3_2 a2) (fun z0_12 => (rec2 (v3_2 + (1 : Int32)) z0_12)))) = some o := h
def m_Zones_look (F : Nat) (x0 : St) (x1 : St) (n1 : Nat) (a2 : Int32) : Option (St) :=
  (lq2 (m_Zones_look_B2 F x1 n1 a2 (fun v3_2 y0_2 => (some y0_2))) F (0 : Int32) x0)
abbrev rm_Zones_look : Room := { frames := 2, cells := 0, slots := 0, locals := 50 }
set_option maxHeartbeats 4000000 in
set_option maxRecDepth 100000 in
theorem c_Zones_look {G : (Nat → Prop) → State → Prop} (hG : gok G) (hGn : gN G) (l : Launch) (dC : Nat → ClassId) (dI : Nat → Nat → Nat) (g : Nat → ClassId) (F : Nat) (sz : Nat) (h0 : Nat) (q0 : Nat → Nat) (x0 : St) (h1 : Nat) (q1 : Nat → Nat) (x1 : St) (n1 : Nat) (a2 : Int32) {o : St} (hm : m_Zones_look F x0 x1 n1 a2 = some o) : Met l y_Zones_look (.code y_Zones_look b_Zones_look 4 none :: gw) rm_Zones_look (kq (dC, dI) vwCl (tyv g) G [.ref h0, .ref h1, .int a2] sz (wd_Zones g h0 q0 x0 ++ wd_Points g h1 q1 x1 n1)) (kqv (dC, dI) vwCl (tyv g) (wd_Zones g h0 q0 x0 ++ wd_Points g h1 q1 x1 n1) (wd_Zones g h0 q0 o ++ wd_Points g h1 q1 x1 n1) sz) 0 0 (va_A (wd_Zones g h0 q0 x0 ++ wd_Points g h1 q1 x1 n1) sz) := by
  unfold m_Zones_look at hm
  refine km (Qc := fun sz => kqv (dC, dI) vwCl (tyv g) (wd_Zones g h0 q0 x0 ++ wd_Points g h1 q1 x1 n1) (wd_Zones g h0 q0 o ++ wd_Points g h1 q1 x1 n1) sz) (cc := b_Zones_look) (maxL := 4) (ret := none) (by decide) rfl (Nat.le_of_ble_eq_true rfl) ?_
  intro p e s m args below meth c Q hQ hx hb hr hts hown hlocks hml hnm H locs A hAe hA hP hK hD hS hGA ls hl
  have hl : lv_has ls 4 [(0, .ref h0), (1, .ref h1), (2, .int a2)] := hl
  have hts : ∀ w ∈ gw, w.before args s = true := fun w h => hts w (List.mem_cons_of_mem _ h)
  have hown : s.vm.findClass "AlarmMatrix$Zones" = some m.cls := hown
  refine lv_iconst (v := (0 : Int32)) hx hb d_Zones_look_0 (by decide) ?_
  refine lv_istore_n (lv' := [(3, .int (0 : Int32)), (0, .ref h0), (1, .ref h1), (2, .int a2)]) hx hb d_Zones_look_1 rfl hl (by decide) rfl (fun ls hl => ?_)
  have L2 : ∀ (n2 : Nat) (v3_2 : Int32) (y0_2 : St) (H : Heap) (locs : List Loc) (ls : Array Slot), lq2 (m_Zones_look_B2 F x1 n1 a2 (fun v3_2 y0_2 => (some y0_2))) n2 v3_2 y0_2 = some o → va_P (dC, dI) vwCl (wd_Zones g h0 q0 y0_2 ++ wd_Points g h1 q1 x1 n1) H → va_D A (wd_Zones g h0 q0 y0_2 ++ wd_Points g h1 q1 x1 n1) → va_S A s.heap H locs → lv_has ls 4 [(0, .ref h0), (1, .ref h1), (2, .int a2), (3, .int v3_2)] → W p l e rm_Zones_look s m args below meth c H locs 0 0 Q (F0 m 2 ls []) := by
    intro n2
    induction n2 with
    | zero => intro v3_2 y0_2 H locs ls hm; exact absurd hm (by intro z; cases z)
    | succ n2 ih2 =>
      intro v3_2 y0_2 H locs ls hm hP hD hS hl
      replace hm := m_Zones_look_B2_h (lq2_h hm)
      refine lv_iload_n hx hb d_Zones_look_2 rfl (lv_at hl 3 rfl) ?_
      refine lv_bipush (v := (20 : Int32)) hx hb d_Zones_look_3 (by decide) ?_
      refine lv_icmp_ge (tgt := 21) hx hb d_Zones_look_5 (by decide) (fun hc => ?_) (fun hc => ?_)
      · replace hm := if_t hm hc
        obtain rfl := Option.some.inj hm
        rw [hQ]
        exact krv hx hb hr hlocks hAe hP hK hD hS d_Zones_look_21
      · replace hm := if_f hm hc
        refine lv_aload_n hx hb d_Zones_look_8 rfl (lv_at hl 0 rfl) ?_
        refine lv_iload_n hx hb d_Zones_look_9 rfl (lv_at hl 3 rfl) ?_
        refine lv_aload_n hx hb d_Zones_look_10 rfl (lv_at hl 1 rfl) ?_
        refine lv_iload_n hx hb d_Zones_look_11 rfl (lv_at hl 2 rfl) ?_
        obtain ⟨z0_12, hcl, hm⟩ := bn1_s hm
        refine kcv (wc := wd_Zones g h0 q0 y0_2 ++ wd_Points g h1 q1 x1 n1) (wr := ([] : va_W)) (w1 := wd_Zones g h0 q0 z0_12 ++ wd_Points g h1 q1 x1 n1) hP hD hS hA [0, 1, 2, 3, 4, 5, 6, 7, 8, 9, 10, 11] [] rfl rfl (by decide) (by decide) (va_runV (As := [.int v3_2, .ref h1, .int a2]) (rest := []) ⟨hx, hb, hml, hown, hts⟩ (c_Zones_lookAt hG hGn l dC dI g F H.size h0 q0 y0_2 h1 q1 x1 n1 v3_2 a2 hcl) (cwV 3 hts (gdV k3_36 k3_38 kp_10 k1_8 k3_39) rfl rfl rfl (by decide +kernel) ⟨Nat.le_of_ble_eq_true rfl, Nat.le_of_ble_eq_true rfl⟩) (kpV hG hP hK hD hS hA hGA [0, 1, 2, 3, 4, 5, 6, 7, 8, 9, 10, 11] (by decide) rfl (ci := 5) (q0 := 0) rfl rfl rfl) rfl rfl hl.1 rfl (lv_room (Nat.le_of_ble_eq_true rfl)) d_Zones_look_12 ⟨Nat.le_of_ble_eq_true rfl, Nat.le_of_ble_eq_true rfl⟩) (fun H locs hP hD hS => ?_)
        have hP : va_P (dC, dI) vwCl (wd_Zones g h0 q0 z0_12 ++ wd_Points g h1 q1 x1 n1) H := hP
        have hD : va_D A (wd_Zones g h0 q0 z0_12 ++ wd_Points g h1 q1 x1 n1) := hD
        refine lv_iinc (v := (v3_2 + (1 : Int32))) (lv' := [(3, .int (v3_2 + (1 : Int32))), (0, .ref h0), (1, .ref h1), (2, .int a2)]) hx hb d_Zones_look_15 hl (k := 3) rfl rfl (by decide) rfl (fun ls hl => ?_)
        refine lv_goto (tgt := 2) hx hb d_Zones_look_18 (by decide) ?_
        exact ih2 (v3_2 + (1 : Int32)) z0_12 H locs ls hm hP hD hS (lv_sub hl [1, 2, 3, 0] rfl)
  exact L2 F (0 : Int32) x0 H locs ls hm hP hD hS (lv_sub hl [1, 2, 3, 0] rfl)
abbrev b_Zones_isOn : ByteArray := prog_10_method_10_code
abbrev y_Zones_isOn : MethodName := ⟨"AlarmMatrix$Zones", "isOn", "(I)Z"⟩
theorem d_Zones_isOn_0 : decode b_Zones_isOn 0 = .ok (.aload_n 0, 1) := by decide +kernel
theorem d_Zones_isOn_1 : decode b_Zones_isOn 1 = .ok (.getfield 21, 3) := by decide +kernel
theorem d_Zones_isOn_4 : decode b_Zones_isOn 4 = .ok (.iload_n 1, 1) := by decide +kernel
theorem d_Zones_isOn_5 : decode b_Zones_isOn 5 = .ok (.iaload, 1) := by decide +kernel
theorem d_Zones_isOn_6 : decode b_Zones_isOn 6 = .ok (.aload_n 0, 1) := by decide +kernel
theorem d_Zones_isOn_7 : decode b_Zones_isOn 7 = .ok (.getfield 9, 3) := by decide +kernel
theorem d_Zones_isOn_10 : decode b_Zones_isOn 10 = .ok (.iload_n 1, 1) := by decide +kernel
theorem d_Zones_isOn_11 : decode b_Zones_isOn 11 = .ok (.iaload, 1) := by decide +kernel
theorem d_Zones_isOn_12 : decode b_Zones_isOn 12 = .ok (.if_icmp .lt 7, 3) := by decide +kernel
theorem d_Zones_isOn_15 : decode b_Zones_isOn 15 = .ok (.iconst 1, 1) := by decide +kernel
theorem d_Zones_isOn_16 : decode b_Zones_isOn 16 = .ok (.goto 4, 3) := by decide +kernel
theorem d_Zones_isOn_19 : decode b_Zones_isOn 19 = .ok (.iconst 0, 1) := by decide +kernel
theorem d_Zones_isOn_20 : decode b_Zones_isOn 20 = .ok (.ireturn, 1) := by decide +kernel
def m_Zones_isOn (F : Nat) (x0 : St) (a1 : Int32) : Option (Int32) :=
  (ck a1 20 (ck a1 20 (if ((x0 3) a1.toNatClampNeg) < ((x0 0) a1.toNatClampNeg) then (some (0 : Int32)) else (some (1 : Int32)))))
abbrev rm_Zones_isOn : Room := { frames := 0, cells := 0, slots := 0, locals := 0 }
set_option maxHeartbeats 4000000 in
set_option maxRecDepth 100000 in
theorem c_Zones_isOn {G : (Nat → Prop) → State → Prop} (hG : gok G) (hGn : gN G) (l : Launch) (dC : Nat → ClassId) (dI : Nat → Nat → Nat) (g : Nat → ClassId) (F : Nat) (sz : Nat) (h0 : Nat) (q0 : Nat → Nat) (x0 : St) (a1 : Int32) {o : Int32} (hm : m_Zones_isOn F x0 a1 = some o) : Met l y_Zones_isOn (.code y_Zones_isOn b_Zones_isOn 2 (some .boolean) :: gw) rm_Zones_isOn (kq (dC, dI) vwCl (tyv g) G [.ref h0, .int a1] sz (wd_Zones g h0 q0 x0)) (kqi (dC, dI) vwCl (tyv g) (wd_Zones g h0 q0 x0) o (wd_Zones g h0 q0 x0) sz) 0 0 (va_A (wd_Zones g h0 q0 x0) sz) := by
  unfold m_Zones_isOn at hm
  refine km (Qc := fun sz => kqi (dC, dI) vwCl (tyv g) (wd_Zones g h0 q0 x0) o (wd_Zones g h0 q0 x0) sz) (cc := b_Zones_isOn) (maxL := 2) (ret := some .boolean) (by decide) rfl (Nat.le_of_ble_eq_true rfl) ?_
  intro p e s m args below meth c Q hQ hx hb hr hts hown hlocks hml hnm H locs A hAe hA hP hK hD hS hGA ls hl
  have hl : lv_has ls 2 [(0, .ref h0), (1, .int a1)] := hl
  have hts : ∀ w ∈ gw, w.before args s = true := fun w h => hts w (List.mem_cons_of_mem _ h)
  have hown : s.vm.findClass "AlarmMatrix$Zones" = some m.cls := hown
  refine lv_aload_n hx hb d_Zones_isOn_0 rfl (lv_at hl 0 rfl) ?_
  refine va_get (D := (dC, dI)) (ci := 5) (v := .ref (q0 3)) (C := "AlarmMatrix$Zones") (T := T_Zones) (N := 5) hx hb hts i_Zones hown hK hP 0 rfl rfl 3 (by decide) (hts _ k1_141) (fun _ h9 => h9) rfl d_Zones_isOn_1 ?_
  refine lv_iload_n hx hb d_Zones_isOn_4 rfl (lv_at hl 1 rfl) ?_
  obtain ⟨h_5, hm⟩ := ck_s hm
  refine va_iald (f := (x0 3)) hx hb hK hP 4 0 rfl rfl h_5 d_Zones_isOn_5 ?_
  refine lv_aload_n hx hb d_Zones_isOn_6 rfl (lv_at hl 0 rfl) ?_
  refine va_get (D := (dC, dI)) (ci := 5) (v := .ref (q0 0)) (C := "AlarmMatrix$Zones") (T := T_Zones) (N := 5) hx hb hts i_Zones hown hK hP 0 rfl rfl 0 (by decide) (hts _ k1_138) (fun _ h9 => h9) rfl d_Zones_isOn_7 ?_
  refine lv_iload_n hx hb d_Zones_isOn_10 rfl (lv_at hl 1 rfl) ?_
  obtain ⟨h_11, hm⟩ := ck_s hm
  refine va_iald (f := (x0 0)) hx hb hK hP 1 0 rfl rfl h_11 d_Zones_isOn_11 ?_
  refine lv_icmp_lt (tgt := 19) hx hb d_Zones_isOn_12 (by decide) (fun hc => ?_) (fun hc => ?_)
  · replace hm := if_t hm hc
    refine lv_iconst (v := (0 : Int32)) hx hb d_Zones_isOn_19 (by decide) ?_
    obtain rfl := Option.some.inj hm
    rw [hQ]
    exact krz hx hb hr nar_0 hlocks hAe hP hK hD hS d_Zones_isOn_20
  · replace hm := if_f hm hc
    refine lv_iconst (v := (1 : Int32)) hx hb d_Zones_isOn_15 (by decide) ?_
    refine lv_goto (tgt := 20) hx hb d_Zones_isOn_16 (by decide) ?_
    obtain rfl := Option.some.inj hm
    rw [hQ]
    exact krz hx hb hr nar_1 hlocks hAe hP hK hD hS d_Zones_isOn_20
abbrev b_Zones_isSure : ByteArray := prog_10_method_11_code
abbrev y_Zones_isSure : MethodName := ⟨"AlarmMatrix$Zones", "isSure", "(I)Z"⟩
theorem d_Zones_isSure_0 : decode b_Zones_isSure 0 = .ok (.aload_n 0, 1) := by decide +kernel
theorem d_Zones_isSure_1 : decode b_Zones_isSure 1 = .ok (.getfield 24, 3) := by decide +kernel
theorem d_Zones_isSure_4 : decode b_Zones_isSure 4 = .ok (.iload_n 1, 1) := by decide +kernel
theorem d_Zones_isSure_5 : decode b_Zones_isSure 5 = .ok (.iaload, 1) := by decide +kernel
theorem d_Zones_isSure_6 : decode b_Zones_isSure 6 = .ok (.ifCond .le 22, 3) := by decide +kernel
theorem d_Zones_isSure_9 : decode b_Zones_isSure 9 = .ok (.aload_n 0, 1) := by decide +kernel
theorem d_Zones_isSure_10 : decode b_Zones_isSure 10 = .ok (.getfield 21, 3) := by decide +kernel
theorem d_Zones_isSure_13 : decode b_Zones_isSure 13 = .ok (.iload_n 1, 1) := by decide +kernel
theorem d_Zones_isSure_14 : decode b_Zones_isSure 14 = .ok (.iaload, 1) := by decide +kernel
theorem d_Zones_isSure_15 : decode b_Zones_isSure 15 = .ok (.aload_n 0, 1) := by decide +kernel
theorem d_Zones_isSure_16 : decode b_Zones_isSure 16 = .ok (.getfield 24, 3) := by decide +kernel
theorem d_Zones_isSure_19 : decode b_Zones_isSure 19 = .ok (.iload_n 1, 1) := by decide +kernel
theorem d_Zones_isSure_20 : decode b_Zones_isSure 20 = .ok (.iaload, 1) := by decide +kernel
theorem d_Zones_isSure_21 : decode b_Zones_isSure 21 = .ok (.if_icmp .ne 7, 3) := by decide +kernel
theorem d_Zones_isSure_24 : decode b_Zones_isSure 24 = .ok (.iconst 1, 1) := by decide +kernel
theorem d_Zones_isSure_25 : decode b_Zones_isSure 25 = .ok (.goto 4, 3) := by decide +kernel
theorem d_Zones_isSure_28 : decode b_Zones_isSure 28 = .ok (.iconst 0, 1) := by decide +kernel
theorem d_Zones_isSure_29 : decode b_Zones_isSure 29 = .ok (.ireturn, 1) := by decide +kernel
def m_Zones_isSure (F : Nat) (x0 : St) (a1 : Int32) : Option (Int32) :=
  (ck a1 20 (if ((x0 4) a1.toNatClampNeg) ≤ (0 : Int32) then (some (0 : Int32)) else (ck a1 20 (ck a1 20 (if ((x0 3) a1.toNatClampNeg) = ((x0 4) a1.toNatClampNeg) then (some (1 : Int32)) else (some (0 : Int32)))))))
abbrev rm_Zones_isSure : Room := { frames := 0, cells := 0, slots := 0, locals := 0 }
set_option maxHeartbeats 4000000 in
set_option maxRecDepth 100000 in
theorem c_Zones_isSure {G : (Nat → Prop) → State → Prop} (hG : gok G) (hGn : gN G) (l : Launch) (dC : Nat → ClassId) (dI : Nat → Nat → Nat) (g : Nat → ClassId) (F : Nat) (sz : Nat) (h0 : Nat) (q0 : Nat → Nat) (x0 : St) (a1 : Int32) {o : Int32} (hm : m_Zones_isSure F x0 a1 = some o) : Met l y_Zones_isSure (.code y_Zones_isSure b_Zones_isSure 2 (some .boolean) :: gw) rm_Zones_isSure (kq (dC, dI) vwCl (tyv g) G [.ref h0, .int a1] sz (wd_Zones g h0 q0 x0)) (kqi (dC, dI) vwCl (tyv g) (wd_Zones g h0 q0 x0) o (wd_Zones g h0 q0 x0) sz) 0 0 (va_A (wd_Zones g h0 q0 x0) sz) := by
  unfold m_Zones_isSure at hm
  refine km (Qc := fun sz => kqi (dC, dI) vwCl (tyv g) (wd_Zones g h0 q0 x0) o (wd_Zones g h0 q0 x0) sz) (cc := b_Zones_isSure) (maxL := 2) (ret := some .boolean) (by decide) rfl (Nat.le_of_ble_eq_true rfl) ?_
  intro p e s m args below meth c Q hQ hx hb hr hts hown hlocks hml hnm H locs A hAe hA hP hK hD hS hGA ls hl
  have hl : lv_has ls 2 [(0, .ref h0), (1, .int a1)] := hl
  have hts : ∀ w ∈ gw, w.before args s = true := fun w h => hts w (List.mem_cons_of_mem _ h)
  have hown : s.vm.findClass "AlarmMatrix$Zones" = some m.cls := hown
  refine lv_aload_n hx hb d_Zones_isSure_0 rfl (lv_at hl 0 rfl) ?_
  refine va_get (D := (dC, dI)) (ci := 5) (v := .ref (q0 4)) (C := "AlarmMatrix$Zones") (T := T_Zones) (N := 5) hx hb hts i_Zones hown hK hP 0 rfl rfl 4 (by decide) (hts _ k1_142) (fun _ h9 => h9) rfl d_Zones_isSure_1 ?_
  refine lv_iload_n hx hb d_Zones_isSure_4 rfl (lv_at hl 1 rfl) ?_
  obtain ⟨h_5, hm⟩ := ck_s hm
  refine va_iald (f := (x0 4)) hx hb hK hP 5 0 rfl rfl h_5 d_Zones_isSure_5 ?_
  refine lv_if_le (tgt := 28) hx hb d_Zones_isSure_6 (by decide) (fun hc => ?_) (fun hc => ?_)
  · replace hm := if_t hm hc
    refine lv_iconst (v := (0 : Int32)) hx hb d_Zones_isSure_28 (by decide) ?_
    obtain rfl := Option.some.inj hm
    rw [hQ]
    exact krz hx hb hr nar_0 hlocks hAe hP hK hD hS d_Zones_isSure_29
  · replace hm := if_f hm hc
    refine lv_aload_n hx hb d_Zones_isSure_9 rfl (lv_at hl 0 rfl) ?_
    refine va_get (D := (dC, dI)) (ci := 5) (v := .ref (q0 3)) (C := "AlarmMatrix$Zones") (T := T_Zones) (N := 5) hx hb hts i_Zones hown hK hP 0 rfl rfl 3 (by decide) (hts _ k1_141) (fun _ h9 => h9) rfl d_Zones_isSure_10 ?_
    refine lv_iload_n hx hb d_Zones_isSure_13 rfl (lv_at hl 1 rfl) ?_
    obtain ⟨h_14, hm⟩ := ck_s hm
    refine va_iald (f := (x0 3)) hx hb hK hP 4 0 rfl rfl h_14 d_Zones_isSure_14 ?_
    refine lv_aload_n hx hb d_Zones_isSure_15 rfl (lv_at hl 0 rfl) ?_
    refine va_get (D := (dC, dI)) (ci := 5) (v := .ref (q0 4)) (C := "AlarmMatrix$Zones") (T := T_Zones) (N := 5) hx hb hts i_Zones hown hK hP 0 rfl rfl 4 (by decide) (hts _ k1_142) (fun _ h9 => h9) rfl d_Zones_isSure_16 ?_
    refine lv_iload_n hx hb d_Zones_isSure_19 rfl (lv_at hl 1 rfl) ?_
    obtain ⟨h_20, hm⟩ := ck_s hm
    refine va_iald (f := (x0 4)) hx hb hK hP 5 0 rfl rfl h_20 d_Zones_isSure_20 ?_
    refine lv_icmp_ne (tgt := 28) hx hb d_Zones_isSure_21 (by decide) (fun hc => ?_) (fun hc => ?_)
    · replace hm := if_f hm hc
      refine lv_iconst (v := (0 : Int32)) hx hb d_Zones_isSure_28 (by decide) ?_
      obtain rfl := Option.some.inj hm
      rw [hQ]
      exact krz hx hb hr nar_0 hlocks hAe hP hK hD hS d_Zones_isSure_29
    · replace hm := if_t hm hc
      refine lv_iconst (v := (1 : Int32)) hx hb d_Zones_isSure_24 (by decide) ?_
      refine lv_goto (tgt := 29) hx hb d_Zones_isSure_25 (by decide) ?_
      obtain rfl := Option.some.inj hm
      rw [hQ]
      exact krz hx hb hr nar_1 hlocks hAe hP hK hD hS d_Zones_isSure_29
abbrev b_Zones_tellOf : ByteArray := prog_10_method_12_code
abbrev y_Zones_tellOf : MethodName := ⟨"AlarmMatrix$Zones", "tellOf", "(II)I"⟩
theorem d_Zones_tellOf_0 : decode b_Zones_tellOf 0 = .ok (.iload_n 2, 1) := by decide +kernel
theorem d_Zones_tellOf_1 : decode b_Zones_tellOf 1 = .ok (.tableswitch 52 0 2 #[27, 36, 45], 27) := by decide +kernel
theorem d_Zones_tellOf_28 : decode b_Zones_tellOf 28 = .ok (.aload_n 0, 1) := by decide +kernel
theorem d_Zones_tellOf_29 : decode b_Zones_tellOf 29 = .ok (.iload_n 1, 1) := by decide +kernel
theorem d_Zones_tellOf_30 : decode b_Zones_tellOf 30 = .ok (.invokevirtual 55, 3) := by decide +kernel
theorem d_Zones_tellOf_33 : decode b_Zones_tellOf 33 = .ok (.invokestatic 51, 3) := by decide +kernel
theorem d_Zones_tellOf_36 : decode b_Zones_tellOf 36 = .ok (.ireturn, 1) := by decide +kernel
theorem d_Zones_tellOf_37 : decode b_Zones_tellOf 37 = .ok (.aload_n 0, 1) := by decide +kernel
theorem d_Zones_tellOf_38 : decode b_Zones_tellOf 38 = .ok (.iload_n 1, 1) := by decide +kernel
theorem d_Zones_tellOf_39 : decode b_Zones_tellOf 39 = .ok (.invokevirtual 58, 3) := by decide +kernel
theorem d_Zones_tellOf_42 : decode b_Zones_tellOf 42 = .ok (.invokestatic 51, 3) := by decide +kernel
theorem d_Zones_tellOf_45 : decode b_Zones_tellOf 45 = .ok (.ireturn, 1) := by decide +kernel
theorem d_Zones_tellOf_46 : decode b_Zones_tellOf 46 = .ok (.aload_n 0, 1) := by decide +kernel
theorem d_Zones_tellOf_47 : decode b_Zones_tellOf 47 = .ok (.getfield 9, 3) := by decide +kernel
theorem d_Zones_tellOf_50 : decode b_Zones_tellOf 50 = .ok (.iload_n 1, 1) := by decide +kernel
theorem d_Zones_tellOf_51 : decode b_Zones_tellOf 51 = .ok (.iaload, 1) := by decide +kernel
theorem d_Zones_tellOf_52 : decode b_Zones_tellOf 52 = .ok (.ireturn, 1) := by decide +kernel
theorem d_Zones_tellOf_53 : decode b_Zones_tellOf 53 = .ok (.aload_n 0, 1) := by decide +kernel
theorem d_Zones_tellOf_54 : decode b_Zones_tellOf 54 = .ok (.getfield 21, 3) := by decide +kernel
theorem d_Zones_tellOf_57 : decode b_Zones_tellOf 57 = .ok (.iload_n 1, 1) := by decide +kernel
theorem d_Zones_tellOf_58 : decode b_Zones_tellOf 58 = .ok (.iaload, 1) := by decide +kernel
theorem d_Zones_tellOf_59 : decode b_Zones_tellOf 59 = .ok (.ireturn, 1) := by decide +kernel
def m_Zones_tellOf (F : Nat) (x0 : St) (a1 : Int32) (a2 : Int32) : Option (Int32) :=
  (if a2 = (0 : Int32) then (bn1 (m_Zones_isOn F x0 a1) (fun r30 => (bn1 (m_AM_oneIf F r30) (fun r33 => (some r33))))) else (if a2 = (1 : Int32) then (bn1 (m_Zones_isSure F x0 a1) (fun r39 => (bn1 (m_AM_oneIf F r39) (fun r42 => (some r42))))) else (if a2 = (2 : Int32) then (ck a1 20 (some ((x0 0) a1.toNatClampNeg))) else (ck a1 20 (some ((x0 3) a1.toNatClampNeg))))))
abbrev rm_Zones_tellOf : Room := { frames := 1, cells := 0, slots := 0, locals := 21 }
set_option maxHeartbeats 4000000 in
set_option maxRecDepth 100000 in
theorem c_Zones_tellOf {G : (Nat → Prop) → State → Prop} (hG : gok G) (hGn : gN G) (l : Launch) (dC : Nat → ClassId) (dI : Nat → Nat → Nat) (g : Nat → ClassId) (F : Nat) (sz : Nat) (h0 : Nat) (q0 : Nat → Nat) (x0 : St) (a1 : Int32) (a2 : Int32) {o : Int32} (hm : m_Zones_tellOf F x0 a1 a2 = some o) : Met l y_Zones_tellOf (.code y_Zones_tellOf b_Zones_tellOf 3 (some .int) :: gw) rm_Zones_tellOf (kq (dC, dI) vwCl (tyv g) G [.ref h0, .int a1, .int a2] sz (wd_Zones g h0 q0 x0)) (kqi (dC, dI) vwCl (tyv g) (wd_Zones g h0 q0 x0) o (wd_Zones g h0 q0 x0) sz) 0 0 (va_A (wd_Zones g h0 q0 x0) sz) := by
  unfold m_Zones_tellOf at hm
  refine km (Qc := fun sz => kqi (dC, dI) vwCl (tyv g) (wd_Zones g h0 q0 x0) o (wd_Zones g h0 q0 x0) sz) (cc := b_Zones_tellOf) (maxL := 3) (ret := some .int) (by decide) rfl (Nat.le_of_ble_eq_true rfl) ?_
  intro p e s m args below meth c Q hQ hx hb hr hts hown hlocks hml hnm H locs A hAe hA hP hK hD hS hGA ls hl
  have hl : lv_has ls 3 [(0, .ref h0), (1, .int a1), (2, .int a2)] := hl
  have hts : ∀ w ∈ gw, w.before args s = true := fun w h => hts w (List.mem_cons_of_mem _ h)
  have hown : s.vm.findClass "AlarmMatrix$Zones" = some m.cls := hown
  refine lv_iload_n hx hb d_Zones_tellOf_0 rfl (lv_at hl 2 rfl) ?_
  by_cases hc0 : a2 = (0 : Int32)
  · replace hm := if_t hm hc0
    refine lv_tableIn (tgt := 28) hx hb d_Zones_tellOf_1 (by rw [hc0]; decide) (by rw [hc0]; decide) (by rw [hc0]; rfl) (by decide) ?_
    refine lv_aload_n hx hb d_Zones_tellOf_28 rfl (lv_at hl 0 rfl) ?_
    refine lv_iload_n hx hb d_Zones_tellOf_29 rfl (lv_at hl 1 rfl) ?_
    obtain ⟨r30, hcl, hm⟩ := bn1_s hm
    refine kci (wc := wd_Zones g h0 q0 x0) (wr := ([] : va_W)) (w1 := wd_Zones g h0 q0 x0) hP hD hS hA [0, 1, 2, 3, 4, 5] [] rfl rfl (by decide) (by decide) (va_runV (As := [.int a1]) (rest := []) ⟨hx, hb, hml, hown, hts⟩ (c_Zones_isOn hG hGn l dC dI g F H.size h0 q0 x0 a1 hcl) (cwV 1 hts (gdV k4_212 k3_60 k3_61 k1_8 k3_62) rfl rfl rfl (by decide +kernel) ⟨Nat.le_of_ble_eq_true rfl, Nat.le_of_ble_eq_true rfl⟩) (kpV hG hP hK hD hS hA hGA [0, 1, 2, 3, 4, 5] (by decide) rfl (ci := 5) (q0 := 0) rfl rfl rfl) rfl rfl hl.1 rfl (lv_room (Nat.le_of_ble_eq_true rfl)) d_Zones_tellOf_30 ⟨Nat.le_of_ble_eq_true rfl, Nat.le_of_ble_eq_true rfl⟩) (fun H locs hP hD hS => ?_)
    have hP : va_P (dC, dI) vwCl (wd_Zones g h0 q0 x0) H := hP
    have hD : va_D A (wd_Zones g h0 q0 x0) := hD
    obtain ⟨r33, hcl, hm⟩ := bn1_s hm
    refine kci (wc := ([] : va_W)) (wr := wd_Zones g h0 q0 x0) (w1 := ([] : va_W)) hP hD hS hA [] [0, 1, 2, 3, 4, 5] rfl rfl (by decide) (by decide) (va_runSN (host := "AlarmMatrix") (As := [.int r30]) (rest := []) ⟨hx, hb, hml, hown, hts⟩ (c_AM_oneIf hG hGn l dC dI g F H.size r30 hcl) ⟨va_cnB 1 hts (gdI k3_50) rfl rfl rfl (hGn A s hGA _ nw3_48) (hts _ k1_1) (by decide +kernel) ⟨Nat.le_of_ble_eq_true rfl, Nat.le_of_ble_eq_true rfl⟩, (hts _ k3_49), trivial⟩ (kpS hG hP hK hD hS hA hGA [] (by decide) rfl) rfl rfl hl.1 rfl (lv_room (Nat.le_of_ble_eq_true rfl)) d_Zones_tellOf_33 ⟨Nat.le_of_ble_eq_true rfl, Nat.le_of_ble_eq_true rfl⟩) (fun H locs hP hD hS => ?_)
    have hP : va_P (dC, dI) vwCl (wd_Zones g h0 q0 x0) H := hP
    have hD : va_D A (wd_Zones g h0 q0 x0) := hD
    obtain rfl := Option.some.inj hm
    rw [hQ]
    exact kri hx hb hr hlocks hAe hP hK hD hS d_Zones_tellOf_36
  · replace hm := if_f hm hc0
    by_cases hc1 : a2 = (1 : Int32)
    · replace hm := if_t hm hc1
      refine lv_tableIn (tgt := 37) hx hb d_Zones_tellOf_1 (by rw [hc1]; decide) (by rw [hc1]; decide) (by rw [hc1]; rfl) (by decide) ?_
      refine lv_aload_n hx hb d_Zones_tellOf_37 rfl (lv_at hl 0 rfl) ?_
      refine lv_iload_n hx hb d_Zones_tellOf_38 rfl (lv_at hl 1 rfl) ?_
      obtain ⟨r39, hcl, hm⟩ := bn1_s hm
      refine kci (wc := wd_Zones g h0 q0 x0) (wr := ([] : va_W)) (w1 := wd_Zones g h0 q0 x0) hP hD hS hA [0, 1, 2, 3, 4, 5] [] rfl rfl (by decide) (by decide) (va_runV (As := [.int a1]) (rest := []) ⟨hx, hb, hml, hown, hts⟩ (c_Zones_isSure hG hGn l dC dI g F H.size h0 q0 x0 a1 hcl) (cwV 1 hts (gdV k4_213 k3_68 k3_69 k1_8 k3_70) rfl rfl rfl (by decide +kernel) ⟨Nat.le_of_ble_eq_true rfl, Nat.le_of_ble_eq_true rfl⟩) (kpV hG hP hK hD hS hA hGA [0, 1, 2, 3, 4, 5] (by decide) rfl (ci := 5) (q0 := 0) rfl rfl rfl) rfl rfl hl.1 rfl (lv_room (Nat.le_of_ble_eq_true rfl)) d_Zones_tellOf_39 ⟨Nat.le_of_ble_eq_true rfl, Nat.le_of_ble_eq_true rfl⟩) (fun H locs hP hD hS => ?_)
      have hP : va_P (dC, dI) vwCl (wd_Zones g h0 q0 x0) H := hP
      have hD : va_D A (wd_Zones g h0 q0 x0) := hD
      obtain ⟨r42, hcl, hm⟩ := bn1_s hm
      refine kci (wc := ([] : va_W)) (wr := wd_Zones g h0 q0 x0) (w1 := ([] : va_W)) hP hD hS hA [] [0, 1, 2, 3, 4, 5] rfl rfl (by decide) (by decide) (va_runSN (host := "AlarmMatrix") (As := [.int r39]) (rest := []) ⟨hx, hb, hml, hown, hts⟩ (c_AM_oneIf hG hGn l dC dI g F H.size r39 hcl) ⟨va_cnB 1 hts (gdI k3_50) rfl rfl rfl (hGn A s hGA _ nw3_48) (hts _ k1_1) (by decide +kernel) ⟨Nat.le_of_ble_eq_true rfl, Nat.le_of_ble_eq_true rfl⟩, (hts _ k3_49), trivial⟩ (kpS hG hP hK hD hS hA hGA [] (by decide) rfl) rfl rfl hl.1 rfl (lv_room (Nat.le_of_ble_eq_true rfl)) d_Zones_tellOf_42 ⟨Nat.le_of_ble_eq_true rfl, Nat.le_of_ble_eq_true rfl⟩) (fun H locs hP hD hS => ?_)
      have hP : va_P (dC, dI) vwCl (wd_Zones g h0 q0 x0) H := hP
      have hD : va_D A (wd_Zones g h0 q0 x0) := hD
      obtain rfl := Option.some.inj hm
      rw [hQ]
      exact kri hx hb hr hlocks hAe hP hK hD hS d_Zones_tellOf_45
    · replace hm := if_f hm hc1
      by_cases hc2 : a2 = (2 : Int32)
      · replace hm := if_t hm hc2
        refine lv_tableIn (tgt := 46) hx hb d_Zones_tellOf_1 (by rw [hc2]; decide) (by rw [hc2]; decide) (by rw [hc2]; rfl) (by decide) ?_
        refine lv_aload_n hx hb d_Zones_tellOf_46 rfl (lv_at hl 0 rfl) ?_
        refine va_get (D := (dC, dI)) (ci := 5) (v := .ref (q0 0)) (C := "AlarmMatrix$Zones") (T := T_Zones) (N := 5) hx hb hts i_Zones hown hK hP 0 rfl rfl 0 (by decide) (hts _ k1_138) (fun _ h9 => h9) rfl d_Zones_tellOf_47 ?_
        refine lv_iload_n hx hb d_Zones_tellOf_50 rfl (lv_at hl 1 rfl) ?_
        obtain ⟨h_51, hm⟩ := ck_s hm
        refine va_iald (f := (x0 0)) hx hb hK hP 1 0 rfl rfl h_51 d_Zones_tellOf_51 ?_
        obtain rfl := Option.some.inj hm
        rw [hQ]
        exact kri hx hb hr hlocks hAe hP hK hD hS d_Zones_tellOf_52
      · replace hm := if_f hm hc2
        refine lv_tableOut (tgt := 53) hx hb d_Zones_tellOf_1 (sw_out (lo := 0) (n := 3) (by decide) (fun k hk => by rcases (show k = 0 ∨ k = 1 ∨ k = 2 by omega) with rfl | rfl | rfl <;> assumption)) (by decide) ?_
        refine lv_aload_n hx hb d_Zones_tellOf_53 rfl (lv_at hl 0 rfl) ?_
        refine va_get (D := (dC, dI)) (ci := 5) (v := .ref (q0 3)) (C := "AlarmMatrix$Zones") (T := T_Zones) (N := 5) hx hb hts i_Zones hown hK hP 0 rfl rfl 3 (by decide) (hts _ k1_141) (fun _ h9 => h9) rfl d_Zones_tellOf_54 ?_
        refine lv_iload_n hx hb d_Zones_tellOf_57 rfl (lv_at hl 1 rfl) ?_
        obtain ⟨h_58, hm⟩ := ck_s hm
        refine va_iald (f := (x0 3)) hx hb hK hP 4 0 rfl rfl h_58 d_Zones_tellOf_58 ?_
        obtain rfl := Option.some.inj hm
        rw [hQ]
        exact kri hx hb hr hlocks hAe hP hK hD hS d_Zones_tellOf_59

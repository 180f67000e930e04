abbrev b_Events_count : ByteArray := prog_3_method_2_code
abbrev y_Events_count : MethodName := ⟨"AlarmMatrix$Events", "count", "()I"⟩
theorem d_Events_count_0 : decode b_Events_count 0 = .ok (.aload_n 0, 1) := by decide +kernel
theorem d_Events_count_1 : decode b_Events_count 1 = .ok (.getfield 25, 3) := by decide +kernel
theorem d_Events_count_4 : decode b_Events_count 4 = .ok (.ireturn, 1) := by decide +kernel
def m_Events_count (F : Nat) (x0 : St) : Option (Int32) :=
  (some (x0 4 0))
abbrev rm_Events_count : Room := { frames := 0, cells := 0, slots := 0, locals := 0 }
set_option maxHeartbeats 4000000 in
set_option maxRecDepth 100000 in
theorem c_Events_count {G : (Nat → Prop) → State → Prop} (hG : gok G) (hGn : gN G) (l : Launch) (dC : Nat → ClassId) (dI : Nat → Nat → Nat) (g : Nat → ClassId) (F : Nat) (sz : Nat) (h0 : Nat) (q0 : Nat → Nat) (x0 : St) {o : Int32} (hm : m_Events_count F x0 = some o) : Met l y_Events_count (.code y_Events_count b_Events_count 1 (some .int) :: gw) rm_Events_count (kq (dC, dI) vwCl (tyv g) G [.ref h0] sz (wd_Events g h0 q0 x0)) (kqi (dC, dI) vwCl (tyv g) (wd_Events g h0 q0 x0) o (wd_Events g h0 q0 x0) sz) 0 0 (va_A (wd_Events g h0 q0 x0) sz) := by
  unfold m_Events_count at hm
  refine km (Qc := fun sz => kqi (dC, dI) vwCl (tyv g) (wd_Events g h0 q0 x0) o (wd_Events g h0 q0 x0) sz) (cc := b_Events_count) (maxL := 1) (ret := some .int) (by decide) rfl (Nat.le_of_ble_eq_true rfl) ?_
  intro p e s m args below meth c Q hQ hx hb hr hts hown hlocks hml hnm H locs A hAe hA hP hK hD hS hGA ls hl
  have hl : lv_has ls 1 [(0, .ref h0)] := hl
  have hts : ∀ w ∈ gw, w.before args s = true := fun w h => hts w (List.mem_cons_of_mem _ h)
  have hown : s.vm.findClass "AlarmMatrix$Events" = some m.cls := hown
  refine lv_aload_n hx hb d_Events_count_0 rfl (lv_at hl 0 rfl) ?_
  refine va_get (D := (dC, dI)) (ci := 9) (v := .int (x0 4 0)) (C := "AlarmMatrix$Events") (T := T_Events) (N := 5) hx hb hts i_Events hown hK hP 0 rfl rfl 4 (by decide) (hts _ k1_114) (fun _ h9 => h9) rfl d_Events_count_1 ?_
  obtain rfl := Option.some.inj hm
  rw [hQ]
  exact kri hx hb hr hlocks hAe hP hK hD hS d_Events_count_4
abbrev b_Events_add : ByteArray := prog_3_method_3_code
abbrev y_Events_add : MethodName := ⟨"AlarmMatrix$Events", "add", "(III)V"⟩
theorem d_Events_add_0 : decode b_Events_add 0 = .ok (.aload_n 0, 1) := by decide +kernel
theorem d_Events_add_1 : decode b_Events_add 1 = .ok (.getfield 9, 3) := by decide +kernel
theorem d_Events_add_4 : decode b_Events_add 4 = .ok (.aload_n 0, 1) := by decide +kernel
theorem d_Events_add_5 : decode b_Events_add 5 = .ok (.getfield 21, 3) := by decide +kernel
theorem d_Events_add_8 : decode b_Events_add 8 = .ok (.iload_n 1, 1) := by decide +kernel
theorem d_Events_add_9 : decode b_Events_add 9 = .ok (.iastore, 1) := by decide +kernel
theorem d_Events_add_10 : decode b_Events_add 10 = .ok (.aload_n 0, 1) := by decide +kernel
theorem d_Events_add_11 : decode b_Events_add 11 = .ok (.getfield 15, 3) := by decide +kernel
theorem d_Events_add_14 : decode b_Events_add 14 = .ok (.aload_n 0, 1) := by decide +kernel
theorem d_Events_add_15 : decode b_Events_add 15 = .ok (.getfield 21, 3) := by decide +kernel
theorem d_Events_add_18 : decode b_Events_add 18 = .ok (.iload_n 2, 1) := by decide +kernel
theorem d_Events_add_19 : decode b_Events_add 19 = .ok (.iastore, 1) := by decide +kernel
theorem d_Events_add_20 : decode b_Events_add 20 = .ok (.aload_n 0, 1) := by decide +kernel
theorem d_Events_add_21 : decode b_Events_add 21 = .ok (.getfield 18, 3) := by decide +kernel
theorem d_Events_add_24 : decode b_Events_add 24 = .ok (.aload_n 0, 1) := by decide +kernel
theorem d_Events_add_25 : decode b_Events_add 25 = .ok (.getfield 21, 3) := by decide +kernel
theorem d_Events_add_28 : decode b_Events_add 28 = .ok (.iload_n 3, 1) := by decide +kernel
theorem d_Events_add_29 : decode b_Events_add 29 = .ok (.iastore, 1) := by decide +kernel
theorem d_Events_add_30 : decode b_Events_add 30 = .ok (.aload_n 0, 1) := by decide +kernel
theorem d_Events_add_31 : decode b_Events_add 31 = .ok (.aload_n 0, 1) := by decide +kernel
theorem d_Events_add_32 : decode b_Events_add 32 = .ok (.getfield 21, 3) := by decide +kernel
theorem d_Events_add_35 : decode b_Events_add 35 = .ok (.iconst 1, 1) := by decide +kernel
theorem d_Events_add_36 : decode b_Events_add 36 = .ok (.iadd, 1) := by decide +kernel
theorem d_Events_add_37 : decode b_Events_add 37 = .ok (.bipush 60, 2) := by decide +kernel
theorem d_Events_add_39 : decode b_Events_add 39 = .ok (.if_icmp .ge 12, 3) := by decide +kernel
theorem d_Events_add_42 : decode b_Events_add 42 = .ok (.aload_n 0, 1) := by decide +kernel
theorem d_Events_add_43 : decode b_Events_add 43 = .ok (.getfield 21, 3) := by decide +kernel
theorem d_Events_add_46 : decode b_Events_add 46 = .ok (.iconst 1, 1) := by decide +kernel
theorem d_Events_add_47 : decode b_Events_add 47 = .ok (.iadd, 1) := by decide +kernel
theorem d_Events_add_48 : decode b_Events_add 48 = .ok (.goto 4, 3) := by decide +kernel
theorem d_Events_add_51 : decode b_Events_add 51 = .ok (.iconst 0, 1) := by decide +kernel
theorem d_Events_add_52 : decode b_Events_add 52 = .ok (.putfield 21, 3) := by decide +kernel
theorem d_Events_add_55 : decode b_Events_add 55 = .ok (.aload_n 0, 1) := by decide +kernel
theorem d_Events_add_56 : decode b_Events_add 56 = .ok (.aload_n 0, 1) := by decide +kernel
theorem d_Events_add_57 : decode b_Events_add 57 = .ok (.getfield 25, 3) := by decide +kernel
theorem d_Events_add_60 : decode b_Events_add 60 = .ok (.iconst 1, 1) := by decide +kernel
theorem d_Events_add_61 : decode b_Events_add 61 = .ok (.iadd, 1) := by decide +kernel
theorem d_Events_add_62 : decode b_Events_add 62 = .ok (.bipush 60, 2) := by decide +kernel
theorem d_Events_add_64 : decode b_Events_add 64 = .ok (.invokestatic 28, 3) := by decide +kernel
theorem d_Events_add_67 : decode b_Events_add 67 = .ok (.putfield 25, 3) := by decide +kernel
theorem d_Events_add_70 : decode b_Events_add 70 = .ok (.return_, 1) := by decide +kernel
def m_Events_add (F : Nat) (x0 : St) (a1 : Int32) (a2 : Int32) (a3 : Int32) : Option (St) :=
  (ck (x0 3 0) 60 (lz (st x0 0 (upd (x0 0) (x0 3 0).toNatClampNeg a1)) (fun e0_9 => (ck (e0_9 3 0) 60 (lz (st e0_9 1 (upd (e0_9 1) (e0_9 3 0).toNatClampNeg a2)) (fun e0_19 => (ck (e0_19 3 0) 60 (lz (st e0_19 2 (upd (e0_19 2) (e0_19 3 0).toNatClampNeg a3)) (fun e0_29 => (if (60 : Int32) ≤ ((e0_29 3 0) + (1 : Int32)) then (lz (sc e0_29 3 (0 : Int32)) (fun e0_52 => (lz (sc e0_52 4 (if (60 : Int32) < ((e0_52 4 0) + (1 : Int32)) then (60 : Int32) else ((e0_52 4 0) + (1 : Int32)))) (fun e0_67 => (some e0_67))))) else (lz (sc e0_29 3 ((e0_29 3 0) + (1 : Int32))) (fun e0_52 => (lz (sc e0_52 4 (if (60 : Int32) < ((e0_52 4 0) + (1 : Int32)) then (60 : Int32) else ((e0_52 4 0) + (1 : Int32)))) (fun e0_67 => (some e0_67)))))))))))))))
abbrev rm_Events_add : Room := { frames := 1, cells := 0, slots := 0, locals := 21 }
set_option maxHeartbeats 4000000 in
set_option maxRecDepth 100000 in
theorem c_Events_add {G : (Nat → Prop) → State → Prop} (hG : gok G) (hGn : gN G) (l : Launch) (dC : Nat → ClassId) (dI : Nat → Nat → Nat) (g : Nat → ClassId) (F : Nat) (sz : Nat) (h0 : Nat) (q0 : Nat → Nat) (x0 : St) (a1 : Int32) (a2 : Int32) (a3 : Int32) {o : St} (hm : m_Events_add F x0 a1 a2 a3 = some o) : Met l y_Events_add (.code y_Events_add b_Events_add 4 none :: gw) rm_Events_add (kq (dC, dI) vwCl (tyv g) G [.ref h0, .int a1, .int a2, .int a3] sz (wd_Events g h0 q0 x0)) (kqv (dC, dI) vwCl (tyv g) (wd_Events g h0 q0 x0) (wd_Events g h0 q0 o) sz) 0 0 (va_A (wd_Events g h0 q0 x0) sz) := by
  unfold m_Events_add at hm
  refine km (Qc := fun sz => kqv (dC, dI) vwCl (tyv g) (wd_Events g h0 q0 x0) (wd_Events g h0 q0 o) sz) (cc := b_Events_add) (maxL := 4) (ret := none) (by decide) rfl (Nat.le_of_ble_eq_true rfl) ?_
  intro p e s m args below meth c Q hQ hx hb hr hts hown hlocks hml hnm H locs A hAe hA hP hK hD hS hGA ls hl
  have hl : lv_has ls 4 [(0, .ref h0), (1, .int a1), (2, .int a2), (3, .int a3)] := hl
  have hts : ∀ w ∈ gw, w.before args s = true := fun w h => hts w (List.mem_cons_of_mem _ h)
  have hown : s.vm.findClass "AlarmMatrix$Events" = some m.cls := hown
  refine lv_aload_n hx hb d_Events_add_0 rfl (lv_at hl 0 rfl) ?_
  refine va_get (D := (dC, dI)) (ci := 9) (v := .ref (q0 0)) (C := "AlarmMatrix$Events") (T := T_Events) (N := 5) hx hb hts i_Events hown hK hP 0 rfl rfl 0 (by decide) (hts _ k1_110) (fun _ h9 => h9) rfl d_Events_add_1 ?_
  refine lv_aload_n hx hb d_Events_add_4 rfl (lv_at hl 0 rfl) ?_
  refine va_get (D := (dC, dI)) (ci := 9) (v := .int (x0 3 0)) (C := "AlarmMatrix$Events") (T := T_Events) (N := 5) hx hb hts i_Events hown hK hP 0 rfl rfl 3 (by decide) (hts _ k1_113) (fun _ h9 => h9) rfl d_Events_add_5 ?_
  refine lv_iload_n hx hb d_Events_add_8 rfl (lv_at hl 1 rfl) ?_
  obtain ⟨h_9, hm⟩ := ck_s hm
  obtain ⟨e0_9, he, hm⟩ := lz_s hm
  refine va_iast (f := (x0 0)) hx hb hK hP hD hS 1 0 rfl rfl h_9 d_Events_add_9 (fun H locs hP hD hS => ?_)
  have hP : va_P (dC, dI) vwCl (wd_Events g h0 q0 e0_9) H := by rw [he]; exact hP
  have hD : va_D A (wd_Events g h0 q0 e0_9) := by rw [he]; exact hD
  refine lv_aload_n hx hb d_Events_add_10 rfl (lv_at hl 0 rfl) ?_
  refine va_get (D := (dC, dI)) (ci := 9) (v := .ref (q0 1)) (C := "AlarmMatrix$Events") (T := T_Events) (N := 5) hx hb hts i_Events hown hK hP 0 rfl rfl 1 (by decide) (hts _ k1_111) (fun _ h9 => h9) rfl d_Events_add_11 ?_
  refine lv_aload_n hx hb d_Events_add_14 rfl (lv_at hl 0 rfl) ?_
  refine va_get (D := (dC, dI)) (ci := 9) (v := .int (e0_9 3 0)) (C := "AlarmMatrix$Events") (T := T_Events) (N := 5) hx hb hts i_Events hown hK hP 0 rfl rfl 3 (by decide) (hts _ k1_113) (fun _ h9 => h9) rfl d_Events_add_15 ?_
  refine lv_iload_n hx hb d_Events_add_18 rfl (lv_at hl 2 rfl) ?_
  obtain ⟨h_19, hm⟩ := ck_s hm
  obtain ⟨e0_19, he, hm⟩ := lz_s hm
  refine va_iast (f := (e0_9 1)) hx hb hK hP hD hS 2 0 rfl rfl h_19 d_Events_add_19 (fun H locs hP hD hS => ?_)
  have hP : va_P (dC, dI) vwCl (wd_Events g h0 q0 e0_19) H := by rw [he]; exact hP
  have hD : va_D A (wd_Events g h0 q0 e0_19) := by rw [he]; exact hD
  refine lv_aload_n hx hb d_Events_add_20 rfl (lv_at hl 0 rfl) ?_
  refine va_get (D := (dC, dI)) (ci := 9) (v := .ref (q0 2)) (C := "AlarmMatrix$Events") (T := T_Events) (N := 5) hx hb hts i_Events hown hK hP 0 rfl rfl 2 (by decide) (hts _ k1_112) (fun _ h9 => h9) rfl d_Events_add_21 ?_
  refine lv_aload_n hx hb d_Events_add_24 rfl (lv_at hl 0 rfl) ?_
  refine va_get (D := (dC, dI)) (ci := 9) (v := .int (e0_19 3 0)) (C := "AlarmMatrix$Events") (T := T_Events) (N := 5) hx hb hts i_Events hown hK hP 0 rfl rfl 3 (by decide) (hts _ k1_113) (fun _ h9 => h9) rfl d_Events_add_25 ?_
  refine lv_iload_n hx hb d_Events_add_28 rfl (lv_at hl 3 rfl) ?_
  obtain ⟨h_29, hm⟩ := ck_s hm
  obtain ⟨e0_29, he, hm⟩ := lz_s hm
  refine va_iast (f := (e0_19 2)) hx hb hK hP hD hS 3 0 rfl rfl h_29 d_Events_add_29 (fun H locs hP hD hS => ?_)
  have hP : va_P (dC, dI) vwCl (wd_Events g h0 q0 e0_29) H := by rw [he]; exact hP
  have hD : va_D A (wd_Events g h0 q0 e0_29) := by rw [he]; exact hD
  refine lv_aload_n hx hb d_Events_add_30 rfl (lv_at hl 0 rfl) ?_
  refine lv_aload_n hx hb d_Events_add_31 rfl (lv_at hl 0 rfl) ?_
  refine va_get (D := (dC, dI)) (ci := 9) (v := .int (e0_29 3 0)) (C := "AlarmMatrix$Events") (T := T_Events) (N := 5) hx hb hts i_Events hown hK hP 0 rfl rfl 3 (by decide) (hts _ k1_113) (fun _ h9 => h9) rfl d_Events_add_32 ?_
  refine lv_iconst (v := (1 : Int32)) hx hb d_Events_add_35 (by decide) ?_
  refine lv_iadd hx hb d_Events_add_36 ?_
  refine lv_bipush (v := (60 : Int32)) hx hb d_Events_add_37 (by decide) ?_
  refine lv_icmp_ge (tgt := 51) hx hb d_Events_add_39 (by decide) (fun hc => ?_) (fun hc => ?_)
  · replace hm := if_t hm hc
    refine lv_iconst (v := (0 : Int32)) hx hb d_Events_add_51 (by decide) ?_
    obtain ⟨e0_52, he, hm⟩ := lz_s hm
    refine va_put (D := (dC, dI)) (ci := 9) (v := .int (0 : Int32)) (ty := .int) (C := "AlarmMatrix$Events") (T := T_Events) (N := 5) hx hb hts i_Events t_Events o_Events n_Events hown hK hP hD hS 0 rfl rfl 3 (by decide) (hts _ k1_113) (fun _ h9 => h9) rfl (by decide +kernel) rfl rfl (Nat.le_of_ble_eq_true rfl) d_Events_add_52 (fun H locs hP hD hS => ?_)
    have hP : va_P (dC, dI) vwCl (wd_Events g h0 q0 e0_52) H := by rw [he]; exact hP
    have hD : va_D A (wd_Events g h0 q0 e0_52) := by rw [he]; exact hD
    refine lv_aload_n hx hb d_Events_add_55 rfl (lv_at hl 0 rfl) ?_
    refine lv_aload_n hx hb d_Events_add_56 rfl (lv_at hl 0 rfl) ?_
    refine va_get (D := (dC, dI)) (ci := 9) (v := .int (e0_52 4 0)) (C := "AlarmMatrix$Events") (T := T_Events) (N := 5) hx hb hts i_Events hown hK hP 0 rfl rfl 4 (by decide) (hts _ k1_114) (fun _ h9 => h9) rfl d_Events_add_57 ?_
    refine lv_iconst (v := (1 : Int32)) hx hb d_Events_add_60 (by decide) ?_
    refine lv_iadd hx hb d_Events_add_61 ?_
    refine lv_bipush (v := (60 : Int32)) hx hb d_Events_add_62 (by decide) ?_
    refine va_mmin hx hb (hml.trans hl.1.symm) hown (hts _ k3_84) (hts _ k1_51) (hts _ k1_4) (hts _ k1_52) (Nat.le_of_ble_eq_true rfl) (Nat.le_of_ble_eq_true rfl) (Nat.zero_le _) (Nat.zero_le _) d_Events_add_64 ?_
    obtain ⟨e0_67, he, hm⟩ := lz_s hm
    refine va_put (D := (dC, dI)) (ci := 9) (v := .int (if (60 : Int32) < ((e0_52 4 0) + (1 : Int32)) then (60 : Int32) else ((e0_52 4 0) + (1 : Int32)))) (ty := .int) (C := "AlarmMatrix$Events") (T := T_Events) (N := 5) hx hb hts i_Events t_Events o_Events n_Events hown hK hP hD hS 0 rfl rfl 4 (by decide) (hts _ k1_114) (fun _ h9 => h9) rfl (by decide +kernel) rfl rfl (Nat.le_of_ble_eq_true rfl) d_Events_add_67 (fun H locs hP hD hS => ?_)
    have hP : va_P (dC, dI) vwCl (wd_Events g h0 q0 e0_67) H := by rw [he]; exact hP
    have hD : va_D A (wd_Events g h0 q0 e0_67) := by rw [he]; exact hD
    obtain rfl := Option.some.inj hm
    rw [hQ]
    exact krv hx hb hr hlocks hAe hP hK hD hS d_Events_add_70
  · replace hm := if_f hm hc
    refine lv_aload_n hx hb d_Events_add_42 rfl (lv_at hl 0 rfl) ?_
    refine va_get (D := (dC, dI)) (ci := 9) (v := .int (e0_29 3 0)) (C := "AlarmMatrix$Events") (T := T_Events) (N := 5) hx hb hts i_Events hown hK hP 0 rfl rfl 3 (by decide) (hts _ k1_113) (fun _ h9 => h9) rfl d_Events_add_43 ?_
    refine lv_iconst (v := (1 : Int32)) hx hb d_Events_add_46 (by decide) ?_
    refine lv_iadd hx hb d_Events_add_47 ?_
    refine lv_goto (tgt := 52) hx hb d_Events_add_48 (by decide) ?_
    obtain ⟨e0_52, he, hm⟩ := lz_s hm
    refine va_put (D := (dC, dI)) (ci := 9) (v := .int ((e0_29 3 0) + (1 : Int32))) (ty := .int) (C := "AlarmMatrix$Events") (T := T_Events) (N := 5) hx hb hts i_Events t_Events o_Events n_Events hown hK hP hD hS 0 rfl rfl 3 (by decide) (hts _ k1_113) (fun _ h9 => h9) rfl (by decide +kernel) rfl rfl (Nat.le_of_ble_eq_true rfl) d_Events_add_52 (fun H locs hP hD hS => ?_)
    have hP : va_P (dC, dI) vwCl (wd_Events g h0 q0 e0_52) H := by rw [he]; exact hP
    have hD : va_D A (wd_Events g h0 q0 e0_52) := by rw [he]; exact hD
    refine lv_aload_n hx hb d_Events_add_55 rfl (lv_at hl 0 rfl) ?_
    refine lv_aload_n hx hb d_Events_add_56 rfl (lv_at hl 0 rfl) ?_
    refine va_get (D := (dC, dI)) (ci := 9) (v := .int (e0_52 4 0)) (C := "AlarmMatrix$Events") (T := T_Events) (N := 5) hx hb hts i_Events hown hK hP 0 rfl rfl 4 (by decide) (hts _ k1_114) (fun _ h9 => h9) rfl d_Events_add_57 ?_
    refine lv_iconst (v := (1 : Int32)) hx hb d_Events_add_60 (by decide) ?_
    refine lv_iadd hx hb d_Events_add_61 ?_
    refine lv_bipush (v := (60 : Int32)) hx hb d_Events_add_62 (by decide) ?_
    refine va_mmin hx hb (hml.trans hl.1.symm) hown (hts _ k3_84) (hts _ k1_51) (hts _ k1_4) (hts _ k1_52) (Nat.le_of_ble_eq_true rfl) (Nat.le_of_ble_eq_true rfl) (Nat.zero_le _) (Nat.zero_le _) d_Events_add_64 ?_
    obtain ⟨e0_67, he, hm⟩ := lz_s hm
    refine va_put (D := (dC, dI)) (ci := 9) (v := .int (if (60 : Int32) < ((e0_52 4 0) + (1 : Int32)) then (60 : Int32) else ((e0_52 4 0) + (1 : Int32)))) (ty := .int) (C := "AlarmMatrix$Events") (T := T_Events) (N := 5) hx hb hts i_Events t_Events o_Events n_Events hown hK hP hD hS 0 rfl rfl 4 (by decide) (hts _ k1_114) (fun _ h9 => h9) rfl (by decide +kernel) rfl rfl (Nat.le_of_ble_eq_true rfl) d_Events_add_67 (fun H locs hP hD hS => ?_)
    have hP : va_P (dC, dI) vwCl (wd_Events g h0 q0 e0_67) H := by rw [he]; exact hP
    have hD : va_D A (wd_Events g h0 q0 e0_67) := by rw [he]; exact hD
    obtain rfl := Option.some.inj hm
    rw [hQ]
    exact krv hx hb hr hlocks hAe hP hK hD hS d_Events_add_70
abbrev b_Events_tellOf : ByteArray := prog_3_method_4_code
abbrev y_Events_tellOf : MethodName := ⟨"AlarmMatrix$Events", "tellOf", "(II)I"⟩
theorem d_Events_tellOf_0 : decode b_Events_tellOf 0 = .ok (.aload_n 0, 1) := by decide +kernel
theorem d_Events_tellOf_1 : decode b_Events_tellOf 1 = .ok (.getfield 21, 3) := by decide +kernel
theorem d_Events_tellOf_4 : decode b_Events_tellOf 4 = .ok (.iconst 1, 1) := by decide +kernel
theorem d_Events_tellOf_5 : decode b_Events_tellOf 5 = .ok (.isub, 1) := by decide +kernel
theorem d_Events_tellOf_6 : decode b_Events_tellOf 6 = .ok (.iload_n 1, 1) := by decide +kernel
theorem d_Events_tellOf_7 : decode b_Events_tellOf 7 = .ok (.isub, 1) := by decide +kernel
theorem d_Events_tellOf_8 : decode b_Events_tellOf 8 = .ok (.istore_n 3, 1) := by decide +kernel
theorem d_Events_tellOf_9 : decode b_Events_tellOf 9 = .ok (.iload_n 3, 1) := by decide +kernel
theorem d_Events_tellOf_10 : decode b_Events_tellOf 10 = .ok (.ifCond .ge 6, 3) := by decide +kernel
theorem d_Events_tellOf_13 : decode b_Events_tellOf 13 = .ok (.iinc 3 60, 3) := by decide +kernel
theorem d_Events_tellOf_16 : decode b_Events_tellOf 16 = .ok (.iload_n 2, 1) := by decide +kernel
theorem d_Events_tellOf_17 : decode b_Events_tellOf 17 = .ok (.lookupswitch 41 #[(0, 27), (1, 34)], 27) := by decide +kernel
theorem d_Events_tellOf_44 : decode b_Events_tellOf 44 = .ok (.aload_n 0, 1) := by decide +kernel
theorem d_Events_tellOf_45 : decode b_Events_tellOf 45 = .ok (.getfield 9, 3) := by decide +kernel
theorem d_Events_tellOf_48 : decode b_Events_tellOf 48 = .ok (.iload_n 3, 1) := by decide +kernel
theorem d_Events_tellOf_49 : decode b_Events_tellOf 49 = .ok (.iaload, 1) := by decide +kernel
theorem d_Events_tellOf_50 : decode b_Events_tellOf 50 = .ok (.ireturn, 1) := by decide +kernel
theorem d_Events_tellOf_51 : decode b_Events_tellOf 51 = .ok (.aload_n 0, 1) := by decide +kernel
theorem d_Events_tellOf_52 : decode b_Events_tellOf 52 = .ok (.getfield 15, 3) := by decide +kernel
theorem d_Events_tellOf_55 : decode b_Events_tellOf 55 = .ok (.iload_n 3, 1) := by decide +kernel
theorem d_Events_tellOf_56 : decode b_Events_tellOf 56 = .ok (.iaload, 1) := by decide +kernel
theorem d_Events_tellOf_57 : decode b_Events_tellOf 57 = .ok (.ireturn, 1) := by decide +kernel
theorem d_Events_tellOf_58 : decode b_Events_tellOf 58 = .ok (.aload_n 0, 1) := by decide +kernel
theorem d_Events_tellOf_59 : decode b_Events_tellOf 59 = .ok (.getfield 18, 3) := by decide +kernel
theorem d_Events_tellOf_62 : decode b_Events_tellOf 62 = .ok (.iload_n 3, 1) := by decide +kernel
theorem d_Events_tellOf_63 : decode b_Events_tellOf 63 = .ok (.iaload, 1) := by decide +kernel
theorem d_Events_tellOf_64 : decode b_Events_tellOf 64 = .ok (.ireturn, 1) := by decide +kernel
def m_Events_tellOf (F : Nat) (x0 : St) (a1 : Int32) (a2 : Int32) : Option (Int32) :=
  (if (0 : Int32) ≤ (((x0 3 0) - (1 : Int32)) - a1) then (if a2 = (0 : Int32) then (ck (((x0 3 0) - (1 : Int32)) - a1) 60 (some ((x0 0) (((x0 3 0) - (1 : Int32)) - a1).toNatClampNeg))) else (if a2 = (1 : Int32) then (ck (((x0 3 0) - (1 : Int32)) - a1) 60 (some ((x0 1) (((x0 3 0) - (1 : Int32)) - a1).toNatClampNeg))) else (ck (((x0 3 0) - (1 : Int32)) - a1) 60 (some ((x0 2) (((x0 3 0) - (1 : Int32)) - a1).toNatClampNeg))))) else (if a2 = (0 : Int32) then (ck ((((x0 3 0) - (1 : Int32)) - a1) + (60 : Int32)) 60 (some ((x0 0) ((((x0 3 0) - (1 : Int32)) - a1) + (60 : Int32)).toNatClampNeg))) else (if a2 = (1 : Int32) then (ck ((((x0 3 0) - (1 : Int32)) - a1) + (60 : Int32)) 60 (some ((x0 1) ((((x0 3 0) - (1 : Int32)) - a1) + (60 : Int32)).toNatClampNeg))) else (ck ((((x0 3 0) - (1 : Int32)) - a1) + (60 : Int32)) 60 (some ((x0 2) ((((x0 3 0) - (1 : Int32)) - a1) + (60 : Int32)).toNatClampNeg))))))
abbrev rm_Events_tellOf : Room := { frames := 0, cells := 0, slots := 0, locals := 0 }
set_option maxHeartbeats 4000000 in
set_option maxRecDepth 100000 in
theorem c_Events_tellOf {G : (Nat → Prop) → State → Prop} (hG : gok G) (hGn : gN G) (l : Launch) (dC : Nat → ClassId) (dI : Nat → Nat → Nat) (g : Nat → ClassId) (F : Nat) (sz : Nat) (h0 : Nat) (q0 : Nat → Nat) (x0 : St) (a1 : Int32) (a2 : Int32) {o : Int32} (hm : m_Events_tellOf F x0 a1 a2 = some o) : Met l y_Events_tellOf (.code y_Events_tellOf b_Events_tellOf 4 (some .int) :: gw) rm_Events_tellOf (kq (dC, dI) vwCl (tyv g) G [.ref h0, .int a1, .int a2] sz (wd_Events g h0 q0 x0)) (kqi (dC, dI) vwCl (tyv g) (wd_Events g h0 q0 x0) o (wd_Events g h0 q0 x0) sz) 0 0 (va_A (wd_Events g h0 q0 x0) sz) := by
  unfold m_Events_tellOf at hm
  refine km (Qc := fun sz => kqi (dC, dI) vwCl (tyv g) (wd_Events g h0 q0 x0) o (wd_Events g h0 q0 x0) sz) (cc := b_Events_tellOf) (maxL := 4) (ret := some .int) (by decide) rfl (Nat.le_of_ble_eq_true rfl) ?_
  intro p e s m args below meth c Q hQ hx hb hr hts hown hlocks hml hnm H locs A hAe hA hP hK hD hS hGA ls hl
  have hl : lv_has ls 4 [(0, .ref h0), (1, .int a1), (2, .int a2)] := hl
  have hts : ∀ w ∈ gw, w.before args s = true := fun w h => hts w (List.mem_cons_of_mem _ h)
  have hown : s.vm.findClass "AlarmMatrix$Events" = some m.cls := hown
  refine lv_aload_n hx hb d_Events_tellOf_0 rfl (lv_at hl 0 rfl) ?_
  refine va_get (D := (dC, dI)) (ci := 9) (v := .int (x0 3 0)) (C := "AlarmMatrix$Events") (T := T_Events) (N := 5) hx hb hts i_Events hown hK hP 0 rfl rfl 3 (by decide) (hts _ k1_113) (fun _ h9 => h9) rfl d_Events_tellOf_1 ?_
  refine lv_iconst (v := (1 : Int32)) hx hb d_Events_tellOf_4 (by decide) ?_
  refine lv_isub hx hb d_Events_tellOf_5 ?_
  refine lv_iload_n hx hb d_Events_tellOf_6 rfl (lv_at hl 1 rfl) ?_
  refine lv_isub hx hb d_Events_tellOf_7 ?_
  refine lv_istore_n (lv' := [(3, .int (((x0 3 0) - (1 : Int32)) - a1)), (0, .ref h0), (1, .int a1), (2, .int a2)]) hx hb d_Events_tellOf_8 rfl hl (by decide) rfl (fun ls hl => ?_)
  refine lv_iload_n hx hb d_Events_tellOf_9 rfl (lv_at hl 0 rfl) ?_
  refine lv_if_ge (tgt := 16) hx hb d_Events_tellOf_10 (by decide) (fun hc => ?_) (fun hc => ?_)
  · replace hm := if_t hm hc
    refine lv_iload_n hx hb d_Events_tellOf_16 rfl (lv_at hl 3 rfl) ?_
    by_cases hc0 : a2 = (0 : Int32)
    · replace hm := if_t hm hc0
      refine lv_lookup (tgt := 44) (off := 27) hx hb d_Events_tellOf_17 (by decide) (by rw [hc0]; try rfl) (by decide) ?_
      refine lv_aload_n hx hb d_Events_tellOf_44 rfl (lv_at hl 1 rfl) ?_
      refine va_get (D := (dC, dI)) (ci := 9) (v := .ref (q0 0)) (C := "AlarmMatrix$Events") (T := T_Events) (N := 5) hx hb hts i_Events hown hK hP 0 rfl rfl 0 (by decide) (hts _ k1_110) (fun _ h9 => h9) rfl d_Events_tellOf_45 ?_
      refine lv_iload_n hx hb d_Events_tellOf_48 rfl (lv_at hl 0 rfl) ?_
      obtain ⟨h_49, hm⟩ := ck_s hm
      refine va_iald (f := (x0 0)) hx hb hK hP 1 0 rfl rfl h_49 d_Events_tellOf_49 ?_
      obtain rfl := Option.some.inj hm
      rw [hQ]
      exact kri hx hb hr hlocks hAe hP hK hD hS d_Events_tellOf_50
    · replace hm := if_f hm hc0
      by_cases hc1 : a2 = (1 : Int32)
      · replace hm := if_t hm hc1
        refine lv_lookup (tgt := 51) (off := 34) hx hb d_Events_tellOf_17 (by decide) (by rw [hc1]; try rfl) (by decide) ?_
        refine lv_aload_n hx hb d_Events_tellOf_51 rfl (lv_at hl 1 rfl) ?_
        refine va_get (D := (dC, dI)) (ci := 9) (v := .ref (q0 1)) (C := "AlarmMatrix$Events") (T := T_Events) (N := 5) hx hb hts i_Events hown hK hP 0 rfl rfl 1 (by decide) (hts _ k1_111) (fun _ h9 => h9) rfl d_Events_tellOf_52 ?_
        refine lv_iload_n hx hb d_Events_tellOf_55 rfl (lv_at hl 0 rfl) ?_
        obtain ⟨h_56, hm⟩ := ck_s hm
        refine va_iald (f := (x0 1)) hx hb hK hP 2 0 rfl rfl h_56 d_Events_tellOf_56 ?_
        obtain rfl := Option.some.inj hm
        rw [hQ]
        exact kri hx hb hr hlocks hAe hP hK hD hS d_Events_tellOf_57
      · replace hm := if_f hm hc1
        refine lv_lookup (tgt := 58) (off := 41) hx hb d_Events_tellOf_17 (by decide) (by rw [lv_osw hc0 (by decide), lv_osw hc1 (by decide)]; try rfl) (by decide) ?_
        refine lv_aload_n hx hb d_Events_tellOf_58 rfl (lv_at hl 1 rfl) ?_
        refine va_get (D := (dC, dI)) (ci := 9) (v := .ref (q0 2)) (C := "AlarmMatrix$Events") (T := T_Events) (N := 5) hx hb hts i_Events hown hK hP 0 rfl rfl 2 (by decide) (hts _ k1_112) (fun _ h9 => h9) rfl d_Events_tellOf_59 ?_
        refine lv_iload_n hx hb d_Events_tellOf_62 rfl (lv_at hl 0 rfl) ?_
        obtain ⟨h_63, hm⟩ := ck_s hm
        refine va_iald (f := (x0 2)) hx hb hK hP 3 0 rfl rfl h_63 d_Events_tellOf_63 ?_
        obtain rfl := Option.some.inj hm
        rw [hQ]
        exact kri hx hb hr hlocks hAe hP hK hD hS d_Events_tellOf_64
  · replace hm := if_f hm hc
    refine lv_iinc (v := ((((x0 3 0) - (1 : Int32)) - a1) + (60 : Int32))) (lv' := [(3, .int ((((x0 3 0) - (1 : Int32)) - a1) + (60 : Int32))), (0, .ref h0), (1, .int a1), (2, .int a2)]) hx hb d_Events_tellOf_13 hl (k := 0) rfl rfl (by decide) rfl (fun ls hl => ?_)
    refine lv_iload_n hx hb d_Events_tellOf_16 rfl (lv_at hl 3 rfl) ?_
    by_cases hc0 : a2 = (0 : Int32)
    · replace hm := if_t hm hc0
      refine lv_lookup (tgt := 44) (off := 27) hx hb d_Events_tellOf_17 (by decide) (by rw [hc0]; try rfl) (by decide) ?_
      refine lv_aload_n hx hb d_Events_tellOf_44 rfl (lv_at hl 1 rfl) ?_
      refine va_get (D := (dC, dI)) (ci := 9) (v := .ref (q0 0)) (C := "AlarmMatrix$Events") (T := T_Events) (N := 5) hx hb hts i_Events hown hK hP 0 rfl rfl 0 (by decide) (hts _ k1_110) (fun _ h9 => h9) rfl d_Events_tellOf_45 ?_
      refine lv_iload_n hx hb d_Events_tellOf_48 rfl (lv_at hl 0 rfl) ?_
      obtain ⟨h_49, hm⟩ := ck_s hm
      refine va_iald (f := (x0 0)) hx hb hK hP 1 0 rfl rfl h_49 d_Events_tellOf_49 ?_
      obtain rfl := Option.some.inj hm
      rw [hQ]
      exact kri hx hb hr hlocks hAe hP hK hD hS d_Events_tellOf_50
    · replace hm := if_f hm hc0
      by_cases hc1 : a2 = (1 : Int32)
      · replace hm := if_t hm hc1
        refine lv_lookup (tgt := 51) (off := 34) hx hb d_Events_tellOf_17 (by decide) (by rw [hc1]; try rfl) (by decide) ?_
        refine lv_aload_n hx hb d_Events_tellOf_51 rfl (lv_at hl 1 rfl) ?_
        refine va_get (D := (dC, dI)) (ci := 9) (v := .ref (q0 1)) (C := "AlarmMatrix$Events") (T := T_Events) (N := 5) hx hb hts i_Events hown hK hP 0 rfl rfl 1 (by decide) (hts _ k1_111) (fun _ h9 => h9) rfl d_Events_tellOf_52 ?_
        refine lv_iload_n hx hb d_Events_tellOf_55 rfl (lv_at hl 0 rfl) ?_
        obtain ⟨h_56, hm⟩ := ck_s hm
        refine va_iald (f := (x0 1)) hx hb hK hP 2 0 rfl rfl h_56 d_Events_tellOf_56 ?_
        obtain rfl := Option.some.inj hm
        rw [hQ]
        exact kri hx hb hr hlocks hAe hP hK hD hS d_Events_tellOf_57
      · replace hm := if_f hm hc1
        refine lv_lookup (tgt := 58) (off := 41) hx hb d_Events_tellOf_17 (by decide) (by rw [lv_osw hc0 (by decide), lv_osw hc1 (by decide)]; try rfl) (by decide) ?_
        refine lv_aload_n hx hb d_Events_tellOf_58 rfl (lv_at hl 1 rfl) ?_
        refine va_get (D := (dC, dI)) (ci := 9) (v := .ref (q0 2)) (C := "AlarmMatrix$Events") (T := T_Events) (N := 5) hx hb hts i_Events hown hK hP 0 rfl rfl 2 (by decide) (hts _ k1_112) (fun _ h9 => h9) rfl d_Events_tellOf_59 ?_
        refine lv_iload_n hx hb d_Events_tellOf_62 rfl (lv_at hl 0 rfl) ?_
        obtain ⟨h_63, hm⟩ := ck_s hm
        refine va_iald (f := (x0 2)) hx hb hK hP 3 0 rfl rfl h_63 d_Events_tellOf_63 ?_
        obtain rfl := Option.some.inj hm
        rw [hQ]
        exact kri hx hb hr hlocks hAe hP hK hD hS d_Events_tellOf_64

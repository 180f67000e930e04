abbrev b_MD_thrown : ByteArray := prog_12_method_2_code
abbrev y_MD_thrown : MethodName := ⟨"AlarmMatrixModel", "thrown", "()I"⟩
theorem d_MD_thrown_0 : decode b_MD_thrown 0 = .ok (.aload_n 0, 1) := by decide +kernel
theorem d_MD_thrown_1 : decode b_MD_thrown 1 = .ok (.getfield 108, 3) := by decide +kernel
theorem d_MD_thrown_4 : decode b_MD_thrown 4 = .ok (.ireturn, 1) := by decide +kernel
def m_MD_thrown (F : Nat) (x0 : St) : Option (Int32) :=
  (some (x0 0 0))
abbrev rm_MD_thrown : Room := { frames := 0, cells := 0, slots := 0, locals := 0 }
set_option maxHeartbeats 4000000 in
set_option maxRecDepth 100000 in
theorem c_MD_thrown {G : (Nat → Prop) → State → Prop} (hG : gok G) (hGn : gN G) (l : Launch) (dC : Nat → ClassId) (dI : Nat → Nat → Nat) (g : Nat → ClassId) (F : Nat) (sz : Nat) (h0 : Nat) (q0 : Nat → Nat) (x0 : St) {o : Int32} (hm : m_MD_thrown F x0 = some o) : Met l y_MD_thrown (.code y_MD_thrown b_MD_thrown 1 (some .int) :: gw) rm_MD_thrown (kq (dC, dI) vwCl (tyv g) G [.ref h0] sz (wd_MD g h0 q0 x0)) (kqi (dC, dI) vwCl (tyv g) (wd_MD g h0 q0 x0) o (wd_MD g h0 q0 x0) sz) 0 0 (va_A (wd_MD g h0 q0 x0) sz) := by
  unfold m_MD_thrown at hm
  refine km (Qc := fun sz => kqi (dC, dI) vwCl (tyv g) (wd_MD g h0 q0 x0) o (wd_MD g h0 q0 x0) sz) (cc := b_MD_thrown) (maxL := 1) (ret := some .int) (by decide) rfl (Nat.le_of_ble_eq_true rfl) ?_
  intro p e s m args below meth c Q hQ hx hb hr hts hown hlocks hml hnm H locs A hAe hA hP hK hD hS hGA ls hl
  have hl : lv_has ls 1 [(0, .ref h0)] := hl
  have hts : ∀ w ∈ gw, w.before args s = true := fun w h => hts w (List.mem_cons_of_mem _ h)
  have hown : s.vm.findClass "AlarmMatrixModel" = some m.cls := hown
  refine lv_aload_n hx hb d_MD_thrown_0 rfl (lv_at hl 0 rfl) ?_
  refine va_get (D := (dC, dI)) (ci := 10) (v := .int (x0 0 0)) (C := "AlarmMatrixModel") (T := T_MD) (N := 42) hx hb hts i_MD hown hK hP 0 rfl rfl 0 (by decide) (hts _ k5_20) (fun _ h9 => h9) rfl d_MD_thrown_1 ?_
  obtain rfl := Option.some.inj hm
  rw [hQ]
  exact kri hx hb hr hlocks hAe hP hK hD hS d_MD_thrown_4
abbrev b_MD_goes : ByteArray := prog_12_method_3_code
abbrev y_MD_goes : MethodName := ⟨"AlarmMatrixModel", "goes", "(ZZ)Z"⟩
theorem d_MD_goes_0 : decode b_MD_goes 0 = .ok (.aload_n 0, 1) := by decide +kernel
theorem d_MD_goes_1 : decode b_MD_goes 1 = .ok (.iload_n 1, 1) := by decide +kernel
theorem d_MD_goes_2 : decode b_MD_goes 2 = .ok (.ifCond .ne 7, 3) := by decide +kernel
theorem d_MD_goes_5 : decode b_MD_goes 5 = .ok (.iconst 1, 1) := by decide +kernel
theorem d_MD_goes_6 : decode b_MD_goes 6 = .ok (.goto 12, 3) := by decide +kernel
theorem d_MD_goes_9 : decode b_MD_goes 9 = .ok (.iload_n 2, 1) := by decide +kernel
theorem d_MD_goes_10 : decode b_MD_goes 10 = .ok (.ifCond .ne 7, 3) := by decide +kernel
theorem d_MD_goes_13 : decode b_MD_goes 13 = .ok (.iconst 2, 1) := by decide +kernel
theorem d_MD_goes_14 : decode b_MD_goes 14 = .ok (.goto 4, 3) := by decide +kernel
theorem d_MD_goes_17 : decode b_MD_goes 17 = .ok (.iconst 0, 1) := by decide +kernel
theorem d_MD_goes_18 : decode b_MD_goes 18 = .ok (.putfield 108, 3) := by decide +kernel
theorem d_MD_goes_21 : decode b_MD_goes 21 = .ok (.aload_n 0, 1) := by decide +kernel
theorem d_MD_goes_22 : decode b_MD_goes 22 = .ok (.getfield 108, 3) := by decide +kernel
theorem d_MD_goes_25 : decode b_MD_goes 25 = .ok (.ifCond .ne 7, 3) := by decide +kernel
theorem d_MD_goes_28 : decode b_MD_goes 28 = .ok (.iconst 1, 1) := by decide +kernel
theorem d_MD_goes_29 : decode b_MD_goes 29 = .ok (.goto 4, 3) := by decide +kernel
theorem d_MD_goes_32 : decode b_MD_goes 32 = .ok (.iconst 0, 1) := by decide +kernel
theorem d_MD_goes_33 : decode b_MD_goes 33 = .ok (.ireturn, 1) := by decide +kernel
def m_MD_goes (F : Nat) (x0 : St) (a1 : Int32) (a2 : Int32) : Option (Int32 × St) :=
  (if a1 = (0 : Int32) then (lz (sc x0 0 (1 : Int32)) (fun e0_18 => (if (e0_18 0 0) = (0 : Int32) then (some ((1 : Int32), e0_18)) else (some ((0 : Int32), e0_18))))) else (if a2 = (0 : Int32) then (lz (sc x0 0 (2 : Int32)) (fun e0_18 => (if (e0_18 0 0) = (0 : Int32) then (some ((1 : Int32), e0_18)) else (some ((0 : Int32), e0_18))))) else (lz (sc x0 0 (0 : Int32)) (fun e0_18 => (if (e0_18 0 0) = (0 : Int32) then (some ((1 : Int32), e0_18)) else (some ((0 : Int32), e0_18)))))))
abbrev rm_MD_goes : Room := { frames := 0, cells := 0, slots := 0, locals := 0 }
set_option maxHeartbeats 4000000 in
set_option maxRecDepth 100000 in
theorem c_MD_goes {G : (Nat → Prop) → State → Prop} (hG : gok G) (hGn : gN G) (l : Launch) (dC : Nat → ClassId) (dI : Nat → Nat → Nat) (g : Nat → ClassId) (F : Nat) (sz : Nat) (h0 : Nat) (q0 : Nat → Nat) (x0 : St) (a1 : Int32) (a2 : Int32) {o : Int32 × St} (hm : m_MD_goes F x0 a1 a2 = some o) : Met l y_MD_goes (.code y_MD_goes b_MD_goes 3 (some .boolean) :: gw) rm_MD_goes (kq (dC, dI) vwCl (tyv g) G [.ref h0, .int a1, .int a2] sz (wd_MD g h0 q0 x0)) (kqi (dC, dI) vwCl (tyv g) (wd_MD g h0 q0 x0) o.1 (wd_MD g h0 q0 (o.2)) sz) 0 0 (va_A (wd_MD g h0 q0 x0) sz) := by
  unfold m_MD_goes at hm
  refine km (Qc := fun sz => kqi (dC, dI) vwCl (tyv g) (wd_MD g h0 q0 x0) o.1 (wd_MD g h0 q0 (o.2)) sz) (cc := b_MD_goes) (maxL := 3) (ret := some .boolean) (by decide) rfl (Nat.le_of_ble_eq_true rfl) ?_
  intro p e s m args below meth c Q hQ hx hb hr hts hown hlocks hml hnm H locs A hAe hA hP hK hD hS hGA ls hl
  have hl : lv_has ls 3 [(0, .ref h0), (1, .int a1), (2, .int a2)] := hl
  have hts : ∀ w ∈ gw, w.before args s = true := fun w h => hts w (List.mem_cons_of_mem _ h)
  have hown : s.vm.findClass "AlarmMatrixModel" = some m.cls := hown
  refine lv_aload_n hx hb d_MD_goes_0 rfl (lv_at hl 0 rfl) ?_
  refine lv_iload_n hx hb d_MD_goes_1 rfl (lv_at hl 1 rfl) ?_
  refine lv_if_ne (tgt := 9) hx hb d_MD_goes_2 (by decide) (fun hc => ?_) (fun hc => ?_)
  · replace hm := if_f hm hc
    refine lv_iload_n hx hb d_MD_goes_9 rfl (lv_at hl 2 rfl) ?_
    refine lv_if_ne (tgt := 17) hx hb d_MD_goes_10 (by decide) (fun hc => ?_) (fun hc => ?_)
    · replace hm := if_f hm hc
      refine lv_iconst (v := (0 : Int32)) hx hb d_MD_goes_17 (by decide) ?_
      obtain ⟨e0_18, he, hm⟩ := lz_s hm
      refine va_put (D := (dC, dI)) (ci := 10) (v := .int (0 : Int32)) (ty := .int) (C := "AlarmMatrixModel") (T := T_MD) (N := 42) hx hb hts i_MD t_MD o_MD n_MD hown hK hP hD hS 0 rfl rfl 0 (by decide) (hts _ k5_20) (fun _ h9 => h9) rfl (by decide +kernel) rfl rfl (Nat.le_of_ble_eq_true rfl) d_MD_goes_18 (fun H locs hP hD hS => ?_)
      have hP : va_P (dC, dI) vwCl (wd_MD g h0 q0 e0_18) H := by rw [he]; exact hP
      have hD : va_D A (wd_MD g h0 q0 e0_18) := by rw [he]; exact hD
      refine lv_aload_n hx hb d_MD_goes_21 rfl (lv_at hl 0 rfl) ?_
      refine va_get (D := (dC, dI)) (ci := 10) (v := .int (e0_18 0 0)) (C := "AlarmMatrixModel") (T := T_MD) (N := 42) hx hb hts i_MD hown hK hP 0 rfl rfl 0 (by decide) (hts _ k5_20) (fun _ h9 => h9) rfl d_MD_goes_22 ?_
      refine lv_if_ne (tgt := 32) hx hb d_MD_goes_25 (by decide) (fun hc => ?_) (fun hc => ?_)
      · replace hm := if_f hm hc
        refine lv_iconst (v := (0 : Int32)) hx hb d_MD_goes_32 (by decide) ?_
        obtain rfl := Option.some.inj hm
        rw [hQ]
        exact krz hx hb hr nar_0 hlocks hAe hP hK hD hS d_MD_goes_33
      · replace hm := if_t hm hc
        refine lv_iconst (v := (1 : Int32)) hx hb d_MD_goes_28 (by decide) ?_
        refine lv_goto (tgt := 33) hx hb d_MD_goes_29 (by decide) ?_
        obtain rfl := Option.some.inj hm
        rw [hQ]
        exact krz hx hb hr nar_1 hlocks hAe hP hK hD hS d_MD_goes_33
    · replace hm := if_t hm hc
      refine lv_iconst (v := (2 : Int32)) hx hb d_MD_goes_13 (by decide) ?_
      refine lv_goto (tgt := 18) hx hb d_MD_goes_14 (by decide) ?_
      obtain ⟨e0_18, he, hm⟩ := lz_s hm
      refine va_put (D := (dC, dI)) (ci := 10) (v := .int (2 : Int32)) (ty := .int) (C := "AlarmMatrixModel") (T := T_MD) (N := 42) hx hb hts i_MD t_MD o_MD n_MD hown hK hP hD hS 0 rfl rfl 0 (by decide) (hts _ k5_20) (fun _ h9 => h9) rfl (by decide +kernel) rfl rfl (Nat.le_of_ble_eq_true rfl) d_MD_goes_18 (fun H locs hP hD hS => ?_)
      have hP : va_P (dC, dI) vwCl (wd_MD g h0 q0 e0_18) H := by rw [he]; exact hP
      have hD : va_D A (wd_MD g h0 q0 e0_18) := by rw [he]; exact hD
      refine lv_aload_n hx hb d_MD_goes_21 rfl (lv_at hl 0 rfl) ?_
      refine va_get (D := (dC, dI)) (ci := 10) (v := .int (e0_18 0 0)) (C := "AlarmMatrixModel") (T := T_MD) (N := 42) hx hb hts i_MD hown hK hP 0 rfl rfl 0 (by decide) (hts _ k5_20) (fun _ h9 => h9) rfl d_MD_goes_22 ?_
      refine lv_if_ne (tgt := 32) hx hb d_MD_goes_25 (by decide) (fun hc => ?_) (fun hc => ?_)
      · replace hm := if_f hm hc
        refine lv_iconst (v := (0 : Int32)) hx hb d_MD_goes_32 (by decide) ?_
        obtain rfl := Option.some.inj hm
        rw [hQ]
        exact krz hx hb hr nar_0 hlocks hAe hP hK hD hS d_MD_goes_33
      · replace hm := if_t hm hc
        refine lv_iconst (v := (1 : Int32)) hx hb d_MD_goes_28 (by decide) ?_
        refine lv_goto (tgt := 33) hx hb d_MD_goes_29 (by decide) ?_
        obtain rfl := Option.some.inj hm
        rw [hQ]
        exact krz hx hb hr nar_1 hlocks hAe hP hK hD hS d_MD_goes_33
  · replace hm := if_t hm hc
    refine lv_iconst (v := (1 : Int32)) hx hb d_MD_goes_5 (by decide) ?_
    refine lv_goto (tgt := 18) hx hb d_MD_goes_6 (by decide) ?_
    obtain ⟨e0_18, he, hm⟩ := lz_s hm
    refine va_put (D := (dC, dI)) (ci := 10) (v := .int (1 : Int32)) (ty := .int) (C := "AlarmMatrixModel") (T := T_MD) (N := 42) hx hb hts i_MD t_MD o_MD n_MD hown hK hP hD hS 0 rfl rfl 0 (by decide) (hts _ k5_20) (fun _ h9 => h9) rfl (by decide +kernel) rfl rfl (Nat.le_of_ble_eq_true rfl) d_MD_goes_18 (fun H locs hP hD hS => ?_)
    have hP : va_P (dC, dI) vwCl (wd_MD g h0 q0 e0_18) H := by rw [he]; exact hP
    have hD : va_D A (wd_MD g h0 q0 e0_18) := by rw [he]; exact hD
    refine lv_aload_n hx hb d_MD_goes_21 rfl (lv_at hl 0 rfl) ?_
    refine va_get (D := (dC, dI)) (ci := 10) (v := .int (e0_18 0 0)) (C := "AlarmMatrixModel") (T := T_MD) (N := 42) hx hb hts i_MD hown hK hP 0 rfl rfl 0 (by decide) (hts _ k5_20) (fun _ h9 => h9) rfl d_MD_goes_22 ?_
    refine lv_if_ne (tgt := 32) hx hb d_MD_goes_25 (by decide) (fun hc => ?_) (fun hc => ?_)
    · replace hm := if_f hm hc
      refine lv_iconst (v := (0 : Int32)) hx hb d_MD_goes_32 (by decide) ?_
      obtain rfl := Option.some.inj hm
      rw [hQ]
      exact krz hx hb hr nar_0 hlocks hAe hP hK hD hS d_MD_goes_33
    · replace hm := if_t hm hc
      refine lv_iconst (v := (1 : Int32)) hx hb d_MD_goes_28 (by decide) ?_
      refine lv_goto (tgt := 33) hx hb d_MD_goes_29 (by decide) ?_
      obtain rfl := Option.some.inj hm
      rw [hQ]
      exact krz hx hb hr nar_1 hlocks hAe hP hK hD hS d_MD_goes_33
abbrev b_MD_write : ByteArray := prog_12_method_4_code
abbrev y_MD_write : MethodName := ⟨"AlarmMatrixModel", "write", "(I)V"⟩
theorem d_MD_write_0 : decode b_MD_write 0 = .ok (.aload_n 0, 1) := by decide +kernel
theorem d_MD_write_1 : decode b_MD_write 1 = .ok (.getfield 35, 3) := by decide +kernel
theorem d_MD_write_4 : decode b_MD_write 4 = .ok (.aload_n 0, 1) := by decide +kernel
theorem d_MD_write_5 : decode b_MD_write 5 = .ok (.getfield 111, 3) := by decide +kernel
theorem d_MD_write_8 : decode b_MD_write 8 = .ok (.iload_n 1, 1) := by decide +kernel
theorem d_MD_write_9 : decode b_MD_write 9 = .ok (.iastore, 1) := by decide +kernel
theorem d_MD_write_10 : decode b_MD_write 10 = .ok (.aload_n 0, 1) := by decide +kernel
theorem d_MD_write_11 : decode b_MD_write 11 = .ok (.dup, 1) := by decide +kernel
theorem d_MD_write_12 : decode b_MD_write 12 = .ok (.getfield 111, 3) := by decide +kernel
theorem d_MD_write_15 : decode b_MD_write 15 = .ok (.iconst 1, 1) := by decide +kernel
theorem d_MD_write_16 : decode b_MD_write 16 = .ok (.iadd, 1) := by decide +kernel
theorem d_MD_write_17 : decode b_MD_write 17 = .ok (.putfield 111, 3) := by decide +kernel
theorem d_MD_write_20 : decode b_MD_write 20 = .ok (.return_, 1) := by decide +kernel
def m_MD_write (F : Nat) (x0 : St) (a1 : Int32) : Option (St) :=
  (ck (x0 12 0) 2000 (lz (st x0 11 (upd (x0 11) (x0 12 0).toNatClampNeg a1)) (fun e0_9 => (lz (sc e0_9 12 ((e0_9 12 0) + (1 : Int32))) (fun e0_17 => (some e0_17))))))
abbrev rm_MD_write : Room := { frames := 0, cells := 0, slots := 0, locals := 0 }
set_option maxHeartbeats 4000000 in
set_option maxRecDepth 100000 in
theorem c_MD_write {G : (Nat → Prop) → State → Prop} (hG : gok G) (hGn : gN G) (l : Launch) (dC : Nat → ClassId) (dI : Nat → Nat → Nat) (g : Nat → ClassId) (F : Nat) (sz : Nat) (h0 : Nat) (q0 : Nat → Nat) (x0 : St) (a1 : Int32) {o : St} (hm : m_MD_write F x0 a1 = some o) : Met l y_MD_write (.code y_MD_write b_MD_write 2 none :: gw) rm_MD_write (kq (dC, dI) vwCl (tyv g) G [.ref h0, .int a1] sz (wd_MD g h0 q0 x0)) (kqv (dC, dI) vwCl (tyv g) (wd_MD g h0 q0 x0) (wd_MD g h0 q0 o) sz) 0 0 (va_A (wd_MD g h0 q0 x0) sz) := by
  unfold m_MD_write at hm
  refine km (Qc := fun sz => kqv (dC, dI) vwCl (tyv g) (wd_MD g h0 q0 x0) (wd_MD g h0 q0 o) sz) (cc := b_MD_write) (maxL := 2) (ret := none) (by decide) rfl (Nat.le_of_ble_eq_true rfl) ?_
  intro p e s m args below meth c Q hQ hx hb hr hts hown hlocks hml hnm H locs A hAe hA hP hK hD hS hGA ls hl
  have hl : lv_has ls 2 [(0, .ref h0), (1, .int a1)] := hl
  have hts : ∀ w ∈ gw, w.before args s = true := fun w h => hts w (List.mem_cons_of_mem _ h)
  have hown : s.vm.findClass "AlarmMatrixModel" = some m.cls := hown
  refine lv_aload_n hx hb d_MD_write_0 rfl (lv_at hl 0 rfl) ?_
  refine va_get (D := (dC, dI)) (ci := 10) (v := .ref (q0 11)) (C := "AlarmMatrixModel") (T := T_MD) (N := 42) hx hb hts i_MD hown hK hP 0 rfl rfl 11 (by decide) (hts _ k5_31) (fun _ h9 => h9) rfl d_MD_write_1 ?_
  refine lv_aload_n hx hb d_MD_write_4 rfl (lv_at hl 0 rfl) ?_
  refine va_get (D := (dC, dI)) (ci := 10) (v := .int (x0 12 0)) (C := "AlarmMatrixModel") (T := T_MD) (N := 42) hx hb hts i_MD hown hK hP 0 rfl rfl 12 (by decide) (hts _ k5_32) (fun _ h9 => h9) rfl d_MD_write_5 ?_
  refine lv_iload_n hx hb d_MD_write_8 rfl (lv_at hl 1 rfl) ?_
  obtain ⟨h_9, hm⟩ := ck_s hm
  obtain ⟨e0_9, he, hm⟩ := lz_s hm
  refine va_iast (f := (x0 11)) hx hb hK hP hD hS 9 0 rfl rfl h_9 d_MD_write_9 (fun H locs hP hD hS => ?_)
  have hP : va_P (dC, dI) vwCl (wd_MD g h0 q0 e0_9) H := by rw [he]; exact hP
  have hD : va_D A (wd_MD g h0 q0 e0_9) := by rw [he]; exact hD
  refine lv_aload_n hx hb d_MD_write_10 rfl (lv_at hl 0 rfl) ?_
  refine lv_dup hx hb d_MD_write_11 rfl ?_
  refine va_get (D := (dC, dI)) (ci := 10) (v := .int (e0_9 12 0)) (C := "AlarmMatrixModel") (T := T_MD) (N := 42) hx hb hts i_MD hown hK hP 0 rfl rfl 12 (by decide) (hts _ k5_32) (fun _ h9 => h9) rfl d_MD_write_12 ?_
  refine lv_iconst (v := (1 : Int32)) hx hb d_MD_write_15 (by decide) ?_
  refine lv_iadd hx hb d_MD_write_16 ?_
  obtain ⟨e0_17, he, hm⟩ := lz_s hm
  refine va_put (D := (dC, dI)) (ci := 10) (v := .int ((e0_9 12 0) + (1 : Int32))) (ty := .int) (C := "AlarmMatrixModel") (T := T_MD) (N := 42) hx hb hts i_MD t_MD o_MD n_MD hown hK hP hD hS 0 rfl rfl 12 (by decide) (hts _ k5_32) (fun _ h9 => h9) rfl (by decide +kernel) rfl rfl (Nat.le_of_ble_eq_true rfl) d_MD_write_17 (fun H locs hP hD hS => ?_)
  have hP : va_P (dC, dI) vwCl (wd_MD g h0 q0 e0_17) H := by rw [he]; exact hP
  have hD : va_D A (wd_MD g h0 q0 e0_17) := by rw [he]; exact hD
  obtain rfl := Option.some.inj hm
  rw [hQ]
  exact krv hx hb hr hlocks hAe hP hK hD hS d_MD_write_20
abbrev b_MD_unit : ByteArray := prog_12_method_5_code
abbrev y_MD_unit : MethodName := ⟨"AlarmMatrixModel", "unit", "(I)I"⟩
theorem d_MD_unit_0 : decode b_MD_unit 0 = .ok (.aload_n 0, 1) := by decide +kernel
theorem d_MD_unit_1 : decode b_MD_unit 1 = .ok (.iload_n 1, 1) := by decide +kernel
theorem d_MD_unit_2 : decode b_MD_unit 2 = .ok (.ifCond .lt 13, 3) := by decide +kernel
theorem d_MD_unit_5 : decode b_MD_unit 5 = .ok (.iload_n 1, 1) := by decide +kernel
theorem d_MD_unit_6 : decode b_MD_unit 6 = .ok (.bipush 127, 2) := by decide +kernel
theorem d_MD_unit_8 : decode b_MD_unit 8 = .ok (.if_icmp .gt 7, 3) := by decide +kernel
theorem d_MD_unit_11 : decode b_MD_unit 11 = .ok (.iconst 1, 1) := by decide +kernel
theorem d_MD_unit_12 : decode b_MD_unit 12 = .ok (.goto 4, 3) := by decide +kernel
theorem d_MD_unit_15 : decode b_MD_unit 15 = .ok (.iconst 0, 1) := by decide +kernel
theorem d_MD_unit_16 : decode b_MD_unit 16 = .ok (.aload_n 0, 1) := by decide +kernel
theorem d_MD_unit_17 : decode b_MD_unit 17 = .ok (.getfield 111, 3) := by decide +kernel
theorem d_MD_unit_20 : decode b_MD_unit 20 = .ok (.sipush 2000, 3) := by decide +kernel
theorem d_MD_unit_23 : decode b_MD_unit 23 = .ok (.if_icmp .ge 7, 3) := by decide +kernel
theorem d_MD_unit_26 : decode b_MD_unit 26 = .ok (.iconst 1, 1) := by decide +kernel
theorem d_MD_unit_27 : decode b_MD_unit 27 = .ok (.goto 4, 3) := by decide +kernel
theorem d_MD_unit_30 : decode b_MD_unit 30 = .ok (.iconst 0, 1) := by decide +kernel
theorem d_MD_unit_31 : decode b_MD_unit 31 = .ok (.invokevirtual 114, 3) := by decide +kernel
theorem d_MD_unit_34 : decode b_MD_unit 34 = .ok (.ifCond .ne 5, 3) := by decide +kernel
theorem d_MD_unit_37 : decode b_MD_unit 37 = .ok (.iconst 0, 1) := by decide +kernel
theorem d_MD_unit_38 : decode b_MD_unit 38 = .ok (.ireturn, 1) := by decide +kernel
theorem d_MD_unit_39 : decode b_MD_unit 39 = .ok (.aload_n 0, 1) := by decide +kernel
theorem d_MD_unit_40 : decode b_MD_unit 40 = .ok (.iload_n 1, 1) := by decide +kernel
theorem d_MD_unit_41 : decode b_MD_unit 41 = .ok (.invokevirtual 118, 3) := by decide +kernel
theorem d_MD_unit_44 : decode b_MD_unit 44 = .ok (.aload_n 0, 1) := by decide +kernel
theorem d_MD_unit_45 : decode b_MD_unit 45 = .ok (.getfield 111, 3) := by decide +kernel
theorem d_MD_unit_48 : decode b_MD_unit 48 = .ok (.ireturn, 1) := by decide +kernel
def m_MD_unit_J16 (F : Nat) (a1 : Int32) (s0_16 : Int32) (t0_16 : St) : Option (Int32 × St) :=
  (if (2000 : Int32) ≤ (t0_16 12 0) then (bn2 (m_MD_goes F t0_16 s0_16 (0 : Int32)) (fun r31 z0_31 => (if r31 = (0 : Int32) then (some ((0 : Int32), z0_31)) else (bn1 (m_MD_write F z0_31 a1) (fun z0_41 => (some ((z0_41 12 0), z0_41))))))) else (bn2 (m_MD_goes F t0_16 s0_16 (1 : Int32)) (fun r31 z0_31 => (if r31 = (0 : Int32) then (some ((0 : Int32), z0_31)) else (bn1 (m_MD_write F z0_31 a1) (fun z0_41 => (some ((z0_41 12 0), z0_41))))))))
theorem m_MD_unit_J16_h {F : Nat} {a1 : Int32} {s0_16 : Int32} {t0_16 : St} {o : (Int32 × St)} (h : m_MD_unit_J16 F a1 s0_16 t0_16 = some o) :
  (if (2000 : Int32) ≤ (t0_16 12 0) then (bn2 (m_MD_goes F t0_16 s0_16 (0 : Int32)) (fun r31 z0_31 => (if r31 = (0 : Int32) then (some ((0 : Int32), z0_31)) else (bn1 (m_MD_write F z0_31 a1) (fun z0_41 => (some ((z0_41 12 0), z0_41))))))) else (bn2 (m_MD_goes F t0_16 s0_16 (1 : Int32)) (fun r31 z0_31 => (if r31 = (0 : Int32) then (some ((0 : Int32), z0_31)) else (bn1 (m_MD_write F z0_31 a1) (fun z0_41 => (some ((z0_41 12 0), z0_41)))))))) = some o := h
def m_MD_unit (F : Nat) (x0 : St) (a1 : Int32) : Option (Int32 × St) :=
  (if a1 < (0 : Int32) then (m_MD_unit_J16 F a1  (0 : Int32) x0) else (if (127 : Int32) < a1 then (m_MD_unit_J16 F a1  (0 : Int32) x0) else (m_MD_unit_J16 F a1  (1 : Int32) x0)))
abbrev rm_MD_unit : Room := { frames := 1, cells := 0, slots := 0, locals := 22 }
set_option maxHeartbeats 4000000 in
set_option maxRecDepth 100000 in
theorem c_MD_unit {G : (Nat → Prop) → State → Prop} (hG : gok G) (hGn : gN G) (l : Launch) (dC : Nat → ClassId) (dI : Nat → Nat → Nat) (g : Nat → ClassId) (F : Nat) (sz : Nat) (h0 : Nat) (q0 : Nat → Nat) (x0 : St) (a1 : Int32) {o : Int32 × St} (hm : m_MD_unit F x0 a1 = some o) : Met l y_MD_unit (.code y_MD_unit b_MD_unit 2 (some .int) :: gw) rm_MD_unit (kq (dC, dI) vwCl (tyv g) G [.ref h0, .int a1] sz (wd_MD g h0 q0 x0)) (kqi (dC, dI) vwCl (tyv g) (wd_MD g h0 q0 x0) o.1 (wd_MD g h0 q0 (o.2)) sz) 0 0 (va_A (wd_MD g h0 q0 x0) sz) := by
  unfold m_MD_unit at hm
  refine km (Qc := fun sz => kqi (dC, dI) vwCl (tyv g) (wd_MD g h0 q0 x0) o.1 (wd_MD g h0 q0 (o.2)) sz) (cc := b_MD_unit) (maxL := 2) (ret := some .int) (by decide) rfl (Nat.le_of_ble_eq_true rfl) ?_
  intro p e s m args below meth c Q hQ hx hb hr hts hown hlocks hml hnm H locs A hAe hA hP hK hD hS hGA ls hl
  have hl : lv_has ls 2 [(0, .ref h0), (1, .int a1)] := hl
  have hts : ∀ w ∈ gw, w.before args s = true := fun w h => hts w (List.mem_cons_of_mem _ h)
  have hown : s.vm.findClass "AlarmMatrixModel" = some m.cls := hown
  have J16 : ∀ (s0_16 : Int32) (t0_16 : St) (H : Heap) (locs : List Loc) (ls : Array Slot), m_MD_unit_J16 F a1  s0_16 t0_16 = some o → va_P (dC, dI) vwCl (wd_MD g h0 q0 t0_16) H → va_D A (wd_MD g h0 q0 t0_16) → va_S A s.heap H locs → lv_has ls 2 [(0, .ref h0), (1, .int a1)] → W p l e rm_MD_unit s m args below meth c H locs 0 0 Q (F0 m 16 ls [.int s0_16, .ref h0]) := by
    intro s0_16 t0_16 H locs ls hm hP hD hS hl
    replace hm := m_MD_unit_J16_h hm
    refine lv_aload_n hx hb d_MD_unit_16 rfl (lv_at hl 0 rfl) ?_
    refine va_get (D := (dC, dI)) (ci := 10) (v := .int (t0_16 12 0)) (C := "AlarmMatrixModel") (T := T_MD) (N := 42) hx hb hts i_MD hown hK hP 0 rfl rfl 12 (by decide) (hts _ k5_32) (fun _ h9 => h9) rfl d_MD_unit_17 ?_
    refine lv_sipush (v := (2000 : Int32)) hx hb d_MD_unit_20 (by decide) ?_
    refine lv_icmp_ge (tgt := 30) hx hb d_MD_unit_23 (by decide) (fun hc => ?_) (fun hc => ?_)
    · replace hm := if_t hm hc
      refine lv_iconst (v := (0 : Int32)) hx hb d_MD_unit_30 (by decide) ?_
      obtain ⟨r31, z0_31, hcl, hm⟩ := bn2_s hm
      refine kci (wc := wd_MD g h0 q0 t0_16) (wr := ([] : va_W)) (w1 := wd_MD g h0 q0 z0_31) hP hD hS hA [0, 1, 2, 3, 4, 5, 6, 7, 8, 9, 10, 11, 12, 13, 14, 15, 16, 17, 18, 19, 20, 21, 22, 23, 24, 25, 26, 27, 28, 29, 30, 31] [] rfl rfl (by decide) (by decide) (va_runV (As := [.int s0_16, .int (0 : Int32)]) (rest := []) ⟨hx, hb, hml, hown, hts⟩ (c_MD_goes hG hGn l dC dI g F H.size h0 q0 t0_16 s0_16 (0 : Int32) hcl) (cwV 2 hts (gdV k5_155 k5_157 kp_20 k1_10 k5_158) rfl rfl rfl (by decide +kernel) ⟨Nat.le_of_ble_eq_true rfl, Nat.le_of_ble_eq_true rfl⟩) (kpV hG hP hK hD hS hA hGA [0, 1, 2, 3, 4, 5, 6, 7, 8, 9, 10, 11, 12, 13, 14, 15, 16, 17, 18, 19, 20, 21, 22, 23, 24, 25, 26, 27, 28, 29, 30, 31] (by decide) rfl (ci := 10) (q0 := 0) rfl rfl rfl) rfl rfl hl.1 rfl (lv_room (Nat.le_of_ble_eq_true rfl)) d_MD_unit_31 ⟨Nat.le_of_ble_eq_true rfl, Nat.le_of_ble_eq_true rfl⟩) (fun H locs hP hD hS => ?_)
      have hP : va_P (dC, dI) vwCl (wd_MD g h0 q0 z0_31) H := hP
      have hD : va_D A (wd_MD g h0 q0 z0_31) := hD
      refine lv_if_ne (tgt := 39) hx hb d_MD_unit_34 (by decide) (fun hc => ?_) (fun hc => ?_)
      · replace hm := if_f hm hc
        refine lv_aload_n hx hb d_MD_unit_39 rfl (lv_at hl 0 rfl) ?_
        refine lv_iload_n hx hb d_MD_unit_40 rfl (lv_at hl 1 rfl) ?_
        obtain ⟨z0_41, hcl, hm⟩ := bn1_s hm
        refine kcv (wc := wd_MD g h0 q0 z0_31) (wr := ([] : va_W)) (w1 := wd_MD g h0 q0 z0_41) hP hD hS hA [0, 1, 2, 3, 4, 5, 6, 7, 8, 9, 10, 11, 12, 13, 14, 15, 16, 17, 18, 19, 20, 21, 22, 23, 24, 25, 26, 27, 28, 29, 30, 31] [] rfl rfl (by decide) (by decide) (va_runV (As := [.int a1]) (rest := []) ⟨hx, hb, hml, hown, hts⟩ (c_MD_write hG hGn l dC dI g F H.size h0 q0 z0_31 a1 hcl) (cwV 1 hts (gdV k5_159 k5_161 kp_21 k1_10 k5_162) rfl rfl rfl (by decide +kernel) ⟨Nat.le_of_ble_eq_true rfl, Nat.le_of_ble_eq_true rfl⟩) (kpV hG hP hK hD hS hA hGA [0, 1, 2, 3, 4, 5, 6, 7, 8, 9, 10, 11, 12, 13, 14, 15, 16, 17, 18, 19, 20, 21, 22, 23, 24, 25, 26, 27, 28, 29, 30, 31] (by decide) rfl (ci := 10) (q0 := 0) rfl rfl rfl) rfl rfl hl.1 rfl (lv_room (Nat.le_of_ble_eq_true rfl)) d_MD_unit_41 ⟨Nat.le_of_ble_eq_true rfl, Nat.le_of_ble_eq_true rfl⟩) (fun H locs hP hD hS => ?_)
        have hP : va_P (dC, dI) vwCl (wd_MD g h0 q0 z0_41) H := hP
        have hD : va_D A (wd_MD g h0 q0 z0_41) := hD
        refine lv_aload_n hx hb d_MD_unit_44 rfl (lv_at hl 0 rfl) ?_
        refine va_get (D := (dC, dI)) (ci := 10) (v := .int (z0_41 12 0)) (C := "AlarmMatrixModel") (T := T_MD) (N := 42) hx hb hts i_MD hown hK hP 0 rfl rfl 12 (by decide) (hts _ k5_32) (fun _ h9 => h9) rfl d_MD_unit_45 ?_
        obtain rfl := Option.some.inj hm
        rw [hQ]
        exact kri hx hb hr hlocks hAe hP hK hD hS d_MD_unit_48
      · replace hm := if_t hm hc
        refine lv_iconst (v := (0 : Int32)) hx hb d_MD_unit_37 (by decide) ?_
        obtain rfl := Option.some.inj hm
        rw [hQ]
        exact kri hx hb hr hlocks hAe hP hK hD hS d_MD_unit_38
    · replace hm := if_f hm hc
      refine lv_iconst (v := (1 : Int32)) hx hb d_MD_unit_26 (by decide) ?_
      refine lv_goto (tgt := 31) hx hb d_MD_unit_27 (by decide) ?_
      obtain ⟨r31, z0_31, hcl, hm⟩ := bn2_s hm
      refine kci (wc := wd_MD g h0 q0 t0_16) (wr := ([] : va_W)) (w1 := wd_MD g h0 q0 z0_31) hP hD hS hA [0, 1, 2, 3, 4, 5, 6, 7, 8, 9, 10, 11, 12, 13, 14, 15, 16, 17, 18, 19, 20, 21, 22, 23, 24, 25, 26, 27, 28, 29, 30, 31] [] rfl rfl (by decide) (by decide) (va_runV (As := [.int s0_16, .int (1 : Int32)]) (rest := []) ⟨hx, hb, hml, hown, hts⟩ (c_MD_goes hG hGn l dC dI g F H.size h0 q0 t0_16 s0_16 (1 : Int32) hcl) (cwV 2 hts (gdV k5_155 k5_157 kp_20 k1_10 k5_158) rfl rfl rfl (by decide +kernel) ⟨Nat.le_of_ble_eq_true rfl, Nat.le_of_ble_eq_true rfl⟩) (kpV hG hP hK hD hS hA hGA [0, 1, 2, 3, 4, 5, 6, 7, 8, 9, 10, 11, 12, 13, 14, 15, 16, 17, 18, 19, 20, 21, 22, 23, 24, 25, 26, 27, 28, 29, 30, 31] (by decide) rfl (ci := 10) (q0 := 0) rfl rfl rfl) rfl rfl hl.1 rfl (lv_room (Nat.le_of_ble_eq_true rfl)) d_MD_unit_31 ⟨Nat.le_of_ble_eq_true rfl, Nat.le_of_ble_eq_true rfl⟩) (fun H locs hP hD hS => ?_)
      have hP : va_P (dC, dI) vwCl (wd_MD g h0 q0 z0_31) H := hP
      have hD : va_D A (wd_MD g h0 q0 z0_31) := hD
      refine lv_if_ne (tgt := 39) hx hb d_MD_unit_34 (by decide) (fun hc => ?_) (fun hc => ?_)
      · replace hm := if_f hm hc
        refine lv_aload_n hx hb d_MD_unit_39 rfl (lv_at hl 0 rfl) ?_
        refine lv_iload_n hx hb d_MD_unit_40 rfl (lv_at hl 1 rfl) ?_
        obtain ⟨z0_41, hcl, hm⟩ := bn1_s hm
        refine kcv (wc := wd_MD g h0 q0 z0_31) (wr := ([] : va_W)) (w1 := wd_MD g h0 q0 z0_41) hP hD hS hA [0, 1, 2, 3, 4, 5, 6, 7, 8, 9, 10, 11, 12, 13, 14, 15, 16, 17, 18, 19, 20, 21, 22, 23, 24, 25, 26, 27, 28, 29, 30, 31] [] rfl rfl (by decide) (by decide) (va_runV (As := [.int a1]) (rest := []) ⟨hx, hb, hml, hown, hts⟩ (c_MD_write hG hGn l dC dI g F H.size h0 q0 z0_31 a1 hcl) (cwV 1 hts (gdV k5_159 k5_161 kp_21 k1_10 k5_162) rfl rfl rfl (by decide +kernel) ⟨Nat.le_of_ble_eq_true rfl, Nat.le_of_ble_eq_true rfl⟩) (kpV hG hP hK hD hS hA hGA [0, 1, 2, 3, 4, 5, 6, 7, 8, 9, 10, 11, 12, 13, 14, 15, 16, 17, 18, 19, 20, 21, 22, 23, 24, 25, 26, 27, 28, 29, 30, 31] (by decide) rfl (ci := 10) (q0 := 0) rfl rfl rfl) rfl rfl hl.1 rfl (lv_room (Nat.le_of_ble_eq_true rfl)) d_MD_unit_41 ⟨Nat.le_of_ble_eq_true rfl, Nat.le_of_ble_eq_true rfl⟩) (fun H locs hP hD hS => ?_)
        have hP : va_P (dC, dI) vwCl (wd_MD g h0 q0 z0_41) H := hP
        have hD : va_D A (wd_MD g h0 q0 z0_41) := hD
        refine lv_aload_n hx hb d_MD_unit_44 rfl (lv_at hl 0 rfl) ?_
        refine va_get (D := (dC, dI)) (ci := 10) (v := .int (z0_41 12 0)) (C := "AlarmMatrixModel") (T := T_MD) (N := 42) hx hb hts i_MD hown hK hP 0 rfl rfl 12 (by decide) (hts _ k5_32) (fun _ h9 => h9) rfl d_MD_unit_45 ?_
        obtain rfl := Option.some.inj hm
        rw [hQ]
        exact kri hx hb hr hlocks hAe hP hK hD hS d_MD_unit_48
      · replace hm := if_t hm hc
        refine lv_iconst (v := (0 : Int32)) hx hb d_MD_unit_37 (by decide) ?_
        obtain rfl := Option.some.inj hm
        rw [hQ]
        exact kri hx hb hr hlocks hAe hP hK hD hS d_MD_unit_38
  refine lv_aload_n hx hb d_MD_unit_0 rfl (lv_at hl 0 rfl) ?_
  refine lv_iload_n hx hb d_MD_unit_1 rfl (lv_at hl 1 rfl) ?_
  refine lv_if_lt (tgt := 15) hx hb d_MD_unit_2 (by decide) (fun hc => ?_) (fun hc => ?_)
  · replace hm := if_t hm hc
    refine lv_iconst (v := (0 : Int32)) hx hb d_MD_unit_15 (by decide) ?_
    exact J16 (0 : Int32) x0 H locs ls hm hP hD hS (lv_sub hl [0, 1] rfl)
  · replace hm := if_f hm hc
    refine lv_iload_n hx hb d_MD_unit_5 rfl (lv_at hl 1 rfl) ?_
    refine lv_bipush (v := (127 : Int32)) hx hb d_MD_unit_6 (by decide) ?_
    refine lv_icmp_gt (tgt := 15) hx hb d_MD_unit_8 (by decide) (fun hc => ?_) (fun hc => ?_)
    · replace hm := if_t hm hc
      refine lv_iconst (v := (0 : Int32)) hx hb d_MD_unit_15 (by decide) ?_
      exact J16 (0 : Int32) x0 H locs ls hm hP hD hS (lv_sub hl [0, 1] rfl)
    · replace hm := if_f hm hc
      refine lv_iconst (v := (1 : Int32)) hx hb d_MD_unit_11 (by decide) ?_
      refine lv_goto (tgt := 16) hx hb d_MD_unit_12 (by decide) ?_
      exact J16 (1 : Int32) x0 H locs ls hm hP hD hS (lv_sub hl [0, 1] rfl)
abbrev b_MD_isSaid : ByteArray := prog_12_method_6_code
abbrev y_MD_isSaid : MethodName := ⟨"AlarmMatrixModel", "isSaid", "(I)Z"⟩
theorem d_MD_isSaid_0 : decode b_MD_isSaid 0 = .ok (.iload_n 0, 1) := by decide +kernel
theorem d_MD_isSaid_1 : decode b_MD_isSaid 1 = .ok (.ifCond .lt 14, 3) := by decide +kernel
theorem d_MD_isSaid_4 : decode b_MD_isSaid 4 = .ok (.iload_n 0, 1) := by decide +kernel
theorem d_MD_isSaid_5 : decode b_MD_isSaid 5 = .ok (.sipush 9999, 3) := by decide +kernel
theorem d_MD_isSaid_8 : decode b_MD_isSaid 8 = .ok (.if_icmp .gt 7, 3) := by decide +kernel
theorem d_MD_isSaid_11 : decode b_MD_isSaid 11 = .ok (.iconst 1, 1) := by decide +kernel
theorem d_MD_isSaid_12 : decode b_MD_isSaid 12 = .ok (.goto 4, 3) := by decide +kernel
theorem d_MD_isSaid_15 : decode b_MD_isSaid 15 = .ok (.iconst 0, 1) := by decide +kernel
theorem d_MD_isSaid_16 : decode b_MD_isSaid 16 = .ok (.ireturn, 1) := by decide +kernel
def m_MD_isSaid (F : Nat) (a1 : Int32) : Option (Int32) :=
  (if a1 < (0 : Int32) then (some (0 : Int32)) else (if (9999 : Int32) < a1 then (some (0 : Int32)) else (some (1 : Int32))))
abbrev rm_MD_isSaid : Room := { frames := 0, cells := 0, slots := 0, locals := 0 }
set_option maxHeartbeats 4000000 in
set_option maxRecDepth 100000 in
theorem c_MD_isSaid {G : (Nat → Prop) → State → Prop} (hG : gok G) (hGn : gN G) (l : Launch) (dC : Nat → ClassId) (dI : Nat → Nat → Nat) (g : Nat → ClassId) (F : Nat) (sz : Nat) (a1 : Int32) {o : Int32} (hm : m_MD_isSaid F a1 = some o) : Met l y_MD_isSaid (.code y_MD_isSaid b_MD_isSaid 1 (some .boolean) :: gw) rm_MD_isSaid (kq (dC, dI) vwCl (tyv g) G [.int a1] sz (([] : va_W))) (kqi (dC, dI) vwCl (tyv g) (([] : va_W)) o (([] : va_W)) sz) 0 0 (va_A (([] : va_W)) sz) := by
  unfold m_MD_isSaid at hm
  refine km (Qc := fun sz => kqi (dC, dI) vwCl (tyv g) (([] : va_W)) o (([] : va_W)) sz) (cc := b_MD_isSaid) (maxL := 1) (ret := some .boolean) (by decide) rfl (Nat.le_of_ble_eq_true rfl) ?_
  intro p e s m args below meth c Q hQ hx hb hr hts hown hlocks hml hnm H locs A hAe hA hP hK hD hS hGA ls hl
  have hl : lv_has ls 1 [(0, .int a1)] := hl
  have hts : ∀ w ∈ gw, w.before args s = true := fun w h => hts w (List.mem_cons_of_mem _ h)
  have hown : s.vm.findClass "AlarmMatrixModel" = some m.cls := hown
  refine lv_iload_n hx hb d_MD_isSaid_0 rfl (lv_at hl 0 rfl) ?_
  refine lv_if_lt (tgt := 15) hx hb d_MD_isSaid_1 (by decide) (fun hc => ?_) (fun hc => ?_)
  · replace hm := if_t hm hc
    refine lv_iconst (v := (0 : Int32)) hx hb d_MD_isSaid_15 (by decide) ?_
    obtain rfl := Option.some.inj hm
    rw [hQ]
    exact krz hx hb hr nar_0 hlocks hAe hP hK hD hS d_MD_isSaid_16
  · replace hm := if_f hm hc
    refine lv_iload_n hx hb d_MD_isSaid_4 rfl (lv_at hl 0 rfl) ?_
    refine lv_sipush (v := (9999 : Int32)) hx hb d_MD_isSaid_5 (by decide) ?_
    refine lv_icmp_gt (tgt := 15) hx hb d_MD_isSaid_8 (by decide) (fun hc => ?_) (fun hc => ?_)
    · replace hm := if_t hm hc
      refine lv_iconst (v := (0 : Int32)) hx hb d_MD_isSaid_15 (by decide) ?_
      obtain rfl := Option.some.inj hm
      rw [hQ]
      exact krz hx hb hr nar_0 hlocks hAe hP hK hD hS d_MD_isSaid_16
    · replace hm := if_f hm hc
      refine lv_iconst (v := (1 : Int32)) hx hb d_MD_isSaid_11 (by decide) ?_
      refine lv_goto (tgt := 16) hx hb d_MD_isSaid_12 (by decide) ?_
      obtain rfl := Option.some.inj hm
      rw [hQ]
      exact krz hx hb hr nar_1 hlocks hAe hP hK hD hS d_MD_isSaid_16
abbrev b_MD_letter : ByteArray := prog_12_method_7_code
abbrev y_MD_letter : MethodName := ⟨"AlarmMatrixModel", "letter", "(I)V"⟩
theorem d_MD_letter_0 : decode b_MD_letter 0 = .ok (.aload_n 0, 1) := by decide +kernel
theorem d_MD_letter_1 : decode b_MD_letter 1 = .ok (.getfield 101, 3) := by decide +kernel
theorem d_MD_letter_4 : decode b_MD_letter 4 = .ok (.aload_n 0, 1) := by decide +kernel
theorem d_MD_letter_5 : decode b_MD_letter 5 = .ok (.getfield 122, 3) := by decide +kernel
theorem d_MD_letter_8 : decode b_MD_letter 8 = .ok (.iload_n 1, 1) := by decide +kernel
theorem d_MD_letter_9 : decode b_MD_letter 9 = .ok (.iastore, 1) := by decide +kernel
theorem d_MD_letter_10 : decode b_MD_letter 10 = .ok (.aload_n 0, 1) := by decide +kernel
theorem d_MD_letter_11 : decode b_MD_letter 11 = .ok (.dup, 1) := by decide +kernel
theorem d_MD_letter_12 : decode b_MD_letter 12 = .ok (.getfield 122, 3) := by decide +kernel
theorem d_MD_letter_15 : decode b_MD_letter 15 = .ok (.iconst 1, 1) := by decide +kernel
theorem d_MD_letter_16 : decode b_MD_letter 16 = .ok (.iadd, 1) := by decide +kernel
theorem d_MD_letter_17 : decode b_MD_letter 17 = .ok (.putfield 122, 3) := by decide +kernel
theorem d_MD_letter_20 : decode b_MD_letter 20 = .ok (.return_, 1) := by decide +kernel
def m_MD_letter (F : Nat) (x0 : St) (a1 : Int32) : Option (St) :=
  (ck (x0 41 0) 200 (lz (st x0 40 (upd (x0 40) (x0 41 0).toNatClampNeg a1)) (fun e0_9 => (lz (sc e0_9 41 ((e0_9 41 0) + (1 : Int32))) (fun e0_17 => (some e0_17))))))
abbrev rm_MD_letter : Room := { frames := 0, cells := 0, slots := 0, locals := 0 }
set_option maxHeartbeats 4000000 in
set_option maxRecDepth 100000 in
theorem c_MD_letter {G : (Nat → Prop) → State → Prop} (hG : gok G) (hGn : gN G) (l : Launch) (dC : Nat → ClassId) (dI : Nat → Nat → Nat) (g : Nat → ClassId) (F : Nat) (sz : Nat) (h0 : Nat) (q0 : Nat → Nat) (x0 : St) (a1 : Int32) {o : St} (hm : m_MD_letter F x0 a1 = some o) : Met l y_MD_letter (.code y_MD_letter b_MD_letter 2 none :: gw) rm_MD_letter (kq (dC, dI) vwCl (tyv g) G [.ref h0, .int a1] sz (wd_MD g h0 q0 x0)) (kqv (dC, dI) vwCl (tyv g) (wd_MD g h0 q0 x0) (wd_MD g h0 q0 o) sz) 0 0 (va_A (wd_MD g h0 q0 x0) sz) := by
  unfold m_MD_letter at hm
  refine km (Qc := fun sz => kqv (dC, dI) vwCl (tyv g) (wd_MD g h0 q0 x0) (wd_MD g h0 q0 o) sz) (cc := b_MD_letter) (maxL := 2) (ret := none) (by decide) rfl (Nat.le_of_ble_eq_true rfl) ?_
  intro p e s m args below meth c Q hQ hx hb hr hts hown hlocks hml hnm H locs A hAe hA hP hK hD hS hGA ls hl
  have hl : lv_has ls 2 [(0, .ref h0), (1, .int a1)] := hl
  have hts : ∀ w ∈ gw, w.before args s = true := fun w h => hts w (List.mem_cons_of_mem _ h)
  have hown : s.vm.findClass "AlarmMatrixModel" = some m.cls := hown
  refine lv_aload_n hx hb d_MD_letter_0 rfl (lv_at hl 0 rfl) ?_
  refine va_get (D := (dC, dI)) (ci := 10) (v := .ref (q0 40)) (C := "AlarmMatrixModel") (T := T_MD) (N := 42) hx hb hts i_MD hown hK hP 0 rfl rfl 40 (by decide) (hts _ k5_60) (fun _ h9 => h9) rfl d_MD_letter_1 ?_
  refine lv_aload_n hx hb d_MD_letter_4 rfl (lv_at hl 0 rfl) ?_
  refine va_get (D := (dC, dI)) (ci := 10) (v := .int (x0 41 0)) (C := "AlarmMatrixModel") (T := T_MD) (N := 42) hx hb hts i_MD hown hK hP 0 rfl rfl 41 (by decide) (hts _ k5_61) (fun _ h9 => h9) rfl d_MD_letter_5 ?_
  refine lv_iload_n hx hb d_MD_letter_8 rfl (lv_at hl 1 rfl) ?_
  obtain ⟨h_9, hm⟩ := ck_s hm
  obtain ⟨e0_9, he, hm⟩ := lz_s hm
  refine va_iast (f := (x0 40)) hx hb hK hP hD hS 31 0 rfl rfl h_9 d_MD_letter_9 (fun H locs hP hD hS => ?_)
  have hP : va_P (dC, dI) vwCl (wd_MD g h0 q0 e0_9) H := by rw [he]; exact hP
  have hD : va_D A (wd_MD g h0 q0 e0_9) := by rw [he]; exact hD
  refine lv_aload_n hx hb d_MD_letter_10 rfl (lv_at hl 0 rfl) ?_
  refine lv_dup hx hb d_MD_letter_11 rfl ?_
  refine va_get (D := (dC, dI)) (ci := 10) (v := .int (e0_9 41 0)) (C := "AlarmMatrixModel") (T := T_MD) (N := 42) hx hb hts i_MD hown hK hP 0 rfl rfl 41 (by decide) (hts _ k5_61) (fun _ h9 => h9) rfl d_MD_letter_12 ?_
  refine lv_iconst (v := (1 : Int32)) hx hb d_MD_letter_15 (by decide) ?_
  refine lv_iadd hx hb d_MD_letter_16 ?_
  obtain ⟨e0_17, he, hm⟩ := lz_s hm
  refine va_put (D := (dC, dI)) (ci := 10) (v := .int ((e0_9 41 0) + (1 : Int32))) (ty := .int) (C := "AlarmMatrixModel") (T := T_MD) (N := 42) hx hb hts i_MD t_MD o_MD n_MD hown hK hP hD hS 0 rfl rfl 41 (by decide) (hts _ k5_61) (fun _ h9 => h9) rfl (by decide +kernel) rfl rfl (Nat.le_of_ble_eq_true rfl) d_MD_letter_17 (fun H locs hP hD hS => ?_)
  have hP : va_P (dC, dI) vwCl (wd_MD g h0 q0 e0_17) H := by rw [he]; exact hP
  have hD : va_D A (wd_MD g h0 q0 e0_17) := by rw [he]; exact hD
  obtain rfl := Option.some.inj hm
  rw [hQ]
  exact krv hx hb hr hlocks hAe hP hK hD hS d_MD_letter_20
abbrev b_MD_number : ByteArray := prog_12_method_8_code
abbrev y_MD_number : MethodName := ⟨"AlarmMatrixModel", "number", "(I)V"⟩
theorem d_MD_number_0 : decode b_MD_number 0 = .ok (.iload_n 1, 1) := by decide +kernel
theorem d_MD_number_1 : decode b_MD_number 1 = .ok (.sipush 9999, 3) := by decide +kernel
theorem d_MD_number_4 : decode b_MD_number 4 = .ok (.if_icmp .le 15, 3) := by decide +kernel
theorem d_MD_number_7 : decode b_MD_number 7 = .ok (.aload_n 0, 1) := by decide +kernel
theorem d_MD_number_8 : decode b_MD_number 8 = .ok (.bipush 48, 2) := by decide +kernel
theorem d_MD_number_10 : decode b_MD_number 10 = .ok (.iload_n 1, 1) := by decide +kernel
theorem d_MD_number_11 : decode b_MD_number 11 = .ok (.sipush 10000, 3) := by decide +kernel
theorem d_MD_number_14 : decode b_MD_number 14 = .ok (.idiv, 1) := by decide +kernel
theorem d_MD_number_15 : decode b_MD_number 15 = .ok (.iadd, 1) := by decide +kernel
theorem d_MD_number_16 : decode b_MD_number 16 = .ok (.invokevirtual 125, 3) := by decide +kernel
theorem d_MD_number_19 : decode b_MD_number 19 = .ok (.iload_n 1, 1) := by decide +kernel
theorem d_MD_number_20 : decode b_MD_number 20 = .ok (.sipush 999, 3) := by decide +kernel
theorem d_MD_number_23 : decode b_MD_number 23 = .ok (.if_icmp .le 18, 3) := by decide +kernel
theorem d_MD_number_26 : decode b_MD_number 26 = .ok (.aload_n 0, 1) := by decide +kernel
theorem d_MD_number_27 : decode b_MD_number 27 = .ok (.bipush 48, 2) := by decide +kernel
theorem d_MD_number_29 : decode b_MD_number 29 = .ok (.iload_n 1, 1) := by decide +kernel
theorem d_MD_number_30 : decode b_MD_number 30 = .ok (.sipush 1000, 3) := by decide +kernel
theorem d_MD_number_33 : decode b_MD_number 33 = .ok (.idiv, 1) := by decide +kernel
theorem d_MD_number_34 : decode b_MD_number 34 = .ok (.bipush 10, 2) := by decide +kernel
theorem d_MD_number_36 : decode b_MD_number 36 = .ok (.irem, 1) := by decide +kernel
theorem d_MD_number_37 : decode b_MD_number 37 = .ok (.iadd, 1) := by decide +kernel
theorem d_MD_number_38 : decode b_MD_number 38 = .ok (.invokevirtual 125, 3) := by decide +kernel
theorem d_MD_number_41 : decode b_MD_number 41 = .ok (.iload_n 1, 1) := by decide +kernel
theorem d_MD_number_42 : decode b_MD_number 42 = .ok (.bipush 99, 2) := by decide +kernel
theorem d_MD_number_44 : decode b_MD_number 44 = .ok (.if_icmp .le 17, 3) := by decide +kernel
theorem d_MD_number_47 : decode b_MD_number 47 = .ok (.aload_n 0, 1) := by decide +kernel
theorem d_MD_number_48 : decode b_MD_number 48 = .ok (.bipush 48, 2) := by decide +kernel
theorem d_MD_number_50 : decode b_MD_number 50 = .ok (.iload_n 1, 1) := by decide +kernel
theorem d_MD_number_51 : decode b_MD_number 51 = .ok (.bipush 100, 2) := by decide +kernel
theorem d_MD_number_53 : decode b_MD_number 53 = .ok (.idiv, 1) := by decide +kernel
theorem d_MD_number_54 : decode b_MD_number 54 = .ok (.bipush 10, 2) := by decide +kernel
theorem d_MD_number_56 : decode b_MD_number 56 = .ok (.irem, 1) := by decide +kernel
theorem d_MD_number_57 : decode b_MD_number 57 = .ok (.iadd, 1) := by decide +kernel
theorem d_MD_number_58 : decode b_MD_number 58 = .ok (.invokevirtual 125, 3) := by decide +kernel
theorem d_MD_number_61 : decode b_MD_number 61 = .ok (.iload_n 1, 1) := by decide +kernel
theorem d_MD_number_62 : decode b_MD_number 62 = .ok (.bipush 9, 2) := by decide +kernel
theorem d_MD_number_64 : decode b_MD_number 64 = .ok (.if_icmp .le 17, 3) := by decide +kernel
theorem d_MD_number_67 : decode b_MD_number 67 = .ok (.aload_n 0, 1) := by decide +kernel
theorem d_MD_number_68 : decode b_MD_number 68 = .ok (.bipush 48, 2) := by decide +kernel
theorem d_MD_number_70 : decode b_MD_number 70 = .ok (.iload_n 1, 1) := by decide +kernel
theorem d_MD_number_71 : decode b_MD_number 71 = .ok (.bipush 10, 2) := by decide +kernel
theorem d_MD_number_73 : decode b_MD_number 73 = .ok (.idiv, 1) := by decide +kernel
theorem d_MD_number_74 : decode b_MD_number 74 = .ok (.bipush 10, 2) := by decide +kernel
theorem d_MD_number_76 : decode b_MD_number 76 = .ok (.irem, 1) := by decide +kernel
theorem d_MD_number_77 : decode b_MD_number 77 = .ok (.iadd, 1) := by decide +kernel
theorem d_MD_number_78 : decode b_MD_number 78 = .ok (.invokevirtual 125, 3) := by decide +kernel
theorem d_MD_number_81 : decode b_MD_number 81 = .ok (.aload_n 0, 1) := by decide +kernel
theorem d_MD_number_82 : decode b_MD_number 82 = .ok (.bipush 48, 2) := by decide +kernel
theorem d_MD_number_84 : decode b_MD_number 84 = .ok (.iload_n 1, 1) := by decide +kernel
theorem d_MD_number_85 : decode b_MD_number 85 = .ok (.bipush 10, 2) := by decide +kernel
theorem d_MD_number_87 : decode b_MD_number 87 = .ok (.irem, 1) := by decide +kernel
theorem d_MD_number_88 : decode b_MD_number 88 = .ok (.iadd, 1) := by decide +kernel
theorem d_MD_number_89 : decode b_MD_number 89 = .ok (.invokevirtual 125, 3) := by decide +kernel
theorem d_MD_number_92 : decode b_MD_number 92 = .ok (.aload_n 0, 1) := by decide +kernel
theorem d_MD_number_93 : decode b_MD_number 93 = .ok (.bipush 32, 2) := by decide +kernel
theorem d_MD_number_95 : decode b_MD_number 95 = .ok (.invokevirtual 125, 3) := by decide +kernel
theorem d_MD_number_98 : decode b_MD_number 98 = .ok (.return_, 1) := by decide +kernel
def m_MD_number_J41 (F : Nat) (a1 : Int32) (t0_41 : St) : Option (St) :=
  (if a1 ≤ (99 : Int32) then (if a1 ≤ (9 : Int32) then (bn1 (m_MD_letter F t0_41 ((48 : Int32) + (a1 - a1 / (10 : Int32) * (10 : Int32)))) (fun z0_89 => (bn1 (m_MD_letter F z0_89 (32 : Int32)) (fun z0_95 => (some z0_95))))) else (bn1 (m_MD_letter F t0_41 ((48 : Int32) + ((a1 / (10 : Int32)) - (a1 / (10 : Int32)) / (10 : Int32) * (10 : Int32)))) (fun z0_78 => (bn1 (m_MD_letter F z0_78 ((48 : Int32) + (a1 - a1 / (10 : Int32) * (10 : Int32)))) (fun z0_89 => (bn1 (m_MD_letter F z0_89 (32 : Int32)) (fun z0_95 => (some z0_95)))))))) else (bn1 (m_MD_letter F t0_41 ((48 : Int32) + ((a1 / (100 : Int32)) - (a1 / (100 : Int32)) / (10 : Int32) * (10 : Int32)))) (fun z0_58 => (if a1 ≤ (9 : Int32) then (bn1 (m_MD_letter F z0_58 ((48 : Int32) + (a1 - a1 / (10 : Int32) * (10 : Int32)))) (fun z0_89 => (bn1 (m_MD_letter F z0_89 (32 : Int32)) (fun z0_95 => (some z0_95))))) else (bn1 (m_MD_letter F z0_58 ((48 : Int32) + ((a1 / (10 : Int32)) - (a1 / (10 : Int32)) / (10 : Int32) * (10 : Int32)))) (fun z0_78 => (bn1 (m_MD_letter F z0_78 ((48 : Int32) + (a1 - a1 / (10 : Int32) * (10 : Int32)))) (fun z0_89 => (bn1 (m_MD_letter F z0_89 (32 : Int32)) (fun z0_95 => (some z0_95)))))))))))
theorem m_MD_number_J41_h {F : Nat} {a1 : Int32} {t0_41 : St} {o : (St)} (h : m_MD_number_J41 F a1 t0_41 = some o) :
  (if a1 ≤ (99 : Int32) then (if a1 ≤ (9 : Int32) then (bn1 (m_MD_letter F t0_41 ((48 : Int32) + (a1 - a1 / (10 : Int32) * (10 : Int32)))) (fun z0_89 => (bn1 (m_MD_letter F z0_89 (32 : Int32)) (fun z0_95 => (some z0_95))))) else (bn1 (m_MD_letter F t0_41 ((48 : Int32) + ((a1 / (10 : Int32)) - (a1 / (10 : Int32)) / (10 : Int32) * (10 : Int32)))) (fun z0_78 => (bn1 (m_MD_letter F z0_78 ((48 : Int32) + (a1 - a1 / (10 : Int32) * (10 : Int32)))) (fun z0_89 => (bn1 (m_MD_letter F z0_89 (32 : Int32)) (fun z0_95 => (some z0_95)))))))) else (bn1 (m_MD_letter F t0_41 ((48 : Int32) + ((a1 / (100 : Int32)) - (a1 / (100 : Int32)) / (10 : Int32) * (10 : Int32)))) (fun z0_58 => (if a1 ≤ (9 : Int32) then (bn1 (m_MD_letter F z0_58 ((48 : Int32) + (a1 - a1 / (10 : Int32) * (10 : Int32)))) (fun z0_89 => (bn1 (m_MD_letter F z0_89 (32 : Int32)) (fun z0_95 => (some z0_95))))) else (bn1 (m_MD_letter F z0_58 ((48 : Int32) + ((a1 / (10 : Int32)) - (a1 / (10 : Int32)) / (10 : Int32) * (10 : Int32)))) (fun z0_78 => (bn1 (m_MD_letter F z0_78 ((48 : Int32) + (a1 - a1 / (10 : Int32) * (10 : Int32)))) (fun z0_89 => (bn1 (m_MD_letter F z0_89 (32 : Int32)) (fun z0_95 => (some z0_95))))))))))) = some o := h
def m_MD_number (F : Nat) (x0 : St) (a1 : Int32) : Option (St) :=
  (if a1 ≤ (9999 : Int32) then (if a1 ≤ (999 : Int32) then (m_MD_number_J41 F a1  x0) else (bn1 (m_MD_letter F x0 ((48 : Int32) + ((a1 / (1000 : Int32)) - (a1 / (1000 : Int32)) / (10 : Int32) * (10 : Int32)))) (fun z0_38 => (m_MD_number_J41 F a1  z0_38)))) else (bn1 (m_MD_letter F x0 ((48 : Int32) + (a1 / (10000 : Int32)))) (fun z0_16 => (if a1 ≤ (999 : Int32) then (m_MD_number_J41 F a1  z0_16) else (bn1 (m_MD_letter F z0_16 ((48 : Int32) + ((a1 / (1000 : Int32)) - (a1 / (1000 : Int32)) / (10 : Int32) * (10 : Int32)))) (fun z0_38 => (m_MD_number_J41 F a1  z0_38)))))))
abbrev rm_MD_number : Room := { frames := 1, cells := 0, slots := 0, locals := 21 }
set_option maxHeartbeats 4000000 in
set_option maxRecDepth 100000 in
theorem c_MD_number {G : (Nat → Prop) → State → Prop} (hG : gok G) (hGn : gN G) (l : Launch) (dC : Nat → ClassId) (dI : Nat → Nat → Nat) (g : Nat → ClassId) (F : Nat) (sz : Nat) (h0 : Nat) (q0 : Nat → Nat) (x0 : St) (a1 : Int32) {o : St} (hm : m_MD_number F x0 a1 = some o) : Met l y_MD_number (.code y_MD_number b_MD_number 2 none :: gw) rm_MD_number (kq (dC, dI) vwCl (tyv g) G [.ref h0, .int a1] sz (wd_MD g h0 q0 x0)) (kqv (dC, dI) vwCl (tyv g) (wd_MD g h0 q0 x0) (wd_MD g h0 q0 o) sz) 0 0 (va_A (wd_MD g h0 q0 x0) sz) := by
  unfold m_MD_number at hm
  refine km (Qc := fun sz => kqv (dC, dI) vwCl (tyv g) (wd_MD g h0 q0 x0) (wd_MD g h0 q0 o) sz) (cc := b_MD_number) (maxL := 2) (ret := none) (by decide) rfl (Nat.le_of_ble_eq_true rfl) ?_
  intro p e s m args below meth c Q hQ hx hb hr hts hown hlocks hml hnm H locs A hAe hA hP hK hD hS hGA ls hl
  have hl : lv_has ls 2 [(0, .ref h0), (1, .int a1)] := hl
  have hts : ∀ w ∈ gw, w.before args s = true := fun w h => hts w (List.mem_cons_of_mem _ h)
  have hown : s.vm.findClass "AlarmMatrixModel" = some m.cls := hown
  have J41 : ∀ (t0_41 : St) (H : Heap) (locs : List Loc) (ls : Array Slot), m_MD_number_J41 F a1  t0_41 = some o → va_P (dC, dI) vwCl (wd_MD g h0 q0 t0_41) H → va_D A (wd_MD g h0 q0 t0_41) → va_S A s.heap H locs → lv_has ls 2 [(0, .ref h0), (1, .int a1)] → W p l e rm_MD_number s m args below meth c H locs 0 0 Q (F0 m 41 ls []) := by
    intro t0_41 H locs ls hm hP hD hS hl
    replace hm := m_MD_number_J41_h hm
    refine lv_iload_n hx hb d_MD_number_41 rfl (lv_at hl 1 rfl) ?_
    refine lv_bipush (v := (99 : Int32)) hx hb d_MD_number_42 (by decide) ?_
    refine lv_icmp_le (tgt := 61) hx hb d_MD_number_44 (by decide) (fun hc => ?_) (fun hc => ?_)
    · replace hm := if_t hm hc
      refine lv_iload_n hx hb d_MD_number_61 rfl (lv_at hl 1 rfl) ?_
      refine lv_bipush (v := (9 : Int32)) hx hb d_MD_number_62 (by decide) ?_
      refine lv_icmp_le (tgt := 81) hx hb d_MD_number_64 (by decide) (fun hc => ?_) (fun hc => ?_)
      · replace hm := if_t hm hc
        refine lv_aload_n hx hb d_MD_number_81 rfl (lv_at hl 0 rfl) ?_
        refine lv_bipush (v := (48 : Int32)) hx hb d_MD_number_82 (by decide) ?_
        refine lv_iload_n hx hb d_MD_number_84 rfl (lv_at hl 1 rfl) ?_
        refine lv_bipush (v := (10 : Int32)) hx hb d_MD_number_85 (by decide) ?_
        refine lv_irem hx hb d_MD_number_87 (by decide) ?_
        refine lv_iadd hx hb d_MD_number_88 ?_
        obtain ⟨z0_89, hcl, hm⟩ := bn1_s hm
        refine kcv (wc := wd_MD g h0 q0 t0_41) (wr := ([] : va_W)) (w1 := wd_MD g h0 q0 z0_89) hP hD hS hA [0, 1, 2, 3, 4, 5, 6, 7, 8, 9, 10, 11, 12, 13, 14, 15, 16, 17, 18, 19, 20, 21, 22, 23, 24, 25, 26, 27, 28, 29, 30, 31] [] rfl rfl (by decide) (by decide) (va_runV (As := [.int ((48 : Int32) + (a1 - a1 / (10 : Int32) * (10 : Int32)))]) (rest := []) ⟨hx, hb, hml, hown, hts⟩ (c_MD_letter hG hGn l dC dI g F H.size h0 q0 t0_41 ((48 : Int32) + (a1 - a1 / (10 : Int32) * (10 : Int32))) hcl) (cwV 1 hts (gdV k5_181 k5_183 kp_24 k1_10 k5_184) rfl rfl rfl (by decide +kernel) ⟨Nat.le_of_ble_eq_true rfl, Nat.le_of_ble_eq_true rfl⟩) (kpV hG hP hK hD hS hA hGA [0, 1, 2, 3, 4, 5, 6, 7, 8, 9, 10, 11, 12, 13, 14, 15, 16, 17, 18, 19, 20, 21, 22, 23, 24, 25, 26, 27, 28, 29, 30, 31] (by decide) rfl (ci := 10) (q0 := 0) rfl rfl rfl) rfl rfl hl.1 rfl (lv_room (Nat.le_of_ble_eq_true rfl)) d_MD_number_89 ⟨Nat.le_of_ble_eq_true rfl, Nat.le_of_ble_eq_true rfl⟩) (fun H locs hP hD hS => ?_)
        have hP : va_P (dC, dI) vwCl (wd_MD g h0 q0 z0_89) H := hP
        have hD : va_D A (wd_MD g h0 q0 z0_89) := hD
        refine lv_aload_n hx hb d_MD_number_92 rfl (lv_at hl 0 rfl) ?_
        refine lv_bipush (v := (32 : Int32)) hx hb d_MD_number_93 (by decide) ?_
        obtain ⟨z0_95, hcl, hm⟩ := bn1_s hm
        refine kcv (wc := wd_MD g h0 q0 z0_89) (wr := ([] : va_W)) (w1 := wd_MD g h0 q0 z0_95) hP hD hS hA [0, 1, 2, 3, 4, 5, 6, 7, 8, 9, 10, 11, 12, 13, 14, 15, 16, 17, 18, 19, 20, 21, 22, 23, 24, 25, 26, 27, 28, 29, 30, 31] [] rfl rfl (by decide) (by decide) (va_runV (As := [.int (32 : Int32)]) (rest := []) ⟨hx, hb, hml, hown, hts⟩ (c_MD_letter hG hGn l dC dI g F H.size h0 q0 z0_89 (32 : Int32) hcl) (cwV 1 hts (gdV k5_181 k5_183 kp_24 k1_10 k5_184) rfl rfl rfl (by decide +kernel) ⟨Nat.le_of_ble_eq_true rfl, Nat.le_of_ble_eq_true rfl⟩) (kpV hG hP hK hD hS hA hGA [0, 1, 2, 3, 4, 5, 6, 7, 8, 9, 10, 11, 12, 13, 14, 15, 16, 17, 18, 19, 20, 21, 22, 23, 24, 25, 26, 27, 28, 29, 30, 31] (by decide) rfl (ci := 10) (q0 := 0) rfl rfl rfl) rfl rfl hl.1 rfl (lv_room (Nat.le_of_ble_eq_true rfl)) d_MD_number_95 ⟨Nat.le_of_ble_eq_true rfl, Nat.le_of_ble_eq_true rfl⟩) (fun H locs hP hD hS => ?_)
        have hP : va_P (dC, dI) vwCl (wd_MD g h0 q0 z0_95) H := hP
        have hD : va_D A (wd_MD g h0 q0 z0_95) := hD
        obtain rfl := Option.some.inj hm
        rw [hQ]
        exact krv hx hb hr hlocks hAe hP hK hD hS d_MD_number_98
      · replace hm := if_f hm hc
        refine lv_aload_n hx hb d_MD_number_67 rfl (lv_at hl 0 rfl) ?_
        refine lv_bipush (v := (48 : Int32)) hx hb d_MD_number_68 (by decide) ?_
        refine lv_iload_n hx hb d_MD_number_70 rfl (lv_at hl 1 rfl) ?_
        refine lv_bipush (v := (10 : Int32)) hx hb d_MD_number_71 (by decide) ?_
        refine lv_idiv hx hb d_MD_number_73 (by decide) ?_
        refine lv_bipush (v := (10 : Int32)) hx hb d_MD_number_74 (by decide) ?_
        refine lv_irem hx hb d_MD_number_76 (by decide) ?_
        refine lv_iadd hx hb d_MD_number_77 ?_
        obtain ⟨z0_78, hcl, hm⟩ := bn1_s hm
        refine kcv (wc := wd_MD g h0 q0 t0_41) (wr := ([] : va_W)) (w1 := wd_MD g h0 q0 z0_78) hP hD hS hA [0, 1, 2, 3, 4, 5, 6, 7, 8, 9, 10, 11, 12, 13, 14, 15, 16, 17, 18, 19, 20, 21, 22, 23, 24, 25, 26, 27, 28, 29, 30, 31] [] rfl rfl (by decide) (by decide) (va_runV (As := [.int ((48 : Int32) + ((a1 / (10 : Int32)) - (a1 / (10 : Int32)) / (10 : Int32) * (10 : Int32)))]) (rest := []) ⟨hx, hb, hml, hown, hts⟩ (c_MD_letter hG hGn l dC dI g F H.size h0 q0 t0_41 ((48 : Int32) + ((a1 / (10 : Int32)) - (a1 / (10 : Int32)) / (10 : Int32) * (10 : Int32))) hcl) (cwV 1 hts (gdV k5_181 k5_183 kp_24 k1_10 k5_184) rfl rfl rfl (by decide +kernel) ⟨Nat.le_of_ble_eq_true rfl, Nat.le_of_ble_eq_true rfl⟩) (kpV hG hP hK hD hS hA hGA [0, 1, 2, 3, 4, 5, 6, 7, 8, 9, 10, 11, 12, 13, 14, 15, 16, 17, 18, 19, 20, 21, 22, 23, 24, 25, 26, 27, 28, 29, 30, 31] (by decide) rfl (ci := 10) (q0 := 0) rfl rfl rfl) rfl rfl hl.1 rfl (lv_room (Nat.le_of_ble_eq_true rfl)) d_MD_number_78 ⟨Nat.le_of_ble_eq_true rfl, Nat.le_of_ble_eq_true rfl⟩) (fun H locs hP hD hS => ?_)
        have hP : va_P (dC, dI) vwCl (wd_MD g h0 q0 z0_78) H := hP
        have hD : va_D A (wd_MD g h0 q0 z0_78) := hD
        refine lv_aload_n hx hb d_MD_number_81 rfl (lv_at hl 0 rfl) ?_
        refine lv_bipush (v := (48 : Int32)) hx hb d_MD_number_82 (by decide) ?_
        refine lv_iload_n hx hb d_MD_number_84 rfl (lv_at hl 1 rfl) ?_
        refine lv_bipush (v := (10 : Int32)) hx hb d_MD_number_85 (by decide) ?_
        refine lv_irem hx hb d_MD_number_87 (by decide) ?_
        refine lv_iadd hx hb d_MD_number_88 ?_
        obtain ⟨z0_89, hcl, hm⟩ := bn1_s hm
        refine kcv (wc := wd_MD g h0 q0 z0_78) (wr := ([] : va_W)) (w1 := wd_MD g h0 q0 z0_89) hP hD hS hA [0, 1, 2, 3, 4, 5, 6, 7, 8, 9, 10, 11, 12, 13, 14, 15, 16, 17, 18, 19, 20, 21, 22, 23, 24, 25, 26, 27, 28, 29, 30, 31] [] rfl rfl (by decide) (by decide) (va_runV (As := [.int ((48 : Int32) + (a1 - a1 / (10 : Int32) * (10 : Int32)))]) (rest := []) ⟨hx, hb, hml, hown, hts⟩ (c_MD_letter hG hGn l dC dI g F H.size h0 q0 z0_78 ((48 : Int32) + (a1 - a1 / (10 : Int32) * (10 : Int32))) hcl) (cwV 1 hts (gdV k5_181 k5_183 kp_24 k1_10 k5_184) rfl rfl rfl (by decide +kernel) ⟨Nat.le_of_ble_eq_true rfl, Nat.le_of_ble_eq_true rfl⟩) (kpV hG hP hK hD hS hA hGA [0, 1, 2, 3, 4, 5, 6, 7, 8, 9, 10, 11, 12, 13, 14, 15, 16, 17, 18, 19, 20, 21, 22, 23, 24, 25, 26, 27, 28, 29, 30, 31] (by decide) rfl (ci := 10) (q0 := 0) rfl rfl rfl) rfl rfl hl.1 rfl (lv_room (Nat.le_of_ble_eq_true rfl)) d_MD_number_89 ⟨Nat.le_of_ble_eq_true rfl, Nat.le_of_ble_eq_true rfl⟩) (fun H locs hP hD hS => ?_)
        have hP : va_P (dC, dI) vwCl (wd_MD g h0 q0 z0_89) H := hP
        have hD : va_D A (wd_MD g h0 q0 z0_89) := hD
        refine lv_aload_n hx hb d_MD_number_92 rfl (lv_at hl 0 rfl) ?_
        refine lv_bipush (v := (32 : Int32)) hx hb d_MD_number_93 (by decide) ?_
        obtain ⟨z0_95, hcl, hm⟩ := bn1_s hm
        refine kcv (wc := wd_MD g h0 q0 z0_89) (wr := ([] : va_W)) (w1 := wd_MD g h0 q0 z0_95) hP hD hS hA [0, 1, 2, 3, 4, 5, 6, 7, 8, 9, 10, 11, 12, 13, 14, 15, 16, 17, 18, 19, 20, 21, 22, 23, 24, 25, 26, 27, 28, 29, 30, 31] [] rfl rfl (by decide) (by decide) (va_runV (As := [.int (32 : Int32)]) (rest := []) ⟨hx, hb, hml, hown, hts⟩ (c_MD_letter hG hGn l dC dI g F H.size h0 q0 z0_89 (32 : Int32) hcl) (cwV 1 hts (gdV k5_181 k5_183 kp_24 k1_10 k5_184) rfl rfl rfl (by decide +kernel) ⟨Nat.le_of_ble_eq_true rfl, Nat.le_of_ble_eq_true rfl⟩) (kpV hG hP hK hD hS hA hGA [0, 1, 2, 3, 4, 5, 6, 7, 8, 9, 10, 11, 12, 13, 14, 15, 16, 17, 18, 19, 20, 21, 22, 23, 24, 25, 26, 27, 28, 29, 30, 31] (by decide) rfl (ci := 10) (q0 := 0) rfl rfl rfl) rfl rfl hl.1 rfl (lv_room (Nat.le_of_ble_eq_true rfl)) d_MD_number_95 ⟨Nat.le_of_ble_eq_true rfl, Nat.le_of_ble_eq_true rfl⟩) (fun H locs hP hD hS => ?_)
        have hP : va_P (dC, dI) vwCl (wd_MD g h0 q0 z0_95) H := hP
        have hD : va_D A (wd_MD g h0 q0 z0_95) := hD
        obtain rfl := Option.some.inj hm
        rw [hQ]
        exact krv hx hb hr hlocks hAe hP hK hD hS d_MD_number_98
    · replace hm := if_f hm hc
      refine lv_aload_n hx hb d_MD_number_47 rfl (lv_at hl 0 rfl) ?_
      refine lv_bipush (v := (48 : Int32)) hx hb d_MD_number_48 (by decide) ?_
      refine lv_iload_n hx hb d_MD_number_50 rfl (lv_at hl 1 rfl) ?_
      refine lv_bipush (v := (100 : Int32)) hx hb d_MD_number_51 (by decide) ?_
      refine lv_idiv hx hb d_MD_number_53 (by decide) ?_
      refine lv_bipush (v := (10 : Int32)) hx hb d_MD_number_54 (by decide) ?_
      refine lv_irem hx hb d_MD_number_56 (by decide) ?_
      refine lv_iadd hx hb d_MD_number_57 ?_
      obtain ⟨z0_58, hcl, hm⟩ := bn1_s hm
      refine kcv (wc := wd_MD g h0 q0 t0_41) (wr := ([] : va_W)) (w1 := wd_MD g h0 q0 z0_58) hP hD hS hA [0, 1, 2, 3, 4, 5, 6, 7, 8, 9, 10, 11, 12, 13, 14, 15, 16, 17, 18, 19, 20, 21, 22, 23, 24, 25, 26, 27, 28, 29, 30, 31] [] rfl rfl (by decide) (by decide) (va_runV (As := [.int ((48 : Int32) + ((a1 / (100 : Int32)) - (a1 / (100 : Int32)) / (10 : Int32) * (10 : Int32)))]) (rest := []) ⟨hx, hb, hml, hown, hts⟩ (c_MD_letter hG hGn l dC dI g F H.size h0 q0 t0_41 ((48 : Int32) + ((a1 / (100 : Int32)) - (a1 / (100 : Int32)) / (10 : Int32) * (10 : Int32))) hcl) (cwV 1 hts (gdV k5_181 k5_183 kp_24 k1_10 k5_184) rfl rfl rfl (by decide +kernel) ⟨Nat.le_of_ble_eq_true rfl, Nat.le_of_ble_eq_true rfl⟩) (kpV hG hP hK hD hS hA hGA [0, 1, 2, 3, 4, 5, 6, 7, 8, 9, 10, 11, 12, 13, 14, 15, 16, 17, 18, 19, 20, 21, 22, 23, 24, 25, 26, 27, 28, 29, 30, 31] (by decide) rfl (ci := 10) (q0 := 0) rfl rfl rfl) rfl rfl hl.1 rfl (lv_room (Nat.le_of_ble_eq_true rfl)) d_MD_number_58 ⟨Nat.le_of_ble_eq_true rfl, Nat.le_of_ble_eq_true rfl⟩) (fun H locs hP hD hS => ?_)
      have hP : va_P (dC, dI) vwCl (wd_MD g h0 q0 z0_58) H := hP
      have hD : va_D A (wd_MD g h0 q0 z0_58) := hD
      refine lv_iload_n hx hb d_MD_number_61 rfl (lv_at hl 1 rfl) ?_
      refine lv_bipush (v := (9 : Int32)) hx hb d_MD_number_62 (by decide) ?_
      refine lv_icmp_le (tgt := 81) hx hb d_MD_number_64 (by decide) (fun hc => ?_) (fun hc => ?_)
      · replace hm := if_t hm hc
        refine lv_aload_n hx hb d_MD_number_81 rfl (lv_at hl 0 rfl) ?_
        refine lv_bipush (v := (48 : Int32)) hx hb d_MD_number_82 (by decide) ?_
        refine lv_iload_n hx hb d_MD_number_84 rfl (lv_at hl 1 rfl) ?_
        refine lv_bipush (v := (10 : Int32)) hx hb d_MD_number_85 (by decide) ?_
        refine lv_irem hx hb d_MD_number_87 (by decide) ?_
        refine lv_iadd hx hb d_MD_number_88 ?_
        obtain ⟨z0_89, hcl, hm⟩ := bn1_s hm
        refine kcv (wc := wd_MD g h0 q0 z0_58) (wr := ([] : va_W)) (w1 := wd_MD g h0 q0 z0_89) hP hD hS hA [0, 1, 2, 3, 4, 5, 6, 7, 8, 9, 10, 11, 12, 13, 14, 15, 16, 17, 18, 19, 20, 21, 22, 23, 24, 25, 26, 27, 28, 29, 30, 31] [] rfl rfl (by decide) (by decide) (va_runV (As := [.int ((48 : Int32) + (a1 - a1 / (10 : Int32) * (10 : Int32)))]) (rest := []) ⟨hx, hb, hml, hown, hts⟩ (c_MD_letter hG hGn l dC dI g F H.size h0 q0 z0_58 ((48 : Int32) + (a1 - a1 / (10 : Int32) * (10 : Int32))) hcl) (cwV 1 hts (gdV k5_181 k5_183 kp_24 k1_10 k5_184) rfl rfl rfl (by decide +kernel) ⟨Nat.le_of_ble_eq_true rfl, Nat.le_of_ble_eq_true rfl⟩) (kpV hG hP hK hD hS hA hGA [0, 1, 2, 3, 4, 5, 6, 7, 8, 9, 10, 11, 12, 13, 14, 15, 16, 17, 18, 19, 20, 21, 22, 23, 24, 25, 26, 27, 28, 29, 30, 31] (by decide) rfl (ci := 10) (q0 := 0) rfl rfl rfl) rfl rfl hl.1 rfl (lv_room (Nat.le_of_ble_eq_true rfl)) d_MD_number_89 ⟨Nat.le_of_ble_eq_true rfl, Nat.le_of_ble_eq_true rfl⟩) (fun H locs hP hD hS => ?_)
        have hP : va_P (dC, dI) vwCl (wd_MD g h0 q0 z0_89) H := hP
        have hD : va_D A (wd_MD g h0 q0 z0_89) := hD
        refine lv_aload_n hx hb d_MD_number_92 rfl (lv_at hl 0 rfl) ?_
        refine lv_bipush (v := (32 : Int32)) hx hb d_MD_number_93 (by decide) ?_
        obtain ⟨z0_95, hcl, hm⟩ := bn1_s hm
        refine kcv (wc := wd_MD g h0 q0 z0_89) (wr := ([] : va_W)) (w1 := wd_MD g h0 q0 z0_95) hP hD hS hA [0, 1, 2, 3, 4, 5, 6, 7, 8, 9, 10, 11, 12, 13, 14, 15, 16, 17, 18, 19, 20, 21, 22, 23, 24, 25, 26, 27, 28, 29, 30, 31] [] rfl rfl (by decide) (by decide) (va_runV (As := [.int (32 : Int32)]) (rest := []) ⟨hx, hb, hml, hown, hts⟩ (c_MD_letter hG hGn l dC dI g F H.size h0 q0 z0_89 (32 : Int32) hcl) (cwV 1 hts (gdV k5_181 k5_183 kp_24 k1_10 k5_184) rfl rfl rfl (by decide +kernel) ⟨Nat.le_of_ble_eq_true rfl, Nat.le_of_ble_eq_true rfl⟩) (kpV hG hP hK hD hS hA hGA [0, 1, 2, 3, 4, 5, 6, 7, 8, 9, 10, 11, 12, 13, 14, 15, 16, 17, 18, 19, 20, 21, 22, 23, 24, 25, 26, 27, 28, 29, 30, 31] (by decide) rfl (ci := 10) (q0 := 0) rfl rfl rfl) rfl rfl hl.1 rfl (lv_room (Nat.le_of_ble_eq_true rfl)) d_MD_number_95 ⟨Nat.le_of_ble_eq_true rfl, Nat.le_of_ble_eq_true rfl⟩) (fun H locs hP hD hS => ?_)
        have hP : va_P (dC, dI) vwCl (wd_MD g h0 q0 z0_95) H := hP
        have hD : va_D A (wd_MD g h0 q0 z0_95) := hD
        obtain rfl := Option.some.inj hm
        rw [hQ]
        exact krv hx hb hr hlocks hAe hP hK hD hS d_MD_number_98
      · replace hm := if_f hm hc
        refine lv_aload_n hx hb d_MD_number_67 rfl (lv_at hl 0 rfl) ?_
        refine lv_bipush (v := (48 : Int32)) hx hb d_MD_number_68 (by decide) ?_
        refine lv_iload_n hx hb d_MD_number_70 rfl (lv_at hl 1 rfl) ?_
        refine lv_bipush (v := (10 : Int32)) hx hb d_MD_number_71 (by decide) ?_
        refine lv_idiv hx hb d_MD_number_73 (by decide) ?_
        refine lv_bipush (v := (10 : Int32)) hx hb d_MD_number_74 (by decide) ?_
        refine lv_irem hx hb d_MD_number_76 (by decide) ?_
        refine lv_iadd hx hb d_MD_number_77 ?_
        obtain ⟨z0_78, hcl, hm⟩ := bn1_s hm
        refine kcv (wc := wd_MD g h0 q0 z0_58) (wr := ([] : va_W)) (w1 := wd_MD g h0 q0 z0_78) hP hD hS hA [0, 1, 2, 3, 4, 5, 6, 7, 8, 9, 10, 11, 12, 13, 14, 15, 16, 17, 18, 19, 20, 21, 22, 23, 24, 25, 26, 27, 28, 29, 30, 31] [] rfl rfl (by decide) (by decide) (va_runV (As := [.int ((48 : Int32) + ((a1 / (10 : Int32)) - (a1 / (10 : Int32)) / (10 : Int32) * (10 : Int32)))]) (rest := []) ⟨hx, hb, hml, hown, hts⟩ (c_MD_letter hG hGn l dC dI g F H.size h0 q0 z0_58 ((48 : Int32) + ((a1 / (10 : Int32)) - (a1 / (10 : Int32)) / (10 : Int32) * (10 : Int32))) hcl) (cwV 1 hts (gdV k5_181 k5_183 kp_24 k1_10 k5_184) rfl rfl rfl (by decide +kernel) ⟨Nat.le_of_ble_eq_true rfl, Nat.le_of_ble_eq_true rfl⟩) (kpV hG hP hK hD hS hA hGA [0, 1, 2, 3, 4, 5, 6, 7, 8, 9, 10, 11, 12, 13, 14, 15, 16, 17, 18, 19, 20, 21, 22, 23, 24, 25, 26, 27, 28, 29, 30, 31] (by decide) rfl (ci := 10) (q0 := 0) rfl rfl rfl) rfl rfl hl.1 rfl (lv_room (Nat.le_of_ble_eq_true rfl)) d_MD_number_78 ⟨Nat.le_of_ble_eq_true rfl, Nat.le_of_ble_eq_true rfl⟩) (fun H locs hP hD hS => ?_)
        have hP : va_P (dC, dI) vwCl (wd_MD g h0 q0 z0_78) H := hP
        have hD : va_D A (wd_MD g h0 q0 z0_78) := hD
        refine lv_aload_n hx hb d_MD_number_81 rfl (lv_at hl 0 rfl) ?_
        refine lv_bipush (v := (48 : Int32)) hx hb d_MD_number_82 (by decide) ?_
        refine lv_iload_n hx hb d_MD_number_84 rfl (lv_at hl 1 rfl) ?_
        refine lv_bipush (v := (10 : Int32)) hx hb d_MD_number_85 (by decide) ?_
        refine lv_irem hx hb d_MD_number_87 (by decide) ?_
        refine lv_iadd hx hb d_MD_number_88 ?_
        obtain ⟨z0_89, hcl, hm⟩ := bn1_s hm
        refine kcv (wc := wd_MD g h0 q0 z0_78) (wr := ([] : va_W)) (w1 := wd_MD g h0 q0 z0_89) hP hD hS hA [0, 1, 2, 3, 4, 5, 6, 7, 8, 9, 10, 11, 12, 13, 14, 15, 16, 17, 18, 19, 20, 21, 22, 23, 24, 25, 26, 27, 28, 29, 30, 31] [] rfl rfl (by decide) (by decide) (va_runV (As := [.int ((48 : Int32) + (a1 - a1 / (10 : Int32) * (10 : Int32)))]) (rest := []) ⟨hx, hb, hml, hown, hts⟩ (c_MD_letter hG hGn l dC dI g F H.size h0 q0 z0_78 ((48 : Int32) + (a1 - a1 / (10 : Int32) * (10 : Int32))) hcl) (cwV 1 hts (gdV k5_181 k5_183 kp_24 k1_10 k5_184) rfl rfl rfl (by decide +kernel) ⟨Nat.le_of_ble_eq_true rfl, Nat.le_of_ble_eq_true rfl⟩) (kpV hG hP hK hD hS hA hGA [0, 1, 2, 3, 4, 5, 6, 7, 8, 9, 10, 11, 12, 13, 14, 15, 16, 17, 18, 19, 20, 21, 22, 23, 24, 25, 26, 27, 28, 29, 30, 31] (by decide) rfl (ci := 10) (q0 := 0) rfl rfl rfl) rfl rfl hl.1 rfl (lv_room (Nat.le_of_ble_eq_true rfl)) d_MD_number_89 ⟨Nat.le_of_ble_eq_true rfl, Nat.le_of_ble_eq_true rfl⟩) (fun H locs hP hD hS => ?_)
        have hP : va_P (dC, dI) vwCl (wd_MD g h0 q0 z0_89) H := hP
        have hD : va_D A (wd_MD g h0 q0 z0_89) := hD
        refine lv_aload_n hx hb d_MD_number_92 rfl (lv_at hl 0 rfl) ?_
        refine lv_bipush (v := (32 : Int32)) hx hb d_MD_number_93 (by decide) ?_
        obtain ⟨z0_95, hcl, hm⟩ := bn1_s hm
        refine kcv (wc := wd_MD g h0 q0 z0_89) (wr := ([] : va_W)) (w1 := wd_MD g h0 q0 z0_95) hP hD hS hA [0, 1, 2, 3, 4, 5, 6, 7, 8, 9, 10, 11, 12, 13, 14, 15, 16, 17, 18, 19, 20, 21, 22, 23, 24, 25, 26, 27, 28, 29, 30, 31] [] rfl rfl (by decide) (by decide) (va_runV (As := [.int (32 : Int32)]) (rest := []) ⟨hx, hb, hml, hown, hts⟩ (c_MD_letter hG hGn l dC dI g F H.size h0 q0 z0_89 (32 : Int32) hcl) (cwV 1 hts (gdV k5_181 k5_183 kp_24 k1_10 k5_184) rfl rfl rfl (by decide +kernel) ⟨Nat.le_of_ble_eq_true rfl, Nat.le_of_ble_eq_true rfl⟩) (kpV hG hP hK hD hS hA hGA [0, 1, 2, 3, 4, 5, 6, 7, 8, 9, 10, 11, 12, 13, 14, 15, 16, 17, 18, 19, 20, 21, 22, 23, 24, 25, 26, 27, 28, 29, 30, 31] (by decide) rfl (ci := 10) (q0 := 0) rfl rfl rfl) rfl rfl hl.1 rfl (lv_room (Nat.le_of_ble_eq_true rfl)) d_MD_number_95 ⟨Nat.le_of_ble_eq_true rfl, Nat.le_of_ble_eq_true rfl⟩) (fun H locs hP hD hS => ?_)
        have hP : va_P (dC, dI) vwCl (wd_MD g h0 q0 z0_95) H := hP
        have hD : va_D A (wd_MD g h0 q0 z0_95) := hD
        obtain rfl := Option.some.inj hm
        rw [hQ]
        exact krv hx hb hr hlocks hAe hP hK hD hS d_MD_number_98
  refine lv_iload_n hx hb d_MD_number_0 rfl (lv_at hl 1 rfl) ?_
  refine lv_sipush (v := (9999 : Int32)) hx hb d_MD_number_1 (by decide) ?_
  refine lv_icmp_le (tgt := 19) hx hb d_MD_number_4 (by decide) (fun hc => ?_) (fun hc => ?_)
  · replace hm := if_t hm hc
    refine lv_iload_n hx hb d_MD_number_19 rfl (lv_at hl 1 rfl) ?_
    refine lv_sipush (v := (999 : Int32)) hx hb d_MD_number_20 (by decide) ?_
    refine lv_icmp_le (tgt := 41) hx hb d_MD_number_23 (by decide) (fun hc => ?_) (fun hc => ?_)
    · replace hm := if_t hm hc
      exact J41 x0 H locs ls hm hP hD hS (lv_sub hl [0, 1] rfl)
    · replace hm := if_f hm hc
      refine lv_aload_n hx hb d_MD_number_26 rfl (lv_at hl 0 rfl) ?_
      refine lv_bipush (v := (48 : Int32)) hx hb d_MD_number_27 (by decide) ?_
      refine lv_iload_n hx hb d_MD_number_29 rfl (lv_at hl 1 rfl) ?_
      refine lv_sipush (v := (1000 : Int32)) hx hb d_MD_number_30 (by decide) ?_
      refine lv_idiv hx hb d_MD_number_33 (by decide) ?_
      refine lv_bipush (v := (10 : Int32)) hx hb d_MD_number_34 (by decide) ?_
      refine lv_irem hx hb d_MD_number_36 (by decide) ?_
      refine lv_iadd hx hb d_MD_number_37 ?_
      obtain ⟨z0_38, hcl, hm⟩ := bn1_s hm
      refine kcv (wc := wd_MD g h0 q0 x0) (wr := ([] : va_W)) (w1 := wd_MD g h0 q0 z0_38) hP hD hS hA [0, 1, 2, 3, 4, 5, 6, 7, 8, 9, 10, 11, 12, 13, 14, 15, 16, 17, 18, 19, 20, 21, 22, 23, 24, 25, 26, 27, 28, 29, 30, 31] [] rfl rfl (by decide) (by decide) (va_runV (As := [.int ((48 : Int32) + ((a1 / (1000 : Int32)) - (a1 / (1000 : Int32)) / (10 : Int32) * (10 : Int32)))]) (rest := []) ⟨hx, hb, hml, hown, hts⟩ (c_MD_letter hG hGn l dC dI g F H.size h0 q0 x0 ((48 : Int32) + ((a1 / (1000 : Int32)) - (a1 / (1000 : Int32)) / (10 : Int32) * (10 : Int32))) hcl) (cwV 1 hts (gdV k5_181 k5_183 kp_24 k1_10 k5_184) rfl rfl rfl (by decide +kernel) ⟨Nat.le_of_ble_eq_true rfl, Nat.le_of_ble_eq_true rfl⟩) (kpV hG hP hK hD hS hA hGA [0, 1, 2, 3, 4, 5, 6, 7, 8, 9, 10, 11, 12, 13, 14, 15, 16, 17, 18, 19, 20, 21, 22, 23, 24, 25, 26, 27, 28, 29, 30, 31] (by decide) rfl (ci := 10) (q0 := 0) rfl rfl rfl) rfl rfl hl.1 rfl (lv_room (Nat.le_of_ble_eq_true rfl)) d_MD_number_38 ⟨Nat.le_of_ble_eq_true rfl, Nat.le_of_ble_eq_true rfl⟩) (fun H locs hP hD hS => ?_)
      have hP : va_P (dC, dI) vwCl (wd_MD g h0 q0 z0_38) H := hP
      have hD : va_D A (wd_MD g h0 q0 z0_38) := hD
      exact J41 z0_38 H locs ls hm hP hD hS (lv_sub hl [0, 1] rfl)
  · replace hm := if_f hm hc
    refine lv_aload_n hx hb d_MD_number_7 rfl (lv_at hl 0 rfl) ?_
    refine lv_bipush (v := (48 : Int32)) hx hb d_MD_number_8 (by decide) ?_
    refine lv_iload_n hx hb d_MD_number_10 rfl (lv_at hl 1 rfl) ?_
    refine lv_sipush (v := (10000 : Int32)) hx hb d_MD_number_11 (by decide) ?_
    refine lv_idiv hx hb d_MD_number_14 (by decide) ?_
    refine lv_iadd hx hb d_MD_number_15 ?_
    obtain ⟨z0_16, hcl, hm⟩ := bn1_s hm
    refine kcv (wc := wd_MD g h0 q0 x0) (wr := ([] : va_W)) (w1 := wd_MD g h0 q0 z0_16) hP hD hS hA [0, 1, 2, 3, 4, 5, 6, 7, 8, 9, 10, 11, 12, 13, 14, 15, 16, 17, 18, 19, 20, 21, 22, 23, 24, 25, 26, 27, 28, 29, 30, 31] [] rfl rfl (by decide) (by decide) (va_runV (As := [.int ((48 : Int32) + (a1 / (10000 : Int32)))]) (rest := []) ⟨hx, hb, hml, hown, hts⟩ (c_MD_letter hG hGn l dC dI g F H.size h0 q0 x0 ((48 : Int32) + (a1 / (10000 : Int32))) hcl) (cwV 1 hts (gdV k5_181 k5_183 kp_24 k1_10 k5_184) rfl rfl rfl (by decide +kernel) ⟨Nat.le_of_ble_eq_true rfl, Nat.le_of_ble_eq_true rfl⟩) (kpV hG hP hK hD hS hA hGA [0, 1, 2, 3, 4, 5, 6, 7, 8, 9, 10, 11, 12, 13, 14, 15, 16, 17, 18, 19, 20, 21, 22, 23, 24, 25, 26, 27, 28, 29, 30, 31] (by decide) rfl (ci := 10) (q0 := 0) rfl rfl rfl) rfl rfl hl.1 rfl (lv_room (Nat.le_of_ble_eq_true rfl)) d_MD_number_16 ⟨Nat.le_of_ble_eq_true rfl, Nat.le_of_ble_eq_true rfl⟩) (fun H locs hP hD hS => ?_)
    have hP : va_P (dC, dI) vwCl (wd_MD g h0 q0 z0_16) H := hP
    have hD : va_D A (wd_MD g h0 q0 z0_16) := hD
    refine lv_iload_n hx hb d_MD_number_19 rfl (lv_at hl 1 rfl) ?_
    refine lv_sipush (v := (999 : Int32)) hx hb d_MD_number_20 (by decide) ?_
    refine lv_icmp_le (tgt := 41) hx hb d_MD_number_23 (by decide) (fun hc => ?_) (fun hc => ?_)
    · replace hm := if_t hm hc
      exact J41 z0_16 H locs ls hm hP hD hS (lv_sub hl [0, 1] rfl)
    · replace hm := if_f hm hc
      refine lv_aload_n hx hb d_MD_number_26 rfl (lv_at hl 0 rfl) ?_
      refine lv_bipush (v := (48 : Int32)) hx hb d_MD_number_27 (by decide) ?_
      refine lv_iload_n hx hb d_MD_number_29 rfl (lv_at hl 1 rfl) ?_
      refine lv_sipush (v := (1000 : Int32)) hx hb d_MD_number_30 (by decide) ?_
      refine lv_idiv hx hb d_MD_number_33 (by decide) ?_
      refine lv_bipush (v := (10 : Int32)) hx hb d_MD_number_34 (by decide) ?_
      refine lv_irem hx hb d_MD_number_36 (by decide) ?_
      refine lv_iadd hx hb d_MD_number_37 ?_
      obtain ⟨z0_38, hcl, hm⟩ := bn1_s hm
      refine kcv (wc := wd_MD g h0 q0 z0_16) (wr := ([] : va_W)) (w1 := wd_MD g h0 q0 z0_38) hP hD hS hA [0, 1, 2, 3, 4, 5, 6, 7, 8, 9, 10, 11, 12, 13, 14, 15, 16, 17, 18, 19, 20, 21, 22, 23, 24, 25, 26, 27, 28, 29, 30, 31] [] rfl rfl (by decide) (by decide) (va_runV (As := [.int ((48 : Int32) + ((a1 / (1000 : Int32)) - (a1 / (1000 : Int32)) / (10 : Int32) * (10 : Int32)))]) (rest := []) ⟨hx, hb, hml, hown, hts⟩ (c_MD_letter hG hGn l dC dI g F H.size h0 q0 z0_16 ((48 : Int32) + ((a1 / (1000 : Int32)) - (a1 / (1000 : Int32)) / (10 : Int32) * (10 : Int32))) hcl) (cwV 1 hts (gdV k5_181 k5_183 kp_24 k1_10 k5_184) rfl rfl rfl (by decide +kernel) ⟨Nat.le_of_ble_eq_true rfl, Nat.le_of_ble_eq_true rfl⟩) (kpV hG hP hK hD hS hA hGA [0, 1, 2, 3, 4, 5, 6, 7, 8, 9, 10, 11, 12, 13, 14, 15, 16, 17, 18, 19, 20, 21, 22, 23, 24, 25, 26, 27, 28, 29, 30, 31] (by decide) rfl (ci := 10) (q0 := 0) rfl rfl rfl) rfl rfl hl.1 rfl (lv_room (Nat.le_of_ble_eq_true rfl)) d_MD_number_38 ⟨Nat.le_of_ble_eq_true rfl, Nat.le_of_ble_eq_true rfl⟩) (fun H locs hP hD hS => ?_)
      have hP : va_P (dC, dI) vwCl (wd_MD g h0 q0 z0_38) H := hP
      have hD : va_D A (wd_MD g h0 q0 z0_38) := hD
      exact J41 z0_38 H locs ls hm hP hD hS (lv_sub hl [0, 1] rfl)
abbrev b_MD_word : ByteArray := prog_12_method_9_code
abbrev y_MD_word : MethodName := ⟨"AlarmMatrixModel", "word", "(I)V"⟩
theorem d_MD_word_0 : decode b_MD_word 0 = .ok (.iload_n 1, 1) := by decide +kernel
theorem d_MD_word_1 : decode b_MD_word 1 = .ok (.istore_n 2, 1) := by decide +kernel
theorem d_MD_word_2 : decode b_MD_word 2 = .ok (.iload_n 2, 1) := by decide +kernel
theorem d_MD_word_3 : decode b_MD_word 3 = .ok (.ifCond .le 22, 3) := by decide +kernel
theorem d_MD_word_6 : decode b_MD_word 6 = .ok (.aload_n 0, 1) := by decide +kernel
theorem d_MD_word_7 : decode b_MD_word 7 = .ok (.bipush 96, 2) := by decide +kernel
theorem d_MD_word_9 : decode b_MD_word 9 = .ok (.iload_n 2, 1) := by decide +kernel
theorem d_MD_word_10 : decode b_MD_word 10 = .ok (.bipush 32, 2) := by decide +kernel
theorem d_MD_word_12 : decode b_MD_word 12 = .ok (.irem, 1) := by decide +kernel
theorem d_MD_word_13 : decode b_MD_word 13 = .ok (.iadd, 1) := by decide +kernel
theorem d_MD_word_14 : decode b_MD_word 14 = .ok (.invokevirtual 125, 3) := by decide +kernel
theorem d_MD_word_17 : decode b_MD_word 17 = .ok (.iload_n 2, 1) := by decide +kernel
theorem d_MD_word_18 : decode b_MD_word 18 = .ok (.bipush 32, 2) := by decide +kernel
theorem d_MD_word_20 : decode b_MD_word 20 = .ok (.idiv, 1) := by decide +kernel
theorem d_MD_word_21 : decode b_MD_word 21 = .ok (.istore_n 2, 1) := by decide +kernel
theorem d_MD_word_22 : decode b_MD_word 22 = .ok (.goto (-20), 3) := by decide +kernel
theorem d_MD_word_25 : decode b_MD_word 25 = .ok (.aload_n 0, 1) := by decide +kernel
theorem d_MD_word_26 : decode b_MD_word 26 = .ok (.bipush 32, 2) := by decide +kernel
theorem d_MD_word_28 : decode b_MD_word 28 = .ok (.invokevirtual 125, 3) := by decide +kernel
theorem d_MD_word_31 : decode b_MD_word 31 = .ok (.return_, 1) := by decide +kernel
def m_MD_word_B2 {R : Type} (F : Nat)  (k2_25 : Int32 → St → Option R) (rec2 : Int32 → St → Option R) (v2_2 : Int32) (y0_2 : St) : Option R :=
  (if v2_2 ≤ (0 : Int32) then (k2_25 v2_2 y0_2) else (bn1 (m_MD_letter F y0_2 ((96 : Int32) + (v2_2 - v2_2 / (32 : Int32) * (32 : Int32)))) (fun z0_14 => (rec2 (v2_2 / (32 : Int32)) z0_14))))
theorem m_MD_word_B2_h {R : Type} {F : Nat}  {k2_25 : Int32 → St → Option R} {rec2 : Int32 → St → Option R} {v2_2 : Int32} {y0_2 : St} {o : R} (h : m_MD_word_B2 F k2_25 rec2 v2_2 y0_2 = some o) :
  (if v2_2 ≤ (0 : Int32) then (k2_25 v2_2 y0_2) else (bn1 (m_MD_letter F y0_2 ((96 : Int32) + (v2_2 - v2_2 / (32 : Int32) * (32 : Int32)))) (fun z0_14 => (rec2 (v2_2 / (32 : Int32)) z0_14)))) = some o := h
def m_MD_word (F : Nat) (x0 : St) (a1 : Int32) : Option (St) :=
  (lq2 (m_MD_word_B2 F  (fun v2_2 y0_2 => (bn1 (m_MD_letter F y0_2 (32 : Int32)) (fun z0_28 => (some z0_28))))) F a1 x0)
abbrev rm_MD_word : Room := { frames := 1, cells := 0, slots := 0, locals := 21 }
set_option maxHeartbeats 4000000 in
set_option maxRecDepth 100000 in
theorem c_MD_word {G : (Nat → Prop) → State → Prop} (hG : gok G) (hGn : gN G) (l : Launch) (dC : Nat → ClassId) (dI : Nat → Nat → Nat) (g : Nat → ClassId) (F : Nat) (sz : Nat) (h0 : Nat) (q0 : Nat → Nat) (x0 : St) (a1 : Int32) {o : St} (hm : m_MD_word F x0 a1 = some o) : Met l y_MD_word (.code y_MD_word b_MD_word 3 none :: gw) rm_MD_word (kq (dC, dI) vwCl (tyv g) G [.ref h0, .int a1] sz (wd_MD g h0 q0 x0)) (kqv (dC, dI) vwCl (tyv g) (wd_MD g h0 q0 x0) (wd_MD g h0 q0 o) sz) 0 0 (va_A (wd_MD g h0 q0 x0) sz) := by
  unfold m_MD_word at hm
  refine km (Qc := fun sz => kqv (dC, dI) vwCl (tyv g) (wd_MD g h0 q0 x0) (wd_MD g h0 q0 o) sz) (cc := b_MD_word) (maxL := 3) (ret := none) (by decide) rfl (Nat.le_of_ble_eq_true rfl) ?_
  intro p e s m args below meth c Q hQ hx hb hr hts hown hlocks hml hnm H locs A hAe hA hP hK hD hS hGA ls hl
  have hl : lv_has ls 3 [(0, .ref h0), (1, .int a1)] := hl
  have hts : ∀ w ∈ gw, w.before args s = true := fun w h => hts w (List.mem_cons_of_mem _ h)
  have hown : s.vm.findClass "AlarmMatrixModel" = some m.cls := hown
  refine lv_iload_n hx hb d_MD_word_0 rfl (lv_at hl 1 rfl) ?_
  refine lv_istore_n (lv' := [(2, .int a1), (0, .ref h0), (1, .int a1)]) hx hb d_MD_word_1 rfl hl (by decide) rfl (fun ls hl => ?_)
  have L2 : ∀ (n2 : Nat) (v2_2 : Int32) (y0_2 : St) (H : Heap) (locs : List Loc) (ls : Array Slot), lq2 (m_MD_word_B2 F  (fun v2_2 y0_2 => (bn1 (m_MD_letter F y0_2 (32 : Int32)) (fun z0_28 => (some z0_28))))) n2 v2_2 y0_2 = some o → va_P (dC, dI) vwCl (wd_MD g h0 q0 y0_2) H → va_D A (wd_MD g h0 q0 y0_2) → va_S A s.heap H locs → lv_has ls 3 [(0, .ref h0), (1, .int a1), (2, .int v2_2)] → W p l e rm_MD_word s m args below meth c H locs 0 0 Q (F0 m 2 ls []) := by
    intro n2
    induction n2 with
    | zero => intro v2_2 y0_2 H locs ls hm; exact absurd hm (by intro z; cases z)
    | succ n2 ih2 =>
      intro v2_2 y0_2 H locs ls hm hP hD hS hl
      replace hm := m_MD_word_B2_h (lq2_h hm)
      refine lv_iload_n hx hb d_MD_word_2 rfl (lv_at hl 2 rfl) ?_
      refine lv_if_le (tgt := 25) hx hb d_MD_word_3 (by decide) (fun hc => ?_) (fun hc => ?_)
      · replace hm := if_t hm hc
        refine lv_aload_n hx hb d_MD_word_25 rfl (lv_at hl 0 rfl) ?_
        refine lv_bipush (v := (32 : Int32)) hx hb d_MD_word_26 (by decide) ?_
        obtain ⟨z0_28, hcl, hm⟩ := bn1_s hm
        refine kcv (wc := wd_MD g h0 q0 y0_2) (wr := ([] : va_W)) (w1 := wd_MD g h0 q0 z0_28) hP hD hS hA [0, 1, 2, 3, 4, 5, 6, 7, 8, 9, 10, 11, 12, 13, 14, 15, 16, 17, 18, 19, 20, 21, 22, 23, 24, 25, 26, 27, 28, 29, 30, 31] [] rfl rfl (by decide) (by decide) (va_runV (As := [.int (32 : Int32)]) (rest := []) ⟨hx, hb, hml, hown, hts⟩ (c_MD_letter hG hGn l dC dI g F H.size h0 q0 y0_2 (32 : Int32) hcl) (cwV 1 hts (gdV k5_181 k5_183 kp_24 k1_10 k5_184) rfl rfl rfl (by decide +kernel) ⟨Nat.le_of_ble_eq_true rfl, Nat.le_of_ble_eq_true rfl⟩) (kpV hG hP hK hD hS hA hGA [0, 1, 2, 3, 4, 5, 6, 7, 8, 9, 10, 11, 12, 13, 14, 15, 16, 17, 18, 19, 20, 21, 22, 23, 24, 25, 26, 27, 28, 29, 30, 31] (by decide) rfl (ci := 10) (q0 := 0) rfl rfl rfl) rfl rfl hl.1 rfl (lv_room (Nat.le_of_ble_eq_true rfl)) d_MD_word_28 ⟨Nat.le_of_ble_eq_true rfl, Nat.le_of_ble_eq_true rfl⟩) (fun H locs hP hD hS => ?_)
        have hP : va_P (dC, dI) vwCl (wd_MD g h0 q0 z0_28) H := hP
        have hD : va_D A (wd_MD g h0 q0 z0_28) := hD
        obtain rfl := Option.some.inj hm
        rw [hQ]
        exact krv hx hb hr hlocks hAe hP hK hD hS d_MD_word_31
      · replace hm := if_f hm hc
        refine lv_aload_n hx hb d_MD_word_6 rfl (lv_at hl 0 rfl) ?_
        refine lv_bipush (v := (96 : Int32)) hx hb d_MD_word_7 (by decide) ?_
        refine lv_iload_n hx hb d_MD_word_9 rfl (lv_at hl 2 rfl) ?_
        refine lv_bipush (v := (32 : Int32)) hx hb d_MD_word_10 (by decide) ?_
        refine lv_irem hx hb d_MD_word_12 (by decide) ?_
        refine lv_iadd hx hb d_MD_word_13 ?_
        obtain ⟨z0_14, hcl, hm⟩ := bn1_s hm
        refine kcv (wc := wd_MD g h0 q0 y0_2) (wr := ([] : va_W)) (w1 := wd_MD g h0 q0 z0_14) hP hD hS hA [0, 1, 2, 3, 4, 5, 6, 7, 8, 9, 10, 11, 12, 13, 14, 15, 16, 17, 18, 19, 20, 21, 22, 23, 24, 25, 26, 27, 28, 29, 30, 31] [] rfl rfl (by decide) (by decide) (va_runV (As := [.int ((96 : Int32) + (v2_2 - v2_2 / (32 : Int32) * (32 : Int32)))]) (rest := []) ⟨hx, hb, hml, hown, hts⟩ (c_MD_letter hG hGn l dC dI g F H.size h0 q0 y0_2 ((96 : Int32) + (v2_2 - v2_2 / (32 : Int32) * (32 : Int32))) hcl) (cwV 1 hts (gdV k5_181 k5_183 kp_24 k1_10 k5_184) rfl rfl rfl (by decide +kernel) ⟨Nat.le_of_ble_eq_true rfl, Nat.le_of_ble_eq_true rfl⟩) (kpV hG hP hK hD hS hA hGA [0, 1, 2, 3, 4, 5, 6, 7, 8, 9, 10, 11, 12, 13, 14, 15, 16, 17, 18, 19, 20, 21, 22, 23, 24, 25, 26, 27, 28, 29, 30, 31] (by decide) rfl (ci := 10) (q0 := 0) rfl rfl rfl) rfl rfl hl.1 rfl (lv_room (Nat.le_of_ble_eq_true rfl)) d_MD_word_14 ⟨Nat.le_of_ble_eq_true rfl, Nat.le_of_ble_eq_true rfl⟩) (fun H locs hP hD hS => ?_)
        have hP : va_P (dC, dI) vwCl (wd_MD g h0 q0 z0_14) H := hP
        have hD : va_D A (wd_MD g h0 q0 z0_14) := hD
        refine lv_iload_n hx hb d_MD_word_17 rfl (lv_at hl 2 rfl) ?_
        refine lv_bipush (v := (32 : Int32)) hx hb d_MD_word_18 (by decide) ?_
        refine lv_idiv hx hb d_MD_word_20 (by decide) ?_
        refine lv_istore_n (lv' := [(2, .int (v2_2 / (32 : Int32))), (0, .ref h0), (1, .int a1)]) hx hb d_MD_word_21 rfl hl (by decide) rfl (fun ls hl => ?_)
        refine lv_goto (tgt := 2) hx hb d_MD_word_22 (by decide) ?_
        exact ih2 (v2_2 / (32 : Int32)) z0_14 H locs ls hm hP hD hS (lv_sub hl [1, 2, 0] rfl)
  exact L2 F a1 x0 H locs ls hm hP hD hS (lv_sub hl [1, 2, 0] rfl)
abbrev b_MD_stop : ByteArray := prog_12_method_10_code
abbrev y_MD_stop : MethodName := ⟨"AlarmMatrixModel", "stop", "()V"⟩
theorem d_MD_stop_0 : decode b_MD_stop 0 = .ok (.aload_n 0, 1) := by decide +kernel
theorem d_MD_stop_1 : decode b_MD_stop 1 = .ok (.bipush 59, 2) := by decide +kernel
theorem d_MD_stop_3 : decode b_MD_stop 3 = .ok (.invokevirtual 125, 3) := by decide +kernel
theorem d_MD_stop_6 : decode b_MD_stop 6 = .ok (.aload_n 0, 1) := by decide +kernel
theorem d_MD_stop_7 : decode b_MD_stop 7 = .ok (.bipush 32, 2) := by decide +kernel
theorem d_MD_stop_9 : decode b_MD_stop 9 = .ok (.invokevirtual 125, 3) := by decide +kernel
theorem d_MD_stop_12 : decode b_MD_stop 12 = .ok (.return_, 1) := by decide +kernel
def m_MD_stop (F : Nat) (x0 : St) : Option (St) :=
  (bn1 (m_MD_letter F x0 (59 : Int32)) (fun z0_3 => (bn1 (m_MD_letter F z0_3 (32 : Int32)) (fun z0_9 => (some z0_9)))))
abbrev rm_MD_stop : Room := { frames := 1, cells := 0, slots := 0, locals := 21 }
set_option maxHeartbeats 4000000 in
set_option maxRecDepth 100000 in
theorem c_MD_stop {G : (Nat → Prop) → State → Prop} (hG : gok G) (hGn : gN G) (l : Launch) (dC : Nat → ClassId) (dI : Nat → Nat → Nat) (g : Nat → ClassId) (F : Nat) (sz : Nat) (h0 : Nat) (q0 : Nat → Nat) (x0 : St) {o : St} (hm : m_MD_stop F x0 = some o) : Met l y_MD_stop (.code y_MD_stop b_MD_stop 1 none :: gw) rm_MD_stop (kq (dC, dI) vwCl (tyv g) G [.ref h0] sz (wd_MD g h0 q0 x0)) (kqv (dC, dI) vwCl (tyv g) (wd_MD g h0 q0 x0) (wd_MD g h0 q0 o) sz) 0 0 (va_A (wd_MD g h0 q0 x0) sz) := by
  unfold m_MD_stop at hm
  refine km (Qc := fun sz => kqv (dC, dI) vwCl (tyv g) (wd_MD g h0 q0 x0) (wd_MD g h0 q0 o) sz) (cc := b_MD_stop) (maxL := 1) (ret := none) (by decide) rfl (Nat.le_of_ble_eq_true rfl) ?_
  intro p e s m args below meth c Q hQ hx hb hr hts hown hlocks hml hnm H locs A hAe hA hP hK hD hS hGA ls hl
  have hl : lv_has ls 1 [(0, .ref h0)] := hl
  have hts : ∀ w ∈ gw, w.before args s = true := fun w h => hts w (List.mem_cons_of_mem _ h)
  have hown : s.vm.findClass "AlarmMatrixModel" = some m.cls := hown
  refine lv_aload_n hx hb d_MD_stop_0 rfl (lv_at hl 0 rfl) ?_
  refine lv_bipush (v := (59 : Int32)) hx hb d_MD_stop_1 (by decide) ?_
  obtain ⟨z0_3, hcl, hm⟩ := bn1_s hm
  refine kcv (wc := wd_MD g h0 q0 x0) (wr := ([] : va_W)) (w1 := wd_MD g h0 q0 z0_3) hP hD hS hA [0, 1, 2, 3, 4, 5, 6, 7, 8, 9, 10, 11, 12, 13, 14, 15, 16, 17, 18, 19, 20, 21, 22, 23, 24, 25, 26, 27, 28, 29, 30, 31] [] rfl rfl (by decide) (by decide) (va_runV (As := [.int (59 : Int32)]) (rest := []) ⟨hx, hb, hml, hown, hts⟩ (c_MD_letter hG hGn l dC dI g F H.size h0 q0 x0 (59 : Int32) hcl) (cwV 1 hts (gdV k5_181 k5_183 kp_24 k1_10 k5_184) rfl rfl rfl (by decide +kernel) ⟨Nat.le_of_ble_eq_true rfl, Nat.le_of_ble_eq_true rfl⟩) (kpV hG hP hK hD hS hA hGA [0, 1, 2, 3, 4, 5, 6, 7, 8, 9, 10, 11, 12, 13, 14, 15, 16, 17, 18, 19, 20, 21, 22, 23, 24, 25, 26, 27, 28, 29, 30, 31] (by decide) rfl (ci := 10) (q0 := 0) rfl rfl rfl) rfl rfl hl.1 rfl (lv_room (Nat.le_of_ble_eq_true rfl)) d_MD_stop_3 ⟨Nat.le_of_ble_eq_true rfl, Nat.le_of_ble_eq_true rfl⟩) (fun H locs hP hD hS => ?_)
  have hP : va_P (dC, dI) vwCl (wd_MD g h0 q0 z0_3) H := hP
  have hD : va_D A (wd_MD g h0 q0 z0_3) := hD
  refine lv_aload_n hx hb d_MD_stop_6 rfl (lv_at hl 0 rfl) ?_
  refine lv_bipush (v := (32 : Int32)) hx hb d_MD_stop_7 (by decide) ?_
  obtain ⟨z0_9, hcl, hm⟩ := bn1_s hm
  refine kcv (wc := wd_MD g h0 q0 z0_3) (wr := ([] : va_W)) (w1 := wd_MD g h0 q0 z0_9) hP hD hS hA [0, 1, 2, 3, 4, 5, 6, 7, 8, 9, 10, 11, 12, 13, 14, 15, 16, 17, 18, 19, 20, 21, 22, 23, 24, 25, 26, 27, 28, 29, 30, 31] [] rfl rfl (by decide) (by decide) (va_runV (As := [.int (32 : Int32)]) (rest := []) ⟨hx, hb, hml, hown, hts⟩ (c_MD_letter hG hGn l dC dI g F H.size h0 q0 z0_3 (32 : Int32) hcl) (cwV 1 hts (gdV k5_181 k5_183 kp_24 k1_10 k5_184) rfl rfl rfl (by decide +kernel) ⟨Nat.le_of_ble_eq_true rfl, Nat.le_of_ble_eq_true rfl⟩) (kpV hG hP hK hD hS hA hGA [0, 1, 2, 3, 4, 5, 6, 7, 8, 9, 10, 11, 12, 13, 14, 15, 16, 17, 18, 19, 20, 21, 22, 23, 24, 25, 26, 27, 28, 29, 30, 31] (by decide) rfl (ci := 10) (q0 := 0) rfl rfl rfl) rfl rfl hl.1 rfl (lv_room (Nat.le_of_ble_eq_true rfl)) d_MD_stop_9 ⟨Nat.le_of_ble_eq_true rfl, Nat.le_of_ble_eq_true rfl⟩) (fun H locs hP hD hS => ?_)
  have hP : va_P (dC, dI) vwCl (wd_MD g h0 q0 z0_9) H := hP
  have hD : va_D A (wd_MD g h0 q0 z0_9) := hD
  obtain rfl := Option.some.inj hm
  rw [hQ]
  exact krv hx hb hr hlocks hAe hP hK hD hS d_MD_stop_12
abbrev b_MD_sentence : ByteArray := prog_12_method_12_code
abbrev y_MD_sentence : MethodName := ⟨"AlarmMatrixModel", "sentence", "(IIIII)V"⟩
theorem d_MD_sentence_0 : decode b_MD_sentence 0 = .ok (.aload_n 0, 1) := by decide +kernel
theorem d_MD_sentence_1 : decode b_MD_sentence 1 = .ok (.iload_n 1, 1) := by decide +kernel
theorem d_MD_sentence_2 : decode b_MD_sentence 2 = .ok (.ifCond .ne 8, 3) := by decide +kernel
theorem d_MD_sentence_5 : decode b_MD_sentence 5 = .ok (.ldc 136, 2) := by decide +kernel
theorem d_MD_sentence_7 : decode b_MD_sentence 7 = .ok (.goto 26, 3) := by decide +kernel
theorem d_MD_sentence_10 : decode b_MD_sentence 10 = .ok (.iload_n 1, 1) := by decide +kernel
theorem d_MD_sentence_11 : decode b_MD_sentence 11 = .ok (.iconst 1, 1) := by decide +kernel
theorem d_MD_sentence_12 : decode b_MD_sentence 12 = .ok (.if_icmp .ne 9, 3) := by decide +kernel
theorem d_MD_sentence_15 : decode b_MD_sentence 15 = .ok (.sipush 20577, 3) := by decide +kernel
theorem d_MD_sentence_18 : decode b_MD_sentence 18 = .ok (.goto 15, 3) := by decide +kernel
theorem d_MD_sentence_21 : decode b_MD_sentence 21 = .ok (.iload_n 1, 1) := by decide +kernel
theorem d_MD_sentence_22 : decode b_MD_sentence 22 = .ok (.iconst 4, 1) := by decide +kernel
theorem d_MD_sentence_23 : decode b_MD_sentence 23 = .ok (.if_icmp .ne 8, 3) := by decide +kernel
theorem d_MD_sentence_26 : decode b_MD_sentence 26 = .ok (.ldc 137, 2) := by decide +kernel
theorem d_MD_sentence_28 : decode b_MD_sentence 28 = .ok (.goto 5, 3) := by decide +kernel
theorem d_MD_sentence_31 : decode b_MD_sentence 31 = .ok (.ldc 138, 2) := by decide +kernel
theorem d_MD_sentence_33 : decode b_MD_sentence 33 = .ok (.invokevirtual 139, 3) := by decide +kernel
theorem d_MD_sentence_36 : decode b_MD_sentence 36 = .ok (.aload_n 0, 1) := by decide +kernel
theorem d_MD_sentence_37 : decode b_MD_sentence 37 = .ok (.iload_n 2, 1) := by decide +kernel
theorem d_MD_sentence_38 : decode b_MD_sentence 38 = .ok (.invokevirtual 142, 3) := by decide +kernel
theorem d_MD_sentence_41 : decode b_MD_sentence 41 = .ok (.iload_n 1, 1) := by decide +kernel
theorem d_MD_sentence_42 : decode b_MD_sentence 42 = .ok (.ifCond .ne 49, 3) := by decide +kernel
theorem d_MD_sentence_45 : decode b_MD_sentence 45 = .ok (.aload_n 0, 1) := by decide +kernel
theorem d_MD_sentence_46 : decode b_MD_sentence 46 = .ok (.ldc 145, 2) := by decide +kernel
theorem d_MD_sentence_48 : decode b_MD_sentence 48 = .ok (.invokevirtual 139, 3) := by decide +kernel
theorem d_MD_sentence_51 : decode b_MD_sentence 51 = .ok (.aload_n 0, 1) := by decide +kernel
theorem d_MD_sentence_52 : decode b_MD_sentence 52 = .ok (.iload_n 3, 1) := by decide +kernel
theorem d_MD_sentence_53 : decode b_MD_sentence 53 = .ok (.invokevirtual 142, 3) := by decide +kernel
theorem d_MD_sentence_56 : decode b_MD_sentence 56 = .ok (.aload_n 0, 1) := by decide +kernel
theorem d_MD_sentence_57 : decode b_MD_sentence 57 = .ok (.sipush 207, 3) := by decide +kernel
theorem d_MD_sentence_60 : decode b_MD_sentence 60 = .ok (.invokevirtual 139, 3) := by decide +kernel
theorem d_MD_sentence_63 : decode b_MD_sentence 63 = .ok (.iconst 0, 1) := by decide +kernel
theorem d_MD_sentence_64 : decode b_MD_sentence 64 = .ok (.istore 6, 2) := by decide +kernel
theorem d_MD_sentence_66 : decode b_MD_sentence 66 = .ok (.iload 6, 2) := by decide +kernel
theorem d_MD_sentence_68 : decode b_MD_sentence 68 = .ok (.iload 5, 2) := by decide +kernel
theorem d_MD_sentence_70 : decode b_MD_sentence 70 = .ok (.if_icmp .ge 18, 3) := by decide +kernel
theorem d_MD_sentence_73 : decode b_MD_sentence 73 = .ok (.aload_n 0, 1) := by decide +kernel
theorem d_MD_sentence_74 : decode b_MD_sentence 74 = .ok (.iload 4, 2) := by decide +kernel
theorem d_MD_sentence_76 : decode b_MD_sentence 76 = .ok (.iload 6, 2) := by decide +kernel
theorem d_MD_sentence_78 : decode b_MD_sentence 78 = .ok (.iadd, 1) := by decide +kernel
theorem d_MD_sentence_79 : decode b_MD_sentence 79 = .ok (.invokevirtual 142, 3) := by decide +kernel
theorem d_MD_sentence_82 : decode b_MD_sentence 82 = .ok (.iinc 6 1, 3) := by decide +kernel
theorem d_MD_sentence_85 : decode b_MD_sentence 85 = .ok (.goto (-19), 3) := by decide +kernel
theorem d_MD_sentence_88 : decode b_MD_sentence 88 = .ok (.goto 99, 3) := by decide +kernel
theorem d_MD_sentence_91 : decode b_MD_sentence 91 = .ok (.iload_n 1, 1) := by decide +kernel
theorem d_MD_sentence_92 : decode b_MD_sentence 92 = .ok (.iconst 1, 1) := by decide +kernel
theorem d_MD_sentence_93 : decode b_MD_sentence 93 = .ok (.if_icmp .ne 41, 3) := by decide +kernel
theorem d_MD_sentence_96 : decode b_MD_sentence 96 = .ok (.aload_n 0, 1) := by decide +kernel
theorem d_MD_sentence_97 : decode b_MD_sentence 97 = .ok (.ldc 146, 2) := by decide +kernel
theorem d_MD_sentence_99 : decode b_MD_sentence 99 = .ok (.invokevirtual 139, 3) := by decide +kernel
theorem d_MD_sentence_102 : decode b_MD_sentence 102 = .ok (.aload_n 0, 1) := by decide +kernel
theorem d_MD_sentence_103 : decode b_MD_sentence 103 = .ok (.iload_n 3, 1) := by decide +kernel
theorem d_MD_sentence_104 : decode b_MD_sentence 104 = .ok (.invokevirtual 142, 3) := by decide +kernel
theorem d_MD_sentence_107 : decode b_MD_sentence 107 = .ok (.aload_n 0, 1) := by decide +kernel
theorem d_MD_sentence_108 : decode b_MD_sentence 108 = .ok (.ldc 147, 2) := by decide +kernel
theorem d_MD_sentence_110 : decode b_MD_sentence 110 = .ok (.invokevirtual 139, 3) := by decide +kernel
theorem d_MD_sentence_113 : decode b_MD_sentence 113 = .ok (.aload_n 0, 1) := by decide +kernel
theorem d_MD_sentence_114 : decode b_MD_sentence 114 = .ok (.iload 4, 2) := by decide +kernel
theorem d_MD_sentence_116 : decode b_MD_sentence 116 = .ok (.invokevirtual 142, 3) := by decide +kernel
theorem d_MD_sentence_119 : decode b_MD_sentence 119 = .ok (.aload_n 0, 1) := by decide +kernel
theorem d_MD_sentence_120 : decode b_MD_sentence 120 = .ok (.ldc 148, 2) := by decide +kernel
theorem d_MD_sentence_122 : decode b_MD_sentence 122 = .ok (.invokevirtual 139, 3) := by decide +kernel
theorem d_MD_sentence_125 : decode b_MD_sentence 125 = .ok (.aload_n 0, 1) := by decide +kernel
theorem d_MD_sentence_126 : decode b_MD_sentence 126 = .ok (.iload 5, 2) := by decide +kernel
theorem d_MD_sentence_128 : decode b_MD_sentence 128 = .ok (.invokevirtual 142, 3) := by decide +kernel
theorem d_MD_sentence_131 : decode b_MD_sentence 131 = .ok (.goto 56, 3) := by decide +kernel
theorem d_MD_sentence_134 : decode b_MD_sentence 134 = .ok (.iload_n 1, 1) := by decide +kernel
theorem d_MD_sentence_135 : decode b_MD_sentence 135 = .ok (.iconst 2, 1) := by decide +kernel
theorem d_MD_sentence_136 : decode b_MD_sentence 136 = .ok (.if_icmp .eq 8, 3) := by decide +kernel
theorem d_MD_sentence_139 : decode b_MD_sentence 139 = .ok (.iload_n 1, 1) := by decide +kernel
theorem d_MD_sentence_140 : decode b_MD_sentence 140 = .ok (.iconst 3, 1) := by decide +kernel
theorem d_MD_sentence_141 : decode b_MD_sentence 141 = .ok (.if_icmp .ne 46, 3) := by decide +kernel
theorem d_MD_sentence_144 : decode b_MD_sentence 144 = .ok (.iload_n 1, 1) := by decide +kernel
theorem d_MD_sentence_145 : decode b_MD_sentence 145 = .ok (.iconst 3, 1) := by decide +kernel
theorem d_MD_sentence_146 : decode b_MD_sentence 146 = .ok (.if_icmp .ne 20, 3) := by decide +kernel
theorem d_MD_sentence_149 : decode b_MD_sentence 149 = .ok (.aload_n 0, 1) := by decide +kernel
theorem d_MD_sentence_150 : decode b_MD_sentence 150 = .ok (.bipush 38, 2) := by decide +kernel
theorem d_MD_sentence_152 : decode b_MD_sentence 152 = .ok (.invokevirtual 125, 3) := by decide +kernel
theorem d_MD_sentence_155 : decode b_MD_sentence 155 = .ok (.aload_n 0, 1) := by decide +kernel
theorem d_MD_sentence_156 : decode b_MD_sentence 156 = .ok (.bipush 32, 2) := by decide +kernel
theorem d_MD_sentence_158 : decode b_MD_sentence 158 = .ok (.invokevirtual 125, 3) := by decide +kernel
theorem d_MD_sentence_161 : decode b_MD_sentence 161 = .ok (.aload_n 0, 1) := by decide +kernel
theorem d_MD_sentence_162 : decode b_MD_sentence 162 = .ok (.iload_n 3, 1) := by decide +kernel
theorem d_MD_sentence_163 : decode b_MD_sentence 163 = .ok (.invokevirtual 142, 3) := by decide +kernel
theorem d_MD_sentence_166 : decode b_MD_sentence 166 = .ok (.aload_n 0, 1) := by decide +kernel
theorem d_MD_sentence_167 : decode b_MD_sentence 167 = .ok (.ldc 149, 2) := by decide +kernel
theorem d_MD_sentence_169 : decode b_MD_sentence 169 = .ok (.invokevirtual 139, 3) := by decide +kernel
theorem d_MD_sentence_172 : decode b_MD_sentence 172 = .ok (.aload_n 0, 1) := by decide +kernel
theorem d_MD_sentence_173 : decode b_MD_sentence 173 = .ok (.iload_n 1, 1) := by decide +kernel
theorem d_MD_sentence_174 : decode b_MD_sentence 174 = .ok (.iconst 2, 1) := by decide +kernel
theorem d_MD_sentence_175 : decode b_MD_sentence 175 = .ok (.if_icmp .ne 7, 3) := by decide +kernel
theorem d_MD_sentence_178 : decode b_MD_sentence 178 = .ok (.iload_n 3, 1) := by decide +kernel
theorem d_MD_sentence_179 : decode b_MD_sentence 179 = .ok (.goto 5, 3) := by decide +kernel
theorem d_MD_sentence_182 : decode b_MD_sentence 182 = .ok (.iload 4, 2) := by decide +kernel
theorem d_MD_sentence_184 : decode b_MD_sentence 184 = .ok (.invokevirtual 142, 3) := by decide +kernel
theorem d_MD_sentence_187 : decode b_MD_sentence 187 = .ok (.aload_n 0, 1) := by decide +kernel
theorem d_MD_sentence_188 : decode b_MD_sentence 188 = .ok (.invokevirtual 150, 3) := by decide +kernel
theorem d_MD_sentence_191 : decode b_MD_sentence 191 = .ok (.return_, 1) := by decide +kernel
def m_MD_sentence_B66 {R : Type} (F : Nat) (a5 : Int32) (a4 : Int32) (k66_88 : Int32 → St → Option R) (rec66 : Int32 → St → Option R) (v6_66 : Int32) (y0_66 : St) : Option R :=
  (if a5 ≤ v6_66 then (k66_88 v6_66 y0_66) else (bn1 (m_MD_number F y0_66 (a4 + v6_66)) (fun z0_79 => (rec66 (v6_66 + (1 : Int32)) z0_79))))
theorem m_MD_sentence_B66_h {R : Type} {F : Nat} {a5 : Int32} {a4 : Int32} {k66_88 : Int32 → St → Option R} {rec66 : Int32 → St → Option R} {v6_66 : Int32} {y0_66 : St} {o : R} (h : m_MD_sentence_B66 F a5 a4 k66_88 rec66 v6_66 y0_66 = some o) :
  (if a5 ≤ v6_66 then (k66_88 v6_66 y0_66) else (bn1 (m_MD_number F y0_66 (a4 + v6_66)) (fun z0_79 => (rec66 (v6_66 + (1 : Int32)) z0_79)))) = some o := h
def m_MD_sentence_J33 (F : Nat) (a2 : Int32) (a1 : Int32) (a3 : Int32) (a5 : Int32) (a4 : Int32) (s0_33 : Int32) (t0_33 : St) : Option (St) :=
  (bn1 (m_MD_word F t0_33 s0_33) (fun z0_33 => (bn1 (m_MD_number F z0_33 a2) (fun z0_38 => (if a1 = (0 : Int32) then (bn1 (m_MD_word F z0_38 (20059310 : Int32)) (fun z0_48 => (bn1 (m_MD_number F z0_48 a3) (fun z0_53 => (bn1 (m_MD_word F z0_53 (207 : Int32)) (fun z0_60 => (lq2 (m_MD_sentence_B66 F a5 a4 (fun v6_66 y0_66 => (bn1 (m_MD_stop F y0_66) (fun z0_188 => (some z0_188))))) F (0 : Int32) z0_60))))))) else (if a1 = (1 : Int32) then (bn1 (m_MD_word F z0_38 (145707 : Int32)) (fun z0_99 => (bn1 (m_MD_number F z0_99 a3) (fun z0_104 => (bn1 (m_MD_word F z0_104 (374834 : Int32)) (fun z0_110 => (bn1 (m_MD_number F z0_110 a4) (fun z0_116 => (bn1 (m_MD_word F z0_116 (26259620 : Int32)) (fun z0_122 => (bn1 (m_MD_number F z0_122 a5) (fun z0_128 => (bn1 (m_MD_stop F z0_128) (fun z0_188 => (some z0_188))))))))))))))) else (if a1 = (2 : Int32) then (if a1 = (3 : Int32) then (bn1 (m_MD_letter F z0_38 (38 : Int32)) (fun z0_152 => (bn1 (m_MD_letter F z0_152 (32 : Int32)) (fun z0_158 => (bn1 (m_MD_number F z0_158 a3) (fun z0_163 => (bn1 (m_MD_word F z0_163 (628196 : Int32)) (fun z0_169 => (if a1 = (2 : Int32) then (bn1 (m_MD_number F z0_169 a3) (fun z0_184 => (bn1 (m_MD_stop F z0_184) (fun z0_188 => (some z0_188))))) else (bn1 (m_MD_number F z0_169 a4) (fun z0_184 => (bn1 (m_MD_stop F z0_184) (fun z0_188 => (some z0_188)))))))))))))) else (bn1 (m_MD_word F z0_38 (628196 : Int32)) (fun z0_169 => (if a1 = (2 : Int32) then (bn1 (m_MD_number F z0_169 a3) (fun z0_184 => (bn1 (m_MD_stop F z0_184) (fun z0_188 => (some z0_188))))) else (bn1 (m_MD_number F z0_169 a4) (fun z0_184 => (bn1 (m_MD_stop F z0_184) (fun z0_188 => (some z0_188))))))))) else (if a1 = (3 : Int32) then (if a1 = (3 : Int32) then (bn1 (m_MD_letter F z0_38 (38 : Int32)) (fun z0_152 => (bn1 (m_MD_letter F z0_152 (32 : Int32)) (fun z0_158 => (bn1 (m_MD_number F z0_158 a3) (fun z0_163 => (bn1 (m_MD_word F z0_163 (628196 : Int32)) (fun z0_169 => (if a1 = (2 : Int32) then (bn1 (m_MD_number F z0_169 a3) (fun z0_184 => (bn1 (m_MD_stop F z0_184) (fun z0_188 => (some z0_188))))) else (bn1 (m_MD_number F z0_169 a4) (fun z0_184 => (bn1 (m_MD_stop F z0_184) (fun z0_188 => (some z0_188)))))))))))))) else (bn1 (m_MD_word F z0_38 (628196 : Int32)) (fun z0_169 => (if a1 = (2 : Int32) then (bn1 (m_MD_number F z0_169 a3) (fun z0_184 => (bn1 (m_MD_stop F z0_184) (fun z0_188 => (some z0_188))))) else (bn1 (m_MD_number F z0_169 a4) (fun z0_184 => (bn1 (m_MD_stop F z0_184) (fun z0_188 => (some z0_188))))))))) else (bn1 (m_MD_stop F z0_38) (fun z0_188 => (some z0_188)))))))))))
theorem m_MD_sentence_J33_h {F : Nat} {a2 : Int32} {a1 : Int32} {a3 : Int32} {a5 : Int32} {a4 : Int32} {s0_33 : Int32} {t0_33 : St} {o : (St)} (h : m_MD_sentence_J33 F a2 a1 a3 a5 a4 s0_33 t0_33 = some o) :
  (bn1 (m_MD_word F t0_33 s0_33) (fun z0_33 => (bn1 (m_MD_number F z0_33 a2) (fun z0_38 => (if a1 = (0 : Int32) then (bn1 (m_MD_word F z0_38 (20059310 : Int32)) (fun z0_48 => (bn1 (m_MD_number F z0_48 a3) (fun z0_53 => (bn1 (m_MD_word F z0_53 (207 : Int32)) (fun z0_60 => (lq2 (m_MD_sentence_B66 F a5 a4 (fun v6_66 y0_66 => (bn1 (m_MD_stop F y0_66) (fun z0_188 => (some z0_188))))) F (0 : Int32) z0_60))))))) else (if a1 = (1 : Int32) then (bn1 (m_MD_word F z0_38 (145707 : Int32)) (fun z0_99 => (bn1 (m_MD_number F z0_99 a3) (fun z0_104 => (bn1 (m_MD_word F z0_104 (374834 : Int32)) (fun z0_110 => (bn1 (m_MD_number F z0_110 a4) (fun z0_116 => (bn1 (m_MD_word F z0_116 (26259620 : Int32)) (fun z0_122 => (bn1 (m_MD_number F z0_122 a5) (fun z0_128 => (bn1 (m_MD_stop F z0_128) (fun z0_188 => (some z0_188))))))))))))))) else (if a1 = (2 : Int32) then (if a1 = (3 : Int32) then (bn1 (m_MD_letter F z0_38 (38 : Int32)) (fun z0_152 => (bn1 (m_MD_letter F z0_152 (32 : Int32)) (fun z0_158 => (bn1 (m_MD_number F z0_158 a3) (fun z0_163 => (bn1 (m_MD_word F z0_163 (628196 : Int32)) (fun z0_169 => (if a1 = (2 : Int32) then (bn1 (m_MD_number F z0_169 a3) (fun z0_184 => (bn1 (m_MD_stop F z0_184) (fun z0_188 => (some z0_188))))) else (bn1 (m_MD_number F z0_169 a4) (fun z0_184 => (bn1 (m_MD_stop F z0_184) (fun z0_188 => (some z0_188)))))))))))))) else (bn1 (m_MD_word F z0_38 (628196 : Int32)) (fun z0_169 => (if a1 = (2 : Int32) then (bn1 (m_MD_number F z0_169 a3) (fun z0_184 => (bn1 (m_MD_stop F z0_184) (fun z0_188 => (some z0_188))))) else (bn1 (m_MD_number F z0_169 a4) (fun z0_184 => (bn1 (m_MD_stop F z0_184) (fun z0_188 => (some z0_188))))))))) else (if a1 = (3 : Int32) then (if a1 = (3 : Int32) then (bn1 (m_MD_letter F z0_38 (38 : Int32)) (fun z0_152 => (bn1 (m_MD_letter F z0_152 (32 : Int32)) (fun z0_158 => (bn1 (m_MD_number F z0_158 a3) (fun z0_163 => (bn1 (m_MD_word F z0_163 (628196 : Int32)) (fun z0_169 => (if a1 = (2 : Int32) then (bn1 (m_MD_number F z0_169 a3) (fun z0_184 => (bn1 (m_MD_stop F z0_184) (fun z0_188 => (some z0_188))))) else (bn1 (m_MD_number F z0_169 a4) (fun z0_184 => (bn1 (m_MD_stop F z0_184) (fun z0_188 => (some z0_188)))))))))))))) else (bn1 (m_MD_word F z0_38 (628196 : Int32)) (fun z0_169 => (if a1 = (2 : Int32) then (bn1 (m_MD_number F z0_169 a3) (fun z0_184 => (bn1 (m_MD_stop F z0_184) (fun z0_188 => (some z0_188))))) else (bn1 (m_MD_number F z0_169 a4) (fun z0_184 => (bn1 (m_MD_stop F z0_184) (fun z0_188 => (some z0_188))))))))) else (bn1 (m_MD_stop F z0_38) (fun z0_188 => (some z0_188))))))))))) = some o := h
def m_MD_sentence (F : Nat) (x0 : St) (a1 : Int32) (a2 : Int32) (a3 : Int32) (a4 : Int32) (a5 : Int32) : Option (St) :=
  (if a1 = (0 : Int32) then (m_MD_sentence_J33 F a2 a1 a3 a5 a4  (178682 : Int32) x0) else (if a1 = (1 : Int32) then (m_MD_sentence_J33 F a2 a1 a3 a5 a4  (20577 : Int32) x0) else (if a1 = (4 : Int32) then (m_MD_sentence_J33 F a2 a1 a3 a5 a4  (143848 : Int32) x0) else (m_MD_sentence_J33 F a2 a1 a3 a5 a4  (464151 : Int32) x0))))
abbrev rm_MD_sentence : Room := { frames := 2, cells := 0, slots := 0, locals := 43 }
set_option maxHeartbeats 4000000 in
set_option maxRecDepth 100000 in
theorem c_MD_sentence {G : (Nat → Prop) → State → Prop} (hG : gok G) (hGn : gN G) (l : Launch) (dC : Nat → ClassId) (dI : Nat → Nat → Nat) (g : Nat → ClassId) (F : Nat) (sz : Nat) (h0 : Nat) (q0 : Nat → Nat) (x0 : St) (a1 : Int32) (a2 : Int32) (a3 : Int32) (a4 : Int32) (a5 : Int32) {o : St} (hm : m_MD_sentence F x0 a1 a2 a3 a4 a5 = some o) : Met l y_MD_sentence (.code y_MD_sentence b_MD_sentence 7 none :: gw) rm_MD_sentence (kq (dC, dI) vwCl (tyv g) G [.ref h0, .int a1, .int a2, .int a3, .int a4, .int a5] sz (wd_MD g h0 q0 x0)) (kqv (dC, dI) vwCl (tyv g) (wd_MD g h0 q0 x0) (wd_MD g h0 q0 o) sz) 0 0 (va_A (wd_MD g h0 q0 x0) sz) := by
  unfold m_MD_sentence at hm
  refine km (Qc := fun sz => kqv (dC, dI) vwCl (tyv g) (wd_MD g h0 q0 x0) (wd_MD g h0 q0 o) sz) (cc := b_MD_sentence) (maxL := 7) (ret := none) (by decide) rfl (Nat.le_of_ble_eq_true rfl) ?_
  intro p e s m args below meth c Q hQ hx hb hr hts hown hlocks hml hnm H locs A hAe hA hP hK hD hS hGA ls hl
  have hl : lv_has ls 7 [(0, .ref h0), (1, .int a1), (2, .int a2), (3, .int a3), (4, .int a4), (5, .int a5)] := hl
  have hts : ∀ w ∈ gw, w.before args s = true := fun w h => hts w (List.mem_cons_of_mem _ h)
  have hown : s.vm.findClass "AlarmMatrixModel" = some m.cls := hown
  have J33 : ∀ (s0_33 : Int32) (t0_33 : St) (H : Heap) (locs : List Loc) (ls : Array Slot), m_MD_sentence_J33 F a2 a1 a3 a5 a4  s0_33 t0_33 = some o → va_P (dC, dI) vwCl (wd_MD g h0 q0 t0_33) H → va_D A (wd_MD g h0 q0 t0_33) → va_S A s.heap H locs → lv_has ls 7 [(0, .ref h0), (1, .int a1), (2, .int a2), (3, .int a3), (4, .int a4), (5, .int a5)] → W p l e rm_MD_sentence s m args below meth c H locs 0 0 Q (F0 m 33 ls [.int s0_33, .ref h0]) := by
    intro s0_33 t0_33 H locs ls hm hP hD hS hl
    replace hm := m_MD_sentence_J33_h hm
    obtain ⟨z0_33, hcl, hm⟩ := bn1_s hm
    refine kcv (wc := wd_MD g h0 q0 t0_33) (wr := ([] : va_W)) (w1 := wd_MD g h0 q0 z0_33) hP hD hS hA [0, 1, 2, 3, 4, 5, 6, 7, 8, 9, 10, 11, 12, 13, 14, 15, 16, 17, 18, 19, 20, 21, 22, 23, 24, 25, 26, 27, 28, 29, 30, 31] [] rfl rfl (by decide) (by decide) (va_runV (As := [.int s0_33]) (rest := []) ⟨hx, hb, hml, hown, hts⟩ (c_MD_word hG hGn l dC dI g F H.size h0 q0 t0_33 s0_33 hcl) (cwV 1 hts (gdV k5_177 k5_179 kp_23 k1_10 k5_180) rfl rfl rfl (by decide +kernel) ⟨Nat.le_of_ble_eq_true rfl, Nat.le_of_ble_eq_true rfl⟩) (kpV hG hP hK hD hS hA hGA [0, 1, 2, 3, 4, 5, 6, 7, 8, 9, 10, 11, 12, 13, 14, 15, 16, 17, 18, 19, 20, 21, 22, 23, 24, 25, 26, 27, 28, 29, 30, 31] (by decide) rfl (ci := 10) (q0 := 0) rfl rfl rfl) rfl rfl hl.1 rfl (lv_room (Nat.le_of_ble_eq_true rfl)) d_MD_sentence_33 ⟨Nat.le_of_ble_eq_true rfl, Nat.le_of_ble_eq_true rfl⟩) (fun H locs hP hD hS => ?_)
    have hP : va_P (dC, dI) vwCl (wd_MD g h0 q0 z0_33) H := hP
    have hD : va_D A (wd_MD g h0 q0 z0_33) := hD
    refine lv_aload_n hx hb d_MD_sentence_36 rfl (lv_at hl 0 rfl) ?_
    refine lv_iload_n hx hb d_MD_sentence_37 rfl (lv_at hl 2 rfl) ?_
    obtain ⟨z0_38, hcl, hm⟩ := bn1_s hm
    refine kcv (wc := wd_MD g h0 q0 z0_33) (wr := ([] : va_W)) (w1 := wd_MD g h0 q0 z0_38) hP hD hS hA [0, 1, 2, 3, 4, 5, 6, 7, 8, 9, 10, 11, 12, 13, 14, 15, 16, 17, 18, 19, 20, 21, 22, 23, 24, 25, 26, 27, 28, 29, 30, 31] [] rfl rfl (by decide) (by decide) (va_runV (As := [.int a2]) (rest := []) ⟨hx, hb, hml, hown, hts⟩ (c_MD_number hG hGn l dC dI g F H.size h0 q0 z0_33 a2 hcl) (cwV 1 hts (gdV k5_185 k5_187 kp_25 k1_10 k5_188) rfl rfl rfl (by decide +kernel) ⟨Nat.le_of_ble_eq_true rfl, Nat.le_of_ble_eq_true rfl⟩) (kpV hG hP hK hD hS hA hGA [0, 1, 2, 3, 4, 5, 6, 7, 8, 9, 10, 11, 12, 13, 14, 15, 16, 17, 18, 19, 20, 21, 22, 23, 24, 25, 26, 27, 28, 29, 30, 31] (by decide) rfl (ci := 10) (q0 := 0) rfl rfl rfl) rfl rfl hl.1 rfl (lv_room (Nat.le_of_ble_eq_true rfl)) d_MD_sentence_38 ⟨Nat.le_of_ble_eq_true rfl, Nat.le_of_ble_eq_true rfl⟩) (fun H locs hP hD hS => ?_)
    have hP : va_P (dC, dI) vwCl (wd_MD g h0 q0 z0_38) H := hP
    have hD : va_D A (wd_MD g h0 q0 z0_38) := hD
    refine lv_iload_n hx hb d_MD_sentence_41 rfl (lv_at hl 1 rfl) ?_
    refine lv_if_ne (tgt := 91) hx hb d_MD_sentence_42 (by decide) (fun hc => ?_) (fun hc => ?_)
    · replace hm := if_f hm hc
      refine lv_iload_n hx hb d_MD_sentence_91 rfl (lv_at hl 1 rfl) ?_
      refine lv_iconst (v := (1 : Int32)) hx hb d_MD_sentence_92 (by decide) ?_
      refine lv_icmp_ne (tgt := 134) hx hb d_MD_sentence_93 (by decide) (fun hc => ?_) (fun hc => ?_)
      · replace hm := if_f hm hc
        refine lv_iload_n hx hb d_MD_sentence_134 rfl (lv_at hl 1 rfl) ?_
        refine lv_iconst (v := (2 : Int32)) hx hb d_MD_sentence_135 (by decide) ?_
        refine lv_icmp_eq (tgt := 144) hx hb d_MD_sentence_136 (by decide) (fun hc => ?_) (fun hc => ?_)
        · replace hm := if_t hm hc
          refine lv_iload_n hx hb d_MD_sentence_144 rfl (lv_at hl 1 rfl) ?_
          refine lv_iconst (v := (3 : Int32)) hx hb d_MD_sentence_145 (by decide) ?_
          refine lv_icmp_ne (tgt := 166) hx hb d_MD_sentence_146 (by decide) (fun hc => ?_) (fun hc => ?_)
          · replace hm := if_f hm hc
            refine lv_aload_n hx hb d_MD_sentence_166 rfl (lv_at hl 0 rfl) ?_
            refine lv_ldc (v := (628196 : Int32)) hx hb hown (hts _ k5_193) d_MD_sentence_167 ?_
            obtain ⟨z0_169, hcl, hm⟩ := bn1_s hm
            refine kcv (wc := wd_MD g h0 q0 z0_38) (wr := ([] : va_W)) (w1 := wd_MD g h0 q0 z0_169) hP hD hS hA [0, 1, 2, 3, 4, 5, 6, 7, 8, 9, 10, 11, 12, 13, 14, 15, 16, 17, 18, 19, 20, 21, 22, 23, 24, 25, 26, 27, 28, 29, 30, 31] [] rfl rfl (by decide) (by decide) (va_runV (As := [.int (628196 : Int32)]) (rest := []) ⟨hx, hb, hml, hown, hts⟩ (c_MD_word hG hGn l dC dI g F H.size h0 q0 z0_38 (628196 : Int32) hcl) (cwV 1 hts (gdV k5_177 k5_179 kp_23 k1_10 k5_180) rfl rfl rfl (by decide +kernel) ⟨Nat.le_of_ble_eq_true rfl, Nat.le_of_ble_eq_true rfl⟩) (kpV hG hP hK hD hS hA hGA [0, 1, 2, 3, 4, 5, 6, 7, 8, 9, 10, 11, 12, 13, 14, 15, 16, 17, 18, 19, 20, 21, 22, 23, 24, 25, 26, 27, 28, 29, 30, 31] (by decide) rfl (ci := 10) (q0 := 0) rfl rfl rfl) rfl rfl hl.1 rfl (lv_room (Nat.le_of_ble_eq_true rfl)) d_MD_sentence_169 ⟨Nat.le_of_ble_eq_true rfl, Nat.le_of_ble_eq_true rfl⟩) (fun H locs hP hD hS => ?_)
            have hP : va_P (dC, dI) vwCl (wd_MD g h0 q0 z0_169) H := hP
            have hD : va_D A (wd_MD g h0 q0 z0_169) := hD
            refine lv_aload_n hx hb d_MD_sentence_172 rfl (lv_at hl 0 rfl) ?_
            refine lv_iload_n hx hb d_MD_sentence_173 rfl (lv_at hl 1 rfl) ?_
            refine lv_iconst (v := (2 : Int32)) hx hb d_MD_sentence_174 (by decide) ?_
            refine lv_icmp_ne (tgt := 182) hx hb d_MD_sentence_175 (by decide) (fun hc => ?_) (fun hc => ?_)
            · replace hm := if_f hm hc
              refine lv_iload hx hb d_MD_sentence_182 (lv_at hl 4 rfl) ?_
              obtain ⟨z0_184, hcl, hm⟩ := bn1_s hm
              refine kcv (wc := wd_MD g h0 q0 z0_169) (wr := ([] : va_W)) (w1 := wd_MD g h0 q0 z0_184) hP hD hS hA [0, 1, 2, 3, 4, 5, 6, 7, 8, 9, 10, 11, 12, 13, 14, 15, 16, 17, 18, 19, 20, 21, 22, 23, 24, 25, 26, 27, 28, 29, 30, 31] [] rfl rfl (by decide) (by decide) (va_runV (As := [.int a4]) (rest := []) ⟨hx, hb, hml, hown, hts⟩ (c_MD_number hG hGn l dC dI g F H.size h0 q0 z0_169 a4 hcl) (cwV 1 hts (gdV k5_185 k5_187 kp_25 k1_10 k5_188) rfl rfl rfl (by decide +kernel) ⟨Nat.le_of_ble_eq_true rfl, Nat.le_of_ble_eq_true rfl⟩) (kpV hG hP hK hD hS hA hGA [0, 1, 2, 3, 4, 5, 6, 7, 8, 9, 10, 11, 12, 13, 14, 15, 16, 17, 18, 19, 20, 21, 22, 23, 24, 25, 26, 27, 28, 29, 30, 31] (by decide) rfl (ci := 10) (q0 := 0) rfl rfl rfl) rfl rfl hl.1 rfl (lv_room (Nat.le_of_ble_eq_true rfl)) d_MD_sentence_184 ⟨Nat.le_of_ble_eq_true rfl, Nat.le_of_ble_eq_true rfl⟩) (fun H locs hP hD hS => ?_)
              have hP : va_P (dC, dI) vwCl (wd_MD g h0 q0 z0_184) H := hP
              have hD : va_D A (wd_MD g h0 q0 z0_184) := hD
              refine lv_aload_n hx hb d_MD_sentence_187 rfl (lv_at hl 0 rfl) ?_
              obtain ⟨z0_188, hcl, hm⟩ := bn1_s hm
              refine kcv (wc := wd_MD g h0 q0 z0_184) (wr := ([] : va_W)) (w1 := wd_MD g h0 q0 z0_188) hP hD hS hA [0, 1, 2, 3, 4, 5, 6, 7, 8, 9, 10, 11, 12, 13, 14, 15, 16, 17, 18, 19, 20, 21, 22, 23, 24, 25, 26, 27, 28, 29, 30, 31] [] rfl rfl (by decide) (by decide) (va_runV (As := []) (rest := []) ⟨hx, hb, hml, hown, hts⟩ (c_MD_stop hG hGn l dC dI g F H.size h0 q0 z0_184 hcl) (cwV 0 hts (gdV k5_194 k5_196 kp_26 k1_10 k5_197) rfl rfl rfl (by decide +kernel) ⟨Nat.le_of_ble_eq_true rfl, Nat.le_of_ble_eq_true rfl⟩) (kpV hG hP hK hD hS hA hGA [0, 1, 2, 3, 4, 5, 6, 7, 8, 9, 10, 11, 12, 13, 14, 15, 16, 17, 18, 19, 20, 21, 22, 23, 24, 25, 26, 27, 28, 29, 30, 31] (by decide) rfl (ci := 10) (q0 := 0) rfl rfl rfl) rfl rfl hl.1 rfl (lv_room (Nat.le_of_ble_eq_true rfl)) d_MD_sentence_188 ⟨Nat.le_of_ble_eq_true rfl, Nat.le_of_ble_eq_true rfl⟩) (fun H locs hP hD hS => ?_)
              have hP : va_P (dC, dI) vwCl (wd_MD g h0 q0 z0_188) H := hP
              have hD : va_D A (wd_MD g h0 q0 z0_188) := hD
              obtain rfl := Option.some.inj hm
              rw [hQ]
              exact krv hx hb hr hlocks hAe hP hK hD hS d_MD_sentence_191
            · replace hm := if_t hm hc
              refine lv_iload_n hx hb d_MD_sentence_178 rfl (lv_at hl 3 rfl) ?_
              refine lv_goto (tgt := 184) hx hb d_MD_sentence_179 (by decide) ?_
              obtain ⟨z0_184, hcl, hm⟩ := bn1_s hm
              refine kcv (wc := wd_MD g h0 q0 z0_169) (wr := ([] : va_W)) (w1 := wd_MD g h0 q0 z0_184) hP hD hS hA [0, 1, 2, 3, 4, 5, 6, 7, 8, 9, 10, 11, 12, 13, 14, 15, 16, 17, 18, 19, 20, 21, 22, 23, 24, 25, 26, 27, 28, 29, 30, 31] [] rfl rfl (by decide) (by decide) (va_runV (As := [.int a3]) (rest := []) ⟨hx, hb, hml, hown, hts⟩ (c_MD_number hG hGn l dC dI g F H.size h0 q0 z0_169 a3 hcl) (cwV 1 hts (gdV k5_185 k5_187 kp_25 k1_10 k5_188) rfl rfl rfl (by decide +kernel) ⟨Nat.le_of_ble_eq_true rfl, Nat.le_of_ble_eq_true rfl⟩) (kpV hG hP hK hD hS hA hGA [0, 1, 2, 3, 4, 5, 6, 7, 8, 9, 10, 11, 12, 13, 14, 15, 16, 17, 18, 19, 20, 21, 22, 23, 24, 25, 26, 27, 28, 29, 30, 31] (by decide) rfl (ci := 10) (q0 := 0) rfl rfl rfl) rfl rfl hl.1 rfl (lv_room (Nat.le_of_ble_eq_true rfl)) d_MD_sentence_184 ⟨Nat.le_of_ble_eq_true rfl, Nat.le_of_ble_eq_true rfl⟩) (fun H locs hP hD hS => ?_)
              have hP : va_P (dC, dI) vwCl (wd_MD g h0 q0 z0_184) H := hP
              have hD : va_D A (wd_MD g h0 q0 z0_184) := hD
              refine lv_aload_n hx hb d_MD_sentence_187 rfl (lv_at hl 0 rfl) ?_
              obtain ⟨z0_188, hcl, hm⟩ := bn1_s hm
              refine kcv (wc := wd_MD g h0 q0 z0_184) (wr := ([] : va_W)) (w1 := wd_MD g h0 q0 z0_188) hP hD hS hA [0, 1, 2, 3, 4, 5, 6, 7, 8, 9, 10, 11, 12, 13, 14, 15, 16, 17, 18, 19, 20, 21, 22, 23, 24, 25, 26, 27, 28, 29, 30, 31] [] rfl rfl (by decide) (by decide) (va_runV (As := []) (rest := []) ⟨hx, hb, hml, hown, hts⟩ (c_MD_stop hG hGn l dC dI g F H.size h0 q0 z0_184 hcl) (cwV 0 hts (gdV k5_194 k5_196 kp_26 k1_10 k5_197) rfl rfl rfl (by decide +kernel) ⟨Nat.le_of_ble_eq_true rfl, Nat.le_of_ble_eq_true rfl⟩) (kpV hG hP hK hD hS hA hGA [0, 1, 2, 3, 4, 5, 6, 7, 8, 9, 10, 11, 12, 13, 14, 15, 16, 17, 18, 19, 20, 21, 22, 23, 24, 25, 26, 27, 28, 29, 30, 31] (by decide) rfl (ci := 10) (q0 := 0) rfl rfl rfl) rfl rfl hl.1 rfl (lv_room (Nat.le_of_ble_eq_true rfl)) d_MD_sentence_188 ⟨Nat.le_of_ble_eq_true rfl, Nat.le_of_ble_eq_true rfl⟩) (fun H locs hP hD hS => ?_)
              have hP : va_P (dC, dI) vwCl (wd_MD g h0 q0 z0_188) H := hP
              have hD : va_D A (wd_MD g h0 q0 z0_188) := hD
              obtain rfl := Option.some.inj hm
              rw [hQ]
              exact krv hx hb hr hlocks hAe hP hK hD hS d_MD_sentence_191
          · replace hm := if_t hm hc
            refine lv_aload_n hx hb d_MD_sentence_149 rfl (lv_at hl 0 rfl) ?_
            refine lv_bipush (v := (38 : Int32)) hx hb d_MD_sentence_150 (by decide) ?_
            obtain ⟨z0_152, hcl, hm⟩ := bn1_s hm
            refine kcv (wc := wd_MD g h0 q0 z0_38) (wr := ([] : va_W)) (w1 := wd_MD g h0 q0 z0_152) hP hD hS hA [0, 1, 2, 3, 4, 5, 6, 7, 8, 9, 10, 11, 12, 13, 14, 15, 16, 17, 18, 19, 20, 21, 22, 23, 24, 25, 26, 27, 28, 29, 30, 31] [] rfl rfl (by decide) (by decide) (va_runV (As := [.int (38 : Int32)]) (rest := []) ⟨hx, hb, hml, hown, hts⟩ (c_MD_letter hG hGn l dC dI g F H.size h0 q0 z0_38 (38 : Int32) hcl) (cwV 1 hts (gdV k5_181 k5_183 kp_24 k1_10 k5_184) rfl rfl rfl (by decide +kernel) ⟨Nat.le_of_ble_eq_true rfl, Nat.le_of_ble_eq_true rfl⟩) (kpV hG hP hK hD hS hA hGA [0, 1, 2, 3, 4, 5, 6, 7, 8, 9, 10, 11, 12, 13, 14, 15, 16, 17, 18, 19, 20, 21, 22, 23, 24, 25, 26, 27, 28, 29, 30, 31] (by decide) rfl (ci := 10) (q0 := 0) rfl rfl rfl) rfl rfl hl.1 rfl (lv_room (Nat.le_of_ble_eq_true rfl)) d_MD_sentence_152 ⟨Nat.le_of_ble_eq_true rfl, Nat.le_of_ble_eq_true rfl⟩) (fun H locs hP hD hS => ?_)
            have hP : va_P (dC, dI) vwCl (wd_MD g h0 q0 z0_152) H := hP
            have hD : va_D A (wd_MD g h0 q0 z0_152) := hD
            refine lv_aload_n hx hb d_MD_sentence_155 rfl (lv_at hl 0 rfl) ?_
            refine lv_bipush (v := (32 : Int32)) hx hb d_MD_sentence_156 (by decide) ?_
            obtain ⟨z0_158, hcl, hm⟩ := bn1_s hm
            refine kcv (wc := wd_MD g h0 q0 z0_152) (wr := ([] : va_W)) (w1 := wd_MD g h0 q0 z0_158) hP hD hS hA [0, 1, 2, 3, 4, 5, 6, 7, 8, 9, 10, 11, 12, 13, 14, 15, 16, 17, 18, 19, 20, 21, 22, 23, 24, 25, 26, 27, 28, 29, 30, 31] [] rfl rfl (by decide) (by decide) (va_runV (As := [.int (32 : Int32)]) (rest := []) ⟨hx, hb, hml, hown, hts⟩ (c_MD_letter hG hGn l dC dI g F H.size h0 q0 z0_152 (32 : Int32) hcl) (cwV 1 hts (gdV k5_181 k5_183 kp_24 k1_10 k5_184) rfl rfl rfl (by decide +kernel) ⟨Nat.le_of_ble_eq_true rfl, Nat.le_of_ble_eq_true rfl⟩) (kpV hG hP hK hD hS hA hGA [0, 1, 2, 3, 4, 5, 6, 7, 8, 9, 10, 11, 12, 13, 14, 15, 16, 17, 18, 19, 20, 21, 22, 23, 24, 25, 26, 27, 28, 29, 30, 31] (by decide) rfl (ci := 10) (q0 := 0) rfl rfl rfl) rfl rfl hl.1 rfl (lv_room (Nat.le_of_ble_eq_true rfl)) d_MD_sentence_158 ⟨Nat.le_of_ble_eq_true rfl, Nat.le_of_ble_eq_true rfl⟩) (fun H locs hP hD hS => ?_)
            have hP : va_P (dC, dI) vwCl (wd_MD g h0 q0 z0_158) H := hP
            have hD : va_D A (wd_MD g h0 q0 z0_158) := hD
            refine lv_aload_n hx hb d_MD_sentence_161 rfl (lv_at hl 0 rfl) ?_
            refine lv_iload_n hx hb d_MD_sentence_162 rfl (lv_at hl 3 rfl) ?_
            obtain ⟨z0_163, hcl, hm⟩ := bn1_s hm
            refine kcv (wc := wd_MD g h0 q0 z0_158) (wr := ([] : va_W)) (w1 := wd_MD g h0 q0 z0_163) hP hD hS hA [0, 1, 2, 3, 4, 5, 6, 7, 8, 9, 10, 11, 12, 13, 14, 15, 16, 17, 18, 19, 20, 21, 22, 23, 24, 25, 26, 27, 28, 29, 30, 31] [] rfl rfl (by decide) (by decide) (va_runV (As := [.int a3]) (rest := []) ⟨hx, hb, hml, hown, hts⟩ (c_MD_number hG hGn l dC dI g F H.size h0 q0 z0_158 a3 hcl) (cwV 1 hts (gdV k5_185 k5_187 kp_25 k1_10 k5_188) rfl rfl rfl (by decide +kernel) ⟨Nat.le_of_ble_eq_true rfl, Nat.le_of_ble_eq_true rfl⟩) (kpV hG hP hK hD hS hA hGA [0, 1, 2, 3, 4, 5, 6, 7, 8, 9, 10, 11, 12, 13, 14, 15, 16, 17, 18, 19, 20, 21, 22, 23, 24, 25, 26, 27, 28, 29, 30, 31] (by decide) rfl (ci := 10) (q0 := 0) rfl rfl rfl) rfl rfl hl.1 rfl (lv_room (Nat.le_of_ble_eq_true rfl)) d_MD_sentence_163 ⟨Nat.le_of_ble_eq_true rfl, Nat.le_of_ble_eq_true rfl⟩) (fun H locs hP hD hS => ?_)
            have hP : va_P (dC, dI) vwCl (wd_MD g h0 q0 z0_163) H := hP
            have hD : va_D A (wd_MD g h0 q0 z0_163) := hD
            refine lv_aload_n hx hb d_MD_sentence_166 rfl (lv_at hl 0 rfl) ?_
            refine lv_ldc (v := (628196 : Int32)) hx hb hown (hts _ k5_193) d_MD_sentence_167 ?_
            obtain ⟨z0_169, hcl, hm⟩ := bn1_s hm
            refine kcv (wc := wd_MD g h0 q0 z0_163) (wr := ([] : va_W)) (w1 := wd_MD g h0 q0 z0_169) hP hD hS hA [0, 1, 2, 3, 4, 5, 6, 7, 8, 9, 10, 11, 12, 13, 14, 15, 16, 17, 18, 19, 20, 21, 22, 23, 24, 25, 26, 27, 28, 29, 30, 31] [] rfl rfl (by decide) (by decide) (va_runV (As := [.int (628196 : Int32)]) (rest := []) ⟨hx, hb, hml, hown, hts⟩ (c_MD_word hG hGn l dC dI g F H.size h0 q0 z0_163 (628196 : Int32) hcl) (cwV 1 hts (gdV k5_177 k5_179 kp_23 k1_10 k5_180) rfl rfl rfl (by decide +kernel) ⟨Nat.le_of_ble_eq_true rfl, Nat.le_of_ble_eq_true rfl⟩) (kpV hG hP hK hD hS hA hGA [0, 1, 2, 3, 4, 5, 6, 7, 8, 9, 10, 11, 12, 13, 14, 15, 16, 17, 18, 19, 20, 21, 22, 23, 24, 25, 26, 27, 28, 29, 30, 31] (by decide) rfl (ci := 10) (q0 := 0) rfl rfl rfl) rfl rfl hl.1 rfl (lv_room (Nat.le_of_ble_eq_true rfl)) d_MD_sentence_169 ⟨Nat.le_of_ble_eq_true rfl, Nat.le_of_ble_eq_true rfl⟩) (fun H locs hP hD hS => ?_)
            have hP : va_P (dC, dI) vwCl (wd_MD g h0 q0 z0_169) H := hP
            have hD : va_D A (wd_MD g h0 q0 z0_169) := hD
            refine lv_aload_n hx hb d_MD_sentence_172 rfl (lv_at hl 0 rfl) ?_
            refine lv_iload_n hx hb d_MD_sentence_173 rfl (lv_at hl 1 rfl) ?_
            refine lv_iconst (v := (2 : Int32)) hx hb d_MD_sentence_174 (by decide) ?_
            refine lv_icmp_ne (tgt := 182) hx hb d_MD_sentence_175 (by decide) (fun hc => ?_) (fun hc => ?_)
            · replace hm := if_f hm hc
              refine lv_iload hx hb d_MD_sentence_182 (lv_at hl 4 rfl) ?_
              obtain ⟨z0_184, hcl, hm⟩ := bn1_s hm
              refine kcv (wc := wd_MD g h0 q0 z0_169) (wr := ([] : va_W)) (w1 := wd_MD g h0 q0 z0_184) hP hD hS hA [0, 1, 2, 3, 4, 5, 6, 7, 8, 9, 10, 11, 12, 13, 14, 15, 16, 17, 18, 19, 20, 21, 22, 23, 24, 25, 26, 27, 28, 29, 30, 31] [] rfl rfl (by decide) (by decide) (va_runV (As := [.int a4]) (rest := []) ⟨hx, hb, hml, hown, hts⟩ (c_MD_number hG hGn l dC dI g F H.size h0 q0 z0_169 a4 hcl) (cwV 1 hts (gdV k5_185 k5_187 kp_25 k1_10 k5_188) rfl rfl rfl (by decide +kernel) ⟨Nat.le_of_ble_eq_true rfl, Nat.le_of_ble_eq_true rfl⟩) (kpV hG hP hK hD hS hA hGA [0, 1, 2, 3, 4, 5, 6, 7, 8, 9, 10, 11, 12, 13, 14, 15, 16, 17, 18, 19, 20, 21, 22, 23, 24, 25, 26, 27, 28, 29, 30, 31] (by decide) rfl (ci := 10) (q0 := 0) rfl rfl rfl) rfl rfl hl.1 rfl (lv_room (Nat.le_of_ble_eq_true rfl)) d_MD_sentence_184 ⟨Nat.le_of_ble_eq_true rfl, Nat.le_of_ble_eq_true rfl⟩) (fun H locs hP hD hS => ?_)
              have hP : va_P (dC, dI) vwCl (wd_MD g h0 q0 z0_184) H := hP
              have hD : va_D A (wd_MD g h0 q0 z0_184) := hD
              refine lv_aload_n hx hb d_MD_sentence_187 rfl (lv_at hl 0 rfl) ?_
              obtain ⟨z0_188, hcl, hm⟩ := bn1_s hm
              refine kcv (wc := wd_MD g h0 q0 z0_184) (wr := ([] : va_W)) (w1 := wd_MD g h0 q0 z0_188) hP hD hS hA [0, 1, 2, 3, 4, 5, 6, 7, 8, 9, 10, 11, 12, 13, 14, 15, 16, 17, 18, 19, 20, 21, 22, 23, 24, 25, 26, 27, 28, 29, 30, 31] [] rfl rfl (by decide) (by decide) (va_runV (As := []) (rest := []) ⟨hx, hb, hml, hown, hts⟩ (c_MD_stop hG hGn l dC dI g F H.size h0 q0 z0_184 hcl) (cwV 0 hts (gdV k5_194 k5_196 kp_26 k1_10 k5_197) rfl rfl rfl (by decide +kernel) ⟨Nat.le_of_ble_eq_true rfl, Nat.le_of_ble_eq_true rfl⟩) (kpV hG hP hK hD hS hA hGA [0, 1, 2, 3, 4, 5, 6, 7, 8, 9, 10, 11, 12, 13, 14, 15, 16, 17, 18, 19, 20, 21, 22, 23, 24, 25, 26, 27, 28, 29, 30, 31] (by decide) rfl (ci := 10) (q0 := 0) rfl rfl rfl) rfl rfl hl.1 rfl (lv_room (Nat.le_of_ble_eq_true rfl)) d_MD_sentence_188 ⟨Nat.le_of_ble_eq_true rfl, Nat.le_of_ble_eq_true rfl⟩) (fun H locs hP hD hS => ?_)
              have hP : va_P (dC, dI) vwCl (wd_MD g h0 q0 z0_188) H := hP
              have hD : va_D A (wd_MD g h0 q0 z0_188) := hD
              obtain rfl := Option.some.inj hm
              rw [hQ]
              exact krv hx hb hr hlocks hAe hP hK hD hS d_MD_sentence_191
            · replace hm := if_t hm hc
              refine lv_iload_n hx hb d_MD_sentence_178 rfl (lv_at hl 3 rfl) ?_
              refine lv_goto (tgt := 184) hx hb d_MD_sentence_179 (by decide) ?_
              obtain ⟨z0_184, hcl, hm⟩ := bn1_s hm
              refine kcv (wc := wd_MD g h0 q0 z0_169) (wr := ([] : va_W)) (w1 := wd_MD g h0 q0 z0_184) hP hD hS hA [0, 1, 2, 3, 4, 5, 6, 7, 8, 9, 10, 11, 12, 13, 14, 15, 16, 17, 18, 19, 20, 21, 22, 23, 24, 25, 26, 27, 28, 29, 30, 31] [] rfl rfl (by decide) (by decide) (va_runV (As := [.int a3]) (rest := []) ⟨hx, hb, hml, hown, hts⟩ (c_MD_number hG hGn l dC dI g F H.size h0 q0 z0_169 a3 hcl) (cwV 1 hts (gdV k5_185 k5_187 kp_25 k1_10 k5_188) rfl rfl rfl (by decide +kernel) ⟨Nat.le_of_ble_eq_true rfl, Nat.le_of_ble_eq_true rfl⟩) (kpV hG hP hK hD hS hA hGA [0, 1, 2, 3, 4, 5, 6, 7, 8, 9, 10, 11, 12, 13, 14, 15, 16, 17, 18, 19, 20, 21, 22, 23, 24, 25, 26, 27, 28, 29, 30, 31] (by decide) rfl (ci := 10) (q0 := 0) rfl rfl rfl) rfl rfl hl.1 rfl (lv_room (Nat.le_of_ble_eq_true rfl)) d_MD_sentence_184 ⟨Nat.le_of_ble_eq_true rfl, Nat.le_of_ble_eq_true rfl⟩) (fun H locs hP hD hS => ?_)
              have hP : va_P (dC, dI) vwCl (wd_MD g h0 q0 z0_184) H := hP
              have hD : va_D A (wd_MD g h0 q0 z0_184) := hD
              refine lv_aload_n hx hb d_MD_sentence_187 rfl (lv_at hl 0 rfl) ?_
              obtain ⟨z0_188, hcl, hm⟩ := bn1_s hm
              refine kcv (wc := wd_MD g h0 q0 z0_184) (wr := ([] : va_W)) (w1 := wd_MD g h0 q0 z0_188) hP hD hS hA [0, 1, 2, 3, 4, 5, 6, 7, 8, 9, 10, 11, 12, 13, 14, 15, 16, 17, 18, 19, 20, 21, 22, 23, 24, 25, 26, 27, 28, 29, 30, 31] [] rfl rfl (by decide) (by decide) (va_runV (As := []) (rest := []) ⟨hx, hb, hml, hown, hts⟩ (c_MD_stop hG hGn l dC dI g F H.size h0 q0 z0_184 hcl) (cwV 0 hts (gdV k5_194 k5_196 kp_26 k1_10 k5_197) rfl rfl rfl (by decide +kernel) ⟨Nat.le_of_ble_eq_true rfl, Nat.le_of_ble_eq_true rfl⟩) (kpV hG hP hK hD hS hA hGA [0, 1, 2, 3, 4, 5, 6, 7, 8, 9, 10, 11, 12, 13, 14, 15, 16, 17, 18, 19, 20, 21, 22, 23, 24, 25, 26, 27, 28, 29, 30, 31] (by decide) rfl (ci := 10) (q0 := 0) rfl rfl rfl) rfl rfl hl.1 rfl (lv_room (Nat.le_of_ble_eq_true rfl)) d_MD_sentence_188 ⟨Nat.le_of_ble_eq_true rfl, Nat.le_of_ble_eq_true rfl⟩) (fun H locs hP hD hS => ?_)
              have hP : va_P (dC, dI) vwCl (wd_MD g h0 q0 z0_188) H := hP
              have hD : va_D A (wd_MD g h0 q0 z0_188) := hD
              obtain rfl := Option.some.inj hm
              rw [hQ]
              exact krv hx hb hr hlocks hAe hP hK hD hS d_MD_sentence_191
        · replace hm := if_f hm hc
          refine lv_iload_n hx hb d_MD_sentence_139 rfl (lv_at hl 1 rfl) ?_
          refine lv_iconst (v := (3 : Int32)) hx hb d_MD_sentence_140 (by decide) ?_
          refine lv_icmp_ne (tgt := 187) hx hb d_MD_sentence_141 (by decide) (fun hc => ?_) (fun hc => ?_)
          · replace hm := if_f hm hc
            refine lv_aload_n hx hb d_MD_sentence_187 rfl (lv_at hl 0 rfl) ?_
            obtain ⟨z0_188, hcl, hm⟩ := bn1_s hm
            refine kcv (wc := wd_MD g h0 q0 z0_38) (wr := ([] : va_W)) (w1 := wd_MD g h0 q0 z0_188) hP hD hS hA [0, 1, 2, 3, 4, 5, 6, 7, 8, 9, 10, 11, 12, 13, 14, 15, 16, 17, 18, 19, 20, 21, 22, 23, 24, 25, 26, 27, 28, 29, 30, 31] [] rfl rfl (by decide) (by decide) (va_runV (As := []) (rest := []) ⟨hx, hb, hml, hown, hts⟩ (c_MD_stop hG hGn l dC dI g F H.size h0 q0 z0_38 hcl) (cwV 0 hts (gdV k5_194 k5_196 kp_26 k1_10 k5_197) rfl rfl rfl (by decide +kernel) ⟨Nat.le_of_ble_eq_true rfl, Nat.le_of_ble_eq_true rfl⟩) (kpV hG hP hK hD hS hA hGA [0, 1, 2, 3, 4, 5, 6, 7, 8, 9, 10, 11, 12, 13, 14, 15, 16, 17, 18, 19, 20, 21, 22, 23, 24, 25, 26, 27, 28, 29, 30, 31] (by decide) rfl (ci := 10) (q0 := 0) rfl rfl rfl) rfl rfl hl.1 rfl (lv_room (Nat.le_of_ble_eq_true rfl)) d_MD_sentence_188 ⟨Nat.le_of_ble_eq_true rfl, Nat.le_of_ble_eq_true rfl⟩) (fun H locs hP hD hS => ?_)
            have hP : va_P (dC, dI) vwCl (wd_MD g h0 q0 z0_188) H := hP
            have hD : va_D A (wd_MD g h0 q0 z0_188) := hD
            obtain rfl := Option.some.inj hm
            rw [hQ]
            exact krv hx hb hr hlocks hAe hP hK hD hS d_MD_sentence_191
          · replace hm := if_t hm hc
            refine lv_iload_n hx hb d_MD_sentence_144 rfl (lv_at hl 1 rfl) ?_
            refine lv_iconst (v := (3 : Int32)) hx hb d_MD_sentence_145 (by decide) ?_
            refine lv_icmp_ne (tgt := 166) hx hb d_MD_sentence_146 (by decide) (fun hc => ?_) (fun hc => ?_)
            · replace hm := if_f hm hc
              refine lv_aload_n hx hb d_MD_sentence_166 rfl (lv_at hl 0 rfl) ?_
              refine lv_ldc (v := (628196 : Int32)) hx hb hown (hts _ k5_193) d_MD_sentence_167 ?_
              obtain ⟨z0_169, hcl, hm⟩ := bn1_s hm
              refine kcv (wc := wd_MD g h0 q0 z0_38) (wr := ([] : va_W)) (w1 := wd_MD g h0 q0 z0_169) hP hD hS hA [0, 1, 2, 3, 4, 5, 6, 7, 8, 9, 10, 11, 12, 13, 14, 15, 16, 17, 18, 19, 20, 21, 22, 23, 24, 25, 26, 27, 28, 29, 30, 31] [] rfl rfl (by decide) (by decide) (va_runV (As := [.int (628196 : Int32)]) (rest := []) ⟨hx, hb, hml, hown, hts⟩ (c_MD_word hG hGn l dC dI g F H.size h0 q0 z0_38 (628196 : Int32) hcl) (cwV 1 hts (gdV k5_177 k5_179 kp_23 k1_10 k5_180) rfl rfl rfl (by decide +kernel) ⟨Nat.le_of_ble_eq_true rfl, Nat.le_of_ble_eq_true rfl⟩) (kpV hG hP hK hD hS hA hGA [0, 1, 2, 3, 4, 5, 6, 7, 8, 9, 10, 11, 12, 13, 14, 15, 16, 17, 18, 19, 20, 21, 22, 23, 24, 25, 26, 27, 28, 29, 30, 31] (by decide) rfl (ci := 10) (q0 := 0) rfl rfl rfl) rfl rfl hl.1 rfl (lv_room (Nat.le_of_ble_eq_true rfl)) d_MD_sentence_169 ⟨Nat.le_of_ble_eq_true rfl, Nat.le_of_ble_eq_true rfl⟩) (fun H locs hP hD hS => ?_)
              have hP : va_P (dC, dI) vwCl (wd_MD g h0 q0 z0_169) H := hP
              have hD : va_D A (wd_MD g h0 q0 z0_169) := hD
              refine lv_aload_n hx hb d_MD_sentence_172 rfl (lv_at hl 0 rfl) ?_
              refine lv_iload_n hx hb d_MD_sentence_173 rfl (lv_at hl 1 rfl) ?_
              refine lv_iconst (v := (2 : Int32)) hx hb d_MD_sentence_174 (by decide) ?_
              refine lv_icmp_ne (tgt := 182) hx hb d_MD_sentence_175 (by decide) (fun hc => ?_) (fun hc => ?_)
              · replace hm := if_f hm hc
                refine lv_iload hx hb d_MD_sentence_182 (lv_at hl 4 rfl) ?_
                obtain ⟨z0_184, hcl, hm⟩ := bn1_s hm
                refine kcv (wc := wd_MD g h0 q0 z0_169) (wr := ([] : va_W)) (w1 := wd_MD g h0 q0 z0_184) hP hD hS hA [0, 1, 2, 3, 4, 5, 6, 7, 8, 9, 10, 11, 12, 13, 14, 15, 16, 17, 18, 19, 20, 21, 22, 23, 24, 25, 26, 27, 28, 29, 30, 31] [] rfl rfl (by decide) (by decide) (va_runV (As := [.int a4]) (rest := []) ⟨hx, hb, hml, hown, hts⟩ (c_MD_number hG hGn l dC dI g F H.size h0 q0 z0_169 a4 hcl) (cwV 1 hts (gdV k5_185 k5_187 kp_25 k1_10 k5_188) rfl rfl rfl (by decide +kernel) ⟨Nat.le_of_ble_eq_true rfl, Nat.le_of_ble_eq_true rfl⟩) (kpV hG hP hK hD hS hA hGA [0, 1, 2, 3, 4, 5, 6, 7, 8, 9, 10, 11, 12, 13, 14, 15, 16, 17, 18, 19, 20, 21, 22, 23, 24, 25, 26, 27, 28, 29, 30, 31] (by decide) rfl (ci := 10) (q0 := 0) rfl rfl rfl) rfl rfl hl.1 rfl (lv_room (Nat.le_of_ble_eq_true rfl)) d_MD_sentence_184 ⟨Nat.le_of_ble_eq_true rfl, Nat.le_of_ble_eq_true rfl⟩) (fun H locs hP hD hS => ?_)
                have hP : va_P (dC, dI) vwCl (wd_MD g h0 q0 z0_184) H := hP
                have hD : va_D A (wd_MD g h0 q0 z0_184) := hD
                refine lv_aload_n hx hb d_MD_sentence_187 rfl (lv_at hl 0 rfl) ?_
                obtain ⟨z0_188, hcl, hm⟩ := bn1_s hm
                refine kcv (wc := wd_MD g h0 q0 z0_184) (wr := ([] : va_W)) (w1 := wd_MD g h0 q0 z0_188) hP hD hS hA [0, 1, 2, 3, 4, 5, 6, 7, 8, 9, 10, 11, 12, 13, 14, 15, 16, 17, 18, 19, 20, 21, 22, 23, 24, 25, 26, 27, 28, 29, 30, 31] [] rfl rfl (by decide) (by decide) (va_runV (As := []) (rest := []) ⟨hx, hb, hml, hown, hts⟩ (c_MD_stop hG hGn l dC dI g F H.size h0 q0 z0_184 hcl) (cwV 0 hts (gdV k5_194 k5_196 kp_26 k1_10 k5_197) rfl rfl rfl (by decide +kernel) ⟨Nat.le_of_ble_eq_true rfl, Nat.le_of_ble_eq_true rfl⟩) (kpV hG hP hK hD hS hA hGA [0, 1, 2, 3, 4, 5, 6, 7, 8, 9, 10, 11, 12, 13, 14, 15, 16, 17, 18, 19, 20, 21, 22, 23, 24, 25, 26, 27, 28, 29, 30, 31] (by decide) rfl (ci := 10) (q0 := 0) rfl rfl rfl) rfl rfl hl.1 rfl (lv_room (Nat.le_of_ble_eq_true rfl)) d_MD_sentence_188 ⟨Nat.le_of_ble_eq_true rfl, Nat.le_of_ble_eq_true rfl⟩) (fun H locs hP hD hS => ?_)
                have hP : va_P (dC, dI) vwCl (wd_MD g h0 q0 z0_188) H := hP
                have hD : va_D A (wd_MD g h0 q0 z0_188) := hD
                obtain rfl := Option.some.inj hm
                rw [hQ]
                exact krv hx hb hr hlocks hAe hP hK hD hS d_MD_sentence_191
              · replace hm := if_t hm hc
                refine lv_iload_n hx hb d_MD_sentence_178 rfl (lv_at hl 3 rfl) ?_
                refine lv_goto (tgt := 184) hx hb d_MD_sentence_179 (by decide) ?_
                obtain ⟨z0_184, hcl, hm⟩ := bn1_s hm
                refine kcv (wc := wd_MD g h0 q0 z0_169) (wr := ([] : va_W)) (w1 := wd_MD g h0 q0 z0_184) hP hD hS hA [0, 1, 2, 3, 4, 5, 6, 7, 8, 9, 10, 11, 12, 13, 14, 15, 16, 17, 18, 19, 20, 21, 22, 23, 24, 25, 26, 27, 28, 29, 30, 31] [] rfl rfl (by decide) (by decide) (va_runV (As := [.int a3]) (rest := []) ⟨hx, hb, hml, hown, hts⟩ (c_MD_number hG hGn l dC dI g F H.size h0 q0 z0_169 a3 hcl) (cwV 1 hts (gdV k5_185 k5_187 kp_25 k1_10 k5_188) rfl rfl rfl (by decide +kernel) ⟨Nat.le_of_ble_eq_true rfl, Nat.le_of_ble_eq_true rfl⟩) (kpV hG hP hK hD hS hA hGA [0, 1, 2, 3, 4, 5, 6, 7, 8, 9, 10, 11, 12, 13, 14, 15, 16, 17, 18, 19, 20, 21, 22, 23, 24, 25, 26, 27, 28, 29, 30, 31] (by decide) rfl (ci := 10) (q0 := 0) rfl rfl rfl) rfl rfl hl.1 rfl (lv_room (Nat.le_of_ble_eq_true rfl)) d_MD_sentence_184 ⟨Nat.le_of_ble_eq_true rfl, Nat.le_of_ble_eq_true rfl⟩) (fun H locs hP hD hS => ?_)
                have hP : va_P (dC, dI) vwCl (wd_MD g h0 q0 z0_184) H := hP
                have hD : va_D A (wd_MD g h0 q0 z0_184) := hD
                refine lv_aload_n hx hb d_MD_sentence_187 rfl (lv_at hl 0 rfl) ?_
                obtain ⟨z0_188, hcl, hm⟩ := bn1_s hm
                refine kcv (wc := wd_MD g h0 q0 z0_184) (wr := ([] : va_W)) (w1 := wd_MD g h0 q0 z0_188) hP hD hS hA [0, 1, 2, 3, 4, 5, 6, 7, 8, 9, 10, 11, 12, 13, 14, 15, 16, 17, 18, 19, 20, 21, 22, 23, 24, 25, 26, 27, 28, 29, 30, 31] [] rfl rfl (by decide) (by decide) (va_runV (As := []) (rest := []) ⟨hx, hb, hml, hown, hts⟩ (c_MD_stop hG hGn l dC dI g F H.size h0 q0 z0_184 hcl) (cwV 0 hts (gdV k5_194 k5_196 kp_26 k1_10 k5_197) rfl rfl rfl (by decide +kernel) ⟨Nat.le_of_ble_eq_true rfl, Nat.le_of_ble_eq_true rfl⟩) (kpV hG hP hK hD hS hA hGA [0, 1, 2, 3, 4, 5, 6, 7, 8, 9, 10, 11, 12, 13, 14, 15, 16, 17, 18, 19, 20, 21, 22, 23, 24, 25, 26, 27, 28, 29, 30, 31] (by decide) rfl (ci := 10) (q0 := 0) rfl rfl rfl) rfl rfl hl.1 rfl (lv_room (Nat.le_of_ble_eq_true rfl)) d_MD_sentence_188 ⟨Nat.le_of_ble_eq_true rfl, Nat.le_of_ble_eq_true rfl⟩) (fun H locs hP hD hS => ?_)
                have hP : va_P (dC, dI) vwCl (wd_MD g h0 q0 z0_188) H := hP
                have hD : va_D A (wd_MD g h0 q0 z0_188) := hD
                obtain rfl := Option.some.inj hm
                rw [hQ]
                exact krv hx hb hr hlocks hAe hP hK hD hS d_MD_sentence_191
            · replace hm := if_t hm hc
              refine lv_aload_n hx hb d_MD_sentence_149 rfl (lv_at hl 0 rfl) ?_
              refine lv_bipush (v := (38 : Int32)) hx hb d_MD_sentence_150 (by decide) ?_
              obtain ⟨z0_152, hcl, hm⟩ := bn1_s hm
              refine kcv (wc := wd_MD g h0 q0 z0_38) (wr := ([] : va_W)) (w1 := wd_MD g h0 q0 z0_152) hP hD hS hA [0, 1, 2, 3, 4, 5, 6, 7, 8, 9, 10, 11, 12, 13, 14, 15, 16, 17, 18, 19, 20, 21, 22, 23, 24, 25, 26, 27, 28, 29, 30, 31] [] rfl rfl (by decide) (by decide) (va_runV (As := [.int (38 : Int32)]) (rest := []) ⟨hx, hb, hml, hown, hts⟩ (c_MD_letter hG hGn l dC dI g F H.size h0 q0 z0_38 (38 : Int32) hcl) (cwV 1 hts (gdV k5_181 k5_183 kp_24 k1_10 k5_184) rfl rfl rfl (by decide +kernel) ⟨Nat.le_of_ble_eq_true rfl, Nat.le_of_ble_eq_true rfl⟩) (kpV hG hP hK hD hS hA hGA [0, 1, 2, 3, 4, 5, 6, 7, 8, 9, 10, 11, 12, 13, 14, 15, 16, 17, 18, 19, 20, 21, 22, 23, 24, 25, 26, 27, 28, 29, 30, 31] (by decide) rfl (ci := 10) (q0 := 0) rfl rfl rfl) rfl rfl hl.1 rfl (lv_room (Nat.le_of_ble_eq_true rfl)) d_MD_sentence_152 ⟨Nat.le_of_ble_eq_true rfl, Nat.le_of_ble_eq_true rfl⟩) (fun H locs hP hD hS => ?_)
              have hP : va_P (dC, dI) vwCl (wd_MD g h0 q0 z0_152) H := hP
              have hD : va_D A (wd_MD g h0 q0 z0_152) := hD
              refine lv_aload_n hx hb d_MD_sentence_155 rfl (lv_at hl 0 rfl) ?_
              refine lv_bipush (v := (32 : Int32)) hx hb d_MD_sentence_156 (by decide) ?_
              obtain ⟨z0_158, hcl, hm⟩ := bn1_s hm
              refine kcv (wc := wd_MD g h0 q0 z0_152) (wr := ([] : va_W)) (w1 := wd_MD g h0 q0 z0_158) hP hD hS hA [0, 1, 2, 3, 4, 5, 6, 7, 8, 9, 10, 11, 12, 13, 14, 15, 16, 17, 18, 19, 20, 21, 22, 23, 24, 25, 26, 27, 28, 29, 30, 31] [] rfl rfl (by decide) (by decide) (va_runV (As := [.int (32 : Int32)]) (rest := []) ⟨hx, hb, hml, hown, hts⟩ (c_MD_letter hG hGn l dC dI g F H.size h0 q0 z0_152 (32 : Int32) hcl) (cwV 1 hts (gdV k5_181 k5_183 kp_24 k1_10 k5_184) rfl rfl rfl (by decide +kernel) ⟨Nat.le_of_ble_eq_true rfl, Nat.le_of_ble_eq_true rfl⟩) (kpV hG hP hK hD hS hA hGA [0, 1, 2, 3, 4, 5, 6, 7, 8, 9, 10, 11, 12, 13, 14, 15, 16, 17, 18, 19, 20, 21, 22, 23, 24, 25, 26, 27, 28, 29, 30, 31] (by decide) rfl (ci := 10) (q0 := 0) rfl rfl rfl) rfl rfl hl.1 rfl (lv_room (Nat.le_of_ble_eq_true rfl)) d_MD_sentence_158 ⟨Nat.le_of_ble_eq_true rfl, Nat.le_of_ble_eq_true rfl⟩) (fun H locs hP hD hS => ?_)
              have hP : va_P (dC, dI) vwCl (wd_MD g h0 q0 z0_158) H := hP
              have hD : va_D A (wd_MD g h0 q0 z0_158) := hD
              refine lv_aload_n hx hb d_MD_sentence_161 rfl (lv_at hl 0 rfl) ?_
              refine lv_iload_n hx hb d_MD_sentence_162 rfl (lv_at hl 3 rfl) ?_
              obtain ⟨z0_163, hcl, hm⟩ := bn1_s hm
              refine kcv (wc := wd_MD g h0 q0 z0_158) (wr := ([] : va_W)) (w1 := wd_MD g h0 q0 z0_163) hP hD hS hA [0, 1, 2, 3, 4, 5, 6, 7, 8, 9, 10, 11, 12, 13, 14, 15, 16, 17, 18, 19, 20, 21, 22, 23, 24, 25, 26, 27, 28, 29, 30, 31] [] rfl rfl (by decide) (by decide) (va_runV (As := [.int a3]) (rest := []) ⟨hx, hb, hml, hown, hts⟩ (c_MD_number hG hGn l dC dI g F H.size h0 q0 z0_158 a3 hcl) (cwV 1 hts (gdV k5_185 k5_187 kp_25 k1_10 k5_188) rfl rfl rfl (by decide +kernel) ⟨Nat.le_of_ble_eq_true rfl, Nat.le_of_ble_eq_true rfl⟩) (kpV hG hP hK hD hS hA hGA [0, 1, 2, 3, 4, 5, 6, 7, 8, 9, 10, 11, 12, 13, 14, 15, 16, 17, 18, 19, 20, 21, 22, 23, 24, 25, 26, 27, 28, 29, 30, 31] (by decide) rfl (ci := 10) (q0 := 0) rfl rfl rfl) rfl rfl hl.1 rfl (lv_room (Nat.le_of_ble_eq_true rfl)) d_MD_sentence_163 ⟨Nat.le_of_ble_eq_true rfl, Nat.le_of_ble_eq_true rfl⟩) (fun H locs hP hD hS => ?_)
              have hP : va_P (dC, dI) vwCl (wd_MD g h0 q0 z0_163) H := hP
              have hD : va_D A (wd_MD g h0 q0 z0_163) := hD
              refine lv_aload_n hx hb d_MD_sentence_166 rfl (lv_at hl 0 rfl) ?_
              refine lv_ldc (v := (628196 : Int32)) hx hb hown (hts _ k5_193) d_MD_sentence_167 ?_
              obtain ⟨z0_169, hcl, hm⟩ := bn1_s hm
              refine kcv (wc := wd_MD g h0 q0 z0_163) (wr := ([] : va_W)) (w1 := wd_MD g h0 q0 z0_169) hP hD hS hA [0, 1, 2, 3, 4, 5, 6, 7, 8, 9, 10, 11, 12, 13, 14, 15, 16, 17, 18, 19, 20, 21, 22, 23, 24, 25, 26, 27, 28, 29, 30, 31] [] rfl rfl (by decide) (by decide) (va_runV (As := [.int (628196 : Int32)]) (rest := []) ⟨hx, hb, hml, hown, hts⟩ (c_MD_word hG hGn l dC dI g F H.size h0 q0 z0_163 (628196 : Int32) hcl) (cwV 1 hts (gdV k5_177 k5_179 kp_23 k1_10 k5_180) rfl rfl rfl (by decide +kernel) ⟨Nat.le_of_ble_eq_true rfl, Nat.le_of_ble_eq_true rfl⟩) (kpV hG hP hK hD hS hA hGA [0, 1, 2, 3, 4, 5, 6, 7, 8, 9, 10, 11, 12, 13, 14, 15, 16, 17, 18, 19, 20, 21, 22, 23, 24, 25, 26, 27, 28, 29, 30, 31] (by decide) rfl (ci := 10) (q0 := 0) rfl rfl rfl) rfl rfl hl.1 rfl (lv_room (Nat.le_of_ble_eq_true rfl)) d_MD_sentence_169 ⟨Nat.le_of_ble_eq_true rfl, Nat.le_of_ble_eq_true rfl⟩) (fun H locs hP hD hS => ?_)
              have hP : va_P (dC, dI) vwCl (wd_MD g h0 q0 z0_169) H := hP
              have hD : va_D A (wd_MD g h0 q0 z0_169) := hD
              refine lv_aload_n hx hb d_MD_sentence_172 rfl (lv_at hl 0 rfl) ?_
              refine lv_iload_n hx hb d_MD_sentence_173 rfl (lv_at hl 1 rfl) ?_
              refine lv_iconst (v := (2 : Int32)) hx hb d_MD_sentence_174 (by decide) ?_
              refine lv_icmp_ne (tgt := 182) hx hb d_MD_sentence_175 (by decide) (fun hc => ?_) (fun hc => ?_)
              · replace hm := if_f hm hc
                refine lv_iload hx hb d_MD_sentence_182 (lv_at hl 4 rfl) ?_
                obtain ⟨z0_184, hcl, hm⟩ := bn1_s hm
                refine kcv (wc := wd_MD g h0 q0 z0_169) (wr := ([] : va_W)) (w1 := wd_MD g h0 q0 z0_184) hP hD hS hA [0, 1, 2, 3, 4, 5, 6, 7, 8, 9, 10, 11, 12, 13, 14, 15, 16, 17, 18, 19, 20, 21, 22, 23, 24, 25, 26, 27, 28, 29, 30, 31] [] rfl rfl (by decide) (by decide) (va_runV (As := [.int a4]) (rest := []) ⟨hx, hb, hml, hown, hts⟩ (c_MD_number hG hGn l dC dI g F H.size h0 q0 z0_169 a4 hcl) (cwV 1 hts (gdV k5_185 k5_187 kp_25 k1_10 k5_188) rfl rfl rfl (by decide +kernel) ⟨Nat.le_of_ble_eq_true rfl, Nat.le_of_ble_eq_true rfl⟩) (kpV hG hP hK hD hS hA hGA [0, 1, 2, 3, 4, 5, 6, 7, 8, 9, 10, 11, 12, 13, 14, 15, 16, 17, 18, 19, 20, 21, 22, 23, 24, 25, 26, 27, 28, 29, 30, 31] (by decide) rfl (ci := 10) (q0 := 0) rfl rfl rfl) rfl rfl hl.1 rfl (lv_room (Nat.le_of_ble_eq_true rfl)) d_MD_sentence_184 ⟨Nat.le_of_ble_eq_true rfl, Nat.le_of_ble_eq_true rfl⟩) (fun H locs hP hD hS => ?_)
                have hP : va_P (dC, dI) vwCl (wd_MD g h0 q0 z0_184) H := hP
                have hD : va_D A (wd_MD g h0 q0 z0_184) := hD
                refine lv_aload_n hx hb d_MD_sentence_187 rfl (lv_at hl 0 rfl) ?_
                obtain ⟨z0_188, hcl, hm⟩ := bn1_s hm
                refine kcv (wc := wd_MD g h0 q0 z0_184) (wr := ([] : va_W)) (w1 := wd_MD g h0 q0 z0_188) hP hD hS hA [0, 1, 2, 3, 4, 5, 6, 7, 8, 9, 10, 11, 12, 13, 14, 15, 16, 17, 18, 19, 20, 21, 22, 23, 24, 25, 26, 27, 28, 29, 30, 31] [] rfl rfl (by decide) (by decide) (va_runV (As := []) (rest := []) ⟨hx, hb, hml, hown, hts⟩ (c_MD_stop hG hGn l dC dI g F H.size h0 q0 z0_184 hcl) (cwV 0 hts (gdV k5_194 k5_196 kp_26 k1_10 k5_197) rfl rfl rfl (by decide +kernel) ⟨Nat.le_of_ble_eq_true rfl, Nat.le_of_ble_eq_true rfl⟩) (kpV hG hP hK hD hS hA hGA [0, 1, 2, 3, 4, 5, 6, 7, 8, 9, 10, 11, 12, 13, 14, 15, 16, 17, 18, 19, 20, 21, 22, 23, 24, 25, 26, 27, 28, 29, 30, 31] (by decide) rfl (ci := 10) (q0 := 0) rfl rfl rfl) rfl rfl hl.1 rfl (lv_room (Nat.le_of_ble_eq_true rfl)) d_MD_sentence_188 ⟨Nat.le_of_ble_eq_true rfl, Nat.le_of_ble_eq_true rfl⟩) (fun H locs hP hD hS => ?_)
                have hP : va_P (dC, dI) vwCl (wd_MD g h0 q0 z0_188) H := hP
                have hD : va_D A (wd_MD g h0 q0 z0_188) := hD
                obtain rfl := Option.some.inj hm
                rw [hQ]
                exact krv hx hb hr hlocks hAe hP hK hD hS d_MD_sentence_191
              · replace hm := if_t hm hc
                refine lv_iload_n hx hb d_MD_sentence_178 rfl (lv_at hl 3 rfl) ?_
                refine lv_goto (tgt := 184) hx hb d_MD_sentence_179 (by decide) ?_
                obtain ⟨z0_184, hcl, hm⟩ := bn1_s hm
                refine kcv (wc := wd_MD g h0 q0 z0_169) (wr := ([] : va_W)) (w1 := wd_MD g h0 q0 z0_184) hP hD hS hA [0, 1, 2, 3, 4, 5, 6, 7, 8, 9, 10, 11, 12, 13, 14, 15, 16, 17, 18, 19, 20, 21, 22, 23, 24, 25, 26, 27, 28, 29, 30, 31] [] rfl rfl (by decide) (by decide) (va_runV (As := [.int a3]) (rest := []) ⟨hx, hb, hml, hown, hts⟩ (c_MD_number hG hGn l dC dI g F H.size h0 q0 z0_169 a3 hcl) (cwV 1 hts (gdV k5_185 k5_187 kp_25 k1_10 k5_188) rfl rfl rfl (by decide +kernel) ⟨Nat.le_of_ble_eq_true rfl, Nat.le_of_ble_eq_true rfl⟩) (kpV hG hP hK hD hS hA hGA [0, 1, 2, 3, 4, 5, 6, 7, 8, 9, 10, 11, 12, 13, 14, 15, 16, 17, 18, 19, 20, 21, 22, 23, 24, 25, 26, 27, 28, 29, 30, 31] (by decide) rfl (ci := 10) (q0 := 0) rfl rfl rfl) rfl rfl hl.1 rfl (lv_room (Nat.le_of_ble_eq_true rfl)) d_MD_sentence_184 ⟨Nat.le_of_ble_eq_true rfl, Nat.le_of_ble_eq_true rfl⟩) (fun H locs hP hD hS => ?_)
                have hP : va_P (dC, dI) vwCl (wd_MD g h0 q0 z0_184) H := hP
                have hD : va_D A (wd_MD g h0 q0 z0_184) := hD
                refine lv_aload_n hx hb d_MD_sentence_187 rfl (lv_at hl 0 rfl) ?_
                obtain ⟨z0_188, hcl, hm⟩ := bn1_s hm
                refine kcv (wc := wd_MD g h0 q0 z0_184) (wr := ([] : va_W)) (w1 := wd_MD g h0 q0 z0_188) hP hD hS hA [0, 1, 2, 3, 4, 5, 6, 7, 8, 9, 10, 11, 12, 13, 14, 15, 16, 17, 18, 19, 20, 21, 22, 23, 24, 25, 26, 27, 28, 29, 30, 31] [] rfl rfl (by decide) (by decide) (va_runV (As := []) (rest := []) ⟨hx, hb, hml, hown, hts⟩ (c_MD_stop hG hGn l dC dI g F H.size h0 q0 z0_184 hcl) (cwV 0 hts (gdV k5_194 k5_196 kp_26 k1_10 k5_197) rfl rfl rfl (by decide +kernel) ⟨Nat.le_of_ble_eq_true rfl, Nat.le_of_ble_eq_true rfl⟩) (kpV hG hP hK hD hS hA hGA [0, 1, 2, 3, 4, 5, 6, 7, 8, 9, 10, 11, 12, 13, 14, 15, 16, 17, 18, 19, 20, 21, 22, 23, 24, 25, 26, 27, 28, 29, 30, 31] (by decide) rfl (ci := 10) (q0 := 0) rfl rfl rfl) rfl rfl hl.1 rfl (lv_room (Nat.le_of_ble_eq_true rfl)) d_MD_sentence_188 ⟨Nat.le_of_ble_eq_true rfl, Nat.le_of_ble_eq_true rfl⟩) (fun H locs hP hD hS => ?_)
                have hP : va_P (dC, dI) vwCl (wd_MD g h0 q0 z0_188) H := hP
                have hD : va_D A (wd_MD g h0 q0 z0_188) := hD
                obtain rfl := Option.some.inj hm
                rw [hQ]
                exact krv hx hb hr hlocks hAe hP hK hD hS d_MD_sentence_191
      · replace hm := if_t hm hc
        refine lv_aload_n hx hb d_MD_sentence_96 rfl (lv_at hl 0 rfl) ?_
        refine lv_ldc (v := (145707 : Int32)) hx hb hown (hts _ k5_190) d_MD_sentence_97 ?_
        obtain ⟨z0_99, hcl, hm⟩ := bn1_s hm
        refine kcv (wc := wd_MD g h0 q0 z0_38) (wr := ([] : va_W)) (w1 := wd_MD g h0 q0 z0_99) hP hD hS hA [0, 1, 2, 3, 4, 5, 6, 7, 8, 9, 10, 11, 12, 13, 14, 15, 16, 17, 18, 19, 20, 21, 22, 23, 24, 25, 26, 27, 28, 29, 30, 31] [] rfl rfl (by decide) (by decide) (va_runV (As := [.int (145707 : Int32)]) (rest := []) ⟨hx, hb, hml, hown, hts⟩ (c_MD_word hG hGn l dC dI g F H.size h0 q0 z0_38 (145707 : Int32) hcl) (cwV 1 hts (gdV k5_177 k5_179 kp_23 k1_10 k5_180) rfl rfl rfl (by decide +kernel) ⟨Nat.le_of_ble_eq_true rfl, Nat.le_of_ble_eq_true rfl⟩) (kpV hG hP hK hD hS hA hGA [0, 1, 2, 3, 4, 5, 6, 7, 8, 9, 10, 11, 12, 13, 14, 15, 16, 17, 18, 19, 20, 21, 22, 23, 24, 25, 26, 27, 28, 29, 30, 31] (by decide) rfl (ci := 10) (q0 := 0) rfl rfl rfl) rfl rfl hl.1 rfl (lv_room (Nat.le_of_ble_eq_true rfl)) d_MD_sentence_99 ⟨Nat.le_of_ble_eq_true rfl, Nat.le_of_ble_eq_true rfl⟩) (fun H locs hP hD hS => ?_)
        have hP : va_P (dC, dI) vwCl (wd_MD g h0 q0 z0_99) H := hP
        have hD : va_D A (wd_MD g h0 q0 z0_99) := hD
        refine lv_aload_n hx hb d_MD_sentence_102 rfl (lv_at hl 0 rfl) ?_
        refine lv_iload_n hx hb d_MD_sentence_103 rfl (lv_at hl 3 rfl) ?_
        obtain ⟨z0_104, hcl, hm⟩ := bn1_s hm
        refine kcv (wc := wd_MD g h0 q0 z0_99) (wr := ([] : va_W)) (w1 := wd_MD g h0 q0 z0_104) hP hD hS hA [0, 1, 2, 3, 4, 5, 6, 7, 8, 9, 10, 11, 12, 13, 14, 15, 16, 17, 18, 19, 20, 21, 22, 23, 24, 25, 26, 27, 28, 29, 30, 31] [] rfl rfl (by decide) (by decide) (va_runV (As := [.int a3]) (rest := []) ⟨hx, hb, hml, hown, hts⟩ (c_MD_number hG hGn l dC dI g F H.size h0 q0 z0_99 a3 hcl) (cwV 1 hts (gdV k5_185 k5_187 kp_25 k1_10 k5_188) rfl rfl rfl (by decide +kernel) ⟨Nat.le_of_ble_eq_true rfl, Nat.le_of_ble_eq_true rfl⟩) (kpV hG hP hK hD hS hA hGA [0, 1, 2, 3, 4, 5, 6, 7, 8, 9, 10, 11, 12, 13, 14, 15, 16, 17, 18, 19, 20, 21, 22, 23, 24, 25, 26, 27, 28, 29, 30, 31] (by decide) rfl (ci := 10) (q0 := 0) rfl rfl rfl) rfl rfl hl.1 rfl (lv_room (Nat.le_of_ble_eq_true rfl)) d_MD_sentence_104 ⟨Nat.le_of_ble_eq_true rfl, Nat.le_of_ble_eq_true rfl⟩) (fun H locs hP hD hS => ?_)
        have hP : va_P (dC, dI) vwCl (wd_MD g h0 q0 z0_104) H := hP
        have hD : va_D A (wd_MD g h0 q0 z0_104) := hD
        refine lv_aload_n hx hb d_MD_sentence_107 rfl (lv_at hl 0 rfl) ?_
        refine lv_ldc (v := (374834 : Int32)) hx hb hown (hts _ k5_191) d_MD_sentence_108 ?_
        obtain ⟨z0_110, hcl, hm⟩ := bn1_s hm
        refine kcv (wc := wd_MD g h0 q0 z0_104) (wr := ([] : va_W)) (w1 := wd_MD g h0 q0 z0_110) hP hD hS hA [0, 1, 2, 3, 4, 5, 6, 7, 8, 9, 10, 11, 12, 13, 14, 15, 16, 17, 18, 19, 20, 21, 22, 23, 24, 25, 26, 27, 28, 29, 30, 31] [] rfl rfl (by decide) (by decide) (va_runV (As := [.int (374834 : Int32)]) (rest := []) ⟨hx, hb, hml, hown, hts⟩ (c_MD_word hG hGn l dC dI g F H.size h0 q0 z0_104 (374834 : Int32) hcl) (cwV 1 hts (gdV k5_177 k5_179 kp_23 k1_10 k5_180) rfl rfl rfl (by decide +kernel) ⟨Nat.le_of_ble_eq_true rfl, Nat.le_of_ble_eq_true rfl⟩) (kpV hG hP hK hD hS hA hGA [0, 1, 2, 3, 4, 5, 6, 7, 8, 9, 10, 11, 12, 13, 14, 15, 16, 17, 18, 19, 20, 21, 22, 23, 24, 25, 26, 27, 28, 29, 30, 31] (by decide) rfl (ci := 10) (q0 := 0) rfl rfl rfl) rfl rfl hl.1 rfl (lv_room (Nat.le_of_ble_eq_true rfl)) d_MD_sentence_110 ⟨Nat.le_of_ble_eq_true rfl, Nat.le_of_ble_eq_true rfl⟩) (fun H locs hP hD hS => ?_)
        have hP : va_P (dC, dI) vwCl (wd_MD g h0 q0 z0_110) H := hP
        have hD : va_D A (wd_MD g h0 q0 z0_110) := hD
        refine lv_aload_n hx hb d_MD_sentence_113 rfl (lv_at hl 0 rfl) ?_
        refine lv_iload hx hb d_MD_sentence_114 (lv_at hl 4 rfl) ?_
        obtain ⟨z0_116, hcl, hm⟩ := bn1_s hm
        refine kcv (wc := wd_MD g h0 q0 z0_110) (wr := ([] : va_W)) (w1 := wd_MD g h0 q0 z0_116) hP hD hS hA [0, 1, 2, 3, 4, 5, 6, 7, 8, 9, 10, 11, 12, 13, 14, 15, 16, 17, 18, 19, 20, 21, 22, 23, 24, 25, 26, 27, 28, 29, 30, 31] [] rfl rfl (by decide) (by decide) (va_runV (As := [.int a4]) (rest := []) ⟨hx, hb, hml, hown, hts⟩ (c_MD_number hG hGn l dC dI g F H.size h0 q0 z0_110 a4 hcl) (cwV 1 hts (gdV k5_185 k5_187 kp_25 k1_10 k5_188) rfl rfl rfl (by decide +kernel) ⟨Nat.le_of_ble_eq_true rfl, Nat.le_of_ble_eq_true rfl⟩) (kpV hG hP hK hD hS hA hGA [0, 1, 2, 3, 4, 5, 6, 7, 8, 9, 10, 11, 12, 13, 14, 15, 16, 17, 18, 19, 20, 21, 22, 23, 24, 25, 26, 27, 28, 29, 30, 31] (by decide) rfl (ci := 10) (q0 := 0) rfl rfl rfl) rfl rfl hl.1 rfl (lv_room (Nat.le_of_ble_eq_true rfl)) d_MD_sentence_116 ⟨Nat.le_of_ble_eq_true rfl, Nat.le_of_ble_eq_true rfl⟩) (fun H locs hP hD hS => ?_)
        have hP : va_P (dC, dI) vwCl (wd_MD g h0 q0 z0_116) H := hP
        have hD : va_D A (wd_MD g h0 q0 z0_116) := hD
        refine lv_aload_n hx hb d_MD_sentence_119 rfl (lv_at hl 0 rfl) ?_
        refine lv_ldc (v := (26259620 : Int32)) hx hb hown (hts _ k5_192) d_MD_sentence_120 ?_
        obtain ⟨z0_122, hcl, hm⟩ := bn1_s hm
        refine kcv (wc := wd_MD g h0 q0 z0_116) (wr := ([] : va_W)) (w1 := wd_MD g h0 q0 z0_122) hP hD hS hA [0, 1, 2, 3, 4, 5, 6, 7, 8, 9, 10, 11, 12, 13, 14, 15, 16, 17, 18, 19, 20, 21, 22, 23, 24, 25, 26, 27, 28, 29, 30, 31] [] rfl rfl (by decide) (by decide) (va_runV (As := [.int (26259620 : Int32)]) (rest := []) ⟨hx, hb, hml, hown, hts⟩ (c_MD_word hG hGn l dC dI g F H.size h0 q0 z0_116 (26259620 : Int32) hcl) (cwV 1 hts (gdV k5_177 k5_179 kp_23 k1_10 k5_180) rfl rfl rfl (by decide +kernel) ⟨Nat.le_of_ble_eq_true rfl, Nat.le_of_ble_eq_true rfl⟩) (kpV hG hP hK hD hS hA hGA [0, 1, 2, 3, 4, 5, 6, 7, 8, 9, 10, 11, 12, 13, 14, 15, 16, 17, 18, 19, 20, 21, 22, 23, 24, 25, 26, 27, 28, 29, 30, 31] (by decide) rfl (ci := 10) (q0 := 0) rfl rfl rfl) rfl rfl hl.1 rfl (lv_room (Nat.le_of_ble_eq_true rfl)) d_MD_sentence_122 ⟨Nat.le_of_ble_eq_true rfl, Nat.le_of_ble_eq_true rfl⟩) (fun H locs hP hD hS => ?_)
        have hP : va_P (dC, dI) vwCl (wd_MD g h0 q0 z0_122) H := hP
        have hD : va_D A (wd_MD g h0 q0 z0_122) := hD
        refine lv_aload_n hx hb d_MD_sentence_125 rfl (lv_at hl 0 rfl) ?_
        refine lv_iload hx hb d_MD_sentence_126 (lv_at hl 5 rfl) ?_
        obtain ⟨z0_128, hcl, hm⟩ := bn1_s hm
        refine kcv (wc := wd_MD g h0 q0 z0_122) (wr := ([] : va_W)) (w1 := wd_MD g h0 q0 z0_128) hP hD hS hA [0, 1, 2, 3, 4, 5, 6, 7, 8, 9, 10, 11, 12, 13, 14, 15, 16, 17, 18, 19, 20, 21, 22, 23, 24, 25, 26, 27, 28, 29, 30, 31] [] rfl rfl (by decide) (by decide) (va_runV (As := [.int a5]) (rest := []) ⟨hx, hb, hml, hown, hts⟩ (c_MD_number hG hGn l dC dI g F H.size h0 q0 z0_122 a5 hcl) (cwV 1 hts (gdV k5_185 k5_187 kp_25 k1_10 k5_188) rfl rfl rfl (by decide +kernel) ⟨Nat.le_of_ble_eq_true rfl, Nat.le_of_ble_eq_true rfl⟩) (kpV hG hP hK hD hS hA hGA [0, 1, 2, 3, 4, 5, 6, 7, 8, 9, 10, 11, 12, 13, 14, 15, 16, 17, 18, 19, 20, 21, 22, 23, 24, 25, 26, 27, 28, 29, 30, 31] (by decide) rfl (ci := 10) (q0 := 0) rfl rfl rfl) rfl rfl hl.1 rfl (lv_room (Nat.le_of_ble_eq_true rfl)) d_MD_sentence_128 ⟨Nat.le_of_ble_eq_true rfl, Nat.le_of_ble_eq_true rfl⟩) (fun H locs hP hD hS => ?_)
        have hP : va_P (dC, dI) vwCl (wd_MD g h0 q0 z0_128) H := hP
        have hD : va_D A (wd_MD g h0 q0 z0_128) := hD
        refine lv_goto (tgt := 187) hx hb d_MD_sentence_131 (by decide) ?_
        refine lv_aload_n hx hb d_MD_sentence_187 rfl (lv_at hl 0 rfl) ?_
        obtain ⟨z0_188, hcl, hm⟩ := bn1_s hm
        refine kcv (wc := wd_MD g h0 q0 z0_128) (wr := ([] : va_W)) (w1 := wd_MD g h0 q0 z0_188) hP hD hS hA [0, 1, 2, 3, 4, 5, 6, 7, 8, 9, 10, 11, 12, 13, 14, 15, 16, 17, 18, 19, 20, 21, 22, 23, 24, 25, 26, 27, 28, 29, 30, 31] [] rfl rfl (by decide) (by decide) (va_runV (As := []) (rest := []) ⟨hx, hb, hml, hown, hts⟩ (c_MD_stop hG hGn l dC dI g F H.size h0 q0 z0_128 hcl) (cwV 0 hts (gdV k5_194 k5_196 kp_26 k1_10 k5_197) rfl rfl rfl (by decide +kernel) ⟨Nat.le_of_ble_eq_true rfl, Nat.le_of_ble_eq_true rfl⟩) (kpV hG hP hK hD hS hA hGA [0, 1, 2, 3, 4, 5, 6, 7, 8, 9, 10, 11, 12, 13, 14, 15, 16, 17, 18, 19, 20, 21, 22, 23, 24, 25, 26, 27, 28, 29, 30, 31] (by decide) rfl (ci := 10) (q0 := 0) rfl rfl rfl) rfl rfl hl.1 rfl (lv_room (Nat.le_of_ble_eq_true rfl)) d_MD_sentence_188 ⟨Nat.le_of_ble_eq_true rfl, Nat.le_of_ble_eq_true rfl⟩) (fun H locs hP hD hS => ?_)
        have hP : va_P (dC, dI) vwCl (wd_MD g h0 q0 z0_188) H := hP
        have hD : va_D A (wd_MD g h0 q0 z0_188) := hD
        obtain rfl := Option.some.inj hm
        rw [hQ]
        exact krv hx hb hr hlocks hAe hP hK hD hS d_MD_sentence_191
    · replace hm := if_t hm hc
      refine lv_aload_n hx hb d_MD_sentence_45 rfl (lv_at hl 0 rfl) ?_
      refine lv_ldc (v := (20059310 : Int32)) hx hb hown (hts _ k5_189) d_MD_sentence_46 ?_
      obtain ⟨z0_48, hcl, hm⟩ := bn1_s hm
      refine kcv (wc := wd_MD g h0 q0 z0_38) (wr := ([] : va_W)) (w1 := wd_MD g h0 q0 z0_48) hP hD hS hA [0, 1, 2, 3, 4, 5, 6, 7, 8, 9, 10, 11, 12, 13, 14, 15, 16, 17, 18, 19, 20, 21, 22, 23, 24, 25, 26, 27, 28, 29, 30, 31] [] rfl rfl (by decide) (by decide) (va_runV (As := [.int (20059310 : Int32)]) (rest := []) ⟨hx, hb, hml, hown, hts⟩ (c_MD_word hG hGn l dC dI g F H.size h0 q0 z0_38 (20059310 : Int32) hcl) (cwV 1 hts (gdV k5_177 k5_179 kp_23 k1_10 k5_180) rfl rfl rfl (by decide +kernel) ⟨Nat.le_of_ble_eq_true rfl, Nat.le_of_ble_eq_true rfl⟩) (kpV hG hP hK hD hS hA hGA [0, 1, 2, 3, 4, 5, 6, 7, 8, 9, 10, 11, 12, 13, 14, 15, 16, 17, 18, 19, 20, 21, 22, 23, 24, 25, 26, 27, 28, 29, 30, 31] (by decide) rfl (ci := 10) (q0 := 0) rfl rfl rfl) rfl rfl hl.1 rfl (lv_room (Nat.le_of_ble_eq_true rfl)) d_MD_sentence_48 ⟨Nat.le_of_ble_eq_true rfl, Nat.le_of_ble_eq_true rfl⟩) (fun H locs hP hD hS => ?_)
      have hP : va_P (dC, dI) vwCl (wd_MD g h0 q0 z0_48) H := hP
      have hD : va_D A (wd_MD g h0 q0 z0_48) := hD
      refine lv_aload_n hx hb d_MD_sentence_51 rfl (lv_at hl 0 rfl) ?_
      refine lv_iload_n hx hb d_MD_sentence_52 rfl (lv_at hl 3 rfl) ?_
      obtain ⟨z0_53, hcl, hm⟩ := bn1_s hm
      refine kcv (wc := wd_MD g h0 q0 z0_48) (wr := ([] : va_W)) (w1 := wd_MD g h0 q0 z0_53) hP hD hS hA [0, 1, 2, 3, 4, 5, 6, 7, 8, 9, 10, 11, 12, 13, 14, 15, 16, 17, 18, 19, 20, 21, 22, 23, 24, 25, 26, 27, 28, 29, 30, 31] [] rfl rfl (by decide) (by decide) (va_runV (As := [.int a3]) (rest := []) ⟨hx, hb, hml, hown, hts⟩ (c_MD_number hG hGn l dC dI g F H.size h0 q0 z0_48 a3 hcl) (cwV 1 hts (gdV k5_185 k5_187 kp_25 k1_10 k5_188) rfl rfl rfl (by decide +kernel) ⟨Nat.le_of_ble_eq_true rfl, Nat.le_of_ble_eq_true rfl⟩) (kpV hG hP hK hD hS hA hGA [0, 1, 2, 3, 4, 5, 6, 7, 8, 9, 10, 11, 12, 13, 14, 15, 16, 17, 18, 19, 20, 21, 22, 23, 24, 25, 26, 27, 28, 29, 30, 31] (by decide) rfl (ci := 10) (q0 := 0) rfl rfl rfl) rfl rfl hl.1 rfl (lv_room (Nat.le_of_ble_eq_true rfl)) d_MD_sentence_53 ⟨Nat.le_of_ble_eq_true rfl, Nat.le_of_ble_eq_true rfl⟩) (fun H locs hP hD hS => ?_)
      have hP : va_P (dC, dI) vwCl (wd_MD g h0 q0 z0_53) H := hP
      have hD : va_D A (wd_MD g h0 q0 z0_53) := hD
      refine lv_aload_n hx hb d_MD_sentence_56 rfl (lv_at hl 0 rfl) ?_
      refine lv_sipush (v := (207 : Int32)) hx hb d_MD_sentence_57 (by decide) ?_
      obtain ⟨z0_60, hcl, hm⟩ := bn1_s hm
      refine kcv (wc := wd_MD g h0 q0 z0_53) (wr := ([] : va_W)) (w1 := wd_MD g h0 q0 z0_60) hP hD hS hA [0, 1, 2, 3, 4, 5, 6, 7, 8, 9, 10, 11, 12, 13, 14, 15, 16, 17, 18, 19, 20, 21, 22, 23, 24, 25, 26, 27, 28, 29, 30, 31] [] rfl rfl (by decide) (by decide) (va_runV (As := [.int (207 : Int32)]) (rest := []) ⟨hx, hb, hml, hown, hts⟩ (c_MD_word hG hGn l dC dI g F H.size h0 q0 z0_53 (207 : Int32) hcl) (cwV 1 hts (gdV k5_177 k5_179 kp_23 k1_10 k5_180) rfl rfl rfl (by decide +kernel) ⟨Nat.le_of_ble_eq_true rfl, Nat.le_of_ble_eq_true rfl⟩) (kpV hG hP hK hD hS hA hGA [0, 1, 2, 3, 4, 5, 6, 7, 8, 9, 10, 11, 12, 13, 14, 15, 16, 17, 18, 19, 20, 21, 22, 23, 24, 25, 26, 27, 28, 29, 30, 31] (by decide) rfl (ci := 10) (q0 := 0) rfl rfl rfl) rfl rfl hl.1 rfl (lv_room (Nat.le_of_ble_eq_true rfl)) d_MD_sentence_60 ⟨Nat.le_of_ble_eq_true rfl, Nat.le_of_ble_eq_true rfl⟩) (fun H locs hP hD hS => ?_)
      have hP : va_P (dC, dI) vwCl (wd_MD g h0 q0 z0_60) H := hP
      have hD : va_D A (wd_MD g h0 q0 z0_60) := hD
      refine lv_iconst (v := (0 : Int32)) hx hb d_MD_sentence_63 (by decide) ?_
      refine lv_istore (lv' := [(6, .int (0 : Int32)), (0, .ref h0), (1, .int a1), (2, .int a2), (3, .int a3), (4, .int a4), (5, .int a5)]) hx hb d_MD_sentence_64 hl (by decide) rfl (fun ls hl => ?_)
      have L66 : ∀ (n66 : Nat) (v6_66 : Int32) (y0_66 : St) (H : Heap) (locs : List Loc) (ls : Array Slot), lq2 (m_MD_sentence_B66 F a5 a4 (fun v6_66 y0_66 => (bn1 (m_MD_stop F y0_66) (fun z0_188 => (some z0_188))))) n66 v6_66 y0_66 = some o → va_P (dC, dI) vwCl (wd_MD g h0 q0 y0_66) H → va_D A (wd_MD g h0 q0 y0_66) → va_S A s.heap H locs → lv_has ls 7 [(0, .ref h0), (1, .int a1), (2, .int a2), (3, .int a3), (4, .int a4), (5, .int a5), (6, .int v6_66)] → W p l e rm_MD_sentence s m args below meth c H locs 0 0 Q (F0 m 66 ls []) := by
        intro n66
        induction n66 with
        | zero => intro v6_66 y0_66 H locs ls hm; exact absurd hm (by intro z; cases z)
        | succ n66 ih66 =>
          intro v6_66 y0_66 H locs ls hm hP hD hS hl
          replace hm := m_MD_sentence_B66_h (lq2_h hm)
          refine lv_iload hx hb d_MD_sentence_66 (lv_at hl 6 rfl) ?_
          refine lv_iload hx hb d_MD_sentence_68 (lv_at hl 5 rfl) ?_
          refine lv_icmp_ge (tgt := 88) hx hb d_MD_sentence_70 (by decide) (fun hc => ?_) (fun hc => ?_)
          · replace hm := if_t hm hc
            refine lv_goto (tgt := 187) hx hb d_MD_sentence_88 (by decide) ?_
            refine lv_aload_n hx hb d_MD_sentence_187 rfl (lv_at hl 0 rfl) ?_
            obtain ⟨z0_188, hcl, hm⟩ := bn1_s hm
            refine kcv (wc := wd_MD g h0 q0 y0_66) (wr := ([] : va_W)) (w1 := wd_MD g h0 q0 z0_188) hP hD hS hA [0, 1, 2, 3, 4, 5, 6, 7, 8, 9, 10, 11, 12, 13, 14, 15, 16, 17, 18, 19, 20, 21, 22, 23, 24, 25, 26, 27, 28, 29, 30, 31] [] rfl rfl (by decide) (by decide) (va_runV (As := []) (rest := []) ⟨hx, hb, hml, hown, hts⟩ (c_MD_stop hG hGn l dC dI g F H.size h0 q0 y0_66 hcl) (cwV 0 hts (gdV k5_194 k5_196 kp_26 k1_10 k5_197) rfl rfl rfl (by decide +kernel) ⟨Nat.le_of_ble_eq_true rfl, Nat.le_of_ble_eq_true rfl⟩) (kpV hG hP hK hD hS hA hGA [0, 1, 2, 3, 4, 5, 6, 7, 8, 9, 10, 11, 12, 13, 14, 15, 16, 17, 18, 19, 20, 21, 22, 23, 24, 25, 26, 27, 28, 29, 30, 31] (by decide) rfl (ci := 10) (q0 := 0) rfl rfl rfl) rfl rfl hl.1 rfl (lv_room (Nat.le_of_ble_eq_true rfl)) d_MD_sentence_188 ⟨Nat.le_of_ble_eq_true rfl, Nat.le_of_ble_eq_true rfl⟩) (fun H locs hP hD hS => ?_)
            have hP : va_P (dC, dI) vwCl (wd_MD g h0 q0 z0_188) H := hP
            have hD : va_D A (wd_MD g h0 q0 z0_188) := hD
            obtain rfl := Option.some.inj hm
            rw [hQ]
            exact krv hx hb hr hlocks hAe hP hK hD hS d_MD_sentence_191
          · replace hm := if_f hm hc
            refine lv_aload_n hx hb d_MD_sentence_73 rfl (lv_at hl 0 rfl) ?_
            refine lv_iload hx hb d_MD_sentence_74 (lv_at hl 4 rfl) ?_
            refine lv_iload hx hb d_MD_sentence_76 (lv_at hl 6 rfl) ?_
            refine lv_iadd hx hb d_MD_sentence_78 ?_
            obtain ⟨z0_79, hcl, hm⟩ := bn1_s hm
            refine kcv (wc := wd_MD g h0 q0 y0_66) (wr := ([] : va_W)) (w1 := wd_MD g h0 q0 z0_79) hP hD hS hA [0, 1, 2, 3, 4, 5, 6, 7, 8, 9, 10, 11, 12, 13, 14, 15, 16, 17, 18, 19, 20, 21, 22, 23, 24, 25, 26, 27, 28, 29, 30, 31] [] rfl rfl (by decide) (by decide) (va_runV (As := [.int (a4 + v6_66)]) (rest := []) ⟨hx, hb, hml, hown, hts⟩ (c_MD_number hG hGn l dC dI g F H.size h0 q0 y0_66 (a4 + v6_66) hcl) (cwV 1 hts (gdV k5_185 k5_187 kp_25 k1_10 k5_188) rfl rfl rfl (by decide +kernel) ⟨Nat.le_of_ble_eq_true rfl, Nat.le_of_ble_eq_true rfl⟩) (kpV hG hP hK hD hS hA hGA [0, 1, 2, 3, 4, 5, 6, 7, 8, 9, 10, 11, 12, 13, 14, 15, 16, 17, 18, 19, 20, 21, 22, 23, 24, 25, 26, 27, 28, 29, 30, 31] (by decide) rfl (ci := 10) (q0 := 0) rfl rfl rfl) rfl rfl hl.1 rfl (lv_room (Nat.le_of_ble_eq_true rfl)) d_MD_sentence_79 ⟨Nat.le_of_ble_eq_true rfl, Nat.le_of_ble_eq_true rfl⟩) (fun H locs hP hD hS => ?_)
            have hP : va_P (dC, dI) vwCl (wd_MD g h0 q0 z0_79) H := hP
            have hD : va_D A (wd_MD g h0 q0 z0_79) := hD
            refine lv_iinc (v := (v6_66 + (1 : Int32))) (lv' := [(6, .int (v6_66 + (1 : Int32))), (0, .ref h0), (1, .int a1), (2, .int a2), (3, .int a3), (4, .int a4), (5, .int a5)]) hx hb d_MD_sentence_82 hl (k := 6) rfl rfl (by decide) rfl (fun ls hl => ?_)
            refine lv_goto (tgt := 66) hx hb d_MD_sentence_85 (by decide) ?_
            exact ih66 (v6_66 + (1 : Int32)) z0_79 H locs ls hm hP hD hS (lv_sub hl [1, 2, 3, 4, 5, 6, 0] rfl)
      exact L66 F (0 : Int32) z0_60 H locs ls hm hP hD hS (lv_sub hl [1, 2, 3, 4, 5, 6, 0] rfl)
  refine lv_aload_n hx hb d_MD_sentence_0 rfl (lv_at hl 0 rfl) ?_
  refine lv_iload_n hx hb d_MD_sentence_1 rfl (lv_at hl 1 rfl) ?_
  refine lv_if_ne (tgt := 10) hx hb d_MD_sentence_2 (by decide) (fun hc => ?_) (fun hc => ?_)
  · replace hm := if_f hm hc
    refine lv_iload_n hx hb d_MD_sentence_10 rfl (lv_at hl 1 rfl) ?_
    refine lv_iconst (v := (1 : Int32)) hx hb d_MD_sentence_11 (by decide) ?_
    refine lv_icmp_ne (tgt := 21) hx hb d_MD_sentence_12 (by decide) (fun hc => ?_) (fun hc => ?_)
    · replace hm := if_f hm hc
      refine lv_iload_n hx hb d_MD_sentence_21 rfl (lv_at hl 1 rfl) ?_
      refine lv_iconst (v := (4 : Int32)) hx hb d_MD_sentence_22 (by decide) ?_
      refine lv_icmp_ne (tgt := 31) hx hb d_MD_sentence_23 (by decide) (fun hc => ?_) (fun hc => ?_)
      · replace hm := if_f hm hc
        refine lv_ldc (v := (464151 : Int32)) hx hb hown (hts _ k5_176) d_MD_sentence_31 ?_
        exact J33 (464151 : Int32) x0 H locs ls hm hP hD hS (lv_sub hl [0, 1, 2, 3, 4, 5] rfl)
      · replace hm := if_t hm hc
        refine lv_ldc (v := (143848 : Int32)) hx hb hown (hts _ k5_175) d_MD_sentence_26 ?_
        refine lv_goto (tgt := 33) hx hb d_MD_sentence_28 (by decide) ?_
        exact J33 (143848 : Int32) x0 H locs ls hm hP hD hS (lv_sub hl [0, 1, 2, 3, 4, 5] rfl)
    · replace hm := if_t hm hc
      refine lv_sipush (v := (20577 : Int32)) hx hb d_MD_sentence_15 (by decide) ?_
      refine lv_goto (tgt := 33) hx hb d_MD_sentence_18 (by decide) ?_
      exact J33 (20577 : Int32) x0 H locs ls hm hP hD hS (lv_sub hl [0, 1, 2, 3, 4, 5] rfl)
  · replace hm := if_t hm hc
    refine lv_ldc (v := (178682 : Int32)) hx hb hown (hts _ k5_174) d_MD_sentence_5 ?_
    refine lv_goto (tgt := 33) hx hb d_MD_sentence_7 (by decide) ?_
    exact J33 (178682 : Int32) x0 H locs ls hm hP hD hS (lv_sub hl [0, 1, 2, 3, 4, 5] rfl)
abbrev b_MD_say : ByteArray := prog_12_method_11_code
abbrev y_MD_say : MethodName := ⟨"AlarmMatrixModel", "say", "(IIIII)I"⟩
theorem d_MD_say_0 : decode b_MD_say 0 = .ok (.iload_n 1, 1) := by decide +kernel
theorem d_MD_say_1 : decode b_MD_say 1 = .ok (.ifCond .lt 19, 3) := by decide +kernel
theorem d_MD_say_4 : decode b_MD_say 4 = .ok (.iload_n 1, 1) := by decide +kernel
theorem d_MD_say_5 : decode b_MD_say 5 = .ok (.iconst 4, 1) := by decide +kernel
theorem d_MD_say_6 : decode b_MD_say 6 = .ok (.if_icmp .gt 14, 3) := by decide +kernel
theorem d_MD_say_9 : decode b_MD_say 9 = .ok (.iload_n 2, 1) := by decide +kernel
theorem d_MD_say_10 : decode b_MD_say 10 = .ok (.invokestatic 128, 3) := by decide +kernel
theorem d_MD_say_13 : decode b_MD_say 13 = .ok (.ifCond .eq 7, 3) := by decide +kernel
theorem d_MD_say_16 : decode b_MD_say 16 = .ok (.iconst 1, 1) := by decide +kernel
theorem d_MD_say_17 : decode b_MD_say 17 = .ok (.goto 4, 3) := by decide +kernel
theorem d_MD_say_20 : decode b_MD_say 20 = .ok (.iconst 0, 1) := by decide +kernel
theorem d_MD_say_21 : decode b_MD_say 21 = .ok (.istore 6, 2) := by decide +kernel
theorem d_MD_say_23 : decode b_MD_say 23 = .ok (.iload 6, 2) := by decide +kernel
theorem d_MD_say_25 : decode b_MD_say 25 = .ok (.ifCond .eq 37, 3) := by decide +kernel
theorem d_MD_say_28 : decode b_MD_say 28 = .ok (.iload_n 1, 1) := by decide +kernel
theorem d_MD_say_29 : decode b_MD_say 29 = .ok (.iconst 4, 1) := by decide +kernel
theorem d_MD_say_30 : decode b_MD_say 30 = .ok (.if_icmp .eq 10, 3) := by decide +kernel
theorem d_MD_say_33 : decode b_MD_say 33 = .ok (.iload_n 3, 1) := by decide +kernel
theorem d_MD_say_34 : decode b_MD_say 34 = .ok (.invokestatic 128, 3) := by decide +kernel
theorem d_MD_say_37 : decode b_MD_say 37 = .ok (.ifCond .eq 25, 3) := by decide +kernel
theorem d_MD_say_40 : decode b_MD_say 40 = .ok (.iload_n 1, 1) := by decide +kernel
theorem d_MD_say_41 : decode b_MD_say 41 = .ok (.iconst 2, 1) := by decide +kernel
theorem d_MD_say_42 : decode b_MD_say 42 = .ok (.if_icmp .eq 16, 3) := by decide +kernel
theorem d_MD_say_45 : decode b_MD_say 45 = .ok (.iload_n 1, 1) := by decide +kernel
theorem d_MD_say_46 : decode b_MD_say 46 = .ok (.iconst 4, 1) := by decide +kernel
theorem d_MD_say_47 : decode b_MD_say 47 = .ok (.if_icmp .eq 11, 3) := by decide +kernel
theorem d_MD_say_50 : decode b_MD_say 50 = .ok (.iload 4, 2) := by decide +kernel
theorem d_MD_say_52 : decode b_MD_say 52 = .ok (.invokestatic 128, 3) := by decide +kernel
theorem d_MD_say_55 : decode b_MD_say 55 = .ok (.ifCond .eq 7, 3) := by decide +kernel
theorem d_MD_say_58 : decode b_MD_say 58 = .ok (.iconst 1, 1) := by decide +kernel
theorem d_MD_say_59 : decode b_MD_say 59 = .ok (.goto 4, 3) := by decide +kernel
theorem d_MD_say_62 : decode b_MD_say 62 = .ok (.iconst 0, 1) := by decide +kernel
theorem d_MD_say_63 : decode b_MD_say 63 = .ok (.istore 6, 2) := by decide +kernel
theorem d_MD_say_65 : decode b_MD_say 65 = .ok (.iload 6, 2) := by decide +kernel
theorem d_MD_say_67 : decode b_MD_say 67 = .ok (.ifCond .eq 41, 3) := by decide +kernel
theorem d_MD_say_70 : decode b_MD_say 70 = .ok (.iload_n 1, 1) := by decide +kernel
theorem d_MD_say_71 : decode b_MD_say 71 = .ok (.iconst 1, 1) := by decide +kernel
theorem d_MD_say_72 : decode b_MD_say 72 = .ok (.if_icmp .gt 32, 3) := by decide +kernel
theorem d_MD_say_75 : decode b_MD_say 75 = .ok (.iload_n 1, 1) := by decide +kernel
theorem d_MD_say_76 : decode b_MD_say 76 = .ok (.iconst 1, 1) := by decide +kernel
theorem d_MD_say_77 : decode b_MD_say 77 = .ok (.if_icmp .ne 14, 3) := by decide +kernel
theorem d_MD_say_80 : decode b_MD_say 80 = .ok (.iload 5, 2) := by decide +kernel
theorem d_MD_say_82 : decode b_MD_say 82 = .ok (.invokestatic 128, 3) := by decide +kernel
theorem d_MD_say_85 : decode b_MD_say 85 = .ok (.ifCond .eq 23, 3) := by decide +kernel
theorem d_MD_say_88 : decode b_MD_say 88 = .ok (.goto 16, 3) := by decide +kernel
theorem d_MD_say_91 : decode b_MD_say 91 = .ok (.iload 5, 2) := by decide +kernel
theorem d_MD_say_93 : decode b_MD_say 93 = .ok (.iconst 1, 1) := by decide +kernel
theorem d_MD_say_94 : decode b_MD_say 94 = .ok (.if_icmp .lt 14, 3) := by decide +kernel
theorem d_MD_say_97 : decode b_MD_say 97 = .ok (.iload 5, 2) := by decide +kernel
theorem d_MD_say_99 : decode b_MD_say 99 = .ok (.bipush 12, 2) := by decide +kernel
theorem d_MD_say_101 : decode b_MD_say 101 = .ok (.if_icmp .gt 7, 3) := by decide +kernel
theorem d_MD_say_104 : decode b_MD_say 104 = .ok (.iconst 1, 1) := by decide +kernel
theorem d_MD_say_105 : decode b_MD_say 105 = .ok (.goto 4, 3) := by decide +kernel
theorem d_MD_say_108 : decode b_MD_say 108 = .ok (.iconst 0, 1) := by decide +kernel
theorem d_MD_say_109 : decode b_MD_say 109 = .ok (.istore 6, 2) := by decide +kernel
theorem d_MD_say_111 : decode b_MD_say 111 = .ok (.aload_n 0, 1) := by decide +kernel
theorem d_MD_say_112 : decode b_MD_say 112 = .ok (.iconst 0, 1) := by decide +kernel
theorem d_MD_say_113 : decode b_MD_say 113 = .ok (.putfield 122, 3) := by decide +kernel
theorem d_MD_say_116 : decode b_MD_say 116 = .ok (.iload 6, 2) := by decide +kernel
theorem d_MD_say_118 : decode b_MD_say 118 = .ok (.ifCond .eq 14, 3) := by decide +kernel
theorem d_MD_say_121 : decode b_MD_say 121 = .ok (.aload_n 0, 1) := by decide +kernel
theorem d_MD_say_122 : decode b_MD_say 122 = .ok (.iload_n 1, 1) := by decide +kernel
theorem d_MD_say_123 : decode b_MD_say 123 = .ok (.iload_n 2, 1) := by decide +kernel
theorem d_MD_say_124 : decode b_MD_say 124 = .ok (.iload_n 3, 1) := by decide +kernel
theorem d_MD_say_125 : decode b_MD_say 125 = .ok (.iload 4, 2) := by decide +kernel
theorem d_MD_say_127 : decode b_MD_say 127 = .ok (.iload 5, 2) := by decide +kernel
theorem d_MD_say_129 : decode b_MD_say 129 = .ok (.invokevirtual 132, 3) := by decide +kernel
theorem d_MD_say_132 : decode b_MD_say 132 = .ok (.aload_n 0, 1) := by decide +kernel
theorem d_MD_say_133 : decode b_MD_say 133 = .ok (.iload 6, 2) := by decide +kernel
theorem d_MD_say_135 : decode b_MD_say 135 = .ok (.aload_n 0, 1) := by decide +kernel
theorem d_MD_say_136 : decode b_MD_say 136 = .ok (.getfield 111, 3) := by decide +kernel
theorem d_MD_say_139 : decode b_MD_say 139 = .ok (.aload_n 0, 1) := by decide +kernel
theorem d_MD_say_140 : decode b_MD_say 140 = .ok (.getfield 122, 3) := by decide +kernel
theorem d_MD_say_143 : decode b_MD_say 143 = .ok (.iadd, 1) := by decide +kernel
theorem d_MD_say_144 : decode b_MD_say 144 = .ok (.sipush 2000, 3) := by decide +kernel
theorem d_MD_say_147 : decode b_MD_say 147 = .ok (.if_icmp .gt 7, 3) := by decide +kernel
theorem d_MD_say_150 : decode b_MD_say 150 = .ok (.iconst 1, 1) := by decide +kernel
theorem d_MD_say_151 : decode b_MD_say 151 = .ok (.goto 4, 3) := by decide +kernel
theorem d_MD_say_154 : decode b_MD_say 154 = .ok (.iconst 0, 1) := by decide +kernel
theorem d_MD_say_155 : decode b_MD_say 155 = .ok (.invokevirtual 114, 3) := by decide +kernel
theorem d_MD_say_158 : decode b_MD_say 158 = .ok (.ifCond .ne 5, 3) := by decide +kernel
theorem d_MD_say_161 : decode b_MD_say 161 = .ok (.iconst 0, 1) := by decide +kernel
theorem d_MD_say_162 : decode b_MD_say 162 = .ok (.ireturn, 1) := by decide +kernel
theorem d_MD_say_163 : decode b_MD_say 163 = .ok (.iconst 0, 1) := by decide +kernel
theorem d_MD_say_164 : decode b_MD_say 164 = .ok (.istore 7, 2) := by decide +kernel
theorem d_MD_say_166 : decode b_MD_say 166 = .ok (.iload 7, 2) := by decide +kernel
theorem d_MD_say_168 : decode b_MD_say 168 = .ok (.aload_n 0, 1) := by decide +kernel
theorem d_MD_say_169 : decode b_MD_say 169 = .ok (.getfield 122, 3) := by decide +kernel
theorem d_MD_say_172 : decode b_MD_say 172 = .ok (.if_icmp .ge 20, 3) := by decide +kernel
theorem d_MD_say_175 : decode b_MD_say 175 = .ok (.aload_n 0, 1) := by decide +kernel
theorem d_MD_say_176 : decode b_MD_say 176 = .ok (.aload_n 0, 1) := by decide +kernel
theorem d_MD_say_177 : decode b_MD_say 177 = .ok (.getfield 101, 3) := by decide +kernel
theorem d_MD_say_180 : decode b_MD_say 180 = .ok (.iload 7, 2) := by decide +kernel
theorem d_MD_say_182 : decode b_MD_say 182 = .ok (.iaload, 1) := by decide +kernel
theorem d_MD_say_183 : decode b_MD_say 183 = .ok (.invokevirtual 118, 3) := by decide +kernel
theorem d_MD_say_186 : decode b_MD_say 186 = .ok (.iinc 7 1, 3) := by decide +kernel
theorem d_MD_say_189 : decode b_MD_say 189 = .ok (.goto (-23), 3) := by decide +kernel
theorem d_MD_say_192 : decode b_MD_say 192 = .ok (.aload_n 0, 1) := by decide +kernel
theorem d_MD_say_193 : decode b_MD_say 193 = .ok (.getfield 111, 3) := by decide +kernel
theorem d_MD_say_196 : decode b_MD_say 196 = .ok (.ireturn, 1) := by decide +kernel
def m_MD_say_B166 {R : Type} (F : Nat)  (k166_192 : Int32 → St → Option R) (rec166 : Int32 → St → Option R) (v7_166 : Int32) (y0_166 : St) : Option R :=
  (if (y0_166 41 0) ≤ v7_166 then (k166_192 v7_166 y0_166) else (ck v7_166 200 (bn1 (m_MD_write F y0_166 ((y0_166 40) v7_166.toNatClampNeg)) (fun z0_183 => (rec166 (v7_166 + (1 : Int32)) z0_183)))))
theorem m_MD_say_B166_h {R : Type} {F : Nat}  {k166_192 : Int32 → St → Option R} {rec166 : Int32 → St → Option R} {v7_166 : Int32} {y0_166 : St} {o : R} (h : m_MD_say_B166 F k166_192 rec166 v7_166 y0_166 = some o) :
  (if (y0_166 41 0) ≤ v7_166 then (k166_192 v7_166 y0_166) else (ck v7_166 200 (bn1 (m_MD_write F y0_166 ((y0_166 40) v7_166.toNatClampNeg)) (fun z0_183 => (rec166 (v7_166 + (1 : Int32)) z0_183))))) = some o := h
def m_MD_say_J109 (F : Nat) (a1 : Int32) (a2 : Int32) (a3 : Int32) (a4 : Int32) (a5 : Int32) (j6_109 : Int32) (s0_109 : Int32) (t0_109 : St) : Option (Int32 × St) :=
  (lz (sc t0_109 41 (0 : Int32)) (fun e0_113 => (if s0_109 = (0 : Int32) then (if (2000 : Int32) < ((e0_113 12 0) + (e0_113 41 0)) then (bn2 (m_MD_goes F e0_113 s0_109 (0 : Int32)) (fun r155 z0_155 => (if r155 = (0 : Int32) then (some ((0 : Int32), z0_155)) else (lq2 (m_MD_say_B166 F  (fun v7_166 y0_166 => (some ((y0_166 12 0), y0_166)))) F (0 : Int32) z0_155)))) else (bn2 (m_MD_goes F e0_113 s0_109 (1 : Int32)) (fun r155 z0_155 => (if r155 = (0 : Int32) then (some ((0 : Int32), z0_155)) else (lq2 (m_MD_say_B166 F  (fun v7_166 y0_166 => (some ((y0_166 12 0), y0_166)))) F (0 : Int32) z0_155))))) else (bn1 (m_MD_sentence F e0_113 a1 a2 a3 a4 a5) (fun z0_129 => (if (2000 : Int32) < ((z0_129 12 0) + (z0_129 41 0)) then (bn2 (m_MD_goes F z0_129 s0_109 (0 : Int32)) (fun r155 z0_155 => (if r155 = (0 : Int32) then (some ((0 : Int32), z0_155)) else (lq2 (m_MD_say_B166 F  (fun v7_166 y0_166 => (some ((y0_166 12 0), y0_166)))) F (0 : Int32) z0_155)))) else (bn2 (m_MD_goes F z0_129 s0_109 (1 : Int32)) (fun r155 z0_155 => (if r155 = (0 : Int32) then (some ((0 : Int32), z0_155)) else (lq2 (m_MD_say_B166 F  (fun v7_166 y0_166 => (some ((y0_166 12 0), y0_166)))) F (0 : Int32) z0_155))))))))))
theorem m_MD_say_J109_h {F : Nat} {a1 : Int32} {a2 : Int32} {a3 : Int32} {a4 : Int32} {a5 : Int32} {j6_109 : Int32} {s0_109 : Int32} {t0_109 : St} {o : (Int32 × St)} (h : m_MD_say_J109 F a1 a2 a3 a4 a5 j6_109 s0_109 t0_109 = some o) :
  (lz (sc t0_109 41 (0 : Int32)) (fun e0_113 => (if s0_109 = (0 : Int32) then (if (2000 : Int32) < ((e0_113 12 0) + (e0_113 41 0)) then (bn2 (m_MD_goes F e0_113 s0_109 (0 : Int32)) (fun r155 z0_155 => (if r155 = (0 : Int32) then (some ((0 : Int32), z0_155)) else (lq2 (m_MD_say_B166 F  (fun v7_166 y0_166 => (some ((y0_166 12 0), y0_166)))) F (0 : Int32) z0_155)))) else (bn2 (m_MD_goes F e0_113 s0_109 (1 : Int32)) (fun r155 z0_155 => (if r155 = (0 : Int32) then (some ((0 : Int32), z0_155)) else (lq2 (m_MD_say_B166 F  (fun v7_166 y0_166 => (some ((y0_166 12 0), y0_166)))) F (0 : Int32) z0_155))))) else (bn1 (m_MD_sentence F e0_113 a1 a2 a3 a4 a5) (fun z0_129 => (if (2000 : Int32) < ((z0_129 12 0) + (z0_129 41 0)) then (bn2 (m_MD_goes F z0_129 s0_109 (0 : Int32)) (fun r155 z0_155 => (if r155 = (0 : Int32) then (some ((0 : Int32), z0_155)) else (lq2 (m_MD_say_B166 F  (fun v7_166 y0_166 => (some ((y0_166 12 0), y0_166)))) F (0 : Int32) z0_155)))) else (bn2 (m_MD_goes F z0_129 s0_109 (1 : Int32)) (fun r155 z0_155 => (if r155 = (0 : Int32) then (some ((0 : Int32), z0_155)) else (lq2 (m_MD_say_B166 F  (fun v7_166 y0_166 => (some ((y0_166 12 0), y0_166)))) F (0 : Int32) z0_155)))))))))) = some o := h
def m_MD_say_J63 (F : Nat) (a1 : Int32) (a2 : Int32) (a3 : Int32) (a4 : Int32) (a5 : Int32) (j6_63 : Int32) (s0_63 : Int32) (t0_63 : St) : Option (Int32 × St) :=
  (if s0_63 = (0 : Int32) then (m_MD_say_J109 F a1 a2 a3 a4 a5  s0_63 (0 : Int32) t0_63) else (if (1 : Int32) < a1 then (m_MD_say_J109 F a1 a2 a3 a4 a5  s0_63 (1 : Int32) t0_63) else (if a1 = (1 : Int32) then (bn1 (m_MD_isSaid F a5) (fun r82 => (if r82 = (0 : Int32) then (m_MD_say_J109 F a1 a2 a3 a4 a5  s0_63 (0 : Int32) t0_63) else (m_MD_say_J109 F a1 a2 a3 a4 a5  s0_63 (1 : Int32) t0_63)))) else (if a5 < (1 : Int32) then (m_MD_say_J109 F a1 a2 a3 a4 a5  s0_63 (0 : Int32) t0_63) else (if (12 : Int32) < a5 then (m_MD_say_J109 F a1 a2 a3 a4 a5  s0_63 (0 : Int32) t0_63) else (m_MD_say_J109 F a1 a2 a3 a4 a5  s0_63 (1 : Int32) t0_63))))))
theorem m_MD_say_J63_h {F : Nat} {a1 : Int32} {a2 : Int32} {a3 : Int32} {a4 : Int32} {a5 : Int32} {j6_63 : Int32} {s0_63 : Int32} {t0_63 : St} {o : (Int32 × St)} (h : m_MD_say_J63 F a1 a2 a3 a4 a5 j6_63 s0_63 t0_63 = some o) :
  (if s0_63 = (0 : Int32) then (m_MD_say_J109 F a1 a2 a3 a4 a5  s0_63 (0 : Int32) t0_63) else (if (1 : Int32) < a1 then (m_MD_say_J109 F a1 a2 a3 a4 a5  s0_63 (1 : Int32) t0_63) else (if a1 = (1 : Int32) then (bn1 (m_MD_isSaid F a5) (fun r82 => (if r82 = (0 : Int32) then (m_MD_say_J109 F a1 a2 a3 a4 a5  s0_63 (0 : Int32) t0_63) else (m_MD_say_J109 F a1 a2 a3 a4 a5  s0_63 (1 : Int32) t0_63)))) else (if a5 < (1 : Int32) then (m_MD_say_J109 F a1 a2 a3 a4 a5  s0_63 (0 : Int32) t0_63) else (if (12 : Int32) < a5 then (m_MD_say_J109 F a1 a2 a3 a4 a5  s0_63 (0 : Int32) t0_63) else (m_MD_say_J109 F a1 a2 a3 a4 a5  s0_63 (1 : Int32) t0_63)))))) = some o := h
def m_MD_say_J21 (F : Nat) (a1 : Int32) (a2 : Int32) (a3 : Int32) (a4 : Int32) (a5 : Int32) (s0_21 : Int32) (t0_21 : St) : Option (Int32 × St) :=
  (if s0_21 = (0 : Int32) then (m_MD_say_J63 F a1 a2 a3 a4 a5  s0_21 (0 : Int32) t0_21) else (if a1 = (4 : Int32) then (if a1 = (2 : Int32) then (m_MD_say_J63 F a1 a2 a3 a4 a5  s0_21 (1 : Int32) t0_21) else (if a1 = (4 : Int32) then (m_MD_say_J63 F a1 a2 a3 a4 a5  s0_21 (1 : Int32) t0_21) else (bn1 (m_MD_isSaid F a4) (fun r52 => (if r52 = (0 : Int32) then (m_MD_say_J63 F a1 a2 a3 a4 a5  s0_21 (0 : Int32) t0_21) else (m_MD_say_J63 F a1 a2 a3 a4 a5  s0_21 (1 : Int32) t0_21)))))) else (bn1 (m_MD_isSaid F a3) (fun r34 => (if r34 = (0 : Int32) then (m_MD_say_J63 F a1 a2 a3 a4 a5  s0_21 (0 : Int32) t0_21) else (if a1 = (2 : Int32) then (m_MD_say_J63 F a1 a2 a3 a4 a5  s0_21 (1 : Int32) t0_21) else (if a1 = (4 : Int32) then (m_MD_say_J63 F a1 a2 a3 a4 a5  s0_21 (1 : Int32) t0_21) else (bn1 (m_MD_isSaid F a4) (fun r52 => (if r52 = (0 : Int32) then (m_MD_say_J63 F a1 a2 a3 a4 a5  s0_21 (0 : Int32) t0_21) else (m_MD_say_J63 F a1 a2 a3 a4 a5  s0_21 (1 : Int32) t0_21)))))))))))
theorem m_MD_say_J21_h {F : Nat} {a1 : Int32} {a2 : Int32} {a3 : Int32} {a4 : Int32} {a5 : Int32} {s0_21 : Int32} {t0_21 : St} {o : (Int32 × St)} (h : m_MD_say_J21 F a1 a2 a3 a4 a5 s0_21 t0_21 = some o) :
  (if s0_21 = (0 : Int32) then (m_MD_say_J63 F a1 a2 a3 a4 a5  s0_21 (0 : Int32) t0_21) else (if a1 = (4 : Int32) then (if a1 = (2 : Int32) then (m_MD_say_J63 F a1 a2 a3 a4 a5  s0_21 (1 : Int32) t0_21) else (if a1 = (4 : Int32) then (m_MD_say_J63 F a1 a2 a3 a4 a5  s0_21 (1 : Int32) t0_21) else (bn1 (m_MD_isSaid F a4) (fun r52 => (if r52 = (0 : Int32) then (m_MD_say_J63 F a1 a2 a3 a4 a5  s0_21 (0 : Int32) t0_21) else (m_MD_say_J63 F a1 a2 a3 a4 a5  s0_21 (1 : Int32) t0_21)))))) else (bn1 (m_MD_isSaid F a3) (fun r34 => (if r34 = (0 : Int32) then (m_MD_say_J63 F a1 a2 a3 a4 a5  s0_21 (0 : Int32) t0_21) else (if a1 = (2 : Int32) then (m_MD_say_J63 F a1 a2 a3 a4 a5  s0_21 (1 : Int32) t0_21) else (if a1 = (4 : Int32) then (m_MD_say_J63 F a1 a2 a3 a4 a5  s0_21 (1 : Int32) t0_21) else (bn1 (m_MD_isSaid F a4) (fun r52 => (if r52 = (0 : Int32) then (m_MD_say_J63 F a1 a2 a3 a4 a5  s0_21 (0 : Int32) t0_21) else (m_MD_say_J63 F a1 a2 a3 a4 a5  s0_21 (1 : Int32) t0_21))))))))))) = some o := h
def m_MD_say (F : Nat) (x0 : St) (a1 : Int32) (a2 : Int32) (a3 : Int32) (a4 : Int32) (a5 : Int32) : Option (Int32 × St) :=
  (if a1 < (0 : Int32) then (m_MD_say_J21 F a1 a2 a3 a4 a5  (0 : Int32) x0) else (if (4 : Int32) < a1 then (m_MD_say_J21 F a1 a2 a3 a4 a5  (0 : Int32) x0) else (bn1 (m_MD_isSaid F a2) (fun r10 => (if r10 = (0 : Int32) then (m_MD_say_J21 F a1 a2 a3 a4 a5  (0 : Int32) x0) else (m_MD_say_J21 F a1 a2 a3 a4 a5  (1 : Int32) x0))))))
abbrev rm_MD_say : Room := { frames := 3, cells := 0, slots := 0, locals := 69 }
set_option maxHeartbeats 4000000 in
set_option maxRecDepth 100000 in
theorem c_MD_say {G : (Nat → Prop) → State → Prop} (hG : gok G) (hGn : gN G) (l : Launch) (dC : Nat → ClassId) (dI : Nat → Nat → Nat) (g : Nat → ClassId) (F : Nat) (sz : Nat) (h0 : Nat) (q0 : Nat → Nat) (x0 : St) (a1 : Int32) (a2 : Int32) (a3 : Int32) (a4 : Int32) (a5 : Int32) {o : Int32 × St} (hm : m_MD_say F x0 a1 a2 a3 a4 a5 = some o) : Met l y_MD_say (.code y_MD_say b_MD_say 8 (some .int) :: gw) rm_MD_say (kq (dC, dI) vwCl (tyv g) G [.ref h0, .int a1, .int a2, .int a3, .int a4, .int a5] sz (wd_MD g h0 q0 x0)) (kqi (dC, dI) vwCl (tyv g) (wd_MD g h0 q0 x0) o.1 (wd_MD g h0 q0 (o.2)) sz) 0 0 (va_A (wd_MD g h0 q0 x0) sz) := by
  unfold m_MD_say at hm
  refine km (Qc := fun sz => kqi (dC, dI) vwCl (tyv g) (wd_MD g h0 q0 x0) o.1 (wd_MD g h0 q0 (o.2)) sz) (cc := b_MD_say) (maxL := 8) (ret := some .int) (by decide) rfl (Nat.le_of_ble_eq_true rfl) ?_
  intro p e s m args below meth c Q hQ hx hb hr hts hown hlocks hml hnm H locs A hAe hA hP hK hD hS hGA ls hl
  have hl : lv_has ls 8 [(0, .ref h0), (1, .int a1), (2, .int a2), (3, .int a3), (4, .int a4), (5, .int a5)] := hl
  have hts : ∀ w ∈ gw, w.before args s = true := fun w h => hts w (List.mem_cons_of_mem _ h)
  have hown : s.vm.findClass "AlarmMatrixModel" = some m.cls := hown
  have J109 : ∀ (j6_109 : Int32) (s0_109 : Int32) (t0_109 : St) (H : Heap) (locs : List Loc) (ls : Array Slot), m_MD_say_J109 F a1 a2 a3 a4 a5  j6_109 s0_109 t0_109 = some o → va_P (dC, dI) vwCl (wd_MD g h0 q0 t0_109) H → va_D A (wd_MD g h0 q0 t0_109) → va_S A s.heap H locs → lv_has ls 8 [(0, .ref h0), (1, .int a1), (2, .int a2), (3, .int a3), (4, .int a4), (5, .int a5), (6, .int j6_109)] → W p l e rm_MD_say s m args below meth c H locs 0 0 Q (F0 m 109 ls [.int s0_109]) := by
    intro j6_109 s0_109 t0_109 H locs ls hm hP hD hS hl
    replace hm := m_MD_say_J109_h hm
    refine lv_istore (lv' := [(6, .int s0_109), (0, .ref h0), (1, .int a1), (2, .int a2), (3, .int a3), (4, .int a4), (5, .int a5)]) hx hb d_MD_say_109 hl (by decide) rfl (fun ls hl => ?_)
    refine lv_aload_n hx hb d_MD_say_111 rfl (lv_at hl 1 rfl) ?_
    refine lv_iconst (v := (0 : Int32)) hx hb d_MD_say_112 (by decide) ?_
    obtain ⟨e0_113, he, hm⟩ := lz_s hm
    refine va_put (D := (dC, dI)) (ci := 10) (v := .int (0 : Int32)) (ty := .int) (C := "AlarmMatrixModel") (T := T_MD) (N := 42) hx hb hts i_MD t_MD o_MD n_MD hown hK hP hD hS 0 rfl rfl 41 (by decide) (hts _ k5_61) (fun _ h9 => h9) rfl (by decide +kernel) rfl rfl (Nat.le_of_ble_eq_true rfl) d_MD_say_113 (fun H locs hP hD hS => ?_)
    have hP : va_P (dC, dI) vwCl (wd_MD g h0 q0 e0_113) H := by rw [he]; exact hP
    have hD : va_D A (wd_MD g h0 q0 e0_113) := by rw [he]; exact hD
    refine lv_iload hx hb d_MD_say_116 (lv_at hl 0 rfl) ?_
    refine lv_if_eq (tgt := 132) hx hb d_MD_say_118 (by decide) (fun hc => ?_) (fun hc => ?_)
    · replace hm := if_t hm hc
      refine lv_aload_n hx hb d_MD_say_132 rfl (lv_at hl 1 rfl) ?_
      refine lv_iload hx hb d_MD_say_133 (lv_at hl 0 rfl) ?_
      refine lv_aload_n hx hb d_MD_say_135 rfl (lv_at hl 1 rfl) ?_
      refine va_get (D := (dC, dI)) (ci := 10) (v := .int (e0_113 12 0)) (C := "AlarmMatrixModel") (T := T_MD) (N := 42) hx hb hts i_MD hown hK hP 0 rfl rfl 12 (by decide) (hts _ k5_32) (fun _ h9 => h9) rfl d_MD_say_136 ?_
      refine lv_aload_n hx hb d_MD_say_139 rfl (lv_at hl 1 rfl) ?_
      refine va_get (D := (dC, dI)) (ci := 10) (v := .int (e0_113 41 0)) (C := "AlarmMatrixModel") (T := T_MD) (N := 42) hx hb hts i_MD hown hK hP 0 rfl rfl 41 (by decide) (hts _ k5_61) (fun _ h9 => h9) rfl d_MD_say_140 ?_
      refine lv_iadd hx hb d_MD_say_143 ?_
      refine lv_sipush (v := (2000 : Int32)) hx hb d_MD_say_144 (by decide) ?_
      refine lv_icmp_gt (tgt := 154) hx hb d_MD_say_147 (by decide) (fun hc => ?_) (fun hc => ?_)
      · replace hm := if_t hm hc
        refine lv_iconst (v := (0 : Int32)) hx hb d_MD_say_154 (by decide) ?_
        obtain ⟨r155, z0_155, hcl, hm⟩ := bn2_s hm
        refine kci (wc := wd_MD g h0 q0 e0_113) (wr := ([] : va_W)) (w1 := wd_MD g h0 q0 z0_155) hP hD hS hA [0, 1, 2, 3, 4, 5, 6, 7, 8, 9, 10, 11, 12, 13, 14, 15, 16, 17, 18, 19, 20, 21, 22, 23, 24, 25, 26, 27, 28, 29, 30, 31] [] rfl rfl (by decide) (by decide) (va_runV (As := [.int s0_109, .int (0 : Int32)]) (rest := []) ⟨hx, hb, hml, hown, hts⟩ (c_MD_goes hG hGn l dC dI g F H.size h0 q0 e0_113 s0_109 (0 : Int32) hcl) (cwV 2 hts (gdV k5_155 k5_157 kp_20 k1_10 k5_158) rfl rfl rfl (by decide +kernel) ⟨Nat.le_of_ble_eq_true rfl, Nat.le_of_ble_eq_true rfl⟩) (kpV hG hP hK hD hS hA hGA [0, 1, 2, 3, 4, 5, 6, 7, 8, 9, 10, 11, 12, 13, 14, 15, 16, 17, 18, 19, 20, 21, 22, 23, 24, 25, 26, 27, 28, 29, 30, 31] (by decide) rfl (ci := 10) (q0 := 0) rfl rfl rfl) rfl rfl hl.1 rfl (lv_room (Nat.le_of_ble_eq_true rfl)) d_MD_say_155 ⟨Nat.le_of_ble_eq_true rfl, Nat.le_of_ble_eq_true rfl⟩) (fun H locs hP hD hS => ?_)
        have hP : va_P (dC, dI) vwCl (wd_MD g h0 q0 z0_155) H := hP
        have hD : va_D A (wd_MD g h0 q0 z0_155) := hD
        refine lv_if_ne (tgt := 163) hx hb d_MD_say_158 (by decide) (fun hc => ?_) (fun hc => ?_)
        · replace hm := if_f hm hc
          refine lv_iconst (v := (0 : Int32)) hx hb d_MD_say_163 (by decide) ?_
          refine lv_istore (lv' := [(7, .int (0 : Int32)), (6, .int s0_109), (0, .ref h0), (1, .int a1), (2, .int a2), (3, .int a3), (4, .int a4), (5, .int a5)]) hx hb d_MD_say_164 hl (by decide) rfl (fun ls hl => ?_)
          have L166 : ∀ (n166 : Nat) (v7_166 : Int32) (y0_166 : St) (H : Heap) (locs : List Loc) (ls : Array Slot), lq2 (m_MD_say_B166 F  (fun v7_166 y0_166 => (some ((y0_166 12 0), y0_166)))) n166 v7_166 y0_166 = some o → va_P (dC, dI) vwCl (wd_MD g h0 q0 y0_166) H → va_D A (wd_MD g h0 q0 y0_166) → va_S A s.heap H locs → lv_has ls 8 [(0, .ref h0), (1, .int a1), (2, .int a2), (3, .int a3), (4, .int a4), (5, .int a5), (6, .int s0_109), (7, .int v7_166)] → W p l e rm_MD_say s m args below meth c H locs 0 0 Q (F0 m 166 ls []) := by
            intro n166
            induction n166 with
            | zero => intro v7_166 y0_166 H locs ls hm; exact absurd hm (by intro z; cases z)
            | succ n166 ih166 =>
              intro v7_166 y0_166 H locs ls hm hP hD hS hl
              replace hm := m_MD_say_B166_h (lq2_h hm)
              refine lv_iload hx hb d_MD_say_166 (lv_at hl 7 rfl) ?_
              refine lv_aload_n hx hb d_MD_say_168 rfl (lv_at hl 0 rfl) ?_
              refine va_get (D := (dC, dI)) (ci := 10) (v := .int (y0_166 41 0)) (C := "AlarmMatrixModel") (T := T_MD) (N := 42) hx hb hts i_MD hown hK hP 0 rfl rfl 41 (by decide) (hts _ k5_61) (fun _ h9 => h9) rfl d_MD_say_169 ?_
              refine lv_icmp_ge (tgt := 192) hx hb d_MD_say_172 (by decide) (fun hc => ?_) (fun hc => ?_)
              · replace hm := if_t hm hc
                refine lv_aload_n hx hb d_MD_say_192 rfl (lv_at hl 0 rfl) ?_
                refine va_get (D := (dC, dI)) (ci := 10) (v := .int (y0_166 12 0)) (C := "AlarmMatrixModel") (T := T_MD) (N := 42) hx hb hts i_MD hown hK hP 0 rfl rfl 12 (by decide) (hts _ k5_32) (fun _ h9 => h9) rfl d_MD_say_193 ?_
                obtain rfl := Option.some.inj hm
                rw [hQ]
                exact kri hx hb hr hlocks hAe hP hK hD hS d_MD_say_196
              · replace hm := if_f hm hc
                refine lv_aload_n hx hb d_MD_say_175 rfl (lv_at hl 0 rfl) ?_
                refine lv_aload_n hx hb d_MD_say_176 rfl (lv_at hl 0 rfl) ?_
                refine va_get (D := (dC, dI)) (ci := 10) (v := .ref (q0 40)) (C := "AlarmMatrixModel") (T := T_MD) (N := 42) hx hb hts i_MD hown hK hP 0 rfl rfl 40 (by decide) (hts _ k5_60) (fun _ h9 => h9) rfl d_MD_say_177 ?_
                refine lv_iload hx hb d_MD_say_180 (lv_at hl 7 rfl) ?_
                obtain ⟨h_182, hm⟩ := ck_s hm
                refine va_iald (f := (y0_166 40)) hx hb hK hP 31 0 rfl rfl h_182 d_MD_say_182 ?_
                obtain ⟨z0_183, hcl, hm⟩ := bn1_s hm
                refine kcv (wc := wd_MD g h0 q0 y0_166) (wr := ([] : va_W)) (w1 := wd_MD g h0 q0 z0_183) hP hD hS hA [0, 1, 2, 3, 4, 5, 6, 7, 8, 9, 10, 11, 12, 13, 14, 15, 16, 17, 18, 19, 20, 21, 22, 23, 24, 25, 26, 27, 28, 29, 30, 31] [] rfl rfl (by decide) (by decide) (va_runV (As := [.int ((y0_166 40) v7_166.toNatClampNeg)]) (rest := []) ⟨hx, hb, hml, hown, hts⟩ (c_MD_write hG hGn l dC dI g F H.size h0 q0 y0_166 ((y0_166 40) v7_166.toNatClampNeg) hcl) (cwV 1 hts (gdV k5_159 k5_161 kp_21 k1_10 k5_162) rfl rfl rfl (by decide +kernel) ⟨Nat.le_of_ble_eq_true rfl, Nat.le_of_ble_eq_true rfl⟩) (kpV hG hP hK hD hS hA hGA [0, 1, 2, 3, 4, 5, 6, 7, 8, 9, 10, 11, 12, 13, 14, 15, 16, 17, 18, 19, 20, 21, 22, 23, 24, 25, 26, 27, 28, 29, 30, 31] (by decide) rfl (ci := 10) (q0 := 0) rfl rfl rfl) rfl rfl hl.1 rfl (lv_room (Nat.le_of_ble_eq_true rfl)) d_MD_say_183 ⟨Nat.le_of_ble_eq_true rfl, Nat.le_of_ble_eq_true rfl⟩) (fun H locs hP hD hS => ?_)
                have hP : va_P (dC, dI) vwCl (wd_MD g h0 q0 z0_183) H := hP
                have hD : va_D A (wd_MD g h0 q0 z0_183) := hD
                refine lv_iinc (v := (v7_166 + (1 : Int32))) (lv' := [(7, .int (v7_166 + (1 : Int32))), (0, .ref h0), (1, .int a1), (2, .int a2), (3, .int a3), (4, .int a4), (5, .int a5), (6, .int s0_109)]) hx hb d_MD_say_186 hl (k := 7) rfl rfl (by decide) rfl (fun ls hl => ?_)
                refine lv_goto (tgt := 166) hx hb d_MD_say_189 (by decide) ?_
                exact ih166 (v7_166 + (1 : Int32)) z0_183 H locs ls hm hP hD hS (lv_sub hl [1, 2, 3, 4, 5, 6, 7, 0] rfl)
          exact L166 F (0 : Int32) z0_155 H locs ls hm hP hD hS (lv_sub hl [2, 3, 4, 5, 6, 7, 1, 0] rfl)
        · replace hm := if_t hm hc
          refine lv_iconst (v := (0 : Int32)) hx hb d_MD_say_161 (by decide) ?_
          obtain rfl := Option.some.inj hm
          rw [hQ]
          exact kri hx hb hr hlocks hAe hP hK hD hS d_MD_say_162
      · replace hm := if_f hm hc
        refine lv_iconst (v := (1 : Int32)) hx hb d_MD_say_150 (by decide) ?_
        refine lv_goto (tgt := 155) hx hb d_MD_say_151 (by decide) ?_
        obtain ⟨r155, z0_155, hcl, hm⟩ := bn2_s hm
        refine kci (wc := wd_MD g h0 q0 e0_113) (wr := ([] : va_W)) (w1 := wd_MD g h0 q0 z0_155) hP hD hS hA [0, 1, 2, 3, 4, 5, 6, 7, 8, 9, 10, 11, 12, 13, 14, 15, 16, 17, 18, 19, 20, 21, 22, 23, 24, 25, 26, 27, 28, 29, 30, 31] [] rfl rfl (by decide) (by decide) (va_runV (As := [.int s0_109, .int (1 : Int32)]) (rest := []) ⟨hx, hb, hml, hown, hts⟩ (c_MD_goes hG hGn l dC dI g F H.size h0 q0 e0_113 s0_109 (1 : Int32) hcl) (cwV 2 hts (gdV k5_155 k5_157 kp_20 k1_10 k5_158) rfl rfl rfl (by decide +kernel) ⟨Nat.le_of_ble_eq_true rfl, Nat.le_of_ble_eq_true rfl⟩) (kpV hG hP hK hD hS hA hGA [0, 1, 2, 3, 4, 5, 6, 7, 8, 9, 10, 11, 12, 13, 14, 15, 16, 17, 18, 19, 20, 21, 22, 23, 24, 25, 26, 27, 28, 29, 30, 31] (by decide) rfl (ci := 10) (q0 := 0) rfl rfl rfl) rfl rfl hl.1 rfl (lv_room (Nat.le_of_ble_eq_true rfl)) d_MD_say_155 ⟨Nat.le_of_ble_eq_true rfl, Nat.le_of_ble_eq_true rfl⟩) (fun H locs hP hD hS => ?_)
        have hP : va_P (dC, dI) vwCl (wd_MD g h0 q0 z0_155) H := hP
        have hD : va_D A (wd_MD g h0 q0 z0_155) := hD
        refine lv_if_ne (tgt := 163) hx hb d_MD_say_158 (by decide) (fun hc => ?_) (fun hc => ?_)
        · replace hm := if_f hm hc
          refine lv_iconst (v := (0 : Int32)) hx hb d_MD_say_163 (by decide) ?_
          refine lv_istore (lv' := [(7, .int (0 : Int32)), (6, .int s0_109), (0, .ref h0), (1, .int a1), (2, .int a2), (3, .int a3), (4, .int a4), (5, .int a5)]) hx hb d_MD_say_164 hl (by decide) rfl (fun ls hl => ?_)
          have L166 : ∀ (n166 : Nat) (v7_166 : Int32) (y0_166 : St) (H : Heap) (locs : List Loc) (ls : Array Slot), lq2 (m_MD_say_B166 F  (fun v7_166 y0_166 => (some ((y0_166 12 0), y0_166)))) n166 v7_166 y0_166 = some o → va_P (dC, dI) vwCl (wd_MD g h0 q0 y0_166) H → va_D A (wd_MD g h0 q0 y0_166) → va_S A s.heap H locs → lv_has ls 8 [(0, .ref h0), (1, .int a1), (2, .int a2), (3, .int a3), (4, .int a4), (5, .int a5), (6, .int s0_109), (7, .int v7_166)] → W p l e rm_MD_say s m args below meth c H locs 0 0 Q (F0 m 166 ls []) := by
            intro n166
            induction n166 with
            | zero => intro v7_166 y0_166 H locs ls hm; exact absurd hm (by intro z; cases z)
            | succ n166 ih166 =>
              intro v7_166 y0_166 H locs ls hm hP hD hS hl
              replace hm := m_MD_say_B166_h (lq2_h hm)
              refine lv_iload hx hb d_MD_say_166 (lv_at hl 7 rfl) ?_
              refine lv_aload_n hx hb d_MD_say_168 rfl (lv_at hl 0 rfl) ?_
              refine va_get (D := (dC, dI)) (ci := 10) (v := .int (y0_166 41 0)) (C := "AlarmMatrixModel") (T := T_MD) (N := 42) hx hb hts i_MD hown hK hP 0 rfl rfl 41 (by decide) (hts _ k5_61) (fun _ h9 => h9) rfl d_MD_say_169 ?_
              refine lv_icmp_ge (tgt := 192) hx hb d_MD_say_172 (by decide) (fun hc => ?_) (fun hc => ?_)
              · replace hm := if_t hm hc
                refine lv_aload_n hx hb d_MD_say_192 rfl (lv_at hl 0 rfl) ?_
                refine va_get (D := (dC, dI)) (ci := 10) (v := .int (y0_166 12 0)) (C := "AlarmMatrixModel") (T := T_MD) (N := 42) hx hb hts i_MD hown hK hP 0 rfl rfl 12 (by decide) (hts _ k5_32) (fun _ h9 => h9) rfl d_MD_say_193 ?_
                obtain rfl := Option.some.inj hm
                rw [hQ]
                exact kri hx hb hr hlocks hAe hP hK hD hS d_MD_say_196
              · replace hm := if_f hm hc
                refine lv_aload_n hx hb d_MD_say_175 rfl (lv_at hl 0 rfl) ?_
                refine lv_aload_n hx hb d_MD_say_176 rfl (lv_at hl 0 rfl) ?_
                refine va_get (D := (dC, dI)) (ci := 10) (v := .ref (q0 40)) (C := "AlarmMatrixModel") (T := T_MD) (N := 42) hx hb hts i_MD hown hK hP 0 rfl rfl 40 (by decide) (hts _ k5_60) (fun _ h9 => h9) rfl d_MD_say_177 ?_
                refine lv_iload hx hb d_MD_say_180 (lv_at hl 7 rfl) ?_
                obtain ⟨h_182, hm⟩ := ck_s hm
                refine va_iald (f := (y0_166 40)) hx hb hK hP 31 0 rfl rfl h_182 d_MD_say_182 ?_
                obtain ⟨z0_183, hcl, hm⟩ := bn1_s hm
                refine kcv (wc := wd_MD g h0 q0 y0_166) (wr := ([] : va_W)) (w1 := wd_MD g h0 q0 z0_183) hP hD hS hA [0, 1, 2, 3, 4, 5, 6, 7, 8, 9, 10, 11, 12, 13, 14, 15, 16, 17, 18, 19, 20, 21, 22, 23, 24, 25, 26, 27, 28, 29, 30, 31] [] rfl rfl (by decide) (by decide) (va_runV (As := [.int ((y0_166 40) v7_166.toNatClampNeg)]) (rest := []) ⟨hx, hb, hml, hown, hts⟩ (c_MD_write hG hGn l dC dI g F H.size h0 q0 y0_166 ((y0_166 40) v7_166.toNatClampNeg) hcl) (cwV 1 hts (gdV k5_159 k5_161 kp_21 k1_10 k5_162) rfl rfl rfl (by decide +kernel) ⟨Nat.le_of_ble_eq_true rfl, Nat.le_of_ble_eq_true rfl⟩) (kpV hG hP hK hD hS hA hGA [0, 1, 2, 3, 4, 5, 6, 7, 8, 9, 10, 11, 12, 13, 14, 15, 16, 17, 18, 19, 20, 21, 22, 23, 24, 25, 26, 27, 28, 29, 30, 31] (by decide) rfl (ci := 10) (q0 := 0) rfl rfl rfl) rfl rfl hl.1 rfl (lv_room (Nat.le_of_ble_eq_true rfl)) d_MD_say_183 ⟨Nat.le_of_ble_eq_true rfl, Nat.le_of_ble_eq_true rfl⟩) (fun H locs hP hD hS => ?_)
                have hP : va_P (dC, dI) vwCl (wd_MD g h0 q0 z0_183) H := hP
                have hD : va_D A (wd_MD g h0 q0 z0_183) := hD
                refine lv_iinc (v := (v7_166 + (1 : Int32))) (lv' := [(7, .int (v7_166 + (1 : Int32))), (0, .ref h0), (1, .int a1), (2, .int a2), (3, .int a3), (4, .int a4), (5, .int a5), (6, .int s0_109)]) hx hb d_MD_say_186 hl (k := 7) rfl rfl (by decide) rfl (fun ls hl => ?_)
                refine lv_goto (tgt := 166) hx hb d_MD_say_189 (by decide) ?_
                exact ih166 (v7_166 + (1 : Int32)) z0_183 H locs ls hm hP hD hS (lv_sub hl [1, 2, 3, 4, 5, 6, 7, 0] rfl)
          exact L166 F (0 : Int32) z0_155 H locs ls hm hP hD hS (lv_sub hl [2, 3, 4, 5, 6, 7, 1, 0] rfl)
        · replace hm := if_t hm hc
          refine lv_iconst (v := (0 : Int32)) hx hb d_MD_say_161 (by decide) ?_
          obtain rfl := Option.some.inj hm
          rw [hQ]
          exact kri hx hb hr hlocks hAe hP hK hD hS d_MD_say_162
    · replace hm := if_f hm hc
      refine lv_aload_n hx hb d_MD_say_121 rfl (lv_at hl 1 rfl) ?_
      refine lv_iload_n hx hb d_MD_say_122 rfl (lv_at hl 2 rfl) ?_
      refine lv_iload_n hx hb d_MD_say_123 rfl (lv_at hl 3 rfl) ?_
      refine lv_iload_n hx hb d_MD_say_124 rfl (lv_at hl 4 rfl) ?_
      refine lv_iload hx hb d_MD_say_125 (lv_at hl 5 rfl) ?_
      refine lv_iload hx hb d_MD_say_127 (lv_at hl 6 rfl) ?_
      obtain ⟨z0_129, hcl, hm⟩ := bn1_s hm
      refine kcv (wc := wd_MD g h0 q0 e0_113) (wr := ([] : va_W)) (w1 := wd_MD g h0 q0 z0_129) hP hD hS hA [0, 1, 2, 3, 4, 5, 6, 7, 8, 9, 10, 11, 12, 13, 14, 15, 16, 17, 18, 19, 20, 21, 22, 23, 24, 25, 26, 27, 28, 29, 30, 31] [] rfl rfl (by decide) (by decide) (va_runV (As := [.int a1, .int a2, .int a3, .int a4, .int a5]) (rest := []) ⟨hx, hb, hml, hown, hts⟩ (c_MD_sentence hG hGn l dC dI g F H.size h0 q0 e0_113 a1 a2 a3 a4 a5 hcl) (cwV 5 hts (gdV k5_170 k5_172 kp_22 k1_10 k5_173) rfl rfl rfl (by decide +kernel) ⟨Nat.le_of_ble_eq_true rfl, Nat.le_of_ble_eq_true rfl⟩) (kpV hG hP hK hD hS hA hGA [0, 1, 2, 3, 4, 5, 6, 7, 8, 9, 10, 11, 12, 13, 14, 15, 16, 17, 18, 19, 20, 21, 22, 23, 24, 25, 26, 27, 28, 29, 30, 31] (by decide) rfl (ci := 10) (q0 := 0) rfl rfl rfl) rfl rfl hl.1 rfl (lv_room (Nat.le_of_ble_eq_true rfl)) d_MD_say_129 ⟨Nat.le_of_ble_eq_true rfl, Nat.le_of_ble_eq_true rfl⟩) (fun H locs hP hD hS => ?_)
      have hP : va_P (dC, dI) vwCl (wd_MD g h0 q0 z0_129) H := hP
      have hD : va_D A (wd_MD g h0 q0 z0_129) := hD
      refine lv_aload_n hx hb d_MD_say_132 rfl (lv_at hl 1 rfl) ?_
      refine lv_iload hx hb d_MD_say_133 (lv_at hl 0 rfl) ?_
      refine lv_aload_n hx hb d_MD_say_135 rfl (lv_at hl 1 rfl) ?_
      refine va_get (D := (dC, dI)) (ci := 10) (v := .int (z0_129 12 0)) (C := "AlarmMatrixModel") (T := T_MD) (N := 42) hx hb hts i_MD hown hK hP 0 rfl rfl 12 (by decide) (hts _ k5_32) (fun _ h9 => h9) rfl d_MD_say_136 ?_
      refine lv_aload_n hx hb d_MD_say_139 rfl (lv_at hl 1 rfl) ?_
      refine va_get (D := (dC, dI)) (ci := 10) (v := .int (z0_129 41 0)) (C := "AlarmMatrixModel") (T := T_MD) (N := 42) hx hb hts i_MD hown hK hP 0 rfl rfl 41 (by decide) (hts _ k5_61) (fun _ h9 => h9) rfl d_MD_say_140 ?_
      refine lv_iadd hx hb d_MD_say_143 ?_
      refine lv_sipush (v := (2000 : Int32)) hx hb d_MD_say_144 (by decide) ?_
      refine lv_icmp_gt (tgt := 154) hx hb d_MD_say_147 (by decide) (fun hc => ?_) (fun hc => ?_)
      · replace hm := if_t hm hc
        refine lv_iconst (v := (0 : Int32)) hx hb d_MD_say_154 (by decide) ?_
        obtain ⟨r155, z0_155, hcl, hm⟩ := bn2_s hm
        refine kci (wc := wd_MD g h0 q0 z0_129) (wr := ([] : va_W)) (w1 := wd_MD g h0 q0 z0_155) hP hD hS hA [0, 1, 2, 3, 4, 5, 6, 7, 8, 9, 10, 11, 12, 13, 14, 15, 16, 17, 18, 19, 20, 21, 22, 23, 24, 25, 26, 27, 28, 29, 30, 31] [] rfl rfl (by decide) (by decide) (va_runV (As := [.int s0_109, .int (0 : Int32)]) (rest := []) ⟨hx, hb, hml, hown, hts⟩ (c_MD_goes hG hGn l dC dI g F H.size h0 q0 z0_129 s0_109 (0 : Int32) hcl) (cwV 2 hts (gdV k5_155 k5_157 kp_20 k1_10 k5_158) rfl rfl rfl (by decide +kernel) ⟨Nat.le_of_ble_eq_true rfl, Nat.le_of_ble_eq_true rfl⟩) (kpV hG hP hK hD hS hA hGA [0, 1, 2, 3, 4, 5, 6, 7, 8, 9, 10, 11, 12, 13, 14, 15, 16, 17, 18, 19, 20, 21, 22, 23, 24, 25, 26, 27, 28, 29, 30, 31] (by decide) rfl (ci := 10) (q0 := 0) rfl rfl rfl) rfl rfl hl.1 rfl (lv_room (Nat.le_of_ble_eq_true rfl)) d_MD_say_155 ⟨Nat.le_of_ble_eq_true rfl, Nat.le_of_ble_eq_true rfl⟩) (fun H locs hP hD hS => ?_)
        have hP : va_P (dC, dI) vwCl (wd_MD g h0 q0 z0_155) H := hP
        have hD : va_D A (wd_MD g h0 q0 z0_155) := hD
        refine lv_if_ne (tgt := 163) hx hb d_MD_say_158 (by decide) (fun hc => ?_) (fun hc => ?_)
        · replace hm := if_f hm hc
          refine lv_iconst (v := (0 : Int32)) hx hb d_MD_say_163 (by decide) ?_
          refine lv_istore (lv' := [(7, .int (0 : Int32)), (6, .int s0_109), (0, .ref h0), (1, .int a1), (2, .int a2), (3, .int a3), (4, .int a4), (5, .int a5)]) hx hb d_MD_say_164 hl (by decide) rfl (fun ls hl => ?_)
          have L166 : ∀ (n166 : Nat) (v7_166 : Int32) (y0_166 : St) (H : Heap) (locs : List Loc) (ls : Array Slot), lq2 (m_MD_say_B166 F  (fun v7_166 y0_166 => (some ((y0_166 12 0), y0_166)))) n166 v7_166 y0_166 = some o → va_P (dC, dI) vwCl (wd_MD g h0 q0 y0_166) H → va_D A (wd_MD g h0 q0 y0_166) → va_S A s.heap H locs → lv_has ls 8 [(0, .ref h0), (1, .int a1), (2, .int a2), (3, .int a3), (4, .int a4), (5, .int a5), (6, .int s0_109), (7, .int v7_166)] → W p l e rm_MD_say s m args below meth c H locs 0 0 Q (F0 m 166 ls []) := by
            intro n166
            induction n166 with
            | zero => intro v7_166 y0_166 H locs ls hm; exact absurd hm (by intro z; cases z)
            | succ n166 ih166 =>
              intro v7_166 y0_166 H locs ls hm hP hD hS hl
              replace hm := m_MD_say_B166_h (lq2_h hm)
              refine lv_iload hx hb d_MD_say_166 (lv_at hl 7 rfl) ?_
              refine lv_aload_n hx hb d_MD_say_168 rfl (lv_at hl 0 rfl) ?_
              refine va_get (D := (dC, dI)) (ci := 10) (v := .int (y0_166 41 0)) (C := "AlarmMatrixModel") (T := T_MD) (N := 42) hx hb hts i_MD hown hK hP 0 rfl rfl 41 (by decide) (hts _ k5_61) (fun _ h9 => h9) rfl d_MD_say_169 ?_
              refine lv_icmp_ge (tgt := 192) hx hb d_MD_say_172 (by decide) (fun hc => ?_) (fun hc => ?_)
              · replace hm := if_t hm hc
                refine lv_aload_n hx hb d_MD_say_192 rfl (lv_at hl 0 rfl) ?_
                refine va_get (D := (dC, dI)) (ci := 10) (v := .int (y0_166 12 0)) (C := "AlarmMatrixModel") (T := T_MD) (N := 42) hx hb hts i_MD hown hK hP 0 rfl rfl 12 (by decide) (hts _ k5_32) (fun _ h9 => h9) rfl d_MD_say_193 ?_
                obtain rfl := Option.some.inj hm
                rw [hQ]
                exact kri hx hb hr hlocks hAe hP hK hD hS d_MD_say_196
              · replace hm := if_f hm hc
                refine lv_aload_n hx hb d_MD_say_175 rfl (lv_at hl 0 rfl) ?_
                refine lv_aload_n hx hb d_MD_say_176 rfl (lv_at hl 0 rfl) ?_
                refine va_get (D := (dC, dI)) (ci := 10) (v := .ref (q0 40)) (C := "AlarmMatrixModel") (T := T_MD) (N := 42) hx hb hts i_MD hown hK hP 0 rfl rfl 40 (by decide) (hts _ k5_60) (fun _ h9 => h9) rfl d_MD_say_177 ?_
                refine lv_iload hx hb d_MD_say_180 (lv_at hl 7 rfl) ?_
                obtain ⟨h_182, hm⟩ := ck_s hm
                refine va_iald (f := (y0_166 40)) hx hb hK hP 31 0 rfl rfl h_182 d_MD_say_182 ?_
                obtain ⟨z0_183, hcl, hm⟩ := bn1_s hm
                refine kcv (wc := wd_MD g h0 q0 y0_166) (wr := ([] : va_W)) (w1 := wd_MD g h0 q0 z0_183) hP hD hS hA [0, 1, 2, 3, 4, 5, 6, 7, 8, 9, 10, 11, 12, 13, 14, 15, 16, 17, 18, 19, 20, 21, 22, 23, 24, 25, 26, 27, 28, 29, 30, 31] [] rfl rfl (by decide) (by decide) (va_runV (As := [.int ((y0_166 40) v7_166.toNatClampNeg)]) (rest := []) ⟨hx, hb, hml, hown, hts⟩ (c_MD_write hG hGn l dC dI g F H.size h0 q0 y0_166 ((y0_166 40) v7_166.toNatClampNeg) hcl) (cwV 1 hts (gdV k5_159 k5_161 kp_21 k1_10 k5_162) rfl rfl rfl (by decide +kernel) ⟨Nat.le_of_ble_eq_true rfl, Nat.le_of_ble_eq_true rfl⟩) (kpV hG hP hK hD hS hA hGA [0, 1, 2, 3, 4, 5, 6, 7, 8, 9, 10, 11, 12, 13, 14, 15, 16, 17, 18, 19, 20, 21, 22, 23, 24, 25, 26, 27, 28, 29, 30, 31] (by decide) rfl (ci := 10) (q0 := 0) rfl rfl rfl) rfl rfl hl.1 rfl (lv_room (Nat.le_of_ble_eq_true rfl)) d_MD_say_183 ⟨Nat.le_of_ble_eq_true rfl, Nat.le_of_ble_eq_true rfl⟩) (fun H locs hP hD hS => ?_)
                have hP : va_P (dC, dI) vwCl (wd_MD g h0 q0 z0_183) H := hP
                have hD : va_D A (wd_MD g h0 q0 z0_183) := hD
                refine lv_iinc (v := (v7_166 + (1 : Int32))) (lv' := [(7, .int (v7_166 + (1 : Int32))), (0, .ref h0), (1, .int a1), (2, .int a2), (3, .int a3), (4, .int a4), (5, .int a5), (6, .int s0_109)]) hx hb d_MD_say_186 hl (k := 7) rfl rfl (by decide) rfl (fun ls hl => ?_)
                refine lv_goto (tgt := 166) hx hb d_MD_say_189 (by decide) ?_
                exact ih166 (v7_166 + (1 : Int32)) z0_183 H locs ls hm hP hD hS (lv_sub hl [1, 2, 3, 4, 5, 6, 7, 0] rfl)
          exact L166 F (0 : Int32) z0_155 H locs ls hm hP hD hS (lv_sub hl [2, 3, 4, 5, 6, 7, 1, 0] rfl)
        · replace hm := if_t hm hc
          refine lv_iconst (v := (0 : Int32)) hx hb d_MD_say_161 (by decide) ?_
          obtain rfl := Option.some.inj hm
          rw [hQ]
          exact kri hx hb hr hlocks hAe hP hK hD hS d_MD_say_162
      · replace hm := if_f hm hc
        refine lv_iconst (v := (1 : Int32)) hx hb d_MD_say_150 (by decide) ?_
        refine lv_goto (tgt := 155) hx hb d_MD_say_151 (by decide) ?_
        obtain ⟨r155, z0_155, hcl, hm⟩ := bn2_s hm
        refine kci (wc := wd_MD g h0 q0 z0_129) (wr := ([] : va_W)) (w1 := wd_MD g h0 q0 z0_155) hP hD hS hA [0, 1, 2, 3, 4, 5, 6, 7, 8, 9, 10, 11, 12, 13, 14, 15, 16, 17, 18, 19, 20, 21, 22, 23, 24, 25, 26, 27, 28, 29, 30, 31] [] rfl rfl (by decide) (by decide) (va_runV (As := [.int s0_109, .int (1 : Int32)]) (rest := []) ⟨hx, hb, hml, hown, hts⟩ (c_MD_goes hG hGn l dC dI g F H.size h0 q0 z0_129 s0_109 (1 : Int32) hcl) (cwV 2 hts (gdV k5_155 k5_157 kp_20 k1_10 k5_158) rfl rfl rfl (by decide +kernel) ⟨Nat.le_of_ble_eq_true rfl, Nat.le_of_ble_eq_true rfl⟩) (kpV hG hP hK hD hS hA hGA [0, 1, 2, 3, 4, 5, 6, 7, 8, 9, 10, 11, 12, 13, 14, 15, 16, 17, 18, 19, 20, 21, 22, 23, 24, 25, 26, 27, 28, 29, 30, 31] (by decide) rfl (ci := 10) (q0 := 0) rfl rfl rfl) rfl rfl hl.1 rfl (lv_room (Nat.le_of_ble_eq_true rfl)) d_MD_say_155 ⟨Nat.le_of_ble_eq_true rfl, Nat.le_of_ble_eq_true rfl⟩) (fun H locs hP hD hS => ?_)
        have hP : va_P (dC, dI) vwCl (wd_MD g h0 q0 z0_155) H := hP
        have hD : va_D A (wd_MD g h0 q0 z0_155) := hD
        refine lv_if_ne (tgt := 163) hx hb d_MD_say_158 (by decide) (fun hc => ?_) (fun hc => ?_)
        · replace hm := if_f hm hc
          refine lv_iconst (v := (0 : Int32)) hx hb d_MD_say_163 (by decide) ?_
          refine lv_istore (lv' := [(7, .int (0 : Int32)), (6, .int s0_109), (0, .ref h0), (1, .int a1), (2, .int a2), (3, .int a3), (4, .int a4), (5, .int a5)]) hx hb d_MD_say_164 hl (by decide) rfl (fun ls hl => ?_)
          have L166 : ∀ (n166 : Nat) (v7_166 : Int32) (y0_166 : St) (H : Heap) (locs : List Loc) (ls : Array Slot), lq2 (m_MD_say_B166 F  (fun v7_166 y0_166 => (some ((y0_166 12 0), y0_166)))) n166 v7_166 y0_166 = some o → va_P (dC, dI) vwCl (wd_MD g h0 q0 y0_166) H → va_D A (wd_MD g h0 q0 y0_166) → va_S A s.heap H locs → lv_has ls 8 [(0, .ref h0), (1, .int a1), (2, .int a2), (3, .int a3), (4, .int a4), (5, .int a5), (6, .int s0_109), (7, .int v7_166)] → W p l e rm_MD_say s m args below meth c H locs 0 0 Q (F0 m 166 ls []) := by
            intro n166
            induction n166 with
            | zero => intro v7_166 y0_166 H locs ls hm; exact absurd hm (by intro z; cases z)
            | succ n166 ih166 =>
              intro v7_166 y0_166 H locs ls hm hP hD hS hl
              replace hm := m_MD_say_B166_h (lq2_h hm)
              refine lv_iload hx hb d_MD_say_166 (lv_at hl 7 rfl) ?_
              refine lv_aload_n hx hb d_MD_say_168 rfl (lv_at hl 0 rfl) ?_
              refine va_get (D := (dC, dI)) (ci := 10) (v := .int (y0_166 41 0)) (C := "AlarmMatrixModel") (T := T_MD) (N := 42) hx hb hts i_MD hown hK hP 0 rfl rfl 41 (by decide) (hts _ k5_61) (fun _ h9 => h9) rfl d_MD_say_169 ?_
              refine lv_icmp_ge (tgt := 192) hx hb d_MD_say_172 (by decide) (fun hc => ?_) (fun hc => ?_)
              · replace hm := if_t hm hc
                refine lv_aload_n hx hb d_MD_say_192 rfl (lv_at hl 0 rfl) ?_
                refine va_get (D := (dC, dI)) (ci := 10) (v := .int (y0_166 12 0)) (C := "AlarmMatrixModel") (T := T_MD) (N := 42) hx hb hts i_MD hown hK hP 0 rfl rfl 12 (by decide) (hts _ k5_32) (fun _ h9 => h9) rfl d_MD_say_193 ?_
                obtain rfl := Option.some.inj hm
                rw [hQ]
                exact kri hx hb hr hlocks hAe hP hK hD hS d_MD_say_196
              · replace hm := if_f hm hc
                refine lv_aload_n hx hb d_MD_say_175 rfl (lv_at hl 0 rfl) ?_
                refine lv_aload_n hx hb d_MD_say_176 rfl (lv_at hl 0 rfl) ?_
                refine va_get (D := (dC, dI)) (ci := 10) (v := .ref (q0 40)) (C := "AlarmMatrixModel") (T := T_MD) (N := 42) hx hb hts i_MD hown hK hP 0 rfl rfl 40 (by decide) (hts _ k5_60) (fun _ h9 => h9) rfl d_MD_say_177 ?_
                refine lv_iload hx hb d_MD_say_180 (lv_at hl 7 rfl) ?_
                obtain ⟨h_182, hm⟩ := ck_s hm
                refine va_iald (f := (y0_166 40)) hx hb hK hP 31 0 rfl rfl h_182 d_MD_say_182 ?_
                obtain ⟨z0_183, hcl, hm⟩ := bn1_s hm
                refine kcv (wc := wd_MD g h0 q0 y0_166) (wr := ([] : va_W)) (w1 := wd_MD g h0 q0 z0_183) hP hD hS hA [0, 1, 2, 3, 4, 5, 6, 7, 8, 9, 10, 11, 12, 13, 14, 15, 16, 17, 18, 19, 20, 21, 22, 23, 24, 25, 26, 27, 28, 29, 30, 31] [] rfl rfl (by decide) (by decide) (va_runV (As := [.int ((y0_166 40) v7_166.toNatClampNeg)]) (rest := []) ⟨hx, hb, hml, hown, hts⟩ (c_MD_write hG hGn l dC dI g F H.size h0 q0 y0_166 ((y0_166 40) v7_166.toNatClampNeg) hcl) (cwV 1 hts (gdV k5_159 k5_161 kp_21 k1_10 k5_162) rfl rfl rfl (by decide +kernel) ⟨Nat.le_of_ble_eq_true rfl, Nat.le_of_ble_eq_true rfl⟩) (kpV hG hP hK hD hS hA hGA [0, 1, 2, 3, 4, 5, 6, 7, 8, 9, 10, 11, 12, 13, 14, 15, 16, 17, 18, 19, 20, 21, 22, 23, 24, 25, 26, 27, 28, 29, 30, 31] (by decide) rfl (ci := 10) (q0 := 0) rfl rfl rfl) rfl rfl hl.1 rfl (lv_room (Nat.le_of_ble_eq_true rfl)) d_MD_say_183 ⟨Nat.le_of_ble_eq_true rfl, Nat.le_of_ble_eq_true rfl⟩) (fun H locs hP hD hS => ?_)
                have hP : va_P (dC, dI) vwCl (wd_MD g h0 q0 z0_183) H := hP
                have hD : va_D A (wd_MD g h0 q0 z0_183) := hD
                refine lv_iinc (v := (v7_166 + (1 : Int32))) (lv' := [(7, .int (v7_166 + (1 : Int32))), (0, .ref h0), (1, .int a1), (2, .int a2), (3, .int a3), (4, .int a4), (5, .int a5), (6, .int s0_109)]) hx hb d_MD_say_186 hl (k := 7) rfl rfl (by decide) rfl (fun ls hl => ?_)
                refine lv_goto (tgt := 166) hx hb d_MD_say_189 (by decide) ?_
                exact ih166 (v7_166 + (1 : Int32)) z0_183 H locs ls hm hP hD hS (lv_sub hl [1, 2, 3, 4, 5, 6, 7, 0] rfl)
          exact L166 F (0 : Int32) z0_155 H locs ls hm hP hD hS (lv_sub hl [2, 3, 4, 5, 6, 7, 1, 0] rfl)
        · replace hm := if_t hm hc
          refine lv_iconst (v := (0 : Int32)) hx hb d_MD_say_161 (by decide) ?_
          obtain rfl := Option.some.inj hm
          rw [hQ]
          exact kri hx hb hr hlocks hAe hP hK hD hS d_MD_say_162
  have J63 : ∀ (j6_63 : Int32) (s0_63 : Int32) (t0_63 : St) (H : Heap) (locs : List Loc) (ls : Array Slot), m_MD_say_J63 F a1 a2 a3 a4 a5  j6_63 s0_63 t0_63 = some o → va_P (dC, dI) vwCl (wd_MD g h0 q0 t0_63) H → va_D A (wd_MD g h0 q0 t0_63) → va_S A s.heap H locs → lv_has ls 8 [(0, .ref h0), (1, .int a1), (2, .int a2), (3, .int a3), (4, .int a4), (5, .int a5), (6, .int j6_63)] → W p l e rm_MD_say s m args below meth c H locs 0 0 Q (F0 m 63 ls [.int s0_63]) := by
    intro j6_63 s0_63 t0_63 H locs ls hm hP hD hS hl
    replace hm := m_MD_say_J63_h hm
    refine lv_istore (lv' := [(6, .int s0_63), (0, .ref h0), (1, .int a1), (2, .int a2), (3, .int a3), (4, .int a4), (5, .int a5)]) hx hb d_MD_say_63 hl (by decide) rfl (fun ls hl => ?_)
    refine lv_iload hx hb d_MD_say_65 (lv_at hl 0 rfl) ?_
    refine lv_if_eq (tgt := 108) hx hb d_MD_say_67 (by decide) (fun hc => ?_) (fun hc => ?_)
    · replace hm := if_t hm hc
      refine lv_iconst (v := (0 : Int32)) hx hb d_MD_say_108 (by decide) ?_
      exact J109 s0_63 (0 : Int32) t0_63 H locs ls hm hP hD hS (lv_sub hl [1, 2, 3, 4, 5, 6, 0] rfl)
    · replace hm := if_f hm hc
      refine lv_iload_n hx hb d_MD_say_70 rfl (lv_at hl 2 rfl) ?_
      refine lv_iconst (v := (1 : Int32)) hx hb d_MD_say_71 (by decide) ?_
      refine lv_icmp_gt (tgt := 104) hx hb d_MD_say_72 (by decide) (fun hc => ?_) (fun hc => ?_)
      · replace hm := if_t hm hc
        refine lv_iconst (v := (1 : Int32)) hx hb d_MD_say_104 (by decide) ?_
        refine lv_goto (tgt := 109) hx hb d_MD_say_105 (by decide) ?_
        exact J109 s0_63 (1 : Int32) t0_63 H locs ls hm hP hD hS (lv_sub hl [1, 2, 3, 4, 5, 6, 0] rfl)
      · replace hm := if_f hm hc
        refine lv_iload_n hx hb d_MD_say_75 rfl (lv_at hl 2 rfl) ?_
        refine lv_iconst (v := (1 : Int32)) hx hb d_MD_say_76 (by decide) ?_
        refine lv_icmp_ne (tgt := 91) hx hb d_MD_say_77 (by decide) (fun hc => ?_) (fun hc => ?_)
        · replace hm := if_f hm hc
          refine lv_iload hx hb d_MD_say_91 (lv_at hl 6 rfl) ?_
          refine lv_iconst (v := (1 : Int32)) hx hb d_MD_say_93 (by decide) ?_
          refine lv_icmp_lt (tgt := 108) hx hb d_MD_say_94 (by decide) (fun hc => ?_) (fun hc => ?_)
          · replace hm := if_t hm hc
            refine lv_iconst (v := (0 : Int32)) hx hb d_MD_say_108 (by decide) ?_
            exact J109 s0_63 (0 : Int32) t0_63 H locs ls hm hP hD hS (lv_sub hl [1, 2, 3, 4, 5, 6, 0] rfl)
          · replace hm := if_f hm hc
            refine lv_iload hx hb d_MD_say_97 (lv_at hl 6 rfl) ?_
            refine lv_bipush (v := (12 : Int32)) hx hb d_MD_say_99 (by decide) ?_
            refine lv_icmp_gt (tgt := 108) hx hb d_MD_say_101 (by decide) (fun hc => ?_) (fun hc => ?_)
            · replace hm := if_t hm hc
              refine lv_iconst (v := (0 : Int32)) hx hb d_MD_say_108 (by decide) ?_
              exact J109 s0_63 (0 : Int32) t0_63 H locs ls hm hP hD hS (lv_sub hl [1, 2, 3, 4, 5, 6, 0] rfl)
            · replace hm := if_f hm hc
              refine lv_iconst (v := (1 : Int32)) hx hb d_MD_say_104 (by decide) ?_
              refine lv_goto (tgt := 109) hx hb d_MD_say_105 (by decide) ?_
              exact J109 s0_63 (1 : Int32) t0_63 H locs ls hm hP hD hS (lv_sub hl [1, 2, 3, 4, 5, 6, 0] rfl)
        · replace hm := if_t hm hc
          refine lv_iload hx hb d_MD_say_80 (lv_at hl 6 rfl) ?_
          obtain ⟨r82, hcl, hm⟩ := bn1_s hm
          refine kci (wc := ([] : va_W)) (wr := wd_MD g h0 q0 t0_63) (w1 := ([] : va_W)) hP hD hS hA [] [0, 1, 2, 3, 4, 5, 6, 7, 8, 9, 10, 11, 12, 13, 14, 15, 16, 17, 18, 19, 20, 21, 22, 23, 24, 25, 26, 27, 28, 29, 30, 31] rfl rfl (by decide) (by decide) (va_runS (As := [.int a5]) (rest := []) ⟨hx, hb, hml, hown, hts⟩ (c_MD_isSaid hG hGn l dC dI g F H.size a5 hcl) (cwS 1 hts (gdS k5_167 k5_168 k1_10 k5_169) rfl rfl rfl (by decide +kernel) ⟨Nat.le_of_ble_eq_true rfl, Nat.le_of_ble_eq_true rfl⟩) (kpS hG hP hK hD hS hA hGA [] (by decide) rfl) rfl rfl hl.1 rfl (lv_room (Nat.le_of_ble_eq_true rfl)) d_MD_say_82 ⟨Nat.le_of_ble_eq_true rfl, Nat.le_of_ble_eq_true rfl⟩) (fun H locs hP hD hS => ?_)
          have hP : va_P (dC, dI) vwCl (wd_MD g h0 q0 t0_63) H := hP
          have hD : va_D A (wd_MD g h0 q0 t0_63) := hD
          refine lv_if_eq (tgt := 108) hx hb d_MD_say_85 (by decide) (fun hc => ?_) (fun hc => ?_)
          · replace hm := if_t hm hc
            refine lv_iconst (v := (0 : Int32)) hx hb d_MD_say_108 (by decide) ?_
            exact J109 s0_63 (0 : Int32) t0_63 H locs ls hm hP hD hS (lv_sub hl [1, 2, 3, 4, 5, 6, 0] rfl)
          · replace hm := if_f hm hc
            refine lv_goto (tgt := 104) hx hb d_MD_say_88 (by decide) ?_
            refine lv_iconst (v := (1 : Int32)) hx hb d_MD_say_104 (by decide) ?_
            refine lv_goto (tgt := 109) hx hb d_MD_say_105 (by decide) ?_
            exact J109 s0_63 (1 : Int32) t0_63 H locs ls hm hP hD hS (lv_sub hl [1, 2, 3, 4, 5, 6, 0] rfl)
  have J21 : ∀ (s0_21 : Int32) (t0_21 : St) (H : Heap) (locs : List Loc) (ls : Array Slot), m_MD_say_J21 F a1 a2 a3 a4 a5  s0_21 t0_21 = some o → va_P (dC, dI) vwCl (wd_MD g h0 q0 t0_21) H → va_D A (wd_MD g h0 q0 t0_21) → va_S A s.heap H locs → lv_has ls 8 [(0, .ref h0), (1, .int a1), (2, .int a2), (3, .int a3), (4, .int a4), (5, .int a5)] → W p l e rm_MD_say s m args below meth c H locs 0 0 Q (F0 m 21 ls [.int s0_21]) := by
    intro s0_21 t0_21 H locs ls hm hP hD hS hl
    replace hm := m_MD_say_J21_h hm
    refine lv_istore (lv' := [(6, .int s0_21), (0, .ref h0), (1, .int a1), (2, .int a2), (3, .int a3), (4, .int a4), (5, .int a5)]) hx hb d_MD_say_21 hl (by decide) rfl (fun ls hl => ?_)
    refine lv_iload hx hb d_MD_say_23 (lv_at hl 0 rfl) ?_
    refine lv_if_eq (tgt := 62) hx hb d_MD_say_25 (by decide) (fun hc => ?_) (fun hc => ?_)
    · replace hm := if_t hm hc
      refine lv_iconst (v := (0 : Int32)) hx hb d_MD_say_62 (by decide) ?_
      exact J63 s0_21 (0 : Int32) t0_21 H locs ls hm hP hD hS (lv_sub hl [1, 2, 3, 4, 5, 6, 0] rfl)
    · replace hm := if_f hm hc
      refine lv_iload_n hx hb d_MD_say_28 rfl (lv_at hl 2 rfl) ?_
      refine lv_iconst (v := (4 : Int32)) hx hb d_MD_say_29 (by decide) ?_
      refine lv_icmp_eq (tgt := 40) hx hb d_MD_say_30 (by decide) (fun hc => ?_) (fun hc => ?_)
      · replace hm := if_t hm hc
        refine lv_iload_n hx hb d_MD_say_40 rfl (lv_at hl 2 rfl) ?_
        refine lv_iconst (v := (2 : Int32)) hx hb d_MD_say_41 (by decide) ?_
        refine lv_icmp_eq (tgt := 58) hx hb d_MD_say_42 (by decide) (fun hc => ?_) (fun hc => ?_)
        · replace hm := if_t hm hc
          refine lv_iconst (v := (1 : Int32)) hx hb d_MD_say_58 (by decide) ?_
          refine lv_goto (tgt := 63) hx hb d_MD_say_59 (by decide) ?_
          exact J63 s0_21 (1 : Int32) t0_21 H locs ls hm hP hD hS (lv_sub hl [1, 2, 3, 4, 5, 6, 0] rfl)
        · replace hm := if_f hm hc
          refine lv_iload_n hx hb d_MD_say_45 rfl (lv_at hl 2 rfl) ?_
          refine lv_iconst (v := (4 : Int32)) hx hb d_MD_say_46 (by decide) ?_
          refine lv_icmp_eq (tgt := 58) hx hb d_MD_say_47 (by decide) (fun hc => ?_) (fun hc => ?_)
          · replace hm := if_t hm hc
            refine lv_iconst (v := (1 : Int32)) hx hb d_MD_say_58 (by decide) ?_
            refine lv_goto (tgt := 63) hx hb d_MD_say_59 (by decide) ?_
            exact J63 s0_21 (1 : Int32) t0_21 H locs ls hm hP hD hS (lv_sub hl [1, 2, 3, 4, 5, 6, 0] rfl)
          · replace hm := if_f hm hc
            refine lv_iload hx hb d_MD_say_50 (lv_at hl 5 rfl) ?_
            obtain ⟨r52, hcl, hm⟩ := bn1_s hm
            refine kci (wc := ([] : va_W)) (wr := wd_MD g h0 q0 t0_21) (w1 := ([] : va_W)) hP hD hS hA [] [0, 1, 2, 3, 4, 5, 6, 7, 8, 9, 10, 11, 12, 13, 14, 15, 16, 17, 18, 19, 20, 21, 22, 23, 24, 25, 26, 27, 28, 29, 30, 31] rfl rfl (by decide) (by decide) (va_runS (As := [.int a4]) (rest := []) ⟨hx, hb, hml, hown, hts⟩ (c_MD_isSaid hG hGn l dC dI g F H.size a4 hcl) (cwS 1 hts (gdS k5_167 k5_168 k1_10 k5_169) rfl rfl rfl (by decide +kernel) ⟨Nat.le_of_ble_eq_true rfl, Nat.le_of_ble_eq_true rfl⟩) (kpS hG hP hK hD hS hA hGA [] (by decide) rfl) rfl rfl hl.1 rfl (lv_room (Nat.le_of_ble_eq_true rfl)) d_MD_say_52 ⟨Nat.le_of_ble_eq_true rfl, Nat.le_of_ble_eq_true rfl⟩) (fun H locs hP hD hS => ?_)
            have hP : va_P (dC, dI) vwCl (wd_MD g h0 q0 t0_21) H := hP
            have hD : va_D A (wd_MD g h0 q0 t0_21) := hD
            refine lv_if_eq (tgt := 62) hx hb d_MD_say_55 (by decide) (fun hc => ?_) (fun hc => ?_)
            · replace hm := if_t hm hc
              refine lv_iconst (v := (0 : Int32)) hx hb d_MD_say_62 (by decide) ?_
              exact J63 s0_21 (0 : Int32) t0_21 H locs ls hm hP hD hS (lv_sub hl [1, 2, 3, 4, 5, 6, 0] rfl)
            · replace hm := if_f hm hc
              refine lv_iconst (v := (1 : Int32)) hx hb d_MD_say_58 (by decide) ?_
              refine lv_goto (tgt := 63) hx hb d_MD_say_59 (by decide) ?_
              exact J63 s0_21 (1 : Int32) t0_21 H locs ls hm hP hD hS (lv_sub hl [1, 2, 3, 4, 5, 6, 0] rfl)
      · replace hm := if_f hm hc
        refine lv_iload_n hx hb d_MD_say_33 rfl (lv_at hl 4 rfl) ?_
        obtain ⟨r34, hcl, hm⟩ := bn1_s hm
        refine kci (wc := ([] : va_W)) (wr := wd_MD g h0 q0 t0_21) (w1 := ([] : va_W)) hP hD hS hA [] [0, 1, 2, 3, 4, 5, 6, 7, 8, 9, 10, 11, 12, 13, 14, 15, 16, 17, 18, 19, 20, 21, 22, 23, 24, 25, 26, 27, 28, 29, 30, 31] rfl rfl (by decide) (by decide) (va_runS (As := [.int a3]) (rest := []) ⟨hx, hb, hml, hown, hts⟩ (c_MD_isSaid hG hGn l dC dI g F H.size a3 hcl) (cwS 1 hts (gdS k5_167 k5_168 k1_10 k5_169) rfl rfl rfl (by decide +kernel) ⟨Nat.le_of_ble_eq_true rfl, Nat.le_of_ble_eq_true rfl⟩) (kpS hG hP hK hD hS hA hGA [] (by decide) rfl) rfl rfl hl.1 rfl (lv_room (Nat.le_of_ble_eq_true rfl)) d_MD_say_34 ⟨Nat.le_of_ble_eq_true rfl, Nat.le_of_ble_eq_true rfl⟩) (fun H locs hP hD hS => ?_)
        have hP : va_P (dC, dI) vwCl (wd_MD g h0 q0 t0_21) H := hP
        have hD : va_D A (wd_MD g h0 q0 t0_21) := hD
        refine lv_if_eq (tgt := 62) hx hb d_MD_say_37 (by decide) (fun hc => ?_) (fun hc => ?_)
        · replace hm := if_t hm hc
          refine lv_iconst (v := (0 : Int32)) hx hb d_MD_say_62 (by decide) ?_
          exact J63 s0_21 (0 : Int32) t0_21 H locs ls hm hP hD hS (lv_sub hl [1, 2, 3, 4, 5, 6, 0] rfl)
        · replace hm := if_f hm hc
          refine lv_iload_n hx hb d_MD_say_40 rfl (lv_at hl 2 rfl) ?_
          refine lv_iconst (v := (2 : Int32)) hx hb d_MD_say_41 (by decide) ?_
          refine lv_icmp_eq (tgt := 58) hx hb d_MD_say_42 (by decide) (fun hc => ?_) (fun hc => ?_)
          · replace hm := if_t hm hc
            refine lv_iconst (v := (1 : Int32)) hx hb d_MD_say_58 (by decide) ?_
            refine lv_goto (tgt := 63) hx hb d_MD_say_59 (by decide) ?_
            exact J63 s0_21 (1 : Int32) t0_21 H locs ls hm hP hD hS (lv_sub hl [1, 2, 3, 4, 5, 6, 0] rfl)
          · replace hm := if_f hm hc
            refine lv_iload_n hx hb d_MD_say_45 rfl (lv_at hl 2 rfl) ?_
            refine lv_iconst (v := (4 : Int32)) hx hb d_MD_say_46 (by decide) ?_
            refine lv_icmp_eq (tgt := 58) hx hb d_MD_say_47 (by decide) (fun hc => ?_) (fun hc => ?_)
            · replace hm := if_t hm hc
              refine lv_iconst (v := (1 : Int32)) hx hb d_MD_say_58 (by decide) ?_
              refine lv_goto (tgt := 63) hx hb d_MD_say_59 (by decide) ?_
              exact J63 s0_21 (1 : Int32) t0_21 H locs ls hm hP hD hS (lv_sub hl [1, 2, 3, 4, 5, 6, 0] rfl)
            · replace hm := if_f hm hc
              refine lv_iload hx hb d_MD_say_50 (lv_at hl 5 rfl) ?_
              obtain ⟨r52, hcl, hm⟩ := bn1_s hm
              refine kci (wc := ([] : va_W)) (wr := wd_MD g h0 q0 t0_21) (w1 := ([] : va_W)) hP hD hS hA [] [0, 1, 2, 3, 4, 5, 6, 7, 8, 9, 10, 11, 12, 13, 14, 15, 16, 17, 18, 19, 20, 21, 22, 23, 24, 25, 26, 27, 28, 29, 30, 31] rfl rfl (by decide) (by decide) (va_runS (As := [.int a4]) (rest := []) ⟨hx, hb, hml, hown, hts⟩ (c_MD_isSaid hG hGn l dC dI g F H.size a4 hcl) (cwS 1 hts (gdS k5_167 k5_168 k1_10 k5_169) rfl rfl rfl (by decide +kernel) ⟨Nat.le_of_ble_eq_true rfl, Nat.le_of_ble_eq_true rfl⟩) (kpS hG hP hK hD hS hA hGA [] (by decide) rfl) rfl rfl hl.1 rfl (lv_room (Nat.le_of_ble_eq_true rfl)) d_MD_say_52 ⟨Nat.le_of_ble_eq_true rfl, Nat.le_of_ble_eq_true rfl⟩) (fun H locs hP hD hS => ?_)
              have hP : va_P (dC, dI) vwCl (wd_MD g h0 q0 t0_21) H := hP
              have hD : va_D A (wd_MD g h0 q0 t0_21) := hD
              refine lv_if_eq (tgt := 62) hx hb d_MD_say_55 (by decide) (fun hc => ?_) (fun hc => ?_)
              · replace hm := if_t hm hc
                refine lv_iconst (v := (0 : Int32)) hx hb d_MD_say_62 (by decide) ?_
                exact J63 s0_21 (0 : Int32) t0_21 H locs ls hm hP hD hS (lv_sub hl [1, 2, 3, 4, 5, 6, 0] rfl)
              · replace hm := if_f hm hc
                refine lv_iconst (v := (1 : Int32)) hx hb d_MD_say_58 (by decide) ?_
                refine lv_goto (tgt := 63) hx hb d_MD_say_59 (by decide) ?_
                exact J63 s0_21 (1 : Int32) t0_21 H locs ls hm hP hD hS (lv_sub hl [1, 2, 3, 4, 5, 6, 0] rfl)
  refine lv_iload_n hx hb d_MD_say_0 rfl (lv_at hl 1 rfl) ?_
  refine lv_if_lt (tgt := 20) hx hb d_MD_say_1 (by decide) (fun hc => ?_) (fun hc => ?_)
  · replace hm := if_t hm hc
    refine lv_iconst (v := (0 : Int32)) hx hb d_MD_say_20 (by decide) ?_
    exact J21 (0 : Int32) x0 H locs ls hm hP hD hS (lv_sub hl [0, 1, 2, 3, 4, 5] rfl)
  · replace hm := if_f hm hc
    refine lv_iload_n hx hb d_MD_say_4 rfl (lv_at hl 1 rfl) ?_
    refine lv_iconst (v := (4 : Int32)) hx hb d_MD_say_5 (by decide) ?_
    refine lv_icmp_gt (tgt := 20) hx hb d_MD_say_6 (by decide) (fun hc => ?_) (fun hc => ?_)
    · replace hm := if_t hm hc
      refine lv_iconst (v := (0 : Int32)) hx hb d_MD_say_20 (by decide) ?_
      exact J21 (0 : Int32) x0 H locs ls hm hP hD hS (lv_sub hl [0, 1, 2, 3, 4, 5] rfl)
    · replace hm := if_f hm hc
      refine lv_iload_n hx hb d_MD_say_9 rfl (lv_at hl 2 rfl) ?_
      obtain ⟨r10, hcl, hm⟩ := bn1_s hm
      refine kci (wc := ([] : va_W)) (wr := wd_MD g h0 q0 x0) (w1 := ([] : va_W)) hP hD hS hA [] [0, 1, 2, 3, 4, 5, 6, 7, 8, 9, 10, 11, 12, 13, 14, 15, 16, 17, 18, 19, 20, 21, 22, 23, 24, 25, 26, 27, 28, 29, 30, 31] rfl rfl (by decide) (by decide) (va_runS (As := [.int a2]) (rest := []) ⟨hx, hb, hml, hown, hts⟩ (c_MD_isSaid hG hGn l dC dI g F H.size a2 hcl) (cwS 1 hts (gdS k5_167 k5_168 k1_10 k5_169) rfl rfl rfl (by decide +kernel) ⟨Nat.le_of_ble_eq_true rfl, Nat.le_of_ble_eq_true rfl⟩) (kpS hG hP hK hD hS hA hGA [] (by decide) rfl) rfl rfl hl.1 rfl (lv_room (Nat.le_of_ble_eq_true rfl)) d_MD_say_10 ⟨Nat.le_of_ble_eq_true rfl, Nat.le_of_ble_eq_true rfl⟩) (fun H locs hP hD hS => ?_)
      have hP : va_P (dC, dI) vwCl (wd_MD g h0 q0 x0) H := hP
      have hD : va_D A (wd_MD g h0 q0 x0) := hD
      refine lv_if_eq (tgt := 20) hx hb d_MD_say_13 (by decide) (fun hc => ?_) (fun hc => ?_)
      · replace hm := if_t hm hc
        refine lv_iconst (v := (0 : Int32)) hx hb d_MD_say_20 (by decide) ?_
        exact J21 (0 : Int32) x0 H locs ls hm hP hD hS (lv_sub hl [0, 1, 2, 3, 4, 5] rfl)
      · replace hm := if_f hm hc
        refine lv_iconst (v := (1 : Int32)) hx hb d_MD_say_16 (by decide) ?_
        refine lv_goto (tgt := 21) hx hb d_MD_say_17 (by decide) ?_
        exact J21 (1 : Int32) x0 H locs ls hm hP hD hS (lv_sub hl [0, 1, 2, 3, 4, 5] rfl)

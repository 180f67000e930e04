abbrev b_Loop_size : ByteArray := prog_4_method_2_code
abbrev y_Loop_size : MethodName := ⟨"AlarmMatrix$Loop", "size", "()I"⟩
theorem d_Loop_size_0 : decode b_Loop_size 0 = .ok (.aload_n 0, 1) := by decide +kernel
theorem d_Loop_size_1 : decode b_Loop_size 1 = .ok (.getfield 19, 3) := by decide +kernel
theorem d_Loop_size_4 : decode b_Loop_size 4 = .ok (.ireturn, 1) := by decide +kernel
def m_Loop_size (F : Nat) (x0 : St) : Option (Int32) :=
  (some (x0 2 0))
abbrev rm_Loop_size : Room := { frames := 0, cells := 0, slots := 0, locals := 0 }
set_option maxHeartbeats 4000000 in
set_option maxRecDepth 100000 in
theorem c_Loop_size {G : (Nat → Prop) → State → Prop} (hG : gok G) (hGn : gN G) (l : Launch) (dC : Nat → ClassId) (dI : Nat → Nat → Nat) (g : Nat → ClassId) (F : Nat) (sz : Nat) (h0 : Nat) (q0 : Nat → Nat) (x0 : St) {o : Int32} (hm : m_Loop_size F x0 = some o) : Met l y_Loop_size (.code y_Loop_size b_Loop_size 1 (some .int) :: gw) rm_Loop_size (kq (dC, dI) vwCl (tyv g) G [.ref h0] sz (wd_Loop g h0 q0 x0)) (kqi (dC, dI) vwCl (tyv g) (wd_Loop g h0 q0 x0) o (wd_Loop g h0 q0 x0) sz) 0 0 (va_A (wd_Loop g h0 q0 x0) sz) := by
  unfold m_Loop_size at hm
  refine km (Qc := fun sz => kqi (dC, dI) vwCl (tyv g) (wd_Loop g h0 q0 x0) o (wd_Loop g h0 q0 x0) sz) (cc := b_Loop_size) (maxL := 1) (ret := some .int) (by decide) rfl (Nat.le_of_ble_eq_true rfl) ?_
  intro p e s m args below meth c Q hQ hx hb hr hts hown hlocks hml hnm H locs A hAe hA hP hK hD hS hGA ls hl
  have hl : lv_has ls 1 [(0, .ref h0)] := hl
  have hts : ∀ w ∈ gw, w.before args s = true := fun w h => hts w (List.mem_cons_of_mem _ h)
  have hown : s.vm.findClass "AlarmMatrix$Loop" = some m.cls := hown
  refine lv_aload_n hx hb d_Loop_size_0 rfl (lv_at hl 0 rfl) ?_
  refine va_get (D := (dC, dI)) (ci := 8) (v := .int (x0 2 0)) (C := "AlarmMatrix$Loop") (T := T_Loop) (N := 5) hx hb hts i_Loop hown hK hP 0 rfl rfl 2 (by decide) (hts _ k1_90) (fun _ h9 => h9) rfl d_Loop_size_1 ?_
  obtain rfl := Option.some.inj hm
  rw [hQ]
  exact kri hx hb hr hlocks hAe hP hK hD hS d_Loop_size_4
abbrev b_Loop_isFull : ByteArray := prog_4_method_3_code
abbrev y_Loop_isFull : MethodName := ⟨"AlarmMatrix$Loop", "isFull", "()Z"⟩
theorem d_Loop_isFull_0 : decode b_Loop_isFull 0 = .ok (.aload_n 0, 1) := by decide +kernel
theorem d_Loop_isFull_1 : decode b_Loop_isFull 1 = .ok (.getfield 19, 3) := by decide +kernel
theorem d_Loop_isFull_4 : decode b_Loop_isFull 4 = .ok (.bipush 40, 2) := by decide +kernel
theorem d_Loop_isFull_6 : decode b_Loop_isFull 6 = .ok (.if_icmp .lt 7, 3) := by decide +kernel
theorem d_Loop_isFull_9 : decode b_Loop_isFull 9 = .ok (.iconst 1, 1) := by decide +kernel
theorem d_Loop_isFull_10 : decode b_Loop_isFull 10 = .ok (.goto 4, 3) := by decide +kernel
theorem d_Loop_isFull_13 : decode b_Loop_isFull 13 = .ok (.iconst 0, 1) := by decide +kernel
theorem d_Loop_isFull_14 : decode b_Loop_isFull 14 = .ok (.ireturn, 1) := by decide +kernel
def m_Loop_isFull (F : Nat) (x0 : St) : Option (Int32) :=
  (if (x0 2 0) < (40 : Int32) then (some (0 : Int32)) else (some (1 : Int32)))
abbrev rm_Loop_isFull : Room := { frames := 0, cells := 0, slots := 0, locals := 0 }
set_option maxHeartbeats 4000000 in
set_option maxRecDepth 100000 in
theorem c_Loop_isFull {G : (Nat → Prop) → State → Prop} (hG : gok G) (hGn : gN G) (l : Launch) (dC : Nat → ClassId) (dI : Nat → Nat → Nat) (g : Nat → ClassId) (F : Nat) (sz : Nat) (h0 : Nat) (q0 : Nat → Nat) (x0 : St) {o : Int32} (hm : m_Loop_isFull F x0 = some o) : Met l y_Loop_isFull (.code y_Loop_isFull b_Loop_isFull 1 (some .boolean) :: gw) rm_Loop_isFull (kq (dC, dI) vwCl (tyv g) G [.ref h0] sz (wd_Loop g h0 q0 x0)) (kqi (dC, dI) vwCl (tyv g) (wd_Loop g h0 q0 x0) o (wd_Loop g h0 q0 x0) sz) 0 0 (va_A (wd_Loop g h0 q0 x0) sz) := by
  unfold m_Loop_isFull at hm
  refine km (Qc := fun sz => kqi (dC, dI) vwCl (tyv g) (wd_Loop g h0 q0 x0) o (wd_Loop g h0 q0 x0) sz) (cc := b_Loop_isFull) (maxL := 1) (ret := some .boolean) (by decide) rfl (Nat.le_of_ble_eq_true rfl) ?_
  intro p e s m args below meth c Q hQ hx hb hr hts hown hlocks hml hnm H locs A hAe hA hP hK hD hS hGA ls hl
  have hl : lv_has ls 1 [(0, .ref h0)] := hl
  have hts : ∀ w ∈ gw, w.before args s = true := fun w h => hts w (List.mem_cons_of_mem _ h)
  have hown : s.vm.findClass "AlarmMatrix$Loop" = some m.cls := hown
  refine lv_aload_n hx hb d_Loop_isFull_0 rfl (lv_at hl 0 rfl) ?_
  refine va_get (D := (dC, dI)) (ci := 8) (v := .int (x0 2 0)) (C := "AlarmMatrix$Loop") (T := T_Loop) (N := 5) hx hb hts i_Loop hown hK hP 0 rfl rfl 2 (by decide) (hts _ k1_90) (fun _ h9 => h9) rfl d_Loop_isFull_1 ?_
  refine lv_bipush (v := (40 : Int32)) hx hb d_Loop_isFull_4 (by decide) ?_
  refine lv_icmp_lt (tgt := 13) hx hb d_Loop_isFull_6 (by decide) (fun hc => ?_) (fun hc => ?_)
  · replace hm := if_t hm hc
    refine lv_iconst (v := (0 : Int32)) hx hb d_Loop_isFull_13 (by decide) ?_
    obtain rfl := Option.some.inj hm
    rw [hQ]
    exact krz hx hb hr nar_0 hlocks hAe hP hK hD hS d_Loop_isFull_14
  · replace hm := if_f hm hc
    refine lv_iconst (v := (1 : Int32)) hx hb d_Loop_isFull_9 (by decide) ?_
    refine lv_goto (tgt := 14) hx hb d_Loop_isFull_10 (by decide) ?_
    obtain rfl := Option.some.inj hm
    rw [hQ]
    exact krz hx hb hr nar_1 hlocks hAe hP hK hD hS d_Loop_isFull_14
abbrev b_Loop_add : ByteArray := prog_4_method_4_code
abbrev y_Loop_add : MethodName := ⟨"AlarmMatrix$Loop", "add", "(I)V"⟩
theorem d_Loop_add_0 : decode b_Loop_add 0 = .ok (.aload_n 0, 1) := by decide +kernel
theorem d_Loop_add_1 : decode b_Loop_add 1 = .ok (.getfield 19, 3) := by decide +kernel
theorem d_Loop_add_4 : decode b_Loop_add 4 = .ok (.bipush 40, 2) := by decide +kernel
theorem d_Loop_add_6 : decode b_Loop_add 6 = .ok (.if_icmp .ge 23, 3) := by decide +kernel
theorem d_Loop_add_9 : decode b_Loop_add 9 = .ok (.aload_n 0, 1) := by decide +kernel
theorem d_Loop_add_10 : decode b_Loop_add 10 = .ok (.getfield 9, 3) := by decide +kernel
theorem d_Loop_add_13 : decode b_Loop_add 13 = .ok (.aload_n 0, 1) := by decide +kernel
theorem d_Loop_add_14 : decode b_Loop_add 14 = .ok (.getfield 19, 3) := by decide +kernel
theorem d_Loop_add_17 : decode b_Loop_add 17 = .ok (.iload_n 1, 1) := by decide +kernel
theorem d_Loop_add_18 : decode b_Loop_add 18 = .ok (.iastore, 1) := by decide +kernel
theorem d_Loop_add_19 : decode b_Loop_add 19 = .ok (.aload_n 0, 1) := by decide +kernel
theorem d_Loop_add_20 : decode b_Loop_add 20 = .ok (.dup, 1) := by decide +kernel
theorem d_Loop_add_21 : decode b_Loop_add 21 = .ok (.getfield 19, 3) := by decide +kernel
theorem d_Loop_add_24 : decode b_Loop_add 24 = .ok (.iconst 1, 1) := by decide +kernel
theorem d_Loop_add_25 : decode b_Loop_add 25 = .ok (.iadd, 1) := by decide +kernel
theorem d_Loop_add_26 : decode b_Loop_add 26 = .ok (.putfield 19, 3) := by decide +kernel
theorem d_Loop_add_29 : decode b_Loop_add 29 = .ok (.return_, 1) := by decide +kernel
def m_Loop_add (F : Nat) (x0 : St) (a1 : Int32) : Option (St) :=
  (if (40 : Int32) ≤ (x0 2 0) then (some x0) else (ck (x0 2 0) 40 (lz (st x0 0 (upd (x0 0) (x0 2 0).toNatClampNeg a1)) (fun e0_18 => (lz (sc e0_18 2 ((e0_18 2 0) + (1 : Int32))) (fun e0_26 => (some e0_26)))))))
abbrev rm_Loop_add : Room := { frames := 0, cells := 0, slots := 0, locals := 0 }
set_option maxHeartbeats 4000000 in
set_option maxRecDepth 100000 in
theorem c_Loop_add {G : (Nat → Prop) → State → Prop} (hG : gok G) (hGn : gN G) (l : Launch) (dC : Nat → ClassId) (dI : Nat → Nat → Nat) (g : Nat → ClassId) (F : Nat) (sz : Nat) (h0 : Nat) (q0 : Nat → Nat) (x0 : St) (a1 : Int32) {o : St} (hm : m_Loop_add F x0 a1 = some o) : Met l y_Loop_add (.code y_Loop_add b_Loop_add 2 none :: gw) rm_Loop_add (kq (dC, dI) vwCl (tyv g) G [.ref h0, .int a1] sz (wd_Loop g h0 q0 x0)) (kqv (dC, dI) vwCl (tyv g) (wd_Loop g h0 q0 x0) (wd_Loop g h0 q0 o) sz) 0 0 (va_A (wd_Loop g h0 q0 x0) sz) := by
  unfold m_Loop_add at hm
  refine km (Qc := fun sz => kqv (dC, dI) vwCl (tyv g) (wd_Loop g h0 q0 x0) (wd_Loop g h0 q0 o) sz) (cc := b_Loop_add) (maxL := 2) (ret := none) (by decide) rfl (Nat.le_of_ble_eq_true rfl) ?_
  intro p e s m args below meth c Q hQ hx hb hr hts hown hlocks hml hnm H locs A hAe hA hP hK hD hS hGA ls hl
  have hl : lv_has ls 2 [(0, .ref h0), (1, .int a1)] := hl
  have hts : ∀ w ∈ gw, w.before args s = true := fun w h => hts w (List.mem_cons_of_mem _ h)
  have hown : s.vm.findClass "AlarmMatrix$Loop" = some m.cls := hown
  refine lv_aload_n hx hb d_Loop_add_0 rfl (lv_at hl 0 rfl) ?_
  refine va_get (D := (dC, dI)) (ci := 8) (v := .int (x0 2 0)) (C := "AlarmMatrix$Loop") (T := T_Loop) (N := 5) hx hb hts i_Loop hown hK hP 0 rfl rfl 2 (by decide) (hts _ k1_90) (fun _ h9 => h9) rfl d_Loop_add_1 ?_
  refine lv_bipush (v := (40 : Int32)) hx hb d_Loop_add_4 (by decide) ?_
  refine lv_icmp_ge (tgt := 29) hx hb d_Loop_add_6 (by decide) (fun hc => ?_) (fun hc => ?_)
  · replace hm := if_t hm hc
    obtain rfl := Option.some.inj hm
    rw [hQ]
    exact krv hx hb hr hlocks hAe hP hK hD hS d_Loop_add_29
  · replace hm := if_f hm hc
    refine lv_aload_n hx hb d_Loop_add_9 rfl (lv_at hl 0 rfl) ?_
    refine va_get (D := (dC, dI)) (ci := 8) (v := .ref (q0 0)) (C := "AlarmMatrix$Loop") (T := T_Loop) (N := 5) hx hb hts i_Loop hown hK hP 0 rfl rfl 0 (by decide) (hts _ k1_88) (fun _ h9 => h9) rfl d_Loop_add_10 ?_
    refine lv_aload_n hx hb d_Loop_add_13 rfl (lv_at hl 0 rfl) ?_
    refine va_get (D := (dC, dI)) (ci := 8) (v := .int (x0 2 0)) (C := "AlarmMatrix$Loop") (T := T_Loop) (N := 5) hx hb hts i_Loop hown hK hP 0 rfl rfl 2 (by decide) (hts _ k1_90) (fun _ h9 => h9) rfl d_Loop_add_14 ?_
    refine lv_iload_n hx hb d_Loop_add_17 rfl (lv_at hl 1 rfl) ?_
    obtain ⟨h_18, hm⟩ := ck_s hm
    obtain ⟨e0_18, he, hm⟩ := lz_s hm
    refine va_iast (f := (x0 0)) hx hb hK hP hD hS 1 0 rfl rfl h_18 d_Loop_add_18 (fun H locs hP hD hS => ?_)
    have hP : va_P (dC, dI) vwCl (wd_Loop g h0 q0 e0_18) H := by rw [he]; exact hP
    have hD : va_D A (wd_Loop g h0 q0 e0_18) := by rw [he]; exact hD
    refine lv_aload_n hx hb d_Loop_add_19 rfl (lv_at hl 0 rfl) ?_
    refine lv_dup hx hb d_Loop_add_20 rfl ?_
    refine va_get (D := (dC, dI)) (ci := 8) (v := .int (e0_18 2 0)) (C := "AlarmMatrix$Loop") (T := T_Loop) (N := 5) hx hb hts i_Loop hown hK hP 0 rfl rfl 2 (by decide) (hts _ k1_90) (fun _ h9 => h9) rfl d_Loop_add_21 ?_
    refine lv_iconst (v := (1 : Int32)) hx hb d_Loop_add_24 (by decide) ?_
    refine lv_iadd hx hb d_Loop_add_25 ?_
    obtain ⟨e0_26, he, hm⟩ := lz_s hm
    refine va_put (D := (dC, dI)) (ci := 8) (v := .int ((e0_18 2 0) + (1 : Int32))) (ty := .int) (C := "AlarmMatrix$Loop") (T := T_Loop) (N := 5) hx hb hts i_Loop t_Loop o_Loop n_Loop hown hK hP hD hS 0 rfl rfl 2 (by decide) (hts _ k1_90) (fun _ h9 => h9) rfl (by decide +kernel) rfl rfl (Nat.le_of_ble_eq_true rfl) d_Loop_add_26 (fun H locs hP hD hS => ?_)
    have hP : va_P (dC, dI) vwCl (wd_Loop g h0 q0 e0_26) H := by rw [he]; exact hP
    have hD : va_D A (wd_Loop g h0 q0 e0_26) := by rw [he]; exact hD
    obtain rfl := Option.some.inj hm
    rw [hQ]
    exact krv hx hb hr hlocks hAe hP hK hD hS d_Loop_add_29
abbrev b_Loop_pointAt : ByteArray := prog_4_method_5_code
abbrev y_Loop_pointAt : MethodName := ⟨"AlarmMatrix$Loop", "pointAt", "(I)I"⟩
theorem d_Loop_pointAt_0 : decode b_Loop_pointAt 0 = .ok (.aload_n 0, 1) := by decide +kernel
theorem d_Loop_pointAt_1 : decode b_Loop_pointAt 1 = .ok (.getfield 9, 3) := by decide +kernel
theorem d_Loop_pointAt_4 : decode b_Loop_pointAt 4 = .ok (.iload_n 1, 1) := by decide +kernel
theorem d_Loop_pointAt_5 : decode b_Loop_pointAt 5 = .ok (.iaload, 1) := by decide +kernel
theorem d_Loop_pointAt_6 : decode b_Loop_pointAt 6 = .ok (.ireturn, 1) := by decide +kernel
def m_Loop_pointAt (F : Nat) (x0 : St) (a1 : Int32) : Option (Int32) :=
  (ck a1 40 (some ((x0 0) a1.toNatClampNeg)))
abbrev rm_Loop_pointAt : Room := { frames := 0, cells := 0, slots := 0, locals := 0 }
set_option maxHeartbeats 4000000 in
set_option maxRecDepth 100000 in
theorem c_Loop_pointAt {G : (Nat → Prop) → State → Prop} (hG : gok G) (hGn : gN G) (l : Launch) (dC : Nat → ClassId) (dI : Nat → Nat → Nat) (g : Nat → ClassId) (F : Nat) (sz : Nat) (h0 : Nat) (q0 : Nat → Nat) (x0 : St) (a1 : Int32) {o : Int32} (hm : m_Loop_pointAt F x0 a1 = some o) : Met l y_Loop_pointAt (.code y_Loop_pointAt b_Loop_pointAt 2 (some .int) :: gw) rm_Loop_pointAt (kq (dC, dI) vwCl (tyv g) G [.ref h0, .int a1] sz (wd_Loop g h0 q0 x0)) (kqi (dC, dI) vwCl (tyv g) (wd_Loop g h0 q0 x0) o (wd_Loop g h0 q0 x0) sz) 0 0 (va_A (wd_Loop g h0 q0 x0) sz) := by
  unfold m_Loop_pointAt at hm
  refine km (Qc := fun sz => kqi (dC, dI) vwCl (tyv g) (wd_Loop g h0 q0 x0) o (wd_Loop g h0 q0 x0) sz) (cc := b_Loop_pointAt) (maxL := 2) (ret := some .int) (by decide) rfl (Nat.le_of_ble_eq_true rfl) ?_
  intro p e s m args below meth c Q hQ hx hb hr hts hown hlocks hml hnm H locs A hAe hA hP hK hD hS hGA ls hl
  have hl : lv_has ls 2 [(0, .ref h0), (1, .int a1)] := hl
  have hts : ∀ w ∈ gw, w.before args s = true := fun w h => hts w (List.mem_cons_of_mem _ h)
  have hown : s.vm.findClass "AlarmMatrix$Loop" = some m.cls := hown
  refine lv_aload_n hx hb d_Loop_pointAt_0 rfl (lv_at hl 0 rfl) ?_
  refine va_get (D := (dC, dI)) (ci := 8) (v := .ref (q0 0)) (C := "AlarmMatrix$Loop") (T := T_Loop) (N := 5) hx hb hts i_Loop hown hK hP 0 rfl rfl 0 (by decide) (hts _ k1_88) (fun _ h9 => h9) rfl d_Loop_pointAt_1 ?_
  refine lv_iload_n hx hb d_Loop_pointAt_4 rfl (lv_at hl 1 rfl) ?_
  obtain ⟨h_5, hm⟩ := ck_s hm
  refine va_iald (f := (x0 0)) hx hb hK hP 1 0 rfl rfl h_5 d_Loop_pointAt_5 ?_
  obtain rfl := Option.some.inj hm
  rw [hQ]
  exact kri hx hb hr hlocks hAe hP hK hD hS d_Loop_pointAt_6
abbrev b_Loop_findEnds : ByteArray := prog_4_method_7_code
abbrev y_Loop_findEnds : MethodName := ⟨"AlarmMatrix$Loop", "findEnds", "()V"⟩
theorem d_Loop_findEnds_0 : decode b_Loop_findEnds 0 = .ok (.aload_n 0, 1) := by decide +kernel
theorem d_Loop_findEnds_1 : decode b_Loop_findEnds 1 = .ok (.aload_n 0, 1) := by decide +kernel
theorem d_Loop_findEnds_2 : decode b_Loop_findEnds 2 = .ok (.getfield 15, 3) := by decide +kernel
theorem d_Loop_findEnds_5 : decode b_Loop_findEnds 5 = .ok (.arraylength, 1) := by decide +kernel
theorem d_Loop_findEnds_6 : decode b_Loop_findEnds 6 = .ok (.putfield 23, 3) := by decide +kernel
theorem d_Loop_findEnds_9 : decode b_Loop_findEnds 9 = .ok (.aload_n 0, 1) := by decide +kernel
theorem d_Loop_findEnds_10 : decode b_Loop_findEnds 10 = .ok (.iconst (-1), 1) := by decide +kernel
theorem d_Loop_findEnds_11 : decode b_Loop_findEnds 11 = .ok (.putfield 26, 3) := by decide +kernel
theorem d_Loop_findEnds_14 : decode b_Loop_findEnds 14 = .ok (.iconst 0, 1) := by decide +kernel
theorem d_Loop_findEnds_15 : decode b_Loop_findEnds 15 = .ok (.istore_n 1, 1) := by decide +kernel
theorem d_Loop_findEnds_16 : decode b_Loop_findEnds 16 = .ok (.iload_n 1, 1) := by decide +kernel
theorem d_Loop_findEnds_17 : decode b_Loop_findEnds 17 = .ok (.aload_n 0, 1) := by decide +kernel
theorem d_Loop_findEnds_18 : decode b_Loop_findEnds 18 = .ok (.getfield 15, 3) := by decide +kernel
theorem d_Loop_findEnds_21 : decode b_Loop_findEnds 21 = .ok (.arraylength, 1) := by decide +kernel
theorem d_Loop_findEnds_22 : decode b_Loop_findEnds 22 = .ok (.if_icmp .ge 35, 3) := by decide +kernel
theorem d_Loop_findEnds_25 : decode b_Loop_findEnds 25 = .ok (.aload_n 0, 1) := by decide +kernel
theorem d_Loop_findEnds_26 : decode b_Loop_findEnds 26 = .ok (.getfield 15, 3) := by decide +kernel
theorem d_Loop_findEnds_29 : decode b_Loop_findEnds 29 = .ok (.iload_n 1, 1) := by decide +kernel
theorem d_Loop_findEnds_30 : decode b_Loop_findEnds 30 = .ok (.baload, 1) := by decide +kernel
theorem d_Loop_findEnds_31 : decode b_Loop_findEnds 31 = .ok (.ifCond .eq 20, 3) := by decide +kernel
theorem d_Loop_findEnds_34 : decode b_Loop_findEnds 34 = .ok (.aload_n 0, 1) := by decide +kernel
theorem d_Loop_findEnds_35 : decode b_Loop_findEnds 35 = .ok (.aload_n 0, 1) := by decide +kernel
theorem d_Loop_findEnds_36 : decode b_Loop_findEnds 36 = .ok (.getfield 23, 3) := by decide +kernel
theorem d_Loop_findEnds_39 : decode b_Loop_findEnds 39 = .ok (.iload_n 1, 1) := by decide +kernel
theorem d_Loop_findEnds_40 : decode b_Loop_findEnds 40 = .ok (.invokestatic 32, 3) := by decide +kernel
theorem d_Loop_findEnds_43 : decode b_Loop_findEnds 43 = .ok (.putfield 23, 3) := by decide +kernel
theorem d_Loop_findEnds_46 : decode b_Loop_findEnds 46 = .ok (.aload_n 0, 1) := by decide +kernel
theorem d_Loop_findEnds_47 : decode b_Loop_findEnds 47 = .ok (.iload_n 1, 1) := by decide +kernel
theorem d_Loop_findEnds_48 : decode b_Loop_findEnds 48 = .ok (.putfield 26, 3) := by decide +kernel
theorem d_Loop_findEnds_51 : decode b_Loop_findEnds 51 = .ok (.iinc 1 1, 3) := by decide +kernel
theorem d_Loop_findEnds_54 : decode b_Loop_findEnds 54 = .ok (.goto (-38), 3) := by decide +kernel
theorem d_Loop_findEnds_57 : decode b_Loop_findEnds 57 = .ok (.return_, 1) := by decide +kernel
def m_Loop_findEnds_B16 {R : Type} (F : Nat)  (k16_57 : Int32 → St → Option R) (rec16 : Int32 → St → Option R) (v1_16 : Int32) (y0_16 : St) : Option R :=
  (if (41 : Int32) ≤ v1_16 then (k16_57 v1_16 y0_16) else (ck v1_16 41 (if ((y0_16 1) v1_16.toNatClampNeg) = (0 : Int32) then (rec16 (v1_16 + (1 : Int32)) y0_16) else (lz (sc y0_16 3 (if v1_16 < (y0_16 3 0) then v1_16 else (y0_16 3 0))) (fun e0_43 => (lz (sc e0_43 4 v1_16) (fun e0_48 => (rec16 (v1_16 + (1 : Int32)) e0_48))))))))
theorem m_Loop_findEnds_B16_h {R : Type} {F : Nat}  {k16_57 : Int32 → St → Option R} {rec16 : Int32 → St → Option R} {v1_16 : Int32} {y0_16 : St} {o : R} (h : m_Loop_findEnds_B16 F k16_57 rec16 v1_16 y0_16 = some o) :
  (if (41 : Int32) ≤ v1_16 then (k16_57 v1_16 y0_16) else (ck v1_16 41 (if ((y0_16 1) v1_16.toNatClampNeg) = (0 : Int32) then (rec16 (v1_16 + (1 : Int32)) y0_16) else (lz (sc y0_16 3 (if v1_16 < (y0_16 3 0) then v1_16 else (y0_16 3 0))) (fun e0_43 => (lz (sc e0_43 4 v1_16) (fun e0_48 => (rec16 (v1_16 + (1 : Int32)) e0_48)))))))) = some o := h
def m_Loop_findEnds (F : Nat) (x0 : St) : Option (St) :=
  (lz (sc x0 3 (41 : Int32)) (fun e0_6 => (lz (sc e0_6 4 (-1 : Int32)) (fun e0_11 => (lq2 (m_Loop_findEnds_B16 F  (fun v1_16 y0_16 => (some y0_16))) F (0 : Int32) e0_11)))))
abbrev rm_Loop_findEnds : Room := { frames := 1, cells := 0, slots := 0, locals := 21 }
set_option maxHeartbeats 4000000 in
set_option maxRecDepth 100000 in
theorem c_Loop_findEnds {G : (Nat → Prop) → State → Prop} (hG : gok G) (hGn : gN G) (l : Launch) (dC : Nat → ClassId) (dI : Nat → Nat → Nat) (g : Nat → ClassId) (F : Nat) (sz : Nat) (h0 : Nat) (q0 : Nat → Nat) (x0 : St) {o : St} (hm : m_Loop_findEnds F x0 = some o) : Met l y_Loop_findEnds (.code y_Loop_findEnds b_Loop_findEnds 2 none :: gw) rm_Loop_findEnds (kq (dC, dI) vwCl (tyv g) G [.ref h0] sz (wd_Loop g h0 q0 x0)) (kqv (dC, dI) vwCl (tyv g) (wd_Loop g h0 q0 x0) (wd_Loop g h0 q0 o) sz) 0 0 (va_A (wd_Loop g h0 q0 x0) sz) := by
  unfold m_Loop_findEnds at hm
  refine km (Qc := fun sz => kqv (dC, dI) vwCl (tyv g) (wd_Loop g h0 q0 x0) (wd_Loop g h0 q0 o) sz) (cc := b_Loop_findEnds) (maxL := 2) (ret := none) (by decide) rfl (Nat.le_of_ble_eq_true rfl) ?_
  intro p e s m args below meth c Q hQ hx hb hr hts hown hlocks hml hnm H locs A hAe hA hP hK hD hS hGA ls hl
  have hl : lv_has ls 2 [(0, .ref h0)] := hl
  have hts : ∀ w ∈ gw, w.before args s = true := fun w h => hts w (List.mem_cons_of_mem _ h)
  have hown : s.vm.findClass "AlarmMatrix$Loop" = some m.cls := hown
  refine lv_aload_n hx hb d_Loop_findEnds_0 rfl (lv_at hl 0 rfl) ?_
  refine lv_aload_n hx hb d_Loop_findEnds_1 rfl (lv_at hl 0 rfl) ?_
  refine va_get (D := (dC, dI)) (ci := 8) (v := .ref (q0 1)) (C := "AlarmMatrix$Loop") (T := T_Loop) (N := 5) hx hb hts i_Loop hown hK hP 0 rfl rfl 1 (by decide) (hts _ k1_89) (fun _ h9 => h9) rfl d_Loop_findEnds_2 ?_
  refine va_alen (v := (41 : Int32)) hx hb hK hP 2 1 rfl rfl rfl d_Loop_findEnds_5 ?_
  obtain ⟨e0_6, he, hm⟩ := lz_s hm
  refine va_put (D := (dC, dI)) (ci := 8) (v := .int (41 : Int32)) (ty := .int) (C := "AlarmMatrix$Loop") (T := T_Loop) (N := 5) hx hb hts i_Loop t_Loop o_Loop n_Loop hown hK hP hD hS 0 rfl rfl 3 (by decide) (hts _ k1_91) (fun _ h9 => h9) rfl (by decide +kernel) rfl rfl (Nat.le_of_ble_eq_true rfl) d_Loop_findEnds_6 (fun H locs hP hD hS => ?_)
  have hP : va_P (dC, dI) vwCl (wd_Loop g h0 q0 e0_6) H := by rw [he]; exact hP
  have hD : va_D A (wd_Loop g h0 q0 e0_6) := by rw [he]; exact hD
  refine lv_aload_n hx hb d_Loop_findEnds_9 rfl (lv_at hl 0 rfl) ?_
  refine lv_iconst (v := (-1 : Int32)) hx hb d_Loop_findEnds_10 (by decide) ?_
  obtain ⟨e0_11, he, hm⟩ := lz_s hm
  refine va_put (D := (dC, dI)) (ci := 8) (v := .int (-1 : Int32)) (ty := .int) (C := "AlarmMatrix$Loop") (T := T_Loop) (N := 5) hx hb hts i_Loop t_Loop o_Loop n_Loop hown hK hP hD hS 0 rfl rfl 4 (by decide) (hts _ k1_92) (fun _ h9 => h9) rfl (by decide +kernel) rfl rfl (Nat.le_of_ble_eq_true rfl) d_Loop_findEnds_11 (fun H locs hP hD hS => ?_)
  have hP : va_P (dC, dI) vwCl (wd_Loop g h0 q0 e0_11) H := by rw [he]; exact hP
  have hD : va_D A (wd_Loop g h0 q0 e0_11) := by rw [he]; exact hD
  refine lv_iconst (v := (0 : Int32)) hx hb d_Loop_findEnds_14 (by decide) ?_
  refine lv_istore_n (lv' := [(1, .int (0 : Int32)), (0, .ref h0)]) hx hb d_Loop_findEnds_15 rfl hl (by decide) rfl (fun ls hl => ?_)
  have L16 : ∀ (n16 : Nat) (v1_16 : Int32) (y0_16 : St) (H : Heap) (locs : List Loc) (ls : Array Slot), lq2 (m_Loop_findEnds_B16 F  (fun v1_16 y0_16 => (some y0_16))) n16 v1_16 y0_16 = some o → va_P (dC, dI) vwCl (wd_Loop g h0 q0 y0_16) H → va_D A (wd_Loop g h0 q0 y0_16) → va_S A s.heap H locs → lv_has ls 2 [(0, .ref h0), (1, .int v1_16)] → W p l e rm_Loop_findEnds s m args below meth c H locs 0 0 Q (F0 m 16 ls []) := by
    intro n16
    induction n16 with
    | zero => intro v1_16 y0_16 H locs ls hm; exact absurd hm (by intro z; cases z)
    | succ n16 ih16 =>
      intro v1_16 y0_16 H locs ls hm hP hD hS hl
      replace hm := m_Loop_findEnds_B16_h (lq2_h hm)
      refine lv_iload_n hx hb d_Loop_findEnds_16 rfl (lv_at hl 1 rfl) ?_
      refine lv_aload_n hx hb d_Loop_findEnds_17 rfl (lv_at hl 0 rfl) ?_
      refine va_get (D := (dC, dI)) (ci := 8) (v := .ref (q0 1)) (C := "AlarmMatrix$Loop") (T := T_Loop) (N := 5) hx hb hts i_Loop hown hK hP 0 rfl rfl 1 (by decide) (hts _ k1_89) (fun _ h9 => h9) rfl d_Loop_findEnds_18 ?_
      refine va_alen (v := (41 : Int32)) hx hb hK hP 2 1 rfl rfl rfl d_Loop_findEnds_21 ?_
      refine lv_icmp_ge (tgt := 57) hx hb d_Loop_findEnds_22 (by decide) (fun hc => ?_) (fun hc => ?_)
      · replace hm := if_t hm hc
        obtain rfl := Option.some.inj hm
        rw [hQ]
        exact krv hx hb hr hlocks hAe hP hK hD hS d_Loop_findEnds_57
      · replace hm := if_f hm hc
        refine lv_aload_n hx hb d_Loop_findEnds_25 rfl (lv_at hl 0 rfl) ?_
        refine va_get (D := (dC, dI)) (ci := 8) (v := .ref (q0 1)) (C := "AlarmMatrix$Loop") (T := T_Loop) (N := 5) hx hb hts i_Loop hown hK hP 0 rfl rfl 1 (by decide) (hts _ k1_89) (fun _ h9 => h9) rfl d_Loop_findEnds_26 ?_
        refine lv_iload_n hx hb d_Loop_findEnds_29 rfl (lv_at hl 1 rfl) ?_
        obtain ⟨h_30, hm⟩ := ck_s hm
        refine va_zald (f := (y0_16 1)) hx hb hK hP 2 1 rfl rfl h_30 d_Loop_findEnds_30 ?_
        refine lv_if_eq (tgt := 51) hx hb d_Loop_findEnds_31 (by decide) (fun hc => ?_) (fun hc => ?_)
        · replace hm := if_t hm hc
          refine lv_iinc (v := (v1_16 + (1 : Int32))) (lv' := [(1, .int (v1_16 + (1 : Int32))), (0, .ref h0)]) hx hb d_Loop_findEnds_51 hl (k := 1) rfl rfl (by decide) rfl (fun ls hl => ?_)
          refine lv_goto (tgt := 16) hx hb d_Loop_findEnds_54 (by decide) ?_
          exact ih16 (v1_16 + (1 : Int32)) y0_16 H locs ls hm hP hD hS (lv_sub hl [1, 0] rfl)
        · replace hm := if_f hm hc
          refine lv_aload_n hx hb d_Loop_findEnds_34 rfl (lv_at hl 0 rfl) ?_
          refine lv_aload_n hx hb d_Loop_findEnds_35 rfl (lv_at hl 0 rfl) ?_
          refine va_get (D := (dC, dI)) (ci := 8) (v := .int (y0_16 3 0)) (C := "AlarmMatrix$Loop") (T := T_Loop) (N := 5) hx hb hts i_Loop hown hK hP 0 rfl rfl 3 (by decide) (hts _ k1_91) (fun _ h9 => h9) rfl d_Loop_findEnds_36 ?_
          refine lv_iload_n hx hb d_Loop_findEnds_39 rfl (lv_at hl 1 rfl) ?_
          refine va_mmin hx hb (hml.trans hl.1.symm) hown (hts _ k4_99) (hts _ k1_51) (hts _ k1_4) (hts _ k1_52) (Nat.le_of_ble_eq_true rfl) (Nat.le_of_ble_eq_true rfl) (Nat.zero_le _) (Nat.zero_le _) d_Loop_findEnds_40 ?_
          obtain ⟨e0_43, he, hm⟩ := lz_s hm
          refine va_put (D := (dC, dI)) (ci := 8) (v := .int (if v1_16 < (y0_16 3 0) then v1_16 else (y0_16 3 0))) (ty := .int) (C := "AlarmMatrix$Loop") (T := T_Loop) (N := 5) hx hb hts i_Loop t_Loop o_Loop n_Loop hown hK hP hD hS 0 rfl rfl 3 (by decide) (hts _ k1_91) (fun _ h9 => h9) rfl (by decide +kernel) rfl rfl (Nat.le_of_ble_eq_true rfl) d_Loop_findEnds_43 (fun H locs hP hD hS => ?_)
          have hP : va_P (dC, dI) vwCl (wd_Loop g h0 q0 e0_43) H := by rw [he]; exact hP
          have hD : va_D A (wd_Loop g h0 q0 e0_43) := by rw [he]; exact hD
          refine lv_aload_n hx hb d_Loop_findEnds_46 rfl (lv_at hl 0 rfl) ?_
          refine lv_iload_n hx hb d_Loop_findEnds_47 rfl (lv_at hl 1 rfl) ?_
          obtain ⟨e0_48, he, hm⟩ := lz_s hm
          refine va_put (D := (dC, dI)) (ci := 8) (v := .int v1_16) (ty := .int) (C := "AlarmMatrix$Loop") (T := T_Loop) (N := 5) hx hb hts i_Loop t_Loop o_Loop n_Loop hown hK hP hD hS 0 rfl rfl 4 (by decide) (hts _ k1_92) (fun _ h9 => h9) rfl (by decide +kernel) rfl rfl (Nat.le_of_ble_eq_true rfl) d_Loop_findEnds_48 (fun H locs hP hD hS => ?_)
          have hP : va_P (dC, dI) vwCl (wd_Loop g h0 q0 e0_48) H := by rw [he]; exact hP
          have hD : va_D A (wd_Loop g h0 q0 e0_48) := by rw [he]; exact hD
          refine lv_iinc (v := (v1_16 + (1 : Int32))) (lv' := [(1, .int (v1_16 + (1 : Int32))), (0, .ref h0)]) hx hb d_Loop_findEnds_51 hl (k := 1) rfl rfl (by decide) rfl (fun ls hl => ?_)
          refine lv_goto (tgt := 16) hx hb d_Loop_findEnds_54 (by decide) ?_
          exact ih16 (v1_16 + (1 : Int32)) e0_48 H locs ls hm hP hD hS (lv_sub hl [1, 0] rfl)
  exact L16 F (0 : Int32) e0_11 H locs ls hm hP hD hS (lv_sub hl [1, 0] rfl)
abbrev b_Loop_swapCut : ByteArray := prog_4_method_6_code
abbrev y_Loop_swapCut : MethodName := ⟨"AlarmMatrix$Loop", "swapCut", "(IZ)Z"⟩
theorem d_Loop_swapCut_0 : decode b_Loop_swapCut 0 = .ok (.aload_n 0, 1) := by decide +kernel
theorem d_Loop_swapCut_1 : decode b_Loop_swapCut 1 = .ok (.getfield 15, 3) := by decide +kernel
theorem d_Loop_swapCut_4 : decode b_Loop_swapCut 4 = .ok (.iload_n 1, 1) := by decide +kernel
theorem d_Loop_swapCut_5 : decode b_Loop_swapCut 5 = .ok (.baload, 1) := by decide +kernel
theorem d_Loop_swapCut_6 : decode b_Loop_swapCut 6 = .ok (.istore_n 3, 1) := by decide +kernel
theorem d_Loop_swapCut_7 : decode b_Loop_swapCut 7 = .ok (.aload_n 0, 1) := by decide +kernel
theorem d_Loop_swapCut_8 : decode b_Loop_swapCut 8 = .ok (.getfield 15, 3) := by decide +kernel
theorem d_Loop_swapCut_11 : decode b_Loop_swapCut 11 = .ok (.iload_n 1, 1) := by decide +kernel
theorem d_Loop_swapCut_12 : decode b_Loop_swapCut 12 = .ok (.iload_n 2, 1) := by decide +kernel
theorem d_Loop_swapCut_13 : decode b_Loop_swapCut 13 = .ok (.bastore, 1) := by decide +kernel
theorem d_Loop_swapCut_14 : decode b_Loop_swapCut 14 = .ok (.aload_n 0, 1) := by decide +kernel
theorem d_Loop_swapCut_15 : decode b_Loop_swapCut 15 = .ok (.invokevirtual 29, 3) := by decide +kernel
theorem d_Loop_swapCut_18 : decode b_Loop_swapCut 18 = .ok (.iload_n 3, 1) := by decide +kernel
theorem d_Loop_swapCut_19 : decode b_Loop_swapCut 19 = .ok (.ireturn, 1) := by decide +kernel
def m_Loop_swapCut (F : Nat) (x0 : St) (a1 : Int32) (a2 : Int32) : Option (Int32 × St) :=
  (ck a1 41 (ck a1 41 (lz (st x0 1 (upd (x0 1) a1.toNatClampNeg (vp_nar .boolean a2))) (fun e0_13 => (bn1 (m_Loop_findEnds F e0_13) (fun z0_15 => (ckb ((x0 1) a1.toNatClampNeg) (some (((x0 1) a1.toNatClampNeg), z0_15)))))))))
abbrev rm_Loop_swapCut : Room := { frames := 2, cells := 0, slots := 0, locals := 42 }
set_option maxHeartbeats 4000000 in
set_option maxRecDepth 100000 in
theorem c_Loop_swapCut {G : (Nat → Prop) → State → Prop} (hG : gok G) (hGn : gN G) (l : Launch) (dC : Nat → ClassId) (dI : Nat → Nat → Nat) (g : Nat → ClassId) (F : Nat) (sz : Nat) (h0 : Nat) (q0 : Nat → Nat) (x0 : St) (a1 : Int32) (a2 : Int32) {o : Int32 × St} (hm : m_Loop_swapCut F x0 a1 a2 = some o) : Met l y_Loop_swapCut (.code y_Loop_swapCut b_Loop_swapCut 4 (some .boolean) :: gw) rm_Loop_swapCut (kq (dC, dI) vwCl (tyv g) G [.ref h0, .int a1, .int a2] sz (wd_Loop g h0 q0 x0)) (kqi (dC, dI) vwCl (tyv g) (wd_Loop g h0 q0 x0) o.1 (wd_Loop g h0 q0 (o.2)) sz) 0 0 (va_A (wd_Loop g h0 q0 x0) sz) := by
  unfold m_Loop_swapCut at hm
  refine km (Qc := fun sz => kqi (dC, dI) vwCl (tyv g) (wd_Loop g h0 q0 x0) o.1 (wd_Loop g h0 q0 (o.2)) sz) (cc := b_Loop_swapCut) (maxL := 4) (ret := some .boolean) (by decide) rfl (Nat.le_of_ble_eq_true rfl) ?_
  intro p e s m args below meth c Q hQ hx hb hr hts hown hlocks hml hnm H locs A hAe hA hP hK hD hS hGA ls hl
  have hl : lv_has ls 4 [(0, .ref h0), (1, .int a1), (2, .int a2)] := hl
  have hts : ∀ w ∈ gw, w.before args s = true := fun w h => hts w (List.mem_cons_of_mem _ h)
  have hown : s.vm.findClass "AlarmMatrix$Loop" = some m.cls := hown
  refine lv_aload_n hx hb d_Loop_swapCut_0 rfl (lv_at hl 0 rfl) ?_
  refine va_get (D := (dC, dI)) (ci := 8) (v := .ref (q0 1)) (C := "AlarmMatrix$Loop") (T := T_Loop) (N := 5) hx hb hts i_Loop hown hK hP 0 rfl rfl 1 (by decide) (hts _ k1_89) (fun _ h9 => h9) rfl d_Loop_swapCut_1 ?_
  refine lv_iload_n hx hb d_Loop_swapCut_4 rfl (lv_at hl 1 rfl) ?_
  obtain ⟨h_5, hm⟩ := ck_s hm
  refine va_zald (f := (x0 1)) hx hb hK hP 2 1 rfl rfl h_5 d_Loop_swapCut_5 ?_
  refine lv_istore_n (lv' := [(3, .int ((x0 1) a1.toNatClampNeg)), (0, .ref h0), (1, .int a1), (2, .int a2)]) hx hb d_Loop_swapCut_6 rfl hl (by decide) rfl (fun ls hl => ?_)
  refine lv_aload_n hx hb d_Loop_swapCut_7 rfl (lv_at hl 1 rfl) ?_
  refine va_get (D := (dC, dI)) (ci := 8) (v := .ref (q0 1)) (C := "AlarmMatrix$Loop") (T := T_Loop) (N := 5) hx hb hts i_Loop hown hK hP 0 rfl rfl 1 (by decide) (hts _ k1_89) (fun _ h9 => h9) rfl d_Loop_swapCut_8 ?_
  refine lv_iload_n hx hb d_Loop_swapCut_11 rfl (lv_at hl 2 rfl) ?_
  refine lv_iload_n hx hb d_Loop_swapCut_12 rfl (lv_at hl 3 rfl) ?_
  obtain ⟨h_13, hm⟩ := ck_s hm
  obtain ⟨e0_13, he, hm⟩ := lz_s hm
  refine va_zast (f := (x0 1)) hx hb hK hP hD hS 2 1 rfl rfl h_13 d_Loop_swapCut_13 (fun H locs hP hD hS => ?_)
  have hP : va_P (dC, dI) vwCl (wd_Loop g h0 q0 e0_13) H := by rw [he]; exact hP
  have hD : va_D A (wd_Loop g h0 q0 e0_13) := by rw [he]; exact hD
  refine lv_aload_n hx hb d_Loop_swapCut_14 rfl (lv_at hl 1 rfl) ?_
  obtain ⟨z0_15, hcl, hm⟩ := bn1_s hm
  refine kcv (wc := wd_Loop g h0 q0 e0_13) (wr := ([] : va_W)) (w1 := wd_Loop g h0 q0 z0_15) hP hD hS hA [0, 1, 2] [] rfl rfl (by decide) (by decide) (va_runV (As := []) (rest := []) ⟨hx, hb, hml, hown, hts⟩ (c_Loop_findEnds hG hGn l dC dI g F H.size h0 q0 e0_13 hcl) (cwV 0 hts (gdV k4_95 k4_97 kp_15 k1_5 k4_98) rfl rfl rfl (by decide +kernel) ⟨Nat.le_of_ble_eq_true rfl, Nat.le_of_ble_eq_true rfl⟩) (kpV hG hP hK hD hS hA hGA [0, 1, 2] (by decide) rfl (ci := 8) (q0 := 0) rfl rfl rfl) rfl rfl hl.1 rfl (lv_room (Nat.le_of_ble_eq_true rfl)) d_Loop_swapCut_15 ⟨Nat.le_of_ble_eq_true rfl, Nat.le_of_ble_eq_true rfl⟩) (fun H locs hP hD hS => ?_)
  have hP : va_P (dC, dI) vwCl (wd_Loop g h0 q0 z0_15) H := hP
  have hD : va_D A (wd_Loop g h0 q0 z0_15) := hD
  refine lv_iload_n hx hb d_Loop_swapCut_18 rfl (lv_at hl 0 rfl) ?_
  obtain ⟨hz, hm⟩ := ckb_s hm
  obtain rfl := Option.some.inj hm
  rw [hQ]
  exact krz hx hb hr hz hlocks hAe hP hK hD hS d_Loop_swapCut_19
abbrev b_Loop_hears : ByteArray := prog_4_method_8_code
abbrev y_Loop_hears : MethodName := ⟨"AlarmMatrix$Loop", "hears", "(I)Z"⟩
theorem d_Loop_hears_0 : decode b_Loop_hears 0 = .ok (.iload_n 1, 1) := by decide +kernel
theorem d_Loop_hears_1 : decode b_Loop_hears 1 = .ok (.aload_n 0, 1) := by decide +kernel
theorem d_Loop_hears_2 : decode b_Loop_hears 2 = .ok (.getfield 23, 3) := by decide +kernel
theorem d_Loop_hears_5 : decode b_Loop_hears 5 = .ok (.if_icmp .lt 11, 3) := by decide +kernel
theorem d_Loop_hears_8 : decode b_Loop_hears 8 = .ok (.iload_n 1, 1) := by decide +kernel
theorem d_Loop_hears_9 : decode b_Loop_hears 9 = .ok (.aload_n 0, 1) := by decide +kernel
theorem d_Loop_hears_10 : decode b_Loop_hears 10 = .ok (.getfield 26, 3) := by decide +kernel
theorem d_Loop_hears_13 : decode b_Loop_hears 13 = .ok (.if_icmp .lt 7, 3) := by decide +kernel
theorem d_Loop_hears_16 : decode b_Loop_hears 16 = .ok (.iconst 1, 1) := by decide +kernel
theorem d_Loop_hears_17 : decode b_Loop_hears 17 = .ok (.goto 4, 3) := by decide +kernel
theorem d_Loop_hears_20 : decode b_Loop_hears 20 = .ok (.iconst 0, 1) := by decide +kernel
theorem d_Loop_hears_21 : decode b_Loop_hears 21 = .ok (.ireturn, 1) := by decide +kernel
def m_Loop_hears (F : Nat) (x0 : St) (a1 : Int32) : Option (Int32) :=
  (if a1 < (x0 3 0) then (some (1 : Int32)) else (if a1 < (x0 4 0) then (some (0 : Int32)) else (some (1 : Int32))))
abbrev rm_Loop_hears : Room := { frames := 0, cells := 0, slots := 0, locals := 0 }
set_option maxHeartbeats 4000000 in
set_option maxRecDepth 100000 in
theorem c_Loop_hears {G : (Nat → Prop) → State → Prop} (hG : gok G) (hGn : gN G) (l : Launch) (dC : Nat → ClassId) (dI : Nat → Nat → Nat) (g : Nat → ClassId) (F : Nat) (sz : Nat) (h0 : Nat) (q0 : Nat → Nat) (x0 : St) (a1 : Int32) {o : Int32} (hm : m_Loop_hears F x0 a1 = some o) : Met l y_Loop_hears (.code y_Loop_hears b_Loop_hears 2 (some .boolean) :: gw) rm_Loop_hears (kq (dC, dI) vwCl (tyv g) G [.ref h0, .int a1] sz (wd_Loop g h0 q0 x0)) (kqi (dC, dI) vwCl (tyv g) (wd_Loop g h0 q0 x0) o (wd_Loop g h0 q0 x0) sz) 0 0 (va_A (wd_Loop g h0 q0 x0) sz) := by
  unfold m_Loop_hears at hm
  refine km (Qc := fun sz => kqi (dC, dI) vwCl (tyv g) (wd_Loop g h0 q0 x0) o (wd_Loop g h0 q0 x0) sz) (cc := b_Loop_hears) (maxL := 2) (ret := some .boolean) (by decide) rfl (Nat.le_of_ble_eq_true rfl) ?_
  intro p e s m args below meth c Q hQ hx hb hr hts hown hlocks hml hnm H locs A hAe hA hP hK hD hS hGA ls hl
  have hl : lv_has ls 2 [(0, .ref h0), (1, .int a1)] := hl
  have hts : ∀ w ∈ gw, w.before args s = true := fun w h => hts w (List.mem_cons_of_mem _ h)
  have hown : s.vm.findClass "AlarmMatrix$Loop" = some m.cls := hown
  refine lv_iload_n hx hb d_Loop_hears_0 rfl (lv_at hl 1 rfl) ?_
  refine lv_aload_n hx hb d_Loop_hears_1 rfl (lv_at hl 0 rfl) ?_
  refine va_get (D := (dC, dI)) (ci := 8) (v := .int (x0 3 0)) (C := "AlarmMatrix$Loop") (T := T_Loop) (N := 5) hx hb hts i_Loop hown hK hP 0 rfl rfl 3 (by decide) (hts _ k1_91) (fun _ h9 => h9) rfl d_Loop_hears_2 ?_
  refine lv_icmp_lt (tgt := 16) hx hb d_Loop_hears_5 (by decide) (fun hc => ?_) (fun hc => ?_)
  · replace hm := if_t hm hc
    refine lv_iconst (v := (1 : Int32)) hx hb d_Loop_hears_16 (by decide) ?_
    refine lv_goto (tgt := 21) hx hb d_Loop_hears_17 (by decide) ?_
    obtain rfl := Option.some.inj hm
    rw [hQ]
    exact krz hx hb hr nar_1 hlocks hAe hP hK hD hS d_Loop_hears_21
  · replace hm := if_f hm hc
    refine lv_iload_n hx hb d_Loop_hears_8 rfl (lv_at hl 1 rfl) ?_
    refine lv_aload_n hx hb d_Loop_hears_9 rfl (lv_at hl 0 rfl) ?_
    refine va_get (D := (dC, dI)) (ci := 8) (v := .int (x0 4 0)) (C := "AlarmMatrix$Loop") (T := T_Loop) (N := 5) hx hb hts i_Loop hown hK hP 0 rfl rfl 4 (by decide) (hts _ k1_92) (fun _ h9 => h9) rfl d_Loop_hears_10 ?_
    refine lv_icmp_lt (tgt := 20) hx hb d_Loop_hears_13 (by decide) (fun hc => ?_) (fun hc => ?_)
    · replace hm := if_t hm hc
      refine lv_iconst (v := (0 : Int32)) hx hb d_Loop_hears_20 (by decide) ?_
      obtain rfl := Option.some.inj hm
      rw [hQ]
      exact krz hx hb hr nar_0 hlocks hAe hP hK hD hS d_Loop_hears_21
    · replace hm := if_f hm hc
      refine lv_iconst (v := (1 : Int32)) hx hb d_Loop_hears_16 (by decide) ?_
      refine lv_goto (tgt := 21) hx hb d_Loop_hears_17 (by decide) ?_
      obtain rfl := Option.some.inj hm
      rw [hQ]
      exact krz hx hb hr nar_1 hlocks hAe hP hK hD hS d_Loop_hears_21
abbrev b_Loop_countHeard : ByteArray := prog_4_method_9_code
abbrev y_Loop_countHeard : MethodName := ⟨"AlarmMatrix$Loop", "countHeard", "()I"⟩
theorem d_Loop_countHeard_0 : decode b_Loop_countHeard 0 = .ok (.iconst 0, 1) := by decide +kernel
theorem d_Loop_countHeard_1 : decode b_Loop_countHeard 1 = .ok (.istore_n 1, 1) := by decide +kernel
theorem d_Loop_countHeard_2 : decode b_Loop_countHeard 2 = .ok (.iconst 0, 1) := by decide +kernel
theorem d_Loop_countHeard_3 : decode b_Loop_countHeard 3 = .ok (.istore_n 2, 1) := by decide +kernel
theorem d_Loop_countHeard_4 : decode b_Loop_countHeard 4 = .ok (.iload_n 2, 1) := by decide +kernel
theorem d_Loop_countHeard_5 : decode b_Loop_countHeard 5 = .ok (.aload_n 0, 1) := by decide +kernel
theorem d_Loop_countHeard_6 : decode b_Loop_countHeard 6 = .ok (.getfield 19, 3) := by decide +kernel
theorem d_Loop_countHeard_9 : decode b_Loop_countHeard 9 = .ok (.if_icmp .ge 20, 3) := by decide +kernel
theorem d_Loop_countHeard_12 : decode b_Loop_countHeard 12 = .ok (.iload_n 1, 1) := by decide +kernel
theorem d_Loop_countHeard_13 : decode b_Loop_countHeard 13 = .ok (.aload_n 0, 1) := by decide +kernel
theorem d_Loop_countHeard_14 : decode b_Loop_countHeard 14 = .ok (.iload_n 2, 1) := by decide +kernel
theorem d_Loop_countHeard_15 : decode b_Loop_countHeard 15 = .ok (.invokevirtual 38, 3) := by decide +kernel
theorem d_Loop_countHeard_18 : decode b_Loop_countHeard 18 = .ok (.invokestatic 42, 3) := by decide +kernel
theorem d_Loop_countHeard_21 : decode b_Loop_countHeard 21 = .ok (.iadd, 1) := by decide +kernel
theorem d_Loop_countHeard_22 : decode b_Loop_countHeard 22 = .ok (.istore_n 1, 1) := by decide +kernel
theorem d_Loop_countHeard_23 : decode b_Loop_countHeard 23 = .ok (.iinc 2 1, 3) := by decide +kernel
theorem d_Loop_countHeard_26 : decode b_Loop_countHeard 26 = .ok (.goto (-22), 3) := by decide +kernel
theorem d_Loop_countHeard_29 : decode b_Loop_countHeard 29 = .ok (.iload_n 1, 1) := by decide +kernel
theorem d_Loop_countHeard_30 : decode b_Loop_countHeard 30 = .ok (.ireturn, 1) := by decide +kernel
def m_Loop_countHeard_B4 {R : Type} (F : Nat) (x0 : St) (k4_29 : Int32 → Int32 → Option R) (rec4 : Int32 → Int32 → Option R) (v1_4 : Int32) (v2_4 : Int32) : Option R :=
  (if (x0 2 0) ≤ v2_4 then (k4_29 v1_4 v2_4) else (bn1 (m_Loop_hears F x0 v2_4) (fun r15 => (bn1 (m_AM_oneIf F r15) (fun r18 => (rec4 (v1_4 + r18) (v2_4 + (1 : Int32))))))))
theorem m_Loop_countHeard_B4_h {R : Type} {F : Nat} {x0 : St} {k4_29 : Int32 → Int32 → Option R} {rec4 : Int32 → Int32 → Option R} {v1_4 : Int32} {v2_4 : Int32} {o : R} (h : m_Loop_countHeard_B4 F x0 k4_29 rec4 v1_4 v2_4 = some o) :
  (if (x0 2 0) ≤ v2_4 then (k4_29 v1_4 v2_4) else (bn1 (m_Loop_hears F x0 v2_4) (fun r15 => (bn1 (m_AM_oneIf F r15) (fun r18 => (rec4 (v1_4 + r18) (v2_4 + (1 : Int32)))))))) = some o := h
def m_Loop_countHeard (F : Nat) (x0 : St) : Option (Int32) :=
  (lq2 (m_Loop_countHeard_B4 F x0 (fun v1_4 v2_4 => (some v1_4))) F (0 : Int32) (0 : Int32))
abbrev rm_Loop_countHeard : Room := { frames := 1, cells := 0, slots := 0, locals := 21 }
set_option maxHeartbeats 4000000 in
set_option maxRecDepth 100000 in
theorem c_Loop_countHeard {G : (Nat → Prop) → State → Prop} (hG : gok G) (hGn : gN G) (l : Launch) (dC : Nat → ClassId) (dI : Nat → Nat → Nat) (g : Nat → ClassId) (F : Nat) (sz : Nat) (h0 : Nat) (q0 : Nat → Nat) (x0 : St) {o : Int32} (hm : m_Loop_countHeard F x0 = some o) : Met l y_Loop_countHeard (.code y_Loop_countHeard b_Loop_countHeard 3 (some .int) :: gw) rm_Loop_countHeard (kq (dC, dI) vwCl (tyv g) G [.ref h0] sz (wd_Loop g h0 q0 x0)) (kqi (dC, dI) vwCl (tyv g) (wd_Loop g h0 q0 x0) o (wd_Loop g h0 q0 x0) sz) 0 0 (va_A (wd_Loop g h0 q0 x0) sz) := by
  unfold m_Loop_countHeard at hm
  refine km (Qc := fun sz => kqi (dC, dI) vwCl (tyv g) (wd_Loop g h0 q0 x0) o (wd_Loop g h0 q0 x0) sz) (cc := b_Loop_countHeard) (maxL := 3) (ret := some .int) (by decide) rfl (Nat.le_of_ble_eq_true rfl) ?_
  intro p e s m args below meth c Q hQ hx hb hr hts hown hlocks hml hnm H locs A hAe hA hP hK hD hS hGA ls hl
  have hl : lv_has ls 3 [(0, .ref h0)] := hl
  have hts : ∀ w ∈ gw, w.before args s = true := fun w h => hts w (List.mem_cons_of_mem _ h)
  have hown : s.vm.findClass "AlarmMatrix$Loop" = some m.cls := hown
  refine lv_iconst (v := (0 : Int32)) hx hb d_Loop_countHeard_0 (by decide) ?_
  refine lv_istore_n (lv' := [(1, .int (0 : Int32)), (0, .ref h0)]) hx hb d_Loop_countHeard_1 rfl hl (by decide) rfl (fun ls hl => ?_)
  refine lv_iconst (v := (0 : Int32)) hx hb d_Loop_countHeard_2 (by decide) ?_
  refine lv_istore_n (lv' := [(2, .int (0 : Int32)), (1, .int (0 : Int32)), (0, .ref h0)]) hx hb d_Loop_countHeard_3 rfl hl (by decide) rfl (fun ls hl => ?_)
  have L4 : ∀ (n4 : Nat) (v1_4 : Int32) (v2_4 : Int32) (H : Heap) (locs : List Loc) (ls : Array Slot), lq2 (m_Loop_countHeard_B4 F x0 (fun v1_4 v2_4 => (some v1_4))) n4 v1_4 v2_4 = some o → va_P (dC, dI) vwCl (wd_Loop g h0 q0 x0) H → va_D A (wd_Loop g h0 q0 x0) → va_S A s.heap H locs → lv_has ls 3 [(0, .ref h0), (1, .int v1_4), (2, .int v2_4)] → W p l e rm_Loop_countHeard s m args below meth c H locs 0 0 Q (F0 m 4 ls []) := by
    intro n4
    induction n4 with
    | zero => intro v1_4 v2_4 H locs ls hm; exact absurd hm (by intro z; cases z)
    | succ n4 ih4 =>
      intro v1_4 v2_4 H locs ls hm hP hD hS hl
      replace hm := m_Loop_countHeard_B4_h (lq2_h hm)
      refine lv_iload_n hx hb d_Loop_countHeard_4 rfl (lv_at hl 2 rfl) ?_
      refine lv_aload_n hx hb d_Loop_countHeard_5 rfl (lv_at hl 0 rfl) ?_
      refine va_get (D := (dC, dI)) (ci := 8) (v := .int (x0 2 0)) (C := "AlarmMatrix$Loop") (T := T_Loop) (N := 5) hx hb hts i_Loop hown hK hP 0 rfl rfl 2 (by decide) (hts _ k1_90) (fun _ h9 => h9) rfl d_Loop_countHeard_6 ?_
      refine lv_icmp_ge (tgt := 29) hx hb d_Loop_countHeard_9 (by decide) (fun hc => ?_) (fun hc => ?_)
      · replace hm := if_t hm hc
        refine lv_iload_n hx hb d_Loop_countHeard_29 rfl (lv_at hl 1 rfl) ?_
        obtain rfl := Option.some.inj hm
        rw [hQ]
        exact kri hx hb hr hlocks hAe hP hK hD hS d_Loop_countHeard_30
      · replace hm := if_f hm hc
        refine lv_iload_n hx hb d_Loop_countHeard_12 rfl (lv_at hl 1 rfl) ?_
        refine lv_aload_n hx hb d_Loop_countHeard_13 rfl (lv_at hl 0 rfl) ?_
        refine lv_iload_n hx hb d_Loop_countHeard_14 rfl (lv_at hl 2 rfl) ?_
        obtain ⟨r15, hcl, hm⟩ := bn1_s hm
        refine kci (wc := wd_Loop g h0 q0 x0) (wr := ([] : va_W)) (w1 := wd_Loop g h0 q0 x0) hP hD hS hA [0, 1, 2] [] rfl rfl (by decide) (by decide) (va_runV (As := [.int v2_4]) (rest := [.int v1_4]) ⟨hx, hb, hml, hown, hts⟩ (c_Loop_hears hG hGn l dC dI g F H.size h0 q0 x0 v2_4 hcl) (cwV 1 hts (gdV k4_125 k4_110 k4_111 k1_5 k4_112) rfl rfl rfl (by decide +kernel) ⟨Nat.le_of_ble_eq_true rfl, Nat.le_of_ble_eq_true rfl⟩) (kpV hG hP hK hD hS hA hGA [0, 1, 2] (by decide) rfl (ci := 8) (q0 := 0) rfl rfl rfl) rfl rfl hl.1 rfl (lv_room (Nat.le_of_ble_eq_true rfl)) d_Loop_countHeard_15 ⟨Nat.le_of_ble_eq_true rfl, Nat.le_of_ble_eq_true rfl⟩) (fun H locs hP hD hS => ?_)
        have hP : va_P (dC, dI) vwCl (wd_Loop g h0 q0 x0) H := hP
        have hD : va_D A (wd_Loop g h0 q0 x0) := hD
        obtain ⟨r18, hcl, hm⟩ := bn1_s hm
        refine kci (wc := ([] : va_W)) (wr := wd_Loop g h0 q0 x0) (w1 := ([] : va_W)) hP hD hS hA [] [0, 1, 2] rfl rfl (by decide) (by decide) (va_runSN (host := "AlarmMatrix") (As := [.int r15]) (rest := [.int v1_4]) ⟨hx, hb, hml, hown, hts⟩ (c_AM_oneIf hG hGn l dC dI g F H.size r15 hcl) ⟨va_cnB 1 hts (gdI k3_50) rfl rfl rfl (hGn A s hGA _ nw4_126) (hts _ k1_1) (by decide +kernel) ⟨Nat.le_of_ble_eq_true rfl, Nat.le_of_ble_eq_true rfl⟩, (hts _ k3_49), trivial⟩ (kpS hG hP hK hD hS hA hGA [] (by decide) rfl) rfl rfl hl.1 rfl (lv_room (Nat.le_of_ble_eq_true rfl)) d_Loop_countHeard_18 ⟨Nat.le_of_ble_eq_true rfl, Nat.le_of_ble_eq_true rfl⟩) (fun H locs hP hD hS => ?_)
        have hP : va_P (dC, dI) vwCl (wd_Loop g h0 q0 x0) H := hP
        have hD : va_D A (wd_Loop g h0 q0 x0) := hD
        refine lv_iadd hx hb d_Loop_countHeard_21 ?_
        refine lv_istore_n (lv' := [(1, .int (v1_4 + r18)), (0, .ref h0), (2, .int v2_4)]) hx hb d_Loop_countHeard_22 rfl hl (by decide) rfl (fun ls hl => ?_)
        refine lv_iinc (v := (v2_4 + (1 : Int32))) (lv' := [(2, .int (v2_4 + (1 : Int32))), (1, .int (v1_4 + r18)), (0, .ref h0)]) hx hb d_Loop_countHeard_23 hl (k := 2) rfl rfl (by decide) rfl (fun ls hl => ?_)
        refine lv_goto (tgt := 4) hx hb d_Loop_countHeard_26 (by decide) ?_
        exact ih4 (v1_4 + r18) (v2_4 + (1 : Int32)) H locs ls hm hP hD hS (lv_sub hl [2, 1, 0] rfl)
  exact L4 F (0 : Int32) (0 : Int32) H locs ls hm hP hD hS (lv_sub hl [2, 1, 0] rfl)

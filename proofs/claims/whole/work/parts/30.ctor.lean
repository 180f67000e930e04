def z0 : St := fun _ _ => 0
abbrev b_Text_init : ByteArray := prog_8_method_1_code
abbrev y_Text_init : MethodName := ⟨"AlarmMatrix$Text", "<init>", "()V"⟩
theorem d_Text_init_0 : decode b_Text_init 0 = .ok (.aload_n 0, 1) := by decide +kernel
theorem d_Text_init_1 : decode b_Text_init 1 = .ok (.invokespecial 3, 3) := by decide +kernel
theorem d_Text_init_4 : decode b_Text_init 4 = .ok (.aload_n 0, 1) := by decide +kernel
theorem d_Text_init_5 : decode b_Text_init 5 = .ok (.sipush 2000, 3) := by decide +kernel
theorem d_Text_init_8 : decode b_Text_init 8 = .ok (.newarray .char, 2) := by decide +kernel
theorem d_Text_init_10 : decode b_Text_init 10 = .ok (.putfield 9, 3) := by decide +kernel
theorem d_Text_init_13 : decode b_Text_init 13 = .ok (.aload_n 0, 1) := by decide +kernel
theorem d_Text_init_14 : decode b_Text_init 14 = .ok (.bipush 10, 2) := by decide +kernel
theorem d_Text_init_16 : decode b_Text_init 16 = .ok (.newarray .char, 2) := by decide +kernel
theorem d_Text_init_18 : decode b_Text_init 18 = .ok (.putfield 15, 3) := by decide +kernel
theorem d_Text_init_21 : decode b_Text_init 21 = .ok (.aload_n 0, 1) := by decide +kernel
theorem d_Text_init_22 : decode b_Text_init 22 = .ok (.iconst 0, 1) := by decide +kernel
theorem d_Text_init_23 : decode b_Text_init 23 = .ok (.putfield 18, 3) := by decide +kernel
theorem d_Text_init_26 : decode b_Text_init 26 = .ok (.return_, 1) := by decide +kernel
abbrev rm_Text_init : Room := { frames := 1, cells := 2, slots := 2010, locals := 12 }
set_option maxHeartbeats 4000000 in
set_option maxRecDepth 100000 in
theorem c_Text_init {G : (Nat → Prop) → State → Prop} (hG : gok G) (hGn : gN G) (l : Launch) (dC : Nat → ClassId) (dI : Nat → Nat → Nat) (g : Nat → ClassId) (sz : Nat) (h0 : Nat)  : Met l y_Text_init (.code y_Text_init b_Text_init 1 none :: gw) rm_Text_init (kq (dC, dI) vwCl (tyv g) G [.ref h0] sz ([(h0, .inr (1, [.null, .null, .int 0]))])) (kqc (dC, dI) vwCl (tyv g) ([(h0, .inr (1, [.null, .null, .int 0]))]) (fun u => wd_Text g h0 (u 0) z0) sz) 2 2010 (va_A ([(h0, .inr (1, [.null, .null, .int 0]))]) sz) := by
  refine km (Qc := fun sz => kqc (dC, dI) vwCl (tyv g) ([(h0, .inr (1, [.null, .null, .int 0]))]) (fun u => wd_Text g h0 (u 0) z0) sz) (cc := b_Text_init) (maxL := 1) (ret := none) (by decide) rfl (Nat.le_of_ble_eq_true rfl) ?_
  intro p e s m args below meth c Q hQ hx hb hr hts hown hlocks hml hnm H locs A hAe hA hP hK hD hS hGA ls hl
  have hl : lv_has ls 1 [(0, .ref h0)] := hl
  have hts : ∀ w ∈ gw, w.before args s = true := fun w h => hts w (List.mem_cons_of_mem _ h)
  have hown : s.vm.findClass "AlarmMatrix$Text" = some m.cls := hown
  refine lv_aload_n hx hb d_Text_init_0 rfl (lv_at hl 0 rfl) ?_
  refine W.objInit hx hb hown (hts _ k1_36) (hts _ k1_29) (hts _ k1_30) rfl (by rw [hml]; exact hl.1) rfl d_Text_init_1 (Nat.le_of_ble_eq_true rfl) (Nat.le_of_ble_eq_true rfl) ?_
  refine W.eq (g2 := F0 m 4 ls []) rfl ?_
  refine lv_aload_n hx hb d_Text_init_4 rfl (lv_at hl 0 rfl) ?_
  refine lv_sipush (v := (2000 : Int32)) hx hb d_Text_init_5 (by decide) ?_
  refine va_newa (atype := .char) (ty := .char) (a0 := (2000, .inl (fun _ => 0))) hx hb (hts _ k1_47) rfl hK hP hD hS hA (fun cA => rfl) (by decide) (by decide) (by decide) (Nat.le_of_ble_eq_true rfl) (Nat.le_of_ble_eq_true rfl) d_Text_init_8 (fun q8 cA H hK hP hD hS => ?_)
  obtain rfl := ty_one hK (i := 2) (j := 5) rfl rfl
  have hK := hK.sub (tys' := tyv g) [0, 1, 2, 3, 4] rfl
  have hP : va_P (dC, dI) vwCl ([(h0, .inr (1, [.null, .null, .int 0])), (q8, .inl (g 2, 2000, .inl (fun _ => 0)))]) H := hP
  have hD : va_D A ([(h0, .inr (1, [.null, .null, .int 0])), (q8, .inl (g 2, 2000, .inl (fun _ => 0)))]) := hD
  refine W.widen (k := 1) (n := 2000) (by omega) (by omega) ?_
  refine va_putF (D := (dC, dI)) (ci := 1) (v := .ref q8) (ty := .array (.char)) (C := "AlarmMatrix$Text") (T := T_Text) (N := 3) hx hb hts i_Text t_Text o_Text n_Text hown hK hP hD hS 0 rfl rfl 0 (by decide) (hts _ k1_37) (fun _ h9 => h9) rfl hnm rfl (by decide +kernel) rfl rfl (Nat.le_of_ble_eq_true rfl) d_Text_init_10 (fun H locs hP hD hS => ?_)
  have hP : va_P (dC, dI) vwCl ([(h0, .inr (1, [.ref q8, .null, .int 0])), (q8, .inl (g 2, 2000, .inl (fun _ => 0)))]) H := hP
  have hD : va_D A ([(h0, .inr (1, [.ref q8, .null, .int 0])), (q8, .inl (g 2, 2000, .inl (fun _ => 0)))]) := hD
  refine lv_aload_n hx hb d_Text_init_13 rfl (lv_at hl 0 rfl) ?_
  refine lv_bipush (v := (10 : Int32)) hx hb d_Text_init_14 (by decide) ?_
  refine va_newa (atype := .char) (ty := .char) (a0 := (10, .inl (fun _ => 0))) hx hb (hts _ k1_47) rfl hK hP hD hS hA (fun cA => rfl) (by decide) (by decide) (by decide) (Nat.le_of_ble_eq_true rfl) (Nat.le_of_ble_eq_true rfl) d_Text_init_16 (fun q16 cA H hK hP hD hS => ?_)
  obtain rfl := ty_one hK (i := 2) (j := 5) rfl rfl
  have hK := hK.sub (tys' := tyv g) [0, 1, 2, 3, 4] rfl
  have hP : va_P (dC, dI) vwCl ([(h0, .inr (1, [.ref q8, .null, .int 0])), (q8, .inl (g 2, 2000, .inl (fun _ => 0))), (q16, .inl (g 2, 10, .inl (fun _ => 0)))]) H := hP
  have hD : va_D A ([(h0, .inr (1, [.ref q8, .null, .int 0])), (q8, .inl (g 2, 2000, .inl (fun _ => 0))), (q16, .inl (g 2, 10, .inl (fun _ => 0)))]) := hD
  refine W.widen (k := 2) (n := 2010) (by omega) (by omega) ?_
  refine va_putF (D := (dC, dI)) (ci := 1) (v := .ref q16) (ty := .array (.char)) (C := "AlarmMatrix$Text") (T := T_Text) (N := 3) hx hb hts i_Text t_Text o_Text n_Text hown hK hP hD hS 0 rfl rfl 1 (by decide) (hts _ k1_38) (fun _ h9 => h9) rfl hnm rfl (by decide +kernel) rfl rfl (Nat.le_of_ble_eq_true rfl) d_Text_init_18 (fun H locs hP hD hS => ?_)
  have hP : va_P (dC, dI) vwCl ([(h0, .inr (1, [.ref q8, .ref q16, .int 0])), (q8, .inl (g 2, 2000, .inl (fun _ => 0))), (q16, .inl (g 2, 10, .inl (fun _ => 0)))]) H := hP
  have hD : va_D A ([(h0, .inr (1, [.ref q8, .ref q16, .int 0])), (q8, .inl (g 2, 2000, .inl (fun _ => 0))), (q16, .inl (g 2, 10, .inl (fun _ => 0)))]) := hD
  refine lv_aload_n hx hb d_Text_init_21 rfl (lv_at hl 0 rfl) ?_
  refine lv_iconst (v := (0 : Int32)) hx hb d_Text_init_22 (by decide) ?_
  refine va_put (D := (dC, dI)) (ci := 1) (v := .int (0 : Int32)) (ty := .int) (C := "AlarmMatrix$Text") (T := T_Text) (N := 3) hx hb hts i_Text t_Text o_Text n_Text hown hK hP hD hS 0 rfl rfl 2 (by decide) (hts _ k1_39) (fun _ h9 => h9) rfl (by decide +kernel) rfl rfl (Nat.le_of_ble_eq_true rfl) d_Text_init_23 (fun H locs hP hD hS => ?_)
  have hP : va_P (dC, dI) vwCl ([(h0, .inr (1, [.ref q8, .ref q16, .int (0 : Int32)])), (q8, .inl (g 2, 2000, .inl (fun _ => 0))), (q16, .inl (g 2, 10, .inl (fun _ => 0)))]) H := hP
  have hD : va_D A ([(h0, .inr (1, [.ref q8, .ref q16, .int (0 : Int32)])), (q8, .inl (g 2, 2000, .inl (fun _ => 0))), (q16, .inl (g 2, 10, .inl (fun _ => 0)))]) := hD
  obtain ⟨u, hu⟩ : ∃ u : Nat → Nat → Nat, u = (fun j => bif Nat.beq j 0 then (fun k => ([q8, q16, 0] : List Nat).getD k 0) else (fun _ => 0)) := ⟨_, rfl⟩
  have hP9 : va_P (dC, dI) vwCl (wd_Text g h0 (u 0) z0) H := by rw [hu]; exact hP.sub [0, 1, 2] rfl
  have hD9 : va_D A (wd_Text g h0 (u 0) z0) := by rw [hu]; exact hD.sub [0, 1, 2] (by decide) rfl
  rw [hQ]
  exact krc u hx hb hr hlocks hAe hP9 hK hD9 hS d_Text_init_26
abbrev b_Loop_init : ByteArray := prog_4_method_1_code
abbrev y_Loop_init : MethodName := ⟨"AlarmMatrix$Loop", "<init>", "()V"⟩
theorem d_Loop_init_0 : decode b_Loop_init 0 = .ok (.aload_n 0, 1) := by decide +kernel
theorem d_Loop_init_1 : decode b_Loop_init 1 = .ok (.invokespecial 3, 3) := by decide +kernel
theorem d_Loop_init_4 : decode b_Loop_init 4 = .ok (.aload_n 0, 1) := by decide +kernel
theorem d_Loop_init_5 : decode b_Loop_init 5 = .ok (.bipush 40, 2) := by decide +kernel
theorem d_Loop_init_7 : decode b_Loop_init 7 = .ok (.newarray .int, 2) := by decide +kernel
theorem d_Loop_init_9 : decode b_Loop_init 9 = .ok (.putfield 9, 3) := by decide +kernel
theorem d_Loop_init_12 : decode b_Loop_init 12 = .ok (.aload_n 0, 1) := by decide +kernel
theorem d_Loop_init_13 : decode b_Loop_init 13 = .ok (.bipush 41, 2) := by decide +kernel
theorem d_Loop_init_15 : decode b_Loop_init 15 = .ok (.newarray .boolean, 2) := by decide +kernel
theorem d_Loop_init_17 : decode b_Loop_init 17 = .ok (.putfield 15, 3) := by decide +kernel
theorem d_Loop_init_20 : decode b_Loop_init 20 = .ok (.aload_n 0, 1) := by decide +kernel
theorem d_Loop_init_21 : decode b_Loop_init 21 = .ok (.iconst 0, 1) := by decide +kernel
theorem d_Loop_init_22 : decode b_Loop_init 22 = .ok (.putfield 19, 3) := by decide +kernel
theorem d_Loop_init_25 : decode b_Loop_init 25 = .ok (.aload_n 0, 1) := by decide +kernel
theorem d_Loop_init_26 : decode b_Loop_init 26 = .ok (.bipush 41, 2) := by decide +kernel
theorem d_Loop_init_28 : decode b_Loop_init 28 = .ok (.putfield 23, 3) := by decide +kernel
theorem d_Loop_init_31 : decode b_Loop_init 31 = .ok (.aload_n 0, 1) := by decide +kernel
theorem d_Loop_init_32 : decode b_Loop_init 32 = .ok (.iconst (-1), 1) := by decide +kernel
theorem d_Loop_init_33 : decode b_Loop_init 33 = .ok (.putfield 26, 3) := by decide +kernel
theorem d_Loop_init_36 : decode b_Loop_init 36 = .ok (.return_, 1) := by decide +kernel
abbrev rm_Loop_init : Room := { frames := 1, cells := 2, slots := 81, locals := 12 }
set_option maxHeartbeats 4000000 in
set_option maxRecDepth 100000 in
theorem c_Loop_init {G : (Nat → Prop) → State → Prop} (hG : gok G) (hGn : gN G) (l : Launch) (dC : Nat → ClassId) (dI : Nat → Nat → Nat) (g : Nat → ClassId) (sz : Nat) (h0 : Nat)  : Met l y_Loop_init (.code y_Loop_init b_Loop_init 1 none :: gw) rm_Loop_init (kq (dC, dI) vwCl (tyv g) G [.ref h0] sz ([(h0, .inr (8, [.null, .null, .int 0, .int 0, .int 0]))])) (kqc (dC, dI) vwCl (tyv g) ([(h0, .inr (8, [.null, .null, .int 0, .int 0, .int 0]))]) (fun u => wd_Loop g h0 (u 0) (sc (sc z0 3 41) 4 (-1))) sz) 2 81 (va_A ([(h0, .inr (8, [.null, .null, .int 0, .int 0, .int 0]))]) sz) := by
  refine km (Qc := fun sz => kqc (dC, dI) vwCl (tyv g) ([(h0, .inr (8, [.null, .null, .int 0, .int 0, .int 0]))]) (fun u => wd_Loop g h0 (u 0) (sc (sc z0 3 41) 4 (-1))) sz) (cc := b_Loop_init) (maxL := 1) (ret := none) (by decide) rfl (Nat.le_of_ble_eq_true rfl) ?_
  intro p e s m args below meth c Q hQ hx hb hr hts hown hlocks hml hnm H locs A hAe hA hP hK hD hS hGA ls hl
  have hl : lv_has ls 1 [(0, .ref h0)] := hl
  have hts : ∀ w ∈ gw, w.before args s = true := fun w h => hts w (List.mem_cons_of_mem _ h)
  have hown : s.vm.findClass "AlarmMatrix$Loop" = some m.cls := hown
  refine lv_aload_n hx hb d_Loop_init_0 rfl (lv_at hl 0 rfl) ?_
  refine W.objInit hx hb hown (hts _ k1_87) (hts _ k1_29) (hts _ k1_30) rfl (by rw [hml]; exact hl.1) rfl d_Loop_init_1 (Nat.le_of_ble_eq_true rfl) (Nat.le_of_ble_eq_true rfl) ?_
  refine W.eq (g2 := F0 m 4 ls []) rfl ?_
  refine lv_aload_n hx hb d_Loop_init_4 rfl (lv_at hl 0 rfl) ?_
  refine lv_bipush (v := (40 : Int32)) hx hb d_Loop_init_5 (by decide) ?_
  refine va_newa (atype := .int) (ty := .int) (a0 := (40, .inl (fun _ => 0))) hx hb (hts _ k1_79) rfl hK hP hD hS hA (fun cA => rfl) (by decide) (by decide) (by decide) (Nat.le_of_ble_eq_true rfl) (Nat.le_of_ble_eq_true rfl) d_Loop_init_7 (fun q7 cA H hK hP hD hS => ?_)
  obtain rfl := ty_one hK (i := 0) (j := 5) rfl rfl
  have hK := hK.sub (tys' := tyv g) [0, 1, 2, 3, 4] rfl
  have hP : va_P (dC, dI) vwCl ([(h0, .inr (8, [.null, .null, .int 0, .int 0, .int 0])), (q7, .inl (g 0, 40, .inl (fun _ => 0)))]) H := hP
  have hD : va_D A ([(h0, .inr (8, [.null, .null, .int 0, .int 0, .int 0])), (q7, .inl (g 0, 40, .inl (fun _ => 0)))]) := hD
  refine W.widen (k := 1) (n := 40) (by omega) (by omega) ?_
  refine va_putF (D := (dC, dI)) (ci := 8) (v := .ref q7) (ty := .array (.int)) (C := "AlarmMatrix$Loop") (T := T_Loop) (N := 5) hx hb hts i_Loop t_Loop o_Loop n_Loop hown hK hP hD hS 0 rfl rfl 0 (by decide) (hts _ k1_88) (fun _ h9 => h9) rfl hnm rfl (by decide +kernel) rfl rfl (Nat.le_of_ble_eq_true rfl) d_Loop_init_9 (fun H locs hP hD hS => ?_)
  have hP : va_P (dC, dI) vwCl ([(h0, .inr (8, [.ref q7, .null, .int 0, .int 0, .int 0])), (q7, .inl (g 0, 40, .inl (fun _ => 0)))]) H := hP
  have hD : va_D A ([(h0, .inr (8, [.ref q7, .null, .int 0, .int 0, .int 0])), (q7, .inl (g 0, 40, .inl (fun _ => 0)))]) := hD
  refine lv_aload_n hx hb d_Loop_init_12 rfl (lv_at hl 0 rfl) ?_
  refine lv_bipush (v := (41 : Int32)) hx hb d_Loop_init_13 (by decide) ?_
  refine va_newa (atype := .boolean) (ty := .boolean) (a0 := (41, .inl (fun _ => 0))) hx hb (hts _ k1_80) rfl hK hP hD hS hA (fun cA => rfl) (by decide) (by decide) (by decide) (Nat.le_of_ble_eq_true rfl) (Nat.le_of_ble_eq_true rfl) d_Loop_init_15 (fun q15 cA H hK hP hD hS => ?_)
  obtain rfl := ty_one hK (i := 1) (j := 5) rfl rfl
  have hK := hK.sub (tys' := tyv g) [0, 1, 2, 3, 4] rfl
  have hP : va_P (dC, dI) vwCl ([(h0, .inr (8, [.ref q7, .null, .int 0, .int 0, .int 0])), (q7, .inl (g 0, 40, .inl (fun _ => 0))), (q15, .inl (g 1, 41, .inl (fun _ => 0)))]) H := hP
  have hD : va_D A ([(h0, .inr (8, [.ref q7, .null, .int 0, .int 0, .int 0])), (q7, .inl (g 0, 40, .inl (fun _ => 0))), (q15, .inl (g 1, 41, .inl (fun _ => 0)))]) := hD
  refine W.widen (k := 2) (n := 81) (by omega) (by omega) ?_
  refine va_putF (D := (dC, dI)) (ci := 8) (v := .ref q15) (ty := .array (.boolean)) (C := "AlarmMatrix$Loop") (T := T_Loop) (N := 5) hx hb hts i_Loop t_Loop o_Loop n_Loop hown hK hP hD hS 0 rfl rfl 1 (by decide) (hts _ k1_89) (fun _ h9 => h9) rfl hnm rfl (by decide +kernel) rfl rfl (Nat.le_of_ble_eq_true rfl) d_Loop_init_17 (fun H locs hP hD hS => ?_)
  have hP : va_P (dC, dI) vwCl ([(h0, .inr (8, [.ref q7, .ref q15, .int 0, .int 0, .int 0])), (q7, .inl (g 0, 40, .inl (fun _ => 0))), (q15, .inl (g 1, 41, .inl (fun _ => 0)))]) H := hP
  have hD : va_D A ([(h0, .inr (8, [.ref q7, .ref q15, .int 0, .int 0, .int 0])), (q7, .inl (g 0, 40, .inl (fun _ => 0))), (q15, .inl (g 1, 41, .inl (fun _ => 0)))]) := hD
  refine lv_aload_n hx hb d_Loop_init_20 rfl (lv_at hl 0 rfl) ?_
  refine lv_iconst (v := (0 : Int32)) hx hb d_Loop_init_21 (by decide) ?_
  refine va_put (D := (dC, dI)) (ci := 8) (v := .int (0 : Int32)) (ty := .int) (C := "AlarmMatrix$Loop") (T := T_Loop) (N := 5) hx hb hts i_Loop t_Loop o_Loop n_Loop hown hK hP hD hS 0 rfl rfl 2 (by decide) (hts _ k1_90) (fun _ h9 => h9) rfl (by decide +kernel) rfl rfl (Nat.le_of_ble_eq_true rfl) d_Loop_init_22 (fun H locs hP hD hS => ?_)
  have hP : va_P (dC, dI) vwCl ([(h0, .inr (8, [.ref q7, .ref q15, .int (0 : Int32), .int 0, .int 0])), (q7, .inl (g 0, 40, .inl (fun _ => 0))), (q15, .inl (g 1, 41, .inl (fun _ => 0)))]) H := hP
  have hD : va_D A ([(h0, .inr (8, [.ref q7, .ref q15, .int (0 : Int32), .int 0, .int 0])), (q7, .inl (g 0, 40, .inl (fun _ => 0))), (q15, .inl (g 1, 41, .inl (fun _ => 0)))]) := hD
  refine lv_aload_n hx hb d_Loop_init_25 rfl (lv_at hl 0 rfl) ?_
  refine lv_bipush (v := (41 : Int32)) hx hb d_Loop_init_26 (by decide) ?_
  refine va_put (D := (dC, dI)) (ci := 8) (v := .int (41 : Int32)) (ty := .int) (C := "AlarmMatrix$Loop") (T := T_Loop) (N := 5) hx hb hts i_Loop t_Loop o_Loop n_Loop hown hK hP hD hS 0 rfl rfl 3 (by decide) (hts _ k1_91) (fun _ h9 => h9) rfl (by decide +kernel) rfl rfl (Nat.le_of_ble_eq_true rfl) d_Loop_init_28 (fun H locs hP hD hS => ?_)
  have hP : va_P (dC, dI) vwCl ([(h0, .inr (8, [.ref q7, .ref q15, .int (0 : Int32), .int (41 : Int32), .int 0])), (q7, .inl (g 0, 40, .inl (fun _ => 0))), (q15, .inl (g 1, 41, .inl (fun _ => 0)))]) H := hP
  have hD : va_D A ([(h0, .inr (8, [.ref q7, .ref q15, .int (0 : Int32), .int (41 : Int32), .int 0])), (q7, .inl (g 0, 40, .inl (fun _ => 0))), (q15, .inl (g 1, 41, .inl (fun _ => 0)))]) := hD
  refine lv_aload_n hx hb d_Loop_init_31 rfl (lv_at hl 0 rfl) ?_
  refine lv_iconst (v := (-1 : Int32)) hx hb d_Loop_init_32 (by decide) ?_
  refine va_put (D := (dC, dI)) (ci := 8) (v := .int (-1 : Int32)) (ty := .int) (C := "AlarmMatrix$Loop") (T := T_Loop) (N := 5) hx hb hts i_Loop t_Loop o_Loop n_Loop hown hK hP hD hS 0 rfl rfl 4 (by decide) (hts _ k1_92) (fun _ h9 => h9) rfl (by decide +kernel) rfl rfl (Nat.le_of_ble_eq_true rfl) d_Loop_init_33 (fun H locs hP hD hS => ?_)
  have hP : va_P (dC, dI) vwCl ([(h0, .inr (8, [.ref q7, .ref q15, .int (0 : Int32), .int (41 : Int32), .int (-1 : Int32)])), (q7, .inl (g 0, 40, .inl (fun _ => 0))), (q15, .inl (g 1, 41, .inl (fun _ => 0)))]) H := hP
  have hD : va_D A ([(h0, .inr (8, [.ref q7, .ref q15, .int (0 : Int32), .int (41 : Int32), .int (-1 : Int32)])), (q7, .inl (g 0, 40, .inl (fun _ => 0))), (q15, .inl (g 1, 41, .inl (fun _ => 0)))]) := hD
  obtain ⟨u, hu⟩ : ∃ u : Nat → Nat → Nat, u = (fun j => bif Nat.beq j 0 then (fun k => ([q7, q15, 0, 0, 0] : List Nat).getD k 0) else (fun _ => 0)) := ⟨_, rfl⟩
  have hP9 : va_P (dC, dI) vwCl (wd_Loop g h0 (u 0) (sc (sc z0 3 41) 4 (-1))) H := by rw [hu]; exact hP.sub [0, 1, 2] rfl
  have hD9 : va_D A (wd_Loop g h0 (u 0) (sc (sc z0 3 41) 4 (-1))) := by rw [hu]; exact hD.sub [0, 1, 2] (by decide) rfl
  rw [hQ]
  exact krc u hx hb hr hlocks hAe hP9 hK hD9 hS d_Loop_init_36
abbrev b_Events_init : ByteArray := prog_3_method_1_code
abbrev y_Events_init : MethodName := ⟨"AlarmMatrix$Events", "<init>", "()V"⟩
theorem d_Events_init_0 : decode b_Events_init 0 = .ok (.aload_n 0, 1) := by decide +kernel
theorem d_Events_init_1 : decode b_Events_init 1 = .ok (.invokespecial 3, 3) := by decide +kernel
theorem d_Events_init_4 : decode b_Events_init 4 = .ok (.aload_n 0, 1) := by decide +kernel
theorem d_Events_init_5 : decode b_Events_init 5 = .ok (.bipush 60, 2) := by decide +kernel
theorem d_Events_init_7 : decode b_Events_init 7 = .ok (.newarray .int, 2) := by decide +kernel
theorem d_Events_init_9 : decode b_Events_init 9 = .ok (.putfield 9, 3) := by decide +kernel
theorem d_Events_init_12 : decode b_Events_init 12 = .ok (.aload_n 0, 1) := by decide +kernel
theorem d_Events_init_13 : decode b_Events_init 13 = .ok (.bipush 60, 2) := by decide +kernel
theorem d_Events_init_15 : decode b_Events_init 15 = .ok (.newarray .int, 2) := by decide +kernel
theorem d_Events_init_17 : decode b_Events_init 17 = .ok (.putfield 15, 3) := by decide +kernel
theorem d_Events_init_20 : decode b_Events_init 20 = .ok (.aload_n 0, 1) := by decide +kernel
theorem d_Events_init_21 : decode b_Events_init 21 = .ok (.bipush 60, 2) := by decide +kernel
theorem d_Events_init_23 : decode b_Events_init 23 = .ok (.newarray .int, 2) := by decide +kernel
theorem d_Events_init_25 : decode b_Events_init 25 = .ok (.putfield 18, 3) := by decide +kernel
theorem d_Events_init_28 : decode b_Events_init 28 = .ok (.aload_n 0, 1) := by decide +kernel
theorem d_Events_init_29 : decode b_Events_init 29 = .ok (.iconst 0, 1) := by decide +kernel
theorem d_Events_init_30 : decode b_Events_init 30 = .ok (.putfield 21, 3) := by decide +kernel
theorem d_Events_init_33 : decode b_Events_init 33 = .ok (.aload_n 0, 1) := by decide +kernel
theorem d_Events_init_34 : decode b_Events_init 34 = .ok (.iconst 0, 1) := by decide +kernel
theorem d_Events_init_35 : decode b_Events_init 35 = .ok (.putfield 25, 3) := by decide +kernel
theorem d_Events_init_38 : decode b_Events_init 38 = .ok (.return_, 1) := by decide +kernel
abbrev rm_Events_init : Room := { frames := 1, cells := 3, slots := 180, locals := 12 }
set_option maxHeartbeats 4000000 in
set_option maxRecDepth 100000 in
theorem c_Events_init {G : (Nat → Prop) → State → Prop} (hG : gok G) (hGn : gN G) (l : Launch) (dC : Nat → ClassId) (dI : Nat → Nat → Nat) (g : Nat → ClassId) (sz : Nat) (h0 : Nat)  : Met l y_Events_init (.code y_Events_init b_Events_init 1 none :: gw) rm_Events_init (kq (dC, dI) vwCl (tyv g) G [.ref h0] sz ([(h0, .inr (9, [.null, .null, .null, .int 0, .int 0]))])) (kqc (dC, dI) vwCl (tyv g) ([(h0, .inr (9, [.null, .null, .null, .int 0, .int 0]))]) (fun u => wd_Events g h0 (u 0) z0) sz) 3 180 (va_A ([(h0, .inr (9, [.null, .null, .null, .int 0, .int 0]))]) sz) := by
  refine km (Qc := fun sz => kqc (dC, dI) vwCl (tyv g) ([(h0, .inr (9, [.null, .null, .null, .int 0, .int 0]))]) (fun u => wd_Events g h0 (u 0) z0) sz) (cc := b_Events_init) (maxL := 1) (ret := none) (by decide) rfl (Nat.le_of_ble_eq_true rfl) ?_
  intro p e s m args below meth c Q hQ hx hb hr hts hown hlocks hml hnm H locs A hAe hA hP hK hD hS hGA ls hl
  have hl : lv_has ls 1 [(0, .ref h0)] := hl
  have hts : ∀ w ∈ gw, w.before args s = true := fun w h => hts w (List.mem_cons_of_mem _ h)
  have hown : s.vm.findClass "AlarmMatrix$Events" = some m.cls := hown
  refine lv_aload_n hx hb d_Events_init_0 rfl (lv_at hl 0 rfl) ?_
  refine W.objInit hx hb hown (hts _ k1_109) (hts _ k1_29) (hts _ k1_30) rfl (by rw [hml]; exact hl.1) rfl d_Events_init_1 (Nat.le_of_ble_eq_true rfl) (Nat.le_of_ble_eq_true rfl) ?_
  refine W.eq (g2 := F0 m 4 ls []) rfl ?_
  refine lv_aload_n hx hb d_Events_init_4 rfl (lv_at hl 0 rfl) ?_
  refine lv_bipush (v := (60 : Int32)) hx hb d_Events_init_5 (by decide) ?_
  refine va_newa (atype := .int) (ty := .int) (a0 := (60, .inl (fun _ => 0))) hx hb (hts _ k1_79) rfl hK hP hD hS hA (fun cA => rfl) (by decide) (by decide) (by decide) (Nat.le_of_ble_eq_true rfl) (Nat.le_of_ble_eq_true rfl) d_Events_init_7 (fun q7 cA H hK hP hD hS => ?_)
  obtain rfl := ty_one hK (i := 0) (j := 5) rfl rfl
  have hK := hK.sub (tys' := tyv g) [0, 1, 2, 3, 4] rfl
  have hP : va_P (dC, dI) vwCl ([(h0, .inr (9, [.null, .null, .null, .int 0, .int 0])), (q7, .inl (g 0, 60, .inl (fun _ => 0)))]) H := hP
  have hD : va_D A ([(h0, .inr (9, [.null, .null, .null, .int 0, .int 0])), (q7, .inl (g 0, 60, .inl (fun _ => 0)))]) := hD
  refine W.widen (k := 1) (n := 60) (by omega) (by omega) ?_
  refine va_putF (D := (dC, dI)) (ci := 9) (v := .ref q7) (ty := .array (.int)) (C := "AlarmMatrix$Events") (T := T_Events) (N := 5) hx hb hts i_Events t_Events o_Events n_Events hown hK hP hD hS 0 rfl rfl 0 (by decide) (hts _ k1_110) (fun _ h9 => h9) rfl hnm rfl (by decide +kernel) rfl rfl (Nat.le_of_ble_eq_true rfl) d_Events_init_9 (fun H locs hP hD hS => ?_)
  have hP : va_P (dC, dI) vwCl ([(h0, .inr (9, [.ref q7, .null, .null, .int 0, .int 0])), (q7, .inl (g 0, 60, .inl (fun _ => 0)))]) H := hP
  have hD : va_D A ([(h0, .inr (9, [.ref q7, .null, .null, .int 0, .int 0])), (q7, .inl (g 0, 60, .inl (fun _ => 0)))]) := hD
  refine lv_aload_n hx hb d_Events_init_12 rfl (lv_at hl 0 rfl) ?_
  refine lv_bipush (v := (60 : Int32)) hx hb d_Events_init_13 (by decide) ?_
  refine va_newa (atype := .int) (ty := .int) (a0 := (60, .inl (fun _ => 0))) hx hb (hts _ k1_79) rfl hK hP hD hS hA (fun cA => rfl) (by decide) (by decide) (by decide) (Nat.le_of_ble_eq_true rfl) (Nat.le_of_ble_eq_true rfl) d_Events_init_15 (fun q15 cA H hK hP hD hS => ?_)
  obtain rfl := ty_one hK (i := 0) (j := 5) rfl rfl
  have hK := hK.sub (tys' := tyv g) [0, 1, 2, 3, 4] rfl
  have hP : va_P (dC, dI) vwCl ([(h0, .inr (9, [.ref q7, .null, .null, .int 0, .int 0])), (q7, .inl (g 0, 60, .inl (fun _ => 0))), (q15, .inl (g 0, 60, .inl (fun _ => 0)))]) H := hP
  have hD : va_D A ([(h0, .inr (9, [.ref q7, .null, .null, .int 0, .int 0])), (q7, .inl (g 0, 60, .inl (fun _ => 0))), (q15, .inl (g 0, 60, .inl (fun _ => 0)))]) := hD
  refine W.widen (k := 2) (n := 120) (by omega) (by omega) ?_
  refine va_putF (D := (dC, dI)) (ci := 9) (v := .ref q15) (ty := .array (.int)) (C := "AlarmMatrix$Events") (T := T_Events) (N := 5) hx hb hts i_Events t_Events o_Events n_Events hown hK hP hD hS 0 rfl rfl 1 (by decide) (hts _ k1_111) (fun _ h9 => h9) rfl hnm rfl (by decide +kernel) rfl rfl (Nat.le_of_ble_eq_true rfl) d_Events_init_17 (fun H locs hP hD hS => ?_)
  have hP : va_P (dC, dI) vwCl ([(h0, .inr (9, [.ref q7, .ref q15, .null, .int 0, .int 0])), (q7, .inl (g 0, 60, .inl (fun _ => 0))), (q15, .inl (g 0, 60, .inl (fun _ => 0)))]) H := hP
  have hD : va_D A ([(h0, .inr (9, [.ref q7, .ref q15, .null, .int 0, .int 0])), (q7, .inl (g 0, 60, .inl (fun _ => 0))), (q15, .inl (g 0, 60, .inl (fun _ => 0)))]) := hD
  refine lv_aload_n hx hb d_Events_init_20 rfl (lv_at hl 0 rfl) ?_
  refine lv_bipush (v := (60 : Int32)) hx hb d_Events_init_21 (by decide) ?_
  refine va_newa (atype := .int) (ty := .int) (a0 := (60, .inl (fun _ => 0))) hx hb (hts _ k1_79) rfl hK hP hD hS hA (fun cA => rfl) (by decide) (by decide) (by decide) (Nat.le_of_ble_eq_true rfl) (Nat.le_of_ble_eq_true rfl) d_Events_init_23 (fun q23 cA H hK hP hD hS => ?_)
  obtain rfl := ty_one hK (i := 0) (j := 5) rfl rfl
  have hK := hK.sub (tys' := tyv g) [0, 1, 2, 3, 4] rfl
  have hP : va_P (dC, dI) vwCl ([(h0, .inr (9, [.ref q7, .ref q15, .null, .int 0, .int 0])), (q7, .inl (g 0, 60, .inl (fun _ => 0))), (q15, .inl (g 0, 60, .inl (fun _ => 0))), (q23, .inl (g 0, 60, .inl (fun _ => 0)))]) H := hP
  have hD : va_D A ([(h0, .inr (9, [.ref q7, .ref q15, .null, .int 0, .int 0])), (q7, .inl (g 0, 60, .inl (fun _ => 0))), (q15, .inl (g 0, 60, .inl (fun _ => 0))), (q23, .inl (g 0, 60, .inl (fun _ => 0)))]) := hD
  refine W.widen (k := 3) (n := 180) (by omega) (by omega) ?_
  refine va_putF (D := (dC, dI)) (ci := 9) (v := .ref q23) (ty := .array (.int)) (C := "AlarmMatrix$Events") (T := T_Events) (N := 5) hx hb hts i_Events t_Events o_Events n_Events hown hK hP hD hS 0 rfl rfl 2 (by decide) (hts _ k1_112) (fun _ h9 => h9) rfl hnm rfl (by decide +kernel) rfl rfl (Nat.le_of_ble_eq_true rfl) d_Events_init_25 (fun H locs hP hD hS => ?_)
  have hP : va_P (dC, dI) vwCl ([(h0, .inr (9, [.ref q7, .ref q15, .ref q23, .int 0, .int 0])), (q7, .inl (g 0, 60, .inl (fun _ => 0))), (q15, .inl (g 0, 60, .inl (fun _ => 0))), (q23, .inl (g 0, 60, .inl (fun _ => 0)))]) H := hP
  have hD : va_D A ([(h0, .inr (9, [.ref q7, .ref q15, .ref q23, .int 0, .int 0])), (q7, .inl (g 0, 60, .inl (fun _ => 0))), (q15, .inl (g 0, 60, .inl (fun _ => 0))), (q23, .inl (g 0, 60, .inl (fun _ => 0)))]) := hD
  refine lv_aload_n hx hb d_Events_init_28 rfl (lv_at hl 0 rfl) ?_
  refine lv_iconst (v := (0 : Int32)) hx hb d_Events_init_29 (by decide) ?_
  refine va_put (D := (dC, dI)) (ci := 9) (v := .int (0 : Int32)) (ty := .int) (C := "AlarmMatrix$Events") (T := T_Events) (N := 5) hx hb hts i_Events t_Events o_Events n_Events hown hK hP hD hS 0 rfl rfl 3 (by decide) (hts _ k1_113) (fun _ h9 => h9) rfl (by decide +kernel) rfl rfl (Nat.le_of_ble_eq_true rfl) d_Events_init_30 (fun H locs hP hD hS => ?_)
  have hP : va_P (dC, dI) vwCl ([(h0, .inr (9, [.ref q7, .ref q15, .ref q23, .int (0 : Int32), .int 0])), (q7, .inl (g 0, 60, .inl (fun _ => 0))), (q15, .inl (g 0, 60, .inl (fun _ => 0))), (q23, .inl (g 0, 60, .inl (fun _ => 0)))]) H := hP
  have hD : va_D A ([(h0, .inr (9, [.ref q7, .ref q15, .ref q23, .int (0 : Int32), .int 0])), (q7, .inl (g 0, 60, .inl (fun _ => 0))), (q15, .inl (g 0, 60, .inl (fun _ => 0))), (q23, .inl (g 0, 60, .inl (fun _ => 0)))]) := hD
  refine lv_aload_n hx hb d_Events_init_33 rfl (lv_at hl 0 rfl) ?_
  refine lv_iconst (v := (0 : Int32)) hx hb d_Events_init_34 (by decide) ?_
  refine va_put (D := (dC, dI)) (ci := 9) (v := .int (0 : Int32)) (ty := .int) (C := "AlarmMatrix$Events") (T := T_Events) (N := 5) hx hb hts i_Events t_Events o_Events n_Events hown hK hP hD hS 0 rfl rfl 4 (by decide) (hts _ k1_114) (fun _ h9 => h9) rfl (by decide +kernel) rfl rfl (Nat.le_of_ble_eq_true rfl) d_Events_init_35 (fun H locs hP hD hS => ?_)
  have hP : va_P (dC, dI) vwCl ([(h0, .inr (9, [.ref q7, .ref q15, .ref q23, .int (0 : Int32), .int (0 : Int32)])), (q7, .inl (g 0, 60, .inl (fun _ => 0))), (q15, .inl (g 0, 60, .inl (fun _ => 0))), (q23, .inl (g 0, 60, .inl (fun _ => 0)))]) H := hP
  have hD : va_D A ([(h0, .inr (9, [.ref q7, .ref q15, .ref q23, .int (0 : Int32), .int (0 : Int32)])), (q7, .inl (g 0, 60, .inl (fun _ => 0))), (q15, .inl (g 0, 60, .inl (fun _ => 0))), (q23, .inl (g 0, 60, .inl (fun _ => 0)))]) := hD
  obtain ⟨u, hu⟩ : ∃ u : Nat → Nat → Nat, u = (fun j => bif Nat.beq j 0 then (fun k => ([q7, q15, q23, 0, 0] : List Nat).getD k 0) else (fun _ => 0)) := ⟨_, rfl⟩
  have hP9 : va_P (dC, dI) vwCl (wd_Events g h0 (u 0) z0) H := by rw [hu]; exact hP.sub [0, 1, 2, 3] rfl
  have hD9 : va_D A (wd_Events g h0 (u 0) z0) := by rw [hu]; exact hD.sub [0, 1, 2, 3] (by decide) rfl
  rw [hQ]
  exact krc u hx hb hr hlocks hAe hP9 hK hD9 hS d_Events_init_38
abbrev b_Zones_init : ByteArray := prog_10_method_1_code
abbrev y_Zones_init : MethodName := ⟨"AlarmMatrix$Zones", "<init>", "()V"⟩
theorem d_Zones_init_0 : decode b_Zones_init 0 = .ok (.aload_n 0, 1) := by decide +kernel
theorem d_Zones_init_1 : decode b_Zones_init 1 = .ok (.invokespecial 3, 3) := by decide +kernel
theorem d_Zones_init_4 : decode b_Zones_init 4 = .ok (.aload_n 0, 1) := by decide +kernel
theorem d_Zones_init_5 : decode b_Zones_init 5 = .ok (.bipush 20, 2) := by decide +kernel
theorem d_Zones_init_7 : decode b_Zones_init 7 = .ok (.newarray .int, 2) := by decide +kernel
theorem d_Zones_init_9 : decode b_Zones_init 9 = .ok (.putfield 9, 3) := by decide +kernel
theorem d_Zones_init_12 : decode b_Zones_init 12 = .ok (.aload_n 0, 1) := by decide +kernel
theorem d_Zones_init_13 : decode b_Zones_init 13 = .ok (.bipush 20, 2) := by decide +kernel
theorem d_Zones_init_15 : decode b_Zones_init 15 = .ok (.newarray .int, 2) := by decide +kernel
theorem d_Zones_init_17 : decode b_Zones_init 17 = .ok (.putfield 15, 3) := by decide +kernel
theorem d_Zones_init_20 : decode b_Zones_init 20 = .ok (.aload_n 0, 1) := by decide +kernel
theorem d_Zones_init_21 : decode b_Zones_init 21 = .ok (.sipush 240, 3) := by decide +kernel
theorem d_Zones_init_24 : decode b_Zones_init 24 = .ok (.newarray .int, 2) := by decide +kernel
theorem d_Zones_init_26 : decode b_Zones_init 26 = .ok (.putfield 18, 3) := by decide +kernel
theorem d_Zones_init_29 : decode b_Zones_init 29 = .ok (.aload_n 0, 1) := by decide +kernel
theorem d_Zones_init_30 : decode b_Zones_init 30 = .ok (.bipush 20, 2) := by decide +kernel
theorem d_Zones_init_32 : decode b_Zones_init 32 = .ok (.newarray .int, 2) := by decide +kernel
theorem d_Zones_init_34 : decode b_Zones_init 34 = .ok (.putfield 21, 3) := by decide +kernel
theorem d_Zones_init_37 : decode b_Zones_init 37 = .ok (.aload_n 0, 1) := by decide +kernel
theorem d_Zones_init_38 : decode b_Zones_init 38 = .ok (.bipush 20, 2) := by decide +kernel
theorem d_Zones_init_40 : decode b_Zones_init 40 = .ok (.newarray .int, 2) := by decide +kernel
theorem d_Zones_init_42 : decode b_Zones_init 42 = .ok (.putfield 24, 3) := by decide +kernel
theorem d_Zones_init_45 : decode b_Zones_init 45 = .ok (.return_, 1) := by decide +kernel
abbrev rm_Zones_init : Room := { frames := 1, cells := 5, slots := 320, locals := 12 }
set_option maxHeartbeats 4000000 in
set_option maxRecDepth 100000 in
theorem c_Zones_init {G : (Nat → Prop) → State → Prop} (hG : gok G) (hGn : gN G) (l : Launch) (dC : Nat → ClassId) (dI : Nat → Nat → Nat) (g : Nat → ClassId) (sz : Nat) (h0 : Nat)  : Met l y_Zones_init (.code y_Zones_init b_Zones_init 1 none :: gw) rm_Zones_init (kq (dC, dI) vwCl (tyv g) G [.ref h0] sz ([(h0, .inr (5, [.null, .null, .null, .null, .null]))])) (kqc (dC, dI) vwCl (tyv g) ([(h0, .inr (5, [.null, .null, .null, .null, .null]))]) (fun u => wd_Zones g h0 (u 0) z0) sz) 5 320 (va_A ([(h0, .inr (5, [.null, .null, .null, .null, .null]))]) sz) := by
  refine km (Qc := fun sz => kqc (dC, dI) vwCl (tyv g) ([(h0, .inr (5, [.null, .null, .null, .null, .null]))]) (fun u => wd_Zones g h0 (u 0) z0) sz) (cc := b_Zones_init) (maxL := 1) (ret := none) (by decide) rfl (Nat.le_of_ble_eq_true rfl) ?_
  intro p e s m args below meth c Q hQ hx hb hr hts hown hlocks hml hnm H locs A hAe hA hP hK hD hS hGA ls hl
  have hl : lv_has ls 1 [(0, .ref h0)] := hl
  have hts : ∀ w ∈ gw, w.before args s = true := fun w h => hts w (List.mem_cons_of_mem _ h)
  have hown : s.vm.findClass "AlarmMatrix$Zones" = some m.cls := hown
  refine lv_aload_n hx hb d_Zones_init_0 rfl (lv_at hl 0 rfl) ?_
  refine W.objInit hx hb hown (hts _ k1_137) (hts _ k1_29) (hts _ k1_30) rfl (by rw [hml]; exact hl.1) rfl d_Zones_init_1 (Nat.le_of_ble_eq_true rfl) (Nat.le_of_ble_eq_true rfl) ?_
  refine W.eq (g2 := F0 m 4 ls []) rfl ?_
  refine lv_aload_n hx hb d_Zones_init_4 rfl (lv_at hl 0 rfl) ?_
  refine lv_bipush (v := (20 : Int32)) hx hb d_Zones_init_5 (by decide) ?_
  refine va_newa (atype := .int) (ty := .int) (a0 := (20, .inl (fun _ => 0))) hx hb (hts _ k1_79) rfl hK hP hD hS hA (fun cA => rfl) (by decide) (by decide) (by decide) (Nat.le_of_ble_eq_true rfl) (Nat.le_of_ble_eq_true rfl) d_Zones_init_7 (fun q7 cA H hK hP hD hS => ?_)
  obtain rfl := ty_one hK (i := 0) (j := 5) rfl rfl
  have hK := hK.sub (tys' := tyv g) [0, 1, 2, 3, 4] rfl
  have hP : va_P (dC, dI) vwCl ([(h0, .inr (5, [.null, .null, .null, .null, .null])), (q7, .inl (g 0, 20, .inl (fun _ => 0)))]) H := hP
  have hD : va_D A ([(h0, .inr (5, [.null, .null, .null, .null, .null])), (q7, .inl (g 0, 20, .inl (fun _ => 0)))]) := hD
  refine W.widen (k := 1) (n := 20) (by omega) (by omega) ?_
  refine va_putF (D := (dC, dI)) (ci := 5) (v := .ref q7) (ty := .array (.int)) (C := "AlarmMatrix$Zones") (T := T_Zones) (N := 5) hx hb hts i_Zones t_Zones o_Zones n_Zones hown hK hP hD hS 0 rfl rfl 0 (by decide) (hts _ k1_138) (fun _ h9 => h9) rfl hnm rfl (by decide +kernel) rfl rfl (Nat.le_of_ble_eq_true rfl) d_Zones_init_9 (fun H locs hP hD hS => ?_)
  have hP : va_P (dC, dI) vwCl ([(h0, .inr (5, [.ref q7, .null, .null, .null, .null])), (q7, .inl (g 0, 20, .inl (fun _ => 0)))]) H := hP
  have hD : va_D A ([(h0, .inr (5, [.ref q7, .null, .null, .null, .null])), (q7, .inl (g 0, 20, .inl (fun _ => 0)))]) := hD
  refine lv_aload_n hx hb d_Zones_init_12 rfl (lv_at hl 0 rfl) ?_
  refine lv_bipush (v := (20 : Int32)) hx hb d_Zones_init_13 (by decide) ?_
  refine va_newa (atype := .int) (ty := .int) (a0 := (20, .inl (fun _ => 0))) hx hb (hts _ k1_79) rfl hK hP hD hS hA (fun cA => rfl) (by decide) (by decide) (by decide) (Nat.le_of_ble_eq_true rfl) (Nat.le_of_ble_eq_true rfl) d_Zones_init_15 (fun q15 cA H hK hP hD hS => ?_)
  obtain rfl := ty_one hK (i := 0) (j := 5) rfl rfl
  have hK := hK.sub (tys' := tyv g) [0, 1, 2, 3, 4] rfl
  have hP : va_P (dC, dI) vwCl ([(h0, .inr (5, [.ref q7, .null, .null, .null, .null])), (q7, .inl (g 0, 20, .inl (fun _ => 0))), (q15, .inl (g 0, 20, .inl (fun _ => 0)))]) H := hP
  have hD : va_D A ([(h0, .inr (5, [.ref q7, .null, .null, .null, .null])), (q7, .inl (g 0, 20, .inl (fun _ => 0))), (q15, .inl (g 0, 20, .inl (fun _ => 0)))]) := hD
  refine W.widen (k := 2) (n := 40) (by omega) (by omega) ?_
  refine va_putF (D := (dC, dI)) (ci := 5) (v := .ref q15) (ty := .array (.int)) (C := "AlarmMatrix$Zones") (T := T_Zones) (N := 5) hx hb hts i_Zones t_Zones o_Zones n_Zones hown hK hP hD hS 0 rfl rfl 1 (by decide) (hts _ k1_139) (fun _ h9 => h9) rfl hnm rfl (by decide +kernel) rfl rfl (Nat.le_of_ble_eq_true rfl) d_Zones_init_17 (fun H locs hP hD hS => ?_)
  have hP : va_P (dC, dI) vwCl ([(h0, .inr (5, [.ref q7, .ref q15, .null, .null, .null])), (q7, .inl (g 0, 20, .inl (fun _ => 0))), (q15, .inl (g 0, 20, .inl (fun _ => 0)))]) H := hP
  have hD : va_D A ([(h0, .inr (5, [.ref q7, .ref q15, .null, .null, .null])), (q7, .inl (g 0, 20, .inl (fun _ => 0))), (q15, .inl (g 0, 20, .inl (fun _ => 0)))]) := hD
  refine lv_aload_n hx hb d_Zones_init_20 rfl (lv_at hl 0 rfl) ?_
  refine lv_sipush (v := (240 : Int32)) hx hb d_Zones_init_21 (by decide) ?_
  refine va_newa (atype := .int) (ty := .int) (a0 := (240, .inl (fun _ => 0))) hx hb (hts _ k1_79) rfl hK hP hD hS hA (fun cA => rfl) (by decide) (by decide) (by decide) (Nat.le_of_ble_eq_true rfl) (Nat.le_of_ble_eq_true rfl) d_Zones_init_24 (fun q24 cA H hK hP hD hS => ?_)
  obtain rfl := ty_one hK (i := 0) (j := 5) rfl rfl
  have hK := hK.sub (tys' := tyv g) [0, 1, 2, 3, 4] rfl
  have hP : va_P (dC, dI) vwCl ([(h0, .inr (5, [.ref q7, .ref q15, .null, .null, .null])), (q7, .inl (g 0, 20, .inl (fun _ => 0))), (q15, .inl (g 0, 20, .inl (fun _ => 0))), (q24, .inl (g 0, 240, .inl (fun _ => 0)))]) H := hP
  have hD : va_D A ([(h0, .inr (5, [.ref q7, .ref q15, .null, .null, .null])), (q7, .inl (g 0, 20, .inl (fun _ => 0))), (q15, .inl (g 0, 20, .inl (fun _ => 0))), (q24, .inl (g 0, 240, .inl (fun _ => 0)))]) := hD
  refine W.widen (k := 3) (n := 280) (by omega) (by omega) ?_
  refine va_putF (D := (dC, dI)) (ci := 5) (v := .ref q24) (ty := .array (.int)) (C := "AlarmMatrix$Zones") (T := T_Zones) (N := 5) hx hb hts i_Zones t_Zones o_Zones n_Zones hown hK hP hD hS 0 rfl rfl 2 (by decide) (hts _ k1_140) (fun _ h9 => h9) rfl hnm rfl (by decide +kernel) rfl rfl (Nat.le_of_ble_eq_true rfl) d_Zones_init_26 (fun H locs hP hD hS => ?_)
  have hP : va_P (dC, dI) vwCl ([(h0, .inr (5, [.ref q7, .ref q15, .ref q24, .null, .null])), (q7, .inl (g 0, 20, .inl (fun _ => 0))), (q15, .inl (g 0, 20, .inl (fun _ => 0))), (q24, .inl (g 0, 240, .inl (fun _ => 0)))]) H := hP
  have hD : va_D A ([(h0, .inr (5, [.ref q7, .ref q15, .ref q24, .null, .null])), (q7, .inl (g 0, 20, .inl (fun _ => 0))), (q15, .inl (g 0, 20, .inl (fun _ => 0))), (q24, .inl (g 0, 240, .inl (fun _ => 0)))]) := hD
  refine lv_aload_n hx hb d_Zones_init_29 rfl (lv_at hl 0 rfl) ?_
  refine lv_bipush (v := (20 : Int32)) hx hb d_Zones_init_30 (by decide) ?_
  refine va_newa (atype := .int) (ty := .int) (a0 := (20, .inl (fun _ => 0))) hx hb (hts _ k1_79) rfl hK hP hD hS hA (fun cA => rfl) (by decide) (by decide) (by decide) (Nat.le_of_ble_eq_true rfl) (Nat.le_of_ble_eq_true rfl) d_Zones_init_32 (fun q32 cA H hK hP hD hS => ?_)
  obtain rfl := ty_one hK (i := 0) (j := 5) rfl rfl
  have hK := hK.sub (tys' := tyv g) [0, 1, 2, 3, 4] rfl
  have hP : va_P (dC, dI) vwCl ([(h0, .inr (5, [.ref q7, .ref q15, .ref q24, .null, .null])), (q7, .inl (g 0, 20, .inl (fun _ => 0))), (q15, .inl (g 0, 20, .inl (fun _ => 0))), (q24, .inl (g 0, 240, .inl (fun _ => 0))), (q32, .inl (g 0, 20, .inl (fun _ => 0)))]) H := hP
  have hD : va_D A ([(h0, .inr (5, [.ref q7, .ref q15, .ref q24, .null, .null])), (q7, .inl (g 0, 20, .inl (fun _ => 0))), (q15, .inl (g 0, 20, .inl (fun _ => 0))), (q24, .inl (g 0, 240, .inl (fun _ => 0))), (q32, .inl (g 0, 20, .inl (fun _ => 0)))]) := hD
  refine W.widen (k := 4) (n := 300) (by omega) (by omega) ?_
  refine va_putF (D := (dC, dI)) (ci := 5) (v := .ref q32) (ty := .array (.int)) (C := "AlarmMatrix$Zones") (T := T_Zones) (N := 5) hx hb hts i_Zones t_Zones o_Zones n_Zones hown hK hP hD hS 0 rfl rfl 3 (by decide) (hts _ k1_141) (fun _ h9 => h9) rfl hnm rfl (by decide +kernel) rfl rfl (Nat.le_of_ble_eq_true rfl) d_Zones_init_34 (fun H locs hP hD hS => ?_)
  have hP : va_P (dC, dI) vwCl ([(h0, .inr (5, [.ref q7, .ref q15, .ref q24, .ref q32, .null])), (q7, .inl (g 0, 20, .inl (fun _ => 0))), (q15, .inl (g 0, 20, .inl (fun _ => 0))), (q24, .inl (g 0, 240, .inl (fun _ => 0))), (q32, .inl (g 0, 20, .inl (fun _ => 0)))]) H := hP
  have hD : va_D A ([(h0, .inr (5, [.ref q7, .ref q15, .ref q24, .ref q32, .null])), (q7, .inl (g 0, 20, .inl (fun _ => 0))), (q15, .inl (g 0, 20, .inl (fun _ => 0))), (q24, .inl (g 0, 240, .inl (fun _ => 0))), (q32, .inl (g 0, 20, .inl (fun _ => 0)))]) := hD
  refine lv_aload_n hx hb d_Zones_init_37 rfl (lv_at hl 0 rfl) ?_
  refine lv_bipush (v := (20 : Int32)) hx hb d_Zones_init_38 (by decide) ?_
  refine va_newa (atype := .int) (ty := .int) (a0 := (20, .inl (fun _ => 0))) hx hb (hts _ k1_79) rfl hK hP hD hS hA (fun cA => rfl) (by decide) (by decide) (by decide) (Nat.le_of_ble_eq_true rfl) (Nat.le_of_ble_eq_true rfl) d_Zones_init_40 (fun q40 cA H hK hP hD hS => ?_)
  obtain rfl := ty_one hK (i := 0) (j := 5) rfl rfl
  have hK := hK.sub (tys' := tyv g) [0, 1, 2, 3, 4] rfl
  have hP : va_P (dC, dI) vwCl ([(h0, .inr (5, [.ref q7, .ref q15, .ref q24, .ref q32, .null])), (q7, .inl (g 0, 20, .inl (fun _ => 0))), (q15, .inl (g 0, 20, .inl (fun _ => 0))), (q24, .inl (g 0, 240, .inl (fun _ => 0))), (q32, .inl (g 0, 20, .inl (fun _ => 0))), (q40, .inl (g 0, 20, .inl (fun _ => 0)))]) H := hP
  have hD : va_D A ([(h0, .inr (5, [.ref q7, .ref q15, .ref q24, .ref q32, .null])), (q7, .inl (g 0, 20, .inl (fun _ => 0))), (q15, .inl (g 0, 20, .inl (fun _ => 0))), (q24, .inl (g 0, 240, .inl (fun _ => 0))), (q32, .inl (g 0, 20, .inl (fun _ => 0))), (q40, .inl (g 0, 20, .inl (fun _ => 0)))]) := hD
  refine W.widen (k := 5) (n := 320) (by omega) (by omega) ?_
  refine va_putF (D := (dC, dI)) (ci := 5) (v := .ref q40) (ty := .array (.int)) (C := "AlarmMatrix$Zones") (T := T_Zones) (N := 5) hx hb hts i_Zones t_Zones o_Zones n_Zones hown hK hP hD hS 0 rfl rfl 4 (by decide) (hts _ k1_142) (fun _ h9 => h9) rfl hnm rfl (by decide +kernel) rfl rfl (Nat.le_of_ble_eq_true rfl) d_Zones_init_42 (fun H locs hP hD hS => ?_)
  have hP : va_P (dC, dI) vwCl ([(h0, .inr (5, [.ref q7, .ref q15, .ref q24, .ref q32, .ref q40])), (q7, .inl (g 0, 20, .inl (fun _ => 0))), (q15, .inl (g 0, 20, .inl (fun _ => 0))), (q24, .inl (g 0, 240, .inl (fun _ => 0))), (q32, .inl (g 0, 20, .inl (fun _ => 0))), (q40, .inl (g 0, 20, .inl (fun _ => 0)))]) H := hP
  have hD : va_D A ([(h0, .inr (5, [.ref q7, .ref q15, .ref q24, .ref q32, .ref q40])), (q7, .inl (g 0, 20, .inl (fun _ => 0))), (q15, .inl (g 0, 20, .inl (fun _ => 0))), (q24, .inl (g 0, 240, .inl (fun _ => 0))), (q32, .inl (g 0, 20, .inl (fun _ => 0))), (q40, .inl (g 0, 20, .inl (fun _ => 0)))]) := hD
  obtain ⟨u, hu⟩ : ∃ u : Nat → Nat → Nat, u = (fun j => bif Nat.beq j 0 then (fun k => ([q7, q15, q24, q32, q40] : List Nat).getD k 0) else (fun _ => 0)) := ⟨_, rfl⟩
  have hP9 : va_P (dC, dI) vwCl (wd_Zones g h0 (u 0) z0) H := by rw [hu]; exact hP.sub [0, 1, 2, 3, 4, 5] rfl
  have hD9 : va_D A (wd_Zones g h0 (u 0) z0) := by rw [hu]; exact hD.sub [0, 1, 2, 3, 4, 5] (by decide) rfl
  rw [hQ]
  exact krc u hx hb hr hlocks hAe hP9 hK hD9 hS d_Zones_init_45
abbrev b_Acts_init : ByteArray := prog_2_method_1_code
abbrev y_Acts_init : MethodName := ⟨"AlarmMatrix$Acts", "<init>", "()V"⟩
theorem d_Acts_init_0 : decode b_Acts_init 0 = .ok (.aload_n 0, 1) := by decide +kernel
theorem d_Acts_init_1 : decode b_Acts_init 1 = .ok (.invokespecial 3, 3) := by decide +kernel
theorem d_Acts_init_4 : decode b_Acts_init 4 = .ok (.aload_n 0, 1) := by decide +kernel
theorem d_Acts_init_5 : decode b_Acts_init 5 = .ok (.bipush 20, 2) := by decide +kernel
theorem d_Acts_init_7 : decode b_Acts_init 7 = .ok (.newarray .int, 2) := by decide +kernel
theorem d_Acts_init_9 : decode b_Acts_init 9 = .ok (.putfield 9, 3) := by decide +kernel
theorem d_Acts_init_12 : decode b_Acts_init 12 = .ok (.aload_n 0, 1) := by decide +kernel
theorem d_Acts_init_13 : decode b_Acts_init 13 = .ok (.bipush 20, 2) := by decide +kernel
theorem d_Acts_init_15 : decode b_Acts_init 15 = .ok (.newarray .int, 2) := by decide +kernel
theorem d_Acts_init_17 : decode b_Acts_init 17 = .ok (.putfield 15, 3) := by decide +kernel
theorem d_Acts_init_20 : decode b_Acts_init 20 = .ok (.aload_n 0, 1) := by decide +kernel
theorem d_Acts_init_21 : decode b_Acts_init 21 = .ok (.bipush 20, 2) := by decide +kernel
theorem d_Acts_init_23 : decode b_Acts_init 23 = .ok (.newarray .int, 2) := by decide +kernel
theorem d_Acts_init_25 : decode b_Acts_init 25 = .ok (.putfield 18, 3) := by decide +kernel
theorem d_Acts_init_28 : decode b_Acts_init 28 = .ok (.aload_n 0, 1) := by decide +kernel
theorem d_Acts_init_29 : decode b_Acts_init 29 = .ok (.bipush 20, 2) := by decide +kernel
theorem d_Acts_init_31 : decode b_Acts_init 31 = .ok (.newarray .boolean, 2) := by decide +kernel
theorem d_Acts_init_33 : decode b_Acts_init 33 = .ok (.putfield 21, 3) := by decide +kernel
theorem d_Acts_init_36 : decode b_Acts_init 36 = .ok (.aload_n 0, 1) := by decide +kernel
theorem d_Acts_init_37 : decode b_Acts_init 37 = .ok (.bipush 20, 2) := by decide +kernel
theorem d_Acts_init_39 : decode b_Acts_init 39 = .ok (.newarray .boolean, 2) := by decide +kernel
theorem d_Acts_init_41 : decode b_Acts_init 41 = .ok (.putfield 25, 3) := by decide +kernel
theorem d_Acts_init_44 : decode b_Acts_init 44 = .ok (.aload_n 0, 1) := by decide +kernel
theorem d_Acts_init_45 : decode b_Acts_init 45 = .ok (.bipush 20, 2) := by decide +kernel
theorem d_Acts_init_47 : decode b_Acts_init 47 = .ok (.newarray .int, 2) := by decide +kernel
theorem d_Acts_init_49 : decode b_Acts_init 49 = .ok (.putfield 28, 3) := by decide +kernel
theorem d_Acts_init_52 : decode b_Acts_init 52 = .ok (.aload_n 0, 1) := by decide +kernel
theorem d_Acts_init_53 : decode b_Acts_init 53 = .ok (.iconst 0, 1) := by decide +kernel
theorem d_Acts_init_54 : decode b_Acts_init 54 = .ok (.putfield 31, 3) := by decide +kernel
theorem d_Acts_init_57 : decode b_Acts_init 57 = .ok (.aload_n 0, 1) := by decide +kernel
theorem d_Acts_init_58 : decode b_Acts_init 58 = .ok (.bipush 20, 2) := by decide +kernel
theorem d_Acts_init_60 : decode b_Acts_init 60 = .ok (.newarray .int, 2) := by decide +kernel
theorem d_Acts_init_62 : decode b_Acts_init 62 = .ok (.putfield 35, 3) := by decide +kernel
theorem d_Acts_init_65 : decode b_Acts_init 65 = .ok (.aload_n 0, 1) := by decide +kernel
theorem d_Acts_init_66 : decode b_Acts_init 66 = .ok (.bipush 20, 2) := by decide +kernel
theorem d_Acts_init_68 : decode b_Acts_init 68 = .ok (.newarray .int, 2) := by decide +kernel
theorem d_Acts_init_70 : decode b_Acts_init 70 = .ok (.putfield 38, 3) := by decide +kernel
theorem d_Acts_init_73 : decode b_Acts_init 73 = .ok (.aload_n 0, 1) := by decide +kernel
theorem d_Acts_init_74 : decode b_Acts_init 74 = .ok (.bipush 20, 2) := by decide +kernel
theorem d_Acts_init_76 : decode b_Acts_init 76 = .ok (.newarray .boolean, 2) := by decide +kernel
theorem d_Acts_init_78 : decode b_Acts_init 78 = .ok (.putfield 41, 3) := by decide +kernel
theorem d_Acts_init_81 : decode b_Acts_init 81 = .ok (.aload_n 0, 1) := by decide +kernel
theorem d_Acts_init_82 : decode b_Acts_init 82 = .ok (.bipush 20, 2) := by decide +kernel
theorem d_Acts_init_84 : decode b_Acts_init 84 = .ok (.newarray .boolean, 2) := by decide +kernel
theorem d_Acts_init_86 : decode b_Acts_init 86 = .ok (.putfield 44, 3) := by decide +kernel
theorem d_Acts_init_89 : decode b_Acts_init 89 = .ok (.aload_n 0, 1) := by decide +kernel
theorem d_Acts_init_90 : decode b_Acts_init 90 = .ok (.bipush 20, 2) := by decide +kernel
theorem d_Acts_init_92 : decode b_Acts_init 92 = .ok (.newarray .boolean, 2) := by decide +kernel
theorem d_Acts_init_94 : decode b_Acts_init 94 = .ok (.putfield 47, 3) := by decide +kernel
theorem d_Acts_init_97 : decode b_Acts_init 97 = .ok (.aload_n 0, 1) := by decide +kernel
theorem d_Acts_init_98 : decode b_Acts_init 98 = .ok (.bipush 20, 2) := by decide +kernel
theorem d_Acts_init_100 : decode b_Acts_init 100 = .ok (.newarray .boolean, 2) := by decide +kernel
theorem d_Acts_init_102 : decode b_Acts_init 102 = .ok (.putfield 50, 3) := by decide +kernel
theorem d_Acts_init_105 : decode b_Acts_init 105 = .ok (.return_, 1) := by decide +kernel
abbrev rm_Acts_init : Room := { frames := 1, cells := 12, slots := 240, locals := 12 }
set_option maxHeartbeats 4000000 in
set_option maxRecDepth 100000 in
theorem c_Acts_init {G : (Nat → Prop) → State → Prop} (hG : gok G) (hGn : gN G) (l : Launch) (dC : Nat → ClassId) (dI : Nat → Nat → Nat) (g : Nat → ClassId) (sz : Nat) (h0 : Nat)  : Met l y_Acts_init (.code y_Acts_init b_Acts_init 1 none :: gw) rm_Acts_init (kq (dC, dI) vwCl (tyv g) G [.ref h0] sz ([(h0, .inr (6, [.null, .null, .null, .null, .null, .null, .int 0, .null, .null, .null, .null, .null, .null]))])) (kqc (dC, dI) vwCl (tyv g) ([(h0, .inr (6, [.null, .null, .null, .null, .null, .null, .int 0, .null, .null, .null, .null, .null, .null]))]) (fun u => wd_Acts g h0 (u 0) z0) sz) 12 240 (va_A ([(h0, .inr (6, [.null, .null, .null, .null, .null, .null, .int 0, .null, .null, .null, .null, .null, .null]))]) sz) := by
  refine km (Qc := fun sz => kqc (dC, dI) vwCl (tyv g) ([(h0, .inr (6, [.null, .null, .null, .null, .null, .null, .int 0, .null, .null, .null, .null, .null, .null]))]) (fun u => wd_Acts g h0 (u 0) z0) sz) (cc := b_Acts_init) (maxL := 1) (ret := none) (by decide) rfl (Nat.le_of_ble_eq_true rfl) ?_
  intro p e s m args below meth c Q hQ hx hb hr hts hown hlocks hml hnm H locs A hAe hA hP hK hD hS hGA ls hl
  have hl : lv_has ls 1 [(0, .ref h0)] := hl
  have hts : ∀ w ∈ gw, w.before args s = true := fun w h => hts w (List.mem_cons_of_mem _ h)
  have hown : s.vm.findClass "AlarmMatrix$Acts" = some m.cls := hown
  refine lv_aload_n hx hb d_Acts_init_0 rfl (lv_at hl 0 rfl) ?_
  refine W.objInit hx hb hown (hts _ k1_159) (hts _ k1_29) (hts _ k1_30) rfl (by rw [hml]; exact hl.1) rfl d_Acts_init_1 (Nat.le_of_ble_eq_true rfl) (Nat.le_of_ble_eq_true rfl) ?_
  refine W.eq (g2 := F0 m 4 ls []) rfl ?_
  refine lv_aload_n hx hb d_Acts_init_4 rfl (lv_at hl 0 rfl) ?_
  refine lv_bipush (v := (20 : Int32)) hx hb d_Acts_init_5 (by decide) ?_
  refine va_newa (atype := .int) (ty := .int) (a0 := (20, .inl (fun _ => 0))) hx hb (hts _ k1_79) rfl hK hP hD hS hA (fun cA => rfl) (by decide) (by decide) (by decide) (Nat.le_of_ble_eq_true rfl) (Nat.le_of_ble_eq_true rfl) d_Acts_init_7 (fun q7 cA H hK hP hD hS => ?_)
  obtain rfl := ty_one hK (i := 0) (j := 5) rfl rfl
  have hK := hK.sub (tys' := tyv g) [0, 1, 2, 3, 4] rfl
  have hP : va_P (dC, dI) vwCl ([(h0, .inr (6, [.null, .null, .null, .null, .null, .null, .int 0, .null, .null, .null, .null, .null, .null])), (q7, .inl (g 0, 20, .inl (fun _ => 0)))]) H := hP
  have hD : va_D A ([(h0, .inr (6, [.null, .null, .null, .null, .null, .null, .int 0, .null, .null, .null, .null, .null, .null])), (q7, .inl (g 0, 20, .inl (fun _ => 0)))]) := hD
  refine W.widen (k := 1) (n := 20) (by omega) (by omega) ?_
  refine va_putF (D := (dC, dI)) (ci := 6) (v := .ref q7) (ty := .array (.int)) (C := "AlarmMatrix$Acts") (T := T_Acts) (N := 13) hx hb hts i_Acts t_Acts o_Acts n_Acts hown hK hP hD hS 0 rfl rfl 0 (by decide) (hts _ k1_160) (fun _ h9 => h9) rfl hnm rfl (by decide +kernel) rfl rfl (Nat.le_of_ble_eq_true rfl) d_Acts_init_9 (fun H locs hP hD hS => ?_)
  have hP : va_P (dC, dI) vwCl ([(h0, .inr (6, [.ref q7, .null, .null, .null, .null, .null, .int 0, .null, .null, .null, .null, .null, .null])), (q7, .inl (g 0, 20, .inl (fun _ => 0)))]) H := hP
  have hD : va_D A ([(h0, .inr (6, [.ref q7, .null, .null, .null, .null, .null, .int 0, .null, .null, .null, .null, .null, .null])), (q7, .inl (g 0, 20, .inl (fun _ => 0)))]) := hD
  refine lv_aload_n hx hb d_Acts_init_12 rfl (lv_at hl 0 rfl) ?_
  refine lv_bipush (v := (20 : Int32)) hx hb d_Acts_init_13 (by decide) ?_
  refine va_newa (atype := .int) (ty := .int) (a0 := (20, .inl (fun _ => 0))) hx hb (hts _ k1_79) rfl hK hP hD hS hA (fun cA => rfl) (by decide) (by decide) (by decide) (Nat.le_of_ble_eq_true rfl) (Nat.le_of_ble_eq_true rfl) d_Acts_init_15 (fun q15 cA H hK hP hD hS => ?_)
  obtain rfl := ty_one hK (i := 0) (j := 5) rfl rfl
  have hK := hK.sub (tys' := tyv g) [0, 1, 2, 3, 4] rfl
  have hP : va_P (dC, dI) vwCl ([(h0, .inr (6, [.ref q7, .null, .null, .null, .null, .null, .int 0, .null, .null, .null, .null, .null, .null])), (q7, .inl (g 0, 20, .inl (fun _ => 0))), (q15, .inl (g 0, 20, .inl (fun _ => 0)))]) H := hP
  have hD : va_D A ([(h0, .inr (6, [.ref q7, .null, .null, .null, .null, .null, .int 0, .null, .null, .null, .null, .null, .null])), (q7, .inl (g 0, 20, .inl (fun _ => 0))), (q15, .inl (g 0, 20, .inl (fun _ => 0)))]) := hD
  refine W.widen (k := 2) (n := 40) (by omega) (by omega) ?_
  refine va_putF (D := (dC, dI)) (ci := 6) (v := .ref q15) (ty := .array (.int)) (C := "AlarmMatrix$Acts") (T := T_Acts) (N := 13) hx hb hts i_Acts t_Acts o_Acts n_Acts hown hK hP hD hS 0 rfl rfl 1 (by decide) (hts _ k1_161) (fun _ h9 => h9) rfl hnm rfl (by decide +kernel) rfl rfl (Nat.le_of_ble_eq_true rfl) d_Acts_init_17 (fun H locs hP hD hS => ?_)
  have hP : va_P (dC, dI) vwCl ([(h0, .inr (6, [.ref q7, .ref q15, .null, .null, .null, .null, .int 0, .null, .null, .null, .null, .null, .null])), (q7, .inl (g 0, 20, .inl (fun _ => 0))), (q15, .inl (g 0, 20, .inl (fun _ => 0)))]) H := hP
  have hD : va_D A ([(h0, .inr (6, [.ref q7, .ref q15, .null, .null, .null, .null, .int 0, .null, .null, .null, .null, .null, .null])), (q7, .inl (g 0, 20, .inl (fun _ => 0))), (q15, .inl (g 0, 20, .inl (fun _ => 0)))]) := hD
  refine lv_aload_n hx hb d_Acts_init_20 rfl (lv_at hl 0 rfl) ?_
  refine lv_bipush (v := (20 : Int32)) hx hb d_Acts_init_21 (by decide) ?_
  refine va_newa (atype := .int) (ty := .int) (a0 := (20, .inl (fun _ => 0))) hx hb (hts _ k1_79) rfl hK hP hD hS hA (fun cA => rfl) (by decide) (by decide) (by decide) (Nat.le_of_ble_eq_true rfl) (Nat.le_of_ble_eq_true rfl) d_Acts_init_23 (fun q23 cA H hK hP hD hS => ?_)
  obtain rfl := ty_one hK (i := 0) (j := 5) rfl rfl
  have hK := hK.sub (tys' := tyv g) [0, 1, 2, 3, 4] rfl
  have hP : va_P (dC, dI) vwCl ([(h0, .inr (6, [.ref q7, .ref q15, .null, .null, .null, .null, .int 0, .null, .null, .null, .null, .null, .null])), (q7, .inl (g 0, 20, .inl (fun _ => 0))), (q15, .inl (g 0, 20, .inl (fun _ => 0))), (q23, .inl (g 0, 20, .inl (fun _ => 0)))]) H := hP
  have hD : va_D A ([(h0, .inr (6, [.ref q7, .ref q15, .null, .null, .null, .null, .int 0, .null, .null, .null, .null, .null, .null])), (q7, .inl (g 0, 20, .inl (fun _ => 0))), (q15, .inl (g 0, 20, .inl (fun _ => 0))), (q23, .inl (g 0, 20, .inl (fun _ => 0)))]) := hD
  refine W.widen (k := 3) (n := 60) (by omega) (by omega) ?_
  refine va_putF (D := (dC, dI)) (ci := 6) (v := .ref q23) (ty := .array (.int)) (C := "AlarmMatrix$Acts") (T := T_Acts) (N := 13) hx hb hts i_Acts t_Acts o_Acts n_Acts hown hK hP hD hS 0 rfl rfl 2 (by decide) (hts _ k1_162) (fun _ h9 => h9) rfl hnm rfl (by decide +kernel) rfl rfl (Nat.le_of_ble_eq_true rfl) d_Acts_init_25 (fun H locs hP hD hS => ?_)
  have hP : va_P (dC, dI) vwCl ([(h0, .inr (6, [.ref q7, .ref q15, .ref q23, .null, .null, .null, .int 0, .null, .null, .null, .null, .null, .null])), (q7, .inl (g 0, 20, .inl (fun _ => 0))), (q15, .inl (g 0, 20, .inl (fun _ => 0))), (q23, .inl (g 0, 20, .inl (fun _ => 0)))]) H := hP
  have hD : va_D A ([(h0, .inr (6, [.ref q7, .ref q15, .ref q23, .null, .null, .null, .int 0, .null, .null, .null, .null, .null, .null])), (q7, .inl (g 0, 20, .inl (fun _ => 0))), (q15, .inl (g 0, 20, .inl (fun _ => 0))), (q23, .inl (g 0, 20, .inl (fun _ => 0)))]) := hD
  refine lv_aload_n hx hb d_Acts_init_28 rfl (lv_at hl 0 rfl) ?_
  refine lv_bipush (v := (20 : Int32)) hx hb d_Acts_init_29 (by decide) ?_
  refine va_newa (atype := .boolean) (ty := .boolean) (a0 := (20, .inl (fun _ => 0))) hx hb (hts _ k1_80) rfl hK hP hD hS hA (fun cA => rfl) (by decide) (by decide) (by decide) (Nat.le_of_ble_eq_true rfl) (Nat.le_of_ble_eq_true rfl) d_Acts_init_31 (fun q31 cA H hK hP hD hS => ?_)
  obtain rfl := ty_one hK (i := 1) (j := 5) rfl rfl
  have hK := hK.sub (tys' := tyv g) [0, 1, 2, 3, 4] rfl
  have hP : va_P (dC, dI) vwCl ([(h0, .inr (6, [.ref q7, .ref q15, .ref q23, .null, .null, .null, .int 0, .null, .null, .null, .null, .null, .null])), (q7, .inl (g 0, 20, .inl (fun _ => 0))), (q15, .inl (g 0, 20, .inl (fun _ => 0))), (q23, .inl (g 0, 20, .inl (fun _ => 0))), (q31, .inl (g 1, 20, .inl (fun _ => 0)))]) H := hP
  have hD : va_D A ([(h0, .inr (6, [.ref q7, .ref q15, .ref q23, .null, .null, .null, .int 0, .null, .null, .null, .null, .null, .null])), (q7, .inl (g 0, 20, .inl (fun _ => 0))), (q15, .inl (g 0, 20, .inl (fun _ => 0))), (q23, .inl (g 0, 20, .inl (fun _ => 0))), (q31, .inl (g 1, 20, .inl (fun _ => 0)))]) := hD
  refine W.widen (k := 4) (n := 80) (by omega) (by omega) ?_
  refine va_putF (D := (dC, dI)) (ci := 6) (v := .ref q31) (ty := .array (.boolean)) (C := "AlarmMatrix$Acts") (T := T_Acts) (N := 13) hx hb hts i_Acts t_Acts o_Acts n_Acts hown hK hP hD hS 0 rfl rfl 3 (by decide) (hts _ k1_163) (fun _ h9 => h9) rfl hnm rfl (by decide +kernel) rfl rfl (Nat.le_of_ble_eq_true rfl) d_Acts_init_33 (fun H locs hP hD hS => ?_)
  have hP : va_P (dC, dI) vwCl ([(h0, .inr (6, [.ref q7, .ref q15, .ref q23, .ref q31, .null, .null, .int 0, .null, .null, .null, .null, .null, .null])), (q7, .inl (g 0, 20, .inl (fun _ => 0))), (q15, .inl (g 0, 20, .inl (fun _ => 0))), (q23, .inl (g 0, 20, .inl (fun _ => 0))), (q31, .inl (g 1, 20, .inl (fun _ => 0)))]) H := hP
  have hD : va_D A ([(h0, .inr (6, [.ref q7, .ref q15, .ref q23, .ref q31, .null, .null, .int 0, .null, .null, .null, .null, .null, .null])), (q7, .inl (g 0, 20, .inl (fun _ => 0))), (q15, .inl (g 0, 20, .inl (fun _ => 0))), (q23, .inl (g 0, 20, .inl (fun _ => 0))), (q31, .inl (g 1, 20, .inl (fun _ => 0)))]) := hD
  refine lv_aload_n hx hb d_Acts_init_36 rfl (lv_at hl 0 rfl) ?_
  refine lv_bipush (v := (20 : Int32)) hx hb d_Acts_init_37 (by decide) ?_
  refine va_newa (atype := .boolean) (ty := .boolean) (a0 := (20, .inl (fun _ => 0))) hx hb (hts _ k1_80) rfl hK hP hD hS hA (fun cA => rfl) (by decide) (by decide) (by decide) (Nat.le_of_ble_eq_true rfl) (Nat.le_of_ble_eq_true rfl) d_Acts_init_39 (fun q39 cA H hK hP hD hS => ?_)
  obtain rfl := ty_one hK (i := 1) (j := 5) rfl rfl
  have hK := hK.sub (tys' := tyv g) [0, 1, 2, 3, 4] rfl
  have hP : va_P (dC, dI) vwCl ([(h0, .inr (6, [.ref q7, .ref q15, .ref q23, .ref q31, .null, .null, .int 0, .null, .null, .null, .null, .null, .null])), (q7, .inl (g 0, 20, .inl (fun _ => 0))), (q15, .inl (g 0, 20, .inl (fun _ => 0))), (q23, .inl (g 0, 20, .inl (fun _ => 0))), (q31, .inl (g 1, 20, .inl (fun _ => 0))), (q39, .inl (g 1, 20, .inl (fun _ => 0)))]) H := hP
  have hD : va_D A ([(h0, .inr (6, [.ref q7, .ref q15, .ref q23, .ref q31, .null, .null, .int 0, .null, .null, .null, .null, .null, .null])), (q7, .inl (g 0, 20, .inl (fun _ => 0))), (q15, .inl (g 0, 20, .inl (fun _ => 0))), (q23, .inl (g 0, 20, .inl (fun _ => 0))), (q31, .inl (g 1, 20, .inl (fun _ => 0))), (q39, .inl (g 1, 20, .inl (fun _ => 0)))]) := hD
  refine W.widen (k := 5) (n := 100) (by omega) (by omega) ?_
  refine va_putF (D := (dC, dI)) (ci := 6) (v := .ref q39) (ty := .array (.boolean)) (C := "AlarmMatrix$Acts") (T := T_Acts) (N := 13) hx hb hts i_Acts t_Acts o_Acts n_Acts hown hK hP hD hS 0 rfl rfl 4 (by decide) (hts _ k1_164) (fun _ h9 => h9) rfl hnm rfl (by decide +kernel) rfl rfl (Nat.le_of_ble_eq_true rfl) d_Acts_init_41 (fun H locs hP hD hS => ?_)
  have hP : va_P (dC, dI) vwCl ([(h0, .inr (6, [.ref q7, .ref q15, .ref q23, .ref q31, .ref q39, .null, .int 0, .null, .null, .null, .null, .null, .null])), (q7, .inl (g 0, 20, .inl (fun _ => 0))), (q15, .inl (g 0, 20, .inl (fun _ => 0))), (q23, .inl (g 0, 20, .inl (fun _ => 0))), (q31, .inl (g 1, 20, .inl (fun _ => 0))), (q39, .inl (g 1, 20, .inl (fun _ => 0)))]) H := hP
  have hD : va_D A ([(h0, .inr (6, [.ref q7, .ref q15, .ref q23, .ref q31, .ref q39, .null, .int 0, .null, .null, .null, .null, .null, .null])), (q7, .inl (g 0, 20, .inl (fun _ => 0))), (q15, .inl (g 0, 20, .inl (fun _ => 0))), (q23, .inl (g 0, 20, .inl (fun _ => 0))), (q31, .inl (g 1, 20, .inl (fun _ => 0))), (q39, .inl (g 1, 20, .inl (fun _ => 0)))]) := hD
  refine lv_aload_n hx hb d_Acts_init_44 rfl (lv_at hl 0 rfl) ?_
  refine lv_bipush (v := (20 : Int32)) hx hb d_Acts_init_45 (by decide) ?_
  refine va_newa (atype := .int) (ty := .int) (a0 := (20, .inl (fun _ => 0))) hx hb (hts _ k1_79) rfl hK hP hD hS hA (fun cA => rfl) (by decide) (by decide) (by decide) (Nat.le_of_ble_eq_true rfl) (Nat.le_of_ble_eq_true rfl) d_Acts_init_47 (fun q47 cA H hK hP hD hS => ?_)
  obtain rfl := ty_one hK (i := 0) (j := 5) rfl rfl
  have hK := hK.sub (tys' := tyv g) [0, 1, 2, 3, 4] rfl
  have hP : va_P (dC, dI) vwCl ([(h0, .inr (6, [.ref q7, .ref q15, .ref q23, .ref q31, .ref q39, .null, .int 0, .null, .null, .null, .null, .null, .null])), (q7, .inl (g 0, 20, .inl (fun _ => 0))), (q15, .inl (g 0, 20, .inl (fun _ => 0))), (q23, .inl (g 0, 20, .inl (fun _ => 0))), (q31, .inl (g 1, 20, .inl (fun _ => 0))), (q39, .inl (g 1, 20, .inl (fun _ => 0))), (q47, .inl (g 0, 20, .inl (fun _ => 0)))]) H := hP
  have hD : va_D A ([(h0, .inr (6, [.ref q7, .ref q15, .ref q23, .ref q31, .ref q39, .null, .int 0, .null, .null, .null, .null, .null, .null])), (q7, .inl (g 0, 20, .inl (fun _ => 0))), (q15, .inl (g 0, 20, .inl (fun _ => 0))), (q23, .inl (g 0, 20, .inl (fun _ => 0))), (q31, .inl (g 1, 20, .inl (fun _ => 0))), (q39, .inl (g 1, 20, .inl (fun _ => 0))), (q47, .inl (g 0, 20, .inl (fun _ => 0)))]) := hD
  refine W.widen (k := 6) (n := 120) (by omega) (by omega) ?_
  refine va_putF (D := (dC, dI)) (ci := 6) (v := .ref q47) (ty := .array (.int)) (C := "AlarmMatrix$Acts") (T := T_Acts) (N := 13) hx hb hts i_Acts t_Acts o_Acts n_Acts hown hK hP hD hS 0 rfl rfl 5 (by decide) (hts _ k1_165) (fun _ h9 => h9) rfl hnm rfl (by decide +kernel) rfl rfl (Nat.le_of_ble_eq_true rfl) d_Acts_init_49 (fun H locs hP hD hS => ?_)
  have hP : va_P (dC, dI) vwCl ([(h0, .inr (6, [.ref q7, .ref q15, .ref q23, .ref q31, .ref q39, .ref q47, .int 0, .null, .null, .null, .null, .null, .null])), (q7, .inl (g 0, 20, .inl (fun _ => 0))), (q15, .inl (g 0, 20, .inl (fun _ => 0))), (q23, .inl (g 0, 20, .inl (fun _ => 0))), (q31, .inl (g 1, 20, .inl (fun _ => 0))), (q39, .inl (g 1, 20, .inl (fun _ => 0))), (q47, .inl (g 0, 20, .inl (fun _ => 0)))]) H := hP
  have hD : va_D A ([(h0, .inr (6, [.ref q7, .ref q15, .ref q23, .ref q31, .ref q39, .ref q47, .int 0, .null, .null, .null, .null, .null, .null])), (q7, .inl (g 0, 20, .inl (fun _ => 0))), (q15, .inl (g 0, 20, .inl (fun _ => 0))), (q23, .inl (g 0, 20, .inl (fun _ => 0))), (q31, .inl (g 1, 20, .inl (fun _ => 0))), (q39, .inl (g 1, 20, .inl (fun _ => 0))), (q47, .inl (g 0, 20, .inl (fun _ => 0)))]) := hD
  refine lv_aload_n hx hb d_Acts_init_52 rfl (lv_at hl 0 rfl) ?_
  refine lv_iconst (v := (0 : Int32)) hx hb d_Acts_init_53 (by decide) ?_
  refine va_put (D := (dC, dI)) (ci := 6) (v := .int (0 : Int32)) (ty := .int) (C := "AlarmMatrix$Acts") (T := T_Acts) (N := 13) hx hb hts i_Acts t_Acts o_Acts n_Acts hown hK hP hD hS 0 rfl rfl 6 (by decide) (hts _ k1_166) (fun _ h9 => h9) rfl (by decide +kernel) rfl rfl (Nat.le_of_ble_eq_true rfl) d_Acts_init_54 (fun H locs hP hD hS => ?_)
  have hP : va_P (dC, dI) vwCl ([(h0, .inr (6, [.ref q7, .ref q15, .ref q23, .ref q31, .ref q39, .ref q47, .int (0 : Int32), .null, .null, .null, .null, .null, .null])), (q7, .inl (g 0, 20, .inl (fun _ => 0))), (q15, .inl (g 0, 20, .inl (fun _ => 0))), (q23, .inl (g 0, 20, .inl (fun _ => 0))), (q31, .inl (g 1, 20, .inl (fun _ => 0))), (q39, .inl (g 1, 20, .inl (fun _ => 0))), (q47, .inl (g 0, 20, .inl (fun _ => 0)))]) H := hP
  have hD : va_D A ([(h0, .inr (6, [.ref q7, .ref q15, .ref q23, .ref q31, .ref q39, .ref q47, .int (0 : Int32), .null, .null, .null, .null, .null, .null])), (q7, .inl (g 0, 20, .inl (fun _ => 0))), (q15, .inl (g 0, 20, .inl (fun _ => 0))), (q23, .inl (g 0, 20, .inl (fun _ => 0))), (q31, .inl (g 1, 20, .inl (fun _ => 0))), (q39, .inl (g 1, 20, .inl (fun _ => 0))), (q47, .inl (g 0, 20, .inl (fun _ => 0)))]) := hD
  refine lv_aload_n hx hb d_Acts_init_57 rfl (lv_at hl 0 rfl) ?_
  refine lv_bipush (v := (20 : Int32)) hx hb d_Acts_init_58 (by decide) ?_
  refine va_newa (atype := .int) (ty := .int) (a0 := (20, .inl (fun _ => 0))) hx hb (hts _ k1_79) rfl hK hP hD hS hA (fun cA => rfl) (by decide) (by decide) (by decide) (Nat.le_of_ble_eq_true rfl) (Nat.le_of_ble_eq_true rfl) d_Acts_init_60 (fun q60 cA H hK hP hD hS => ?_)
  obtain rfl := ty_one hK (i := 0) (j := 5) rfl rfl
  have hK := hK.sub (tys' := tyv g) [0, 1, 2, 3, 4] rfl
  have hP : va_P (dC, dI) vwCl ([(h0, .inr (6, [.ref q7, .ref q15, .ref q23, .ref q31, .ref q39, .ref q47, .int (0 : Int32), .null, .null, .null, .null, .null, .null])), (q7, .inl (g 0, 20, .inl (fun _ => 0))), (q15, .inl (g 0, 20, .inl (fun _ => 0))), (q23, .inl (g 0, 20, .inl (fun _ => 0))), (q31, .inl (g 1, 20, .inl (fun _ => 0))), (q39, .inl (g 1, 20, .inl (fun _ => 0))), (q47, .inl (g 0, 20, .inl (fun _ => 0))), (q60, .inl (g 0, 20, .inl (fun _ => 0)))]) H := hP
  have hD : va_D A ([(h0, .inr (6, [.ref q7, .ref q15, .ref q23, .ref q31, .ref q39, .ref q47, .int (0 : Int32), .null, .null, .null, .null, .null, .null])), (q7, .inl (g 0, 20, .inl (fun _ => 0))), (q15, .inl (g 0, 20, .inl (fun _ => 0))), (q23, .inl (g 0, 20, .inl (fun _ => 0))), (q31, .inl (g 1, 20, .inl (fun _ => 0))), (q39, .inl (g 1, 20, .inl (fun _ => 0))), (q47, .inl (g 0, 20, .inl (fun _ => 0))), (q60, .inl (g 0, 20, .inl (fun _ => 0)))]) := hD
  refine W.widen (k := 7) (n := 140) (by omega) (by omega) ?_
  refine va_putF (D := (dC, dI)) (ci := 6) (v := .ref q60) (ty := .array (.int)) (C := "AlarmMatrix$Acts") (T := T_Acts) (N := 13) hx hb hts i_Acts t_Acts o_Acts n_Acts hown hK hP hD hS 0 rfl rfl 7 (by decide) (hts _ k1_167) (fun _ h9 => h9) rfl hnm rfl (by decide +kernel) rfl rfl (Nat.le_of_ble_eq_true rfl) d_Acts_init_62 (fun H locs hP hD hS => ?_)
  have hP : va_P (dC, dI) vwCl ([(h0, .inr (6, [.ref q7, .ref q15, .ref q23, .ref q31, .ref q39, .ref q47, .int (0 : Int32), .ref q60, .null, .null, .null, .null, .null])), (q7, .inl (g 0, 20, .inl (fun _ => 0))), (q15, .inl (g 0, 20, .inl (fun _ => 0))), (q23, .inl (g 0, 20, .inl (fun _ => 0))), (q31, .inl (g 1, 20, .inl (fun _ => 0))), (q39, .inl (g 1, 20, .inl (fun _ => 0))), (q47, .inl (g 0, 20, .inl (fun _ => 0))), (q60, .inl (g 0, 20, .inl (fun _ => 0)))]) H := hP
  have hD : va_D A ([(h0, .inr (6, [.ref q7, .ref q15, .ref q23, .ref q31, .ref q39, .ref q47, .int (0 : Int32), .ref q60, .null, .null, .null, .null, .null])), (q7, .inl (g 0, 20, .inl (fun _ => 0))), (q15, .inl (g 0, 20, .inl (fun _ => 0))), (q23, .inl (g 0, 20, .inl (fun _ => 0))), (q31, .inl (g 1, 20, .inl (fun _ => 0))), (q39, .inl (g 1, 20, .inl (fun _ => 0))), (q47, .inl (g 0, 20, .inl (fun _ => 0))), (q60, .inl (g 0, 20, .inl (fun _ => 0)))]) := hD
  refine lv_aload_n hx hb d_Acts_init_65 rfl (lv_at hl 0 rfl) ?_
  refine lv_bipush (v := (20 : Int32)) hx hb d_Acts_init_66 (by decide) ?_
  refine va_newa (atype := .int) (ty := .int) (a0 := (20, .inl (fun _ => 0))) hx hb (hts _ k1_79) rfl hK hP hD hS hA (fun cA => rfl) (by decide) (by decide) (by decide) (Nat.le_of_ble_eq_true rfl) (Nat.le_of_ble_eq_true rfl) d_Acts_init_68 (fun q68 cA H hK hP hD hS => ?_)
  obtain rfl := ty_one hK (i := 0) (j := 5) rfl rfl
  have hK := hK.sub (tys' := tyv g) [0, 1, 2, 3, 4] rfl
  have hP : va_P (dC, dI) vwCl ([(h0, .inr (6, [.ref q7, .ref q15, .ref q23, .ref q31, .ref q39, .ref q47, .int (0 : Int32), .ref q60, .null, .null, .null, .null, .null])), (q7, .inl (g 0, 20, .inl (fun _ => 0))), (q15, .inl (g 0, 20, .inl (fun _ => 0))), (q23, .inl (g 0, 20, .inl (fun _ => 0))), (q31, .inl (g 1, 20, .inl (fun _ => 0))), (q39, .inl (g 1, 20, .inl (fun _ => 0))), (q47, .inl (g 0, 20, .inl (fun _ => 0))), (q60, .inl (g 0, 20, .inl (fun _ => 0))), (q68, .inl (g 0, 20, .inl (fun _ => 0)))]) H := hP
  have hD : va_D A ([(h0, .inr (6, [.ref q7, .ref q15, .ref q23, .ref q31, .ref q39, .ref q47, .int (0 : Int32), .ref q60, .null, .null, .null, .null, .null])), (q7, .inl (g 0, 20, .inl (fun _ => 0))), (q15, .inl (g 0, 20, .inl (fun _ => 0))), (q23, .inl (g 0, 20, .inl (fun _ => 0))), (q31, .inl (g 1, 20, .inl (fun _ => 0))), (q39, .inl (g 1, 20, .inl (fun _ => 0))), (q47, .inl (g 0, 20, .inl (fun _ => 0))), (q60, .inl (g 0, 20, .inl (fun _ => 0))), (q68, .inl (g 0, 20, .inl (fun _ => 0)))]) := hD
  refine W.widen (k := 8) (n := 160) (by omega) (by omega) ?_
  refine va_putF (D := (dC, dI)) (ci := 6) (v := .ref q68) (ty := .array (.int)) (C := "AlarmMatrix$Acts") (T := T_Acts) (N := 13) hx hb hts i_Acts t_Acts o_Acts n_Acts hown hK hP hD hS 0 rfl rfl 8 (by decide) (hts _ k1_168) (fun _ h9 => h9) rfl hnm rfl (by decide +kernel) rfl rfl (Nat.le_of_ble_eq_true rfl) d_Acts_init_70 (fun H locs hP hD hS => ?_)
  have hP : va_P (dC, dI) vwCl ([(h0, .inr (6, [.ref q7, .ref q15, .ref q23, .ref q31, .ref q39, .ref q47, .int (0 : Int32), .ref q60, .ref q68, .null, .null, .null, .null])), (q7, .inl (g 0, 20, .inl (fun _ => 0))), (q15, .inl (g 0, 20, .inl (fun _ => 0))), (q23, .inl (g 0, 20, .inl (fun _ => 0))), (q31, .inl (g 1, 20, .inl (fun _ => 0))), (q39, .inl (g 1, 20, .inl (fun _ => 0))), (q47, .inl (g 0, 20, .inl (fun _ => 0))), (q60, .inl (g 0, 20, .inl (fun _ => 0))), (q68, .inl (g 0, 20, .inl (fun _ => 0)))]) H := hP
  have hD : va_D A ([(h0, .inr (6, [.ref q7, .ref q15, .ref q23, .ref q31, .ref q39, .ref q47, .int (0 : Int32), .ref q60, .ref q68, .null, .null, .null, .null])), (q7, .inl (g 0, 20, .inl (fun _ => 0))), (q15, .inl (g 0, 20, .inl (fun _ => 0))), (q23, .inl (g 0, 20, .inl (fun _ => 0))), (q31, .inl (g 1, 20, .inl (fun _ => 0))), (q39, .inl (g 1, 20, .inl (fun _ => 0))), (q47, .inl (g 0, 20, .inl (fun _ => 0))), (q60, .inl (g 0, 20, .inl (fun _ => 0))), (q68, .inl (g 0, 20, .inl (fun _ => 0)))]) := hD
  refine lv_aload_n hx hb d_Acts_init_73 rfl (lv_at hl 0 rfl) ?_
  refine lv_bipush (v := (20 : Int32)) hx hb d_Acts_init_74 (by decide) ?_
  refine va_newa (atype := .boolean) (ty := .boolean) (a0 := (20, .inl (fun _ => 0))) hx hb (hts _ k1_80) rfl hK hP hD hS hA (fun cA => rfl) (by decide) (by decide) (by decide) (Nat.le_of_ble_eq_true rfl) (Nat.le_of_ble_eq_true rfl) d_Acts_init_76 (fun q76 cA H hK hP hD hS => ?_)
  obtain rfl := ty_one hK (i := 1) (j := 5) rfl rfl
  have hK := hK.sub (tys' := tyv g) [0, 1, 2, 3, 4] rfl
  have hP : va_P (dC, dI) vwCl ([(h0, .inr (6, [.ref q7, .ref q15, .ref q23, .ref q31, .ref q39, .ref q47, .int (0 : Int32), .ref q60, .ref q68, .null, .null, .null, .null])), (q7, .inl (g 0, 20, .inl (fun _ => 0))), (q15, .inl (g 0, 20, .inl (fun _ => 0))), (q23, .inl (g 0, 20, .inl (fun _ => 0))), (q31, .inl (g 1, 20, .inl (fun _ => 0))), (q39, .inl (g 1, 20, .inl (fun _ => 0))), (q47, .inl (g 0, 20, .inl (fun _ => 0))), (q60, .inl (g 0, 20, .inl (fun _ => 0))), (q68, .inl (g 0, 20, .inl (fun _ => 0))), (q76, .inl (g 1, 20, .inl (fun _ => 0)))]) H := hP
  have hD : va_D A ([(h0, .inr (6, [.ref q7, .ref q15, .ref q23, .ref q31, .ref q39, .ref q47, .int (0 : Int32), .ref q60, .ref q68, .null, .null, .null, .null])), (q7, .inl (g 0, 20, .inl (fun _ => 0))), (q15, .inl (g 0, 20, .inl (fun _ => 0))), (q23, .inl (g 0, 20, .inl (fun _ => 0))), (q31, .inl (g 1, 20, .inl (fun _ => 0))), (q39, .inl (g 1, 20, .inl (fun _ => 0))), (q47, .inl (g 0, 20, .inl (fun _ => 0))), (q60, .inl (g 0, 20, .inl (fun _ => 0))), (q68, .inl (g 0, 20, .inl (fun _ => 0))), (q76, .inl (g 1, 20, .inl (fun _ => 0)))]) := hD
  refine W.widen (k := 9) (n := 180) (by omega) (by omega) ?_
  refine va_putF (D := (dC, dI)) (ci := 6) (v := .ref q76) (ty := .array (.boolean)) (C := "AlarmMatrix$Acts") (T := T_Acts) (N := 13) hx hb hts i_Acts t_Acts o_Acts n_Acts hown hK hP hD hS 0 rfl rfl 9 (by decide) (hts _ k1_169) (fun _ h9 => h9) rfl hnm rfl (by decide +kernel) rfl rfl (Nat.le_of_ble_eq_true rfl) d_Acts_init_78 (fun H locs hP hD hS => ?_)
  have hP : va_P (dC, dI) vwCl ([(h0, .inr (6, [.ref q7, .ref q15, .ref q23, .ref q31, .ref q39, .ref q47, .int (0 : Int32), .ref q60, .ref q68, .ref q76, .null, .null, .null])), (q7, .inl (g 0, 20, .inl (fun _ => 0))), (q15, .inl (g 0, 20, .inl (fun _ => 0))), (q23, .inl (g 0, 20, .inl (fun _ => 0))), (q31, .inl (g 1, 20, .inl (fun _ => 0))), (q39, .inl (g 1, 20, .inl (fun _ => 0))), (q47, .inl (g 0, 20, .inl (fun _ => 0))), (q60, .inl (g 0, 20, .inl (fun _ => 0))), (q68, .inl (g 0, 20, .inl (fun _ => 0))), (q76, .inl (g 1, 20, .inl (fun _ => 0)))]) H := hP
  have hD : va_D A ([(h0, .inr (6, [.ref q7, .ref q15, .ref q23, .ref q31, .ref q39, .ref q47, .int (0 : Int32), .ref q60, .ref q68, .ref q76, .null, .null, .null])), (q7, .inl (g 0, 20, .inl (fun _ => 0))), (q15, .inl (g 0, 20, .inl (fun _ => 0))), (q23, .inl (g 0, 20, .inl (fun _ => 0))), (q31, .inl (g 1, 20, .inl (fun _ => 0))), (q39, .inl (g 1, 20, .inl (fun _ => 0))), (q47, .inl (g 0, 20, .inl (fun _ => 0))), (q60, .inl (g 0, 20, .inl (fun _ => 0))), (q68, .inl (g 0, 20, .inl (fun _ => 0))), (q76, .inl (g 1, 20, .inl (fun _ => 0)))]) := hD
  refine lv_aload_n hx hb d_Acts_init_81 rfl (lv_at hl 0 rfl) ?_
  refine lv_bipush (v := (20 : Int32)) hx hb d_Acts_init_82 (by decide) ?_
  refine va_newa (atype := .boolean) (ty := .boolean) (a0 := (20, .inl (fun _ => 0))) hx hb (hts _ k1_80) rfl hK hP hD hS hA (fun cA => rfl) (by decide) (by decide) (by decide) (Nat.le_of_ble_eq_true rfl) (Nat.le_of_ble_eq_true rfl) d_Acts_init_84 (fun q84 cA H hK hP hD hS => ?_)
  obtain rfl := ty_one hK (i := 1) (j := 5) rfl rfl
  have hK := hK.sub (tys' := tyv g) [0, 1, 2, 3, 4] rfl
  have hP : va_P (dC, dI) vwCl ([(h0, .inr (6, [.ref q7, .ref q15, .ref q23, .ref q31, .ref q39, .ref q47, .int (0 : Int32), .ref q60, .ref q68, .ref q76, .null, .null, .null])), (q7, .inl (g 0, 20, .inl (fun _ => 0))), (q15, .inl (g 0, 20, .inl (fun _ => 0))), (q23, .inl (g 0, 20, .inl (fun _ => 0))), (q31, .inl (g 1, 20, .inl (fun _ => 0))), (q39, .inl (g 1, 20, .inl (fun _ => 0))), (q47, .inl (g 0, 20, .inl (fun _ => 0))), (q60, .inl (g 0, 20, .inl (fun _ => 0))), (q68, .inl (g 0, 20, .inl (fun _ => 0))), (q76, .inl (g 1, 20, .inl (fun _ => 0))), (q84, .inl (g 1, 20, .inl (fun _ => 0)))]) H := hP
  have hD : va_D A ([(h0, .inr (6, [.ref q7, .ref q15, .ref q23, .ref q31, .ref q39, .ref q47, .int (0 : Int32), .ref q60, .ref q68, .ref q76, .null, .null, .null])), (q7, .inl (g 0, 20, .inl (fun _ => 0))), (q15, .inl (g 0, 20, .inl (fun _ => 0))), (q23, .inl (g 0, 20, .inl (fun _ => 0))), (q31, .inl (g 1, 20, .inl (fun _ => 0))), (q39, .inl (g 1, 20, .inl (fun _ => 0))), (q47, .inl (g 0, 20, .inl (fun _ => 0))), (q60, .inl (g 0, 20, .inl (fun _ => 0))), (q68, .inl (g 0, 20, .inl (fun _ => 0))), (q76, .inl (g 1, 20, .inl (fun _ => 0))), (q84, .inl (g 1, 20, .inl (fun _ => 0)))]) := hD
  refine W.widen (k := 10) (n := 200) (by omega) (by omega) ?_
  refine va_putF (D := (dC, dI)) (ci := 6) (v := .ref q84) (ty := .array (.boolean)) (C := "AlarmMatrix$Acts") (T := T_Acts) (N := 13) hx hb hts i_Acts t_Acts o_Acts n_Acts hown hK hP hD hS 0 rfl rfl 10 (by decide) (hts _ k1_170) (fun _ h9 => h9) rfl hnm rfl (by decide +kernel) rfl rfl (Nat.le_of_ble_eq_true rfl) d_Acts_init_86 (fun H locs hP hD hS => ?_)
  have hP : va_P (dC, dI) vwCl ([(h0, .inr (6, [.ref q7, .ref q15, .ref q23, .ref q31, .ref q39, .ref q47, .int (0 : Int32), .ref q60, .ref q68, .ref q76, .ref q84, .null, .null])), (q7, .inl (g 0, 20, .inl (fun _ => 0))), (q15, .inl (g 0, 20, .inl (fun _ => 0))), (q23, .inl (g 0, 20, .inl (fun _ => 0))), (q31, .inl (g 1, 20, .inl (fun _ => 0))), (q39, .inl (g 1, 20, .inl (fun _ => 0))), (q47, .inl (g 0, 20, .inl (fun _ => 0))), (q60, .inl (g 0, 20, .inl (fun _ => 0))), (q68, .inl (g 0, 20, .inl (fun _ => 0))), (q76, .inl (g 1, 20, .inl (fun _ => 0))), (q84, .inl (g 1, 20, .inl (fun _ => 0)))]) H := hP
  have hD : va_D A ([(h0, .inr (6, [.ref q7, .ref q15, .ref q23, .ref q31, .ref q39, .ref q47, .int (0 : Int32), .ref q60, .ref q68, .ref q76, .ref q84, .null, .null])), (q7, .inl (g 0, 20, .inl (fun _ => 0))), (q15, .inl (g 0, 20, .inl (fun _ => 0))), (q23, .inl (g 0, 20, .inl (fun _ => 0))), (q31, .inl (g 1, 20, .inl (fun _ => 0))), (q39, .inl (g 1, 20, .inl (fun _ => 0))), (q47, .inl (g 0, 20, .inl (fun _ => 0))), (q60, .inl (g 0, 20, .inl (fun _ => 0))), (q68, .inl (g 0, 20, .inl (fun _ => 0))), (q76, .inl (g 1, 20, .inl (fun _ => 0))), (q84, .inl (g 1, 20, .inl (fun _ => 0)))]) := hD
  refine lv_aload_n hx hb d_Acts_init_89 rfl (lv_at hl 0 rfl) ?_
  refine lv_bipush (v := (20 : Int32)) hx hb d_Acts_init_90 (by decide) ?_
  refine va_newa (atype := .boolean) (ty := .boolean) (a0 := (20, .inl (fun _ => 0))) hx hb (hts _ k1_80) rfl hK hP hD hS hA (fun cA => rfl) (by decide) (by decide) (by decide) (Nat.le_of_ble_eq_true rfl) (Nat.le_of_ble_eq_true rfl) d_Acts_init_92 (fun q92 cA H hK hP hD hS => ?_)
  obtain rfl := ty_one hK (i := 1) (j := 5) rfl rfl
  have hK := hK.sub (tys' := tyv g) [0, 1, 2, 3, 4] rfl
  have hP : va_P (dC, dI) vwCl ([(h0, .inr (6, [.ref q7, .ref q15, .ref q23, .ref q31, .ref q39, .ref q47, .int (0 : Int32), .ref q60, .ref q68, .ref q76, .ref q84, .null, .null])), (q7, .inl (g 0, 20, .inl (fun _ => 0))), (q15, .inl (g 0, 20, .inl (fun _ => 0))), (q23, .inl (g 0, 20, .inl (fun _ => 0))), (q31, .inl (g 1, 20, .inl (fun _ => 0))), (q39, .inl (g 1, 20, .inl (fun _ => 0))), (q47, .inl (g 0, 20, .inl (fun _ => 0))), (q60, .inl (g 0, 20, .inl (fun _ => 0))), (q68, .inl (g 0, 20, .inl (fun _ => 0))), (q76, .inl (g 1, 20, .inl (fun _ => 0))), (q84, .inl (g 1, 20, .inl (fun _ => 0))), (q92, .inl (g 1, 20, .inl (fun _ => 0)))]) H := hP
  have hD : va_D A ([(h0, .inr (6, [.ref q7, .ref q15, .ref q23, .ref q31, .ref q39, .ref q47, .int (0 : Int32), .ref q60, .ref q68, .ref q76, .ref q84, .null, .null])), (q7, .inl (g 0, 20, .inl (fun _ => 0))), (q15, .inl (g 0, 20, .inl (fun _ => 0))), (q23, .inl (g 0, 20, .inl (fun _ => 0))), (q31, .inl (g 1, 20, .inl (fun _ => 0))), (q39, .inl (g 1, 20, .inl (fun _ => 0))), (q47, .inl (g 0, 20, .inl (fun _ => 0))), (q60, .inl (g 0, 20, .inl (fun _ => 0))), (q68, .inl (g 0, 20, .inl (fun _ => 0))), (q76, .inl (g 1, 20, .inl (fun _ => 0))), (q84, .inl (g 1, 20, .inl (fun _ => 0))), (q92, .inl (g 1, 20, .inl (fun _ => 0)))]) := hD
  refine W.widen (k := 11) (n := 220) (by omega) (by omega) ?_
  refine va_putF (D := (dC, dI)) (ci := 6) (v := .ref q92) (ty := .array (.boolean)) (C := "AlarmMatrix$Acts") (T := T_Acts) (N := 13) hx hb hts i_Acts t_Acts o_Acts n_Acts hown hK hP hD hS 0 rfl rfl 11 (by decide) (hts _ k1_171) (fun _ h9 => h9) rfl hnm rfl (by decide +kernel) rfl rfl (Nat.le_of_ble_eq_true rfl) d_Acts_init_94 (fun H locs hP hD hS => ?_)
  have hP : va_P (dC, dI) vwCl ([(h0, .inr (6, [.ref q7, .ref q15, .ref q23, .ref q31, .ref q39, .ref q47, .int (0 : Int32), .ref q60, .ref q68, .ref q76, .ref q84, .ref q92, .null])), (q7, .inl (g 0, 20, .inl (fun _ => 0))), (q15, .inl (g 0, 20, .inl (fun _ => 0))), (q23, .inl (g 0, 20, .inl (fun _ => 0))), (q31, .inl (g 1, 20, .inl (fun _ => 0))), (q39, .inl (g 1, 20, .inl (fun _ => 0))), (q47, .inl (g 0, 20, .inl (fun _ => 0))), (q60, .inl (g 0, 20, .inl (fun _ => 0))), (q68, .inl (g 0, 20, .inl (fun _ => 0))), (q76, .inl (g 1, 20, .inl (fun _ => 0))), (q84, .inl (g 1, 20, .inl (fun _ => 0))), (q92, .inl (g 1, 20, .inl (fun _ => 0)))]) H := hP
  have hD : va_D A ([(h0, .inr (6, [.ref q7, .ref q15, .ref q23, .ref q31, .ref q39, .ref q47, .int (0 : Int32), .ref q60, .ref q68, .ref q76, .ref q84, .ref q92, .null])), (q7, .inl (g 0, 20, .inl (fun _ => 0))), (q15, .inl (g 0, 20, .inl (fun _ => 0))), (q23, .inl (g 0, 20, .inl (fun _ => 0))), (q31, .inl (g 1, 20, .inl (fun _ => 0))), (q39, .inl (g 1, 20, .inl (fun _ => 0))), (q47, .inl (g 0, 20, .inl (fun _ => 0))), (q60, .inl (g 0, 20, .inl (fun _ => 0))), (q68, .inl (g 0, 20, .inl (fun _ => 0))), (q76, .inl (g 1, 20, .inl (fun _ => 0))), (q84, .inl (g 1, 20, .inl (fun _ => 0))), (q92, .inl (g 1, 20, .inl (fun _ => 0)))]) := hD
  refine lv_aload_n hx hb d_Acts_init_97 rfl (lv_at hl 0 rfl) ?_
  refine lv_bipush (v := (20 : Int32)) hx hb d_Acts_init_98 (by decide) ?_
  refine va_newa (atype := .boolean) (ty := .boolean) (a0 := (20, .inl (fun _ => 0))) hx hb (hts _ k1_80) rfl hK hP hD hS hA (fun cA => rfl) (by decide) (by decide) (by decide) (Nat.le_of_ble_eq_true rfl) (Nat.le_of_ble_eq_true rfl) d_Acts_init_100 (fun q100 cA H hK hP hD hS => ?_)
  obtain rfl := ty_one hK (i := 1) (j := 5) rfl rfl
  have hK := hK.sub (tys' := tyv g) [0, 1, 2, 3, 4] rfl
  have hP : va_P (dC, dI) vwCl ([(h0, .inr (6, [.ref q7, .ref q15, .ref q23, .ref q31, .ref q39, .ref q47, .int (0 : Int32), .ref q60, .ref q68, .ref q76, .ref q84, .ref q92, .null])), (q7, .inl (g 0, 20, .inl (fun _ => 0))), (q15, .inl (g 0, 20, .inl (fun _ => 0))), (q23, .inl (g 0, 20, .inl (fun _ => 0))), (q31, .inl (g 1, 20, .inl (fun _ => 0))), (q39, .inl (g 1, 20, .inl (fun _ => 0))), (q47, .inl (g 0, 20, .inl (fun _ => 0))), (q60, .inl (g 0, 20, .inl (fun _ => 0))), (q68, .inl (g 0, 20, .inl (fun _ => 0))), (q76, .inl (g 1, 20, .inl (fun _ => 0))), (q84, .inl (g 1, 20, .inl (fun _ => 0))), (q92, .inl (g 1, 20, .inl (fun _ => 0))), (q100, .inl (g 1, 20, .inl (fun _ => 0)))]) H := hP
  have hD : va_D A ([(h0, .inr (6, [.ref q7, .ref q15, .ref q23, .ref q31, .ref q39, .ref q47, .int (0 : Int32), .ref q60, .ref q68, .ref q76, .ref q84, .ref q92, .null])), (q7, .inl (g 0, 20, .inl (fun _ => 0))), (q15, .inl (g 0, 20, .inl (fun _ => 0))), (q23, .inl (g 0, 20, .inl (fun _ => 0))), (q31, .inl (g 1, 20, .inl (fun _ => 0))), (q39, .inl (g 1, 20, .inl (fun _ => 0))), (q47, .inl (g 0, 20, .inl (fun _ => 0))), (q60, .inl (g 0, 20, .inl (fun _ => 0))), (q68, .inl (g 0, 20, .inl (fun _ => 0))), (q76, .inl (g 1, 20, .inl (fun _ => 0))), (q84, .inl (g 1, 20, .inl (fun _ => 0))), (q92, .inl (g 1, 20, .inl (fun _ => 0))), (q100, .inl (g 1, 20, .inl (fun _ => 0)))]) := hD
  refine W.widen (k := 12) (n := 240) (by omega) (by omega) ?_
  refine va_putF (D := (dC, dI)) (ci := 6) (v := .ref q100) (ty := .array (.boolean)) (C := "AlarmMatrix$Acts") (T := T_Acts) (N := 13) hx hb hts i_Acts t_Acts o_Acts n_Acts hown hK hP hD hS 0 rfl rfl 12 (by decide) (hts _ k1_172) (fun _ h9 => h9) rfl hnm rfl (by decide +kernel) rfl rfl (Nat.le_of_ble_eq_true rfl) d_Acts_init_102 (fun H locs hP hD hS => ?_)
  have hP : va_P (dC, dI) vwCl ([(h0, .inr (6, [.ref q7, .ref q15, .ref q23, .ref q31, .ref q39, .ref q47, .int (0 : Int32), .ref q60, .ref q68, .ref q76, .ref q84, .ref q92, .ref q100])), (q7, .inl (g 0, 20, .inl (fun _ => 0))), (q15, .inl (g 0, 20, .inl (fun _ => 0))), (q23, .inl (g 0, 20, .inl (fun _ => 0))), (q31, .inl (g 1, 20, .inl (fun _ => 0))), (q39, .inl (g 1, 20, .inl (fun _ => 0))), (q47, .inl (g 0, 20, .inl (fun _ => 0))), (q60, .inl (g 0, 20, .inl (fun _ => 0))), (q68, .inl (g 0, 20, .inl (fun _ => 0))), (q76, .inl (g 1, 20, .inl (fun _ => 0))), (q84, .inl (g 1, 20, .inl (fun _ => 0))), (q92, .inl (g 1, 20, .inl (fun _ => 0))), (q100, .inl (g 1, 20, .inl (fun _ => 0)))]) H := hP
  have hD : va_D A ([(h0, .inr (6, [.ref q7, .ref q15, .ref q23, .ref q31, .ref q39, .ref q47, .int (0 : Int32), .ref q60, .ref q68, .ref q76, .ref q84, .ref q92, .ref q100])), (q7, .inl (g 0, 20, .inl (fun _ => 0))), (q15, .inl (g 0, 20, .inl (fun _ => 0))), (q23, .inl (g 0, 20, .inl (fun _ => 0))), (q31, .inl (g 1, 20, .inl (fun _ => 0))), (q39, .inl (g 1, 20, .inl (fun _ => 0))), (q47, .inl (g 0, 20, .inl (fun _ => 0))), (q60, .inl (g 0, 20, .inl (fun _ => 0))), (q68, .inl (g 0, 20, .inl (fun _ => 0))), (q76, .inl (g 1, 20, .inl (fun _ => 0))), (q84, .inl (g 1, 20, .inl (fun _ => 0))), (q92, .inl (g 1, 20, .inl (fun _ => 0))), (q100, .inl (g 1, 20, .inl (fun _ => 0)))]) := hD
  obtain ⟨u, hu⟩ : ∃ u : Nat → Nat → Nat, u = (fun j => bif Nat.beq j 0 then (fun k => ([q7, q15, q23, q31, q39, q47, 0, q60, q68, q76, q84, q92, q100] : List Nat).getD k 0) else (fun _ => 0)) := ⟨_, rfl⟩
  have hP9 : va_P (dC, dI) vwCl (wd_Acts g h0 (u 0) z0) H := by rw [hu]; exact hP.sub [0, 1, 2, 3, 4, 5, 6, 7, 8, 9, 10, 11, 12] rfl
  have hD9 : va_D A (wd_Acts g h0 (u 0) z0) := by rw [hu]; exact hD.sub [0, 1, 2, 3, 4, 5, 6, 7, 8, 9, 10, 11, 12] (by decide) rfl
  rw [hQ]
  exact krc u hx hb hr hlocks hAe hP9 hK hD9 hS d_Acts_init_105
abbrev b_Plan_init : ByteArray := prog_5_method_1_code
abbrev y_Plan_init : MethodName := ⟨"AlarmMatrix$Plan", "<init>", "()V"⟩
theorem d_Plan_init_0 : decode b_Plan_init 0 = .ok (.aload_n 0, 1) := by decide +kernel
theorem d_Plan_init_1 : decode b_Plan_init 1 = .ok (.invokespecial 3, 3) := by decide +kernel
theorem d_Plan_init_4 : decode b_Plan_init 4 = .ok (.aload_n 0, 1) := by decide +kernel
theorem d_Plan_init_5 : decode b_Plan_init 5 = .ok (.new 9, 3) := by decide +kernel
theorem d_Plan_init_8 : decode b_Plan_init 8 = .ok (.dup, 1) := by decide +kernel
theorem d_Plan_init_9 : decode b_Plan_init 9 = .ok (.invokespecial 11, 3) := by decide +kernel
theorem d_Plan_init_12 : decode b_Plan_init 12 = .ok (.putfield 12, 3) := by decide +kernel
theorem d_Plan_init_15 : decode b_Plan_init 15 = .ok (.aload_n 0, 1) := by decide +kernel
theorem d_Plan_init_16 : decode b_Plan_init 16 = .ok (.new 18, 3) := by decide +kernel
theorem d_Plan_init_19 : decode b_Plan_init 19 = .ok (.dup, 1) := by decide +kernel
theorem d_Plan_init_20 : decode b_Plan_init 20 = .ok (.invokespecial 20, 3) := by decide +kernel
theorem d_Plan_init_23 : decode b_Plan_init 23 = .ok (.putfield 21, 3) := by decide +kernel
theorem d_Plan_init_26 : decode b_Plan_init 26 = .ok (.aload_n 0, 1) := by decide +kernel
theorem d_Plan_init_27 : decode b_Plan_init 27 = .ok (.bipush 50, 2) := by decide +kernel
theorem d_Plan_init_29 : decode b_Plan_init 29 = .ok (.newarray .int, 2) := by decide +kernel
theorem d_Plan_init_31 : decode b_Plan_init 31 = .ok (.putfield 25, 3) := by decide +kernel
theorem d_Plan_init_34 : decode b_Plan_init 34 = .ok (.aload_n 0, 1) := by decide +kernel
theorem d_Plan_init_35 : decode b_Plan_init 35 = .ok (.bipush 50, 2) := by decide +kernel
theorem d_Plan_init_37 : decode b_Plan_init 37 = .ok (.newarray .int, 2) := by decide +kernel
theorem d_Plan_init_39 : decode b_Plan_init 39 = .ok (.putfield 29, 3) := by decide +kernel
theorem d_Plan_init_42 : decode b_Plan_init 42 = .ok (.aload_n 0, 1) := by decide +kernel
theorem d_Plan_init_43 : decode b_Plan_init 43 = .ok (.bipush 50, 2) := by decide +kernel
theorem d_Plan_init_45 : decode b_Plan_init 45 = .ok (.newarray .int, 2) := by decide +kernel
theorem d_Plan_init_47 : decode b_Plan_init 47 = .ok (.putfield 32, 3) := by decide +kernel
theorem d_Plan_init_50 : decode b_Plan_init 50 = .ok (.aload_n 0, 1) := by decide +kernel
theorem d_Plan_init_51 : decode b_Plan_init 51 = .ok (.iconst 0, 1) := by decide +kernel
theorem d_Plan_init_52 : decode b_Plan_init 52 = .ok (.putfield 35, 3) := by decide +kernel
theorem d_Plan_init_55 : decode b_Plan_init 55 = .ok (.return_, 1) := by decide +kernel
abbrev rm_Plan_init : Room := { frames := 2, cells := 22, slots := 728, locals := 32 }
set_option maxHeartbeats 4000000 in
set_option maxRecDepth 100000 in
theorem c_Plan_init {G : (Nat → Prop) → State → Prop} (hG : gok G) (hGn : gN G) (l : Launch) (dC : Nat → ClassId) (dI : Nat → Nat → Nat) (g : Nat → ClassId) (sz : Nat) (h0 : Nat)  : Met l y_Plan_init (.code y_Plan_init b_Plan_init 1 none :: gw) rm_Plan_init (kq (dC, dI) vwCl (tyv g) G [.ref h0] sz ([(h0, .inr (4, [.null, .null, .null, .null, .null, .int 0]))])) (kqc (dC, dI) vwCl (tyv g) ([(h0, .inr (4, [.null, .null, .null, .null, .null, .int 0]))]) (fun u => wd_Plan g h0 (u 0) z0 ++ wd_Zones g ((u 0) 0) (u 1) z0 ++ wd_Acts g ((u 0) 1) (u 2) z0) sz) 22 728 (va_A ([(h0, .inr (4, [.null, .null, .null, .null, .null, .int 0]))]) sz) := by
  refine km (Qc := fun sz => kqc (dC, dI) vwCl (tyv g) ([(h0, .inr (4, [.null, .null, .null, .null, .null, .int 0]))]) (fun u => wd_Plan g h0 (u 0) z0 ++ wd_Zones g ((u 0) 0) (u 1) z0 ++ wd_Acts g ((u 0) 1) (u 2) z0) sz) (cc := b_Plan_init) (maxL := 1) (ret := none) (by decide) rfl (Nat.le_of_ble_eq_true rfl) ?_
  intro p e s m args below meth c Q hQ hx hb hr hts hown hlocks hml hnm H locs A hAe hA hP hK hD hS hGA ls hl
  have hl : lv_has ls 1 [(0, .ref h0)] := hl
  have hts : ∀ w ∈ gw, w.before args s = true := fun w h => hts w (List.mem_cons_of_mem _ h)
  have hown : s.vm.findClass "AlarmMatrix$Plan" = some m.cls := hown
  refine lv_aload_n hx hb d_Plan_init_0 rfl (lv_at hl 0 rfl) ?_
  refine W.objInit hx hb hown (hts _ k1_131) (hts _ k1_29) (hts _ k1_30) rfl (by rw [hml]; exact hl.1) rfl d_Plan_init_1 (Nat.le_of_ble_eq_true rfl) (Nat.le_of_ble_eq_true rfl) ?_
  refine W.eq (g2 := F0 m 4 ls []) rfl ?_
  refine lv_aload_n hx hb d_Plan_init_4 rfl (lv_at hl 0 rfl) ?_
  refine va_new (ci := 5) (fs := [.null, .null, .null, .null, .null]) (C := "AlarmMatrix$Zones") (T := T_Zones) (N := 5) hx hb hts i_Zones t_Zones o_Zones hown (hts _ k1_132) (hts _ k1_133) (hts _ k1_8) hK hP hD hS hA rfl (by decide) (Nat.le_of_ble_eq_true rfl) (Nat.le_of_ble_eq_true rfl) d_Plan_init_5 (fun q5 H hP hD hS => ?_)
  have hP : va_P (dC, dI) vwCl ([(h0, .inr (4, [.null, .null, .null, .null, .null, .int 0])), (q5, .inr (5, [.null, .null, .null, .null, .null]))]) H := hP
  have hD : va_D A ([(h0, .inr (4, [.null, .null, .null, .null, .null, .int 0])), (q5, .inr (5, [.null, .null, .null, .null, .null]))]) := hD
  refine W.widen (k := 1) (n := 5) (by omega) (by omega) ?_
  refine lv_dup hx hb d_Plan_init_8 rfl ?_
  refine kcc (wc := [(q5, .inr (5, [.null, .null, .null, .null, .null]))]) (wr := [(h0, .inr (4, [.null, .null, .null, .null, .null, .int 0]))]) (w1 := (fun u => wd_Zones g q5 (u 0) z0)) hP hD hS hA [1] [0] rfl rfl (by decide) (by decide) (va_runIN (host := "AlarmMatrix") (As := []) (rest := [.ref q5, .ref h0]) ⟨hx, hb, hml, hown, hts⟩ (c_Zones_init hG hGn l dC dI g H.size q5) ⟨va_cnB 0 hts (gdI k1_136) rfl rfl rfl (hGn A s hGA _ nw1_134) (hts _ k1_8) (by decide +kernel) ⟨Nat.le_of_ble_eq_true rfl, Nat.le_of_ble_eq_true rfl⟩, rfl, hts _ k1_135⟩ (kpS (As := .ref q5 :: []) hG hP hK hD hS hA hGA [1] (by decide) rfl) rfl rfl hl.1 rfl (lv_room (Nat.le_of_ble_eq_true rfl)) d_Plan_init_9 ⟨Nat.le_of_ble_eq_true rfl, Nat.le_of_ble_eq_true rfl⟩) (fun u9 H locs hP hD hS => ?_)
  have hP : va_P (dC, dI) vwCl ([(h0, .inr (4, [.null, .null, .null, .null, .null, .int 0]))] ++ wd_Zones g q5 (u9 0) z0) H := hP
  have hD : va_D A ([(h0, .inr (4, [.null, .null, .null, .null, .null, .int 0]))] ++ wd_Zones g q5 (u9 0) z0) := hD
  refine W.widen (k := 6) (n := 325) (by omega) (by omega) ?_
  refine va_putF (D := (dC, dI)) (ci := 4) (v := .ref q5) (ty := .object "AlarmMatrix$Zones") (C := "AlarmMatrix$Plan") (T := T_Plan) (N := 6) hx hb hts i_Plan t_Plan o_Plan n_Plan hown hK hP hD hS 0 rfl rfl 0 (by decide) (hts _ k1_200) (fun _ h9 => h9) rfl hnm rfl (by decide +kernel) rfl rfl (Nat.le_of_ble_eq_true rfl) d_Plan_init_12 (fun H locs hP hD hS => ?_)
  have hP : va_P (dC, dI) vwCl ([(h0, .inr (4, [.ref q5, .null, .null, .null, .null, .int 0]))] ++ wd_Zones g q5 (u9 0) z0) H := hP
  have hD : va_D A ([(h0, .inr (4, [.ref q5, .null, .null, .null, .null, .int 0]))] ++ wd_Zones g q5 (u9 0) z0) := hD
  refine lv_aload_n hx hb d_Plan_init_15 rfl (lv_at hl 0 rfl) ?_
  refine va_new (ci := 6) (fs := [.null, .null, .null, .null, .null, .null, .int 0, .null, .null, .null, .null, .null, .null]) (C := "AlarmMatrix$Acts") (T := T_Acts) (N := 13) hx hb hts i_Acts t_Acts o_Acts hown (hts _ k1_154) (hts _ k1_155) (hts _ k1_9) hK hP hD hS hA rfl (by decide) (Nat.le_of_ble_eq_true rfl) (Nat.le_of_ble_eq_true rfl) d_Plan_init_16 (fun q16 H hP hD hS => ?_)
  have hP : va_P (dC, dI) vwCl ([(h0, .inr (4, [.ref q5, .null, .null, .null, .null, .int 0]))] ++ wd_Zones g q5 (u9 0) z0 ++ [(q16, .inr (6, [.null, .null, .null, .null, .null, .null, .int 0, .null, .null, .null, .null, .null, .null]))]) H := hP
  have hD : va_D A ([(h0, .inr (4, [.ref q5, .null, .null, .null, .null, .int 0]))] ++ wd_Zones g q5 (u9 0) z0 ++ [(q16, .inr (6, [.null, .null, .null, .null, .null, .null, .int 0, .null, .null, .null, .null, .null, .null]))]) := hD
  refine W.widen (k := 7) (n := 338) (by omega) (by omega) ?_
  refine lv_dup hx hb d_Plan_init_19 rfl ?_
  refine kcc (wc := [(q16, .inr (6, [.null, .null, .null, .null, .null, .null, .int 0, .null, .null, .null, .null, .null, .null]))]) (wr := [(h0, .inr (4, [.ref q5, .null, .null, .null, .null, .int 0]))] ++ wd_Zones g q5 (u9 0) z0) (w1 := (fun u => wd_Acts g q16 (u 0) z0)) hP hD hS hA [7] [0, 1, 2, 3, 4, 5, 6] rfl rfl (by decide) (by decide) (va_runIN (host := "AlarmMatrix") (As := []) (rest := [.ref q16, .ref h0]) ⟨hx, hb, hml, hown, hts⟩ (c_Acts_init hG hGn l dC dI g H.size q16) ⟨va_cnB 0 hts (gdI k1_158) rfl rfl rfl (hGn A s hGA _ nw1_156) (hts _ k1_9) (by decide +kernel) ⟨Nat.le_of_ble_eq_true rfl, Nat.le_of_ble_eq_true rfl⟩, rfl, hts _ k1_157⟩ (kpS (As := .ref q16 :: []) hG hP hK hD hS hA hGA [7] (by decide) rfl) rfl rfl hl.1 rfl (lv_room (Nat.le_of_ble_eq_true rfl)) d_Plan_init_20 ⟨Nat.le_of_ble_eq_true rfl, Nat.le_of_ble_eq_true rfl⟩) (fun u20 H locs hP hD hS => ?_)
  have hP : va_P (dC, dI) vwCl ([(h0, .inr (4, [.ref q5, .null, .null, .null, .null, .int 0]))] ++ wd_Zones g q5 (u9 0) z0 ++ wd_Acts g q16 (u20 0) z0) H := hP
  have hD : va_D A ([(h0, .inr (4, [.ref q5, .null, .null, .null, .null, .int 0]))] ++ wd_Zones g q5 (u9 0) z0 ++ wd_Acts g q16 (u20 0) z0) := hD
  refine W.widen (k := 19) (n := 578) (by omega) (by omega) ?_
  refine va_putF (D := (dC, dI)) (ci := 4) (v := .ref q16) (ty := .object "AlarmMatrix$Acts") (C := "AlarmMatrix$Plan") (T := T_Plan) (N := 6) hx hb hts i_Plan t_Plan o_Plan n_Plan hown hK hP hD hS 0 rfl rfl 1 (by decide) (hts _ k1_201) (fun _ h9 => h9) rfl hnm rfl (by decide +kernel) rfl rfl (Nat.le_of_ble_eq_true rfl) d_Plan_init_23 (fun H locs hP hD hS => ?_)
  have hP : va_P (dC, dI) vwCl ([(h0, .inr (4, [.ref q5, .ref q16, .null, .null, .null, .int 0]))] ++ wd_Zones g q5 (u9 0) z0 ++ wd_Acts g q16 (u20 0) z0) H := hP
  have hD : va_D A ([(h0, .inr (4, [.ref q5, .ref q16, .null, .null, .null, .int 0]))] ++ wd_Zones g q5 (u9 0) z0 ++ wd_Acts g q16 (u20 0) z0) := hD
  refine lv_aload_n hx hb d_Plan_init_26 rfl (lv_at hl 0 rfl) ?_
  refine lv_bipush (v := (50 : Int32)) hx hb d_Plan_init_27 (by decide) ?_
  refine va_newa (atype := .int) (ty := .int) (a0 := (50, .inl (fun _ => 0))) hx hb (hts _ k1_79) rfl hK hP hD hS hA (fun cA => rfl) (by decide) (by decide) (by decide) (Nat.le_of_ble_eq_true rfl) (Nat.le_of_ble_eq_true rfl) d_Plan_init_29 (fun q29 cA H hK hP hD hS => ?_)
  obtain rfl := ty_one hK (i := 0) (j := 5) rfl rfl
  have hK := hK.sub (tys' := tyv g) [0, 1, 2, 3, 4] rfl
  have hP : va_P (dC, dI) vwCl ([(h0, .inr (4, [.ref q5, .ref q16, .null, .null, .null, .int 0]))] ++ wd_Zones g q5 (u9 0) z0 ++ wd_Acts g q16 (u20 0) z0 ++ [(q29, .inl (g 0, 50, .inl (fun _ => 0)))]) H := hP
  have hD : va_D A ([(h0, .inr (4, [.ref q5, .ref q16, .null, .null, .null, .int 0]))] ++ wd_Zones g q5 (u9 0) z0 ++ wd_Acts g q16 (u20 0) z0 ++ [(q29, .inl (g 0, 50, .inl (fun _ => 0)))]) := hD
  refine W.widen (k := 20) (n := 628) (by omega) (by omega) ?_
  refine va_putF (D := (dC, dI)) (ci := 4) (v := .ref q29) (ty := .array (.int)) (C := "AlarmMatrix$Plan") (T := T_Plan) (N := 6) hx hb hts i_Plan t_Plan o_Plan n_Plan hown hK hP hD hS 0 rfl rfl 2 (by decide) (hts _ k1_202) (fun _ h9 => h9) rfl hnm rfl (by decide +kernel) rfl rfl (Nat.le_of_ble_eq_true rfl) d_Plan_init_31 (fun H locs hP hD hS => ?_)
  have hP : va_P (dC, dI) vwCl ([(h0, .inr (4, [.ref q5, .ref q16, .ref q29, .null, .null, .int 0]))] ++ wd_Zones g q5 (u9 0) z0 ++ wd_Acts g q16 (u20 0) z0 ++ [(q29, .inl (g 0, 50, .inl (fun _ => 0)))]) H := hP
  have hD : va_D A ([(h0, .inr (4, [.ref q5, .ref q16, .ref q29, .null, .null, .int 0]))] ++ wd_Zones g q5 (u9 0) z0 ++ wd_Acts g q16 (u20 0) z0 ++ [(q29, .inl (g 0, 50, .inl (fun _ => 0)))]) := hD
  refine lv_aload_n hx hb d_Plan_init_34 rfl (lv_at hl 0 rfl) ?_
  refine lv_bipush (v := (50 : Int32)) hx hb d_Plan_init_35 (by decide) ?_
  refine va_newa (atype := .int) (ty := .int) (a0 := (50, .inl (fun _ => 0))) hx hb (hts _ k1_79) rfl hK hP hD hS hA (fun cA => rfl) (by decide) (by decide) (by decide) (Nat.le_of_ble_eq_true rfl) (Nat.le_of_ble_eq_true rfl) d_Plan_init_37 (fun q37 cA H hK hP hD hS => ?_)
  obtain rfl := ty_one hK (i := 0) (j := 5) rfl rfl
  have hK := hK.sub (tys' := tyv g) [0, 1, 2, 3, 4] rfl
  have hP : va_P (dC, dI) vwCl ([(h0, .inr (4, [.ref q5, .ref q16, .ref q29, .null, .null, .int 0]))] ++ wd_Zones g q5 (u9 0) z0 ++ wd_Acts g q16 (u20 0) z0 ++ [(q29, .inl (g 0, 50, .inl (fun _ => 0))), (q37, .inl (g 0, 50, .inl (fun _ => 0)))]) H := hP
  have hD : va_D A ([(h0, .inr (4, [.ref q5, .ref q16, .ref q29, .null, .null, .int 0]))] ++ wd_Zones g q5 (u9 0) z0 ++ wd_Acts g q16 (u20 0) z0 ++ [(q29, .inl (g 0, 50, .inl (fun _ => 0))), (q37, .inl (g 0, 50, .inl (fun _ => 0)))]) := hD
  refine W.widen (k := 21) (n := 678) (by omega) (by omega) ?_
  refine va_putF (D := (dC, dI)) (ci := 4) (v := .ref q37) (ty := .array (.int)) (C := "AlarmMatrix$Plan") (T := T_Plan) (N := 6) hx hb hts i_Plan t_Plan o_Plan n_Plan hown hK hP hD hS 0 rfl rfl 3 (by decide) (hts _ k1_203) (fun _ h9 => h9) rfl hnm rfl (by decide +kernel) rfl rfl (Nat.le_of_ble_eq_true rfl) d_Plan_init_39 (fun H locs hP hD hS => ?_)
  have hP : va_P (dC, dI) vwCl ([(h0, .inr (4, [.ref q5, .ref q16, .ref q29, .ref q37, .null, .int 0]))] ++ wd_Zones g q5 (u9 0) z0 ++ wd_Acts g q16 (u20 0) z0 ++ [(q29, .inl (g 0, 50, .inl (fun _ => 0))), (q37, .inl (g 0, 50, .inl (fun _ => 0)))]) H := hP
  have hD : va_D A ([(h0, .inr (4, [.ref q5, .ref q16, .ref q29, .ref q37, .null, .int 0]))] ++ wd_Zones g q5 (u9 0) z0 ++ wd_Acts g q16 (u20 0) z0 ++ [(q29, .inl (g 0, 50, .inl (fun _ => 0))), (q37, .inl (g 0, 50, .inl (fun _ => 0)))]) := hD
  refine lv_aload_n hx hb d_Plan_init_42 rfl (lv_at hl 0 rfl) ?_
  refine lv_bipush (v := (50 : Int32)) hx hb d_Plan_init_43 (by decide) ?_
  refine va_newa (atype := .int) (ty := .int) (a0 := (50, .inl (fun _ => 0))) hx hb (hts _ k1_79) rfl hK hP hD hS hA (fun cA => rfl) (by decide) (by decide) (by decide) (Nat.le_of_ble_eq_true rfl) (Nat.le_of_ble_eq_true rfl) d_Plan_init_45 (fun q45 cA H hK hP hD hS => ?_)
  obtain rfl := ty_one hK (i := 0) (j := 5) rfl rfl
  have hK := hK.sub (tys' := tyv g) [0, 1, 2, 3, 4] rfl
  have hP : va_P (dC, dI) vwCl ([(h0, .inr (4, [.ref q5, .ref q16, .ref q29, .ref q37, .null, .int 0]))] ++ wd_Zones g q5 (u9 0) z0 ++ wd_Acts g q16 (u20 0) z0 ++ [(q29, .inl (g 0, 50, .inl (fun _ => 0))), (q37, .inl (g 0, 50, .inl (fun _ => 0))), (q45, .inl (g 0, 50, .inl (fun _ => 0)))]) H := hP
  have hD : va_D A ([(h0, .inr (4, [.ref q5, .ref q16, .ref q29, .ref q37, .null, .int 0]))] ++ wd_Zones g q5 (u9 0) z0 ++ wd_Acts g q16 (u20 0) z0 ++ [(q29, .inl (g 0, 50, .inl (fun _ => 0))), (q37, .inl (g 0, 50, .inl (fun _ => 0))), (q45, .inl (g 0, 50, .inl (fun _ => 0)))]) := hD
  refine W.widen (k := 22) (n := 728) (by omega) (by omega) ?_
  refine va_putF (D := (dC, dI)) (ci := 4) (v := .ref q45) (ty := .array (.int)) (C := "AlarmMatrix$Plan") (T := T_Plan) (N := 6) hx hb hts i_Plan t_Plan o_Plan n_Plan hown hK hP hD hS 0 rfl rfl 4 (by decide) (hts _ k1_204) (fun _ h9 => h9) rfl hnm rfl (by decide +kernel) rfl rfl (Nat.le_of_ble_eq_true rfl) d_Plan_init_47 (fun H locs hP hD hS => ?_)
  have hP : va_P (dC, dI) vwCl ([(h0, .inr (4, [.ref q5, .ref q16, .ref q29, .ref q37, .ref q45, .int 0]))] ++ wd_Zones g q5 (u9 0) z0 ++ wd_Acts g q16 (u20 0) z0 ++ [(q29, .inl (g 0, 50, .inl (fun _ => 0))), (q37, .inl (g 0, 50, .inl (fun _ => 0))), (q45, .inl (g 0, 50, .inl (fun _ => 0)))]) H := hP
  have hD : va_D A ([(h0, .inr (4, [.ref q5, .ref q16, .ref q29, .ref q37, .ref q45, .int 0]))] ++ wd_Zones g q5 (u9 0) z0 ++ wd_Acts g q16 (u20 0) z0 ++ [(q29, .inl (g 0, 50, .inl (fun _ => 0))), (q37, .inl (g 0, 50, .inl (fun _ => 0))), (q45, .inl (g 0, 50, .inl (fun _ => 0)))]) := hD
  refine lv_aload_n hx hb d_Plan_init_50 rfl (lv_at hl 0 rfl) ?_
  refine lv_iconst (v := (0 : Int32)) hx hb d_Plan_init_51 (by decide) ?_
  refine va_put (D := (dC, dI)) (ci := 4) (v := .int (0 : Int32)) (ty := .int) (C := "AlarmMatrix$Plan") (T := T_Plan) (N := 6) hx hb hts i_Plan t_Plan o_Plan n_Plan hown hK hP hD hS 0 rfl rfl 5 (by decide) (hts _ k1_205) (fun _ h9 => h9) rfl (by decide +kernel) rfl rfl (Nat.le_of_ble_eq_true rfl) d_Plan_init_52 (fun H locs hP hD hS => ?_)
  have hP : va_P (dC, dI) vwCl ([(h0, .inr (4, [.ref q5, .ref q16, .ref q29, .ref q37, .ref q45, .int (0 : Int32)]))] ++ wd_Zones g q5 (u9 0) z0 ++ wd_Acts g q16 (u20 0) z0 ++ [(q29, .inl (g 0, 50, .inl (fun _ => 0))), (q37, .inl (g 0, 50, .inl (fun _ => 0))), (q45, .inl (g 0, 50, .inl (fun _ => 0)))]) H := hP
  have hD : va_D A ([(h0, .inr (4, [.ref q5, .ref q16, .ref q29, .ref q37, .ref q45, .int (0 : Int32)]))] ++ wd_Zones g q5 (u9 0) z0 ++ wd_Acts g q16 (u20 0) z0 ++ [(q29, .inl (g 0, 50, .inl (fun _ => 0))), (q37, .inl (g 0, 50, .inl (fun _ => 0))), (q45, .inl (g 0, 50, .inl (fun _ => 0)))]) := hD
  obtain ⟨u, hu⟩ : ∃ u : Nat → Nat → Nat, u = (fun j => bif Nat.beq j 0 then (fun k => ([q5, q16, q29, q37, q45, 0] : List Nat).getD k 0) else bif Nat.beq j 1 then (fun k => ([((u9 0) 0), ((u9 0) 1), ((u9 0) 2), ((u9 0) 3), ((u9 0) 4)] : List Nat).getD k 0) else bif Nat.beq j 2 then (fun k => ([((u20 0) 0), ((u20 0) 1), ((u20 0) 2), ((u20 0) 3), ((u20 0) 4), ((u20 0) 5), 0, ((u20 0) 7), ((u20 0) 8), ((u20 0) 9), ((u20 0) 10), ((u20 0) 11), ((u20 0) 12)] : List Nat).getD k 0) else (fun _ => 0)) := ⟨_, rfl⟩
  have hP9 : va_P (dC, dI) vwCl (wd_Plan g h0 (u 0) z0 ++ wd_Zones g ((u 0) 0) (u 1) z0 ++ wd_Acts g ((u 0) 1) (u 2) z0) H := by rw [hu]; exact hP.sub [0, 20, 21, 22, 1, 2, 3, 4, 5, 6, 7, 8, 9, 10, 11, 12, 13, 14, 15, 16, 17, 18, 19] rfl
  have hD9 : va_D A (wd_Plan g h0 (u 0) z0 ++ wd_Zones g ((u 0) 0) (u 1) z0 ++ wd_Acts g ((u 0) 1) (u 2) z0) := by rw [hu]; exact hD.sub [0, 20, 21, 22, 1, 2, 3, 4, 5, 6, 7, 8, 9, 10, 11, 12, 13, 14, 15, 16, 17, 18, 19] (by decide) rfl
  rw [hQ]
  exact krc u hx hb hr hlocks hAe hP9 hK hD9 hS d_Plan_init_55
abbrev b_Points_init : ByteArray := prog_6_method_1_code
abbrev y_Points_init : MethodName := ⟨"AlarmMatrix$Points", "<init>", "(I)V"⟩
theorem d_Points_init_0 : decode b_Points_init 0 = .ok (.aload_n 0, 1) := by decide +kernel
theorem d_Points_init_1 : decode b_Points_init 1 = .ok (.invokespecial 3, 3) := by decide +kernel
theorem d_Points_init_4 : decode b_Points_init 4 = .ok (.aload_n 0, 1) := by decide +kernel
theorem d_Points_init_5 : decode b_Points_init 5 = .ok (.iload_n 1, 1) := by decide +kernel
theorem d_Points_init_6 : decode b_Points_init 6 = .ok (.putfield 9, 3) := by decide +kernel
theorem d_Points_init_9 : decode b_Points_init 9 = .ok (.aload_n 0, 1) := by decide +kernel
theorem d_Points_init_10 : decode b_Points_init 10 = .ok (.iload_n 1, 1) := by decide +kernel
theorem d_Points_init_11 : decode b_Points_init 11 = .ok (.newarray .int, 2) := by decide +kernel
theorem d_Points_init_13 : decode b_Points_init 13 = .ok (.putfield 15, 3) := by decide +kernel
theorem d_Points_init_16 : decode b_Points_init 16 = .ok (.aload_n 0, 1) := by decide +kernel
theorem d_Points_init_17 : decode b_Points_init 17 = .ok (.iload_n 1, 1) := by decide +kernel
theorem d_Points_init_18 : decode b_Points_init 18 = .ok (.newarray .int, 2) := by decide +kernel
theorem d_Points_init_20 : decode b_Points_init 20 = .ok (.putfield 19, 3) := by decide +kernel
theorem d_Points_init_23 : decode b_Points_init 23 = .ok (.aload_n 0, 1) := by decide +kernel
theorem d_Points_init_24 : decode b_Points_init 24 = .ok (.iload_n 1, 1) := by decide +kernel
theorem d_Points_init_25 : decode b_Points_init 25 = .ok (.newarray .boolean, 2) := by decide +kernel
theorem d_Points_init_27 : decode b_Points_init 27 = .ok (.putfield 22, 3) := by decide +kernel
theorem d_Points_init_30 : decode b_Points_init 30 = .ok (.aload_n 0, 1) := by decide +kernel
theorem d_Points_init_31 : decode b_Points_init 31 = .ok (.iload_n 1, 1) := by decide +kernel
theorem d_Points_init_32 : decode b_Points_init 32 = .ok (.newarray .boolean, 2) := by decide +kernel
theorem d_Points_init_34 : decode b_Points_init 34 = .ok (.putfield 26, 3) := by decide +kernel
theorem d_Points_init_37 : decode b_Points_init 37 = .ok (.aload_n 0, 1) := by decide +kernel
theorem d_Points_init_38 : decode b_Points_init 38 = .ok (.iload_n 1, 1) := by decide +kernel
theorem d_Points_init_39 : decode b_Points_init 39 = .ok (.newarray .boolean, 2) := by decide +kernel
theorem d_Points_init_41 : decode b_Points_init 41 = .ok (.putfield 29, 3) := by decide +kernel
theorem d_Points_init_44 : decode b_Points_init 44 = .ok (.return_, 1) := by decide +kernel
abbrev rm_Points_init : Room := { frames := 1, cells := 5, slots := 1000, locals := 12 }
set_option maxHeartbeats 4000000 in
set_option maxRecDepth 100000 in
theorem c_Points_init {G : (Nat → Prop) → State → Prop} (hG : gok G) (hGn : gN G) (l : Launch) (dC : Nat → ClassId) (dI : Nat → Nat → Nat) (g : Nat → ClassId) (sz : Nat) (h0 : Nat) (n : Nat) (hn : n ≤ 200) : Met l y_Points_init (.code y_Points_init b_Points_init 2 none :: gw) rm_Points_init (kq (dC, dI) vwCl (tyv g) G [.ref h0, .int (nI n)] sz ([(h0, .inr (7, [.int 0, .null, .null, .null, .null, .null]))])) (kqc (dC, dI) vwCl (tyv g) ([(h0, .inr (7, [.int 0, .null, .null, .null, .null, .null]))]) (fun u => wd_Points g h0 (u 0) (sc z0 0 (nI n)) n) sz) 5 1000 (va_A ([(h0, .inr (7, [.int 0, .null, .null, .null, .null, .null]))]) sz) := by
  refine km (Qc := fun sz => kqc (dC, dI) vwCl (tyv g) ([(h0, .inr (7, [.int 0, .null, .null, .null, .null, .null]))]) (fun u => wd_Points g h0 (u 0) (sc z0 0 (nI n)) n) sz) (cc := b_Points_init) (maxL := 2) (ret := none) (by decide) rfl (Nat.le_of_ble_eq_true rfl) ?_
  intro p e s m args below meth c Q hQ hx hb hr hts hown hlocks hml hnm H locs A hAe hA hP hK hD hS hGA ls hl
  have hl : lv_has ls 2 [(0, .ref h0), (1, .int (nI n))] := hl
  have hts : ∀ w ∈ gw, w.before args s = true := fun w h => hts w (List.mem_cons_of_mem _ h)
  have hown : s.vm.findClass "AlarmMatrix$Points" = some m.cls := hown
  refine lv_aload_n hx hb d_Points_init_0 rfl (lv_at hl 0 rfl) ?_
  refine W.objInit hx hb hown (hts _ k1_59) (hts _ k1_29) (hts _ k1_30) rfl (by rw [hml]; exact hl.1) rfl d_Points_init_1 (Nat.le_of_ble_eq_true rfl) (Nat.le_of_ble_eq_true rfl) ?_
  refine W.eq (g2 := F0 m 4 ls []) rfl ?_
  refine lv_aload_n hx hb d_Points_init_4 rfl (lv_at hl 0 rfl) ?_
  refine lv_iload_n hx hb d_Points_init_5 rfl (lv_at hl 1 rfl) ?_
  refine va_putF (D := (dC, dI)) (ci := 7) (v := .int (nI n)) (ty := .int) (C := "AlarmMatrix$Points") (T := T_Points) (N := 6) hx hb hts i_Points t_Points o_Points n_Points hown hK hP hD hS 0 rfl rfl 0 (by decide) (hts _ k1_60) (fun _ h9 => h9) rfl hnm rfl (by decide +kernel) rfl rfl (Nat.le_of_ble_eq_true rfl) d_Points_init_6 (fun H locs hP hD hS => ?_)
  have hP : va_P (dC, dI) vwCl ([(h0, .inr (7, [.int (nI n), .null, .null, .null, .null, .null]))]) H := hP
  have hD : va_D A ([(h0, .inr (7, [.int (nI n), .null, .null, .null, .null, .null]))]) := hD
  refine lv_aload_n hx hb d_Points_init_9 rfl (lv_at hl 0 rfl) ?_
  refine lv_iload_n hx hb d_Points_init_10 rfl (lv_at hl 1 rfl) ?_
  refine va_newa (atype := .int) (ty := .int) (a0 := (n, .inl (fun _ => 0))) hx hb (hts _ k1_79) rfl hK hP hD hS hA (fun cA => rfl) (nI_pos (by omega)) (nI_clamp (by omega)) (by simp only [componentBytes]; omega) (Nat.le_of_ble_eq_true rfl) (by show 0 + n ≤ 1000; omega) d_Points_init_11 (fun q11 cA H hK hP hD hS => ?_)
  obtain rfl := ty_one hK (i := 0) (j := 5) rfl rfl
  have hK := hK.sub (tys' := tyv g) [0, 1, 2, 3, 4] rfl
  have hP : va_P (dC, dI) vwCl ([(h0, .inr (7, [.int (nI n), .null, .null, .null, .null, .null])), (q11, .inl (g 0, n, .inl (fun _ => 0)))]) H := hP
  have hD : va_D A ([(h0, .inr (7, [.int (nI n), .null, .null, .null, .null, .null])), (q11, .inl (g 0, n, .inl (fun _ => 0)))]) := hD
  refine W.widen (k := 1) (n := 200) (by omega) (by omega) ?_
  refine va_putF (D := (dC, dI)) (ci := 7) (v := .ref q11) (ty := .array (.int)) (C := "AlarmMatrix$Points") (T := T_Points) (N := 6) hx hb hts i_Points t_Points o_Points n_Points hown hK hP hD hS 0 rfl rfl 1 (by decide) (hts _ k1_61) (fun _ h9 => h9) rfl hnm rfl (by decide +kernel) rfl rfl (Nat.le_of_ble_eq_true rfl) d_Points_init_13 (fun H locs hP hD hS => ?_)
  have hP : va_P (dC, dI) vwCl ([(h0, .inr (7, [.int (nI n), .ref q11, .null, .null, .null, .null])), (q11, .inl (g 0, n, .inl (fun _ => 0)))]) H := hP
  have hD : va_D A ([(h0, .inr (7, [.int (nI n), .ref q11, .null, .null, .null, .null])), (q11, .inl (g 0, n, .inl (fun _ => 0)))]) := hD
  refine lv_aload_n hx hb d_Points_init_16 rfl (lv_at hl 0 rfl) ?_
  refine lv_iload_n hx hb d_Points_init_17 rfl (lv_at hl 1 rfl) ?_
  refine va_newa (atype := .int) (ty := .int) (a0 := (n, .inl (fun _ => 0))) hx hb (hts _ k1_79) rfl hK hP hD hS hA (fun cA => rfl) (nI_pos (by omega)) (nI_clamp (by omega)) (by simp only [componentBytes]; omega) (Nat.le_of_ble_eq_true rfl) (by show 200 + n ≤ 1000; omega) d_Points_init_18 (fun q18 cA H hK hP hD hS => ?_)
  obtain rfl := ty_one hK (i := 0) (j := 5) rfl rfl
  have hK := hK.sub (tys' := tyv g) [0, 1, 2, 3, 4] rfl
  have hP : va_P (dC, dI) vwCl ([(h0, .inr (7, [.int (nI n), .ref q11, .null, .null, .null, .null])), (q11, .inl (g 0, n, .inl (fun _ => 0))), (q18, .inl (g 0, n, .inl (fun _ => 0)))]) H := hP
  have hD : va_D A ([(h0, .inr (7, [.int (nI n), .ref q11, .null, .null, .null, .null])), (q11, .inl (g 0, n, .inl (fun _ => 0))), (q18, .inl (g 0, n, .inl (fun _ => 0)))]) := hD
  refine W.widen (k := 2) (n := 400) (by omega) (by omega) ?_
  refine va_putF (D := (dC, dI)) (ci := 7) (v := .ref q18) (ty := .array (.int)) (C := "AlarmMatrix$Points") (T := T_Points) (N := 6) hx hb hts i_Points t_Points o_Points n_Points hown hK hP hD hS 0 rfl rfl 2 (by decide) (hts _ k1_62) (fun _ h9 => h9) rfl hnm rfl (by decide +kernel) rfl rfl (Nat.le_of_ble_eq_true rfl) d_Points_init_20 (fun H locs hP hD hS => ?_)
  have hP : va_P (dC, dI) vwCl ([(h0, .inr (7, [.int (nI n), .ref q11, .ref q18, .null, .null, .null])), (q11, .inl (g 0, n, .inl (fun _ => 0))), (q18, .inl (g 0, n, .inl (fun _ => 0)))]) H := hP
  have hD : va_D A ([(h0, .inr (7, [.int (nI n), .ref q11, .ref q18, .null, .null, .null])), (q11, .inl (g 0, n, .inl (fun _ => 0))), (q18, .inl (g 0, n, .inl (fun _ => 0)))]) := hD
  refine lv_aload_n hx hb d_Points_init_23 rfl (lv_at hl 0 rfl) ?_
  refine lv_iload_n hx hb d_Points_init_24 rfl (lv_at hl 1 rfl) ?_
  refine va_newa (atype := .boolean) (ty := .boolean) (a0 := (n, .inl (fun _ => 0))) hx hb (hts _ k1_80) rfl hK hP hD hS hA (fun cA => rfl) (nI_pos (by omega)) (nI_clamp (by omega)) (by simp only [componentBytes]; omega) (Nat.le_of_ble_eq_true rfl) (by show 400 + n ≤ 1000; omega) d_Points_init_25 (fun q25 cA H hK hP hD hS => ?_)
  obtain rfl := ty_one hK (i := 1) (j := 5) rfl rfl
  have hK := hK.sub (tys' := tyv g) [0, 1, 2, 3, 4] rfl
  have hP : va_P (dC, dI) vwCl ([(h0, .inr (7, [.int (nI n), .ref q11, .ref q18, .null, .null, .null])), (q11, .inl (g 0, n, .inl (fun _ => 0))), (q18, .inl (g 0, n, .inl (fun _ => 0))), (q25, .inl (g 1, n, .inl (fun _ => 0)))]) H := hP
  have hD : va_D A ([(h0, .inr (7, [.int (nI n), .ref q11, .ref q18, .null, .null, .null])), (q11, .inl (g 0, n, .inl (fun _ => 0))), (q18, .inl (g 0, n, .inl (fun _ => 0))), (q25, .inl (g 1, n, .inl (fun _ => 0)))]) := hD
  refine W.widen (k := 3) (n := 600) (by omega) (by omega) ?_
  refine va_putF (D := (dC, dI)) (ci := 7) (v := .ref q25) (ty := .array (.boolean)) (C := "AlarmMatrix$Points") (T := T_Points) (N := 6) hx hb hts i_Points t_Points o_Points n_Points hown hK hP hD hS 0 rfl rfl 3 (by decide) (hts _ k1_63) (fun _ h9 => h9) rfl hnm rfl (by decide +kernel) rfl rfl (Nat.le_of_ble_eq_true rfl) d_Points_init_27 (fun H locs hP hD hS => ?_)
  have hP : va_P (dC, dI) vwCl ([(h0, .inr (7, [.int (nI n), .ref q11, .ref q18, .ref q25, .null, .null])), (q11, .inl (g 0, n, .inl (fun _ => 0))), (q18, .inl (g 0, n, .inl (fun _ => 0))), (q25, .inl (g 1, n, .inl (fun _ => 0)))]) H := hP
  have hD : va_D A ([(h0, .inr (7, [.int (nI n), .ref q11, .ref q18, .ref q25, .null, .null])), (q11, .inl (g 0, n, .inl (fun _ => 0))), (q18, .inl (g 0, n, .inl (fun _ => 0))), (q25, .inl (g 1, n, .inl (fun _ => 0)))]) := hD
  refine lv_aload_n hx hb d_Points_init_30 rfl (lv_at hl 0 rfl) ?_
  refine lv_iload_n hx hb d_Points_init_31 rfl (lv_at hl 1 rfl) ?_
  refine va_newa (atype := .boolean) (ty := .boolean) (a0 := (n, .inl (fun _ => 0))) hx hb (hts _ k1_80) rfl hK hP hD hS hA (fun cA => rfl) (nI_pos (by omega)) (nI_clamp (by omega)) (by simp only [componentBytes]; omega) (Nat.le_of_ble_eq_true rfl) (by show 600 + n ≤ 1000; omega) d_Points_init_32 (fun q32 cA H hK hP hD hS => ?_)
  obtain rfl := ty_one hK (i := 1) (j := 5) rfl rfl
  have hK := hK.sub (tys' := tyv g) [0, 1, 2, 3, 4] rfl
  have hP : va_P (dC, dI) vwCl ([(h0, .inr (7, [.int (nI n), .ref q11, .ref q18, .ref q25, .null, .null])), (q11, .inl (g 0, n, .inl (fun _ => 0))), (q18, .inl (g 0, n, .inl (fun _ => 0))), (q25, .inl (g 1, n, .inl (fun _ => 0))), (q32, .inl (g 1, n, .inl (fun _ => 0)))]) H := hP
  have hD : va_D A ([(h0, .inr (7, [.int (nI n), .ref q11, .ref q18, .ref q25, .null, .null])), (q11, .inl (g 0, n, .inl (fun _ => 0))), (q18, .inl (g 0, n, .inl (fun _ => 0))), (q25, .inl (g 1, n, .inl (fun _ => 0))), (q32, .inl (g 1, n, .inl (fun _ => 0)))]) := hD
  refine W.widen (k := 4) (n := 800) (by omega) (by omega) ?_
  refine va_putF (D := (dC, dI)) (ci := 7) (v := .ref q32) (ty := .array (.boolean)) (C := "AlarmMatrix$Points") (T := T_Points) (N := 6) hx hb hts i_Points t_Points o_Points n_Points hown hK hP hD hS 0 rfl rfl 4 (by decide) (hts _ k1_64) (fun _ h9 => h9) rfl hnm rfl (by decide +kernel) rfl rfl (Nat.le_of_ble_eq_true rfl) d_Points_init_34 (fun H locs hP hD hS => ?_)
  have hP : va_P (dC, dI) vwCl ([(h0, .inr (7, [.int (nI n), .ref q11, .ref q18, .ref q25, .ref q32, .null])), (q11, .inl (g 0, n, .inl (fun _ => 0))), (q18, .inl (g 0, n, .inl (fun _ => 0))), (q25, .inl (g 1, n, .inl (fun _ => 0))), (q32, .inl (g 1, n, .inl (fun _ => 0)))]) H := hP
  have hD : va_D A ([(h0, .inr (7, [.int (nI n), .ref q11, .ref q18, .ref q25, .ref q32, .null])), (q11, .inl (g 0, n, .inl (fun _ => 0))), (q18, .inl (g 0, n, .inl (fun _ => 0))), (q25, .inl (g 1, n, .inl (fun _ => 0))), (q32, .inl (g 1, n, .inl (fun _ => 0)))]) := hD
  refine lv_aload_n hx hb d_Points_init_37 rfl (lv_at hl 0 rfl) ?_
  refine lv_iload_n hx hb d_Points_init_38 rfl (lv_at hl 1 rfl) ?_
  refine va_newa (atype := .boolean) (ty := .boolean) (a0 := (n, .inl (fun _ => 0))) hx hb (hts _ k1_80) rfl hK hP hD hS hA (fun cA => rfl) (nI_pos (by omega)) (nI_clamp (by omega)) (by simp only [componentBytes]; omega) (Nat.le_of_ble_eq_true rfl) (by show 800 + n ≤ 1000; omega) d_Points_init_39 (fun q39 cA H hK hP hD hS => ?_)
  obtain rfl := ty_one hK (i := 1) (j := 5) rfl rfl
  have hK := hK.sub (tys' := tyv g) [0, 1, 2, 3, 4] rfl
  have hP : va_P (dC, dI) vwCl ([(h0, .inr (7, [.int (nI n), .ref q11, .ref q18, .ref q25, .ref q32, .null])), (q11, .inl (g 0, n, .inl (fun _ => 0))), (q18, .inl (g 0, n, .inl (fun _ => 0))), (q25, .inl (g 1, n, .inl (fun _ => 0))), (q32, .inl (g 1, n, .inl (fun _ => 0))), (q39, .inl (g 1, n, .inl (fun _ => 0)))]) H := hP
  have hD : va_D A ([(h0, .inr (7, [.int (nI n), .ref q11, .ref q18, .ref q25, .ref q32, .null])), (q11, .inl (g 0, n, .inl (fun _ => 0))), (q18, .inl (g 0, n, .inl (fun _ => 0))), (q25, .inl (g 1, n, .inl (fun _ => 0))), (q32, .inl (g 1, n, .inl (fun _ => 0))), (q39, .inl (g 1, n, .inl (fun _ => 0)))]) := hD
  refine W.widen (k := 5) (n := 1000) (by omega) (by omega) ?_
  refine va_putF (D := (dC, dI)) (ci := 7) (v := .ref q39) (ty := .array (.boolean)) (C := "AlarmMatrix$Points") (T := T_Points) (N := 6) hx hb hts i_Points t_Points o_Points n_Points hown hK hP hD hS 0 rfl rfl 5 (by decide) (hts _ k1_65) (fun _ h9 => h9) rfl hnm rfl (by decide +kernel) rfl rfl (Nat.le_of_ble_eq_true rfl) d_Points_init_41 (fun H locs hP hD hS => ?_)
  have hP : va_P (dC, dI) vwCl ([(h0, .inr (7, [.int (nI n), .ref q11, .ref q18, .ref q25, .ref q32, .ref q39])), (q11, .inl (g 0, n, .inl (fun _ => 0))), (q18, .inl (g 0, n, .inl (fun _ => 0))), (q25, .inl (g 1, n, .inl (fun _ => 0))), (q32, .inl (g 1, n, .inl (fun _ => 0))), (q39, .inl (g 1, n, .inl (fun _ => 0)))]) H := hP
  have hD : va_D A ([(h0, .inr (7, [.int (nI n), .ref q11, .ref q18, .ref q25, .ref q32, .ref q39])), (q11, .inl (g 0, n, .inl (fun _ => 0))), (q18, .inl (g 0, n, .inl (fun _ => 0))), (q25, .inl (g 1, n, .inl (fun _ => 0))), (q32, .inl (g 1, n, .inl (fun _ => 0))), (q39, .inl (g 1, n, .inl (fun _ => 0)))]) := hD
  obtain ⟨u, hu⟩ : ∃ u : Nat → Nat → Nat, u = (fun j => bif Nat.beq j 0 then (fun k => ([0, q11, q18, q25, q32, q39] : List Nat).getD k 0) else (fun _ => 0)) := ⟨_, rfl⟩
  have hP9 : va_P (dC, dI) vwCl (wd_Points g h0 (u 0) (sc z0 0 (nI n)) n) H := by rw [hu]; exact hP.sub [0, 1, 2, 3, 4, 5] rfl
  have hD9 : va_D A (wd_Points g h0 (u 0) (sc z0 0 (nI n)) n) := by rw [hu]; exact hD.sub [0, 1, 2, 3, 4, 5] (by decide) rfl
  rw [hQ]
  exact krc u hx hb hr hlocks hAe hP9 hK hD9 hS d_Points_init_44

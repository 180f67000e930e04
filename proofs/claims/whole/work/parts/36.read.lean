abbrev b_Words_init : ByteArray := prog_9_method_1_code
abbrev y_Words_init : MethodName := ⟨"AlarmMatrix$Words", "<init>", "(LAlarmMatrix$Text;)V"⟩
theorem d_Words_init_0 : decode b_Words_init 0 = .ok (.aload_n 0, 1) := by decide +kernel
theorem d_Words_init_1 : decode b_Words_init 1 = .ok (.invokespecial 3, 3) := by decide +kernel
theorem d_Words_init_4 : decode b_Words_init 4 = .ok (.aload_n 0, 1) := by decide +kernel
theorem d_Words_init_5 : decode b_Words_init 5 = .ok (.iconst 0, 1) := by decide +kernel
theorem d_Words_init_6 : decode b_Words_init 6 = .ok (.putfield 9, 3) := by decide +kernel
theorem d_Words_init_9 : decode b_Words_init 9 = .ok (.aload_n 0, 1) := by decide +kernel
theorem d_Words_init_10 : decode b_Words_init 10 = .ok (.iconst 0, 1) := by decide +kernel
theorem d_Words_init_11 : decode b_Words_init 11 = .ok (.putfield 15, 3) := by decide +kernel
theorem d_Words_init_14 : decode b_Words_init 14 = .ok (.aload_n 0, 1) := by decide +kernel
theorem d_Words_init_15 : decode b_Words_init 15 = .ok (.iconst (-1), 1) := by decide +kernel
theorem d_Words_init_16 : decode b_Words_init 16 = .ok (.putfield 18, 3) := by decide +kernel
theorem d_Words_init_19 : decode b_Words_init 19 = .ok (.aload_n 0, 1) := by decide +kernel
theorem d_Words_init_20 : decode b_Words_init 20 = .ok (.aload_n 1, 1) := by decide +kernel
theorem d_Words_init_21 : decode b_Words_init 21 = .ok (.putfield 21, 3) := by decide +kernel
theorem d_Words_init_24 : decode b_Words_init 24 = .ok (.return_, 1) := by decide +kernel
abbrev rm_Words_init : Room := { frames := 1, cells := 0, slots := 0, locals := 12 }
set_option maxHeartbeats 4000000 in
set_option maxRecDepth 100000 in
theorem c_Words_init {G : (Nat → Prop) → State → Prop} (hG : gok G) (hGn : gN G) (l : Launch) (dC : Nat → ClassId) (dI : Nat → Nat → Nat) (g : Nat → ClassId) (sz : Nat) (h0 : Nat) (ht : Nat) : Met l y_Words_init (.code y_Words_init b_Words_init 2 none :: gw) rm_Words_init (kq (dC, dI) vwCl (tyv g) G [.ref h0, .ref ht] sz ([(h0, .inr (2, [.null, .int 0, .int 0, .int 0]))])) (kqc (dC, dI) vwCl (tyv g) ([(h0, .inr (2, [.null, .int 0, .int 0, .int 0]))]) (fun u => wd_Words g h0 (fun _ => ht) (sc z0 3 (-1))) sz) 0 0 (va_A ([(h0, .inr (2, [.null, .int 0, .int 0, .int 0]))]) sz) := by
  refine km (Qc := fun sz => kqc (dC, dI) vwCl (tyv g) ([(h0, .inr (2, [.null, .int 0, .int 0, .int 0]))]) (fun u => wd_Words g h0 (fun _ => ht) (sc z0 3 (-1))) sz) (cc := b_Words_init) (maxL := 2) (ret := none) (by decide) rfl (Nat.le_of_ble_eq_true rfl) ?_
  intro p e s m args below meth c Q hQ hx hb hr hts hown hlocks hml hnm H locs A hAe hA hP hK hD hS hGA ls hl
  have hl : lv_has ls 2 [(0, .ref h0), (1, .ref ht)] := hl
  have hts : ∀ w ∈ gw, w.before args s = true := fun w h => hts w (List.mem_cons_of_mem _ h)
  have hown : s.vm.findClass "AlarmMatrix$Words" = some m.cls := hown
  refine lv_aload_n hx hb d_Words_init_0 rfl (lv_at hl 0 rfl) ?_
  refine W.objInit hx hb hown (hts _ k2_20) (hts _ k1_29) (hts _ k1_30) rfl (by rw [hml]; exact hl.1) rfl d_Words_init_1 (Nat.le_of_ble_eq_true rfl) (Nat.le_of_ble_eq_true rfl) ?_
  refine W.eq (g2 := F0 m 4 ls []) rfl ?_
  refine lv_aload_n hx hb d_Words_init_4 rfl (lv_at hl 0 rfl) ?_
  refine lv_iconst (v := (0 : Int32)) hx hb d_Words_init_5 (by decide) ?_
  refine va_put (D := (dC, dI)) (ci := 2) (v := .int (0 : Int32)) (ty := .int) (C := "AlarmMatrix$Words") (T := T_Words) (N := 4) hx hb hts i_Words t_Words o_Words n_Words hown hK hP hD hS 0 rfl rfl 1 (by decide) (hts _ k2_22) (fun _ h9 => h9) rfl (by decide +kernel) rfl rfl (Nat.le_of_ble_eq_true rfl) d_Words_init_6 (fun H locs hP hD hS => ?_)
  have hP : va_P (dC, dI) vwCl ([(h0, .inr (2, [.null, .int (0 : Int32), .int 0, .int 0]))]) H := hP
  have hD : va_D A ([(h0, .inr (2, [.null, .int (0 : Int32), .int 0, .int 0]))]) := hD
  refine lv_aload_n hx hb d_Words_init_9 rfl (lv_at hl 0 rfl) ?_
  refine lv_iconst (v := (0 : Int32)) hx hb d_Words_init_10 (by decide) ?_
  refine va_put (D := (dC, dI)) (ci := 2) (v := .int (0 : Int32)) (ty := .int) (C := "AlarmMatrix$Words") (T := T_Words) (N := 4) hx hb hts i_Words t_Words o_Words n_Words hown hK hP hD hS 0 rfl rfl 2 (by decide) (hts _ k2_23) (fun _ h9 => h9) rfl (by decide +kernel) rfl rfl (Nat.le_of_ble_eq_true rfl) d_Words_init_11 (fun H locs hP hD hS => ?_)
  have hP : va_P (dC, dI) vwCl ([(h0, .inr (2, [.null, .int (0 : Int32), .int (0 : Int32), .int 0]))]) H := hP
  have hD : va_D A ([(h0, .inr (2, [.null, .int (0 : Int32), .int (0 : Int32), .int 0]))]) := hD
  refine lv_aload_n hx hb d_Words_init_14 rfl (lv_at hl 0 rfl) ?_
  refine lv_iconst (v := (-1 : Int32)) hx hb d_Words_init_15 (by decide) ?_
  refine va_put (D := (dC, dI)) (ci := 2) (v := .int (-1 : Int32)) (ty := .int) (C := "AlarmMatrix$Words") (T := T_Words) (N := 4) hx hb hts i_Words t_Words o_Words n_Words hown hK hP hD hS 0 rfl rfl 3 (by decide) (hts _ k2_24) (fun _ h9 => h9) rfl (by decide +kernel) rfl rfl (Nat.le_of_ble_eq_true rfl) d_Words_init_16 (fun H locs hP hD hS => ?_)
  have hP : va_P (dC, dI) vwCl ([(h0, .inr (2, [.null, .int (0 : Int32), .int (0 : Int32), .int (-1 : Int32)]))]) H := hP
  have hD : va_D A ([(h0, .inr (2, [.null, .int (0 : Int32), .int (0 : Int32), .int (-1 : Int32)]))]) := hD
  refine lv_aload_n hx hb d_Words_init_19 rfl (lv_at hl 0 rfl) ?_
  refine lv_aload_n hx hb d_Words_init_20 rfl (lv_at hl 1 rfl) ?_
  refine va_putF (D := (dC, dI)) (ci := 2) (v := .ref ht) (ty := .object "AlarmMatrix$Text") (C := "AlarmMatrix$Words") (T := T_Words) (N := 4) hx hb hts i_Words t_Words o_Words n_Words hown hK hP hD hS 0 rfl rfl 0 (by decide) (hts _ k2_21) (fun _ h9 => h9) rfl hnm rfl (by decide +kernel) rfl rfl (Nat.le_of_ble_eq_true rfl) d_Words_init_21 (fun H locs hP hD hS => ?_)
  have hP : va_P (dC, dI) vwCl ([(h0, .inr (2, [.ref ht, .int (0 : Int32), .int (0 : Int32), .int (-1 : Int32)]))]) H := hP
  have hD : va_D A ([(h0, .inr (2, [.ref ht, .int (0 : Int32), .int (0 : Int32), .int (-1 : Int32)]))]) := hD
  obtain ⟨u, hu⟩ : ∃ u : Nat → Nat → Nat, u = (fun j => bif Nat.beq j 0 then (fun k => ([ht, 0, 0, 0] : List Nat).getD k 0) else (fun _ => 0)) := ⟨_, rfl⟩
  have hP9 : va_P (dC, dI) vwCl (wd_Words g h0 (fun _ => ht) (sc z0 3 (-1))) H := by exact hP.sub [0] rfl
  have hD9 : va_D A (wd_Words g h0 (fun _ => ht) (sc z0 3 (-1))) := by exact hD.sub [0] (by decide) rfl
  rw [hQ]
  exact krc u hx hb hr hlocks hAe hP9 hK hD9 hS d_Words_init_24
abbrev b_Reader_init : ByteArray := prog_7_method_1_code
abbrev y_Reader_init : MethodName := ⟨"AlarmMatrix$Reader", "<init>", "(LAlarmMatrix$Text;LAlarmMatrix$Plan;I)V"⟩
theorem d_Reader_init_0 : decode b_Reader_init 0 = .ok (.aload_n 0, 1) := by decide +kernel
theorem d_Reader_init_1 : decode b_Reader_init 1 = .ok (.invokespecial 3, 3) := by decide +kernel
theorem d_Reader_init_4 : decode b_Reader_init 4 = .ok (.aload_n 0, 1) := by decide +kernel
theorem d_Reader_init_5 : decode b_Reader_init 5 = .ok (.new 9, 3) := by decide +kernel
theorem d_Reader_init_8 : decode b_Reader_init 8 = .ok (.dup, 1) := by decide +kernel
theorem d_Reader_init_9 : decode b_Reader_init 9 = .ok (.aload_n 1, 1) := by decide +kernel
theorem d_Reader_init_10 : decode b_Reader_init 10 = .ok (.invokespecial 11, 3) := by decide +kernel
theorem d_Reader_init_13 : decode b_Reader_init 13 = .ok (.putfield 14, 3) := by decide +kernel
theorem d_Reader_init_16 : decode b_Reader_init 16 = .ok (.aload_n 0, 1) := by decide +kernel
theorem d_Reader_init_17 : decode b_Reader_init 17 = .ok (.aload_n 2, 1) := by decide +kernel
theorem d_Reader_init_18 : decode b_Reader_init 18 = .ok (.putfield 20, 3) := by decide +kernel
theorem d_Reader_init_21 : decode b_Reader_init 21 = .ok (.aload_n 0, 1) := by decide +kernel
theorem d_Reader_init_22 : decode b_Reader_init 22 = .ok (.iload_n 3, 1) := by decide +kernel
theorem d_Reader_init_23 : decode b_Reader_init 23 = .ok (.putfield 24, 3) := by decide +kernel
theorem d_Reader_init_26 : decode b_Reader_init 26 = .ok (.return_, 1) := by decide +kernel
abbrev rm_Reader_init : Room := { frames := 2, cells := 1, slots := 4, locals := 33 }
set_option maxHeartbeats 4000000 in
set_option maxRecDepth 100000 in
theorem c_Reader_init {G : (Nat → Prop) → State → Prop} (hG : gok G) (hGn : gN G) (l : Launch) (dC : Nat → ClassId) (dI : Nat → Nat → Nat) (g : Nat → ClassId) (sz : Nat) (h0 : Nat) (ht hp : Nat) (a3 : Int32) : Met l y_Reader_init (.code y_Reader_init b_Reader_init 4 none :: gw) rm_Reader_init (kq (dC, dI) vwCl (tyv g) G [.ref h0, .ref ht, .ref hp, .int a3] sz ([(h0, .inr (3, [.null, .null, .int 0]))])) (kqc (dC, dI) vwCl (tyv g) ([(h0, .inr (3, [.null, .null, .int 0]))]) (fun u => wd_Reader g h0 (fun k => bif Nat.beq k 0 then ((u 0) 0) else hp) (sc z0 2 a3) ++ wd_Words g ((u 0) 0) (fun _ => ht) (sc z0 3 (-1))) sz) 1 4 (va_A ([(h0, .inr (3, [.null, .null, .int 0]))]) sz) := by
  refine km (Qc := fun sz => kqc (dC, dI) vwCl (tyv g) ([(h0, .inr (3, [.null, .null, .int 0]))]) (fun u => wd_Reader g h0 (fun k => bif Nat.beq k 0 then ((u 0) 0) else hp) (sc z0 2 a3) ++ wd_Words g ((u 0) 0) (fun _ => ht) (sc z0 3 (-1))) sz) (cc := b_Reader_init) (maxL := 4) (ret := none) (by decide) rfl (Nat.le_of_ble_eq_true rfl) ?_
  intro p e s m args below meth c Q hQ hx hb hr hts hown hlocks hml hnm H locs A hAe hA hP hK hD hS hGA ls hl
  have hl : lv_has ls 4 [(0, .ref h0), (1, .ref ht), (2, .ref hp), (3, .int a3)] := hl
  have hts : ∀ w ∈ gw, w.before args s = true := fun w h => hts w (List.mem_cons_of_mem _ h)
  have hown : s.vm.findClass "AlarmMatrix$Reader" = some m.cls := hown
  refine lv_aload_n hx hb d_Reader_init_0 rfl (lv_at hl 0 rfl) ?_
  refine W.objInit hx hb hown (hts _ k2_14) (hts _ k1_29) (hts _ k1_30) rfl (by rw [hml]; exact hl.1) rfl d_Reader_init_1 (Nat.le_of_ble_eq_true rfl) (Nat.le_of_ble_eq_true rfl) ?_
  refine W.eq (g2 := F0 m 4 ls []) rfl ?_
  refine lv_aload_n hx hb d_Reader_init_4 rfl (lv_at hl 0 rfl) ?_
  refine va_new (ci := 2) (fs := [.null, .int 0, .int 0, .int 0]) (C := "AlarmMatrix$Words") (T := T_Words) (N := 4) hx hb hts i_Words t_Words o_Words hown (hts _ k2_15) (hts _ k2_16) (hts _ k1_21) hK hP hD hS hA rfl (by decide) (Nat.le_of_ble_eq_true rfl) (Nat.le_of_ble_eq_true rfl) d_Reader_init_5 (fun q5 H hP hD hS => ?_)
  have hP : va_P (dC, dI) vwCl ([(h0, .inr (3, [.null, .null, .int 0])), (q5, .inr (2, [.null, .int 0, .int 0, .int 0]))]) H := hP
  have hD : va_D A ([(h0, .inr (3, [.null, .null, .int 0])), (q5, .inr (2, [.null, .int 0, .int 0, .int 0]))]) := hD
  refine W.widen (k := 1) (n := 4) (by omega) (by omega) ?_
  refine lv_dup hx hb d_Reader_init_8 rfl ?_
  refine lv_aload_n hx hb d_Reader_init_9 rfl (lv_at hl 1 rfl) ?_
  refine kcc (wc := [(q5, .inr (2, [.null, .int 0, .int 0, .int 0]))]) (wr := [(h0, .inr (3, [.null, .null, .int 0]))]) (w1 := (fun u => wd_Words g q5 (fun _ => ht) (sc z0 3 (-1)))) hP hD hS hA [1] [0] rfl rfl (by decide) (by decide) (va_runI (As := [.ref ht]) (rest := [.ref q5, .ref h0]) ⟨hx, hb, hml, hown, hts⟩ (c_Words_init hG hGn l dC dI g H.size q5 ht) (cwI 1 hts (gdI k2_19) rfl rfl rfl (hts _ k1_21) (hts _ k2_17) (hts _ k2_18) rfl (by decide +kernel) ⟨Nat.le_of_ble_eq_true rfl, Nat.le_of_ble_eq_true rfl⟩) (kpS (As := .ref q5 :: [.ref ht]) hG hP hK hD hS hA hGA [1] (by decide) rfl) rfl rfl hl.1 rfl (lv_room (Nat.le_of_ble_eq_true rfl)) d_Reader_init_10 ⟨Nat.le_of_ble_eq_true rfl, Nat.le_of_ble_eq_true rfl⟩) (fun u10 H locs hP hD hS => ?_)
  have hP : va_P (dC, dI) vwCl ([(h0, .inr (3, [.null, .null, .int 0]))] ++ wd_Words g q5 (fun _ => ht) (sc z0 3 (-1))) H := hP
  have hD : va_D A ([(h0, .inr (3, [.null, .null, .int 0]))] ++ wd_Words g q5 (fun _ => ht) (sc z0 3 (-1))) := hD
  refine W.widen (k := 1) (n := 4) (by omega) (by omega) ?_
  refine va_putF (D := (dC, dI)) (ci := 3) (v := .ref q5) (ty := .object "AlarmMatrix$Words") (C := "AlarmMatrix$Reader") (T := T_Reader) (N := 3) hx hb hts i_Reader t_Reader o_Reader n_Reader hown hK hP hD hS 0 rfl rfl 0 (by decide) (hts _ k2_34) (fun _ h9 => h9) rfl hnm rfl (by decide +kernel) rfl rfl (Nat.le_of_ble_eq_true rfl) d_Reader_init_13 (fun H locs hP hD hS => ?_)
  have hP : va_P (dC, dI) vwCl ([(h0, .inr (3, [.ref q5, .null, .int 0]))] ++ wd_Words g q5 (fun _ => ht) (sc z0 3 (-1))) H := hP
  have hD : va_D A ([(h0, .inr (3, [.ref q5, .null, .int 0]))] ++ wd_Words g q5 (fun _ => ht) (sc z0 3 (-1))) := hD
  refine lv_aload_n hx hb d_Reader_init_16 rfl (lv_at hl 0 rfl) ?_
  refine lv_aload_n hx hb d_Reader_init_17 rfl (lv_at hl 2 rfl) ?_
  refine va_putF (D := (dC, dI)) (ci := 3) (v := .ref hp) (ty := .object "AlarmMatrix$Plan") (C := "AlarmMatrix$Reader") (T := T_Reader) (N := 3) hx hb hts i_Reader t_Reader o_Reader n_Reader hown hK hP hD hS 0 rfl rfl 1 (by decide) (hts _ k2_35) (fun _ h9 => h9) rfl hnm rfl (by decide +kernel) rfl rfl (Nat.le_of_ble_eq_true rfl) d_Reader_init_18 (fun H locs hP hD hS => ?_)
  have hP : va_P (dC, dI) vwCl ([(h0, .inr (3, [.ref q5, .ref hp, .int 0]))] ++ wd_Words g q5 (fun _ => ht) (sc z0 3 (-1))) H := hP
  have hD : va_D A ([(h0, .inr (3, [.ref q5, .ref hp, .int 0]))] ++ wd_Words g q5 (fun _ => ht) (sc z0 3 (-1))) := hD
  refine lv_aload_n hx hb d_Reader_init_21 rfl (lv_at hl 0 rfl) ?_
  refine lv_iload_n hx hb d_Reader_init_22 rfl (lv_at hl 3 rfl) ?_
  refine va_putF (D := (dC, dI)) (ci := 3) (v := .int a3) (ty := .int) (C := "AlarmMatrix$Reader") (T := T_Reader) (N := 3) hx hb hts i_Reader t_Reader o_Reader n_Reader hown hK hP hD hS 0 rfl rfl 2 (by decide) (hts _ k2_36) (fun _ h9 => h9) rfl hnm rfl (by decide +kernel) rfl rfl (Nat.le_of_ble_eq_true rfl) d_Reader_init_23 (fun H locs hP hD hS => ?_)
  have hP : va_P (dC, dI) vwCl ([(h0, .inr (3, [.ref q5, .ref hp, .int a3]))] ++ wd_Words g q5 (fun _ => ht) (sc z0 3 (-1))) H := hP
  have hD : va_D A ([(h0, .inr (3, [.ref q5, .ref hp, .int a3]))] ++ wd_Words g q5 (fun _ => ht) (sc z0 3 (-1))) := hD
  obtain ⟨u, hu⟩ : ∃ u : Nat → Nat → Nat, u = (fun j => bif Nat.beq j 0 then (fun k => ([q5, hp, 0] : List Nat).getD k 0) else bif Nat.beq j 1 then (fun k => ([((fun _ => ht) 0), 0, 0, 0] : List Nat).getD k 0) else (fun _ => 0)) := ⟨_, rfl⟩
  have hP9 : va_P (dC, dI) vwCl (wd_Reader g h0 (fun k => bif Nat.beq k 0 then ((u 0) 0) else hp) (sc z0 2 a3) ++ wd_Words g ((u 0) 0) (fun _ => ht) (sc z0 3 (-1))) H := by rw [hu]; exact hP.sub [0, 1] rfl
  have hD9 : va_D A (wd_Reader g h0 (fun k => bif Nat.beq k 0 then ((u 0) 0) else hp) (sc z0 2 a3) ++ wd_Words g ((u 0) 0) (fun _ => ht) (sc z0 3 (-1))) := by rw [hu]; exact hD.sub [0, 1] (by decide) rfl
  rw [hQ]
  exact krc u hx hb hr hlocks hAe hP9 hK hD9 hS d_Reader_init_26
abbrev b_AM_read : ByteArray := prog_1_method_5_code
abbrev y_AM_read : MethodName := ⟨"AlarmMatrix", "read", "()I"⟩
theorem d_AM_read_0 : decode b_AM_read 0 = .ok (.new 103, 3) := by decide +kernel
theorem d_AM_read_3 : decode b_AM_read 3 = .ok (.dup, 1) := by decide +kernel
theorem d_AM_read_4 : decode b_AM_read 4 = .ok (.aload_n 0, 1) := by decide +kernel
theorem d_AM_read_5 : decode b_AM_read 5 = .ok (.getfield 10, 3) := by decide +kernel
theorem d_AM_read_8 : decode b_AM_read 8 = .ok (.aload_n 0, 1) := by decide +kernel
theorem d_AM_read_9 : decode b_AM_read 9 = .ok (.getfield 55, 3) := by decide +kernel
theorem d_AM_read_12 : decode b_AM_read 12 = .ok (.aload_n 0, 1) := by decide +kernel
theorem d_AM_read_13 : decode b_AM_read 13 = .ok (.getfield 30, 3) := by decide +kernel
theorem d_AM_read_16 : decode b_AM_read 16 = .ok (.invokevirtual 105, 3) := by decide +kernel
theorem d_AM_read_19 : decode b_AM_read 19 = .ok (.invokespecial 108, 3) := by decide +kernel
theorem d_AM_read_22 : decode b_AM_read 22 = .ok (.astore_n 1, 1) := by decide +kernel
theorem d_AM_read_23 : decode b_AM_read 23 = .ok (.aload_n 1, 1) := by decide +kernel
theorem d_AM_read_24 : decode b_AM_read 24 = .ok (.invokevirtual 111, 3) := by decide +kernel
theorem d_AM_read_27 : decode b_AM_read 27 = .ok (.istore_n 2, 1) := by decide +kernel
theorem d_AM_read_28 : decode b_AM_read 28 = .ok (.iload_n 2, 1) := by decide +kernel
theorem d_AM_read_29 : decode b_AM_read 29 = .ok (.iconst (-1), 1) := by decide +kernel
theorem d_AM_read_30 : decode b_AM_read 30 = .ok (.if_icmp .eq 7, 3) := by decide +kernel
theorem d_AM_read_33 : decode b_AM_read 33 = .ok (.iconst (-1), 1) := by decide +kernel
theorem d_AM_read_34 : decode b_AM_read 34 = .ok (.iload_n 2, 1) := by decide +kernel
theorem d_AM_read_35 : decode b_AM_read 35 = .ok (.isub, 1) := by decide +kernel
theorem d_AM_read_36 : decode b_AM_read 36 = .ok (.ireturn, 1) := by decide +kernel
theorem d_AM_read_37 : decode b_AM_read 37 = .ok (.aload_n 0, 1) := by decide +kernel
theorem d_AM_read_38 : decode b_AM_read 38 = .ok (.getfield 51, 3) := by decide +kernel
theorem d_AM_read_41 : decode b_AM_read 41 = .ok (.astore_n 3, 1) := by decide +kernel
theorem d_AM_read_42 : decode b_AM_read 42 = .ok (.aload_n 0, 1) := by decide +kernel
theorem d_AM_read_43 : decode b_AM_read 43 = .ok (.aload_n 0, 1) := by decide +kernel
theorem d_AM_read_44 : decode b_AM_read 44 = .ok (.getfield 55, 3) := by decide +kernel
theorem d_AM_read_47 : decode b_AM_read 47 = .ok (.putfield 51, 3) := by decide +kernel
theorem d_AM_read_50 : decode b_AM_read 50 = .ok (.aload_n 0, 1) := by decide +kernel
theorem d_AM_read_51 : decode b_AM_read 51 = .ok (.aload_n 3, 1) := by decide +kernel
theorem d_AM_read_52 : decode b_AM_read 52 = .ok (.putfield 55, 3) := by decide +kernel
theorem d_AM_read_55 : decode b_AM_read 55 = .ok (.aload_n 0, 1) := by decide +kernel
theorem d_AM_read_56 : decode b_AM_read 56 = .ok (.getfield 51, 3) := by decide +kernel
theorem d_AM_read_59 : decode b_AM_read 59 = .ok (.invokevirtual 114, 3) := by decide +kernel
theorem d_AM_read_62 : decode b_AM_read 62 = .ok (.ireturn, 1) := by decide +kernel
def swq (b : Nat) (q : Nat → Nat) : Nat → Nat := fun k => bif Nat.beq b 0 then q k else bif Nat.beq k 4 then q 5 else bif Nat.beq k 5 then q 4 else q k
/-- answer; whether the new plan is taken; the plan that was read into: its own state, its zones', its acts' -/
def m_AM_read (F : Nat) (x1 x2 : St) (n2 : Nat) (x3 x4 x5 : St) : Option (Int32 × Nat × St × St × St) :=
  (bn1 (m_Points_count F x2 n2) (fun r16 => (bn5 (m_Reader_findWrongWord F (sc z0 2 r16) x3 (sc z0 3 (-1)) x5 x4 x1) (fun r24 z3 zw z5 z4 => (if r24 = (-1 : Int32) then (bn1 (m_Plan_rowCount F z3) (fun r59 => (some (r59, 1, z3, z4, z5)))) else (some (((-1 : Int32) - r24), 0, z3, z4, z5)))))))
abbrev rm_AM_read : Room := { frames := 10, cells := 2, slots := 7, locals := 217 }
set_option maxHeartbeats 4000000 in
set_option maxRecDepth 100000 in
theorem c_AM_read {G : (Nat → Prop) → State → Prop} (hG : gok G) (hGn : gN G) {adK adV : Nat → Nat} (hGs : gSt adK adV G) (l : Launch) (dC : Nat → ClassId) (dI : Nat → Nat → Nat) (g : Nat → ClassId) (F : Nat) (sz : Nat) (h0 : Nat) (q0 : Nat → Nat) (x0 : St) (q1 : Nat → Nat) (x1 : St) (q2 : Nat → Nat) (x2 : St) (n2 : Nat) (q3 : Nat → Nat) (x3 : St) (q4 : Nat → Nat) (x4 : St) (q5 : Nat → Nat) (x5 : St) {o : Int32 × Nat × St × St × St} (hm : m_AM_read F x1 x2 n2 x3 x4 x5 = some o) : Met l y_AM_read (.code y_AM_read b_AM_read 4 (some .int) :: gw) rm_AM_read (kq (dC, dI) vwCl (tyv g) G [.ref h0] sz (wd_AM g h0 q0 x0 ++ wd_Text g (q0 0) q1 x1 ++ wd_Points g (q0 1) q2 x2 n2 ++ wd_Plan g (q0 5) q3 x3 ++ wd_Zones g (q3 0) q4 x4 ++ wd_Acts g (q3 1) q5 x5)) (kqi (dC, dI) vwCl (tyv g) (wd_AM g h0 q0 x0 ++ wd_Text g (q0 0) q1 x1 ++ wd_Points g (q0 1) q2 x2 n2 ++ wd_Plan g (q0 5) q3 x3 ++ wd_Zones g (q3 0) q4 x4 ++ wd_Acts g (q3 1) q5 x5) o.1 (wd_AM g h0 (swq (o.2.1) q0) x0 ++ wd_Text g (q0 0) q1 x1 ++ wd_Points g (q0 1) q2 x2 n2 ++ wd_Plan g (q0 5) q3 (o.2.2.1) ++ wd_Zones g (q3 0) q4 (o.2.2.2.1) ++ wd_Acts g (q3 1) q5 (o.2.2.2.2)) sz) 2 7 (va_A (wd_AM g h0 q0 x0 ++ wd_Text g (q0 0) q1 x1 ++ wd_Points g (q0 1) q2 x2 n2 ++ wd_Plan g (q0 5) q3 x3 ++ wd_Zones g (q3 0) q4 x4 ++ wd_Acts g (q3 1) q5 x5) sz) := by
  unfold m_AM_read at hm
  refine km (Qc := fun sz => kqi (dC, dI) vwCl (tyv g) (wd_AM g h0 q0 x0 ++ wd_Text g (q0 0) q1 x1 ++ wd_Points g (q0 1) q2 x2 n2 ++ wd_Plan g (q0 5) q3 x3 ++ wd_Zones g (q3 0) q4 x4 ++ wd_Acts g (q3 1) q5 x5) o.1 (wd_AM g h0 (swq (o.2.1) q0) x0 ++ wd_Text g (q0 0) q1 x1 ++ wd_Points g (q0 1) q2 x2 n2 ++ wd_Plan g (q0 5) q3 (o.2.2.1) ++ wd_Zones g (q3 0) q4 (o.2.2.2.1) ++ wd_Acts g (q3 1) q5 (o.2.2.2.2)) sz) (cc := b_AM_read) (maxL := 4) (ret := some .int) (by decide) rfl (Nat.le_of_ble_eq_true rfl) ?_
  intro p e s m args below meth c Q hQ hx hb hr hts hown hlocks hml hnm H locs A hAe hA hP hK hD hS hGA ls hl
  have hl : lv_has ls 4 [(0, .ref h0)] := hl
  have hts : ∀ w ∈ gw, w.before args s = true := fun w h => hts w (List.mem_cons_of_mem _ h)
  have hown : s.vm.findClass "AlarmMatrix" = some m.cls := hown
  refine va_new (ci := 3) (fs := [.null, .null, .int 0]) (C := "AlarmMatrix$Reader") (T := T_Reader) (N := 3) hx hb hts i_Reader t_Reader o_Reader hown (hts _ k2_5) (hts _ k2_6) (hts _ k1_20) hK hP hD hS hA rfl (by decide) (Nat.le_of_ble_eq_true rfl) (Nat.le_of_ble_eq_true rfl) d_AM_read_0 (fun q0v H hP hD hS => ?_)
  have hP : va_P (dC, dI) vwCl (wd_AM g h0 q0 x0 ++ wd_Text g (q0 0) q1 x1 ++ wd_Points g (q0 1) q2 x2 n2 ++ wd_Plan g (q0 5) q3 x3 ++ wd_Zones g (q3 0) q4 x4 ++ wd_Acts g (q3 1) q5 x5 ++ [(q0v, .inr (3, [.null, .null, .int 0]))]) H := hP
  have hD : va_D A (wd_AM g h0 q0 x0 ++ wd_Text g (q0 0) q1 x1 ++ wd_Points g (q0 1) q2 x2 n2 ++ wd_Plan g (q0 5) q3 x3 ++ wd_Zones g (q3 0) q4 x4 ++ wd_Acts g (q3 1) q5 x5 ++ [(q0v, .inr (3, [.null, .null, .int 0]))]) := hD
  refine W.widen (k := 1) (n := 3) (by omega) (by omega) ?_
  refine lv_dup hx hb d_AM_read_3 rfl ?_
  refine lv_aload_n hx hb d_AM_read_4 rfl (lv_at hl 0 rfl) ?_
  refine va_get (D := (dC, dI)) (ci := 0) (v := .ref (q0 0)) (C := "AlarmMatrix") (T := T_AM) (N := 7) hx hb hts i_AM hown hK hP 0 rfl rfl 0 (by decide) (hts _ k1_219) (fun _ h9 => h9) rfl d_AM_read_5 ?_
  refine lv_aload_n hx hb d_AM_read_8 rfl (lv_at hl 0 rfl) ?_
  refine va_get (D := (dC, dI)) (ci := 0) (v := .ref (q0 5)) (C := "AlarmMatrix") (T := T_AM) (N := 7) hx hb hts i_AM hown hK hP 0 rfl rfl 5 (by decide) (hts _ k1_224) (fun _ h9 => h9) rfl d_AM_read_9 ?_
  refine lv_aload_n hx hb d_AM_read_12 rfl (lv_at hl 0 rfl) ?_
  refine va_get (D := (dC, dI)) (ci := 0) (v := .ref (q0 1)) (C := "AlarmMatrix") (T := T_AM) (N := 7) hx hb hts i_AM hown hK hP 0 rfl rfl 1 (by decide) (hts _ k1_220) (fun _ h9 => h9) rfl d_AM_read_13 ?_
  obtain ⟨r16, hcl, hm⟩ := bn1_s hm
  refine kci (wc := wd_Points g (q0 1) q2 x2 n2) (wr := wd_AM g h0 q0 x0 ++ wd_Text g (q0 0) q1 x1 ++ wd_Plan g (q0 5) q3 x3 ++ wd_Zones g (q3 0) q4 x4 ++ wd_Acts g (q3 1) q5 x5 ++ [(q0v, .inr (3, [.null, .null, .int 0]))]) (w1 := wd_Points g (q0 1) q2 x2 n2) hP hD hS hA [4, 5, 6, 7, 8, 9] [0, 1, 2, 3, 10, 11, 12, 13, 14, 15, 16, 17, 18, 19, 20, 21, 22, 23, 24, 25, 26, 27, 28, 29, 30, 31, 32, 33] rfl rfl (by decide) (by decide) (va_runV (As := []) (rest := [.ref (q0 5), .ref (q0 0), .ref q0v, .ref q0v]) ⟨hx, hb, hml, hown, hts⟩ (c_Points_count hG hGn l dC dI g F H.size (q0 1) q2 x2 n2 hcl) (cwV 0 hts (gdV k2_7 k2_8 k2_9 k1_3 k2_10) rfl rfl rfl (by decide +kernel) ⟨Nat.le_of_ble_eq_true rfl, Nat.le_of_ble_eq_true rfl⟩) (kpV hG hP hK hD hS hA hGA [4, 5, 6, 7, 8, 9] (by decide) rfl (ci := 7) (q0 := 0) rfl rfl rfl) rfl rfl hl.1 rfl (lv_room (Nat.le_of_ble_eq_true rfl)) d_AM_read_16 ⟨Nat.le_of_ble_eq_true rfl, Nat.le_of_ble_eq_true rfl⟩) (fun H locs hP hD hS => ?_)
  have hP : va_P (dC, dI) vwCl (wd_AM g h0 q0 x0 ++ wd_Text g (q0 0) q1 x1 ++ wd_Points g (q0 1) q2 x2 n2 ++ wd_Plan g (q0 5) q3 x3 ++ wd_Zones g (q3 0) q4 x4 ++ wd_Acts g (q3 1) q5 x5 ++ [(q0v, .inr (3, [.null, .null, .int 0]))]) H := hP.sub (ws' := wd_AM g h0 q0 x0 ++ wd_Text g (q0 0) q1 x1 ++ wd_Points g (q0 1) q2 x2 n2 ++ wd_Plan g (q0 5) q3 x3 ++ wd_Zones g (q3 0) q4 x4 ++ wd_Acts g (q3 1) q5 x5 ++ [(q0v, .inr (3, [.null, .null, .int 0]))]) [0, 1, 2, 3, 28, 29, 30, 31, 32, 33, 4, 5, 6, 7, 8, 9, 10, 11, 12, 13, 14, 15, 16, 17, 18, 19, 20, 21, 22, 23, 24, 25, 26, 27] rfl
  have hD : va_D A (wd_AM g h0 q0 x0 ++ wd_Text g (q0 0) q1 x1 ++ wd_Points g (q0 1) q2 x2 n2 ++ wd_Plan g (q0 5) q3 x3 ++ wd_Zones g (q3 0) q4 x4 ++ wd_Acts g (q3 1) q5 x5 ++ [(q0v, .inr (3, [.null, .null, .int 0]))]) := hD.sub (ws' := wd_AM g h0 q0 x0 ++ wd_Text g (q0 0) q1 x1 ++ wd_Points g (q0 1) q2 x2 n2 ++ wd_Plan g (q0 5) q3 x3 ++ wd_Zones g (q3 0) q4 x4 ++ wd_Acts g (q3 1) q5 x5 ++ [(q0v, .inr (3, [.null, .null, .int 0]))]) [0, 1, 2, 3, 28, 29, 30, 31, 32, 33, 4, 5, 6, 7, 8, 9, 10, 11, 12, 13, 14, 15, 16, 17, 18, 19, 20, 21, 22, 23, 24, 25, 26, 27] (by decide) rfl
  refine kcc (wc := [(q0v, .inr (3, [.null, .null, .int 0]))]) (wr := wd_AM g h0 q0 x0 ++ wd_Text g (q0 0) q1 x1 ++ wd_Points g (q0 1) q2 x2 n2 ++ wd_Plan g (q0 5) q3 x3 ++ wd_Zones g (q3 0) q4 x4 ++ wd_Acts g (q3 1) q5 x5) (w1 := (fun u => wd_Reader g q0v (fun k => bif Nat.beq k 0 then ((u 0) 0) else (q0 5)) (sc z0 2 r16) ++ wd_Words g ((u 0) 0) (fun _ => (q0 0)) (sc z0 3 (-1)))) hP hD hS hA [33] [0, 1, 2, 3, 4, 5, 6, 7, 8, 9, 10, 11, 12, 13, 14, 15, 16, 17, 18, 19, 20, 21, 22, 23, 24, 25, 26, 27, 28, 29, 30, 31, 32] rfl rfl (by decide) (by decide) (va_runI (As := [.ref (q0 0), .ref (q0 5), .int r16]) (rest := [.ref q0v]) ⟨hx, hb, hml, hown, hts⟩ (c_Reader_init hG hGn l dC dI g H.size q0v (q0 0) (q0 5) r16) (cwI 3 hts (gdI k2_13) rfl rfl rfl (hts _ k1_20) (hts _ k2_11) (hts _ k2_12) rfl (by decide +kernel) ⟨Nat.le_of_ble_eq_true rfl, Nat.le_of_ble_eq_true rfl⟩) (kpS (As := .ref q0v :: [.ref (q0 0), .ref (q0 5), .int r16]) hG hP hK hD hS hA hGA [33] (by decide) rfl) rfl rfl hl.1 rfl (lv_room (Nat.le_of_ble_eq_true rfl)) d_AM_read_19 ⟨Nat.le_of_ble_eq_true rfl, Nat.le_of_ble_eq_true rfl⟩) (fun u H locs hP hD hS => ?_)
  have hP : va_P (dC, dI) vwCl (wd_AM g h0 q0 x0 ++ wd_Text g (q0 0) q1 x1 ++ wd_Points g (q0 1) q2 x2 n2 ++ wd_Plan g (q0 5) q3 x3 ++ wd_Zones g (q3 0) q4 x4 ++ wd_Acts g (q3 1) q5 x5 ++ wd_Reader g q0v (fun k => bif Nat.beq k 0 then ((u 0) 0) else (q0 5)) (sc z0 2 r16) ++ wd_Words g ((u 0) 0) (fun _ => (q0 0)) (sc z0 3 (-1))) H := hP
  have hD : va_D A (wd_AM g h0 q0 x0 ++ wd_Text g (q0 0) q1 x1 ++ wd_Points g (q0 1) q2 x2 n2 ++ wd_Plan g (q0 5) q3 x3 ++ wd_Zones g (q3 0) q4 x4 ++ wd_Acts g (q3 1) q5 x5 ++ wd_Reader g q0v (fun k => bif Nat.beq k 0 then ((u 0) 0) else (q0 5)) (sc z0 2 r16) ++ wd_Words g ((u 0) 0) (fun _ => (q0 0)) (sc z0 3 (-1))) := hD
  refine W.widen (k := 2) (n := 7) (by omega) (by omega) ?_
  refine lv_astore_n (lv' := [(1, .ref q0v), (0, .ref h0)]) hx hb d_AM_read_22 rfl hl (by decide) rfl (fun ls hl => ?_)
  refine lv_aload_n hx hb d_AM_read_23 rfl (lv_at hl 0 rfl) ?_
  obtain ⟨r24, z3, zw, z5, z4, hcl, hm⟩ := bn5_s hm
  refine kci (wc := wd_Reader g q0v (fun k => bif Nat.beq k 0 then ((u 0) 0) else (q0 5)) (sc z0 2 r16) ++ wd_Plan g ((fun k => bif Nat.beq k 0 then ((u 0) 0) else (q0 5)) 1) q3 x3 ++ wd_Words g ((fun k => bif Nat.beq k 0 then ((u 0) 0) else (q0 5)) 0) (fun _ => (q0 0)) (sc z0 3 (-1)) ++ wd_Acts g (q3 1) q5 x5 ++ wd_Zones g (q3 0) q4 x4 ++ wd_Text g ((fun _ => (q0 0)) 0) q1 x1) (wr := wd_AM g h0 q0 x0 ++ wd_Points g (q0 1) q2 x2 n2) (w1 := wd_Reader g q0v (fun k => bif Nat.beq k 0 then ((u 0) 0) else (q0 5)) (sc z0 2 r16) ++ wd_Plan g ((fun k => bif Nat.beq k 0 then ((u 0) 0) else (q0 5)) 1) q3 z3 ++ wd_Words g ((fun k => bif Nat.beq k 0 then ((u 0) 0) else (q0 5)) 0) (fun _ => (q0 0)) zw ++ wd_Acts g (q3 1) q5 z5 ++ wd_Zones g (q3 0) q4 z4 ++ wd_Text g ((fun _ => (q0 0)) 0) q1 x1) hP hD hS hA [33, 10, 11, 12, 13, 34, 20, 21, 22, 23, 24, 25, 26, 27, 28, 29, 30, 31, 32, 14, 15, 16, 17, 18, 19, 1, 2, 3] [0, 4, 5, 6, 7, 8, 9] rfl rfl (by decide) (by decide) (va_runV (As := []) (rest := []) ⟨hx, hb, hml, hown, hts⟩ (c_Reader_findWrongWord hG hGn hGs l dC dI g F H.size q0v (fun k => bif Nat.beq k 0 then ((u 0) 0) else (q0 5)) (sc z0 2 r16) q3 x3 (fun _ => (q0 0)) (sc z0 3 (-1)) q5 x5 q4 x4 q1 x1 hcl) (cwV 0 hts (gdV k2_44 k2_45 k2_46 k1_20 k2_47) rfl rfl rfl (by decide +kernel) ⟨Nat.le_of_ble_eq_true rfl, Nat.le_of_ble_eq_true rfl⟩) (kpV hG hP hK hD hS hA hGA [33, 10, 11, 12, 13, 34, 20, 21, 22, 23, 24, 25, 26, 27, 28, 29, 30, 31, 32, 14, 15, 16, 17, 18, 19, 1, 2, 3] (by decide) rfl (ci := 3) (q0 := 0) rfl rfl rfl) rfl rfl hl.1 rfl (lv_room (Nat.le_of_ble_eq_true rfl)) d_AM_read_24 ⟨Nat.le_of_ble_eq_true rfl, Nat.le_of_ble_eq_true rfl⟩) (fun H locs hP hD hS => ?_)
  have hP : va_P (dC, dI) vwCl (wd_AM g h0 q0 x0 ++ wd_Text g (q0 0) q1 x1 ++ wd_Points g (q0 1) q2 x2 n2 ++ wd_Plan g (q0 5) q3 z3 ++ wd_Zones g (q3 0) q4 z4 ++ wd_Acts g (q3 1) q5 z5) H := hP.sub (ws' := wd_AM g h0 q0 x0 ++ wd_Text g (q0 0) q1 x1 ++ wd_Points g (q0 1) q2 x2 n2 ++ wd_Plan g (q0 5) q3 z3 ++ wd_Zones g (q3 0) q4 z4 ++ wd_Acts g (q3 1) q5 z5) [0, 32, 33, 34, 1, 2, 3, 4, 5, 6, 8, 9, 10, 11, 26, 27, 28, 29, 30, 31, 13, 14, 15, 16, 17, 18, 19, 20, 21, 22, 23, 24, 25] rfl
  have hD : va_D A (wd_AM g h0 q0 x0 ++ wd_Text g (q0 0) q1 x1 ++ wd_Points g (q0 1) q2 x2 n2 ++ wd_Plan g (q0 5) q3 z3 ++ wd_Zones g (q3 0) q4 z4 ++ wd_Acts g (q3 1) q5 z5) := hD.sub (ws' := wd_AM g h0 q0 x0 ++ wd_Text g (q0 0) q1 x1 ++ wd_Points g (q0 1) q2 x2 n2 ++ wd_Plan g (q0 5) q3 z3 ++ wd_Zones g (q3 0) q4 z4 ++ wd_Acts g (q3 1) q5 z5) [0, 32, 33, 34, 1, 2, 3, 4, 5, 6, 8, 9, 10, 11, 26, 27, 28, 29, 30, 31, 13, 14, 15, 16, 17, 18, 19, 20, 21, 22, 23, 24, 25] (by decide) rfl
  refine lv_istore_n (lv' := [(2, .int r24), (1, .ref q0v), (0, .ref h0)]) hx hb d_AM_read_27 rfl hl (by decide) rfl (fun ls hl => ?_)
  refine lv_iload_n hx hb d_AM_read_28 rfl (lv_at hl 0 rfl) ?_
  refine lv_iconst (v := (-1 : Int32)) hx hb d_AM_read_29 (by decide) ?_
  refine lv_icmp_eq (tgt := 37) hx hb d_AM_read_30 (by decide) (fun hc => ?_) (fun hc => ?_)
  · replace hm := if_t hm hc
    refine lv_aload_n hx hb d_AM_read_37 rfl (lv_at hl 2 rfl) ?_
    refine va_get (D := (dC, dI)) (ci := 0) (v := .ref (q0 4)) (C := "AlarmMatrix") (T := T_AM) (N := 7) hx hb hts i_AM hown hK hP 0 rfl rfl 4 (by decide) (hts _ k1_223) (fun _ h9 => h9) rfl d_AM_read_38 ?_
    refine lv_astore_n (lv' := [(3, .ref (q0 4)), (2, .int r24), (1, .ref q0v), (0, .ref h0)]) hx hb d_AM_read_41 rfl hl (by decide) rfl (fun ls hl => ?_)
    refine lv_aload_n hx hb d_AM_read_42 rfl (lv_at hl 3 rfl) ?_
    refine lv_aload_n hx hb d_AM_read_43 rfl (lv_at hl 3 rfl) ?_
    refine va_get (D := (dC, dI)) (ci := 0) (v := .ref (q0 5)) (C := "AlarmMatrix") (T := T_AM) (N := 7) hx hb hts i_AM hown hK hP 0 rfl rfl 5 (by decide) (hts _ k1_224) (fun _ h9 => h9) rfl d_AM_read_44 ?_
    refine va_put (D := (dC, dI)) (ci := 0) (v := .ref (q0 5)) (ty := .object "AlarmMatrix$Plan") (C := "AlarmMatrix") (T := T_AM) (N := 7) hx hb hts i_AM t_AM o_AM n_AM hown hK hP hD hS 0 rfl rfl 4 (by decide) (hts _ k1_223) (fun _ h9 => h9) rfl (by decide +kernel) rfl rfl (Nat.le_of_ble_eq_true rfl) d_AM_read_47 (fun H locs hP hD hS => ?_)
    have hP : va_P (dC, dI) vwCl ([(h0, .inr (0, [.ref (q0 0), .ref (q0 1), .ref (q0 2), .ref (q0 3), .ref (q0 5), .ref (q0 5), .int (x0 6 0)]))] ++ wd_Text g (q0 0) q1 x1 ++ wd_Points g (q0 1) q2 x2 n2 ++ wd_Plan g (q0 5) q3 z3 ++ wd_Zones g (q3 0) q4 z4 ++ wd_Acts g (q3 1) q5 z5) H := hP
    have hD : va_D A ([(h0, .inr (0, [.ref (q0 0), .ref (q0 1), .ref (q0 2), .ref (q0 3), .ref (q0 5), .ref (q0 5), .int (x0 6 0)]))] ++ wd_Text g (q0 0) q1 x1 ++ wd_Points g (q0 1) q2 x2 n2 ++ wd_Plan g (q0 5) q3 z3 ++ wd_Zones g (q3 0) q4 z4 ++ wd_Acts g (q3 1) q5 z5) := hD
    refine lv_aload_n hx hb d_AM_read_50 rfl (lv_at hl 3 rfl) ?_
    refine lv_aload_n hx hb d_AM_read_51 rfl (lv_at hl 0 rfl) ?_
    refine va_put (D := (dC, dI)) (ci := 0) (v := .ref (q0 4)) (ty := .object "AlarmMatrix$Plan") (C := "AlarmMatrix") (T := T_AM) (N := 7) hx hb hts i_AM t_AM o_AM n_AM hown hK hP hD hS 0 rfl rfl 5 (by decide) (hts _ k1_224) (fun _ h9 => h9) rfl (by decide +kernel) rfl rfl (Nat.le_of_ble_eq_true rfl) d_AM_read_52 (fun H locs hP hD hS => ?_)
    have hP : va_P (dC, dI) vwCl ([(h0, .inr (0, [.ref (q0 0), .ref (q0 1), .ref (q0 2), .ref (q0 3), .ref (q0 5), .ref (q0 4), .int (x0 6 0)]))] ++ wd_Text g (q0 0) q1 x1 ++ wd_Points g (q0 1) q2 x2 n2 ++ wd_Plan g (q0 5) q3 z3 ++ wd_Zones g (q3 0) q4 z4 ++ wd_Acts g (q3 1) q5 z5) H := hP
    have hD : va_D A ([(h0, .inr (0, [.ref (q0 0), .ref (q0 1), .ref (q0 2), .ref (q0 3), .ref (q0 5), .ref (q0 4), .int (x0 6 0)]))] ++ wd_Text g (q0 0) q1 x1 ++ wd_Points g (q0 1) q2 x2 n2 ++ wd_Plan g (q0 5) q3 z3 ++ wd_Zones g (q3 0) q4 z4 ++ wd_Acts g (q3 1) q5 z5) := hD
    refine lv_aload_n hx hb d_AM_read_55 rfl (lv_at hl 3 rfl) ?_
    refine va_get (D := (dC, dI)) (ci := 0) (v := .ref (q0 5)) (C := "AlarmMatrix") (T := T_AM) (N := 7) hx hb hts i_AM hown hK hP 0 rfl rfl 4 (by decide) (hts _ k1_223) (fun _ h9 => h9) rfl d_AM_read_56 ?_
    obtain ⟨r59, hcl2, hm⟩ := bn1_s hm
    refine kci (wc := wd_Plan g (q0 5) q3 z3) (wr := [(h0, .inr (0, [.ref (q0 0), .ref (q0 1), .ref (q0 2), .ref (q0 3), .ref (q0 5), .ref (q0 4), .int (x0 6 0)]))] ++ wd_Text g (q0 0) q1 x1 ++ wd_Points g (q0 1) q2 x2 n2 ++ wd_Zones g (q3 0) q4 z4 ++ wd_Acts g (q3 1) q5 z5) (w1 := wd_Plan g (q0 5) q3 z3) hP hD hS hA [10, 11, 12, 13] [0, 1, 2, 3, 4, 5, 6, 7, 8, 9, 14, 15, 16, 17, 18, 19, 20, 21, 22, 23, 24, 25, 26, 27, 28, 29, 30, 31, 32] rfl rfl (by decide) (by decide) (va_runV (As := []) (rest := []) ⟨hx, hb, hml, hown, hts⟩ (c_Plan_rowCount hG hGn l dC dI g F H.size (q0 5) q3 z3 hcl2) (cwV 0 hts (gdV k3_22 k2_232 k2_233 k1_7 k2_234) rfl rfl rfl (by decide +kernel) ⟨Nat.le_of_ble_eq_true rfl, Nat.le_of_ble_eq_true rfl⟩) (kpV hG hP hK hD hS hA hGA [10, 11, 12, 13] (by decide) rfl (ci := 4) (q0 := 0) rfl rfl rfl) rfl rfl hl.1 rfl (lv_room (Nat.le_of_ble_eq_true rfl)) d_AM_read_59 ⟨Nat.le_of_ble_eq_true rfl, Nat.le_of_ble_eq_true rfl⟩) (fun H locs hP hD hS => ?_)
    have hP : va_P (dC, dI) vwCl (wd_AM g h0 (swq 1 q0) x0 ++ wd_Text g (q0 0) q1 x1 ++ wd_Points g (q0 1) q2 x2 n2 ++ wd_Plan g (q0 5) q3 z3 ++ wd_Zones g (q3 0) q4 z4 ++ wd_Acts g (q3 1) q5 z5) H := hP.sub (ws' := wd_AM g h0 (swq 1 q0) x0 ++ wd_Text g (q0 0) q1 x1 ++ wd_Points g (q0 1) q2 x2 n2 ++ wd_Plan g (q0 5) q3 z3 ++ wd_Zones g (q3 0) q4 z4 ++ wd_Acts g (q3 1) q5 z5) [0, 1, 2, 3, 4, 5, 6, 7, 8, 9, 29, 30, 31, 32, 10, 11, 12, 13, 14, 15, 16, 17, 18, 19, 20, 21, 22, 23, 24, 25, 26, 27, 28] rfl
    have hD : va_D A (wd_AM g h0 (swq 1 q0) x0 ++ wd_Text g (q0 0) q1 x1 ++ wd_Points g (q0 1) q2 x2 n2 ++ wd_Plan g (q0 5) q3 z3 ++ wd_Zones g (q3 0) q4 z4 ++ wd_Acts g (q3 1) q5 z5) := hD.sub (ws' := wd_AM g h0 (swq 1 q0) x0 ++ wd_Text g (q0 0) q1 x1 ++ wd_Points g (q0 1) q2 x2 n2 ++ wd_Plan g (q0 5) q3 z3 ++ wd_Zones g (q3 0) q4 z4 ++ wd_Acts g (q3 1) q5 z5) [0, 1, 2, 3, 4, 5, 6, 7, 8, 9, 29, 30, 31, 32, 10, 11, 12, 13, 14, 15, 16, 17, 18, 19, 20, 21, 22, 23, 24, 25, 26, 27, 28] (by decide) rfl
    obtain rfl := Option.some.inj hm
    rw [hQ]
    exact kri hx hb hr hlocks hAe hP hK hD hS d_AM_read_62
  · replace hm := if_f hm hc
    refine lv_iconst (v := (-1 : Int32)) hx hb d_AM_read_33 (by decide) ?_
    refine lv_iload_n hx hb d_AM_read_34 rfl (lv_at hl 0 rfl) ?_
    refine lv_isub hx hb d_AM_read_35 ?_
    have hP : va_P (dC, dI) vwCl (wd_AM g h0 (swq 0 q0) x0 ++ wd_Text g (q0 0) q1 x1 ++ wd_Points g (q0 1) q2 x2 n2 ++ wd_Plan g (q0 5) q3 z3 ++ wd_Zones g (q3 0) q4 z4 ++ wd_Acts g (q3 1) q5 z5) H := hP
    have hD : va_D A (wd_AM g h0 (swq 0 q0) x0 ++ wd_Text g (q0 0) q1 x1 ++ wd_Points g (q0 1) q2 x2 n2 ++ wd_Plan g (q0 5) q3 z3 ++ wd_Zones g (q3 0) q4 z4 ++ wd_Acts g (q3 1) q5 z5) := hD
    obtain rfl := Option.some.inj hm
    rw [hQ]
    exact kri hx hb hr hlocks hAe hP hK hD hS d_AM_read_36

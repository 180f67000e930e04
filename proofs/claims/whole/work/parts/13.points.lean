abbrev b_Points_count : ByteArray := prog_6_method_2_code
abbrev y_Points_count : MethodName := ⟨"AlarmMatrix$Points", "count", "()I"⟩
theorem d_Points_count_0 : decode b_Points_count 0 = .ok (.aload_n 0, 1) := by decide +kernel
theorem d_Points_count_1 : decode b_Points_count 1 = .ok (.getfield 9, 3) := by decide +kernel
theorem d_Points_count_4 : decode b_Points_count 4 = .ok (.ireturn, 1) := by decide +kernel
def m_Points_count (F : Nat) (x0 : St) (n0 : Nat) : Option (Int32) :=
  (some (x0 0 0))
abbrev rm_Points_count : Room := { frames := 0, cells := 0, slots := 0, locals := 0 }
set_option maxHeartbeats 4000000 in
set_option maxRecDepth 100000 in
theorem c_Points_count {G : (Nat → Prop) → State → Prop} (hG : gok G) (hGn : gN G) (l : Launch) (dC : Nat → ClassId) (dI : Nat → Nat → Nat) (g : Nat → ClassId) (F : Nat) (sz : Nat) (h0 : Nat) (q0 : Nat → Nat) (x0 : St) (n0 : Nat) {o : Int32} (hm : m_Points_count F x0 n0 = some o) : Met l y_Points_count (.code y_Points_count b_Points_count 1 (some .int) :: gw) rm_Points_count (kq (dC, dI) vwCl (tyv g) G [.ref h0] sz (wd_Points g h0 q0 x0 n0)) (kqi (dC, dI) vwCl (tyv g) (wd_Points g h0 q0 x0 n0) o (wd_Points g h0 q0 x0 n0) sz) 0 0 (va_A (wd_Points g h0 q0 x0 n0) sz) := by
  unfold m_Points_count at hm
  refine km (Qc := fun sz => kqi (dC, dI) vwCl (tyv g) (wd_Points g h0 q0 x0 n0) o (wd_Points g h0 q0 x0 n0) sz) (cc := b_Points_count) (maxL := 1) (ret := some .int) (by decide) rfl (Nat.le_of_ble_eq_true rfl) ?_
  intro p e s m args below meth c Q hQ hx hb hr hts hown hlocks hml hnm H locs A hAe hA hP hK hD hS hGA ls hl
  have hl : lv_has ls 1 [(0, .ref h0)] := hl
  have hts : ∀ w ∈ gw, w.before args s = true := fun w h => hts w (List.mem_cons_of_mem _ h)
  have hown : s.vm.findClass "AlarmMatrix$Points" = some m.cls := hown
  refine lv_aload_n hx hb d_Points_count_0 rfl (lv_at hl 0 rfl) ?_
  refine va_get (D := (dC, dI)) (ci := 7) (v := .int (x0 0 0)) (C := "AlarmMatrix$Points") (T := T_Points) (N := 6) hx hb hts i_Points hown hK hP 0 rfl rfl 0 (by decide) (hts _ k1_60) (fun _ h9 => h9) rfl d_Points_count_1 ?_
  obtain rfl := Option.some.inj hm
  rw [hQ]
  exact kri hx hb hr hlocks hAe hP hK hD hS d_Points_count_4
abbrev b_Points_isPoint : ByteArray := prog_6_method_3_code
abbrev y_Points_isPoint : MethodName := ⟨"AlarmMatrix$Points", "isPoint", "(I)Z"⟩
theorem d_Points_isPoint_0 : decode b_Points_isPoint 0 = .ok (.iload_n 1, 1) := by decide +kernel
theorem d_Points_isPoint_1 : decode b_Points_isPoint 1 = .ok (.iconst 0, 1) := by decide +kernel
theorem d_Points_isPoint_2 : decode b_Points_isPoint 2 = .ok (.aload_n 0, 1) := by decide +kernel
theorem d_Points_isPoint_3 : decode b_Points_isPoint 3 = .ok (.getfield 9, 3) := by decide +kernel
theorem d_Points_isPoint_6 : decode b_Points_isPoint 6 = .ok (.iconst 1, 1) := by decide +kernel
theorem d_Points_isPoint_7 : decode b_Points_isPoint 7 = .ok (.isub, 1) := by decide +kernel
theorem d_Points_isPoint_8 : decode b_Points_isPoint 8 = .ok (.invokestatic 32, 3) := by decide +kernel
theorem d_Points_isPoint_11 : decode b_Points_isPoint 11 = .ok (.ireturn, 1) := by decide +kernel
def m_Points_isPoint (F : Nat) (x0 : St) (n0 : Nat) (a1 : Int32) : Option (Int32) :=
  (bn1 (m_AM_isWithin F a1 (0 : Int32) ((x0 0 0) - (1 : Int32))) (fun r8 => (ckb r8 (some r8))))
abbrev rm_Points_isPoint : Room := { frames := 1, cells := 0, slots := 0, locals := 22 }
set_option maxHeartbeats 4000000 in
set_option maxRecDepth 100000 in
theorem c_Points_isPoint {G : (Nat → Prop) → State → Prop} (hG : gok G) (hGn : gN G) (l : Launch) (dC : Nat → ClassId) (dI : Nat → Nat → Nat) (g : Nat → ClassId) (F : Nat) (sz : Nat) (h0 : Nat) (q0 : Nat → Nat) (x0 : St) (n0 : Nat) (a1 : Int32) {o : Int32} (hm : m_Points_isPoint F x0 n0 a1 = some o) : Met l y_Points_isPoint (.code y_Points_isPoint b_Points_isPoint 2 (some .boolean) :: gw) rm_Points_isPoint (kq (dC, dI) vwCl (tyv g) G [.ref h0, .int a1] sz (wd_Points g h0 q0 x0 n0)) (kqi (dC, dI) vwCl (tyv g) (wd_Points g h0 q0 x0 n0) o (wd_Points g h0 q0 x0 n0) sz) 0 0 (va_A (wd_Points g h0 q0 x0 n0) sz) := by
  unfold m_Points_isPoint at hm
  refine km (Qc := fun sz => kqi (dC, dI) vwCl (tyv g) (wd_Points g h0 q0 x0 n0) o (wd_Points g h0 q0 x0 n0) sz) (cc := b_Points_isPoint) (maxL := 2) (ret := some .boolean) (by decide) rfl (Nat.le_of_ble_eq_true rfl) ?_
  intro p e s m args below meth c Q hQ hx hb hr hts hown hlocks hml hnm H locs A hAe hA hP hK hD hS hGA ls hl
  have hl : lv_has ls 2 [(0, .ref h0), (1, .int a1)] := hl
  have hts : ∀ w ∈ gw, w.before args s = true := fun w h => hts w (List.mem_cons_of_mem _ h)
  have hown : s.vm.findClass "AlarmMatrix$Points" = some m.cls := hown
  refine lv_iload_n hx hb d_Points_isPoint_0 rfl (lv_at hl 1 rfl) ?_
  refine lv_iconst (v := (0 : Int32)) hx hb d_Points_isPoint_1 (by decide) ?_
  refine lv_aload_n hx hb d_Points_isPoint_2 rfl (lv_at hl 0 rfl) ?_
  refine va_get (D := (dC, dI)) (ci := 7) (v := .int (x0 0 0)) (C := "AlarmMatrix$Points") (T := T_Points) (N := 6) hx hb hts i_Points hown hK hP 0 rfl rfl 0 (by decide) (hts _ k1_60) (fun _ h9 => h9) rfl d_Points_isPoint_3 ?_
  refine lv_iconst (v := (1 : Int32)) hx hb d_Points_isPoint_6 (by decide) ?_
  refine lv_isub hx hb d_Points_isPoint_7 ?_
  obtain ⟨r8, hcl, hm⟩ := bn1_s hm
  refine kci (wc := ([] : va_W)) (wr := wd_Points g h0 q0 x0 n0) (w1 := ([] : va_W)) hP hD hS hA [] [0, 1, 2, 3, 4, 5] rfl rfl (by decide) (by decide) (va_runSN (host := "AlarmMatrix") (As := [.int a1, .int (0 : Int32), .int ((x0 0 0) - (1 : Int32))]) (rest := []) ⟨hx, hb, hml, hown, hts⟩ (c_AM_isWithin hG hGn l dC dI g F H.size a1 (0 : Int32) ((x0 0 0) - (1 : Int32)) hcl) ⟨va_cnB 3 hts (gdI k2_154) rfl rfl rfl (hGn A s hGA _ nw4_20) (hts _ k1_1) (by decide +kernel) ⟨Nat.le_of_ble_eq_true rfl, Nat.le_of_ble_eq_true rfl⟩, (hts _ k2_153), trivial⟩ (kpS hG hP hK hD hS hA hGA [] (by decide) rfl) rfl rfl hl.1 rfl (lv_room (Nat.le_of_ble_eq_true rfl)) d_Points_isPoint_8 ⟨Nat.le_of_ble_eq_true rfl, Nat.le_of_ble_eq_true rfl⟩) (fun H locs hP hD hS => ?_)
  have hP : va_P (dC, dI) vwCl (wd_Points g h0 q0 x0 n0) H := hP
  have hD : va_D A (wd_Points g h0 q0 x0 n0) := hD
  obtain ⟨hz, hm⟩ := ckb_s hm
  obtain rfl := Option.some.inj hm
  rw [hQ]
  exact krz hx hb hr hz hlocks hAe hP hK hD hS d_Points_isPoint_11
abbrev b_Points_swapValue : ByteArray := prog_6_method_4_code
abbrev y_Points_swapValue : MethodName := ⟨"AlarmMatrix$Points", "swapValue", "(II)I"⟩
theorem d_Points_swapValue_0 : decode b_Points_swapValue 0 = .ok (.aload_n 0, 1) := by decide +kernel
theorem d_Points_swapValue_1 : decode b_Points_swapValue 1 = .ok (.getfield 15, 3) := by decide +kernel
theorem d_Points_swapValue_4 : decode b_Points_swapValue 4 = .ok (.iload_n 1, 1) := by decide +kernel
theorem d_Points_swapValue_5 : decode b_Points_swapValue 5 = .ok (.iaload, 1) := by decide +kernel
theorem d_Points_swapValue_6 : decode b_Points_swapValue 6 = .ok (.istore_n 3, 1) := by decide +kernel
theorem d_Points_swapValue_7 : decode b_Points_swapValue 7 = .ok (.aload_n 0, 1) := by decide +kernel
theorem d_Points_swapValue_8 : decode b_Points_swapValue 8 = .ok (.getfield 15, 3) := by decide +kernel
theorem d_Points_swapValue_11 : decode b_Points_swapValue 11 = .ok (.iload_n 1, 1) := by decide +kernel
theorem d_Points_swapValue_12 : decode b_Points_swapValue 12 = .ok (.iload_n 2, 1) := by decide +kernel
theorem d_Points_swapValue_13 : decode b_Points_swapValue 13 = .ok (.iastore, 1) := by decide +kernel
theorem d_Points_swapValue_14 : decode b_Points_swapValue 14 = .ok (.iload_n 3, 1) := by decide +kernel
theorem d_Points_swapValue_15 : decode b_Points_swapValue 15 = .ok (.ireturn, 1) := by decide +kernel
def m_Points_swapValue (F : Nat) (x0 : St) (n0 : Nat) (a1 : Int32) (a2 : Int32) : Option (Int32 × St) :=
  (ck a1 n0 (ck a1 n0 (lz (st x0 1 (upd (x0 1) a1.toNatClampNeg a2)) (fun e0_13 => (some (((x0 1) a1.toNatClampNeg), e0_13))))))
abbrev rm_Points_swapValue : Room := { frames := 0, cells := 0, slots := 0, locals := 0 }
set_option maxHeartbeats 4000000 in
set_option maxRecDepth 100000 in
theorem c_Points_swapValue {G : (Nat → Prop) → State → Prop} (hG : gok G) (hGn : gN G) (l : Launch) (dC : Nat → ClassId) (dI : Nat → Nat → Nat) (g : Nat → ClassId) (F : Nat) (sz : Nat) (h0 : Nat) (q0 : Nat → Nat) (x0 : St) (n0 : Nat) (a1 : Int32) (a2 : Int32) {o : Int32 × St} (hm : m_Points_swapValue F x0 n0 a1 a2 = some o) : Met l y_Points_swapValue (.code y_Points_swapValue b_Points_swapValue 4 (some .int) :: gw) rm_Points_swapValue (kq (dC, dI) vwCl (tyv g) G [.ref h0, .int a1, .int a2] sz (wd_Points g h0 q0 x0 n0)) (kqi (dC, dI) vwCl (tyv g) (wd_Points g h0 q0 x0 n0) o.1 (wd_Points g h0 q0 (o.2) n0) sz) 0 0 (va_A (wd_Points g h0 q0 x0 n0) sz) := by
  unfold m_Points_swapValue at hm
  refine km (Qc := fun sz => kqi (dC, dI) vwCl (tyv g) (wd_Points g h0 q0 x0 n0) o.1 (wd_Points g h0 q0 (o.2) n0) sz) (cc := b_Points_swapValue) (maxL := 4) (ret := some .int) (by decide) rfl (Nat.le_of_ble_eq_true rfl) ?_
  intro p e s m args below meth c Q hQ hx hb hr hts hown hlocks hml hnm H locs A hAe hA hP hK hD hS hGA ls hl
  have hl : lv_has ls 4 [(0, .ref h0), (1, .int a1), (2, .int a2)] := hl
  have hts : ∀ w ∈ gw, w.before args s = true := fun w h => hts w (List.mem_cons_of_mem _ h)
  have hown : s.vm.findClass "AlarmMatrix$Points" = some m.cls := hown
  refine lv_aload_n hx hb d_Points_swapValue_0 rfl (lv_at hl 0 rfl) ?_
  refine va_get (D := (dC, dI)) (ci := 7) (v := .ref (q0 1)) (C := "AlarmMatrix$Points") (T := T_Points) (N := 6) hx hb hts i_Points hown hK hP 0 rfl rfl 1 (by decide) (hts _ k1_61) (fun _ h9 => h9) rfl d_Points_swapValue_1 ?_
  refine lv_iload_n hx hb d_Points_swapValue_4 rfl (lv_at hl 1 rfl) ?_
  obtain ⟨h_5, hm⟩ := ck_s hm
  refine va_iald (f := (x0 1)) hx hb hK hP 1 0 rfl rfl h_5 d_Points_swapValue_5 ?_
  refine lv_istore_n (lv' := [(3, .int ((x0 1) a1.toNatClampNeg)), (0, .ref h0), (1, .int a1), (2, .int a2)]) hx hb d_Points_swapValue_6 rfl hl (by decide) rfl (fun ls hl => ?_)
  refine lv_aload_n hx hb d_Points_swapValue_7 rfl (lv_at hl 1 rfl) ?_
  refine va_get (D := (dC, dI)) (ci := 7) (v := .ref (q0 1)) (C := "AlarmMatrix$Points") (T := T_Points) (N := 6) hx hb hts i_Points hown hK hP 0 rfl rfl 1 (by decide) (hts _ k1_61) (fun _ h9 => h9) rfl d_Points_swapValue_8 ?_
  refine lv_iload_n hx hb d_Points_swapValue_11 rfl (lv_at hl 2 rfl) ?_
  refine lv_iload_n hx hb d_Points_swapValue_12 rfl (lv_at hl 3 rfl) ?_
  obtain ⟨h_13, hm⟩ := ck_s hm
  obtain ⟨e0_13, he, hm⟩ := lz_s hm
  refine va_iast (f := (x0 1)) hx hb hK hP hD hS 1 0 rfl rfl h_13 d_Points_swapValue_13 (fun H locs hP hD hS => ?_)
  have hP : va_P (dC, dI) vwCl (wd_Points g h0 q0 e0_13 n0) H := by rw [he]; exact hP
  have hD : va_D A (wd_Points g h0 q0 e0_13 n0) := by rw [he]; exact hD
  refine lv_iload_n hx hb d_Points_swapValue_14 rfl (lv_at hl 0 rfl) ?_
  obtain rfl := Option.some.inj hm
  rw [hQ]
  exact kri hx hb hr hlocks hAe hP hK hD hS d_Points_swapValue_15
abbrev b_Points_swapFaulty : ByteArray := prog_6_method_5_code
abbrev y_Points_swapFaulty : MethodName := ⟨"AlarmMatrix$Points", "swapFaulty", "(IZ)Z"⟩
theorem d_Points_swapFaulty_0 : decode b_Points_swapFaulty 0 = .ok (.aload_n 0, 1) := by decide +kernel
theorem d_Points_swapFaulty_1 : decode b_Points_swapFaulty 1 = .ok (.getfield 22, 3) := by decide +kernel
theorem d_Points_swapFaulty_4 : decode b_Points_swapFaulty 4 = .ok (.iload_n 1, 1) := by decide +kernel
theorem d_Points_swapFaulty_5 : decode b_Points_swapFaulty 5 = .ok (.baload, 1) := by decide +kernel
theorem d_Points_swapFaulty_6 : decode b_Points_swapFaulty 6 = .ok (.istore_n 3, 1) := by decide +kernel
theorem d_Points_swapFaulty_7 : decode b_Points_swapFaulty 7 = .ok (.aload_n 0, 1) := by decide +kernel
theorem d_Points_swapFaulty_8 : decode b_Points_swapFaulty 8 = .ok (.getfield 22, 3) := by decide +kernel
theorem d_Points_swapFaulty_11 : decode b_Points_swapFaulty 11 = .ok (.iload_n 1, 1) := by decide +kernel
theorem d_Points_swapFaulty_12 : decode b_Points_swapFaulty 12 = .ok (.iload_n 2, 1) := by decide +kernel
theorem d_Points_swapFaulty_13 : decode b_Points_swapFaulty 13 = .ok (.bastore, 1) := by decide +kernel
theorem d_Points_swapFaulty_14 : decode b_Points_swapFaulty 14 = .ok (.iload_n 3, 1) := by decide +kernel
theorem d_Points_swapFaulty_15 : decode b_Points_swapFaulty 15 = .ok (.ireturn, 1) := by decide +kernel
def m_Points_swapFaulty (F : Nat) (x0 : St) (n0 : Nat) (a1 : Int32) (a2 : Int32) : Option (Int32 × St) :=
  (ck a1 n0 (ck a1 n0 (lz (st x0 3 (upd (x0 3) a1.toNatClampNeg (vp_nar .boolean a2))) (fun e0_13 => (ckb ((x0 3) a1.toNatClampNeg) (some (((x0 3) a1.toNatClampNeg), e0_13)))))))
abbrev rm_Points_swapFaulty : Room := { frames := 0, cells := 0, slots := 0, locals := 0 }
set_option maxHeartbeats 4000000 in
set_option maxRecDepth 100000 in
theorem c_Points_swapFaulty {G : (Nat → Prop) → State → Prop} (hG : gok G) (hGn : gN G) (l : Launch) (dC : Nat → ClassId) (dI : Nat → Nat → Nat) (g : Nat → ClassId) (F : Nat) (sz : Nat) (h0 : Nat) (q0 : Nat → Nat) (x0 : St) (n0 : Nat) (a1 : Int32) (a2 : Int32) {o : Int32 × St} (hm : m_Points_swapFaulty F x0 n0 a1 a2 = some o) : Met l y_Points_swapFaulty (.code y_Points_swapFaulty b_Points_swapFaulty 4 (some .boolean) :: gw) rm_Points_swapFaulty (kq (dC, dI) vwCl (tyv g) G [.ref h0, .int a1, .int a2] sz (wd_Points g h0 q0 x0 n0)) (kqi (dC, dI) vwCl (tyv g) (wd_Points g h0 q0 x0 n0) o.1 (wd_Points g h0 q0 (o.2) n0) sz) 0 0 (va_A (wd_Points g h0 q0 x0 n0) sz) := by
  unfold m_Points_swapFaulty at hm
  refine km (Qc := fun sz => kqi (dC, dI) vwCl (tyv g) (wd_Points g h0 q0 x0 n0) o.1 (wd_Points g h0 q0 (o.2) n0) sz) (cc := b_Points_swapFaulty) (maxL := 4) (ret := some .boolean) (by decide) rfl (Nat.le_of_ble_eq_true rfl) ?_
  intro p e s m args below meth c Q hQ hx hb hr hts hown hlocks hml hnm H locs A hAe hA hP hK hD hS hGA ls hl
  have hl : lv_has ls 4 [(0, .ref h0), (1, .int a1), (2, .int a2)] := hl
  have hts : ∀ w ∈ gw, w.before args s = true := fun w h => hts w (List.mem_cons_of_mem _ h)
  have hown : s.vm.findClass "AlarmMatrix$Points" = some m.cls := hown
  refine lv_aload_n hx hb d_Points_swapFaulty_0 rfl (lv_at hl 0 rfl) ?_
  refine va_get (D := (dC, dI)) (ci := 7) (v := .ref (q0 3)) (C := "AlarmMatrix$Points") (T := T_Points) (N := 6) hx hb hts i_Points hown hK hP 0 rfl rfl 3 (by decide) (hts _ k1_63) (fun _ h9 => h9) rfl d_Points_swapFaulty_1 ?_
  refine lv_iload_n hx hb d_Points_swapFaulty_4 rfl (lv_at hl 1 rfl) ?_
  obtain ⟨h_5, hm⟩ := ck_s hm
  refine va_zald (f := (x0 3)) hx hb hK hP 3 1 rfl rfl h_5 d_Points_swapFaulty_5 ?_
  refine lv_istore_n (lv' := [(3, .int ((x0 3) a1.toNatClampNeg)), (0, .ref h0), (1, .int a1), (2, .int a2)]) hx hb d_Points_swapFaulty_6 rfl hl (by decide) rfl (fun ls hl => ?_)
  refine lv_aload_n hx hb d_Points_swapFaulty_7 rfl (lv_at hl 1 rfl) ?_
  refine va_get (D := (dC, dI)) (ci := 7) (v := .ref (q0 3)) (C := "AlarmMatrix$Points") (T := T_Points) (N := 6) hx hb hts i_Points hown hK hP 0 rfl rfl 3 (by decide) (hts _ k1_63) (fun _ h9 => h9) rfl d_Points_swapFaulty_8 ?_
  refine lv_iload_n hx hb d_Points_swapFaulty_11 rfl (lv_at hl 2 rfl) ?_
  refine lv_iload_n hx hb d_Points_swapFaulty_12 rfl (lv_at hl 3 rfl) ?_
  obtain ⟨h_13, hm⟩ := ck_s hm
  obtain ⟨e0_13, he, hm⟩ := lz_s hm
  refine va_zast (f := (x0 3)) hx hb hK hP hD hS 3 1 rfl rfl h_13 d_Points_swapFaulty_13 (fun H locs hP hD hS => ?_)
  have hP : va_P (dC, dI) vwCl (wd_Points g h0 q0 e0_13 n0) H := by rw [he]; exact hP
  have hD : va_D A (wd_Points g h0 q0 e0_13 n0) := by rw [he]; exact hD
  refine lv_iload_n hx hb d_Points_swapFaulty_14 rfl (lv_at hl 0 rfl) ?_
  obtain ⟨hz, hm⟩ := ckb_s hm
  obtain rfl := Option.some.inj hm
  rw [hQ]
  exact krz hx hb hr hz hlocks hAe hP hK hD hS d_Points_swapFaulty_15
abbrev b_Points_swapUntil : ByteArray := prog_6_method_6_code
abbrev y_Points_swapUntil : MethodName := ⟨"AlarmMatrix$Points", "swapUntil", "(II)I"⟩
theorem d_Points_swapUntil_0 : decode b_Points_swapUntil 0 = .ok (.aload_n 0, 1) := by decide +kernel
theorem d_Points_swapUntil_1 : decode b_Points_swapUntil 1 = .ok (.getfield 19, 3) := by decide +kernel
theorem d_Points_swapUntil_4 : decode b_Points_swapUntil 4 = .ok (.iload_n 1, 1) := by decide +kernel
theorem d_Points_swapUntil_5 : decode b_Points_swapUntil 5 = .ok (.iaload, 1) := by decide +kernel
theorem d_Points_swapUntil_6 : decode b_Points_swapUntil 6 = .ok (.istore_n 3, 1) := by decide +kernel
theorem d_Points_swapUntil_7 : decode b_Points_swapUntil 7 = .ok (.aload_n 0, 1) := by decide +kernel
theorem d_Points_swapUntil_8 : decode b_Points_swapUntil 8 = .ok (.getfield 19, 3) := by decide +kernel
theorem d_Points_swapUntil_11 : decode b_Points_swapUntil 11 = .ok (.iload_n 1, 1) := by decide +kernel
theorem d_Points_swapUntil_12 : decode b_Points_swapUntil 12 = .ok (.iload_n 2, 1) := by decide +kernel
theorem d_Points_swapUntil_13 : decode b_Points_swapUntil 13 = .ok (.iastore, 1) := by decide +kernel
theorem d_Points_swapUntil_14 : decode b_Points_swapUntil 14 = .ok (.iload_n 3, 1) := by decide +kernel
theorem d_Points_swapUntil_15 : decode b_Points_swapUntil 15 = .ok (.ireturn, 1) := by decide +kernel
def m_Points_swapUntil (F : Nat) (x0 : St) (n0 : Nat) (a1 : Int32) (a2 : Int32) : Option (Int32 × St) :=
  (ck a1 n0 (ck a1 n0 (lz (st x0 2 (upd (x0 2) a1.toNatClampNeg a2)) (fun e0_13 => (some (((x0 2) a1.toNatClampNeg), e0_13))))))
abbrev rm_Points_swapUntil : Room := { frames := 0, cells := 0, slots := 0, locals := 0 }
set_option maxHeartbeats 4000000 in
set_option maxRecDepth 100000 in
theorem c_Points_swapUntil {G : (Nat → Prop) → State → Prop} (hG : gok G) (hGn : gN G) (l : Launch) (dC : Nat → ClassId) (dI : Nat → Nat → Nat) (g : Nat → ClassId) (F : Nat) (sz : Nat) (h0 : Nat) (q0 : Nat → Nat) (x0 : St) (n0 : Nat) (a1 : Int32) (a2 : Int32) {o : Int32 × St} (hm : m_Points_swapUntil F x0 n0 a1 a2 = some o) : Met l y_Points_swapUntil (.code y_Points_swapUntil b_Points_swapUntil 4 (some .int) :: gw) rm_Points_swapUntil (kq (dC, dI) vwCl (tyv g) G [.ref h0, .int a1, .int a2] sz (wd_Points g h0 q0 x0 n0)) (kqi (dC, dI) vwCl (tyv g) (wd_Points g h0 q0 x0 n0) o.1 (wd_Points g h0 q0 (o.2) n0) sz) 0 0 (va_A (wd_Points g h0 q0 x0 n0) sz) := by
  unfold m_Points_swapUntil at hm
  refine km (Qc := fun sz => kqi (dC, dI) vwCl (tyv g) (wd_Points g h0 q0 x0 n0) o.1 (wd_Points g h0 q0 (o.2) n0) sz) (cc := b_Points_swapUntil) (maxL := 4) (ret := some .int) (by decide) rfl (Nat.le_of_ble_eq_true rfl) ?_
  intro p e s m args below meth c Q hQ hx hb hr hts hown hlocks hml hnm H locs A hAe hA hP hK hD hS hGA ls hl
  have hl : lv_has ls 4 [(0, .ref h0), (1, .int a1), (2, .int a2)] := hl
  have hts : ∀ w ∈ gw, w.before args s = true := fun w h => hts w (List.mem_cons_of_mem _ h)
  have hown : s.vm.findClass "AlarmMatrix$Points" = some m.cls := hown
  refine lv_aload_n hx hb d_Points_swapUntil_0 rfl (lv_at hl 0 rfl) ?_
  refine va_get (D := (dC, dI)) (ci := 7) (v := .ref (q0 2)) (C := "AlarmMatrix$Points") (T := T_Points) (N := 6) hx hb hts i_Points hown hK hP 0 rfl rfl 2 (by decide) (hts _ k1_62) (fun _ h9 => h9) rfl d_Points_swapUntil_1 ?_
  refine lv_iload_n hx hb d_Points_swapUntil_4 rfl (lv_at hl 1 rfl) ?_
  obtain ⟨h_5, hm⟩ := ck_s hm
  refine va_iald (f := (x0 2)) hx hb hK hP 2 0 rfl rfl h_5 d_Points_swapUntil_5 ?_
  refine lv_istore_n (lv' := [(3, .int ((x0 2) a1.toNatClampNeg)), (0, .ref h0), (1, .int a1), (2, .int a2)]) hx hb d_Points_swapUntil_6 rfl hl (by decide) rfl (fun ls hl => ?_)
  refine lv_aload_n hx hb d_Points_swapUntil_7 rfl (lv_at hl 1 rfl) ?_
  refine va_get (D := (dC, dI)) (ci := 7) (v := .ref (q0 2)) (C := "AlarmMatrix$Points") (T := T_Points) (N := 6) hx hb hts i_Points hown hK hP 0 rfl rfl 2 (by decide) (hts _ k1_62) (fun _ h9 => h9) rfl d_Points_swapUntil_8 ?_
  refine lv_iload_n hx hb d_Points_swapUntil_11 rfl (lv_at hl 2 rfl) ?_
  refine lv_iload_n hx hb d_Points_swapUntil_12 rfl (lv_at hl 3 rfl) ?_
  obtain ⟨h_13, hm⟩ := ck_s hm
  obtain ⟨e0_13, he, hm⟩ := lz_s hm
  refine va_iast (f := (x0 2)) hx hb hK hP hD hS 2 0 rfl rfl h_13 d_Points_swapUntil_13 (fun H locs hP hD hS => ?_)
  have hP : va_P (dC, dI) vwCl (wd_Points g h0 q0 e0_13 n0) H := by rw [he]; exact hP
  have hD : va_D A (wd_Points g h0 q0 e0_13 n0) := by rw [he]; exact hD
  refine lv_iload_n hx hb d_Points_swapUntil_14 rfl (lv_at hl 0 rfl) ?_
  obtain rfl := Option.some.inj hm
  rw [hQ]
  exact kri hx hb hr hlocks hAe hP hK hD hS d_Points_swapUntil_15
abbrev b_Points_isInLoop : ByteArray := prog_6_method_7_code
abbrev y_Points_isInLoop : MethodName := ⟨"AlarmMatrix$Points", "isInLoop", "(I)Z"⟩
theorem d_Points_isInLoop_0 : decode b_Points_isInLoop 0 = .ok (.aload_n 0, 1) := by decide +kernel
theorem d_Points_isInLoop_1 : decode b_Points_isInLoop 1 = .ok (.getfield 26, 3) := by decide +kernel
theorem d_Points_isInLoop_4 : decode b_Points_isInLoop 4 = .ok (.iload_n 1, 1) := by decide +kernel
theorem d_Points_isInLoop_5 : decode b_Points_isInLoop 5 = .ok (.baload, 1) := by decide +kernel
theorem d_Points_isInLoop_6 : decode b_Points_isInLoop 6 = .ok (.ireturn, 1) := by decide +kernel
def m_Points_isInLoop (F : Nat) (x0 : St) (n0 : Nat) (a1 : Int32) : Option (Int32) :=
  (ck a1 n0 (ckb ((x0 4) a1.toNatClampNeg) (some ((x0 4) a1.toNatClampNeg))))
abbrev rm_Points_isInLoop : Room := { frames := 0, cells := 0, slots := 0, locals := 0 }
set_option maxHeartbeats 4000000 in
set_option maxRecDepth 100000 in
theorem c_Points_isInLoop {G : (Nat → Prop) → State → Prop} (hG : gok G) (hGn : gN G) (l : Launch) (dC : Nat → ClassId) (dI : Nat → Nat → Nat) (g : Nat → ClassId) (F : Nat) (sz : Nat) (h0 : Nat) (q0 : Nat → Nat) (x0 : St) (n0 : Nat) (a1 : Int32) {o : Int32} (hm : m_Points_isInLoop F x0 n0 a1 = some o) : Met l y_Points_isInLoop (.code y_Points_isInLoop b_Points_isInLoop 2 (some .boolean) :: gw) rm_Points_isInLoop (kq (dC, dI) vwCl (tyv g) G [.ref h0, .int a1] sz (wd_Points g h0 q0 x0 n0)) (kqi (dC, dI) vwCl (tyv g) (wd_Points g h0 q0 x0 n0) o (wd_Points g h0 q0 x0 n0) sz) 0 0 (va_A (wd_Points g h0 q0 x0 n0) sz) := by
  unfold m_Points_isInLoop at hm
  refine km (Qc := fun sz => kqi (dC, dI) vwCl (tyv g) (wd_Points g h0 q0 x0 n0) o (wd_Points g h0 q0 x0 n0) sz) (cc := b_Points_isInLoop) (maxL := 2) (ret := some .boolean) (by decide) rfl (Nat.le_of_ble_eq_true rfl) ?_
  intro p e s m args below meth c Q hQ hx hb hr hts hown hlocks hml hnm H locs A hAe hA hP hK hD hS hGA ls hl
  have hl : lv_has ls 2 [(0, .ref h0), (1, .int a1)] := hl
  have hts : ∀ w ∈ gw, w.before args s = true := fun w h => hts w (List.mem_cons_of_mem _ h)
  have hown : s.vm.findClass "AlarmMatrix$Points" = some m.cls := hown
  refine lv_aload_n hx hb d_Points_isInLoop_0 rfl (lv_at hl 0 rfl) ?_
  refine va_get (D := (dC, dI)) (ci := 7) (v := .ref (q0 4)) (C := "AlarmMatrix$Points") (T := T_Points) (N := 6) hx hb hts i_Points hown hK hP 0 rfl rfl 4 (by decide) (hts _ k1_64) (fun _ h9 => h9) rfl d_Points_isInLoop_1 ?_
  refine lv_iload_n hx hb d_Points_isInLoop_4 rfl (lv_at hl 1 rfl) ?_
  obtain ⟨h_5, hm⟩ := ck_s hm
  refine va_zald (f := (x0 4)) hx hb hK hP 4 1 rfl rfl h_5 d_Points_isInLoop_5 ?_
  obtain ⟨hz, hm⟩ := ckb_s hm
  obtain rfl := Option.some.inj hm
  rw [hQ]
  exact krz hx hb hr hz hlocks hAe hP hK hD hS d_Points_isInLoop_6
abbrev b_Points_putInLoop : ByteArray := prog_6_method_8_code
abbrev y_Points_putInLoop : MethodName := ⟨"AlarmMatrix$Points", "putInLoop", "(I)V"⟩
theorem d_Points_putInLoop_0 : decode b_Points_putInLoop 0 = .ok (.aload_n 0, 1) := by decide +kernel
theorem d_Points_putInLoop_1 : decode b_Points_putInLoop 1 = .ok (.getfield 26, 3) := by decide +kernel
theorem d_Points_putInLoop_4 : decode b_Points_putInLoop 4 = .ok (.iload_n 1, 1) := by decide +kernel
theorem d_Points_putInLoop_5 : decode b_Points_putInLoop 5 = .ok (.iconst 1, 1) := by decide +kernel
theorem d_Points_putInLoop_6 : decode b_Points_putInLoop 6 = .ok (.bastore, 1) := by decide +kernel
theorem d_Points_putInLoop_7 : decode b_Points_putInLoop 7 = .ok (.return_, 1) := by decide +kernel
def m_Points_putInLoop (F : Nat) (x0 : St) (n0 : Nat) (a1 : Int32) : Option (St) :=
  (ck a1 n0 (lz (st x0 4 (upd (x0 4) a1.toNatClampNeg (vp_nar .boolean (1 : Int32)))) (fun e0_6 => (some e0_6))))
abbrev rm_Points_putInLoop : Room := { frames := 0, cells := 0, slots := 0, locals := 0 }
set_option maxHeartbeats 4000000 in
set_option maxRecDepth 100000 in
theorem c_Points_putInLoop {G : (Nat → Prop) → State → Prop} (hG : gok G) (hGn : gN G) (l : Launch) (dC : Nat → ClassId) (dI : Nat → Nat → Nat) (g : Nat → ClassId) (F : Nat) (sz : Nat) (h0 : Nat) (q0 : Nat → Nat) (x0 : St) (n0 : Nat) (a1 : Int32) {o : St} (hm : m_Points_putInLoop F x0 n0 a1 = some o) : Met l y_Points_putInLoop (.code y_Points_putInLoop b_Points_putInLoop 2 none :: gw) rm_Points_putInLoop (kq (dC, dI) vwCl (tyv g) G [.ref h0, .int a1] sz (wd_Points g h0 q0 x0 n0)) (kqv (dC, dI) vwCl (tyv g) (wd_Points g h0 q0 x0 n0) (wd_Points g h0 q0 o n0) sz) 0 0 (va_A (wd_Points g h0 q0 x0 n0) sz) := by
  unfold m_Points_putInLoop at hm
  refine km (Qc := fun sz => kqv (dC, dI) vwCl (tyv g) (wd_Points g h0 q0 x0 n0) (wd_Points g h0 q0 o n0) sz) (cc := b_Points_putInLoop) (maxL := 2) (ret := none) (by decide) rfl (Nat.le_of_ble_eq_true rfl) ?_
  intro p e s m args below meth c Q hQ hx hb hr hts hown hlocks hml hnm H locs A hAe hA hP hK hD hS hGA ls hl
  have hl : lv_has ls 2 [(0, .ref h0), (1, .int a1)] := hl
  have hts : ∀ w ∈ gw, w.before args s = true := fun w h => hts w (List.mem_cons_of_mem _ h)
  have hown : s.vm.findClass "AlarmMatrix$Points" = some m.cls := hown
  refine lv_aload_n hx hb d_Points_putInLoop_0 rfl (lv_at hl 0 rfl) ?_
  refine va_get (D := (dC, dI)) (ci := 7) (v := .ref (q0 4)) (C := "AlarmMatrix$Points") (T := T_Points) (N := 6) hx hb hts i_Points hown hK hP 0 rfl rfl 4 (by decide) (hts _ k1_64) (fun _ h9 => h9) rfl d_Points_putInLoop_1 ?_
  refine lv_iload_n hx hb d_Points_putInLoop_4 rfl (lv_at hl 1 rfl) ?_
  refine lv_iconst (v := (1 : Int32)) hx hb d_Points_putInLoop_5 (by decide) ?_
  obtain ⟨h_6, hm⟩ := ck_s hm
  obtain ⟨e0_6, he, hm⟩ := lz_s hm
  refine va_zast (f := (x0 4)) hx hb hK hP hD hS 4 1 rfl rfl h_6 d_Points_putInLoop_6 (fun H locs hP hD hS => ?_)
  have hP : va_P (dC, dI) vwCl (wd_Points g h0 q0 e0_6 n0) H := by rw [he]; exact hP
  have hD : va_D A (wd_Points g h0 q0 e0_6 n0) := by rw [he]; exact hD
  obtain rfl := Option.some.inj hm
  rw [hQ]
  exact krv hx hb hr hlocks hAe hP hK hD hS d_Points_putInLoop_7
abbrev b_Points_hearThrough : ByteArray := prog_6_method_9_code
abbrev y_Points_hearThrough : MethodName := ⟨"AlarmMatrix$Points", "hearThrough", "(LAlarmMatrix$Loop;)V"⟩
theorem d_Points_hearThrough_0 : decode b_Points_hearThrough 0 = .ok (.iconst 0, 1) := by decide +kernel
theorem d_Points_hearThrough_1 : decode b_Points_hearThrough 1 = .ok (.istore_n 2, 1) := by decide +kernel
theorem d_Points_hearThrough_2 : decode b_Points_hearThrough 2 = .ok (.iload_n 2, 1) := by decide +kernel
theorem d_Points_hearThrough_3 : decode b_Points_hearThrough 3 = .ok (.aload_n 1, 1) := by decide +kernel
theorem d_Points_hearThrough_4 : decode b_Points_hearThrough 4 = .ok (.invokevirtual 36, 3) := by decide +kernel
theorem d_Points_hearThrough_7 : decode b_Points_hearThrough 7 = .ok (.if_icmp .ge 32, 3) := by decide +kernel
theorem d_Points_hearThrough_10 : decode b_Points_hearThrough 10 = .ok (.aload_n 0, 1) := by decide +kernel
theorem d_Points_hearThrough_11 : decode b_Points_hearThrough 11 = .ok (.getfield 29, 3) := by decide +kernel
theorem d_Points_hearThrough_14 : decode b_Points_hearThrough 14 = .ok (.aload_n 1, 1) := by decide +kernel
theorem d_Points_hearThrough_15 : decode b_Points_hearThrough 15 = .ok (.iload_n 2, 1) := by decide +kernel
theorem d_Points_hearThrough_16 : decode b_Points_hearThrough 16 = .ok (.invokevirtual 42, 3) := by decide +kernel
theorem d_Points_hearThrough_19 : decode b_Points_hearThrough 19 = .ok (.aload_n 1, 1) := by decide +kernel
theorem d_Points_hearThrough_20 : decode b_Points_hearThrough 20 = .ok (.iload_n 2, 1) := by decide +kernel
theorem d_Points_hearThrough_21 : decode b_Points_hearThrough 21 = .ok (.invokevirtual 46, 3) := by decide +kernel
theorem d_Points_hearThrough_24 : decode b_Points_hearThrough 24 = .ok (.ifCond .ne 7, 3) := by decide +kernel
theorem d_Points_hearThrough_27 : decode b_Points_hearThrough 27 = .ok (.iconst 1, 1) := by decide +kernel
theorem d_Points_hearThrough_28 : decode b_Points_hearThrough 28 = .ok (.goto 4, 3) := by decide +kernel
theorem d_Points_hearThrough_31 : decode b_Points_hearThrough 31 = .ok (.iconst 0, 1) := by decide +kernel
theorem d_Points_hearThrough_32 : decode b_Points_hearThrough 32 = .ok (.bastore, 1) := by decide +kernel
theorem d_Points_hearThrough_33 : decode b_Points_hearThrough 33 = .ok (.iinc 2 1, 3) := by decide +kernel
theorem d_Points_hearThrough_36 : decode b_Points_hearThrough 36 = .ok (.goto (-34), 3) := by decide +kernel
theorem d_Points_hearThrough_39 : decode b_Points_hearThrough 39 = .ok (.return_, 1) := by decide +kernel
def m_Points_hearThrough_B2 {R : Type} (F : Nat) (x1 : St) (n0 : Nat) (k2_39 : Int32 → St → Option R) (rec2 : Int32 → St → Option R) (v2_2 : Int32) (y0_2 : St) : Option R :=
  (bn1 (m_Loop_size F x1) (fun r4 => (if r4 ≤ v2_2 then (k2_39 v2_2 y0_2) else (bn1 (m_Loop_pointAt F x1 v2_2) (fun r16 => (bn1 (m_Loop_hears F x1 v2_2) (fun r21 => (if r21 = (0 : Int32) then (ck r16 n0 (lz (st y0_2 5 (upd (y0_2 5) r16.toNatClampNeg (vp_nar .boolean (1 : Int32)))) (fun e0_32 => (rec2 (v2_2 + (1 : Int32)) e0_32)))) else (ck r16 n0 (lz (st y0_2 5 (upd (y0_2 5) r16.toNatClampNeg (vp_nar .boolean (0 : Int32)))) (fun e0_32 => (rec2 (v2_2 + (1 : Int32)) e0_32))))))))))))
theorem m_Points_hearThrough_B2_h {R : Type} {F : Nat} {x1 : St} {n0 : Nat} {k2_39 : Int32 → St → Option R} {rec2 : Int32 → St → Option R} {v2_2 : Int32} {y0_2 : St} {o : R} (h : m_Points_hearThrough_B2 F x1 n0 k2_39 rec2 v2_2 y0_2 = some o) :
  (bn1 (m_Loop_size F x1) (fun r4 => (if r4 ≤ v2_2 then (k2_39 v2_2 y0_2) else (bn1 (m_Loop_pointAt F x1 v2_2) (fun r16 => (bn1 (m_Loop_hears F x1 v2_2) (fun r21 => (if r21 = (0 : Int32) then (ck r16 n0 (lz (st y0_2 5 (upd (y0_2 5) r16.toNatClampNeg (vp_nar .boolean (1 : Int32)))) (fun e0_32 => (rec2 (v2_2 + (1 : Int32)) e0_32)))) else (ck r16 n0 (lz (st y0_2 5 (upd (y0_2 5) r16.toNatClampNeg (vp_nar .boolean (0 : Int32)))) (fun e0_32 => (rec2 (v2_2 + (1 : Int32)) e0_32)))))))))))) = some o := h
def m_Points_hearThrough (F : Nat) (x0 : St) (n0 : Nat) (x1 : St) : Option (St) :=
  (lq2 (m_Points_hearThrough_B2 F x1 n0 (fun v2_2 y0_2 => (some y0_2))) F (0 : Int32) x0)
abbrev rm_Points_hearThrough : Room := { frames := 1, cells := 0, slots := 0, locals := 21 }
set_option maxHeartbeats 4000000 in
set_option maxRecDepth 100000 in
theorem c_Points_hearThrough {G : (Nat → Prop) → State → Prop} (hG : gok G) (hGn : gN G) (l : Launch) (dC : Nat → ClassId) (dI : Nat → Nat → Nat) (g : Nat → ClassId) (F : Nat) (sz : Nat) (h0 : Nat) (q0 : Nat → Nat) (x0 : St) (n0 : Nat) (h1 : Nat) (q1 : Nat → Nat) (x1 : St) {o : St} (hm : m_Points_hearThrough F x0 n0 x1 = some o) : Met l y_Points_hearThrough (.code y_Points_hearThrough b_Points_hearThrough 3 none :: gw) rm_Points_hearThrough (kq (dC, dI) vwCl (tyv g) G [.ref h0, .ref h1] sz (wd_Points g h0 q0 x0 n0 ++ wd_Loop g h1 q1 x1)) (kqv (dC, dI) vwCl (tyv g) (wd_Points g h0 q0 x0 n0 ++ wd_Loop g h1 q1 x1) (wd_Points g h0 q0 o n0 ++ wd_Loop g h1 q1 x1) sz) 0 0 (va_A (wd_Points g h0 q0 x0 n0 ++ wd_Loop g h1 q1 x1) sz) := by
  unfold m_Points_hearThrough at hm
  refine km (Qc := fun sz => kqv (dC, dI) vwCl (tyv g) (wd_Points g h0 q0 x0 n0 ++ wd_Loop g h1 q1 x1) (wd_Points g h0 q0 o n0 ++ wd_Loop g h1 q1 x1) sz) (cc := b_Points_hearThrough) (maxL := 3) (ret := none) (by decide) rfl (Nat.le_of_ble_eq_true rfl) ?_
  intro p e s m args below meth c Q hQ hx hb hr hts hown hlocks hml hnm H locs A hAe hA hP hK hD hS hGA ls hl
  have hl : lv_has ls 3 [(0, .ref h0), (1, .ref h1)] := hl
  have hts : ∀ w ∈ gw, w.before args s = true := fun w h => hts w (List.mem_cons_of_mem _ h)
  have hown : s.vm.findClass "AlarmMatrix$Points" = some m.cls := hown
  refine lv_iconst (v := (0 : Int32)) hx hb d_Points_hearThrough_0 (by decide) ?_
  refine lv_istore_n (lv' := [(2, .int (0 : Int32)), (0, .ref h0), (1, .ref h1)]) hx hb d_Points_hearThrough_1 rfl hl (by decide) rfl (fun ls hl => ?_)
  have L2 : ∀ (n2 : Nat) (v2_2 : Int32) (y0_2 : St) (H : Heap) (locs : List Loc) (ls : Array Slot), lq2 (m_Points_hearThrough_B2 F x1 n0 (fun v2_2 y0_2 => (some y0_2))) n2 v2_2 y0_2 = some o → va_P (dC, dI) vwCl (wd_Points g h0 q0 y0_2 n0 ++ wd_Loop g h1 q1 x1) H → va_D A (wd_Points g h0 q0 y0_2 n0 ++ wd_Loop g h1 q1 x1) → va_S A s.heap H locs → lv_has ls 3 [(0, .ref h0), (1, .ref h1), (2, .int v2_2)] → W p l e rm_Points_hearThrough s m args below meth c H locs 0 0 Q (F0 m 2 ls []) := by
    intro n2
    induction n2 with
    | zero => intro v2_2 y0_2 H locs ls hm; exact absurd hm (by intro z; cases z)
    | succ n2 ih2 =>
      intro v2_2 y0_2 H locs ls hm hP hD hS hl
      replace hm := m_Points_hearThrough_B2_h (lq2_h hm)
      refine lv_iload_n hx hb d_Points_hearThrough_2 rfl (lv_at hl 2 rfl) ?_
      refine lv_aload_n hx hb d_Points_hearThrough_3 rfl (lv_at hl 1 rfl) ?_
      obtain ⟨r4, hcl, hm⟩ := bn1_s hm
      refine kci (wc := wd_Loop g h1 q1 x1) (wr := wd_Points g h0 q0 y0_2 n0) (w1 := wd_Loop g h1 q1 x1) hP hD hS hA [6, 7, 8] [0, 1, 2, 3, 4, 5] rfl rfl (by decide) (by decide) (va_runV (As := []) (rest := [.int v2_2]) ⟨hx, hb, hml, hown, hts⟩ (c_Loop_size hG hGn l dC dI g F H.size h1 q1 x1 hcl) (cwV 0 hts (gdV k4_104 k4_80 k4_81 k1_5 k4_82) rfl rfl rfl (by decide +kernel) ⟨Nat.le_of_ble_eq_true rfl, Nat.le_of_ble_eq_true rfl⟩) (kpV hG hP hK hD hS hA hGA [6, 7, 8] (by decide) rfl (ci := 8) (q0 := 0) rfl rfl rfl) rfl rfl hl.1 rfl (lv_room (Nat.le_of_ble_eq_true rfl)) d_Points_hearThrough_4 ⟨Nat.le_of_ble_eq_true rfl, Nat.le_of_ble_eq_true rfl⟩) (fun H locs hP hD hS => ?_)
      have hP : va_P (dC, dI) vwCl (wd_Points g h0 q0 y0_2 n0 ++ wd_Loop g h1 q1 x1) H := hP
      have hD : va_D A (wd_Points g h0 q0 y0_2 n0 ++ wd_Loop g h1 q1 x1) := hD
      refine lv_icmp_ge (tgt := 39) hx hb d_Points_hearThrough_7 (by decide) (fun hc => ?_) (fun hc => ?_)
      · replace hm := if_t hm hc
        obtain rfl := Option.some.inj hm
        rw [hQ]
        exact krv hx hb hr hlocks hAe hP hK hD hS d_Points_hearThrough_39
      · replace hm := if_f hm hc
        refine lv_aload_n hx hb d_Points_hearThrough_10 rfl (lv_at hl 0 rfl) ?_
        refine va_get (D := (dC, dI)) (ci := 7) (v := .ref (q0 5)) (C := "AlarmMatrix$Points") (T := T_Points) (N := 6) hx hb hts i_Points hown hK hP 0 rfl rfl 5 (by decide) (hts _ k1_65) (fun _ h9 => h9) rfl d_Points_hearThrough_11 ?_
        refine lv_aload_n hx hb d_Points_hearThrough_14 rfl (lv_at hl 1 rfl) ?_
        refine lv_iload_n hx hb d_Points_hearThrough_15 rfl (lv_at hl 2 rfl) ?_
        obtain ⟨r16, hcl, hm⟩ := bn1_s hm
        refine kci (wc := wd_Loop g h1 q1 x1) (wr := wd_Points g h0 q0 y0_2 n0) (w1 := wd_Loop g h1 q1 x1) hP hD hS hA [6, 7, 8] [0, 1, 2, 3, 4, 5] rfl rfl (by decide) (by decide) (va_runV (As := [.int v2_2]) (rest := [.ref (q0 5)]) ⟨hx, hb, hml, hown, hts⟩ (c_Loop_pointAt hG hGn l dC dI g F H.size h1 q1 x1 v2_2 hcl) (cwV 1 hts (gdV k4_105 k4_106 k4_107 k1_5 k4_108) rfl rfl rfl (by decide +kernel) ⟨Nat.le_of_ble_eq_true rfl, Nat.le_of_ble_eq_true rfl⟩) (kpV hG hP hK hD hS hA hGA [6, 7, 8] (by decide) rfl (ci := 8) (q0 := 0) rfl rfl rfl) rfl rfl hl.1 rfl (lv_room (Nat.le_of_ble_eq_true rfl)) d_Points_hearThrough_16 ⟨Nat.le_of_ble_eq_true rfl, Nat.le_of_ble_eq_true rfl⟩) (fun H locs hP hD hS => ?_)
        have hP : va_P (dC, dI) vwCl (wd_Points g h0 q0 y0_2 n0 ++ wd_Loop g h1 q1 x1) H := hP
        have hD : va_D A (wd_Points g h0 q0 y0_2 n0 ++ wd_Loop g h1 q1 x1) := hD
        refine lv_aload_n hx hb d_Points_hearThrough_19 rfl (lv_at hl 1 rfl) ?_
        refine lv_iload_n hx hb d_Points_hearThrough_20 rfl (lv_at hl 2 rfl) ?_
        obtain ⟨r21, hcl, hm⟩ := bn1_s hm
        refine kci (wc := wd_Loop g h1 q1 x1) (wr := wd_Points g h0 q0 y0_2 n0) (w1 := wd_Loop g h1 q1 x1) hP hD hS hA [6, 7, 8] [0, 1, 2, 3, 4, 5] rfl rfl (by decide) (by decide) (va_runV (As := [.int v2_2]) (rest := [.int r16, .ref (q0 5)]) ⟨hx, hb, hml, hown, hts⟩ (c_Loop_hears hG hGn l dC dI g F H.size h1 q1 x1 v2_2 hcl) (cwV 1 hts (gdV k4_109 k4_110 k4_111 k1_5 k4_112) rfl rfl rfl (by decide +kernel) ⟨Nat.le_of_ble_eq_true rfl, Nat.le_of_ble_eq_true rfl⟩) (kpV hG hP hK hD hS hA hGA [6, 7, 8] (by decide) rfl (ci := 8) (q0 := 0) rfl rfl rfl) rfl rfl hl.1 rfl (lv_room (Nat.le_of_ble_eq_true rfl)) d_Points_hearThrough_21 ⟨Nat.le_of_ble_eq_true rfl, Nat.le_of_ble_eq_true rfl⟩) (fun H locs hP hD hS => ?_)
        have hP : va_P (dC, dI) vwCl (wd_Points g h0 q0 y0_2 n0 ++ wd_Loop g h1 q1 x1) H := hP
        have hD : va_D A (wd_Points g h0 q0 y0_2 n0 ++ wd_Loop g h1 q1 x1) := hD
        refine lv_if_ne (tgt := 31) hx hb d_Points_hearThrough_24 (by decide) (fun hc => ?_) (fun hc => ?_)
        · replace hm := if_f hm hc
          refine lv_iconst (v := (0 : Int32)) hx hb d_Points_hearThrough_31 (by decide) ?_
          obtain ⟨h_32, hm⟩ := ck_s hm
          obtain ⟨e0_32, he, hm⟩ := lz_s hm
          refine va_zast (f := (y0_2 5)) hx hb hK hP hD hS 5 1 rfl rfl h_32 d_Points_hearThrough_32 (fun H locs hP hD hS => ?_)
          have hP : va_P (dC, dI) vwCl (wd_Points g h0 q0 e0_32 n0 ++ wd_Loop g h1 q1 x1) H := by rw [he]; exact hP
          have hD : va_D A (wd_Points g h0 q0 e0_32 n0 ++ wd_Loop g h1 q1 x1) := by rw [he]; exact hD
          refine lv_iinc (v := (v2_2 + (1 : Int32))) (lv' := [(2, .int (v2_2 + (1 : Int32))), (0, .ref h0), (1, .ref h1)]) hx hb d_Points_hearThrough_33 hl (k := 2) rfl rfl (by decide) rfl (fun ls hl => ?_)
          refine lv_goto (tgt := 2) hx hb d_Points_hearThrough_36 (by decide) ?_
          exact ih2 (v2_2 + (1 : Int32)) e0_32 H locs ls hm hP hD hS (lv_sub hl [1, 2, 0] rfl)
        · replace hm := if_t hm hc
          refine lv_iconst (v := (1 : Int32)) hx hb d_Points_hearThrough_27 (by decide) ?_
          refine lv_goto (tgt := 32) hx hb d_Points_hearThrough_28 (by decide) ?_
          obtain ⟨h_32, hm⟩ := ck_s hm
          obtain ⟨e0_32, he, hm⟩ := lz_s hm
          refine va_zast (f := (y0_2 5)) hx hb hK hP hD hS 5 1 rfl rfl h_32 d_Points_hearThrough_32 (fun H locs hP hD hS => ?_)
          have hP : va_P (dC, dI) vwCl (wd_Points g h0 q0 e0_32 n0 ++ wd_Loop g h1 q1 x1) H := by rw [he]; exact hP
          have hD : va_D A (wd_Points g h0 q0 e0_32 n0 ++ wd_Loop g h1 q1 x1) := by rw [he]; exact hD
          refine lv_iinc (v := (v2_2 + (1 : Int32))) (lv' := [(2, .int (v2_2 + (1 : Int32))), (0, .ref h0), (1, .ref h1)]) hx hb d_Points_hearThrough_33 hl (k := 2) rfl rfl (by decide) rfl (fun ls hl => ?_)
          refine lv_goto (tgt := 2) hx hb d_Points_hearThrough_36 (by decide) ?_
          exact ih2 (v2_2 + (1 : Int32)) e0_32 H locs ls hm hP hD hS (lv_sub hl [1, 2, 0] rfl)
  exact L2 F (0 : Int32) x0 H locs ls hm hP hD hS (lv_sub hl [1, 2, 0] rfl)
abbrev b_Points_findUnheard : ByteArray := prog_6_method_10_code
abbrev y_Points_findUnheard : MethodName := ⟨"AlarmMatrix$Points", "findUnheard", "(I)I"⟩
theorem d_Points_findUnheard_0 : decode b_Points_findUnheard 0 = .ok (.iconst 0, 1) := by decide +kernel
theorem d_Points_findUnheard_1 : decode b_Points_findUnheard 1 = .ok (.istore_n 2, 1) := by decide +kernel
theorem d_Points_findUnheard_2 : decode b_Points_findUnheard 2 = .ok (.iconst 0, 1) := by decide +kernel
theorem d_Points_findUnheard_3 : decode b_Points_findUnheard 3 = .ok (.istore_n 3, 1) := by decide +kernel
theorem d_Points_findUnheard_4 : decode b_Points_findUnheard 4 = .ok (.iload_n 3, 1) := by decide +kernel
theorem d_Points_findUnheard_5 : decode b_Points_findUnheard 5 = .ok (.aload_n 0, 1) := by decide +kernel
theorem d_Points_findUnheard_6 : decode b_Points_findUnheard 6 = .ok (.getfield 9, 3) := by decide +kernel
theorem d_Points_findUnheard_9 : decode b_Points_findUnheard 9 = .ok (.if_icmp .ge 28, 3) := by decide +kernel
theorem d_Points_findUnheard_12 : decode b_Points_findUnheard 12 = .ok (.aload_n 0, 1) := by decide +kernel
theorem d_Points_findUnheard_13 : decode b_Points_findUnheard 13 = .ok (.getfield 29, 3) := by decide +kernel
theorem d_Points_findUnheard_16 : decode b_Points_findUnheard 16 = .ok (.iload_n 3, 1) := by decide +kernel
theorem d_Points_findUnheard_17 : decode b_Points_findUnheard 17 = .ok (.baload, 1) := by decide +kernel
theorem d_Points_findUnheard_18 : decode b_Points_findUnheard 18 = .ok (.ifCond .eq 13, 3) := by decide +kernel
theorem d_Points_findUnheard_21 : decode b_Points_findUnheard 21 = .ok (.iload_n 2, 1) := by decide +kernel
theorem d_Points_findUnheard_22 : decode b_Points_findUnheard 22 = .ok (.iload_n 1, 1) := by decide +kernel
theorem d_Points_findUnheard_23 : decode b_Points_findUnheard 23 = .ok (.if_icmp .ne 5, 3) := by decide +kernel
theorem d_Points_findUnheard_26 : decode b_Points_findUnheard 26 = .ok (.iload_n 3, 1) := by decide +kernel
theorem d_Points_findUnheard_27 : decode b_Points_findUnheard 27 = .ok (.ireturn, 1) := by decide +kernel
theorem d_Points_findUnheard_28 : decode b_Points_findUnheard 28 = .ok (.iinc 2 1, 3) := by decide +kernel
theorem d_Points_findUnheard_31 : decode b_Points_findUnheard 31 = .ok (.iinc 3 1, 3) := by decide +kernel
theorem d_Points_findUnheard_34 : decode b_Points_findUnheard 34 = .ok (.goto (-30), 3) := by decide +kernel
theorem d_Points_findUnheard_37 : decode b_Points_findUnheard 37 = .ok (.iconst (-1), 1) := by decide +kernel
theorem d_Points_findUnheard_38 : decode b_Points_findUnheard 38 = .ok (.ireturn, 1) := by decide +kernel
def m_Points_findUnheard_B4 {R : Type} (F : Nat) (x0 : St) (n0 : Nat) (a1 : Int32) (k4_26 : Int32 → Int32 → Option R) (k4_37 : Int32 → Int32 → Option R) (rec4 : Int32 → Int32 → Option R) (v2_4 : Int32) (v3_4 : Int32) : Option R :=
  (if (x0 0 0) ≤ v3_4 then (k4_37 v2_4 v3_4) else (ck v3_4 n0 (if ((x0 5) v3_4.toNatClampNeg) = (0 : Int32) then (rec4 v2_4 (v3_4 + (1 : Int32))) else (if v2_4 = a1 then (k4_26 v2_4 v3_4) else (rec4 (v2_4 + (1 : Int32)) (v3_4 + (1 : Int32)))))))
theorem m_Points_findUnheard_B4_h {R : Type} {F : Nat} {x0 : St} {n0 : Nat} {a1 : Int32} {k4_26 : Int32 → Int32 → Option R} {k4_37 : Int32 → Int32 → Option R} {rec4 : Int32 → Int32 → Option R} {v2_4 : Int32} {v3_4 : Int32} {o : R} (h : m_Points_findUnheard_B4 F x0 n0 a1 k4_26 k4_37 rec4 v2_4 v3_4 = some o) :
  (if (x0 0 0) ≤ v3_4 then (k4_37 v2_4 v3_4) else (ck v3_4 n0 (if ((x0 5) v3_4.toNatClampNeg) = (0 : Int32) then (rec4 v2_4 (v3_4 + (1 : Int32))) else (if v2_4 = a1 then (k4_26 v2_4 v3_4) else (rec4 (v2_4 + (1 : Int32)) (v3_4 + (1 : Int32))))))) = some o := h
def m_Points_findUnheard (F : Nat) (x0 : St) (n0 : Nat) (a1 : Int32) : Option (Int32) :=
  (lq2 (m_Points_findUnheard_B4 F x0 n0 a1 (fun v2_4 v3_4 => (some v3_4)) (fun v2_4 v3_4 => (some (-1 : Int32)))) F (0 : Int32) (0 : Int32))
abbrev rm_Points_findUnheard : Room := { frames := 0, cells := 0, slots := 0, locals := 0 }
set_option maxHeartbeats 4000000 in
set_option maxRecDepth 100000 in
theorem c_Points_findUnheard {G : (Nat → Prop) → State → Prop} (hG : gok G) (hGn : gN G) (l : Launch) (dC : Nat → ClassId) (dI : Nat → Nat → Nat) (g : Nat → ClassId) (F : Nat) (sz : Nat) (h0 : Nat) (q0 : Nat → Nat) (x0 : St) (n0 : Nat) (a1 : Int32) {o : Int32} (hm : m_Points_findUnheard F x0 n0 a1 = some o) : Met l y_Points_findUnheard (.code y_Points_findUnheard b_Points_findUnheard 4 (some .int) :: gw) rm_Points_findUnheard (kq (dC, dI) vwCl (tyv g) G [.ref h0, .int a1] sz (wd_Points g h0 q0 x0 n0)) (kqi (dC, dI) vwCl (tyv g) (wd_Points g h0 q0 x0 n0) o (wd_Points g h0 q0 x0 n0) sz) 0 0 (va_A (wd_Points g h0 q0 x0 n0) sz) := by
  unfold m_Points_findUnheard at hm
  refine km (Qc := fun sz => kqi (dC, dI) vwCl (tyv g) (wd_Points g h0 q0 x0 n0) o (wd_Points g h0 q0 x0 n0) sz) (cc := b_Points_findUnheard) (maxL := 4) (ret := some .int) (by decide) rfl (Nat.le_of_ble_eq_true rfl) ?_
  intro p e s m args below meth c Q hQ hx hb hr hts hown hlocks hml hnm H locs A hAe hA hP hK hD hS hGA ls hl
  have hl : lv_has ls 4 [(0, .ref h0), (1, .int a1)] := hl
  have hts : ∀ w ∈ gw, w.before args s = true := fun w h => hts w (List.mem_cons_of_mem _ h)
  have hown : s.vm.findClass "AlarmMatrix$Points" = some m.cls := hown
  refine lv_iconst (v := (0 : Int32)) hx hb d_Points_findUnheard_0 (by decide) ?_
  refine lv_istore_n (lv' := [(2, .int (0 : Int32)), (0, .ref h0), (1, .int a1)]) hx hb d_Points_findUnheard_1 rfl hl (by decide) rfl (fun ls hl => ?_)
  refine lv_iconst (v := (0 : Int32)) hx hb d_Points_findUnheard_2 (by decide) ?_
  refine lv_istore_n (lv' := [(3, .int (0 : Int32)), (2, .int (0 : Int32)), (0, .ref h0), (1, .int a1)]) hx hb d_Points_findUnheard_3 rfl hl (by decide) rfl (fun ls hl => ?_)
  have L4 : ∀ (n4 : Nat) (v2_4 : Int32) (v3_4 : Int32) (H : Heap) (locs : List Loc) (ls : Array Slot), lq2 (m_Points_findUnheard_B4 F x0 n0 a1 (fun v2_4 v3_4 => (some v3_4)) (fun v2_4 v3_4 => (some (-1 : Int32)))) n4 v2_4 v3_4 = some o → va_P (dC, dI) vwCl (wd_Points g h0 q0 x0 n0) H → va_D A (wd_Points g h0 q0 x0 n0) → va_S A s.heap H locs → lv_has ls 4 [(0, .ref h0), (1, .int a1), (2, .int v2_4), (3, .int v3_4)] → W p l e rm_Points_findUnheard s m args below meth c H locs 0 0 Q (F0 m 4 ls []) := by
    intro n4
    induction n4 with
    | zero => intro v2_4 v3_4 H locs ls hm; exact absurd hm (by intro z; cases z)
    | succ n4 ih4 =>
      intro v2_4 v3_4 H locs ls hm hP hD hS hl
      replace hm := m_Points_findUnheard_B4_h (lq2_h hm)
      refine lv_iload_n hx hb d_Points_findUnheard_4 rfl (lv_at hl 3 rfl) ?_
      refine lv_aload_n hx hb d_Points_findUnheard_5 rfl (lv_at hl 0 rfl) ?_
      refine va_get (D := (dC, dI)) (ci := 7) (v := .int (x0 0 0)) (C := "AlarmMatrix$Points") (T := T_Points) (N := 6) hx hb hts i_Points hown hK hP 0 rfl rfl 0 (by decide) (hts _ k1_60) (fun _ h9 => h9) rfl d_Points_findUnheard_6 ?_
      refine lv_icmp_ge (tgt := 37) hx hb d_Points_findUnheard_9 (by decide) (fun hc => ?_) (fun hc => ?_)
      · replace hm := if_t hm hc
        refine lv_iconst (v := (-1 : Int32)) hx hb d_Points_findUnheard_37 (by decide) ?_
        obtain rfl := Option.some.inj hm
        rw [hQ]
        exact kri hx hb hr hlocks hAe hP hK hD hS d_Points_findUnheard_38
      · replace hm := if_f hm hc
        refine lv_aload_n hx hb d_Points_findUnheard_12 rfl (lv_at hl 0 rfl) ?_
        refine va_get (D := (dC, dI)) (ci := 7) (v := .ref (q0 5)) (C := "AlarmMatrix$Points") (T := T_Points) (N := 6) hx hb hts i_Points hown hK hP 0 rfl rfl 5 (by decide) (hts _ k1_65) (fun _ h9 => h9) rfl d_Points_findUnheard_13 ?_
        refine lv_iload_n hx hb d_Points_findUnheard_16 rfl (lv_at hl 3 rfl) ?_
        obtain ⟨h_17, hm⟩ := ck_s hm
        refine va_zald (f := (x0 5)) hx hb hK hP 5 1 rfl rfl h_17 d_Points_findUnheard_17 ?_
        refine lv_if_eq (tgt := 31) hx hb d_Points_findUnheard_18 (by decide) (fun hc => ?_) (fun hc => ?_)
        · replace hm := if_t hm hc
          refine lv_iinc (v := (v3_4 + (1 : Int32))) (lv' := [(3, .int (v3_4 + (1 : Int32))), (0, .ref h0), (1, .int a1), (2, .int v2_4)]) hx hb d_Points_findUnheard_31 hl (k := 3) rfl rfl (by decide) rfl (fun ls hl => ?_)
          refine lv_goto (tgt := 4) hx hb d_Points_findUnheard_34 (by decide) ?_
          exact ih4 v2_4 (v3_4 + (1 : Int32)) H locs ls hm hP hD hS (lv_sub hl [1, 2, 3, 0] rfl)
        · replace hm := if_f hm hc
          refine lv_iload_n hx hb d_Points_findUnheard_21 rfl (lv_at hl 2 rfl) ?_
          refine lv_iload_n hx hb d_Points_findUnheard_22 rfl (lv_at hl 1 rfl) ?_
          refine lv_icmp_ne (tgt := 28) hx hb d_Points_findUnheard_23 (by decide) (fun hc => ?_) (fun hc => ?_)
          · replace hm := if_f hm hc
            refine lv_iinc (v := (v2_4 + (1 : Int32))) (lv' := [(2, .int (v2_4 + (1 : Int32))), (0, .ref h0), (1, .int a1), (3, .int v3_4)]) hx hb d_Points_findUnheard_28 hl (k := 2) rfl rfl (by decide) rfl (fun ls hl => ?_)
            refine lv_iinc (v := (v3_4 + (1 : Int32))) (lv' := [(3, .int (v3_4 + (1 : Int32))), (2, .int (v2_4 + (1 : Int32))), (0, .ref h0), (1, .int a1)]) hx hb d_Points_findUnheard_31 hl (k := 3) rfl rfl (by decide) rfl (fun ls hl => ?_)
            refine lv_goto (tgt := 4) hx hb d_Points_findUnheard_34 (by decide) ?_
            exact ih4 (v2_4 + (1 : Int32)) (v3_4 + (1 : Int32)) H locs ls hm hP hD hS (lv_sub hl [2, 3, 1, 0] rfl)
          · replace hm := if_t hm hc
            refine lv_iload_n hx hb d_Points_findUnheard_26 rfl (lv_at hl 3 rfl) ?_
            obtain rfl := Option.some.inj hm
            rw [hQ]
            exact kri hx hb hr hlocks hAe hP hK hD hS d_Points_findUnheard_27
  exact L4 F (0 : Int32) (0 : Int32) H locs ls hm hP hD hS (lv_sub hl [2, 3, 1, 0] rfl)
abbrev b_Points_isAble : ByteArray := prog_6_method_11_code
abbrev y_Points_isAble : MethodName := ⟨"AlarmMatrix$Points", "isAble", "(II)Z"⟩
theorem d_Points_isAble_0 : decode b_Points_isAble 0 = .ok (.aload_n 0, 1) := by decide +kernel
theorem d_Points_isAble_1 : decode b_Points_isAble 1 = .ok (.getfield 22, 3) := by decide +kernel
theorem d_Points_isAble_4 : decode b_Points_isAble 4 = .ok (.iload_n 1, 1) := by decide +kernel
theorem d_Points_isAble_5 : decode b_Points_isAble 5 = .ok (.baload, 1) := by decide +kernel
theorem d_Points_isAble_6 : decode b_Points_isAble 6 = .ok (.ifCond .ne 26, 3) := by decide +kernel
theorem d_Points_isAble_9 : decode b_Points_isAble 9 = .ok (.aload_n 0, 1) := by decide +kernel
theorem d_Points_isAble_10 : decode b_Points_isAble 10 = .ok (.getfield 29, 3) := by decide +kernel
theorem d_Points_isAble_13 : decode b_Points_isAble 13 = .ok (.iload_n 1, 1) := by decide +kernel
theorem d_Points_isAble_14 : decode b_Points_isAble 14 = .ok (.baload, 1) := by decide +kernel
theorem d_Points_isAble_15 : decode b_Points_isAble 15 = .ok (.ifCond .ne 17, 3) := by decide +kernel
theorem d_Points_isAble_18 : decode b_Points_isAble 18 = .ok (.iload_n 2, 1) := by decide +kernel
theorem d_Points_isAble_19 : decode b_Points_isAble 19 = .ok (.aload_n 0, 1) := by decide +kernel
theorem d_Points_isAble_20 : decode b_Points_isAble 20 = .ok (.getfield 19, 3) := by decide +kernel
theorem d_Points_isAble_23 : decode b_Points_isAble 23 = .ok (.iload_n 1, 1) := by decide +kernel
theorem d_Points_isAble_24 : decode b_Points_isAble 24 = .ok (.iaload, 1) := by decide +kernel
theorem d_Points_isAble_25 : decode b_Points_isAble 25 = .ok (.if_icmp .lt 7, 3) := by decide +kernel
theorem d_Points_isAble_28 : decode b_Points_isAble 28 = .ok (.iconst 1, 1) := by decide +kernel
theorem d_Points_isAble_29 : decode b_Points_isAble 29 = .ok (.goto 4, 3) := by decide +kernel
theorem d_Points_isAble_32 : decode b_Points_isAble 32 = .ok (.iconst 0, 1) := by decide +kernel
theorem d_Points_isAble_33 : decode b_Points_isAble 33 = .ok (.ireturn, 1) := by decide +kernel
def m_Points_isAble (F : Nat) (x0 : St) (n0 : Nat) (a1 : Int32) (a2 : Int32) : Option (Int32) :=
  (ck a1 n0 (if ((x0 3) a1.toNatClampNeg) = (0 : Int32) then (ck a1 n0 (if ((x0 5) a1.toNatClampNeg) = (0 : Int32) then (ck a1 n0 (if a2 < ((x0 2) a1.toNatClampNeg) then (some (0 : Int32)) else (some (1 : Int32)))) else (some (0 : Int32)))) else (some (0 : Int32))))
abbrev rm_Points_isAble : Room := { frames := 0, cells := 0, slots := 0, locals := 0 }
set_option maxHeartbeats 4000000 in
set_option maxRecDepth 100000 in
theorem c_Points_isAble {G : (Nat → Prop) → State → Prop} (hG : gok G) (hGn : gN G) (l : Launch) (dC : Nat → ClassId) (dI : Nat → Nat → Nat) (g : Nat → ClassId) (F : Nat) (sz : Nat) (h0 : Nat) (q0 : Nat → Nat) (x0 : St) (n0 : Nat) (a1 : Int32) (a2 : Int32) {o : Int32} (hm : m_Points_isAble F x0 n0 a1 a2 = some o) : Met l y_Points_isAble (.code y_Points_isAble b_Points_isAble 3 (some .boolean) :: gw) rm_Points_isAble (kq (dC, dI) vwCl (tyv g) G [.ref h0, .int a1, .int a2] sz (wd_Points g h0 q0 x0 n0)) (kqi (dC, dI) vwCl (tyv g) (wd_Points g h0 q0 x0 n0) o (wd_Points g h0 q0 x0 n0) sz) 0 0 (va_A (wd_Points g h0 q0 x0 n0) sz) := by
  unfold m_Points_isAble at hm
  refine km (Qc := fun sz => kqi (dC, dI) vwCl (tyv g) (wd_Points g h0 q0 x0 n0) o (wd_Points g h0 q0 x0 n0) sz) (cc := b_Points_isAble) (maxL := 3) (ret := some .boolean) (by decide) rfl (Nat.le_of_ble_eq_true rfl) ?_
  intro p e s m args below meth c Q hQ hx hb hr hts hown hlocks hml hnm H locs A hAe hA hP hK hD hS hGA ls hl
  have hl : lv_has ls 3 [(0, .ref h0), (1, .int a1), (2, .int a2)] := hl
  have hts : ∀ w ∈ gw, w.before args s = true := fun w h => hts w (List.mem_cons_of_mem _ h)
  have hown : s.vm.findClass "AlarmMatrix$Points" = some m.cls := hown
  refine lv_aload_n hx hb d_Points_isAble_0 rfl (lv_at hl 0 rfl) ?_
  refine va_get (D := (dC, dI)) (ci := 7) (v := .ref (q0 3)) (C := "AlarmMatrix$Points") (T := T_Points) (N := 6) hx hb hts i_Points hown hK hP 0 rfl rfl 3 (by decide) (hts _ k1_63) (fun _ h9 => h9) rfl d_Points_isAble_1 ?_
  refine lv_iload_n hx hb d_Points_isAble_4 rfl (lv_at hl 1 rfl) ?_
  obtain ⟨h_5, hm⟩ := ck_s hm
  refine va_zald (f := (x0 3)) hx hb hK hP 3 1 rfl rfl h_5 d_Points_isAble_5 ?_
  refine lv_if_ne (tgt := 32) hx hb d_Points_isAble_6 (by decide) (fun hc => ?_) (fun hc => ?_)
  · replace hm := if_f hm hc
    refine lv_iconst (v := (0 : Int32)) hx hb d_Points_isAble_32 (by decide) ?_
    obtain rfl := Option.some.inj hm
    rw [hQ]
    exact krz hx hb hr nar_0 hlocks hAe hP hK hD hS d_Points_isAble_33
  · replace hm := if_t hm hc
    refine lv_aload_n hx hb d_Points_isAble_9 rfl (lv_at hl 0 rfl) ?_
    refine va_get (D := (dC, dI)) (ci := 7) (v := .ref (q0 5)) (C := "AlarmMatrix$Points") (T := T_Points) (N := 6) hx hb hts i_Points hown hK hP 0 rfl rfl 5 (by decide) (hts _ k1_65) (fun _ h9 => h9) rfl d_Points_isAble_10 ?_
    refine lv_iload_n hx hb d_Points_isAble_13 rfl (lv_at hl 1 rfl) ?_
    obtain ⟨h_14, hm⟩ := ck_s hm
    refine va_zald (f := (x0 5)) hx hb hK hP 5 1 rfl rfl h_14 d_Points_isAble_14 ?_
    refine lv_if_ne (tgt := 32) hx hb d_Points_isAble_15 (by decide) (fun hc => ?_) (fun hc => ?_)
    · replace hm := if_f hm hc
      refine lv_iconst (v := (0 : Int32)) hx hb d_Points_isAble_32 (by decide) ?_
      obtain rfl := Option.some.inj hm
      rw [hQ]
      exact krz hx hb hr nar_0 hlocks hAe hP hK hD hS d_Points_isAble_33
    · replace hm := if_t hm hc
      refine lv_iload_n hx hb d_Points_isAble_18 rfl (lv_at hl 2 rfl) ?_
      refine lv_aload_n hx hb d_Points_isAble_19 rfl (lv_at hl 0 rfl) ?_
      refine va_get (D := (dC, dI)) (ci := 7) (v := .ref (q0 2)) (C := "AlarmMatrix$Points") (T := T_Points) (N := 6) hx hb hts i_Points hown hK hP 0 rfl rfl 2 (by decide) (hts _ k1_62) (fun _ h9 => h9) rfl d_Points_isAble_20 ?_
      refine lv_iload_n hx hb d_Points_isAble_23 rfl (lv_at hl 1 rfl) ?_
      obtain ⟨h_24, hm⟩ := ck_s hm
      refine va_iald (f := (x0 2)) hx hb hK hP 2 0 rfl rfl h_24 d_Points_isAble_24 ?_
      refine lv_icmp_lt (tgt := 32) hx hb d_Points_isAble_25 (by decide) (fun hc => ?_) (fun hc => ?_)
      · replace hm := if_t hm hc
        refine lv_iconst (v := (0 : Int32)) hx hb d_Points_isAble_32 (by decide) ?_
        obtain rfl := Option.some.inj hm
        rw [hQ]
        exact krz hx hb hr nar_0 hlocks hAe hP hK hD hS d_Points_isAble_33
      · replace hm := if_f hm hc
        refine lv_iconst (v := (1 : Int32)) hx hb d_Points_isAble_28 (by decide) ?_
        refine lv_goto (tgt := 33) hx hb d_Points_isAble_29 (by decide) ?_
        obtain rfl := Option.some.inj hm
        rw [hQ]
        exact krz hx hb hr nar_1 hlocks hAe hP hK hD hS d_Points_isAble_33
abbrev b_Points_isHigh : ByteArray := prog_6_method_12_code
abbrev y_Points_isHigh : MethodName := ⟨"AlarmMatrix$Points", "isHigh", "(I)Z"⟩
theorem d_Points_isHigh_0 : decode b_Points_isHigh 0 = .ok (.aload_n 0, 1) := by decide +kernel
theorem d_Points_isHigh_1 : decode b_Points_isHigh 1 = .ok (.getfield 15, 3) := by decide +kernel
theorem d_Points_isHigh_4 : decode b_Points_isHigh 4 = .ok (.iload_n 1, 1) := by decide +kernel
theorem d_Points_isHigh_5 : decode b_Points_isHigh 5 = .ok (.iaload, 1) := by decide +kernel
theorem d_Points_isHigh_6 : decode b_Points_isHigh 6 = .ok (.bipush 50, 2) := by decide +kernel
theorem d_Points_isHigh_8 : decode b_Points_isHigh 8 = .ok (.if_icmp .lt 7, 3) := by decide +kernel
theorem d_Points_isHigh_11 : decode b_Points_isHigh 11 = .ok (.iconst 1, 1) := by decide +kernel
theorem d_Points_isHigh_12 : decode b_Points_isHigh 12 = .ok (.goto 4, 3) := by decide +kernel
theorem d_Points_isHigh_15 : decode b_Points_isHigh 15 = .ok (.iconst 0, 1) := by decide +kernel
theorem d_Points_isHigh_16 : decode b_Points_isHigh 16 = .ok (.ireturn, 1) := by decide +kernel
def m_Points_isHigh (F : Nat) (x0 : St) (n0 : Nat) (a1 : Int32) : Option (Int32) :=
  (ck a1 n0 (if ((x0 1) a1.toNatClampNeg) < (50 : Int32) then (some (0 : Int32)) else (some (1 : Int32))))
abbrev rm_Points_isHigh : Room := { frames := 0, cells := 0, slots := 0, locals := 0 }
set_option maxHeartbeats 4000000 in
set_option maxRecDepth 100000 in
theorem c_Points_isHigh {G : (Nat → Prop) → State → Prop} (hG : gok G) (hGn : gN G) (l : Launch) (dC : Nat → ClassId) (dI : Nat → Nat → Nat) (g : Nat → ClassId) (F : Nat) (sz : Nat) (h0 : Nat) (q0 : Nat → Nat) (x0 : St) (n0 : Nat) (a1 : Int32) {o : Int32} (hm : m_Points_isHigh F x0 n0 a1 = some o) : Met l y_Points_isHigh (.code y_Points_isHigh b_Points_isHigh 2 (some .boolean) :: gw) rm_Points_isHigh (kq (dC, dI) vwCl (tyv g) G [.ref h0, .int a1] sz (wd_Points g h0 q0 x0 n0)) (kqi (dC, dI) vwCl (tyv g) (wd_Points g h0 q0 x0 n0) o (wd_Points g h0 q0 x0 n0) sz) 0 0 (va_A (wd_Points g h0 q0 x0 n0) sz) := by
  unfold m_Points_isHigh at hm
  refine km (Qc := fun sz => kqi (dC, dI) vwCl (tyv g) (wd_Points g h0 q0 x0 n0) o (wd_Points g h0 q0 x0 n0) sz) (cc := b_Points_isHigh) (maxL := 2) (ret := some .boolean) (by decide) rfl (Nat.le_of_ble_eq_true rfl) ?_
  intro p e s m args below meth c Q hQ hx hb hr hts hown hlocks hml hnm H locs A hAe hA hP hK hD hS hGA ls hl
  have hl : lv_has ls 2 [(0, .ref h0), (1, .int a1)] := hl
  have hts : ∀ w ∈ gw, w.before args s = true := fun w h => hts w (List.mem_cons_of_mem _ h)
  have hown : s.vm.findClass "AlarmMatrix$Points" = some m.cls := hown
  refine lv_aload_n hx hb d_Points_isHigh_0 rfl (lv_at hl 0 rfl) ?_
  refine va_get (D := (dC, dI)) (ci := 7) (v := .ref (q0 1)) (C := "AlarmMatrix$Points") (T := T_Points) (N := 6) hx hb hts i_Points hown hK hP 0 rfl rfl 1 (by decide) (hts _ k1_61) (fun _ h9 => h9) rfl d_Points_isHigh_1 ?_
  refine lv_iload_n hx hb d_Points_isHigh_4 rfl (lv_at hl 1 rfl) ?_
  obtain ⟨h_5, hm⟩ := ck_s hm
  refine va_iald (f := (x0 1)) hx hb hK hP 1 0 rfl rfl h_5 d_Points_isHigh_5 ?_
  refine lv_bipush (v := (50 : Int32)) hx hb d_Points_isHigh_6 (by decide) ?_
  refine lv_icmp_lt (tgt := 15) hx hb d_Points_isHigh_8 (by decide) (fun hc => ?_) (fun hc => ?_)
  · replace hm := if_t hm hc
    refine lv_iconst (v := (0 : Int32)) hx hb d_Points_isHigh_15 (by decide) ?_
    obtain rfl := Option.some.inj hm
    rw [hQ]
    exact krz hx hb hr nar_0 hlocks hAe hP hK hD hS d_Points_isHigh_16
  · replace hm := if_f hm hc
    refine lv_iconst (v := (1 : Int32)) hx hb d_Points_isHigh_11 (by decide) ?_
    refine lv_goto (tgt := 16) hx hb d_Points_isHigh_12 (by decide) ?_
    obtain rfl := Option.some.inj hm
    rw [hQ]
    exact krz hx hb hr nar_1 hlocks hAe hP hK hD hS d_Points_isHigh_16

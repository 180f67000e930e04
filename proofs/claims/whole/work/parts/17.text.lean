abbrev b_Text_size : ByteArray := prog_8_method_2_code
abbrev y_Text_size : MethodName := ⟨"AlarmMatrix$Text", "size", "()I"⟩
theorem d_Text_size_0 : decode b_Text_size 0 = .ok (.aload_n 0, 1) := by decide +kernel
theorem d_Text_size_1 : decode b_Text_size 1 = .ok (.getfield 18, 3) := by decide +kernel
theorem d_Text_size_4 : decode b_Text_size 4 = .ok (.ireturn, 1) := by decide +kernel
def m_Text_size (F : Nat) (x0 : St) : Option (Int32) :=
  (some (x0 2 0))
abbrev rm_Text_size : Room := { frames := 0, cells := 0, slots := 0, locals := 0 }
set_option maxHeartbeats 4000000 in
set_option maxRecDepth 100000 in
theorem c_Text_size {G : (Nat → Prop) → State → Prop} (hG : gok G) (hGn : gN G) (l : Launch) (dC : Nat → ClassId) (dI : Nat → Nat → Nat) (g : Nat → ClassId) (F : Nat) (sz : Nat) (h0 : Nat) (q0 : Nat → Nat) (x0 : St) {o : Int32} (hm : m_Text_size F x0 = some o) : Met l y_Text_size (.code y_Text_size b_Text_size 1 (some .int) :: gw) rm_Text_size (kq (dC, dI) vwCl (tyv g) G [.ref h0] sz (wd_Text g h0 q0 x0)) (kqi (dC, dI) vwCl (tyv g) (wd_Text g h0 q0 x0) o (wd_Text g h0 q0 x0) sz) 0 0 (va_A (wd_Text g h0 q0 x0) sz) := by
  unfold m_Text_size at hm
  refine km (Qc := fun sz => kqi (dC, dI) vwCl (tyv g) (wd_Text g h0 q0 x0) o (wd_Text g h0 q0 x0) sz) (cc := b_Text_size) (maxL := 1) (ret := some .int) (by decide) rfl (Nat.le_of_ble_eq_true rfl) ?_
  intro p e s m args below meth c Q hQ hx hb hr hts hown hlocks hml hnm H locs A hAe hA hP hK hD hS hGA ls hl
  have hl : lv_has ls 1 [(0, .ref h0)] := hl
  have hts : ∀ w ∈ gw, w.before args s = true := fun w h => hts w (List.mem_cons_of_mem _ h)
  have hown : s.vm.findClass "AlarmMatrix$Text" = some m.cls := hown
  refine lv_aload_n hx hb d_Text_size_0 rfl (lv_at hl 0 rfl) ?_
  refine va_get (D := (dC, dI)) (ci := 1) (v := .int (x0 2 0)) (C := "AlarmMatrix$Text") (T := T_Text) (N := 3) hx hb hts i_Text hown hK hP 0 rfl rfl 2 (by decide) (hts _ k1_39) (fun _ h9 => h9) rfl d_Text_size_1 ?_
  obtain rfl := Option.some.inj hm
  rw [hQ]
  exact kri hx hb hr hlocks hAe hP hK hD hS d_Text_size_4
abbrev b_Text_at : ByteArray := prog_8_method_3_code
abbrev y_Text_at : MethodName := ⟨"AlarmMatrix$Text", "at", "(I)C"⟩
theorem d_Text_at_0 : decode b_Text_at 0 = .ok (.iload_n 1, 1) := by decide +kernel
theorem d_Text_at_1 : decode b_Text_at 1 = .ok (.ifCond .lt 21, 3) := by decide +kernel
theorem d_Text_at_4 : decode b_Text_at 4 = .ok (.iload_n 1, 1) := by decide +kernel
theorem d_Text_at_5 : decode b_Text_at 5 = .ok (.aload_n 0, 1) := by decide +kernel
theorem d_Text_at_6 : decode b_Text_at 6 = .ok (.getfield 9, 3) := by decide +kernel
theorem d_Text_at_9 : decode b_Text_at 9 = .ok (.arraylength, 1) := by decide +kernel
theorem d_Text_at_10 : decode b_Text_at 10 = .ok (.if_icmp .ge 12, 3) := by decide +kernel
theorem d_Text_at_13 : decode b_Text_at 13 = .ok (.aload_n 0, 1) := by decide +kernel
theorem d_Text_at_14 : decode b_Text_at 14 = .ok (.getfield 9, 3) := by decide +kernel
theorem d_Text_at_17 : decode b_Text_at 17 = .ok (.iload_n 1, 1) := by decide +kernel
theorem d_Text_at_18 : decode b_Text_at 18 = .ok (.caload, 1) := by decide +kernel
theorem d_Text_at_19 : decode b_Text_at 19 = .ok (.goto 4, 3) := by decide +kernel
theorem d_Text_at_22 : decode b_Text_at 22 = .ok (.iconst 0, 1) := by decide +kernel
theorem d_Text_at_23 : decode b_Text_at 23 = .ok (.ireturn, 1) := by decide +kernel
def m_Text_at (F : Nat) (x0 : St) (a1 : Int32) : Option (Int32) :=
  (if a1 < (0 : Int32) then (ckc (0 : Int32) (some (0 : Int32))) else (if (2000 : Int32) ≤ a1 then (ckc (0 : Int32) (some (0 : Int32))) else (ck a1 2000 (ckc ((x0 0) a1.toNatClampNeg) (some ((x0 0) a1.toNatClampNeg))))))
abbrev rm_Text_at : Room := { frames := 0, cells := 0, slots := 0, locals := 0 }
set_option maxHeartbeats 4000000 in
set_option maxRecDepth 100000 in
theorem c_Text_at {G : (Nat → Prop) → State → Prop} (hG : gok G) (hGn : gN G) (l : Launch) (dC : Nat → ClassId) (dI : Nat → Nat → Nat) (g : Nat → ClassId) (F : Nat) (sz : Nat) (h0 : Nat) (q0 : Nat → Nat) (x0 : St) (a1 : Int32) {o : Int32} (hm : m_Text_at F x0 a1 = some o) : Met l y_Text_at (.code y_Text_at b_Text_at 2 (some .char) :: gw) rm_Text_at (kq (dC, dI) vwCl (tyv g) G [.ref h0, .int a1] sz (wd_Text g h0 q0 x0)) (kqi (dC, dI) vwCl (tyv g) (wd_Text g h0 q0 x0) o (wd_Text g h0 q0 x0) sz) 0 0 (va_A (wd_Text g h0 q0 x0) sz) := by
  unfold m_Text_at at hm
  refine km (Qc := fun sz => kqi (dC, dI) vwCl (tyv g) (wd_Text g h0 q0 x0) o (wd_Text g h0 q0 x0) sz) (cc := b_Text_at) (maxL := 2) (ret := some .char) (by decide) rfl (Nat.le_of_ble_eq_true rfl) ?_
  intro p e s m args below meth c Q hQ hx hb hr hts hown hlocks hml hnm H locs A hAe hA hP hK hD hS hGA ls hl
  have hl : lv_has ls 2 [(0, .ref h0), (1, .int a1)] := hl
  have hts : ∀ w ∈ gw, w.before args s = true := fun w h => hts w (List.mem_cons_of_mem _ h)
  have hown : s.vm.findClass "AlarmMatrix$Text" = some m.cls := hown
  refine lv_iload_n hx hb d_Text_at_0 rfl (lv_at hl 1 rfl) ?_
  refine lv_if_lt (tgt := 22) hx hb d_Text_at_1 (by decide) (fun hc => ?_) (fun hc => ?_)
  · replace hm := if_t hm hc
    refine lv_iconst (v := (0 : Int32)) hx hb d_Text_at_22 (by decide) ?_
    obtain ⟨hz, hm⟩ := ckc_s hm
    obtain rfl := Option.some.inj hm
    rw [hQ]
    exact krz hx hb hr hz hlocks hAe hP hK hD hS d_Text_at_23
  · replace hm := if_f hm hc
    refine lv_iload_n hx hb d_Text_at_4 rfl (lv_at hl 1 rfl) ?_
    refine lv_aload_n hx hb d_Text_at_5 rfl (lv_at hl 0 rfl) ?_
    refine va_get (D := (dC, dI)) (ci := 1) (v := .ref (q0 0)) (C := "AlarmMatrix$Text") (T := T_Text) (N := 3) hx hb hts i_Text hown hK hP 0 rfl rfl 0 (by decide) (hts _ k1_37) (fun _ h9 => h9) rfl d_Text_at_6 ?_
    refine va_alen (v := (2000 : Int32)) hx hb hK hP 1 2 rfl rfl rfl d_Text_at_9 ?_
    refine lv_icmp_ge (tgt := 22) hx hb d_Text_at_10 (by decide) (fun hc => ?_) (fun hc => ?_)
    · replace hm := if_t hm hc
      refine lv_iconst (v := (0 : Int32)) hx hb d_Text_at_22 (by decide) ?_
      obtain ⟨hz, hm⟩ := ckc_s hm
      obtain rfl := Option.some.inj hm
      rw [hQ]
      exact krz hx hb hr hz hlocks hAe hP hK hD hS d_Text_at_23
    · replace hm := if_f hm hc
      refine lv_aload_n hx hb d_Text_at_13 rfl (lv_at hl 0 rfl) ?_
      refine va_get (D := (dC, dI)) (ci := 1) (v := .ref (q0 0)) (C := "AlarmMatrix$Text") (T := T_Text) (N := 3) hx hb hts i_Text hown hK hP 0 rfl rfl 0 (by decide) (hts _ k1_37) (fun _ h9 => h9) rfl d_Text_at_14 ?_
      refine lv_iload_n hx hb d_Text_at_17 rfl (lv_at hl 1 rfl) ?_
      obtain ⟨h_18, hm⟩ := ck_s hm
      refine va_cald (f := (x0 0)) hx hb hK hP 1 2 rfl rfl h_18 d_Text_at_18 ?_
      refine lv_goto (tgt := 23) hx hb d_Text_at_19 (by decide) ?_
      obtain ⟨hz, hm⟩ := ckc_s hm
      obtain rfl := Option.some.inj hm
      rw [hQ]
      exact krz hx hb hr hz hlocks hAe hP hK hD hS d_Text_at_23
abbrev b_Text_shrinkTo : ByteArray := prog_8_method_4_code
abbrev y_Text_shrinkTo : MethodName := ⟨"AlarmMatrix$Text", "shrinkTo", "(I)V"⟩
theorem d_Text_shrinkTo_0 : decode b_Text_shrinkTo 0 = .ok (.aload_n 0, 1) := by decide +kernel
theorem d_Text_shrinkTo_1 : decode b_Text_shrinkTo 1 = .ok (.iload_n 1, 1) := by decide +kernel
theorem d_Text_shrinkTo_2 : decode b_Text_shrinkTo 2 = .ok (.putfield 18, 3) := by decide +kernel
theorem d_Text_shrinkTo_5 : decode b_Text_shrinkTo 5 = .ok (.return_, 1) := by decide +kernel
def m_Text_shrinkTo (F : Nat) (x0 : St) (a1 : Int32) : Option (St) :=
  (lz (sc x0 2 a1) (fun e0_2 => (some e0_2)))
abbrev rm_Text_shrinkTo : Room := { frames := 0, cells := 0, slots := 0, locals := 0 }
set_option maxHeartbeats 4000000 in
set_option maxRecDepth 100000 in
theorem c_Text_shrinkTo {G : (Nat → Prop) → State → Prop} (hG : gok G) (hGn : gN G) (l : Launch) (dC : Nat → ClassId) (dI : Nat → Nat → Nat) (g : Nat → ClassId) (F : Nat) (sz : Nat) (h0 : Nat) (q0 : Nat → Nat) (x0 : St) (a1 : Int32) {o : St} (hm : m_Text_shrinkTo F x0 a1 = some o) : Met l y_Text_shrinkTo (.code y_Text_shrinkTo b_Text_shrinkTo 2 none :: gw) rm_Text_shrinkTo (kq (dC, dI) vwCl (tyv g) G [.ref h0, .int a1] sz (wd_Text g h0 q0 x0)) (kqv (dC, dI) vwCl (tyv g) (wd_Text g h0 q0 x0) (wd_Text g h0 q0 o) sz) 0 0 (va_A (wd_Text g h0 q0 x0) sz) := by
  unfold m_Text_shrinkTo at hm
  refine km (Qc := fun sz => kqv (dC, dI) vwCl (tyv g) (wd_Text g h0 q0 x0) (wd_Text g h0 q0 o) sz) (cc := b_Text_shrinkTo) (maxL := 2) (ret := none) (by decide) rfl (Nat.le_of_ble_eq_true rfl) ?_
  intro p e s m args below meth c Q hQ hx hb hr hts hown hlocks hml hnm H locs A hAe hA hP hK hD hS hGA ls hl
  have hl : lv_has ls 2 [(0, .ref h0), (1, .int a1)] := hl
  have hts : ∀ w ∈ gw, w.before args s = true := fun w h => hts w (List.mem_cons_of_mem _ h)
  have hown : s.vm.findClass "AlarmMatrix$Text" = some m.cls := hown
  refine lv_aload_n hx hb d_Text_shrinkTo_0 rfl (lv_at hl 0 rfl) ?_
  refine lv_iload_n hx hb d_Text_shrinkTo_1 rfl (lv_at hl 1 rfl) ?_
  obtain ⟨e0_2, he, hm⟩ := lz_s hm
  refine va_put (D := (dC, dI)) (ci := 1) (v := .int a1) (ty := .int) (C := "AlarmMatrix$Text") (T := T_Text) (N := 3) hx hb hts i_Text t_Text o_Text n_Text hown hK hP hD hS 0 rfl rfl 2 (by decide) (hts _ k1_39) (fun _ h9 => h9) rfl (by decide +kernel) rfl rfl (Nat.le_of_ble_eq_true rfl) d_Text_shrinkTo_2 (fun H locs hP hD hS => ?_)
  have hP : va_P (dC, dI) vwCl (wd_Text g h0 q0 e0_2) H := by rw [he]; exact hP
  have hD : va_D A (wd_Text g h0 q0 e0_2) := by rw [he]; exact hD
  obtain rfl := Option.some.inj hm
  rw [hQ]
  exact krv hx hb hr hlocks hAe hP hK hD hS d_Text_shrinkTo_5
abbrev b_Text_put : ByteArray := prog_8_method_5_code
abbrev y_Text_put : MethodName := ⟨"AlarmMatrix$Text", "put", "(C)V"⟩
theorem d_Text_put_0 : decode b_Text_put 0 = .ok (.aload_n 0, 1) := by decide +kernel
theorem d_Text_put_1 : decode b_Text_put 1 = .ok (.getfield 18, 3) := by decide +kernel
theorem d_Text_put_4 : decode b_Text_put 4 = .ok (.aload_n 0, 1) := by decide +kernel
theorem d_Text_put_5 : decode b_Text_put 5 = .ok (.getfield 9, 3) := by decide +kernel
theorem d_Text_put_8 : decode b_Text_put 8 = .ok (.arraylength, 1) := by decide +kernel
theorem d_Text_put_9 : decode b_Text_put 9 = .ok (.if_icmp .ge 13, 3) := by decide +kernel
theorem d_Text_put_12 : decode b_Text_put 12 = .ok (.aload_n 0, 1) := by decide +kernel
theorem d_Text_put_13 : decode b_Text_put 13 = .ok (.getfield 9, 3) := by decide +kernel
theorem d_Text_put_16 : decode b_Text_put 16 = .ok (.aload_n 0, 1) := by decide +kernel
theorem d_Text_put_17 : decode b_Text_put 17 = .ok (.getfield 18, 3) := by decide +kernel
theorem d_Text_put_20 : decode b_Text_put 20 = .ok (.iload_n 1, 1) := by decide +kernel
theorem d_Text_put_21 : decode b_Text_put 21 = .ok (.castore, 1) := by decide +kernel
theorem d_Text_put_22 : decode b_Text_put 22 = .ok (.aload_n 0, 1) := by decide +kernel
theorem d_Text_put_23 : decode b_Text_put 23 = .ok (.dup, 1) := by decide +kernel
theorem d_Text_put_24 : decode b_Text_put 24 = .ok (.getfield 18, 3) := by decide +kernel
theorem d_Text_put_27 : decode b_Text_put 27 = .ok (.iconst 1, 1) := by decide +kernel
theorem d_Text_put_28 : decode b_Text_put 28 = .ok (.iadd, 1) := by decide +kernel
theorem d_Text_put_29 : decode b_Text_put 29 = .ok (.putfield 18, 3) := by decide +kernel
theorem d_Text_put_32 : decode b_Text_put 32 = .ok (.return_, 1) := by decide +kernel
def m_Text_put (F : Nat) (x0 : St) (a1 : Int32) : Option (St) :=
  (if (2000 : Int32) ≤ (x0 2 0) then (lz (sc x0 2 ((x0 2 0) + (1 : Int32))) (fun e0_29 => (some e0_29))) else (ck (x0 2 0) 2000 (lz (st x0 0 (upd (x0 0) (x0 2 0).toNatClampNeg (vp_nar .char a1))) (fun e0_21 => (lz (sc e0_21 2 ((e0_21 2 0) + (1 : Int32))) (fun e0_29 => (some e0_29)))))))
abbrev rm_Text_put : Room := { frames := 0, cells := 0, slots := 0, locals := 0 }
set_option maxHeartbeats 4000000 in
set_option maxRecDepth 100000 in
theorem c_Text_put {G : (Nat → Prop) → State → Prop} (hG : gok G) (hGn : gN G) (l : Launch) (dC : Nat → ClassId) (dI : Nat → Nat → Nat) (g : Nat → ClassId) (F : Nat) (sz : Nat) (h0 : Nat) (q0 : Nat → Nat) (x0 : St) (a1 : Int32) {o : St} (hm : m_Text_put F x0 a1 = some o) : Met l y_Text_put (.code y_Text_put b_Text_put 2 none :: gw) rm_Text_put (kq (dC, dI) vwCl (tyv g) G [.ref h0, .int a1] sz (wd_Text g h0 q0 x0)) (kqv (dC, dI) vwCl (tyv g) (wd_Text g h0 q0 x0) (wd_Text g h0 q0 o) sz) 0 0 (va_A (wd_Text g h0 q0 x0) sz) := by
  unfold m_Text_put at hm
  refine km (Qc := fun sz => kqv (dC, dI) vwCl (tyv g) (wd_Text g h0 q0 x0) (wd_Text g h0 q0 o) sz) (cc := b_Text_put) (maxL := 2) (ret := none) (by decide) rfl (Nat.le_of_ble_eq_true rfl) ?_
  intro p e s m args below meth c Q hQ hx hb hr hts hown hlocks hml hnm H locs A hAe hA hP hK hD hS hGA ls hl
  have hl : lv_has ls 2 [(0, .ref h0), (1, .int a1)] := hl
  have hts : ∀ w ∈ gw, w.before args s = true := fun w h => hts w (List.mem_cons_of_mem _ h)
  have hown : s.vm.findClass "AlarmMatrix$Text" = some m.cls := hown
  refine lv_aload_n hx hb d_Text_put_0 rfl (lv_at hl 0 rfl) ?_
  refine va_get (D := (dC, dI)) (ci := 1) (v := .int (x0 2 0)) (C := "AlarmMatrix$Text") (T := T_Text) (N := 3) hx hb hts i_Text hown hK hP 0 rfl rfl 2 (by decide) (hts _ k1_39) (fun _ h9 => h9) rfl d_Text_put_1 ?_
  refine lv_aload_n hx hb d_Text_put_4 rfl (lv_at hl 0 rfl) ?_
  refine va_get (D := (dC, dI)) (ci := 1) (v := .ref (q0 0)) (C := "AlarmMatrix$Text") (T := T_Text) (N := 3) hx hb hts i_Text hown hK hP 0 rfl rfl 0 (by decide) (hts _ k1_37) (fun _ h9 => h9) rfl d_Text_put_5 ?_
  refine va_alen (v := (2000 : Int32)) hx hb hK hP 1 2 rfl rfl rfl d_Text_put_8 ?_
  refine lv_icmp_ge (tgt := 22) hx hb d_Text_put_9 (by decide) (fun hc => ?_) (fun hc => ?_)
  · replace hm := if_t hm hc
    refine lv_aload_n hx hb d_Text_put_22 rfl (lv_at hl 0 rfl) ?_
    refine lv_dup hx hb d_Text_put_23 rfl ?_
    refine va_get (D := (dC, dI)) (ci := 1) (v := .int (x0 2 0)) (C := "AlarmMatrix$Text") (T := T_Text) (N := 3) hx hb hts i_Text hown hK hP 0 rfl rfl 2 (by decide) (hts _ k1_39) (fun _ h9 => h9) rfl d_Text_put_24 ?_
    refine lv_iconst (v := (1 : Int32)) hx hb d_Text_put_27 (by decide) ?_
    refine lv_iadd hx hb d_Text_put_28 ?_
    obtain ⟨e0_29, he, hm⟩ := lz_s hm
    refine va_put (D := (dC, dI)) (ci := 1) (v := .int ((x0 2 0) + (1 : Int32))) (ty := .int) (C := "AlarmMatrix$Text") (T := T_Text) (N := 3) hx hb hts i_Text t_Text o_Text n_Text hown hK hP hD hS 0 rfl rfl 2 (by decide) (hts _ k1_39) (fun _ h9 => h9) rfl (by decide +kernel) rfl rfl (Nat.le_of_ble_eq_true rfl) d_Text_put_29 (fun H locs hP hD hS => ?_)
    have hP : va_P (dC, dI) vwCl (wd_Text g h0 q0 e0_29) H := by rw [he]; exact hP
    have hD : va_D A (wd_Text g h0 q0 e0_29) := by rw [he]; exact hD
    obtain rfl := Option.some.inj hm
    rw [hQ]
    exact krv hx hb hr hlocks hAe hP hK hD hS d_Text_put_32
  · replace hm := if_f hm hc
    refine lv_aload_n hx hb d_Text_put_12 rfl (lv_at hl 0 rfl) ?_
    refine va_get (D := (dC, dI)) (ci := 1) (v := .ref (q0 0)) (C := "AlarmMatrix$Text") (T := T_Text) (N := 3) hx hb hts i_Text hown hK hP 0 rfl rfl 0 (by decide) (hts _ k1_37) (fun _ h9 => h9) rfl d_Text_put_13 ?_
    refine lv_aload_n hx hb d_Text_put_16 rfl (lv_at hl 0 rfl) ?_
    refine va_get (D := (dC, dI)) (ci := 1) (v := .int (x0 2 0)) (C := "AlarmMatrix$Text") (T := T_Text) (N := 3) hx hb hts i_Text hown hK hP 0 rfl rfl 2 (by decide) (hts _ k1_39) (fun _ h9 => h9) rfl d_Text_put_17 ?_
    refine lv_iload_n hx hb d_Text_put_20 rfl (lv_at hl 1 rfl) ?_
    obtain ⟨h_21, hm⟩ := ck_s hm
    obtain ⟨e0_21, he, hm⟩ := lz_s hm
    refine va_cast (f := (x0 0)) hx hb hK hP hD hS 1 2 rfl rfl h_21 d_Text_put_21 (fun H locs hP hD hS => ?_)
    have hP : va_P (dC, dI) vwCl (wd_Text g h0 q0 e0_21) H := by rw [he]; exact hP
    have hD : va_D A (wd_Text g h0 q0 e0_21) := by rw [he]; exact hD
    refine lv_aload_n hx hb d_Text_put_22 rfl (lv_at hl 0 rfl) ?_
    refine lv_dup hx hb d_Text_put_23 rfl ?_
    refine va_get (D := (dC, dI)) (ci := 1) (v := .int (e0_21 2 0)) (C := "AlarmMatrix$Text") (T := T_Text) (N := 3) hx hb hts i_Text hown hK hP 0 rfl rfl 2 (by decide) (hts _ k1_39) (fun _ h9 => h9) rfl d_Text_put_24 ?_
    refine lv_iconst (v := (1 : Int32)) hx hb d_Text_put_27 (by decide) ?_
    refine lv_iadd hx hb d_Text_put_28 ?_
    obtain ⟨e0_29, he, hm⟩ := lz_s hm
    refine va_put (D := (dC, dI)) (ci := 1) (v := .int ((e0_21 2 0) + (1 : Int32))) (ty := .int) (C := "AlarmMatrix$Text") (T := T_Text) (N := 3) hx hb hts i_Text t_Text o_Text n_Text hown hK hP hD hS 0 rfl rfl 2 (by decide) (hts _ k1_39) (fun _ h9 => h9) rfl (by decide +kernel) rfl rfl (Nat.le_of_ble_eq_true rfl) d_Text_put_29 (fun H locs hP hD hS => ?_)
    have hP : va_P (dC, dI) vwCl (wd_Text g h0 q0 e0_29) H := by rw [he]; exact hP
    have hD : va_D A (wd_Text g h0 q0 e0_29) := by rw [he]; exact hD
    obtain rfl := Option.some.inj hm
    rw [hQ]
    exact krv hx hb hr hlocks hAe hP hK hD hS d_Text_put_32
abbrev b_Text_putWord : ByteArray := prog_8_method_7_code
abbrev y_Text_putWord : MethodName := ⟨"AlarmMatrix$Text", "putWord", "(Ljava/lang/String;)V"⟩
theorem d_Text_putWord_0 : decode b_Text_putWord 0 = .ok (.iconst 0, 1) := by decide +kernel
theorem d_Text_putWord_1 : decode b_Text_putWord 1 = .ok (.istore_n 2, 1) := by decide +kernel
theorem d_Text_putWord_2 : decode b_Text_putWord 2 = .ok (.iload_n 2, 1) := by decide +kernel
theorem d_Text_putWord_3 : decode b_Text_putWord 3 = .ok (.aload_n 1, 1) := by decide +kernel
theorem d_Text_putWord_4 : decode b_Text_putWord 4 = .ok (.invokevirtual 30, 3) := by decide +kernel
theorem d_Text_putWord_7 : decode b_Text_putWord 7 = .ok (.if_icmp .ge 18, 3) := by decide +kernel
theorem d_Text_putWord_10 : decode b_Text_putWord 10 = .ok (.aload_n 0, 1) := by decide +kernel
theorem d_Text_putWord_11 : decode b_Text_putWord 11 = .ok (.aload_n 1, 1) := by decide +kernel
theorem d_Text_putWord_12 : decode b_Text_putWord 12 = .ok (.iload_n 2, 1) := by decide +kernel
theorem d_Text_putWord_13 : decode b_Text_putWord 13 = .ok (.invokevirtual 35, 3) := by decide +kernel
theorem d_Text_putWord_16 : decode b_Text_putWord 16 = .ok (.invokevirtual 39, 3) := by decide +kernel
theorem d_Text_putWord_19 : decode b_Text_putWord 19 = .ok (.iinc 2 1, 3) := by decide +kernel
theorem d_Text_putWord_22 : decode b_Text_putWord 22 = .ok (.goto (-20), 3) := by decide +kernel
theorem d_Text_putWord_25 : decode b_Text_putWord 25 = .ok (.aload_n 0, 1) := by decide +kernel
theorem d_Text_putWord_26 : decode b_Text_putWord 26 = .ok (.bipush 32, 2) := by decide +kernel
theorem d_Text_putWord_28 : decode b_Text_putWord 28 = .ok (.invokevirtual 39, 3) := by decide +kernel
theorem d_Text_putWord_31 : decode b_Text_putWord 31 = .ok (.return_, 1) := by decide +kernel
def m_Text_putWord_B2 {R : Type} (F : Nat) (w1 : Nat) (k2_25 : Int32 → St → Option R) (rec2 : Int32 → St → Option R) (v2_2 : Int32) (y0_2 : St) : Option R :=
  (if (nI (lnS w1)) ≤ v2_2 then (k2_25 v2_2 y0_2) else (ck v2_2 (lnS w1) (bn1 (m_Text_put F y0_2 (chS w1 v2_2.toNatClampNeg)) (fun z0_16 => (rec2 (v2_2 + (1 : Int32)) z0_16)))))
theorem m_Text_putWord_B2_h {R : Type} {F : Nat} {w1 : Nat} {k2_25 : Int32 → St → Option R} {rec2 : Int32 → St → Option R} {v2_2 : Int32} {y0_2 : St} {o : R} (h : m_Text_putWord_B2 F w1 k2_25 rec2 v2_2 y0_2 = some o) :
  (if (nI (lnS w1)) ≤ v2_2 then (k2_25 v2_2 y0_2) else (ck v2_2 (lnS w1) (bn1 (m_Text_put F y0_2 (chS w1 v2_2.toNatClampNeg)) (fun z0_16 => (rec2 (v2_2 + (1 : Int32)) z0_16))))) = some o := h
def m_Text_putWord (F : Nat) (x0 : St) (w1 : Nat) : Option (St) :=
  (lq2 (m_Text_putWord_B2 F w1 (fun v2_2 y0_2 => (bn1 (m_Text_put F y0_2 (32 : Int32)) (fun z0_28 => (some z0_28))))) F (0 : Int32) x0)
abbrev rm_Text_putWord : Room := { frames := 4, cells := 0, slots := 0, locals := 85 }
set_option maxHeartbeats 4000000 in
set_option maxRecDepth 100000 in
theorem c_Text_putWord {G : (Nat → Prop) → State → Prop} (hG : gok G) (hGn : gN G) {adK adV : Nat → Nat} (hGs : gSt adK adV G) (l : Launch) (dC : Nat → ClassId) (dI : Nat → Nat → Nat) (g : Nat → ClassId) (F : Nat) (sz : Nat) (h0 : Nat) (q0 : Nat → Nat) (x0 : St) (w1 : Nat) (hw1 : w1 < nS) {o : St} (hm : m_Text_putWord F x0 w1 = some o) : Met l y_Text_putWord (.code y_Text_putWord b_Text_putWord 3 none :: gw) rm_Text_putWord (kq (dC, dI) vwCl (tyv g) G [.ref h0, .ref (adK w1)] sz (wd_Text g h0 q0 x0)) (kqv (dC, dI) vwCl (tyv g) (wd_Text g h0 q0 x0) (wd_Text g h0 q0 o) sz) 0 0 (va_A (wd_Text g h0 q0 x0) sz) := by
  unfold m_Text_putWord at hm
  refine km (Qc := fun sz => kqv (dC, dI) vwCl (tyv g) (wd_Text g h0 q0 x0) (wd_Text g h0 q0 o) sz) (cc := b_Text_putWord) (maxL := 3) (ret := none) (by decide) rfl (Nat.le_of_ble_eq_true rfl) ?_
  intro p e s m args below meth c Q hQ hx hb hr hts hown hlocks hml hnm H locs A hAe hA hP hK hD hS hGA ls hl
  have hl : lv_has ls 3 [(0, .ref h0), (1, .ref (adK w1))] := hl
  have hts : ∀ w ∈ gw, w.before args s = true := fun w h => hts w (List.mem_cons_of_mem _ h)
  have hown : s.vm.findClass "AlarmMatrix$Text" = some m.cls := hown
  refine lv_iconst (v := (0 : Int32)) hx hb d_Text_putWord_0 (by decide) ?_
  refine lv_istore_n (lv' := [(2, .int (0 : Int32)), (0, .ref h0), (1, .ref (adK w1))]) hx hb d_Text_putWord_1 rfl hl (by decide) rfl (fun ls hl => ?_)
  have L2 : ∀ (n2 : Nat) (v2_2 : Int32) (y0_2 : St) (H : Heap) (locs : List Loc) (ls : Array Slot), lq2 (m_Text_putWord_B2 F w1 (fun v2_2 y0_2 => (bn1 (m_Text_put F y0_2 (32 : Int32)) (fun z0_28 => (some z0_28))))) n2 v2_2 y0_2 = some o → va_P (dC, dI) vwCl (wd_Text g h0 q0 y0_2) H → va_D A (wd_Text g h0 q0 y0_2) → va_S A s.heap H locs → lv_has ls 3 [(0, .ref h0), (1, .ref (adK w1)), (2, .int v2_2)] → W p l e rm_Text_putWord s m args below meth c H locs 0 0 Q (F0 m 2 ls []) := by
    intro n2
    induction n2 with
    | zero => intro v2_2 y0_2 H locs ls hm; exact absurd hm (by intro z; cases z)
    | succ n2 ih2 =>
      intro v2_2 y0_2 H locs ls hm hP hD hS hl
      replace hm := m_Text_putWord_B2_h (lq2_h hm)
      refine lv_iload_n hx hb d_Text_putWord_2 rfl (lv_at hl 2 rfl) ?_
      refine lv_aload_n hx hb d_Text_putWord_3 rfl (lv_at hl 1 rfl) ?_
      refine kci (wc := []) (wr := wd_Text g h0 q0 y0_2) (w1 := []) hP hD hS hA [] [0, 1, 2] rfl rfl (by decide) (by decide) (va_runV (As := []) (rest := [.int v2_2]) ⟨hx, hb, hml, hown, hts⟩ (c_Str_length hG hGs l dC dI g H.size w1 hw1) (cwV 0 hts (gdV k3_216 k2_92 k2_93 k1_16 k2_94) rfl rfl rfl (by decide +kernel) ⟨Nat.le_of_ble_eq_true rfl, Nat.le_of_ble_eq_true rfl⟩) (kpK hG ((hGs A s hGA).1 w1 hw1).1 hP hK hD hS hA hGA) rfl rfl hl.1 rfl (lv_room (Nat.le_of_ble_eq_true rfl)) d_Text_putWord_4 ⟨Nat.le_of_ble_eq_true rfl, Nat.le_of_ble_eq_true rfl⟩) (fun H locs hP hD hS => ?_)
      have hP : va_P (dC, dI) vwCl (wd_Text g h0 q0 y0_2) H := hP
      have hD : va_D A (wd_Text g h0 q0 y0_2) := hD
      refine lv_icmp_ge (tgt := 25) hx hb d_Text_putWord_7 (by decide) (fun hc => ?_) (fun hc => ?_)
      · replace hm := if_t hm hc
        refine lv_aload_n hx hb d_Text_putWord_25 rfl (lv_at hl 0 rfl) ?_
        refine lv_bipush (v := (32 : Int32)) hx hb d_Text_putWord_26 (by decide) ?_
        obtain ⟨z0_28, hcl, hm⟩ := bn1_s hm
        refine kcv (wc := wd_Text g h0 q0 y0_2) (wr := ([] : va_W)) (w1 := wd_Text g h0 q0 z0_28) hP hD hS hA [0, 1, 2] [] rfl rfl (by decide) (by decide) (va_runV (As := [.int (32 : Int32)]) (rest := []) ⟨hx, hb, hml, hown, hts⟩ (c_Text_put hG hGn l dC dI g F H.size h0 q0 y0_2 (32 : Int32) hcl) (cwV 1 hts (gdV k3_218 k3_186 k3_187 k1_2 k3_188) rfl rfl rfl (by decide +kernel) ⟨Nat.le_of_ble_eq_true rfl, Nat.le_of_ble_eq_true rfl⟩) (kpV hG hP hK hD hS hA hGA [0, 1, 2] (by decide) rfl (ci := 1) (q0 := 0) rfl rfl rfl) rfl rfl hl.1 rfl (lv_room (Nat.le_of_ble_eq_true rfl)) d_Text_putWord_28 ⟨Nat.le_of_ble_eq_true rfl, Nat.le_of_ble_eq_true rfl⟩) (fun H locs hP hD hS => ?_)
        have hP : va_P (dC, dI) vwCl (wd_Text g h0 q0 z0_28) H := hP
        have hD : va_D A (wd_Text g h0 q0 z0_28) := hD
        obtain rfl := Option.some.inj hm
        rw [hQ]
        exact krv hx hb hr hlocks hAe hP hK hD hS d_Text_putWord_31
      · replace hm := if_f hm hc
        refine lv_aload_n hx hb d_Text_putWord_10 rfl (lv_at hl 0 rfl) ?_
        refine lv_aload_n hx hb d_Text_putWord_11 rfl (lv_at hl 1 rfl) ?_
        refine lv_iload_n hx hb d_Text_putWord_12 rfl (lv_at hl 2 rfl) ?_
        obtain ⟨h_13, hm⟩ := ck_s hm
        refine kci (wc := []) (wr := wd_Text g h0 q0 y0_2) (w1 := []) hP hD hS hA [] [0, 1, 2] rfl rfl (by decide) (by decide) (va_runV (As := [.int v2_2]) (rest := [.ref h0]) ⟨hx, hb, hml, hown, hts⟩ (c_Str_charAtI hG hGs l dC dI g H.size w1 hw1 v2_2 h_13) (cwV 1 hts (gdV k3_217 k2_102 k2_103 k1_16 k2_104) rfl rfl rfl (by decide +kernel) ⟨Nat.le_of_ble_eq_true rfl, Nat.le_of_ble_eq_true rfl⟩) (kpK hG ((hGs A s hGA).1 w1 hw1).1 hP hK hD hS hA hGA) rfl rfl hl.1 rfl (lv_room (Nat.le_of_ble_eq_true rfl)) d_Text_putWord_13 ⟨Nat.le_of_ble_eq_true rfl, Nat.le_of_ble_eq_true rfl⟩) (fun H locs hP hD hS => ?_)
        have hP : va_P (dC, dI) vwCl (wd_Text g h0 q0 y0_2) H := hP
        have hD : va_D A (wd_Text g h0 q0 y0_2) := hD
        obtain ⟨z0_16, hcl, hm⟩ := bn1_s hm
        refine kcv (wc := wd_Text g h0 q0 y0_2) (wr := ([] : va_W)) (w1 := wd_Text g h0 q0 z0_16) hP hD hS hA [0, 1, 2] [] rfl rfl (by decide) (by decide) (va_runV (As := [.int (chS w1 v2_2.toNatClampNeg)]) (rest := []) ⟨hx, hb, hml, hown, hts⟩ (c_Text_put hG hGn l dC dI g F H.size h0 q0 y0_2 (chS w1 v2_2.toNatClampNeg) hcl) (cwV 1 hts (gdV k3_218 k3_186 k3_187 k1_2 k3_188) rfl rfl rfl (by decide +kernel) ⟨Nat.le_of_ble_eq_true rfl, Nat.le_of_ble_eq_true rfl⟩) (kpV hG hP hK hD hS hA hGA [0, 1, 2] (by decide) rfl (ci := 1) (q0 := 0) rfl rfl rfl) rfl rfl hl.1 rfl (lv_room (Nat.le_of_ble_eq_true rfl)) d_Text_putWord_16 ⟨Nat.le_of_ble_eq_true rfl, Nat.le_of_ble_eq_true rfl⟩) (fun H locs hP hD hS => ?_)
        have hP : va_P (dC, dI) vwCl (wd_Text g h0 q0 z0_16) H := hP
        have hD : va_D A (wd_Text g h0 q0 z0_16) := hD
        refine lv_iinc (v := (v2_2 + (1 : Int32))) (lv' := [(2, .int (v2_2 + (1 : Int32))), (0, .ref h0), (1, .ref (adK w1))]) hx hb d_Text_putWord_19 hl (k := 2) rfl rfl (by decide) rfl (fun ls hl => ?_)
        refine lv_goto (tgt := 2) hx hb d_Text_putWord_22 (by decide) ?_
        exact ih2 (v2_2 + (1 : Int32)) z0_16 H locs ls hm hP hD hS (lv_sub hl [1, 2, 0] rfl)
  exact L2 F (0 : Int32) x0 H locs ls hm hP hD hS (lv_sub hl [1, 2, 0] rfl)
abbrev b_Text_putNumber : ByteArray := prog_8_method_8_code
abbrev y_Text_putNumber : MethodName := ⟨"AlarmMatrix$Text", "putNumber", "(I)V"⟩
theorem d_Text_putNumber_0 : decode b_Text_putNumber 0 = .ok (.iload_n 1, 1) := by decide +kernel
theorem d_Text_putNumber_1 : decode b_Text_putNumber 1 = .ok (.istore_n 2, 1) := by decide +kernel
theorem d_Text_putNumber_2 : decode b_Text_putNumber 2 = .ok (.bipush 10, 2) := by decide +kernel
theorem d_Text_putNumber_4 : decode b_Text_putNumber 4 = .ok (.istore_n 3, 1) := by decide +kernel
theorem d_Text_putNumber_5 : decode b_Text_putNumber 5 = .ok (.iinc 3 (-1), 3) := by decide +kernel
theorem d_Text_putNumber_8 : decode b_Text_putNumber 8 = .ok (.aload_n 0, 1) := by decide +kernel
theorem d_Text_putNumber_9 : decode b_Text_putNumber 9 = .ok (.getfield 15, 3) := by decide +kernel
theorem d_Text_putNumber_12 : decode b_Text_putNumber 12 = .ok (.iload_n 3, 1) := by decide +kernel
theorem d_Text_putNumber_13 : decode b_Text_putNumber 13 = .ok (.bipush 48, 2) := by decide +kernel
theorem d_Text_putNumber_15 : decode b_Text_putNumber 15 = .ok (.iload_n 2, 1) := by decide +kernel
theorem d_Text_putNumber_16 : decode b_Text_putNumber 16 = .ok (.bipush 10, 2) := by decide +kernel
theorem d_Text_putNumber_18 : decode b_Text_putNumber 18 = .ok (.irem, 1) := by decide +kernel
theorem d_Text_putNumber_19 : decode b_Text_putNumber 19 = .ok (.iadd, 1) := by decide +kernel
theorem d_Text_putNumber_20 : decode b_Text_putNumber 20 = .ok (.i2c, 1) := by decide +kernel
theorem d_Text_putNumber_21 : decode b_Text_putNumber 21 = .ok (.castore, 1) := by decide +kernel
theorem d_Text_putNumber_22 : decode b_Text_putNumber 22 = .ok (.iload_n 2, 1) := by decide +kernel
theorem d_Text_putNumber_23 : decode b_Text_putNumber 23 = .ok (.bipush 10, 2) := by decide +kernel
theorem d_Text_putNumber_25 : decode b_Text_putNumber 25 = .ok (.idiv, 1) := by decide +kernel
theorem d_Text_putNumber_26 : decode b_Text_putNumber 26 = .ok (.istore_n 2, 1) := by decide +kernel
theorem d_Text_putNumber_27 : decode b_Text_putNumber 27 = .ok (.iload_n 2, 1) := by decide +kernel
theorem d_Text_putNumber_28 : decode b_Text_putNumber 28 = .ok (.ifCond .le 7, 3) := by decide +kernel
theorem d_Text_putNumber_31 : decode b_Text_putNumber 31 = .ok (.iload_n 3, 1) := by decide +kernel
theorem d_Text_putNumber_32 : decode b_Text_putNumber 32 = .ok (.ifCond .gt (-27), 3) := by decide +kernel
theorem d_Text_putNumber_35 : decode b_Text_putNumber 35 = .ok (.iload_n 3, 1) := by decide +kernel
theorem d_Text_putNumber_36 : decode b_Text_putNumber 36 = .ok (.istore 4, 2) := by decide +kernel
theorem d_Text_putNumber_38 : decode b_Text_putNumber 38 = .ok (.iload 4, 2) := by decide +kernel
theorem d_Text_putNumber_40 : decode b_Text_putNumber 40 = .ok (.bipush 10, 2) := by decide +kernel
theorem d_Text_putNumber_42 : decode b_Text_putNumber 42 = .ok (.if_icmp .ge 20, 3) := by decide +kernel
theorem d_Text_putNumber_45 : decode b_Text_putNumber 45 = .ok (.aload_n 0, 1) := by decide +kernel
theorem d_Text_putNumber_46 : decode b_Text_putNumber 46 = .ok (.aload_n 0, 1) := by decide +kernel
theorem d_Text_putNumber_47 : decode b_Text_putNumber 47 = .ok (.getfield 15, 3) := by decide +kernel
theorem d_Text_putNumber_50 : decode b_Text_putNumber 50 = .ok (.iload 4, 2) := by decide +kernel
theorem d_Text_putNumber_52 : decode b_Text_putNumber 52 = .ok (.caload, 1) := by decide +kernel
theorem d_Text_putNumber_53 : decode b_Text_putNumber 53 = .ok (.invokevirtual 39, 3) := by decide +kernel
theorem d_Text_putNumber_56 : decode b_Text_putNumber 56 = .ok (.iinc 4 1, 3) := by decide +kernel
theorem d_Text_putNumber_59 : decode b_Text_putNumber 59 = .ok (.goto (-21), 3) := by decide +kernel
theorem d_Text_putNumber_62 : decode b_Text_putNumber 62 = .ok (.aload_n 0, 1) := by decide +kernel
theorem d_Text_putNumber_63 : decode b_Text_putNumber 63 = .ok (.bipush 32, 2) := by decide +kernel
theorem d_Text_putNumber_65 : decode b_Text_putNumber 65 = .ok (.invokevirtual 39, 3) := by decide +kernel
theorem d_Text_putNumber_68 : decode b_Text_putNumber 68 = .ok (.return_, 1) := by decide +kernel
def m_Text_putNumber_B5 {R : Type} (F : Nat)  (k5_35 : Int32 → Int32 → St → Option R) (rec5 : Int32 → Int32 → St → Option R) (v2_5 : Int32) (v3_5 : Int32) (y0_5 : St) : Option R :=
  (ck (v3_5 + (-1 : Int32)) 10 (lz (st y0_5 1 (upd (y0_5 1) (v3_5 + (-1 : Int32)).toNatClampNeg (vp_nar .char ((((48 : Int32) + (v2_5 - v2_5 / (10 : Int32) * (10 : Int32))).toUInt32 % 65536).toInt32)))) (fun e0_21 => (if (v2_5 / (10 : Int32)) ≤ (0 : Int32) then (k5_35 (v2_5 / (10 : Int32)) (v3_5 + (-1 : Int32)) e0_21) else (if (0 : Int32) < (v3_5 + (-1 : Int32)) then (rec5 (v2_5 / (10 : Int32)) (v3_5 + (-1 : Int32)) e0_21) else (k5_35 (v2_5 / (10 : Int32)) (v3_5 + (-1 : Int32)) e0_21))))))
theorem m_Text_putNumber_B5_h {R : Type} {F : Nat}  {k5_35 : Int32 → Int32 → St → Option R} {rec5 : Int32 → Int32 → St → Option R} {v2_5 : Int32} {v3_5 : Int32} {y0_5 : St} {o : R} (h : m_Text_putNumber_B5 F k5_35 rec5 v2_5 v3_5 y0_5 = some o) :
  (ck (v3_5 + (-1 : Int32)) 10 (lz (st y0_5 1 (upd (y0_5 1) (v3_5 + (-1 : Int32)).toNatClampNeg (vp_nar .char ((((48 : Int32) + (v2_5 - v2_5 / (10 : Int32) * (10 : Int32))).toUInt32 % 65536).toInt32)))) (fun e0_21 => (if (v2_5 / (10 : Int32)) ≤ (0 : Int32) then (k5_35 (v2_5 / (10 : Int32)) (v3_5 + (-1 : Int32)) e0_21) else (if (0 : Int32) < (v3_5 + (-1 : Int32)) then (rec5 (v2_5 / (10 : Int32)) (v3_5 + (-1 : Int32)) e0_21) else (k5_35 (v2_5 / (10 : Int32)) (v3_5 + (-1 : Int32)) e0_21)))))) = some o := h
def m_Text_putNumber_B38 {R : Type} (F : Nat)  (k38_62 : Int32 → St → Option R) (rec38 : Int32 → St → Option R) (v4_38 : Int32) (y0_38 : St) : Option R :=
  (if (10 : Int32) ≤ v4_38 then (k38_62 v4_38 y0_38) else (ck v4_38 10 (bn1 (m_Text_put F y0_38 ((y0_38 1) v4_38.toNatClampNeg)) (fun z0_53 => (rec38 (v4_38 + (1 : Int32)) z0_53)))))
theorem m_Text_putNumber_B38_h {R : Type} {F : Nat}  {k38_62 : Int32 → St → Option R} {rec38 : Int32 → St → Option R} {v4_38 : Int32} {y0_38 : St} {o : R} (h : m_Text_putNumber_B38 F k38_62 rec38 v4_38 y0_38 = some o) :
  (if (10 : Int32) ≤ v4_38 then (k38_62 v4_38 y0_38) else (ck v4_38 10 (bn1 (m_Text_put F y0_38 ((y0_38 1) v4_38.toNatClampNeg)) (fun z0_53 => (rec38 (v4_38 + (1 : Int32)) z0_53))))) = some o := h
def m_Text_putNumber (F : Nat) (x0 : St) (a1 : Int32) : Option (St) :=
  (lq3 (m_Text_putNumber_B5 F  (fun v2_5 v3_5 y0_5 => (lq2 (m_Text_putNumber_B38 F  (fun v4_38 y0_38 => (bn1 (m_Text_put F y0_38 (32 : Int32)) (fun z0_65 => (some z0_65))))) F v3_5 y0_5))) F a1 (10 : Int32) x0)
abbrev rm_Text_putNumber : Room := { frames := 1, cells := 0, slots := 0, locals := 21 }
set_option maxHeartbeats 4000000 in
set_option maxRecDepth 100000 in
theorem c_Text_putNumber {G : (Nat → Prop) → State → Prop} (hG : gok G) (hGn : gN G) (l : Launch) (dC : Nat → ClassId) (dI : Nat → Nat → Nat) (g : Nat → ClassId) (F : Nat) (sz : Nat) (h0 : Nat) (q0 : Nat → Nat) (x0 : St) (a1 : Int32) {o : St} (hm : m_Text_putNumber F x0 a1 = some o) : Met l y_Text_putNumber (.code y_Text_putNumber b_Text_putNumber 5 none :: gw) rm_Text_putNumber (kq (dC, dI) vwCl (tyv g) G [.ref h0, .int a1] sz (wd_Text g h0 q0 x0)) (kqv (dC, dI) vwCl (tyv g) (wd_Text g h0 q0 x0) (wd_Text g h0 q0 o) sz) 0 0 (va_A (wd_Text g h0 q0 x0) sz) := by
  unfold m_Text_putNumber at hm
  refine km (Qc := fun sz => kqv (dC, dI) vwCl (tyv g) (wd_Text g h0 q0 x0) (wd_Text g h0 q0 o) sz) (cc := b_Text_putNumber) (maxL := 5) (ret := none) (by decide) rfl (Nat.le_of_ble_eq_true rfl) ?_
  intro p e s m args below meth c Q hQ hx hb hr hts hown hlocks hml hnm H locs A hAe hA hP hK hD hS hGA ls hl
  have hl : lv_has ls 5 [(0, .ref h0), (1, .int a1)] := hl
  have hts : ∀ w ∈ gw, w.before args s = true := fun w h => hts w (List.mem_cons_of_mem _ h)
  have hown : s.vm.findClass "AlarmMatrix$Text" = some m.cls := hown
  refine lv_iload_n hx hb d_Text_putNumber_0 rfl (lv_at hl 1 rfl) ?_
  refine lv_istore_n (lv' := [(2, .int a1), (0, .ref h0), (1, .int a1)]) hx hb d_Text_putNumber_1 rfl hl (by decide) rfl (fun ls hl => ?_)
  refine lv_bipush (v := (10 : Int32)) hx hb d_Text_putNumber_2 (by decide) ?_
  refine lv_istore_n (lv' := [(3, .int (10 : Int32)), (2, .int a1), (0, .ref h0), (1, .int a1)]) hx hb d_Text_putNumber_4 rfl hl (by decide) rfl (fun ls hl => ?_)
  have L5 : ∀ (n5 : Nat) (v2_5 : Int32) (v3_5 : Int32) (y0_5 : St) (H : Heap) (locs : List Loc) (ls : Array Slot), lq3 (m_Text_putNumber_B5 F  (fun v2_5 v3_5 y0_5 => (lq2 (m_Text_putNumber_B38 F  (fun v4_38 y0_38 => (bn1 (m_Text_put F y0_38 (32 : Int32)) (fun z0_65 => (some z0_65))))) F v3_5 y0_5))) n5 v2_5 v3_5 y0_5 = some o → va_P (dC, dI) vwCl (wd_Text g h0 q0 y0_5) H → va_D A (wd_Text g h0 q0 y0_5) → va_S A s.heap H locs → lv_has ls 5 [(0, .ref h0), (1, .int a1), (2, .int v2_5), (3, .int v3_5)] → W p l e rm_Text_putNumber s m args below meth c H locs 0 0 Q (F0 m 5 ls []) := by
    intro n5
    induction n5 with
    | zero => intro v2_5 v3_5 y0_5 H locs ls hm; exact absurd hm (by intro z; cases z)
    | succ n5 ih5 =>
      intro v2_5 v3_5 y0_5 H locs ls hm hP hD hS hl
      replace hm := m_Text_putNumber_B5_h (lq3_h hm)
      refine lv_iinc (v := (v3_5 + (-1 : Int32))) (lv' := [(3, .int (v3_5 + (-1 : Int32))), (0, .ref h0), (1, .int a1), (2, .int v2_5)]) hx hb d_Text_putNumber_5 hl (k := 3) rfl rfl (by decide) rfl (fun ls hl => ?_)
      refine lv_aload_n hx hb d_Text_putNumber_8 rfl (lv_at hl 1 rfl) ?_
      refine va_get (D := (dC, dI)) (ci := 1) (v := .ref (q0 1)) (C := "AlarmMatrix$Text") (T := T_Text) (N := 3) hx hb hts i_Text hown hK hP 0 rfl rfl 1 (by decide) (hts _ k1_38) (fun _ h9 => h9) rfl d_Text_putNumber_9 ?_
      refine lv_iload_n hx hb d_Text_putNumber_12 rfl (lv_at hl 0 rfl) ?_
      refine lv_bipush (v := (48 : Int32)) hx hb d_Text_putNumber_13 (by decide) ?_
      refine lv_iload_n hx hb d_Text_putNumber_15 rfl (lv_at hl 3 rfl) ?_
      refine lv_bipush (v := (10 : Int32)) hx hb d_Text_putNumber_16 (by decide) ?_
      refine lv_irem hx hb d_Text_putNumber_18 (by decide) ?_
      refine lv_iadd hx hb d_Text_putNumber_19 ?_
      refine lv_i2c (v := (((48 : Int32) + (v2_5 - v2_5 / (10 : Int32) * (10 : Int32))).toUInt32 % 65536).toInt32) hx hb d_Text_putNumber_20 rfl ?_
      obtain ⟨h_21, hm⟩ := ck_s hm
      obtain ⟨e0_21, he, hm⟩ := lz_s hm
      refine va_cast (f := (y0_5 1)) hx hb hK hP hD hS 2 2 rfl rfl h_21 d_Text_putNumber_21 (fun H locs hP hD hS => ?_)
      have hP : va_P (dC, dI) vwCl (wd_Text g h0 q0 e0_21) H := by rw [he]; exact hP
      have hD : va_D A (wd_Text g h0 q0 e0_21) := by rw [he]; exact hD
      refine lv_iload_n hx hb d_Text_putNumber_22 rfl (lv_at hl 3 rfl) ?_
      refine lv_bipush (v := (10 : Int32)) hx hb d_Text_putNumber_23 (by decide) ?_
      refine lv_idiv hx hb d_Text_putNumber_25 (by decide) ?_
      refine lv_istore_n (lv' := [(2, .int (v2_5 / (10 : Int32))), (3, .int (v3_5 + (-1 : Int32))), (0, .ref h0), (1, .int a1)]) hx hb d_Text_putNumber_26 rfl hl (by decide) rfl (fun ls hl => ?_)
      refine lv_iload_n hx hb d_Text_putNumber_27 rfl (lv_at hl 0 rfl) ?_
      refine lv_if_le (tgt := 35) hx hb d_Text_putNumber_28 (by decide) (fun hc => ?_) (fun hc => ?_)
      · replace hm := if_t hm hc
        refine lv_iload_n hx hb d_Text_putNumber_35 rfl (lv_at hl 1 rfl) ?_
        refine lv_istore (lv' := [(4, .int (v3_5 + (-1 : Int32))), (2, .int (v2_5 / (10 : Int32))), (3, .int (v3_5 + (-1 : Int32))), (0, .ref h0), (1, .int a1)]) hx hb d_Text_putNumber_36 hl (by decide) rfl (fun ls hl => ?_)
        have L38 : ∀ (n38 : Nat) (v4_38 : Int32) (y0_38 : St) (H : Heap) (locs : List Loc) (ls : Array Slot), lq2 (m_Text_putNumber_B38 F  (fun v4_38 y0_38 => (bn1 (m_Text_put F y0_38 (32 : Int32)) (fun z0_65 => (some z0_65))))) n38 v4_38 y0_38 = some o → va_P (dC, dI) vwCl (wd_Text g h0 q0 y0_38) H → va_D A (wd_Text g h0 q0 y0_38) → va_S A s.heap H locs → lv_has ls 5 [(0, .ref h0), (1, .int a1), (2, .int (v2_5 / (10 : Int32))), (3, .int (v3_5 + (-1 : Int32))), (4, .int v4_38)] → W p l e rm_Text_putNumber s m args below meth c H locs 0 0 Q (F0 m 38 ls []) := by
          intro n38
          induction n38 with
          | zero => intro v4_38 y0_38 H locs ls hm; exact absurd hm (by intro z; cases z)
          | succ n38 ih38 =>
            intro v4_38 y0_38 H locs ls hm hP hD hS hl
            replace hm := m_Text_putNumber_B38_h (lq2_h hm)
            refine lv_iload hx hb d_Text_putNumber_38 (lv_at hl 4 rfl) ?_
            refine lv_bipush (v := (10 : Int32)) hx hb d_Text_putNumber_40 (by decide) ?_
            refine lv_icmp_ge (tgt := 62) hx hb d_Text_putNumber_42 (by decide) (fun hc => ?_) (fun hc => ?_)
            · replace hm := if_t hm hc
              refine lv_aload_n hx hb d_Text_putNumber_62 rfl (lv_at hl 0 rfl) ?_
              refine lv_bipush (v := (32 : Int32)) hx hb d_Text_putNumber_63 (by decide) ?_
              obtain ⟨z0_65, hcl, hm⟩ := bn1_s hm
              refine kcv (wc := wd_Text g h0 q0 y0_38) (wr := ([] : va_W)) (w1 := wd_Text g h0 q0 z0_65) hP hD hS hA [0, 1, 2] [] rfl rfl (by decide) (by decide) (va_runV (As := [.int (32 : Int32)]) (rest := []) ⟨hx, hb, hml, hown, hts⟩ (c_Text_put hG hGn l dC dI g F H.size h0 q0 y0_38 (32 : Int32) hcl) (cwV 1 hts (gdV k3_218 k3_186 k3_187 k1_2 k3_188) rfl rfl rfl (by decide +kernel) ⟨Nat.le_of_ble_eq_true rfl, Nat.le_of_ble_eq_true rfl⟩) (kpV hG hP hK hD hS hA hGA [0, 1, 2] (by decide) rfl (ci := 1) (q0 := 0) rfl rfl rfl) rfl rfl hl.1 rfl (lv_room (Nat.le_of_ble_eq_true rfl)) d_Text_putNumber_65 ⟨Nat.le_of_ble_eq_true rfl, Nat.le_of_ble_eq_true rfl⟩) (fun H locs hP hD hS => ?_)
              have hP : va_P (dC, dI) vwCl (wd_Text g h0 q0 z0_65) H := hP
              have hD : va_D A (wd_Text g h0 q0 z0_65) := hD
              obtain rfl := Option.some.inj hm
              rw [hQ]
              exact krv hx hb hr hlocks hAe hP hK hD hS d_Text_putNumber_68
            · replace hm := if_f hm hc
              refine lv_aload_n hx hb d_Text_putNumber_45 rfl (lv_at hl 0 rfl) ?_
              refine lv_aload_n hx hb d_Text_putNumber_46 rfl (lv_at hl 0 rfl) ?_
              refine va_get (D := (dC, dI)) (ci := 1) (v := .ref (q0 1)) (C := "AlarmMatrix$Text") (T := T_Text) (N := 3) hx hb hts i_Text hown hK hP 0 rfl rfl 1 (by decide) (hts _ k1_38) (fun _ h9 => h9) rfl d_Text_putNumber_47 ?_
              refine lv_iload hx hb d_Text_putNumber_50 (lv_at hl 4 rfl) ?_
              obtain ⟨h_52, hm⟩ := ck_s hm
              refine va_cald (f := (y0_38 1)) hx hb hK hP 2 2 rfl rfl h_52 d_Text_putNumber_52 ?_
              obtain ⟨z0_53, hcl, hm⟩ := bn1_s hm
              refine kcv (wc := wd_Text g h0 q0 y0_38) (wr := ([] : va_W)) (w1 := wd_Text g h0 q0 z0_53) hP hD hS hA [0, 1, 2] [] rfl rfl (by decide) (by decide) (va_runV (As := [.int ((y0_38 1) v4_38.toNatClampNeg)]) (rest := []) ⟨hx, hb, hml, hown, hts⟩ (c_Text_put hG hGn l dC dI g F H.size h0 q0 y0_38 ((y0_38 1) v4_38.toNatClampNeg) hcl) (cwV 1 hts (gdV k3_218 k3_186 k3_187 k1_2 k3_188) rfl rfl rfl (by decide +kernel) ⟨Nat.le_of_ble_eq_true rfl, Nat.le_of_ble_eq_true rfl⟩) (kpV hG hP hK hD hS hA hGA [0, 1, 2] (by decide) rfl (ci := 1) (q0 := 0) rfl rfl rfl) rfl rfl hl.1 rfl (lv_room (Nat.le_of_ble_eq_true rfl)) d_Text_putNumber_53 ⟨Nat.le_of_ble_eq_true rfl, Nat.le_of_ble_eq_true rfl⟩) (fun H locs hP hD hS => ?_)
              have hP : va_P (dC, dI) vwCl (wd_Text g h0 q0 z0_53) H := hP
              have hD : va_D A (wd_Text g h0 q0 z0_53) := hD
              refine lv_iinc (v := (v4_38 + (1 : Int32))) (lv' := [(4, .int (v4_38 + (1 : Int32))), (0, .ref h0), (1, .int a1), (2, .int (v2_5 / (10 : Int32))), (3, .int (v3_5 + (-1 : Int32)))]) hx hb d_Text_putNumber_56 hl (k := 4) rfl rfl (by decide) rfl (fun ls hl => ?_)
              refine lv_goto (tgt := 38) hx hb d_Text_putNumber_59 (by decide) ?_
              exact ih38 (v4_38 + (1 : Int32)) z0_53 H locs ls hm hP hD hS (lv_sub hl [1, 2, 3, 4, 0] rfl)
        exact L38 F (v3_5 + (-1 : Int32)) e0_21 H locs ls hm hP hD hS (lv_sub hl [3, 4, 1, 2, 0] rfl)
      · replace hm := if_f hm hc
        refine lv_iload_n hx hb d_Text_putNumber_31 rfl (lv_at hl 1 rfl) ?_
        refine lv_if_gt (tgt := 5) hx hb d_Text_putNumber_32 (by decide) (fun hc => ?_) (fun hc => ?_)
        · replace hm := if_t hm hc
          exact ih5 (v2_5 / (10 : Int32)) (v3_5 + (-1 : Int32)) e0_21 H locs ls hm hP hD hS (lv_sub hl [2, 3, 0, 1] rfl)
        · replace hm := if_f hm hc
          refine lv_iload_n hx hb d_Text_putNumber_35 rfl (lv_at hl 1 rfl) ?_
          refine lv_istore (lv' := [(4, .int (v3_5 + (-1 : Int32))), (2, .int (v2_5 / (10 : Int32))), (3, .int (v3_5 + (-1 : Int32))), (0, .ref h0), (1, .int a1)]) hx hb d_Text_putNumber_36 hl (by decide) rfl (fun ls hl => ?_)
          have L38 : ∀ (n38 : Nat) (v4_38 : Int32) (y0_38 : St) (H : Heap) (locs : List Loc) (ls : Array Slot), lq2 (m_Text_putNumber_B38 F  (fun v4_38 y0_38 => (bn1 (m_Text_put F y0_38 (32 : Int32)) (fun z0_65 => (some z0_65))))) n38 v4_38 y0_38 = some o → va_P (dC, dI) vwCl (wd_Text g h0 q0 y0_38) H → va_D A (wd_Text g h0 q0 y0_38) → va_S A s.heap H locs → lv_has ls 5 [(0, .ref h0), (1, .int a1), (2, .int (v2_5 / (10 : Int32))), (3, .int (v3_5 + (-1 : Int32))), (4, .int v4_38)] → W p l e rm_Text_putNumber s m args below meth c H locs 0 0 Q (F0 m 38 ls []) := by
            intro n38
            induction n38 with
            | zero => intro v4_38 y0_38 H locs ls hm; exact absurd hm (by intro z; cases z)
            | succ n38 ih38 =>
              intro v4_38 y0_38 H locs ls hm hP hD hS hl
              replace hm := m_Text_putNumber_B38_h (lq2_h hm)
              refine lv_iload hx hb d_Text_putNumber_38 (lv_at hl 4 rfl) ?_
              refine lv_bipush (v := (10 : Int32)) hx hb d_Text_putNumber_40 (by decide) ?_
              refine lv_icmp_ge (tgt := 62) hx hb d_Text_putNumber_42 (by decide) (fun hc => ?_) (fun hc => ?_)
              · replace hm := if_t hm hc
                refine lv_aload_n hx hb d_Text_putNumber_62 rfl (lv_at hl 0 rfl) ?_
                refine lv_bipush (v := (32 : Int32)) hx hb d_Text_putNumber_63 (by decide) ?_
                obtain ⟨z0_65, hcl, hm⟩ := bn1_s hm
                refine kcv (wc := wd_Text g h0 q0 y0_38) (wr := ([] : va_W)) (w1 := wd_Text g h0 q0 z0_65) hP hD hS hA [0, 1, 2] [] rfl rfl (by decide) (by decide) (va_runV (As := [.int (32 : Int32)]) (rest := []) ⟨hx, hb, hml, hown, hts⟩ (c_Text_put hG hGn l dC dI g F H.size h0 q0 y0_38 (32 : Int32) hcl) (cwV 1 hts (gdV k3_218 k3_186 k3_187 k1_2 k3_188) rfl rfl rfl (by decide +kernel) ⟨Nat.le_of_ble_eq_true rfl, Nat.le_of_ble_eq_true rfl⟩) (kpV hG hP hK hD hS hA hGA [0, 1, 2] (by decide) rfl (ci := 1) (q0 := 0) rfl rfl rfl) rfl rfl hl.1 rfl (lv_room (Nat.le_of_ble_eq_true rfl)) d_Text_putNumber_65 ⟨Nat.le_of_ble_eq_true rfl, Nat.le_of_ble_eq_true rfl⟩) (fun H locs hP hD hS => ?_)
                have hP : va_P (dC, dI) vwCl (wd_Text g h0 q0 z0_65) H := hP
                have hD : va_D A (wd_Text g h0 q0 z0_65) := hD
                obtain rfl := Option.some.inj hm
                rw [hQ]
                exact krv hx hb hr hlocks hAe hP hK hD hS d_Text_putNumber_68
              · replace hm := if_f hm hc
                refine lv_aload_n hx hb d_Text_putNumber_45 rfl (lv_at hl 0 rfl) ?_
                refine lv_aload_n hx hb d_Text_putNumber_46 rfl (lv_at hl 0 rfl) ?_
                refine va_get (D := (dC, dI)) (ci := 1) (v := .ref (q0 1)) (C := "AlarmMatrix$Text") (T := T_Text) (N := 3) hx hb hts i_Text hown hK hP 0 rfl rfl 1 (by decide) (hts _ k1_38) (fun _ h9 => h9) rfl d_Text_putNumber_47 ?_
                refine lv_iload hx hb d_Text_putNumber_50 (lv_at hl 4 rfl) ?_
                obtain ⟨h_52, hm⟩ := ck_s hm
                refine va_cald (f := (y0_38 1)) hx hb hK hP 2 2 rfl rfl h_52 d_Text_putNumber_52 ?_
                obtain ⟨z0_53, hcl, hm⟩ := bn1_s hm
                refine kcv (wc := wd_Text g h0 q0 y0_38) (wr := ([] : va_W)) (w1 := wd_Text g h0 q0 z0_53) hP hD hS hA [0, 1, 2] [] rfl rfl (by decide) (by decide) (va_runV (As := [.int ((y0_38 1) v4_38.toNatClampNeg)]) (rest := []) ⟨hx, hb, hml, hown, hts⟩ (c_Text_put hG hGn l dC dI g F H.size h0 q0 y0_38 ((y0_38 1) v4_38.toNatClampNeg) hcl) (cwV 1 hts (gdV k3_218 k3_186 k3_187 k1_2 k3_188) rfl rfl rfl (by decide +kernel) ⟨Nat.le_of_ble_eq_true rfl, Nat.le_of_ble_eq_true rfl⟩) (kpV hG hP hK hD hS hA hGA [0, 1, 2] (by decide) rfl (ci := 1) (q0 := 0) rfl rfl rfl) rfl rfl hl.1 rfl (lv_room (Nat.le_of_ble_eq_true rfl)) d_Text_putNumber_53 ⟨Nat.le_of_ble_eq_true rfl, Nat.le_of_ble_eq_true rfl⟩) (fun H locs hP hD hS => ?_)
                have hP : va_P (dC, dI) vwCl (wd_Text g h0 q0 z0_53) H := hP
                have hD : va_D A (wd_Text g h0 q0 z0_53) := hD
                refine lv_iinc (v := (v4_38 + (1 : Int32))) (lv' := [(4, .int (v4_38 + (1 : Int32))), (0, .ref h0), (1, .int a1), (2, .int (v2_5 / (10 : Int32))), (3, .int (v3_5 + (-1 : Int32)))]) hx hb d_Text_putNumber_56 hl (k := 4) rfl rfl (by decide) rfl (fun ls hl => ?_)
                refine lv_goto (tgt := 38) hx hb d_Text_putNumber_59 (by decide) ?_
                exact ih38 (v4_38 + (1 : Int32)) z0_53 H locs ls hm hP hD hS (lv_sub hl [1, 2, 3, 4, 0] rfl)
          exact L38 F (v3_5 + (-1 : Int32)) e0_21 H locs ls hm hP hD hS (lv_sub hl [3, 4, 1, 2, 0] rfl)
  exact L5 F a1 (10 : Int32) x0 H locs ls hm hP hD hS (lv_sub hl [2, 3, 1, 0] rfl)
abbrev b_Text_putPair : ByteArray := prog_8_method_6_code
abbrev y_Text_putPair : MethodName := ⟨"AlarmMatrix$Text", "putPair", "(Ljava/lang/String;I)V"⟩
theorem d_Text_putPair_0 : decode b_Text_putPair 0 = .ok (.aload_n 0, 1) := by decide +kernel
theorem d_Text_putPair_1 : decode b_Text_putPair 1 = .ok (.aload_n 1, 1) := by decide +kernel
theorem d_Text_putPair_2 : decode b_Text_putPair 2 = .ok (.invokevirtual 22, 3) := by decide +kernel
theorem d_Text_putPair_5 : decode b_Text_putPair 5 = .ok (.aload_n 0, 1) := by decide +kernel
theorem d_Text_putPair_6 : decode b_Text_putPair 6 = .ok (.iload_n 2, 1) := by decide +kernel
theorem d_Text_putPair_7 : decode b_Text_putPair 7 = .ok (.invokevirtual 26, 3) := by decide +kernel
theorem d_Text_putPair_10 : decode b_Text_putPair 10 = .ok (.return_, 1) := by decide +kernel
def m_Text_putPair (F : Nat) (x0 : St) (w1 : Nat) (a2 : Int32) : Option (St) :=
  (bn1 (m_Text_putWord F x0 w1) (fun z0_2 => (bn1 (m_Text_putNumber F z0_2 a2) (fun z0_7 => (some z0_7)))))
abbrev rm_Text_putPair : Room := { frames := 5, cells := 0, slots := 0, locals := 107 }
set_option maxHeartbeats 4000000 in
set_option maxRecDepth 100000 in
theorem c_Text_putPair {G : (Nat → Prop) → State → Prop} (hG : gok G) (hGn : gN G) {adK adV : Nat → Nat} (hGs : gSt adK adV G) (l : Launch) (dC : Nat → ClassId) (dI : Nat → Nat → Nat) (g : Nat → ClassId) (F : Nat) (sz : Nat) (h0 : Nat) (q0 : Nat → Nat) (x0 : St) (w1 : Nat) (hw1 : w1 < nS) (a2 : Int32) {o : St} (hm : m_Text_putPair F x0 w1 a2 = some o) : Met l y_Text_putPair (.code y_Text_putPair b_Text_putPair 3 none :: gw) rm_Text_putPair (kq (dC, dI) vwCl (tyv g) G [.ref h0, .ref (adK w1), .int a2] sz (wd_Text g h0 q0 x0)) (kqv (dC, dI) vwCl (tyv g) (wd_Text g h0 q0 x0) (wd_Text g h0 q0 o) sz) 0 0 (va_A (wd_Text g h0 q0 x0) sz) := by
  unfold m_Text_putPair at hm
  refine km (Qc := fun sz => kqv (dC, dI) vwCl (tyv g) (wd_Text g h0 q0 x0) (wd_Text g h0 q0 o) sz) (cc := b_Text_putPair) (maxL := 3) (ret := none) (by decide) rfl (Nat.le_of_ble_eq_true rfl) ?_
  intro p e s m args below meth c Q hQ hx hb hr hts hown hlocks hml hnm H locs A hAe hA hP hK hD hS hGA ls hl
  have hl : lv_has ls 3 [(0, .ref h0), (1, .ref (adK w1)), (2, .int a2)] := hl
  have hts : ∀ w ∈ gw, w.before args s = true := fun w h => hts w (List.mem_cons_of_mem _ h)
  have hown : s.vm.findClass "AlarmMatrix$Text" = some m.cls := hown
  refine lv_aload_n hx hb d_Text_putPair_0 rfl (lv_at hl 0 rfl) ?_
  refine lv_aload_n hx hb d_Text_putPair_1 rfl (lv_at hl 1 rfl) ?_
  obtain ⟨z0_2, hcl, hm⟩ := bn1_s hm
  refine kcv (wc := wd_Text g h0 q0 x0) (wr := ([] : va_W)) (w1 := wd_Text g h0 q0 z0_2) hP hD hS hA [0, 1, 2] [] rfl rfl (by decide) (by decide) (va_runV (As := [.ref (adK w1)]) (rest := []) ⟨hx, hb, hml, hown, hts⟩ (c_Text_putWord hG hGn hGs l dC dI g F H.size h0 q0 x0 w1 hw1 hcl) (cwV 1 hts (gdV k3_212 k3_213 k3_214 k1_2 k3_215) rfl rfl rfl (by decide +kernel) ⟨Nat.le_of_ble_eq_true rfl, Nat.le_of_ble_eq_true rfl⟩) (kpV hG hP hK hD hS hA hGA [0, 1, 2] (by decide) rfl (ci := 1) (q0 := 0) rfl rfl rfl) rfl rfl hl.1 rfl (lv_room (Nat.le_of_ble_eq_true rfl)) d_Text_putPair_2 ⟨Nat.le_of_ble_eq_true rfl, Nat.le_of_ble_eq_true rfl⟩) (fun H locs hP hD hS => ?_)
  have hP : va_P (dC, dI) vwCl (wd_Text g h0 q0 z0_2) H := hP
  have hD : va_D A (wd_Text g h0 q0 z0_2) := hD
  refine lv_aload_n hx hb d_Text_putPair_5 rfl (lv_at hl 0 rfl) ?_
  refine lv_iload_n hx hb d_Text_putPair_6 rfl (lv_at hl 2 rfl) ?_
  obtain ⟨z0_7, hcl, hm⟩ := bn1_s hm
  refine kcv (wc := wd_Text g h0 q0 z0_2) (wr := ([] : va_W)) (w1 := wd_Text g h0 q0 z0_7) hP hD hS hA [0, 1, 2] [] rfl rfl (by decide) (by decide) (va_runV (As := [.int a2]) (rest := []) ⟨hx, hb, hml, hown, hts⟩ (c_Text_putNumber hG hGn l dC dI g F H.size h0 q0 z0_2 a2 hcl) (cwV 1 hts (gdV k3_219 k3_220 k3_221 k1_2 k3_222) rfl rfl rfl (by decide +kernel) ⟨Nat.le_of_ble_eq_true rfl, Nat.le_of_ble_eq_true rfl⟩) (kpV hG hP hK hD hS hA hGA [0, 1, 2] (by decide) rfl (ci := 1) (q0 := 0) rfl rfl rfl) rfl rfl hl.1 rfl (lv_room (Nat.le_of_ble_eq_true rfl)) d_Text_putPair_7 ⟨Nat.le_of_ble_eq_true rfl, Nat.le_of_ble_eq_true rfl⟩) (fun H locs hP hD hS => ?_)
  have hP : va_P (dC, dI) vwCl (wd_Text g h0 q0 z0_7) H := hP
  have hD : va_D A (wd_Text g h0 q0 z0_7) := hD
  obtain rfl := Option.some.inj hm
  rw [hQ]
  exact krv hx hb hr hlocks hAe hP hK hD hS d_Text_putPair_10

abbrev b_MD_cutText : ByteArray := prog_12_method_13_code
abbrev y_MD_cutText : MethodName := ⟨"AlarmMatrixModel", "cutText", "(I)I"⟩
theorem d_MD_cutText_0 : decode b_MD_cutText 0 = .ok (.aload_n 0, 1) := by decide +kernel
theorem d_MD_cutText_1 : decode b_MD_cutText 1 = .ok (.iload_n 1, 1) := by decide +kernel
theorem d_MD_cutText_2 : decode b_MD_cutText 2 = .ok (.ifCond .lt 15, 3) := by decide +kernel
theorem d_MD_cutText_5 : decode b_MD_cutText 5 = .ok (.iload_n 1, 1) := by decide +kernel
theorem d_MD_cutText_6 : decode b_MD_cutText 6 = .ok (.aload_n 0, 1) := by decide +kernel
theorem d_MD_cutText_7 : decode b_MD_cutText 7 = .ok (.getfield 111, 3) := by decide +kernel
theorem d_MD_cutText_10 : decode b_MD_cutText 10 = .ok (.if_icmp .gt 7, 3) := by decide +kernel
theorem d_MD_cutText_13 : decode b_MD_cutText 13 = .ok (.iconst 1, 1) := by decide +kernel
theorem d_MD_cutText_14 : decode b_MD_cutText 14 = .ok (.goto 4, 3) := by decide +kernel
theorem d_MD_cutText_17 : decode b_MD_cutText 17 = .ok (.iconst 0, 1) := by decide +kernel
theorem d_MD_cutText_18 : decode b_MD_cutText 18 = .ok (.iconst 1, 1) := by decide +kernel
theorem d_MD_cutText_19 : decode b_MD_cutText 19 = .ok (.invokevirtual 114, 3) := by decide +kernel
theorem d_MD_cutText_22 : decode b_MD_cutText 22 = .ok (.ifCond .ne 5, 3) := by decide +kernel
theorem d_MD_cutText_25 : decode b_MD_cutText 25 = .ok (.iconst 0, 1) := by decide +kernel
theorem d_MD_cutText_26 : decode b_MD_cutText 26 = .ok (.ireturn, 1) := by decide +kernel
theorem d_MD_cutText_27 : decode b_MD_cutText 27 = .ok (.aload_n 0, 1) := by decide +kernel
theorem d_MD_cutText_28 : decode b_MD_cutText 28 = .ok (.dup, 1) := by decide +kernel
theorem d_MD_cutText_29 : decode b_MD_cutText 29 = .ok (.getfield 111, 3) := by decide +kernel
theorem d_MD_cutText_32 : decode b_MD_cutText 32 = .ok (.iload_n 1, 1) := by decide +kernel
theorem d_MD_cutText_33 : decode b_MD_cutText 33 = .ok (.isub, 1) := by decide +kernel
theorem d_MD_cutText_34 : decode b_MD_cutText 34 = .ok (.putfield 111, 3) := by decide +kernel
theorem d_MD_cutText_37 : decode b_MD_cutText 37 = .ok (.aload_n 0, 1) := by decide +kernel
theorem d_MD_cutText_38 : decode b_MD_cutText 38 = .ok (.getfield 111, 3) := by decide +kernel
theorem d_MD_cutText_41 : decode b_MD_cutText 41 = .ok (.ireturn, 1) := by decide +kernel
def m_MD_cutText (F : Nat) (x0 : St) (a1 : Int32) : Option (Int32 × St) :=
  (if a1 < (0 : Int32) then (bn2 (m_MD_goes F x0 (0 : Int32) (1 : Int32)) (fun r19 z0_19 => (if r19 = (0 : Int32) then (some ((0 : Int32), z0_19)) else (lz (sc z0_19 12 ((z0_19 12 0) - a1)) (fun e0_34 => (some ((e0_34 12 0), e0_34))))))) else (if (x0 12 0) < a1 then (bn2 (m_MD_goes F x0 (0 : Int32) (1 : Int32)) (fun r19 z0_19 => (if r19 = (0 : Int32) then (some ((0 : Int32), z0_19)) else (lz (sc z0_19 12 ((z0_19 12 0) - a1)) (fun e0_34 => (some ((e0_34 12 0), e0_34))))))) else (bn2 (m_MD_goes F x0 (1 : Int32) (1 : Int32)) (fun r19 z0_19 => (if r19 = (0 : Int32) then (some ((0 : Int32), z0_19)) else (lz (sc z0_19 12 ((z0_19 12 0) - a1)) (fun e0_34 => (some ((e0_34 12 0), e0_34)))))))))
abbrev rm_MD_cutText : Room := { frames := 1, cells := 0, slots := 0, locals := 22 }
set_option maxHeartbeats 4000000 in
set_option maxRecDepth 100000 in
theorem c_MD_cutText {G : (Nat → Prop) → State → Prop} (hG : gok G) (hGn : gN G) (l : Launch) (dC : Nat → ClassId) (dI : Nat → Nat → Nat) (g : Nat → ClassId) (F : Nat) (sz : Nat) (h0 : Nat) (q0 : Nat → Nat) (x0 : St) (a1 : Int32) {o : Int32 × St} (hm : m_MD_cutText F x0 a1 = some o) : Met l y_MD_cutText (.code y_MD_cutText b_MD_cutText 2 (some .int) :: gw) rm_MD_cutText (kq (dC, dI) vwCl (tyv g) G [.ref h0, .int a1] sz (wd_MD g h0 q0 x0)) (kqi (dC, dI) vwCl (tyv g) (wd_MD g h0 q0 x0) o.1 (wd_MD g h0 q0 (o.2)) sz) 0 0 (va_A (wd_MD g h0 q0 x0) sz) := by
  unfold m_MD_cutText at hm
  refine km (Qc := fun sz => kqi (dC, dI) vwCl (tyv g) (wd_MD g h0 q0 x0) o.1 (wd_MD g h0 q0 (o.2)) sz) (cc := b_MD_cutText) (maxL := 2) (ret := some .int) (by decide) rfl (Nat.le_of_ble_eq_true rfl) ?_
  intro p e s m args below meth c Q hQ hx hb hr hts hown hlocks hml hnm H locs A hAe hA hP hK hD hS hGA ls hl
  have hl : lv_has ls 2 [(0, .ref h0), (1, .int a1)] := hl
  have hts : ∀ w ∈ gw, w.before args s = true := fun w h => hts w (List.mem_cons_of_mem _ h)
  have hown : s.vm.findClass "AlarmMatrixModel" = some m.cls := hown
  refine lv_aload_n hx hb d_MD_cutText_0 rfl (lv_at hl 0 rfl) ?_
  refine lv_iload_n hx hb d_MD_cutText_1 rfl (lv_at hl 1 rfl) ?_
  refine lv_if_lt (tgt := 17) hx hb d_MD_cutText_2 (by decide) (fun hc => ?_) (fun hc => ?_)
  · replace hm := if_t hm hc
    refine lv_iconst (v := (0 : Int32)) hx hb d_MD_cutText_17 (by decide) ?_
    refine lv_iconst (v := (1 : Int32)) hx hb d_MD_cutText_18 (by decide) ?_
    obtain ⟨r19, z0_19, hcl, hm⟩ := bn2_s hm
    refine kci (wc := wd_MD g h0 q0 x0) (wr := ([] : va_W)) (w1 := wd_MD g h0 q0 z0_19) hP hD hS hA [0, 1, 2, 3, 4, 5, 6, 7, 8, 9, 10, 11, 12, 13, 14, 15, 16, 17, 18, 19, 20, 21, 22, 23, 24, 25, 26, 27, 28, 29, 30, 31] [] rfl rfl (by decide) (by decide) (va_runV (As := [.int (0 : Int32), .int (1 : Int32)]) (rest := []) ⟨hx, hb, hml, hown, hts⟩ (c_MD_goes hG hGn l dC dI g F H.size h0 q0 x0 (0 : Int32) (1 : Int32) hcl) (cwV 2 hts (gdV k5_155 k5_157 kp_20 k1_10 k5_158) rfl rfl rfl (by decide +kernel) ⟨Nat.le_of_ble_eq_true rfl, Nat.le_of_ble_eq_true rfl⟩) (kpV hG hP hK hD hS hA hGA [0, 1, 2, 3, 4, 5, 6, 7, 8, 9, 10, 11, 12, 13, 14, 15, 16, 17, 18, 19, 20, 21, 22, 23, 24, 25, 26, 27, 28, 29, 30, 31] (by decide) rfl (ci := 10) (q0 := 0) rfl rfl rfl) rfl rfl hl.1 rfl (lv_room (Nat.le_of_ble_eq_true rfl)) d_MD_cutText_19 ⟨Nat.le_of_ble_eq_true rfl, Nat.le_of_ble_eq_true rfl⟩) (fun H locs hP hD hS => ?_)
    have hP : va_P (dC, dI) vwCl (wd_MD g h0 q0 z0_19) H := hP
    have hD : va_D A (wd_MD g h0 q0 z0_19) := hD
    refine lv_if_ne (tgt := 27) hx hb d_MD_cutText_22 (by decide) (fun hc => ?_) (fun hc => ?_)
    · replace hm := if_f hm hc
      refine lv_aload_n hx hb d_MD_cutText_27 rfl (lv_at hl 0 rfl) ?_
      refine lv_dup hx hb d_MD_cutText_28 rfl ?_
      refine va_get (D := (dC, dI)) (ci := 10) (v := .int (z0_19 12 0)) (C := "AlarmMatrixModel") (T := T_MD) (N := 42) hx hb hts i_MD hown hK hP 0 rfl rfl 12 (by decide) (hts _ k5_32) (fun _ h9 => h9) rfl d_MD_cutText_29 ?_
      refine lv_iload_n hx hb d_MD_cutText_32 rfl (lv_at hl 1 rfl) ?_
      refine lv_isub hx hb d_MD_cutText_33 ?_
      obtain ⟨e0_34, he, hm⟩ := lz_s hm
      refine va_put (D := (dC, dI)) (ci := 10) (v := .int ((z0_19 12 0) - a1)) (ty := .int) (C := "AlarmMatrixModel") (T := T_MD) (N := 42) hx hb hts i_MD t_MD o_MD n_MD hown hK hP hD hS 0 rfl rfl 12 (by decide) (hts _ k5_32) (fun _ h9 => h9) rfl (by decide +kernel) rfl rfl (Nat.le_of_ble_eq_true rfl) d_MD_cutText_34 (fun H locs hP hD hS => ?_)
      have hP : va_P (dC, dI) vwCl (wd_MD g h0 q0 e0_34) H := by rw [he]; exact hP
      have hD : va_D A (wd_MD g h0 q0 e0_34) := by rw [he]; exact hD
      refine lv_aload_n hx hb d_MD_cutText_37 rfl (lv_at hl 0 rfl) ?_
      refine va_get (D := (dC, dI)) (ci := 10) (v := .int (e0_34 12 0)) (C := "AlarmMatrixModel") (T := T_MD) (N := 42) hx hb hts i_MD hown hK hP 0 rfl rfl 12 (by decide) (hts _ k5_32) (fun _ h9 => h9) rfl d_MD_cutText_38 ?_
      obtain rfl := Option.some.inj hm
      rw [hQ]
      exact kri hx hb hr hlocks hAe hP hK hD hS d_MD_cutText_41
    · replace hm := if_t hm hc
      refine lv_iconst (v := (0 : Int32)) hx hb d_MD_cutText_25 (by decide) ?_
      obtain rfl := Option.some.inj hm
      rw [hQ]
      exact kri hx hb hr hlocks hAe hP hK hD hS d_MD_cutText_26
  · replace hm := if_f hm hc
    refine lv_iload_n hx hb d_MD_cutText_5 rfl (lv_at hl 1 rfl) ?_
    refine lv_aload_n hx hb d_MD_cutText_6 rfl (lv_at hl 0 rfl) ?_
    refine va_get (D := (dC, dI)) (ci := 10) (v := .int (x0 12 0)) (C := "AlarmMatrixModel") (T := T_MD) (N := 42) hx hb hts i_MD hown hK hP 0 rfl rfl 12 (by decide) (hts _ k5_32) (fun _ h9 => h9) rfl d_MD_cutText_7 ?_
    refine lv_icmp_gt (tgt := 17) hx hb d_MD_cutText_10 (by decide) (fun hc => ?_) (fun hc => ?_)
    · replace hm := if_t hm hc
      refine lv_iconst (v := (0 : Int32)) hx hb d_MD_cutText_17 (by decide) ?_
      refine lv_iconst (v := (1 : Int32)) hx hb d_MD_cutText_18 (by decide) ?_
      obtain ⟨r19, z0_19, hcl, hm⟩ := bn2_s hm
      refine kci (wc := wd_MD g h0 q0 x0) (wr := ([] : va_W)) (w1 := wd_MD g h0 q0 z0_19) hP hD hS hA [0, 1, 2, 3, 4, 5, 6, 7, 8, 9, 10, 11, 12, 13, 14, 15, 16, 17, 18, 19, 20, 21, 22, 23, 24, 25, 26, 27, 28, 29, 30, 31] [] rfl rfl (by decide) (by decide) (va_runV (As := [.int (0 : Int32), .int (1 : Int32)]) (rest := []) ⟨hx, hb, hml, hown, hts⟩ (c_MD_goes hG hGn l dC dI g F H.size h0 q0 x0 (0 : Int32) (1 : Int32) hcl) (cwV 2 hts (gdV k5_155 k5_157 kp_20 k1_10 k5_158) rfl rfl rfl (by decide +kernel) ⟨Nat.le_of_ble_eq_true rfl, Nat.le_of_ble_eq_true rfl⟩) (kpV hG hP hK hD hS hA hGA [0, 1, 2, 3, 4, 5, 6, 7, 8, 9, 10, 11, 12, 13, 14, 15, 16, 17, 18, 19, 20, 21, 22, 23, 24, 25, 26, 27, 28, 29, 30, 31] (by decide) rfl (ci := 10) (q0 := 0) rfl rfl rfl) rfl rfl hl.1 rfl (lv_room (Nat.le_of_ble_eq_true rfl)) d_MD_cutText_19 ⟨Nat.le_of_ble_eq_true rfl, Nat.le_of_ble_eq_true rfl⟩) (fun H locs hP hD hS => ?_)
      have hP : va_P (dC, dI) vwCl (wd_MD g h0 q0 z0_19) H := hP
      have hD : va_D A (wd_MD g h0 q0 z0_19) := hD
      refine lv_if_ne (tgt := 27) hx hb d_MD_cutText_22 (by decide) (fun hc => ?_) (fun hc => ?_)
      · replace hm := if_f hm hc
        refine lv_aload_n hx hb d_MD_cutText_27 rfl (lv_at hl 0 rfl) ?_
        refine lv_dup hx hb d_MD_cutText_28 rfl ?_
        refine va_get (D := (dC, dI)) (ci := 10) (v := .int (z0_19 12 0)) (C := "AlarmMatrixModel") (T := T_MD) (N := 42) hx hb hts i_MD hown hK hP 0 rfl rfl 12 (by decide) (hts _ k5_32) (fun _ h9 => h9) rfl d_MD_cutText_29 ?_
        refine lv_iload_n hx hb d_MD_cutText_32 rfl (lv_at hl 1 rfl) ?_
        refine lv_isub hx hb d_MD_cutText_33 ?_
        obtain ⟨e0_34, he, hm⟩ := lz_s hm
        refine va_put (D := (dC, dI)) (ci := 10) (v := .int ((z0_19 12 0) - a1)) (ty := .int) (C := "AlarmMatrixModel") (T := T_MD) (N := 42) hx hb hts i_MD t_MD o_MD n_MD hown hK hP hD hS 0 rfl rfl 12 (by decide) (hts _ k5_32) (fun _ h9 => h9) rfl (by decide +kernel) rfl rfl (Nat.le_of_ble_eq_true rfl) d_MD_cutText_34 (fun H locs hP hD hS => ?_)
        have hP : va_P (dC, dI) vwCl (wd_MD g h0 q0 e0_34) H := by rw [he]; exact hP
        have hD : va_D A (wd_MD g h0 q0 e0_34) := by rw [he]; exact hD
        refine lv_aload_n hx hb d_MD_cutText_37 rfl (lv_at hl 0 rfl) ?_
        refine va_get (D := (dC, dI)) (ci := 10) (v := .int (e0_34 12 0)) (C := "AlarmMatrixModel") (T := T_MD) (N := 42) hx hb hts i_MD hown hK hP 0 rfl rfl 12 (by decide) (hts _ k5_32) (fun _ h9 => h9) rfl d_MD_cutText_38 ?_
        obtain rfl := Option.some.inj hm
        rw [hQ]
        exact kri hx hb hr hlocks hAe hP hK hD hS d_MD_cutText_41
      · replace hm := if_t hm hc
        refine lv_iconst (v := (0 : Int32)) hx hb d_MD_cutText_25 (by decide) ?_
        obtain rfl := Option.some.inj hm
        rw [hQ]
        exact kri hx hb hr hlocks hAe hP hK hD hS d_MD_cutText_26
    · replace hm := if_f hm hc
      refine lv_iconst (v := (1 : Int32)) hx hb d_MD_cutText_13 (by decide) ?_
      refine lv_goto (tgt := 18) hx hb d_MD_cutText_14 (by decide) ?_
      refine lv_iconst (v := (1 : Int32)) hx hb d_MD_cutText_18 (by decide) ?_
      obtain ⟨r19, z0_19, hcl, hm⟩ := bn2_s hm
      refine kci (wc := wd_MD g h0 q0 x0) (wr := ([] : va_W)) (w1 := wd_MD g h0 q0 z0_19) hP hD hS hA [0, 1, 2, 3, 4, 5, 6, 7, 8, 9, 10, 11, 12, 13, 14, 15, 16, 17, 18, 19, 20, 21, 22, 23, 24, 25, 26, 27, 28, 29, 30, 31] [] rfl rfl (by decide) (by decide) (va_runV (As := [.int (1 : Int32), .int (1 : Int32)]) (rest := []) ⟨hx, hb, hml, hown, hts⟩ (c_MD_goes hG hGn l dC dI g F H.size h0 q0 x0 (1 : Int32) (1 : Int32) hcl) (cwV 2 hts (gdV k5_155 k5_157 kp_20 k1_10 k5_158) rfl rfl rfl (by decide +kernel) ⟨Nat.le_of_ble_eq_true rfl, Nat.le_of_ble_eq_true rfl⟩) (kpV hG hP hK hD hS hA hGA [0, 1, 2, 3, 4, 5, 6, 7, 8, 9, 10, 11, 12, 13, 14, 15, 16, 17, 18, 19, 20, 21, 22, 23, 24, 25, 26, 27, 28, 29, 30, 31] (by decide) rfl (ci := 10) (q0 := 0) rfl rfl rfl) rfl rfl hl.1 rfl (lv_room (Nat.le_of_ble_eq_true rfl)) d_MD_cutText_19 ⟨Nat.le_of_ble_eq_true rfl, Nat.le_of_ble_eq_true rfl⟩) (fun H locs hP hD hS => ?_)
      have hP : va_P (dC, dI) vwCl (wd_MD g h0 q0 z0_19) H := hP
      have hD : va_D A (wd_MD g h0 q0 z0_19) := hD
      refine lv_if_ne (tgt := 27) hx hb d_MD_cutText_22 (by decide) (fun hc => ?_) (fun hc => ?_)
      · replace hm := if_f hm hc
        refine lv_aload_n hx hb d_MD_cutText_27 rfl (lv_at hl 0 rfl) ?_
        refine lv_dup hx hb d_MD_cutText_28 rfl ?_
        refine va_get (D := (dC, dI)) (ci := 10) (v := .int (z0_19 12 0)) (C := "AlarmMatrixModel") (T := T_MD) (N := 42) hx hb hts i_MD hown hK hP 0 rfl rfl 12 (by decide) (hts _ k5_32) (fun _ h9 => h9) rfl d_MD_cutText_29 ?_
        refine lv_iload_n hx hb d_MD_cutText_32 rfl (lv_at hl 1 rfl) ?_
        refine lv_isub hx hb d_MD_cutText_33 ?_
        obtain ⟨e0_34, he, hm⟩ := lz_s hm
        refine va_put (D := (dC, dI)) (ci := 10) (v := .int ((z0_19 12 0) - a1)) (ty := .int) (C := "AlarmMatrixModel") (T := T_MD) (N := 42) hx hb hts i_MD t_MD o_MD n_MD hown hK hP hD hS 0 rfl rfl 12 (by decide) (hts _ k5_32) (fun _ h9 => h9) rfl (by decide +kernel) rfl rfl (Nat.le_of_ble_eq_true rfl) d_MD_cutText_34 (fun H locs hP hD hS => ?_)
        have hP : va_P (dC, dI) vwCl (wd_MD g h0 q0 e0_34) H := by rw [he]; exact hP
        have hD : va_D A (wd_MD g h0 q0 e0_34) := by rw [he]; exact hD
        refine lv_aload_n hx hb d_MD_cutText_37 rfl (lv_at hl 0 rfl) ?_
        refine va_get (D := (dC, dI)) (ci := 10) (v := .int (e0_34 12 0)) (C := "AlarmMatrixModel") (T := T_MD) (N := 42) hx hb hts i_MD hown hK hP 0 rfl rfl 12 (by decide) (hts _ k5_32) (fun _ h9 => h9) rfl d_MD_cutText_38 ?_
        obtain rfl := Option.some.inj hm
        rw [hQ]
        exact kri hx hb hr hlocks hAe hP hK hD hS d_MD_cutText_41
      · replace hm := if_t hm hc
        refine lv_iconst (v := (0 : Int32)) hx hb d_MD_cutText_25 (by decide) ?_
        obtain rfl := Option.some.inj hm
        rw [hQ]
        exact kri hx hb hr hlocks hAe hP hK hD hS d_MD_cutText_26
abbrev b_MD_sort : ByteArray := prog_12_method_14_code
abbrev y_MD_sort : MethodName := ⟨"AlarmMatrixModel", "sort", "(I)I"⟩
theorem d_MD_sort_0 : decode b_MD_sort 0 = .ok (.iload_n 0, 1) := by decide +kernel
theorem d_MD_sort_1 : decode b_MD_sort 1 = .ok (.bipush 32, 2) := by decide +kernel
theorem d_MD_sort_3 : decode b_MD_sort 3 = .ok (.if_icmp .eq 9, 3) := by decide +kernel
theorem d_MD_sort_6 : decode b_MD_sort 6 = .ok (.iload_n 0, 1) := by decide +kernel
theorem d_MD_sort_7 : decode b_MD_sort 7 = .ok (.bipush 10, 2) := by decide +kernel
theorem d_MD_sort_9 : decode b_MD_sort 9 = .ok (.if_icmp .ne 7, 3) := by decide +kernel
theorem d_MD_sort_12 : decode b_MD_sort 12 = .ok (.iconst 0, 1) := by decide +kernel
theorem d_MD_sort_13 : decode b_MD_sort 13 = .ok (.goto 36, 3) := by decide +kernel
theorem d_MD_sort_16 : decode b_MD_sort 16 = .ok (.iload_n 0, 1) := by decide +kernel
theorem d_MD_sort_17 : decode b_MD_sort 17 = .ok (.bipush 96, 2) := by decide +kernel
theorem d_MD_sort_19 : decode b_MD_sort 19 = .ok (.if_icmp .le 13, 3) := by decide +kernel
theorem d_MD_sort_22 : decode b_MD_sort 22 = .ok (.iload_n 0, 1) := by decide +kernel
theorem d_MD_sort_23 : decode b_MD_sort 23 = .ok (.bipush 123, 2) := by decide +kernel
theorem d_MD_sort_25 : decode b_MD_sort 25 = .ok (.if_icmp .ge 7, 3) := by decide +kernel
theorem d_MD_sort_28 : decode b_MD_sort 28 = .ok (.iconst 1, 1) := by decide +kernel
theorem d_MD_sort_29 : decode b_MD_sort 29 = .ok (.goto 20, 3) := by decide +kernel
theorem d_MD_sort_32 : decode b_MD_sort 32 = .ok (.iload_n 0, 1) := by decide +kernel
theorem d_MD_sort_33 : decode b_MD_sort 33 = .ok (.bipush 47, 2) := by decide +kernel
theorem d_MD_sort_35 : decode b_MD_sort 35 = .ok (.if_icmp .le 13, 3) := by decide +kernel
theorem d_MD_sort_38 : decode b_MD_sort 38 = .ok (.iload_n 0, 1) := by decide +kernel
theorem d_MD_sort_39 : decode b_MD_sort 39 = .ok (.bipush 58, 2) := by decide +kernel
theorem d_MD_sort_41 : decode b_MD_sort 41 = .ok (.if_icmp .ge 7, 3) := by decide +kernel
theorem d_MD_sort_44 : decode b_MD_sort 44 = .ok (.iconst 2, 1) := by decide +kernel
theorem d_MD_sort_45 : decode b_MD_sort 45 = .ok (.goto 4, 3) := by decide +kernel
theorem d_MD_sort_48 : decode b_MD_sort 48 = .ok (.iconst 3, 1) := by decide +kernel
theorem d_MD_sort_49 : decode b_MD_sort 49 = .ok (.ireturn, 1) := by decide +kernel
def m_MD_sort (F : Nat) (a1 : Int32) : Option (Int32) :=
  (if a1 = (32 : Int32) then (some (0 : Int32)) else (if a1 = (10 : Int32) then (some (0 : Int32)) else (if a1 ≤ (96 : Int32) then (if a1 ≤ (47 : Int32) then (some (3 : Int32)) else (if (58 : Int32) ≤ a1 then (some (3 : Int32)) else (some (2 : Int32)))) else (if (123 : Int32) ≤ a1 then (if a1 ≤ (47 : Int32) then (some (3 : Int32)) else (if (58 : Int32) ≤ a1 then (some (3 : Int32)) else (some (2 : Int32)))) else (some (1 : Int32))))))
abbrev rm_MD_sort : Room := { frames := 0, cells := 0, slots := 0, locals := 0 }
set_option maxHeartbeats 4000000 in
set_option maxRecDepth 100000 in
theorem c_MD_sort {G : (Nat → Prop) → State → Prop} (hG : gok G) (hGn : gN G) (l : Launch) (dC : Nat → ClassId) (dI : Nat → Nat → Nat) (g : Nat → ClassId) (F : Nat) (sz : Nat) (a1 : Int32) {o : Int32} (hm : m_MD_sort F a1 = some o) : Met l y_MD_sort (.code y_MD_sort b_MD_sort 1 (some .int) :: gw) rm_MD_sort (kq (dC, dI) vwCl (tyv g) G [.int a1] sz (([] : va_W))) (kqi (dC, dI) vwCl (tyv g) (([] : va_W)) o (([] : va_W)) sz) 0 0 (va_A (([] : va_W)) sz) := by
  unfold m_MD_sort at hm
  refine km (Qc := fun sz => kqi (dC, dI) vwCl (tyv g) (([] : va_W)) o (([] : va_W)) sz) (cc := b_MD_sort) (maxL := 1) (ret := some .int) (by decide) rfl (Nat.le_of_ble_eq_true rfl) ?_
  intro p e s m args below meth c Q hQ hx hb hr hts hown hlocks hml hnm H locs A hAe hA hP hK hD hS hGA ls hl
  have hl : lv_has ls 1 [(0, .int a1)] := hl
  have hts : ∀ w ∈ gw, w.before args s = true := fun w h => hts w (List.mem_cons_of_mem _ h)
  have hown : s.vm.findClass "AlarmMatrixModel" = some m.cls := hown
  refine lv_iload_n hx hb d_MD_sort_0 rfl (lv_at hl 0 rfl) ?_
  refine lv_bipush (v := (32 : Int32)) hx hb d_MD_sort_1 (by decide) ?_
  refine lv_icmp_eq (tgt := 12) hx hb d_MD_sort_3 (by decide) (fun hc => ?_) (fun hc => ?_)
  · replace hm := if_t hm hc
    refine lv_iconst (v := (0 : Int32)) hx hb d_MD_sort_12 (by decide) ?_
    refine lv_goto (tgt := 49) hx hb d_MD_sort_13 (by decide) ?_
    obtain rfl := Option.some.inj hm
    rw [hQ]
    exact kri hx hb hr hlocks hAe hP hK hD hS d_MD_sort_49
  · replace hm := if_f hm hc
    refine lv_iload_n hx hb d_MD_sort_6 rfl (lv_at hl 0 rfl) ?_
    refine lv_bipush (v := (10 : Int32)) hx hb d_MD_sort_7 (by decide) ?_
    refine lv_icmp_ne (tgt := 16) hx hb d_MD_sort_9 (by decide) (fun hc => ?_) (fun hc => ?_)
    · replace hm := if_f hm hc
      refine lv_iload_n hx hb d_MD_sort_16 rfl (lv_at hl 0 rfl) ?_
      refine lv_bipush (v := (96 : Int32)) hx hb d_MD_sort_17 (by decide) ?_
      refine lv_icmp_le (tgt := 32) hx hb d_MD_sort_19 (by decide) (fun hc => ?_) (fun hc => ?_)
      · replace hm := if_t hm hc
        refine lv_iload_n hx hb d_MD_sort_32 rfl (lv_at hl 0 rfl) ?_
        refine lv_bipush (v := (47 : Int32)) hx hb d_MD_sort_33 (by decide) ?_
        refine lv_icmp_le (tgt := 48) hx hb d_MD_sort_35 (by decide) (fun hc => ?_) (fun hc => ?_)
        · replace hm := if_t hm hc
          refine lv_iconst (v := (3 : Int32)) hx hb d_MD_sort_48 (by decide) ?_
          obtain rfl := Option.some.inj hm
          rw [hQ]
          exact kri hx hb hr hlocks hAe hP hK hD hS d_MD_sort_49
        · replace hm := if_f hm hc
          refine lv_iload_n hx hb d_MD_sort_38 rfl (lv_at hl 0 rfl) ?_
          refine lv_bipush (v := (58 : Int32)) hx hb d_MD_sort_39 (by decide) ?_
          refine lv_icmp_ge (tgt := 48) hx hb d_MD_sort_41 (by decide) (fun hc => ?_) (fun hc => ?_)
          · replace hm := if_t hm hc
            refine lv_iconst (v := (3 : Int32)) hx hb d_MD_sort_48 (by decide) ?_
            obtain rfl := Option.some.inj hm
            rw [hQ]
            exact kri hx hb hr hlocks hAe hP hK hD hS d_MD_sort_49
          · replace hm := if_f hm hc
            refine lv_iconst (v := (2 : Int32)) hx hb d_MD_sort_44 (by decide) ?_
            refine lv_goto (tgt := 49) hx hb d_MD_sort_45 (by decide) ?_
            obtain rfl := Option.some.inj hm
            rw [hQ]
            exact kri hx hb hr hlocks hAe hP hK hD hS d_MD_sort_49
      · replace hm := if_f hm hc
        refine lv_iload_n hx hb d_MD_sort_22 rfl (lv_at hl 0 rfl) ?_
        refine lv_bipush (v := (123 : Int32)) hx hb d_MD_sort_23 (by decide) ?_
        refine lv_icmp_ge (tgt := 32) hx hb d_MD_sort_25 (by decide) (fun hc => ?_) (fun hc => ?_)
        · replace hm := if_t hm hc
          refine lv_iload_n hx hb d_MD_sort_32 rfl (lv_at hl 0 rfl) ?_
          refine lv_bipush (v := (47 : Int32)) hx hb d_MD_sort_33 (by decide) ?_
          refine lv_icmp_le (tgt := 48) hx hb d_MD_sort_35 (by decide) (fun hc => ?_) (fun hc => ?_)
          · replace hm := if_t hm hc
            refine lv_iconst (v := (3 : Int32)) hx hb d_MD_sort_48 (by decide) ?_
            obtain rfl := Option.some.inj hm
            rw [hQ]
            exact kri hx hb hr hlocks hAe hP hK hD hS d_MD_sort_49
          · replace hm := if_f hm hc
            refine lv_iload_n hx hb d_MD_sort_38 rfl (lv_at hl 0 rfl) ?_
            refine lv_bipush (v := (58 : Int32)) hx hb d_MD_sort_39 (by decide) ?_
            refine lv_icmp_ge (tgt := 48) hx hb d_MD_sort_41 (by decide) (fun hc => ?_) (fun hc => ?_)
            · replace hm := if_t hm hc
              refine lv_iconst (v := (3 : Int32)) hx hb d_MD_sort_48 (by decide) ?_
              obtain rfl := Option.some.inj hm
              rw [hQ]
              exact kri hx hb hr hlocks hAe hP hK hD hS d_MD_sort_49
            · replace hm := if_f hm hc
              refine lv_iconst (v := (2 : Int32)) hx hb d_MD_sort_44 (by decide) ?_
              refine lv_goto (tgt := 49) hx hb d_MD_sort_45 (by decide) ?_
              obtain rfl := Option.some.inj hm
              rw [hQ]
              exact kri hx hb hr hlocks hAe hP hK hD hS d_MD_sort_49
        · replace hm := if_f hm hc
          refine lv_iconst (v := (1 : Int32)) hx hb d_MD_sort_28 (by decide) ?_
          refine lv_goto (tgt := 49) hx hb d_MD_sort_29 (by decide) ?_
          obtain rfl := Option.some.inj hm
          rw [hQ]
          exact kri hx hb hr hlocks hAe hP hK hD hS d_MD_sort_49
    · replace hm := if_t hm hc
      refine lv_iconst (v := (0 : Int32)) hx hb d_MD_sort_12 (by decide) ?_
      refine lv_goto (tgt := 49) hx hb d_MD_sort_13 (by decide) ?_
      obtain rfl := Option.some.inj hm
      rw [hQ]
      exact kri hx hb hr hlocks hAe hP hK hD hS d_MD_sort_49
abbrev b_MD_list : ByteArray := prog_12_method_15_code
abbrev y_MD_list : MethodName := ⟨"AlarmMatrixModel", "list", "()V"⟩
theorem d_MD_list_0 : decode b_MD_list 0 = .ok (.aload_n 0, 1) := by decide +kernel
theorem d_MD_list_1 : decode b_MD_list 1 = .ok (.iconst 0, 1) := by decide +kernel
theorem d_MD_list_2 : decode b_MD_list 2 = .ok (.putfield 153, 3) := by decide +kernel
theorem d_MD_list_5 : decode b_MD_list 5 = .ok (.iconst 0, 1) := by decide +kernel
theorem d_MD_list_6 : decode b_MD_list 6 = .ok (.istore_n 1, 1) := by decide +kernel
theorem d_MD_list_7 : decode b_MD_list 7 = .ok (.iconst 0, 1) := by decide +kernel
theorem d_MD_list_8 : decode b_MD_list 8 = .ok (.istore_n 2, 1) := by decide +kernel
theorem d_MD_list_9 : decode b_MD_list 9 = .ok (.iload_n 2, 1) := by decide +kernel
theorem d_MD_list_10 : decode b_MD_list 10 = .ok (.aload_n 0, 1) := by decide +kernel
theorem d_MD_list_11 : decode b_MD_list 11 = .ok (.getfield 111, 3) := by decide +kernel
theorem d_MD_list_14 : decode b_MD_list 14 = .ok (.if_icmp .ge 73, 3) := by decide +kernel
theorem d_MD_list_17 : decode b_MD_list 17 = .ok (.aload_n 0, 1) := by decide +kernel
theorem d_MD_list_18 : decode b_MD_list 18 = .ok (.getfield 35, 3) := by decide +kernel
theorem d_MD_list_21 : decode b_MD_list 21 = .ok (.iload_n 2, 1) := by decide +kernel
theorem d_MD_list_22 : decode b_MD_list 22 = .ok (.iaload, 1) := by decide +kernel
theorem d_MD_list_23 : decode b_MD_list 23 = .ok (.invokestatic 156, 3) := by decide +kernel
theorem d_MD_list_26 : decode b_MD_list 26 = .ok (.istore_n 3, 1) := by decide +kernel
theorem d_MD_list_27 : decode b_MD_list 27 = .ok (.iload_n 3, 1) := by decide +kernel
theorem d_MD_list_28 : decode b_MD_list 28 = .ok (.ifCond .le 33, 3) := by decide +kernel
theorem d_MD_list_31 : decode b_MD_list 31 = .ok (.iload_n 3, 1) := by decide +kernel
theorem d_MD_list_32 : decode b_MD_list 32 = .ok (.iconst 3, 1) := by decide +kernel
theorem d_MD_list_33 : decode b_MD_list 33 = .ok (.if_icmp .eq 8, 3) := by decide +kernel
theorem d_MD_list_36 : decode b_MD_list 36 = .ok (.iload_n 3, 1) := by decide +kernel
theorem d_MD_list_37 : decode b_MD_list 37 = .ok (.iload_n 1, 1) := by decide +kernel
theorem d_MD_list_38 : decode b_MD_list 38 = .ok (.if_icmp .eq 23, 3) := by decide +kernel
theorem d_MD_list_41 : decode b_MD_list 41 = .ok (.aload_n 0, 1) := by decide +kernel
theorem d_MD_list_42 : decode b_MD_list 42 = .ok (.getfield 38, 3) := by decide +kernel
theorem d_MD_list_45 : decode b_MD_list 45 = .ok (.aload_n 0, 1) := by decide +kernel
theorem d_MD_list_46 : decode b_MD_list 46 = .ok (.getfield 153, 3) := by decide +kernel
theorem d_MD_list_49 : decode b_MD_list 49 = .ok (.iload_n 2, 1) := by decide +kernel
theorem d_MD_list_50 : decode b_MD_list 50 = .ok (.iastore, 1) := by decide +kernel
theorem d_MD_list_51 : decode b_MD_list 51 = .ok (.aload_n 0, 1) := by decide +kernel
theorem d_MD_list_52 : decode b_MD_list 52 = .ok (.dup, 1) := by decide +kernel
theorem d_MD_list_53 : decode b_MD_list 53 = .ok (.getfield 153, 3) := by decide +kernel
theorem d_MD_list_56 : decode b_MD_list 56 = .ok (.iconst 1, 1) := by decide +kernel
theorem d_MD_list_57 : decode b_MD_list 57 = .ok (.iadd, 1) := by decide +kernel
theorem d_MD_list_58 : decode b_MD_list 58 = .ok (.putfield 153, 3) := by decide +kernel
theorem d_MD_list_61 : decode b_MD_list 61 = .ok (.iload_n 3, 1) := by decide +kernel
theorem d_MD_list_62 : decode b_MD_list 62 = .ok (.ifCond .le 17, 3) := by decide +kernel
theorem d_MD_list_65 : decode b_MD_list 65 = .ok (.aload_n 0, 1) := by decide +kernel
theorem d_MD_list_66 : decode b_MD_list 66 = .ok (.getfield 41, 3) := by decide +kernel
theorem d_MD_list_69 : decode b_MD_list 69 = .ok (.aload_n 0, 1) := by decide +kernel
theorem d_MD_list_70 : decode b_MD_list 70 = .ok (.getfield 153, 3) := by decide +kernel
theorem d_MD_list_73 : decode b_MD_list 73 = .ok (.iconst 1, 1) := by decide +kernel
theorem d_MD_list_74 : decode b_MD_list 74 = .ok (.isub, 1) := by decide +kernel
theorem d_MD_list_75 : decode b_MD_list 75 = .ok (.iload_n 2, 1) := by decide +kernel
theorem d_MD_list_76 : decode b_MD_list 76 = .ok (.iconst 1, 1) := by decide +kernel
theorem d_MD_list_77 : decode b_MD_list 77 = .ok (.iadd, 1) := by decide +kernel
theorem d_MD_list_78 : decode b_MD_list 78 = .ok (.iastore, 1) := by decide +kernel
theorem d_MD_list_79 : decode b_MD_list 79 = .ok (.iload_n 3, 1) := by decide +kernel
theorem d_MD_list_80 : decode b_MD_list 80 = .ok (.istore_n 1, 1) := by decide +kernel
theorem d_MD_list_81 : decode b_MD_list 81 = .ok (.iinc 2 1, 3) := by decide +kernel
theorem d_MD_list_84 : decode b_MD_list 84 = .ok (.goto (-75), 3) := by decide +kernel
theorem d_MD_list_87 : decode b_MD_list 87 = .ok (.return_, 1) := by decide +kernel
def m_MD_list_J61 {R : Type} (F : Nat)  (k9_87 : Int32 → Int32 → St → Option R) (rec9 : Int32 → Int32 → St → Option R) (j1_61 : Int32) (j2_61 : Int32) (j3_61 : Int32) (t0_61 : St) : Option R :=
  (if j3_61 ≤ (0 : Int32) then (rec9 j3_61 (j2_61 + (1 : Int32)) t0_61) else (ck ((t0_61 13 0) - (1 : Int32)) 2000 (lz (st t0_61 15 (upd (t0_61 15) ((t0_61 13 0) - (1 : Int32)).toNatClampNeg (j2_61 + (1 : Int32)))) (fun e0_78 => (rec9 j3_61 (j2_61 + (1 : Int32)) e0_78)))))
theorem m_MD_list_J61_h {R : Type} {F : Nat}  {k9_87 : Int32 → Int32 → St → Option R} {rec9 : Int32 → Int32 → St → Option R} {j1_61 : Int32} {j2_61 : Int32} {j3_61 : Int32} {t0_61 : St} {o : R} (h : m_MD_list_J61 F k9_87 rec9 j1_61 j2_61 j3_61 t0_61 = some o) :
  (if j3_61 ≤ (0 : Int32) then (rec9 j3_61 (j2_61 + (1 : Int32)) t0_61) else (ck ((t0_61 13 0) - (1 : Int32)) 2000 (lz (st t0_61 15 (upd (t0_61 15) ((t0_61 13 0) - (1 : Int32)).toNatClampNeg (j2_61 + (1 : Int32)))) (fun e0_78 => (rec9 j3_61 (j2_61 + (1 : Int32)) e0_78))))) = some o := h
def m_MD_list_B9 {R : Type} (F : Nat)  (k9_87 : Int32 → Int32 → St → Option R) (rec9 : Int32 → Int32 → St → Option R) (v1_9 : Int32) (v2_9 : Int32) (y0_9 : St) : Option R :=
  (if (y0_9 12 0) ≤ v2_9 then (k9_87 v1_9 v2_9 y0_9) else (ck v2_9 2000 (bn1 (m_MD_sort F ((y0_9 11) v2_9.toNatClampNeg)) (fun r23 => (if r23 ≤ (0 : Int32) then (m_MD_list_J61 F  k9_87 rec9 v1_9 v2_9 r23 y0_9) else (if r23 = (3 : Int32) then (ck (y0_9 13 0) 2000 (lz (st y0_9 14 (upd (y0_9 14) (y0_9 13 0).toNatClampNeg v2_9)) (fun e0_50 => (lz (sc e0_50 13 ((e0_50 13 0) + (1 : Int32))) (fun e0_58 => (m_MD_list_J61 F  k9_87 rec9 v1_9 v2_9 r23 e0_58)))))) else (if r23 = v1_9 then (m_MD_list_J61 F  k9_87 rec9 v1_9 v2_9 r23 y0_9) else (ck (y0_9 13 0) 2000 (lz (st y0_9 14 (upd (y0_9 14) (y0_9 13 0).toNatClampNeg v2_9)) (fun e0_50 => (lz (sc e0_50 13 ((e0_50 13 0) + (1 : Int32))) (fun e0_58 => (m_MD_list_J61 F  k9_87 rec9 v1_9 v2_9 r23 e0_58)))))))))))))
theorem m_MD_list_B9_h {R : Type} {F : Nat}  {k9_87 : Int32 → Int32 → St → Option R} {rec9 : Int32 → Int32 → St → Option R} {v1_9 : Int32} {v2_9 : Int32} {y0_9 : St} {o : R} (h : m_MD_list_B9 F k9_87 rec9 v1_9 v2_9 y0_9 = some o) :
  (if (y0_9 12 0) ≤ v2_9 then (k9_87 v1_9 v2_9 y0_9) else (ck v2_9 2000 (bn1 (m_MD_sort F ((y0_9 11) v2_9.toNatClampNeg)) (fun r23 => (if r23 ≤ (0 : Int32) then (m_MD_list_J61 F  k9_87 rec9 v1_9 v2_9 r23 y0_9) else (if r23 = (3 : Int32) then (ck (y0_9 13 0) 2000 (lz (st y0_9 14 (upd (y0_9 14) (y0_9 13 0).toNatClampNeg v2_9)) (fun e0_50 => (lz (sc e0_50 13 ((e0_50 13 0) + (1 : Int32))) (fun e0_58 => (m_MD_list_J61 F  k9_87 rec9 v1_9 v2_9 r23 e0_58)))))) else (if r23 = v1_9 then (m_MD_list_J61 F  k9_87 rec9 v1_9 v2_9 r23 y0_9) else (ck (y0_9 13 0) 2000 (lz (st y0_9 14 (upd (y0_9 14) (y0_9 13 0).toNatClampNeg v2_9)) (fun e0_50 => (lz (sc e0_50 13 ((e0_50 13 0) + (1 : Int32))) (fun e0_58 => (m_MD_list_J61 F  k9_87 rec9 v1_9 v2_9 r23 e0_58))))))))))))) = some o := h
def m_MD_list (F : Nat) (x0 : St) : Option (St) :=
  (lz (sc x0 13 (0 : Int32)) (fun e0_2 => (lq3 (m_MD_list_B9 F  (fun v1_9 v2_9 y0_9 => (some y0_9))) F (0 : Int32) (0 : Int32) e0_2)))
abbrev rm_MD_list : Room := { frames := 1, cells := 0, slots := 0, locals := 20 }
set_option maxHeartbeats 4000000 in
set_option maxRecDepth 100000 in
theorem c_MD_list {G : (Nat → Prop) → State → Prop} (hG : gok G) (hGn : gN G) (l : Launch) (dC : Nat → ClassId) (dI : Nat → Nat → Nat) (g : Nat → ClassId) (F : Nat) (sz : Nat) (h0 : Nat) (q0 : Nat → Nat) (x0 : St) {o : St} (hm : m_MD_list F x0 = some o) : Met l y_MD_list (.code y_MD_list b_MD_list 4 none :: gw) rm_MD_list (kq (dC, dI) vwCl (tyv g) G [.ref h0] sz (wd_MD g h0 q0 x0)) (kqv (dC, dI) vwCl (tyv g) (wd_MD g h0 q0 x0) (wd_MD g h0 q0 o) sz) 0 0 (va_A (wd_MD g h0 q0 x0) sz) := by
  unfold m_MD_list at hm
  refine km (Qc := fun sz => kqv (dC, dI) vwCl (tyv g) (wd_MD g h0 q0 x0) (wd_MD g h0 q0 o) sz) (cc := b_MD_list) (maxL := 4) (ret := none) (by decide) rfl (Nat.le_of_ble_eq_true rfl) ?_
  intro p e s m args below meth c Q hQ hx hb hr hts hown hlocks hml hnm H locs A hAe hA hP hK hD hS hGA ls hl
  have hl : lv_has ls 4 [(0, .ref h0)] := hl
  have hts : ∀ w ∈ gw, w.before args s = true := fun w h => hts w (List.mem_cons_of_mem _ h)
  have hown : s.vm.findClass "AlarmMatrixModel" = some m.cls := hown
  refine lv_aload_n hx hb d_MD_list_0 rfl (lv_at hl 0 rfl) ?_
  refine lv_iconst (v := (0 : Int32)) hx hb d_MD_list_1 (by decide) ?_
  obtain ⟨e0_2, he, hm⟩ := lz_s hm
  refine va_put (D := (dC, dI)) (ci := 10) (v := .int (0 : Int32)) (ty := .int) (C := "AlarmMatrixModel") (T := T_MD) (N := 42) hx hb hts i_MD t_MD o_MD n_MD hown hK hP hD hS 0 rfl rfl 13 (by decide) (hts _ k5_33) (fun _ h9 => h9) rfl (by decide +kernel) rfl rfl (Nat.le_of_ble_eq_true rfl) d_MD_list_2 (fun H locs hP hD hS => ?_)
  have hP : va_P (dC, dI) vwCl (wd_MD g h0 q0 e0_2) H := by rw [he]; exact hP
  have hD : va_D A (wd_MD g h0 q0 e0_2) := by rw [he]; exact hD
  refine lv_iconst (v := (0 : Int32)) hx hb d_MD_list_5 (by decide) ?_
  refine lv_istore_n (lv' := [(1, .int (0 : Int32)), (0, .ref h0)]) hx hb d_MD_list_6 rfl hl (by decide) rfl (fun ls hl => ?_)
  refine lv_iconst (v := (0 : Int32)) hx hb d_MD_list_7 (by decide) ?_
  refine lv_istore_n (lv' := [(2, .int (0 : Int32)), (1, .int (0 : Int32)), (0, .ref h0)]) hx hb d_MD_list_8 rfl hl (by decide) rfl (fun ls hl => ?_)
  have L9 : ∀ (n9 : Nat) (v1_9 : Int32) (v2_9 : Int32) (y0_9 : St) (H : Heap) (locs : List Loc) (ls : Array Slot), lq3 (m_MD_list_B9 F  (fun v1_9 v2_9 y0_9 => (some y0_9))) n9 v1_9 v2_9 y0_9 = some o → va_P (dC, dI) vwCl (wd_MD g h0 q0 y0_9) H → va_D A (wd_MD g h0 q0 y0_9) → va_S A s.heap H locs → lv_has ls 4 [(0, .ref h0), (1, .int v1_9), (2, .int v2_9)] → W p l e rm_MD_list s m args below meth c H locs 0 0 Q (F0 m 9 ls []) := by
    intro n9
    induction n9 with
    | zero => intro v1_9 v2_9 y0_9 H locs ls hm; exact absurd hm (by intro z; cases z)
    | succ n9 ih9 =>
      intro v1_9 v2_9 y0_9 H locs ls hm hP hD hS hl
      replace hm := m_MD_list_B9_h (lq3_h hm)
      have J61 : ∀ (j1_61 : Int32) (j2_61 : Int32) (j3_61 : Int32) (t0_61 : St) (H : Heap) (locs : List Loc) (ls : Array Slot), m_MD_list_J61 F  (fun v1_9 v2_9 y0_9 => (some y0_9)) (lq3 (m_MD_list_B9 F  (fun v1_9 v2_9 y0_9 => (some y0_9))) n9) j1_61 j2_61 j3_61 t0_61 = some o → va_P (dC, dI) vwCl (wd_MD g h0 q0 t0_61) H → va_D A (wd_MD g h0 q0 t0_61) → va_S A s.heap H locs → lv_has ls 4 [(0, .ref h0), (1, .int j1_61), (2, .int j2_61), (3, .int j3_61)] → W p l e rm_MD_list s m args below meth c H locs 0 0 Q (F0 m 61 ls []) := by
        intro j1_61 j2_61 j3_61 t0_61 H locs ls hm hP hD hS hl
        replace hm := m_MD_list_J61_h hm
        refine lv_iload_n hx hb d_MD_list_61 rfl (lv_at hl 3 rfl) ?_
        refine lv_if_le (tgt := 79) hx hb d_MD_list_62 (by decide) (fun hc => ?_) (fun hc => ?_)
        · replace hm := if_t hm hc
          refine lv_iload_n hx hb d_MD_list_79 rfl (lv_at hl 3 rfl) ?_
          refine lv_istore_n (lv' := [(1, .int j3_61), (0, .ref h0), (2, .int j2_61), (3, .int j3_61)]) hx hb d_MD_list_80 rfl hl (by decide) rfl (fun ls hl => ?_)
          refine lv_iinc (v := (j2_61 + (1 : Int32))) (lv' := [(2, .int (j2_61 + (1 : Int32))), (1, .int j3_61), (0, .ref h0), (3, .int j3_61)]) hx hb d_MD_list_81 hl (k := 2) rfl rfl (by decide) rfl (fun ls hl => ?_)
          refine lv_goto (tgt := 9) hx hb d_MD_list_84 (by decide) ?_
          exact ih9 j3_61 (j2_61 + (1 : Int32)) t0_61 H locs ls hm hP hD hS (lv_sub hl [2, 1, 0] rfl)
        · replace hm := if_f hm hc
          refine lv_aload_n hx hb d_MD_list_65 rfl (lv_at hl 0 rfl) ?_
          refine va_get (D := (dC, dI)) (ci := 10) (v := .ref (q0 15)) (C := "AlarmMatrixModel") (T := T_MD) (N := 42) hx hb hts i_MD hown hK hP 0 rfl rfl 15 (by decide) (hts _ k5_35) (fun _ h9 => h9) rfl d_MD_list_66 ?_
          refine lv_aload_n hx hb d_MD_list_69 rfl (lv_at hl 0 rfl) ?_
          refine va_get (D := (dC, dI)) (ci := 10) (v := .int (t0_61 13 0)) (C := "AlarmMatrixModel") (T := T_MD) (N := 42) hx hb hts i_MD hown hK hP 0 rfl rfl 13 (by decide) (hts _ k5_33) (fun _ h9 => h9) rfl d_MD_list_70 ?_
          refine lv_iconst (v := (1 : Int32)) hx hb d_MD_list_73 (by decide) ?_
          refine lv_isub hx hb d_MD_list_74 ?_
          refine lv_iload_n hx hb d_MD_list_75 rfl (lv_at hl 2 rfl) ?_
          refine lv_iconst (v := (1 : Int32)) hx hb d_MD_list_76 (by decide) ?_
          refine lv_iadd hx hb d_MD_list_77 ?_
          obtain ⟨h_78, hm⟩ := ck_s hm
          obtain ⟨e0_78, he, hm⟩ := lz_s hm
          refine va_iast (f := (t0_61 15)) hx hb hK hP hD hS 11 0 rfl rfl h_78 d_MD_list_78 (fun H locs hP hD hS => ?_)
          have hP : va_P (dC, dI) vwCl (wd_MD g h0 q0 e0_78) H := by rw [he]; exact hP
          have hD : va_D A (wd_MD g h0 q0 e0_78) := by rw [he]; exact hD
          refine lv_iload_n hx hb d_MD_list_79 rfl (lv_at hl 3 rfl) ?_
          refine lv_istore_n (lv' := [(1, .int j3_61), (0, .ref h0), (2, .int j2_61), (3, .int j3_61)]) hx hb d_MD_list_80 rfl hl (by decide) rfl (fun ls hl => ?_)
          refine lv_iinc (v := (j2_61 + (1 : Int32))) (lv' := [(2, .int (j2_61 + (1 : Int32))), (1, .int j3_61), (0, .ref h0), (3, .int j3_61)]) hx hb d_MD_list_81 hl (k := 2) rfl rfl (by decide) rfl (fun ls hl => ?_)
          refine lv_goto (tgt := 9) hx hb d_MD_list_84 (by decide) ?_
          exact ih9 j3_61 (j2_61 + (1 : Int32)) e0_78 H locs ls hm hP hD hS (lv_sub hl [2, 1, 0] rfl)
      refine lv_iload_n hx hb d_MD_list_9 rfl (lv_at hl 2 rfl) ?_
      refine lv_aload_n hx hb d_MD_list_10 rfl (lv_at hl 0 rfl) ?_
      refine va_get (D := (dC, dI)) (ci := 10) (v := .int (y0_9 12 0)) (C := "AlarmMatrixModel") (T := T_MD) (N := 42) hx hb hts i_MD hown hK hP 0 rfl rfl 12 (by decide) (hts _ k5_32) (fun _ h9 => h9) rfl d_MD_list_11 ?_
      refine lv_icmp_ge (tgt := 87) hx hb d_MD_list_14 (by decide) (fun hc => ?_) (fun hc => ?_)
      · replace hm := if_t hm hc
        obtain rfl := Option.some.inj hm
        rw [hQ]
        exact krv hx hb hr hlocks hAe hP hK hD hS d_MD_list_87
      · replace hm := if_f hm hc
        refine lv_aload_n hx hb d_MD_list_17 rfl (lv_at hl 0 rfl) ?_
        refine va_get (D := (dC, dI)) (ci := 10) (v := .ref (q0 11)) (C := "AlarmMatrixModel") (T := T_MD) (N := 42) hx hb hts i_MD hown hK hP 0 rfl rfl 11 (by decide) (hts _ k5_31) (fun _ h9 => h9) rfl d_MD_list_18 ?_
        refine lv_iload_n hx hb d_MD_list_21 rfl (lv_at hl 2 rfl) ?_
        obtain ⟨h_22, hm⟩ := ck_s hm
        refine va_iald (f := (y0_9 11)) hx hb hK hP 9 0 rfl rfl h_22 d_MD_list_22 ?_
        obtain ⟨r23, hcl, hm⟩ := bn1_s hm
        refine kci (wc := ([] : va_W)) (wr := wd_MD g h0 q0 y0_9) (w1 := ([] : va_W)) hP hD hS hA [] [0, 1, 2, 3, 4, 5, 6, 7, 8, 9, 10, 11, 12, 13, 14, 15, 16, 17, 18, 19, 20, 21, 22, 23, 24, 25, 26, 27, 28, 29, 30, 31] rfl rfl (by decide) (by decide) (va_runS (As := [.int ((y0_9 11) v2_9.toNatClampNeg)]) (rest := []) ⟨hx, hb, hml, hown, hts⟩ (c_MD_sort hG hGn l dC dI g F H.size ((y0_9 11) v2_9.toNatClampNeg) hcl) (cwS 1 hts (gdS k5_210 k5_211 k1_10 k5_212) rfl rfl rfl (by decide +kernel) ⟨Nat.le_of_ble_eq_true rfl, Nat.le_of_ble_eq_true rfl⟩) (kpS hG hP hK hD hS hA hGA [] (by decide) rfl) rfl rfl hl.1 rfl (lv_room (Nat.le_of_ble_eq_true rfl)) d_MD_list_23 ⟨Nat.le_of_ble_eq_true rfl, Nat.le_of_ble_eq_true rfl⟩) (fun H locs hP hD hS => ?_)
        have hP : va_P (dC, dI) vwCl (wd_MD g h0 q0 y0_9) H := hP
        have hD : va_D A (wd_MD g h0 q0 y0_9) := hD
        refine lv_istore_n (lv' := [(3, .int r23), (0, .ref h0), (1, .int v1_9), (2, .int v2_9)]) hx hb d_MD_list_26 rfl hl (by decide) rfl (fun ls hl => ?_)
        refine lv_iload_n hx hb d_MD_list_27 rfl (lv_at hl 0 rfl) ?_
        refine lv_if_le (tgt := 61) hx hb d_MD_list_28 (by decide) (fun hc => ?_) (fun hc => ?_)
        · replace hm := if_t hm hc
          exact J61 v1_9 v2_9 r23 y0_9 H locs ls hm hP hD hS (lv_sub hl [1, 2, 3, 0] rfl)
        · replace hm := if_f hm hc
          refine lv_iload_n hx hb d_MD_list_31 rfl (lv_at hl 0 rfl) ?_
          refine lv_iconst (v := (3 : Int32)) hx hb d_MD_list_32 (by decide) ?_
          refine lv_icmp_eq (tgt := 41) hx hb d_MD_list_33 (by decide) (fun hc => ?_) (fun hc => ?_)
          · replace hm := if_t hm hc
            refine lv_aload_n hx hb d_MD_list_41 rfl (lv_at hl 1 rfl) ?_
            refine va_get (D := (dC, dI)) (ci := 10) (v := .ref (q0 14)) (C := "AlarmMatrixModel") (T := T_MD) (N := 42) hx hb hts i_MD hown hK hP 0 rfl rfl 14 (by decide) (hts _ k5_34) (fun _ h9 => h9) rfl d_MD_list_42 ?_
            refine lv_aload_n hx hb d_MD_list_45 rfl (lv_at hl 1 rfl) ?_
            refine va_get (D := (dC, dI)) (ci := 10) (v := .int (y0_9 13 0)) (C := "AlarmMatrixModel") (T := T_MD) (N := 42) hx hb hts i_MD hown hK hP 0 rfl rfl 13 (by decide) (hts _ k5_33) (fun _ h9 => h9) rfl d_MD_list_46 ?_
            refine lv_iload_n hx hb d_MD_list_49 rfl (lv_at hl 3 rfl) ?_
            obtain ⟨h_50, hm⟩ := ck_s hm
            obtain ⟨e0_50, he, hm⟩ := lz_s hm
            refine va_iast (f := (y0_9 14)) hx hb hK hP hD hS 10 0 rfl rfl h_50 d_MD_list_50 (fun H locs hP hD hS => ?_)
            have hP : va_P (dC, dI) vwCl (wd_MD g h0 q0 e0_50) H := by rw [he]; exact hP
            have hD : va_D A (wd_MD g h0 q0 e0_50) := by rw [he]; exact hD
            refine lv_aload_n hx hb d_MD_list_51 rfl (lv_at hl 1 rfl) ?_
            refine lv_dup hx hb d_MD_list_52 rfl ?_
            refine va_get (D := (dC, dI)) (ci := 10) (v := .int (e0_50 13 0)) (C := "AlarmMatrixModel") (T := T_MD) (N := 42) hx hb hts i_MD hown hK hP 0 rfl rfl 13 (by decide) (hts _ k5_33) (fun _ h9 => h9) rfl d_MD_list_53 ?_
            refine lv_iconst (v := (1 : Int32)) hx hb d_MD_list_56 (by decide) ?_
            refine lv_iadd hx hb d_MD_list_57 ?_
            obtain ⟨e0_58, he, hm⟩ := lz_s hm
            refine va_put (D := (dC, dI)) (ci := 10) (v := .int ((e0_50 13 0) + (1 : Int32))) (ty := .int) (C := "AlarmMatrixModel") (T := T_MD) (N := 42) hx hb hts i_MD t_MD o_MD n_MD hown hK hP hD hS 0 rfl rfl 13 (by decide) (hts _ k5_33) (fun _ h9 => h9) rfl (by decide +kernel) rfl rfl (Nat.le_of_ble_eq_true rfl) d_MD_list_58 (fun H locs hP hD hS => ?_)
            have hP : va_P (dC, dI) vwCl (wd_MD g h0 q0 e0_58) H := by rw [he]; exact hP
            have hD : va_D A (wd_MD g h0 q0 e0_58) := by rw [he]; exact hD
            exact J61 v1_9 v2_9 r23 e0_58 H locs ls hm hP hD hS (lv_sub hl [1, 2, 3, 0] rfl)
          · replace hm := if_f hm hc
            refine lv_iload_n hx hb d_MD_list_36 rfl (lv_at hl 0 rfl) ?_
            refine lv_iload_n hx hb d_MD_list_37 rfl (lv_at hl 2 rfl) ?_
            refine lv_icmp_eq (tgt := 61) hx hb d_MD_list_38 (by decide) (fun hc => ?_) (fun hc => ?_)
            · replace hm := if_t hm hc
              exact J61 v1_9 v2_9 r23 y0_9 H locs ls hm hP hD hS (lv_sub hl [1, 2, 3, 0] rfl)
            · replace hm := if_f hm hc
              refine lv_aload_n hx hb d_MD_list_41 rfl (lv_at hl 1 rfl) ?_
              refine va_get (D := (dC, dI)) (ci := 10) (v := .ref (q0 14)) (C := "AlarmMatrixModel") (T := T_MD) (N := 42) hx hb hts i_MD hown hK hP 0 rfl rfl 14 (by decide) (hts _ k5_34) (fun _ h9 => h9) rfl d_MD_list_42 ?_
              refine lv_aload_n hx hb d_MD_list_45 rfl (lv_at hl 1 rfl) ?_
              refine va_get (D := (dC, dI)) (ci := 10) (v := .int (y0_9 13 0)) (C := "AlarmMatrixModel") (T := T_MD) (N := 42) hx hb hts i_MD hown hK hP 0 rfl rfl 13 (by decide) (hts _ k5_33) (fun _ h9 => h9) rfl d_MD_list_46 ?_
              refine lv_iload_n hx hb d_MD_list_49 rfl (lv_at hl 3 rfl) ?_
              obtain ⟨h_50, hm⟩ := ck_s hm
              obtain ⟨e0_50, he, hm⟩ := lz_s hm
              refine va_iast (f := (y0_9 14)) hx hb hK hP hD hS 10 0 rfl rfl h_50 d_MD_list_50 (fun H locs hP hD hS => ?_)
              have hP : va_P (dC, dI) vwCl (wd_MD g h0 q0 e0_50) H := by rw [he]; exact hP
              have hD : va_D A (wd_MD g h0 q0 e0_50) := by rw [he]; exact hD
              refine lv_aload_n hx hb d_MD_list_51 rfl (lv_at hl 1 rfl) ?_
              refine lv_dup hx hb d_MD_list_52 rfl ?_
              refine va_get (D := (dC, dI)) (ci := 10) (v := .int (e0_50 13 0)) (C := "AlarmMatrixModel") (T := T_MD) (N := 42) hx hb hts i_MD hown hK hP 0 rfl rfl 13 (by decide) (hts _ k5_33) (fun _ h9 => h9) rfl d_MD_list_53 ?_
              refine lv_iconst (v := (1 : Int32)) hx hb d_MD_list_56 (by decide) ?_
              refine lv_iadd hx hb d_MD_list_57 ?_
              obtain ⟨e0_58, he, hm⟩ := lz_s hm
              refine va_put (D := (dC, dI)) (ci := 10) (v := .int ((e0_50 13 0) + (1 : Int32))) (ty := .int) (C := "AlarmMatrixModel") (T := T_MD) (N := 42) hx hb hts i_MD t_MD o_MD n_MD hown hK hP hD hS 0 rfl rfl 13 (by decide) (hts _ k5_33) (fun _ h9 => h9) rfl (by decide +kernel) rfl rfl (Nat.le_of_ble_eq_true rfl) d_MD_list_58 (fun H locs hP hD hS => ?_)
              have hP : va_P (dC, dI) vwCl (wd_MD g h0 q0 e0_58) H := by rw [he]; exact hP
              have hD : va_D A (wd_MD g h0 q0 e0_58) := by rw [he]; exact hD
              exact J61 v1_9 v2_9 r23 e0_58 H locs ls hm hP hD hS (lv_sub hl [1, 2, 3, 0] rfl)
  exact L9 F (0 : Int32) (0 : Int32) e0_2 H locs ls hm hP hD hS (lv_sub hl [2, 1, 0] rfl)
abbrev b_MD_letters : ByteArray := prog_12_method_16_code
abbrev y_MD_letters : MethodName := ⟨"AlarmMatrixModel", "letters", "()I"⟩
theorem d_MD_letters_0 : decode b_MD_letters 0 = .ok (.aload_n 0, 1) := by decide +kernel
theorem d_MD_letters_1 : decode b_MD_letters 1 = .ok (.getfield 160, 3) := by decide +kernel
theorem d_MD_letters_4 : decode b_MD_letters 4 = .ok (.aload_n 0, 1) := by decide +kernel
theorem d_MD_letters_5 : decode b_MD_letters 5 = .ok (.getfield 153, 3) := by decide +kernel
theorem d_MD_letters_8 : decode b_MD_letters 8 = .ok (.if_icmp .ge 47, 3) := by decide +kernel
theorem d_MD_letters_11 : decode b_MD_letters 11 = .ok (.aload_n 0, 1) := by decide +kernel
theorem d_MD_letters_12 : decode b_MD_letters 12 = .ok (.getfield 35, 3) := by decide +kernel
theorem d_MD_letters_15 : decode b_MD_letters 15 = .ok (.aload_n 0, 1) := by decide +kernel
theorem d_MD_letters_16 : decode b_MD_letters 16 = .ok (.getfield 38, 3) := by decide +kernel
theorem d_MD_letters_19 : decode b_MD_letters 19 = .ok (.aload_n 0, 1) := by decide +kernel
theorem d_MD_letters_20 : decode b_MD_letters 20 = .ok (.getfield 160, 3) := by decide +kernel
theorem d_MD_letters_23 : decode b_MD_letters 23 = .ok (.iaload, 1) := by decide +kernel
theorem d_MD_letters_24 : decode b_MD_letters 24 = .ok (.iaload, 1) := by decide +kernel
theorem d_MD_letters_25 : decode b_MD_letters 25 = .ok (.invokestatic 156, 3) := by decide +kernel
theorem d_MD_letters_28 : decode b_MD_letters 28 = .ok (.iconst 1, 1) := by decide +kernel
theorem d_MD_letters_29 : decode b_MD_letters 29 = .ok (.if_icmp .ne 26, 3) := by decide +kernel
theorem d_MD_letters_32 : decode b_MD_letters 32 = .ok (.aload_n 0, 1) := by decide +kernel
theorem d_MD_letters_33 : decode b_MD_letters 33 = .ok (.getfield 41, 3) := by decide +kernel
theorem d_MD_letters_36 : decode b_MD_letters 36 = .ok (.aload_n 0, 1) := by decide +kernel
theorem d_MD_letters_37 : decode b_MD_letters 37 = .ok (.getfield 160, 3) := by decide +kernel
theorem d_MD_letters_40 : decode b_MD_letters 40 = .ok (.iaload, 1) := by decide +kernel
theorem d_MD_letters_41 : decode b_MD_letters 41 = .ok (.aload_n 0, 1) := by decide +kernel
theorem d_MD_letters_42 : decode b_MD_letters 42 = .ok (.getfield 38, 3) := by decide +kernel
theorem d_MD_letters_45 : decode b_MD_letters 45 = .ok (.aload_n 0, 1) := by decide +kernel
theorem d_MD_letters_46 : decode b_MD_letters 46 = .ok (.getfield 160, 3) := by decide +kernel
theorem d_MD_letters_49 : decode b_MD_letters 49 = .ok (.iaload, 1) := by decide +kernel
theorem d_MD_letters_50 : decode b_MD_letters 50 = .ok (.isub, 1) := by decide +kernel
theorem d_MD_letters_51 : decode b_MD_letters 51 = .ok (.iconst 5, 1) := by decide +kernel
theorem d_MD_letters_52 : decode b_MD_letters 52 = .ok (.if_icmp .le 5, 3) := by decide +kernel
theorem d_MD_letters_55 : decode b_MD_letters 55 = .ok (.iconst (-1), 1) := by decide +kernel
theorem d_MD_letters_56 : decode b_MD_letters 56 = .ok (.ireturn, 1) := by decide +kernel
theorem d_MD_letters_57 : decode b_MD_letters 57 = .ok (.iconst 0, 1) := by decide +kernel
theorem d_MD_letters_58 : decode b_MD_letters 58 = .ok (.istore_n 1, 1) := by decide +kernel
theorem d_MD_letters_59 : decode b_MD_letters 59 = .ok (.aload_n 0, 1) := by decide +kernel
theorem d_MD_letters_60 : decode b_MD_letters 60 = .ok (.getfield 41, 3) := by decide +kernel
theorem d_MD_letters_63 : decode b_MD_letters 63 = .ok (.aload_n 0, 1) := by decide +kernel
theorem d_MD_letters_64 : decode b_MD_letters 64 = .ok (.getfield 160, 3) := by decide +kernel
theorem d_MD_letters_67 : decode b_MD_letters 67 = .ok (.iaload, 1) := by decide +kernel
theorem d_MD_letters_68 : decode b_MD_letters 68 = .ok (.iconst 1, 1) := by decide +kernel
theorem d_MD_letters_69 : decode b_MD_letters 69 = .ok (.isub, 1) := by decide +kernel
theorem d_MD_letters_70 : decode b_MD_letters 70 = .ok (.istore_n 2, 1) := by decide +kernel
theorem d_MD_letters_71 : decode b_MD_letters 71 = .ok (.iload_n 2, 1) := by decide +kernel
theorem d_MD_letters_72 : decode b_MD_letters 72 = .ok (.aload_n 0, 1) := by decide +kernel
theorem d_MD_letters_73 : decode b_MD_letters 73 = .ok (.getfield 38, 3) := by decide +kernel
theorem d_MD_letters_76 : decode b_MD_letters 76 = .ok (.aload_n 0, 1) := by decide +kernel
theorem d_MD_letters_77 : decode b_MD_letters 77 = .ok (.getfield 160, 3) := by decide +kernel
theorem d_MD_letters_80 : decode b_MD_letters 80 = .ok (.iaload, 1) := by decide +kernel
theorem d_MD_letters_81 : decode b_MD_letters 81 = .ok (.if_icmp .lt 24, 3) := by decide +kernel
theorem d_MD_letters_84 : decode b_MD_letters 84 = .ok (.bipush 32, 2) := by decide +kernel
theorem d_MD_letters_86 : decode b_MD_letters 86 = .ok (.iload_n 1, 1) := by decide +kernel
theorem d_MD_letters_87 : decode b_MD_letters 87 = .ok (.imul, 1) := by decide +kernel
theorem d_MD_letters_88 : decode b_MD_letters 88 = .ok (.aload_n 0, 1) := by decide +kernel
theorem d_MD_letters_89 : decode b_MD_letters 89 = .ok (.getfield 35, 3) := by decide +kernel
theorem d_MD_letters_92 : decode b_MD_letters 92 = .ok (.iload_n 2, 1) := by decide +kernel
theorem d_MD_letters_93 : decode b_MD_letters 93 = .ok (.iaload, 1) := by decide +kernel
theorem d_MD_letters_94 : decode b_MD_letters 94 = .ok (.iadd, 1) := by decide +kernel
theorem d_MD_letters_95 : decode b_MD_letters 95 = .ok (.bipush 96, 2) := by decide +kernel
theorem d_MD_letters_97 : decode b_MD_letters 97 = .ok (.isub, 1) := by decide +kernel
theorem d_MD_letters_98 : decode b_MD_letters 98 = .ok (.istore_n 1, 1) := by decide +kernel
theorem d_MD_letters_99 : decode b_MD_letters 99 = .ok (.iinc 2 (-1), 3) := by decide +kernel
theorem d_MD_letters_102 : decode b_MD_letters 102 = .ok (.goto (-31), 3) := by decide +kernel
theorem d_MD_letters_105 : decode b_MD_letters 105 = .ok (.iload_n 1, 1) := by decide +kernel
theorem d_MD_letters_106 : decode b_MD_letters 106 = .ok (.ireturn, 1) := by decide +kernel
def m_MD_letters_B71 {R : Type} (F : Nat) (x0 : St) (k71_105 : Int32 → Int32 → Option R) (rec71 : Int32 → Int32 → Option R) (v1_71 : Int32) (v2_71 : Int32) : Option R :=
  (ck (x0 16 0) 2000 (if v2_71 < ((x0 14) (x0 16 0).toNatClampNeg) then (k71_105 v1_71 v2_71) else (ck v2_71 2000 (rec71 ((((32 : Int32) * v1_71) + ((x0 11) v2_71.toNatClampNeg)) - (96 : Int32)) (v2_71 + (-1 : Int32))))))
theorem m_MD_letters_B71_h {R : Type} {F : Nat} {x0 : St} {k71_105 : Int32 → Int32 → Option R} {rec71 : Int32 → Int32 → Option R} {v1_71 : Int32} {v2_71 : Int32} {o : R} (h : m_MD_letters_B71 F x0 k71_105 rec71 v1_71 v2_71 = some o) :
  (ck (x0 16 0) 2000 (if v2_71 < ((x0 14) (x0 16 0).toNatClampNeg) then (k71_105 v1_71 v2_71) else (ck v2_71 2000 (rec71 ((((32 : Int32) * v1_71) + ((x0 11) v2_71.toNatClampNeg)) - (96 : Int32)) (v2_71 + (-1 : Int32)))))) = some o := h
def m_MD_letters (F : Nat) (x0 : St) : Option (Int32) :=
  (if (x0 13 0) ≤ (x0 16 0) then (some (-1 : Int32)) else (ck (x0 16 0) 2000 (ck ((x0 14) (x0 16 0).toNatClampNeg) 2000 (bn1 (m_MD_sort F ((x0 11) ((x0 14) (x0 16 0).toNatClampNeg).toNatClampNeg)) (fun r25 => (if r25 = (1 : Int32) then (ck (x0 16 0) 2000 (ck (x0 16 0) 2000 (if (((x0 15) (x0 16 0).toNatClampNeg) - ((x0 14) (x0 16 0).toNatClampNeg)) ≤ (5 : Int32) then (ck (x0 16 0) 2000 (lq2 (m_MD_letters_B71 F x0 (fun v1_71 v2_71 => (some v1_71))) F (0 : Int32) (((x0 15) (x0 16 0).toNatClampNeg) - (1 : Int32)))) else (some (-1 : Int32))))) else (some (-1 : Int32))))))))
abbrev rm_MD_letters : Room := { frames := 1, cells := 0, slots := 0, locals := 20 }
set_option maxHeartbeats 4000000 in
set_option maxRecDepth 100000 in
theorem c_MD_letters {G : (Nat → Prop) → State → Prop} (hG : gok G) (hGn : gN G) (l : Launch) (dC : Nat → ClassId) (dI : Nat → Nat → Nat) (g : Nat → ClassId) (F : Nat) (sz : Nat) (h0 : Nat) (q0 : Nat → Nat) (x0 : St) {o : Int32} (hm : m_MD_letters F x0 = some o) : Met l y_MD_letters (.code y_MD_letters b_MD_letters 3 (some .int) :: gw) rm_MD_letters (kq (dC, dI) vwCl (tyv g) G [.ref h0] sz (wd_MD g h0 q0 x0)) (kqi (dC, dI) vwCl (tyv g) (wd_MD g h0 q0 x0) o (wd_MD g h0 q0 x0) sz) 0 0 (va_A (wd_MD g h0 q0 x0) sz) := by
  unfold m_MD_letters at hm
  refine km (Qc := fun sz => kqi (dC, dI) vwCl (tyv g) (wd_MD g h0 q0 x0) o (wd_MD g h0 q0 x0) sz) (cc := b_MD_letters) (maxL := 3) (ret := some .int) (by decide) rfl (Nat.le_of_ble_eq_true rfl) ?_
  intro p e s m args below meth c Q hQ hx hb hr hts hown hlocks hml hnm H locs A hAe hA hP hK hD hS hGA ls hl
  have hl : lv_has ls 3 [(0, .ref h0)] := hl
  have hts : ∀ w ∈ gw, w.before args s = true := fun w h => hts w (List.mem_cons_of_mem _ h)
  have hown : s.vm.findClass "AlarmMatrixModel" = some m.cls := hown
  refine lv_aload_n hx hb d_MD_letters_0 rfl (lv_at hl 0 rfl) ?_
  refine va_get (D := (dC, dI)) (ci := 10) (v := .int (x0 16 0)) (C := "AlarmMatrixModel") (T := T_MD) (N := 42) hx hb hts i_MD hown hK hP 0 rfl rfl 16 (by decide) (hts _ k5_36) (fun _ h9 => h9) rfl d_MD_letters_1 ?_
  refine lv_aload_n hx hb d_MD_letters_4 rfl (lv_at hl 0 rfl) ?_
  refine va_get (D := (dC, dI)) (ci := 10) (v := .int (x0 13 0)) (C := "AlarmMatrixModel") (T := T_MD) (N := 42) hx hb hts i_MD hown hK hP 0 rfl rfl 13 (by decide) (hts _ k5_33) (fun _ h9 => h9) rfl d_MD_letters_5 ?_
  refine lv_icmp_ge (tgt := 55) hx hb d_MD_letters_8 (by decide) (fun hc => ?_) (fun hc => ?_)
  · replace hm := if_t hm hc
    refine lv_iconst (v := (-1 : Int32)) hx hb d_MD_letters_55 (by decide) ?_
    obtain rfl := Option.some.inj hm
    rw [hQ]
    exact kri hx hb hr hlocks hAe hP hK hD hS d_MD_letters_56
  · replace hm := if_f hm hc
    refine lv_aload_n hx hb d_MD_letters_11 rfl (lv_at hl 0 rfl) ?_
    refine va_get (D := (dC, dI)) (ci := 10) (v := .ref (q0 11)) (C := "AlarmMatrixModel") (T := T_MD) (N := 42) hx hb hts i_MD hown hK hP 0 rfl rfl 11 (by decide) (hts _ k5_31) (fun _ h9 => h9) rfl d_MD_letters_12 ?_
    refine lv_aload_n hx hb d_MD_letters_15 rfl (lv_at hl 0 rfl) ?_
    refine va_get (D := (dC, dI)) (ci := 10) (v := .ref (q0 14)) (C := "AlarmMatrixModel") (T := T_MD) (N := 42) hx hb hts i_MD hown hK hP 0 rfl rfl 14 (by decide) (hts _ k5_34) (fun _ h9 => h9) rfl d_MD_letters_16 ?_
    refine lv_aload_n hx hb d_MD_letters_19 rfl (lv_at hl 0 rfl) ?_
    refine va_get (D := (dC, dI)) (ci := 10) (v := .int (x0 16 0)) (C := "AlarmMatrixModel") (T := T_MD) (N := 42) hx hb hts i_MD hown hK hP 0 rfl rfl 16 (by decide) (hts _ k5_36) (fun _ h9 => h9) rfl d_MD_letters_20 ?_
    obtain ⟨h_23, hm⟩ := ck_s hm
    refine va_iald (f := (x0 14)) hx hb hK hP 10 0 rfl rfl h_23 d_MD_letters_23 ?_
    obtain ⟨h_24, hm⟩ := ck_s hm
    refine va_iald (f := (x0 11)) hx hb hK hP 9 0 rfl rfl h_24 d_MD_letters_24 ?_
    obtain ⟨r25, hcl, hm⟩ := bn1_s hm
    refine kci (wc := ([] : va_W)) (wr := wd_MD g h0 q0 x0) (w1 := ([] : va_W)) hP hD hS hA [] [0, 1, 2, 3, 4, 5, 6, 7, 8, 9, 10, 11, 12, 13, 14, 15, 16, 17, 18, 19, 20, 21, 22, 23, 24, 25, 26, 27, 28, 29, 30, 31] rfl rfl (by decide) (by decide) (va_runS (As := [.int ((x0 11) ((x0 14) (x0 16 0).toNatClampNeg).toNatClampNeg)]) (rest := []) ⟨hx, hb, hml, hown, hts⟩ (c_MD_sort hG hGn l dC dI g F H.size ((x0 11) ((x0 14) (x0 16 0).toNatClampNeg).toNatClampNeg) hcl) (cwS 1 hts (gdS k5_210 k5_211 k1_10 k5_212) rfl rfl rfl (by decide +kernel) ⟨Nat.le_of_ble_eq_true rfl, Nat.le_of_ble_eq_true rfl⟩) (kpS hG hP hK hD hS hA hGA [] (by decide) rfl) rfl rfl hl.1 rfl (lv_room (Nat.le_of_ble_eq_true rfl)) d_MD_letters_25 ⟨Nat.le_of_ble_eq_true rfl, Nat.le_of_ble_eq_true rfl⟩) (fun H locs hP hD hS => ?_)
    have hP : va_P (dC, dI) vwCl (wd_MD g h0 q0 x0) H := hP
    have hD : va_D A (wd_MD g h0 q0 x0) := hD
    refine lv_iconst (v := (1 : Int32)) hx hb d_MD_letters_28 (by decide) ?_
    refine lv_icmp_ne (tgt := 55) hx hb d_MD_letters_29 (by decide) (fun hc => ?_) (fun hc => ?_)
    · replace hm := if_f hm hc
      refine lv_iconst (v := (-1 : Int32)) hx hb d_MD_letters_55 (by decide) ?_
      obtain rfl := Option.some.inj hm
      rw [hQ]
      exact kri hx hb hr hlocks hAe hP hK hD hS d_MD_letters_56
    · replace hm := if_t hm hc
      refine lv_aload_n hx hb d_MD_letters_32 rfl (lv_at hl 0 rfl) ?_
      refine va_get (D := (dC, dI)) (ci := 10) (v := .ref (q0 15)) (C := "AlarmMatrixModel") (T := T_MD) (N := 42) hx hb hts i_MD hown hK hP 0 rfl rfl 15 (by decide) (hts _ k5_35) (fun _ h9 => h9) rfl d_MD_letters_33 ?_
      refine lv_aload_n hx hb d_MD_letters_36 rfl (lv_at hl 0 rfl) ?_
      refine va_get (D := (dC, dI)) (ci := 10) (v := .int (x0 16 0)) (C := "AlarmMatrixModel") (T := T_MD) (N := 42) hx hb hts i_MD hown hK hP 0 rfl rfl 16 (by decide) (hts _ k5_36) (fun _ h9 => h9) rfl d_MD_letters_37 ?_
      obtain ⟨h_40, hm⟩ := ck_s hm
      refine va_iald (f := (x0 15)) hx hb hK hP 11 0 rfl rfl h_40 d_MD_letters_40 ?_
      refine lv_aload_n hx hb d_MD_letters_41 rfl (lv_at hl 0 rfl) ?_
      refine va_get (D := (dC, dI)) (ci := 10) (v := .ref (q0 14)) (C := "AlarmMatrixModel") (T := T_MD) (N := 42) hx hb hts i_MD hown hK hP 0 rfl rfl 14 (by decide) (hts _ k5_34) (fun _ h9 => h9) rfl d_MD_letters_42 ?_
      refine lv_aload_n hx hb d_MD_letters_45 rfl (lv_at hl 0 rfl) ?_
      refine va_get (D := (dC, dI)) (ci := 10) (v := .int (x0 16 0)) (C := "AlarmMatrixModel") (T := T_MD) (N := 42) hx hb hts i_MD hown hK hP 0 rfl rfl 16 (by decide) (hts _ k5_36) (fun _ h9 => h9) rfl d_MD_letters_46 ?_
      obtain ⟨h_49, hm⟩ := ck_s hm
      refine va_iald (f := (x0 14)) hx hb hK hP 10 0 rfl rfl h_49 d_MD_letters_49 ?_
      refine lv_isub hx hb d_MD_letters_50 ?_
      refine lv_iconst (v := (5 : Int32)) hx hb d_MD_letters_51 (by decide) ?_
      refine lv_icmp_le (tgt := 57) hx hb d_MD_letters_52 (by decide) (fun hc => ?_) (fun hc => ?_)
      · replace hm := if_t hm hc
        refine lv_iconst (v := (0 : Int32)) hx hb d_MD_letters_57 (by decide) ?_
        refine lv_istore_n (lv' := [(1, .int (0 : Int32)), (0, .ref h0)]) hx hb d_MD_letters_58 rfl hl (by decide) rfl (fun ls hl => ?_)
        refine lv_aload_n hx hb d_MD_letters_59 rfl (lv_at hl 1 rfl) ?_
        refine va_get (D := (dC, dI)) (ci := 10) (v := .ref (q0 15)) (C := "AlarmMatrixModel") (T := T_MD) (N := 42) hx hb hts i_MD hown hK hP 0 rfl rfl 15 (by decide) (hts _ k5_35) (fun _ h9 => h9) rfl d_MD_letters_60 ?_
        refine lv_aload_n hx hb d_MD_letters_63 rfl (lv_at hl 1 rfl) ?_
        refine va_get (D := (dC, dI)) (ci := 10) (v := .int (x0 16 0)) (C := "AlarmMatrixModel") (T := T_MD) (N := 42) hx hb hts i_MD hown hK hP 0 rfl rfl 16 (by decide) (hts _ k5_36) (fun _ h9 => h9) rfl d_MD_letters_64 ?_
        obtain ⟨h_67, hm⟩ := ck_s hm
        refine va_iald (f := (x0 15)) hx hb hK hP 11 0 rfl rfl h_67 d_MD_letters_67 ?_
        refine lv_iconst (v := (1 : Int32)) hx hb d_MD_letters_68 (by decide) ?_
        refine lv_isub hx hb d_MD_letters_69 ?_
        refine lv_istore_n (lv' := [(2, .int (((x0 15) (x0 16 0).toNatClampNeg) - (1 : Int32))), (1, .int (0 : Int32)), (0, .ref h0)]) hx hb d_MD_letters_70 rfl hl (by decide) rfl (fun ls hl => ?_)
        have L71 : ∀ (n71 : Nat) (v1_71 : Int32) (v2_71 : Int32) (H : Heap) (locs : List Loc) (ls : Array Slot), lq2 (m_MD_letters_B71 F x0 (fun v1_71 v2_71 => (some v1_71))) n71 v1_71 v2_71 = some o → va_P (dC, dI) vwCl (wd_MD g h0 q0 x0) H → va_D A (wd_MD g h0 q0 x0) → va_S A s.heap H locs → lv_has ls 3 [(0, .ref h0), (1, .int v1_71), (2, .int v2_71)] → W p l e rm_MD_letters s m args below meth c H locs 0 0 Q (F0 m 71 ls []) := by
          intro n71
          induction n71 with
          | zero => intro v1_71 v2_71 H locs ls hm; exact absurd hm (by intro z; cases z)
          | succ n71 ih71 =>
            intro v1_71 v2_71 H locs ls hm hP hD hS hl
            replace hm := m_MD_letters_B71_h (lq2_h hm)
            refine lv_iload_n hx hb d_MD_letters_71 rfl (lv_at hl 2 rfl) ?_
            refine lv_aload_n hx hb d_MD_letters_72 rfl (lv_at hl 0 rfl) ?_
            refine va_get (D := (dC, dI)) (ci := 10) (v := .ref (q0 14)) (C := "AlarmMatrixModel") (T := T_MD) (N := 42) hx hb hts i_MD hown hK hP 0 rfl rfl 14 (by decide) (hts _ k5_34) (fun _ h9 => h9) rfl d_MD_letters_73 ?_
            refine lv_aload_n hx hb d_MD_letters_76 rfl (lv_at hl 0 rfl) ?_
            refine va_get (D := (dC, dI)) (ci := 10) (v := .int (x0 16 0)) (C := "AlarmMatrixModel") (T := T_MD) (N := 42) hx hb hts i_MD hown hK hP 0 rfl rfl 16 (by decide) (hts _ k5_36) (fun _ h9 => h9) rfl d_MD_letters_77 ?_
            obtain ⟨h_80, hm⟩ := ck_s hm
            refine va_iald (f := (x0 14)) hx hb hK hP 10 0 rfl rfl h_80 d_MD_letters_80 ?_
            refine lv_icmp_lt (tgt := 105) hx hb d_MD_letters_81 (by decide) (fun hc => ?_) (fun hc => ?_)
            · replace hm := if_t hm hc
              refine lv_iload_n hx hb d_MD_letters_105 rfl (lv_at hl 1 rfl) ?_
              obtain rfl := Option.some.inj hm
              rw [hQ]
              exact kri hx hb hr hlocks hAe hP hK hD hS d_MD_letters_106
            · replace hm := if_f hm hc
              refine lv_bipush (v := (32 : Int32)) hx hb d_MD_letters_84 (by decide) ?_
              refine lv_iload_n hx hb d_MD_letters_86 rfl (lv_at hl 1 rfl) ?_
              refine lv_imul hx hb d_MD_letters_87 ?_
              refine lv_aload_n hx hb d_MD_letters_88 rfl (lv_at hl 0 rfl) ?_
              refine va_get (D := (dC, dI)) (ci := 10) (v := .ref (q0 11)) (C := "AlarmMatrixModel") (T := T_MD) (N := 42) hx hb hts i_MD hown hK hP 0 rfl rfl 11 (by decide) (hts _ k5_31) (fun _ h9 => h9) rfl d_MD_letters_89 ?_
              refine lv_iload_n hx hb d_MD_letters_92 rfl (lv_at hl 2 rfl) ?_
              obtain ⟨h_93, hm⟩ := ck_s hm
              refine va_iald (f := (x0 11)) hx hb hK hP 9 0 rfl rfl h_93 d_MD_letters_93 ?_
              refine lv_iadd hx hb d_MD_letters_94 ?_
              refine lv_bipush (v := (96 : Int32)) hx hb d_MD_letters_95 (by decide) ?_
              refine lv_isub hx hb d_MD_letters_97 ?_
              refine lv_istore_n (lv' := [(1, .int ((((32 : Int32) * v1_71) + ((x0 11) v2_71.toNatClampNeg)) - (96 : Int32))), (0, .ref h0), (2, .int v2_71)]) hx hb d_MD_letters_98 rfl hl (by decide) rfl (fun ls hl => ?_)
              refine lv_iinc (v := (v2_71 + (-1 : Int32))) (lv' := [(2, .int (v2_71 + (-1 : Int32))), (1, .int ((((32 : Int32) * v1_71) + ((x0 11) v2_71.toNatClampNeg)) - (96 : Int32))), (0, .ref h0)]) hx hb d_MD_letters_99 hl (k := 2) rfl rfl (by decide) rfl (fun ls hl => ?_)
              refine lv_goto (tgt := 71) hx hb d_MD_letters_102 (by decide) ?_
              exact ih71 ((((32 : Int32) * v1_71) + ((x0 11) v2_71.toNatClampNeg)) - (96 : Int32)) (v2_71 + (-1 : Int32)) H locs ls hm hP hD hS (lv_sub hl [2, 1, 0] rfl)
        exact L71 F (0 : Int32) (((x0 15) (x0 16 0).toNatClampNeg) - (1 : Int32)) H locs ls hm hP hD hS (lv_sub hl [2, 1, 0] rfl)
      · replace hm := if_f hm hc
        refine lv_iconst (v := (-1 : Int32)) hx hb d_MD_letters_55 (by decide) ?_
        obtain rfl := Option.some.inj hm
        rw [hQ]
        exact kri hx hb hr hlocks hAe hP hK hD hS d_MD_letters_56
abbrev b_MD_isSign : ByteArray := prog_12_method_17_code
abbrev y_MD_isSign : MethodName := ⟨"AlarmMatrixModel", "isSign", "(I)Z"⟩
theorem d_MD_isSign_0 : decode b_MD_isSign 0 = .ok (.aload_n 0, 1) := by decide +kernel
theorem d_MD_isSign_1 : decode b_MD_isSign 1 = .ok (.getfield 160, 3) := by decide +kernel
theorem d_MD_isSign_4 : decode b_MD_isSign 4 = .ok (.aload_n 0, 1) := by decide +kernel
theorem d_MD_isSign_5 : decode b_MD_isSign 5 = .ok (.getfield 153, 3) := by decide +kernel
theorem d_MD_isSign_8 : decode b_MD_isSign 8 = .ok (.if_icmp .ge 48, 3) := by decide +kernel
theorem d_MD_isSign_11 : decode b_MD_isSign 11 = .ok (.aload_n 0, 1) := by decide +kernel
theorem d_MD_isSign_12 : decode b_MD_isSign 12 = .ok (.getfield 41, 3) := by decide +kernel
theorem d_MD_isSign_15 : decode b_MD_isSign 15 = .ok (.aload_n 0, 1) := by decide +kernel
theorem d_MD_isSign_16 : decode b_MD_isSign 16 = .ok (.getfield 160, 3) := by decide +kernel
theorem d_MD_isSign_19 : decode b_MD_isSign 19 = .ok (.iaload, 1) := by decide +kernel
theorem d_MD_isSign_20 : decode b_MD_isSign 20 = .ok (.aload_n 0, 1) := by decide +kernel
theorem d_MD_isSign_21 : decode b_MD_isSign 21 = .ok (.getfield 38, 3) := by decide +kernel
theorem d_MD_isSign_24 : decode b_MD_isSign 24 = .ok (.aload_n 0, 1) := by decide +kernel
theorem d_MD_isSign_25 : decode b_MD_isSign 25 = .ok (.getfield 160, 3) := by decide +kernel
theorem d_MD_isSign_28 : decode b_MD_isSign 28 = .ok (.iaload, 1) := by decide +kernel
theorem d_MD_isSign_29 : decode b_MD_isSign 29 = .ok (.isub, 1) := by decide +kernel
theorem d_MD_isSign_30 : decode b_MD_isSign 30 = .ok (.iconst 1, 1) := by decide +kernel
theorem d_MD_isSign_31 : decode b_MD_isSign 31 = .ok (.if_icmp .ne 25, 3) := by decide +kernel
theorem d_MD_isSign_34 : decode b_MD_isSign 34 = .ok (.aload_n 0, 1) := by decide +kernel
theorem d_MD_isSign_35 : decode b_MD_isSign 35 = .ok (.getfield 35, 3) := by decide +kernel
theorem d_MD_isSign_38 : decode b_MD_isSign 38 = .ok (.aload_n 0, 1) := by decide +kernel
theorem d_MD_isSign_39 : decode b_MD_isSign 39 = .ok (.getfield 38, 3) := by decide +kernel
theorem d_MD_isSign_42 : decode b_MD_isSign 42 = .ok (.aload_n 0, 1) := by decide +kernel
theorem d_MD_isSign_43 : decode b_MD_isSign 43 = .ok (.getfield 160, 3) := by decide +kernel
theorem d_MD_isSign_46 : decode b_MD_isSign 46 = .ok (.iaload, 1) := by decide +kernel
theorem d_MD_isSign_47 : decode b_MD_isSign 47 = .ok (.iaload, 1) := by decide +kernel
theorem d_MD_isSign_48 : decode b_MD_isSign 48 = .ok (.iload_n 1, 1) := by decide +kernel
theorem d_MD_isSign_49 : decode b_MD_isSign 49 = .ok (.if_icmp .ne 7, 3) := by decide +kernel
theorem d_MD_isSign_52 : decode b_MD_isSign 52 = .ok (.iconst 1, 1) := by decide +kernel
theorem d_MD_isSign_53 : decode b_MD_isSign 53 = .ok (.goto 4, 3) := by decide +kernel
theorem d_MD_isSign_56 : decode b_MD_isSign 56 = .ok (.iconst 0, 1) := by decide +kernel
theorem d_MD_isSign_57 : decode b_MD_isSign 57 = .ok (.ireturn, 1) := by decide +kernel
def m_MD_isSign (F : Nat) (x0 : St) (a1 : Int32) : Option (Int32) :=
  (if (x0 13 0) ≤ (x0 16 0) then (some (0 : Int32)) else (ck (x0 16 0) 2000 (ck (x0 16 0) 2000 (if (((x0 15) (x0 16 0).toNatClampNeg) - ((x0 14) (x0 16 0).toNatClampNeg)) = (1 : Int32) then (ck (x0 16 0) 2000 (ck ((x0 14) (x0 16 0).toNatClampNeg) 2000 (if ((x0 11) ((x0 14) (x0 16 0).toNatClampNeg).toNatClampNeg) = a1 then (some (1 : Int32)) else (some (0 : Int32))))) else (some (0 : Int32))))))
abbrev rm_MD_isSign : Room := { frames := 0, cells := 0, slots := 0, locals := 0 }
set_option maxHeartbeats 4000000 in
set_option maxRecDepth 100000 in
theorem c_MD_isSign {G : (Nat → Prop) → State → Prop} (hG : gok G) (hGn : gN G) (l : Launch) (dC : Nat → ClassId) (dI : Nat → Nat → Nat) (g : Nat → ClassId) (F : Nat) (sz : Nat) (h0 : Nat) (q0 : Nat → Nat) (x0 : St) (a1 : Int32) {o : Int32} (hm : m_MD_isSign F x0 a1 = some o) : Met l y_MD_isSign (.code y_MD_isSign b_MD_isSign 2 (some .boolean) :: gw) rm_MD_isSign (kq (dC, dI) vwCl (tyv g) G [.ref h0, .int a1] sz (wd_MD g h0 q0 x0)) (kqi (dC, dI) vwCl (tyv g) (wd_MD g h0 q0 x0) o (wd_MD g h0 q0 x0) sz) 0 0 (va_A (wd_MD g h0 q0 x0) sz) := by
  unfold m_MD_isSign at hm
  refine km (Qc := fun sz => kqi (dC, dI) vwCl (tyv g) (wd_MD g h0 q0 x0) o (wd_MD g h0 q0 x0) sz) (cc := b_MD_isSign) (maxL := 2) (ret := some .boolean) (by decide) rfl (Nat.le_of_ble_eq_true rfl) ?_
  intro p e s m args below meth c Q hQ hx hb hr hts hown hlocks hml hnm H locs A hAe hA hP hK hD hS hGA ls hl
  have hl : lv_has ls 2 [(0, .ref h0), (1, .int a1)] := hl
  have hts : ∀ w ∈ gw, w.before args s = true := fun w h => hts w (List.mem_cons_of_mem _ h)
  have hown : s.vm.findClass "AlarmMatrixModel" = some m.cls := hown
  refine lv_aload_n hx hb d_MD_isSign_0 rfl (lv_at hl 0 rfl) ?_
  refine va_get (D := (dC, dI)) (ci := 10) (v := .int (x0 16 0)) (C := "AlarmMatrixModel") (T := T_MD) (N := 42) hx hb hts i_MD hown hK hP 0 rfl rfl 16 (by decide) (hts _ k5_36) (fun _ h9 => h9) rfl d_MD_isSign_1 ?_
  refine lv_aload_n hx hb d_MD_isSign_4 rfl (lv_at hl 0 rfl) ?_
  refine va_get (D := (dC, dI)) (ci := 10) (v := .int (x0 13 0)) (C := "AlarmMatrixModel") (T := T_MD) (N := 42) hx hb hts i_MD hown hK hP 0 rfl rfl 13 (by decide) (hts _ k5_33) (fun _ h9 => h9) rfl d_MD_isSign_5 ?_
  refine lv_icmp_ge (tgt := 56) hx hb d_MD_isSign_8 (by decide) (fun hc => ?_) (fun hc => ?_)
  · replace hm := if_t hm hc
    refine lv_iconst (v := (0 : Int32)) hx hb d_MD_isSign_56 (by decide) ?_
    obtain rfl := Option.some.inj hm
    rw [hQ]
    exact krz hx hb hr nar_0 hlocks hAe hP hK hD hS d_MD_isSign_57
  · replace hm := if_f hm hc
    refine lv_aload_n hx hb d_MD_isSign_11 rfl (lv_at hl 0 rfl) ?_
    refine va_get (D := (dC, dI)) (ci := 10) (v := .ref (q0 15)) (C := "AlarmMatrixModel") (T := T_MD) (N := 42) hx hb hts i_MD hown hK hP 0 rfl rfl 15 (by decide) (hts _ k5_35) (fun _ h9 => h9) rfl d_MD_isSign_12 ?_
    refine lv_aload_n hx hb d_MD_isSign_15 rfl (lv_at hl 0 rfl) ?_
    refine va_get (D := (dC, dI)) (ci := 10) (v := .int (x0 16 0)) (C := "AlarmMatrixModel") (T := T_MD) (N := 42) hx hb hts i_MD hown hK hP 0 rfl rfl 16 (by decide) (hts _ k5_36) (fun _ h9 => h9) rfl d_MD_isSign_16 ?_
    obtain ⟨h_19, hm⟩ := ck_s hm
    refine va_iald (f := (x0 15)) hx hb hK hP 11 0 rfl rfl h_19 d_MD_isSign_19 ?_
    refine lv_aload_n hx hb d_MD_isSign_20 rfl (lv_at hl 0 rfl) ?_
    refine va_get (D := (dC, dI)) (ci := 10) (v := .ref (q0 14)) (C := "AlarmMatrixModel") (T := T_MD) (N := 42) hx hb hts i_MD hown hK hP 0 rfl rfl 14 (by decide) (hts _ k5_34) (fun _ h9 => h9) rfl d_MD_isSign_21 ?_
    refine lv_aload_n hx hb d_MD_isSign_24 rfl (lv_at hl 0 rfl) ?_
    refine va_get (D := (dC, dI)) (ci := 10) (v := .int (x0 16 0)) (C := "AlarmMatrixModel") (T := T_MD) (N := 42) hx hb hts i_MD hown hK hP 0 rfl rfl 16 (by decide) (hts _ k5_36) (fun _ h9 => h9) rfl d_MD_isSign_25 ?_
    obtain ⟨h_28, hm⟩ := ck_s hm
    refine va_iald (f := (x0 14)) hx hb hK hP 10 0 rfl rfl h_28 d_MD_isSign_28 ?_
    refine lv_isub hx hb d_MD_isSign_29 ?_
    refine lv_iconst (v := (1 : Int32)) hx hb d_MD_isSign_30 (by decide) ?_
    refine lv_icmp_ne (tgt := 56) hx hb d_MD_isSign_31 (by decide) (fun hc => ?_) (fun hc => ?_)
    · replace hm := if_f hm hc
      refine lv_iconst (v := (0 : Int32)) hx hb d_MD_isSign_56 (by decide) ?_
      obtain rfl := Option.some.inj hm
      rw [hQ]
      exact krz hx hb hr nar_0 hlocks hAe hP hK hD hS d_MD_isSign_57
    · replace hm := if_t hm hc
      refine lv_aload_n hx hb d_MD_isSign_34 rfl (lv_at hl 0 rfl) ?_
      refine va_get (D := (dC, dI)) (ci := 10) (v := .ref (q0 11)) (C := "AlarmMatrixModel") (T := T_MD) (N := 42) hx hb hts i_MD hown hK hP 0 rfl rfl 11 (by decide) (hts _ k5_31) (fun _ h9 => h9) rfl d_MD_isSign_35 ?_
      refine lv_aload_n hx hb d_MD_isSign_38 rfl (lv_at hl 0 rfl) ?_
      refine va_get (D := (dC, dI)) (ci := 10) (v := .ref (q0 14)) (C := "AlarmMatrixModel") (T := T_MD) (N := 42) hx hb hts i_MD hown hK hP 0 rfl rfl 14 (by decide) (hts _ k5_34) (fun _ h9 => h9) rfl d_MD_isSign_39 ?_
      refine lv_aload_n hx hb d_MD_isSign_42 rfl (lv_at hl 0 rfl) ?_
      refine va_get (D := (dC, dI)) (ci := 10) (v := .int (x0 16 0)) (C := "AlarmMatrixModel") (T := T_MD) (N := 42) hx hb hts i_MD hown hK hP 0 rfl rfl 16 (by decide) (hts _ k5_36) (fun _ h9 => h9) rfl d_MD_isSign_43 ?_
      obtain ⟨h_46, hm⟩ := ck_s hm
      refine va_iald (f := (x0 14)) hx hb hK hP 10 0 rfl rfl h_46 d_MD_isSign_46 ?_
      obtain ⟨h_47, hm⟩ := ck_s hm
      refine va_iald (f := (x0 11)) hx hb hK hP 9 0 rfl rfl h_47 d_MD_isSign_47 ?_
      refine lv_iload_n hx hb d_MD_isSign_48 rfl (lv_at hl 1 rfl) ?_
      refine lv_icmp_ne (tgt := 56) hx hb d_MD_isSign_49 (by decide) (fun hc => ?_) (fun hc => ?_)
      · replace hm := if_f hm hc
        refine lv_iconst (v := (0 : Int32)) hx hb d_MD_isSign_56 (by decide) ?_
        obtain rfl := Option.some.inj hm
        rw [hQ]
        exact krz hx hb hr nar_0 hlocks hAe hP hK hD hS d_MD_isSign_57
      · replace hm := if_t hm hc
        refine lv_iconst (v := (1 : Int32)) hx hb d_MD_isSign_52 (by decide) ?_
        refine lv_goto (tgt := 57) hx hb d_MD_isSign_53 (by decide) ?_
        obtain rfl := Option.some.inj hm
        rw [hQ]
        exact krz hx hb hr nar_1 hlocks hAe hP hK hD hS d_MD_isSign_57
abbrev b_MD_want : ByteArray := prog_12_method_18_code
abbrev y_MD_want : MethodName := ⟨"AlarmMatrixModel", "want", "(Z)Z"⟩
theorem d_MD_want_0 : decode b_MD_want 0 = .ok (.iload_n 1, 1) := by decide +kernel
theorem d_MD_want_1 : decode b_MD_want 1 = .ok (.ifCond .ne 18, 3) := by decide +kernel
theorem d_MD_want_4 : decode b_MD_want 4 = .ok (.aload_n 0, 1) := by decide +kernel
theorem d_MD_want_5 : decode b_MD_want 5 = .ok (.getfield 163, 3) := by decide +kernel
theorem d_MD_want_8 : decode b_MD_want 8 = .ok (.ifCond .ge 11, 3) := by decide +kernel
theorem d_MD_want_11 : decode b_MD_want 11 = .ok (.aload_n 0, 1) := by decide +kernel
theorem d_MD_want_12 : decode b_MD_want 12 = .ok (.aload_n 0, 1) := by decide +kernel
theorem d_MD_want_13 : decode b_MD_want 13 = .ok (.getfield 160, 3) := by decide +kernel
theorem d_MD_want_16 : decode b_MD_want 16 = .ok (.putfield 163, 3) := by decide +kernel
theorem d_MD_want_19 : decode b_MD_want 19 = .ok (.aload_n 0, 1) := by decide +kernel
theorem d_MD_want_20 : decode b_MD_want 20 = .ok (.getfield 163, 3) := by decide +kernel
theorem d_MD_want_23 : decode b_MD_want 23 = .ok (.ifCond .ge 7, 3) := by decide +kernel
theorem d_MD_want_26 : decode b_MD_want 26 = .ok (.iconst 1, 1) := by decide +kernel
theorem d_MD_want_27 : decode b_MD_want 27 = .ok (.goto 4, 3) := by decide +kernel
theorem d_MD_want_30 : decode b_MD_want 30 = .ok (.iconst 0, 1) := by decide +kernel
theorem d_MD_want_31 : decode b_MD_want 31 = .ok (.ireturn, 1) := by decide +kernel
def m_MD_want (F : Nat) (x0 : St) (a1 : Int32) : Option (Int32 × St) :=
  (if a1 = (0 : Int32) then (if (0 : Int32) ≤ (x0 17 0) then (if (0 : Int32) ≤ (x0 17 0) then (some ((0 : Int32), x0)) else (some ((1 : Int32), x0))) else (lz (sc x0 17 (x0 16 0)) (fun e0_16 => (if (0 : Int32) ≤ (e0_16 17 0) then (some ((0 : Int32), e0_16)) else (some ((1 : Int32), e0_16)))))) else (if (0 : Int32) ≤ (x0 17 0) then (some ((0 : Int32), x0)) else (some ((1 : Int32), x0))))
abbrev rm_MD_want : Room := { frames := 0, cells := 0, slots := 0, locals := 0 }
set_option maxHeartbeats 4000000 in
set_option maxRecDepth 100000 in
theorem c_MD_want {G : (Nat → Prop) → State → Prop} (hG : gok G) (hGn : gN G) (l : Launch) (dC : Nat → ClassId) (dI : Nat → Nat → Nat) (g : Nat → ClassId) (F : Nat) (sz : Nat) (h0 : Nat) (q0 : Nat → Nat) (x0 : St) (a1 : Int32) {o : Int32 × St} (hm : m_MD_want F x0 a1 = some o) : Met l y_MD_want (.code y_MD_want b_MD_want 2 (some .boolean) :: gw) rm_MD_want (kq (dC, dI) vwCl (tyv g) G [.ref h0, .int a1] sz (wd_MD g h0 q0 x0)) (kqi (dC, dI) vwCl (tyv g) (wd_MD g h0 q0 x0) o.1 (wd_MD g h0 q0 (o.2)) sz) 0 0 (va_A (wd_MD g h0 q0 x0) sz) := by
  unfold m_MD_want at hm
  refine km (Qc := fun sz => kqi (dC, dI) vwCl (tyv g) (wd_MD g h0 q0 x0) o.1 (wd_MD g h0 q0 (o.2)) sz) (cc := b_MD_want) (maxL := 2) (ret := some .boolean) (by decide) rfl (Nat.le_of_ble_eq_true rfl) ?_
  intro p e s m args below meth c Q hQ hx hb hr hts hown hlocks hml hnm H locs A hAe hA hP hK hD hS hGA ls hl
  have hl : lv_has ls 2 [(0, .ref h0), (1, .int a1)] := hl
  have hts : ∀ w ∈ gw, w.before args s = true := fun w h => hts w (List.mem_cons_of_mem _ h)
  have hown : s.vm.findClass "AlarmMatrixModel" = some m.cls := hown
  refine lv_iload_n hx hb d_MD_want_0 rfl (lv_at hl 1 rfl) ?_
  refine lv_if_ne (tgt := 19) hx hb d_MD_want_1 (by decide) (fun hc => ?_) (fun hc => ?_)
  · replace hm := if_f hm hc
    refine lv_aload_n hx hb d_MD_want_19 rfl (lv_at hl 0 rfl) ?_
    refine va_get (D := (dC, dI)) (ci := 10) (v := .int (x0 17 0)) (C := "AlarmMatrixModel") (T := T_MD) (N := 42) hx hb hts i_MD hown hK hP 0 rfl rfl 17 (by decide) (hts _ k5_37) (fun _ h9 => h9) rfl d_MD_want_20 ?_
    refine lv_if_ge (tgt := 30) hx hb d_MD_want_23 (by decide) (fun hc => ?_) (fun hc => ?_)
    · replace hm := if_t hm hc
      refine lv_iconst (v := (0 : Int32)) hx hb d_MD_want_30 (by decide) ?_
      obtain rfl := Option.some.inj hm
      rw [hQ]
      exact krz hx hb hr nar_0 hlocks hAe hP hK hD hS d_MD_want_31
    · replace hm := if_f hm hc
      refine lv_iconst (v := (1 : Int32)) hx hb d_MD_want_26 (by decide) ?_
      refine lv_goto (tgt := 31) hx hb d_MD_want_27 (by decide) ?_
      obtain rfl := Option.some.inj hm
      rw [hQ]
      exact krz hx hb hr nar_1 hlocks hAe hP hK hD hS d_MD_want_31
  · replace hm := if_t hm hc
    refine lv_aload_n hx hb d_MD_want_4 rfl (lv_at hl 0 rfl) ?_
    refine va_get (D := (dC, dI)) (ci := 10) (v := .int (x0 17 0)) (C := "AlarmMatrixModel") (T := T_MD) (N := 42) hx hb hts i_MD hown hK hP 0 rfl rfl 17 (by decide) (hts _ k5_37) (fun _ h9 => h9) rfl d_MD_want_5 ?_
    refine lv_if_ge (tgt := 19) hx hb d_MD_want_8 (by decide) (fun hc => ?_) (fun hc => ?_)
    · replace hm := if_t hm hc
      refine lv_aload_n hx hb d_MD_want_19 rfl (lv_at hl 0 rfl) ?_
      refine va_get (D := (dC, dI)) (ci := 10) (v := .int (x0 17 0)) (C := "AlarmMatrixModel") (T := T_MD) (N := 42) hx hb hts i_MD hown hK hP 0 rfl rfl 17 (by decide) (hts _ k5_37) (fun _ h9 => h9) rfl d_MD_want_20 ?_
      refine lv_if_ge (tgt := 30) hx hb d_MD_want_23 (by decide) (fun hc => ?_) (fun hc => ?_)
      · replace hm := if_t hm hc
        refine lv_iconst (v := (0 : Int32)) hx hb d_MD_want_30 (by decide) ?_
        obtain rfl := Option.some.inj hm
        rw [hQ]
        exact krz hx hb hr nar_0 hlocks hAe hP hK hD hS d_MD_want_31
      · replace hm := if_f hm hc
        refine lv_iconst (v := (1 : Int32)) hx hb d_MD_want_26 (by decide) ?_
        refine lv_goto (tgt := 31) hx hb d_MD_want_27 (by decide) ?_
        obtain rfl := Option.some.inj hm
        rw [hQ]
        exact krz hx hb hr nar_1 hlocks hAe hP hK hD hS d_MD_want_31
    · replace hm := if_f hm hc
      refine lv_aload_n hx hb d_MD_want_11 rfl (lv_at hl 0 rfl) ?_
      refine lv_aload_n hx hb d_MD_want_12 rfl (lv_at hl 0 rfl) ?_
      refine va_get (D := (dC, dI)) (ci := 10) (v := .int (x0 16 0)) (C := "AlarmMatrixModel") (T := T_MD) (N := 42) hx hb hts i_MD hown hK hP 0 rfl rfl 16 (by decide) (hts _ k5_36) (fun _ h9 => h9) rfl d_MD_want_13 ?_
      obtain ⟨e0_16, he, hm⟩ := lz_s hm
      refine va_put (D := (dC, dI)) (ci := 10) (v := .int (x0 16 0)) (ty := .int) (C := "AlarmMatrixModel") (T := T_MD) (N := 42) hx hb hts i_MD t_MD o_MD n_MD hown hK hP hD hS 0 rfl rfl 17 (by decide) (hts _ k5_37) (fun _ h9 => h9) rfl (by decide +kernel) rfl rfl (Nat.le_of_ble_eq_true rfl) d_MD_want_16 (fun H locs hP hD hS => ?_)
      have hP : va_P (dC, dI) vwCl (wd_MD g h0 q0 e0_16) H := by rw [he]; exact hP
      have hD : va_D A (wd_MD g h0 q0 e0_16) := by rw [he]; exact hD
      refine lv_aload_n hx hb d_MD_want_19 rfl (lv_at hl 0 rfl) ?_
      refine va_get (D := (dC, dI)) (ci := 10) (v := .int (e0_16 17 0)) (C := "AlarmMatrixModel") (T := T_MD) (N := 42) hx hb hts i_MD hown hK hP 0 rfl rfl 17 (by decide) (hts _ k5_37) (fun _ h9 => h9) rfl d_MD_want_20 ?_
      refine lv_if_ge (tgt := 30) hx hb d_MD_want_23 (by decide) (fun hc => ?_) (fun hc => ?_)
      · replace hm := if_t hm hc
        refine lv_iconst (v := (0 : Int32)) hx hb d_MD_want_30 (by decide) ?_
        obtain rfl := Option.some.inj hm
        rw [hQ]
        exact krz hx hb hr nar_0 hlocks hAe hP hK hD hS d_MD_want_31
      · replace hm := if_f hm hc
        refine lv_iconst (v := (1 : Int32)) hx hb d_MD_want_26 (by decide) ?_
        refine lv_goto (tgt := 31) hx hb d_MD_want_27 (by decide) ?_
        obtain rfl := Option.some.inj hm
        rw [hQ]
        exact krz hx hb hr nar_1 hlocks hAe hP hK hD hS d_MD_want_31
abbrev b_MD_take_0 : ByteArray := prog_12_method_19_code
abbrev y_MD_take_0 : MethodName := ⟨"AlarmMatrixModel", "take", "(I)V"⟩
theorem d_MD_take_0_0 : decode b_MD_take_0 0 = .ok (.aload_n 0, 1) := by decide +kernel
theorem d_MD_take_0_1 : decode b_MD_take_0 1 = .ok (.aload_n 0, 1) := by decide +kernel
theorem d_MD_take_0_2 : decode b_MD_take_0 2 = .ok (.invokevirtual 166, 3) := by decide +kernel
theorem d_MD_take_0_5 : decode b_MD_take_0 5 = .ok (.iload_n 1, 1) := by decide +kernel
theorem d_MD_take_0_6 : decode b_MD_take_0 6 = .ok (.if_icmp .ne 7, 3) := by decide +kernel
theorem d_MD_take_0_9 : decode b_MD_take_0 9 = .ok (.iconst 1, 1) := by decide +kernel
theorem d_MD_take_0_10 : decode b_MD_take_0 10 = .ok (.goto 4, 3) := by decide +kernel
theorem d_MD_take_0_13 : decode b_MD_take_0 13 = .ok (.iconst 0, 1) := by decide +kernel
theorem d_MD_take_0_14 : decode b_MD_take_0 14 = .ok (.invokevirtual 170, 3) := by decide +kernel
theorem d_MD_take_0_17 : decode b_MD_take_0 17 = .ok (.ifCond .eq 13, 3) := by decide +kernel
theorem d_MD_take_0_20 : decode b_MD_take_0 20 = .ok (.aload_n 0, 1) := by decide +kernel
theorem d_MD_take_0_21 : decode b_MD_take_0 21 = .ok (.dup, 1) := by decide +kernel
theorem d_MD_take_0_22 : decode b_MD_take_0 22 = .ok (.getfield 160, 3) := by decide +kernel
theorem d_MD_take_0_25 : decode b_MD_take_0 25 = .ok (.iconst 1, 1) := by decide +kernel
theorem d_MD_take_0_26 : decode b_MD_take_0 26 = .ok (.iadd, 1) := by decide +kernel
theorem d_MD_take_0_27 : decode b_MD_take_0 27 = .ok (.putfield 160, 3) := by decide +kernel
theorem d_MD_take_0_30 : decode b_MD_take_0 30 = .ok (.return_, 1) := by decide +kernel
def m_MD_take_0 (F : Nat) (x0 : St) (a1 : Int32) : Option (St) :=
  (bn1 (m_MD_letters F x0) (fun r2 => (if r2 = a1 then (bn2 (m_MD_want F x0 (1 : Int32)) (fun r14 z0_14 => (if r14 = (0 : Int32) then (some z0_14) else (lz (sc z0_14 16 ((z0_14 16 0) + (1 : Int32))) (fun e0_27 => (some e0_27)))))) else (bn2 (m_MD_want F x0 (0 : Int32)) (fun r14 z0_14 => (if r14 = (0 : Int32) then (some z0_14) else (lz (sc z0_14 16 ((z0_14 16 0) + (1 : Int32))) (fun e0_27 => (some e0_27)))))))))
abbrev rm_MD_take_0 : Room := { frames := 2, cells := 0, slots := 0, locals := 42 }
set_option maxHeartbeats 4000000 in
set_option maxRecDepth 100000 in
theorem c_MD_take_0 {G : (Nat → Prop) → State → Prop} (hG : gok G) (hGn : gN G) (l : Launch) (dC : Nat → ClassId) (dI : Nat → Nat → Nat) (g : Nat → ClassId) (F : Nat) (sz : Nat) (h0 : Nat) (q0 : Nat → Nat) (x0 : St) (a1 : Int32) {o : St} (hm : m_MD_take_0 F x0 a1 = some o) : Met l y_MD_take_0 (.code y_MD_take_0 b_MD_take_0 2 none :: gw) rm_MD_take_0 (kq (dC, dI) vwCl (tyv g) G [.ref h0, .int a1] sz (wd_MD g h0 q0 x0)) (kqv (dC, dI) vwCl (tyv g) (wd_MD g h0 q0 x0) (wd_MD g h0 q0 o) sz) 0 0 (va_A (wd_MD g h0 q0 x0) sz) := by
  unfold m_MD_take_0 at hm
  refine km (Qc := fun sz => kqv (dC, dI) vwCl (tyv g) (wd_MD g h0 q0 x0) (wd_MD g h0 q0 o) sz) (cc := b_MD_take_0) (maxL := 2) (ret := none) (by decide) rfl (Nat.le_of_ble_eq_true rfl) ?_
  intro p e s m args below meth c Q hQ hx hb hr hts hown hlocks hml hnm H locs A hAe hA hP hK hD hS hGA ls hl
  have hl : lv_has ls 2 [(0, .ref h0), (1, .int a1)] := hl
  have hts : ∀ w ∈ gw, w.before args s = true := fun w h => hts w (List.mem_cons_of_mem _ h)
  have hown : s.vm.findClass "AlarmMatrixModel" = some m.cls := hown
  refine lv_aload_n hx hb d_MD_take_0_0 rfl (lv_at hl 0 rfl) ?_
  refine lv_aload_n hx hb d_MD_take_0_1 rfl (lv_at hl 0 rfl) ?_
  obtain ⟨r2, hcl, hm⟩ := bn1_s hm
  refine kci (wc := wd_MD g h0 q0 x0) (wr := ([] : va_W)) (w1 := wd_MD g h0 q0 x0) hP hD hS hA [0, 1, 2, 3, 4, 5, 6, 7, 8, 9, 10, 11, 12, 13, 14, 15, 16, 17, 18, 19, 20, 21, 22, 23, 24, 25, 26, 27, 28, 29, 30, 31] [] rfl rfl (by decide) (by decide) (va_runV (As := []) (rest := [.ref h0]) ⟨hx, hb, hml, hown, hts⟩ (c_MD_letters hG hGn l dC dI g F H.size h0 q0 x0 hcl) (cwV 0 hts (gdV k5_217 k5_219 kp_29 k1_10 k5_220) rfl rfl rfl (by decide +kernel) ⟨Nat.le_of_ble_eq_true rfl, Nat.le_of_ble_eq_true rfl⟩) (kpV hG hP hK hD hS hA hGA [0, 1, 2, 3, 4, 5, 6, 7, 8, 9, 10, 11, 12, 13, 14, 15, 16, 17, 18, 19, 20, 21, 22, 23, 24, 25, 26, 27, 28, 29, 30, 31] (by decide) rfl (ci := 10) (q0 := 0) rfl rfl rfl) rfl rfl hl.1 rfl (lv_room (Nat.le_of_ble_eq_true rfl)) d_MD_take_0_2 ⟨Nat.le_of_ble_eq_true rfl, Nat.le_of_ble_eq_true rfl⟩) (fun H locs hP hD hS => ?_)
  have hP : va_P (dC, dI) vwCl (wd_MD g h0 q0 x0) H := hP
  have hD : va_D A (wd_MD g h0 q0 x0) := hD
  refine lv_iload_n hx hb d_MD_take_0_5 rfl (lv_at hl 1 rfl) ?_
  refine lv_icmp_ne (tgt := 13) hx hb d_MD_take_0_6 (by decide) (fun hc => ?_) (fun hc => ?_)
  · replace hm := if_f hm hc
    refine lv_iconst (v := (0 : Int32)) hx hb d_MD_take_0_13 (by decide) ?_
    obtain ⟨r14, z0_14, hcl, hm⟩ := bn2_s hm
    refine kci (wc := wd_MD g h0 q0 x0) (wr := ([] : va_W)) (w1 := wd_MD g h0 q0 z0_14) hP hD hS hA [0, 1, 2, 3, 4, 5, 6, 7, 8, 9, 10, 11, 12, 13, 14, 15, 16, 17, 18, 19, 20, 21, 22, 23, 24, 25, 26, 27, 28, 29, 30, 31] [] rfl rfl (by decide) (by decide) (va_runV (As := [.int (0 : Int32)]) (rest := []) ⟨hx, hb, hml, hown, hts⟩ (c_MD_want hG hGn l dC dI g F H.size h0 q0 x0 (0 : Int32) hcl) (cwV 1 hts (gdV k5_229 k5_231 kp_32 k1_10 k5_232) rfl rfl rfl (by decide +kernel) ⟨Nat.le_of_ble_eq_true rfl, Nat.le_of_ble_eq_true rfl⟩) (kpV hG hP hK hD hS hA hGA [0, 1, 2, 3, 4, 5, 6, 7, 8, 9, 10, 11, 12, 13, 14, 15, 16, 17, 18, 19, 20, 21, 22, 23, 24, 25, 26, 27, 28, 29, 30, 31] (by decide) rfl (ci := 10) (q0 := 0) rfl rfl rfl) rfl rfl hl.1 rfl (lv_room (Nat.le_of_ble_eq_true rfl)) d_MD_take_0_14 ⟨Nat.le_of_ble_eq_true rfl, Nat.le_of_ble_eq_true rfl⟩) (fun H locs hP hD hS => ?_)
    have hP : va_P (dC, dI) vwCl (wd_MD g h0 q0 z0_14) H := hP
    have hD : va_D A (wd_MD g h0 q0 z0_14) := hD
    refine lv_if_eq (tgt := 30) hx hb d_MD_take_0_17 (by decide) (fun hc => ?_) (fun hc => ?_)
    · replace hm := if_t hm hc
      obtain rfl := Option.some.inj hm
      rw [hQ]
      exact krv hx hb hr hlocks hAe hP hK hD hS d_MD_take_0_30
    · replace hm := if_f hm hc
      refine lv_aload_n hx hb d_MD_take_0_20 rfl (lv_at hl 0 rfl) ?_
      refine lv_dup hx hb d_MD_take_0_21 rfl ?_
      refine va_get (D := (dC, dI)) (ci := 10) (v := .int (z0_14 16 0)) (C := "AlarmMatrixModel") (T := T_MD) (N := 42) hx hb hts i_MD hown hK hP 0 rfl rfl 16 (by decide) (hts _ k5_36) (fun _ h9 => h9) rfl d_MD_take_0_22 ?_
      refine lv_iconst (v := (1 : Int32)) hx hb d_MD_take_0_25 (by decide) ?_
      refine lv_iadd hx hb d_MD_take_0_26 ?_
      obtain ⟨e0_27, he, hm⟩ := lz_s hm
      refine va_put (D := (dC, dI)) (ci := 10) (v := .int ((z0_14 16 0) + (1 : Int32))) (ty := .int) (C := "AlarmMatrixModel") (T := T_MD) (N := 42) hx hb hts i_MD t_MD o_MD n_MD hown hK hP hD hS 0 rfl rfl 16 (by decide) (hts _ k5_36) (fun _ h9 => h9) rfl (by decide +kernel) rfl rfl (Nat.le_of_ble_eq_true rfl) d_MD_take_0_27 (fun H locs hP hD hS => ?_)
      have hP : va_P (dC, dI) vwCl (wd_MD g h0 q0 e0_27) H := by rw [he]; exact hP
      have hD : va_D A (wd_MD g h0 q0 e0_27) := by rw [he]; exact hD
      obtain rfl := Option.some.inj hm
      rw [hQ]
      exact krv hx hb hr hlocks hAe hP hK hD hS d_MD_take_0_30
  · replace hm := if_t hm hc
    refine lv_iconst (v := (1 : Int32)) hx hb d_MD_take_0_9 (by decide) ?_
    refine lv_goto (tgt := 14) hx hb d_MD_take_0_10 (by decide) ?_
    obtain ⟨r14, z0_14, hcl, hm⟩ := bn2_s hm
    refine kci (wc := wd_MD g h0 q0 x0) (wr := ([] : va_W)) (w1 := wd_MD g h0 q0 z0_14) hP hD hS hA [0, 1, 2, 3, 4, 5, 6, 7, 8, 9, 10, 11, 12, 13, 14, 15, 16, 17, 18, 19, 20, 21, 22, 23, 24, 25, 26, 27, 28, 29, 30, 31] [] rfl rfl (by decide) (by decide) (va_runV (As := [.int (1 : Int32)]) (rest := []) ⟨hx, hb, hml, hown, hts⟩ (c_MD_want hG hGn l dC dI g F H.size h0 q0 x0 (1 : Int32) hcl) (cwV 1 hts (gdV k5_229 k5_231 kp_32 k1_10 k5_232) rfl rfl rfl (by decide +kernel) ⟨Nat.le_of_ble_eq_true rfl, Nat.le_of_ble_eq_true rfl⟩) (kpV hG hP hK hD hS hA hGA [0, 1, 2, 3, 4, 5, 6, 7, 8, 9, 10, 11, 12, 13, 14, 15, 16, 17, 18, 19, 20, 21, 22, 23, 24, 25, 26, 27, 28, 29, 30, 31] (by decide) rfl (ci := 10) (q0 := 0) rfl rfl rfl) rfl rfl hl.1 rfl (lv_room (Nat.le_of_ble_eq_true rfl)) d_MD_take_0_14 ⟨Nat.le_of_ble_eq_true rfl, Nat.le_of_ble_eq_true rfl⟩) (fun H locs hP hD hS => ?_)
    have hP : va_P (dC, dI) vwCl (wd_MD g h0 q0 z0_14) H := hP
    have hD : va_D A (wd_MD g h0 q0 z0_14) := hD
    refine lv_if_eq (tgt := 30) hx hb d_MD_take_0_17 (by decide) (fun hc => ?_) (fun hc => ?_)
    · replace hm := if_t hm hc
      obtain rfl := Option.some.inj hm
      rw [hQ]
      exact krv hx hb hr hlocks hAe hP hK hD hS d_MD_take_0_30
    · replace hm := if_f hm hc
      refine lv_aload_n hx hb d_MD_take_0_20 rfl (lv_at hl 0 rfl) ?_
      refine lv_dup hx hb d_MD_take_0_21 rfl ?_
      refine va_get (D := (dC, dI)) (ci := 10) (v := .int (z0_14 16 0)) (C := "AlarmMatrixModel") (T := T_MD) (N := 42) hx hb hts i_MD hown hK hP 0 rfl rfl 16 (by decide) (hts _ k5_36) (fun _ h9 => h9) rfl d_MD_take_0_22 ?_
      refine lv_iconst (v := (1 : Int32)) hx hb d_MD_take_0_25 (by decide) ?_
      refine lv_iadd hx hb d_MD_take_0_26 ?_
      obtain ⟨e0_27, he, hm⟩ := lz_s hm
      refine va_put (D := (dC, dI)) (ci := 10) (v := .int ((z0_14 16 0) + (1 : Int32))) (ty := .int) (C := "AlarmMatrixModel") (T := T_MD) (N := 42) hx hb hts i_MD t_MD o_MD n_MD hown hK hP hD hS 0 rfl rfl 16 (by decide) (hts _ k5_36) (fun _ h9 => h9) rfl (by decide +kernel) rfl rfl (Nat.le_of_ble_eq_true rfl) d_MD_take_0_27 (fun H locs hP hD hS => ?_)
      have hP : va_P (dC, dI) vwCl (wd_MD g h0 q0 e0_27) H := by rw [he]; exact hP
      have hD : va_D A (wd_MD g h0 q0 e0_27) := by rw [he]; exact hD
      obtain rfl := Option.some.inj hm
      rw [hQ]
      exact krv hx hb hr hlocks hAe hP hK hD hS d_MD_take_0_30
abbrev b_MD_takeStop : ByteArray := prog_12_method_20_code
abbrev y_MD_takeStop : MethodName := ⟨"AlarmMatrixModel", "takeStop", "()V"⟩
theorem d_MD_takeStop_0 : decode b_MD_takeStop 0 = .ok (.aload_n 0, 1) := by decide +kernel
theorem d_MD_takeStop_1 : decode b_MD_takeStop 1 = .ok (.aload_n 0, 1) := by decide +kernel
theorem d_MD_takeStop_2 : decode b_MD_takeStop 2 = .ok (.bipush 59, 2) := by decide +kernel
theorem d_MD_takeStop_4 : decode b_MD_takeStop 4 = .ok (.invokevirtual 174, 3) := by decide +kernel
theorem d_MD_takeStop_7 : decode b_MD_takeStop 7 = .ok (.invokevirtual 170, 3) := by decide +kernel
theorem d_MD_takeStop_10 : decode b_MD_takeStop 10 = .ok (.ifCond .eq 13, 3) := by decide +kernel
theorem d_MD_takeStop_13 : decode b_MD_takeStop 13 = .ok (.aload_n 0, 1) := by decide +kernel
theorem d_MD_takeStop_14 : decode b_MD_takeStop 14 = .ok (.dup, 1) := by decide +kernel
theorem d_MD_takeStop_15 : decode b_MD_takeStop 15 = .ok (.getfield 160, 3) := by decide +kernel
theorem d_MD_takeStop_18 : decode b_MD_takeStop 18 = .ok (.iconst 1, 1) := by decide +kernel
theorem d_MD_takeStop_19 : decode b_MD_takeStop 19 = .ok (.iadd, 1) := by decide +kernel
theorem d_MD_takeStop_20 : decode b_MD_takeStop 20 = .ok (.putfield 160, 3) := by decide +kernel
theorem d_MD_takeStop_23 : decode b_MD_takeStop 23 = .ok (.return_, 1) := by decide +kernel
def m_MD_takeStop (F : Nat) (x0 : St) : Option (St) :=
  (bn1 (m_MD_isSign F x0 (59 : Int32)) (fun r4 => (bn2 (m_MD_want F x0 r4) (fun r7 z0_7 => (if r7 = (0 : Int32) then (some z0_7) else (lz (sc z0_7 16 ((z0_7 16 0) + (1 : Int32))) (fun e0_20 => (some e0_20))))))))
abbrev rm_MD_takeStop : Room := { frames := 1, cells := 0, slots := 0, locals := 21 }
set_option maxHeartbeats 4000000 in
set_option maxRecDepth 100000 in
theorem c_MD_takeStop {G : (Nat → Prop) → State → Prop} (hG : gok G) (hGn : gN G) (l : Launch) (dC : Nat → ClassId) (dI : Nat → Nat → Nat) (g : Nat → ClassId) (F : Nat) (sz : Nat) (h0 : Nat) (q0 : Nat → Nat) (x0 : St) {o : St} (hm : m_MD_takeStop F x0 = some o) : Met l y_MD_takeStop (.code y_MD_takeStop b_MD_takeStop 1 none :: gw) rm_MD_takeStop (kq (dC, dI) vwCl (tyv g) G [.ref h0] sz (wd_MD g h0 q0 x0)) (kqv (dC, dI) vwCl (tyv g) (wd_MD g h0 q0 x0) (wd_MD g h0 q0 o) sz) 0 0 (va_A (wd_MD g h0 q0 x0) sz) := by
  unfold m_MD_takeStop at hm
  refine km (Qc := fun sz => kqv (dC, dI) vwCl (tyv g) (wd_MD g h0 q0 x0) (wd_MD g h0 q0 o) sz) (cc := b_MD_takeStop) (maxL := 1) (ret := none) (by decide) rfl (Nat.le_of_ble_eq_true rfl) ?_
  intro p e s m args below meth c Q hQ hx hb hr hts hown hlocks hml hnm H locs A hAe hA hP hK hD hS hGA ls hl
  have hl : lv_has ls 1 [(0, .ref h0)] := hl
  have hts : ∀ w ∈ gw, w.before args s = true := fun w h => hts w (List.mem_cons_of_mem _ h)
  have hown : s.vm.findClass "AlarmMatrixModel" = some m.cls := hown
  refine lv_aload_n hx hb d_MD_takeStop_0 rfl (lv_at hl 0 rfl) ?_
  refine lv_aload_n hx hb d_MD_takeStop_1 rfl (lv_at hl 0 rfl) ?_
  refine lv_bipush (v := (59 : Int32)) hx hb d_MD_takeStop_2 (by decide) ?_
  obtain ⟨r4, hcl, hm⟩ := bn1_s hm
  refine kci (wc := wd_MD g h0 q0 x0) (wr := ([] : va_W)) (w1 := wd_MD g h0 q0 x0) hP hD hS hA [0, 1, 2, 3, 4, 5, 6, 7, 8, 9, 10, 11, 12, 13, 14, 15, 16, 17, 18, 19, 20, 21, 22, 23, 24, 25, 26, 27, 28, 29, 30, 31] [] rfl rfl (by decide) (by decide) (va_runV (As := [.int (59 : Int32)]) (rest := [.ref h0]) ⟨hx, hb, hml, hown, hts⟩ (c_MD_isSign hG hGn l dC dI g F H.size h0 q0 x0 (59 : Int32) hcl) (cwV 1 hts (gdV k6_5 k6_7 kp_36 k1_10 k6_8) rfl rfl rfl (by decide +kernel) ⟨Nat.le_of_ble_eq_true rfl, Nat.le_of_ble_eq_true rfl⟩) (kpV hG hP hK hD hS hA hGA [0, 1, 2, 3, 4, 5, 6, 7, 8, 9, 10, 11, 12, 13, 14, 15, 16, 17, 18, 19, 20, 21, 22, 23, 24, 25, 26, 27, 28, 29, 30, 31] (by decide) rfl (ci := 10) (q0 := 0) rfl rfl rfl) rfl rfl hl.1 rfl (lv_room (Nat.le_of_ble_eq_true rfl)) d_MD_takeStop_4 ⟨Nat.le_of_ble_eq_true rfl, Nat.le_of_ble_eq_true rfl⟩) (fun H locs hP hD hS => ?_)
  have hP : va_P (dC, dI) vwCl (wd_MD g h0 q0 x0) H := hP
  have hD : va_D A (wd_MD g h0 q0 x0) := hD
  obtain ⟨r7, z0_7, hcl, hm⟩ := bn2_s hm
  refine kci (wc := wd_MD g h0 q0 x0) (wr := ([] : va_W)) (w1 := wd_MD g h0 q0 z0_7) hP hD hS hA [0, 1, 2, 3, 4, 5, 6, 7, 8, 9, 10, 11, 12, 13, 14, 15, 16, 17, 18, 19, 20, 21, 22, 23, 24, 25, 26, 27, 28, 29, 30, 31] [] rfl rfl (by decide) (by decide) (va_runV (As := [.int r4]) (rest := []) ⟨hx, hb, hml, hown, hts⟩ (c_MD_want hG hGn l dC dI g F H.size h0 q0 x0 r4 hcl) (cwV 1 hts (gdV k5_229 k5_231 kp_32 k1_10 k5_232) rfl rfl rfl (by decide +kernel) ⟨Nat.le_of_ble_eq_true rfl, Nat.le_of_ble_eq_true rfl⟩) (kpV hG hP hK hD hS hA hGA [0, 1, 2, 3, 4, 5, 6, 7, 8, 9, 10, 11, 12, 13, 14, 15, 16, 17, 18, 19, 20, 21, 22, 23, 24, 25, 26, 27, 28, 29, 30, 31] (by decide) rfl (ci := 10) (q0 := 0) rfl rfl rfl) rfl rfl hl.1 rfl (lv_room (Nat.le_of_ble_eq_true rfl)) d_MD_takeStop_7 ⟨Nat.le_of_ble_eq_true rfl, Nat.le_of_ble_eq_true rfl⟩) (fun H locs hP hD hS => ?_)
  have hP : va_P (dC, dI) vwCl (wd_MD g h0 q0 z0_7) H := hP
  have hD : va_D A (wd_MD g h0 q0 z0_7) := hD
  refine lv_if_eq (tgt := 23) hx hb d_MD_takeStop_10 (by decide) (fun hc => ?_) (fun hc => ?_)
  · replace hm := if_t hm hc
    obtain rfl := Option.some.inj hm
    rw [hQ]
    exact krv hx hb hr hlocks hAe hP hK hD hS d_MD_takeStop_23
  · replace hm := if_f hm hc
    refine lv_aload_n hx hb d_MD_takeStop_13 rfl (lv_at hl 0 rfl) ?_
    refine lv_dup hx hb d_MD_takeStop_14 rfl ?_
    refine va_get (D := (dC, dI)) (ci := 10) (v := .int (z0_7 16 0)) (C := "AlarmMatrixModel") (T := T_MD) (N := 42) hx hb hts i_MD hown hK hP 0 rfl rfl 16 (by decide) (hts _ k5_36) (fun _ h9 => h9) rfl d_MD_takeStop_15 ?_
    refine lv_iconst (v := (1 : Int32)) hx hb d_MD_takeStop_18 (by decide) ?_
    refine lv_iadd hx hb d_MD_takeStop_19 ?_
    obtain ⟨e0_20, he, hm⟩ := lz_s hm
    refine va_put (D := (dC, dI)) (ci := 10) (v := .int ((z0_7 16 0) + (1 : Int32))) (ty := .int) (C := "AlarmMatrixModel") (T := T_MD) (N := 42) hx hb hts i_MD t_MD o_MD n_MD hown hK hP hD hS 0 rfl rfl 16 (by decide) (hts _ k5_36) (fun _ h9 => h9) rfl (by decide +kernel) rfl rfl (Nat.le_of_ble_eq_true rfl) d_MD_takeStop_20 (fun H locs hP hD hS => ?_)
    have hP : va_P (dC, dI) vwCl (wd_MD g h0 q0 e0_20) H := by rw [he]; exact hP
    have hD : va_D A (wd_MD g h0 q0 e0_20) := by rw [he]; exact hD
    obtain rfl := Option.some.inj hm
    rw [hQ]
    exact krv hx hb hr hlocks hAe hP hK hD hS d_MD_takeStop_23
abbrev b_MD_look : ByteArray := prog_12_method_21_code
abbrev y_MD_look : MethodName := ⟨"AlarmMatrixModel", "look", "(II)I"⟩
theorem d_MD_look_0 : decode b_MD_look 0 = .ok (.aload_n 0, 1) := by decide +kernel
theorem d_MD_look_1 : decode b_MD_look 1 = .ok (.getfield 160, 3) := by decide +kernel
theorem d_MD_look_4 : decode b_MD_look 4 = .ok (.aload_n 0, 1) := by decide +kernel
theorem d_MD_look_5 : decode b_MD_look 5 = .ok (.getfield 153, 3) := by decide +kernel
theorem d_MD_look_8 : decode b_MD_look 8 = .ok (.if_icmp .ge 52, 3) := by decide +kernel
theorem d_MD_look_11 : decode b_MD_look 11 = .ok (.aload_n 0, 1) := by decide +kernel
theorem d_MD_look_12 : decode b_MD_look 12 = .ok (.getfield 35, 3) := by decide +kernel
theorem d_MD_look_15 : decode b_MD_look 15 = .ok (.aload_n 0, 1) := by decide +kernel
theorem d_MD_look_16 : decode b_MD_look 16 = .ok (.getfield 38, 3) := by decide +kernel
theorem d_MD_look_19 : decode b_MD_look 19 = .ok (.aload_n 0, 1) := by decide +kernel
theorem d_MD_look_20 : decode b_MD_look 20 = .ok (.getfield 160, 3) := by decide +kernel
theorem d_MD_look_23 : decode b_MD_look 23 = .ok (.iaload, 1) := by decide +kernel
theorem d_MD_look_24 : decode b_MD_look 24 = .ok (.iaload, 1) := by decide +kernel
theorem d_MD_look_25 : decode b_MD_look 25 = .ok (.invokestatic 156, 3) := by decide +kernel
theorem d_MD_look_28 : decode b_MD_look 28 = .ok (.iconst 2, 1) := by decide +kernel
theorem d_MD_look_29 : decode b_MD_look 29 = .ok (.if_icmp .ne 31, 3) := by decide +kernel
theorem d_MD_look_32 : decode b_MD_look 32 = .ok (.aload_n 0, 1) := by decide +kernel
theorem d_MD_look_33 : decode b_MD_look 33 = .ok (.getfield 41, 3) := by decide +kernel
theorem d_MD_look_36 : decode b_MD_look 36 = .ok (.aload_n 0, 1) := by decide +kernel
theorem d_MD_look_37 : decode b_MD_look 37 = .ok (.getfield 160, 3) := by decide +kernel
theorem d_MD_look_40 : decode b_MD_look 40 = .ok (.iaload, 1) := by decide +kernel
theorem d_MD_look_41 : decode b_MD_look 41 = .ok (.aload_n 0, 1) := by decide +kernel
theorem d_MD_look_42 : decode b_MD_look 42 = .ok (.getfield 38, 3) := by decide +kernel
theorem d_MD_look_45 : decode b_MD_look 45 = .ok (.aload_n 0, 1) := by decide +kernel
theorem d_MD_look_46 : decode b_MD_look 46 = .ok (.getfield 160, 3) := by decide +kernel
theorem d_MD_look_49 : decode b_MD_look 49 = .ok (.iaload, 1) := by decide +kernel
theorem d_MD_look_50 : decode b_MD_look 50 = .ok (.isub, 1) := by decide +kernel
theorem d_MD_look_51 : decode b_MD_look 51 = .ok (.bipush 6, 2) := by decide +kernel
theorem d_MD_look_53 : decode b_MD_look 53 = .ok (.if_icmp .gt 7, 3) := by decide +kernel
theorem d_MD_look_56 : decode b_MD_look 56 = .ok (.iconst 1, 1) := by decide +kernel
theorem d_MD_look_57 : decode b_MD_look 57 = .ok (.goto 4, 3) := by decide +kernel
theorem d_MD_look_60 : decode b_MD_look 60 = .ok (.iconst 0, 1) := by decide +kernel
theorem d_MD_look_61 : decode b_MD_look 61 = .ok (.istore_n 3, 1) := by decide +kernel
theorem d_MD_look_62 : decode b_MD_look 62 = .ok (.iconst 0, 1) := by decide +kernel
theorem d_MD_look_63 : decode b_MD_look 63 = .ok (.istore 4, 2) := by decide +kernel
theorem d_MD_look_65 : decode b_MD_look 65 = .ok (.iload_n 3, 1) := by decide +kernel
theorem d_MD_look_66 : decode b_MD_look 66 = .ok (.ifCond .eq 15, 3) := by decide +kernel
theorem d_MD_look_69 : decode b_MD_look 69 = .ok (.aload_n 0, 1) := by decide +kernel
theorem d_MD_look_70 : decode b_MD_look 70 = .ok (.getfield 38, 3) := by decide +kernel
theorem d_MD_look_73 : decode b_MD_look 73 = .ok (.aload_n 0, 1) := by decide +kernel
theorem d_MD_look_74 : decode b_MD_look 74 = .ok (.getfield 160, 3) := by decide +kernel
theorem d_MD_look_77 : decode b_MD_look 77 = .ok (.iaload, 1) := by decide +kernel
theorem d_MD_look_78 : decode b_MD_look 78 = .ok (.goto 4, 3) := by decide +kernel
theorem d_MD_look_81 : decode b_MD_look 81 = .ok (.iconst 0, 1) := by decide +kernel
theorem d_MD_look_82 : decode b_MD_look 82 = .ok (.istore 5, 2) := by decide +kernel
theorem d_MD_look_84 : decode b_MD_look 84 = .ok (.iload_n 3, 1) := by decide +kernel
theorem d_MD_look_85 : decode b_MD_look 85 = .ok (.ifCond .eq 41, 3) := by decide +kernel
theorem d_MD_look_88 : decode b_MD_look 88 = .ok (.iload 5, 2) := by decide +kernel
theorem d_MD_look_90 : decode b_MD_look 90 = .ok (.aload_n 0, 1) := by decide +kernel
theorem d_MD_look_91 : decode b_MD_look 91 = .ok (.getfield 41, 3) := by decide +kernel
theorem d_MD_look_94 : decode b_MD_look 94 = .ok (.aload_n 0, 1) := by decide +kernel
theorem d_MD_look_95 : decode b_MD_look 95 = .ok (.getfield 160, 3) := by decide +kernel
theorem d_MD_look_98 : decode b_MD_look 98 = .ok (.iaload, 1) := by decide +kernel
theorem d_MD_look_99 : decode b_MD_look 99 = .ok (.if_icmp .ge 27, 3) := by decide +kernel
theorem d_MD_look_102 : decode b_MD_look 102 = .ok (.bipush 10, 2) := by decide +kernel
theorem d_MD_look_104 : decode b_MD_look 104 = .ok (.iload 4, 2) := by decide +kernel
theorem d_MD_look_106 : decode b_MD_look 106 = .ok (.imul, 1) := by decide +kernel
theorem d_MD_look_107 : decode b_MD_look 107 = .ok (.aload_n 0, 1) := by decide +kernel
theorem d_MD_look_108 : decode b_MD_look 108 = .ok (.getfield 35, 3) := by decide +kernel
theorem d_MD_look_111 : decode b_MD_look 111 = .ok (.iload 5, 2) := by decide +kernel
theorem d_MD_look_113 : decode b_MD_look 113 = .ok (.iaload, 1) := by decide +kernel
theorem d_MD_look_114 : decode b_MD_look 114 = .ok (.iadd, 1) := by decide +kernel
theorem d_MD_look_115 : decode b_MD_look 115 = .ok (.bipush 48, 2) := by decide +kernel
theorem d_MD_look_117 : decode b_MD_look 117 = .ok (.isub, 1) := by decide +kernel
theorem d_MD_look_118 : decode b_MD_look 118 = .ok (.istore 4, 2) := by decide +kernel
theorem d_MD_look_120 : decode b_MD_look 120 = .ok (.iinc 5 1, 3) := by decide +kernel
theorem d_MD_look_123 : decode b_MD_look 123 = .ok (.goto (-39), 3) := by decide +kernel
theorem d_MD_look_126 : decode b_MD_look 126 = .ok (.aload_n 0, 1) := by decide +kernel
theorem d_MD_look_127 : decode b_MD_look 127 = .ok (.iload_n 3, 1) := by decide +kernel
theorem d_MD_look_128 : decode b_MD_look 128 = .ok (.ifCond .eq 19, 3) := by decide +kernel
theorem d_MD_look_131 : decode b_MD_look 131 = .ok (.iload 4, 2) := by decide +kernel
theorem d_MD_look_133 : decode b_MD_look 133 = .ok (.iload_n 1, 1) := by decide +kernel
theorem d_MD_look_134 : decode b_MD_look 134 = .ok (.if_icmp .lt 13, 3) := by decide +kernel
theorem d_MD_look_137 : decode b_MD_look 137 = .ok (.iload 4, 2) := by decide +kernel
theorem d_MD_look_139 : decode b_MD_look 139 = .ok (.iload_n 2, 1) := by decide +kernel
theorem d_MD_look_140 : decode b_MD_look 140 = .ok (.if_icmp .gt 7, 3) := by decide +kernel
theorem d_MD_look_143 : decode b_MD_look 143 = .ok (.iconst 1, 1) := by decide +kernel
theorem d_MD_look_144 : decode b_MD_look 144 = .ok (.goto 4, 3) := by decide +kernel
theorem d_MD_look_147 : decode b_MD_look 147 = .ok (.iconst 0, 1) := by decide +kernel
theorem d_MD_look_148 : decode b_MD_look 148 = .ok (.invokevirtual 170, 3) := by decide +kernel
theorem d_MD_look_151 : decode b_MD_look 151 = .ok (.ifCond .eq 8, 3) := by decide +kernel
theorem d_MD_look_154 : decode b_MD_look 154 = .ok (.iload 4, 2) := by decide +kernel
theorem d_MD_look_156 : decode b_MD_look 156 = .ok (.goto 4, 3) := by decide +kernel
theorem d_MD_look_159 : decode b_MD_look 159 = .ok (.iconst (-1), 1) := by decide +kernel
theorem d_MD_look_160 : decode b_MD_look 160 = .ok (.ireturn, 1) := by decide +kernel
def m_MD_look_B84 {R : Type} (F : Nat) (s0_61 : Int32) (t0_61 : St) (k84_126 : Int32 → Int32 → Option R) (rec84 : Int32 → Int32 → Option R) (v4_84 : Int32) (v5_84 : Int32) : Option R :=
  (if s0_61 = (0 : Int32) then (k84_126 v4_84 v5_84) else (ck (t0_61 16 0) 2000 (if ((t0_61 15) (t0_61 16 0).toNatClampNeg) ≤ v5_84 then (k84_126 v4_84 v5_84) else (ck v5_84 2000 (rec84 ((((10 : Int32) * v4_84) + ((t0_61 11) v5_84.toNatClampNeg)) - (48 : Int32)) (v5_84 + (1 : Int32)))))))
theorem m_MD_look_B84_h {R : Type} {F : Nat} {s0_61 : Int32} {t0_61 : St} {k84_126 : Int32 → Int32 → Option R} {rec84 : Int32 → Int32 → Option R} {v4_84 : Int32} {v5_84 : Int32} {o : R} (h : m_MD_look_B84 F s0_61 t0_61 k84_126 rec84 v4_84 v5_84 = some o) :
  (if s0_61 = (0 : Int32) then (k84_126 v4_84 v5_84) else (ck (t0_61 16 0) 2000 (if ((t0_61 15) (t0_61 16 0).toNatClampNeg) ≤ v5_84 then (k84_126 v4_84 v5_84) else (ck v5_84 2000 (rec84 ((((10 : Int32) * v4_84) + ((t0_61 11) v5_84.toNatClampNeg)) - (48 : Int32)) (v5_84 + (1 : Int32))))))) = some o := h
def m_MD_look_J61 (F : Nat) (a1 : Int32) (a2 : Int32) (s0_61 : Int32) (t0_61 : St) : Option (Int32 × St) :=
  (if s0_61 = (0 : Int32) then (lq2 (m_MD_look_B84 F s0_61 t0_61 (fun v4_84 v5_84 => (if s0_61 = (0 : Int32) then (bn2 (m_MD_want F t0_61 (0 : Int32)) (fun r148 z0_148 => (if r148 = (0 : Int32) then (some ((-1 : Int32), z0_148)) else (some (v4_84, z0_148))))) else (if v4_84 < a1 then (bn2 (m_MD_want F t0_61 (0 : Int32)) (fun r148 z0_148 => (if r148 = (0 : Int32) then (some ((-1 : Int32), z0_148)) else (some (v4_84, z0_148))))) else (if a2 < v4_84 then (bn2 (m_MD_want F t0_61 (0 : Int32)) (fun r148 z0_148 => (if r148 = (0 : Int32) then (some ((-1 : Int32), z0_148)) else (some (v4_84, z0_148))))) else (bn2 (m_MD_want F t0_61 (1 : Int32)) (fun r148 z0_148 => (if r148 = (0 : Int32) then (some ((-1 : Int32), z0_148)) else (some (v4_84, z0_148)))))))))) F (0 : Int32) (0 : Int32)) else (ck (t0_61 16 0) 2000 (lq2 (m_MD_look_B84 F s0_61 t0_61 (fun v4_84 v5_84 => (if s0_61 = (0 : Int32) then (bn2 (m_MD_want F t0_61 (0 : Int32)) (fun r148 z0_148 => (if r148 = (0 : Int32) then (some ((-1 : Int32), z0_148)) else (some (v4_84, z0_148))))) else (if v4_84 < a1 then (bn2 (m_MD_want F t0_61 (0 : Int32)) (fun r148 z0_148 => (if r148 = (0 : Int32) then (some ((-1 : Int32), z0_148)) else (some (v4_84, z0_148))))) else (if a2 < v4_84 then (bn2 (m_MD_want F t0_61 (0 : Int32)) (fun r148 z0_148 => (if r148 = (0 : Int32) then (some ((-1 : Int32), z0_148)) else (some (v4_84, z0_148))))) else (bn2 (m_MD_want F t0_61 (1 : Int32)) (fun r148 z0_148 => (if r148 = (0 : Int32) then (some ((-1 : Int32), z0_148)) else (some (v4_84, z0_148)))))))))) F (0 : Int32) ((t0_61 14) (t0_61 16 0).toNatClampNeg))))
theorem m_MD_look_J61_h {F : Nat} {a1 : Int32} {a2 : Int32} {s0_61 : Int32} {t0_61 : St} {o : (Int32 × St)} (h : m_MD_look_J61 F a1 a2 s0_61 t0_61 = some o) :
  (if s0_61 = (0 : Int32) then (lq2 (m_MD_look_B84 F s0_61 t0_61 (fun v4_84 v5_84 => (if s0_61 = (0 : Int32) then (bn2 (m_MD_want F t0_61 (0 : Int32)) (fun r148 z0_148 => (if r148 = (0 : Int32) then (some ((-1 : Int32), z0_148)) else (some (v4_84, z0_148))))) else (if v4_84 < a1 then (bn2 (m_MD_want F t0_61 (0 : Int32)) (fun r148 z0_148 => (if r148 = (0 : Int32) then (some ((-1 : Int32), z0_148)) else (some (v4_84, z0_148))))) else (if a2 < v4_84 then (bn2 (m_MD_want F t0_61 (0 : Int32)) (fun r148 z0_148 => (if r148 = (0 : Int32) then (some ((-1 : Int32), z0_148)) else (some (v4_84, z0_148))))) else (bn2 (m_MD_want F t0_61 (1 : Int32)) (fun r148 z0_148 => (if r148 = (0 : Int32) then (some ((-1 : Int32), z0_148)) else (some (v4_84, z0_148)))))))))) F (0 : Int32) (0 : Int32)) else (ck (t0_61 16 0) 2000 (lq2 (m_MD_look_B84 F s0_61 t0_61 (fun v4_84 v5_84 => (if s0_61 = (0 : Int32) then (bn2 (m_MD_want F t0_61 (0 : Int32)) (fun r148 z0_148 => (if r148 = (0 : Int32) then (some ((-1 : Int32), z0_148)) else (some (v4_84, z0_148))))) else (if v4_84 < a1 then (bn2 (m_MD_want F t0_61 (0 : Int32)) (fun r148 z0_148 => (if r148 = (0 : Int32) then (some ((-1 : Int32), z0_148)) else (some (v4_84, z0_148))))) else (if a2 < v4_84 then (bn2 (m_MD_want F t0_61 (0 : Int32)) (fun r148 z0_148 => (if r148 = (0 : Int32) then (some ((-1 : Int32), z0_148)) else (some (v4_84, z0_148))))) else (bn2 (m_MD_want F t0_61 (1 : Int32)) (fun r148 z0_148 => (if r148 = (0 : Int32) then (some ((-1 : Int32), z0_148)) else (some (v4_84, z0_148)))))))))) F (0 : Int32) ((t0_61 14) (t0_61 16 0).toNatClampNeg)))) = some o := h
def m_MD_look (F : Nat) (x0 : St) (a1 : Int32) (a2 : Int32) : Option (Int32 × St) :=
  (if (x0 13 0) ≤ (x0 16 0) then (m_MD_look_J61 F a1 a2  (0 : Int32) x0) else (ck (x0 16 0) 2000 (ck ((x0 14) (x0 16 0).toNatClampNeg) 2000 (bn1 (m_MD_sort F ((x0 11) ((x0 14) (x0 16 0).toNatClampNeg).toNatClampNeg)) (fun r25 => (if r25 = (2 : Int32) then (ck (x0 16 0) 2000 (ck (x0 16 0) 2000 (if (6 : Int32) < (((x0 15) (x0 16 0).toNatClampNeg) - ((x0 14) (x0 16 0).toNatClampNeg)) then (m_MD_look_J61 F a1 a2  (0 : Int32) x0) else (m_MD_look_J61 F a1 a2  (1 : Int32) x0)))) else (m_MD_look_J61 F a1 a2  (0 : Int32) x0)))))))
abbrev rm_MD_look : Room := { frames := 1, cells := 0, slots := 0, locals := 21 }
set_option maxHeartbeats 4000000 in
set_option maxRecDepth 100000 in
theorem c_MD_look {G : (Nat → Prop) → State → Prop} (hG : gok G) (hGn : gN G) (l : Launch) (dC : Nat → ClassId) (dI : Nat → Nat → Nat) (g : Nat → ClassId) (F : Nat) (sz : Nat) (h0 : Nat) (q0 : Nat → Nat) (x0 : St) (a1 : Int32) (a2 : Int32) {o : Int32 × St} (hm : m_MD_look F x0 a1 a2 = some o) : Met l y_MD_look (.code y_MD_look b_MD_look 6 (some .int) :: gw) rm_MD_look (kq (dC, dI) vwCl (tyv g) G [.ref h0, .int a1, .int a2] sz (wd_MD g h0 q0 x0)) (kqi (dC, dI) vwCl (tyv g) (wd_MD g h0 q0 x0) o.1 (wd_MD g h0 q0 (o.2)) sz) 0 0 (va_A (wd_MD g h0 q0 x0) sz) := by
  unfold m_MD_look at hm
  refine km (Qc := fun sz => kqi (dC, dI) vwCl (tyv g) (wd_MD g h0 q0 x0) o.1 (wd_MD g h0 q0 (o.2)) sz) (cc := b_MD_look) (maxL := 6) (ret := some .int) (by decide) rfl (Nat.le_of_ble_eq_true rfl) ?_
  intro p e s m args below meth c Q hQ hx hb hr hts hown hlocks hml hnm H locs A hAe hA hP hK hD hS hGA ls hl
  have hl : lv_has ls 6 [(0, .ref h0), (1, .int a1), (2, .int a2)] := hl
  have hts : ∀ w ∈ gw, w.before args s = true := fun w h => hts w (List.mem_cons_of_mem _ h)
  have hown : s.vm.findClass "AlarmMatrixModel" = some m.cls := hown
  have J61 : ∀ (s0_61 : Int32) (t0_61 : St) (H : Heap) (locs : List Loc) (ls : Array Slot), m_MD_look_J61 F a1 a2  s0_61 t0_61 = some o → va_P (dC, dI) vwCl (wd_MD g h0 q0 t0_61) H → va_D A (wd_MD g h0 q0 t0_61) → va_S A s.heap H locs → lv_has ls 6 [(0, .ref h0), (1, .int a1), (2, .int a2)] → W p l e rm_MD_look s m args below meth c H locs 0 0 Q (F0 m 61 ls [.int s0_61]) := by
    intro s0_61 t0_61 H locs ls hm hP hD hS hl
    replace hm := m_MD_look_J61_h hm
    refine lv_istore_n (lv' := [(3, .int s0_61), (0, .ref h0), (1, .int a1), (2, .int a2)]) hx hb d_MD_look_61 rfl hl (by decide) rfl (fun ls hl => ?_)
    refine lv_iconst (v := (0 : Int32)) hx hb d_MD_look_62 (by decide) ?_
    refine lv_istore (lv' := [(4, .int (0 : Int32)), (3, .int s0_61), (0, .ref h0), (1, .int a1), (2, .int a2)]) hx hb d_MD_look_63 hl (by decide) rfl (fun ls hl => ?_)
    refine lv_iload_n hx hb d_MD_look_65 rfl (lv_at hl 1 rfl) ?_
    refine lv_if_eq (tgt := 81) hx hb d_MD_look_66 (by decide) (fun hc => ?_) (fun hc => ?_)
    · replace hm := if_t hm hc
      refine lv_iconst (v := (0 : Int32)) hx hb d_MD_look_81 (by decide) ?_
      refine lv_istore (lv' := [(5, .int (0 : Int32)), (4, .int (0 : Int32)), (3, .int s0_61), (0, .ref h0), (1, .int a1), (2, .int a2)]) hx hb d_MD_look_82 hl (by decide) rfl (fun ls hl => ?_)
      have L84 : ∀ (n84 : Nat) (v4_84 : Int32) (v5_84 : Int32) (H : Heap) (locs : List Loc) (ls : Array Slot), lq2 (m_MD_look_B84 F s0_61 t0_61 (fun v4_84 v5_84 => (if s0_61 = (0 : Int32) then (bn2 (m_MD_want F t0_61 (0 : Int32)) (fun r148 z0_148 => (if r148 = (0 : Int32) then (some ((-1 : Int32), z0_148)) else (some (v4_84, z0_148))))) else (if v4_84 < a1 then (bn2 (m_MD_want F t0_61 (0 : Int32)) (fun r148 z0_148 => (if r148 = (0 : Int32) then (some ((-1 : Int32), z0_148)) else (some (v4_84, z0_148))))) else (if a2 < v4_84 then (bn2 (m_MD_want F t0_61 (0 : Int32)) (fun r148 z0_148 => (if r148 = (0 : Int32) then (some ((-1 : Int32), z0_148)) else (some (v4_84, z0_148))))) else (bn2 (m_MD_want F t0_61 (1 : Int32)) (fun r148 z0_148 => (if r148 = (0 : Int32) then (some ((-1 : Int32), z0_148)) else (some (v4_84, z0_148)))))))))) n84 v4_84 v5_84 = some o → va_P (dC, dI) vwCl (wd_MD g h0 q0 t0_61) H → va_D A (wd_MD g h0 q0 t0_61) → va_S A s.heap H locs → lv_has ls 6 [(0, .ref h0), (1, .int a1), (2, .int a2), (3, .int s0_61), (4, .int v4_84), (5, .int v5_84)] → W p l e rm_MD_look s m args below meth c H locs 0 0 Q (F0 m 84 ls []) := by
        intro n84
        induction n84 with
        | zero => intro v4_84 v5_84 H locs ls hm; exact absurd hm (by intro z; cases z)
        | succ n84 ih84 =>
          intro v4_84 v5_84 H locs ls hm hP hD hS hl
          replace hm := m_MD_look_B84_h (lq2_h hm)
          refine lv_iload_n hx hb d_MD_look_84 rfl (lv_at hl 3 rfl) ?_
          refine lv_if_eq (tgt := 126) hx hb d_MD_look_85 (by decide) (fun hc => ?_) (fun hc => ?_)
          · replace hm := if_t hm hc
            refine lv_aload_n hx hb d_MD_look_126 rfl (lv_at hl 0 rfl) ?_
            refine lv_iload_n hx hb d_MD_look_127 rfl (lv_at hl 3 rfl) ?_
            refine lv_if_eq (tgt := 147) hx hb d_MD_look_128 (by decide) (fun hc => ?_) (fun hc => ?_)
            · replace hm := if_t hm hc
              refine lv_iconst (v := (0 : Int32)) hx hb d_MD_look_147 (by decide) ?_
              obtain ⟨r148, z0_148, hcl, hm⟩ := bn2_s hm
              refine kci (wc := wd_MD g h0 q0 t0_61) (wr := ([] : va_W)) (w1 := wd_MD g h0 q0 z0_148) hP hD hS hA [0, 1, 2, 3, 4, 5, 6, 7, 8, 9, 10, 11, 12, 13, 14, 15, 16, 17, 18, 19, 20, 21, 22, 23, 24, 25, 26, 27, 28, 29, 30, 31] [] rfl rfl (by decide) (by decide) (va_runV (As := [.int (0 : Int32)]) (rest := []) ⟨hx, hb, hml, hown, hts⟩ (c_MD_want hG hGn l dC dI g F H.size h0 q0 t0_61 (0 : Int32) hcl) (cwV 1 hts (gdV k5_229 k5_231 kp_32 k1_10 k5_232) rfl rfl rfl (by decide +kernel) ⟨Nat.le_of_ble_eq_true rfl, Nat.le_of_ble_eq_true rfl⟩) (kpV hG hP hK hD hS hA hGA [0, 1, 2, 3, 4, 5, 6, 7, 8, 9, 10, 11, 12, 13, 14, 15, 16, 17, 18, 19, 20, 21, 22, 23, 24, 25, 26, 27, 28, 29, 30, 31] (by decide) rfl (ci := 10) (q0 := 0) rfl rfl rfl) rfl rfl hl.1 rfl (lv_room (Nat.le_of_ble_eq_true rfl)) d_MD_look_148 ⟨Nat.le_of_ble_eq_true rfl, Nat.le_of_ble_eq_true rfl⟩) (fun H locs hP hD hS => ?_)
              have hP : va_P (dC, dI) vwCl (wd_MD g h0 q0 z0_148) H := hP
              have hD : va_D A (wd_MD g h0 q0 z0_148) := hD
              refine lv_if_eq (tgt := 159) hx hb d_MD_look_151 (by decide) (fun hc => ?_) (fun hc => ?_)
              · replace hm := if_t hm hc
                refine lv_iconst (v := (-1 : Int32)) hx hb d_MD_look_159 (by decide) ?_
                obtain rfl := Option.some.inj hm
                rw [hQ]
                exact kri hx hb hr hlocks hAe hP hK hD hS d_MD_look_160
              · replace hm := if_f hm hc
                refine lv_iload hx hb d_MD_look_154 (lv_at hl 4 rfl) ?_
                refine lv_goto (tgt := 160) hx hb d_MD_look_156 (by decide) ?_
                obtain rfl := Option.some.inj hm
                rw [hQ]
                exact kri hx hb hr hlocks hAe hP hK hD hS d_MD_look_160
            · replace hm := if_f hm hc
              refine lv_iload hx hb d_MD_look_131 (lv_at hl 4 rfl) ?_
              refine lv_iload_n hx hb d_MD_look_133 rfl (lv_at hl 1 rfl) ?_
              refine lv_icmp_lt (tgt := 147) hx hb d_MD_look_134 (by decide) (fun hc => ?_) (fun hc => ?_)
              · replace hm := if_t hm hc
                refine lv_iconst (v := (0 : Int32)) hx hb d_MD_look_147 (by decide) ?_
                obtain ⟨r148, z0_148, hcl, hm⟩ := bn2_s hm
                refine kci (wc := wd_MD g h0 q0 t0_61) (wr := ([] : va_W)) (w1 := wd_MD g h0 q0 z0_148) hP hD hS hA [0, 1, 2, 3, 4, 5, 6, 7, 8, 9, 10, 11, 12, 13, 14, 15, 16, 17, 18, 19, 20, 21, 22, 23, 24, 25, 26, 27, 28, 29, 30, 31] [] rfl rfl (by decide) (by decide) (va_runV (As := [.int (0 : Int32)]) (rest := []) ⟨hx, hb, hml, hown, hts⟩ (c_MD_want hG hGn l dC dI g F H.size h0 q0 t0_61 (0 : Int32) hcl) (cwV 1 hts (gdV k5_229 k5_231 kp_32 k1_10 k5_232) rfl rfl rfl (by decide +kernel) ⟨Nat.le_of_ble_eq_true rfl, Nat.le_of_ble_eq_true rfl⟩) (kpV hG hP hK hD hS hA hGA [0, 1, 2, 3, 4, 5, 6, 7, 8, 9, 10, 11, 12, 13, 14, 15, 16, 17, 18, 19, 20, 21, 22, 23, 24, 25, 26, 27, 28, 29, 30, 31] (by decide) rfl (ci := 10) (q0 := 0) rfl rfl rfl) rfl rfl hl.1 rfl (lv_room (Nat.le_of_ble_eq_true rfl)) d_MD_look_148 ⟨Nat.le_of_ble_eq_true rfl, Nat.le_of_ble_eq_true rfl⟩) (fun H locs hP hD hS => ?_)
                have hP : va_P (dC, dI) vwCl (wd_MD g h0 q0 z0_148) H := hP
                have hD : va_D A (wd_MD g h0 q0 z0_148) := hD
                refine lv_if_eq (tgt := 159) hx hb d_MD_look_151 (by decide) (fun hc => ?_) (fun hc => ?_)
                · replace hm := if_t hm hc
                  refine lv_iconst (v := (-1 : Int32)) hx hb d_MD_look_159 (by decide) ?_
                  obtain rfl := Option.some.inj hm
                  rw [hQ]
                  exact kri hx hb hr hlocks hAe hP hK hD hS d_MD_look_160
                · replace hm := if_f hm hc
                  refine lv_iload hx hb d_MD_look_154 (lv_at hl 4 rfl) ?_
                  refine lv_goto (tgt := 160) hx hb d_MD_look_156 (by decide) ?_
                  obtain rfl := Option.some.inj hm
                  rw [hQ]
                  exact kri hx hb hr hlocks hAe hP hK hD hS d_MD_look_160
              · replace hm := if_f hm hc
                refine lv_iload hx hb d_MD_look_137 (lv_at hl 4 rfl) ?_
                refine lv_iload_n hx hb d_MD_look_139 rfl (lv_at hl 2 rfl) ?_
                refine lv_icmp_gt (tgt := 147) hx hb d_MD_look_140 (by decide) (fun hc => ?_) (fun hc => ?_)
                · replace hm := if_t hm hc
                  refine lv_iconst (v := (0 : Int32)) hx hb d_MD_look_147 (by decide) ?_
                  obtain ⟨r148, z0_148, hcl, hm⟩ := bn2_s hm
                  refine kci (wc := wd_MD g h0 q0 t0_61) (wr := ([] : va_W)) (w1 := wd_MD g h0 q0 z0_148) hP hD hS hA [0, 1, 2, 3, 4, 5, 6, 7, 8, 9, 10, 11, 12, 13, 14, 15, 16, 17, 18, 19, 20, 21, 22, 23, 24, 25, 26, 27, 28, 29, 30, 31] [] rfl rfl (by decide) (by decide) (va_runV (As := [.int (0 : Int32)]) (rest := []) ⟨hx, hb, hml, hown, hts⟩ (c_MD_want hG hGn l dC dI g F H.size h0 q0 t0_61 (0 : Int32) hcl) (cwV 1 hts (gdV k5_229 k5_231 kp_32 k1_10 k5_232) rfl rfl rfl (by decide +kernel) ⟨Nat.le_of_ble_eq_true rfl, Nat.le_of_ble_eq_true rfl⟩) (kpV hG hP hK hD hS hA hGA [0, 1, 2, 3, 4, 5, 6, 7, 8, 9, 10, 11, 12, 13, 14, 15, 16, 17, 18, 19, 20, 21, 22, 23, 24, 25, 26, 27, 28, 29, 30, 31] (by decide) rfl (ci := 10) (q0 := 0) rfl rfl rfl) rfl rfl hl.1 rfl (lv_room (Nat.le_of_ble_eq_true rfl)) d_MD_look_148 ⟨Nat.le_of_ble_eq_true rfl, Nat.le_of_ble_eq_true rfl⟩) (fun H locs hP hD hS => ?_)
                  have hP : va_P (dC, dI) vwCl (wd_MD g h0 q0 z0_148) H := hP
                  have hD : va_D A (wd_MD g h0 q0 z0_148) := hD
                  refine lv_if_eq (tgt := 159) hx hb d_MD_look_151 (by decide) (fun hc => ?_) (fun hc => ?_)
                  · replace hm := if_t hm hc
                    refine lv_iconst (v := (-1 : Int32)) hx hb d_MD_look_159 (by decide) ?_
                    obtain rfl := Option.some.inj hm
                    rw [hQ]
                    exact kri hx hb hr hlocks hAe hP hK hD hS d_MD_look_160
                  · replace hm := if_f hm hc
                    refine lv_iload hx hb d_MD_look_154 (lv_at hl 4 rfl) ?_
                    refine lv_goto (tgt := 160) hx hb d_MD_look_156 (by decide) ?_
                    obtain rfl := Option.some.inj hm
                    rw [hQ]
                    exact kri hx hb hr hlocks hAe hP hK hD hS d_MD_look_160
                · replace hm := if_f hm hc
                  refine lv_iconst (v := (1 : Int32)) hx hb d_MD_look_143 (by decide) ?_
                  refine lv_goto (tgt := 148) hx hb d_MD_look_144 (by decide) ?_
                  obtain ⟨r148, z0_148, hcl, hm⟩ := bn2_s hm
                  refine kci (wc := wd_MD g h0 q0 t0_61) (wr := ([] : va_W)) (w1 := wd_MD g h0 q0 z0_148) hP hD hS hA [0, 1, 2, 3, 4, 5, 6, 7, 8, 9, 10, 11, 12, 13, 14, 15, 16, 17, 18, 19, 20, 21, 22, 23, 24, 25, 26, 27, 28, 29, 30, 31] [] rfl rfl (by decide) (by decide) (va_runV (As := [.int (1 : Int32)]) (rest := []) ⟨hx, hb, hml, hown, hts⟩ (c_MD_want hG hGn l dC dI g F H.size h0 q0 t0_61 (1 : Int32) hcl) (cwV 1 hts (gdV k5_229 k5_231 kp_32 k1_10 k5_232) rfl rfl rfl (by decide +kernel) ⟨Nat.le_of_ble_eq_true rfl, Nat.le_of_ble_eq_true rfl⟩) (kpV hG hP hK hD hS hA hGA [0, 1, 2, 3, 4, 5, 6, 7, 8, 9, 10, 11, 12, 13, 14, 15, 16, 17, 18, 19, 20, 21, 22, 23, 24, 25, 26, 27, 28, 29, 30, 31] (by decide) rfl (ci := 10) (q0 := 0) rfl rfl rfl) rfl rfl hl.1 rfl (lv_room (Nat.le_of_ble_eq_true rfl)) d_MD_look_148 ⟨Nat.le_of_ble_eq_true rfl, Nat.le_of_ble_eq_true rfl⟩) (fun H locs hP hD hS => ?_)
                  have hP : va_P (dC, dI) vwCl (wd_MD g h0 q0 z0_148) H := hP
                  have hD : va_D A (wd_MD g h0 q0 z0_148) := hD
                  refine lv_if_eq (tgt := 159) hx hb d_MD_look_151 (by decide) (fun hc => ?_) (fun hc => ?_)
                  · replace hm := if_t hm hc
                    refine lv_iconst (v := (-1 : Int32)) hx hb d_MD_look_159 (by decide) ?_
                    obtain rfl := Option.some.inj hm
                    rw [hQ]
                    exact kri hx hb hr hlocks hAe hP hK hD hS d_MD_look_160
                  · replace hm := if_f hm hc
                    refine lv_iload hx hb d_MD_look_154 (lv_at hl 4 rfl) ?_
                    refine lv_goto (tgt := 160) hx hb d_MD_look_156 (by decide) ?_
                    obtain rfl := Option.some.inj hm
                    rw [hQ]
                    exact kri hx hb hr hlocks hAe hP hK hD hS d_MD_look_160
          · replace hm := if_f hm hc
            refine lv_iload hx hb d_MD_look_88 (lv_at hl 5 rfl) ?_
            refine lv_aload_n hx hb d_MD_look_90 rfl (lv_at hl 0 rfl) ?_
            refine va_get (D := (dC, dI)) (ci := 10) (v := .ref (q0 15)) (C := "AlarmMatrixModel") (T := T_MD) (N := 42) hx hb hts i_MD hown hK hP 0 rfl rfl 15 (by decide) (hts _ k5_35) (fun _ h9 => h9) rfl d_MD_look_91 ?_
            refine lv_aload_n hx hb d_MD_look_94 rfl (lv_at hl 0 rfl) ?_
            refine va_get (D := (dC, dI)) (ci := 10) (v := .int (t0_61 16 0)) (C := "AlarmMatrixModel") (T := T_MD) (N := 42) hx hb hts i_MD hown hK hP 0 rfl rfl 16 (by decide) (hts _ k5_36) (fun _ h9 => h9) rfl d_MD_look_95 ?_
            obtain ⟨h_98, hm⟩ := ck_s hm
            refine va_iald (f := (t0_61 15)) hx hb hK hP 11 0 rfl rfl h_98 d_MD_look_98 ?_
            refine lv_icmp_ge (tgt := 126) hx hb d_MD_look_99 (by decide) (fun hc => ?_) (fun hc => ?_)
            · replace hm := if_t hm hc
              refine lv_aload_n hx hb d_MD_look_126 rfl (lv_at hl 0 rfl) ?_
              refine lv_iload_n hx hb d_MD_look_127 rfl (lv_at hl 3 rfl) ?_
              refine lv_if_eq (tgt := 147) hx hb d_MD_look_128 (by decide) (fun hc => ?_) (fun hc => ?_)
              · replace hm := if_t hm hc
                refine lv_iconst (v := (0 : Int32)) hx hb d_MD_look_147 (by decide) ?_
                obtain ⟨r148, z0_148, hcl, hm⟩ := bn2_s hm
                refine kci (wc := wd_MD g h0 q0 t0_61) (wr := ([] : va_W)) (w1 := wd_MD g h0 q0 z0_148) hP hD hS hA [0, 1, 2, 3, 4, 5, 6, 7, 8, 9, 10, 11, 12, 13, 14, 15, 16, 17, 18, 19, 20, 21, 22, 23, 24, 25, 26, 27, 28, 29, 30, 31] [] rfl rfl (by decide) (by decide) (va_runV (As := [.int (0 : Int32)]) (rest := []) ⟨hx, hb, hml, hown, hts⟩ (c_MD_want hG hGn l dC dI g F H.size h0 q0 t0_61 (0 : Int32) hcl) (cwV 1 hts (gdV k5_229 k5_231 kp_32 k1_10 k5_232) rfl rfl rfl (by decide +kernel) ⟨Nat.le_of_ble_eq_true rfl, Nat.le_of_ble_eq_true rfl⟩) (kpV hG hP hK hD hS hA hGA [0, 1, 2, 3, 4, 5, 6, 7, 8, 9, 10, 11, 12, 13, 14, 15, 16, 17, 18, 19, 20, 21, 22, 23, 24, 25, 26, 27, 28, 29, 30, 31] (by decide) rfl (ci := 10) (q0 := 0) rfl rfl rfl) rfl rfl hl.1 rfl (lv_room (Nat.le_of_ble_eq_true rfl)) d_MD_look_148 ⟨Nat.le_of_ble_eq_true rfl, Nat.le_of_ble_eq_true rfl⟩) (fun H locs hP hD hS => ?_)
                have hP : va_P (dC, dI) vwCl (wd_MD g h0 q0 z0_148) H := hP
                have hD : va_D A (wd_MD g h0 q0 z0_148) := hD
                refine lv_if_eq (tgt := 159) hx hb d_MD_look_151 (by decide) (fun hc => ?_) (fun hc => ?_)
                · replace hm := if_t hm hc
                  refine lv_iconst (v := (-1 : Int32)) hx hb d_MD_look_159 (by decide) ?_
                  obtain rfl := Option.some.inj hm
                  rw [hQ]
                  exact kri hx hb hr hlocks hAe hP hK hD hS d_MD_look_160
                · replace hm := if_f hm hc
                  refine lv_iload hx hb d_MD_look_154 (lv_at hl 4 rfl) ?_
                  refine lv_goto (tgt := 160) hx hb d_MD_look_156 (by decide) ?_
                  obtain rfl := Option.some.inj hm
                  rw [hQ]
                  exact kri hx hb hr hlocks hAe hP hK hD hS d_MD_look_160
              · replace hm := if_f hm hc
                refine lv_iload hx hb d_MD_look_131 (lv_at hl 4 rfl) ?_
                refine lv_iload_n hx hb d_MD_look_133 rfl (lv_at hl 1 rfl) ?_
                refine lv_icmp_lt (tgt := 147) hx hb d_MD_look_134 (by decide) (fun hc => ?_) (fun hc => ?_)
                · replace hm := if_t hm hc
                  refine lv_iconst (v := (0 : Int32)) hx hb d_MD_look_147 (by decide) ?_
                  obtain ⟨r148, z0_148, hcl, hm⟩ := bn2_s hm
                  refine kci (wc := wd_MD g h0 q0 t0_61) (wr := ([] : va_W)) (w1 := wd_MD g h0 q0 z0_148) hP hD hS hA [0, 1, 2, 3, 4, 5, 6, 7, 8, 9, 10, 11, 12, 13, 14, 15, 16, 17, 18, 19, 20, 21, 22, 23, 24, 25, 26, 27, 28, 29, 30, 31] [] rfl rfl (by decide) (by decide) (va_runV (As := [.int (0 : Int32)]) (rest := []) ⟨hx, hb, hml, hown, hts⟩ (c_MD_want hG hGn l dC dI g F H.size h0 q0 t0_61 (0 : Int32) hcl) (cwV 1 hts (gdV k5_229 k5_231 kp_32 k1_10 k5_232) rfl rfl rfl (by decide +kernel) ⟨Nat.le_of_ble_eq_true rfl, Nat.le_of_ble_eq_true rfl⟩) (kpV hG hP hK hD hS hA hGA [0, 1, 2, 3, 4, 5, 6, 7, 8, 9, 10, 11, 12, 13, 14, 15, 16, 17, 18, 19, 20, 21, 22, 23, 24, 25, 26, 27, 28, 29, 30, 31] (by decide) rfl (ci := 10) (q0 := 0) rfl rfl rfl) rfl rfl hl.1 rfl (lv_room (Nat.le_of_ble_eq_true rfl)) d_MD_look_148 ⟨Nat.le_of_ble_eq_true rfl, Nat.le_of_ble_eq_true rfl⟩) (fun H locs hP hD hS => ?_)
                  have hP : va_P (dC, dI) vwCl (wd_MD g h0 q0 z0_148) H := hP
                  have hD : va_D A (wd_MD g h0 q0 z0_148) := hD
                  refine lv_if_eq (tgt := 159) hx hb d_MD_look_151 (by decide) (fun hc => ?_) (fun hc => ?_)
                  · replace hm := if_t hm hc
                    refine lv_iconst (v := (-1 : Int32)) hx hb d_MD_look_159 (by decide) ?_
                    obtain rfl := Option.some.inj hm
                    rw [hQ]
                    exact kri hx hb hr hlocks hAe hP hK hD hS d_MD_look_160
                  · replace hm := if_f hm hc
                    refine lv_iload hx hb d_MD_look_154 (lv_at hl 4 rfl) ?_
                    refine lv_goto (tgt := 160) hx hb d_MD_look_156 (by decide) ?_
                    obtain rfl := Option.some.inj hm
                    rw [hQ]
                    exact kri hx hb hr hlocks hAe hP hK hD hS d_MD_look_160
                · replace hm := if_f hm hc
                  refine lv_iload hx hb d_MD_look_137 (lv_at hl 4 rfl) ?_
                  refine lv_iload_n hx hb d_MD_look_139 rfl (lv_at hl 2 rfl) ?_
                  refine lv_icmp_gt (tgt := 147) hx hb d_MD_look_140 (by decide) (fun hc => ?_) (fun hc => ?_)
                  · replace hm := if_t hm hc
                    refine lv_iconst (v := (0 : Int32)) hx hb d_MD_look_147 (by decide) ?_
                    obtain ⟨r148, z0_148, hcl, hm⟩ := bn2_s hm
                    refine kci (wc := wd_MD g h0 q0 t0_61) (wr := ([] : va_W)) (w1 := wd_MD g h0 q0 z0_148) hP hD hS hA [0, 1, 2, 3, 4, 5, 6, 7, 8, 9, 10, 11, 12, 13, 14, 15, 16, 17, 18, 19, 20, 21, 22, 23, 24, 25, 26, 27, 28, 29, 30, 31] [] rfl rfl (by decide) (by decide) (va_runV (As := [.int (0 : Int32)]) (rest := []) ⟨hx, hb, hml, hown, hts⟩ (c_MD_want hG hGn l dC dI g F H.size h0 q0 t0_61 (0 : Int32) hcl) (cwV 1 hts (gdV k5_229 k5_231 kp_32 k1_10 k5_232) rfl rfl rfl (by decide +kernel) ⟨Nat.le_of_ble_eq_true rfl, Nat.le_of_ble_eq_true rfl⟩) (kpV hG hP hK hD hS hA hGA [0, 1, 2, 3, 4, 5, 6, 7, 8, 9, 10, 11, 12, 13, 14, 15, 16, 17, 18, 19, 20, 21, 22, 23, 24, 25, 26, 27, 28, 29, 30, 31] (by decide) rfl (ci := 10) (q0 := 0) rfl rfl rfl) rfl rfl hl.1 rfl (lv_room (Nat.le_of_ble_eq_true rfl)) d_MD_look_148 ⟨Nat.le_of_ble_eq_true rfl, Nat.le_of_ble_eq_true rfl⟩) (fun H locs hP hD hS => ?_)
                    have hP : va_P (dC, dI) vwCl (wd_MD g h0 q0 z0_148) H := hP
                    have hD : va_D A (wd_MD g h0 q0 z0_148) := hD
                    refine lv_if_eq (tgt := 159) hx hb d_MD_look_151 (by decide) (fun hc => ?_) (fun hc => ?_)
                    · replace hm := if_t hm hc
                      refine lv_iconst (v := (-1 : Int32)) hx hb d_MD_look_159 (by decide) ?_
                      obtain rfl := Option.some.inj hm
                      rw [hQ]
                      exact kri hx hb hr hlocks hAe hP hK hD hS d_MD_look_160
                    · replace hm := if_f hm hc
                      refine lv_iload hx hb d_MD_look_154 (lv_at hl 4 rfl) ?_
                      refine lv_goto (tgt := 160) hx hb d_MD_look_156 (by decide) ?_
                      obtain rfl := Option.some.inj hm
                      rw [hQ]
                      exact kri hx hb hr hlocks hAe hP hK hD hS d_MD_look_160
                  · replace hm := if_f hm hc
                    refine lv_iconst (v := (1 : Int32)) hx hb d_MD_look_143 (by decide) ?_
                    refine lv_goto (tgt := 148) hx hb d_MD_look_144 (by decide) ?_
                    obtain ⟨r148, z0_148, hcl, hm⟩ := bn2_s hm
                    refine kci (wc := wd_MD g h0 q0 t0_61) (wr := ([] : va_W)) (w1 := wd_MD g h0 q0 z0_148) hP hD hS hA [0, 1, 2, 3, 4, 5, 6, 7, 8, 9, 10, 11, 12, 13, 14, 15, 16, 17, 18, 19, 20, 21, 22, 23, 24, 25, 26, 27, 28, 29, 30, 31] [] rfl rfl (by decide) (by decide) (va_runV (As := [.int (1 : Int32)]) (rest := []) ⟨hx, hb, hml, hown, hts⟩ (c_MD_want hG hGn l dC dI g F H.size h0 q0 t0_61 (1 : Int32) hcl) (cwV 1 hts (gdV k5_229 k5_231 kp_32 k1_10 k5_232) rfl rfl rfl (by decide +kernel) ⟨Nat.le_of_ble_eq_true rfl, Nat.le_of_ble_eq_true rfl⟩) (kpV hG hP hK hD hS hA hGA [0, 1, 2, 3, 4, 5, 6, 7, 8, 9, 10, 11, 12, 13, 14, 15, 16, 17, 18, 19, 20, 21, 22, 23, 24, 25, 26, 27, 28, 29, 30, 31] (by decide) rfl (ci := 10) (q0 := 0) rfl rfl rfl) rfl rfl hl.1 rfl (lv_room (Nat.le_of_ble_eq_true rfl)) d_MD_look_148 ⟨Nat.le_of_ble_eq_true rfl, Nat.le_of_ble_eq_true rfl⟩) (fun H locs hP hD hS => ?_)
                    have hP : va_P (dC, dI) vwCl (wd_MD g h0 q0 z0_148) H := hP
                    have hD : va_D A (wd_MD g h0 q0 z0_148) := hD
                    refine lv_if_eq (tgt := 159) hx hb d_MD_look_151 (by decide) (fun hc => ?_) (fun hc => ?_)
                    · replace hm := if_t hm hc
                      refine lv_iconst (v := (-1 : Int32)) hx hb d_MD_look_159 (by decide) ?_
                      obtain rfl := Option.some.inj hm
                      rw [hQ]
                      exact kri hx hb hr hlocks hAe hP hK hD hS d_MD_look_160
                    · replace hm := if_f hm hc
                      refine lv_iload hx hb d_MD_look_154 (lv_at hl 4 rfl) ?_
                      refine lv_goto (tgt := 160) hx hb d_MD_look_156 (by decide) ?_
                      obtain rfl := Option.some.inj hm
                      rw [hQ]
                      exact kri hx hb hr hlocks hAe hP hK hD hS d_MD_look_160
            · replace hm := if_f hm hc
              refine lv_bipush (v := (10 : Int32)) hx hb d_MD_look_102 (by decide) ?_
              refine lv_iload hx hb d_MD_look_104 (lv_at hl 4 rfl) ?_
              refine lv_imul hx hb d_MD_look_106 ?_
              refine lv_aload_n hx hb d_MD_look_107 rfl (lv_at hl 0 rfl) ?_
              refine va_get (D := (dC, dI)) (ci := 10) (v := .ref (q0 11)) (C := "AlarmMatrixModel") (T := T_MD) (N := 42) hx hb hts i_MD hown hK hP 0 rfl rfl 11 (by decide) (hts _ k5_31) (fun _ h9 => h9) rfl d_MD_look_108 ?_
              refine lv_iload hx hb d_MD_look_111 (lv_at hl 5 rfl) ?_
              obtain ⟨h_113, hm⟩ := ck_s hm
              refine va_iald (f := (t0_61 11)) hx hb hK hP 9 0 rfl rfl h_113 d_MD_look_113 ?_
              refine lv_iadd hx hb d_MD_look_114 ?_
              refine lv_bipush (v := (48 : Int32)) hx hb d_MD_look_115 (by decide) ?_
              refine lv_isub hx hb d_MD_look_117 ?_
              refine lv_istore (lv' := [(4, .int ((((10 : Int32) * v4_84) + ((t0_61 11) v5_84.toNatClampNeg)) - (48 : Int32))), (0, .ref h0), (1, .int a1), (2, .int a2), (3, .int s0_61), (5, .int v5_84)]) hx hb d_MD_look_118 hl (by decide) rfl (fun ls hl => ?_)
              refine lv_iinc (v := (v5_84 + (1 : Int32))) (lv' := [(5, .int (v5_84 + (1 : Int32))), (4, .int ((((10 : Int32) * v4_84) + ((t0_61 11) v5_84.toNatClampNeg)) - (48 : Int32))), (0, .ref h0), (1, .int a1), (2, .int a2), (3, .int s0_61)]) hx hb d_MD_look_120 hl (k := 5) rfl rfl (by decide) rfl (fun ls hl => ?_)
              refine lv_goto (tgt := 84) hx hb d_MD_look_123 (by decide) ?_
              exact ih84 ((((10 : Int32) * v4_84) + ((t0_61 11) v5_84.toNatClampNeg)) - (48 : Int32)) (v5_84 + (1 : Int32)) H locs ls hm hP hD hS (lv_sub hl [2, 3, 4, 5, 1, 0] rfl)
      exact L84 F (0 : Int32) (0 : Int32) H locs ls hm hP hD hS (lv_sub hl [3, 4, 5, 2, 1, 0] rfl)
    · replace hm := if_f hm hc
      refine lv_aload_n hx hb d_MD_look_69 rfl (lv_at hl 2 rfl) ?_
      refine va_get (D := (dC, dI)) (ci := 10) (v := .ref (q0 14)) (C := "AlarmMatrixModel") (T := T_MD) (N := 42) hx hb hts i_MD hown hK hP 0 rfl rfl 14 (by decide) (hts _ k5_34) (fun _ h9 => h9) rfl d_MD_look_70 ?_
      refine lv_aload_n hx hb d_MD_look_73 rfl (lv_at hl 2 rfl) ?_
      refine va_get (D := (dC, dI)) (ci := 10) (v := .int (t0_61 16 0)) (C := "AlarmMatrixModel") (T := T_MD) (N := 42) hx hb hts i_MD hown hK hP 0 rfl rfl 16 (by decide) (hts _ k5_36) (fun _ h9 => h9) rfl d_MD_look_74 ?_
      obtain ⟨h_77, hm⟩ := ck_s hm
      refine va_iald (f := (t0_61 14)) hx hb hK hP 10 0 rfl rfl h_77 d_MD_look_77 ?_
      refine lv_goto (tgt := 82) hx hb d_MD_look_78 (by decide) ?_
      refine lv_istore (lv' := [(5, .int ((t0_61 14) (t0_61 16 0).toNatClampNeg)), (4, .int (0 : Int32)), (3, .int s0_61), (0, .ref h0), (1, .int a1), (2, .int a2)]) hx hb d_MD_look_82 hl (by decide) rfl (fun ls hl => ?_)
      have L84 : ∀ (n84 : Nat) (v4_84 : Int32) (v5_84 : Int32) (H : Heap) (locs : List Loc) (ls : Array Slot), lq2 (m_MD_look_B84 F s0_61 t0_61 (fun v4_84 v5_84 => (if s0_61 = (0 : Int32) then (bn2 (m_MD_want F t0_61 (0 : Int32)) (fun r148 z0_148 => (if r148 = (0 : Int32) then (some ((-1 : Int32), z0_148)) else (some (v4_84, z0_148))))) else (if v4_84 < a1 then (bn2 (m_MD_want F t0_61 (0 : Int32)) (fun r148 z0_148 => (if r148 = (0 : Int32) then (some ((-1 : Int32), z0_148)) else (some (v4_84, z0_148))))) else (if a2 < v4_84 then (bn2 (m_MD_want F t0_61 (0 : Int32)) (fun r148 z0_148 => (if r148 = (0 : Int32) then (some ((-1 : Int32), z0_148)) else (some (v4_84, z0_148))))) else (bn2 (m_MD_want F t0_61 (1 : Int32)) (fun r148 z0_148 => (if r148 = (0 : Int32) then (some ((-1 : Int32), z0_148)) else (some (v4_84, z0_148)))))))))) n84 v4_84 v5_84 = some o → va_P (dC, dI) vwCl (wd_MD g h0 q0 t0_61) H → va_D A (wd_MD g h0 q0 t0_61) → va_S A s.heap H locs → lv_has ls 6 [(0, .ref h0), (1, .int a1), (2, .int a2), (3, .int s0_61), (4, .int v4_84), (5, .int v5_84)] → W p l e rm_MD_look s m args below meth c H locs 0 0 Q (F0 m 84 ls []) := by
        intro n84
        induction n84 with
        | zero => intro v4_84 v5_84 H locs ls hm; exact absurd hm (by intro z; cases z)
        | succ n84 ih84 =>
          intro v4_84 v5_84 H locs ls hm hP hD hS hl
          replace hm := m_MD_look_B84_h (lq2_h hm)
          refine lv_iload_n hx hb d_MD_look_84 rfl (lv_at hl 3 rfl) ?_
          refine lv_if_eq (tgt := 126) hx hb d_MD_look_85 (by decide) (fun hc => ?_) (fun hc => ?_)
          · replace hm := if_t hm hc
            refine lv_aload_n hx hb d_MD_look_126 rfl (lv_at hl 0 rfl) ?_
            refine lv_iload_n hx hb d_MD_look_127 rfl (lv_at hl 3 rfl) ?_
            refine lv_if_eq (tgt := 147) hx hb d_MD_look_128 (by decide) (fun hc => ?_) (fun hc => ?_)
            · replace hm := if_t hm hc
              refine lv_iconst (v := (0 : Int32)) hx hb d_MD_look_147 (by decide) ?_
              obtain ⟨r148, z0_148, hcl, hm⟩ := bn2_s hm
              refine kci (wc := wd_MD g h0 q0 t0_61) (wr := ([] : va_W)) (w1 := wd_MD g h0 q0 z0_148) hP hD hS hA [0, 1, 2, 3, 4, 5, 6, 7, 8, 9, 10, 11, 12, 13, 14, 15, 16, 17, 18, 19, 20, 21, 22, 23, 24, 25, 26, 27, 28, 29, 30, 31] [] rfl rfl (by decide) (by decide) (va_runV (As := [.int (0 : Int32)]) (rest := []) ⟨hx, hb, hml, hown, hts⟩ (c_MD_want hG hGn l dC dI g F H.size h0 q0 t0_61 (0 : Int32) hcl) (cwV 1 hts (gdV k5_229 k5_231 kp_32 k1_10 k5_232) rfl rfl rfl (by decide +kernel) ⟨Nat.le_of_ble_eq_true rfl, Nat.le_of_ble_eq_true rfl⟩) (kpV hG hP hK hD hS hA hGA [0, 1, 2, 3, 4, 5, 6, 7, 8, 9, 10, 11, 12, 13, 14, 15, 16, 17, 18, 19, 20, 21, 22, 23, 24, 25, 26, 27, 28, 29, 30, 31] (by decide) rfl (ci := 10) (q0 := 0) rfl rfl rfl) rfl rfl hl.1 rfl (lv_room (Nat.le_of_ble_eq_true rfl)) d_MD_look_148 ⟨Nat.le_of_ble_eq_true rfl, Nat.le_of_ble_eq_true rfl⟩) (fun H locs hP hD hS => ?_)
              have hP : va_P (dC, dI) vwCl (wd_MD g h0 q0 z0_148) H := hP
              have hD : va_D A (wd_MD g h0 q0 z0_148) := hD
              refine lv_if_eq (tgt := 159) hx hb d_MD_look_151 (by decide) (fun hc => ?_) (fun hc => ?_)
              · replace hm := if_t hm hc
                refine lv_iconst (v := (-1 : Int32)) hx hb d_MD_look_159 (by decide) ?_
                obtain rfl := Option.some.inj hm
                rw [hQ]
                exact kri hx hb hr hlocks hAe hP hK hD hS d_MD_look_160
              · replace hm := if_f hm hc
                refine lv_iload hx hb d_MD_look_154 (lv_at hl 4 rfl) ?_
                refine lv_goto (tgt := 160) hx hb d_MD_look_156 (by decide) ?_
                obtain rfl := Option.some.inj hm
                rw [hQ]
                exact kri hx hb hr hlocks hAe hP hK hD hS d_MD_look_160
            · replace hm := if_f hm hc
              refine lv_iload hx hb d_MD_look_131 (lv_at hl 4 rfl) ?_
              refine lv_iload_n hx hb d_MD_look_133 rfl (lv_at hl 1 rfl) ?_
              refine lv_icmp_lt (tgt := 147) hx hb d_MD_look_134 (by decide) (fun hc => ?_) (fun hc => ?_)
              · replace hm := if_t hm hc
                refine lv_iconst (v := (0 : Int32)) hx hb d_MD_look_147 (by decide) ?_
                obtain ⟨r148, z0_148, hcl, hm⟩ := bn2_s hm
                refine kci (wc := wd_MD g h0 q0 t0_61) (wr := ([] : va_W)) (w1 := wd_MD g h0 q0 z0_148) hP hD hS hA [0, 1, 2, 3, 4, 5, 6, 7, 8, 9, 10, 11, 12, 13, 14, 15, 16, 17, 18, 19, 20, 21, 22, 23, 24, 25, 26, 27, 28, 29, 30, 31] [] rfl rfl (by decide) (by decide) (va_runV (As := [.int (0 : Int32)]) (rest := []) ⟨hx, hb, hml, hown, hts⟩ (c_MD_want hG hGn l dC dI g F H.size h0 q0 t0_61 (0 : Int32) hcl) (cwV 1 hts (gdV k5_229 k5_231 kp_32 k1_10 k5_232) rfl rfl rfl (by decide +kernel) ⟨Nat.le_of_ble_eq_true rfl, Nat.le_of_ble_eq_true rfl⟩) (kpV hG hP hK hD hS hA hGA [0, 1, 2, 3, 4, 5, 6, 7, 8, 9, 10, 11, 12, 13, 14, 15, 16, 17, 18, 19, 20, 21, 22, 23, 24, 25, 26, 27, 28, 29, 30, 31] (by decide) rfl (ci := 10) (q0 := 0) rfl rfl rfl) rfl rfl hl.1 rfl (lv_room (Nat.le_of_ble_eq_true rfl)) d_MD_look_148 ⟨Nat.le_of_ble_eq_true rfl, Nat.le_of_ble_eq_true rfl⟩) (fun H locs hP hD hS => ?_)
                have hP : va_P (dC, dI) vwCl (wd_MD g h0 q0 z0_148) H := hP
                have hD : va_D A (wd_MD g h0 q0 z0_148) := hD
                refine lv_if_eq (tgt := 159) hx hb d_MD_look_151 (by decide) (fun hc => ?_) (fun hc => ?_)
                · replace hm := if_t hm hc
                  refine lv_iconst (v := (-1 : Int32)) hx hb d_MD_look_159 (by decide) ?_
                  obtain rfl := Option.some.inj hm
                  rw [hQ]
                  exact kri hx hb hr hlocks hAe hP hK hD hS d_MD_look_160
                · replace hm := if_f hm hc
                  refine lv_iload hx hb d_MD_look_154 (lv_at hl 4 rfl) ?_
                  refine lv_goto (tgt := 160) hx hb d_MD_look_156 (by decide) ?_
                  obtain rfl := Option.some.inj hm
                  rw [hQ]
                  exact kri hx hb hr hlocks hAe hP hK hD hS d_MD_look_160
              · replace hm := if_f hm hc
                refine lv_iload hx hb d_MD_look_137 (lv_at hl 4 rfl) ?_
                refine lv_iload_n hx hb d_MD_look_139 rfl (lv_at hl 2 rfl) ?_
                refine lv_icmp_gt (tgt := 147) hx hb d_MD_look_140 (by decide) (fun hc => ?_) (fun hc => ?_)
                · replace hm := if_t hm hc
                  refine lv_iconst (v := (0 : Int32)) hx hb d_MD_look_147 (by decide) ?_
                  obtain ⟨r148, z0_148, hcl, hm⟩ := bn2_s hm
                  refine kci (wc := wd_MD g h0 q0 t0_61) (wr := ([] : va_W)) (w1 := wd_MD g h0 q0 z0_148) hP hD hS hA [0, 1, 2, 3, 4, 5, 6, 7, 8, 9, 10, 11, 12, 13, 14, 15, 16, 17, 18, 19, 20, 21, 22, 23, 24, 25, 26, 27, 28, 29, 30, 31] [] rfl rfl (by decide) (by decide) (va_runV (As := [.int (0 : Int32)]) (rest := []) ⟨hx, hb, hml, hown, hts⟩ (c_MD_want hG hGn l dC dI g F H.size h0 q0 t0_61 (0 : Int32) hcl) (cwV 1 hts (gdV k5_229 k5_231 kp_32 k1_10 k5_232) rfl rfl rfl (by decide +kernel) ⟨Nat.le_of_ble_eq_true rfl, Nat.le_of_ble_eq_true rfl⟩) (kpV hG hP hK hD hS hA hGA [0, 1, 2, 3, 4, 5, 6, 7, 8, 9, 10, 11, 12, 13, 14, 15, 16, 17, 18, 19, 20, 21, 22, 23, 24, 25, 26, 27, 28, 29, 30, 31] (by decide) rfl (ci := 10) (q0 := 0) rfl rfl rfl) rfl rfl hl.1 rfl (lv_room (Nat.le_of_ble_eq_true rfl)) d_MD_look_148 ⟨Nat.le_of_ble_eq_true rfl, Nat.le_of_ble_eq_true rfl⟩) (fun H locs hP hD hS => ?_)
                  have hP : va_P (dC, dI) vwCl (wd_MD g h0 q0 z0_148) H := hP
                  have hD : va_D A (wd_MD g h0 q0 z0_148) := hD
                  refine lv_if_eq (tgt := 159) hx hb d_MD_look_151 (by decide) (fun hc => ?_) (fun hc => ?_)
                  · replace hm := if_t hm hc
                    refine lv_iconst (v := (-1 : Int32)) hx hb d_MD_look_159 (by decide) ?_
                    obtain rfl := Option.some.inj hm
                    rw [hQ]
                    exact kri hx hb hr hlocks hAe hP hK hD hS d_MD_look_160
                  · replace hm := if_f hm hc
                    refine lv_iload hx hb d_MD_look_154 (lv_at hl 4 rfl) ?_
                    refine lv_goto (tgt := 160) hx hb d_MD_look_156 (by decide) ?_
                    obtain rfl := Option.some.inj hm
                    rw [hQ]
                    exact kri hx hb hr hlocks hAe hP hK hD hS d_MD_look_160
                · replace hm := if_f hm hc
                  refine lv_iconst (v := (1 : Int32)) hx hb d_MD_look_143 (by decide) ?_
                  refine lv_goto (tgt := 148) hx hb d_MD_look_144 (by decide) ?_
                  obtain ⟨r148, z0_148, hcl, hm⟩ := bn2_s hm
                  refine kci (wc := wd_MD g h0 q0 t0_61) (wr := ([] : va_W)) (w1 := wd_MD g h0 q0 z0_148) hP hD hS hA [0, 1, 2, 3, 4, 5, 6, 7, 8, 9, 10, 11, 12, 13, 14, 15, 16, 17, 18, 19, 20, 21, 22, 23, 24, 25, 26, 27, 28, 29, 30, 31] [] rfl rfl (by decide) (by decide) (va_runV (As := [.int (1 : Int32)]) (rest := []) ⟨hx, hb, hml, hown, hts⟩ (c_MD_want hG hGn l dC dI g F H.size h0 q0 t0_61 (1 : Int32) hcl) (cwV 1 hts (gdV k5_229 k5_231 kp_32 k1_10 k5_232) rfl rfl rfl (by decide +kernel) ⟨Nat.le_of_ble_eq_true rfl, Nat.le_of_ble_eq_true rfl⟩) (kpV hG hP hK hD hS hA hGA [0, 1, 2, 3, 4, 5, 6, 7, 8, 9, 10, 11, 12, 13, 14, 15, 16, 17, 18, 19, 20, 21, 22, 23, 24, 25, 26, 27, 28, 29, 30, 31] (by decide) rfl (ci := 10) (q0 := 0) rfl rfl rfl) rfl rfl hl.1 rfl (lv_room (Nat.le_of_ble_eq_true rfl)) d_MD_look_148 ⟨Nat.le_of_ble_eq_true rfl, Nat.le_of_ble_eq_true rfl⟩) (fun H locs hP hD hS => ?_)
                  have hP : va_P (dC, dI) vwCl (wd_MD g h0 q0 z0_148) H := hP
                  have hD : va_D A (wd_MD g h0 q0 z0_148) := hD
                  refine lv_if_eq (tgt := 159) hx hb d_MD_look_151 (by decide) (fun hc => ?_) (fun hc => ?_)
                  · replace hm := if_t hm hc
                    refine lv_iconst (v := (-1 : Int32)) hx hb d_MD_look_159 (by decide) ?_
                    obtain rfl := Option.some.inj hm
                    rw [hQ]
                    exact kri hx hb hr hlocks hAe hP hK hD hS d_MD_look_160
                  · replace hm := if_f hm hc
                    refine lv_iload hx hb d_MD_look_154 (lv_at hl 4 rfl) ?_
                    refine lv_goto (tgt := 160) hx hb d_MD_look_156 (by decide) ?_
                    obtain rfl := Option.some.inj hm
                    rw [hQ]
                    exact kri hx hb hr hlocks hAe hP hK hD hS d_MD_look_160
          · replace hm := if_f hm hc
            refine lv_iload hx hb d_MD_look_88 (lv_at hl 5 rfl) ?_
            refine lv_aload_n hx hb d_MD_look_90 rfl (lv_at hl 0 rfl) ?_
            refine va_get (D := (dC, dI)) (ci := 10) (v := .ref (q0 15)) (C := "AlarmMatrixModel") (T := T_MD) (N := 42) hx hb hts i_MD hown hK hP 0 rfl rfl 15 (by decide) (hts _ k5_35) (fun _ h9 => h9) rfl d_MD_look_91 ?_
            refine lv_aload_n hx hb d_MD_look_94 rfl (lv_at hl 0 rfl) ?_
            refine va_get (D := (dC, dI)) (ci := 10) (v := .int (t0_61 16 0)) (C := "AlarmMatrixModel") (T := T_MD) (N := 42) hx hb hts i_MD hown hK hP 0 rfl rfl 16 (by decide) (hts _ k5_36) (fun _ h9 => h9) rfl d_MD_look_95 ?_
            obtain ⟨h_98, hm⟩ := ck_s hm
            refine va_iald (f := (t0_61 15)) hx hb hK hP 11 0 rfl rfl h_98 d_MD_look_98 ?_
            refine lv_icmp_ge (tgt := 126) hx hb d_MD_look_99 (by decide) (fun hc => ?_) (fun hc => ?_)
            · replace hm := if_t hm hc
              refine lv_aload_n hx hb d_MD_look_126 rfl (lv_at hl 0 rfl) ?_
              refine lv_iload_n hx hb d_MD_look_127 rfl (lv_at hl 3 rfl) ?_
              refine lv_if_eq (tgt := 147) hx hb d_MD_look_128 (by decide) (fun hc => ?_) (fun hc => ?_)
              · replace hm := if_t hm hc
                refine lv_iconst (v := (0 : Int32)) hx hb d_MD_look_147 (by decide) ?_
                obtain ⟨r148, z0_148, hcl, hm⟩ := bn2_s hm
                refine kci (wc := wd_MD g h0 q0 t0_61) (wr := ([] : va_W)) (w1 := wd_MD g h0 q0 z0_148) hP hD hS hA [0, 1, 2, 3, 4, 5, 6, 7, 8, 9, 10, 11, 12, 13, 14, 15, 16, 17, 18, 19, 20, 21, 22, 23, 24, 25, 26, 27, 28, 29, 30, 31] [] rfl rfl (by decide) (by decide) (va_runV (As := [.int (0 : Int32)]) (rest := []) ⟨hx, hb, hml, hown, hts⟩ (c_MD_want hG hGn l dC dI g F H.size h0 q0 t0_61 (0 : Int32) hcl) (cwV 1 hts (gdV k5_229 k5_231 kp_32 k1_10 k5_232) rfl rfl rfl (by decide +kernel) ⟨Nat.le_of_ble_eq_true rfl, Nat.le_of_ble_eq_true rfl⟩) (kpV hG hP hK hD hS hA hGA [0, 1, 2, 3, 4, 5, 6, 7, 8, 9, 10, 11, 12, 13, 14, 15, 16, 17, 18, 19, 20, 21, 22, 23, 24, 25, 26, 27, 28, 29, 30, 31] (by decide) rfl (ci := 10) (q0 := 0) rfl rfl rfl) rfl rfl hl.1 rfl (lv_room (Nat.le_of_ble_eq_true rfl)) d_MD_look_148 ⟨Nat.le_of_ble_eq_true rfl, Nat.le_of_ble_eq_true rfl⟩) (fun H locs hP hD hS => ?_)
                have hP : va_P (dC, dI) vwCl (wd_MD g h0 q0 z0_148) H := hP
                have hD : va_D A (wd_MD g h0 q0 z0_148) := hD
                refine lv_if_eq (tgt := 159) hx hb d_MD_look_151 (by decide) (fun hc => ?_) (fun hc => ?_)
                · replace hm := if_t hm hc
                  refine lv_iconst (v := (-1 : Int32)) hx hb d_MD_look_159 (by decide) ?_
                  obtain rfl := Option.some.inj hm
                  rw [hQ]
                  exact kri hx hb hr hlocks hAe hP hK hD hS d_MD_look_160
                · replace hm := if_f hm hc
                  refine lv_iload hx hb d_MD_look_154 (lv_at hl 4 rfl) ?_
                  refine lv_goto (tgt := 160) hx hb d_MD_look_156 (by decide) ?_
                  obtain rfl := Option.some.inj hm
                  rw [hQ]
                  exact kri hx hb hr hlocks hAe hP hK hD hS d_MD_look_160
              · replace hm := if_f hm hc
                refine lv_iload hx hb d_MD_look_131 (lv_at hl 4 rfl) ?_
                refine lv_iload_n hx hb d_MD_look_133 rfl (lv_at hl 1 rfl) ?_
                refine lv_icmp_lt (tgt := 147) hx hb d_MD_look_134 (by decide) (fun hc => ?_) (fun hc => ?_)
                · replace hm := if_t hm hc
                  refine lv_iconst (v := (0 : Int32)) hx hb d_MD_look_147 (by decide) ?_
                  obtain ⟨r148, z0_148, hcl, hm⟩ := bn2_s hm
                  refine kci (wc := wd_MD g h0 q0 t0_61) (wr := ([] : va_W)) (w1 := wd_MD g h0 q0 z0_148) hP hD hS hA [0, 1, 2, 3, 4, 5, 6, 7, 8, 9, 10, 11, 12, 13, 14, 15, 16, 17, 18, 19, 20, 21, 22, 23, 24, 25, 26, 27, 28, 29, 30, 31] [] rfl rfl (by decide) (by decide) (va_runV (As := [.int (0 : Int32)]) (rest := []) ⟨hx, hb, hml, hown, hts⟩ (c_MD_want hG hGn l dC dI g F H.size h0 q0 t0_61 (0 : Int32) hcl) (cwV 1 hts (gdV k5_229 k5_231 kp_32 k1_10 k5_232) rfl rfl rfl (by decide +kernel) ⟨Nat.le_of_ble_eq_true rfl, Nat.le_of_ble_eq_true rfl⟩) (kpV hG hP hK hD hS hA hGA [0, 1, 2, 3, 4, 5, 6, 7, 8, 9, 10, 11, 12, 13, 14, 15, 16, 17, 18, 19, 20, 21, 22, 23, 24, 25, 26, 27, 28, 29, 30, 31] (by decide) rfl (ci := 10) (q0 := 0) rfl rfl rfl) rfl rfl hl.1 rfl (lv_room (Nat.le_of_ble_eq_true rfl)) d_MD_look_148 ⟨Nat.le_of_ble_eq_true rfl, Nat.le_of_ble_eq_true rfl⟩) (fun H locs hP hD hS => ?_)
                  have hP : va_P (dC, dI) vwCl (wd_MD g h0 q0 z0_148) H := hP
                  have hD : va_D A (wd_MD g h0 q0 z0_148) := hD
                  refine lv_if_eq (tgt := 159) hx hb d_MD_look_151 (by decide) (fun hc => ?_) (fun hc => ?_)
                  · replace hm := if_t hm hc
                    refine lv_iconst (v := (-1 : Int32)) hx hb d_MD_look_159 (by decide) ?_
                    obtain rfl := Option.some.inj hm
                    rw [hQ]
                    exact kri hx hb hr hlocks hAe hP hK hD hS d_MD_look_160
                  · replace hm := if_f hm hc
                    refine lv_iload hx hb d_MD_look_154 (lv_at hl 4 rfl) ?_
                    refine lv_goto (tgt := 160) hx hb d_MD_look_156 (by decide) ?_
                    obtain rfl := Option.some.inj hm
                    rw [hQ]
                    exact kri hx hb hr hlocks hAe hP hK hD hS d_MD_look_160
                · replace hm := if_f hm hc
                  refine lv_iload hx hb d_MD_look_137 (lv_at hl 4 rfl) ?_
                  refine lv_iload_n hx hb d_MD_look_139 rfl (lv_at hl 2 rfl) ?_
                  refine lv_icmp_gt (tgt := 147) hx hb d_MD_look_140 (by decide) (fun hc => ?_) (fun hc => ?_)
                  · replace hm := if_t hm hc
                    refine lv_iconst (v := (0 : Int32)) hx hb d_MD_look_147 (by decide) ?_
                    obtain ⟨r148, z0_148, hcl, hm⟩ := bn2_s hm
                    refine kci (wc := wd_MD g h0 q0 t0_61) (wr := ([] : va_W)) (w1 := wd_MD g h0 q0 z0_148) hP hD hS hA [0, 1, 2, 3, 4, 5, 6, 7, 8, 9, 10, 11, 12, 13, 14, 15, 16, 17, 18, 19, 20, 21, 22, 23, 24, 25, 26, 27, 28, 29, 30, 31] [] rfl rfl (by decide) (by decide) (va_runV (As := [.int (0 : Int32)]) (rest := []) ⟨hx, hb, hml, hown, hts⟩ (c_MD_want hG hGn l dC dI g F H.size h0 q0 t0_61 (0 : Int32) hcl) (cwV 1 hts (gdV k5_229 k5_231 kp_32 k1_10 k5_232) rfl rfl rfl (by decide +kernel) ⟨Nat.le_of_ble_eq_true rfl, Nat.le_of_ble_eq_true rfl⟩) (kpV hG hP hK hD hS hA hGA [0, 1, 2, 3, 4, 5, 6, 7, 8, 9, 10, 11, 12, 13, 14, 15, 16, 17, 18, 19, 20, 21, 22, 23, 24, 25, 26, 27, 28, 29, 30, 31] (by decide) rfl (ci := 10) (q0 := 0) rfl rfl rfl) rfl rfl hl.1 rfl (lv_room (Nat.le_of_ble_eq_true rfl)) d_MD_look_148 ⟨Nat.le_of_ble_eq_true rfl, Nat.le_of_ble_eq_true rfl⟩) (fun H locs hP hD hS => ?_)
                    have hP : va_P (dC, dI) vwCl (wd_MD g h0 q0 z0_148) H := hP
                    have hD : va_D A (wd_MD g h0 q0 z0_148) := hD
                    refine lv_if_eq (tgt := 159) hx hb d_MD_look_151 (by decide) (fun hc => ?_) (fun hc => ?_)
                    · replace hm := if_t hm hc
                      refine lv_iconst (v := (-1 : Int32)) hx hb d_MD_look_159 (by decide) ?_
                      obtain rfl := Option.some.inj hm
                      rw [hQ]
                      exact kri hx hb hr hlocks hAe hP hK hD hS d_MD_look_160
                    · replace hm := if_f hm hc
                      refine lv_iload hx hb d_MD_look_154 (lv_at hl 4 rfl) ?_
                      refine lv_goto (tgt := 160) hx hb d_MD_look_156 (by decide) ?_
                      obtain rfl := Option.some.inj hm
                      rw [hQ]
                      exact kri hx hb hr hlocks hAe hP hK hD hS d_MD_look_160
                  · replace hm := if_f hm hc
                    refine lv_iconst (v := (1 : Int32)) hx hb d_MD_look_143 (by decide) ?_
                    refine lv_goto (tgt := 148) hx hb d_MD_look_144 (by decide) ?_
                    obtain ⟨r148, z0_148, hcl, hm⟩ := bn2_s hm
                    refine kci (wc := wd_MD g h0 q0 t0_61) (wr := ([] : va_W)) (w1 := wd_MD g h0 q0 z0_148) hP hD hS hA [0, 1, 2, 3, 4, 5, 6, 7, 8, 9, 10, 11, 12, 13, 14, 15, 16, 17, 18, 19, 20, 21, 22, 23, 24, 25, 26, 27, 28, 29, 30, 31] [] rfl rfl (by decide) (by decide) (va_runV (As := [.int (1 : Int32)]) (rest := []) ⟨hx, hb, hml, hown, hts⟩ (c_MD_want hG hGn l dC dI g F H.size h0 q0 t0_61 (1 : Int32) hcl) (cwV 1 hts (gdV k5_229 k5_231 kp_32 k1_10 k5_232) rfl rfl rfl (by decide +kernel) ⟨Nat.le_of_ble_eq_true rfl, Nat.le_of_ble_eq_true rfl⟩) (kpV hG hP hK hD hS hA hGA [0, 1, 2, 3, 4, 5, 6, 7, 8, 9, 10, 11, 12, 13, 14, 15, 16, 17, 18, 19, 20, 21, 22, 23, 24, 25, 26, 27, 28, 29, 30, 31] (by decide) rfl (ci := 10) (q0 := 0) rfl rfl rfl) rfl rfl hl.1 rfl (lv_room (Nat.le_of_ble_eq_true rfl)) d_MD_look_148 ⟨Nat.le_of_ble_eq_true rfl, Nat.le_of_ble_eq_true rfl⟩) (fun H locs hP hD hS => ?_)
                    have hP : va_P (dC, dI) vwCl (wd_MD g h0 q0 z0_148) H := hP
                    have hD : va_D A (wd_MD g h0 q0 z0_148) := hD
                    refine lv_if_eq (tgt := 159) hx hb d_MD_look_151 (by decide) (fun hc => ?_) (fun hc => ?_)
                    · replace hm := if_t hm hc
                      refine lv_iconst (v := (-1 : Int32)) hx hb d_MD_look_159 (by decide) ?_
                      obtain rfl := Option.some.inj hm
                      rw [hQ]
                      exact kri hx hb hr hlocks hAe hP hK hD hS d_MD_look_160
                    · replace hm := if_f hm hc
                      refine lv_iload hx hb d_MD_look_154 (lv_at hl 4 rfl) ?_
                      refine lv_goto (tgt := 160) hx hb d_MD_look_156 (by decide) ?_
                      obtain rfl := Option.some.inj hm
                      rw [hQ]
                      exact kri hx hb hr hlocks hAe hP hK hD hS d_MD_look_160
            · replace hm := if_f hm hc
              refine lv_bipush (v := (10 : Int32)) hx hb d_MD_look_102 (by decide) ?_
              refine lv_iload hx hb d_MD_look_104 (lv_at hl 4 rfl) ?_
              refine lv_imul hx hb d_MD_look_106 ?_
              refine lv_aload_n hx hb d_MD_look_107 rfl (lv_at hl 0 rfl) ?_
              refine va_get (D := (dC, dI)) (ci := 10) (v := .ref (q0 11)) (C := "AlarmMatrixModel") (T := T_MD) (N := 42) hx hb hts i_MD hown hK hP 0 rfl rfl 11 (by decide) (hts _ k5_31) (fun _ h9 => h9) rfl d_MD_look_108 ?_
              refine lv_iload hx hb d_MD_look_111 (lv_at hl 5 rfl) ?_
              obtain ⟨h_113, hm⟩ := ck_s hm
              refine va_iald (f := (t0_61 11)) hx hb hK hP 9 0 rfl rfl h_113 d_MD_look_113 ?_
              refine lv_iadd hx hb d_MD_look_114 ?_
              refine lv_bipush (v := (48 : Int32)) hx hb d_MD_look_115 (by decide) ?_
              refine lv_isub hx hb d_MD_look_117 ?_
              refine lv_istore (lv' := [(4, .int ((((10 : Int32) * v4_84) + ((t0_61 11) v5_84.toNatClampNeg)) - (48 : Int32))), (0, .ref h0), (1, .int a1), (2, .int a2), (3, .int s0_61), (5, .int v5_84)]) hx hb d_MD_look_118 hl (by decide) rfl (fun ls hl => ?_)
              refine lv_iinc (v := (v5_84 + (1 : Int32))) (lv' := [(5, .int (v5_84 + (1 : Int32))), (4, .int ((((10 : Int32) * v4_84) + ((t0_61 11) v5_84.toNatClampNeg)) - (48 : Int32))), (0, .ref h0), (1, .int a1), (2, .int a2), (3, .int s0_61)]) hx hb d_MD_look_120 hl (k := 5) rfl rfl (by decide) rfl (fun ls hl => ?_)
              refine lv_goto (tgt := 84) hx hb d_MD_look_123 (by decide) ?_
              exact ih84 ((((10 : Int32) * v4_84) + ((t0_61 11) v5_84.toNatClampNeg)) - (48 : Int32)) (v5_84 + (1 : Int32)) H locs ls hm hP hD hS (lv_sub hl [2, 3, 4, 5, 1, 0] rfl)
      exact L84 F (0 : Int32) ((t0_61 14) (t0_61 16 0).toNatClampNeg) H locs ls hm hP hD hS (lv_sub hl [3, 4, 5, 2, 1, 0] rfl)
  refine lv_aload_n hx hb d_MD_look_0 rfl (lv_at hl 0 rfl) ?_
  refine va_get (D := (dC, dI)) (ci := 10) (v := .int (x0 16 0)) (C := "AlarmMatrixModel") (T := T_MD) (N := 42) hx hb hts i_MD hown hK hP 0 rfl rfl 16 (by decide) (hts _ k5_36) (fun _ h9 => h9) rfl d_MD_look_1 ?_
  refine lv_aload_n hx hb d_MD_look_4 rfl (lv_at hl 0 rfl) ?_
  refine va_get (D := (dC, dI)) (ci := 10) (v := .int (x0 13 0)) (C := "AlarmMatrixModel") (T := T_MD) (N := 42) hx hb hts i_MD hown hK hP 0 rfl rfl 13 (by decide) (hts _ k5_33) (fun _ h9 => h9) rfl d_MD_look_5 ?_
  refine lv_icmp_ge (tgt := 60) hx hb d_MD_look_8 (by decide) (fun hc => ?_) (fun hc => ?_)
  · replace hm := if_t hm hc
    refine lv_iconst (v := (0 : Int32)) hx hb d_MD_look_60 (by decide) ?_
    exact J61 (0 : Int32) x0 H locs ls hm hP hD hS (lv_sub hl [0, 1, 2] rfl)
  · replace hm := if_f hm hc
    refine lv_aload_n hx hb d_MD_look_11 rfl (lv_at hl 0 rfl) ?_
    refine va_get (D := (dC, dI)) (ci := 10) (v := .ref (q0 11)) (C := "AlarmMatrixModel") (T := T_MD) (N := 42) hx hb hts i_MD hown hK hP 0 rfl rfl 11 (by decide) (hts _ k5_31) (fun _ h9 => h9) rfl d_MD_look_12 ?_
    refine lv_aload_n hx hb d_MD_look_15 rfl (lv_at hl 0 rfl) ?_
    refine va_get (D := (dC, dI)) (ci := 10) (v := .ref (q0 14)) (C := "AlarmMatrixModel") (T := T_MD) (N := 42) hx hb hts i_MD hown hK hP 0 rfl rfl 14 (by decide) (hts _ k5_34) (fun _ h9 => h9) rfl d_MD_look_16 ?_
    refine lv_aload_n hx hb d_MD_look_19 rfl (lv_at hl 0 rfl) ?_
    refine va_get (D := (dC, dI)) (ci := 10) (v := .int (x0 16 0)) (C := "AlarmMatrixModel") (T := T_MD) (N := 42) hx hb hts i_MD hown hK hP 0 rfl rfl 16 (by decide) (hts _ k5_36) (fun _ h9 => h9) rfl d_MD_look_20 ?_
    obtain ⟨h_23, hm⟩ := ck_s hm
    refine va_iald (f := (x0 14)) hx hb hK hP 10 0 rfl rfl h_23 d_MD_look_23 ?_
    obtain ⟨h_24, hm⟩ := ck_s hm
    refine va_iald (f := (x0 11)) hx hb hK hP 9 0 rfl rfl h_24 d_MD_look_24 ?_
    obtain ⟨r25, hcl, hm⟩ := bn1_s hm
    refine kci (wc := ([] : va_W)) (wr := wd_MD g h0 q0 x0) (w1 := ([] : va_W)) hP hD hS hA [] [0, 1, 2, 3, 4, 5, 6, 7, 8, 9, 10, 11, 12, 13, 14, 15, 16, 17, 18, 19, 20, 21, 22, 23, 24, 25, 26, 27, 28, 29, 30, 31] rfl rfl (by decide) (by decide) (va_runS (As := [.int ((x0 11) ((x0 14) (x0 16 0).toNatClampNeg).toNatClampNeg)]) (rest := []) ⟨hx, hb, hml, hown, hts⟩ (c_MD_sort hG hGn l dC dI g F H.size ((x0 11) ((x0 14) (x0 16 0).toNatClampNeg).toNatClampNeg) hcl) (cwS 1 hts (gdS k5_210 k5_211 k1_10 k5_212) rfl rfl rfl (by decide +kernel) ⟨Nat.le_of_ble_eq_true rfl, Nat.le_of_ble_eq_true rfl⟩) (kpS hG hP hK hD hS hA hGA [] (by decide) rfl) rfl rfl hl.1 rfl (lv_room (Nat.le_of_ble_eq_true rfl)) d_MD_look_25 ⟨Nat.le_of_ble_eq_true rfl, Nat.le_of_ble_eq_true rfl⟩) (fun H locs hP hD hS => ?_)
    have hP : va_P (dC, dI) vwCl (wd_MD g h0 q0 x0) H := hP
    have hD : va_D A (wd_MD g h0 q0 x0) := hD
    refine lv_iconst (v := (2 : Int32)) hx hb d_MD_look_28 (by decide) ?_
    refine lv_icmp_ne (tgt := 60) hx hb d_MD_look_29 (by decide) (fun hc => ?_) (fun hc => ?_)
    · replace hm := if_f hm hc
      refine lv_iconst (v := (0 : Int32)) hx hb d_MD_look_60 (by decide) ?_
      exact J61 (0 : Int32) x0 H locs ls hm hP hD hS (lv_sub hl [0, 1, 2] rfl)
    · replace hm := if_t hm hc
      refine lv_aload_n hx hb d_MD_look_32 rfl (lv_at hl 0 rfl) ?_
      refine va_get (D := (dC, dI)) (ci := 10) (v := .ref (q0 15)) (C := "AlarmMatrixModel") (T := T_MD) (N := 42) hx hb hts i_MD hown hK hP 0 rfl rfl 15 (by decide) (hts _ k5_35) (fun _ h9 => h9) rfl d_MD_look_33 ?_
      refine lv_aload_n hx hb d_MD_look_36 rfl (lv_at hl 0 rfl) ?_
      refine va_get (D := (dC, dI)) (ci := 10) (v := .int (x0 16 0)) (C := "AlarmMatrixModel") (T := T_MD) (N := 42) hx hb hts i_MD hown hK hP 0 rfl rfl 16 (by decide) (hts _ k5_36) (fun _ h9 => h9) rfl d_MD_look_37 ?_
      obtain ⟨h_40, hm⟩ := ck_s hm
      refine va_iald (f := (x0 15)) hx hb hK hP 11 0 rfl rfl h_40 d_MD_look_40 ?_
      refine lv_aload_n hx hb d_MD_look_41 rfl (lv_at hl 0 rfl) ?_
      refine va_get (D := (dC, dI)) (ci := 10) (v := .ref (q0 14)) (C := "AlarmMatrixModel") (T := T_MD) (N := 42) hx hb hts i_MD hown hK hP 0 rfl rfl 14 (by decide) (hts _ k5_34) (fun _ h9 => h9) rfl d_MD_look_42 ?_
      refine lv_aload_n hx hb d_MD_look_45 rfl (lv_at hl 0 rfl) ?_
      refine va_get (D := (dC, dI)) (ci := 10) (v := .int (x0 16 0)) (C := "AlarmMatrixModel") (T := T_MD) (N := 42) hx hb hts i_MD hown hK hP 0 rfl rfl 16 (by decide) (hts _ k5_36) (fun _ h9 => h9) rfl d_MD_look_46 ?_
      obtain ⟨h_49, hm⟩ := ck_s hm
      refine va_iald (f := (x0 14)) hx hb hK hP 10 0 rfl rfl h_49 d_MD_look_49 ?_
      refine lv_isub hx hb d_MD_look_50 ?_
      refine lv_bipush (v := (6 : Int32)) hx hb d_MD_look_51 (by decide) ?_
      refine lv_icmp_gt (tgt := 60) hx hb d_MD_look_53 (by decide) (fun hc => ?_) (fun hc => ?_)
      · replace hm := if_t hm hc
        refine lv_iconst (v := (0 : Int32)) hx hb d_MD_look_60 (by decide) ?_
        exact J61 (0 : Int32) x0 H locs ls hm hP hD hS (lv_sub hl [0, 1, 2] rfl)
      · replace hm := if_f hm hc
        refine lv_iconst (v := (1 : Int32)) hx hb d_MD_look_56 (by decide) ?_
        refine lv_goto (tgt := 61) hx hb d_MD_look_57 (by decide) ?_
        exact J61 (1 : Int32) x0 H locs ls hm hP hD hS (lv_sub hl [0, 1, 2] rfl)
abbrev b_MD_takeNumber : ByteArray := prog_12_method_22_code
abbrev y_MD_takeNumber : MethodName := ⟨"AlarmMatrixModel", "takeNumber", "(II)I"⟩
theorem d_MD_takeNumber_0 : decode b_MD_takeNumber 0 = .ok (.aload_n 0, 1) := by decide +kernel
theorem d_MD_takeNumber_1 : decode b_MD_takeNumber 1 = .ok (.iload_n 1, 1) := by decide +kernel
theorem d_MD_takeNumber_2 : decode b_MD_takeNumber 2 = .ok (.iload_n 2, 1) := by decide +kernel
theorem d_MD_takeNumber_3 : decode b_MD_takeNumber 3 = .ok (.invokevirtual 177, 3) := by decide +kernel
theorem d_MD_takeNumber_6 : decode b_MD_takeNumber 6 = .ok (.istore_n 3, 1) := by decide +kernel
theorem d_MD_takeNumber_7 : decode b_MD_takeNumber 7 = .ok (.aload_n 0, 1) := by decide +kernel
theorem d_MD_takeNumber_8 : decode b_MD_takeNumber 8 = .ok (.dup, 1) := by decide +kernel
theorem d_MD_takeNumber_9 : decode b_MD_takeNumber 9 = .ok (.getfield 160, 3) := by decide +kernel
theorem d_MD_takeNumber_12 : decode b_MD_takeNumber 12 = .ok (.aload_n 0, 1) := by decide +kernel
theorem d_MD_takeNumber_13 : decode b_MD_takeNumber 13 = .ok (.getfield 163, 3) := by decide +kernel
theorem d_MD_takeNumber_16 : decode b_MD_takeNumber 16 = .ok (.ifCond .ge 7, 3) := by decide +kernel
theorem d_MD_takeNumber_19 : decode b_MD_takeNumber 19 = .ok (.iconst 1, 1) := by decide +kernel
theorem d_MD_takeNumber_20 : decode b_MD_takeNumber 20 = .ok (.goto 4, 3) := by decide +kernel
theorem d_MD_takeNumber_23 : decode b_MD_takeNumber 23 = .ok (.iconst 0, 1) := by decide +kernel
theorem d_MD_takeNumber_24 : decode b_MD_takeNumber 24 = .ok (.iadd, 1) := by decide +kernel
theorem d_MD_takeNumber_25 : decode b_MD_takeNumber 25 = .ok (.putfield 160, 3) := by decide +kernel
theorem d_MD_takeNumber_28 : decode b_MD_takeNumber 28 = .ok (.iload_n 3, 1) := by decide +kernel
theorem d_MD_takeNumber_29 : decode b_MD_takeNumber 29 = .ok (.ireturn, 1) := by decide +kernel
def m_MD_takeNumber (F : Nat) (x0 : St) (a1 : Int32) (a2 : Int32) : Option (Int32 × St) :=
  (bn2 (m_MD_look F x0 a1 a2) (fun r3 z0_3 => (if (0 : Int32) ≤ (z0_3 17 0) then (lz (sc z0_3 16 ((z0_3 16 0) + (0 : Int32))) (fun e0_25 => (some (r3, e0_25)))) else (lz (sc z0_3 16 ((z0_3 16 0) + (1 : Int32))) (fun e0_25 => (some (r3, e0_25)))))))
abbrev rm_MD_takeNumber : Room := { frames := 2, cells := 0, slots := 0, locals := 46 }
set_option maxHeartbeats 4000000 in
set_option maxRecDepth 100000 in
theorem c_MD_takeNumber {G : (Nat → Prop) → State → Prop} (hG : gok G) (hGn : gN G) (l : Launch) (dC : Nat → ClassId) (dI : Nat → Nat → Nat) (g : Nat → ClassId) (F : Nat) (sz : Nat) (h0 : Nat) (q0 : Nat → Nat) (x0 : St) (a1 : Int32) (a2 : Int32) {o : Int32 × St} (hm : m_MD_takeNumber F x0 a1 a2 = some o) : Met l y_MD_takeNumber (.code y_MD_takeNumber b_MD_takeNumber 4 (some .int) :: gw) rm_MD_takeNumber (kq (dC, dI) vwCl (tyv g) G [.ref h0, .int a1, .int a2] sz (wd_MD g h0 q0 x0)) (kqi (dC, dI) vwCl (tyv g) (wd_MD g h0 q0 x0) o.1 (wd_MD g h0 q0 (o.2)) sz) 0 0 (va_A (wd_MD g h0 q0 x0) sz) := by
  unfold m_MD_takeNumber at hm
  refine km (Qc := fun sz => kqi (dC, dI) vwCl (tyv g) (wd_MD g h0 q0 x0) o.1 (wd_MD g h0 q0 (o.2)) sz) (cc := b_MD_takeNumber) (maxL := 4) (ret := some .int) (by decide) rfl (Nat.le_of_ble_eq_true rfl) ?_
  intro p e s m args below meth c Q hQ hx hb hr hts hown hlocks hml hnm H locs A hAe hA hP hK hD hS hGA ls hl
  have hl : lv_has ls 4 [(0, .ref h0), (1, .int a1), (2, .int a2)] := hl
  have hts : ∀ w ∈ gw, w.before args s = true := fun w h => hts w (List.mem_cons_of_mem _ h)
  have hown : s.vm.findClass "AlarmMatrixModel" = some m.cls := hown
  refine lv_aload_n hx hb d_MD_takeNumber_0 rfl (lv_at hl 0 rfl) ?_
  refine lv_iload_n hx hb d_MD_takeNumber_1 rfl (lv_at hl 1 rfl) ?_
  refine lv_iload_n hx hb d_MD_takeNumber_2 rfl (lv_at hl 2 rfl) ?_
  obtain ⟨r3, z0_3, hcl, hm⟩ := bn2_s hm
  refine kci (wc := wd_MD g h0 q0 x0) (wr := ([] : va_W)) (w1 := wd_MD g h0 q0 z0_3) hP hD hS hA [0, 1, 2, 3, 4, 5, 6, 7, 8, 9, 10, 11, 12, 13, 14, 15, 16, 17, 18, 19, 20, 21, 22, 23, 24, 25, 26, 27, 28, 29, 30, 31] [] rfl rfl (by decide) (by decide) (va_runV (As := [.int a1, .int a2]) (rest := []) ⟨hx, hb, hml, hown, hts⟩ (c_MD_look hG hGn l dC dI g F H.size h0 q0 x0 a1 a2 hcl) (cwV 2 hts (gdV k5_225 k5_227 kp_31 k1_10 k5_228) rfl rfl rfl (by decide +kernel) ⟨Nat.le_of_ble_eq_true rfl, Nat.le_of_ble_eq_true rfl⟩) (kpV hG hP hK hD hS hA hGA [0, 1, 2, 3, 4, 5, 6, 7, 8, 9, 10, 11, 12, 13, 14, 15, 16, 17, 18, 19, 20, 21, 22, 23, 24, 25, 26, 27, 28, 29, 30, 31] (by decide) rfl (ci := 10) (q0 := 0) rfl rfl rfl) rfl rfl hl.1 rfl (lv_room (Nat.le_of_ble_eq_true rfl)) d_MD_takeNumber_3 ⟨Nat.le_of_ble_eq_true rfl, Nat.le_of_ble_eq_true rfl⟩) (fun H locs hP hD hS => ?_)
  have hP : va_P (dC, dI) vwCl (wd_MD g h0 q0 z0_3) H := hP
  have hD : va_D A (wd_MD g h0 q0 z0_3) := hD
  refine lv_istore_n (lv' := [(3, .int r3), (0, .ref h0), (1, .int a1), (2, .int a2)]) hx hb d_MD_takeNumber_6 rfl hl (by decide) rfl (fun ls hl => ?_)
  refine lv_aload_n hx hb d_MD_takeNumber_7 rfl (lv_at hl 1 rfl) ?_
  refine lv_dup hx hb d_MD_takeNumber_8 rfl ?_
  refine va_get (D := (dC, dI)) (ci := 10) (v := .int (z0_3 16 0)) (C := "AlarmMatrixModel") (T := T_MD) (N := 42) hx hb hts i_MD hown hK hP 0 rfl rfl 16 (by decide) (hts _ k5_36) (fun _ h9 => h9) rfl d_MD_takeNumber_9 ?_
  refine lv_aload_n hx hb d_MD_takeNumber_12 rfl (lv_at hl 1 rfl) ?_
  refine va_get (D := (dC, dI)) (ci := 10) (v := .int (z0_3 17 0)) (C := "AlarmMatrixModel") (T := T_MD) (N := 42) hx hb hts i_MD hown hK hP 0 rfl rfl 17 (by decide) (hts _ k5_37) (fun _ h9 => h9) rfl d_MD_takeNumber_13 ?_
  refine lv_if_ge (tgt := 23) hx hb d_MD_takeNumber_16 (by decide) (fun hc => ?_) (fun hc => ?_)
  · replace hm := if_t hm hc
    refine lv_iconst (v := (0 : Int32)) hx hb d_MD_takeNumber_23 (by decide) ?_
    refine lv_iadd hx hb d_MD_takeNumber_24 ?_
    obtain ⟨e0_25, he, hm⟩ := lz_s hm
    refine va_put (D := (dC, dI)) (ci := 10) (v := .int ((z0_3 16 0) + (0 : Int32))) (ty := .int) (C := "AlarmMatrixModel") (T := T_MD) (N := 42) hx hb hts i_MD t_MD o_MD n_MD hown hK hP hD hS 0 rfl rfl 16 (by decide) (hts _ k5_36) (fun _ h9 => h9) rfl (by decide +kernel) rfl rfl (Nat.le_of_ble_eq_true rfl) d_MD_takeNumber_25 (fun H locs hP hD hS => ?_)
    have hP : va_P (dC, dI) vwCl (wd_MD g h0 q0 e0_25) H := by rw [he]; exact hP
    have hD : va_D A (wd_MD g h0 q0 e0_25) := by rw [he]; exact hD
    refine lv_iload_n hx hb d_MD_takeNumber_28 rfl (lv_at hl 0 rfl) ?_
    obtain rfl := Option.some.inj hm
    rw [hQ]
    exact kri hx hb hr hlocks hAe hP hK hD hS d_MD_takeNumber_29
  · replace hm := if_f hm hc
    refine lv_iconst (v := (1 : Int32)) hx hb d_MD_takeNumber_19 (by decide) ?_
    refine lv_goto (tgt := 24) hx hb d_MD_takeNumber_20 (by decide) ?_
    refine lv_iadd hx hb d_MD_takeNumber_24 ?_
    obtain ⟨e0_25, he, hm⟩ := lz_s hm
    refine va_put (D := (dC, dI)) (ci := 10) (v := .int ((z0_3 16 0) + (1 : Int32))) (ty := .int) (C := "AlarmMatrixModel") (T := T_MD) (N := 42) hx hb hts i_MD t_MD o_MD n_MD hown hK hP hD hS 0 rfl rfl 16 (by decide) (hts _ k5_36) (fun _ h9 => h9) rfl (by decide +kernel) rfl rfl (Nat.le_of_ble_eq_true rfl) d_MD_takeNumber_25 (fun H locs hP hD hS => ?_)
    have hP : va_P (dC, dI) vwCl (wd_MD g h0 q0 e0_25) H := by rw [he]; exact hP
    have hD : va_D A (wd_MD g h0 q0 e0_25) := by rw [he]; exact hD
    refine lv_iload_n hx hb d_MD_takeNumber_28 rfl (lv_at hl 0 rfl) ?_
    obtain rfl := Option.some.inj hm
    rw [hQ]
    exact kri hx hb hr hlocks hAe hP hK hD hS d_MD_takeNumber_29
abbrev b_MD_has : ByteArray := prog_12_method_23_code
abbrev y_MD_has : MethodName := ⟨"AlarmMatrixModel", "has", "(II)Z"⟩
theorem d_MD_has_0 : decode b_MD_has 0 = .ok (.iconst 0, 1) := by decide +kernel
theorem d_MD_has_1 : decode b_MD_has 1 = .ok (.istore_n 3, 1) := by decide +kernel
theorem d_MD_has_2 : decode b_MD_has 2 = .ok (.iconst 0, 1) := by decide +kernel
theorem d_MD_has_3 : decode b_MD_has 3 = .ok (.istore 4, 2) := by decide +kernel
theorem d_MD_has_5 : decode b_MD_has 5 = .ok (.iload 4, 2) := by decide +kernel
theorem d_MD_has_7 : decode b_MD_has 7 = .ok (.aload_n 0, 1) := by decide +kernel
theorem d_MD_has_8 : decode b_MD_has 8 = .ok (.getfield 50, 3) := by decide +kernel
theorem d_MD_has_11 : decode b_MD_has 11 = .ok (.iload_n 1, 1) := by decide +kernel
theorem d_MD_has_12 : decode b_MD_has 12 = .ok (.iaload, 1) := by decide +kernel
theorem d_MD_has_13 : decode b_MD_has 13 = .ok (.if_icmp .ge 35, 3) := by decide +kernel
theorem d_MD_has_16 : decode b_MD_has 16 = .ok (.iload_n 3, 1) := by decide +kernel
theorem d_MD_has_17 : decode b_MD_has 17 = .ok (.ifCond .ne 19, 3) := by decide +kernel
theorem d_MD_has_20 : decode b_MD_has 20 = .ok (.aload_n 0, 1) := by decide +kernel
theorem d_MD_has_21 : decode b_MD_has 21 = .ok (.getfield 53, 3) := by decide +kernel
theorem d_MD_has_24 : decode b_MD_has 24 = .ok (.bipush 12, 2) := by decide +kernel
theorem d_MD_has_26 : decode b_MD_has 26 = .ok (.iload_n 1, 1) := by decide +kernel
theorem d_MD_has_27 : decode b_MD_has 27 = .ok (.imul, 1) := by decide +kernel
theorem d_MD_has_28 : decode b_MD_has 28 = .ok (.iload 4, 2) := by decide +kernel
theorem d_MD_has_30 : decode b_MD_has 30 = .ok (.iadd, 1) := by decide +kernel
theorem d_MD_has_31 : decode b_MD_has 31 = .ok (.iaload, 1) := by decide +kernel
theorem d_MD_has_32 : decode b_MD_has 32 = .ok (.iload_n 2, 1) := by decide +kernel
theorem d_MD_has_33 : decode b_MD_has 33 = .ok (.if_icmp .ne 7, 3) := by decide +kernel
theorem d_MD_has_36 : decode b_MD_has 36 = .ok (.iconst 1, 1) := by decide +kernel
theorem d_MD_has_37 : decode b_MD_has 37 = .ok (.goto 4, 3) := by decide +kernel
theorem d_MD_has_40 : decode b_MD_has 40 = .ok (.iconst 0, 1) := by decide +kernel
theorem d_MD_has_41 : decode b_MD_has 41 = .ok (.istore_n 3, 1) := by decide +kernel
theorem d_MD_has_42 : decode b_MD_has 42 = .ok (.iinc 4 1, 3) := by decide +kernel
theorem d_MD_has_45 : decode b_MD_has 45 = .ok (.goto (-40), 3) := by decide +kernel
theorem d_MD_has_48 : decode b_MD_has 48 = .ok (.iload_n 3, 1) := by decide +kernel
theorem d_MD_has_49 : decode b_MD_has 49 = .ok (.ireturn, 1) := by decide +kernel
def m_MD_has_B5 {R : Type} (F : Nat) (a1 : Int32) (x0 : St) (a2 : Int32) (k5_48 : Int32 → Int32 → Option R) (rec5 : Int32 → Int32 → Option R) (v3_5 : Int32) (v4_5 : Int32) : Option R :=
  (ck a1 40 (if ((x0 20) a1.toNatClampNeg) ≤ v4_5 then (k5_48 v3_5 v4_5) else (if v3_5 = (0 : Int32) then (ck (((12 : Int32) * a1) + v4_5) 480 (if ((x0 21) (((12 : Int32) * a1) + v4_5).toNatClampNeg) = a2 then (rec5 (1 : Int32) (v4_5 + (1 : Int32))) else (rec5 (0 : Int32) (v4_5 + (1 : Int32))))) else (rec5 (1 : Int32) (v4_5 + (1 : Int32))))))
theorem m_MD_has_B5_h {R : Type} {F : Nat} {a1 : Int32} {x0 : St} {a2 : Int32} {k5_48 : Int32 → Int32 → Option R} {rec5 : Int32 → Int32 → Option R} {v3_5 : Int32} {v4_5 : Int32} {o : R} (h : m_MD_has_B5 F a1 x0 a2 k5_48 rec5 v3_5 v4_5 = some o) :
  (ck a1 40 (if ((x0 20) a1.toNatClampNeg) ≤ v4_5 then (k5_48 v3_5 v4_5) else (if v3_5 = (0 : Int32) then (ck (((12 : Int32) * a1) + v4_5) 480 (if ((x0 21) (((12 : Int32) * a1) + v4_5).toNatClampNeg) = a2 then (rec5 (1 : Int32) (v4_5 + (1 : Int32))) else (rec5 (0 : Int32) (v4_5 + (1 : Int32))))) else (rec5 (1 : Int32) (v4_5 + (1 : Int32)))))) = some o := h
def m_MD_has (F : Nat) (x0 : St) (a1 : Int32) (a2 : Int32) : Option (Int32) :=
  (lq2 (m_MD_has_B5 F a1 x0 a2 (fun v3_5 v4_5 => (ckb v3_5 (some v3_5)))) F (0 : Int32) (0 : Int32))
abbrev rm_MD_has : Room := { frames := 0, cells := 0, slots := 0, locals := 0 }
set_option maxHeartbeats 4000000 in
set_option maxRecDepth 100000 in
theorem c_MD_has {G : (Nat → Prop) → State → Prop} (hG : gok G) (hGn : gN G) (l : Launch) (dC : Nat → ClassId) (dI : Nat → Nat → Nat) (g : Nat → ClassId) (F : Nat) (sz : Nat) (h0 : Nat) (q0 : Nat → Nat) (x0 : St) (a1 : Int32) (a2 : Int32) {o : Int32} (hm : m_MD_has F x0 a1 a2 = some o) : Met l y_MD_has (.code y_MD_has b_MD_has 5 (some .boolean) :: gw) rm_MD_has (kq (dC, dI) vwCl (tyv g) G [.ref h0, .int a1, .int a2] sz (wd_MD g h0 q0 x0)) (kqi (dC, dI) vwCl (tyv g) (wd_MD g h0 q0 x0) o (wd_MD g h0 q0 x0) sz) 0 0 (va_A (wd_MD g h0 q0 x0) sz) := by
  unfold m_MD_has at hm
  refine km (Qc := fun sz => kqi (dC, dI) vwCl (tyv g) (wd_MD g h0 q0 x0) o (wd_MD g h0 q0 x0) sz) (cc := b_MD_has) (maxL := 5) (ret := some .boolean) (by decide) rfl (Nat.le_of_ble_eq_true rfl) ?_
  intro p e s m args below meth c Q hQ hx hb hr hts hown hlocks hml hnm H locs A hAe hA hP hK hD hS hGA ls hl
  have hl : lv_has ls 5 [(0, .ref h0), (1, .int a1), (2, .int a2)] := hl
  have hts : ∀ w ∈ gw, w.before args s = true := fun w h => hts w (List.mem_cons_of_mem _ h)
  have hown : s.vm.findClass "AlarmMatrixModel" = some m.cls := hown
  refine lv_iconst (v := (0 : Int32)) hx hb d_MD_has_0 (by decide) ?_
  refine lv_istore_n (lv' := [(3, .int (0 : Int32)), (0, .ref h0), (1, .int a1), (2, .int a2)]) hx hb d_MD_has_1 rfl hl (by decide) rfl (fun ls hl => ?_)
  refine lv_iconst (v := (0 : Int32)) hx hb d_MD_has_2 (by decide) ?_
  refine lv_istore (lv' := [(4, .int (0 : Int32)), (3, .int (0 : Int32)), (0, .ref h0), (1, .int a1), (2, .int a2)]) hx hb d_MD_has_3 hl (by decide) rfl (fun ls hl => ?_)
  have L5 : ∀ (n5 : Nat) (v3_5 : Int32) (v4_5 : Int32) (H : Heap) (locs : List Loc) (ls : Array Slot), lq2 (m_MD_has_B5 F a1 x0 a2 (fun v3_5 v4_5 => (ckb v3_5 (some v3_5)))) n5 v3_5 v4_5 = some o → va_P (dC, dI) vwCl (wd_MD g h0 q0 x0) H → va_D A (wd_MD g h0 q0 x0) → va_S A s.heap H locs → lv_has ls 5 [(0, .ref h0), (1, .int a1), (2, .int a2), (3, .int v3_5), (4, .int v4_5)] → W p l e rm_MD_has s m args below meth c H locs 0 0 Q (F0 m 5 ls []) := by
    intro n5
    induction n5 with
    | zero => intro v3_5 v4_5 H locs ls hm; exact absurd hm (by intro z; cases z)
    | succ n5 ih5 =>
      intro v3_5 v4_5 H locs ls hm hP hD hS hl
      replace hm := m_MD_has_B5_h (lq2_h hm)
      refine lv_iload hx hb d_MD_has_5 (lv_at hl 4 rfl) ?_
      refine lv_aload_n hx hb d_MD_has_7 rfl (lv_at hl 0 rfl) ?_
      refine va_get (D := (dC, dI)) (ci := 10) (v := .ref (q0 20)) (C := "AlarmMatrixModel") (T := T_MD) (N := 42) hx hb hts i_MD hown hK hP 0 rfl rfl 20 (by decide) (hts _ k5_40) (fun _ h9 => h9) rfl d_MD_has_8 ?_
      refine lv_iload_n hx hb d_MD_has_11 rfl (lv_at hl 1 rfl) ?_
      obtain ⟨h_12, hm⟩ := ck_s hm
      refine va_iald (f := (x0 20)) hx hb hK hP 14 0 rfl rfl h_12 d_MD_has_12 ?_
      refine lv_icmp_ge (tgt := 48) hx hb d_MD_has_13 (by decide) (fun hc => ?_) (fun hc => ?_)
      · replace hm := if_t hm hc
        refine lv_iload_n hx hb d_MD_has_48 rfl (lv_at hl 3 rfl) ?_
        obtain ⟨hz, hm⟩ := ckb_s hm
        obtain rfl := Option.some.inj hm
        rw [hQ]
        exact krz hx hb hr hz hlocks hAe hP hK hD hS d_MD_has_49
      · replace hm := if_f hm hc
        refine lv_iload_n hx hb d_MD_has_16 rfl (lv_at hl 3 rfl) ?_
        refine lv_if_ne (tgt := 36) hx hb d_MD_has_17 (by decide) (fun hc => ?_) (fun hc => ?_)
        · replace hm := if_f hm hc
          refine lv_iconst (v := (1 : Int32)) hx hb d_MD_has_36 (by decide) ?_
          refine lv_goto (tgt := 41) hx hb d_MD_has_37 (by decide) ?_
          refine lv_istore_n (lv' := [(3, .int (1 : Int32)), (0, .ref h0), (1, .int a1), (2, .int a2), (4, .int v4_5)]) hx hb d_MD_has_41 rfl hl (by decide) rfl (fun ls hl => ?_)
          refine lv_iinc (v := (v4_5 + (1 : Int32))) (lv' := [(4, .int (v4_5 + (1 : Int32))), (3, .int (1 : Int32)), (0, .ref h0), (1, .int a1), (2, .int a2)]) hx hb d_MD_has_42 hl (k := 4) rfl rfl (by decide) rfl (fun ls hl => ?_)
          refine lv_goto (tgt := 5) hx hb d_MD_has_45 (by decide) ?_
          exact ih5 (1 : Int32) (v4_5 + (1 : Int32)) H locs ls hm hP hD hS (lv_sub hl [2, 3, 4, 1, 0] rfl)
        · replace hm := if_t hm hc
          refine lv_aload_n hx hb d_MD_has_20 rfl (lv_at hl 0 rfl) ?_
          refine va_get (D := (dC, dI)) (ci := 10) (v := .ref (q0 21)) (C := "AlarmMatrixModel") (T := T_MD) (N := 42) hx hb hts i_MD hown hK hP 0 rfl rfl 21 (by decide) (hts _ k5_41) (fun _ h9 => h9) rfl d_MD_has_21 ?_
          refine lv_bipush (v := (12 : Int32)) hx hb d_MD_has_24 (by decide) ?_
          refine lv_iload_n hx hb d_MD_has_26 rfl (lv_at hl 1 rfl) ?_
          refine lv_imul hx hb d_MD_has_27 ?_
          refine lv_iload hx hb d_MD_has_28 (lv_at hl 4 rfl) ?_
          refine lv_iadd hx hb d_MD_has_30 ?_
          obtain ⟨h_31, hm⟩ := ck_s hm
          refine va_iald (f := (x0 21)) hx hb hK hP 15 0 rfl rfl h_31 d_MD_has_31 ?_
          refine lv_iload_n hx hb d_MD_has_32 rfl (lv_at hl 2 rfl) ?_
          refine lv_icmp_ne (tgt := 40) hx hb d_MD_has_33 (by decide) (fun hc => ?_) (fun hc => ?_)
          · replace hm := if_f hm hc
            refine lv_iconst (v := (0 : Int32)) hx hb d_MD_has_40 (by decide) ?_
            refine lv_istore_n (lv' := [(3, .int (0 : Int32)), (0, .ref h0), (1, .int a1), (2, .int a2), (4, .int v4_5)]) hx hb d_MD_has_41 rfl hl (by decide) rfl (fun ls hl => ?_)
            refine lv_iinc (v := (v4_5 + (1 : Int32))) (lv' := [(4, .int (v4_5 + (1 : Int32))), (3, .int (0 : Int32)), (0, .ref h0), (1, .int a1), (2, .int a2)]) hx hb d_MD_has_42 hl (k := 4) rfl rfl (by decide) rfl (fun ls hl => ?_)
            refine lv_goto (tgt := 5) hx hb d_MD_has_45 (by decide) ?_
            exact ih5 (0 : Int32) (v4_5 + (1 : Int32)) H locs ls hm hP hD hS (lv_sub hl [2, 3, 4, 1, 0] rfl)
          · replace hm := if_t hm hc
            refine lv_iconst (v := (1 : Int32)) hx hb d_MD_has_36 (by decide) ?_
            refine lv_goto (tgt := 41) hx hb d_MD_has_37 (by decide) ?_
            refine lv_istore_n (lv' := [(3, .int (1 : Int32)), (0, .ref h0), (1, .int a1), (2, .int a2), (4, .int v4_5)]) hx hb d_MD_has_41 rfl hl (by decide) rfl (fun ls hl => ?_)
            refine lv_iinc (v := (v4_5 + (1 : Int32))) (lv' := [(4, .int (v4_5 + (1 : Int32))), (3, .int (1 : Int32)), (0, .ref h0), (1, .int a1), (2, .int a2)]) hx hb d_MD_has_42 hl (k := 4) rfl rfl (by decide) rfl (fun ls hl => ?_)
            refine lv_goto (tgt := 5) hx hb d_MD_has_45 (by decide) ?_
            exact ih5 (1 : Int32) (v4_5 + (1 : Int32)) H locs ls hm hP hD hS (lv_sub hl [2, 3, 4, 1, 0] rfl)
  exact L5 F (0 : Int32) (0 : Int32) H locs ls hm hP hD hS (lv_sub hl [2, 3, 4, 1, 0] rfl)
abbrev b_MD_readZone : ByteArray := prog_12_method_24_code
abbrev y_MD_readZone : MethodName := ⟨"AlarmMatrixModel", "readZone", "()V"⟩
theorem d_MD_readZone_0 : decode b_MD_readZone 0 = .ok (.aload_n 0, 1) := by decide +kernel
theorem d_MD_readZone_1 : decode b_MD_readZone 1 = .ok (.iconst 0, 1) := by decide +kernel
theorem d_MD_readZone_2 : decode b_MD_readZone 2 = .ok (.bipush 19, 2) := by decide +kernel
theorem d_MD_readZone_4 : decode b_MD_readZone 4 = .ok (.invokevirtual 177, 3) := by decide +kernel
theorem d_MD_readZone_7 : decode b_MD_readZone 7 = .ok (.bipush 20, 2) := by decide +kernel
theorem d_MD_readZone_9 : decode b_MD_readZone 9 = .ok (.iadd, 1) := by decide +kernel
theorem d_MD_readZone_10 : decode b_MD_readZone 10 = .ok (.istore_n 1, 1) := by decide +kernel
theorem d_MD_readZone_11 : decode b_MD_readZone 11 = .ok (.aload_n 0, 1) := by decide +kernel
theorem d_MD_readZone_12 : decode b_MD_readZone 12 = .ok (.getfield 163, 3) := by decide +kernel
theorem d_MD_readZone_15 : decode b_MD_readZone 15 = .ok (.ifCond .ge 24, 3) := by decide +kernel
theorem d_MD_readZone_18 : decode b_MD_readZone 18 = .ok (.aload_n 0, 1) := by decide +kernel
theorem d_MD_readZone_19 : decode b_MD_readZone 19 = .ok (.aload_n 0, 1) := by decide +kernel
theorem d_MD_readZone_20 : decode b_MD_readZone 20 = .ok (.getfield 44, 3) := by decide +kernel
theorem d_MD_readZone_23 : decode b_MD_readZone 23 = .ok (.iload_n 1, 1) := by decide +kernel
theorem d_MD_readZone_24 : decode b_MD_readZone 24 = .ok (.baload, 1) := by decide +kernel
theorem d_MD_readZone_25 : decode b_MD_readZone 25 = .ok (.ifCond .ne 7, 3) := by decide +kernel
theorem d_MD_readZone_28 : decode b_MD_readZone 28 = .ok (.iconst 1, 1) := by decide +kernel
theorem d_MD_readZone_29 : decode b_MD_readZone 29 = .ok (.goto 4, 3) := by decide +kernel
theorem d_MD_readZone_32 : decode b_MD_readZone 32 = .ok (.iconst 0, 1) := by decide +kernel
theorem d_MD_readZone_33 : decode b_MD_readZone 33 = .ok (.invokevirtual 170, 3) := by decide +kernel
theorem d_MD_readZone_36 : decode b_MD_readZone 36 = .ok (.ifCond .ne 4, 3) := by decide +kernel
theorem d_MD_readZone_39 : decode b_MD_readZone 39 = .ok (.return_, 1) := by decide +kernel
theorem d_MD_readZone_40 : decode b_MD_readZone 40 = .ok (.aload_n 0, 1) := by decide +kernel
theorem d_MD_readZone_41 : decode b_MD_readZone 41 = .ok (.dup, 1) := by decide +kernel
theorem d_MD_readZone_42 : decode b_MD_readZone 42 = .ok (.getfield 160, 3) := by decide +kernel
theorem d_MD_readZone_45 : decode b_MD_readZone 45 = .ok (.iconst 1, 1) := by decide +kernel
theorem d_MD_readZone_46 : decode b_MD_readZone 46 = .ok (.iadd, 1) := by decide +kernel
theorem d_MD_readZone_47 : decode b_MD_readZone 47 = .ok (.putfield 160, 3) := by decide +kernel
theorem d_MD_readZone_50 : decode b_MD_readZone 50 = .ok (.aload_n 0, 1) := by decide +kernel
theorem d_MD_readZone_51 : decode b_MD_readZone 51 = .ok (.ldc 145, 2) := by decide +kernel
theorem d_MD_readZone_53 : decode b_MD_readZone 53 = .ok (.invokevirtual 181, 3) := by decide +kernel
theorem d_MD_readZone_56 : decode b_MD_readZone 56 = .ok (.aload_n 0, 1) := by decide +kernel
theorem d_MD_readZone_57 : decode b_MD_readZone 57 = .ok (.getfield 160, 3) := by decide +kernel
theorem d_MD_readZone_60 : decode b_MD_readZone 60 = .ok (.istore_n 2, 1) := by decide +kernel
theorem d_MD_readZone_61 : decode b_MD_readZone 61 = .ok (.aload_n 0, 1) := by decide +kernel
theorem d_MD_readZone_62 : decode b_MD_readZone 62 = .ok (.iconst 1, 1) := by decide +kernel
theorem d_MD_readZone_63 : decode b_MD_readZone 63 = .ok (.bipush 12, 2) := by decide +kernel
theorem d_MD_readZone_65 : decode b_MD_readZone 65 = .ok (.invokevirtual 184, 3) := by decide +kernel
theorem d_MD_readZone_68 : decode b_MD_readZone 68 = .ok (.istore_n 3, 1) := by decide +kernel
theorem d_MD_readZone_69 : decode b_MD_readZone 69 = .ok (.aload_n 0, 1) := by decide +kernel
theorem d_MD_readZone_70 : decode b_MD_readZone 70 = .ok (.sipush 207, 3) := by decide +kernel
theorem d_MD_readZone_73 : decode b_MD_readZone 73 = .ok (.invokevirtual 181, 3) := by decide +kernel
theorem d_MD_readZone_76 : decode b_MD_readZone 76 = .ok (.aload_n 0, 1) := by decide +kernel
theorem d_MD_readZone_77 : decode b_MD_readZone 77 = .ok (.getfield 50, 3) := by decide +kernel
theorem d_MD_readZone_80 : decode b_MD_readZone 80 = .ok (.iload_n 1, 1) := by decide +kernel
theorem d_MD_readZone_81 : decode b_MD_readZone 81 = .ok (.iconst 0, 1) := by decide +kernel
theorem d_MD_readZone_82 : decode b_MD_readZone 82 = .ok (.iastore, 1) := by decide +kernel
theorem d_MD_readZone_83 : decode b_MD_readZone 83 = .ok (.iconst 1, 1) := by decide +kernel
theorem d_MD_readZone_84 : decode b_MD_readZone 84 = .ok (.istore 4, 2) := by decide +kernel
theorem d_MD_readZone_86 : decode b_MD_readZone 86 = .ok (.iload 4, 2) := by decide +kernel
theorem d_MD_readZone_88 : decode b_MD_readZone 88 = .ok (.ifCond .eq 120, 3) := by decide +kernel
theorem d_MD_readZone_91 : decode b_MD_readZone 91 = .ok (.aload_n 0, 1) := by decide +kernel
theorem d_MD_readZone_92 : decode b_MD_readZone 92 = .ok (.getfield 163, 3) := by decide +kernel
theorem d_MD_readZone_95 : decode b_MD_readZone 95 = .ok (.ifCond .ge 113, 3) := by decide +kernel
theorem d_MD_readZone_98 : decode b_MD_readZone 98 = .ok (.aload_n 0, 1) := by decide +kernel
theorem d_MD_readZone_99 : decode b_MD_readZone 99 = .ok (.iconst 0, 1) := by decide +kernel
theorem d_MD_readZone_100 : decode b_MD_readZone 100 = .ok (.aload_n 0, 1) := by decide +kernel
theorem d_MD_readZone_101 : decode b_MD_readZone 101 = .ok (.getfield 104, 3) := by decide +kernel
theorem d_MD_readZone_104 : decode b_MD_readZone 104 = .ok (.iconst 1, 1) := by decide +kernel
theorem d_MD_readZone_105 : decode b_MD_readZone 105 = .ok (.isub, 1) := by decide +kernel
theorem d_MD_readZone_106 : decode b_MD_readZone 106 = .ok (.invokevirtual 177, 3) := by decide +kernel
theorem d_MD_readZone_109 : decode b_MD_readZone 109 = .ok (.istore 5, 2) := by decide +kernel
theorem d_MD_readZone_111 : decode b_MD_readZone 111 = .ok (.aload_n 0, 1) := by decide +kernel
theorem d_MD_readZone_112 : decode b_MD_readZone 112 = .ok (.getfield 163, 3) := by decide +kernel
theorem d_MD_readZone_115 : decode b_MD_readZone 115 = .ok (.ifCond .ge 74, 3) := by decide +kernel
theorem d_MD_readZone_118 : decode b_MD_readZone 118 = .ok (.aload_n 0, 1) := by decide +kernel
theorem d_MD_readZone_119 : decode b_MD_readZone 119 = .ok (.aload_n 0, 1) := by decide +kernel
theorem d_MD_readZone_120 : decode b_MD_readZone 120 = .ok (.getfield 50, 3) := by decide +kernel
theorem d_MD_readZone_123 : decode b_MD_readZone 123 = .ok (.iload_n 1, 1) := by decide +kernel
theorem d_MD_readZone_124 : decode b_MD_readZone 124 = .ok (.iaload, 1) := by decide +kernel
theorem d_MD_readZone_125 : decode b_MD_readZone 125 = .ok (.bipush 12, 2) := by decide +kernel
theorem d_MD_readZone_127 : decode b_MD_readZone 127 = .ok (.if_icmp .ge 17, 3) := by decide +kernel
theorem d_MD_readZone_130 : decode b_MD_readZone 130 = .ok (.aload_n 0, 1) := by decide +kernel
theorem d_MD_readZone_131 : decode b_MD_readZone 131 = .ok (.iload_n 1, 1) := by decide +kernel
theorem d_MD_readZone_132 : decode b_MD_readZone 132 = .ok (.iload 5, 2) := by decide +kernel
theorem d_MD_readZone_134 : decode b_MD_readZone 134 = .ok (.invokevirtual 187, 3) := by decide +kernel
theorem d_MD_readZone_137 : decode b_MD_readZone 137 = .ok (.ifCond .ne 7, 3) := by decide +kernel
theorem d_MD_readZone_140 : decode b_MD_readZone 140 = .ok (.iconst 1, 1) := by decide +kernel
theorem d_MD_readZone_141 : decode b_MD_readZone 141 = .ok (.goto 4, 3) := by decide +kernel
theorem d_MD_readZone_144 : decode b_MD_readZone 144 = .ok (.iconst 0, 1) := by decide +kernel
theorem d_MD_readZone_145 : decode b_MD_readZone 145 = .ok (.invokevirtual 170, 3) := by decide +kernel
theorem d_MD_readZone_148 : decode b_MD_readZone 148 = .ok (.ifCond .eq 41, 3) := by decide +kernel
theorem d_MD_readZone_151 : decode b_MD_readZone 151 = .ok (.aload_n 0, 1) := by decide +kernel
theorem d_MD_readZone_152 : decode b_MD_readZone 152 = .ok (.getfield 53, 3) := by decide +kernel
theorem d_MD_readZone_155 : decode b_MD_readZone 155 = .ok (.bipush 12, 2) := by decide +kernel
theorem d_MD_readZone_157 : decode b_MD_readZone 157 = .ok (.iload_n 1, 1) := by decide +kernel
theorem d_MD_readZone_158 : decode b_MD_readZone 158 = .ok (.imul, 1) := by decide +kernel
theorem d_MD_readZone_159 : decode b_MD_readZone 159 = .ok (.aload_n 0, 1) := by decide +kernel
theorem d_MD_readZone_160 : decode b_MD_readZone 160 = .ok (.getfield 50, 3) := by decide +kernel
theorem d_MD_readZone_163 : decode b_MD_readZone 163 = .ok (.iload_n 1, 1) := by decide +kernel
theorem d_MD_readZone_164 : decode b_MD_readZone 164 = .ok (.iaload, 1) := by decide +kernel
theorem d_MD_readZone_165 : decode b_MD_readZone 165 = .ok (.iadd, 1) := by decide +kernel
theorem d_MD_readZone_166 : decode b_MD_readZone 166 = .ok (.iload 5, 2) := by decide +kernel
theorem d_MD_readZone_168 : decode b_MD_readZone 168 = .ok (.iastore, 1) := by decide +kernel
theorem d_MD_readZone_169 : decode b_MD_readZone 169 = .ok (.aload_n 0, 1) := by decide +kernel
theorem d_MD_readZone_170 : decode b_MD_readZone 170 = .ok (.getfield 50, 3) := by decide +kernel
theorem d_MD_readZone_173 : decode b_MD_readZone 173 = .ok (.iload_n 1, 1) := by decide +kernel
theorem d_MD_readZone_174 : decode b_MD_readZone 174 = .ok (.dup2, 1) := by decide +kernel
theorem d_MD_readZone_175 : decode b_MD_readZone 175 = .ok (.iaload, 1) := by decide +kernel
theorem d_MD_readZone_176 : decode b_MD_readZone 176 = .ok (.iconst 1, 1) := by decide +kernel
theorem d_MD_readZone_177 : decode b_MD_readZone 177 = .ok (.iadd, 1) := by decide +kernel
theorem d_MD_readZone_178 : decode b_MD_readZone 178 = .ok (.iastore, 1) := by decide +kernel
theorem d_MD_readZone_179 : decode b_MD_readZone 179 = .ok (.aload_n 0, 1) := by decide +kernel
theorem d_MD_readZone_180 : decode b_MD_readZone 180 = .ok (.dup, 1) := by decide +kernel
theorem d_MD_readZone_181 : decode b_MD_readZone 181 = .ok (.getfield 160, 3) := by decide +kernel
theorem d_MD_readZone_184 : decode b_MD_readZone 184 = .ok (.iconst 1, 1) := by decide +kernel
theorem d_MD_readZone_185 : decode b_MD_readZone 185 = .ok (.iadd, 1) := by decide +kernel
theorem d_MD_readZone_186 : decode b_MD_readZone 186 = .ok (.putfield 160, 3) := by decide +kernel
theorem d_MD_readZone_189 : decode b_MD_readZone 189 = .ok (.aload_n 0, 1) := by decide +kernel
theorem d_MD_readZone_190 : decode b_MD_readZone 190 = .ok (.bipush 59, 2) := by decide +kernel
theorem d_MD_readZone_192 : decode b_MD_readZone 192 = .ok (.invokevirtual 174, 3) := by decide +kernel
theorem d_MD_readZone_195 : decode b_MD_readZone 195 = .ok (.ifCond .ne 7, 3) := by decide +kernel
theorem d_MD_readZone_198 : decode b_MD_readZone 198 = .ok (.iconst 1, 1) := by decide +kernel
theorem d_MD_readZone_199 : decode b_MD_readZone 199 = .ok (.goto 4, 3) := by decide +kernel
theorem d_MD_readZone_202 : decode b_MD_readZone 202 = .ok (.iconst 0, 1) := by decide +kernel
theorem d_MD_readZone_203 : decode b_MD_readZone 203 = .ok (.istore 4, 2) := by decide +kernel
theorem d_MD_readZone_205 : decode b_MD_readZone 205 = .ok (.goto (-119), 3) := by decide +kernel
theorem d_MD_readZone_208 : decode b_MD_readZone 208 = .ok (.aload_n 0, 1) := by decide +kernel
theorem d_MD_readZone_209 : decode b_MD_readZone 209 = .ok (.getfield 163, 3) := by decide +kernel
theorem d_MD_readZone_212 : decode b_MD_readZone 212 = .ok (.ifCond .ge 46, 3) := by decide +kernel
theorem d_MD_readZone_215 : decode b_MD_readZone 215 = .ok (.aload_n 0, 1) := by decide +kernel
theorem d_MD_readZone_216 : decode b_MD_readZone 216 = .ok (.dup, 1) := by decide +kernel
theorem d_MD_readZone_217 : decode b_MD_readZone 217 = .ok (.getfield 160, 3) := by decide +kernel
theorem d_MD_readZone_220 : decode b_MD_readZone 220 = .ok (.iconst 1, 1) := by decide +kernel
theorem d_MD_readZone_221 : decode b_MD_readZone 221 = .ok (.iadd, 1) := by decide +kernel
theorem d_MD_readZone_222 : decode b_MD_readZone 222 = .ok (.putfield 160, 3) := by decide +kernel
theorem d_MD_readZone_225 : decode b_MD_readZone 225 = .ok (.aload_n 0, 1) := by decide +kernel
theorem d_MD_readZone_226 : decode b_MD_readZone 226 = .ok (.iload_n 3, 1) := by decide +kernel
theorem d_MD_readZone_227 : decode b_MD_readZone 227 = .ok (.aload_n 0, 1) := by decide +kernel
theorem d_MD_readZone_228 : decode b_MD_readZone 228 = .ok (.getfield 50, 3) := by decide +kernel
theorem d_MD_readZone_231 : decode b_MD_readZone 231 = .ok (.iload_n 1, 1) := by decide +kernel
theorem d_MD_readZone_232 : decode b_MD_readZone 232 = .ok (.iaload, 1) := by decide +kernel
theorem d_MD_readZone_233 : decode b_MD_readZone 233 = .ok (.if_icmp .le 7, 3) := by decide +kernel
theorem d_MD_readZone_236 : decode b_MD_readZone 236 = .ok (.iload_n 2, 1) := by decide +kernel
theorem d_MD_readZone_237 : decode b_MD_readZone 237 = .ok (.goto 4, 3) := by decide +kernel
theorem d_MD_readZone_240 : decode b_MD_readZone 240 = .ok (.iconst (-1), 1) := by decide +kernel
theorem d_MD_readZone_241 : decode b_MD_readZone 241 = .ok (.putfield 163, 3) := by decide +kernel
theorem d_MD_readZone_244 : decode b_MD_readZone 244 = .ok (.aload_n 0, 1) := by decide +kernel
theorem d_MD_readZone_245 : decode b_MD_readZone 245 = .ok (.getfield 47, 3) := by decide +kernel
theorem d_MD_readZone_248 : decode b_MD_readZone 248 = .ok (.iload_n 1, 1) := by decide +kernel
theorem d_MD_readZone_249 : decode b_MD_readZone 249 = .ok (.iload_n 3, 1) := by decide +kernel
theorem d_MD_readZone_250 : decode b_MD_readZone 250 = .ok (.iastore, 1) := by decide +kernel
theorem d_MD_readZone_251 : decode b_MD_readZone 251 = .ok (.aload_n 0, 1) := by decide +kernel
theorem d_MD_readZone_252 : decode b_MD_readZone 252 = .ok (.getfield 44, 3) := by decide +kernel
theorem d_MD_readZone_255 : decode b_MD_readZone 255 = .ok (.iload_n 1, 1) := by decide +kernel
theorem d_MD_readZone_256 : decode b_MD_readZone 256 = .ok (.iconst 1, 1) := by decide +kernel
theorem d_MD_readZone_257 : decode b_MD_readZone 257 = .ok (.bastore, 1) := by decide +kernel
theorem d_MD_readZone_258 : decode b_MD_readZone 258 = .ok (.return_, 1) := by decide +kernel
def m_MD_readZone_J145 {R : Type} (F : Nat) (r4 : Int32) (k86_208 : Int32 → St → Option R) (rec86 : Int32 → St → Option R) (j4_145 : Int32) (j5_145 : Int32) (s0_145 : Int32) (t0_145 : St) : Option R :=
  (bn2 (m_MD_want F t0_145 s0_145) (fun r145 z0_145 => (if r145 = (0 : Int32) then (bn1 (m_MD_isSign F z0_145 (59 : Int32)) (fun r192 => (if r192 = (0 : Int32) then (rec86 (1 : Int32) z0_145) else (rec86 (0 : Int32) z0_145)))) else (ck (r4 + (20 : Int32)) 40 (ck (((12 : Int32) * (r4 + (20 : Int32))) + ((z0_145 20) (r4 + (20 : Int32)).toNatClampNeg)) 480 (lz (st z0_145 21 (upd (z0_145 21) (((12 : Int32) * (r4 + (20 : Int32))) + ((z0_145 20) (r4 + (20 : Int32)).toNatClampNeg)).toNatClampNeg j5_145)) (fun e0_168 => (ck (r4 + (20 : Int32)) 40 (ck (r4 + (20 : Int32)) 40 (lz (st e0_168 20 (upd (e0_168 20) (r4 + (20 : Int32)).toNatClampNeg (((e0_168 20) (r4 + (20 : Int32)).toNatClampNeg) + (1 : Int32)))) (fun e0_178 => (lz (sc e0_178 16 ((e0_178 16 0) + (1 : Int32))) (fun e0_186 => (bn1 (m_MD_isSign F e0_186 (59 : Int32)) (fun r192 => (if r192 = (0 : Int32) then (rec86 (1 : Int32) e0_186) else (rec86 (0 : Int32) e0_186)))))))))))))))))
theorem m_MD_readZone_J145_h {R : Type} {F : Nat} {r4 : Int32} {k86_208 : Int32 → St → Option R} {rec86 : Int32 → St → Option R} {j4_145 : Int32} {j5_145 : Int32} {s0_145 : Int32} {t0_145 : St} {o : R} (h : m_MD_readZone_J145 F r4 k86_208 rec86 j4_145 j5_145 s0_145 t0_145 = some o) :
  (bn2 (m_MD_want F t0_145 s0_145) (fun r145 z0_145 => (if r145 = (0 : Int32) then (bn1 (m_MD_isSign F z0_145 (59 : Int32)) (fun r192 => (if r192 = (0 : Int32) then (rec86 (1 : Int32) z0_145) else (rec86 (0 : Int32) z0_145)))) else (ck (r4 + (20 : Int32)) 40 (ck (((12 : Int32) * (r4 + (20 : Int32))) + ((z0_145 20) (r4 + (20 : Int32)).toNatClampNeg)) 480 (lz (st z0_145 21 (upd (z0_145 21) (((12 : Int32) * (r4 + (20 : Int32))) + ((z0_145 20) (r4 + (20 : Int32)).toNatClampNeg)).toNatClampNeg j5_145)) (fun e0_168 => (ck (r4 + (20 : Int32)) 40 (ck (r4 + (20 : Int32)) 40 (lz (st e0_168 20 (upd (e0_168 20) (r4 + (20 : Int32)).toNatClampNeg (((e0_168 20) (r4 + (20 : Int32)).toNatClampNeg) + (1 : Int32)))) (fun e0_178 => (lz (sc e0_178 16 ((e0_178 16 0) + (1 : Int32))) (fun e0_186 => (bn1 (m_MD_isSign F e0_186 (59 : Int32)) (fun r192 => (if r192 = (0 : Int32) then (rec86 (1 : Int32) e0_186) else (rec86 (0 : Int32) e0_186))))))))))))))))) = some o := h
def m_MD_readZone_B86 {R : Type} (F : Nat) (r4 : Int32) (k86_208 : Int32 → St → Option R) (rec86 : Int32 → St → Option R) (v4_86 : Int32) (y0_86 : St) : Option R :=
  (if v4_86 = (0 : Int32) then (k86_208 v4_86 y0_86) else (if (0 : Int32) ≤ (y0_86 17 0) then (k86_208 v4_86 y0_86) else (bn2 (m_MD_look F y0_86 (0 : Int32) ((y0_86 1 0) - (1 : Int32))) (fun r106 z0_106 => (if (0 : Int32) ≤ (z0_106 17 0) then (bn1 (m_MD_isSign F z0_106 (59 : Int32)) (fun r192 => (if r192 = (0 : Int32) then (rec86 (1 : Int32) z0_106) else (rec86 (0 : Int32) z0_106)))) else (ck (r4 + (20 : Int32)) 40 (if (12 : Int32) ≤ ((z0_106 20) (r4 + (20 : Int32)).toNatClampNeg) then (m_MD_readZone_J145 F r4 k86_208 rec86 v4_86 r106 (0 : Int32) z0_106) else (bn1 (m_MD_has F z0_106 (r4 + (20 : Int32)) r106) (fun r134 => (if r134 = (0 : Int32) then (m_MD_readZone_J145 F r4 k86_208 rec86 v4_86 r106 (1 : Int32) z0_106) else (m_MD_readZone_J145 F r4 k86_208 rec86 v4_86 r106 (0 : Int32) z0_106)))))))))))
theorem m_MD_readZone_B86_h {R : Type} {F : Nat} {r4 : Int32} {k86_208 : Int32 → St → Option R} {rec86 : Int32 → St → Option R} {v4_86 : Int32} {y0_86 : St} {o : R} (h : m_MD_readZone_B86 F r4 k86_208 rec86 v4_86 y0_86 = some o) :
  (if v4_86 = (0 : Int32) then (k86_208 v4_86 y0_86) else (if (0 : Int32) ≤ (y0_86 17 0) then (k86_208 v4_86 y0_86) else (bn2 (m_MD_look F y0_86 (0 : Int32) ((y0_86 1 0) - (1 : Int32))) (fun r106 z0_106 => (if (0 : Int32) ≤ (z0_106 17 0) then (bn1 (m_MD_isSign F z0_106 (59 : Int32)) (fun r192 => (if r192 = (0 : Int32) then (rec86 (1 : Int32) z0_106) else (rec86 (0 : Int32) z0_106)))) else (ck (r4 + (20 : Int32)) 40 (if (12 : Int32) ≤ ((z0_106 20) (r4 + (20 : Int32)).toNatClampNeg) then (m_MD_readZone_J145 F r4 k86_208 rec86 v4_86 r106 (0 : Int32) z0_106) else (bn1 (m_MD_has F z0_106 (r4 + (20 : Int32)) r106) (fun r134 => (if r134 = (0 : Int32) then (m_MD_readZone_J145 F r4 k86_208 rec86 v4_86 r106 (1 : Int32) z0_106) else (m_MD_readZone_J145 F r4 k86_208 rec86 v4_86 r106 (0 : Int32) z0_106))))))))))) = some o := h
def m_MD_readZone (F : Nat) (x0 : St) : Option (St) :=
  (bn2 (m_MD_look F x0 (0 : Int32) (19 : Int32)) (fun r4 z0_4 => (if (0 : Int32) ≤ (z0_4 17 0) then (some z0_4) else (ck (r4 + (20 : Int32)) 40 (if ((z0_4 18) (r4 + (20 : Int32)).toNatClampNeg) = (0 : Int32) then (bn2 (m_MD_want F z0_4 (1 : Int32)) (fun r33 z0_33 => (if r33 = (0 : Int32) then (some z0_33) else (lz (sc z0_33 16 ((z0_33 16 0) + (1 : Int32))) (fun e0_47 => (bn1 (m_MD_take_0 F e0_47 (20059310 : Int32)) (fun z0_53 => (bn2 (m_MD_takeNumber F z0_53 (1 : Int32) (12 : Int32)) (fun r65 z0_65 => (bn1 (m_MD_take_0 F z0_65 (207 : Int32)) (fun z0_73 => (ck (r4 + (20 : Int32)) 40 (lz (st z0_73 20 (upd (z0_73 20) (r4 + (20 : Int32)).toNatClampNeg (0 : Int32))) (fun e0_82 => (lq2 (m_MD_readZone_B86 F r4 (fun v4_86 y0_86 => (if (0 : Int32) ≤ (y0_86 17 0) then (some y0_86) else (lz (sc y0_86 16 ((y0_86 16 0) + (1 : Int32))) (fun e0_222 => (ck (r4 + (20 : Int32)) 40 (if r65 ≤ ((e0_222 20) (r4 + (20 : Int32)).toNatClampNeg) then (lz (sc e0_222 17 (-1 : Int32)) (fun e0_241 => (ck (r4 + (20 : Int32)) 40 (lz (st e0_241 19 (upd (e0_241 19) (r4 + (20 : Int32)).toNatClampNeg r65)) (fun e0_250 => (ck (r4 + (20 : Int32)) 40 (lz (st e0_250 18 (upd (e0_250 18) (r4 + (20 : Int32)).toNatClampNeg (vp_nar .boolean (1 : Int32)))) (fun e0_257 => (some e0_257))))))))) else (lz (sc e0_222 17 (z0_53 16 0)) (fun e0_241 => (ck (r4 + (20 : Int32)) 40 (lz (st e0_241 19 (upd (e0_241 19) (r4 + (20 : Int32)).toNatClampNeg r65)) (fun e0_250 => (ck (r4 + (20 : Int32)) 40 (lz (st e0_250 18 (upd (e0_250 18) (r4 + (20 : Int32)).toNatClampNeg (vp_nar .boolean (1 : Int32)))) (fun e0_257 => (some e0_257)))))))))))))))) F (1 : Int32) e0_82))))))))))))))) else (bn2 (m_MD_want F z0_4 (0 : Int32)) (fun r33 z0_33 => (if r33 = (0 : Int32) then (some z0_33) else (lz (sc z0_33 16 ((z0_33 16 0) + (1 : Int32))) (fun e0_47 => (bn1 (m_MD_take_0 F e0_47 (20059310 : Int32)) (fun z0_53 => (bn2 (m_MD_takeNumber F z0_53 (1 : Int32) (12 : Int32)) (fun r65 z0_65 => (bn1 (m_MD_take_0 F z0_65 (207 : Int32)) (fun z0_73 => (ck (r4 + (20 : Int32)) 40 (lz (st z0_73 20 (upd (z0_73 20) (r4 + (20 : Int32)).toNatClampNeg (0 : Int32))) (fun e0_82 => (lq2 (m_MD_readZone_B86 F r4 (fun v4_86 y0_86 => (if (0 : Int32) ≤ (y0_86 17 0) then (some y0_86) else (lz (sc y0_86 16 ((y0_86 16 0) + (1 : Int32))) (fun e0_222 => (ck (r4 + (20 : Int32)) 40 (if r65 ≤ ((e0_222 20) (r4 + (20 : Int32)).toNatClampNeg) then (lz (sc e0_222 17 (-1 : Int32)) (fun e0_241 => (ck (r4 + (20 : Int32)) 40 (lz (st e0_241 19 (upd (e0_241 19) (r4 + (20 : Int32)).toNatClampNeg r65)) (fun e0_250 => (ck (r4 + (20 : Int32)) 40 (lz (st e0_250 18 (upd (e0_250 18) (r4 + (20 : Int32)).toNatClampNeg (vp_nar .boolean (1 : Int32)))) (fun e0_257 => (some e0_257))))))))) else (lz (sc e0_222 17 (z0_53 16 0)) (fun e0_241 => (ck (r4 + (20 : Int32)) 40 (lz (st e0_241 19 (upd (e0_241 19) (r4 + (20 : Int32)).toNatClampNeg r65)) (fun e0_250 => (ck (r4 + (20 : Int32)) 40 (lz (st e0_250 18 (upd (e0_250 18) (r4 + (20 : Int32)).toNatClampNeg (vp_nar .boolean (1 : Int32)))) (fun e0_257 => (some e0_257)))))))))))))))) F (1 : Int32) e0_82))))))))))))))))))))
abbrev rm_MD_readZone : Room := { frames := 3, cells := 0, slots := 0, locals := 69 }
set_option maxHeartbeats 4000000 in
set_option maxRecDepth 100000 in
theorem c_MD_readZone {G : (Nat → Prop) → State → Prop} (hG : gok G) (hGn : gN G) (l : Launch) (dC : Nat → ClassId) (dI : Nat → Nat → Nat) (g : Nat → ClassId) (F : Nat) (sz : Nat) (h0 : Nat) (q0 : Nat → Nat) (x0 : St) {o : St} (hm : m_MD_readZone F x0 = some o) : Met l y_MD_readZone (.code y_MD_readZone b_MD_readZone 6 none :: gw) rm_MD_readZone (kq (dC, dI) vwCl (tyv g) G [.ref h0] sz (wd_MD g h0 q0 x0)) (kqv (dC, dI) vwCl (tyv g) (wd_MD g h0 q0 x0) (wd_MD g h0 q0 o) sz) 0 0 (va_A (wd_MD g h0 q0 x0) sz) := by
  unfold m_MD_readZone at hm
  refine km (Qc := fun sz => kqv (dC, dI) vwCl (tyv g) (wd_MD g h0 q0 x0) (wd_MD g h0 q0 o) sz) (cc := b_MD_readZone) (maxL := 6) (ret := none) (by decide) rfl (Nat.le_of_ble_eq_true rfl) ?_
  intro p e s m args below meth c Q hQ hx hb hr hts hown hlocks hml hnm H locs A hAe hA hP hK hD hS hGA ls hl
  have hl : lv_has ls 6 [(0, .ref h0)] := hl
  have hts : ∀ w ∈ gw, w.before args s = true := fun w h => hts w (List.mem_cons_of_mem _ h)
  have hown : s.vm.findClass "AlarmMatrixModel" = some m.cls := hown
  refine lv_aload_n hx hb d_MD_readZone_0 rfl (lv_at hl 0 rfl) ?_
  refine lv_iconst (v := (0 : Int32)) hx hb d_MD_readZone_1 (by decide) ?_
  refine lv_bipush (v := (19 : Int32)) hx hb d_MD_readZone_2 (by decide) ?_
  obtain ⟨r4, z0_4, hcl, hm⟩ := bn2_s hm
  refine kci (wc := wd_MD g h0 q0 x0) (wr := ([] : va_W)) (w1 := wd_MD g h0 q0 z0_4) hP hD hS hA [0, 1, 2, 3, 4, 5, 6, 7, 8, 9, 10, 11, 12, 13, 14, 15, 16, 17, 18, 19, 20, 21, 22, 23, 24, 25, 26, 27, 28, 29, 30, 31] [] rfl rfl (by decide) (by decide) (va_runV (As := [.int (0 : Int32), .int (19 : Int32)]) (rest := []) ⟨hx, hb, hml, hown, hts⟩ (c_MD_look hG hGn l dC dI g F H.size h0 q0 x0 (0 : Int32) (19 : Int32) hcl) (cwV 2 hts (gdV k5_225 k5_227 kp_31 k1_10 k5_228) rfl rfl rfl (by decide +kernel) ⟨Nat.le_of_ble_eq_true rfl, Nat.le_of_ble_eq_true rfl⟩) (kpV hG hP hK hD hS hA hGA [0, 1, 2, 3, 4, 5, 6, 7, 8, 9, 10, 11, 12, 13, 14, 15, 16, 17, 18, 19, 20, 21, 22, 23, 24, 25, 26, 27, 28, 29, 30, 31] (by decide) rfl (ci := 10) (q0 := 0) rfl rfl rfl) rfl rfl hl.1 rfl (lv_room (Nat.le_of_ble_eq_true rfl)) d_MD_readZone_4 ⟨Nat.le_of_ble_eq_true rfl, Nat.le_of_ble_eq_true rfl⟩) (fun H locs hP hD hS => ?_)
  have hP : va_P (dC, dI) vwCl (wd_MD g h0 q0 z0_4) H := hP
  have hD : va_D A (wd_MD g h0 q0 z0_4) := hD
  refine lv_bipush (v := (20 : Int32)) hx hb d_MD_readZone_7 (by decide) ?_
  refine lv_iadd hx hb d_MD_readZone_9 ?_
  refine lv_istore_n (lv' := [(1, .int (r4 + (20 : Int32))), (0, .ref h0)]) hx hb d_MD_readZone_10 rfl hl (by decide) rfl (fun ls hl => ?_)
  refine lv_aload_n hx hb d_MD_readZone_11 rfl (lv_at hl 1 rfl) ?_
  refine va_get (D := (dC, dI)) (ci := 10) (v := .int (z0_4 17 0)) (C := "AlarmMatrixModel") (T := T_MD) (N := 42) hx hb hts i_MD hown hK hP 0 rfl rfl 17 (by decide) (hts _ k5_37) (fun _ h9 => h9) rfl d_MD_readZone_12 ?_
  refine lv_if_ge (tgt := 39) hx hb d_MD_readZone_15 (by decide) (fun hc => ?_) (fun hc => ?_)
  · replace hm := if_t hm hc
    obtain rfl := Option.some.inj hm
    rw [hQ]
    exact krv hx hb hr hlocks hAe hP hK hD hS d_MD_readZone_39
  · replace hm := if_f hm hc
    refine lv_aload_n hx hb d_MD_readZone_18 rfl (lv_at hl 1 rfl) ?_
    refine lv_aload_n hx hb d_MD_readZone_19 rfl (lv_at hl 1 rfl) ?_
    refine va_get (D := (dC, dI)) (ci := 10) (v := .ref (q0 18)) (C := "AlarmMatrixModel") (T := T_MD) (N := 42) hx hb hts i_MD hown hK hP 0 rfl rfl 18 (by decide) (hts _ k5_38) (fun _ h9 => h9) rfl d_MD_readZone_20 ?_
    refine lv_iload_n hx hb d_MD_readZone_23 rfl (lv_at hl 0 rfl) ?_
    obtain ⟨h_24, hm⟩ := ck_s hm
    refine va_zald (f := (z0_4 18)) hx hb hK hP 12 1 rfl rfl h_24 d_MD_readZone_24 ?_
    refine lv_if_ne (tgt := 32) hx hb d_MD_readZone_25 (by decide) (fun hc => ?_) (fun hc => ?_)
    · replace hm := if_f hm hc
      refine lv_iconst (v := (0 : Int32)) hx hb d_MD_readZone_32 (by decide) ?_
      obtain ⟨r33, z0_33, hcl, hm⟩ := bn2_s hm
      refine kci (wc := wd_MD g h0 q0 z0_4) (wr := ([] : va_W)) (w1 := wd_MD g h0 q0 z0_33) hP hD hS hA [0, 1, 2, 3, 4, 5, 6, 7, 8, 9, 10, 11, 12, 13, 14, 15, 16, 17, 18, 19, 20, 21, 22, 23, 24, 25, 26, 27, 28, 29, 30, 31] [] rfl rfl (by decide) (by decide) (va_runV (As := [.int (0 : Int32)]) (rest := []) ⟨hx, hb, hml, hown, hts⟩ (c_MD_want hG hGn l dC dI g F H.size h0 q0 z0_4 (0 : Int32) hcl) (cwV 1 hts (gdV k5_229 k5_231 kp_32 k1_10 k5_232) rfl rfl rfl (by decide +kernel) ⟨Nat.le_of_ble_eq_true rfl, Nat.le_of_ble_eq_true rfl⟩) (kpV hG hP hK hD hS hA hGA [0, 1, 2, 3, 4, 5, 6, 7, 8, 9, 10, 11, 12, 13, 14, 15, 16, 17, 18, 19, 20, 21, 22, 23, 24, 25, 26, 27, 28, 29, 30, 31] (by decide) rfl (ci := 10) (q0 := 0) rfl rfl rfl) rfl rfl hl.1 rfl (lv_room (Nat.le_of_ble_eq_true rfl)) d_MD_readZone_33 ⟨Nat.le_of_ble_eq_true rfl, Nat.le_of_ble_eq_true rfl⟩) (fun H locs hP hD hS => ?_)
      have hP : va_P (dC, dI) vwCl (wd_MD g h0 q0 z0_33) H := hP
      have hD : va_D A (wd_MD g h0 q0 z0_33) := hD
      refine lv_if_ne (tgt := 40) hx hb d_MD_readZone_36 (by decide) (fun hc => ?_) (fun hc => ?_)
      · replace hm := if_f hm hc
        refine lv_aload_n hx hb d_MD_readZone_40 rfl (lv_at hl 1 rfl) ?_
        refine lv_dup hx hb d_MD_readZone_41 rfl ?_
        refine va_get (D := (dC, dI)) (ci := 10) (v := .int (z0_33 16 0)) (C := "AlarmMatrixModel") (T := T_MD) (N := 42) hx hb hts i_MD hown hK hP 0 rfl rfl 16 (by decide) (hts _ k5_36) (fun _ h9 => h9) rfl d_MD_readZone_42 ?_
        refine lv_iconst (v := (1 : Int32)) hx hb d_MD_readZone_45 (by decide) ?_
        refine lv_iadd hx hb d_MD_readZone_46 ?_
        obtain ⟨e0_47, he, hm⟩ := lz_s hm
        refine va_put (D := (dC, dI)) (ci := 10) (v := .int ((z0_33 16 0) + (1 : Int32))) (ty := .int) (C := "AlarmMatrixModel") (T := T_MD) (N := 42) hx hb hts i_MD t_MD o_MD n_MD hown hK hP hD hS 0 rfl rfl 16 (by decide) (hts _ k5_36) (fun _ h9 => h9) rfl (by decide +kernel) rfl rfl (Nat.le_of_ble_eq_true rfl) d_MD_readZone_47 (fun H locs hP hD hS => ?_)
        have hP : va_P (dC, dI) vwCl (wd_MD g h0 q0 e0_47) H := by rw [he]; exact hP
        have hD : va_D A (wd_MD g h0 q0 e0_47) := by rw [he]; exact hD
        refine lv_aload_n hx hb d_MD_readZone_50 rfl (lv_at hl 1 rfl) ?_
        refine lv_ldc (v := (20059310 : Int32)) hx hb hown (hts _ k5_189) d_MD_readZone_51 ?_
        obtain ⟨z0_53, hcl, hm⟩ := bn1_s hm
        refine kcv (wc := wd_MD g h0 q0 e0_47) (wr := ([] : va_W)) (w1 := wd_MD g h0 q0 z0_53) hP hD hS hA [0, 1, 2, 3, 4, 5, 6, 7, 8, 9, 10, 11, 12, 13, 14, 15, 16, 17, 18, 19, 20, 21, 22, 23, 24, 25, 26, 27, 28, 29, 30, 31] [] rfl rfl (by decide) (by decide) (va_runV (As := [.int (20059310 : Int32)]) (rest := []) ⟨hx, hb, hml, hown, hts⟩ (c_MD_take_0 hG hGn l dC dI g F H.size h0 q0 e0_47 (20059310 : Int32) hcl) (cwV 1 hts (gdV k5_233 k5_235 kp_33 k1_10 k5_236) rfl rfl rfl (by decide +kernel) ⟨Nat.le_of_ble_eq_true rfl, Nat.le_of_ble_eq_true rfl⟩) (kpV hG hP hK hD hS hA hGA [0, 1, 2, 3, 4, 5, 6, 7, 8, 9, 10, 11, 12, 13, 14, 15, 16, 17, 18, 19, 20, 21, 22, 23, 24, 25, 26, 27, 28, 29, 30, 31] (by decide) rfl (ci := 10) (q0 := 0) rfl rfl rfl) rfl rfl hl.1 rfl (lv_room (Nat.le_of_ble_eq_true rfl)) d_MD_readZone_53 ⟨Nat.le_of_ble_eq_true rfl, Nat.le_of_ble_eq_true rfl⟩) (fun H locs hP hD hS => ?_)
        have hP : va_P (dC, dI) vwCl (wd_MD g h0 q0 z0_53) H := hP
        have hD : va_D A (wd_MD g h0 q0 z0_53) := hD
        refine lv_aload_n hx hb d_MD_readZone_56 rfl (lv_at hl 1 rfl) ?_
        refine va_get (D := (dC, dI)) (ci := 10) (v := .int (z0_53 16 0)) (C := "AlarmMatrixModel") (T := T_MD) (N := 42) hx hb hts i_MD hown hK hP 0 rfl rfl 16 (by decide) (hts _ k5_36) (fun _ h9 => h9) rfl d_MD_readZone_57 ?_
        refine lv_istore_n (lv' := [(2, .int (z0_53 16 0)), (1, .int (r4 + (20 : Int32))), (0, .ref h0)]) hx hb d_MD_readZone_60 rfl hl (by decide) rfl (fun ls hl => ?_)
        refine lv_aload_n hx hb d_MD_readZone_61 rfl (lv_at hl 2 rfl) ?_
        refine lv_iconst (v := (1 : Int32)) hx hb d_MD_readZone_62 (by decide) ?_
        refine lv_bipush (v := (12 : Int32)) hx hb d_MD_readZone_63 (by decide) ?_
        obtain ⟨r65, z0_65, hcl, hm⟩ := bn2_s hm
        refine kci (wc := wd_MD g h0 q0 z0_53) (wr := ([] : va_W)) (w1 := wd_MD g h0 q0 z0_65) hP hD hS hA [0, 1, 2, 3, 4, 5, 6, 7, 8, 9, 10, 11, 12, 13, 14, 15, 16, 17, 18, 19, 20, 21, 22, 23, 24, 25, 26, 27, 28, 29, 30, 31] [] rfl rfl (by decide) (by decide) (va_runV (As := [.int (1 : Int32), .int (12 : Int32)]) (rest := []) ⟨hx, hb, hml, hown, hts⟩ (c_MD_takeNumber hG hGn l dC dI g F H.size h0 q0 z0_53 (1 : Int32) (12 : Int32) hcl) (cwV 2 hts (gdV k5_237 k5_239 kp_34 k1_10 k6_0) rfl rfl rfl (by decide +kernel) ⟨Nat.le_of_ble_eq_true rfl, Nat.le_of_ble_eq_true rfl⟩) (kpV hG hP hK hD hS hA hGA [0, 1, 2, 3, 4, 5, 6, 7, 8, 9, 10, 11, 12, 13, 14, 15, 16, 17, 18, 19, 20, 21, 22, 23, 24, 25, 26, 27, 28, 29, 30, 31] (by decide) rfl (ci := 10) (q0 := 0) rfl rfl rfl) rfl rfl hl.1 rfl (lv_room (Nat.le_of_ble_eq_true rfl)) d_MD_readZone_65 ⟨Nat.le_of_ble_eq_true rfl, Nat.le_of_ble_eq_true rfl⟩) (fun H locs hP hD hS => ?_)
        have hP : va_P (dC, dI) vwCl (wd_MD g h0 q0 z0_65) H := hP
        have hD : va_D A (wd_MD g h0 q0 z0_65) := hD
        refine lv_istore_n (lv' := [(3, .int r65), (2, .int (z0_53 16 0)), (1, .int (r4 + (20 : Int32))), (0, .ref h0)]) hx hb d_MD_readZone_68 rfl hl (by decide) rfl (fun ls hl => ?_)
        refine lv_aload_n hx hb d_MD_readZone_69 rfl (lv_at hl 3 rfl) ?_
        refine lv_sipush (v := (207 : Int32)) hx hb d_MD_readZone_70 (by decide) ?_
        obtain ⟨z0_73, hcl, hm⟩ := bn1_s hm
        refine kcv (wc := wd_MD g h0 q0 z0_65) (wr := ([] : va_W)) (w1 := wd_MD g h0 q0 z0_73) hP hD hS hA [0, 1, 2, 3, 4, 5, 6, 7, 8, 9, 10, 11, 12, 13, 14, 15, 16, 17, 18, 19, 20, 21, 22, 23, 24, 25, 26, 27, 28, 29, 30, 31] [] rfl rfl (by decide) (by decide) (va_runV (As := [.int (207 : Int32)]) (rest := []) ⟨hx, hb, hml, hown, hts⟩ (c_MD_take_0 hG hGn l dC dI g F H.size h0 q0 z0_65 (207 : Int32) hcl) (cwV 1 hts (gdV k5_233 k5_235 kp_33 k1_10 k5_236) rfl rfl rfl (by decide +kernel) ⟨Nat.le_of_ble_eq_true rfl, Nat.le_of_ble_eq_true rfl⟩) (kpV hG hP hK hD hS hA hGA [0, 1, 2, 3, 4, 5, 6, 7, 8, 9, 10, 11, 12, 13, 14, 15, 16, 17, 18, 19, 20, 21, 22, 23, 24, 25, 26, 27, 28, 29, 30, 31] (by decide) rfl (ci := 10) (q0 := 0) rfl rfl rfl) rfl rfl hl.1 rfl (lv_room (Nat.le_of_ble_eq_true rfl)) d_MD_readZone_73 ⟨Nat.le_of_ble_eq_true rfl, Nat.le_of_ble_eq_true rfl⟩) (fun H locs hP hD hS => ?_)
        have hP : va_P (dC, dI) vwCl (wd_MD g h0 q0 z0_73) H := hP
        have hD : va_D A (wd_MD g h0 q0 z0_73) := hD
        refine lv_aload_n hx hb d_MD_readZone_76 rfl (lv_at hl 3 rfl) ?_
        refine va_get (D := (dC, dI)) (ci := 10) (v := .ref (q0 20)) (C := "AlarmMatrixModel") (T := T_MD) (N := 42) hx hb hts i_MD hown hK hP 0 rfl rfl 20 (by decide) (hts _ k5_40) (fun _ h9 => h9) rfl d_MD_readZone_77 ?_
        refine lv_iload_n hx hb d_MD_readZone_80 rfl (lv_at hl 2 rfl) ?_
        refine lv_iconst (v := (0 : Int32)) hx hb d_MD_readZone_81 (by decide) ?_
        obtain ⟨h_82, hm⟩ := ck_s hm
        obtain ⟨e0_82, he, hm⟩ := lz_s hm
        refine va_iast (f := (z0_73 20)) hx hb hK hP hD hS 14 0 rfl rfl h_82 d_MD_readZone_82 (fun H locs hP hD hS => ?_)
        have hP : va_P (dC, dI) vwCl (wd_MD g h0 q0 e0_82) H := by rw [he]; exact hP
        have hD : va_D A (wd_MD g h0 q0 e0_82) := by rw [he]; exact hD
        refine lv_iconst (v := (1 : Int32)) hx hb d_MD_readZone_83 (by decide) ?_
        refine lv_istore (lv' := [(4, .int (1 : Int32)), (3, .int r65), (2, .int (z0_53 16 0)), (1, .int (r4 + (20 : Int32))), (0, .ref h0)]) hx hb d_MD_readZone_84 hl (by decide) rfl (fun ls hl => ?_)
        have L86 : ∀ (n86 : Nat) (v4_86 : Int32) (y0_86 : St) (H : Heap) (locs : List Loc) (ls : Array Slot), lq2 (m_MD_readZone_B86 F r4 (fun v4_86 y0_86 => (if (0 : Int32) ≤ (y0_86 17 0) then (some y0_86) else (lz (sc y0_86 16 ((y0_86 16 0) + (1 : Int32))) (fun e0_222 => (ck (r4 + (20 : Int32)) 40 (if r65 ≤ ((e0_222 20) (r4 + (20 : Int32)).toNatClampNeg) then (lz (sc e0_222 17 (-1 : Int32)) (fun e0_241 => (ck (r4 + (20 : Int32)) 40 (lz (st e0_241 19 (upd (e0_241 19) (r4 + (20 : Int32)).toNatClampNeg r65)) (fun e0_250 => (ck (r4 + (20 : Int32)) 40 (lz (st e0_250 18 (upd (e0_250 18) (r4 + (20 : Int32)).toNatClampNeg (vp_nar .boolean (1 : Int32)))) (fun e0_257 => (some e0_257))))))))) else (lz (sc e0_222 17 (z0_53 16 0)) (fun e0_241 => (ck (r4 + (20 : Int32)) 40 (lz (st e0_241 19 (upd (e0_241 19) (r4 + (20 : Int32)).toNatClampNeg r65)) (fun e0_250 => (ck (r4 + (20 : Int32)) 40 (lz (st e0_250 18 (upd (e0_250 18) (r4 + (20 : Int32)).toNatClampNeg (vp_nar .boolean (1 : Int32)))) (fun e0_257 => (some e0_257)))))))))))))))) n86 v4_86 y0_86 = some o → va_P (dC, dI) vwCl (wd_MD g h0 q0 y0_86) H → va_D A (wd_MD g h0 q0 y0_86) → va_S A s.heap H locs → lv_has ls 6 [(0, .ref h0), (1, .int (r4 + (20 : Int32))), (2, .int (z0_53 16 0)), (3, .int r65), (4, .int v4_86)] → W p l e rm_MD_readZone s m args below meth c H locs 0 0 Q (F0 m 86 ls []) := by
          intro n86
          induction n86 with
          | zero => intro v4_86 y0_86 H locs ls hm; exact absurd hm (by intro z; cases z)
          | succ n86 ih86 =>
            intro v4_86 y0_86 H locs ls hm hP hD hS hl
            replace hm := m_MD_readZone_B86_h (lq2_h hm)
            have J145 : ∀ (j4_145 : Int32) (j5_145 : Int32) (s0_145 : Int32) (t0_145 : St) (H : Heap) (locs : List Loc) (ls : Array Slot), m_MD_readZone_J145 F r4 (fun v4_86 y0_86 => (if (0 : Int32) ≤ (y0_86 17 0) then (some y0_86) else (lz (sc y0_86 16 ((y0_86 16 0) + (1 : Int32))) (fun e0_222 => (ck (r4 + (20 : Int32)) 40 (if r65 ≤ ((e0_222 20) (r4 + (20 : Int32)).toNatClampNeg) then (lz (sc e0_222 17 (-1 : Int32)) (fun e0_241 => (ck (r4 + (20 : Int32)) 40 (lz (st e0_241 19 (upd (e0_241 19) (r4 + (20 : Int32)).toNatClampNeg r65)) (fun e0_250 => (ck (r4 + (20 : Int32)) 40 (lz (st e0_250 18 (upd (e0_250 18) (r4 + (20 : Int32)).toNatClampNeg (vp_nar .boolean (1 : Int32)))) (fun e0_257 => (some e0_257))))))))) else (lz (sc e0_222 17 (z0_53 16 0)) (fun e0_241 => (ck (r4 + (20 : Int32)) 40 (lz (st e0_241 19 (upd (e0_241 19) (r4 + (20 : Int32)).toNatClampNeg r65)) (fun e0_250 => (ck (r4 + (20 : Int32)) 40 (lz (st e0_250 18 (upd (e0_250 18) (r4 + (20 : Int32)).toNatClampNeg (vp_nar .boolean (1 : Int32)))) (fun e0_257 => (some e0_257))))))))))))))) (lq2 (m_MD_readZone_B86 F r4 (fun v4_86 y0_86 => (if (0 : Int32) ≤ (y0_86 17 0) then (some y0_86) else (lz (sc y0_86 16 ((y0_86 16 0) + (1 : Int32))) (fun e0_222 => (ck (r4 + (20 : Int32)) 40 (if r65 ≤ ((e0_222 20) (r4 + (20 : Int32)).toNatClampNeg) then (lz (sc e0_222 17 (-1 : Int32)) (fun e0_241 => (ck (r4 + (20 : Int32)) 40 (lz (st e0_241 19 (upd (e0_241 19) (r4 + (20 : Int32)).toNatClampNeg r65)) (fun e0_250 => (ck (r4 + (20 : Int32)) 40 (lz (st e0_250 18 (upd (e0_250 18) (r4 + (20 : Int32)).toNatClampNeg (vp_nar .boolean (1 : Int32)))) (fun e0_257 => (some e0_257))))))))) else (lz (sc e0_222 17 (z0_53 16 0)) (fun e0_241 => (ck (r4 + (20 : Int32)) 40 (lz (st e0_241 19 (upd (e0_241 19) (r4 + (20 : Int32)).toNatClampNeg r65)) (fun e0_250 => (ck (r4 + (20 : Int32)) 40 (lz (st e0_250 18 (upd (e0_250 18) (r4 + (20 : Int32)).toNatClampNeg (vp_nar .boolean (1 : Int32)))) (fun e0_257 => (some e0_257)))))))))))))))) n86) j4_145 j5_145 s0_145 t0_145 = some o → va_P (dC, dI) vwCl (wd_MD g h0 q0 t0_145) H → va_D A (wd_MD g h0 q0 t0_145) → va_S A s.heap H locs → lv_has ls 6 [(0, .ref h0), (1, .int (r4 + (20 : Int32))), (2, .int (z0_53 16 0)), (3, .int r65), (4, .int j4_145), (5, .int j5_145)] → W p l e rm_MD_readZone s m args below meth c H locs 0 0 Q (F0 m 145 ls [.int s0_145, .ref h0]) := by
              intro j4_145 j5_145 s0_145 t0_145 H locs ls hm hP hD hS hl
              replace hm := m_MD_readZone_J145_h hm
              obtain ⟨r145, z0_145, hcl, hm⟩ := bn2_s hm
              refine kci (wc := wd_MD g h0 q0 t0_145) (wr := ([] : va_W)) (w1 := wd_MD g h0 q0 z0_145) hP hD hS hA [0, 1, 2, 3, 4, 5, 6, 7, 8, 9, 10, 11, 12, 13, 14, 15, 16, 17, 18, 19, 20, 21, 22, 23, 24, 25, 26, 27, 28, 29, 30, 31] [] rfl rfl (by decide) (by decide) (va_runV (As := [.int s0_145]) (rest := []) ⟨hx, hb, hml, hown, hts⟩ (c_MD_want hG hGn l dC dI g F H.size h0 q0 t0_145 s0_145 hcl) (cwV 1 hts (gdV k5_229 k5_231 kp_32 k1_10 k5_232) rfl rfl rfl (by decide +kernel) ⟨Nat.le_of_ble_eq_true rfl, Nat.le_of_ble_eq_true rfl⟩) (kpV hG hP hK hD hS hA hGA [0, 1, 2, 3, 4, 5, 6, 7, 8, 9, 10, 11, 12, 13, 14, 15, 16, 17, 18, 19, 20, 21, 22, 23, 24, 25, 26, 27, 28, 29, 30, 31] (by decide) rfl (ci := 10) (q0 := 0) rfl rfl rfl) rfl rfl hl.1 rfl (lv_room (Nat.le_of_ble_eq_true rfl)) d_MD_readZone_145 ⟨Nat.le_of_ble_eq_true rfl, Nat.le_of_ble_eq_true rfl⟩) (fun H locs hP hD hS => ?_)
              have hP : va_P (dC, dI) vwCl (wd_MD g h0 q0 z0_145) H := hP
              have hD : va_D A (wd_MD g h0 q0 z0_145) := hD
              refine lv_if_eq (tgt := 189) hx hb d_MD_readZone_148 (by decide) (fun hc => ?_) (fun hc => ?_)
              · replace hm := if_t hm hc
                refine lv_aload_n hx hb d_MD_readZone_189 rfl (lv_at hl 0 rfl) ?_
                refine lv_bipush (v := (59 : Int32)) hx hb d_MD_readZone_190 (by decide) ?_
                obtain ⟨r192, hcl, hm⟩ := bn1_s hm
                refine kci (wc := wd_MD g h0 q0 z0_145) (wr := ([] : va_W)) (w1 := wd_MD g h0 q0 z0_145) hP hD hS hA [0, 1, 2, 3, 4, 5, 6, 7, 8, 9, 10, 11, 12, 13, 14, 15, 16, 17, 18, 19, 20, 21, 22, 23, 24, 25, 26, 27, 28, 29, 30, 31] [] rfl rfl (by decide) (by decide) (va_runV (As := [.int (59 : Int32)]) (rest := []) ⟨hx, hb, hml, hown, hts⟩ (c_MD_isSign hG hGn l dC dI g F H.size h0 q0 z0_145 (59 : Int32) hcl) (cwV 1 hts (gdV k6_5 k6_7 kp_36 k1_10 k6_8) rfl rfl rfl (by decide +kernel) ⟨Nat.le_of_ble_eq_true rfl, Nat.le_of_ble_eq_true rfl⟩) (kpV hG hP hK hD hS hA hGA [0, 1, 2, 3, 4, 5, 6, 7, 8, 9, 10, 11, 12, 13, 14, 15, 16, 17, 18, 19, 20, 21, 22, 23, 24, 25, 26, 27, 28, 29, 30, 31] (by decide) rfl (ci := 10) (q0 := 0) rfl rfl rfl) rfl rfl hl.1 rfl (lv_room (Nat.le_of_ble_eq_true rfl)) d_MD_readZone_192 ⟨Nat.le_of_ble_eq_true rfl, Nat.le_of_ble_eq_true rfl⟩) (fun H locs hP hD hS => ?_)
                have hP : va_P (dC, dI) vwCl (wd_MD g h0 q0 z0_145) H := hP
                have hD : va_D A (wd_MD g h0 q0 z0_145) := hD
                refine lv_if_ne (tgt := 202) hx hb d_MD_readZone_195 (by decide) (fun hc => ?_) (fun hc => ?_)
                · replace hm := if_f hm hc
                  refine lv_iconst (v := (0 : Int32)) hx hb d_MD_readZone_202 (by decide) ?_
                  refine lv_istore (lv' := [(4, .int (0 : Int32)), (0, .ref h0), (1, .int (r4 + (20 : Int32))), (2, .int (z0_53 16 0)), (3, .int r65), (5, .int j5_145)]) hx hb d_MD_readZone_203 hl (by decide) rfl (fun ls hl => ?_)
                  refine lv_goto (tgt := 86) hx hb d_MD_readZone_205 (by decide) ?_
                  exact ih86 (0 : Int32) z0_145 H locs ls hm hP hD hS (lv_sub hl [1, 2, 3, 4, 0] rfl)
                · replace hm := if_t hm hc
                  refine lv_iconst (v := (1 : Int32)) hx hb d_MD_readZone_198 (by decide) ?_
                  refine lv_goto (tgt := 203) hx hb d_MD_readZone_199 (by decide) ?_
                  refine lv_istore (lv' := [(4, .int (1 : Int32)), (0, .ref h0), (1, .int (r4 + (20 : Int32))), (2, .int (z0_53 16 0)), (3, .int r65), (5, .int j5_145)]) hx hb d_MD_readZone_203 hl (by decide) rfl (fun ls hl => ?_)
                  refine lv_goto (tgt := 86) hx hb d_MD_readZone_205 (by decide) ?_
                  exact ih86 (1 : Int32) z0_145 H locs ls hm hP hD hS (lv_sub hl [1, 2, 3, 4, 0] rfl)
              · replace hm := if_f hm hc
                refine lv_aload_n hx hb d_MD_readZone_151 rfl (lv_at hl 0 rfl) ?_
                refine va_get (D := (dC, dI)) (ci := 10) (v := .ref (q0 21)) (C := "AlarmMatrixModel") (T := T_MD) (N := 42) hx hb hts i_MD hown hK hP 0 rfl rfl 21 (by decide) (hts _ k5_41) (fun _ h9 => h9) rfl d_MD_readZone_152 ?_
                refine lv_bipush (v := (12 : Int32)) hx hb d_MD_readZone_155 (by decide) ?_
                refine lv_iload_n hx hb d_MD_readZone_157 rfl (lv_at hl 1 rfl) ?_
                refine lv_imul hx hb d_MD_readZone_158 ?_
                refine lv_aload_n hx hb d_MD_readZone_159 rfl (lv_at hl 0 rfl) ?_
                refine va_get (D := (dC, dI)) (ci := 10) (v := .ref (q0 20)) (C := "AlarmMatrixModel") (T := T_MD) (N := 42) hx hb hts i_MD hown hK hP 0 rfl rfl 20 (by decide) (hts _ k5_40) (fun _ h9 => h9) rfl d_MD_readZone_160 ?_
                refine lv_iload_n hx hb d_MD_readZone_163 rfl (lv_at hl 1 rfl) ?_
                obtain ⟨h_164, hm⟩ := ck_s hm
                refine va_iald (f := (z0_145 20)) hx hb hK hP 14 0 rfl rfl h_164 d_MD_readZone_164 ?_
                refine lv_iadd hx hb d_MD_readZone_165 ?_
                refine lv_iload hx hb d_MD_readZone_166 (lv_at hl 5 rfl) ?_
                obtain ⟨h_168, hm⟩ := ck_s hm
                obtain ⟨e0_168, he, hm⟩ := lz_s hm
                refine va_iast (f := (z0_145 21)) hx hb hK hP hD hS 15 0 rfl rfl h_168 d_MD_readZone_168 (fun H locs hP hD hS => ?_)
                have hP : va_P (dC, dI) vwCl (wd_MD g h0 q0 e0_168) H := by rw [he]; exact hP
                have hD : va_D A (wd_MD g h0 q0 e0_168) := by rw [he]; exact hD
                refine lv_aload_n hx hb d_MD_readZone_169 rfl (lv_at hl 0 rfl) ?_
                refine va_get (D := (dC, dI)) (ci := 10) (v := .ref (q0 20)) (C := "AlarmMatrixModel") (T := T_MD) (N := 42) hx hb hts i_MD hown hK hP 0 rfl rfl 20 (by decide) (hts _ k5_40) (fun _ h9 => h9) rfl d_MD_readZone_170 ?_
                refine lv_iload_n hx hb d_MD_readZone_173 rfl (lv_at hl 1 rfl) ?_
                refine lv_dup2_11 hx hb d_MD_readZone_174 rfl rfl ?_
                obtain ⟨h_175, hm⟩ := ck_s hm
                refine va_iald (f := (e0_168 20)) hx hb hK hP 14 0 rfl rfl h_175 d_MD_readZone_175 ?_
                refine lv_iconst (v := (1 : Int32)) hx hb d_MD_readZone_176 (by decide) ?_
                refine lv_iadd hx hb d_MD_readZone_177 ?_
                obtain ⟨h_178, hm⟩ := ck_s hm
                obtain ⟨e0_178, he, hm⟩ := lz_s hm
                refine va_iast (f := (e0_168 20)) hx hb hK hP hD hS 14 0 rfl rfl h_178 d_MD_readZone_178 (fun H locs hP hD hS => ?_)
                have hP : va_P (dC, dI) vwCl (wd_MD g h0 q0 e0_178) H := by rw [he]; exact hP
                have hD : va_D A (wd_MD g h0 q0 e0_178) := by rw [he]; exact hD
                refine lv_aload_n hx hb d_MD_readZone_179 rfl (lv_at hl 0 rfl) ?_
                refine lv_dup hx hb d_MD_readZone_180 rfl ?_
                refine va_get (D := (dC, dI)) (ci := 10) (v := .int (e0_178 16 0)) (C := "AlarmMatrixModel") (T := T_MD) (N := 42) hx hb hts i_MD hown hK hP 0 rfl rfl 16 (by decide) (hts _ k5_36) (fun _ h9 => h9) rfl d_MD_readZone_181 ?_
                refine lv_iconst (v := (1 : Int32)) hx hb d_MD_readZone_184 (by decide) ?_
                refine lv_iadd hx hb d_MD_readZone_185 ?_
                obtain ⟨e0_186, he, hm⟩ := lz_s hm
                refine va_put (D := (dC, dI)) (ci := 10) (v := .int ((e0_178 16 0) + (1 : Int32))) (ty := .int) (C := "AlarmMatrixModel") (T := T_MD) (N := 42) hx hb hts i_MD t_MD o_MD n_MD hown hK hP hD hS 0 rfl rfl 16 (by decide) (hts _ k5_36) (fun _ h9 => h9) rfl (by decide +kernel) rfl rfl (Nat.le_of_ble_eq_true rfl) d_MD_readZone_186 (fun H locs hP hD hS => ?_)
                have hP : va_P (dC, dI) vwCl (wd_MD g h0 q0 e0_186) H := by rw [he]; exact hP
                have hD : va_D A (wd_MD g h0 q0 e0_186) := by rw [he]; exact hD
                refine lv_aload_n hx hb d_MD_readZone_189 rfl (lv_at hl 0 rfl) ?_
                refine lv_bipush (v := (59 : Int32)) hx hb d_MD_readZone_190 (by decide) ?_
                obtain ⟨r192, hcl, hm⟩ := bn1_s hm
                refine kci (wc := wd_MD g h0 q0 e0_186) (wr := ([] : va_W)) (w1 := wd_MD g h0 q0 e0_186) hP hD hS hA [0, 1, 2, 3, 4, 5, 6, 7, 8, 9, 10, 11, 12, 13, 14, 15, 16, 17, 18, 19, 20, 21, 22, 23, 24, 25, 26, 27, 28, 29, 30, 31] [] rfl rfl (by decide) (by decide) (va_runV (As := [.int (59 : Int32)]) (rest := []) ⟨hx, hb, hml, hown, hts⟩ (c_MD_isSign hG hGn l dC dI g F H.size h0 q0 e0_186 (59 : Int32) hcl) (cwV 1 hts (gdV k6_5 k6_7 kp_36 k1_10 k6_8) rfl rfl rfl (by decide +kernel) ⟨Nat.le_of_ble_eq_true rfl, Nat.le_of_ble_eq_true rfl⟩) (kpV hG hP hK hD hS hA hGA [0, 1, 2, 3, 4, 5, 6, 7, 8, 9, 10, 11, 12, 13, 14, 15, 16, 17, 18, 19, 20, 21, 22, 23, 24, 25, 26, 27, 28, 29, 30, 31] (by decide) rfl (ci := 10) (q0 := 0) rfl rfl rfl) rfl rfl hl.1 rfl (lv_room (Nat.le_of_ble_eq_true rfl)) d_MD_readZone_192 ⟨Nat.le_of_ble_eq_true rfl, Nat.le_of_ble_eq_true rfl⟩) (fun H locs hP hD hS => ?_)
                have hP : va_P (dC, dI) vwCl (wd_MD g h0 q0 e0_186) H := hP
                have hD : va_D A (wd_MD g h0 q0 e0_186) := hD
                refine lv_if_ne (tgt := 202) hx hb d_MD_readZone_195 (by decide) (fun hc => ?_) (fun hc => ?_)
                · replace hm := if_f hm hc
                  refine lv_iconst (v := (0 : Int32)) hx hb d_MD_readZone_202 (by decide) ?_
                  refine lv_istore (lv' := [(4, .int (0 : Int32)), (0, .ref h0), (1, .int (r4 + (20 : Int32))), (2, .int (z0_53 16 0)), (3, .int r65), (5, .int j5_145)]) hx hb d_MD_readZone_203 hl (by decide) rfl (fun ls hl => ?_)
                  refine lv_goto (tgt := 86) hx hb d_MD_readZone_205 (by decide) ?_
                  exact ih86 (0 : Int32) e0_186 H locs ls hm hP hD hS (lv_sub hl [1, 2, 3, 4, 0] rfl)
                · replace hm := if_t hm hc
                  refine lv_iconst (v := (1 : Int32)) hx hb d_MD_readZone_198 (by decide) ?_
                  refine lv_goto (tgt := 203) hx hb d_MD_readZone_199 (by decide) ?_
                  refine lv_istore (lv' := [(4, .int (1 : Int32)), (0, .ref h0), (1, .int (r4 + (20 : Int32))), (2, .int (z0_53 16 0)), (3, .int r65), (5, .int j5_145)]) hx hb d_MD_readZone_203 hl (by decide) rfl (fun ls hl => ?_)
                  refine lv_goto (tgt := 86) hx hb d_MD_readZone_205 (by decide) ?_
                  exact ih86 (1 : Int32) e0_186 H locs ls hm hP hD hS (lv_sub hl [1, 2, 3, 4, 0] rfl)
            refine lv_iload hx hb d_MD_readZone_86 (lv_at hl 4 rfl) ?_
            refine lv_if_eq (tgt := 208) hx hb d_MD_readZone_88 (by decide) (fun hc => ?_) (fun hc => ?_)
            · replace hm := if_t hm hc
              refine lv_aload_n hx hb d_MD_readZone_208 rfl (lv_at hl 0 rfl) ?_
              refine va_get (D := (dC, dI)) (ci := 10) (v := .int (y0_86 17 0)) (C := "AlarmMatrixModel") (T := T_MD) (N := 42) hx hb hts i_MD hown hK hP 0 rfl rfl 17 (by decide) (hts _ k5_37) (fun _ h9 => h9) rfl d_MD_readZone_209 ?_
              refine lv_if_ge (tgt := 258) hx hb d_MD_readZone_212 (by decide) (fun hc => ?_) (fun hc => ?_)
              · replace hm := if_t hm hc
                obtain rfl := Option.some.inj hm
                rw [hQ]
                exact krv hx hb hr hlocks hAe hP hK hD hS d_MD_readZone_258
              · replace hm := if_f hm hc
                refine lv_aload_n hx hb d_MD_readZone_215 rfl (lv_at hl 0 rfl) ?_
                refine lv_dup hx hb d_MD_readZone_216 rfl ?_
                refine va_get (D := (dC, dI)) (ci := 10) (v := .int (y0_86 16 0)) (C := "AlarmMatrixModel") (T := T_MD) (N := 42) hx hb hts i_MD hown hK hP 0 rfl rfl 16 (by decide) (hts _ k5_36) (fun _ h9 => h9) rfl d_MD_readZone_217 ?_
                refine lv_iconst (v := (1 : Int32)) hx hb d_MD_readZone_220 (by decide) ?_
                refine lv_iadd hx hb d_MD_readZone_221 ?_
                obtain ⟨e0_222, he, hm⟩ := lz_s hm
                refine va_put (D := (dC, dI)) (ci := 10) (v := .int ((y0_86 16 0) + (1 : Int32))) (ty := .int) (C := "AlarmMatrixModel") (T := T_MD) (N := 42) hx hb hts i_MD t_MD o_MD n_MD hown hK hP hD hS 0 rfl rfl 16 (by decide) (hts _ k5_36) (fun _ h9 => h9) rfl (by decide +kernel) rfl rfl (Nat.le_of_ble_eq_true rfl) d_MD_readZone_222 (fun H locs hP hD hS => ?_)
                have hP : va_P (dC, dI) vwCl (wd_MD g h0 q0 e0_222) H := by rw [he]; exact hP
                have hD : va_D A (wd_MD g h0 q0 e0_222) := by rw [he]; exact hD
                refine lv_aload_n hx hb d_MD_readZone_225 rfl (lv_at hl 0 rfl) ?_
                refine lv_iload_n hx hb d_MD_readZone_226 rfl (lv_at hl 3 rfl) ?_
                refine lv_aload_n hx hb d_MD_readZone_227 rfl (lv_at hl 0 rfl) ?_
                refine va_get (D := (dC, dI)) (ci := 10) (v := .ref (q0 20)) (C := "AlarmMatrixModel") (T := T_MD) (N := 42) hx hb hts i_MD hown hK hP 0 rfl rfl 20 (by decide) (hts _ k5_40) (fun _ h9 => h9) rfl d_MD_readZone_228 ?_
                refine lv_iload_n hx hb d_MD_readZone_231 rfl (lv_at hl 1 rfl) ?_
                obtain ⟨h_232, hm⟩ := ck_s hm
                refine va_iald (f := (e0_222 20)) hx hb hK hP 14 0 rfl rfl h_232 d_MD_readZone_232 ?_
                refine lv_icmp_le (tgt := 240) hx hb d_MD_readZone_233 (by decide) (fun hc => ?_) (fun hc => ?_)
                · replace hm := if_t hm hc
                  refine lv_iconst (v := (-1 : Int32)) hx hb d_MD_readZone_240 (by decide) ?_
                  obtain ⟨e0_241, he, hm⟩ := lz_s hm
                  refine va_put (D := (dC, dI)) (ci := 10) (v := .int (-1 : Int32)) (ty := .int) (C := "AlarmMatrixModel") (T := T_MD) (N := 42) hx hb hts i_MD t_MD o_MD n_MD hown hK hP hD hS 0 rfl rfl 17 (by decide) (hts _ k5_37) (fun _ h9 => h9) rfl (by decide +kernel) rfl rfl (Nat.le_of_ble_eq_true rfl) d_MD_readZone_241 (fun H locs hP hD hS => ?_)
                  have hP : va_P (dC, dI) vwCl (wd_MD g h0 q0 e0_241) H := by rw [he]; exact hP
                  have hD : va_D A (wd_MD g h0 q0 e0_241) := by rw [he]; exact hD
                  refine lv_aload_n hx hb d_MD_readZone_244 rfl (lv_at hl 0 rfl) ?_
                  refine va_get (D := (dC, dI)) (ci := 10) (v := .ref (q0 19)) (C := "AlarmMatrixModel") (T := T_MD) (N := 42) hx hb hts i_MD hown hK hP 0 rfl rfl 19 (by decide) (hts _ k5_39) (fun _ h9 => h9) rfl d_MD_readZone_245 ?_
                  refine lv_iload_n hx hb d_MD_readZone_248 rfl (lv_at hl 1 rfl) ?_
                  refine lv_iload_n hx hb d_MD_readZone_249 rfl (lv_at hl 3 rfl) ?_
                  obtain ⟨h_250, hm⟩ := ck_s hm
                  obtain ⟨e0_250, he, hm⟩ := lz_s hm
                  refine va_iast (f := (e0_241 19)) hx hb hK hP hD hS 13 0 rfl rfl h_250 d_MD_readZone_250 (fun H locs hP hD hS => ?_)
                  have hP : va_P (dC, dI) vwCl (wd_MD g h0 q0 e0_250) H := by rw [he]; exact hP
                  have hD : va_D A (wd_MD g h0 q0 e0_250) := by rw [he]; exact hD
                  refine lv_aload_n hx hb d_MD_readZone_251 rfl (lv_at hl 0 rfl) ?_
                  refine va_get (D := (dC, dI)) (ci := 10) (v := .ref (q0 18)) (C := "AlarmMatrixModel") (T := T_MD) (N := 42) hx hb hts i_MD hown hK hP 0 rfl rfl 18 (by decide) (hts _ k5_38) (fun _ h9 => h9) rfl d_MD_readZone_252 ?_
                  refine lv_iload_n hx hb d_MD_readZone_255 rfl (lv_at hl 1 rfl) ?_
                  refine lv_iconst (v := (1 : Int32)) hx hb d_MD_readZone_256 (by decide) ?_
                  obtain ⟨h_257, hm⟩ := ck_s hm
                  obtain ⟨e0_257, he, hm⟩ := lz_s hm
                  refine va_zast (f := (e0_250 18)) hx hb hK hP hD hS 12 1 rfl rfl h_257 d_MD_readZone_257 (fun H locs hP hD hS => ?_)
                  have hP : va_P (dC, dI) vwCl (wd_MD g h0 q0 e0_257) H := by rw [he]; exact hP
                  have hD : va_D A (wd_MD g h0 q0 e0_257) := by rw [he]; exact hD
                  obtain rfl := Option.some.inj hm
                  rw [hQ]
                  exact krv hx hb hr hlocks hAe hP hK hD hS d_MD_readZone_258
                · replace hm := if_f hm hc
                  refine lv_iload_n hx hb d_MD_readZone_236 rfl (lv_at hl 2 rfl) ?_
                  refine lv_goto (tgt := 241) hx hb d_MD_readZone_237 (by decide) ?_
                  obtain ⟨e0_241, he, hm⟩ := lz_s hm
                  refine va_put (D := (dC, dI)) (ci := 10) (v := .int (z0_53 16 0)) (ty := .int) (C := "AlarmMatrixModel") (T := T_MD) (N := 42) hx hb hts i_MD t_MD o_MD n_MD hown hK hP hD hS 0 rfl rfl 17 (by decide) (hts _ k5_37) (fun _ h9 => h9) rfl (by decide +kernel) rfl rfl (Nat.le_of_ble_eq_true rfl) d_MD_readZone_241 (fun H locs hP hD hS => ?_)
                  have hP : va_P (dC, dI) vwCl (wd_MD g h0 q0 e0_241) H := by rw [he]; exact hP
                  have hD : va_D A (wd_MD g h0 q0 e0_241) := by rw [he]; exact hD
                  refine lv_aload_n hx hb d_MD_readZone_244 rfl (lv_at hl 0 rfl) ?_
                  refine va_get (D := (dC, dI)) (ci := 10) (v := .ref (q0 19)) (C := "AlarmMatrixModel") (T := T_MD) (N := 42) hx hb hts i_MD hown hK hP 0 rfl rfl 19 (by decide) (hts _ k5_39) (fun _ h9 => h9) rfl d_MD_readZone_245 ?_
                  refine lv_iload_n hx hb d_MD_readZone_248 rfl (lv_at hl 1 rfl) ?_
                  refine lv_iload_n hx hb d_MD_readZone_249 rfl (lv_at hl 3 rfl) ?_
                  obtain ⟨h_250, hm⟩ := ck_s hm
                  obtain ⟨e0_250, he, hm⟩ := lz_s hm
                  refine va_iast (f := (e0_241 19)) hx hb hK hP hD hS 13 0 rfl rfl h_250 d_MD_readZone_250 (fun H locs hP hD hS => ?_)
                  have hP : va_P (dC, dI) vwCl (wd_MD g h0 q0 e0_250) H := by rw [he]; exact hP
                  have hD : va_D A (wd_MD g h0 q0 e0_250) := by rw [he]; exact hD
                  refine lv_aload_n hx hb d_MD_readZone_251 rfl (lv_at hl 0 rfl) ?_
                  refine va_get (D := (dC, dI)) (ci := 10) (v := .ref (q0 18)) (C := "AlarmMatrixModel") (T := T_MD) (N := 42) hx hb hts i_MD hown hK hP 0 rfl rfl 18 (by decide) (hts _ k5_38) (fun _ h9 => h9) rfl d_MD_readZone_252 ?_
                  refine lv_iload_n hx hb d_MD_readZone_255 rfl (lv_at hl 1 rfl) ?_
                  refine lv_iconst (v := (1 : Int32)) hx hb d_MD_readZone_256 (by decide) ?_
                  obtain ⟨h_257, hm⟩ := ck_s hm
                  obtain ⟨e0_257, he, hm⟩ := lz_s hm
                  refine va_zast (f := (e0_250 18)) hx hb hK hP hD hS 12 1 rfl rfl h_257 d_MD_readZone_257 (fun H locs hP hD hS => ?_)
                  have hP : va_P (dC, dI) vwCl (wd_MD g h0 q0 e0_257) H := by rw [he]; exact hP
                  have hD : va_D A (wd_MD g h0 q0 e0_257) := by rw [he]; exact hD
                  obtain rfl := Option.some.inj hm
                  rw [hQ]
                  exact krv hx hb hr hlocks hAe hP hK hD hS d_MD_readZone_258
            · replace hm := if_f hm hc
              refine lv_aload_n hx hb d_MD_readZone_91 rfl (lv_at hl 0 rfl) ?_
              refine va_get (D := (dC, dI)) (ci := 10) (v := .int (y0_86 17 0)) (C := "AlarmMatrixModel") (T := T_MD) (N := 42) hx hb hts i_MD hown hK hP 0 rfl rfl 17 (by decide) (hts _ k5_37) (fun _ h9 => h9) rfl d_MD_readZone_92 ?_
              refine lv_if_ge (tgt := 208) hx hb d_MD_readZone_95 (by decide) (fun hc => ?_) (fun hc => ?_)
              · replace hm := if_t hm hc
                refine lv_aload_n hx hb d_MD_readZone_208 rfl (lv_at hl 0 rfl) ?_
                refine va_get (D := (dC, dI)) (ci := 10) (v := .int (y0_86 17 0)) (C := "AlarmMatrixModel") (T := T_MD) (N := 42) hx hb hts i_MD hown hK hP 0 rfl rfl 17 (by decide) (hts _ k5_37) (fun _ h9 => h9) rfl d_MD_readZone_209 ?_
                refine lv_if_ge (tgt := 258) hx hb d_MD_readZone_212 (by decide) (fun hc => ?_) (fun hc => ?_)
                · replace hm := if_t hm hc
                  obtain rfl := Option.some.inj hm
                  rw [hQ]
                  exact krv hx hb hr hlocks hAe hP hK hD hS d_MD_readZone_258
                · replace hm := if_f hm hc
                  refine lv_aload_n hx hb d_MD_readZone_215 rfl (lv_at hl 0 rfl) ?_
                  refine lv_dup hx hb d_MD_readZone_216 rfl ?_
                  refine va_get (D := (dC, dI)) (ci := 10) (v := .int (y0_86 16 0)) (C := "AlarmMatrixModel") (T := T_MD) (N := 42) hx hb hts i_MD hown hK hP 0 rfl rfl 16 (by decide) (hts _ k5_36) (fun _ h9 => h9) rfl d_MD_readZone_217 ?_
                  refine lv_iconst (v := (1 : Int32)) hx hb d_MD_readZone_220 (by decide) ?_
                  refine lv_iadd hx hb d_MD_readZone_221 ?_
                  obtain ⟨e0_222, he, hm⟩ := lz_s hm
                  refine va_put (D := (dC, dI)) (ci := 10) (v := .int ((y0_86 16 0) + (1 : Int32))) (ty := .int) (C := "AlarmMatrixModel") (T := T_MD) (N := 42) hx hb hts i_MD t_MD o_MD n_MD hown hK hP hD hS 0 rfl rfl 16 (by decide) (hts _ k5_36) (fun _ h9 => h9) rfl (by decide +kernel) rfl rfl (Nat.le_of_ble_eq_true rfl) d_MD_readZone_222 (fun H locs hP hD hS => ?_)
                  have hP : va_P (dC, dI) vwCl (wd_MD g h0 q0 e0_222) H := by rw [he]; exact hP
                  have hD : va_D A (wd_MD g h0 q0 e0_222) := by rw [he]; exact hD
                  refine lv_aload_n hx hb d_MD_readZone_225 rfl (lv_at hl 0 rfl) ?_
                  refine lv_iload_n hx hb d_MD_readZone_226 rfl (lv_at hl 3 rfl) ?_
                  refine lv_aload_n hx hb d_MD_readZone_227 rfl (lv_at hl 0 rfl) ?_
                  refine va_get (D := (dC, dI)) (ci := 10) (v := .ref (q0 20)) (C := "AlarmMatrixModel") (T := T_MD) (N := 42) hx hb hts i_MD hown hK hP 0 rfl rfl 20 (by decide) (hts _ k5_40) (fun _ h9 => h9) rfl d_MD_readZone_228 ?_
                  refine lv_iload_n hx hb d_MD_readZone_231 rfl (lv_at hl 1 rfl) ?_
                  obtain ⟨h_232, hm⟩ := ck_s hm
                  refine va_iald (f := (e0_222 20)) hx hb hK hP 14 0 rfl rfl h_232 d_MD_readZone_232 ?_
                  refine lv_icmp_le (tgt := 240) hx hb d_MD_readZone_233 (by decide) (fun hc => ?_) (fun hc => ?_)
                  · replace hm := if_t hm hc
                    refine lv_iconst (v := (-1 : Int32)) hx hb d_MD_readZone_240 (by decide) ?_
                    obtain ⟨e0_241, he, hm⟩ := lz_s hm
                    refine va_put (D := (dC, dI)) (ci := 10) (v := .int (-1 : Int32)) (ty := .int) (C := "AlarmMatrixModel") (T := T_MD) (N := 42) hx hb hts i_MD t_MD o_MD n_MD hown hK hP hD hS 0 rfl rfl 17 (by decide) (hts _ k5_37) (fun _ h9 => h9) rfl (by decide +kernel) rfl rfl (Nat.le_of_ble_eq_true rfl) d_MD_readZone_241 (fun H locs hP hD hS => ?_)
                    have hP : va_P (dC, dI) vwCl (wd_MD g h0 q0 e0_241) H := by rw [he]; exact hP
                    have hD : va_D A (wd_MD g h0 q0 e0_241) := by rw [he]; exact hD
                    refine lv_aload_n hx hb d_MD_readZone_244 rfl (lv_at hl 0 rfl) ?_
                    refine va_get (D := (dC, dI)) (ci := 10) (v := .ref (q0 19)) (C := "AlarmMatrixModel") (T := T_MD) (N := 42) hx hb hts i_MD hown hK hP 0 rfl rfl 19 (by decide) (hts _ k5_39) (fun _ h9 => h9) rfl d_MD_readZone_245 ?_
                    refine lv_iload_n hx hb d_MD_readZone_248 rfl (lv_at hl 1 rfl) ?_
                    refine lv_iload_n hx hb d_MD_readZone_249 rfl (lv_at hl 3 rfl) ?_
                    obtain ⟨h_250, hm⟩ := ck_s hm
                    obtain ⟨e0_250, he, hm⟩ := lz_s hm
                    refine va_iast (f := (e0_241 19)) hx hb hK hP hD hS 13 0 rfl rfl h_250 d_MD_readZone_250 (fun H locs hP hD hS => ?_)
                    have hP : va_P (dC, dI) vwCl (wd_MD g h0 q0 e0_250) H := by rw [he]; exact hP
                    have hD : va_D A (wd_MD g h0 q0 e0_250) := by rw [he]; exact hD
                    refine lv_aload_n hx hb d_MD_readZone_251 rfl (lv_at hl 0 rfl) ?_
                    refine va_get (D := (dC, dI)) (ci := 10) (v := .ref (q0 18)) (C := "AlarmMatrixModel") (T := T_MD) (N := 42) hx hb hts i_MD hown hK hP 0 rfl rfl 18 (by decide) (hts _ k5_38) (fun _ h9 => h9) rfl d_MD_readZone_252 ?_
                    refine lv_iload_n hx hb d_MD_readZone_255 rfl (lv_at hl 1 rfl) ?_
                    refine lv_iconst (v := (1 : Int32)) hx hb d_MD_readZone_256 (by decide) ?_
                    obtain ⟨h_257, hm⟩ := ck_s hm
                    obtain ⟨e0_257, he, hm⟩ := lz_s hm
                    refine va_zast (f := (e0_250 18)) hx hb hK hP hD hS 12 1 rfl rfl h_257 d_MD_readZone_257 (fun H locs hP hD hS => ?_)
                    have hP : va_P (dC, dI) vwCl (wd_MD g h0 q0 e0_257) H := by rw [he]; exact hP
                    have hD : va_D A (wd_MD g h0 q0 e0_257) := by rw [he]; exact hD
                    obtain rfl := Option.some.inj hm
                    rw [hQ]
                    exact krv hx hb hr hlocks hAe hP hK hD hS d_MD_readZone_258
                  · replace hm := if_f hm hc
                    refine lv_iload_n hx hb d_MD_readZone_236 rfl (lv_at hl 2 rfl) ?_
                    refine lv_goto (tgt := 241) hx hb d_MD_readZone_237 (by decide) ?_
                    obtain ⟨e0_241, he, hm⟩ := lz_s hm
                    refine va_put (D := (dC, dI)) (ci := 10) (v := .int (z0_53 16 0)) (ty := .int) (C := "AlarmMatrixModel") (T := T_MD) (N := 42) hx hb hts i_MD t_MD o_MD n_MD hown hK hP hD hS 0 rfl rfl 17 (by decide) (hts _ k5_37) (fun _ h9 => h9) rfl (by decide +kernel) rfl rfl (Nat.le_of_ble_eq_true rfl) d_MD_readZone_241 (fun H locs hP hD hS => ?_)
                    have hP : va_P (dC, dI) vwCl (wd_MD g h0 q0 e0_241) H := by rw [he]; exact hP
                    have hD : va_D A (wd_MD g h0 q0 e0_241) := by rw [he]; exact hD
                    refine lv_aload_n hx hb d_MD_readZone_244 rfl (lv_at hl 0 rfl) ?_
                    refine va_get (D := (dC, dI)) (ci := 10) (v := .ref (q0 19)) (C := "AlarmMatrixModel") (T := T_MD) (N := 42) hx hb hts i_MD hown hK hP 0 rfl rfl 19 (by decide) (hts _ k5_39) (fun _ h9 => h9) rfl d_MD_readZone_245 ?_
                    refine lv_iload_n hx hb d_MD_readZone_248 rfl (lv_at hl 1 rfl) ?_
                    refine lv_iload_n hx hb d_MD_readZone_249 rfl (lv_at hl 3 rfl) ?_
                    obtain ⟨h_250, hm⟩ := ck_s hm
                    obtain ⟨e0_250, he, hm⟩ := lz_s hm
                    refine va_iast (f := (e0_241 19)) hx hb hK hP hD hS 13 0 rfl rfl h_250 d_MD_readZone_250 (fun H locs hP hD hS => ?_)
                    have hP : va_P (dC, dI) vwCl (wd_MD g h0 q0 e0_250) H := by rw [he]; exact hP
                    have hD : va_D A (wd_MD g h0 q0 e0_250) := by rw [he]; exact hD
                    refine lv_aload_n hx hb d_MD_readZone_251 rfl (lv_at hl 0 rfl) ?_
                    refine va_get (D := (dC, dI)) (ci := 10) (v := .ref (q0 18)) (C := "AlarmMatrixModel") (T := T_MD) (N := 42) hx hb hts i_MD hown hK hP 0 rfl rfl 18 (by decide) (hts _ k5_38) (fun _ h9 => h9) rfl d_MD_readZone_252 ?_
                    refine lv_iload_n hx hb d_MD_readZone_255 rfl (lv_at hl 1 rfl) ?_
                    refine lv_iconst (v := (1 : Int32)) hx hb d_MD_readZone_256 (by decide) ?_
                    obtain ⟨h_257, hm⟩ := ck_s hm
                    obtain ⟨e0_257, he, hm⟩ := lz_s hm
                    refine va_zast (f := (e0_250 18)) hx hb hK hP hD hS 12 1 rfl rfl h_257 d_MD_readZone_257 (fun H locs hP hD hS => ?_)
                    have hP : va_P (dC, dI) vwCl (wd_MD g h0 q0 e0_257) H := by rw [he]; exact hP
                    have hD : va_D A (wd_MD g h0 q0 e0_257) := by rw [he]; exact hD
                    obtain rfl := Option.some.inj hm
                    rw [hQ]
                    exact krv hx hb hr hlocks hAe hP hK hD hS d_MD_readZone_258
              · replace hm := if_f hm hc
                refine lv_aload_n hx hb d_MD_readZone_98 rfl (lv_at hl 0 rfl) ?_
                refine lv_iconst (v := (0 : Int32)) hx hb d_MD_readZone_99 (by decide) ?_
                refine lv_aload_n hx hb d_MD_readZone_100 rfl (lv_at hl 0 rfl) ?_
                refine va_get (D := (dC, dI)) (ci := 10) (v := .int (y0_86 1 0)) (C := "AlarmMatrixModel") (T := T_MD) (N := 42) hx hb hts i_MD hown hK hP 0 rfl rfl 1 (by decide) (hts _ k5_21) (fun _ h9 => h9) rfl d_MD_readZone_101 ?_
                refine lv_iconst (v := (1 : Int32)) hx hb d_MD_readZone_104 (by decide) ?_
                refine lv_isub hx hb d_MD_readZone_105 ?_
                obtain ⟨r106, z0_106, hcl, hm⟩ := bn2_s hm
                refine kci (wc := wd_MD g h0 q0 y0_86) (wr := ([] : va_W)) (w1 := wd_MD g h0 q0 z0_106) hP hD hS hA [0, 1, 2, 3, 4, 5, 6, 7, 8, 9, 10, 11, 12, 13, 14, 15, 16, 17, 18, 19, 20, 21, 22, 23, 24, 25, 26, 27, 28, 29, 30, 31] [] rfl rfl (by decide) (by decide) (va_runV (As := [.int (0 : Int32), .int ((y0_86 1 0) - (1 : Int32))]) (rest := []) ⟨hx, hb, hml, hown, hts⟩ (c_MD_look hG hGn l dC dI g F H.size h0 q0 y0_86 (0 : Int32) ((y0_86 1 0) - (1 : Int32)) hcl) (cwV 2 hts (gdV k5_225 k5_227 kp_31 k1_10 k5_228) rfl rfl rfl (by decide +kernel) ⟨Nat.le_of_ble_eq_true rfl, Nat.le_of_ble_eq_true rfl⟩) (kpV hG hP hK hD hS hA hGA [0, 1, 2, 3, 4, 5, 6, 7, 8, 9, 10, 11, 12, 13, 14, 15, 16, 17, 18, 19, 20, 21, 22, 23, 24, 25, 26, 27, 28, 29, 30, 31] (by decide) rfl (ci := 10) (q0 := 0) rfl rfl rfl) rfl rfl hl.1 rfl (lv_room (Nat.le_of_ble_eq_true rfl)) d_MD_readZone_106 ⟨Nat.le_of_ble_eq_true rfl, Nat.le_of_ble_eq_true rfl⟩) (fun H locs hP hD hS => ?_)
                have hP : va_P (dC, dI) vwCl (wd_MD g h0 q0 z0_106) H := hP
                have hD : va_D A (wd_MD g h0 q0 z0_106) := hD
                refine lv_istore (lv' := [(5, .int r106), (0, .ref h0), (1, .int (r4 + (20 : Int32))), (2, .int (z0_53 16 0)), (3, .int r65), (4, .int v4_86)]) hx hb d_MD_readZone_109 hl (by decide) rfl (fun ls hl => ?_)
                refine lv_aload_n hx hb d_MD_readZone_111 rfl (lv_at hl 1 rfl) ?_
                refine va_get (D := (dC, dI)) (ci := 10) (v := .int (z0_106 17 0)) (C := "AlarmMatrixModel") (T := T_MD) (N := 42) hx hb hts i_MD hown hK hP 0 rfl rfl 17 (by decide) (hts _ k5_37) (fun _ h9 => h9) rfl d_MD_readZone_112 ?_
                refine lv_if_ge (tgt := 189) hx hb d_MD_readZone_115 (by decide) (fun hc => ?_) (fun hc => ?_)
                · replace hm := if_t hm hc
                  refine lv_aload_n hx hb d_MD_readZone_189 rfl (lv_at hl 1 rfl) ?_
                  refine lv_bipush (v := (59 : Int32)) hx hb d_MD_readZone_190 (by decide) ?_
                  obtain ⟨r192, hcl, hm⟩ := bn1_s hm
                  refine kci (wc := wd_MD g h0 q0 z0_106) (wr := ([] : va_W)) (w1 := wd_MD g h0 q0 z0_106) hP hD hS hA [0, 1, 2, 3, 4, 5, 6, 7, 8, 9, 10, 11, 12, 13, 14, 15, 16, 17, 18, 19, 20, 21, 22, 23, 24, 25, 26, 27, 28, 29, 30, 31] [] rfl rfl (by decide) (by decide) (va_runV (As := [.int (59 : Int32)]) (rest := []) ⟨hx, hb, hml, hown, hts⟩ (c_MD_isSign hG hGn l dC dI g F H.size h0 q0 z0_106 (59 : Int32) hcl) (cwV 1 hts (gdV k6_5 k6_7 kp_36 k1_10 k6_8) rfl rfl rfl (by decide +kernel) ⟨Nat.le_of_ble_eq_true rfl, Nat.le_of_ble_eq_true rfl⟩) (kpV hG hP hK hD hS hA hGA [0, 1, 2, 3, 4, 5, 6, 7, 8, 9, 10, 11, 12, 13, 14, 15, 16, 17, 18, 19, 20, 21, 22, 23, 24, 25, 26, 27, 28, 29, 30, 31] (by decide) rfl (ci := 10) (q0 := 0) rfl rfl rfl) rfl rfl hl.1 rfl (lv_room (Nat.le_of_ble_eq_true rfl)) d_MD_readZone_192 ⟨Nat.le_of_ble_eq_true rfl, Nat.le_of_ble_eq_true rfl⟩) (fun H locs hP hD hS => ?_)
                  have hP : va_P (dC, dI) vwCl (wd_MD g h0 q0 z0_106) H := hP
                  have hD : va_D A (wd_MD g h0 q0 z0_106) := hD
                  refine lv_if_ne (tgt := 202) hx hb d_MD_readZone_195 (by decide) (fun hc => ?_) (fun hc => ?_)
                  · replace hm := if_f hm hc
                    refine lv_iconst (v := (0 : Int32)) hx hb d_MD_readZone_202 (by decide) ?_
                    refine lv_istore (lv' := [(4, .int (0 : Int32)), (5, .int r106), (0, .ref h0), (1, .int (r4 + (20 : Int32))), (2, .int (z0_53 16 0)), (3, .int r65)]) hx hb d_MD_readZone_203 hl (by decide) rfl (fun ls hl => ?_)
                    refine lv_goto (tgt := 86) hx hb d_MD_readZone_205 (by decide) ?_
                    exact ih86 (0 : Int32) z0_106 H locs ls hm hP hD hS (lv_sub hl [2, 3, 4, 5, 0] rfl)
                  · replace hm := if_t hm hc
                    refine lv_iconst (v := (1 : Int32)) hx hb d_MD_readZone_198 (by decide) ?_
                    refine lv_goto (tgt := 203) hx hb d_MD_readZone_199 (by decide) ?_
                    refine lv_istore (lv' := [(4, .int (1 : Int32)), (5, .int r106), (0, .ref h0), (1, .int (r4 + (20 : Int32))), (2, .int (z0_53 16 0)), (3, .int r65)]) hx hb d_MD_readZone_203 hl (by decide) rfl (fun ls hl => ?_)
                    refine lv_goto (tgt := 86) hx hb d_MD_readZone_205 (by decide) ?_
                    exact ih86 (1 : Int32) z0_106 H locs ls hm hP hD hS (lv_sub hl [2, 3, 4, 5, 0] rfl)
                · replace hm := if_f hm hc
                  refine lv_aload_n hx hb d_MD_readZone_118 rfl (lv_at hl 1 rfl) ?_
                  refine lv_aload_n hx hb d_MD_readZone_119 rfl (lv_at hl 1 rfl) ?_
                  refine va_get (D := (dC, dI)) (ci := 10) (v := .ref (q0 20)) (C := "AlarmMatrixModel") (T := T_MD) (N := 42) hx hb hts i_MD hown hK hP 0 rfl rfl 20 (by decide) (hts _ k5_40) (fun _ h9 => h9) rfl d_MD_readZone_120 ?_
                  refine lv_iload_n hx hb d_MD_readZone_123 rfl (lv_at hl 2 rfl) ?_
                  obtain ⟨h_124, hm⟩ := ck_s hm
                  refine va_iald (f := (z0_106 20)) hx hb hK hP 14 0 rfl rfl h_124 d_MD_readZone_124 ?_
                  refine lv_bipush (v := (12 : Int32)) hx hb d_MD_readZone_125 (by decide) ?_
                  refine lv_icmp_ge (tgt := 144) hx hb d_MD_readZone_127 (by decide) (fun hc => ?_) (fun hc => ?_)
                  · replace hm := if_t hm hc
                    refine lv_iconst (v := (0 : Int32)) hx hb d_MD_readZone_144 (by decide) ?_
                    exact J145 v4_86 r106 (0 : Int32) z0_106 H locs ls hm hP hD hS (lv_sub hl [1, 2, 3, 4, 5, 0] rfl)
                  · replace hm := if_f hm hc
                    refine lv_aload_n hx hb d_MD_readZone_130 rfl (lv_at hl 1 rfl) ?_
                    refine lv_iload_n hx hb d_MD_readZone_131 rfl (lv_at hl 2 rfl) ?_
                    refine lv_iload hx hb d_MD_readZone_132 (lv_at hl 0 rfl) ?_
                    obtain ⟨r134, hcl, hm⟩ := bn1_s hm
                    refine kci (wc := wd_MD g h0 q0 z0_106) (wr := ([] : va_W)) (w1 := wd_MD g h0 q0 z0_106) hP hD hS hA [0, 1, 2, 3, 4, 5, 6, 7, 8, 9, 10, 11, 12, 13, 14, 15, 16, 17, 18, 19, 20, 21, 22, 23, 24, 25, 26, 27, 28, 29, 30, 31] [] rfl rfl (by decide) (by decide) (va_runV (As := [.int (r4 + (20 : Int32)), .int r106]) (rest := [.ref h0]) ⟨hx, hb, hml, hown, hts⟩ (c_MD_has hG hGn l dC dI g F H.size h0 q0 z0_106 (r4 + (20 : Int32)) r106 hcl) (cwV 2 hts (gdV k6_1 k6_3 kp_35 k1_10 k6_4) rfl rfl rfl (by decide +kernel) ⟨Nat.le_of_ble_eq_true rfl, Nat.le_of_ble_eq_true rfl⟩) (kpV hG hP hK hD hS hA hGA [0, 1, 2, 3, 4, 5, 6, 7, 8, 9, 10, 11, 12, 13, 14, 15, 16, 17, 18, 19, 20, 21, 22, 23, 24, 25, 26, 27, 28, 29, 30, 31] (by decide) rfl (ci := 10) (q0 := 0) rfl rfl rfl) rfl rfl hl.1 rfl (lv_room (Nat.le_of_ble_eq_true rfl)) d_MD_readZone_134 ⟨Nat.le_of_ble_eq_true rfl, Nat.le_of_ble_eq_true rfl⟩) (fun H locs hP hD hS => ?_)
                    have hP : va_P (dC, dI) vwCl (wd_MD g h0 q0 z0_106) H := hP
                    have hD : va_D A (wd_MD g h0 q0 z0_106) := hD
                    refine lv_if_ne (tgt := 144) hx hb d_MD_readZone_137 (by decide) (fun hc => ?_) (fun hc => ?_)
                    · replace hm := if_f hm hc
                      refine lv_iconst (v := (0 : Int32)) hx hb d_MD_readZone_144 (by decide) ?_
                      exact J145 v4_86 r106 (0 : Int32) z0_106 H locs ls hm hP hD hS (lv_sub hl [1, 2, 3, 4, 5, 0] rfl)
                    · replace hm := if_t hm hc
                      refine lv_iconst (v := (1 : Int32)) hx hb d_MD_readZone_140 (by decide) ?_
                      refine lv_goto (tgt := 145) hx hb d_MD_readZone_141 (by decide) ?_
                      exact J145 v4_86 r106 (1 : Int32) z0_106 H locs ls hm hP hD hS (lv_sub hl [1, 2, 3, 4, 5, 0] rfl)
        exact L86 F (1 : Int32) e0_82 H locs ls hm hP hD hS (lv_sub hl [4, 3, 2, 1, 0] rfl)
      · replace hm := if_t hm hc
        obtain rfl := Option.some.inj hm
        rw [hQ]
        exact krv hx hb hr hlocks hAe hP hK hD hS d_MD_readZone_39
    · replace hm := if_t hm hc
      refine lv_iconst (v := (1 : Int32)) hx hb d_MD_readZone_28 (by decide) ?_
      refine lv_goto (tgt := 33) hx hb d_MD_readZone_29 (by decide) ?_
      obtain ⟨r33, z0_33, hcl, hm⟩ := bn2_s hm
      refine kci (wc := wd_MD g h0 q0 z0_4) (wr := ([] : va_W)) (w1 := wd_MD g h0 q0 z0_33) hP hD hS hA [0, 1, 2, 3, 4, 5, 6, 7, 8, 9, 10, 11, 12, 13, 14, 15, 16, 17, 18, 19, 20, 21, 22, 23, 24, 25, 26, 27, 28, 29, 30, 31] [] rfl rfl (by decide) (by decide) (va_runV (As := [.int (1 : Int32)]) (rest := []) ⟨hx, hb, hml, hown, hts⟩ (c_MD_want hG hGn l dC dI g F H.size h0 q0 z0_4 (1 : Int32) hcl) (cwV 1 hts (gdV k5_229 k5_231 kp_32 k1_10 k5_232) rfl rfl rfl (by decide +kernel) ⟨Nat.le_of_ble_eq_true rfl, Nat.le_of_ble_eq_true rfl⟩) (kpV hG hP hK hD hS hA hGA [0, 1, 2, 3, 4, 5, 6, 7, 8, 9, 10, 11, 12, 13, 14, 15, 16, 17, 18, 19, 20, 21, 22, 23, 24, 25, 26, 27, 28, 29, 30, 31] (by decide) rfl (ci := 10) (q0 := 0) rfl rfl rfl) rfl rfl hl.1 rfl (lv_room (Nat.le_of_ble_eq_true rfl)) d_MD_readZone_33 ⟨Nat.le_of_ble_eq_true rfl, Nat.le_of_ble_eq_true rfl⟩) (fun H locs hP hD hS => ?_)
      have hP : va_P (dC, dI) vwCl (wd_MD g h0 q0 z0_33) H := hP
      have hD : va_D A (wd_MD g h0 q0 z0_33) := hD
      refine lv_if_ne (tgt := 40) hx hb d_MD_readZone_36 (by decide) (fun hc => ?_) (fun hc => ?_)
      · replace hm := if_f hm hc
        refine lv_aload_n hx hb d_MD_readZone_40 rfl (lv_at hl 1 rfl) ?_
        refine lv_dup hx hb d_MD_readZone_41 rfl ?_
        refine va_get (D := (dC, dI)) (ci := 10) (v := .int (z0_33 16 0)) (C := "AlarmMatrixModel") (T := T_MD) (N := 42) hx hb hts i_MD hown hK hP 0 rfl rfl 16 (by decide) (hts _ k5_36) (fun _ h9 => h9) rfl d_MD_readZone_42 ?_
        refine lv_iconst (v := (1 : Int32)) hx hb d_MD_readZone_45 (by decide) ?_
        refine lv_iadd hx hb d_MD_readZone_46 ?_
        obtain ⟨e0_47, he, hm⟩ := lz_s hm
        refine va_put (D := (dC, dI)) (ci := 10) (v := .int ((z0_33 16 0) + (1 : Int32))) (ty := .int) (C := "AlarmMatrixModel") (T := T_MD) (N := 42) hx hb hts i_MD t_MD o_MD n_MD hown hK hP hD hS 0 rfl rfl 16 (by decide) (hts _ k5_36) (fun _ h9 => h9) rfl (by decide +kernel) rfl rfl (Nat.le_of_ble_eq_true rfl) d_MD_readZone_47 (fun H locs hP hD hS => ?_)
        have hP : va_P (dC, dI) vwCl (wd_MD g h0 q0 e0_47) H := by rw [he]; exact hP
        have hD : va_D A (wd_MD g h0 q0 e0_47) := by rw [he]; exact hD
        refine lv_aload_n hx hb d_MD_readZone_50 rfl (lv_at hl 1 rfl) ?_
        refine lv_ldc (v := (20059310 : Int32)) hx hb hown (hts _ k5_189) d_MD_readZone_51 ?_
        obtain ⟨z0_53, hcl, hm⟩ := bn1_s hm
        refine kcv (wc := wd_MD g h0 q0 e0_47) (wr := ([] : va_W)) (w1 := wd_MD g h0 q0 z0_53) hP hD hS hA [0, 1, 2, 3, 4, 5, 6, 7, 8, 9, 10, 11, 12, 13, 14, 15, 16, 17, 18, 19, 20, 21, 22, 23, 24, 25, 26, 27, 28, 29, 30, 31] [] rfl rfl (by decide) (by decide) (va_runV (As := [.int (20059310 : Int32)]) (rest := []) ⟨hx, hb, hml, hown, hts⟩ (c_MD_take_0 hG hGn l dC dI g F H.size h0 q0 e0_47 (20059310 : Int32) hcl) (cwV 1 hts (gdV k5_233 k5_235 kp_33 k1_10 k5_236) rfl rfl rfl (by decide +kernel) ⟨Nat.le_of_ble_eq_true rfl, Nat.le_of_ble_eq_true rfl⟩) (kpV hG hP hK hD hS hA hGA [0, 1, 2, 3, 4, 5, 6, 7, 8, 9, 10, 11, 12, 13, 14, 15, 16, 17, 18, 19, 20, 21, 22, 23, 24, 25, 26, 27, 28, 29, 30, 31] (by decide) rfl (ci := 10) (q0 := 0) rfl rfl rfl) rfl rfl hl.1 rfl (lv_room (Nat.le_of_ble_eq_true rfl)) d_MD_readZone_53 ⟨Nat.le_of_ble_eq_true rfl, Nat.le_of_ble_eq_true rfl⟩) (fun H locs hP hD hS => ?_)
        have hP : va_P (dC, dI) vwCl (wd_MD g h0 q0 z0_53) H := hP
        have hD : va_D A (wd_MD g h0 q0 z0_53) := hD
        refine lv_aload_n hx hb d_MD_readZone_56 rfl (lv_at hl 1 rfl) ?_
        refine va_get (D := (dC, dI)) (ci := 10) (v := .int (z0_53 16 0)) (C := "AlarmMatrixModel") (T := T_MD) (N := 42) hx hb hts i_MD hown hK hP 0 rfl rfl 16 (by decide) (hts _ k5_36) (fun _ h9 => h9) rfl d_MD_readZone_57 ?_
        refine lv_istore_n (lv' := [(2, .int (z0_53 16 0)), (1, .int (r4 + (20 : Int32))), (0, .ref h0)]) hx hb d_MD_readZone_60 rfl hl (by decide) rfl (fun ls hl => ?_)
        refine lv_aload_n hx hb d_MD_readZone_61 rfl (lv_at hl 2 rfl) ?_
        refine lv_iconst (v := (1 : Int32)) hx hb d_MD_readZone_62 (by decide) ?_
        refine lv_bipush (v := (12 : Int32)) hx hb d_MD_readZone_63 (by decide) ?_
        obtain ⟨r65, z0_65, hcl, hm⟩ := bn2_s hm
        refine kci (wc := wd_MD g h0 q0 z0_53) (wr := ([] : va_W)) (w1 := wd_MD g h0 q0 z0_65) hP hD hS hA [0, 1, 2, 3, 4, 5, 6, 7, 8, 9, 10, 11, 12, 13, 14, 15, 16, 17, 18, 19, 20, 21, 22, 23, 24, 25, 26, 27, 28, 29, 30, 31] [] rfl rfl (by decide) (by decide) (va_runV (As := [.int (1 : Int32), .int (12 : Int32)]) (rest := []) ⟨hx, hb, hml, hown, hts⟩ (c_MD_takeNumber hG hGn l dC dI g F H.size h0 q0 z0_53 (1 : Int32) (12 : Int32) hcl) (cwV 2 hts (gdV k5_237 k5_239 kp_34 k1_10 k6_0) rfl rfl rfl (by decide +kernel) ⟨Nat.le_of_ble_eq_true rfl, Nat.le_of_ble_eq_true rfl⟩) (kpV hG hP hK hD hS hA hGA [0, 1, 2, 3, 4, 5, 6, 7, 8, 9, 10, 11, 12, 13, 14, 15, 16, 17, 18, 19, 20, 21, 22, 23, 24, 25, 26, 27, 28, 29, 30, 31] (by decide) rfl (ci := 10) (q0 := 0) rfl rfl rfl) rfl rfl hl.1 rfl (lv_room (Nat.le_of_ble_eq_true rfl)) d_MD_readZone_65 ⟨Nat.le_of_ble_eq_true rfl, Nat.le_of_ble_eq_true rfl⟩) (fun H locs hP hD hS => ?_)
        have hP : va_P (dC, dI) vwCl (wd_MD g h0 q0 z0_65) H := hP
        have hD : va_D A (wd_MD g h0 q0 z0_65) := hD
        refine lv_istore_n (lv' := [(3, .int r65), (2, .int (z0_53 16 0)), (1, .int (r4 + (20 : Int32))), (0, .ref h0)]) hx hb d_MD_readZone_68 rfl hl (by decide) rfl (fun ls hl => ?_)
        refine lv_aload_n hx hb d_MD_readZone_69 rfl (lv_at hl 3 rfl) ?_
        refine lv_sipush (v := (207 : Int32)) hx hb d_MD_readZone_70 (by decide) ?_
        obtain ⟨z0_73, hcl, hm⟩ := bn1_s hm
        refine kcv (wc := wd_MD g h0 q0 z0_65) (wr := ([] : va_W)) (w1 := wd_MD g h0 q0 z0_73) hP hD hS hA [0, 1, 2, 3, 4, 5, 6, 7, 8, 9, 10, 11, 12, 13, 14, 15, 16, 17, 18, 19, 20, 21, 22, 23, 24, 25, 26, 27, 28, 29, 30, 31] [] rfl rfl (by decide) (by decide) (va_runV (As := [.int (207 : Int32)]) (rest := []) ⟨hx, hb, hml, hown, hts⟩ (c_MD_take_0 hG hGn l dC dI g F H.size h0 q0 z0_65 (207 : Int32) hcl) (cwV 1 hts (gdV k5_233 k5_235 kp_33 k1_10 k5_236) rfl rfl rfl (by decide +kernel) ⟨Nat.le_of_ble_eq_true rfl, Nat.le_of_ble_eq_true rfl⟩) (kpV hG hP hK hD hS hA hGA [0, 1, 2, 3, 4, 5, 6, 7, 8, 9, 10, 11, 12, 13, 14, 15, 16, 17, 18, 19, 20, 21, 22, 23, 24, 25, 26, 27, 28, 29, 30, 31] (by decide) rfl (ci := 10) (q0 := 0) rfl rfl rfl) rfl rfl hl.1 rfl (lv_room (Nat.le_of_ble_eq_true rfl)) d_MD_readZone_73 ⟨Nat.le_of_ble_eq_true rfl, Nat.le_of_ble_eq_true rfl⟩) (fun H locs hP hD hS => ?_)
        have hP : va_P (dC, dI) vwCl (wd_MD g h0 q0 z0_73) H := hP
        have hD : va_D A (wd_MD g h0 q0 z0_73) := hD
        refine lv_aload_n hx hb d_MD_readZone_76 rfl (lv_at hl 3 rfl) ?_
        refine va_get (D := (dC, dI)) (ci := 10) (v := .ref (q0 20)) (C := "AlarmMatrixModel") (T := T_MD) (N := 42) hx hb hts i_MD hown hK hP 0 rfl rfl 20 (by decide) (hts _ k5_40) (fun _ h9 => h9) rfl d_MD_readZone_77 ?_
        refine lv_iload_n hx hb d_MD_readZone_80 rfl (lv_at hl 2 rfl) ?_
        refine lv_iconst (v := (0 : Int32)) hx hb d_MD_readZone_81 (by decide) ?_
        obtain ⟨h_82, hm⟩ := ck_s hm
        obtain ⟨e0_82, he, hm⟩ := lz_s hm
        refine va_iast (f := (z0_73 20)) hx hb hK hP hD hS 14 0 rfl rfl h_82 d_MD_readZone_82 (fun H locs hP hD hS => ?_)
        have hP : va_P (dC, dI) vwCl (wd_MD g h0 q0 e0_82) H := by rw [he]; exact hP
        have hD : va_D A (wd_MD g h0 q0 e0_82) := by rw [he]; exact hD
        refine lv_iconst (v := (1 : Int32)) hx hb d_MD_readZone_83 (by decide) ?_
        refine lv_istore (lv' := [(4, .int (1 : Int32)), (3, .int r65), (2, .int (z0_53 16 0)), (1, .int (r4 + (20 : Int32))), (0, .ref h0)]) hx hb d_MD_readZone_84 hl (by decide) rfl (fun ls hl => ?_)
        have L86 : ∀ (n86 : Nat) (v4_86 : Int32) (y0_86 : St) (H : Heap) (locs : List Loc) (ls : Array Slot), lq2 (m_MD_readZone_B86 F r4 (fun v4_86 y0_86 => (if (0 : Int32) ≤ (y0_86 17 0) then (some y0_86) else (lz (sc y0_86 16 ((y0_86 16 0) + (1 : Int32))) (fun e0_222 => (ck (r4 + (20 : Int32)) 40 (if r65 ≤ ((e0_222 20) (r4 + (20 : Int32)).toNatClampNeg) then (lz (sc e0_222 17 (-1 : Int32)) (fun e0_241 => (ck (r4 + (20 : Int32)) 40 (lz (st e0_241 19 (upd (e0_241 19) (r4 + (20 : Int32)).toNatClampNeg r65)) (fun e0_250 => (ck (r4 + (20 : Int32)) 40 (lz (st e0_250 18 (upd (e0_250 18) (r4 + (20 : Int32)).toNatClampNeg (vp_nar .boolean (1 : Int32)))) (fun e0_257 => (some e0_257))))))))) else (lz (sc e0_222 17 (z0_53 16 0)) (fun e0_241 => (ck (r4 + (20 : Int32)) 40 (lz (st e0_241 19 (upd (e0_241 19) (r4 + (20 : Int32)).toNatClampNeg r65)) (fun e0_250 => (ck (r4 + (20 : Int32)) 40 (lz (st e0_250 18 (upd (e0_250 18) (r4 + (20 : Int32)).toNatClampNeg (vp_nar .boolean (1 : Int32)))) (fun e0_257 => (some e0_257)))))))))))))))) n86 v4_86 y0_86 = some o → va_P (dC, dI) vwCl (wd_MD g h0 q0 y0_86) H → va_D A (wd_MD g h0 q0 y0_86) → va_S A s.heap H locs → lv_has ls 6 [(0, .ref h0), (1, .int (r4 + (20 : Int32))), (2, .int (z0_53 16 0)), (3, .int r65), (4, .int v4_86)] → W p l e rm_MD_readZone s m args below meth c H locs 0 0 Q (F0 m 86 ls []) := by
          intro n86
          induction n86 with
          | zero => intro v4_86 y0_86 H locs ls hm; exact absurd hm (by intro z; cases z)
          | succ n86 ih86 =>
            intro v4_86 y0_86 H locs ls hm hP hD hS hl
            replace hm := m_MD_readZone_B86_h (lq2_h hm)
            have J145 : ∀ (j4_145 : Int32) (j5_145 : Int32) (s0_145 : Int32) (t0_145 : St) (H : Heap) (locs : List Loc) (ls : Array Slot), m_MD_readZone_J145 F r4 (fun v4_86 y0_86 => (if (0 : Int32) ≤ (y0_86 17 0) then (some y0_86) else (lz (sc y0_86 16 ((y0_86 16 0) + (1 : Int32))) (fun e0_222 => (ck (r4 + (20 : Int32)) 40 (if r65 ≤ ((e0_222 20) (r4 + (20 : Int32)).toNatClampNeg) then (lz (sc e0_222 17 (-1 : Int32)) (fun e0_241 => (ck (r4 + (20 : Int32)) 40 (lz (st e0_241 19 (upd (e0_241 19) (r4 + (20 : Int32)).toNatClampNeg r65)) (fun e0_250 => (ck (r4 + (20 : Int32)) 40 (lz (st e0_250 18 (upd (e0_250 18) (r4 + (20 : Int32)).toNatClampNeg (vp_nar .boolean (1 : Int32)))) (fun e0_257 => (some e0_257))))))))) else (lz (sc e0_222 17 (z0_53 16 0)) (fun e0_241 => (ck (r4 + (20 : Int32)) 40 (lz (st e0_241 19 (upd (e0_241 19) (r4 + (20 : Int32)).toNatClampNeg r65)) (fun e0_250 => (ck (r4 + (20 : Int32)) 40 (lz (st e0_250 18 (upd (e0_250 18) (r4 + (20 : Int32)).toNatClampNeg (vp_nar .boolean (1 : Int32)))) (fun e0_257 => (some e0_257))))))))))))))) (lq2 (m_MD_readZone_B86 F r4 (fun v4_86 y0_86 => (if (0 : Int32) ≤ (y0_86 17 0) then (some y0_86) else (lz (sc y0_86 16 ((y0_86 16 0) + (1 : Int32))) (fun e0_222 => (ck (r4 + (20 : Int32)) 40 (if r65 ≤ ((e0_222 20) (r4 + (20 : Int32)).toNatClampNeg) then (lz (sc e0_222 17 (-1 : Int32)) (fun e0_241 => (ck (r4 + (20 : Int32)) 40 (lz (st e0_241 19 (upd (e0_241 19) (r4 + (20 : Int32)).toNatClampNeg r65)) (fun e0_250 => (ck (r4 + (20 : Int32)) 40 (lz (st e0_250 18 (upd (e0_250 18) (r4 + (20 : Int32)).toNatClampNeg (vp_nar .boolean (1 : Int32)))) (fun e0_257 => (some e0_257))))))))) else (lz (sc e0_222 17 (z0_53 16 0)) (fun e0_241 => (ck (r4 + (20 : Int32)) 40 (lz (st e0_241 19 (upd (e0_241 19) (r4 + (20 : Int32)).toNatClampNeg r65)) (fun e0_250 => (ck (r4 + (20 : Int32)) 40 (lz (st e0_250 18 (upd (e0_250 18) (r4 + (20 : Int32)).toNatClampNeg (vp_nar .boolean (1 : Int32)))) (fun e0_257 => (some e0_257)))))))))))))))) n86) j4_145 j5_145 s0_145 t0_145 = some o → va_P (dC, dI) vwCl (wd_MD g h0 q0 t0_145) H → va_D A (wd_MD g h0 q0 t0_145) → va_S A s.heap H locs → lv_has ls 6 [(0, .ref h0), (1, .int (r4 + (20 : Int32))), (2, .int (z0_53 16 0)), (3, .int r65), (4, .int j4_145), (5, .int j5_145)] → W p l e rm_MD_readZone s m args below meth c H locs 0 0 Q (F0 m 145 ls [.int s0_145, .ref h0]) := by
              intro j4_145 j5_145 s0_145 t0_145 H locs ls hm hP hD hS hl
              replace hm := m_MD_readZone_J145_h hm
              obtain ⟨r145, z0_145, hcl, hm⟩ := bn2_s hm
              refine kci (wc := wd_MD g h0 q0 t0_145) (wr := ([] : va_W)) (w1 := wd_MD g h0 q0 z0_145) hP hD hS hA [0, 1, 2, 3, 4, 5, 6, 7, 8, 9, 10, 11, 12, 13, 14, 15, 16, 17, 18, 19, 20, 21, 22, 23, 24, 25, 26, 27, 28, 29, 30, 31] [] rfl rfl (by decide) (by decide) (va_runV (As := [.int s0_145]) (rest := []) ⟨hx, hb, hml, hown, hts⟩ (c_MD_want hG hGn l dC dI g F H.size h0 q0 t0_145 s0_145 hcl) (cwV 1 hts (gdV k5_229 k5_231 kp_32 k1_10 k5_232) rfl rfl rfl (by decide +kernel) ⟨Nat.le_of_ble_eq_true rfl, Nat.le_of_ble_eq_true rfl⟩) (kpV hG hP hK hD hS hA hGA [0, 1, 2, 3, 4, 5, 6, 7, 8, 9, 10, 11, 12, 13, 14, 15, 16, 17, 18, 19, 20, 21, 22, 23, 24, 25, 26, 27, 28, 29, 30, 31] (by decide) rfl (ci := 10) (q0 := 0) rfl rfl rfl) rfl rfl hl.1 rfl (lv_room (Nat.le_of_ble_eq_true rfl)) d_MD_readZone_145 ⟨Nat.le_of_ble_eq_true rfl, Nat.le_of_ble_eq_true rfl⟩) (fun H locs hP hD hS => ?_)
              have hP : va_P (dC, dI) vwCl (wd_MD g h0 q0 z0_145) H := hP
              have hD : va_D A (wd_MD g h0 q0 z0_145) := hD
              refine lv_if_eq (tgt := 189) hx hb d_MD_readZone_148 (by decide) (fun hc => ?_) (fun hc => ?_)
              · replace hm := if_t hm hc
                refine lv_aload_n hx hb d_MD_readZone_189 rfl (lv_at hl 0 rfl) ?_
                refine lv_bipush (v := (59 : Int32)) hx hb d_MD_readZone_190 (by decide) ?_
                obtain ⟨r192, hcl, hm⟩ := bn1_s hm
                refine kci (wc := wd_MD g h0 q0 z0_145) (wr := ([] : va_W)) (w1 := wd_MD g h0 q0 z0_145) hP hD hS hA [0, 1, 2, 3, 4, 5, 6, 7, 8, 9, 10, 11, 12, 13, 14, 15, 16, 17, 18, 19, 20, 21, 22, 23, 24, 25, 26, 27, 28, 29, 30, 31] [] rfl rfl (by decide) (by decide) (va_runV (As := [.int (59 : Int32)]) (rest := []) ⟨hx, hb, hml, hown, hts⟩ (c_MD_isSign hG hGn l dC dI g F H.size h0 q0 z0_145 (59 : Int32) hcl) (cwV 1 hts (gdV k6_5 k6_7 kp_36 k1_10 k6_8) rfl rfl rfl (by decide +kernel) ⟨Nat.le_of_ble_eq_true rfl, Nat.le_of_ble_eq_true rfl⟩) (kpV hG hP hK hD hS hA hGA [0, 1, 2, 3, 4, 5, 6, 7, 8, 9, 10, 11, 12, 13, 14, 15, 16, 17, 18, 19, 20, 21, 22, 23, 24, 25, 26, 27, 28, 29, 30, 31] (by decide) rfl (ci := 10) (q0 := 0) rfl rfl rfl) rfl rfl hl.1 rfl (lv_room (Nat.le_of_ble_eq_true rfl)) d_MD_readZone_192 ⟨Nat.le_of_ble_eq_true rfl, Nat.le_of_ble_eq_true rfl⟩) (fun H locs hP hD hS => ?_)
                have hP : va_P (dC, dI) vwCl (wd_MD g h0 q0 z0_145) H := hP
                have hD : va_D A (wd_MD g h0 q0 z0_145) := hD
                refine lv_if_ne (tgt := 202) hx hb d_MD_readZone_195 (by decide) (fun hc => ?_) (fun hc => ?_)
                · replace hm := if_f hm hc
                  refine lv_iconst (v := (0 : Int32)) hx hb d_MD_readZone_202 (by decide) ?_
                  refine lv_istore (lv' := [(4, .int (0 : Int32)), (0, .ref h0), (1, .int (r4 + (20 : Int32))), (2, .int (z0_53 16 0)), (3, .int r65), (5, .int j5_145)]) hx hb d_MD_readZone_203 hl (by decide) rfl (fun ls hl => ?_)
                  refine lv_goto (tgt := 86) hx hb d_MD_readZone_205 (by decide) ?_
                  exact ih86 (0 : Int32) z0_145 H locs ls hm hP hD hS (lv_sub hl [1, 2, 3, 4, 0] rfl)
                · replace hm := if_t hm hc
                  refine lv_iconst (v := (1 : Int32)) hx hb d_MD_readZone_198 (by decide) ?_
                  refine lv_goto (tgt := 203) hx hb d_MD_readZone_199 (by decide) ?_
                  refine lv_istore (lv' := [(4, .int (1 : Int32)), (0, .ref h0), (1, .int (r4 + (20 : Int32))), (2, .int (z0_53 16 0)), (3, .int r65), (5, .int j5_145)]) hx hb d_MD_readZone_203 hl (by decide) rfl (fun ls hl => ?_)
                  refine lv_goto (tgt := 86) hx hb d_MD_readZone_205 (by decide) ?_
                  exact ih86 (1 : Int32) z0_145 H locs ls hm hP hD hS (lv_sub hl [1, 2, 3, 4, 0] rfl)
              · replace hm := if_f hm hc
                refine lv_aload_n hx hb d_MD_readZone_151 rfl (lv_at hl 0 rfl) ?_
                refine va_get (D := (dC, dI)) (ci := 10) (v := .ref (q0 21)) (C := "AlarmMatrixModel") (T := T_MD) (N := 42) hx hb hts i_MD hown hK hP 0 rfl rfl 21 (by decide) (hts _ k5_41) (fun _ h9 => h9) rfl d_MD_readZone_152 ?_
                refine lv_bipush (v := (12 : Int32)) hx hb d_MD_readZone_155 (by decide) ?_
                refine lv_iload_n hx hb d_MD_readZone_157 rfl (lv_at hl 1 rfl) ?_
                refine lv_imul hx hb d_MD_readZone_158 ?_
                refine lv_aload_n hx hb d_MD_readZone_159 rfl (lv_at hl 0 rfl) ?_
                refine va_get (D := (dC, dI)) (ci := 10) (v := .ref (q0 20)) (C := "AlarmMatrixModel") (T := T_MD) (N := 42) hx hb hts i_MD hown hK hP 0 rfl rfl 20 (by decide) (hts _ k5_40) (fun _ h9 => h9) rfl d_MD_readZone_160 ?_
                refine lv_iload_n hx hb d_MD_readZone_163 rfl (lv_at hl 1 rfl) ?_
                obtain ⟨h_164, hm⟩ := ck_s hm
                refine va_iald (f := (z0_145 20)) hx hb hK hP 14 0 rfl rfl h_164 d_MD_readZone_164 ?_
                refine lv_iadd hx hb d_MD_readZone_165 ?_
                refine lv_iload hx hb d_MD_readZone_166 (lv_at hl 5 rfl) ?_
                obtain ⟨h_168, hm⟩ := ck_s hm
                obtain ⟨e0_168, he, hm⟩ := lz_s hm
                refine va_iast (f := (z0_145 21)) hx hb hK hP hD hS 15 0 rfl rfl h_168 d_MD_readZone_168 (fun H locs hP hD hS => ?_)
                have hP : va_P (dC, dI) vwCl (wd_MD g h0 q0 e0_168) H := by rw [he]; exact hP
                have hD : va_D A (wd_MD g h0 q0 e0_168) := by rw [he]; exact hD
                refine lv_aload_n hx hb d_MD_readZone_169 rfl (lv_at hl 0 rfl) ?_
                refine va_get (D := (dC, dI)) (ci := 10) (v := .ref (q0 20)) (C := "AlarmMatrixModel") (T := T_MD) (N := 42) hx hb hts i_MD hown hK hP 0 rfl rfl 20 (by decide) (hts _ k5_40) (fun _ h9 => h9) rfl d_MD_readZone_170 ?_
                refine lv_iload_n hx hb d_MD_readZone_173 rfl (lv_at hl 1 rfl) ?_
                refine lv_dup2_11 hx hb d_MD_readZone_174 rfl rfl ?_
                obtain ⟨h_175, hm⟩ := ck_s hm
                refine va_iald (f := (e0_168 20)) hx hb hK hP 14 0 rfl rfl h_175 d_MD_readZone_175 ?_
                refine lv_iconst (v := (1 : Int32)) hx hb d_MD_readZone_176 (by decide) ?_
                refine lv_iadd hx hb d_MD_readZone_177 ?_
                obtain ⟨h_178, hm⟩ := ck_s hm
                obtain ⟨e0_178, he, hm⟩ := lz_s hm
                refine va_iast (f := (e0_168 20)) hx hb hK hP hD hS 14 0 rfl rfl h_178 d_MD_readZone_178 (fun H locs hP hD hS => ?_)
                have hP : va_P (dC, dI) vwCl (wd_MD g h0 q0 e0_178) H := by rw [he]; exact hP
                have hD : va_D A (wd_MD g h0 q0 e0_178) := by rw [he]; exact hD
                refine lv_aload_n hx hb d_MD_readZone_179 rfl (lv_at hl 0 rfl) ?_
                refine lv_dup hx hb d_MD_readZone_180 rfl ?_
                refine va_get (D := (dC, dI)) (ci := 10) (v := .int (e0_178 16 0)) (C := "AlarmMatrixModel") (T := T_MD) (N := 42) hx hb hts i_MD hown hK hP 0 rfl rfl 16 (by decide) (hts _ k5_36) (fun _ h9 => h9) rfl d_MD_readZone_181 ?_
                refine lv_iconst (v := (1 : Int32)) hx hb d_MD_readZone_184 (by decide) ?_
                refine lv_iadd hx hb d_MD_readZone_185 ?_
                obtain ⟨e0_186, he, hm⟩ := lz_s hm
                refine va_put (D := (dC, dI)) (ci := 10) (v := .int ((e0_178 16 0) + (1 : Int32))) (ty := .int) (C := "AlarmMatrixModel") (T := T_MD) (N := 42) hx hb hts i_MD t_MD o_MD n_MD hown hK hP hD hS 0 rfl rfl 16 (by decide) (hts _ k5_36) (fun _ h9 => h9) rfl (by decide +kernel) rfl rfl (Nat.le_of_ble_eq_true rfl) d_MD_readZone_186 (fun H locs hP hD hS => ?_)
                have hP : va_P (dC, dI) vwCl (wd_MD g h0 q0 e0_186) H := by rw [he]; exact hP
                have hD : va_D A (wd_MD g h0 q0 e0_186) := by rw [he]; exact hD
                refine lv_aload_n hx hb d_MD_readZone_189 rfl (lv_at hl 0 rfl) ?_
                refine lv_bipush (v := (59 : Int32)) hx hb d_MD_readZone_190 (by decide) ?_
                obtain ⟨r192, hcl, hm⟩ := bn1_s hm
                refine kci (wc := wd_MD g h0 q0 e0_186) (wr := ([] : va_W)) (w1 := wd_MD g h0 q0 e0_186) hP hD hS hA [0, 1, 2, 3, 4, 5, 6, 7, 8, 9, 10, 11, 12, 13, 14, 15, 16, 17, 18, 19, 20, 21, 22, 23, 24, 25, 26, 27, 28, 29, 30, 31] [] rfl rfl (by decide) (by decide) (va_runV (As := [.int (59 : Int32)]) (rest := []) ⟨hx, hb, hml, hown, hts⟩ (c_MD_isSign hG hGn l dC dI g F H.size h0 q0 e0_186 (59 : Int32) hcl) (cwV 1 hts (gdV k6_5 k6_7 kp_36 k1_10 k6_8) rfl rfl rfl (by decide +kernel) ⟨Nat.le_of_ble_eq_true rfl, Nat.le_of_ble_eq_true rfl⟩) (kpV hG hP hK hD hS hA hGA [0, 1, 2, 3, 4, 5, 6, 7, 8, 9, 10, 11, 12, 13, 14, 15, 16, 17, 18, 19, 20, 21, 22, 23, 24, 25, 26, 27, 28, 29, 30, 31] (by decide) rfl (ci := 10) (q0 := 0) rfl rfl rfl) rfl rfl hl.1 rfl (lv_room (Nat.le_of_ble_eq_true rfl)) d_MD_readZone_192 ⟨Nat.le_of_ble_eq_true rfl, Nat.le_of_ble_eq_true rfl⟩) (fun H locs hP hD hS => ?_)
                have hP : va_P (dC, dI) vwCl (wd_MD g h0 q0 e0_186) H := hP
                have hD : va_D A (wd_MD g h0 q0 e0_186) := hD
                refine lv_if_ne (tgt := 202) hx hb d_MD_readZone_195 (by decide) (fun hc => ?_) (fun hc => ?_)
                · replace hm := if_f hm hc
                  refine lv_iconst (v := (0 : Int32)) hx hb d_MD_readZone_202 (by decide) ?_
                  refine lv_istore (lv' := [(4, .int (0 : Int32)), (0, .ref h0), (1, .int (r4 + (20 : Int32))), (2, .int (z0_53 16 0)), (3, .int r65), (5, .int j5_145)]) hx hb d_MD_readZone_203 hl (by decide) rfl (fun ls hl => ?_)
                  refine lv_goto (tgt := 86) hx hb d_MD_readZone_205 (by decide) ?_
                  exact ih86 (0 : Int32) e0_186 H locs ls hm hP hD hS (lv_sub hl [1, 2, 3, 4, 0] rfl)
                · replace hm := if_t hm hc
                  refine lv_iconst (v := (1 : Int32)) hx hb d_MD_readZone_198 (by decide) ?_
                  refine lv_goto (tgt := 203) hx hb d_MD_readZone_199 (by decide) ?_
                  refine lv_istore (lv' := [(4, .int (1 : Int32)), (0, .ref h0), (1, .int (r4 + (20 : Int32))), (2, .int (z0_53 16 0)), (3, .int r65), (5, .int j5_145)]) hx hb d_MD_readZone_203 hl (by decide) rfl (fun ls hl => ?_)
                  refine lv_goto (tgt := 86) hx hb d_MD_readZone_205 (by decide) ?_
                  exact ih86 (1 : Int32) e0_186 H locs ls hm hP hD hS (lv_sub hl [1, 2, 3, 4, 0] rfl)
            refine lv_iload hx hb d_MD_readZone_86 (lv_at hl 4 rfl) ?_
            refine lv_if_eq (tgt := 208) hx hb d_MD_readZone_88 (by decide) (fun hc => ?_) (fun hc => ?_)
            · replace hm := if_t hm hc
              refine lv_aload_n hx hb d_MD_readZone_208 rfl (lv_at hl 0 rfl) ?_
              refine va_get (D := (dC, dI)) (ci := 10) (v := .int (y0_86 17 0)) (C := "AlarmMatrixModel") (T := T_MD) (N := 42) hx hb hts i_MD hown hK hP 0 rfl rfl 17 (by decide) (hts _ k5_37) (fun _ h9 => h9) rfl d_MD_readZone_209 ?_
              refine lv_if_ge (tgt := 258) hx hb d_MD_readZone_212 (by decide) (fun hc => ?_) (fun hc => ?_)
              · replace hm := if_t hm hc
                obtain rfl := Option.some.inj hm
                rw [hQ]
                exact krv hx hb hr hlocks hAe hP hK hD hS d_MD_readZone_258
              · replace hm := if_f hm hc
                refine lv_aload_n hx hb d_MD_readZone_215 rfl (lv_at hl 0 rfl) ?_
                refine lv_dup hx hb d_MD_readZone_216 rfl ?_
                refine va_get (D := (dC, dI)) (ci := 10) (v := .int (y0_86 16 0)) (C := "AlarmMatrixModel") (T := T_MD) (N := 42) hx hb hts i_MD hown hK hP 0 rfl rfl 16 (by decide) (hts _ k5_36) (fun _ h9 => h9) rfl d_MD_readZone_217 ?_
                refine lv_iconst (v := (1 : Int32)) hx hb d_MD_readZone_220 (by decide) ?_
                refine lv_iadd hx hb d_MD_readZone_221 ?_
                obtain ⟨e0_222, he, hm⟩ := lz_s hm
                refine va_put (D := (dC, dI)) (ci := 10) (v := .int ((y0_86 16 0) + (1 : Int32))) (ty := .int) (C := "AlarmMatrixModel") (T := T_MD) (N := 42) hx hb hts i_MD t_MD o_MD n_MD hown hK hP hD hS 0 rfl rfl 16 (by decide) (hts _ k5_36) (fun _ h9 => h9) rfl (by decide +kernel) rfl rfl (Nat.le_of_ble_eq_true rfl) d_MD_readZone_222 (fun H locs hP hD hS => ?_)
                have hP : va_P (dC, dI) vwCl (wd_MD g h0 q0 e0_222) H := by rw [he]; exact hP
                have hD : va_D A (wd_MD g h0 q0 e0_222) := by rw [he]; exact hD
                refine lv_aload_n hx hb d_MD_readZone_225 rfl (lv_at hl 0 rfl) ?_
                refine lv_iload_n hx hb d_MD_readZone_226 rfl (lv_at hl 3 rfl) ?_
                refine lv_aload_n hx hb d_MD_readZone_227 rfl (lv_at hl 0 rfl) ?_
                refine va_get (D := (dC, dI)) (ci := 10) (v := .ref (q0 20)) (C := "AlarmMatrixModel") (T := T_MD) (N := 42) hx hb hts i_MD hown hK hP 0 rfl rfl 20 (by decide) (hts _ k5_40) (fun _ h9 => h9) rfl d_MD_readZone_228 ?_
                refine lv_iload_n hx hb d_MD_readZone_231 rfl (lv_at hl 1 rfl) ?_
                obtain ⟨h_232, hm⟩ := ck_s hm
                refine va_iald (f := (e0_222 20)) hx hb hK hP 14 0 rfl rfl h_232 d_MD_readZone_232 ?_
                refine lv_icmp_le (tgt := 240) hx hb d_MD_readZone_233 (by decide) (fun hc => ?_) (fun hc => ?_)
                · replace hm := if_t hm hc
                  refine lv_iconst (v := (-1 : Int32)) hx hb d_MD_readZone_240 (by decide) ?_
                  obtain ⟨e0_241, he, hm⟩ := lz_s hm
                  refine va_put (D := (dC, dI)) (ci := 10) (v := .int (-1 : Int32)) (ty := .int) (C := "AlarmMatrixModel") (T := T_MD) (N := 42) hx hb hts i_MD t_MD o_MD n_MD hown hK hP hD hS 0 rfl rfl 17 (by decide) (hts _ k5_37) (fun _ h9 => h9) rfl (by decide +kernel) rfl rfl (Nat.le_of_ble_eq_true rfl) d_MD_readZone_241 (fun H locs hP hD hS => ?_)
                  have hP : va_P (dC, dI) vwCl (wd_MD g h0 q0 e0_241) H := by rw [he]; exact hP
                  have hD : va_D A (wd_MD g h0 q0 e0_241) := by rw [he]; exact hD
                  refine lv_aload_n hx hb d_MD_readZone_244 rfl (lv_at hl 0 rfl) ?_
                  refine va_get (D := (dC, dI)) (ci := 10) (v := .ref (q0 19)) (C := "AlarmMatrixModel") (T := T_MD) (N := 42) hx hb hts i_MD hown hK hP 0 rfl rfl 19 (by decide) (hts _ k5_39) (fun _ h9 => h9) rfl d_MD_readZone_245 ?_
                  refine lv_iload_n hx hb d_MD_readZone_248 rfl (lv_at hl 1 rfl) ?_
                  refine lv_iload_n hx hb d_MD_readZone_249 rfl (lv_at hl 3 rfl) ?_
                  obtain ⟨h_250, hm⟩ := ck_s hm
                  obtain ⟨e0_250, he, hm⟩ := lz_s hm
                  refine va_iast (f := (e0_241 19)) hx hb hK hP hD hS 13 0 rfl rfl h_250 d_MD_readZone_250 (fun H locs hP hD hS => ?_)
                  have hP : va_P (dC, dI) vwCl (wd_MD g h0 q0 e0_250) H := by rw [he]; exact hP
                  have hD : va_D A (wd_MD g h0 q0 e0_250) := by rw [he]; exact hD
                  refine lv_aload_n hx hb d_MD_readZone_251 rfl (lv_at hl 0 rfl) ?_
                  refine va_get (D := (dC, dI)) (ci := 10) (v := .ref (q0 18)) (C := "AlarmMatrixModel") (T := T_MD) (N := 42) hx hb hts i_MD hown hK hP 0 rfl rfl 18 (by decide) (hts _ k5_38) (fun _ h9 => h9) rfl d_MD_readZone_252 ?_
                  refine lv_iload_n hx hb d_MD_readZone_255 rfl (lv_at hl 1 rfl) ?_
                  refine lv_iconst (v := (1 : Int32)) hx hb d_MD_readZone_256 (by decide) ?_
                  obtain ⟨h_257, hm⟩ := ck_s hm
                  obtain ⟨e0_257, he, hm⟩ := lz_s hm
                  refine va_zast (f := (e0_250 18)) hx hb hK hP hD hS 12 1 rfl rfl h_257 d_MD_readZone_257 (fun H locs hP hD hS => ?_)
                  have hP : va_P (dC, dI) vwCl (wd_MD g h0 q0 e0_257) H := by rw [he]; exact hP
                  have hD : va_D A (wd_MD g h0 q0 e0_257) := by rw [he]; exact hD
                  obtain rfl := Option.some.inj hm
                  rw [hQ]
                  exact krv hx hb hr hlocks hAe hP hK hD hS d_MD_readZone_258
                · replace hm := if_f hm hc
                  refine lv_iload_n hx hb d_MD_readZone_236 rfl (lv_at hl 2 rfl) ?_
                  refine lv_goto (tgt := 241) hx hb d_MD_readZone_237 (by decide) ?_
                  obtain ⟨e0_241, he, hm⟩ := lz_s hm
                  refine va_put (D := (dC, dI)) (ci := 10) (v := .int (z0_53 16 0)) (ty := .int) (C := "AlarmMatrixModel") (T := T_MD) (N := 42) hx hb hts i_MD t_MD o_MD n_MD hown hK hP hD hS 0 rfl rfl 17 (by decide) (hts _ k5_37) (fun _ h9 => h9) rfl (by decide +kernel) rfl rfl (Nat.le_of_ble_eq_true rfl) d_MD_readZone_241 (fun H locs hP hD hS => ?_)
                  have hP : va_P (dC, dI) vwCl (wd_MD g h0 q0 e0_241) H := by rw [he]; exact hP
                  have hD : va_D A (wd_MD g h0 q0 e0_241) := by rw [he]; exact hD
                  refine lv_aload_n hx hb d_MD_readZone_244 rfl (lv_at hl 0 rfl) ?_
                  refine va_get (D := (dC, dI)) (ci := 10) (v := .ref (q0 19)) (C := "AlarmMatrixModel") (T := T_MD) (N := 42) hx hb hts i_MD hown hK hP 0 rfl rfl 19 (by decide) (hts _ k5_39) (fun _ h9 => h9) rfl d_MD_readZone_245 ?_
                  refine lv_iload_n hx hb d_MD_readZone_248 rfl (lv_at hl 1 rfl) ?_
                  refine lv_iload_n hx hb d_MD_readZone_249 rfl (lv_at hl 3 rfl) ?_
                  obtain ⟨h_250, hm⟩ := ck_s hm
                  obtain ⟨e0_250, he, hm⟩ := lz_s hm
                  refine va_iast (f := (e0_241 19)) hx hb hK hP hD hS 13 0 rfl rfl h_250 d_MD_readZone_250 (fun H locs hP hD hS => ?_)
                  have hP : va_P (dC, dI) vwCl (wd_MD g h0 q0 e0_250) H := by rw [he]; exact hP
                  have hD : va_D A (wd_MD g h0 q0 e0_250) := by rw [he]; exact hD
                  refine lv_aload_n hx hb d_MD_readZone_251 rfl (lv_at hl 0 rfl) ?_
                  refine va_get (D := (dC, dI)) (ci := 10) (v := .ref (q0 18)) (C := "AlarmMatrixModel") (T := T_MD) (N := 42) hx hb hts i_MD hown hK hP 0 rfl rfl 18 (by decide) (hts _ k5_38) (fun _ h9 => h9) rfl d_MD_readZone_252 ?_
                  refine lv_iload_n hx hb d_MD_readZone_255 rfl (lv_at hl 1 rfl) ?_
                  refine lv_iconst (v := (1 : Int32)) hx hb d_MD_readZone_256 (by decide) ?_
                  obtain ⟨h_257, hm⟩ := ck_s hm
                  obtain ⟨e0_257, he, hm⟩ := lz_s hm
                  refine va_zast (f := (e0_250 18)) hx hb hK hP hD hS 12 1 rfl rfl h_257 d_MD_readZone_257 (fun H locs hP hD hS => ?_)
                  have hP : va_P (dC, dI) vwCl (wd_MD g h0 q0 e0_257) H := by rw [he]; exact hP
                  have hD : va_D A (wd_MD g h0 q0 e0_257) := by rw [he]; exact hD
                  obtain rfl := Option.some.inj hm
                  rw [hQ]
                  exact krv hx hb hr hlocks hAe hP hK hD hS d_MD_readZone_258
            · replace hm := if_f hm hc
              refine lv_aload_n hx hb d_MD_readZone_91 rfl (lv_at hl 0 rfl) ?_
              refine va_get (D := (dC, dI)) (ci := 10) (v := .int (y0_86 17 0)) (C := "AlarmMatrixModel") (T := T_MD) (N := 42) hx hb hts i_MD hown hK hP 0 rfl rfl 17 (by decide) (hts _ k5_37) (fun _ h9 => h9) rfl d_MD_readZone_92 ?_
              refine lv_if_ge (tgt := 208) hx hb d_MD_readZone_95 (by decide) (fun hc => ?_) (fun hc => ?_)
              · replace hm := if_t hm hc
                refine lv_aload_n hx hb d_MD_readZone_208 rfl (lv_at hl 0 rfl) ?_
                refine va_get (D := (dC, dI)) (ci := 10) (v := .int (y0_86 17 0)) (C := "AlarmMatrixModel") (T := T_MD) (N := 42) hx hb hts i_MD hown hK hP 0 rfl rfl 17 (by decide) (hts _ k5_37) (fun _ h9 => h9) rfl d_MD_readZone_209 ?_
                refine lv_if_ge (tgt := 258) hx hb d_MD_readZone_212 (by decide) (fun hc => ?_) (fun hc => ?_)
                · replace hm := if_t hm hc
                  obtain rfl := Option.some.inj hm
                  rw [hQ]
                  exact krv hx hb hr hlocks hAe hP hK hD hS d_MD_readZone_258
                · replace hm := if_f hm hc
                  refine lv_aload_n hx hb d_MD_readZone_215 rfl (lv_at hl 0 rfl) ?_
                  refine lv_dup hx hb d_MD_readZone_216 rfl ?_
                  refine va_get (D := (dC, dI)) (ci := 10) (v := .int (y0_86 16 0)) (C := "AlarmMatrixModel") (T := T_MD) (N := 42) hx hb hts i_MD hown hK hP 0 rfl rfl 16 (by decide) (hts _ k5_36) (fun _ h9 => h9) rfl d_MD_readZone_217 ?_
                  refine lv_iconst (v := (1 : Int32)) hx hb d_MD_readZone_220 (by decide) ?_
                  refine lv_iadd hx hb d_MD_readZone_221 ?_
                  obtain ⟨e0_222, he, hm⟩ := lz_s hm
                  refine va_put (D := (dC, dI)) (ci := 10) (v := .int ((y0_86 16 0) + (1 : Int32))) (ty := .int) (C := "AlarmMatrixModel") (T := T_MD) (N := 42) hx hb hts i_MD t_MD o_MD n_MD hown hK hP hD hS 0 rfl rfl 16 (by decide) (hts _ k5_36) (fun _ h9 => h9) rfl (by decide +kernel) rfl rfl (Nat.le_of_ble_eq_true rfl) d_MD_readZone_222 (fun H locs hP hD hS => ?_)
                  have hP : va_P (dC, dI) vwCl (wd_MD g h0 q0 e0_222) H := by rw [he]; exact hP
                  have hD : va_D A (wd_MD g h0 q0 e0_222) := by rw [he]; exact hD
                  refine lv_aload_n hx hb d_MD_readZone_225 rfl (lv_at hl 0 rfl) ?_
                  refine lv_iload_n hx hb d_MD_readZone_226 rfl (lv_at hl 3 rfl) ?_
                  refine lv_aload_n hx hb d_MD_readZone_227 rfl (lv_at hl 0 rfl) ?_
                  refine va_get (D := (dC, dI)) (ci := 10) (v := .ref (q0 20)) (C := "AlarmMatrixModel") (T := T_MD) (N := 42) hx hb hts i_MD hown hK hP 0 rfl rfl 20 (by decide) (hts _ k5_40) (fun _ h9 => h9) rfl d_MD_readZone_228 ?_
                  refine lv_iload_n hx hb d_MD_readZone_231 rfl (lv_at hl 1 rfl) ?_
                  obtain ⟨h_232, hm⟩ := ck_s hm
                  refine va_iald (f := (e0_222 20)) hx hb hK hP 14 0 rfl rfl h_232 d_MD_readZone_232 ?_
                  refine lv_icmp_le (tgt := 240) hx hb d_MD_readZone_233 (by decide) (fun hc => ?_) (fun hc => ?_)
                  · replace hm := if_t hm hc
                    refine lv_iconst (v := (-1 : Int32)) hx hb d_MD_readZone_240 (by decide) ?_
                    obtain ⟨e0_241, he, hm⟩ := lz_s hm
                    refine va_put (D := (dC, dI)) (ci := 10) (v := .int (-1 : Int32)) (ty := .int) (C := "AlarmMatrixModel") (T := T_MD) (N := 42) hx hb hts i_MD t_MD o_MD n_MD hown hK hP hD hS 0 rfl rfl 17 (by decide) (hts _ k5_37) (fun _ h9 => h9) rfl (by decide +kernel) rfl rfl (Nat.le_of_ble_eq_true rfl) d_MD_readZone_241 (fun H locs hP hD hS => ?_)
                    have hP : va_P (dC, dI) vwCl (wd_MD g h0 q0 e0_241) H := by rw [he]; exact hP
                    have hD : va_D A (wd_MD g h0 q0 e0_241) := by rw [he]; exact hD
                    refine lv_aload_n hx hb d_MD_readZone_244 rfl (lv_at hl 0 rfl) ?_
                    refine va_get (D := (dC, dI)) (ci := 10) (v := .ref (q0 19)) (C := "AlarmMatrixModel") (T := T_MD) (N := 42) hx hb hts i_MD hown hK hP 0 rfl rfl 19 (by decide) (hts _ k5_39) (fun _ h9 => h9) rfl d_MD_readZone_245 ?_
                    refine lv_iload_n hx hb d_MD_readZone_248 rfl (lv_at hl 1 rfl) ?_
                    refine lv_iload_n hx hb d_MD_readZone_249 rfl (lv_at hl 3 rfl) ?_
                    obtain ⟨h_250, hm⟩ := ck_s hm
                    obtain ⟨e0_250, he, hm⟩ := lz_s hm
                    refine va_iast (f := (e0_241 19)) hx hb hK hP hD hS 13 0 rfl rfl h_250 d_MD_readZone_250 (fun H locs hP hD hS => ?_)
                    have hP : va_P (dC, dI) vwCl (wd_MD g h0 q0 e0_250) H := by rw [he]; exact hP
                    have hD : va_D A (wd_MD g h0 q0 e0_250) := by rw [he]; exact hD
                    refine lv_aload_n hx hb d_MD_readZone_251 rfl (lv_at hl 0 rfl) ?_
                    refine va_get (D := (dC, dI)) (ci := 10) (v := .ref (q0 18)) (C := "AlarmMatrixModel") (T := T_MD) (N := 42) hx hb hts i_MD hown hK hP 0 rfl rfl 18 (by decide) (hts _ k5_38) (fun _ h9 => h9) rfl d_MD_readZone_252 ?_
                    refine lv_iload_n hx hb d_MD_readZone_255 rfl (lv_at hl 1 rfl) ?_
                    refine lv_iconst (v := (1 : Int32)) hx hb d_MD_readZone_256 (by decide) ?_
                    obtain ⟨h_257, hm⟩ := ck_s hm
                    obtain ⟨e0_257, he, hm⟩ := lz_s hm
                    refine va_zast (f := (e0_250 18)) hx hb hK hP hD hS 12 1 rfl rfl h_257 d_MD_readZone_257 (fun H locs hP hD hS => ?_)
                    have hP : va_P (dC, dI) vwCl (wd_MD g h0 q0 e0_257) H := by rw [he]; exact hP
                    have hD : va_D A (wd_MD g h0 q0 e0_257) := by rw [he]; exact hD
                    obtain rfl := Option.some.inj hm
                    rw [hQ]
                    exact krv hx hb hr hlocks hAe hP hK hD hS d_MD_readZone_258
                  · replace hm := if_f hm hc
                    refine lv_iload_n hx hb d_MD_readZone_236 rfl (lv_at hl 2 rfl) ?_
                    refine lv_goto (tgt := 241) hx hb d_MD_readZone_237 (by decide) ?_
                    obtain ⟨e0_241, he, hm⟩ := lz_s hm
                    refine va_put (D := (dC, dI)) (ci := 10) (v := .int (z0_53 16 0)) (ty := .int) (C := "AlarmMatrixModel") (T := T_MD) (N := 42) hx hb hts i_MD t_MD o_MD n_MD hown hK hP hD hS 0 rfl rfl 17 (by decide) (hts _ k5_37) (fun _ h9 => h9) rfl (by decide +kernel) rfl rfl (Nat.le_of_ble_eq_true rfl) d_MD_readZone_241 (fun H locs hP hD hS => ?_)
                    have hP : va_P (dC, dI) vwCl (wd_MD g h0 q0 e0_241) H := by rw [he]; exact hP
                    have hD : va_D A (wd_MD g h0 q0 e0_241) := by rw [he]; exact hD
                    refine lv_aload_n hx hb d_MD_readZone_244 rfl (lv_at hl 0 rfl) ?_
                    refine va_get (D := (dC, dI)) (ci := 10) (v := .ref (q0 19)) (C := "AlarmMatrixModel") (T := T_MD) (N := 42) hx hb hts i_MD hown hK hP 0 rfl rfl 19 (by decide) (hts _ k5_39) (fun _ h9 => h9) rfl d_MD_readZone_245 ?_
                    refine lv_iload_n hx hb d_MD_readZone_248 rfl (lv_at hl 1 rfl) ?_
                    refine lv_iload_n hx hb d_MD_readZone_249 rfl (lv_at hl 3 rfl) ?_
                    obtain ⟨h_250, hm⟩ := ck_s hm
                    obtain ⟨e0_250, he, hm⟩ := lz_s hm
                    refine va_iast (f := (e0_241 19)) hx hb hK hP hD hS 13 0 rfl rfl h_250 d_MD_readZone_250 (fun H locs hP hD hS => ?_)
                    have hP : va_P (dC, dI) vwCl (wd_MD g h0 q0 e0_250) H := by rw [he]; exact hP
                    have hD : va_D A (wd_MD g h0 q0 e0_250) := by rw [he]; exact hD
                    refine lv_aload_n hx hb d_MD_readZone_251 rfl (lv_at hl 0 rfl) ?_
                    refine va_get (D := (dC, dI)) (ci := 10) (v := .ref (q0 18)) (C := "AlarmMatrixModel") (T := T_MD) (N := 42) hx hb hts i_MD hown hK hP 0 rfl rfl 18 (by decide) (hts _ k5_38) (fun _ h9 => h9) rfl d_MD_readZone_252 ?_
                    refine lv_iload_n hx hb d_MD_readZone_255 rfl (lv_at hl 1 rfl) ?_
                    refine lv_iconst (v := (1 : Int32)) hx hb d_MD_readZone_256 (by decide) ?_
                    obtain ⟨h_257, hm⟩ := ck_s hm
                    obtain ⟨e0_257, he, hm⟩ := lz_s hm
                    refine va_zast (f := (e0_250 18)) hx hb hK hP hD hS 12 1 rfl rfl h_257 d_MD_readZone_257 (fun H locs hP hD hS => ?_)
                    have hP : va_P (dC, dI) vwCl (wd_MD g h0 q0 e0_257) H := by rw [he]; exact hP
                    have hD : va_D A (wd_MD g h0 q0 e0_257) := by rw [he]; exact hD
                    obtain rfl := Option.some.inj hm
                    rw [hQ]
                    exact krv hx hb hr hlocks hAe hP hK hD hS d_MD_readZone_258
              · replace hm := if_f hm hc
                refine lv_aload_n hx hb d_MD_readZone_98 rfl (lv_at hl 0 rfl) ?_
                refine lv_iconst (v := (0 : Int32)) hx hb d_MD_readZone_99 (by decide) ?_
                refine lv_aload_n hx hb d_MD_readZone_100 rfl (lv_at hl 0 rfl) ?_
                refine va_get (D := (dC, dI)) (ci := 10) (v := .int (y0_86 1 0)) (C := "AlarmMatrixModel") (T := T_MD) (N := 42) hx hb hts i_MD hown hK hP 0 rfl rfl 1 (by decide) (hts _ k5_21) (fun _ h9 => h9) rfl d_MD_readZone_101 ?_
                refine lv_iconst (v := (1 : Int32)) hx hb d_MD_readZone_104 (by decide) ?_
                refine lv_isub hx hb d_MD_readZone_105 ?_
                obtain ⟨r106, z0_106, hcl, hm⟩ := bn2_s hm
                refine kci (wc := wd_MD g h0 q0 y0_86) (wr := ([] : va_W)) (w1 := wd_MD g h0 q0 z0_106) hP hD hS hA [0, 1, 2, 3, 4, 5, 6, 7, 8, 9, 10, 11, 12, 13, 14, 15, 16, 17, 18, 19, 20, 21, 22, 23, 24, 25, 26, 27, 28, 29, 30, 31] [] rfl rfl (by decide) (by decide) (va_runV (As := [.int (0 : Int32), .int ((y0_86 1 0) - (1 : Int32))]) (rest := []) ⟨hx, hb, hml, hown, hts⟩ (c_MD_look hG hGn l dC dI g F H.size h0 q0 y0_86 (0 : Int32) ((y0_86 1 0) - (1 : Int32)) hcl) (cwV 2 hts (gdV k5_225 k5_227 kp_31 k1_10 k5_228) rfl rfl rfl (by decide +kernel) ⟨Nat.le_of_ble_eq_true rfl, Nat.le_of_ble_eq_true rfl⟩) (kpV hG hP hK hD hS hA hGA [0, 1, 2, 3, 4, 5, 6, 7, 8, 9, 10, 11, 12, 13, 14, 15, 16, 17, 18, 19, 20, 21, 22, 23, 24, 25, 26, 27, 28, 29, 30, 31] (by decide) rfl (ci := 10) (q0 := 0) rfl rfl rfl) rfl rfl hl.1 rfl (lv_room (Nat.le_of_ble_eq_true rfl)) d_MD_readZone_106 ⟨Nat.le_of_ble_eq_true rfl, Nat.le_of_ble_eq_true rfl⟩) (fun H locs hP hD hS => ?_)
                have hP : va_P (dC, dI) vwCl (wd_MD g h0 q0 z0_106) H := hP
                have hD : va_D A (wd_MD g h0 q0 z0_106) := hD
                refine lv_istore (lv' := [(5, .int r106), (0, .ref h0), (1, .int (r4 + (20 : Int32))), (2, .int (z0_53 16 0)), (3, .int r65), (4, .int v4_86)]) hx hb d_MD_readZone_109 hl (by decide) rfl (fun ls hl => ?_)
                refine lv_aload_n hx hb d_MD_readZone_111 rfl (lv_at hl 1 rfl) ?_
                refine va_get (D := (dC, dI)) (ci := 10) (v := .int (z0_106 17 0)) (C := "AlarmMatrixModel") (T := T_MD) (N := 42) hx hb hts i_MD hown hK hP 0 rfl rfl 17 (by decide) (hts _ k5_37) (fun _ h9 => h9) rfl d_MD_readZone_112 ?_
                refine lv_if_ge (tgt := 189) hx hb d_MD_readZone_115 (by decide) (fun hc => ?_) (fun hc => ?_)
                · replace hm := if_t hm hc
                  refine lv_aload_n hx hb d_MD_readZone_189 rfl (lv_at hl 1 rfl) ?_
                  refine lv_bipush (v := (59 : Int32)) hx hb d_MD_readZone_190 (by decide) ?_
                  obtain ⟨r192, hcl, hm⟩ := bn1_s hm
                  refine kci (wc := wd_MD g h0 q0 z0_106) (wr := ([] : va_W)) (w1 := wd_MD g h0 q0 z0_106) hP hD hS hA [0, 1, 2, 3, 4, 5, 6, 7, 8, 9, 10, 11, 12, 13, 14, 15, 16, 17, 18, 19, 20, 21, 22, 23, 24, 25, 26, 27, 28, 29, 30, 31] [] rfl rfl (by decide) (by decide) (va_runV (As := [.int (59 : Int32)]) (rest := []) ⟨hx, hb, hml, hown, hts⟩ (c_MD_isSign hG hGn l dC dI g F H.size h0 q0 z0_106 (59 : Int32) hcl) (cwV 1 hts (gdV k6_5 k6_7 kp_36 k1_10 k6_8) rfl rfl rfl (by decide +kernel) ⟨Nat.le_of_ble_eq_true rfl, Nat.le_of_ble_eq_true rfl⟩) (kpV hG hP hK hD hS hA hGA [0, 1, 2, 3, 4, 5, 6, 7, 8, 9, 10, 11, 12, 13, 14, 15, 16, 17, 18, 19, 20, 21, 22, 23, 24, 25, 26, 27, 28, 29, 30, 31] (by decide) rfl (ci := 10) (q0 := 0) rfl rfl rfl) rfl rfl hl.1 rfl (lv_room (Nat.le_of_ble_eq_true rfl)) d_MD_readZone_192 ⟨Nat.le_of_ble_eq_true rfl, Nat.le_of_ble_eq_true rfl⟩) (fun H locs hP hD hS => ?_)
                  have hP : va_P (dC, dI) vwCl (wd_MD g h0 q0 z0_106) H := hP
                  have hD : va_D A (wd_MD g h0 q0 z0_106) := hD
                  refine lv_if_ne (tgt := 202) hx hb d_MD_readZone_195 (by decide) (fun hc => ?_) (fun hc => ?_)
                  · replace hm := if_f hm hc
                    refine lv_iconst (v := (0 : Int32)) hx hb d_MD_readZone_202 (by decide) ?_
                    refine lv_istore (lv' := [(4, .int (0 : Int32)), (5, .int r106), (0, .ref h0), (1, .int (r4 + (20 : Int32))), (2, .int (z0_53 16 0)), (3, .int r65)]) hx hb d_MD_readZone_203 hl (by decide) rfl (fun ls hl => ?_)
                    refine lv_goto (tgt := 86) hx hb d_MD_readZone_205 (by decide) ?_
                    exact ih86 (0 : Int32) z0_106 H locs ls hm hP hD hS (lv_sub hl [2, 3, 4, 5, 0] rfl)
                  · replace hm := if_t hm hc
                    refine lv_iconst (v := (1 : Int32)) hx hb d_MD_readZone_198 (by decide) ?_
                    refine lv_goto (tgt := 203) hx hb d_MD_readZone_199 (by decide) ?_
                    refine lv_istore (lv' := [(4, .int (1 : Int32)), (5, .int r106), (0, .ref h0), (1, .int (r4 + (20 : Int32))), (2, .int (z0_53 16 0)), (3, .int r65)]) hx hb d_MD_readZone_203 hl (by decide) rfl (fun ls hl => ?_)
                    refine lv_goto (tgt := 86) hx hb d_MD_readZone_205 (by decide) ?_
                    exact ih86 (1 : Int32) z0_106 H locs ls hm hP hD hS (lv_sub hl [2, 3, 4, 5, 0] rfl)
                · replace hm := if_f hm hc
                  refine lv_aload_n hx hb d_MD_readZone_118 rfl (lv_at hl 1 rfl) ?_
                  refine lv_aload_n hx hb d_MD_readZone_119 rfl (lv_at hl 1 rfl) ?_
                  refine va_get (D := (dC, dI)) (ci := 10) (v := .ref (q0 20)) (C := "AlarmMatrixModel") (T := T_MD) (N := 42) hx hb hts i_MD hown hK hP 0 rfl rfl 20 (by decide) (hts _ k5_40) (fun _ h9 => h9) rfl d_MD_readZone_120 ?_
                  refine lv_iload_n hx hb d_MD_readZone_123 rfl (lv_at hl 2 rfl) ?_
                  obtain ⟨h_124, hm⟩ := ck_s hm
                  refine va_iald (f := (z0_106 20)) hx hb hK hP 14 0 rfl rfl h_124 d_MD_readZone_124 ?_
                  refine lv_bipush (v := (12 : Int32)) hx hb d_MD_readZone_125 (by decide) ?_
                  refine lv_icmp_ge (tgt := 144) hx hb d_MD_readZone_127 (by decide) (fun hc => ?_) (fun hc => ?_)
                  · replace hm := if_t hm hc
                    refine lv_iconst (v := (0 : Int32)) hx hb d_MD_readZone_144 (by decide) ?_
                    exact J145 v4_86 r106 (0 : Int32) z0_106 H locs ls hm hP hD hS (lv_sub hl [1, 2, 3, 4, 5, 0] rfl)
                  · replace hm := if_f hm hc
                    refine lv_aload_n hx hb d_MD_readZone_130 rfl (lv_at hl 1 rfl) ?_
                    refine lv_iload_n hx hb d_MD_readZone_131 rfl (lv_at hl 2 rfl) ?_
                    refine lv_iload hx hb d_MD_readZone_132 (lv_at hl 0 rfl) ?_
                    obtain ⟨r134, hcl, hm⟩ := bn1_s hm
                    refine kci (wc := wd_MD g h0 q0 z0_106) (wr := ([] : va_W)) (w1 := wd_MD g h0 q0 z0_106) hP hD hS hA [0, 1, 2, 3, 4, 5, 6, 7, 8, 9, 10, 11, 12, 13, 14, 15, 16, 17, 18, 19, 20, 21, 22, 23, 24, 25, 26, 27, 28, 29, 30, 31] [] rfl rfl (by decide) (by decide) (va_runV (As := [.int (r4 + (20 : Int32)), .int r106]) (rest := [.ref h0]) ⟨hx, hb, hml, hown, hts⟩ (c_MD_has hG hGn l dC dI g F H.size h0 q0 z0_106 (r4 + (20 : Int32)) r106 hcl) (cwV 2 hts (gdV k6_1 k6_3 kp_35 k1_10 k6_4) rfl rfl rfl (by decide +kernel) ⟨Nat.le_of_ble_eq_true rfl, Nat.le_of_ble_eq_true rfl⟩) (kpV hG hP hK hD hS hA hGA [0, 1, 2, 3, 4, 5, 6, 7, 8, 9, 10, 11, 12, 13, 14, 15, 16, 17, 18, 19, 20, 21, 22, 23, 24, 25, 26, 27, 28, 29, 30, 31] (by decide) rfl (ci := 10) (q0 := 0) rfl rfl rfl) rfl rfl hl.1 rfl (lv_room (Nat.le_of_ble_eq_true rfl)) d_MD_readZone_134 ⟨Nat.le_of_ble_eq_true rfl, Nat.le_of_ble_eq_true rfl⟩) (fun H locs hP hD hS => ?_)
                    have hP : va_P (dC, dI) vwCl (wd_MD g h0 q0 z0_106) H := hP
                    have hD : va_D A (wd_MD g h0 q0 z0_106) := hD
                    refine lv_if_ne (tgt := 144) hx hb d_MD_readZone_137 (by decide) (fun hc => ?_) (fun hc => ?_)
                    · replace hm := if_f hm hc
                      refine lv_iconst (v := (0 : Int32)) hx hb d_MD_readZone_144 (by decide) ?_
                      exact J145 v4_86 r106 (0 : Int32) z0_106 H locs ls hm hP hD hS (lv_sub hl [1, 2, 3, 4, 5, 0] rfl)
                    · replace hm := if_t hm hc
                      refine lv_iconst (v := (1 : Int32)) hx hb d_MD_readZone_140 (by decide) ?_
                      refine lv_goto (tgt := 145) hx hb d_MD_readZone_141 (by decide) ?_
                      exact J145 v4_86 r106 (1 : Int32) z0_106 H locs ls hm hP hD hS (lv_sub hl [1, 2, 3, 4, 5, 0] rfl)
        exact L86 F (1 : Int32) e0_82 H locs ls hm hP hD hS (lv_sub hl [4, 3, 2, 1, 0] rfl)
      · replace hm := if_t hm hc
        obtain rfl := Option.some.inj hm
        rw [hQ]
        exact krv hx hb hr hlocks hAe hP hK hD hS d_MD_readZone_39

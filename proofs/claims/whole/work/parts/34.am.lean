abbrev wd_LA (g : Nat → ClassId) (a : Nat) (ql : Nat → Nat) : va_W := [(a, .inl (g 3, 8, .inr (.inr (.inr (.inr (fun j => some (ql j)))))))]
def lq6 {A B C D E K R : Type} (f : (A → B → C → D → E → K → Option R) → A → B → C → D → E → K → Option R) : Nat → A → B → C → D → E → K → Option R
  | 0 => fun _ _ _ _ _ _ => none
  | n + 1 => f (lq6 f n)
theorem lq6_h {A B C D E K R : Type} {f : (A → B → C → D → E → K → Option R) → A → B → C → D → E → K → Option R} {n : Nat} {a : A} {b : B} {c : C} {d : D} {e : E} {k : K} {o : R} (h : lq6 f (n + 1) a b c d e k = some o) : f (lq6 f n) a b c d e k = some o := h
abbrev b_AM_unit : ByteArray := prog_1_method_2_code
abbrev y_AM_unit : MethodName := ⟨"AlarmMatrix", "unit", "(I)I"⟩
theorem d_AM_unit_0 : decode b_AM_unit 0 = .ok (.iload_n 1, 1) := by decide +kernel
theorem d_AM_unit_1 : decode b_AM_unit 1 = .ok (.iconst 0, 1) := by decide +kernel
theorem d_AM_unit_2 : decode b_AM_unit 2 = .ok (.bipush 127, 2) := by decide +kernel
theorem d_AM_unit_4 : decode b_AM_unit 4 = .ok (.invokestatic 62, 3) := by decide +kernel
theorem d_AM_unit_7 : decode b_AM_unit 7 = .ok (.ifCond .ne 13, 3) := by decide +kernel
theorem d_AM_unit_10 : decode b_AM_unit 10 = .ok (.new 66, 3) := by decide +kernel
theorem d_AM_unit_13 : decode b_AM_unit 13 = .ok (.dup, 1) := by decide +kernel
theorem d_AM_unit_14 : decode b_AM_unit 14 = .ok (.ldc 68, 2) := by decide +kernel
theorem d_AM_unit_16 : decode b_AM_unit 16 = .ok (.invokespecial 70, 3) := by decide +kernel
theorem d_AM_unit_19 : decode b_AM_unit 19 = .ok (.athrow, 1) := by decide +kernel
theorem d_AM_unit_20 : decode b_AM_unit 20 = .ok (.aload_n 0, 1) := by decide +kernel
theorem d_AM_unit_21 : decode b_AM_unit 21 = .ok (.getfield 10, 3) := by decide +kernel
theorem d_AM_unit_24 : decode b_AM_unit 24 = .ok (.invokevirtual 73, 3) := by decide +kernel
theorem d_AM_unit_27 : decode b_AM_unit 27 = .ok (.sipush 2000, 3) := by decide +kernel
theorem d_AM_unit_30 : decode b_AM_unit 30 = .ok (.if_icmp .lt 13, 3) := by decide +kernel
theorem d_AM_unit_33 : decode b_AM_unit 33 = .ok (.new 77, 3) := by decide +kernel
theorem d_AM_unit_36 : decode b_AM_unit 36 = .ok (.dup, 1) := by decide +kernel
theorem d_AM_unit_37 : decode b_AM_unit 37 = .ok (.ldc 79, 2) := by decide +kernel
theorem d_AM_unit_39 : decode b_AM_unit 39 = .ok (.invokespecial 81, 3) := by decide +kernel
theorem d_AM_unit_42 : decode b_AM_unit 42 = .ok (.athrow, 1) := by decide +kernel
theorem d_AM_unit_43 : decode b_AM_unit 43 = .ok (.aload_n 0, 1) := by decide +kernel
theorem d_AM_unit_44 : decode b_AM_unit 44 = .ok (.getfield 10, 3) := by decide +kernel
theorem d_AM_unit_47 : decode b_AM_unit 47 = .ok (.iload_n 1, 1) := by decide +kernel
theorem d_AM_unit_48 : decode b_AM_unit 48 = .ok (.i2c, 1) := by decide +kernel
theorem d_AM_unit_49 : decode b_AM_unit 49 = .ok (.invokevirtual 82, 3) := by decide +kernel
theorem d_AM_unit_52 : decode b_AM_unit 52 = .ok (.aload_n 0, 1) := by decide +kernel
theorem d_AM_unit_53 : decode b_AM_unit 53 = .ok (.getfield 10, 3) := by decide +kernel
theorem d_AM_unit_56 : decode b_AM_unit 56 = .ok (.invokevirtual 73, 3) := by decide +kernel
theorem d_AM_unit_59 : decode b_AM_unit 59 = .ok (.ireturn, 1) := by decide +kernel
def m_AM_unit (F : Nat) (x0 : St) (x1 : St) (a1 : Int32) : Option (Nat × Int32 × St) :=
  (bn1 (m_AM_isWithin F a1 (0 : Int32) (127 : Int32)) (fun r4 => (if r4 = (0 : Int32) then (some (1, (0 : Int32), x1)) else (bn1 (m_Text_size F x1) (fun r24 => (if r24 < (2000 : Int32) then (bn1 (m_Text_put F x1 ((a1.toUInt32 % 65536).toInt32)) (fun z1_49 => (bn1 (m_Text_size F z1_49) (fun r56 => (some (0, r56, z1_49)))))) else (some (2, (0 : Int32), x1))))))))
abbrev rm_AM_unit : Room := { frames := 6, cells := 1, slots := 6, locals := 90 }
set_option maxHeartbeats 4000000 in
set_option maxRecDepth 100000 in
theorem c_AM_unit {G : (Nat → Prop) → State → Prop} (hG : gok G) (hGn : gN G) {adK adV : Nat → Nat} (hGs : gSt adK adV G) (hGt : gTh G) (l : Launch) (hst : l.stackTraces = false) (dC : Nat → ClassId) (dI : Nat → Nat → Nat) (g : Nat → ClassId) (F : Nat) (sz : Nat) (h0 : Nat) (q0 : Nat → Nat) (x0 : St) (q1 : Nat → Nat) (x1 : St) (a1 : Int32) {o : Nat × Int32 × St} (hm : m_AM_unit F x0 x1 a1 = some o) : kT l y_AM_unit (.code y_AM_unit b_AM_unit 2 (some .int) :: gw) rm_AM_unit (dC, dI) vwCl (tyv g) G [.ref h0, .int a1] (wd_AM g h0 q0 x0 ++ wd_Text g (q0 0) q1 x1) o.1 o.2.1 (wd_AM g h0 q0 x0 ++ wd_Text g (q0 0) q1 (o.2.2)) 1 6 sz := by
  unfold m_AM_unit at hm
  refine kmT (cc := b_AM_unit) (maxL := 2) (ret := (some .int)) (by decide) rfl (Nat.le_of_ble_eq_true rfl) ?_
  intro p e s m args below meth c Q hQ hx hb hr hts hown hlocks hml htab H locs A hAe hA hP hK hD hS hGA ls hl
  have hl : lv_has ls 2 [(0, .ref h0), (1, .int a1)] := hl
  have hts : ∀ w ∈ gw, w.before args s = true := fun w h => hts w (List.mem_cons_of_mem _ h)
  have hown : s.vm.findClass "AlarmMatrix" = some m.cls := hown
  refine lv_iload_n hx hb d_AM_unit_0 rfl (lv_at hl 1 rfl) ?_
  refine lv_iconst (v := (0 : Int32)) hx hb d_AM_unit_1 (by decide) ?_
  refine lv_bipush (v := (127 : Int32)) hx hb d_AM_unit_2 (by decide) ?_
  obtain ⟨r4, hcl, hm⟩ := bn1_s hm
  refine kci (wc := ([] : va_W)) (wr := wd_AM g h0 q0 x0 ++ wd_Text g (q0 0) q1 x1) (w1 := ([] : va_W)) hP hD hS hA [] [0, 1, 2, 3] rfl rfl (by decide) (by decide) (va_runS (As := [.int a1, .int (0 : Int32), .int (127 : Int32)]) (rest := []) ⟨hx, hb, hml, hown, hts⟩ (c_AM_isWithin hG hGn l dC dI g F H.size a1 (0 : Int32) (127 : Int32) hcl) (cwS 3 hts (gdS k3_101 k2_153 k1_1 k2_154) rfl rfl rfl (by decide +kernel) ⟨Nat.le_of_ble_eq_true rfl, Nat.le_of_ble_eq_true rfl⟩) (kpS hG hP hK hD hS hA hGA [] (by decide) rfl) rfl rfl hl.1 rfl (lv_room (Nat.le_of_ble_eq_true rfl)) d_AM_unit_4 ⟨Nat.le_of_ble_eq_true rfl, Nat.le_of_ble_eq_true rfl⟩) (fun H locs hP hD hS => ?_)
  have hP : va_P (dC, dI) vwCl (wd_AM g h0 q0 x0 ++ wd_Text g (q0 0) q1 x1) H := hP
  have hD : va_D A (wd_AM g h0 q0 x0 ++ wd_Text g (q0 0) q1 x1) := hD
  refine lv_if_ne (tgt := 20) hx hb d_AM_unit_7 (by decide) (fun hc => ?_) (fun hc => ?_)
  · replace hm := if_f hm hc
    refine lv_aload_n hx hb d_AM_unit_20 rfl (lv_at hl 0 rfl) ?_
    refine va_get (D := (dC, dI)) (ci := 0) (v := .ref (q0 0)) (C := "AlarmMatrix") (T := T_AM) (N := 7) hx hb hts i_AM hown hK hP 0 rfl rfl 0 (by decide) (hts _ k1_219) (fun _ h9 => h9) rfl d_AM_unit_21 ?_
    obtain ⟨r24, hcl, hm⟩ := bn1_s hm
    refine kci (wc := wd_Text g (q0 0) q1 x1) (wr := wd_AM g h0 q0 x0) (w1 := wd_Text g (q0 0) q1 x1) hP hD hS hA [1, 2, 3] [0] rfl rfl (by decide) (by decide) (va_runV (As := []) (rest := []) ⟨hx, hb, hml, hown, hts⟩ (c_Text_size hG hGn l dC dI g F H.size (q0 0) q1 x1 hcl) (cwV 0 hts (gdV k3_168 k2_68 k2_69 k1_2 k2_70) rfl rfl rfl (by decide +kernel) ⟨Nat.le_of_ble_eq_true rfl, Nat.le_of_ble_eq_true rfl⟩) (kpV hG hP hK hD hS hA hGA [1, 2, 3] (by decide) rfl (ci := 1) (q0 := 0) rfl rfl rfl) rfl rfl hl.1 rfl (lv_room (Nat.le_of_ble_eq_true rfl)) d_AM_unit_24 ⟨Nat.le_of_ble_eq_true rfl, Nat.le_of_ble_eq_true rfl⟩) (fun H locs hP hD hS => ?_)
    have hP : va_P (dC, dI) vwCl (wd_AM g h0 q0 x0 ++ wd_Text g (q0 0) q1 x1) H := hP
    have hD : va_D A (wd_AM g h0 q0 x0 ++ wd_Text g (q0 0) q1 x1) := hD
    refine lv_sipush (v := (2000 : Int32)) hx hb d_AM_unit_27 (by decide) ?_
    refine lv_icmp_lt (tgt := 43) hx hb d_AM_unit_30 (by decide) (fun hc => ?_) (fun hc => ?_)
    · replace hm := if_t hm hc
      refine lv_aload_n hx hb d_AM_unit_43 rfl (lv_at hl 0 rfl) ?_
      refine va_get (D := (dC, dI)) (ci := 0) (v := .ref (q0 0)) (C := "AlarmMatrix") (T := T_AM) (N := 7) hx hb hts i_AM hown hK hP 0 rfl rfl 0 (by decide) (hts _ k1_219) (fun _ h9 => h9) rfl d_AM_unit_44 ?_
      refine lv_iload_n hx hb d_AM_unit_47 rfl (lv_at hl 1 rfl) ?_
      refine lv_i2c (v := (a1.toUInt32 % 65536).toInt32) hx hb d_AM_unit_48 rfl ?_
      obtain ⟨z1_49, hcl, hm⟩ := bn1_s hm
      refine kcv (wc := wd_Text g (q0 0) q1 x1) (wr := wd_AM g h0 q0 x0) (w1 := wd_Text g (q0 0) q1 z1_49) hP hD hS hA [1, 2, 3] [0] rfl rfl (by decide) (by decide) (va_runV (As := [.int ((a1.toUInt32 % 65536).toInt32)]) (rest := []) ⟨hx, hb, hml, hown, hts⟩ (c_Text_put hG hGn l dC dI g F H.size (q0 0) q1 x1 ((a1.toUInt32 % 65536).toInt32) hcl) (cwV 1 hts (gdV k3_185 k3_186 k3_187 k1_2 k3_188) rfl rfl rfl (by decide +kernel) ⟨Nat.le_of_ble_eq_true rfl, Nat.le_of_ble_eq_true rfl⟩) (kpV hG hP hK hD hS hA hGA [1, 2, 3] (by decide) rfl (ci := 1) (q0 := 0) rfl rfl rfl) rfl rfl hl.1 rfl (lv_room (Nat.le_of_ble_eq_true rfl)) d_AM_unit_49 ⟨Nat.le_of_ble_eq_true rfl, Nat.le_of_ble_eq_true rfl⟩) (fun H locs hP hD hS => ?_)
      have hP : va_P (dC, dI) vwCl (wd_AM g h0 q0 x0 ++ wd_Text g (q0 0) q1 z1_49) H := hP
      have hD : va_D A (wd_AM g h0 q0 x0 ++ wd_Text g (q0 0) q1 z1_49) := hD
      refine lv_aload_n hx hb d_AM_unit_52 rfl (lv_at hl 0 rfl) ?_
      refine va_get (D := (dC, dI)) (ci := 0) (v := .ref (q0 0)) (C := "AlarmMatrix") (T := T_AM) (N := 7) hx hb hts i_AM hown hK hP 0 rfl rfl 0 (by decide) (hts _ k1_219) (fun _ h9 => h9) rfl d_AM_unit_53 ?_
      obtain ⟨r56, hcl, hm⟩ := bn1_s hm
      refine kci (wc := wd_Text g (q0 0) q1 z1_49) (wr := wd_AM g h0 q0 x0) (w1 := wd_Text g (q0 0) q1 z1_49) hP hD hS hA [1, 2, 3] [0] rfl rfl (by decide) (by decide) (va_runV (As := []) (rest := []) ⟨hx, hb, hml, hown, hts⟩ (c_Text_size hG hGn l dC dI g F H.size (q0 0) q1 z1_49 hcl) (cwV 0 hts (gdV k3_168 k2_68 k2_69 k1_2 k2_70) rfl rfl rfl (by decide +kernel) ⟨Nat.le_of_ble_eq_true rfl, Nat.le_of_ble_eq_true rfl⟩) (kpV hG hP hK hD hS hA hGA [1, 2, 3] (by decide) rfl (ci := 1) (q0 := 0) rfl rfl rfl) rfl rfl hl.1 rfl (lv_room (Nat.le_of_ble_eq_true rfl)) d_AM_unit_56 ⟨Nat.le_of_ble_eq_true rfl, Nat.le_of_ble_eq_true rfl⟩) (fun H locs hP hD hS => ?_)
      have hP : va_P (dC, dI) vwCl (wd_AM g h0 q0 x0 ++ wd_Text g (q0 0) q1 z1_49) H := hP
      have hD : va_D A (wd_AM g h0 q0 x0 ++ wd_Text g (q0 0) q1 z1_49) := hD
      obtain rfl := Option.some.inj hm
      rw [hQ]
      exact kTi hx hb hr hlocks hAe hP hK hD hS (Nat.zero_le _) (Nat.zero_le _) d_AM_unit_59
    · replace hm := if_f hm hc
      obtain rfl := Option.some.inj hm
      rw [hQ]
      exact kThrow (rest := []) hx hb hst hts (hGt A s hGA) (Or.inr ⟨rfl, rfl⟩) fit_ISE hown own_ISE k3_169 k1_15 k3_170 ((hGs A s hGA).2.2.2 13 (by decide)) htab (hl.1.trans hml.symm) hlocks hAe hP hK hD hS (Nat.le_of_ble_eq_true rfl) (Nat.le_of_ble_eq_true rfl) (Nat.le_of_ble_eq_true rfl) (Nat.le_of_ble_eq_true rfl) (Nat.le_of_ble_eq_true rfl) (Nat.le_of_ble_eq_true rfl) d_AM_unit_33 d_AM_unit_36 d_AM_unit_37 d_AM_unit_39 d_AM_unit_42
  · replace hm := if_t hm hc
    obtain rfl := Option.some.inj hm
    rw [hQ]
    exact kThrow (rest := []) hx hb hst hts (hGt A s hGA) (Or.inl ⟨rfl, rfl⟩) fit_IAE hown own_IAE k3_102 k1_14 k3_103 ((hGs A s hGA).2.2.2 12 (by decide)) htab (hl.1.trans hml.symm) hlocks hAe hP hK hD hS (Nat.le_of_ble_eq_true rfl) (Nat.le_of_ble_eq_true rfl) (Nat.le_of_ble_eq_true rfl) (Nat.le_of_ble_eq_true rfl) (Nat.le_of_ble_eq_true rfl) (Nat.le_of_ble_eq_true rfl) d_AM_unit_10 d_AM_unit_13 d_AM_unit_14 d_AM_unit_16 d_AM_unit_19
abbrev b_AM_say : ByteArray := prog_1_method_3_code
abbrev y_AM_say : MethodName := ⟨"AlarmMatrix", "say", "(IIIII)I"⟩
theorem d_AM_say_0 : decode b_AM_say 0 = .ok (.iload_n 1, 1) := by decide +kernel
theorem d_AM_say_1 : decode b_AM_say 1 = .ok (.iload_n 2, 1) := by decide +kernel
theorem d_AM_say_2 : decode b_AM_say 2 = .ok (.iload_n 3, 1) := by decide +kernel
theorem d_AM_say_3 : decode b_AM_say 3 = .ok (.iload 4, 2) := by decide +kernel
theorem d_AM_say_5 : decode b_AM_say 5 = .ok (.iload 5, 2) := by decide +kernel
theorem d_AM_say_7 : decode b_AM_say 7 = .ok (.invokestatic 86, 3) := by decide +kernel
theorem d_AM_say_10 : decode b_AM_say 10 = .ok (.ifCond .ne 13, 3) := by decide +kernel
theorem d_AM_say_13 : decode b_AM_say 13 = .ok (.new 66, 3) := by decide +kernel
theorem d_AM_say_16 : decode b_AM_say 16 = .ok (.dup, 1) := by decide +kernel
theorem d_AM_say_17 : decode b_AM_say 17 = .ok (.ldc 90, 2) := by decide +kernel
theorem d_AM_say_19 : decode b_AM_say 19 = .ok (.invokespecial 70, 3) := by decide +kernel
theorem d_AM_say_22 : decode b_AM_say 22 = .ok (.athrow, 1) := by decide +kernel
theorem d_AM_say_23 : decode b_AM_say 23 = .ok (.aload_n 0, 1) := by decide +kernel
theorem d_AM_say_24 : decode b_AM_say 24 = .ok (.getfield 10, 3) := by decide +kernel
theorem d_AM_say_27 : decode b_AM_say 27 = .ok (.invokevirtual 73, 3) := by decide +kernel
theorem d_AM_say_30 : decode b_AM_say 30 = .ok (.istore 6, 2) := by decide +kernel
theorem d_AM_say_32 : decode b_AM_say 32 = .ok (.aload_n 0, 1) := by decide +kernel
theorem d_AM_say_33 : decode b_AM_say 33 = .ok (.iload_n 1, 1) := by decide +kernel
theorem d_AM_say_34 : decode b_AM_say 34 = .ok (.iload_n 2, 1) := by decide +kernel
theorem d_AM_say_35 : decode b_AM_say 35 = .ok (.iload_n 3, 1) := by decide +kernel
theorem d_AM_say_36 : decode b_AM_say 36 = .ok (.iload 4, 2) := by decide +kernel
theorem d_AM_say_38 : decode b_AM_say 38 = .ok (.iload 5, 2) := by decide +kernel
theorem d_AM_say_40 : decode b_AM_say 40 = .ok (.invokevirtual 92, 3) := by decide +kernel
theorem d_AM_say_43 : decode b_AM_say 43 = .ok (.aload_n 0, 1) := by decide +kernel
theorem d_AM_say_44 : decode b_AM_say 44 = .ok (.getfield 10, 3) := by decide +kernel
theorem d_AM_say_47 : decode b_AM_say 47 = .ok (.invokevirtual 73, 3) := by decide +kernel
theorem d_AM_say_50 : decode b_AM_say 50 = .ok (.sipush 2000, 3) := by decide +kernel
theorem d_AM_say_53 : decode b_AM_say 53 = .ok (.if_icmp .le 22, 3) := by decide +kernel
theorem d_AM_say_56 : decode b_AM_say 56 = .ok (.aload_n 0, 1) := by decide +kernel
theorem d_AM_say_57 : decode b_AM_say 57 = .ok (.getfield 10, 3) := by decide +kernel
theorem d_AM_say_60 : decode b_AM_say 60 = .ok (.iload 6, 2) := by decide +kernel
theorem d_AM_say_62 : decode b_AM_say 62 = .ok (.invokevirtual 96, 3) := by decide +kernel
theorem d_AM_say_65 : decode b_AM_say 65 = .ok (.new 77, 3) := by decide +kernel
theorem d_AM_say_68 : decode b_AM_say 68 = .ok (.dup, 1) := by decide +kernel
theorem d_AM_say_69 : decode b_AM_say 69 = .ok (.ldc 99, 2) := by decide +kernel
theorem d_AM_say_71 : decode b_AM_say 71 = .ok (.invokespecial 81, 3) := by decide +kernel
theorem d_AM_say_74 : decode b_AM_say 74 = .ok (.athrow, 1) := by decide +kernel
theorem d_AM_say_75 : decode b_AM_say 75 = .ok (.aload_n 0, 1) := by decide +kernel
theorem d_AM_say_76 : decode b_AM_say 76 = .ok (.getfield 10, 3) := by decide +kernel
theorem d_AM_say_79 : decode b_AM_say 79 = .ok (.invokevirtual 73, 3) := by decide +kernel
theorem d_AM_say_82 : decode b_AM_say 82 = .ok (.ireturn, 1) := by decide +kernel
def m_AM_say (F : Nat) (x0 : St) (x1 : St) (a1 : Int32) (a2 : Int32) (a3 : Int32) (a4 : Int32) (a5 : Int32) : Option (Nat × Int32 × St) :=
  (bn1 (m_AM_canBeSaid F a1 a2 a3 a4 a5) (fun r7 => (if r7 = (0 : Int32) then (some (1, (0 : Int32), x1)) else (bn1 (m_Text_size F x1) (fun r27 => (bn1 (m_AM_putSentence F x0 x1 a1 a2 a3 a4 a5) (fun z1_40 => (bn1 (m_Text_size F z1_40) (fun r47 => (if r47 ≤ (2000 : Int32) then (bn1 (m_Text_size F z1_40) (fun r79 => (some (0, r79, z1_40)))) else (bn1 (m_Text_shrinkTo F z1_40 r27) (fun z1_62 => (some (2, (0 : Int32), z1_62))))))))))))))
abbrev rm_AM_say : Room := { frames := 7, cells := 1, slots := 6, locals := 155 }
set_option maxHeartbeats 4000000 in
set_option maxRecDepth 100000 in
theorem c_AM_say {G : (Nat → Prop) → State → Prop} (hG : gok G) (hGn : gN G) {adK adV : Nat → Nat} (hGs : gSt adK adV G) (hGt : gTh G) (l : Launch) (hst : l.stackTraces = false) (dC : Nat → ClassId) (dI : Nat → Nat → Nat) (g : Nat → ClassId) (F : Nat) (sz : Nat) (h0 : Nat) (q0 : Nat → Nat) (x0 : St) (q1 : Nat → Nat) (x1 : St) (a1 : Int32) (a2 : Int32) (a3 : Int32) (a4 : Int32) (a5 : Int32) {o : Nat × Int32 × St} (hm : m_AM_say F x0 x1 a1 a2 a3 a4 a5 = some o) : kT l y_AM_say (.code y_AM_say b_AM_say 7 (some .int) :: gw) rm_AM_say (dC, dI) vwCl (tyv g) G [.ref h0, .int a1, .int a2, .int a3, .int a4, .int a5] (wd_AM g h0 q0 x0 ++ wd_Text g (q0 0) q1 x1) o.1 o.2.1 (wd_AM g h0 q0 x0 ++ wd_Text g (q0 0) q1 (o.2.2)) 1 6 sz := by
  unfold m_AM_say at hm
  refine kmT (cc := b_AM_say) (maxL := 7) (ret := (some .int)) (by decide) rfl (Nat.le_of_ble_eq_true rfl) ?_
  intro p e s m args below meth c Q hQ hx hb hr hts hown hlocks hml htab H locs A hAe hA hP hK hD hS hGA ls hl
  have hl : lv_has ls 7 [(0, .ref h0), (1, .int a1), (2, .int a2), (3, .int a3), (4, .int a4), (5, .int a5)] := hl
  have hts : ∀ w ∈ gw, w.before args s = true := fun w h => hts w (List.mem_cons_of_mem _ h)
  have hown : s.vm.findClass "AlarmMatrix" = some m.cls := hown
  refine lv_iload_n hx hb d_AM_say_0 rfl (lv_at hl 1 rfl) ?_
  refine lv_iload_n hx hb d_AM_say_1 rfl (lv_at hl 2 rfl) ?_
  refine lv_iload_n hx hb d_AM_say_2 rfl (lv_at hl 3 rfl) ?_
  refine lv_iload hx hb d_AM_say_3 (lv_at hl 4 rfl) ?_
  refine lv_iload hx hb d_AM_say_5 (lv_at hl 5 rfl) ?_
  obtain ⟨r7, hcl, hm⟩ := bn1_s hm
  refine kci (wc := ([] : va_W)) (wr := wd_AM g h0 q0 x0 ++ wd_Text g (q0 0) q1 x1) (w1 := ([] : va_W)) hP hD hS hA [] [0, 1, 2, 3] rfl rfl (by decide) (by decide) (va_runS (As := [.int a1, .int a2, .int a3, .int a4, .int a5]) (rest := []) ⟨hx, hb, hml, hown, hts⟩ (c_AM_canBeSaid hG hGn l dC dI g F H.size a1 a2 a3 a4 a5 hcl) (cwS 5 hts (gdS k3_196 k3_197 k1_1 k3_198) rfl rfl rfl (by decide +kernel) ⟨Nat.le_of_ble_eq_true rfl, Nat.le_of_ble_eq_true rfl⟩) (kpS hG hP hK hD hS hA hGA [] (by decide) rfl) rfl rfl hl.1 rfl (lv_room (Nat.le_of_ble_eq_true rfl)) d_AM_say_7 ⟨Nat.le_of_ble_eq_true rfl, Nat.le_of_ble_eq_true rfl⟩) (fun H locs hP hD hS => ?_)
  have hP : va_P (dC, dI) vwCl (wd_AM g h0 q0 x0 ++ wd_Text g (q0 0) q1 x1) H := hP
  have hD : va_D A (wd_AM g h0 q0 x0 ++ wd_Text g (q0 0) q1 x1) := hD
  refine lv_if_ne (tgt := 23) hx hb d_AM_say_10 (by decide) (fun hc => ?_) (fun hc => ?_)
  · replace hm := if_f hm hc
    refine lv_aload_n hx hb d_AM_say_23 rfl (lv_at hl 0 rfl) ?_
    refine va_get (D := (dC, dI)) (ci := 0) (v := .ref (q0 0)) (C := "AlarmMatrix") (T := T_AM) (N := 7) hx hb hts i_AM hown hK hP 0 rfl rfl 0 (by decide) (hts _ k1_219) (fun _ h9 => h9) rfl d_AM_say_24 ?_
    obtain ⟨r27, hcl, hm⟩ := bn1_s hm
    refine kci (wc := wd_Text g (q0 0) q1 x1) (wr := wd_AM g h0 q0 x0) (w1 := wd_Text g (q0 0) q1 x1) hP hD hS hA [1, 2, 3] [0] rfl rfl (by decide) (by decide) (va_runV (As := []) (rest := []) ⟨hx, hb, hml, hown, hts⟩ (c_Text_size hG hGn l dC dI g F H.size (q0 0) q1 x1 hcl) (cwV 0 hts (gdV k3_168 k2_68 k2_69 k1_2 k2_70) rfl rfl rfl (by decide +kernel) ⟨Nat.le_of_ble_eq_true rfl, Nat.le_of_ble_eq_true rfl⟩) (kpV hG hP hK hD hS hA hGA [1, 2, 3] (by decide) rfl (ci := 1) (q0 := 0) rfl rfl rfl) rfl rfl hl.1 rfl (lv_room (Nat.le_of_ble_eq_true rfl)) d_AM_say_27 ⟨Nat.le_of_ble_eq_true rfl, Nat.le_of_ble_eq_true rfl⟩) (fun H locs hP hD hS => ?_)
    have hP : va_P (dC, dI) vwCl (wd_AM g h0 q0 x0 ++ wd_Text g (q0 0) q1 x1) H := hP
    have hD : va_D A (wd_AM g h0 q0 x0 ++ wd_Text g (q0 0) q1 x1) := hD
    refine lv_istore (lv' := [(6, .int r27), (0, .ref h0), (1, .int a1), (2, .int a2), (3, .int a3), (4, .int a4), (5, .int a5)]) hx hb d_AM_say_30 hl (by decide) rfl (fun ls hl => ?_)
    refine lv_aload_n hx hb d_AM_say_32 rfl (lv_at hl 1 rfl) ?_
    refine lv_iload_n hx hb d_AM_say_33 rfl (lv_at hl 2 rfl) ?_
    refine lv_iload_n hx hb d_AM_say_34 rfl (lv_at hl 3 rfl) ?_
    refine lv_iload_n hx hb d_AM_say_35 rfl (lv_at hl 4 rfl) ?_
    refine lv_iload hx hb d_AM_say_36 (lv_at hl 5 rfl) ?_
    refine lv_iload hx hb d_AM_say_38 (lv_at hl 6 rfl) ?_
    obtain ⟨z1_40, hcl, hm⟩ := bn1_s hm
    refine kcv (wc := wd_AM g h0 q0 x0 ++ wd_Text g (q0 0) q1 x1) (wr := ([] : va_W)) (w1 := wd_AM g h0 q0 x0 ++ wd_Text g (q0 0) q1 z1_40) hP hD hS hA [0, 1, 2, 3] [] rfl rfl (by decide) (by decide) (va_runV (As := [.int a1, .int a2, .int a3, .int a4, .int a5]) (rest := []) ⟨hx, hb, hml, hown, hts⟩ (c_AM_putSentence hG hGn hGs l dC dI g F H.size h0 q0 x0 q1 x1 a1 a2 a3 a4 a5 hcl) (cwV 5 hts (gdV k3_203 k3_205 kp_14 k1_1 k3_206) rfl rfl rfl (by decide +kernel) ⟨Nat.le_of_ble_eq_true rfl, Nat.le_of_ble_eq_true rfl⟩) (kpV hG hP hK hD hS hA hGA [0, 1, 2, 3] (by decide) rfl (ci := 0) (q0 := 0) rfl rfl rfl) rfl rfl hl.1 rfl (lv_room (Nat.le_of_ble_eq_true rfl)) d_AM_say_40 ⟨Nat.le_of_ble_eq_true rfl, Nat.le_of_ble_eq_true rfl⟩) (fun H locs hP hD hS => ?_)
    have hP : va_P (dC, dI) vwCl (wd_AM g h0 q0 x0 ++ wd_Text g (q0 0) q1 z1_40) H := hP
    have hD : va_D A (wd_AM g h0 q0 x0 ++ wd_Text g (q0 0) q1 z1_40) := hD
    refine lv_aload_n hx hb d_AM_say_43 rfl (lv_at hl 1 rfl) ?_
    refine va_get (D := (dC, dI)) (ci := 0) (v := .ref (q0 0)) (C := "AlarmMatrix") (T := T_AM) (N := 7) hx hb hts i_AM hown hK hP 0 rfl rfl 0 (by decide) (hts _ k1_219) (fun _ h9 => h9) rfl d_AM_say_44 ?_
    obtain ⟨r47, hcl, hm⟩ := bn1_s hm
    refine kci (wc := wd_Text g (q0 0) q1 z1_40) (wr := wd_AM g h0 q0 x0) (w1 := wd_Text g (q0 0) q1 z1_40) hP hD hS hA [1, 2, 3] [0] rfl rfl (by decide) (by decide) (va_runV (As := []) (rest := []) ⟨hx, hb, hml, hown, hts⟩ (c_Text_size hG hGn l dC dI g F H.size (q0 0) q1 z1_40 hcl) (cwV 0 hts (gdV k3_168 k2_68 k2_69 k1_2 k2_70) rfl rfl rfl (by decide +kernel) ⟨Nat.le_of_ble_eq_true rfl, Nat.le_of_ble_eq_true rfl⟩) (kpV hG hP hK hD hS hA hGA [1, 2, 3] (by decide) rfl (ci := 1) (q0 := 0) rfl rfl rfl) rfl rfl hl.1 rfl (lv_room (Nat.le_of_ble_eq_true rfl)) d_AM_say_47 ⟨Nat.le_of_ble_eq_true rfl, Nat.le_of_ble_eq_true rfl⟩) (fun H locs hP hD hS => ?_)
    have hP : va_P (dC, dI) vwCl (wd_AM g h0 q0 x0 ++ wd_Text g (q0 0) q1 z1_40) H := hP
    have hD : va_D A (wd_AM g h0 q0 x0 ++ wd_Text g (q0 0) q1 z1_40) := hD
    refine lv_sipush (v := (2000 : Int32)) hx hb d_AM_say_50 (by decide) ?_
    refine lv_icmp_le (tgt := 75) hx hb d_AM_say_53 (by decide) (fun hc => ?_) (fun hc => ?_)
    · replace hm := if_t hm hc
      refine lv_aload_n hx hb d_AM_say_75 rfl (lv_at hl 1 rfl) ?_
      refine va_get (D := (dC, dI)) (ci := 0) (v := .ref (q0 0)) (C := "AlarmMatrix") (T := T_AM) (N := 7) hx hb hts i_AM hown hK hP 0 rfl rfl 0 (by decide) (hts _ k1_219) (fun _ h9 => h9) rfl d_AM_say_76 ?_
      obtain ⟨r79, hcl, hm⟩ := bn1_s hm
      refine kci (wc := wd_Text g (q0 0) q1 z1_40) (wr := wd_AM g h0 q0 x0) (w1 := wd_Text g (q0 0) q1 z1_40) hP hD hS hA [1, 2, 3] [0] rfl rfl (by decide) (by decide) (va_runV (As := []) (rest := []) ⟨hx, hb, hml, hown, hts⟩ (c_Text_size hG hGn l dC dI g F H.size (q0 0) q1 z1_40 hcl) (cwV 0 hts (gdV k3_168 k2_68 k2_69 k1_2 k2_70) rfl rfl rfl (by decide +kernel) ⟨Nat.le_of_ble_eq_true rfl, Nat.le_of_ble_eq_true rfl⟩) (kpV hG hP hK hD hS hA hGA [1, 2, 3] (by decide) rfl (ci := 1) (q0 := 0) rfl rfl rfl) rfl rfl hl.1 rfl (lv_room (Nat.le_of_ble_eq_true rfl)) d_AM_say_79 ⟨Nat.le_of_ble_eq_true rfl, Nat.le_of_ble_eq_true rfl⟩) (fun H locs hP hD hS => ?_)
      have hP : va_P (dC, dI) vwCl (wd_AM g h0 q0 x0 ++ wd_Text g (q0 0) q1 z1_40) H := hP
      have hD : va_D A (wd_AM g h0 q0 x0 ++ wd_Text g (q0 0) q1 z1_40) := hD
      obtain rfl := Option.some.inj hm
      rw [hQ]
      exact kTi hx hb hr hlocks hAe hP hK hD hS (Nat.zero_le _) (Nat.zero_le _) d_AM_say_82
    · replace hm := if_f hm hc
      refine lv_aload_n hx hb d_AM_say_56 rfl (lv_at hl 1 rfl) ?_
      refine va_get (D := (dC, dI)) (ci := 0) (v := .ref (q0 0)) (C := "AlarmMatrix") (T := T_AM) (N := 7) hx hb hts i_AM hown hK hP 0 rfl rfl 0 (by decide) (hts _ k1_219) (fun _ h9 => h9) rfl d_AM_say_57 ?_
      refine lv_iload hx hb d_AM_say_60 (lv_at hl 0 rfl) ?_
      obtain ⟨z1_62, hcl, hm⟩ := bn1_s hm
      refine kcv (wc := wd_Text g (q0 0) q1 z1_40) (wr := wd_AM g h0 q0 x0) (w1 := wd_Text g (q0 0) q1 z1_62) hP hD hS hA [1, 2, 3] [0] rfl rfl (by decide) (by decide) (va_runV (As := [.int r27]) (rest := []) ⟨hx, hb, hml, hown, hts⟩ (c_Text_shrinkTo hG hGn l dC dI g F H.size (q0 0) q1 z1_40 r27 hcl) (cwV 1 hts (gdV k3_236 k3_237 k3_238 k1_2 k3_239) rfl rfl rfl (by decide +kernel) ⟨Nat.le_of_ble_eq_true rfl, Nat.le_of_ble_eq_true rfl⟩) (kpV hG hP hK hD hS hA hGA [1, 2, 3] (by decide) rfl (ci := 1) (q0 := 0) rfl rfl rfl) rfl rfl hl.1 rfl (lv_room (Nat.le_of_ble_eq_true rfl)) d_AM_say_62 ⟨Nat.le_of_ble_eq_true rfl, Nat.le_of_ble_eq_true rfl⟩) (fun H locs hP hD hS => ?_)
      have hP : va_P (dC, dI) vwCl (wd_AM g h0 q0 x0 ++ wd_Text g (q0 0) q1 z1_62) H := hP
      have hD : va_D A (wd_AM g h0 q0 x0 ++ wd_Text g (q0 0) q1 z1_62) := hD
      obtain rfl := Option.some.inj hm
      rw [hQ]
      exact kThrow (rest := []) hx hb hst hts (hGt A s hGA) (Or.inr ⟨rfl, rfl⟩) fit_ISE hown own_ISE k3_169 k1_15 k3_170 ((hGs A s hGA).2.2.2 27 (by decide)) htab (hl.1.trans hml.symm) hlocks hAe hP hK hD hS (Nat.le_of_ble_eq_true rfl) (Nat.le_of_ble_eq_true rfl) (Nat.le_of_ble_eq_true rfl) (Nat.le_of_ble_eq_true rfl) (Nat.le_of_ble_eq_true rfl) (Nat.le_of_ble_eq_true rfl) d_AM_say_65 d_AM_say_68 d_AM_say_69 d_AM_say_71 d_AM_say_74
  · replace hm := if_t hm hc
    obtain rfl := Option.some.inj hm
    rw [hQ]
    exact kThrow (rest := []) hx hb hst hts (hGt A s hGA) (Or.inl ⟨rfl, rfl⟩) fit_IAE hown own_IAE k3_102 k1_14 k3_103 ((hGs A s hGA).2.2.2 14 (by decide)) htab (hl.1.trans hml.symm) hlocks hAe hP hK hD hS (Nat.le_of_ble_eq_true rfl) (Nat.le_of_ble_eq_true rfl) (Nat.le_of_ble_eq_true rfl) (Nat.le_of_ble_eq_true rfl) (Nat.le_of_ble_eq_true rfl) (Nat.le_of_ble_eq_true rfl) d_AM_say_13 d_AM_say_16 d_AM_say_17 d_AM_say_19 d_AM_say_22
abbrev b_AM_cutText : ByteArray := prog_1_method_4_code
abbrev y_AM_cutText : MethodName := ⟨"AlarmMatrix", "cutText", "(I)I"⟩
theorem d_AM_cutText_0 : decode b_AM_cutText 0 = .ok (.iload_n 1, 1) := by decide +kernel
theorem d_AM_cutText_1 : decode b_AM_cutText 1 = .ok (.iconst 0, 1) := by decide +kernel
theorem d_AM_cutText_2 : decode b_AM_cutText 2 = .ok (.aload_n 0, 1) := by decide +kernel
theorem d_AM_cutText_3 : decode b_AM_cutText 3 = .ok (.getfield 10, 3) := by decide +kernel
theorem d_AM_cutText_6 : decode b_AM_cutText 6 = .ok (.invokevirtual 73, 3) := by decide +kernel
theorem d_AM_cutText_9 : decode b_AM_cutText 9 = .ok (.invokestatic 62, 3) := by decide +kernel
theorem d_AM_cutText_12 : decode b_AM_cutText 12 = .ok (.ifCond .ne 13, 3) := by decide +kernel
theorem d_AM_cutText_15 : decode b_AM_cutText 15 = .ok (.new 66, 3) := by decide +kernel
theorem d_AM_cutText_18 : decode b_AM_cutText 18 = .ok (.dup, 1) := by decide +kernel
theorem d_AM_cutText_19 : decode b_AM_cutText 19 = .ok (.ldc 101, 2) := by decide +kernel
theorem d_AM_cutText_21 : decode b_AM_cutText 21 = .ok (.invokespecial 70, 3) := by decide +kernel
theorem d_AM_cutText_24 : decode b_AM_cutText 24 = .ok (.athrow, 1) := by decide +kernel
theorem d_AM_cutText_25 : decode b_AM_cutText 25 = .ok (.aload_n 0, 1) := by decide +kernel
theorem d_AM_cutText_26 : decode b_AM_cutText 26 = .ok (.getfield 10, 3) := by decide +kernel
theorem d_AM_cutText_29 : decode b_AM_cutText 29 = .ok (.aload_n 0, 1) := by decide +kernel
theorem d_AM_cutText_30 : decode b_AM_cutText 30 = .ok (.getfield 10, 3) := by decide +kernel
theorem d_AM_cutText_33 : decode b_AM_cutText 33 = .ok (.invokevirtual 73, 3) := by decide +kernel
theorem d_AM_cutText_36 : decode b_AM_cutText 36 = .ok (.iload_n 1, 1) := by decide +kernel
theorem d_AM_cutText_37 : decode b_AM_cutText 37 = .ok (.isub, 1) := by decide +kernel
theorem d_AM_cutText_38 : decode b_AM_cutText 38 = .ok (.invokevirtual 96, 3) := by decide +kernel
theorem d_AM_cutText_41 : decode b_AM_cutText 41 = .ok (.aload_n 0, 1) := by decide +kernel
theorem d_AM_cutText_42 : decode b_AM_cutText 42 = .ok (.getfield 10, 3) := by decide +kernel
theorem d_AM_cutText_45 : decode b_AM_cutText 45 = .ok (.invokevirtual 73, 3) := by decide +kernel
theorem d_AM_cutText_48 : decode b_AM_cutText 48 = .ok (.ireturn, 1) := by decide +kernel
def m_AM_cutText (F : Nat) (x0 : St) (x1 : St) (a1 : Int32) : Option (Nat × Int32 × St) :=
  (bn1 (m_Text_size F x1) (fun r6 => (bn1 (m_AM_isWithin F a1 (0 : Int32) r6) (fun r9 => (if r9 = (0 : Int32) then (some (1, (0 : Int32), x1)) else (bn1 (m_Text_size F x1) (fun r33 => (bn1 (m_Text_shrinkTo F x1 (r33 - a1)) (fun z1_38 => (bn1 (m_Text_size F z1_38) (fun r45 => (some (0, r45, z1_38)))))))))))))
abbrev rm_AM_cutText : Room := { frames := 6, cells := 1, slots := 6, locals := 90 }
set_option maxHeartbeats 4000000 in
set_option maxRecDepth 100000 in
theorem c_AM_cutText {G : (Nat → Prop) → State → Prop} (hG : gok G) (hGn : gN G) {adK adV : Nat → Nat} (hGs : gSt adK adV G) (hGt : gTh G) (l : Launch) (hst : l.stackTraces = false) (dC : Nat → ClassId) (dI : Nat → Nat → Nat) (g : Nat → ClassId) (F : Nat) (sz : Nat) (h0 : Nat) (q0 : Nat → Nat) (x0 : St) (q1 : Nat → Nat) (x1 : St) (a1 : Int32) {o : Nat × Int32 × St} (hm : m_AM_cutText F x0 x1 a1 = some o) : kT l y_AM_cutText (.code y_AM_cutText b_AM_cutText 2 (some .int) :: gw) rm_AM_cutText (dC, dI) vwCl (tyv g) G [.ref h0, .int a1] (wd_AM g h0 q0 x0 ++ wd_Text g (q0 0) q1 x1) o.1 o.2.1 (wd_AM g h0 q0 x0 ++ wd_Text g (q0 0) q1 (o.2.2)) 1 6 sz := by
  unfold m_AM_cutText at hm
  refine kmT (cc := b_AM_cutText) (maxL := 2) (ret := (some .int)) (by decide) rfl (Nat.le_of_ble_eq_true rfl) ?_
  intro p e s m args below meth c Q hQ hx hb hr hts hown hlocks hml htab H locs A hAe hA hP hK hD hS hGA ls hl
  have hl : lv_has ls 2 [(0, .ref h0), (1, .int a1)] := hl
  have hts : ∀ w ∈ gw, w.before args s = true := fun w h => hts w (List.mem_cons_of_mem _ h)
  have hown : s.vm.findClass "AlarmMatrix" = some m.cls := hown
  refine lv_iload_n hx hb d_AM_cutText_0 rfl (lv_at hl 1 rfl) ?_
  refine lv_iconst (v := (0 : Int32)) hx hb d_AM_cutText_1 (by decide) ?_
  refine lv_aload_n hx hb d_AM_cutText_2 rfl (lv_at hl 0 rfl) ?_
  refine va_get (D := (dC, dI)) (ci := 0) (v := .ref (q0 0)) (C := "AlarmMatrix") (T := T_AM) (N := 7) hx hb hts i_AM hown hK hP 0 rfl rfl 0 (by decide) (hts _ k1_219) (fun _ h9 => h9) rfl d_AM_cutText_3 ?_
  obtain ⟨r6, hcl, hm⟩ := bn1_s hm
  refine kci (wc := wd_Text g (q0 0) q1 x1) (wr := wd_AM g h0 q0 x0) (w1 := wd_Text g (q0 0) q1 x1) hP hD hS hA [1, 2, 3] [0] rfl rfl (by decide) (by decide) (va_runV (As := []) (rest := [.int (0 : Int32), .int a1]) ⟨hx, hb, hml, hown, hts⟩ (c_Text_size hG hGn l dC dI g F H.size (q0 0) q1 x1 hcl) (cwV 0 hts (gdV k3_168 k2_68 k2_69 k1_2 k2_70) rfl rfl rfl (by decide +kernel) ⟨Nat.le_of_ble_eq_true rfl, Nat.le_of_ble_eq_true rfl⟩) (kpV hG hP hK hD hS hA hGA [1, 2, 3] (by decide) rfl (ci := 1) (q0 := 0) rfl rfl rfl) rfl rfl hl.1 rfl (lv_room (Nat.le_of_ble_eq_true rfl)) d_AM_cutText_6 ⟨Nat.le_of_ble_eq_true rfl, Nat.le_of_ble_eq_true rfl⟩) (fun H locs hP hD hS => ?_)
  have hP : va_P (dC, dI) vwCl (wd_AM g h0 q0 x0 ++ wd_Text g (q0 0) q1 x1) H := hP
  have hD : va_D A (wd_AM g h0 q0 x0 ++ wd_Text g (q0 0) q1 x1) := hD
  obtain ⟨r9, hcl, hm⟩ := bn1_s hm
  refine kci (wc := ([] : va_W)) (wr := wd_AM g h0 q0 x0 ++ wd_Text g (q0 0) q1 x1) (w1 := ([] : va_W)) hP hD hS hA [] [0, 1, 2, 3] rfl rfl (by decide) (by decide) (va_runS (As := [.int a1, .int (0 : Int32), .int r6]) (rest := []) ⟨hx, hb, hml, hown, hts⟩ (c_AM_isWithin hG hGn l dC dI g F H.size a1 (0 : Int32) r6 hcl) (cwS 3 hts (gdS k3_101 k2_153 k1_1 k2_154) rfl rfl rfl (by decide +kernel) ⟨Nat.le_of_ble_eq_true rfl, Nat.le_of_ble_eq_true rfl⟩) (kpS hG hP hK hD hS hA hGA [] (by decide) rfl) rfl rfl hl.1 rfl (lv_room (Nat.le_of_ble_eq_true rfl)) d_AM_cutText_9 ⟨Nat.le_of_ble_eq_true rfl, Nat.le_of_ble_eq_true rfl⟩) (fun H locs hP hD hS => ?_)
  have hP : va_P (dC, dI) vwCl (wd_AM g h0 q0 x0 ++ wd_Text g (q0 0) q1 x1) H := hP
  have hD : va_D A (wd_AM g h0 q0 x0 ++ wd_Text g (q0 0) q1 x1) := hD
  refine lv_if_ne (tgt := 25) hx hb d_AM_cutText_12 (by decide) (fun hc => ?_) (fun hc => ?_)
  · replace hm := if_f hm hc
    refine lv_aload_n hx hb d_AM_cutText_25 rfl (lv_at hl 0 rfl) ?_
    refine va_get (D := (dC, dI)) (ci := 0) (v := .ref (q0 0)) (C := "AlarmMatrix") (T := T_AM) (N := 7) hx hb hts i_AM hown hK hP 0 rfl rfl 0 (by decide) (hts _ k1_219) (fun _ h9 => h9) rfl d_AM_cutText_26 ?_
    refine lv_aload_n hx hb d_AM_cutText_29 rfl (lv_at hl 0 rfl) ?_
    refine va_get (D := (dC, dI)) (ci := 0) (v := .ref (q0 0)) (C := "AlarmMatrix") (T := T_AM) (N := 7) hx hb hts i_AM hown hK hP 0 rfl rfl 0 (by decide) (hts _ k1_219) (fun _ h9 => h9) rfl d_AM_cutText_30 ?_
    obtain ⟨r33, hcl, hm⟩ := bn1_s hm
    refine kci (wc := wd_Text g (q0 0) q1 x1) (wr := wd_AM g h0 q0 x0) (w1 := wd_Text g (q0 0) q1 x1) hP hD hS hA [1, 2, 3] [0] rfl rfl (by decide) (by decide) (va_runV (As := []) (rest := [.ref (q0 0)]) ⟨hx, hb, hml, hown, hts⟩ (c_Text_size hG hGn l dC dI g F H.size (q0 0) q1 x1 hcl) (cwV 0 hts (gdV k3_168 k2_68 k2_69 k1_2 k2_70) rfl rfl rfl (by decide +kernel) ⟨Nat.le_of_ble_eq_true rfl, Nat.le_of_ble_eq_true rfl⟩) (kpV hG hP hK hD hS hA hGA [1, 2, 3] (by decide) rfl (ci := 1) (q0 := 0) rfl rfl rfl) rfl rfl hl.1 rfl (lv_room (Nat.le_of_ble_eq_true rfl)) d_AM_cutText_33 ⟨Nat.le_of_ble_eq_true rfl, Nat.le_of_ble_eq_true rfl⟩) (fun H locs hP hD hS => ?_)
    have hP : va_P (dC, dI) vwCl (wd_AM g h0 q0 x0 ++ wd_Text g (q0 0) q1 x1) H := hP
    have hD : va_D A (wd_AM g h0 q0 x0 ++ wd_Text g (q0 0) q1 x1) := hD
    refine lv_iload_n hx hb d_AM_cutText_36 rfl (lv_at hl 1 rfl) ?_
    refine lv_isub hx hb d_AM_cutText_37 ?_
    obtain ⟨z1_38, hcl, hm⟩ := bn1_s hm
    refine kcv (wc := wd_Text g (q0 0) q1 x1) (wr := wd_AM g h0 q0 x0) (w1 := wd_Text g (q0 0) q1 z1_38) hP hD hS hA [1, 2, 3] [0] rfl rfl (by decide) (by decide) (va_runV (As := [.int (r33 - a1)]) (rest := []) ⟨hx, hb, hml, hown, hts⟩ (c_Text_shrinkTo hG hGn l dC dI g F H.size (q0 0) q1 x1 (r33 - a1) hcl) (cwV 1 hts (gdV k3_236 k3_237 k3_238 k1_2 k3_239) rfl rfl rfl (by decide +kernel) ⟨Nat.le_of_ble_eq_true rfl, Nat.le_of_ble_eq_true rfl⟩) (kpV hG hP hK hD hS hA hGA [1, 2, 3] (by decide) rfl (ci := 1) (q0 := 0) rfl rfl rfl) rfl rfl hl.1 rfl (lv_room (Nat.le_of_ble_eq_true rfl)) d_AM_cutText_38 ⟨Nat.le_of_ble_eq_true rfl, Nat.le_of_ble_eq_true rfl⟩) (fun H locs hP hD hS => ?_)
    have hP : va_P (dC, dI) vwCl (wd_AM g h0 q0 x0 ++ wd_Text g (q0 0) q1 z1_38) H := hP
    have hD : va_D A (wd_AM g h0 q0 x0 ++ wd_Text g (q0 0) q1 z1_38) := hD
    refine lv_aload_n hx hb d_AM_cutText_41 rfl (lv_at hl 0 rfl) ?_
    refine va_get (D := (dC, dI)) (ci := 0) (v := .ref (q0 0)) (C := "AlarmMatrix") (T := T_AM) (N := 7) hx hb hts i_AM hown hK hP 0 rfl rfl 0 (by decide) (hts _ k1_219) (fun _ h9 => h9) rfl d_AM_cutText_42 ?_
    obtain ⟨r45, hcl, hm⟩ := bn1_s hm
    refine kci (wc := wd_Text g (q0 0) q1 z1_38) (wr := wd_AM g h0 q0 x0) (w1 := wd_Text g (q0 0) q1 z1_38) hP hD hS hA [1, 2, 3] [0] rfl rfl (by decide) (by decide) (va_runV (As := []) (rest := []) ⟨hx, hb, hml, hown, hts⟩ (c_Text_size hG hGn l dC dI g F H.size (q0 0) q1 z1_38 hcl) (cwV 0 hts (gdV k3_168 k2_68 k2_69 k1_2 k2_70) rfl rfl rfl (by decide +kernel) ⟨Nat.le_of_ble_eq_true rfl, Nat.le_of_ble_eq_true rfl⟩) (kpV hG hP hK hD hS hA hGA [1, 2, 3] (by decide) rfl (ci := 1) (q0 := 0) rfl rfl rfl) rfl rfl hl.1 rfl (lv_room (Nat.le_of_ble_eq_true rfl)) d_AM_cutText_45 ⟨Nat.le_of_ble_eq_true rfl, Nat.le_of_ble_eq_true rfl⟩) (fun H locs hP hD hS => ?_)
    have hP : va_P (dC, dI) vwCl (wd_AM g h0 q0 x0 ++ wd_Text g (q0 0) q1 z1_38) H := hP
    have hD : va_D A (wd_AM g h0 q0 x0 ++ wd_Text g (q0 0) q1 z1_38) := hD
    obtain rfl := Option.some.inj hm
    rw [hQ]
    exact kTi hx hb hr hlocks hAe hP hK hD hS (Nat.zero_le _) (Nat.zero_le _) d_AM_cutText_48
  · replace hm := if_t hm hc
    obtain rfl := Option.some.inj hm
    rw [hQ]
    exact kThrow (rest := []) hx hb hst hts (hGt A s hGA) (Or.inl ⟨rfl, rfl⟩) fit_IAE hown own_IAE k3_102 k1_14 k3_103 ((hGs A s hGA).2.2.2 28 (by decide)) htab (hl.1.trans hml.symm) hlocks hAe hP hK hD hS (Nat.le_of_ble_eq_true rfl) (Nat.le_of_ble_eq_true rfl) (Nat.le_of_ble_eq_true rfl) (Nat.le_of_ble_eq_true rfl) (Nat.le_of_ble_eq_true rfl) (Nat.le_of_ble_eq_true rfl) d_AM_cutText_15 d_AM_cutText_18 d_AM_cutText_19 d_AM_cutText_21 d_AM_cutText_24
abbrev b_AM_signal : ByteArray := prog_1_method_6_code
abbrev y_AM_signal : MethodName := ⟨"AlarmMatrix", "signal", "(II)I"⟩
theorem d_AM_signal_0 : decode b_AM_signal 0 = .ok (.aload_n 0, 1) := by decide +kernel
theorem d_AM_signal_1 : decode b_AM_signal 1 = .ok (.getfield 30, 3) := by decide +kernel
theorem d_AM_signal_4 : decode b_AM_signal 4 = .ok (.iload_n 1, 1) := by decide +kernel
theorem d_AM_signal_5 : decode b_AM_signal 5 = .ok (.invokevirtual 117, 3) := by decide +kernel
theorem d_AM_signal_8 : decode b_AM_signal 8 = .ok (.ifCond .eq 13, 3) := by decide +kernel
theorem d_AM_signal_11 : decode b_AM_signal 11 = .ok (.iload_n 2, 1) := by decide +kernel
theorem d_AM_signal_12 : decode b_AM_signal 12 = .ok (.iconst 0, 1) := by decide +kernel
theorem d_AM_signal_13 : decode b_AM_signal 13 = .ok (.bipush 100, 2) := by decide +kernel
theorem d_AM_signal_15 : decode b_AM_signal 15 = .ok (.invokestatic 62, 3) := by decide +kernel
theorem d_AM_signal_18 : decode b_AM_signal 18 = .ok (.ifCond .ne 13, 3) := by decide +kernel
theorem d_AM_signal_21 : decode b_AM_signal 21 = .ok (.new 66, 3) := by decide +kernel
theorem d_AM_signal_24 : decode b_AM_signal 24 = .ok (.dup, 1) := by decide +kernel
theorem d_AM_signal_25 : decode b_AM_signal 25 = .ok (.ldc 121, 2) := by decide +kernel
theorem d_AM_signal_27 : decode b_AM_signal 27 = .ok (.invokespecial 70, 3) := by decide +kernel
theorem d_AM_signal_30 : decode b_AM_signal 30 = .ok (.athrow, 1) := by decide +kernel
theorem d_AM_signal_31 : decode b_AM_signal 31 = .ok (.aload_n 0, 1) := by decide +kernel
theorem d_AM_signal_32 : decode b_AM_signal 32 = .ok (.getfield 30, 3) := by decide +kernel
theorem d_AM_signal_35 : decode b_AM_signal 35 = .ok (.iload_n 1, 1) := by decide +kernel
theorem d_AM_signal_36 : decode b_AM_signal 36 = .ok (.iload_n 2, 1) := by decide +kernel
theorem d_AM_signal_37 : decode b_AM_signal 37 = .ok (.invokevirtual 123, 3) := by decide +kernel
theorem d_AM_signal_40 : decode b_AM_signal 40 = .ok (.ireturn, 1) := by decide +kernel
def m_AM_signal (F : Nat) (x0 : St) (x1 : St) (n1 : Nat) (a1 : Int32) (a2 : Int32) : Option (Nat × Int32 × St) :=
  (bn1 (m_Points_isPoint F x1 n1 a1) (fun r5 => (if r5 = (0 : Int32) then (some (1, (0 : Int32), x1)) else (bn1 (m_AM_isWithin F a2 (0 : Int32) (100 : Int32)) (fun r15 => (if r15 = (0 : Int32) then (some (1, (0 : Int32), x1)) else (bn2 (m_Points_swapValue F x1 n1 a1 a2) (fun r37 z1_37 => (some (0, r37, z1_37))))))))))
abbrev rm_AM_signal : Room := { frames := 6, cells := 1, slots := 6, locals := 90 }
set_option maxHeartbeats 4000000 in
set_option maxRecDepth 100000 in
theorem c_AM_signal {G : (Nat → Prop) → State → Prop} (hG : gok G) (hGn : gN G) {adK adV : Nat → Nat} (hGs : gSt adK adV G) (hGt : gTh G) (l : Launch) (hst : l.stackTraces = false) (dC : Nat → ClassId) (dI : Nat → Nat → Nat) (g : Nat → ClassId) (F : Nat) (sz : Nat) (h0 : Nat) (q0 : Nat → Nat) (x0 : St) (q1 : Nat → Nat) (x1 : St) (n1 : Nat) (a1 : Int32) (a2 : Int32) {o : Nat × Int32 × St} (hm : m_AM_signal F x0 x1 n1 a1 a2 = some o) : kT l y_AM_signal (.code y_AM_signal b_AM_signal 3 (some .int) :: gw) rm_AM_signal (dC, dI) vwCl (tyv g) G [.ref h0, .int a1, .int a2] (wd_AM g h0 q0 x0 ++ wd_Points g (q0 1) q1 x1 n1) o.1 o.2.1 (wd_AM g h0 q0 x0 ++ wd_Points g (q0 1) q1 (o.2.2) n1) 1 6 sz := by
  unfold m_AM_signal at hm
  refine kmT (cc := b_AM_signal) (maxL := 3) (ret := (some .int)) (by decide) rfl (Nat.le_of_ble_eq_true rfl) ?_
  intro p e s m args below meth c Q hQ hx hb hr hts hown hlocks hml htab H locs A hAe hA hP hK hD hS hGA ls hl
  have hl : lv_has ls 3 [(0, .ref h0), (1, .int a1), (2, .int a2)] := hl
  have hts : ∀ w ∈ gw, w.before args s = true := fun w h => hts w (List.mem_cons_of_mem _ h)
  have hown : s.vm.findClass "AlarmMatrix" = some m.cls := hown
  refine lv_aload_n hx hb d_AM_signal_0 rfl (lv_at hl 0 rfl) ?_
  refine va_get (D := (dC, dI)) (ci := 0) (v := .ref (q0 1)) (C := "AlarmMatrix") (T := T_AM) (N := 7) hx hb hts i_AM hown hK hP 0 rfl rfl 1 (by decide) (hts _ k1_220) (fun _ h9 => h9) rfl d_AM_signal_1 ?_
  refine lv_iload_n hx hb d_AM_signal_4 rfl (lv_at hl 1 rfl) ?_
  obtain ⟨r5, hcl, hm⟩ := bn1_s hm
  refine kci (wc := wd_Points g (q0 1) q1 x1 n1) (wr := wd_AM g h0 q0 x0) (w1 := wd_Points g (q0 1) q1 x1 n1) hP hD hS hA [1, 2, 3, 4, 5, 6] [0] rfl rfl (by decide) (by decide) (va_runV (As := [.int a1]) (rest := []) ⟨hx, hb, hml, hown, hts⟩ (c_Points_isPoint hG hGn l dC dI g F H.size (q0 1) q1 x1 n1 a1 hcl) (cwV 1 hts (gdV k4_16 k4_17 k4_18 k1_3 k4_19) rfl rfl rfl (by decide +kernel) ⟨Nat.le_of_ble_eq_true rfl, Nat.le_of_ble_eq_true rfl⟩) (kpV hG hP hK hD hS hA hGA [1, 2, 3, 4, 5, 6] (by decide) rfl (ci := 7) (q0 := 0) rfl rfl rfl) rfl rfl hl.1 rfl (lv_room (Nat.le_of_ble_eq_true rfl)) d_AM_signal_5 ⟨Nat.le_of_ble_eq_true rfl, Nat.le_of_ble_eq_true rfl⟩) (fun H locs hP hD hS => ?_)
  have hP : va_P (dC, dI) vwCl (wd_AM g h0 q0 x0 ++ wd_Points g (q0 1) q1 x1 n1) H := hP
  have hD : va_D A (wd_AM g h0 q0 x0 ++ wd_Points g (q0 1) q1 x1 n1) := hD
  refine lv_if_eq (tgt := 21) hx hb d_AM_signal_8 (by decide) (fun hc => ?_) (fun hc => ?_)
  · replace hm := if_t hm hc
    obtain rfl := Option.some.inj hm
    rw [hQ]
    exact kThrow (rest := []) hx hb hst hts (hGt A s hGA) (Or.inl ⟨rfl, rfl⟩) fit_IAE hown own_IAE k3_102 k1_14 k3_103 ((hGs A s hGA).2.2.2 29 (by decide)) htab (hl.1.trans hml.symm) hlocks hAe hP hK hD hS (Nat.le_of_ble_eq_true rfl) (Nat.le_of_ble_eq_true rfl) (Nat.le_of_ble_eq_true rfl) (Nat.le_of_ble_eq_true rfl) (Nat.le_of_ble_eq_true rfl) (Nat.le_of_ble_eq_true rfl) d_AM_signal_21 d_AM_signal_24 d_AM_signal_25 d_AM_signal_27 d_AM_signal_30
  · replace hm := if_f hm hc
    refine lv_iload_n hx hb d_AM_signal_11 rfl (lv_at hl 2 rfl) ?_
    refine lv_iconst (v := (0 : Int32)) hx hb d_AM_signal_12 (by decide) ?_
    refine lv_bipush (v := (100 : Int32)) hx hb d_AM_signal_13 (by decide) ?_
    obtain ⟨r15, hcl, hm⟩ := bn1_s hm
    refine kci (wc := ([] : va_W)) (wr := wd_AM g h0 q0 x0 ++ wd_Points g (q0 1) q1 x1 n1) (w1 := ([] : va_W)) hP hD hS hA [] [0, 1, 2, 3, 4, 5, 6] rfl rfl (by decide) (by decide) (va_runS (As := [.int a2, .int (0 : Int32), .int (100 : Int32)]) (rest := []) ⟨hx, hb, hml, hown, hts⟩ (c_AM_isWithin hG hGn l dC dI g F H.size a2 (0 : Int32) (100 : Int32) hcl) (cwS 3 hts (gdS k3_101 k2_153 k1_1 k2_154) rfl rfl rfl (by decide +kernel) ⟨Nat.le_of_ble_eq_true rfl, Nat.le_of_ble_eq_true rfl⟩) (kpS hG hP hK hD hS hA hGA [] (by decide) rfl) rfl rfl hl.1 rfl (lv_room (Nat.le_of_ble_eq_true rfl)) d_AM_signal_15 ⟨Nat.le_of_ble_eq_true rfl, Nat.le_of_ble_eq_true rfl⟩) (fun H locs hP hD hS => ?_)
    have hP : va_P (dC, dI) vwCl (wd_AM g h0 q0 x0 ++ wd_Points g (q0 1) q1 x1 n1) H := hP
    have hD : va_D A (wd_AM g h0 q0 x0 ++ wd_Points g (q0 1) q1 x1 n1) := hD
    refine lv_if_ne (tgt := 31) hx hb d_AM_signal_18 (by decide) (fun hc => ?_) (fun hc => ?_)
    · replace hm := if_f hm hc
      refine lv_aload_n hx hb d_AM_signal_31 rfl (lv_at hl 0 rfl) ?_
      refine va_get (D := (dC, dI)) (ci := 0) (v := .ref (q0 1)) (C := "AlarmMatrix") (T := T_AM) (N := 7) hx hb hts i_AM hown hK hP 0 rfl rfl 1 (by decide) (hts _ k1_220) (fun _ h9 => h9) rfl d_AM_signal_32 ?_
      refine lv_iload_n hx hb d_AM_signal_35 rfl (lv_at hl 1 rfl) ?_
      refine lv_iload_n hx hb d_AM_signal_36 rfl (lv_at hl 2 rfl) ?_
      obtain ⟨r37, z1_37, hcl, hm⟩ := bn2_s hm
      refine kci (wc := wd_Points g (q0 1) q1 x1 n1) (wr := wd_AM g h0 q0 x0) (w1 := wd_Points g (q0 1) q1 z1_37 n1) hP hD hS hA [1, 2, 3, 4, 5, 6] [0] rfl rfl (by decide) (by decide) (va_runV (As := [.int a1, .int a2]) (rest := []) ⟨hx, hb, hml, hown, hts⟩ (c_Points_swapValue hG hGn l dC dI g F H.size (q0 1) q1 x1 n1 a1 a2 hcl) (cwV 2 hts (gdV k4_22 k4_23 k4_24 k1_3 k4_25) rfl rfl rfl (by decide +kernel) ⟨Nat.le_of_ble_eq_true rfl, Nat.le_of_ble_eq_true rfl⟩) (kpV hG hP hK hD hS hA hGA [1, 2, 3, 4, 5, 6] (by decide) rfl (ci := 7) (q0 := 0) rfl rfl rfl) rfl rfl hl.1 rfl (lv_room (Nat.le_of_ble_eq_true rfl)) d_AM_signal_37 ⟨Nat.le_of_ble_eq_true rfl, Nat.le_of_ble_eq_true rfl⟩) (fun H locs hP hD hS => ?_)
      have hP : va_P (dC, dI) vwCl (wd_AM g h0 q0 x0 ++ wd_Points g (q0 1) q1 z1_37 n1) H := hP
      have hD : va_D A (wd_AM g h0 q0 x0 ++ wd_Points g (q0 1) q1 z1_37 n1) := hD
      obtain rfl := Option.some.inj hm
      rw [hQ]
      exact kTi hx hb hr hlocks hAe hP hK hD hS (Nat.zero_le _) (Nat.zero_le _) d_AM_signal_40
    · replace hm := if_t hm hc
      obtain rfl := Option.some.inj hm
      rw [hQ]
      exact kThrow (rest := []) hx hb hst hts (hGt A s hGA) (Or.inl ⟨rfl, rfl⟩) fit_IAE hown own_IAE k3_102 k1_14 k3_103 ((hGs A s hGA).2.2.2 29 (by decide)) htab (hl.1.trans hml.symm) hlocks hAe hP hK hD hS (Nat.le_of_ble_eq_true rfl) (Nat.le_of_ble_eq_true rfl) (Nat.le_of_ble_eq_true rfl) (Nat.le_of_ble_eq_true rfl) (Nat.le_of_ble_eq_true rfl) (Nat.le_of_ble_eq_true rfl) d_AM_signal_21 d_AM_signal_24 d_AM_signal_25 d_AM_signal_27 d_AM_signal_30
abbrev b_AM_fault : ByteArray := prog_1_method_7_code
abbrev y_AM_fault : MethodName := ⟨"AlarmMatrix", "fault", "(IZ)Z"⟩
theorem d_AM_fault_0 : decode b_AM_fault 0 = .ok (.aload_n 0, 1) := by decide +kernel
theorem d_AM_fault_1 : decode b_AM_fault 1 = .ok (.getfield 30, 3) := by decide +kernel
theorem d_AM_fault_4 : decode b_AM_fault 4 = .ok (.iload_n 1, 1) := by decide +kernel
theorem d_AM_fault_5 : decode b_AM_fault 5 = .ok (.invokevirtual 117, 3) := by decide +kernel
theorem d_AM_fault_8 : decode b_AM_fault 8 = .ok (.ifCond .ne 13, 3) := by decide +kernel
theorem d_AM_fault_11 : decode b_AM_fault 11 = .ok (.new 66, 3) := by decide +kernel
theorem d_AM_fault_14 : decode b_AM_fault 14 = .ok (.dup, 1) := by decide +kernel
theorem d_AM_fault_15 : decode b_AM_fault 15 = .ok (.ldc 126, 2) := by decide +kernel
theorem d_AM_fault_17 : decode b_AM_fault 17 = .ok (.invokespecial 70, 3) := by decide +kernel
theorem d_AM_fault_20 : decode b_AM_fault 20 = .ok (.athrow, 1) := by decide +kernel
theorem d_AM_fault_21 : decode b_AM_fault 21 = .ok (.aload_n 0, 1) := by decide +kernel
theorem d_AM_fault_22 : decode b_AM_fault 22 = .ok (.getfield 30, 3) := by decide +kernel
theorem d_AM_fault_25 : decode b_AM_fault 25 = .ok (.iload_n 1, 1) := by decide +kernel
theorem d_AM_fault_26 : decode b_AM_fault 26 = .ok (.iload_n 2, 1) := by decide +kernel
theorem d_AM_fault_27 : decode b_AM_fault 27 = .ok (.invokevirtual 128, 3) := by decide +kernel
theorem d_AM_fault_30 : decode b_AM_fault 30 = .ok (.ireturn, 1) := by decide +kernel
def m_AM_fault (F : Nat) (x0 : St) (x1 : St) (n1 : Nat) (a1 : Int32) (a2 : Int32) : Option (Nat × Int32 × St) :=
  (bn1 (m_Points_isPoint F x1 n1 a1) (fun r5 => (if r5 = (0 : Int32) then (some (1, (0 : Int32), x1)) else (bn2 (m_Points_swapFaulty F x1 n1 a1 a2) (fun r27 z1_27 => (ckb r27 (some (0, r27, z1_27))))))))
abbrev rm_AM_fault : Room := { frames := 6, cells := 1, slots := 6, locals := 90 }
set_option maxHeartbeats 4000000 in
set_option maxRecDepth 100000 in
theorem c_AM_fault {G : (Nat → Prop) → State → Prop} (hG : gok G) (hGn : gN G) {adK adV : Nat → Nat} (hGs : gSt adK adV G) (hGt : gTh G) (l : Launch) (hst : l.stackTraces = false) (dC : Nat → ClassId) (dI : Nat → Nat → Nat) (g : Nat → ClassId) (F : Nat) (sz : Nat) (h0 : Nat) (q0 : Nat → Nat) (x0 : St) (q1 : Nat → Nat) (x1 : St) (n1 : Nat) (a1 : Int32) (a2 : Int32) {o : Nat × Int32 × St} (hm : m_AM_fault F x0 x1 n1 a1 a2 = some o) : kT l y_AM_fault (.code y_AM_fault b_AM_fault 3 (some .boolean) :: gw) rm_AM_fault (dC, dI) vwCl (tyv g) G [.ref h0, .int a1, .int a2] (wd_AM g h0 q0 x0 ++ wd_Points g (q0 1) q1 x1 n1) o.1 o.2.1 (wd_AM g h0 q0 x0 ++ wd_Points g (q0 1) q1 (o.2.2) n1) 1 6 sz := by
  unfold m_AM_fault at hm
  refine kmT (cc := b_AM_fault) (maxL := 3) (ret := (some .boolean)) (by decide) rfl (Nat.le_of_ble_eq_true rfl) ?_
  intro p e s m args below meth c Q hQ hx hb hr hts hown hlocks hml htab H locs A hAe hA hP hK hD hS hGA ls hl
  have hl : lv_has ls 3 [(0, .ref h0), (1, .int a1), (2, .int a2)] := hl
  have hts : ∀ w ∈ gw, w.before args s = true := fun w h => hts w (List.mem_cons_of_mem _ h)
  have hown : s.vm.findClass "AlarmMatrix" = some m.cls := hown
  refine lv_aload_n hx hb d_AM_fault_0 rfl (lv_at hl 0 rfl) ?_
  refine va_get (D := (dC, dI)) (ci := 0) (v := .ref (q0 1)) (C := "AlarmMatrix") (T := T_AM) (N := 7) hx hb hts i_AM hown hK hP 0 rfl rfl 1 (by decide) (hts _ k1_220) (fun _ h9 => h9) rfl d_AM_fault_1 ?_
  refine lv_iload_n hx hb d_AM_fault_4 rfl (lv_at hl 1 rfl) ?_
  obtain ⟨r5, hcl, hm⟩ := bn1_s hm
  refine kci (wc := wd_Points g (q0 1) q1 x1 n1) (wr := wd_AM g h0 q0 x0) (w1 := wd_Points g (q0 1) q1 x1 n1) hP hD hS hA [1, 2, 3, 4, 5, 6] [0] rfl rfl (by decide) (by decide) (va_runV (As := [.int a1]) (rest := []) ⟨hx, hb, hml, hown, hts⟩ (c_Points_isPoint hG hGn l dC dI g F H.size (q0 1) q1 x1 n1 a1 hcl) (cwV 1 hts (gdV k4_16 k4_17 k4_18 k1_3 k4_19) rfl rfl rfl (by decide +kernel) ⟨Nat.le_of_ble_eq_true rfl, Nat.le_of_ble_eq_true rfl⟩) (kpV hG hP hK hD hS hA hGA [1, 2, 3, 4, 5, 6] (by decide) rfl (ci := 7) (q0 := 0) rfl rfl rfl) rfl rfl hl.1 rfl (lv_room (Nat.le_of_ble_eq_true rfl)) d_AM_fault_5 ⟨Nat.le_of_ble_eq_true rfl, Nat.le_of_ble_eq_true rfl⟩) (fun H locs hP hD hS => ?_)
  have hP : va_P (dC, dI) vwCl (wd_AM g h0 q0 x0 ++ wd_Points g (q0 1) q1 x1 n1) H := hP
  have hD : va_D A (wd_AM g h0 q0 x0 ++ wd_Points g (q0 1) q1 x1 n1) := hD
  refine lv_if_ne (tgt := 21) hx hb d_AM_fault_8 (by decide) (fun hc => ?_) (fun hc => ?_)
  · replace hm := if_f hm hc
    refine lv_aload_n hx hb d_AM_fault_21 rfl (lv_at hl 0 rfl) ?_
    refine va_get (D := (dC, dI)) (ci := 0) (v := .ref (q0 1)) (C := "AlarmMatrix") (T := T_AM) (N := 7) hx hb hts i_AM hown hK hP 0 rfl rfl 1 (by decide) (hts _ k1_220) (fun _ h9 => h9) rfl d_AM_fault_22 ?_
    refine lv_iload_n hx hb d_AM_fault_25 rfl (lv_at hl 1 rfl) ?_
    refine lv_iload_n hx hb d_AM_fault_26 rfl (lv_at hl 2 rfl) ?_
    obtain ⟨r27, z1_27, hcl, hm⟩ := bn2_s hm
    refine kci (wc := wd_Points g (q0 1) q1 x1 n1) (wr := wd_AM g h0 q0 x0) (w1 := wd_Points g (q0 1) q1 z1_27 n1) hP hD hS hA [1, 2, 3, 4, 5, 6] [0] rfl rfl (by decide) (by decide) (va_runV (As := [.int a1, .int a2]) (rest := []) ⟨hx, hb, hml, hown, hts⟩ (c_Points_swapFaulty hG hGn l dC dI g F H.size (q0 1) q1 x1 n1 a1 a2 hcl) (cwV 2 hts (gdV k4_34 k4_35 k4_36 k1_3 k4_37) rfl rfl rfl (by decide +kernel) ⟨Nat.le_of_ble_eq_true rfl, Nat.le_of_ble_eq_true rfl⟩) (kpV hG hP hK hD hS hA hGA [1, 2, 3, 4, 5, 6] (by decide) rfl (ci := 7) (q0 := 0) rfl rfl rfl) rfl rfl hl.1 rfl (lv_room (Nat.le_of_ble_eq_true rfl)) d_AM_fault_27 ⟨Nat.le_of_ble_eq_true rfl, Nat.le_of_ble_eq_true rfl⟩) (fun H locs hP hD hS => ?_)
    have hP : va_P (dC, dI) vwCl (wd_AM g h0 q0 x0 ++ wd_Points g (q0 1) q1 z1_27 n1) H := hP
    have hD : va_D A (wd_AM g h0 q0 x0 ++ wd_Points g (q0 1) q1 z1_27 n1) := hD
    obtain ⟨hz, hm⟩ := ckb_s hm
    obtain rfl := Option.some.inj hm
    rw [hQ]
    exact kTz hx hb hr hz hlocks hAe hP hK hD hS (Nat.zero_le _) (Nat.zero_le _) d_AM_fault_30
  · replace hm := if_t hm hc
    obtain rfl := Option.some.inj hm
    rw [hQ]
    exact kThrow (rest := []) hx hb hst hts (hGt A s hGA) (Or.inl ⟨rfl, rfl⟩) fit_IAE hown own_IAE k3_102 k1_14 k3_103 ((hGs A s hGA).2.2.2 30 (by decide)) htab (hl.1.trans hml.symm) hlocks hAe hP hK hD hS (Nat.le_of_ble_eq_true rfl) (Nat.le_of_ble_eq_true rfl) (Nat.le_of_ble_eq_true rfl) (Nat.le_of_ble_eq_true rfl) (Nat.le_of_ble_eq_true rfl) (Nat.le_of_ble_eq_true rfl) d_AM_fault_11 d_AM_fault_14 d_AM_fault_15 d_AM_fault_17 d_AM_fault_20
abbrev b_AM_disable : ByteArray := prog_1_method_8_code
abbrev y_AM_disable : MethodName := ⟨"AlarmMatrix", "disable", "(II)I"⟩
theorem d_AM_disable_0 : decode b_AM_disable 0 = .ok (.aload_n 0, 1) := by decide +kernel
theorem d_AM_disable_1 : decode b_AM_disable 1 = .ok (.getfield 30, 3) := by decide +kernel
theorem d_AM_disable_4 : decode b_AM_disable 4 = .ok (.iload_n 1, 1) := by decide +kernel
theorem d_AM_disable_5 : decode b_AM_disable 5 = .ok (.invokevirtual 117, 3) := by decide +kernel
theorem d_AM_disable_8 : decode b_AM_disable 8 = .ok (.ifCond .eq 13, 3) := by decide +kernel
theorem d_AM_disable_11 : decode b_AM_disable 11 = .ok (.iload_n 2, 1) := by decide +kernel
theorem d_AM_disable_12 : decode b_AM_disable 12 = .ok (.iconst 0, 1) := by decide +kernel
theorem d_AM_disable_13 : decode b_AM_disable 13 = .ok (.ldc 132, 2) := by decide +kernel
theorem d_AM_disable_15 : decode b_AM_disable 15 = .ok (.invokestatic 62, 3) := by decide +kernel
theorem d_AM_disable_18 : decode b_AM_disable 18 = .ok (.ifCond .ne 13, 3) := by decide +kernel
theorem d_AM_disable_21 : decode b_AM_disable 21 = .ok (.new 66, 3) := by decide +kernel
theorem d_AM_disable_24 : decode b_AM_disable 24 = .ok (.dup, 1) := by decide +kernel
theorem d_AM_disable_25 : decode b_AM_disable 25 = .ok (.ldc 133, 2) := by decide +kernel
theorem d_AM_disable_27 : decode b_AM_disable 27 = .ok (.invokespecial 70, 3) := by decide +kernel
theorem d_AM_disable_30 : decode b_AM_disable 30 = .ok (.athrow, 1) := by decide +kernel
theorem d_AM_disable_31 : decode b_AM_disable 31 = .ok (.aload_n 0, 1) := by decide +kernel
theorem d_AM_disable_32 : decode b_AM_disable 32 = .ok (.getfield 30, 3) := by decide +kernel
theorem d_AM_disable_35 : decode b_AM_disable 35 = .ok (.iload_n 1, 1) := by decide +kernel
theorem d_AM_disable_36 : decode b_AM_disable 36 = .ok (.iload_n 2, 1) := by decide +kernel
theorem d_AM_disable_37 : decode b_AM_disable 37 = .ok (.invokevirtual 135, 3) := by decide +kernel
theorem d_AM_disable_40 : decode b_AM_disable 40 = .ok (.ireturn, 1) := by decide +kernel
def m_AM_disable (F : Nat) (x0 : St) (x1 : St) (n1 : Nat) (a1 : Int32) (a2 : Int32) : Option (Nat × Int32 × St) :=
  (bn1 (m_Points_isPoint F x1 n1 a1) (fun r5 => (if r5 = (0 : Int32) then (some (1, (0 : Int32), x1)) else (bn1 (m_AM_isWithin F a2 (0 : Int32) (1000000 : Int32)) (fun r15 => (if r15 = (0 : Int32) then (some (1, (0 : Int32), x1)) else (bn2 (m_Points_swapUntil F x1 n1 a1 a2) (fun r37 z1_37 => (some (0, r37, z1_37))))))))))
abbrev rm_AM_disable : Room := { frames := 6, cells := 1, slots := 6, locals := 90 }
set_option maxHeartbeats 4000000 in
set_option maxRecDepth 100000 in
theorem c_AM_disable {G : (Nat → Prop) → State → Prop} (hG : gok G) (hGn : gN G) {adK adV : Nat → Nat} (hGs : gSt adK adV G) (hGt : gTh G) (l : Launch) (hst : l.stackTraces = false) (dC : Nat → ClassId) (dI : Nat → Nat → Nat) (g : Nat → ClassId) (F : Nat) (sz : Nat) (h0 : Nat) (q0 : Nat → Nat) (x0 : St) (q1 : Nat → Nat) (x1 : St) (n1 : Nat) (a1 : Int32) (a2 : Int32) {o : Nat × Int32 × St} (hm : m_AM_disable F x0 x1 n1 a1 a2 = some o) : kT l y_AM_disable (.code y_AM_disable b_AM_disable 3 (some .int) :: gw) rm_AM_disable (dC, dI) vwCl (tyv g) G [.ref h0, .int a1, .int a2] (wd_AM g h0 q0 x0 ++ wd_Points g (q0 1) q1 x1 n1) o.1 o.2.1 (wd_AM g h0 q0 x0 ++ wd_Points g (q0 1) q1 (o.2.2) n1) 1 6 sz := by
  unfold m_AM_disable at hm
  refine kmT (cc := b_AM_disable) (maxL := 3) (ret := (some .int)) (by decide) rfl (Nat.le_of_ble_eq_true rfl) ?_
  intro p e s m args below meth c Q hQ hx hb hr hts hown hlocks hml htab H locs A hAe hA hP hK hD hS hGA ls hl
  have hl : lv_has ls 3 [(0, .ref h0), (1, .int a1), (2, .int a2)] := hl
  have hts : ∀ w ∈ gw, w.before args s = true := fun w h => hts w (List.mem_cons_of_mem _ h)
  have hown : s.vm.findClass "AlarmMatrix" = some m.cls := hown
  refine lv_aload_n hx hb d_AM_disable_0 rfl (lv_at hl 0 rfl) ?_
  refine va_get (D := (dC, dI)) (ci := 0) (v := .ref (q0 1)) (C := "AlarmMatrix") (T := T_AM) (N := 7) hx hb hts i_AM hown hK hP 0 rfl rfl 1 (by decide) (hts _ k1_220) (fun _ h9 => h9) rfl d_AM_disable_1 ?_
  refine lv_iload_n hx hb d_AM_disable_4 rfl (lv_at hl 1 rfl) ?_
  obtain ⟨r5, hcl, hm⟩ := bn1_s hm
  refine kci (wc := wd_Points g (q0 1) q1 x1 n1) (wr := wd_AM g h0 q0 x0) (w1 := wd_Points g (q0 1) q1 x1 n1) hP hD hS hA [1, 2, 3, 4, 5, 6] [0] rfl rfl (by decide) (by decide) (va_runV (As := [.int a1]) (rest := []) ⟨hx, hb, hml, hown, hts⟩ (c_Points_isPoint hG hGn l dC dI g F H.size (q0 1) q1 x1 n1 a1 hcl) (cwV 1 hts (gdV k4_16 k4_17 k4_18 k1_3 k4_19) rfl rfl rfl (by decide +kernel) ⟨Nat.le_of_ble_eq_true rfl, Nat.le_of_ble_eq_true rfl⟩) (kpV hG hP hK hD hS hA hGA [1, 2, 3, 4, 5, 6] (by decide) rfl (ci := 7) (q0 := 0) rfl rfl rfl) rfl rfl hl.1 rfl (lv_room (Nat.le_of_ble_eq_true rfl)) d_AM_disable_5 ⟨Nat.le_of_ble_eq_true rfl, Nat.le_of_ble_eq_true rfl⟩) (fun H locs hP hD hS => ?_)
  have hP : va_P (dC, dI) vwCl (wd_AM g h0 q0 x0 ++ wd_Points g (q0 1) q1 x1 n1) H := hP
  have hD : va_D A (wd_AM g h0 q0 x0 ++ wd_Points g (q0 1) q1 x1 n1) := hD
  refine lv_if_eq (tgt := 21) hx hb d_AM_disable_8 (by decide) (fun hc => ?_) (fun hc => ?_)
  · replace hm := if_t hm hc
    obtain rfl := Option.some.inj hm
    rw [hQ]
    exact kThrow (rest := []) hx hb hst hts (hGt A s hGA) (Or.inl ⟨rfl, rfl⟩) fit_IAE hown own_IAE k3_102 k1_14 k3_103 ((hGs A s hGA).2.2.2 31 (by decide)) htab (hl.1.trans hml.symm) hlocks hAe hP hK hD hS (Nat.le_of_ble_eq_true rfl) (Nat.le_of_ble_eq_true rfl) (Nat.le_of_ble_eq_true rfl) (Nat.le_of_ble_eq_true rfl) (Nat.le_of_ble_eq_true rfl) (Nat.le_of_ble_eq_true rfl) d_AM_disable_21 d_AM_disable_24 d_AM_disable_25 d_AM_disable_27 d_AM_disable_30
  · replace hm := if_f hm hc
    refine lv_iload_n hx hb d_AM_disable_11 rfl (lv_at hl 2 rfl) ?_
    refine lv_iconst (v := (0 : Int32)) hx hb d_AM_disable_12 (by decide) ?_
    refine lv_ldc (v := (1000000 : Int32)) hx hb hown (hts _ k4_45) d_AM_disable_13 ?_
    obtain ⟨r15, hcl, hm⟩ := bn1_s hm
    refine kci (wc := ([] : va_W)) (wr := wd_AM g h0 q0 x0 ++ wd_Points g (q0 1) q1 x1 n1) (w1 := ([] : va_W)) hP hD hS hA [] [0, 1, 2, 3, 4, 5, 6] rfl rfl (by decide) (by decide) (va_runS (As := [.int a2, .int (0 : Int32), .int (1000000 : Int32)]) (rest := []) ⟨hx, hb, hml, hown, hts⟩ (c_AM_isWithin hG hGn l dC dI g F H.size a2 (0 : Int32) (1000000 : Int32) hcl) (cwS 3 hts (gdS k3_101 k2_153 k1_1 k2_154) rfl rfl rfl (by decide +kernel) ⟨Nat.le_of_ble_eq_true rfl, Nat.le_of_ble_eq_true rfl⟩) (kpS hG hP hK hD hS hA hGA [] (by decide) rfl) rfl rfl hl.1 rfl (lv_room (Nat.le_of_ble_eq_true rfl)) d_AM_disable_15 ⟨Nat.le_of_ble_eq_true rfl, Nat.le_of_ble_eq_true rfl⟩) (fun H locs hP hD hS => ?_)
    have hP : va_P (dC, dI) vwCl (wd_AM g h0 q0 x0 ++ wd_Points g (q0 1) q1 x1 n1) H := hP
    have hD : va_D A (wd_AM g h0 q0 x0 ++ wd_Points g (q0 1) q1 x1 n1) := hD
    refine lv_if_ne (tgt := 31) hx hb d_AM_disable_18 (by decide) (fun hc => ?_) (fun hc => ?_)
    · replace hm := if_f hm hc
      refine lv_aload_n hx hb d_AM_disable_31 rfl (lv_at hl 0 rfl) ?_
      refine va_get (D := (dC, dI)) (ci := 0) (v := .ref (q0 1)) (C := "AlarmMatrix") (T := T_AM) (N := 7) hx hb hts i_AM hown hK hP 0 rfl rfl 1 (by decide) (hts _ k1_220) (fun _ h9 => h9) rfl d_AM_disable_32 ?_
      refine lv_iload_n hx hb d_AM_disable_35 rfl (lv_at hl 1 rfl) ?_
      refine lv_iload_n hx hb d_AM_disable_36 rfl (lv_at hl 2 rfl) ?_
      obtain ⟨r37, z1_37, hcl, hm⟩ := bn2_s hm
      refine kci (wc := wd_Points g (q0 1) q1 x1 n1) (wr := wd_AM g h0 q0 x0) (w1 := wd_Points g (q0 1) q1 z1_37 n1) hP hD hS hA [1, 2, 3, 4, 5, 6] [0] rfl rfl (by decide) (by decide) (va_runV (As := [.int a1, .int a2]) (rest := []) ⟨hx, hb, hml, hown, hts⟩ (c_Points_swapUntil hG hGn l dC dI g F H.size (q0 1) q1 x1 n1 a1 a2 hcl) (cwV 2 hts (gdV k4_47 k4_48 k4_49 k1_3 k4_50) rfl rfl rfl (by decide +kernel) ⟨Nat.le_of_ble_eq_true rfl, Nat.le_of_ble_eq_true rfl⟩) (kpV hG hP hK hD hS hA hGA [1, 2, 3, 4, 5, 6] (by decide) rfl (ci := 7) (q0 := 0) rfl rfl rfl) rfl rfl hl.1 rfl (lv_room (Nat.le_of_ble_eq_true rfl)) d_AM_disable_37 ⟨Nat.le_of_ble_eq_true rfl, Nat.le_of_ble_eq_true rfl⟩) (fun H locs hP hD hS => ?_)
      have hP : va_P (dC, dI) vwCl (wd_AM g h0 q0 x0 ++ wd_Points g (q0 1) q1 z1_37 n1) H := hP
      have hD : va_D A (wd_AM g h0 q0 x0 ++ wd_Points g (q0 1) q1 z1_37 n1) := hD
      obtain rfl := Option.some.inj hm
      rw [hQ]
      exact kTi hx hb hr hlocks hAe hP hK hD hS (Nat.zero_le _) (Nat.zero_le _) d_AM_disable_40
    · replace hm := if_t hm hc
      obtain rfl := Option.some.inj hm
      rw [hQ]
      exact kThrow (rest := []) hx hb hst hts (hGt A s hGA) (Or.inl ⟨rfl, rfl⟩) fit_IAE hown own_IAE k3_102 k1_14 k3_103 ((hGs A s hGA).2.2.2 31 (by decide)) htab (hl.1.trans hml.symm) hlocks hAe hP hK hD hS (Nat.le_of_ble_eq_true rfl) (Nat.le_of_ble_eq_true rfl) (Nat.le_of_ble_eq_true rfl) (Nat.le_of_ble_eq_true rfl) (Nat.le_of_ble_eq_true rfl) (Nat.le_of_ble_eq_true rfl) d_AM_disable_21 d_AM_disable_24 d_AM_disable_25 d_AM_disable_27 d_AM_disable_30
abbrev b_AM_loop : ByteArray := prog_1_method_9_code
abbrev y_AM_loop : MethodName := ⟨"AlarmMatrix", "loop", "(II)I"⟩
theorem d_AM_loop_0 : decode b_AM_loop 0 = .ok (.iload_n 1, 1) := by decide +kernel
theorem d_AM_loop_1 : decode b_AM_loop 1 = .ok (.invokestatic 138, 3) := by decide +kernel
theorem d_AM_loop_4 : decode b_AM_loop 4 = .ok (.ifCond .eq 14, 3) := by decide +kernel
theorem d_AM_loop_7 : decode b_AM_loop 7 = .ok (.aload_n 0, 1) := by decide +kernel
theorem d_AM_loop_8 : decode b_AM_loop 8 = .ok (.getfield 30, 3) := by decide +kernel
theorem d_AM_loop_11 : decode b_AM_loop 11 = .ok (.iload_n 2, 1) := by decide +kernel
theorem d_AM_loop_12 : decode b_AM_loop 12 = .ok (.invokevirtual 117, 3) := by decide +kernel
theorem d_AM_loop_15 : decode b_AM_loop 15 = .ok (.ifCond .ne 13, 3) := by decide +kernel
theorem d_AM_loop_18 : decode b_AM_loop 18 = .ok (.new 66, 3) := by decide +kernel
theorem d_AM_loop_21 : decode b_AM_loop 21 = .ok (.dup, 1) := by decide +kernel
theorem d_AM_loop_22 : decode b_AM_loop 22 = .ok (.ldc 141, 2) := by decide +kernel
theorem d_AM_loop_24 : decode b_AM_loop 24 = .ok (.invokespecial 70, 3) := by decide +kernel
theorem d_AM_loop_27 : decode b_AM_loop 27 = .ok (.athrow, 1) := by decide +kernel
theorem d_AM_loop_28 : decode b_AM_loop 28 = .ok (.aload_n 0, 1) := by decide +kernel
theorem d_AM_loop_29 : decode b_AM_loop 29 = .ok (.getfield 30, 3) := by decide +kernel
theorem d_AM_loop_32 : decode b_AM_loop 32 = .ok (.iload_n 2, 1) := by decide +kernel
theorem d_AM_loop_33 : decode b_AM_loop 33 = .ok (.invokevirtual 143, 3) := by decide +kernel
theorem d_AM_loop_36 : decode b_AM_loop 36 = .ok (.ifCond .ne 15, 3) := by decide +kernel
theorem d_AM_loop_39 : decode b_AM_loop 39 = .ok (.aload_n 0, 1) := by decide +kernel
theorem d_AM_loop_40 : decode b_AM_loop 40 = .ok (.getfield 36, 3) := by decide +kernel
theorem d_AM_loop_43 : decode b_AM_loop 43 = .ok (.iload_n 1, 1) := by decide +kernel
theorem d_AM_loop_44 : decode b_AM_loop 44 = .ok (.aaload, 1) := by decide +kernel
theorem d_AM_loop_45 : decode b_AM_loop 45 = .ok (.invokevirtual 146, 3) := by decide +kernel
theorem d_AM_loop_48 : decode b_AM_loop 48 = .ok (.ifCond .eq 13, 3) := by decide +kernel
theorem d_AM_loop_51 : decode b_AM_loop 51 = .ok (.new 77, 3) := by decide +kernel
theorem d_AM_loop_54 : decode b_AM_loop 54 = .ok (.dup, 1) := by decide +kernel
theorem d_AM_loop_55 : decode b_AM_loop 55 = .ok (.ldc 150, 2) := by decide +kernel
theorem d_AM_loop_57 : decode b_AM_loop 57 = .ok (.invokespecial 81, 3) := by decide +kernel
theorem d_AM_loop_60 : decode b_AM_loop 60 = .ok (.athrow, 1) := by decide +kernel
theorem d_AM_loop_61 : decode b_AM_loop 61 = .ok (.aload_n 0, 1) := by decide +kernel
theorem d_AM_loop_62 : decode b_AM_loop 62 = .ok (.getfield 36, 3) := by decide +kernel
theorem d_AM_loop_65 : decode b_AM_loop 65 = .ok (.iload_n 1, 1) := by decide +kernel
theorem d_AM_loop_66 : decode b_AM_loop 66 = .ok (.aaload, 1) := by decide +kernel
theorem d_AM_loop_67 : decode b_AM_loop 67 = .ok (.iload_n 2, 1) := by decide +kernel
theorem d_AM_loop_68 : decode b_AM_loop 68 = .ok (.invokevirtual 152, 3) := by decide +kernel
theorem d_AM_loop_71 : decode b_AM_loop 71 = .ok (.aload_n 0, 1) := by decide +kernel
theorem d_AM_loop_72 : decode b_AM_loop 72 = .ok (.getfield 30, 3) := by decide +kernel
theorem d_AM_loop_75 : decode b_AM_loop 75 = .ok (.iload_n 2, 1) := by decide +kernel
theorem d_AM_loop_76 : decode b_AM_loop 76 = .ok (.invokevirtual 155, 3) := by decide +kernel
theorem d_AM_loop_79 : decode b_AM_loop 79 = .ok (.aload_n 0, 1) := by decide +kernel
theorem d_AM_loop_80 : decode b_AM_loop 80 = .ok (.getfield 36, 3) := by decide +kernel
theorem d_AM_loop_83 : decode b_AM_loop 83 = .ok (.iload_n 1, 1) := by decide +kernel
theorem d_AM_loop_84 : decode b_AM_loop 84 = .ok (.aaload, 1) := by decide +kernel
theorem d_AM_loop_85 : decode b_AM_loop 85 = .ok (.invokevirtual 158, 3) := by decide +kernel
theorem d_AM_loop_88 : decode b_AM_loop 88 = .ok (.ireturn, 1) := by decide +kernel
def m_AM_loop (F : Nat) (x0 : St) (x2 : St) (x3 : St) (n3 : Nat) (j : Nat) (a2 : Int32) : Option (Nat × Int32 × St × St) :=
  (bn1 (m_AM_isLoop F (nI j)) (fun r1 => (if r1 = (0 : Int32) then (some (1, (0 : Int32), x2, x3)) else (bn1 (m_Points_isPoint F x3 n3 a2) (fun r12 => (if r12 = (0 : Int32) then (some (1, (0 : Int32), x2, x3)) else (bn1 (m_Points_isInLoop F x3 n3 a2) (fun r33 => (if r33 = (0 : Int32) then (ck (nI j) 8 (bn1 (m_Loop_isFull F x2) (fun r45 => (if r45 = (0 : Int32) then (ck (nI j) 8 (bn1 (m_Loop_add F x2 a2) (fun z2_68 => (bn1 (m_Points_putInLoop F x3 n3 a2) (fun z3_76 => (ck (nI j) 8 (bn1 (m_Loop_size F z2_68) (fun r85 => (some (0, r85, z2_68, z3_76)))))))))) else (some (2, (0 : Int32), x2, x3)))))) else (some (2, (0 : Int32), x2, x3)))))))))))
abbrev rm_AM_loop : Room := { frames := 6, cells := 1, slots := 6, locals := 90 }
set_option maxHeartbeats 4000000 in
set_option maxRecDepth 100000 in
theorem c_AM_loop {G : (Nat → Prop) → State → Prop} (hG : gok G) (hGn : gN G) {adK adV : Nat → Nat} (hGs : gSt adK adV G) (hGt : gTh G) (l : Launch) (hst : l.stackTraces = false) (dC : Nat → ClassId) (dI : Nat → Nat → Nat) (g : Nat → ClassId) (F : Nat) (sz : Nat) (h0 : Nat) (q0 : Nat → Nat) (x0 : St) (ql : Nat → Nat) (q2 : Nat → Nat) (x2 : St) (q3 : Nat → Nat) (x3 : St) (n3 : Nat) (j : Nat) (hj : j < 8) (a2 : Int32) {o : Nat × Int32 × St × St} (hm : m_AM_loop F x0 x2 x3 n3 j a2 = some o) : kT l y_AM_loop (.code y_AM_loop b_AM_loop 3 (some .int) :: gw) rm_AM_loop (dC, dI) vwCl (tyv g) G [.ref h0, .int (nI j), .int a2] (wd_AM g h0 q0 x0 ++ wd_LA g (q0 2) ql ++ wd_Loop g (ql j) q2 x2 ++ wd_Points g (q0 1) q3 x3 n3) o.1 o.2.1 (wd_AM g h0 q0 x0 ++ wd_LA g (q0 2) ql ++ wd_Loop g (ql j) q2 (o.2.2.1) ++ wd_Points g (q0 1) q3 (o.2.2.2) n3) 1 6 sz := by
  unfold m_AM_loop at hm
  refine kmT (cc := b_AM_loop) (maxL := 3) (ret := (some .int)) (by decide) rfl (Nat.le_of_ble_eq_true rfl) ?_
  intro p e s m args below meth c Q hQ hx hb hr hts hown hlocks hml htab H locs A hAe hA hP hK hD hS hGA ls hl
  have hl : lv_has ls 3 [(0, .ref h0), (1, .int (nI j)), (2, .int a2)] := hl
  have hts : ∀ w ∈ gw, w.before args s = true := fun w h => hts w (List.mem_cons_of_mem _ h)
  have hown : s.vm.findClass "AlarmMatrix" = some m.cls := hown
  refine lv_iload_n hx hb d_AM_loop_0 rfl (lv_at hl 1 rfl) ?_
  obtain ⟨r1, hcl, hm⟩ := bn1_s hm
  refine kci (wc := ([] : va_W)) (wr := wd_AM g h0 q0 x0 ++ wd_LA g (q0 2) ql ++ wd_Loop g (ql j) q2 x2 ++ wd_Points g (q0 1) q3 x3 n3) (w1 := ([] : va_W)) hP hD hS hA [] [0, 1, 2, 3, 4, 5, 6, 7, 8, 9, 10] rfl rfl (by decide) (by decide) (va_runS (As := [.int (nI j)]) (rest := []) ⟨hx, hb, hml, hown, hts⟩ (c_AM_isLoop hG hGn l dC dI g F H.size (nI j) hcl) (cwS 1 hts (gdS k4_58 k4_59 k1_1 k4_60) rfl rfl rfl (by decide +kernel) ⟨Nat.le_of_ble_eq_true rfl, Nat.le_of_ble_eq_true rfl⟩) (kpS hG hP hK hD hS hA hGA [] (by decide) rfl) rfl rfl hl.1 rfl (lv_room (Nat.le_of_ble_eq_true rfl)) d_AM_loop_1 ⟨Nat.le_of_ble_eq_true rfl, Nat.le_of_ble_eq_true rfl⟩) (fun H locs hP hD hS => ?_)
  have hP : va_P (dC, dI) vwCl (wd_AM g h0 q0 x0 ++ wd_LA g (q0 2) ql ++ wd_Loop g (ql j) q2 x2 ++ wd_Points g (q0 1) q3 x3 n3) H := hP
  have hD : va_D A (wd_AM g h0 q0 x0 ++ wd_LA g (q0 2) ql ++ wd_Loop g (ql j) q2 x2 ++ wd_Points g (q0 1) q3 x3 n3) := hD
  refine lv_if_eq (tgt := 18) hx hb d_AM_loop_4 (by decide) (fun hc => ?_) (fun hc => ?_)
  · replace hm := if_t hm hc
    obtain rfl := Option.some.inj hm
    rw [hQ]
    exact kThrow (rest := []) hx hb hst hts (hGt A s hGA) (Or.inl ⟨rfl, rfl⟩) fit_IAE hown own_IAE k3_102 k1_14 k3_103 ((hGs A s hGA).2.2.2 32 (by decide)) htab (hl.1.trans hml.symm) hlocks hAe hP hK hD hS (Nat.le_of_ble_eq_true rfl) (Nat.le_of_ble_eq_true rfl) (Nat.le_of_ble_eq_true rfl) (Nat.le_of_ble_eq_true rfl) (Nat.le_of_ble_eq_true rfl) (Nat.le_of_ble_eq_true rfl) d_AM_loop_18 d_AM_loop_21 d_AM_loop_22 d_AM_loop_24 d_AM_loop_27
  · replace hm := if_f hm hc
    refine lv_aload_n hx hb d_AM_loop_7 rfl (lv_at hl 0 rfl) ?_
    refine va_get (D := (dC, dI)) (ci := 0) (v := .ref (q0 1)) (C := "AlarmMatrix") (T := T_AM) (N := 7) hx hb hts i_AM hown hK hP 0 rfl rfl 1 (by decide) (hts _ k1_220) (fun _ h9 => h9) rfl d_AM_loop_8 ?_
    refine lv_iload_n hx hb d_AM_loop_11 rfl (lv_at hl 2 rfl) ?_
    obtain ⟨r12, hcl, hm⟩ := bn1_s hm
    refine kci (wc := wd_Points g (q0 1) q3 x3 n3) (wr := wd_AM g h0 q0 x0 ++ wd_LA g (q0 2) ql ++ wd_Loop g (ql j) q2 x2) (w1 := wd_Points g (q0 1) q3 x3 n3) hP hD hS hA [5, 6, 7, 8, 9, 10] [0, 1, 2, 3, 4] rfl rfl (by decide) (by decide) (va_runV (As := [.int a2]) (rest := []) ⟨hx, hb, hml, hown, hts⟩ (c_Points_isPoint hG hGn l dC dI g F H.size (q0 1) q3 x3 n3 a2 hcl) (cwV 1 hts (gdV k4_16 k4_17 k4_18 k1_3 k4_19) rfl rfl rfl (by decide +kernel) ⟨Nat.le_of_ble_eq_true rfl, Nat.le_of_ble_eq_true rfl⟩) (kpV hG hP hK hD hS hA hGA [5, 6, 7, 8, 9, 10] (by decide) rfl (ci := 7) (q0 := 0) rfl rfl rfl) rfl rfl hl.1 rfl (lv_room (Nat.le_of_ble_eq_true rfl)) d_AM_loop_12 ⟨Nat.le_of_ble_eq_true rfl, Nat.le_of_ble_eq_true rfl⟩) (fun H locs hP hD hS => ?_)
    have hP : va_P (dC, dI) vwCl (wd_AM g h0 q0 x0 ++ wd_LA g (q0 2) ql ++ wd_Loop g (ql j) q2 x2 ++ wd_Points g (q0 1) q3 x3 n3) H := hP
    have hD : va_D A (wd_AM g h0 q0 x0 ++ wd_LA g (q0 2) ql ++ wd_Loop g (ql j) q2 x2 ++ wd_Points g (q0 1) q3 x3 n3) := hD
    refine lv_if_ne (tgt := 28) hx hb d_AM_loop_15 (by decide) (fun hc => ?_) (fun hc => ?_)
    · replace hm := if_f hm hc
      refine lv_aload_n hx hb d_AM_loop_28 rfl (lv_at hl 0 rfl) ?_
      refine va_get (D := (dC, dI)) (ci := 0) (v := .ref (q0 1)) (C := "AlarmMatrix") (T := T_AM) (N := 7) hx hb hts i_AM hown hK hP 0 rfl rfl 1 (by decide) (hts _ k1_220) (fun _ h9 => h9) rfl d_AM_loop_29 ?_
      refine lv_iload_n hx hb d_AM_loop_32 rfl (lv_at hl 2 rfl) ?_
      obtain ⟨r33, hcl, hm⟩ := bn1_s hm
      refine kci (wc := wd_Points g (q0 1) q3 x3 n3) (wr := wd_AM g h0 q0 x0 ++ wd_LA g (q0 2) ql ++ wd_Loop g (ql j) q2 x2) (w1 := wd_Points g (q0 1) q3 x3 n3) hP hD hS hA [5, 6, 7, 8, 9, 10] [0, 1, 2, 3, 4] rfl rfl (by decide) (by decide) (va_runV (As := [.int a2]) (rest := []) ⟨hx, hb, hml, hown, hts⟩ (c_Points_isInLoop hG hGn l dC dI g F H.size (q0 1) q3 x3 n3 a2 hcl) (cwV 1 hts (gdV k4_62 k4_63 k4_64 k1_3 k4_65) rfl rfl rfl (by decide +kernel) ⟨Nat.le_of_ble_eq_true rfl, Nat.le_of_ble_eq_true rfl⟩) (kpV hG hP hK hD hS hA hGA [5, 6, 7, 8, 9, 10] (by decide) rfl (ci := 7) (q0 := 0) rfl rfl rfl) rfl rfl hl.1 rfl (lv_room (Nat.le_of_ble_eq_true rfl)) d_AM_loop_33 ⟨Nat.le_of_ble_eq_true rfl, Nat.le_of_ble_eq_true rfl⟩) (fun H locs hP hD hS => ?_)
      have hP : va_P (dC, dI) vwCl (wd_AM g h0 q0 x0 ++ wd_LA g (q0 2) ql ++ wd_Loop g (ql j) q2 x2 ++ wd_Points g (q0 1) q3 x3 n3) H := hP
      have hD : va_D A (wd_AM g h0 q0 x0 ++ wd_LA g (q0 2) ql ++ wd_Loop g (ql j) q2 x2 ++ wd_Points g (q0 1) q3 x3 n3) := hD
      refine lv_if_ne (tgt := 51) hx hb d_AM_loop_36 (by decide) (fun hc => ?_) (fun hc => ?_)
      · replace hm := if_f hm hc
        obtain rfl := Option.some.inj hm
        rw [hQ]
        exact kThrow (rest := []) hx hb hst hts (hGt A s hGA) (Or.inr ⟨rfl, rfl⟩) fit_ISE hown own_ISE k3_169 k1_15 k3_170 ((hGs A s hGA).2.2.2 33 (by decide)) htab (hl.1.trans hml.symm) hlocks hAe hP hK hD hS (Nat.le_of_ble_eq_true rfl) (Nat.le_of_ble_eq_true rfl) (Nat.le_of_ble_eq_true rfl) (Nat.le_of_ble_eq_true rfl) (Nat.le_of_ble_eq_true rfl) (Nat.le_of_ble_eq_true rfl) d_AM_loop_51 d_AM_loop_54 d_AM_loop_55 d_AM_loop_57 d_AM_loop_60
      · replace hm := if_t hm hc
        refine lv_aload_n hx hb d_AM_loop_39 rfl (lv_at hl 0 rfl) ?_
        refine va_get (D := (dC, dI)) (ci := 0) (v := .ref (q0 2)) (C := "AlarmMatrix") (T := T_AM) (N := 7) hx hb hts i_AM hown hK hP 0 rfl rfl 2 (by decide) (hts _ k1_221) (fun _ h9 => h9) rfl d_AM_loop_40 ?_
        refine lv_iload_n hx hb d_AM_loop_43 rfl (lv_at hl 1 rfl) ?_
        obtain ⟨h_44, hm⟩ := ck_s hm
        refine va_aldq hx hb hK hP 1 3 rfl rfl h_44 d_AM_loop_44 ?_
        refine W.eq (g2 := F0 m 45 ls [.ref (ql j)]) (by simp only [va_rf, nI_clamp (show j < 2 ^ 31 by omega)]) ?_
        obtain ⟨r45, hcl, hm⟩ := bn1_s hm
        refine kci (wc := wd_Loop g (ql j) q2 x2) (wr := wd_AM g h0 q0 x0 ++ wd_LA g (q0 2) ql ++ wd_Points g (q0 1) q3 x3 n3) (w1 := wd_Loop g (ql j) q2 x2) hP hD hS hA [2, 3, 4] [0, 1, 5, 6, 7, 8, 9, 10] rfl rfl (by decide) (by decide) (va_runV (As := []) (rest := []) ⟨hx, hb, hml, hown, hts⟩ (c_Loop_isFull hG hGn l dC dI g F H.size (ql j) q2 x2 hcl) (cwV 0 hts (gdV k4_66 k4_67 k4_68 k1_5 k4_69) rfl rfl rfl (by decide +kernel) ⟨Nat.le_of_ble_eq_true rfl, Nat.le_of_ble_eq_true rfl⟩) (kpV hG hP hK hD hS hA hGA [2, 3, 4] (by decide) rfl (ci := 8) (q0 := 0) rfl rfl rfl) rfl rfl hl.1 rfl (lv_room (Nat.le_of_ble_eq_true rfl)) d_AM_loop_45 ⟨Nat.le_of_ble_eq_true rfl, Nat.le_of_ble_eq_true rfl⟩) (fun H locs hP hD hS => ?_)
        have hP : va_P (dC, dI) vwCl (wd_AM g h0 q0 x0 ++ wd_LA g (q0 2) ql ++ wd_Loop g (ql j) q2 x2 ++ wd_Points g (q0 1) q3 x3 n3) H := hP.sub (ws' := wd_AM g h0 q0 x0 ++ wd_LA g (q0 2) ql ++ wd_Loop g (ql j) q2 x2 ++ wd_Points g (q0 1) q3 x3 n3) [0, 1, 8, 9, 10, 2, 3, 4, 5, 6, 7] rfl
        have hD : va_D A (wd_AM g h0 q0 x0 ++ wd_LA g (q0 2) ql ++ wd_Loop g (ql j) q2 x2 ++ wd_Points g (q0 1) q3 x3 n3) := hD.sub (ws' := wd_AM g h0 q0 x0 ++ wd_LA g (q0 2) ql ++ wd_Loop g (ql j) q2 x2 ++ wd_Points g (q0 1) q3 x3 n3) [0, 1, 8, 9, 10, 2, 3, 4, 5, 6, 7] (by decide) rfl
        refine lv_if_eq (tgt := 61) hx hb d_AM_loop_48 (by decide) (fun hc => ?_) (fun hc => ?_)
        · replace hm := if_t hm hc
          refine lv_aload_n hx hb d_AM_loop_61 rfl (lv_at hl 0 rfl) ?_
          refine va_get (D := (dC, dI)) (ci := 0) (v := .ref (q0 2)) (C := "AlarmMatrix") (T := T_AM) (N := 7) hx hb hts i_AM hown hK hP 0 rfl rfl 2 (by decide) (hts _ k1_221) (fun _ h9 => h9) rfl d_AM_loop_62 ?_
          refine lv_iload_n hx hb d_AM_loop_65 rfl (lv_at hl 1 rfl) ?_
          obtain ⟨h_66, hm⟩ := ck_s hm
          refine va_aldq hx hb hK hP 1 3 rfl rfl h_66 d_AM_loop_66 ?_
          refine W.eq (g2 := F0 m 67 ls [.ref (ql j)]) (by simp only [va_rf, nI_clamp (show j < 2 ^ 31 by omega)]) ?_
          refine lv_iload_n hx hb d_AM_loop_67 rfl (lv_at hl 2 rfl) ?_
          obtain ⟨z2_68, hcl, hm⟩ := bn1_s hm
          refine kcv (wc := wd_Loop g (ql j) q2 x2) (wr := wd_AM g h0 q0 x0 ++ wd_LA g (q0 2) ql ++ wd_Points g (q0 1) q3 x3 n3) (w1 := wd_Loop g (ql j) q2 z2_68) hP hD hS hA [2, 3, 4] [0, 1, 5, 6, 7, 8, 9, 10] rfl rfl (by decide) (by decide) (va_runV (As := [.int a2]) (rest := []) ⟨hx, hb, hml, hown, hts⟩ (c_Loop_add hG hGn l dC dI g F H.size (ql j) q2 x2 a2 hcl) (cwV 1 hts (gdV k4_71 k4_72 k4_73 k1_5 k4_74) rfl rfl rfl (by decide +kernel) ⟨Nat.le_of_ble_eq_true rfl, Nat.le_of_ble_eq_true rfl⟩) (kpV hG hP hK hD hS hA hGA [2, 3, 4] (by decide) rfl (ci := 8) (q0 := 0) rfl rfl rfl) rfl rfl hl.1 rfl (lv_room (Nat.le_of_ble_eq_true rfl)) d_AM_loop_68 ⟨Nat.le_of_ble_eq_true rfl, Nat.le_of_ble_eq_true rfl⟩) (fun H locs hP hD hS => ?_)
          have hP : va_P (dC, dI) vwCl (wd_AM g h0 q0 x0 ++ wd_LA g (q0 2) ql ++ wd_Loop g (ql j) q2 z2_68 ++ wd_Points g (q0 1) q3 x3 n3) H := hP.sub (ws' := wd_AM g h0 q0 x0 ++ wd_LA g (q0 2) ql ++ wd_Loop g (ql j) q2 z2_68 ++ wd_Points g (q0 1) q3 x3 n3) [0, 1, 8, 9, 10, 2, 3, 4, 5, 6, 7] rfl
          have hD : va_D A (wd_AM g h0 q0 x0 ++ wd_LA g (q0 2) ql ++ wd_Loop g (ql j) q2 z2_68 ++ wd_Points g (q0 1) q3 x3 n3) := hD.sub (ws' := wd_AM g h0 q0 x0 ++ wd_LA g (q0 2) ql ++ wd_Loop g (ql j) q2 z2_68 ++ wd_Points g (q0 1) q3 x3 n3) [0, 1, 8, 9, 10, 2, 3, 4, 5, 6, 7] (by decide) rfl
          refine lv_aload_n hx hb d_AM_loop_71 rfl (lv_at hl 0 rfl) ?_
          refine va_get (D := (dC, dI)) (ci := 0) (v := .ref (q0 1)) (C := "AlarmMatrix") (T := T_AM) (N := 7) hx hb hts i_AM hown hK hP 0 rfl rfl 1 (by decide) (hts _ k1_220) (fun _ h9 => h9) rfl d_AM_loop_72 ?_
          refine lv_iload_n hx hb d_AM_loop_75 rfl (lv_at hl 2 rfl) ?_
          obtain ⟨z3_76, hcl, hm⟩ := bn1_s hm
          refine kcv (wc := wd_Points g (q0 1) q3 x3 n3) (wr := wd_AM g h0 q0 x0 ++ wd_LA g (q0 2) ql ++ wd_Loop g (ql j) q2 z2_68) (w1 := wd_Points g (q0 1) q3 z3_76 n3) hP hD hS hA [5, 6, 7, 8, 9, 10] [0, 1, 2, 3, 4] rfl rfl (by decide) (by decide) (va_runV (As := [.int a2]) (rest := []) ⟨hx, hb, hml, hown, hts⟩ (c_Points_putInLoop hG hGn l dC dI g F H.size (q0 1) q3 x3 n3 a2 hcl) (cwV 1 hts (gdV k4_75 k4_76 k4_77 k1_3 k4_78) rfl rfl rfl (by decide +kernel) ⟨Nat.le_of_ble_eq_true rfl, Nat.le_of_ble_eq_true rfl⟩) (kpV hG hP hK hD hS hA hGA [5, 6, 7, 8, 9, 10] (by decide) rfl (ci := 7) (q0 := 0) rfl rfl rfl) rfl rfl hl.1 rfl (lv_room (Nat.le_of_ble_eq_true rfl)) d_AM_loop_76 ⟨Nat.le_of_ble_eq_true rfl, Nat.le_of_ble_eq_true rfl⟩) (fun H locs hP hD hS => ?_)
          have hP : va_P (dC, dI) vwCl (wd_AM g h0 q0 x0 ++ wd_LA g (q0 2) ql ++ wd_Loop g (ql j) q2 z2_68 ++ wd_Points g (q0 1) q3 z3_76 n3) H := hP
          have hD : va_D A (wd_AM g h0 q0 x0 ++ wd_LA g (q0 2) ql ++ wd_Loop g (ql j) q2 z2_68 ++ wd_Points g (q0 1) q3 z3_76 n3) := hD
          refine lv_aload_n hx hb d_AM_loop_79 rfl (lv_at hl 0 rfl) ?_
          refine va_get (D := (dC, dI)) (ci := 0) (v := .ref (q0 2)) (C := "AlarmMatrix") (T := T_AM) (N := 7) hx hb hts i_AM hown hK hP 0 rfl rfl 2 (by decide) (hts _ k1_221) (fun _ h9 => h9) rfl d_AM_loop_80 ?_
          refine lv_iload_n hx hb d_AM_loop_83 rfl (lv_at hl 1 rfl) ?_
          obtain ⟨h_84, hm⟩ := ck_s hm
          refine va_aldq hx hb hK hP 1 3 rfl rfl h_84 d_AM_loop_84 ?_
          refine W.eq (g2 := F0 m 85 ls [.ref (ql j)]) (by simp only [va_rf, nI_clamp (show j < 2 ^ 31 by omega)]) ?_
          obtain ⟨r85, hcl, hm⟩ := bn1_s hm
          refine kci (wc := wd_Loop g (ql j) q2 z2_68) (wr := wd_AM g h0 q0 x0 ++ wd_LA g (q0 2) ql ++ wd_Points g (q0 1) q3 z3_76 n3) (w1 := wd_Loop g (ql j) q2 z2_68) hP hD hS hA [2, 3, 4] [0, 1, 5, 6, 7, 8, 9, 10] rfl rfl (by decide) (by decide) (va_runV (As := []) (rest := []) ⟨hx, hb, hml, hown, hts⟩ (c_Loop_size hG hGn l dC dI g F H.size (ql j) q2 z2_68 hcl) (cwV 0 hts (gdV k4_79 k4_80 k4_81 k1_5 k4_82) rfl rfl rfl (by decide +kernel) ⟨Nat.le_of_ble_eq_true rfl, Nat.le_of_ble_eq_true rfl⟩) (kpV hG hP hK hD hS hA hGA [2, 3, 4] (by decide) rfl (ci := 8) (q0 := 0) rfl rfl rfl) rfl rfl hl.1 rfl (lv_room (Nat.le_of_ble_eq_true rfl)) d_AM_loop_85 ⟨Nat.le_of_ble_eq_true rfl, Nat.le_of_ble_eq_true rfl⟩) (fun H locs hP hD hS => ?_)
          have hP : va_P (dC, dI) vwCl (wd_AM g h0 q0 x0 ++ wd_LA g (q0 2) ql ++ wd_Loop g (ql j) q2 z2_68 ++ wd_Points g (q0 1) q3 z3_76 n3) H := hP.sub (ws' := wd_AM g h0 q0 x0 ++ wd_LA g (q0 2) ql ++ wd_Loop g (ql j) q2 z2_68 ++ wd_Points g (q0 1) q3 z3_76 n3) [0, 1, 8, 9, 10, 2, 3, 4, 5, 6, 7] rfl
          have hD : va_D A (wd_AM g h0 q0 x0 ++ wd_LA g (q0 2) ql ++ wd_Loop g (ql j) q2 z2_68 ++ wd_Points g (q0 1) q3 z3_76 n3) := hD.sub (ws' := wd_AM g h0 q0 x0 ++ wd_LA g (q0 2) ql ++ wd_Loop g (ql j) q2 z2_68 ++ wd_Points g (q0 1) q3 z3_76 n3) [0, 1, 8, 9, 10, 2, 3, 4, 5, 6, 7] (by decide) rfl
          obtain rfl := Option.some.inj hm
          rw [hQ]
          exact kTi hx hb hr hlocks hAe hP hK hD hS (Nat.zero_le _) (Nat.zero_le _) d_AM_loop_88
        · replace hm := if_f hm hc
          obtain rfl := Option.some.inj hm
          rw [hQ]
          exact kThrow (rest := []) hx hb hst hts (hGt A s hGA) (Or.inr ⟨rfl, rfl⟩) fit_ISE hown own_ISE k3_169 k1_15 k3_170 ((hGs A s hGA).2.2.2 33 (by decide)) htab (hl.1.trans hml.symm) hlocks hAe hP hK hD hS (Nat.le_of_ble_eq_true rfl) (Nat.le_of_ble_eq_true rfl) (Nat.le_of_ble_eq_true rfl) (Nat.le_of_ble_eq_true rfl) (Nat.le_of_ble_eq_true rfl) (Nat.le_of_ble_eq_true rfl) d_AM_loop_51 d_AM_loop_54 d_AM_loop_55 d_AM_loop_57 d_AM_loop_60
    · replace hm := if_t hm hc
      obtain rfl := Option.some.inj hm
      rw [hQ]
      exact kThrow (rest := []) hx hb hst hts (hGt A s hGA) (Or.inl ⟨rfl, rfl⟩) fit_IAE hown own_IAE k3_102 k1_14 k3_103 ((hGs A s hGA).2.2.2 32 (by decide)) htab (hl.1.trans hml.symm) hlocks hAe hP hK hD hS (Nat.le_of_ble_eq_true rfl) (Nat.le_of_ble_eq_true rfl) (Nat.le_of_ble_eq_true rfl) (Nat.le_of_ble_eq_true rfl) (Nat.le_of_ble_eq_true rfl) (Nat.le_of_ble_eq_true rfl) d_AM_loop_18 d_AM_loop_21 d_AM_loop_22 d_AM_loop_24 d_AM_loop_27
abbrev b_AM_cut : ByteArray := prog_1_method_10_code
abbrev y_AM_cut : MethodName := ⟨"AlarmMatrix", "cut", "(IIZ)Z"⟩
theorem d_AM_cut_0 : decode b_AM_cut 0 = .ok (.iload_n 1, 1) := by decide +kernel
theorem d_AM_cut_1 : decode b_AM_cut 1 = .ok (.invokestatic 138, 3) := by decide +kernel
theorem d_AM_cut_4 : decode b_AM_cut 4 = .ok (.ifCond .eq 20, 3) := by decide +kernel
theorem d_AM_cut_7 : decode b_AM_cut 7 = .ok (.iload_n 2, 1) := by decide +kernel
theorem d_AM_cut_8 : decode b_AM_cut 8 = .ok (.iconst 0, 1) := by decide +kernel
theorem d_AM_cut_9 : decode b_AM_cut 9 = .ok (.aload_n 0, 1) := by decide +kernel
theorem d_AM_cut_10 : decode b_AM_cut 10 = .ok (.getfield 36, 3) := by decide +kernel
theorem d_AM_cut_13 : decode b_AM_cut 13 = .ok (.iload_n 1, 1) := by decide +kernel
theorem d_AM_cut_14 : decode b_AM_cut 14 = .ok (.aaload, 1) := by decide +kernel
theorem d_AM_cut_15 : decode b_AM_cut 15 = .ok (.invokevirtual 158, 3) := by decide +kernel
theorem d_AM_cut_18 : decode b_AM_cut 18 = .ok (.invokestatic 62, 3) := by decide +kernel
theorem d_AM_cut_21 : decode b_AM_cut 21 = .ok (.ifCond .ne 13, 3) := by decide +kernel
theorem d_AM_cut_24 : decode b_AM_cut 24 = .ok (.new 66, 3) := by decide +kernel
theorem d_AM_cut_27 : decode b_AM_cut 27 = .ok (.dup, 1) := by decide +kernel
theorem d_AM_cut_28 : decode b_AM_cut 28 = .ok (.ldc 159, 2) := by decide +kernel
theorem d_AM_cut_30 : decode b_AM_cut 30 = .ok (.invokespecial 70, 3) := by decide +kernel
theorem d_AM_cut_33 : decode b_AM_cut 33 = .ok (.athrow, 1) := by decide +kernel
theorem d_AM_cut_34 : decode b_AM_cut 34 = .ok (.aload_n 0, 1) := by decide +kernel
theorem d_AM_cut_35 : decode b_AM_cut 35 = .ok (.getfield 36, 3) := by decide +kernel
theorem d_AM_cut_38 : decode b_AM_cut 38 = .ok (.iload_n 1, 1) := by decide +kernel
theorem d_AM_cut_39 : decode b_AM_cut 39 = .ok (.aaload, 1) := by decide +kernel
theorem d_AM_cut_40 : decode b_AM_cut 40 = .ok (.iload_n 2, 1) := by decide +kernel
theorem d_AM_cut_41 : decode b_AM_cut 41 = .ok (.iload_n 3, 1) := by decide +kernel
theorem d_AM_cut_42 : decode b_AM_cut 42 = .ok (.invokevirtual 161, 3) := by decide +kernel
theorem d_AM_cut_45 : decode b_AM_cut 45 = .ok (.istore 4, 2) := by decide +kernel
theorem d_AM_cut_47 : decode b_AM_cut 47 = .ok (.aload_n 0, 1) := by decide +kernel
theorem d_AM_cut_48 : decode b_AM_cut 48 = .ok (.getfield 30, 3) := by decide +kernel
theorem d_AM_cut_51 : decode b_AM_cut 51 = .ok (.aload_n 0, 1) := by decide +kernel
theorem d_AM_cut_52 : decode b_AM_cut 52 = .ok (.getfield 36, 3) := by decide +kernel
theorem d_AM_cut_55 : decode b_AM_cut 55 = .ok (.iload_n 1, 1) := by decide +kernel
theorem d_AM_cut_56 : decode b_AM_cut 56 = .ok (.aaload, 1) := by decide +kernel
theorem d_AM_cut_57 : decode b_AM_cut 57 = .ok (.invokevirtual 164, 3) := by decide +kernel
theorem d_AM_cut_60 : decode b_AM_cut 60 = .ok (.iload 4, 2) := by decide +kernel
theorem d_AM_cut_62 : decode b_AM_cut 62 = .ok (.ireturn, 1) := by decide +kernel
def m_AM_cut (F : Nat) (x0 : St) (x2 : St) (x3 : St) (n3 : Nat) (j : Nat) (a2 : Int32) (a3 : Int32) : Option (Nat × Int32 × St × St) :=
  (bn1 (m_AM_isLoop F (nI j)) (fun r1 => (if r1 = (0 : Int32) then (some (1, (0 : Int32), x2, x3)) else (ck (nI j) 8 (bn1 (m_Loop_size F x2) (fun r15 => (bn1 (m_AM_isWithin F a2 (0 : Int32) r15) (fun r18 => (if r18 = (0 : Int32) then (some (1, (0 : Int32), x2, x3)) else (ck (nI j) 8 (bn2 (m_Loop_swapCut F x2 a2 a3) (fun r42 z2_42 => (ck (nI j) 8 (bn1 (m_Points_hearThrough F x3 n3 z2_42) (fun z3_57 => (ckb r42 (some (0, r42, z2_42, z3_57))))))))))))))))))
abbrev rm_AM_cut : Room := { frames := 6, cells := 1, slots := 6, locals := 90 }
set_option maxHeartbeats 4000000 in
set_option maxRecDepth 100000 in
theorem c_AM_cut {G : (Nat → Prop) → State → Prop} (hG : gok G) (hGn : gN G) {adK adV : Nat → Nat} (hGs : gSt adK adV G) (hGt : gTh G) (l : Launch) (hst : l.stackTraces = false) (dC : Nat → ClassId) (dI : Nat → Nat → Nat) (g : Nat → ClassId) (F : Nat) (sz : Nat) (h0 : Nat) (q0 : Nat → Nat) (x0 : St) (ql : Nat → Nat) (q2 : Nat → Nat) (x2 : St) (q3 : Nat → Nat) (x3 : St) (n3 : Nat) (j : Nat) (hj : j < 8) (a2 : Int32) (a3 : Int32) {o : Nat × Int32 × St × St} (hm : m_AM_cut F x0 x2 x3 n3 j a2 a3 = some o) : kT l y_AM_cut (.code y_AM_cut b_AM_cut 5 (some .boolean) :: gw) rm_AM_cut (dC, dI) vwCl (tyv g) G [.ref h0, .int (nI j), .int a2, .int a3] (wd_AM g h0 q0 x0 ++ wd_LA g (q0 2) ql ++ wd_Loop g (ql j) q2 x2 ++ wd_Points g (q0 1) q3 x3 n3) o.1 o.2.1 (wd_AM g h0 q0 x0 ++ wd_LA g (q0 2) ql ++ wd_Loop g (ql j) q2 (o.2.2.1) ++ wd_Points g (q0 1) q3 (o.2.2.2) n3) 1 6 sz := by
  unfold m_AM_cut at hm
  refine kmT (cc := b_AM_cut) (maxL := 5) (ret := (some .boolean)) (by decide) rfl (Nat.le_of_ble_eq_true rfl) ?_
  intro p e s m args below meth c Q hQ hx hb hr hts hown hlocks hml htab H locs A hAe hA hP hK hD hS hGA ls hl
  have hl : lv_has ls 5 [(0, .ref h0), (1, .int (nI j)), (2, .int a2), (3, .int a3)] := hl
  have hts : ∀ w ∈ gw, w.before args s = true := fun w h => hts w (List.mem_cons_of_mem _ h)
  have hown : s.vm.findClass "AlarmMatrix" = some m.cls := hown
  refine lv_iload_n hx hb d_AM_cut_0 rfl (lv_at hl 1 rfl) ?_
  obtain ⟨r1, hcl, hm⟩ := bn1_s hm
  refine kci (wc := ([] : va_W)) (wr := wd_AM g h0 q0 x0 ++ wd_LA g (q0 2) ql ++ wd_Loop g (ql j) q2 x2 ++ wd_Points g (q0 1) q3 x3 n3) (w1 := ([] : va_W)) hP hD hS hA [] [0, 1, 2, 3, 4, 5, 6, 7, 8, 9, 10] rfl rfl (by decide) (by decide) (va_runS (As := [.int (nI j)]) (rest := []) ⟨hx, hb, hml, hown, hts⟩ (c_AM_isLoop hG hGn l dC dI g F H.size (nI j) hcl) (cwS 1 hts (gdS k4_58 k4_59 k1_1 k4_60) rfl rfl rfl (by decide +kernel) ⟨Nat.le_of_ble_eq_true rfl, Nat.le_of_ble_eq_true rfl⟩) (kpS hG hP hK hD hS hA hGA [] (by decide) rfl) rfl rfl hl.1 rfl (lv_room (Nat.le_of_ble_eq_true rfl)) d_AM_cut_1 ⟨Nat.le_of_ble_eq_true rfl, Nat.le_of_ble_eq_true rfl⟩) (fun H locs hP hD hS => ?_)
  have hP : va_P (dC, dI) vwCl (wd_AM g h0 q0 x0 ++ wd_LA g (q0 2) ql ++ wd_Loop g (ql j) q2 x2 ++ wd_Points g (q0 1) q3 x3 n3) H := hP
  have hD : va_D A (wd_AM g h0 q0 x0 ++ wd_LA g (q0 2) ql ++ wd_Loop g (ql j) q2 x2 ++ wd_Points g (q0 1) q3 x3 n3) := hD
  refine lv_if_eq (tgt := 24) hx hb d_AM_cut_4 (by decide) (fun hc => ?_) (fun hc => ?_)
  · replace hm := if_t hm hc
    obtain rfl := Option.some.inj hm
    rw [hQ]
    exact kThrow (rest := []) hx hb hst hts (hGt A s hGA) (Or.inl ⟨rfl, rfl⟩) fit_IAE hown own_IAE k3_102 k1_14 k3_103 ((hGs A s hGA).2.2.2 34 (by decide)) htab (hl.1.trans hml.symm) hlocks hAe hP hK hD hS (Nat.le_of_ble_eq_true rfl) (Nat.le_of_ble_eq_true rfl) (Nat.le_of_ble_eq_true rfl) (Nat.le_of_ble_eq_true rfl) (Nat.le_of_ble_eq_true rfl) (Nat.le_of_ble_eq_true rfl) d_AM_cut_24 d_AM_cut_27 d_AM_cut_28 d_AM_cut_30 d_AM_cut_33
  · replace hm := if_f hm hc
    refine lv_iload_n hx hb d_AM_cut_7 rfl (lv_at hl 2 rfl) ?_
    refine lv_iconst (v := (0 : Int32)) hx hb d_AM_cut_8 (by decide) ?_
    refine lv_aload_n hx hb d_AM_cut_9 rfl (lv_at hl 0 rfl) ?_
    refine va_get (D := (dC, dI)) (ci := 0) (v := .ref (q0 2)) (C := "AlarmMatrix") (T := T_AM) (N := 7) hx hb hts i_AM hown hK hP 0 rfl rfl 2 (by decide) (hts _ k1_221) (fun _ h9 => h9) rfl d_AM_cut_10 ?_
    refine lv_iload_n hx hb d_AM_cut_13 rfl (lv_at hl 1 rfl) ?_
    obtain ⟨h_14, hm⟩ := ck_s hm
    refine va_aldq hx hb hK hP 1 3 rfl rfl h_14 d_AM_cut_14 ?_
    refine W.eq (g2 := F0 m 15 ls [.ref (ql j), .int (0 : Int32), .int a2]) (by simp only [va_rf, nI_clamp (show j < 2 ^ 31 by omega)]) ?_
    obtain ⟨r15, hcl, hm⟩ := bn1_s hm
    refine kci (wc := wd_Loop g (ql j) q2 x2) (wr := wd_AM g h0 q0 x0 ++ wd_LA g (q0 2) ql ++ wd_Points g (q0 1) q3 x3 n3) (w1 := wd_Loop g (ql j) q2 x2) hP hD hS hA [2, 3, 4] [0, 1, 5, 6, 7, 8, 9, 10] rfl rfl (by decide) (by decide) (va_runV (As := []) (rest := [.int (0 : Int32), .int a2]) ⟨hx, hb, hml, hown, hts⟩ (c_Loop_size hG hGn l dC dI g F H.size (ql j) q2 x2 hcl) (cwV 0 hts (gdV k4_79 k4_80 k4_81 k1_5 k4_82) rfl rfl rfl (by decide +kernel) ⟨Nat.le_of_ble_eq_true rfl, Nat.le_of_ble_eq_true rfl⟩) (kpV hG hP hK hD hS hA hGA [2, 3, 4] (by decide) rfl (ci := 8) (q0 := 0) rfl rfl rfl) rfl rfl hl.1 rfl (lv_room (Nat.le_of_ble_eq_true rfl)) d_AM_cut_15 ⟨Nat.le_of_ble_eq_true rfl, Nat.le_of_ble_eq_true rfl⟩) (fun H locs hP hD hS => ?_)
    have hP : va_P (dC, dI) vwCl (wd_AM g h0 q0 x0 ++ wd_LA g (q0 2) ql ++ wd_Loop g (ql j) q2 x2 ++ wd_Points g (q0 1) q3 x3 n3) H := hP.sub (ws' := wd_AM g h0 q0 x0 ++ wd_LA g (q0 2) ql ++ wd_Loop g (ql j) q2 x2 ++ wd_Points g (q0 1) q3 x3 n3) [0, 1, 8, 9, 10, 2, 3, 4, 5, 6, 7] rfl
    have hD : va_D A (wd_AM g h0 q0 x0 ++ wd_LA g (q0 2) ql ++ wd_Loop g (ql j) q2 x2 ++ wd_Points g (q0 1) q3 x3 n3) := hD.sub (ws' := wd_AM g h0 q0 x0 ++ wd_LA g (q0 2) ql ++ wd_Loop g (ql j) q2 x2 ++ wd_Points g (q0 1) q3 x3 n3) [0, 1, 8, 9, 10, 2, 3, 4, 5, 6, 7] (by decide) rfl
    obtain ⟨r18, hcl, hm⟩ := bn1_s hm
    refine kci (wc := ([] : va_W)) (wr := wd_AM g h0 q0 x0 ++ wd_LA g (q0 2) ql ++ wd_Loop g (ql j) q2 x2 ++ wd_Points g (q0 1) q3 x3 n3) (w1 := ([] : va_W)) hP hD hS hA [] [0, 1, 2, 3, 4, 5, 6, 7, 8, 9, 10] rfl rfl (by decide) (by decide) (va_runS (As := [.int a2, .int (0 : Int32), .int r15]) (rest := []) ⟨hx, hb, hml, hown, hts⟩ (c_AM_isWithin hG hGn l dC dI g F H.size a2 (0 : Int32) r15 hcl) (cwS 3 hts (gdS k3_101 k2_153 k1_1 k2_154) rfl rfl rfl (by decide +kernel) ⟨Nat.le_of_ble_eq_true rfl, Nat.le_of_ble_eq_true rfl⟩) (kpS hG hP hK hD hS hA hGA [] (by decide) rfl) rfl rfl hl.1 rfl (lv_room (Nat.le_of_ble_eq_true rfl)) d_AM_cut_18 ⟨Nat.le_of_ble_eq_true rfl, Nat.le_of_ble_eq_true rfl⟩) (fun H locs hP hD hS => ?_)
    have hP : va_P (dC, dI) vwCl (wd_AM g h0 q0 x0 ++ wd_LA g (q0 2) ql ++ wd_Loop g (ql j) q2 x2 ++ wd_Points g (q0 1) q3 x3 n3) H := hP
    have hD : va_D A (wd_AM g h0 q0 x0 ++ wd_LA g (q0 2) ql ++ wd_Loop g (ql j) q2 x2 ++ wd_Points g (q0 1) q3 x3 n3) := hD
    refine lv_if_ne (tgt := 34) hx hb d_AM_cut_21 (by decide) (fun hc => ?_) (fun hc => ?_)
    · replace hm := if_f hm hc
      refine lv_aload_n hx hb d_AM_cut_34 rfl (lv_at hl 0 rfl) ?_
      refine va_get (D := (dC, dI)) (ci := 0) (v := .ref (q0 2)) (C := "AlarmMatrix") (T := T_AM) (N := 7) hx hb hts i_AM hown hK hP 0 rfl rfl 2 (by decide) (hts _ k1_221) (fun _ h9 => h9) rfl d_AM_cut_35 ?_
      refine lv_iload_n hx hb d_AM_cut_38 rfl (lv_at hl 1 rfl) ?_
      obtain ⟨h_39, hm⟩ := ck_s hm
      refine va_aldq hx hb hK hP 1 3 rfl rfl h_39 d_AM_cut_39 ?_
      refine W.eq (g2 := F0 m 40 ls [.ref (ql j)]) (by simp only [va_rf, nI_clamp (show j < 2 ^ 31 by omega)]) ?_
      refine lv_iload_n hx hb d_AM_cut_40 rfl (lv_at hl 2 rfl) ?_
      refine lv_iload_n hx hb d_AM_cut_41 rfl (lv_at hl 3 rfl) ?_
      obtain ⟨r42, z2_42, hcl, hm⟩ := bn2_s hm
      refine kci (wc := wd_Loop g (ql j) q2 x2) (wr := wd_AM g h0 q0 x0 ++ wd_LA g (q0 2) ql ++ wd_Points g (q0 1) q3 x3 n3) (w1 := wd_Loop g (ql j) q2 z2_42) hP hD hS hA [2, 3, 4] [0, 1, 5, 6, 7, 8, 9, 10] rfl rfl (by decide) (by decide) (va_runV (As := [.int a2, .int a3]) (rest := []) ⟨hx, hb, hml, hown, hts⟩ (c_Loop_swapCut hG hGn l dC dI g F H.size (ql j) q2 x2 a2 a3 hcl) (cwV 2 hts (gdV k4_91 k4_92 k4_93 k1_5 k4_94) rfl rfl rfl (by decide +kernel) ⟨Nat.le_of_ble_eq_true rfl, Nat.le_of_ble_eq_true rfl⟩) (kpV hG hP hK hD hS hA hGA [2, 3, 4] (by decide) rfl (ci := 8) (q0 := 0) rfl rfl rfl) rfl rfl hl.1 rfl (lv_room (Nat.le_of_ble_eq_true rfl)) d_AM_cut_42 ⟨Nat.le_of_ble_eq_true rfl, Nat.le_of_ble_eq_true rfl⟩) (fun H locs hP hD hS => ?_)
      have hP : va_P (dC, dI) vwCl (wd_AM g h0 q0 x0 ++ wd_LA g (q0 2) ql ++ wd_Loop g (ql j) q2 z2_42 ++ wd_Points g (q0 1) q3 x3 n3) H := hP.sub (ws' := wd_AM g h0 q0 x0 ++ wd_LA g (q0 2) ql ++ wd_Loop g (ql j) q2 z2_42 ++ wd_Points g (q0 1) q3 x3 n3) [0, 1, 8, 9, 10, 2, 3, 4, 5, 6, 7] rfl
      have hD : va_D A (wd_AM g h0 q0 x0 ++ wd_LA g (q0 2) ql ++ wd_Loop g (ql j) q2 z2_42 ++ wd_Points g (q0 1) q3 x3 n3) := hD.sub (ws' := wd_AM g h0 q0 x0 ++ wd_LA g (q0 2) ql ++ wd_Loop g (ql j) q2 z2_42 ++ wd_Points g (q0 1) q3 x3 n3) [0, 1, 8, 9, 10, 2, 3, 4, 5, 6, 7] (by decide) rfl
      refine lv_istore (lv' := [(4, .int r42), (0, .ref h0), (1, .int (nI j)), (2, .int a2), (3, .int a3)]) hx hb d_AM_cut_45 hl (by decide) rfl (fun ls hl => ?_)
      refine lv_aload_n hx hb d_AM_cut_47 rfl (lv_at hl 1 rfl) ?_
      refine va_get (D := (dC, dI)) (ci := 0) (v := .ref (q0 1)) (C := "AlarmMatrix") (T := T_AM) (N := 7) hx hb hts i_AM hown hK hP 0 rfl rfl 1 (by decide) (hts _ k1_220) (fun _ h9 => h9) rfl d_AM_cut_48 ?_
      refine lv_aload_n hx hb d_AM_cut_51 rfl (lv_at hl 1 rfl) ?_
      refine va_get (D := (dC, dI)) (ci := 0) (v := .ref (q0 2)) (C := "AlarmMatrix") (T := T_AM) (N := 7) hx hb hts i_AM hown hK hP 0 rfl rfl 2 (by decide) (hts _ k1_221) (fun _ h9 => h9) rfl d_AM_cut_52 ?_
      refine lv_iload_n hx hb d_AM_cut_55 rfl (lv_at hl 2 rfl) ?_
      obtain ⟨h_56, hm⟩ := ck_s hm
      refine va_aldq hx hb hK hP 1 3 rfl rfl h_56 d_AM_cut_56 ?_
      refine W.eq (g2 := F0 m 57 ls [.ref (ql j), .ref (q0 1)]) (by simp only [va_rf, nI_clamp (show j < 2 ^ 31 by omega)]) ?_
      obtain ⟨z3_57, hcl, hm⟩ := bn1_s hm
      refine kcv (wc := wd_Points g (q0 1) q3 x3 n3 ++ wd_Loop g (ql j) q2 z2_42) (wr := wd_AM g h0 q0 x0 ++ wd_LA g (q0 2) ql) (w1 := wd_Points g (q0 1) q3 z3_57 n3 ++ wd_Loop g (ql j) q2 z2_42) hP hD hS hA [5, 6, 7, 8, 9, 10, 2, 3, 4] [0, 1] rfl rfl (by decide) (by decide) (va_runV (As := [.ref (ql j)]) (rest := []) ⟨hx, hb, hml, hown, hts⟩ (c_Points_hearThrough hG hGn l dC dI g F H.size (q0 1) q3 x3 n3 (ql j) q2 z2_42 hcl) (cwV 1 hts (gdV k4_100 k4_101 k4_102 k1_3 k4_103) rfl rfl rfl (by decide +kernel) ⟨Nat.le_of_ble_eq_true rfl, Nat.le_of_ble_eq_true rfl⟩) (kpV hG hP hK hD hS hA hGA [5, 6, 7, 8, 9, 10, 2, 3, 4] (by decide) rfl (ci := 7) (q0 := 0) rfl rfl rfl) rfl rfl hl.1 rfl (lv_room (Nat.le_of_ble_eq_true rfl)) d_AM_cut_57 ⟨Nat.le_of_ble_eq_true rfl, Nat.le_of_ble_eq_true rfl⟩) (fun H locs hP hD hS => ?_)
      have hP : va_P (dC, dI) vwCl (wd_AM g h0 q0 x0 ++ wd_LA g (q0 2) ql ++ wd_Loop g (ql j) q2 z2_42 ++ wd_Points g (q0 1) q3 z3_57 n3) H := hP.sub (ws' := wd_AM g h0 q0 x0 ++ wd_LA g (q0 2) ql ++ wd_Loop g (ql j) q2 z2_42 ++ wd_Points g (q0 1) q3 z3_57 n3) [0, 1, 8, 9, 10, 2, 3, 4, 5, 6, 7] rfl
      have hD : va_D A (wd_AM g h0 q0 x0 ++ wd_LA g (q0 2) ql ++ wd_Loop g (ql j) q2 z2_42 ++ wd_Points g (q0 1) q3 z3_57 n3) := hD.sub (ws' := wd_AM g h0 q0 x0 ++ wd_LA g (q0 2) ql ++ wd_Loop g (ql j) q2 z2_42 ++ wd_Points g (q0 1) q3 z3_57 n3) [0, 1, 8, 9, 10, 2, 3, 4, 5, 6, 7] (by decide) rfl
      refine lv_iload hx hb d_AM_cut_60 (lv_at hl 0 rfl) ?_
      obtain ⟨hz, hm⟩ := ckb_s hm
      obtain rfl := Option.some.inj hm
      rw [hQ]
      exact kTz hx hb hr hz hlocks hAe hP hK hD hS (Nat.zero_le _) (Nat.zero_le _) d_AM_cut_62
    · replace hm := if_t hm hc
      obtain rfl := Option.some.inj hm
      rw [hQ]
      exact kThrow (rest := []) hx hb hst hts (hGt A s hGA) (Or.inl ⟨rfl, rfl⟩) fit_IAE hown own_IAE k3_102 k1_14 k3_103 ((hGs A s hGA).2.2.2 34 (by decide)) htab (hl.1.trans hml.symm) hlocks hAe hP hK hD hS (Nat.le_of_ble_eq_true rfl) (Nat.le_of_ble_eq_true rfl) (Nat.le_of_ble_eq_true rfl) (Nat.le_of_ble_eq_true rfl) (Nat.le_of_ble_eq_true rfl) (Nat.le_of_ble_eq_true rfl) d_AM_cut_24 d_AM_cut_27 d_AM_cut_28 d_AM_cut_30 d_AM_cut_33
abbrev b_AM_heard : ByteArray := prog_1_method_11_code
abbrev y_AM_heard : MethodName := ⟨"AlarmMatrix", "heard", "(I)I"⟩
theorem d_AM_heard_0 : decode b_AM_heard 0 = .ok (.iload_n 1, 1) := by decide +kernel
theorem d_AM_heard_1 : decode b_AM_heard 1 = .ok (.invokestatic 138, 3) := by decide +kernel
theorem d_AM_heard_4 : decode b_AM_heard 4 = .ok (.ifCond .ne 13, 3) := by decide +kernel
theorem d_AM_heard_7 : decode b_AM_heard 7 = .ok (.new 66, 3) := by decide +kernel
theorem d_AM_heard_10 : decode b_AM_heard 10 = .ok (.dup, 1) := by decide +kernel
theorem d_AM_heard_11 : decode b_AM_heard 11 = .ok (.ldc 168, 2) := by decide +kernel
theorem d_AM_heard_13 : decode b_AM_heard 13 = .ok (.invokespecial 70, 3) := by decide +kernel
theorem d_AM_heard_16 : decode b_AM_heard 16 = .ok (.athrow, 1) := by decide +kernel
theorem d_AM_heard_17 : decode b_AM_heard 17 = .ok (.aload_n 0, 1) := by decide +kernel
theorem d_AM_heard_18 : decode b_AM_heard 18 = .ok (.getfield 36, 3) := by decide +kernel
theorem d_AM_heard_21 : decode b_AM_heard 21 = .ok (.iload_n 1, 1) := by decide +kernel
theorem d_AM_heard_22 : decode b_AM_heard 22 = .ok (.aaload, 1) := by decide +kernel
theorem d_AM_heard_23 : decode b_AM_heard 23 = .ok (.invokevirtual 170, 3) := by decide +kernel
theorem d_AM_heard_26 : decode b_AM_heard 26 = .ok (.ireturn, 1) := by decide +kernel
def m_AM_heard (F : Nat) (x0 : St) (x2 : St) (j : Nat) : Option (Nat × Int32) :=
  (bn1 (m_AM_isLoop F (nI j)) (fun r1 => (if r1 = (0 : Int32) then (some (1, (0 : Int32))) else (ck (nI j) 8 (bn1 (m_Loop_countHeard F x2) (fun r23 => (some (0, r23))))))))
abbrev rm_AM_heard : Room := { frames := 6, cells := 1, slots := 6, locals := 90 }
set_option maxHeartbeats 4000000 in
set_option maxRecDepth 100000 in
theorem c_AM_heard {G : (Nat → Prop) → State → Prop} (hG : gok G) (hGn : gN G) {adK adV : Nat → Nat} (hGs : gSt adK adV G) (hGt : gTh G) (l : Launch) (hst : l.stackTraces = false) (dC : Nat → ClassId) (dI : Nat → Nat → Nat) (g : Nat → ClassId) (F : Nat) (sz : Nat) (h0 : Nat) (q0 : Nat → Nat) (x0 : St) (ql : Nat → Nat) (q2 : Nat → Nat) (x2 : St) (j : Nat) (hj : j < 8) {o : Nat × Int32} (hm : m_AM_heard F x0 x2 j = some o) : kT l y_AM_heard (.code y_AM_heard b_AM_heard 2 (some .int) :: gw) rm_AM_heard (dC, dI) vwCl (tyv g) G [.ref h0, .int (nI j)] (wd_AM g h0 q0 x0 ++ wd_LA g (q0 2) ql ++ wd_Loop g (ql j) q2 x2) o.1 o.2 (wd_AM g h0 q0 x0 ++ wd_LA g (q0 2) ql ++ wd_Loop g (ql j) q2 x2) 1 6 sz := by
  unfold m_AM_heard at hm
  refine kmT (cc := b_AM_heard) (maxL := 2) (ret := (some .int)) (by decide) rfl (Nat.le_of_ble_eq_true rfl) ?_
  intro p e s m args below meth c Q hQ hx hb hr hts hown hlocks hml htab H locs A hAe hA hP hK hD hS hGA ls hl
  have hl : lv_has ls 2 [(0, .ref h0), (1, .int (nI j))] := hl
  have hts : ∀ w ∈ gw, w.before args s = true := fun w h => hts w (List.mem_cons_of_mem _ h)
  have hown : s.vm.findClass "AlarmMatrix" = some m.cls := hown
  refine lv_iload_n hx hb d_AM_heard_0 rfl (lv_at hl 1 rfl) ?_
  obtain ⟨r1, hcl, hm⟩ := bn1_s hm
  refine kci (wc := ([] : va_W)) (wr := wd_AM g h0 q0 x0 ++ wd_LA g (q0 2) ql ++ wd_Loop g (ql j) q2 x2) (w1 := ([] : va_W)) hP hD hS hA [] [0, 1, 2, 3, 4] rfl rfl (by decide) (by decide) (va_runS (As := [.int (nI j)]) (rest := []) ⟨hx, hb, hml, hown, hts⟩ (c_AM_isLoop hG hGn l dC dI g F H.size (nI j) hcl) (cwS 1 hts (gdS k4_58 k4_59 k1_1 k4_60) rfl rfl rfl (by decide +kernel) ⟨Nat.le_of_ble_eq_true rfl, Nat.le_of_ble_eq_true rfl⟩) (kpS hG hP hK hD hS hA hGA [] (by decide) rfl) rfl rfl hl.1 rfl (lv_room (Nat.le_of_ble_eq_true rfl)) d_AM_heard_1 ⟨Nat.le_of_ble_eq_true rfl, Nat.le_of_ble_eq_true rfl⟩) (fun H locs hP hD hS => ?_)
  have hP : va_P (dC, dI) vwCl (wd_AM g h0 q0 x0 ++ wd_LA g (q0 2) ql ++ wd_Loop g (ql j) q2 x2) H := hP
  have hD : va_D A (wd_AM g h0 q0 x0 ++ wd_LA g (q0 2) ql ++ wd_Loop g (ql j) q2 x2) := hD
  refine lv_if_ne (tgt := 17) hx hb d_AM_heard_4 (by decide) (fun hc => ?_) (fun hc => ?_)
  · replace hm := if_f hm hc
    refine lv_aload_n hx hb d_AM_heard_17 rfl (lv_at hl 0 rfl) ?_
    refine va_get (D := (dC, dI)) (ci := 0) (v := .ref (q0 2)) (C := "AlarmMatrix") (T := T_AM) (N := 7) hx hb hts i_AM hown hK hP 0 rfl rfl 2 (by decide) (hts _ k1_221) (fun _ h9 => h9) rfl d_AM_heard_18 ?_
    refine lv_iload_n hx hb d_AM_heard_21 rfl (lv_at hl 1 rfl) ?_
    obtain ⟨h_22, hm⟩ := ck_s hm
    refine va_aldq hx hb hK hP 1 3 rfl rfl h_22 d_AM_heard_22 ?_
    refine W.eq (g2 := F0 m 23 ls [.ref (ql j)]) (by simp only [va_rf, nI_clamp (show j < 2 ^ 31 by omega)]) ?_
    obtain ⟨r23, hcl, hm⟩ := bn1_s hm
    refine kci (wc := wd_Loop g (ql j) q2 x2) (wr := wd_AM g h0 q0 x0 ++ wd_LA g (q0 2) ql) (w1 := wd_Loop g (ql j) q2 x2) hP hD hS hA [2, 3, 4] [0, 1] rfl rfl (by decide) (by decide) (va_runV (As := []) (rest := []) ⟨hx, hb, hml, hown, hts⟩ (c_Loop_countHeard hG hGn l dC dI g F H.size (ql j) q2 x2 hcl) (cwV 0 hts (gdV k4_121 k4_122 k4_123 k1_5 k4_124) rfl rfl rfl (by decide +kernel) ⟨Nat.le_of_ble_eq_true rfl, Nat.le_of_ble_eq_true rfl⟩) (kpV hG hP hK hD hS hA hGA [2, 3, 4] (by decide) rfl (ci := 8) (q0 := 0) rfl rfl rfl) rfl rfl hl.1 rfl (lv_room (Nat.le_of_ble_eq_true rfl)) d_AM_heard_23 ⟨Nat.le_of_ble_eq_true rfl, Nat.le_of_ble_eq_true rfl⟩) (fun H locs hP hD hS => ?_)
    have hP : va_P (dC, dI) vwCl (wd_AM g h0 q0 x0 ++ wd_LA g (q0 2) ql ++ wd_Loop g (ql j) q2 x2) H := hP
    have hD : va_D A (wd_AM g h0 q0 x0 ++ wd_LA g (q0 2) ql ++ wd_Loop g (ql j) q2 x2) := hD
    obtain rfl := Option.some.inj hm
    rw [hQ]
    exact kTi hx hb hr hlocks hAe hP hK hD hS (Nat.zero_le _) (Nat.zero_le _) d_AM_heard_26
  · replace hm := if_t hm hc
    obtain rfl := Option.some.inj hm
    rw [hQ]
    exact kThrow (rest := []) hx hb hst hts (hGt A s hGA) (Or.inl ⟨rfl, rfl⟩) fit_IAE hown own_IAE k3_102 k1_14 k3_103 ((hGs A s hGA).2.2.2 35 (by decide)) htab (hl.1.trans hml.symm) hlocks hAe hP hK hD hS (Nat.le_of_ble_eq_true rfl) (Nat.le_of_ble_eq_true rfl) (Nat.le_of_ble_eq_true rfl) (Nat.le_of_ble_eq_true rfl) (Nat.le_of_ble_eq_true rfl) (Nat.le_of_ble_eq_true rfl) d_AM_heard_7 d_AM_heard_10 d_AM_heard_11 d_AM_heard_13 d_AM_heard_16
abbrev b_AM_unreachable : ByteArray := prog_1_method_12_code
abbrev y_AM_unreachable : MethodName := ⟨"AlarmMatrix", "unreachable", "(I)I"⟩
theorem d_AM_unreachable_0 : decode b_AM_unreachable 0 = .ok (.iload_n 1, 1) := by decide +kernel
theorem d_AM_unreachable_1 : decode b_AM_unreachable 1 = .ok (.ifCond .ge 13, 3) := by decide +kernel
theorem d_AM_unreachable_4 : decode b_AM_unreachable 4 = .ok (.new 66, 3) := by decide +kernel
theorem d_AM_unreachable_7 : decode b_AM_unreachable 7 = .ok (.dup, 1) := by decide +kernel
theorem d_AM_unreachable_8 : decode b_AM_unreachable 8 = .ok (.ldc 173, 2) := by decide +kernel
theorem d_AM_unreachable_10 : decode b_AM_unreachable 10 = .ok (.invokespecial 70, 3) := by decide +kernel
theorem d_AM_unreachable_13 : decode b_AM_unreachable 13 = .ok (.athrow, 1) := by decide +kernel
theorem d_AM_unreachable_14 : decode b_AM_unreachable 14 = .ok (.aload_n 0, 1) := by decide +kernel
theorem d_AM_unreachable_15 : decode b_AM_unreachable 15 = .ok (.getfield 30, 3) := by decide +kernel
theorem d_AM_unreachable_18 : decode b_AM_unreachable 18 = .ok (.iload_n 1, 1) := by decide +kernel
theorem d_AM_unreachable_19 : decode b_AM_unreachable 19 = .ok (.invokevirtual 175, 3) := by decide +kernel
theorem d_AM_unreachable_22 : decode b_AM_unreachable 22 = .ok (.ireturn, 1) := by decide +kernel
def m_AM_unreachable (F : Nat) (x0 : St) (x1 : St) (n1 : Nat) (a1 : Int32) : Option (Nat × Int32) :=
  (if (0 : Int32) ≤ a1 then (bn1 (m_Points_findUnheard F x1 n1 a1) (fun r19 => (some (0, r19)))) else (some (1, (0 : Int32))))
abbrev rm_AM_unreachable : Room := { frames := 6, cells := 1, slots := 6, locals := 90 }
set_option maxHeartbeats 4000000 in
set_option maxRecDepth 100000 in
theorem c_AM_unreachable {G : (Nat → Prop) → State → Prop} (hG : gok G) (hGn : gN G) {adK adV : Nat → Nat} (hGs : gSt adK adV G) (hGt : gTh G) (l : Launch) (hst : l.stackTraces = false) (dC : Nat → ClassId) (dI : Nat → Nat → Nat) (g : Nat → ClassId) (F : Nat) (sz : Nat) (h0 : Nat) (q0 : Nat → Nat) (x0 : St) (q1 : Nat → Nat) (x1 : St) (n1 : Nat) (a1 : Int32) {o : Nat × Int32} (hm : m_AM_unreachable F x0 x1 n1 a1 = some o) : kT l y_AM_unreachable (.code y_AM_unreachable b_AM_unreachable 2 (some .int) :: gw) rm_AM_unreachable (dC, dI) vwCl (tyv g) G [.ref h0, .int a1] (wd_AM g h0 q0 x0 ++ wd_Points g (q0 1) q1 x1 n1) o.1 o.2 (wd_AM g h0 q0 x0 ++ wd_Points g (q0 1) q1 x1 n1) 1 6 sz := by
  unfold m_AM_unreachable at hm
  refine kmT (cc := b_AM_unreachable) (maxL := 2) (ret := (some .int)) (by decide) rfl (Nat.le_of_ble_eq_true rfl) ?_
  intro p e s m args below meth c Q hQ hx hb hr hts hown hlocks hml htab H locs A hAe hA hP hK hD hS hGA ls hl
  have hl : lv_has ls 2 [(0, .ref h0), (1, .int a1)] := hl
  have hts : ∀ w ∈ gw, w.before args s = true := fun w h => hts w (List.mem_cons_of_mem _ h)
  have hown : s.vm.findClass "AlarmMatrix" = some m.cls := hown
  refine lv_iload_n hx hb d_AM_unreachable_0 rfl (lv_at hl 1 rfl) ?_
  refine lv_if_ge (tgt := 14) hx hb d_AM_unreachable_1 (by decide) (fun hc => ?_) (fun hc => ?_)
  · replace hm := if_t hm hc
    refine lv_aload_n hx hb d_AM_unreachable_14 rfl (lv_at hl 0 rfl) ?_
    refine va_get (D := (dC, dI)) (ci := 0) (v := .ref (q0 1)) (C := "AlarmMatrix") (T := T_AM) (N := 7) hx hb hts i_AM hown hK hP 0 rfl rfl 1 (by decide) (hts _ k1_220) (fun _ h9 => h9) rfl d_AM_unreachable_15 ?_
    refine lv_iload_n hx hb d_AM_unreachable_18 rfl (lv_at hl 1 rfl) ?_
    obtain ⟨r19, hcl, hm⟩ := bn1_s hm
    refine kci (wc := wd_Points g (q0 1) q1 x1 n1) (wr := wd_AM g h0 q0 x0) (w1 := wd_Points g (q0 1) q1 x1 n1) hP hD hS hA [1, 2, 3, 4, 5, 6] [0] rfl rfl (by decide) (by decide) (va_runV (As := [.int a1]) (rest := []) ⟨hx, hb, hml, hown, hts⟩ (c_Points_findUnheard hG hGn l dC dI g F H.size (q0 1) q1 x1 n1 a1 hcl) (cwV 1 hts (gdV k4_135 k4_136 k4_137 k1_3 k4_138) rfl rfl rfl (by decide +kernel) ⟨Nat.le_of_ble_eq_true rfl, Nat.le_of_ble_eq_true rfl⟩) (kpV hG hP hK hD hS hA hGA [1, 2, 3, 4, 5, 6] (by decide) rfl (ci := 7) (q0 := 0) rfl rfl rfl) rfl rfl hl.1 rfl (lv_room (Nat.le_of_ble_eq_true rfl)) d_AM_unreachable_19 ⟨Nat.le_of_ble_eq_true rfl, Nat.le_of_ble_eq_true rfl⟩) (fun H locs hP hD hS => ?_)
    have hP : va_P (dC, dI) vwCl (wd_AM g h0 q0 x0 ++ wd_Points g (q0 1) q1 x1 n1) H := hP
    have hD : va_D A (wd_AM g h0 q0 x0 ++ wd_Points g (q0 1) q1 x1 n1) := hD
    obtain rfl := Option.some.inj hm
    rw [hQ]
    exact kTi hx hb hr hlocks hAe hP hK hD hS (Nat.zero_le _) (Nat.zero_le _) d_AM_unreachable_22
  · replace hm := if_f hm hc
    obtain rfl := Option.some.inj hm
    rw [hQ]
    exact kThrow (rest := []) hx hb hst hts (hGt A s hGA) (Or.inl ⟨rfl, rfl⟩) fit_IAE hown own_IAE k3_102 k1_14 k3_103 ((hGs A s hGA).2.2.2 36 (by decide)) htab (hl.1.trans hml.symm) hlocks hAe hP hK hD hS (Nat.le_of_ble_eq_true rfl) (Nat.le_of_ble_eq_true rfl) (Nat.le_of_ble_eq_true rfl) (Nat.le_of_ble_eq_true rfl) (Nat.le_of_ble_eq_true rfl) (Nat.le_of_ble_eq_true rfl) d_AM_unreachable_4 d_AM_unreachable_7 d_AM_unreachable_8 d_AM_unreachable_10 d_AM_unreachable_13
abbrev b_AM_ticks : ByteArray := prog_1_method_13_code
abbrev y_AM_ticks : MethodName := ⟨"AlarmMatrix", "ticks", "(I)I"⟩
theorem d_AM_ticks_0 : decode b_AM_ticks 0 = .ok (.iload_n 1, 1) := by decide +kernel
theorem d_AM_ticks_1 : decode b_AM_ticks 1 = .ok (.iconst 1, 1) := by decide +kernel
theorem d_AM_ticks_2 : decode b_AM_ticks 2 = .ok (.sipush 200, 3) := by decide +kernel
theorem d_AM_ticks_5 : decode b_AM_ticks 5 = .ok (.invokestatic 62, 3) := by decide +kernel
theorem d_AM_ticks_8 : decode b_AM_ticks 8 = .ok (.ifCond .ne 13, 3) := by decide +kernel
theorem d_AM_ticks_11 : decode b_AM_ticks 11 = .ok (.new 66, 3) := by decide +kernel
theorem d_AM_ticks_14 : decode b_AM_ticks 14 = .ok (.dup, 1) := by decide +kernel
theorem d_AM_ticks_15 : decode b_AM_ticks 15 = .ok (.ldc 179, 2) := by decide +kernel
theorem d_AM_ticks_17 : decode b_AM_ticks 17 = .ok (.invokespecial 70, 3) := by decide +kernel
theorem d_AM_ticks_20 : decode b_AM_ticks 20 = .ok (.athrow, 1) := by decide +kernel
theorem d_AM_ticks_21 : decode b_AM_ticks 21 = .ok (.aload_n 0, 1) := by decide +kernel
theorem d_AM_ticks_22 : decode b_AM_ticks 22 = .ok (.getfield 58, 3) := by decide +kernel
theorem d_AM_ticks_25 : decode b_AM_ticks 25 = .ok (.iload_n 1, 1) := by decide +kernel
theorem d_AM_ticks_26 : decode b_AM_ticks 26 = .ok (.iadd, 1) := by decide +kernel
theorem d_AM_ticks_27 : decode b_AM_ticks 27 = .ok (.sipush 20000, 3) := by decide +kernel
theorem d_AM_ticks_30 : decode b_AM_ticks 30 = .ok (.if_icmp .le 13, 3) := by decide +kernel
theorem d_AM_ticks_33 : decode b_AM_ticks 33 = .ok (.new 77, 3) := by decide +kernel
theorem d_AM_ticks_36 : decode b_AM_ticks 36 = .ok (.dup, 1) := by decide +kernel
theorem d_AM_ticks_37 : decode b_AM_ticks 37 = .ok (.ldc 181, 2) := by decide +kernel
theorem d_AM_ticks_39 : decode b_AM_ticks 39 = .ok (.invokespecial 81, 3) := by decide +kernel
theorem d_AM_ticks_42 : decode b_AM_ticks 42 = .ok (.athrow, 1) := by decide +kernel
theorem d_AM_ticks_43 : decode b_AM_ticks 43 = .ok (.iconst 0, 1) := by decide +kernel
theorem d_AM_ticks_44 : decode b_AM_ticks 44 = .ok (.istore_n 2, 1) := by decide +kernel
theorem d_AM_ticks_45 : decode b_AM_ticks 45 = .ok (.iconst 0, 1) := by decide +kernel
theorem d_AM_ticks_46 : decode b_AM_ticks 46 = .ok (.istore_n 3, 1) := by decide +kernel
theorem d_AM_ticks_47 : decode b_AM_ticks 47 = .ok (.iload_n 3, 1) := by decide +kernel
theorem d_AM_ticks_48 : decode b_AM_ticks 48 = .ok (.iload_n 1, 1) := by decide +kernel
theorem d_AM_ticks_49 : decode b_AM_ticks 49 = .ok (.if_icmp .ge 55, 3) := by decide +kernel
theorem d_AM_ticks_52 : decode b_AM_ticks 52 = .ok (.aload_n 0, 1) := by decide +kernel
theorem d_AM_ticks_53 : decode b_AM_ticks 53 = .ok (.dup, 1) := by decide +kernel
theorem d_AM_ticks_54 : decode b_AM_ticks 54 = .ok (.getfield 58, 3) := by decide +kernel
theorem d_AM_ticks_57 : decode b_AM_ticks 57 = .ok (.iconst 1, 1) := by decide +kernel
theorem d_AM_ticks_58 : decode b_AM_ticks 58 = .ok (.iadd, 1) := by decide +kernel
theorem d_AM_ticks_59 : decode b_AM_ticks 59 = .ok (.putfield 58, 3) := by decide +kernel
theorem d_AM_ticks_62 : decode b_AM_ticks 62 = .ok (.aload_n 0, 1) := by decide +kernel
theorem d_AM_ticks_63 : decode b_AM_ticks 63 = .ok (.getfield 51, 3) := by decide +kernel
theorem d_AM_ticks_66 : decode b_AM_ticks 66 = .ok (.aload_n 0, 1) := by decide +kernel
theorem d_AM_ticks_67 : decode b_AM_ticks 67 = .ok (.getfield 30, 3) := by decide +kernel
theorem d_AM_ticks_70 : decode b_AM_ticks 70 = .ok (.aload_n 0, 1) := by decide +kernel
theorem d_AM_ticks_71 : decode b_AM_ticks 71 = .ok (.getfield 58, 3) := by decide +kernel
theorem d_AM_ticks_74 : decode b_AM_ticks 74 = .ok (.invokevirtual 183, 3) := by decide +kernel
theorem d_AM_ticks_77 : decode b_AM_ticks 77 = .ok (.iload_n 2, 1) := by decide +kernel
theorem d_AM_ticks_78 : decode b_AM_ticks 78 = .ok (.aload_n 0, 1) := by decide +kernel
theorem d_AM_ticks_79 : decode b_AM_ticks 79 = .ok (.getfield 51, 3) := by decide +kernel
theorem d_AM_ticks_82 : decode b_AM_ticks 82 = .ok (.invokevirtual 187, 3) := by decide +kernel
theorem d_AM_ticks_85 : decode b_AM_ticks 85 = .ok (.aload_n 0, 1) := by decide +kernel
theorem d_AM_ticks_86 : decode b_AM_ticks 86 = .ok (.getfield 58, 3) := by decide +kernel
theorem d_AM_ticks_89 : decode b_AM_ticks 89 = .ok (.aload_n 0, 1) := by decide +kernel
theorem d_AM_ticks_90 : decode b_AM_ticks 90 = .ok (.getfield 44, 3) := by decide +kernel
theorem d_AM_ticks_93 : decode b_AM_ticks 93 = .ok (.invokevirtual 191, 3) := by decide +kernel
theorem d_AM_ticks_96 : decode b_AM_ticks 96 = .ok (.iadd, 1) := by decide +kernel
theorem d_AM_ticks_97 : decode b_AM_ticks 97 = .ok (.istore_n 2, 1) := by decide +kernel
theorem d_AM_ticks_98 : decode b_AM_ticks 98 = .ok (.iinc 3 1, 3) := by decide +kernel
theorem d_AM_ticks_101 : decode b_AM_ticks 101 = .ok (.goto (-54), 3) := by decide +kernel
theorem d_AM_ticks_104 : decode b_AM_ticks 104 = .ok (.iload_n 2, 1) := by decide +kernel
theorem d_AM_ticks_105 : decode b_AM_ticks 105 = .ok (.ireturn, 1) := by decide +kernel
def m_AM_ticks_B47 {R : Type} (F : Nat) (a1 : Int32) (x2 : St) (x3 : St) (n3 : Nat) (k47_104 : Int32 → Int32 → St → St → St → St → Option R) (rec47 : Int32 → Int32 → St → St → St → St → Option R) (v2_47 : Int32) (v3_47 : Int32) (y0_47 : St) (y1_47 : St) (y4_47 : St) (y5_47 : St) : Option R :=
  (if a1 ≤ v3_47 then (k47_104 v2_47 v3_47 y0_47 y1_47 y4_47 y5_47) else (lz (sc y0_47 6 ((y0_47 6 0) + (1 : Int32))) (fun e0_59 => (bn2 (m_Plan_look F x2 y4_47 y5_47 x3 n3 (e0_59 6 0)) (fun z4_74 z5_74 => (bn3 (m_Acts_goOn F z4_74 y1_47 (e0_59 6 0)) (fun r93 z4_93 z1_93 => (rec47 (v2_47 + r93) (v3_47 + (1 : Int32)) e0_59 z1_93 z4_93 z5_74))))))))
theorem m_AM_ticks_B47_h {R : Type} {F : Nat} {a1 : Int32} {x2 : St} {x3 : St} {n3 : Nat} {k47_104 : Int32 → Int32 → St → St → St → St → Option R} {rec47 : Int32 → Int32 → St → St → St → St → Option R} {v2_47 : Int32} {v3_47 : Int32} {y0_47 : St} {y1_47 : St} {y4_47 : St} {y5_47 : St} {o : R} (h : m_AM_ticks_B47 F a1 x2 x3 n3 k47_104 rec47 v2_47 v3_47 y0_47 y1_47 y4_47 y5_47 = some o) :
  (if a1 ≤ v3_47 then (k47_104 v2_47 v3_47 y0_47 y1_47 y4_47 y5_47) else (lz (sc y0_47 6 ((y0_47 6 0) + (1 : Int32))) (fun e0_59 => (bn2 (m_Plan_look F x2 y4_47 y5_47 x3 n3 (e0_59 6 0)) (fun z4_74 z5_74 => (bn3 (m_Acts_goOn F z4_74 y1_47 (e0_59 6 0)) (fun r93 z4_93 z1_93 => (rec47 (v2_47 + r93) (v3_47 + (1 : Int32)) e0_59 z1_93 z4_93 z5_74)))))))) = some o := h
def m_AM_ticks (F : Nat) (x0 : St) (x1 : St) (x2 : St) (x3 : St) (n3 : Nat) (x4 : St) (x5 : St) (a1 : Int32) : Option (Nat × Int32 × St × St × St × St) :=
  (bn1 (m_AM_isWithin F a1 (1 : Int32) (200 : Int32)) (fun r5 => (if r5 = (0 : Int32) then (some (1, (0 : Int32), x0, x1, x4, x5)) else (if ((x0 6 0) + a1) ≤ (20000 : Int32) then (lq6 (m_AM_ticks_B47 F a1 x2 x3 n3 (fun v2_47 v3_47 y0_47 y1_47 y4_47 y5_47 => (some (0, v2_47, y0_47, y1_47, y4_47, y5_47)))) F (0 : Int32) (0 : Int32) x0 x1 x4 x5) else (some (2, (0 : Int32), x0, x1, x4, x5))))))
abbrev rm_AM_ticks : Room := { frames := 6, cells := 1, slots := 6, locals := 96 }
set_option maxHeartbeats 4000000 in
set_option maxRecDepth 100000 in
theorem c_AM_ticks {G : (Nat → Prop) → State → Prop} (hG : gok G) (hGn : gN G) {adK adV : Nat → Nat} (hGs : gSt adK adV G) (hGt : gTh G) (l : Launch) (hst : l.stackTraces = false) (dC : Nat → ClassId) (dI : Nat → Nat → Nat) (g : Nat → ClassId) (F : Nat) (sz : Nat) (h0 : Nat) (q0 : Nat → Nat) (x0 : St) (q1 : Nat → Nat) (x1 : St) (q2 : Nat → Nat) (x2 : St) (q3 : Nat → Nat) (x3 : St) (n3 : Nat) (q4 : Nat → Nat) (x4 : St) (q5 : Nat → Nat) (x5 : St) (a1 : Int32) {o : Nat × Int32 × St × St × St × St} (hm : m_AM_ticks F x0 x1 x2 x3 n3 x4 x5 a1 = some o) : kT l y_AM_ticks (.code y_AM_ticks b_AM_ticks 4 (some .int) :: gw) rm_AM_ticks (dC, dI) vwCl (tyv g) G [.ref h0, .int a1] (wd_AM g h0 q0 x0 ++ wd_Events g (q0 3) q1 x1 ++ wd_Plan g (q0 4) q2 x2 ++ wd_Points g (q0 1) q3 x3 n3 ++ wd_Acts g (q2 1) q4 x4 ++ wd_Zones g (q2 0) q5 x5) o.1 o.2.1 (wd_AM g h0 q0 (o.2.2.1) ++ wd_Events g (q0 3) q1 (o.2.2.2.1) ++ wd_Plan g (q0 4) q2 x2 ++ wd_Points g (q0 1) q3 x3 n3 ++ wd_Acts g (q2 1) q4 (o.2.2.2.2.1) ++ wd_Zones g (q2 0) q5 (o.2.2.2.2.2)) 1 6 sz := by
  unfold m_AM_ticks at hm
  refine kmT (cc := b_AM_ticks) (maxL := 4) (ret := (some .int)) (by decide) rfl (Nat.le_of_ble_eq_true rfl) ?_
  intro p e s m args below meth c Q hQ hx hb hr hts hown hlocks hml htab H locs A hAe hA hP hK hD hS hGA ls hl
  have hl : lv_has ls 4 [(0, .ref h0), (1, .int a1)] := hl
  have hts : ∀ w ∈ gw, w.before args s = true := fun w h => hts w (List.mem_cons_of_mem _ h)
  have hown : s.vm.findClass "AlarmMatrix" = some m.cls := hown
  refine lv_iload_n hx hb d_AM_ticks_0 rfl (lv_at hl 1 rfl) ?_
  refine lv_iconst (v := (1 : Int32)) hx hb d_AM_ticks_1 (by decide) ?_
  refine lv_sipush (v := (200 : Int32)) hx hb d_AM_ticks_2 (by decide) ?_
  obtain ⟨r5, hcl, hm⟩ := bn1_s hm
  refine kci (wc := ([] : va_W)) (wr := wd_AM g h0 q0 x0 ++ wd_Events g (q0 3) q1 x1 ++ wd_Plan g (q0 4) q2 x2 ++ wd_Points g (q0 1) q3 x3 n3 ++ wd_Acts g (q2 1) q4 x4 ++ wd_Zones g (q2 0) q5 x5) (w1 := ([] : va_W)) hP hD hS hA [] [0, 1, 2, 3, 4, 5, 6, 7, 8, 9, 10, 11, 12, 13, 14, 15, 16, 17, 18, 19, 20, 21, 22, 23, 24, 25, 26, 27, 28, 29, 30, 31, 32, 33] rfl rfl (by decide) (by decide) (va_runS (As := [.int a1, .int (1 : Int32), .int (200 : Int32)]) (rest := []) ⟨hx, hb, hml, hown, hts⟩ (c_AM_isWithin hG hGn l dC dI g F H.size a1 (1 : Int32) (200 : Int32) hcl) (cwS 3 hts (gdS k3_101 k2_153 k1_1 k2_154) rfl rfl rfl (by decide +kernel) ⟨Nat.le_of_ble_eq_true rfl, Nat.le_of_ble_eq_true rfl⟩) (kpS hG hP hK hD hS hA hGA [] (by decide) rfl) rfl rfl hl.1 rfl (lv_room (Nat.le_of_ble_eq_true rfl)) d_AM_ticks_5 ⟨Nat.le_of_ble_eq_true rfl, Nat.le_of_ble_eq_true rfl⟩) (fun H locs hP hD hS => ?_)
  have hP : va_P (dC, dI) vwCl (wd_AM g h0 q0 x0 ++ wd_Events g (q0 3) q1 x1 ++ wd_Plan g (q0 4) q2 x2 ++ wd_Points g (q0 1) q3 x3 n3 ++ wd_Acts g (q2 1) q4 x4 ++ wd_Zones g (q2 0) q5 x5) H := hP
  have hD : va_D A (wd_AM g h0 q0 x0 ++ wd_Events g (q0 3) q1 x1 ++ wd_Plan g (q0 4) q2 x2 ++ wd_Points g (q0 1) q3 x3 n3 ++ wd_Acts g (q2 1) q4 x4 ++ wd_Zones g (q2 0) q5 x5) := hD
  refine lv_if_ne (tgt := 21) hx hb d_AM_ticks_8 (by decide) (fun hc => ?_) (fun hc => ?_)
  · replace hm := if_f hm hc
    refine lv_aload_n hx hb d_AM_ticks_21 rfl (lv_at hl 0 rfl) ?_
    refine va_get (D := (dC, dI)) (ci := 0) (v := .int (x0 6 0)) (C := "AlarmMatrix") (T := T_AM) (N := 7) hx hb hts i_AM hown hK hP 0 rfl rfl 6 (by decide) (hts _ k1_225) (fun _ h9 => h9) rfl d_AM_ticks_22 ?_
    refine lv_iload_n hx hb d_AM_ticks_25 rfl (lv_at hl 1 rfl) ?_
    refine lv_iadd hx hb d_AM_ticks_26 ?_
    refine lv_sipush (v := (20000 : Int32)) hx hb d_AM_ticks_27 (by decide) ?_
    refine lv_icmp_le (tgt := 43) hx hb d_AM_ticks_30 (by decide) (fun hc => ?_) (fun hc => ?_)
    · replace hm := if_t hm hc
      refine lv_iconst (v := (0 : Int32)) hx hb d_AM_ticks_43 (by decide) ?_
      refine lv_istore_n (lv' := [(2, .int (0 : Int32)), (0, .ref h0), (1, .int a1)]) hx hb d_AM_ticks_44 rfl hl (by decide) rfl (fun ls hl => ?_)
      refine lv_iconst (v := (0 : Int32)) hx hb d_AM_ticks_45 (by decide) ?_
      refine lv_istore_n (lv' := [(3, .int (0 : Int32)), (2, .int (0 : Int32)), (0, .ref h0), (1, .int a1)]) hx hb d_AM_ticks_46 rfl hl (by decide) rfl (fun ls hl => ?_)
      have L47 : ∀ (n47 : Nat) (v2_47 : Int32) (v3_47 : Int32) (y0_47 : St) (y1_47 : St) (y4_47 : St) (y5_47 : St) (H : Heap) (locs : List Loc) (ls : Array Slot), lq6 (m_AM_ticks_B47 F a1 x2 x3 n3 (fun v2_47 v3_47 y0_47 y1_47 y4_47 y5_47 => (some (0, v2_47, y0_47, y1_47, y4_47, y5_47)))) n47 v2_47 v3_47 y0_47 y1_47 y4_47 y5_47 = some o → va_P (dC, dI) vwCl (wd_AM g h0 q0 y0_47 ++ wd_Events g (q0 3) q1 y1_47 ++ wd_Plan g (q0 4) q2 x2 ++ wd_Points g (q0 1) q3 x3 n3 ++ wd_Acts g (q2 1) q4 y4_47 ++ wd_Zones g (q2 0) q5 y5_47) H → va_D A (wd_AM g h0 q0 y0_47 ++ wd_Events g (q0 3) q1 y1_47 ++ wd_Plan g (q0 4) q2 x2 ++ wd_Points g (q0 1) q3 x3 n3 ++ wd_Acts g (q2 1) q4 y4_47 ++ wd_Zones g (q2 0) q5 y5_47) → va_S A s.heap H locs → lv_has ls 4 [(0, .ref h0), (1, .int a1), (2, .int v2_47), (3, .int v3_47)] → W p l e rm_AM_ticks s m args below meth c H locs 0 0 Q (F0 m 47 ls []) := by
        intro n47
        induction n47 with
        | zero => intro v2_47 v3_47 y0_47 y1_47 y4_47 y5_47 H locs ls hm; exact absurd hm (by intro z; cases z)
        | succ n47 ih47 =>
          intro v2_47 v3_47 y0_47 y1_47 y4_47 y5_47 H locs ls hm hP hD hS hl
          replace hm := m_AM_ticks_B47_h (lq6_h hm)
          refine lv_iload_n hx hb d_AM_ticks_47 rfl (lv_at hl 3 rfl) ?_
          refine lv_iload_n hx hb d_AM_ticks_48 rfl (lv_at hl 1 rfl) ?_
          refine lv_icmp_ge (tgt := 104) hx hb d_AM_ticks_49 (by decide) (fun hc => ?_) (fun hc => ?_)
          · replace hm := if_t hm hc
            refine lv_iload_n hx hb d_AM_ticks_104 rfl (lv_at hl 2 rfl) ?_
            obtain rfl := Option.some.inj hm
            rw [hQ]
            exact kTi hx hb hr hlocks hAe hP hK hD hS (Nat.zero_le _) (Nat.zero_le _) d_AM_ticks_105
          · replace hm := if_f hm hc
            refine lv_aload_n hx hb d_AM_ticks_52 rfl (lv_at hl 0 rfl) ?_
            refine lv_dup hx hb d_AM_ticks_53 rfl ?_
            refine va_get (D := (dC, dI)) (ci := 0) (v := .int (y0_47 6 0)) (C := "AlarmMatrix") (T := T_AM) (N := 7) hx hb hts i_AM hown hK hP 0 rfl rfl 6 (by decide) (hts _ k1_225) (fun _ h9 => h9) rfl d_AM_ticks_54 ?_
            refine lv_iconst (v := (1 : Int32)) hx hb d_AM_ticks_57 (by decide) ?_
            refine lv_iadd hx hb d_AM_ticks_58 ?_
            obtain ⟨e0_59, he, hm⟩ := lz_s hm
            refine va_put (D := (dC, dI)) (ci := 0) (v := .int ((y0_47 6 0) + (1 : Int32))) (ty := .int) (C := "AlarmMatrix") (T := T_AM) (N := 7) hx hb hts i_AM t_AM o_AM n_AM hown hK hP hD hS 0 rfl rfl 6 (by decide) (hts _ k1_225) (fun _ h9 => h9) rfl (by decide +kernel) rfl rfl (Nat.le_of_ble_eq_true rfl) d_AM_ticks_59 (fun H locs hP hD hS => ?_)
            have hP : va_P (dC, dI) vwCl (wd_AM g h0 q0 e0_59 ++ wd_Events g (q0 3) q1 y1_47 ++ wd_Plan g (q0 4) q2 x2 ++ wd_Points g (q0 1) q3 x3 n3 ++ wd_Acts g (q2 1) q4 y4_47 ++ wd_Zones g (q2 0) q5 y5_47) H := by rw [he]; exact hP
            have hD : va_D A (wd_AM g h0 q0 e0_59 ++ wd_Events g (q0 3) q1 y1_47 ++ wd_Plan g (q0 4) q2 x2 ++ wd_Points g (q0 1) q3 x3 n3 ++ wd_Acts g (q2 1) q4 y4_47 ++ wd_Zones g (q2 0) q5 y5_47) := by rw [he]; exact hD
            refine lv_aload_n hx hb d_AM_ticks_62 rfl (lv_at hl 0 rfl) ?_
            refine va_get (D := (dC, dI)) (ci := 0) (v := .ref (q0 4)) (C := "AlarmMatrix") (T := T_AM) (N := 7) hx hb hts i_AM hown hK hP 0 rfl rfl 4 (by decide) (hts _ k1_223) (fun _ h9 => h9) rfl d_AM_ticks_63 ?_
            refine lv_aload_n hx hb d_AM_ticks_66 rfl (lv_at hl 0 rfl) ?_
            refine va_get (D := (dC, dI)) (ci := 0) (v := .ref (q0 1)) (C := "AlarmMatrix") (T := T_AM) (N := 7) hx hb hts i_AM hown hK hP 0 rfl rfl 1 (by decide) (hts _ k1_220) (fun _ h9 => h9) rfl d_AM_ticks_67 ?_
            refine lv_aload_n hx hb d_AM_ticks_70 rfl (lv_at hl 0 rfl) ?_
            refine va_get (D := (dC, dI)) (ci := 0) (v := .int (e0_59 6 0)) (C := "AlarmMatrix") (T := T_AM) (N := 7) hx hb hts i_AM hown hK hP 0 rfl rfl 6 (by decide) (hts _ k1_225) (fun _ h9 => h9) rfl d_AM_ticks_71 ?_
            obtain ⟨z4_74, z5_74, hcl, hm⟩ := bn2_s hm
            refine kcv (wc := wd_Plan g (q0 4) q2 x2 ++ wd_Acts g (q2 1) q4 y4_47 ++ wd_Zones g (q2 0) q5 y5_47 ++ wd_Points g (q0 1) q3 x3 n3) (wr := wd_AM g h0 q0 e0_59 ++ wd_Events g (q0 3) q1 y1_47) (w1 := wd_Plan g (q0 4) q2 x2 ++ wd_Acts g (q2 1) q4 z4_74 ++ wd_Zones g (q2 0) q5 z5_74 ++ wd_Points g (q0 1) q3 x3 n3) hP hD hS hA [5, 6, 7, 8, 15, 16, 17, 18, 19, 20, 21, 22, 23, 24, 25, 26, 27, 28, 29, 30, 31, 32, 33, 9, 10, 11, 12, 13, 14] [0, 1, 2, 3, 4] rfl rfl (by decide) (by decide) (va_runV (As := [.ref (q0 1), .int (e0_59 6 0)]) (rest := []) ⟨hx, hb, hml, hown, hts⟩ (c_Plan_look hG hGn l dC dI g F H.size (q0 4) q2 x2 q4 y4_47 q5 y5_47 (q0 1) q3 x3 n3 (e0_59 6 0) hcl) (cwV 2 hts (gdV k3_28 k3_29 k3_30 k1_7 k3_31) rfl rfl rfl (by decide +kernel) ⟨Nat.le_of_ble_eq_true rfl, Nat.le_of_ble_eq_true rfl⟩) (kpV hG hP hK hD hS hA hGA [5, 6, 7, 8, 15, 16, 17, 18, 19, 20, 21, 22, 23, 24, 25, 26, 27, 28, 29, 30, 31, 32, 33, 9, 10, 11, 12, 13, 14] (by decide) rfl (ci := 4) (q0 := 0) rfl rfl rfl) rfl rfl hl.1 rfl (lv_room (Nat.le_of_ble_eq_true rfl)) d_AM_ticks_74 ⟨Nat.le_of_ble_eq_true rfl, Nat.le_of_ble_eq_true rfl⟩) (fun H locs hP hD hS => ?_)
            have hP : va_P (dC, dI) vwCl (wd_AM g h0 q0 e0_59 ++ wd_Events g (q0 3) q1 y1_47 ++ wd_Plan g (q0 4) q2 x2 ++ wd_Points g (q0 1) q3 x3 n3 ++ wd_Acts g (q2 1) q4 z4_74 ++ wd_Zones g (q2 0) q5 z5_74) H := hP.sub (ws' := wd_AM g h0 q0 e0_59 ++ wd_Events g (q0 3) q1 y1_47 ++ wd_Plan g (q0 4) q2 x2 ++ wd_Points g (q0 1) q3 x3 n3 ++ wd_Acts g (q2 1) q4 z4_74 ++ wd_Zones g (q2 0) q5 z5_74) [0, 1, 2, 3, 4, 5, 6, 7, 8, 28, 29, 30, 31, 32, 33, 9, 10, 11, 12, 13, 14, 15, 16, 17, 18, 19, 20, 21, 22, 23, 24, 25, 26, 27] rfl
            have hD : va_D A (wd_AM g h0 q0 e0_59 ++ wd_Events g (q0 3) q1 y1_47 ++ wd_Plan g (q0 4) q2 x2 ++ wd_Points g (q0 1) q3 x3 n3 ++ wd_Acts g (q2 1) q4 z4_74 ++ wd_Zones g (q2 0) q5 z5_74) := hD.sub (ws' := wd_AM g h0 q0 e0_59 ++ wd_Events g (q0 3) q1 y1_47 ++ wd_Plan g (q0 4) q2 x2 ++ wd_Points g (q0 1) q3 x3 n3 ++ wd_Acts g (q2 1) q4 z4_74 ++ wd_Zones g (q2 0) q5 z5_74) [0, 1, 2, 3, 4, 5, 6, 7, 8, 28, 29, 30, 31, 32, 33, 9, 10, 11, 12, 13, 14, 15, 16, 17, 18, 19, 20, 21, 22, 23, 24, 25, 26, 27] (by decide) rfl
            refine lv_iload_n hx hb d_AM_ticks_77 rfl (lv_at hl 2 rfl) ?_
            refine lv_aload_n hx hb d_AM_ticks_78 rfl (lv_at hl 0 rfl) ?_
            refine va_get (D := (dC, dI)) (ci := 0) (v := .ref (q0 4)) (C := "AlarmMatrix") (T := T_AM) (N := 7) hx hb hts i_AM hown hK hP 0 rfl rfl 4 (by decide) (hts _ k1_223) (fun _ h9 => h9) rfl d_AM_ticks_79 ?_
            refine kcr (wc := wd_Plan g (q0 4) q2 x2) (wr := wd_AM g h0 q0 e0_59 ++ wd_Events g (q0 3) q1 y1_47 ++ wd_Points g (q0 1) q3 x3 n3 ++ wd_Acts g (q2 1) q4 z4_74 ++ wd_Zones g (q2 0) q5 z5_74) (w1 := wd_Plan g (q0 4) q2 x2) hP hD hS hA [5, 6, 7, 8] [0, 1, 2, 3, 4, 9, 10, 11, 12, 13, 14, 15, 16, 17, 18, 19, 20, 21, 22, 23, 24, 25, 26, 27, 28, 29, 30, 31, 32, 33] rfl rfl (by decide) (by decide) (va_runV (As := []) (rest := [.int v2_47]) ⟨hx, hb, hml, hown, hts⟩ (c_Plan_acts hG hGn l dC dI g F H.size (q0 4) q2 x2) (cwV 0 hts (gdV k3_75 k2_203 k2_204 k1_7 k2_205) rfl rfl rfl (by decide +kernel) ⟨Nat.le_of_ble_eq_true rfl, Nat.le_of_ble_eq_true rfl⟩) (kpV hG hP hK hD hS hA hGA [5, 6, 7, 8] (by decide) rfl (ci := 4) (q0 := 0) rfl rfl rfl) rfl rfl hl.1 rfl (lv_room (Nat.le_of_ble_eq_true rfl)) d_AM_ticks_82 ⟨Nat.le_of_ble_eq_true rfl, Nat.le_of_ble_eq_true rfl⟩) (fun H locs hP hD hS => ?_)
            have hP : va_P (dC, dI) vwCl (wd_AM g h0 q0 e0_59 ++ wd_Events g (q0 3) q1 y1_47 ++ wd_Plan g (q0 4) q2 x2 ++ wd_Points g (q0 1) q3 x3 n3 ++ wd_Acts g (q2 1) q4 z4_74 ++ wd_Zones g (q2 0) q5 z5_74) H := hP.sub (ws' := wd_AM g h0 q0 e0_59 ++ wd_Events g (q0 3) q1 y1_47 ++ wd_Plan g (q0 4) q2 x2 ++ wd_Points g (q0 1) q3 x3 n3 ++ wd_Acts g (q2 1) q4 z4_74 ++ wd_Zones g (q2 0) q5 z5_74) [0, 1, 2, 3, 4, 30, 31, 32, 33, 5, 6, 7, 8, 9, 10, 11, 12, 13, 14, 15, 16, 17, 18, 19, 20, 21, 22, 23, 24, 25, 26, 27, 28, 29] rfl
            have hD : va_D A (wd_AM g h0 q0 e0_59 ++ wd_Events g (q0 3) q1 y1_47 ++ wd_Plan g (q0 4) q2 x2 ++ wd_Points g (q0 1) q3 x3 n3 ++ wd_Acts g (q2 1) q4 z4_74 ++ wd_Zones g (q2 0) q5 z5_74) := hD.sub (ws' := wd_AM g h0 q0 e0_59 ++ wd_Events g (q0 3) q1 y1_47 ++ wd_Plan g (q0 4) q2 x2 ++ wd_Points g (q0 1) q3 x3 n3 ++ wd_Acts g (q2 1) q4 z4_74 ++ wd_Zones g (q2 0) q5 z5_74) [0, 1, 2, 3, 4, 30, 31, 32, 33, 5, 6, 7, 8, 9, 10, 11, 12, 13, 14, 15, 16, 17, 18, 19, 20, 21, 22, 23, 24, 25, 26, 27, 28, 29] (by decide) rfl
            refine lv_aload_n hx hb d_AM_ticks_85 rfl (lv_at hl 0 rfl) ?_
            refine va_get (D := (dC, dI)) (ci := 0) (v := .int (e0_59 6 0)) (C := "AlarmMatrix") (T := T_AM) (N := 7) hx hb hts i_AM hown hK hP 0 rfl rfl 6 (by decide) (hts _ k1_225) (fun _ h9 => h9) rfl d_AM_ticks_86 ?_
            refine lv_aload_n hx hb d_AM_ticks_89 rfl (lv_at hl 0 rfl) ?_
            refine va_get (D := (dC, dI)) (ci := 0) (v := .ref (q0 3)) (C := "AlarmMatrix") (T := T_AM) (N := 7) hx hb hts i_AM hown hK hP 0 rfl rfl 3 (by decide) (hts _ k1_222) (fun _ h9 => h9) rfl d_AM_ticks_90 ?_
            obtain ⟨r93, z4_93, z1_93, hcl, hm⟩ := bn3_s hm
            refine kci (wc := wd_Acts g (q2 1) q4 z4_74 ++ wd_Events g (q0 3) q1 y1_47) (wr := wd_AM g h0 q0 e0_59 ++ wd_Plan g (q0 4) q2 x2 ++ wd_Points g (q0 1) q3 x3 n3 ++ wd_Zones g (q2 0) q5 z5_74) (w1 := wd_Acts g (q2 1) q4 z4_93 ++ wd_Events g (q0 3) q1 z1_93) hP hD hS hA [15, 16, 17, 18, 19, 20, 21, 22, 23, 24, 25, 26, 27, 1, 2, 3, 4] [0, 5, 6, 7, 8, 9, 10, 11, 12, 13, 14, 28, 29, 30, 31, 32, 33] rfl rfl (by decide) (by decide) (va_runV (As := [.int (e0_59 6 0), .ref (q0 3)]) (rest := [.int v2_47]) ⟨hx, hb, hml, hown, hts⟩ (c_Acts_goOn hG hGn l dC dI g F H.size (q2 1) q4 z4_74 (q0 3) q1 y1_47 (e0_59 6 0) hcl) (cwV 2 hts (gdV k4_148 k4_149 k4_150 k1_9 k4_151) rfl rfl rfl (by decide +kernel) ⟨Nat.le_of_ble_eq_true rfl, Nat.le_of_ble_eq_true rfl⟩) (kpV hG hP hK hD hS hA hGA [15, 16, 17, 18, 19, 20, 21, 22, 23, 24, 25, 26, 27, 1, 2, 3, 4] (by decide) rfl (ci := 6) (q0 := 0) rfl rfl rfl) rfl rfl hl.1 rfl (lv_room (Nat.le_of_ble_eq_true rfl)) d_AM_ticks_93 ⟨Nat.le_of_ble_eq_true rfl, Nat.le_of_ble_eq_true rfl⟩) (fun H locs hP hD hS => ?_)
            have hP : va_P (dC, dI) vwCl (wd_AM g h0 q0 e0_59 ++ wd_Events g (q0 3) q1 z1_93 ++ wd_Plan g (q0 4) q2 x2 ++ wd_Points g (q0 1) q3 x3 n3 ++ wd_Acts g (q2 1) q4 z4_93 ++ wd_Zones g (q2 0) q5 z5_74) H := hP.sub (ws' := wd_AM g h0 q0 e0_59 ++ wd_Events g (q0 3) q1 z1_93 ++ wd_Plan g (q0 4) q2 x2 ++ wd_Points g (q0 1) q3 x3 n3 ++ wd_Acts g (q2 1) q4 z4_93 ++ wd_Zones g (q2 0) q5 z5_74) [0, 30, 31, 32, 33, 1, 2, 3, 4, 5, 6, 7, 8, 9, 10, 17, 18, 19, 20, 21, 22, 23, 24, 25, 26, 27, 28, 29, 11, 12, 13, 14, 15, 16] rfl
            have hD : va_D A (wd_AM g h0 q0 e0_59 ++ wd_Events g (q0 3) q1 z1_93 ++ wd_Plan g (q0 4) q2 x2 ++ wd_Points g (q0 1) q3 x3 n3 ++ wd_Acts g (q2 1) q4 z4_93 ++ wd_Zones g (q2 0) q5 z5_74) := hD.sub (ws' := wd_AM g h0 q0 e0_59 ++ wd_Events g (q0 3) q1 z1_93 ++ wd_Plan g (q0 4) q2 x2 ++ wd_Points g (q0 1) q3 x3 n3 ++ wd_Acts g (q2 1) q4 z4_93 ++ wd_Zones g (q2 0) q5 z5_74) [0, 30, 31, 32, 33, 1, 2, 3, 4, 5, 6, 7, 8, 9, 10, 17, 18, 19, 20, 21, 22, 23, 24, 25, 26, 27, 28, 29, 11, 12, 13, 14, 15, 16] (by decide) rfl
            refine lv_iadd hx hb d_AM_ticks_96 ?_
            refine lv_istore_n (lv' := [(2, .int (v2_47 + r93)), (0, .ref h0), (1, .int a1), (3, .int v3_47)]) hx hb d_AM_ticks_97 rfl hl (by decide) rfl (fun ls hl => ?_)
            refine lv_iinc (v := (v3_47 + (1 : Int32))) (lv' := [(3, .int (v3_47 + (1 : Int32))), (2, .int (v2_47 + r93)), (0, .ref h0), (1, .int a1)]) hx hb d_AM_ticks_98 hl (k := 3) rfl rfl (by decide) rfl (fun ls hl => ?_)
            refine lv_goto (tgt := 47) hx hb d_AM_ticks_101 (by decide) ?_
            exact ih47 (v2_47 + r93) (v3_47 + (1 : Int32)) e0_59 z1_93 z4_93 z5_74 H locs ls hm hP hD hS (lv_sub hl [2, 3, 1, 0] rfl)
      exact L47 F (0 : Int32) (0 : Int32) x0 x1 x4 x5 H locs ls hm hP hD hS (lv_sub hl [2, 3, 1, 0] rfl)
    · replace hm := if_f hm hc
      obtain rfl := Option.some.inj hm
      rw [hQ]
      exact kThrow (rest := []) hx hb hst hts (hGt A s hGA) (Or.inr ⟨rfl, rfl⟩) fit_ISE hown own_ISE k3_169 k1_15 k3_170 ((hGs A s hGA).2.2.2 38 (by decide)) htab (hl.1.trans hml.symm) hlocks hAe hP hK hD hS (Nat.le_of_ble_eq_true rfl) (Nat.le_of_ble_eq_true rfl) (Nat.le_of_ble_eq_true rfl) (Nat.le_of_ble_eq_true rfl) (Nat.le_of_ble_eq_true rfl) (Nat.le_of_ble_eq_true rfl) d_AM_ticks_33 d_AM_ticks_36 d_AM_ticks_37 d_AM_ticks_39 d_AM_ticks_42
  · replace hm := if_t hm hc
    obtain rfl := Option.some.inj hm
    rw [hQ]
    exact kThrow (rest := []) hx hb hst hts (hGt A s hGA) (Or.inl ⟨rfl, rfl⟩) fit_IAE hown own_IAE k3_102 k1_14 k3_103 ((hGs A s hGA).2.2.2 37 (by decide)) htab (hl.1.trans hml.symm) hlocks hAe hP hK hD hS (Nat.le_of_ble_eq_true rfl) (Nat.le_of_ble_eq_true rfl) (Nat.le_of_ble_eq_true rfl) (Nat.le_of_ble_eq_true rfl) (Nat.le_of_ble_eq_true rfl) (Nat.le_of_ble_eq_true rfl) d_AM_ticks_11 d_AM_ticks_14 d_AM_ticks_15 d_AM_ticks_17 d_AM_ticks_20
abbrev b_AM_person : ByteArray := prog_1_method_14_code
abbrev y_AM_person : MethodName := ⟨"AlarmMatrix", "person", "(I)I"⟩
theorem d_AM_person_0 : decode b_AM_person 0 = .ok (.iload_n 1, 1) := by decide +kernel
theorem d_AM_person_1 : decode b_AM_person 1 = .ok (.iconst 0, 1) := by decide +kernel
theorem d_AM_person_2 : decode b_AM_person 2 = .ok (.iconst 1, 1) := by decide +kernel
theorem d_AM_person_3 : decode b_AM_person 3 = .ok (.invokestatic 62, 3) := by decide +kernel
theorem d_AM_person_6 : decode b_AM_person 6 = .ok (.ifCond .ne 13, 3) := by decide +kernel
theorem d_AM_person_9 : decode b_AM_person 9 = .ok (.new 66, 3) := by decide +kernel
theorem d_AM_person_12 : decode b_AM_person 12 = .ok (.dup, 1) := by decide +kernel
theorem d_AM_person_13 : decode b_AM_person 13 = .ok (.ldc 197, 2) := by decide +kernel
theorem d_AM_person_15 : decode b_AM_person 15 = .ok (.invokespecial 70, 3) := by decide +kernel
theorem d_AM_person_18 : decode b_AM_person 18 = .ok (.athrow, 1) := by decide +kernel
theorem d_AM_person_19 : decode b_AM_person 19 = .ok (.iload_n 1, 1) := by decide +kernel
theorem d_AM_person_20 : decode b_AM_person 20 = .ok (.ifCond .ne 20, 3) := by decide +kernel
theorem d_AM_person_23 : decode b_AM_person 23 = .ok (.aload_n 0, 1) := by decide +kernel
theorem d_AM_person_24 : decode b_AM_person 24 = .ok (.getfield 51, 3) := by decide +kernel
theorem d_AM_person_27 : decode b_AM_person 27 = .ok (.invokevirtual 187, 3) := by decide +kernel
theorem d_AM_person_30 : decode b_AM_person 30 = .ok (.aload_n 0, 1) := by decide +kernel
theorem d_AM_person_31 : decode b_AM_person 31 = .ok (.getfield 58, 3) := by decide +kernel
theorem d_AM_person_34 : decode b_AM_person 34 = .ok (.invokevirtual 199, 3) := by decide +kernel
theorem d_AM_person_37 : decode b_AM_person 37 = .ok (.goto 13, 3) := by decide +kernel
theorem d_AM_person_40 : decode b_AM_person 40 = .ok (.aload_n 0, 1) := by decide +kernel
theorem d_AM_person_41 : decode b_AM_person 41 = .ok (.getfield 51, 3) := by decide +kernel
theorem d_AM_person_44 : decode b_AM_person 44 = .ok (.invokevirtual 187, 3) := by decide +kernel
theorem d_AM_person_47 : decode b_AM_person 47 = .ok (.invokevirtual 202, 3) := by decide +kernel
theorem d_AM_person_50 : decode b_AM_person 50 = .ok (.ireturn, 1) := by decide +kernel
def m_AM_person (F : Nat) (x0 : St) (x1 : St) (x2 : St) (a1 : Int32) : Option (Nat × Int32 × St) :=
  (bn1 (m_AM_isWithin F a1 (0 : Int32) (1 : Int32)) (fun r3 => (if r3 = (0 : Int32) then (some (1, (0 : Int32), x2)) else (if a1 = (0 : Int32) then (bn2 (m_Acts_waitAnew F x2 (x0 6 0)) (fun r34 z2_34 => (some (0, r34, z2_34)))) else (bn2 (m_Acts_confirm F x2) (fun r47 z2_47 => (some (0, r47, z2_47))))))))
abbrev rm_AM_person : Room := { frames := 6, cells := 1, slots := 6, locals := 90 }
set_option maxHeartbeats 4000000 in
set_option maxRecDepth 100000 in
theorem c_AM_person {G : (Nat → Prop) → State → Prop} (hG : gok G) (hGn : gN G) {adK adV : Nat → Nat} (hGs : gSt adK adV G) (hGt : gTh G) (l : Launch) (hst : l.stackTraces = false) (dC : Nat → ClassId) (dI : Nat → Nat → Nat) (g : Nat → ClassId) (F : Nat) (sz : Nat) (h0 : Nat) (q0 : Nat → Nat) (x0 : St) (q1 : Nat → Nat) (x1 : St) (q2 : Nat → Nat) (x2 : St) (a1 : Int32) {o : Nat × Int32 × St} (hm : m_AM_person F x0 x1 x2 a1 = some o) : kT l y_AM_person (.code y_AM_person b_AM_person 2 (some .int) :: gw) rm_AM_person (dC, dI) vwCl (tyv g) G [.ref h0, .int a1] (wd_AM g h0 q0 x0 ++ wd_Plan g (q0 4) q1 x1 ++ wd_Acts g (q1 1) q2 x2) o.1 o.2.1 (wd_AM g h0 q0 x0 ++ wd_Plan g (q0 4) q1 x1 ++ wd_Acts g (q1 1) q2 (o.2.2)) 1 6 sz := by
  unfold m_AM_person at hm
  refine kmT (cc := b_AM_person) (maxL := 2) (ret := (some .int)) (by decide) rfl (Nat.le_of_ble_eq_true rfl) ?_
  intro p e s m args below meth c Q hQ hx hb hr hts hown hlocks hml htab H locs A hAe hA hP hK hD hS hGA ls hl
  have hl : lv_has ls 2 [(0, .ref h0), (1, .int a1)] := hl
  have hts : ∀ w ∈ gw, w.before args s = true := fun w h => hts w (List.mem_cons_of_mem _ h)
  have hown : s.vm.findClass "AlarmMatrix" = some m.cls := hown
  refine lv_iload_n hx hb d_AM_person_0 rfl (lv_at hl 1 rfl) ?_
  refine lv_iconst (v := (0 : Int32)) hx hb d_AM_person_1 (by decide) ?_
  refine lv_iconst (v := (1 : Int32)) hx hb d_AM_person_2 (by decide) ?_
  obtain ⟨r3, hcl, hm⟩ := bn1_s hm
  refine kci (wc := ([] : va_W)) (wr := wd_AM g h0 q0 x0 ++ wd_Plan g (q0 4) q1 x1 ++ wd_Acts g (q1 1) q2 x2) (w1 := ([] : va_W)) hP hD hS hA [] [0, 1, 2, 3, 4, 5, 6, 7, 8, 9, 10, 11, 12, 13, 14, 15, 16, 17] rfl rfl (by decide) (by decide) (va_runS (As := [.int a1, .int (0 : Int32), .int (1 : Int32)]) (rest := []) ⟨hx, hb, hml, hown, hts⟩ (c_AM_isWithin hG hGn l dC dI g F H.size a1 (0 : Int32) (1 : Int32) hcl) (cwS 3 hts (gdS k3_101 k2_153 k1_1 k2_154) rfl rfl rfl (by decide +kernel) ⟨Nat.le_of_ble_eq_true rfl, Nat.le_of_ble_eq_true rfl⟩) (kpS hG hP hK hD hS hA hGA [] (by decide) rfl) rfl rfl hl.1 rfl (lv_room (Nat.le_of_ble_eq_true rfl)) d_AM_person_3 ⟨Nat.le_of_ble_eq_true rfl, Nat.le_of_ble_eq_true rfl⟩) (fun H locs hP hD hS => ?_)
  have hP : va_P (dC, dI) vwCl (wd_AM g h0 q0 x0 ++ wd_Plan g (q0 4) q1 x1 ++ wd_Acts g (q1 1) q2 x2) H := hP
  have hD : va_D A (wd_AM g h0 q0 x0 ++ wd_Plan g (q0 4) q1 x1 ++ wd_Acts g (q1 1) q2 x2) := hD
  refine lv_if_ne (tgt := 19) hx hb d_AM_person_6 (by decide) (fun hc => ?_) (fun hc => ?_)
  · replace hm := if_f hm hc
    refine lv_iload_n hx hb d_AM_person_19 rfl (lv_at hl 1 rfl) ?_
    refine lv_if_ne (tgt := 40) hx hb d_AM_person_20 (by decide) (fun hc => ?_) (fun hc => ?_)
    · replace hm := if_f hm hc
      refine lv_aload_n hx hb d_AM_person_40 rfl (lv_at hl 0 rfl) ?_
      refine va_get (D := (dC, dI)) (ci := 0) (v := .ref (q0 4)) (C := "AlarmMatrix") (T := T_AM) (N := 7) hx hb hts i_AM hown hK hP 0 rfl rfl 4 (by decide) (hts _ k1_223) (fun _ h9 => h9) rfl d_AM_person_41 ?_
      refine kcr (wc := wd_Plan g (q0 4) q1 x1) (wr := wd_AM g h0 q0 x0 ++ wd_Acts g (q1 1) q2 x2) (w1 := wd_Plan g (q0 4) q1 x1) hP hD hS hA [1, 2, 3, 4] [0, 5, 6, 7, 8, 9, 10, 11, 12, 13, 14, 15, 16, 17] rfl rfl (by decide) (by decide) (va_runV (As := []) (rest := []) ⟨hx, hb, hml, hown, hts⟩ (c_Plan_acts hG hGn l dC dI g F H.size (q0 4) q1 x1) (cwV 0 hts (gdV k3_75 k2_203 k2_204 k1_7 k2_205) rfl rfl rfl (by decide +kernel) ⟨Nat.le_of_ble_eq_true rfl, Nat.le_of_ble_eq_true rfl⟩) (kpV hG hP hK hD hS hA hGA [1, 2, 3, 4] (by decide) rfl (ci := 4) (q0 := 0) rfl rfl rfl) rfl rfl hl.1 rfl (lv_room (Nat.le_of_ble_eq_true rfl)) d_AM_person_44 ⟨Nat.le_of_ble_eq_true rfl, Nat.le_of_ble_eq_true rfl⟩) (fun H locs hP hD hS => ?_)
      have hP : va_P (dC, dI) vwCl (wd_AM g h0 q0 x0 ++ wd_Plan g (q0 4) q1 x1 ++ wd_Acts g (q1 1) q2 x2) H := hP.sub (ws' := wd_AM g h0 q0 x0 ++ wd_Plan g (q0 4) q1 x1 ++ wd_Acts g (q1 1) q2 x2) [0, 14, 15, 16, 17, 1, 2, 3, 4, 5, 6, 7, 8, 9, 10, 11, 12, 13] rfl
      have hD : va_D A (wd_AM g h0 q0 x0 ++ wd_Plan g (q0 4) q1 x1 ++ wd_Acts g (q1 1) q2 x2) := hD.sub (ws' := wd_AM g h0 q0 x0 ++ wd_Plan g (q0 4) q1 x1 ++ wd_Acts g (q1 1) q2 x2) [0, 14, 15, 16, 17, 1, 2, 3, 4, 5, 6, 7, 8, 9, 10, 11, 12, 13] (by decide) rfl
      obtain ⟨r47, z2_47, hcl, hm⟩ := bn2_s hm
      refine kci (wc := wd_Acts g (q1 1) q2 x2) (wr := wd_AM g h0 q0 x0 ++ wd_Plan g (q0 4) q1 x1) (w1 := wd_Acts g (q1 1) q2 z2_47) hP hD hS hA [5, 6, 7, 8, 9, 10, 11, 12, 13, 14, 15, 16, 17] [0, 1, 2, 3, 4] rfl rfl (by decide) (by decide) (va_runV (As := []) (rest := []) ⟨hx, hb, hml, hown, hts⟩ (c_Acts_confirm hG hGn l dC dI g F H.size (q1 1) q2 x2 hcl) (cwV 0 hts (gdV k4_180 k4_181 k4_182 k1_9 k4_183) rfl rfl rfl (by decide +kernel) ⟨Nat.le_of_ble_eq_true rfl, Nat.le_of_ble_eq_true rfl⟩) (kpV hG hP hK hD hS hA hGA [5, 6, 7, 8, 9, 10, 11, 12, 13, 14, 15, 16, 17] (by decide) rfl (ci := 6) (q0 := 0) rfl rfl rfl) rfl rfl hl.1 rfl (lv_room (Nat.le_of_ble_eq_true rfl)) d_AM_person_47 ⟨Nat.le_of_ble_eq_true rfl, Nat.le_of_ble_eq_true rfl⟩) (fun H locs hP hD hS => ?_)
      have hP : va_P (dC, dI) vwCl (wd_AM g h0 q0 x0 ++ wd_Plan g (q0 4) q1 x1 ++ wd_Acts g (q1 1) q2 z2_47) H := hP
      have hD : va_D A (wd_AM g h0 q0 x0 ++ wd_Plan g (q0 4) q1 x1 ++ wd_Acts g (q1 1) q2 z2_47) := hD
      obtain rfl := Option.some.inj hm
      rw [hQ]
      exact kTi hx hb hr hlocks hAe hP hK hD hS (Nat.zero_le _) (Nat.zero_le _) d_AM_person_50
    · replace hm := if_t hm hc
      refine lv_aload_n hx hb d_AM_person_23 rfl (lv_at hl 0 rfl) ?_
      refine va_get (D := (dC, dI)) (ci := 0) (v := .ref (q0 4)) (C := "AlarmMatrix") (T := T_AM) (N := 7) hx hb hts i_AM hown hK hP 0 rfl rfl 4 (by decide) (hts _ k1_223) (fun _ h9 => h9) rfl d_AM_person_24 ?_
      refine kcr (wc := wd_Plan g (q0 4) q1 x1) (wr := wd_AM g h0 q0 x0 ++ wd_Acts g (q1 1) q2 x2) (w1 := wd_Plan g (q0 4) q1 x1) hP hD hS hA [1, 2, 3, 4] [0, 5, 6, 7, 8, 9, 10, 11, 12, 13, 14, 15, 16, 17] rfl rfl (by decide) (by decide) (va_runV (As := []) (rest := []) ⟨hx, hb, hml, hown, hts⟩ (c_Plan_acts hG hGn l dC dI g F H.size (q0 4) q1 x1) (cwV 0 hts (gdV k3_75 k2_203 k2_204 k1_7 k2_205) rfl rfl rfl (by decide +kernel) ⟨Nat.le_of_ble_eq_true rfl, Nat.le_of_ble_eq_true rfl⟩) (kpV hG hP hK hD hS hA hGA [1, 2, 3, 4] (by decide) rfl (ci := 4) (q0 := 0) rfl rfl rfl) rfl rfl hl.1 rfl (lv_room (Nat.le_of_ble_eq_true rfl)) d_AM_person_27 ⟨Nat.le_of_ble_eq_true rfl, Nat.le_of_ble_eq_true rfl⟩) (fun H locs hP hD hS => ?_)
      have hP : va_P (dC, dI) vwCl (wd_AM g h0 q0 x0 ++ wd_Plan g (q0 4) q1 x1 ++ wd_Acts g (q1 1) q2 x2) H := hP.sub (ws' := wd_AM g h0 q0 x0 ++ wd_Plan g (q0 4) q1 x1 ++ wd_Acts g (q1 1) q2 x2) [0, 14, 15, 16, 17, 1, 2, 3, 4, 5, 6, 7, 8, 9, 10, 11, 12, 13] rfl
      have hD : va_D A (wd_AM g h0 q0 x0 ++ wd_Plan g (q0 4) q1 x1 ++ wd_Acts g (q1 1) q2 x2) := hD.sub (ws' := wd_AM g h0 q0 x0 ++ wd_Plan g (q0 4) q1 x1 ++ wd_Acts g (q1 1) q2 x2) [0, 14, 15, 16, 17, 1, 2, 3, 4, 5, 6, 7, 8, 9, 10, 11, 12, 13] (by decide) rfl
      refine lv_aload_n hx hb d_AM_person_30 rfl (lv_at hl 0 rfl) ?_
      refine va_get (D := (dC, dI)) (ci := 0) (v := .int (x0 6 0)) (C := "AlarmMatrix") (T := T_AM) (N := 7) hx hb hts i_AM hown hK hP 0 rfl rfl 6 (by decide) (hts _ k1_225) (fun _ h9 => h9) rfl d_AM_person_31 ?_
      obtain ⟨r34, z2_34, hcl, hm⟩ := bn2_s hm
      refine kci (wc := wd_Acts g (q1 1) q2 x2) (wr := wd_AM g h0 q0 x0 ++ wd_Plan g (q0 4) q1 x1) (w1 := wd_Acts g (q1 1) q2 z2_34) hP hD hS hA [5, 6, 7, 8, 9, 10, 11, 12, 13, 14, 15, 16, 17] [0, 1, 2, 3, 4] rfl rfl (by decide) (by decide) (va_runV (As := [.int (x0 6 0)]) (rest := []) ⟨hx, hb, hml, hown, hts⟩ (c_Acts_waitAnew hG hGn l dC dI g F H.size (q1 1) q2 x2 (x0 6 0) hcl) (cwV 1 hts (gdV k4_176 k4_177 k4_178 k1_9 k4_179) rfl rfl rfl (by decide +kernel) ⟨Nat.le_of_ble_eq_true rfl, Nat.le_of_ble_eq_true rfl⟩) (kpV hG hP hK hD hS hA hGA [5, 6, 7, 8, 9, 10, 11, 12, 13, 14, 15, 16, 17] (by decide) rfl (ci := 6) (q0 := 0) rfl rfl rfl) rfl rfl hl.1 rfl (lv_room (Nat.le_of_ble_eq_true rfl)) d_AM_person_34 ⟨Nat.le_of_ble_eq_true rfl, Nat.le_of_ble_eq_true rfl⟩) (fun H locs hP hD hS => ?_)
      have hP : va_P (dC, dI) vwCl (wd_AM g h0 q0 x0 ++ wd_Plan g (q0 4) q1 x1 ++ wd_Acts g (q1 1) q2 z2_34) H := hP
      have hD : va_D A (wd_AM g h0 q0 x0 ++ wd_Plan g (q0 4) q1 x1 ++ wd_Acts g (q1 1) q2 z2_34) := hD
      refine lv_goto (tgt := 50) hx hb d_AM_person_37 (by decide) ?_
      obtain rfl := Option.some.inj hm
      rw [hQ]
      exact kTi hx hb hr hlocks hAe hP hK hD hS (Nat.zero_le _) (Nat.zero_le _) d_AM_person_50
  · replace hm := if_t hm hc
    obtain rfl := Option.some.inj hm
    rw [hQ]
    exact kThrow (rest := []) hx hb hst hts (hGt A s hGA) (Or.inl ⟨rfl, rfl⟩) fit_IAE hown own_IAE k3_102 k1_14 k3_103 ((hGs A s hGA).2.2.2 39 (by decide)) htab (hl.1.trans hml.symm) hlocks hAe hP hK hD hS (Nat.le_of_ble_eq_true rfl) (Nat.le_of_ble_eq_true rfl) (Nat.le_of_ble_eq_true rfl) (Nat.le_of_ble_eq_true rfl) (Nat.le_of_ble_eq_true rfl) (Nat.le_of_ble_eq_true rfl) d_AM_person_9 d_AM_person_12 d_AM_person_13 d_AM_person_15 d_AM_person_18
abbrev b_AM_reset : ByteArray := prog_1_method_15_code
abbrev y_AM_reset : MethodName := ⟨"AlarmMatrix", "reset", "()I"⟩
theorem d_AM_reset_0 : decode b_AM_reset 0 = .ok (.aload_n 0, 1) := by decide +kernel
theorem d_AM_reset_1 : decode b_AM_reset 1 = .ok (.getfield 51, 3) := by decide +kernel
theorem d_AM_reset_4 : decode b_AM_reset 4 = .ok (.aload_n 0, 1) := by decide +kernel
theorem d_AM_reset_5 : decode b_AM_reset 5 = .ok (.getfield 30, 3) := by decide +kernel
theorem d_AM_reset_8 : decode b_AM_reset 8 = .ok (.aload_n 0, 1) := by decide +kernel
theorem d_AM_reset_9 : decode b_AM_reset 9 = .ok (.getfield 58, 3) := by decide +kernel
theorem d_AM_reset_12 : decode b_AM_reset 12 = .ok (.invokevirtual 183, 3) := by decide +kernel
theorem d_AM_reset_15 : decode b_AM_reset 15 = .ok (.aload_n 0, 1) := by decide +kernel
theorem d_AM_reset_16 : decode b_AM_reset 16 = .ok (.getfield 51, 3) := by decide +kernel
theorem d_AM_reset_19 : decode b_AM_reset 19 = .ok (.invokevirtual 187, 3) := by decide +kernel
theorem d_AM_reset_22 : decode b_AM_reset 22 = .ok (.aload_n 0, 1) := by decide +kernel
theorem d_AM_reset_23 : decode b_AM_reset 23 = .ok (.getfield 58, 3) := by decide +kernel
theorem d_AM_reset_26 : decode b_AM_reset 26 = .ok (.aload_n 0, 1) := by decide +kernel
theorem d_AM_reset_27 : decode b_AM_reset 27 = .ok (.getfield 44, 3) := by decide +kernel
theorem d_AM_reset_30 : decode b_AM_reset 30 = .ok (.invokevirtual 205, 3) := by decide +kernel
theorem d_AM_reset_33 : decode b_AM_reset 33 = .ok (.ireturn, 1) := by decide +kernel
def m_AM_reset (F : Nat) (x0 : St) (x1 : St) (x2 : St) (x3 : St) (n3 : Nat) (x4 : St) (x5 : St) : Option (Int32 × St × St × St) :=
  (bn2 (m_Plan_look F x2 x4 x5 x3 n3 (x0 6 0)) (fun z4_12 z5_12 => (bn3 (m_Acts_release F z4_12 x1 (x0 6 0)) (fun r30 z4_30 z1_30 => (some (r30, z1_30, z4_30, z5_12))))))
abbrev rm_AM_reset : Room := { frames := 4, cells := 0, slots := 0, locals := 96 }
set_option maxHeartbeats 4000000 in
set_option maxRecDepth 100000 in
theorem c_AM_reset {G : (Nat → Prop) → State → Prop} (hG : gok G) (hGn : gN G) (l : Launch) (dC : Nat → ClassId) (dI : Nat → Nat → Nat) (g : Nat → ClassId) (F : Nat) (sz : Nat) (h0 : Nat) (q0 : Nat → Nat) (x0 : St) (q1 : Nat → Nat) (x1 : St) (q2 : Nat → Nat) (x2 : St) (q3 : Nat → Nat) (x3 : St) (n3 : Nat) (q4 : Nat → Nat) (x4 : St) (q5 : Nat → Nat) (x5 : St) {o : Int32 × St × St × St} (hm : m_AM_reset F x0 x1 x2 x3 n3 x4 x5 = some o) : Met l y_AM_reset (.code y_AM_reset b_AM_reset 1 (some .int) :: gw) rm_AM_reset (kq (dC, dI) vwCl (tyv g) G [.ref h0] sz (wd_AM g h0 q0 x0 ++ wd_Events g (q0 3) q1 x1 ++ wd_Plan g (q0 4) q2 x2 ++ wd_Points g (q0 1) q3 x3 n3 ++ wd_Acts g (q2 1) q4 x4 ++ wd_Zones g (q2 0) q5 x5)) (kqi (dC, dI) vwCl (tyv g) (wd_AM g h0 q0 x0 ++ wd_Events g (q0 3) q1 x1 ++ wd_Plan g (q0 4) q2 x2 ++ wd_Points g (q0 1) q3 x3 n3 ++ wd_Acts g (q2 1) q4 x4 ++ wd_Zones g (q2 0) q5 x5) o.1 (wd_AM g h0 q0 x0 ++ wd_Events g (q0 3) q1 (o.2.1) ++ wd_Plan g (q0 4) q2 x2 ++ wd_Points g (q0 1) q3 x3 n3 ++ wd_Acts g (q2 1) q4 (o.2.2.1) ++ wd_Zones g (q2 0) q5 (o.2.2.2)) sz) 0 0 (va_A (wd_AM g h0 q0 x0 ++ wd_Events g (q0 3) q1 x1 ++ wd_Plan g (q0 4) q2 x2 ++ wd_Points g (q0 1) q3 x3 n3 ++ wd_Acts g (q2 1) q4 x4 ++ wd_Zones g (q2 0) q5 x5) sz) := by
  unfold m_AM_reset at hm
  refine km (Qc := fun sz => kqi (dC, dI) vwCl (tyv g) (wd_AM g h0 q0 x0 ++ wd_Events g (q0 3) q1 x1 ++ wd_Plan g (q0 4) q2 x2 ++ wd_Points g (q0 1) q3 x3 n3 ++ wd_Acts g (q2 1) q4 x4 ++ wd_Zones g (q2 0) q5 x5) o.1 (wd_AM g h0 q0 x0 ++ wd_Events g (q0 3) q1 (o.2.1) ++ wd_Plan g (q0 4) q2 x2 ++ wd_Points g (q0 1) q3 x3 n3 ++ wd_Acts g (q2 1) q4 (o.2.2.1) ++ wd_Zones g (q2 0) q5 (o.2.2.2)) sz) (cc := b_AM_reset) (maxL := 1) (ret := some .int) (by decide) rfl (Nat.le_of_ble_eq_true rfl) ?_
  intro p e s m args below meth c Q hQ hx hb hr hts hown hlocks hml hnm H locs A hAe hA hP hK hD hS hGA ls hl
  have hl : lv_has ls 1 [(0, .ref h0)] := hl
  have hts : ∀ w ∈ gw, w.before args s = true := fun w h => hts w (List.mem_cons_of_mem _ h)
  have hown : s.vm.findClass "AlarmMatrix" = some m.cls := hown
  refine lv_aload_n hx hb d_AM_reset_0 rfl (lv_at hl 0 rfl) ?_
  refine va_get (D := (dC, dI)) (ci := 0) (v := .ref (q0 4)) (C := "AlarmMatrix") (T := T_AM) (N := 7) hx hb hts i_AM hown hK hP 0 rfl rfl 4 (by decide) (hts _ k1_223) (fun _ h9 => h9) rfl d_AM_reset_1 ?_
  refine lv_aload_n hx hb d_AM_reset_4 rfl (lv_at hl 0 rfl) ?_
  refine va_get (D := (dC, dI)) (ci := 0) (v := .ref (q0 1)) (C := "AlarmMatrix") (T := T_AM) (N := 7) hx hb hts i_AM hown hK hP 0 rfl rfl 1 (by decide) (hts _ k1_220) (fun _ h9 => h9) rfl d_AM_reset_5 ?_
  refine lv_aload_n hx hb d_AM_reset_8 rfl (lv_at hl 0 rfl) ?_
  refine va_get (D := (dC, dI)) (ci := 0) (v := .int (x0 6 0)) (C := "AlarmMatrix") (T := T_AM) (N := 7) hx hb hts i_AM hown hK hP 0 rfl rfl 6 (by decide) (hts _ k1_225) (fun _ h9 => h9) rfl d_AM_reset_9 ?_
  obtain ⟨z4_12, z5_12, hcl, hm⟩ := bn2_s hm
  refine kcv (wc := wd_Plan g (q0 4) q2 x2 ++ wd_Acts g (q2 1) q4 x4 ++ wd_Zones g (q2 0) q5 x5 ++ wd_Points g (q0 1) q3 x3 n3) (wr := wd_AM g h0 q0 x0 ++ wd_Events g (q0 3) q1 x1) (w1 := wd_Plan g (q0 4) q2 x2 ++ wd_Acts g (q2 1) q4 z4_12 ++ wd_Zones g (q2 0) q5 z5_12 ++ wd_Points g (q0 1) q3 x3 n3) hP hD hS hA [5, 6, 7, 8, 15, 16, 17, 18, 19, 20, 21, 22, 23, 24, 25, 26, 27, 28, 29, 30, 31, 32, 33, 9, 10, 11, 12, 13, 14] [0, 1, 2, 3, 4] rfl rfl (by decide) (by decide) (va_runV (As := [.ref (q0 1), .int (x0 6 0)]) (rest := []) ⟨hx, hb, hml, hown, hts⟩ (c_Plan_look hG hGn l dC dI g F H.size (q0 4) q2 x2 q4 x4 q5 x5 (q0 1) q3 x3 n3 (x0 6 0) hcl) (cwV 2 hts (gdV k3_28 k3_29 k3_30 k1_7 k3_31) rfl rfl rfl (by decide +kernel) ⟨Nat.le_of_ble_eq_true rfl, Nat.le_of_ble_eq_true rfl⟩) (kpV hG hP hK hD hS hA hGA [5, 6, 7, 8, 15, 16, 17, 18, 19, 20, 21, 22, 23, 24, 25, 26, 27, 28, 29, 30, 31, 32, 33, 9, 10, 11, 12, 13, 14] (by decide) rfl (ci := 4) (q0 := 0) rfl rfl rfl) rfl rfl hl.1 rfl (lv_room (Nat.le_of_ble_eq_true rfl)) d_AM_reset_12 ⟨Nat.le_of_ble_eq_true rfl, Nat.le_of_ble_eq_true rfl⟩) (fun H locs hP hD hS => ?_)
  have hP : va_P (dC, dI) vwCl (wd_AM g h0 q0 x0 ++ wd_Events g (q0 3) q1 x1 ++ wd_Plan g (q0 4) q2 x2 ++ wd_Points g (q0 1) q3 x3 n3 ++ wd_Acts g (q2 1) q4 z4_12 ++ wd_Zones g (q2 0) q5 z5_12) H := hP.sub (ws' := wd_AM g h0 q0 x0 ++ wd_Events g (q0 3) q1 x1 ++ wd_Plan g (q0 4) q2 x2 ++ wd_Points g (q0 1) q3 x3 n3 ++ wd_Acts g (q2 1) q4 z4_12 ++ wd_Zones g (q2 0) q5 z5_12) [0, 1, 2, 3, 4, 5, 6, 7, 8, 28, 29, 30, 31, 32, 33, 9, 10, 11, 12, 13, 14, 15, 16, 17, 18, 19, 20, 21, 22, 23, 24, 25, 26, 27] rfl
  have hD : va_D A (wd_AM g h0 q0 x0 ++ wd_Events g (q0 3) q1 x1 ++ wd_Plan g (q0 4) q2 x2 ++ wd_Points g (q0 1) q3 x3 n3 ++ wd_Acts g (q2 1) q4 z4_12 ++ wd_Zones g (q2 0) q5 z5_12) := hD.sub (ws' := wd_AM g h0 q0 x0 ++ wd_Events g (q0 3) q1 x1 ++ wd_Plan g (q0 4) q2 x2 ++ wd_Points g (q0 1) q3 x3 n3 ++ wd_Acts g (q2 1) q4 z4_12 ++ wd_Zones g (q2 0) q5 z5_12) [0, 1, 2, 3, 4, 5, 6, 7, 8, 28, 29, 30, 31, 32, 33, 9, 10, 11, 12, 13, 14, 15, 16, 17, 18, 19, 20, 21, 22, 23, 24, 25, 26, 27] (by decide) rfl
  refine lv_aload_n hx hb d_AM_reset_15 rfl (lv_at hl 0 rfl) ?_
  refine va_get (D := (dC, dI)) (ci := 0) (v := .ref (q0 4)) (C := "AlarmMatrix") (T := T_AM) (N := 7) hx hb hts i_AM hown hK hP 0 rfl rfl 4 (by decide) (hts _ k1_223) (fun _ h9 => h9) rfl d_AM_reset_16 ?_
  refine kcr (wc := wd_Plan g (q0 4) q2 x2) (wr := wd_AM g h0 q0 x0 ++ wd_Events g (q0 3) q1 x1 ++ wd_Points g (q0 1) q3 x3 n3 ++ wd_Acts g (q2 1) q4 z4_12 ++ wd_Zones g (q2 0) q5 z5_12) (w1 := wd_Plan g (q0 4) q2 x2) hP hD hS hA [5, 6, 7, 8] [0, 1, 2, 3, 4, 9, 10, 11, 12, 13, 14, 15, 16, 17, 18, 19, 20, 21, 22, 23, 24, 25, 26, 27, 28, 29, 30, 31, 32, 33] rfl rfl (by decide) (by decide) (va_runV (As := []) (rest := []) ⟨hx, hb, hml, hown, hts⟩ (c_Plan_acts hG hGn l dC dI g F H.size (q0 4) q2 x2) (cwV 0 hts (gdV k3_75 k2_203 k2_204 k1_7 k2_205) rfl rfl rfl (by decide +kernel) ⟨Nat.le_of_ble_eq_true rfl, Nat.le_of_ble_eq_true rfl⟩) (kpV hG hP hK hD hS hA hGA [5, 6, 7, 8] (by decide) rfl (ci := 4) (q0 := 0) rfl rfl rfl) rfl rfl hl.1 rfl (lv_room (Nat.le_of_ble_eq_true rfl)) d_AM_reset_19 ⟨Nat.le_of_ble_eq_true rfl, Nat.le_of_ble_eq_true rfl⟩) (fun H locs hP hD hS => ?_)
  have hP : va_P (dC, dI) vwCl (wd_AM g h0 q0 x0 ++ wd_Events g (q0 3) q1 x1 ++ wd_Plan g (q0 4) q2 x2 ++ wd_Points g (q0 1) q3 x3 n3 ++ wd_Acts g (q2 1) q4 z4_12 ++ wd_Zones g (q2 0) q5 z5_12) H := hP.sub (ws' := wd_AM g h0 q0 x0 ++ wd_Events g (q0 3) q1 x1 ++ wd_Plan g (q0 4) q2 x2 ++ wd_Points g (q0 1) q3 x3 n3 ++ wd_Acts g (q2 1) q4 z4_12 ++ wd_Zones g (q2 0) q5 z5_12) [0, 1, 2, 3, 4, 30, 31, 32, 33, 5, 6, 7, 8, 9, 10, 11, 12, 13, 14, 15, 16, 17, 18, 19, 20, 21, 22, 23, 24, 25, 26, 27, 28, 29] rfl
  have hD : va_D A (wd_AM g h0 q0 x0 ++ wd_Events g (q0 3) q1 x1 ++ wd_Plan g (q0 4) q2 x2 ++ wd_Points g (q0 1) q3 x3 n3 ++ wd_Acts g (q2 1) q4 z4_12 ++ wd_Zones g (q2 0) q5 z5_12) := hD.sub (ws' := wd_AM g h0 q0 x0 ++ wd_Events g (q0 3) q1 x1 ++ wd_Plan g (q0 4) q2 x2 ++ wd_Points g (q0 1) q3 x3 n3 ++ wd_Acts g (q2 1) q4 z4_12 ++ wd_Zones g (q2 0) q5 z5_12) [0, 1, 2, 3, 4, 30, 31, 32, 33, 5, 6, 7, 8, 9, 10, 11, 12, 13, 14, 15, 16, 17, 18, 19, 20, 21, 22, 23, 24, 25, 26, 27, 28, 29] (by decide) rfl
  refine lv_aload_n hx hb d_AM_reset_22 rfl (lv_at hl 0 rfl) ?_
  refine va_get (D := (dC, dI)) (ci := 0) (v := .int (x0 6 0)) (C := "AlarmMatrix") (T := T_AM) (N := 7) hx hb hts i_AM hown hK hP 0 rfl rfl 6 (by decide) (hts _ k1_225) (fun _ h9 => h9) rfl d_AM_reset_23 ?_
  refine lv_aload_n hx hb d_AM_reset_26 rfl (lv_at hl 0 rfl) ?_
  refine va_get (D := (dC, dI)) (ci := 0) (v := .ref (q0 3)) (C := "AlarmMatrix") (T := T_AM) (N := 7) hx hb hts i_AM hown hK hP 0 rfl rfl 3 (by decide) (hts _ k1_222) (fun _ h9 => h9) rfl d_AM_reset_27 ?_
  obtain ⟨r30, z4_30, z1_30, hcl, hm⟩ := bn3_s hm
  refine kci (wc := wd_Acts g (q2 1) q4 z4_12 ++ wd_Events g (q0 3) q1 x1) (wr := wd_AM g h0 q0 x0 ++ wd_Plan g (q0 4) q2 x2 ++ wd_Points g (q0 1) q3 x3 n3 ++ wd_Zones g (q2 0) q5 z5_12) (w1 := wd_Acts g (q2 1) q4 z4_30 ++ wd_Events g (q0 3) q1 z1_30) hP hD hS hA [15, 16, 17, 18, 19, 20, 21, 22, 23, 24, 25, 26, 27, 1, 2, 3, 4] [0, 5, 6, 7, 8, 9, 10, 11, 12, 13, 14, 28, 29, 30, 31, 32, 33] rfl rfl (by decide) (by decide) (va_runV (As := [.int (x0 6 0), .ref (q0 3)]) (rest := []) ⟨hx, hb, hml, hown, hts⟩ (c_Acts_release hG hGn l dC dI g F H.size (q2 1) q4 z4_12 (q0 3) q1 x1 (x0 6 0) hcl) (cwV 2 hts (gdV k3_76 k3_77 k3_78 k1_9 k3_79) rfl rfl rfl (by decide +kernel) ⟨Nat.le_of_ble_eq_true rfl, Nat.le_of_ble_eq_true rfl⟩) (kpV hG hP hK hD hS hA hGA [15, 16, 17, 18, 19, 20, 21, 22, 23, 24, 25, 26, 27, 1, 2, 3, 4] (by decide) rfl (ci := 6) (q0 := 0) rfl rfl rfl) rfl rfl hl.1 rfl (lv_room (Nat.le_of_ble_eq_true rfl)) d_AM_reset_30 ⟨Nat.le_of_ble_eq_true rfl, Nat.le_of_ble_eq_true rfl⟩) (fun H locs hP hD hS => ?_)
  have hP : va_P (dC, dI) vwCl (wd_AM g h0 q0 x0 ++ wd_Events g (q0 3) q1 z1_30 ++ wd_Plan g (q0 4) q2 x2 ++ wd_Points g (q0 1) q3 x3 n3 ++ wd_Acts g (q2 1) q4 z4_30 ++ wd_Zones g (q2 0) q5 z5_12) H := hP.sub (ws' := wd_AM g h0 q0 x0 ++ wd_Events g (q0 3) q1 z1_30 ++ wd_Plan g (q0 4) q2 x2 ++ wd_Points g (q0 1) q3 x3 n3 ++ wd_Acts g (q2 1) q4 z4_30 ++ wd_Zones g (q2 0) q5 z5_12) [0, 30, 31, 32, 33, 1, 2, 3, 4, 5, 6, 7, 8, 9, 10, 17, 18, 19, 20, 21, 22, 23, 24, 25, 26, 27, 28, 29, 11, 12, 13, 14, 15, 16] rfl
  have hD : va_D A (wd_AM g h0 q0 x0 ++ wd_Events g (q0 3) q1 z1_30 ++ wd_Plan g (q0 4) q2 x2 ++ wd_Points g (q0 1) q3 x3 n3 ++ wd_Acts g (q2 1) q4 z4_30 ++ wd_Zones g (q2 0) q5 z5_12) := hD.sub (ws' := wd_AM g h0 q0 x0 ++ wd_Events g (q0 3) q1 z1_30 ++ wd_Plan g (q0 4) q2 x2 ++ wd_Points g (q0 1) q3 x3 n3 ++ wd_Acts g (q2 1) q4 z4_30 ++ wd_Zones g (q2 0) q5 z5_12) [0, 30, 31, 32, 33, 1, 2, 3, 4, 5, 6, 7, 8, 9, 10, 17, 18, 19, 20, 21, 22, 23, 24, 25, 26, 27, 28, 29, 11, 12, 13, 14, 15, 16] (by decide) rfl
  obtain rfl := Option.some.inj hm
  rw [hQ]
  exact kri hx hb hr hlocks hAe hP hK hD hS d_AM_reset_33
abbrev b_AM_act : ByteArray := prog_1_method_16_code
abbrev y_AM_act : MethodName := ⟨"AlarmMatrix", "act", "(II)I"⟩
theorem d_AM_act_0 : decode b_AM_act 0 = .ok (.aload_n 0, 1) := by decide +kernel
theorem d_AM_act_1 : decode b_AM_act 1 = .ok (.getfield 51, 3) := by decide +kernel
theorem d_AM_act_4 : decode b_AM_act 4 = .ok (.invokevirtual 187, 3) := by decide +kernel
theorem d_AM_act_7 : decode b_AM_act 7 = .ok (.iload_n 1, 1) := by decide +kernel
theorem d_AM_act_8 : decode b_AM_act 8 = .ok (.invokevirtual 208, 3) := by decide +kernel
theorem d_AM_act_11 : decode b_AM_act 11 = .ok (.ifCond .eq 12, 3) := by decide +kernel
theorem d_AM_act_14 : decode b_AM_act 14 = .ok (.iload_n 2, 1) := by decide +kernel
theorem d_AM_act_15 : decode b_AM_act 15 = .ok (.iconst 0, 1) := by decide +kernel
theorem d_AM_act_16 : decode b_AM_act 16 = .ok (.iconst 5, 1) := by decide +kernel
theorem d_AM_act_17 : decode b_AM_act 17 = .ok (.invokestatic 62, 3) := by decide +kernel
theorem d_AM_act_20 : decode b_AM_act 20 = .ok (.ifCond .ne 13, 3) := by decide +kernel
theorem d_AM_act_23 : decode b_AM_act 23 = .ok (.new 66, 3) := by decide +kernel
theorem d_AM_act_26 : decode b_AM_act 26 = .ok (.dup, 1) := by decide +kernel
theorem d_AM_act_27 : decode b_AM_act 27 = .ok (.ldc 211, 2) := by decide +kernel
theorem d_AM_act_29 : decode b_AM_act 29 = .ok (.invokespecial 70, 3) := by decide +kernel
theorem d_AM_act_32 : decode b_AM_act 32 = .ok (.athrow, 1) := by decide +kernel
theorem d_AM_act_33 : decode b_AM_act 33 = .ok (.aload_n 0, 1) := by decide +kernel
theorem d_AM_act_34 : decode b_AM_act 34 = .ok (.getfield 51, 3) := by decide +kernel
theorem d_AM_act_37 : decode b_AM_act 37 = .ok (.invokevirtual 187, 3) := by decide +kernel
theorem d_AM_act_40 : decode b_AM_act 40 = .ok (.iload_n 1, 1) := by decide +kernel
theorem d_AM_act_41 : decode b_AM_act 41 = .ok (.iload_n 2, 1) := by decide +kernel
theorem d_AM_act_42 : decode b_AM_act 42 = .ok (.invokevirtual 213, 3) := by decide +kernel
theorem d_AM_act_45 : decode b_AM_act 45 = .ok (.ireturn, 1) := by decide +kernel
def m_AM_act (F : Nat) (x0 : St) (x1 : St) (x2 : St) (a1 : Int32) (a2 : Int32) : Option (Nat × Int32) :=
  (bn1 (m_Acts_isTold F x2 a1) (fun r8 => (if r8 = (0 : Int32) then (some (1, (0 : Int32))) else (bn1 (m_AM_isWithin F a2 (0 : Int32) (5 : Int32)) (fun r17 => (if r17 = (0 : Int32) then (some (1, (0 : Int32))) else (bn1 (m_Acts_tellOf F x2 a1 a2) (fun r42 => (some (0, r42))))))))))
abbrev rm_AM_act : Room := { frames := 6, cells := 1, slots := 6, locals := 90 }
set_option maxHeartbeats 4000000 in
set_option maxRecDepth 100000 in
theorem c_AM_act {G : (Nat → Prop) → State → Prop} (hG : gok G) (hGn : gN G) {adK adV : Nat → Nat} (hGs : gSt adK adV G) (hGt : gTh G) (l : Launch) (hst : l.stackTraces = false) (dC : Nat → ClassId) (dI : Nat → Nat → Nat) (g : Nat → ClassId) (F : Nat) (sz : Nat) (h0 : Nat) (q0 : Nat → Nat) (x0 : St) (q1 : Nat → Nat) (x1 : St) (q2 : Nat → Nat) (x2 : St) (a1 : Int32) (a2 : Int32) {o : Nat × Int32} (hm : m_AM_act F x0 x1 x2 a1 a2 = some o) : kT l y_AM_act (.code y_AM_act b_AM_act 3 (some .int) :: gw) rm_AM_act (dC, dI) vwCl (tyv g) G [.ref h0, .int a1, .int a2] (wd_AM g h0 q0 x0 ++ wd_Plan g (q0 4) q1 x1 ++ wd_Acts g (q1 1) q2 x2) o.1 o.2 (wd_AM g h0 q0 x0 ++ wd_Plan g (q0 4) q1 x1 ++ wd_Acts g (q1 1) q2 x2) 1 6 sz := by
  unfold m_AM_act at hm
  refine kmT (cc := b_AM_act) (maxL := 3) (ret := (some .int)) (by decide) rfl (Nat.le_of_ble_eq_true rfl) ?_
  intro p e s m args below meth c Q hQ hx hb hr hts hown hlocks hml htab H locs A hAe hA hP hK hD hS hGA ls hl
  have hl : lv_has ls 3 [(0, .ref h0), (1, .int a1), (2, .int a2)] := hl
  have hts : ∀ w ∈ gw, w.before args s = true := fun w h => hts w (List.mem_cons_of_mem _ h)
  have hown : s.vm.findClass "AlarmMatrix" = some m.cls := hown
  refine lv_aload_n hx hb d_AM_act_0 rfl (lv_at hl 0 rfl) ?_
  refine va_get (D := (dC, dI)) (ci := 0) (v := .ref (q0 4)) (C := "AlarmMatrix") (T := T_AM) (N := 7) hx hb hts i_AM hown hK hP 0 rfl rfl 4 (by decide) (hts _ k1_223) (fun _ h9 => h9) rfl d_AM_act_1 ?_
  refine kcr (wc := wd_Plan g (q0 4) q1 x1) (wr := wd_AM g h0 q0 x0 ++ wd_Acts g (q1 1) q2 x2) (w1 := wd_Plan g (q0 4) q1 x1) hP hD hS hA [1, 2, 3, 4] [0, 5, 6, 7, 8, 9, 10, 11, 12, 13, 14, 15, 16, 17] rfl rfl (by decide) (by decide) (va_runV (As := []) (rest := []) ⟨hx, hb, hml, hown, hts⟩ (c_Plan_acts hG hGn l dC dI g F H.size (q0 4) q1 x1) (cwV 0 hts (gdV k3_75 k2_203 k2_204 k1_7 k2_205) rfl rfl rfl (by decide +kernel) ⟨Nat.le_of_ble_eq_true rfl, Nat.le_of_ble_eq_true rfl⟩) (kpV hG hP hK hD hS hA hGA [1, 2, 3, 4] (by decide) rfl (ci := 4) (q0 := 0) rfl rfl rfl) rfl rfl hl.1 rfl (lv_room (Nat.le_of_ble_eq_true rfl)) d_AM_act_4 ⟨Nat.le_of_ble_eq_true rfl, Nat.le_of_ble_eq_true rfl⟩) (fun H locs hP hD hS => ?_)
  have hP : va_P (dC, dI) vwCl (wd_AM g h0 q0 x0 ++ wd_Plan g (q0 4) q1 x1 ++ wd_Acts g (q1 1) q2 x2) H := hP.sub (ws' := wd_AM g h0 q0 x0 ++ wd_Plan g (q0 4) q1 x1 ++ wd_Acts g (q1 1) q2 x2) [0, 14, 15, 16, 17, 1, 2, 3, 4, 5, 6, 7, 8, 9, 10, 11, 12, 13] rfl
  have hD : va_D A (wd_AM g h0 q0 x0 ++ wd_Plan g (q0 4) q1 x1 ++ wd_Acts g (q1 1) q2 x2) := hD.sub (ws' := wd_AM g h0 q0 x0 ++ wd_Plan g (q0 4) q1 x1 ++ wd_Acts g (q1 1) q2 x2) [0, 14, 15, 16, 17, 1, 2, 3, 4, 5, 6, 7, 8, 9, 10, 11, 12, 13] (by decide) rfl
  refine lv_iload_n hx hb d_AM_act_7 rfl (lv_at hl 1 rfl) ?_
  obtain ⟨r8, hcl, hm⟩ := bn1_s hm
  refine kci (wc := wd_Acts g (q1 1) q2 x2) (wr := wd_AM g h0 q0 x0 ++ wd_Plan g (q0 4) q1 x1) (w1 := wd_Acts g (q1 1) q2 x2) hP hD hS hA [5, 6, 7, 8, 9, 10, 11, 12, 13, 14, 15, 16, 17] [0, 1, 2, 3, 4] rfl rfl (by decide) (by decide) (va_runV (As := [.int a1]) (rest := []) ⟨hx, hb, hml, hown, hts⟩ (c_Acts_isTold hG hGn l dC dI g F H.size (q1 1) q2 x2 a1 hcl) (cwV 1 hts (gdV k4_191 k2_207 k2_208 k1_9 k2_209) rfl rfl rfl (by decide +kernel) ⟨Nat.le_of_ble_eq_true rfl, Nat.le_of_ble_eq_true rfl⟩) (kpV hG hP hK hD hS hA hGA [5, 6, 7, 8, 9, 10, 11, 12, 13, 14, 15, 16, 17] (by decide) rfl (ci := 6) (q0 := 0) rfl rfl rfl) rfl rfl hl.1 rfl (lv_room (Nat.le_of_ble_eq_true rfl)) d_AM_act_8 ⟨Nat.le_of_ble_eq_true rfl, Nat.le_of_ble_eq_true rfl⟩) (fun H locs hP hD hS => ?_)
  have hP : va_P (dC, dI) vwCl (wd_AM g h0 q0 x0 ++ wd_Plan g (q0 4) q1 x1 ++ wd_Acts g (q1 1) q2 x2) H := hP
  have hD : va_D A (wd_AM g h0 q0 x0 ++ wd_Plan g (q0 4) q1 x1 ++ wd_Acts g (q1 1) q2 x2) := hD
  refine lv_if_eq (tgt := 23) hx hb d_AM_act_11 (by decide) (fun hc => ?_) (fun hc => ?_)
  · replace hm := if_t hm hc
    obtain rfl := Option.some.inj hm
    rw [hQ]
    exact kThrow (rest := []) hx hb hst hts (hGt A s hGA) (Or.inl ⟨rfl, rfl⟩) fit_IAE hown own_IAE k3_102 k1_14 k3_103 ((hGs A s hGA).2.2.2 40 (by decide)) htab (hl.1.trans hml.symm) hlocks hAe hP hK hD hS (Nat.le_of_ble_eq_true rfl) (Nat.le_of_ble_eq_true rfl) (Nat.le_of_ble_eq_true rfl) (Nat.le_of_ble_eq_true rfl) (Nat.le_of_ble_eq_true rfl) (Nat.le_of_ble_eq_true rfl) d_AM_act_23 d_AM_act_26 d_AM_act_27 d_AM_act_29 d_AM_act_32
  · replace hm := if_f hm hc
    refine lv_iload_n hx hb d_AM_act_14 rfl (lv_at hl 2 rfl) ?_
    refine lv_iconst (v := (0 : Int32)) hx hb d_AM_act_15 (by decide) ?_
    refine lv_iconst (v := (5 : Int32)) hx hb d_AM_act_16 (by decide) ?_
    obtain ⟨r17, hcl, hm⟩ := bn1_s hm
    refine kci (wc := ([] : va_W)) (wr := wd_AM g h0 q0 x0 ++ wd_Plan g (q0 4) q1 x1 ++ wd_Acts g (q1 1) q2 x2) (w1 := ([] : va_W)) hP hD hS hA [] [0, 1, 2, 3, 4, 5, 6, 7, 8, 9, 10, 11, 12, 13, 14, 15, 16, 17] rfl rfl (by decide) (by decide) (va_runS (As := [.int a2, .int (0 : Int32), .int (5 : Int32)]) (rest := []) ⟨hx, hb, hml, hown, hts⟩ (c_AM_isWithin hG hGn l dC dI g F H.size a2 (0 : Int32) (5 : Int32) hcl) (cwS 3 hts (gdS k3_101 k2_153 k1_1 k2_154) rfl rfl rfl (by decide +kernel) ⟨Nat.le_of_ble_eq_true rfl, Nat.le_of_ble_eq_true rfl⟩) (kpS hG hP hK hD hS hA hGA [] (by decide) rfl) rfl rfl hl.1 rfl (lv_room (Nat.le_of_ble_eq_true rfl)) d_AM_act_17 ⟨Nat.le_of_ble_eq_true rfl, Nat.le_of_ble_eq_true rfl⟩) (fun H locs hP hD hS => ?_)
    have hP : va_P (dC, dI) vwCl (wd_AM g h0 q0 x0 ++ wd_Plan g (q0 4) q1 x1 ++ wd_Acts g (q1 1) q2 x2) H := hP
    have hD : va_D A (wd_AM g h0 q0 x0 ++ wd_Plan g (q0 4) q1 x1 ++ wd_Acts g (q1 1) q2 x2) := hD
    refine lv_if_ne (tgt := 33) hx hb d_AM_act_20 (by decide) (fun hc => ?_) (fun hc => ?_)
    · replace hm := if_f hm hc
      refine lv_aload_n hx hb d_AM_act_33 rfl (lv_at hl 0 rfl) ?_
      refine va_get (D := (dC, dI)) (ci := 0) (v := .ref (q0 4)) (C := "AlarmMatrix") (T := T_AM) (N := 7) hx hb hts i_AM hown hK hP 0 rfl rfl 4 (by decide) (hts _ k1_223) (fun _ h9 => h9) rfl d_AM_act_34 ?_
      refine kcr (wc := wd_Plan g (q0 4) q1 x1) (wr := wd_AM g h0 q0 x0 ++ wd_Acts g (q1 1) q2 x2) (w1 := wd_Plan g (q0 4) q1 x1) hP hD hS hA [1, 2, 3, 4] [0, 5, 6, 7, 8, 9, 10, 11, 12, 13, 14, 15, 16, 17] rfl rfl (by decide) (by decide) (va_runV (As := []) (rest := []) ⟨hx, hb, hml, hown, hts⟩ (c_Plan_acts hG hGn l dC dI g F H.size (q0 4) q1 x1) (cwV 0 hts (gdV k3_75 k2_203 k2_204 k1_7 k2_205) rfl rfl rfl (by decide +kernel) ⟨Nat.le_of_ble_eq_true rfl, Nat.le_of_ble_eq_true rfl⟩) (kpV hG hP hK hD hS hA hGA [1, 2, 3, 4] (by decide) rfl (ci := 4) (q0 := 0) rfl rfl rfl) rfl rfl hl.1 rfl (lv_room (Nat.le_of_ble_eq_true rfl)) d_AM_act_37 ⟨Nat.le_of_ble_eq_true rfl, Nat.le_of_ble_eq_true rfl⟩) (fun H locs hP hD hS => ?_)
      have hP : va_P (dC, dI) vwCl (wd_AM g h0 q0 x0 ++ wd_Plan g (q0 4) q1 x1 ++ wd_Acts g (q1 1) q2 x2) H := hP.sub (ws' := wd_AM g h0 q0 x0 ++ wd_Plan g (q0 4) q1 x1 ++ wd_Acts g (q1 1) q2 x2) [0, 14, 15, 16, 17, 1, 2, 3, 4, 5, 6, 7, 8, 9, 10, 11, 12, 13] rfl
      have hD : va_D A (wd_AM g h0 q0 x0 ++ wd_Plan g (q0 4) q1 x1 ++ wd_Acts g (q1 1) q2 x2) := hD.sub (ws' := wd_AM g h0 q0 x0 ++ wd_Plan g (q0 4) q1 x1 ++ wd_Acts g (q1 1) q2 x2) [0, 14, 15, 16, 17, 1, 2, 3, 4, 5, 6, 7, 8, 9, 10, 11, 12, 13] (by decide) rfl
      refine lv_iload_n hx hb d_AM_act_40 rfl (lv_at hl 1 rfl) ?_
      refine lv_iload_n hx hb d_AM_act_41 rfl (lv_at hl 2 rfl) ?_
      obtain ⟨r42, hcl, hm⟩ := bn1_s hm
      refine kci (wc := wd_Acts g (q1 1) q2 x2) (wr := wd_AM g h0 q0 x0 ++ wd_Plan g (q0 4) q1 x1) (w1 := wd_Acts g (q1 1) q2 x2) hP hD hS hA [5, 6, 7, 8, 9, 10, 11, 12, 13, 14, 15, 16, 17] [0, 1, 2, 3, 4] rfl rfl (by decide) (by decide) (va_runV (As := [.int a1, .int a2]) (rest := []) ⟨hx, hb, hml, hown, hts⟩ (c_Acts_tellOf hG hGn l dC dI g F H.size (q1 1) q2 x2 a1 a2 hcl) (cwV 2 hts (gdV k4_193 k4_194 k4_195 k1_9 k4_196) rfl rfl rfl (by decide +kernel) ⟨Nat.le_of_ble_eq_true rfl, Nat.le_of_ble_eq_true rfl⟩) (kpV hG hP hK hD hS hA hGA [5, 6, 7, 8, 9, 10, 11, 12, 13, 14, 15, 16, 17] (by decide) rfl (ci := 6) (q0 := 0) rfl rfl rfl) rfl rfl hl.1 rfl (lv_room (Nat.le_of_ble_eq_true rfl)) d_AM_act_42 ⟨Nat.le_of_ble_eq_true rfl, Nat.le_of_ble_eq_true rfl⟩) (fun H locs hP hD hS => ?_)
      have hP : va_P (dC, dI) vwCl (wd_AM g h0 q0 x0 ++ wd_Plan g (q0 4) q1 x1 ++ wd_Acts g (q1 1) q2 x2) H := hP
      have hD : va_D A (wd_AM g h0 q0 x0 ++ wd_Plan g (q0 4) q1 x1 ++ wd_Acts g (q1 1) q2 x2) := hD
      obtain rfl := Option.some.inj hm
      rw [hQ]
      exact kTi hx hb hr hlocks hAe hP hK hD hS (Nat.zero_le _) (Nat.zero_le _) d_AM_act_45
    · replace hm := if_t hm hc
      obtain rfl := Option.some.inj hm
      rw [hQ]
      exact kThrow (rest := []) hx hb hst hts (hGt A s hGA) (Or.inl ⟨rfl, rfl⟩) fit_IAE hown own_IAE k3_102 k1_14 k3_103 ((hGs A s hGA).2.2.2 40 (by decide)) htab (hl.1.trans hml.symm) hlocks hAe hP hK hD hS (Nat.le_of_ble_eq_true rfl) (Nat.le_of_ble_eq_true rfl) (Nat.le_of_ble_eq_true rfl) (Nat.le_of_ble_eq_true rfl) (Nat.le_of_ble_eq_true rfl) (Nat.le_of_ble_eq_true rfl) d_AM_act_23 d_AM_act_26 d_AM_act_27 d_AM_act_29 d_AM_act_32
abbrev b_AM_zone : ByteArray := prog_1_method_17_code
abbrev y_AM_zone : MethodName := ⟨"AlarmMatrix", "zone", "(II)I"⟩
theorem d_AM_zone_0 : decode b_AM_zone 0 = .ok (.aload_n 0, 1) := by decide +kernel
theorem d_AM_zone_1 : decode b_AM_zone 1 = .ok (.getfield 51, 3) := by decide +kernel
theorem d_AM_zone_4 : decode b_AM_zone 4 = .ok (.invokevirtual 216, 3) := by decide +kernel
theorem d_AM_zone_7 : decode b_AM_zone 7 = .ok (.iload_n 1, 1) := by decide +kernel
theorem d_AM_zone_8 : decode b_AM_zone 8 = .ok (.invokevirtual 220, 3) := by decide +kernel
theorem d_AM_zone_11 : decode b_AM_zone 11 = .ok (.ifCond .eq 12, 3) := by decide +kernel
theorem d_AM_zone_14 : decode b_AM_zone 14 = .ok (.iload_n 2, 1) := by decide +kernel
theorem d_AM_zone_15 : decode b_AM_zone 15 = .ok (.iconst 0, 1) := by decide +kernel
theorem d_AM_zone_16 : decode b_AM_zone 16 = .ok (.iconst 3, 1) := by decide +kernel
theorem d_AM_zone_17 : decode b_AM_zone 17 = .ok (.invokestatic 62, 3) := by decide +kernel
theorem d_AM_zone_20 : decode b_AM_zone 20 = .ok (.ifCond .ne 13, 3) := by decide +kernel
theorem d_AM_zone_23 : decode b_AM_zone 23 = .ok (.new 66, 3) := by decide +kernel
theorem d_AM_zone_26 : decode b_AM_zone 26 = .ok (.dup, 1) := by decide +kernel
theorem d_AM_zone_27 : decode b_AM_zone 27 = .ok (.ldc 223, 2) := by decide +kernel
theorem d_AM_zone_29 : decode b_AM_zone 29 = .ok (.invokespecial 70, 3) := by decide +kernel
theorem d_AM_zone_32 : decode b_AM_zone 32 = .ok (.athrow, 1) := by decide +kernel
theorem d_AM_zone_33 : decode b_AM_zone 33 = .ok (.aload_n 0, 1) := by decide +kernel
theorem d_AM_zone_34 : decode b_AM_zone 34 = .ok (.getfield 51, 3) := by decide +kernel
theorem d_AM_zone_37 : decode b_AM_zone 37 = .ok (.aload_n 0, 1) := by decide +kernel
theorem d_AM_zone_38 : decode b_AM_zone 38 = .ok (.getfield 30, 3) := by decide +kernel
theorem d_AM_zone_41 : decode b_AM_zone 41 = .ok (.aload_n 0, 1) := by decide +kernel
theorem d_AM_zone_42 : decode b_AM_zone 42 = .ok (.getfield 58, 3) := by decide +kernel
theorem d_AM_zone_45 : decode b_AM_zone 45 = .ok (.invokevirtual 183, 3) := by decide +kernel
theorem d_AM_zone_48 : decode b_AM_zone 48 = .ok (.aload_n 0, 1) := by decide +kernel
theorem d_AM_zone_49 : decode b_AM_zone 49 = .ok (.getfield 51, 3) := by decide +kernel
theorem d_AM_zone_52 : decode b_AM_zone 52 = .ok (.invokevirtual 216, 3) := by decide +kernel
theorem d_AM_zone_55 : decode b_AM_zone 55 = .ok (.iload_n 1, 1) := by decide +kernel
theorem d_AM_zone_56 : decode b_AM_zone 56 = .ok (.iload_n 2, 1) := by decide +kernel
theorem d_AM_zone_57 : decode b_AM_zone 57 = .ok (.invokevirtual 225, 3) := by decide +kernel
theorem d_AM_zone_60 : decode b_AM_zone 60 = .ok (.ireturn, 1) := by decide +kernel
def m_AM_zone (F : Nat) (x0 : St) (x1 : St) (x2 : St) (n2 : Nat) (x3 : St) (x4 : St) (a1 : Int32) (a2 : Int32) : Option (Nat × Int32 × St × St) :=
  (bn1 (m_Zones_isTold F x4 a1) (fun r8 => (if r8 = (0 : Int32) then (some (1, (0 : Int32), x3, x4)) else (bn1 (m_AM_isWithin F a2 (0 : Int32) (3 : Int32)) (fun r17 => (if r17 = (0 : Int32) then (some (1, (0 : Int32), x3, x4)) else (bn2 (m_Plan_look F x1 x3 x4 x2 n2 (x0 6 0)) (fun z3_45 z4_45 => (bn1 (m_Zones_tellOf F z4_45 a1 a2) (fun r57 => (some (0, r57, z3_45, z4_45))))))))))))
abbrev rm_AM_zone : Room := { frames := 6, cells := 1, slots := 6, locals := 96 }
set_option maxHeartbeats 4000000 in
set_option maxRecDepth 100000 in
theorem c_AM_zone {G : (Nat → Prop) → State → Prop} (hG : gok G) (hGn : gN G) {adK adV : Nat → Nat} (hGs : gSt adK adV G) (hGt : gTh G) (l : Launch) (hst : l.stackTraces = false) (dC : Nat → ClassId) (dI : Nat → Nat → Nat) (g : Nat → ClassId) (F : Nat) (sz : Nat) (h0 : Nat) (q0 : Nat → Nat) (x0 : St) (q1 : Nat → Nat) (x1 : St) (q2 : Nat → Nat) (x2 : St) (n2 : Nat) (q3 : Nat → Nat) (x3 : St) (q4 : Nat → Nat) (x4 : St) (a1 : Int32) (a2 : Int32) {o : Nat × Int32 × St × St} (hm : m_AM_zone F x0 x1 x2 n2 x3 x4 a1 a2 = some o) : kT l y_AM_zone (.code y_AM_zone b_AM_zone 3 (some .int) :: gw) rm_AM_zone (dC, dI) vwCl (tyv g) G [.ref h0, .int a1, .int a2] (wd_AM g h0 q0 x0 ++ wd_Plan g (q0 4) q1 x1 ++ wd_Points g (q0 1) q2 x2 n2 ++ wd_Acts g (q1 1) q3 x3 ++ wd_Zones g (q1 0) q4 x4) o.1 o.2.1 (wd_AM g h0 q0 x0 ++ wd_Plan g (q0 4) q1 x1 ++ wd_Points g (q0 1) q2 x2 n2 ++ wd_Acts g (q1 1) q3 (o.2.2.1) ++ wd_Zones g (q1 0) q4 (o.2.2.2)) 1 6 sz := by
  unfold m_AM_zone at hm
  refine kmT (cc := b_AM_zone) (maxL := 3) (ret := (some .int)) (by decide) rfl (Nat.le_of_ble_eq_true rfl) ?_
  intro p e s m args below meth c Q hQ hx hb hr hts hown hlocks hml htab H locs A hAe hA hP hK hD hS hGA ls hl
  have hl : lv_has ls 3 [(0, .ref h0), (1, .int a1), (2, .int a2)] := hl
  have hts : ∀ w ∈ gw, w.before args s = true := fun w h => hts w (List.mem_cons_of_mem _ h)
  have hown : s.vm.findClass "AlarmMatrix" = some m.cls := hown
  refine lv_aload_n hx hb d_AM_zone_0 rfl (lv_at hl 0 rfl) ?_
  refine va_get (D := (dC, dI)) (ci := 0) (v := .ref (q0 4)) (C := "AlarmMatrix") (T := T_AM) (N := 7) hx hb hts i_AM hown hK hP 0 rfl rfl 4 (by decide) (hts _ k1_223) (fun _ h9 => h9) rfl d_AM_zone_1 ?_
  refine kcr (wc := wd_Plan g (q0 4) q1 x1) (wr := wd_AM g h0 q0 x0 ++ wd_Points g (q0 1) q2 x2 n2 ++ wd_Acts g (q1 1) q3 x3 ++ wd_Zones g (q1 0) q4 x4) (w1 := wd_Plan g (q0 4) q1 x1) hP hD hS hA [1, 2, 3, 4] [0, 5, 6, 7, 8, 9, 10, 11, 12, 13, 14, 15, 16, 17, 18, 19, 20, 21, 22, 23, 24, 25, 26, 27, 28, 29] rfl rfl (by decide) (by decide) (va_runV (As := []) (rest := []) ⟨hx, hb, hml, hown, hts⟩ (c_Plan_zones hG hGn l dC dI g F H.size (q0 4) q1 x1) (cwV 0 hts (gdV k4_205 k2_156 k2_157 k1_7 k2_158) rfl rfl rfl (by decide +kernel) ⟨Nat.le_of_ble_eq_true rfl, Nat.le_of_ble_eq_true rfl⟩) (kpV hG hP hK hD hS hA hGA [1, 2, 3, 4] (by decide) rfl (ci := 4) (q0 := 0) rfl rfl rfl) rfl rfl hl.1 rfl (lv_room (Nat.le_of_ble_eq_true rfl)) d_AM_zone_4 ⟨Nat.le_of_ble_eq_true rfl, Nat.le_of_ble_eq_true rfl⟩) (fun H locs hP hD hS => ?_)
  have hP : va_P (dC, dI) vwCl (wd_AM g h0 q0 x0 ++ wd_Plan g (q0 4) q1 x1 ++ wd_Points g (q0 1) q2 x2 n2 ++ wd_Acts g (q1 1) q3 x3 ++ wd_Zones g (q1 0) q4 x4) H := hP.sub (ws' := wd_AM g h0 q0 x0 ++ wd_Plan g (q0 4) q1 x1 ++ wd_Points g (q0 1) q2 x2 n2 ++ wd_Acts g (q1 1) q3 x3 ++ wd_Zones g (q1 0) q4 x4) [0, 26, 27, 28, 29, 1, 2, 3, 4, 5, 6, 7, 8, 9, 10, 11, 12, 13, 14, 15, 16, 17, 18, 19, 20, 21, 22, 23, 24, 25] rfl
  have hD : va_D A (wd_AM g h0 q0 x0 ++ wd_Plan g (q0 4) q1 x1 ++ wd_Points g (q0 1) q2 x2 n2 ++ wd_Acts g (q1 1) q3 x3 ++ wd_Zones g (q1 0) q4 x4) := hD.sub (ws' := wd_AM g h0 q0 x0 ++ wd_Plan g (q0 4) q1 x1 ++ wd_Points g (q0 1) q2 x2 n2 ++ wd_Acts g (q1 1) q3 x3 ++ wd_Zones g (q1 0) q4 x4) [0, 26, 27, 28, 29, 1, 2, 3, 4, 5, 6, 7, 8, 9, 10, 11, 12, 13, 14, 15, 16, 17, 18, 19, 20, 21, 22, 23, 24, 25] (by decide) rfl
  refine lv_iload_n hx hb d_AM_zone_7 rfl (lv_at hl 1 rfl) ?_
  obtain ⟨r8, hcl, hm⟩ := bn1_s hm
  refine kci (wc := wd_Zones g (q1 0) q4 x4) (wr := wd_AM g h0 q0 x0 ++ wd_Plan g (q0 4) q1 x1 ++ wd_Points g (q0 1) q2 x2 n2 ++ wd_Acts g (q1 1) q3 x3) (w1 := wd_Zones g (q1 0) q4 x4) hP hD hS hA [24, 25, 26, 27, 28, 29] [0, 1, 2, 3, 4, 5, 6, 7, 8, 9, 10, 11, 12, 13, 14, 15, 16, 17, 18, 19, 20, 21, 22, 23] rfl rfl (by decide) (by decide) (va_runV (As := [.int a1]) (rest := []) ⟨hx, hb, hml, hown, hts⟩ (c_Zones_isTold hG hGn l dC dI g F H.size (q1 0) q4 x4 a1 hcl) (cwV 1 hts (gdV k4_206 k2_160 k2_161 k1_8 k2_162) rfl rfl rfl (by decide +kernel) ⟨Nat.le_of_ble_eq_true rfl, Nat.le_of_ble_eq_true rfl⟩) (kpV hG hP hK hD hS hA hGA [24, 25, 26, 27, 28, 29] (by decide) rfl (ci := 5) (q0 := 0) rfl rfl rfl) rfl rfl hl.1 rfl (lv_room (Nat.le_of_ble_eq_true rfl)) d_AM_zone_8 ⟨Nat.le_of_ble_eq_true rfl, Nat.le_of_ble_eq_true rfl⟩) (fun H locs hP hD hS => ?_)
  have hP : va_P (dC, dI) vwCl (wd_AM g h0 q0 x0 ++ wd_Plan g (q0 4) q1 x1 ++ wd_Points g (q0 1) q2 x2 n2 ++ wd_Acts g (q1 1) q3 x3 ++ wd_Zones g (q1 0) q4 x4) H := hP
  have hD : va_D A (wd_AM g h0 q0 x0 ++ wd_Plan g (q0 4) q1 x1 ++ wd_Points g (q0 1) q2 x2 n2 ++ wd_Acts g (q1 1) q3 x3 ++ wd_Zones g (q1 0) q4 x4) := hD
  refine lv_if_eq (tgt := 23) hx hb d_AM_zone_11 (by decide) (fun hc => ?_) (fun hc => ?_)
  · replace hm := if_t hm hc
    obtain rfl := Option.some.inj hm
    rw [hQ]
    exact kThrow (rest := []) hx hb hst hts (hGt A s hGA) (Or.inl ⟨rfl, rfl⟩) fit_IAE hown own_IAE k3_102 k1_14 k3_103 ((hGs A s hGA).2.2.2 41 (by decide)) htab (hl.1.trans hml.symm) hlocks hAe hP hK hD hS (Nat.le_of_ble_eq_true rfl) (Nat.le_of_ble_eq_true rfl) (Nat.le_of_ble_eq_true rfl) (Nat.le_of_ble_eq_true rfl) (Nat.le_of_ble_eq_true rfl) (Nat.le_of_ble_eq_true rfl) d_AM_zone_23 d_AM_zone_26 d_AM_zone_27 d_AM_zone_29 d_AM_zone_32
  · replace hm := if_f hm hc
    refine lv_iload_n hx hb d_AM_zone_14 rfl (lv_at hl 2 rfl) ?_
    refine lv_iconst (v := (0 : Int32)) hx hb d_AM_zone_15 (by decide) ?_
    refine lv_iconst (v := (3 : Int32)) hx hb d_AM_zone_16 (by decide) ?_
    obtain ⟨r17, hcl, hm⟩ := bn1_s hm
    refine kci (wc := ([] : va_W)) (wr := wd_AM g h0 q0 x0 ++ wd_Plan g (q0 4) q1 x1 ++ wd_Points g (q0 1) q2 x2 n2 ++ wd_Acts g (q1 1) q3 x3 ++ wd_Zones g (q1 0) q4 x4) (w1 := ([] : va_W)) hP hD hS hA [] [0, 1, 2, 3, 4, 5, 6, 7, 8, 9, 10, 11, 12, 13, 14, 15, 16, 17, 18, 19, 20, 21, 22, 23, 24, 25, 26, 27, 28, 29] rfl rfl (by decide) (by decide) (va_runS (As := [.int a2, .int (0 : Int32), .int (3 : Int32)]) (rest := []) ⟨hx, hb, hml, hown, hts⟩ (c_AM_isWithin hG hGn l dC dI g F H.size a2 (0 : Int32) (3 : Int32) hcl) (cwS 3 hts (gdS k3_101 k2_153 k1_1 k2_154) rfl rfl rfl (by decide +kernel) ⟨Nat.le_of_ble_eq_true rfl, Nat.le_of_ble_eq_true rfl⟩) (kpS hG hP hK hD hS hA hGA [] (by decide) rfl) rfl rfl hl.1 rfl (lv_room (Nat.le_of_ble_eq_true rfl)) d_AM_zone_17 ⟨Nat.le_of_ble_eq_true rfl, Nat.le_of_ble_eq_true rfl⟩) (fun H locs hP hD hS => ?_)
    have hP : va_P (dC, dI) vwCl (wd_AM g h0 q0 x0 ++ wd_Plan g (q0 4) q1 x1 ++ wd_Points g (q0 1) q2 x2 n2 ++ wd_Acts g (q1 1) q3 x3 ++ wd_Zones g (q1 0) q4 x4) H := hP
    have hD : va_D A (wd_AM g h0 q0 x0 ++ wd_Plan g (q0 4) q1 x1 ++ wd_Points g (q0 1) q2 x2 n2 ++ wd_Acts g (q1 1) q3 x3 ++ wd_Zones g (q1 0) q4 x4) := hD
    refine lv_if_ne (tgt := 33) hx hb d_AM_zone_20 (by decide) (fun hc => ?_) (fun hc => ?_)
    · replace hm := if_f hm hc
      refine lv_aload_n hx hb d_AM_zone_33 rfl (lv_at hl 0 rfl) ?_
      refine va_get (D := (dC, dI)) (ci := 0) (v := .ref (q0 4)) (C := "AlarmMatrix") (T := T_AM) (N := 7) hx hb hts i_AM hown hK hP 0 rfl rfl 4 (by decide) (hts _ k1_223) (fun _ h9 => h9) rfl d_AM_zone_34 ?_
      refine lv_aload_n hx hb d_AM_zone_37 rfl (lv_at hl 0 rfl) ?_
      refine va_get (D := (dC, dI)) (ci := 0) (v := .ref (q0 1)) (C := "AlarmMatrix") (T := T_AM) (N := 7) hx hb hts i_AM hown hK hP 0 rfl rfl 1 (by decide) (hts _ k1_220) (fun _ h9 => h9) rfl d_AM_zone_38 ?_
      refine lv_aload_n hx hb d_AM_zone_41 rfl (lv_at hl 0 rfl) ?_
      refine va_get (D := (dC, dI)) (ci := 0) (v := .int (x0 6 0)) (C := "AlarmMatrix") (T := T_AM) (N := 7) hx hb hts i_AM hown hK hP 0 rfl rfl 6 (by decide) (hts _ k1_225) (fun _ h9 => h9) rfl d_AM_zone_42 ?_
      obtain ⟨z3_45, z4_45, hcl, hm⟩ := bn2_s hm
      refine kcv (wc := wd_Plan g (q0 4) q1 x1 ++ wd_Acts g (q1 1) q3 x3 ++ wd_Zones g (q1 0) q4 x4 ++ wd_Points g (q0 1) q2 x2 n2) (wr := wd_AM g h0 q0 x0) (w1 := wd_Plan g (q0 4) q1 x1 ++ wd_Acts g (q1 1) q3 z3_45 ++ wd_Zones g (q1 0) q4 z4_45 ++ wd_Points g (q0 1) q2 x2 n2) hP hD hS hA [1, 2, 3, 4, 11, 12, 13, 14, 15, 16, 17, 18, 19, 20, 21, 22, 23, 24, 25, 26, 27, 28, 29, 5, 6, 7, 8, 9, 10] [0] rfl rfl (by decide) (by decide) (va_runV (As := [.ref (q0 1), .int (x0 6 0)]) (rest := []) ⟨hx, hb, hml, hown, hts⟩ (c_Plan_look hG hGn l dC dI g F H.size (q0 4) q1 x1 q3 x3 q4 x4 (q0 1) q2 x2 n2 (x0 6 0) hcl) (cwV 2 hts (gdV k3_28 k3_29 k3_30 k1_7 k3_31) rfl rfl rfl (by decide +kernel) ⟨Nat.le_of_ble_eq_true rfl, Nat.le_of_ble_eq_true rfl⟩) (kpV hG hP hK hD hS hA hGA [1, 2, 3, 4, 11, 12, 13, 14, 15, 16, 17, 18, 19, 20, 21, 22, 23, 24, 25, 26, 27, 28, 29, 5, 6, 7, 8, 9, 10] (by decide) rfl (ci := 4) (q0 := 0) rfl rfl rfl) rfl rfl hl.1 rfl (lv_room (Nat.le_of_ble_eq_true rfl)) d_AM_zone_45 ⟨Nat.le_of_ble_eq_true rfl, Nat.le_of_ble_eq_true rfl⟩) (fun H locs hP hD hS => ?_)
      have hP : va_P (dC, dI) vwCl (wd_AM g h0 q0 x0 ++ wd_Plan g (q0 4) q1 x1 ++ wd_Points g (q0 1) q2 x2 n2 ++ wd_Acts g (q1 1) q3 z3_45 ++ wd_Zones g (q1 0) q4 z4_45) H := hP.sub (ws' := wd_AM g h0 q0 x0 ++ wd_Plan g (q0 4) q1 x1 ++ wd_Points g (q0 1) q2 x2 n2 ++ wd_Acts g (q1 1) q3 z3_45 ++ wd_Zones g (q1 0) q4 z4_45) [0, 1, 2, 3, 4, 24, 25, 26, 27, 28, 29, 5, 6, 7, 8, 9, 10, 11, 12, 13, 14, 15, 16, 17, 18, 19, 20, 21, 22, 23] rfl
      have hD : va_D A (wd_AM g h0 q0 x0 ++ wd_Plan g (q0 4) q1 x1 ++ wd_Points g (q0 1) q2 x2 n2 ++ wd_Acts g (q1 1) q3 z3_45 ++ wd_Zones g (q1 0) q4 z4_45) := hD.sub (ws' := wd_AM g h0 q0 x0 ++ wd_Plan g (q0 4) q1 x1 ++ wd_Points g (q0 1) q2 x2 n2 ++ wd_Acts g (q1 1) q3 z3_45 ++ wd_Zones g (q1 0) q4 z4_45) [0, 1, 2, 3, 4, 24, 25, 26, 27, 28, 29, 5, 6, 7, 8, 9, 10, 11, 12, 13, 14, 15, 16, 17, 18, 19, 20, 21, 22, 23] (by decide) rfl
      refine lv_aload_n hx hb d_AM_zone_48 rfl (lv_at hl 0 rfl) ?_
      refine va_get (D := (dC, dI)) (ci := 0) (v := .ref (q0 4)) (C := "AlarmMatrix") (T := T_AM) (N := 7) hx hb hts i_AM hown hK hP 0 rfl rfl 4 (by decide) (hts _ k1_223) (fun _ h9 => h9) rfl d_AM_zone_49 ?_
      refine kcr (wc := wd_Plan g (q0 4) q1 x1) (wr := wd_AM g h0 q0 x0 ++ wd_Points g (q0 1) q2 x2 n2 ++ wd_Acts g (q1 1) q3 z3_45 ++ wd_Zones g (q1 0) q4 z4_45) (w1 := wd_Plan g (q0 4) q1 x1) hP hD hS hA [1, 2, 3, 4] [0, 5, 6, 7, 8, 9, 10, 11, 12, 13, 14, 15, 16, 17, 18, 19, 20, 21, 22, 23, 24, 25, 26, 27, 28, 29] rfl rfl (by decide) (by decide) (va_runV (As := []) (rest := []) ⟨hx, hb, hml, hown, hts⟩ (c_Plan_zones hG hGn l dC dI g F H.size (q0 4) q1 x1) (cwV 0 hts (gdV k4_205 k2_156 k2_157 k1_7 k2_158) rfl rfl rfl (by decide +kernel) ⟨Nat.le_of_ble_eq_true rfl, Nat.le_of_ble_eq_true rfl⟩) (kpV hG hP hK hD hS hA hGA [1, 2, 3, 4] (by decide) rfl (ci := 4) (q0 := 0) rfl rfl rfl) rfl rfl hl.1 rfl (lv_room (Nat.le_of_ble_eq_true rfl)) d_AM_zone_52 ⟨Nat.le_of_ble_eq_true rfl, Nat.le_of_ble_eq_true rfl⟩) (fun H locs hP hD hS => ?_)
      have hP : va_P (dC, dI) vwCl (wd_AM g h0 q0 x0 ++ wd_Plan g (q0 4) q1 x1 ++ wd_Points g (q0 1) q2 x2 n2 ++ wd_Acts g (q1 1) q3 z3_45 ++ wd_Zones g (q1 0) q4 z4_45) H := hP.sub (ws' := wd_AM g h0 q0 x0 ++ wd_Plan g (q0 4) q1 x1 ++ wd_Points g (q0 1) q2 x2 n2 ++ wd_Acts g (q1 1) q3 z3_45 ++ wd_Zones g (q1 0) q4 z4_45) [0, 26, 27, 28, 29, 1, 2, 3, 4, 5, 6, 7, 8, 9, 10, 11, 12, 13, 14, 15, 16, 17, 18, 19, 20, 21, 22, 23, 24, 25] rfl
      have hD : va_D A (wd_AM g h0 q0 x0 ++ wd_Plan g (q0 4) q1 x1 ++ wd_Points g (q0 1) q2 x2 n2 ++ wd_Acts g (q1 1) q3 z3_45 ++ wd_Zones g (q1 0) q4 z4_45) := hD.sub (ws' := wd_AM g h0 q0 x0 ++ wd_Plan g (q0 4) q1 x1 ++ wd_Points g (q0 1) q2 x2 n2 ++ wd_Acts g (q1 1) q3 z3_45 ++ wd_Zones g (q1 0) q4 z4_45) [0, 26, 27, 28, 29, 1, 2, 3, 4, 5, 6, 7, 8, 9, 10, 11, 12, 13, 14, 15, 16, 17, 18, 19, 20, 21, 22, 23, 24, 25] (by decide) rfl
      refine lv_iload_n hx hb d_AM_zone_55 rfl (lv_at hl 1 rfl) ?_
      refine lv_iload_n hx hb d_AM_zone_56 rfl (lv_at hl 2 rfl) ?_
      obtain ⟨r57, hcl, hm⟩ := bn1_s hm
      refine kci (wc := wd_Zones g (q1 0) q4 z4_45) (wr := wd_AM g h0 q0 x0 ++ wd_Plan g (q0 4) q1 x1 ++ wd_Points g (q0 1) q2 x2 n2 ++ wd_Acts g (q1 1) q3 z3_45) (w1 := wd_Zones g (q1 0) q4 z4_45) hP hD hS hA [24, 25, 26, 27, 28, 29] [0, 1, 2, 3, 4, 5, 6, 7, 8, 9, 10, 11, 12, 13, 14, 15, 16, 17, 18, 19, 20, 21, 22, 23] rfl rfl (by decide) (by decide) (va_runV (As := [.int a1, .int a2]) (rest := []) ⟨hx, hb, hml, hown, hts⟩ (c_Zones_tellOf hG hGn l dC dI g F H.size (q1 0) q4 z4_45 a1 a2 hcl) (cwV 2 hts (gdV k4_208 k4_209 k4_210 k1_8 k4_211) rfl rfl rfl (by decide +kernel) ⟨Nat.le_of_ble_eq_true rfl, Nat.le_of_ble_eq_true rfl⟩) (kpV hG hP hK hD hS hA hGA [24, 25, 26, 27, 28, 29] (by decide) rfl (ci := 5) (q0 := 0) rfl rfl rfl) rfl rfl hl.1 rfl (lv_room (Nat.le_of_ble_eq_true rfl)) d_AM_zone_57 ⟨Nat.le_of_ble_eq_true rfl, Nat.le_of_ble_eq_true rfl⟩) (fun H locs hP hD hS => ?_)
      have hP : va_P (dC, dI) vwCl (wd_AM g h0 q0 x0 ++ wd_Plan g (q0 4) q1 x1 ++ wd_Points g (q0 1) q2 x2 n2 ++ wd_Acts g (q1 1) q3 z3_45 ++ wd_Zones g (q1 0) q4 z4_45) H := hP
      have hD : va_D A (wd_AM g h0 q0 x0 ++ wd_Plan g (q0 4) q1 x1 ++ wd_Points g (q0 1) q2 x2 n2 ++ wd_Acts g (q1 1) q3 z3_45 ++ wd_Zones g (q1 0) q4 z4_45) := hD
      obtain rfl := Option.some.inj hm
      rw [hQ]
      exact kTi hx hb hr hlocks hAe hP hK hD hS (Nat.zero_le _) (Nat.zero_le _) d_AM_zone_60
    · replace hm := if_t hm hc
      obtain rfl := Option.some.inj hm
      rw [hQ]
      exact kThrow (rest := []) hx hb hst hts (hGt A s hGA) (Or.inl ⟨rfl, rfl⟩) fit_IAE hown own_IAE k3_102 k1_14 k3_103 ((hGs A s hGA).2.2.2 41 (by decide)) htab (hl.1.trans hml.symm) hlocks hAe hP hK hD hS (Nat.le_of_ble_eq_true rfl) (Nat.le_of_ble_eq_true rfl) (Nat.le_of_ble_eq_true rfl) (Nat.le_of_ble_eq_true rfl) (Nat.le_of_ble_eq_true rfl) (Nat.le_of_ble_eq_true rfl) d_AM_zone_23 d_AM_zone_26 d_AM_zone_27 d_AM_zone_29 d_AM_zone_32
abbrev b_AM_row : ByteArray := prog_1_method_18_code
abbrev y_AM_row : MethodName := ⟨"AlarmMatrix", "row", "(II)I"⟩
theorem d_AM_row_0 : decode b_AM_row 0 = .ok (.iload_n 1, 1) := by decide +kernel
theorem d_AM_row_1 : decode b_AM_row 1 = .ok (.iconst 0, 1) := by decide +kernel
theorem d_AM_row_2 : decode b_AM_row 2 = .ok (.aload_n 0, 1) := by decide +kernel
theorem d_AM_row_3 : decode b_AM_row 3 = .ok (.getfield 51, 3) := by decide +kernel
theorem d_AM_row_6 : decode b_AM_row 6 = .ok (.invokevirtual 114, 3) := by decide +kernel
theorem d_AM_row_9 : decode b_AM_row 9 = .ok (.iconst 1, 1) := by decide +kernel
theorem d_AM_row_10 : decode b_AM_row 10 = .ok (.isub, 1) := by decide +kernel
theorem d_AM_row_11 : decode b_AM_row 11 = .ok (.invokestatic 62, 3) := by decide +kernel
theorem d_AM_row_14 : decode b_AM_row 14 = .ok (.ifCond .eq 12, 3) := by decide +kernel
theorem d_AM_row_17 : decode b_AM_row 17 = .ok (.iload_n 2, 1) := by decide +kernel
theorem d_AM_row_18 : decode b_AM_row 18 = .ok (.iconst 0, 1) := by decide +kernel
theorem d_AM_row_19 : decode b_AM_row 19 = .ok (.iconst 3, 1) := by decide +kernel
theorem d_AM_row_20 : decode b_AM_row 20 = .ok (.invokestatic 62, 3) := by decide +kernel
theorem d_AM_row_23 : decode b_AM_row 23 = .ok (.ifCond .ne 13, 3) := by decide +kernel
theorem d_AM_row_26 : decode b_AM_row 26 = .ok (.new 66, 3) := by decide +kernel
theorem d_AM_row_29 : decode b_AM_row 29 = .ok (.dup, 1) := by decide +kernel
theorem d_AM_row_30 : decode b_AM_row 30 = .ok (.ldc 226, 2) := by decide +kernel
theorem d_AM_row_32 : decode b_AM_row 32 = .ok (.invokespecial 70, 3) := by decide +kernel
theorem d_AM_row_35 : decode b_AM_row 35 = .ok (.athrow, 1) := by decide +kernel
theorem d_AM_row_36 : decode b_AM_row 36 = .ok (.aload_n 0, 1) := by decide +kernel
theorem d_AM_row_37 : decode b_AM_row 37 = .ok (.getfield 51, 3) := by decide +kernel
theorem d_AM_row_40 : decode b_AM_row 40 = .ok (.aload_n 0, 1) := by decide +kernel
theorem d_AM_row_41 : decode b_AM_row 41 = .ok (.getfield 30, 3) := by decide +kernel
theorem d_AM_row_44 : decode b_AM_row 44 = .ok (.aload_n 0, 1) := by decide +kernel
theorem d_AM_row_45 : decode b_AM_row 45 = .ok (.getfield 58, 3) := by decide +kernel
theorem d_AM_row_48 : decode b_AM_row 48 = .ok (.invokevirtual 183, 3) := by decide +kernel
theorem d_AM_row_51 : decode b_AM_row 51 = .ok (.aload_n 0, 1) := by decide +kernel
theorem d_AM_row_52 : decode b_AM_row 52 = .ok (.getfield 51, 3) := by decide +kernel
theorem d_AM_row_55 : decode b_AM_row 55 = .ok (.iload_n 1, 1) := by decide +kernel
theorem d_AM_row_56 : decode b_AM_row 56 = .ok (.iload_n 2, 1) := by decide +kernel
theorem d_AM_row_57 : decode b_AM_row 57 = .ok (.invokevirtual 228, 3) := by decide +kernel
theorem d_AM_row_60 : decode b_AM_row 60 = .ok (.ireturn, 1) := by decide +kernel
def m_AM_row (F : Nat) (x0 : St) (x1 : St) (x2 : St) (n2 : Nat) (x3 : St) (x4 : St) (a1 : Int32) (a2 : Int32) : Option (Nat × Int32 × St × St) :=
  (bn1 (m_Plan_rowCount F x1) (fun r6 => (bn1 (m_AM_isWithin F a1 (0 : Int32) (r6 - (1 : Int32))) (fun r11 => (if r11 = (0 : Int32) then (some (1, (0 : Int32), x3, x4)) else (bn1 (m_AM_isWithin F a2 (0 : Int32) (3 : Int32)) (fun r20 => (if r20 = (0 : Int32) then (some (1, (0 : Int32), x3, x4)) else (bn2 (m_Plan_look F x1 x3 x4 x2 n2 (x0 6 0)) (fun z3_48 z4_48 => (bn1 (m_Plan_tellOfRow F x1 z4_48 a1 a2) (fun r57 => (some (0, r57, z3_48, z4_48))))))))))))))
abbrev rm_AM_row : Room := { frames := 6, cells := 1, slots := 6, locals := 96 }
set_option maxHeartbeats 4000000 in
set_option maxRecDepth 100000 in
theorem c_AM_row {G : (Nat → Prop) → State → Prop} (hG : gok G) (hGn : gN G) {adK adV : Nat → Nat} (hGs : gSt adK adV G) (hGt : gTh G) (l : Launch) (hst : l.stackTraces = false) (dC : Nat → ClassId) (dI : Nat → Nat → Nat) (g : Nat → ClassId) (F : Nat) (sz : Nat) (h0 : Nat) (q0 : Nat → Nat) (x0 : St) (q1 : Nat → Nat) (x1 : St) (q2 : Nat → Nat) (x2 : St) (n2 : Nat) (q3 : Nat → Nat) (x3 : St) (q4 : Nat → Nat) (x4 : St) (a1 : Int32) (a2 : Int32) {o : Nat × Int32 × St × St} (hm : m_AM_row F x0 x1 x2 n2 x3 x4 a1 a2 = some o) : kT l y_AM_row (.code y_AM_row b_AM_row 3 (some .int) :: gw) rm_AM_row (dC, dI) vwCl (tyv g) G [.ref h0, .int a1, .int a2] (wd_AM g h0 q0 x0 ++ wd_Plan g (q0 4) q1 x1 ++ wd_Points g (q0 1) q2 x2 n2 ++ wd_Acts g (q1 1) q3 x3 ++ wd_Zones g (q1 0) q4 x4) o.1 o.2.1 (wd_AM g h0 q0 x0 ++ wd_Plan g (q0 4) q1 x1 ++ wd_Points g (q0 1) q2 x2 n2 ++ wd_Acts g (q1 1) q3 (o.2.2.1) ++ wd_Zones g (q1 0) q4 (o.2.2.2)) 1 6 sz := by
  unfold m_AM_row at hm
  refine kmT (cc := b_AM_row) (maxL := 3) (ret := (some .int)) (by decide) rfl (Nat.le_of_ble_eq_true rfl) ?_
  intro p e s m args below meth c Q hQ hx hb hr hts hown hlocks hml htab H locs A hAe hA hP hK hD hS hGA ls hl
  have hl : lv_has ls 3 [(0, .ref h0), (1, .int a1), (2, .int a2)] := hl
  have hts : ∀ w ∈ gw, w.before args s = true := fun w h => hts w (List.mem_cons_of_mem _ h)
  have hown : s.vm.findClass "AlarmMatrix" = some m.cls := hown
  refine lv_iload_n hx hb d_AM_row_0 rfl (lv_at hl 1 rfl) ?_
  refine lv_iconst (v := (0 : Int32)) hx hb d_AM_row_1 (by decide) ?_
  refine lv_aload_n hx hb d_AM_row_2 rfl (lv_at hl 0 rfl) ?_
  refine va_get (D := (dC, dI)) (ci := 0) (v := .ref (q0 4)) (C := "AlarmMatrix") (T := T_AM) (N := 7) hx hb hts i_AM hown hK hP 0 rfl rfl 4 (by decide) (hts _ k1_223) (fun _ h9 => h9) rfl d_AM_row_3 ?_
  obtain ⟨r6, hcl, hm⟩ := bn1_s hm
  refine kci (wc := wd_Plan g (q0 4) q1 x1) (wr := wd_AM g h0 q0 x0 ++ wd_Points g (q0 1) q2 x2 n2 ++ wd_Acts g (q1 1) q3 x3 ++ wd_Zones g (q1 0) q4 x4) (w1 := wd_Plan g (q0 4) q1 x1) hP hD hS hA [1, 2, 3, 4] [0, 5, 6, 7, 8, 9, 10, 11, 12, 13, 14, 15, 16, 17, 18, 19, 20, 21, 22, 23, 24, 25, 26, 27, 28, 29] rfl rfl (by decide) (by decide) (va_runV (As := []) (rest := [.int (0 : Int32), .int a1]) ⟨hx, hb, hml, hown, hts⟩ (c_Plan_rowCount hG hGn l dC dI g F H.size (q0 4) q1 x1 hcl) (cwV 0 hts (gdV k3_22 k2_232 k2_233 k1_7 k2_234) rfl rfl rfl (by decide +kernel) ⟨Nat.le_of_ble_eq_true rfl, Nat.le_of_ble_eq_true rfl⟩) (kpV hG hP hK hD hS hA hGA [1, 2, 3, 4] (by decide) rfl (ci := 4) (q0 := 0) rfl rfl rfl) rfl rfl hl.1 rfl (lv_room (Nat.le_of_ble_eq_true rfl)) d_AM_row_6 ⟨Nat.le_of_ble_eq_true rfl, Nat.le_of_ble_eq_true rfl⟩) (fun H locs hP hD hS => ?_)
  have hP : va_P (dC, dI) vwCl (wd_AM g h0 q0 x0 ++ wd_Plan g (q0 4) q1 x1 ++ wd_Points g (q0 1) q2 x2 n2 ++ wd_Acts g (q1 1) q3 x3 ++ wd_Zones g (q1 0) q4 x4) H := hP.sub (ws' := wd_AM g h0 q0 x0 ++ wd_Plan g (q0 4) q1 x1 ++ wd_Points g (q0 1) q2 x2 n2 ++ wd_Acts g (q1 1) q3 x3 ++ wd_Zones g (q1 0) q4 x4) [0, 26, 27, 28, 29, 1, 2, 3, 4, 5, 6, 7, 8, 9, 10, 11, 12, 13, 14, 15, 16, 17, 18, 19, 20, 21, 22, 23, 24, 25] rfl
  have hD : va_D A (wd_AM g h0 q0 x0 ++ wd_Plan g (q0 4) q1 x1 ++ wd_Points g (q0 1) q2 x2 n2 ++ wd_Acts g (q1 1) q3 x3 ++ wd_Zones g (q1 0) q4 x4) := hD.sub (ws' := wd_AM g h0 q0 x0 ++ wd_Plan g (q0 4) q1 x1 ++ wd_Points g (q0 1) q2 x2 n2 ++ wd_Acts g (q1 1) q3 x3 ++ wd_Zones g (q1 0) q4 x4) [0, 26, 27, 28, 29, 1, 2, 3, 4, 5, 6, 7, 8, 9, 10, 11, 12, 13, 14, 15, 16, 17, 18, 19, 20, 21, 22, 23, 24, 25] (by decide) rfl
  refine lv_iconst (v := (1 : Int32)) hx hb d_AM_row_9 (by decide) ?_
  refine lv_isub hx hb d_AM_row_10 ?_
  obtain ⟨r11, hcl, hm⟩ := bn1_s hm
  refine kci (wc := ([] : va_W)) (wr := wd_AM g h0 q0 x0 ++ wd_Plan g (q0 4) q1 x1 ++ wd_Points g (q0 1) q2 x2 n2 ++ wd_Acts g (q1 1) q3 x3 ++ wd_Zones g (q1 0) q4 x4) (w1 := ([] : va_W)) hP hD hS hA [] [0, 1, 2, 3, 4, 5, 6, 7, 8, 9, 10, 11, 12, 13, 14, 15, 16, 17, 18, 19, 20, 21, 22, 23, 24, 25, 26, 27, 28, 29] rfl rfl (by decide) (by decide) (va_runS (As := [.int a1, .int (0 : Int32), .int (r6 - (1 : Int32))]) (rest := []) ⟨hx, hb, hml, hown, hts⟩ (c_AM_isWithin hG hGn l dC dI g F H.size a1 (0 : Int32) (r6 - (1 : Int32)) hcl) (cwS 3 hts (gdS k3_101 k2_153 k1_1 k2_154) rfl rfl rfl (by decide +kernel) ⟨Nat.le_of_ble_eq_true rfl, Nat.le_of_ble_eq_true rfl⟩) (kpS hG hP hK hD hS hA hGA [] (by decide) rfl) rfl rfl hl.1 rfl (lv_room (Nat.le_of_ble_eq_true rfl)) d_AM_row_11 ⟨Nat.le_of_ble_eq_true rfl, Nat.le_of_ble_eq_true rfl⟩) (fun H locs hP hD hS => ?_)
  have hP : va_P (dC, dI) vwCl (wd_AM g h0 q0 x0 ++ wd_Plan g (q0 4) q1 x1 ++ wd_Points g (q0 1) q2 x2 n2 ++ wd_Acts g (q1 1) q3 x3 ++ wd_Zones g (q1 0) q4 x4) H := hP
  have hD : va_D A (wd_AM g h0 q0 x0 ++ wd_Plan g (q0 4) q1 x1 ++ wd_Points g (q0 1) q2 x2 n2 ++ wd_Acts g (q1 1) q3 x3 ++ wd_Zones g (q1 0) q4 x4) := hD
  refine lv_if_eq (tgt := 26) hx hb d_AM_row_14 (by decide) (fun hc => ?_) (fun hc => ?_)
  · replace hm := if_t hm hc
    obtain rfl := Option.some.inj hm
    rw [hQ]
    exact kThrow (rest := []) hx hb hst hts (hGt A s hGA) (Or.inl ⟨rfl, rfl⟩) fit_IAE hown own_IAE k3_102 k1_14 k3_103 ((hGs A s hGA).2.2.2 42 (by decide)) htab (hl.1.trans hml.symm) hlocks hAe hP hK hD hS (Nat.le_of_ble_eq_true rfl) (Nat.le_of_ble_eq_true rfl) (Nat.le_of_ble_eq_true rfl) (Nat.le_of_ble_eq_true rfl) (Nat.le_of_ble_eq_true rfl) (Nat.le_of_ble_eq_true rfl) d_AM_row_26 d_AM_row_29 d_AM_row_30 d_AM_row_32 d_AM_row_35
  · replace hm := if_f hm hc
    refine lv_iload_n hx hb d_AM_row_17 rfl (lv_at hl 2 rfl) ?_
    refine lv_iconst (v := (0 : Int32)) hx hb d_AM_row_18 (by decide) ?_
    refine lv_iconst (v := (3 : Int32)) hx hb d_AM_row_19 (by decide) ?_
    obtain ⟨r20, hcl, hm⟩ := bn1_s hm
    refine kci (wc := ([] : va_W)) (wr := wd_AM g h0 q0 x0 ++ wd_Plan g (q0 4) q1 x1 ++ wd_Points g (q0 1) q2 x2 n2 ++ wd_Acts g (q1 1) q3 x3 ++ wd_Zones g (q1 0) q4 x4) (w1 := ([] : va_W)) hP hD hS hA [] [0, 1, 2, 3, 4, 5, 6, 7, 8, 9, 10, 11, 12, 13, 14, 15, 16, 17, 18, 19, 20, 21, 22, 23, 24, 25, 26, 27, 28, 29] rfl rfl (by decide) (by decide) (va_runS (As := [.int a2, .int (0 : Int32), .int (3 : Int32)]) (rest := []) ⟨hx, hb, hml, hown, hts⟩ (c_AM_isWithin hG hGn l dC dI g F H.size a2 (0 : Int32) (3 : Int32) hcl) (cwS 3 hts (gdS k3_101 k2_153 k1_1 k2_154) rfl rfl rfl (by decide +kernel) ⟨Nat.le_of_ble_eq_true rfl, Nat.le_of_ble_eq_true rfl⟩) (kpS hG hP hK hD hS hA hGA [] (by decide) rfl) rfl rfl hl.1 rfl (lv_room (Nat.le_of_ble_eq_true rfl)) d_AM_row_20 ⟨Nat.le_of_ble_eq_true rfl, Nat.le_of_ble_eq_true rfl⟩) (fun H locs hP hD hS => ?_)
    have hP : va_P (dC, dI) vwCl (wd_AM g h0 q0 x0 ++ wd_Plan g (q0 4) q1 x1 ++ wd_Points g (q0 1) q2 x2 n2 ++ wd_Acts g (q1 1) q3 x3 ++ wd_Zones g (q1 0) q4 x4) H := hP
    have hD : va_D A (wd_AM g h0 q0 x0 ++ wd_Plan g (q0 4) q1 x1 ++ wd_Points g (q0 1) q2 x2 n2 ++ wd_Acts g (q1 1) q3 x3 ++ wd_Zones g (q1 0) q4 x4) := hD
    refine lv_if_ne (tgt := 36) hx hb d_AM_row_23 (by decide) (fun hc => ?_) (fun hc => ?_)
    · replace hm := if_f hm hc
      refine lv_aload_n hx hb d_AM_row_36 rfl (lv_at hl 0 rfl) ?_
      refine va_get (D := (dC, dI)) (ci := 0) (v := .ref (q0 4)) (C := "AlarmMatrix") (T := T_AM) (N := 7) hx hb hts i_AM hown hK hP 0 rfl rfl 4 (by decide) (hts _ k1_223) (fun _ h9 => h9) rfl d_AM_row_37 ?_
      refine lv_aload_n hx hb d_AM_row_40 rfl (lv_at hl 0 rfl) ?_
      refine va_get (D := (dC, dI)) (ci := 0) (v := .ref (q0 1)) (C := "AlarmMatrix") (T := T_AM) (N := 7) hx hb hts i_AM hown hK hP 0 rfl rfl 1 (by decide) (hts _ k1_220) (fun _ h9 => h9) rfl d_AM_row_41 ?_
      refine lv_aload_n hx hb d_AM_row_44 rfl (lv_at hl 0 rfl) ?_
      refine va_get (D := (dC, dI)) (ci := 0) (v := .int (x0 6 0)) (C := "AlarmMatrix") (T := T_AM) (N := 7) hx hb hts i_AM hown hK hP 0 rfl rfl 6 (by decide) (hts _ k1_225) (fun _ h9 => h9) rfl d_AM_row_45 ?_
      obtain ⟨z3_48, z4_48, hcl, hm⟩ := bn2_s hm
      refine kcv (wc := wd_Plan g (q0 4) q1 x1 ++ wd_Acts g (q1 1) q3 x3 ++ wd_Zones g (q1 0) q4 x4 ++ wd_Points g (q0 1) q2 x2 n2) (wr := wd_AM g h0 q0 x0) (w1 := wd_Plan g (q0 4) q1 x1 ++ wd_Acts g (q1 1) q3 z3_48 ++ wd_Zones g (q1 0) q4 z4_48 ++ wd_Points g (q0 1) q2 x2 n2) hP hD hS hA [1, 2, 3, 4, 11, 12, 13, 14, 15, 16, 17, 18, 19, 20, 21, 22, 23, 24, 25, 26, 27, 28, 29, 5, 6, 7, 8, 9, 10] [0] rfl rfl (by decide) (by decide) (va_runV (As := [.ref (q0 1), .int (x0 6 0)]) (rest := []) ⟨hx, hb, hml, hown, hts⟩ (c_Plan_look hG hGn l dC dI g F H.size (q0 4) q1 x1 q3 x3 q4 x4 (q0 1) q2 x2 n2 (x0 6 0) hcl) (cwV 2 hts (gdV k3_28 k3_29 k3_30 k1_7 k3_31) rfl rfl rfl (by decide +kernel) ⟨Nat.le_of_ble_eq_true rfl, Nat.le_of_ble_eq_true rfl⟩) (kpV hG hP hK hD hS hA hGA [1, 2, 3, 4, 11, 12, 13, 14, 15, 16, 17, 18, 19, 20, 21, 22, 23, 24, 25, 26, 27, 28, 29, 5, 6, 7, 8, 9, 10] (by decide) rfl (ci := 4) (q0 := 0) rfl rfl rfl) rfl rfl hl.1 rfl (lv_room (Nat.le_of_ble_eq_true rfl)) d_AM_row_48 ⟨Nat.le_of_ble_eq_true rfl, Nat.le_of_ble_eq_true rfl⟩) (fun H locs hP hD hS => ?_)
      have hP : va_P (dC, dI) vwCl (wd_AM g h0 q0 x0 ++ wd_Plan g (q0 4) q1 x1 ++ wd_Points g (q0 1) q2 x2 n2 ++ wd_Acts g (q1 1) q3 z3_48 ++ wd_Zones g (q1 0) q4 z4_48) H := hP.sub (ws' := wd_AM g h0 q0 x0 ++ wd_Plan g (q0 4) q1 x1 ++ wd_Points g (q0 1) q2 x2 n2 ++ wd_Acts g (q1 1) q3 z3_48 ++ wd_Zones g (q1 0) q4 z4_48) [0, 1, 2, 3, 4, 24, 25, 26, 27, 28, 29, 5, 6, 7, 8, 9, 10, 11, 12, 13, 14, 15, 16, 17, 18, 19, 20, 21, 22, 23] rfl
      have hD : va_D A (wd_AM g h0 q0 x0 ++ wd_Plan g (q0 4) q1 x1 ++ wd_Points g (q0 1) q2 x2 n2 ++ wd_Acts g (q1 1) q3 z3_48 ++ wd_Zones g (q1 0) q4 z4_48) := hD.sub (ws' := wd_AM g h0 q0 x0 ++ wd_Plan g (q0 4) q1 x1 ++ wd_Points g (q0 1) q2 x2 n2 ++ wd_Acts g (q1 1) q3 z3_48 ++ wd_Zones g (q1 0) q4 z4_48) [0, 1, 2, 3, 4, 24, 25, 26, 27, 28, 29, 5, 6, 7, 8, 9, 10, 11, 12, 13, 14, 15, 16, 17, 18, 19, 20, 21, 22, 23] (by decide) rfl
      refine lv_aload_n hx hb d_AM_row_51 rfl (lv_at hl 0 rfl) ?_
      refine va_get (D := (dC, dI)) (ci := 0) (v := .ref (q0 4)) (C := "AlarmMatrix") (T := T_AM) (N := 7) hx hb hts i_AM hown hK hP 0 rfl rfl 4 (by decide) (hts _ k1_223) (fun _ h9 => h9) rfl d_AM_row_52 ?_
      refine lv_iload_n hx hb d_AM_row_55 rfl (lv_at hl 1 rfl) ?_
      refine lv_iload_n hx hb d_AM_row_56 rfl (lv_at hl 2 rfl) ?_
      obtain ⟨r57, hcl, hm⟩ := bn1_s hm
      refine kci (wc := wd_Plan g (q0 4) q1 x1 ++ wd_Zones g (q1 0) q4 z4_48) (wr := wd_AM g h0 q0 x0 ++ wd_Points g (q0 1) q2 x2 n2 ++ wd_Acts g (q1 1) q3 z3_48) (w1 := wd_Plan g (q0 4) q1 x1 ++ wd_Zones g (q1 0) q4 z4_48) hP hD hS hA [1, 2, 3, 4, 24, 25, 26, 27, 28, 29] [0, 5, 6, 7, 8, 9, 10, 11, 12, 13, 14, 15, 16, 17, 18, 19, 20, 21, 22, 23] rfl rfl (by decide) (by decide) (va_runV (As := [.int a1, .int a2]) (rest := []) ⟨hx, hb, hml, hown, hts⟩ (c_Plan_tellOfRow hG hGn l dC dI g F H.size (q0 4) q1 x1 q4 z4_48 a1 a2 hcl) (cwV 2 hts (gdV k4_222 k4_223 k4_224 k1_7 k4_225) rfl rfl rfl (by decide +kernel) ⟨Nat.le_of_ble_eq_true rfl, Nat.le_of_ble_eq_true rfl⟩) (kpV hG hP hK hD hS hA hGA [1, 2, 3, 4, 24, 25, 26, 27, 28, 29] (by decide) rfl (ci := 4) (q0 := 0) rfl rfl rfl) rfl rfl hl.1 rfl (lv_room (Nat.le_of_ble_eq_true rfl)) d_AM_row_57 ⟨Nat.le_of_ble_eq_true rfl, Nat.le_of_ble_eq_true rfl⟩) (fun H locs hP hD hS => ?_)
      have hP : va_P (dC, dI) vwCl (wd_AM g h0 q0 x0 ++ wd_Plan g (q0 4) q1 x1 ++ wd_Points g (q0 1) q2 x2 n2 ++ wd_Acts g (q1 1) q3 z3_48 ++ wd_Zones g (q1 0) q4 z4_48) H := hP.sub (ws' := wd_AM g h0 q0 x0 ++ wd_Plan g (q0 4) q1 x1 ++ wd_Points g (q0 1) q2 x2 n2 ++ wd_Acts g (q1 1) q3 z3_48 ++ wd_Zones g (q1 0) q4 z4_48) [0, 20, 21, 22, 23, 1, 2, 3, 4, 5, 6, 7, 8, 9, 10, 11, 12, 13, 14, 15, 16, 17, 18, 19, 24, 25, 26, 27, 28, 29] rfl
      have hD : va_D A (wd_AM g h0 q0 x0 ++ wd_Plan g (q0 4) q1 x1 ++ wd_Points g (q0 1) q2 x2 n2 ++ wd_Acts g (q1 1) q3 z3_48 ++ wd_Zones g (q1 0) q4 z4_48) := hD.sub (ws' := wd_AM g h0 q0 x0 ++ wd_Plan g (q0 4) q1 x1 ++ wd_Points g (q0 1) q2 x2 n2 ++ wd_Acts g (q1 1) q3 z3_48 ++ wd_Zones g (q1 0) q4 z4_48) [0, 20, 21, 22, 23, 1, 2, 3, 4, 5, 6, 7, 8, 9, 10, 11, 12, 13, 14, 15, 16, 17, 18, 19, 24, 25, 26, 27, 28, 29] (by decide) rfl
      obtain rfl := Option.some.inj hm
      rw [hQ]
      exact kTi hx hb hr hlocks hAe hP hK hD hS (Nat.zero_le _) (Nat.zero_le _) d_AM_row_60
    · replace hm := if_t hm hc
      obtain rfl := Option.some.inj hm
      rw [hQ]
      exact kThrow (rest := []) hx hb hst hts (hGt A s hGA) (Or.inl ⟨rfl, rfl⟩) fit_IAE hown own_IAE k3_102 k1_14 k3_103 ((hGs A s hGA).2.2.2 42 (by decide)) htab (hl.1.trans hml.symm) hlocks hAe hP hK hD hS (Nat.le_of_ble_eq_true rfl) (Nat.le_of_ble_eq_true rfl) (Nat.le_of_ble_eq_true rfl) (Nat.le_of_ble_eq_true rfl) (Nat.le_of_ble_eq_true rfl) (Nat.le_of_ble_eq_true rfl) d_AM_row_26 d_AM_row_29 d_AM_row_30 d_AM_row_32 d_AM_row_35
abbrev b_AM_event : ByteArray := prog_1_method_19_code
abbrev y_AM_event : MethodName := ⟨"AlarmMatrix", "event", "(II)I"⟩
theorem d_AM_event_0 : decode b_AM_event 0 = .ok (.iload_n 1, 1) := by decide +kernel
theorem d_AM_event_1 : decode b_AM_event 1 = .ok (.iconst 0, 1) := by decide +kernel
theorem d_AM_event_2 : decode b_AM_event 2 = .ok (.aload_n 0, 1) := by decide +kernel
theorem d_AM_event_3 : decode b_AM_event 3 = .ok (.getfield 44, 3) := by decide +kernel
theorem d_AM_event_6 : decode b_AM_event 6 = .ok (.invokevirtual 231, 3) := by decide +kernel
theorem d_AM_event_9 : decode b_AM_event 9 = .ok (.iconst 1, 1) := by decide +kernel
theorem d_AM_event_10 : decode b_AM_event 10 = .ok (.isub, 1) := by decide +kernel
theorem d_AM_event_11 : decode b_AM_event 11 = .ok (.invokestatic 62, 3) := by decide +kernel
theorem d_AM_event_14 : decode b_AM_event 14 = .ok (.ifCond .eq 12, 3) := by decide +kernel
theorem d_AM_event_17 : decode b_AM_event 17 = .ok (.iload_n 2, 1) := by decide +kernel
theorem d_AM_event_18 : decode b_AM_event 18 = .ok (.iconst 0, 1) := by decide +kernel
theorem d_AM_event_19 : decode b_AM_event 19 = .ok (.iconst 2, 1) := by decide +kernel
theorem d_AM_event_20 : decode b_AM_event 20 = .ok (.invokestatic 62, 3) := by decide +kernel
theorem d_AM_event_23 : decode b_AM_event 23 = .ok (.ifCond .ne 13, 3) := by decide +kernel
theorem d_AM_event_26 : decode b_AM_event 26 = .ok (.new 66, 3) := by decide +kernel
theorem d_AM_event_29 : decode b_AM_event 29 = .ok (.dup, 1) := by decide +kernel
theorem d_AM_event_30 : decode b_AM_event 30 = .ok (.ldc 232, 2) := by decide +kernel
theorem d_AM_event_32 : decode b_AM_event 32 = .ok (.invokespecial 70, 3) := by decide +kernel
theorem d_AM_event_35 : decode b_AM_event 35 = .ok (.athrow, 1) := by decide +kernel
theorem d_AM_event_36 : decode b_AM_event 36 = .ok (.aload_n 0, 1) := by decide +kernel
theorem d_AM_event_37 : decode b_AM_event 37 = .ok (.getfield 44, 3) := by decide +kernel
theorem d_AM_event_40 : decode b_AM_event 40 = .ok (.iload_n 1, 1) := by decide +kernel
theorem d_AM_event_41 : decode b_AM_event 41 = .ok (.iload_n 2, 1) := by decide +kernel
theorem d_AM_event_42 : decode b_AM_event 42 = .ok (.invokevirtual 234, 3) := by decide +kernel
theorem d_AM_event_45 : decode b_AM_event 45 = .ok (.ireturn, 1) := by decide +kernel
def m_AM_event (F : Nat) (x0 : St) (x1 : St) (a1 : Int32) (a2 : Int32) : Option (Nat × Int32) :=
  (bn1 (m_Events_count F x1) (fun r6 => (bn1 (m_AM_isWithin F a1 (0 : Int32) (r6 - (1 : Int32))) (fun r11 => (if r11 = (0 : Int32) then (some (1, (0 : Int32))) else (bn1 (m_AM_isWithin F a2 (0 : Int32) (2 : Int32)) (fun r20 => (if r20 = (0 : Int32) then (some (1, (0 : Int32))) else (bn1 (m_Events_tellOf F x1 a1 a2) (fun r42 => (some (0, r42))))))))))))
abbrev rm_AM_event : Room := { frames := 6, cells := 1, slots := 6, locals := 90 }
set_option maxHeartbeats 4000000 in
set_option maxRecDepth 100000 in
theorem c_AM_event {G : (Nat → Prop) → State → Prop} (hG : gok G) (hGn : gN G) {adK adV : Nat → Nat} (hGs : gSt adK adV G) (hGt : gTh G) (l : Launch) (hst : l.stackTraces = false) (dC : Nat → ClassId) (dI : Nat → Nat → Nat) (g : Nat → ClassId) (F : Nat) (sz : Nat) (h0 : Nat) (q0 : Nat → Nat) (x0 : St) (q1 : Nat → Nat) (x1 : St) (a1 : Int32) (a2 : Int32) {o : Nat × Int32} (hm : m_AM_event F x0 x1 a1 a2 = some o) : kT l y_AM_event (.code y_AM_event b_AM_event 3 (some .int) :: gw) rm_AM_event (dC, dI) vwCl (tyv g) G [.ref h0, .int a1, .int a2] (wd_AM g h0 q0 x0 ++ wd_Events g (q0 3) q1 x1) o.1 o.2 (wd_AM g h0 q0 x0 ++ wd_Events g (q0 3) q1 x1) 1 6 sz := by
  unfold m_AM_event at hm
  refine kmT (cc := b_AM_event) (maxL := 3) (ret := (some .int)) (by decide) rfl (Nat.le_of_ble_eq_true rfl) ?_
  intro p e s m args below meth c Q hQ hx hb hr hts hown hlocks hml htab H locs A hAe hA hP hK hD hS hGA ls hl
  have hl : lv_has ls 3 [(0, .ref h0), (1, .int a1), (2, .int a2)] := hl
  have hts : ∀ w ∈ gw, w.before args s = true := fun w h => hts w (List.mem_cons_of_mem _ h)
  have hown : s.vm.findClass "AlarmMatrix" = some m.cls := hown
  refine lv_iload_n hx hb d_AM_event_0 rfl (lv_at hl 1 rfl) ?_
  refine lv_iconst (v := (0 : Int32)) hx hb d_AM_event_1 (by decide) ?_
  refine lv_aload_n hx hb d_AM_event_2 rfl (lv_at hl 0 rfl) ?_
  refine va_get (D := (dC, dI)) (ci := 0) (v := .ref (q0 3)) (C := "AlarmMatrix") (T := T_AM) (N := 7) hx hb hts i_AM hown hK hP 0 rfl rfl 3 (by decide) (hts _ k1_222) (fun _ h9 => h9) rfl d_AM_event_3 ?_
  obtain ⟨r6, hcl, hm⟩ := bn1_s hm
  refine kci (wc := wd_Events g (q0 3) q1 x1) (wr := wd_AM g h0 q0 x0) (w1 := wd_Events g (q0 3) q1 x1) hP hD hS hA [1, 2, 3, 4] [0] rfl rfl (by decide) (by decide) (va_runV (As := []) (rest := [.int (0 : Int32), .int a1]) ⟨hx, hb, hml, hown, hts⟩ (c_Events_count hG hGn l dC dI g F H.size (q0 3) q1 x1 hcl) (cwV 0 hts (gdV k4_234 k4_235 k4_236 k1_6 k4_237) rfl rfl rfl (by decide +kernel) ⟨Nat.le_of_ble_eq_true rfl, Nat.le_of_ble_eq_true rfl⟩) (kpV hG hP hK hD hS hA hGA [1, 2, 3, 4] (by decide) rfl (ci := 9) (q0 := 0) rfl rfl rfl) rfl rfl hl.1 rfl (lv_room (Nat.le_of_ble_eq_true rfl)) d_AM_event_6 ⟨Nat.le_of_ble_eq_true rfl, Nat.le_of_ble_eq_true rfl⟩) (fun H locs hP hD hS => ?_)
  have hP : va_P (dC, dI) vwCl (wd_AM g h0 q0 x0 ++ wd_Events g (q0 3) q1 x1) H := hP
  have hD : va_D A (wd_AM g h0 q0 x0 ++ wd_Events g (q0 3) q1 x1) := hD
  refine lv_iconst (v := (1 : Int32)) hx hb d_AM_event_9 (by decide) ?_
  refine lv_isub hx hb d_AM_event_10 ?_
  obtain ⟨r11, hcl, hm⟩ := bn1_s hm
  refine kci (wc := ([] : va_W)) (wr := wd_AM g h0 q0 x0 ++ wd_Events g (q0 3) q1 x1) (w1 := ([] : va_W)) hP hD hS hA [] [0, 1, 2, 3, 4] rfl rfl (by decide) (by decide) (va_runS (As := [.int a1, .int (0 : Int32), .int (r6 - (1 : Int32))]) (rest := []) ⟨hx, hb, hml, hown, hts⟩ (c_AM_isWithin hG hGn l dC dI g F H.size a1 (0 : Int32) (r6 - (1 : Int32)) hcl) (cwS 3 hts (gdS k3_101 k2_153 k1_1 k2_154) rfl rfl rfl (by decide +kernel) ⟨Nat.le_of_ble_eq_true rfl, Nat.le_of_ble_eq_true rfl⟩) (kpS hG hP hK hD hS hA hGA [] (by decide) rfl) rfl rfl hl.1 rfl (lv_room (Nat.le_of_ble_eq_true rfl)) d_AM_event_11 ⟨Nat.le_of_ble_eq_true rfl, Nat.le_of_ble_eq_true rfl⟩) (fun H locs hP hD hS => ?_)
  have hP : va_P (dC, dI) vwCl (wd_AM g h0 q0 x0 ++ wd_Events g (q0 3) q1 x1) H := hP
  have hD : va_D A (wd_AM g h0 q0 x0 ++ wd_Events g (q0 3) q1 x1) := hD
  refine lv_if_eq (tgt := 26) hx hb d_AM_event_14 (by decide) (fun hc => ?_) (fun hc => ?_)
  · replace hm := if_t hm hc
    obtain rfl := Option.some.inj hm
    rw [hQ]
    exact kThrow (rest := []) hx hb hst hts (hGt A s hGA) (Or.inl ⟨rfl, rfl⟩) fit_IAE hown own_IAE k3_102 k1_14 k3_103 ((hGs A s hGA).2.2.2 43 (by decide)) htab (hl.1.trans hml.symm) hlocks hAe hP hK hD hS (Nat.le_of_ble_eq_true rfl) (Nat.le_of_ble_eq_true rfl) (Nat.le_of_ble_eq_true rfl) (Nat.le_of_ble_eq_true rfl) (Nat.le_of_ble_eq_true rfl) (Nat.le_of_ble_eq_true rfl) d_AM_event_26 d_AM_event_29 d_AM_event_30 d_AM_event_32 d_AM_event_35
  · replace hm := if_f hm hc
    refine lv_iload_n hx hb d_AM_event_17 rfl (lv_at hl 2 rfl) ?_
    refine lv_iconst (v := (0 : Int32)) hx hb d_AM_event_18 (by decide) ?_
    refine lv_iconst (v := (2 : Int32)) hx hb d_AM_event_19 (by decide) ?_
    obtain ⟨r20, hcl, hm⟩ := bn1_s hm
    refine kci (wc := ([] : va_W)) (wr := wd_AM g h0 q0 x0 ++ wd_Events g (q0 3) q1 x1) (w1 := ([] : va_W)) hP hD hS hA [] [0, 1, 2, 3, 4] rfl rfl (by decide) (by decide) (va_runS (As := [.int a2, .int (0 : Int32), .int (2 : Int32)]) (rest := []) ⟨hx, hb, hml, hown, hts⟩ (c_AM_isWithin hG hGn l dC dI g F H.size a2 (0 : Int32) (2 : Int32) hcl) (cwS 3 hts (gdS k3_101 k2_153 k1_1 k2_154) rfl rfl rfl (by decide +kernel) ⟨Nat.le_of_ble_eq_true rfl, Nat.le_of_ble_eq_true rfl⟩) (kpS hG hP hK hD hS hA hGA [] (by decide) rfl) rfl rfl hl.1 rfl (lv_room (Nat.le_of_ble_eq_true rfl)) d_AM_event_20 ⟨Nat.le_of_ble_eq_true rfl, Nat.le_of_ble_eq_true rfl⟩) (fun H locs hP hD hS => ?_)
    have hP : va_P (dC, dI) vwCl (wd_AM g h0 q0 x0 ++ wd_Events g (q0 3) q1 x1) H := hP
    have hD : va_D A (wd_AM g h0 q0 x0 ++ wd_Events g (q0 3) q1 x1) := hD
    refine lv_if_ne (tgt := 36) hx hb d_AM_event_23 (by decide) (fun hc => ?_) (fun hc => ?_)
    · replace hm := if_f hm hc
      refine lv_aload_n hx hb d_AM_event_36 rfl (lv_at hl 0 rfl) ?_
      refine va_get (D := (dC, dI)) (ci := 0) (v := .ref (q0 3)) (C := "AlarmMatrix") (T := T_AM) (N := 7) hx hb hts i_AM hown hK hP 0 rfl rfl 3 (by decide) (hts _ k1_222) (fun _ h9 => h9) rfl d_AM_event_37 ?_
      refine lv_iload_n hx hb d_AM_event_40 rfl (lv_at hl 1 rfl) ?_
      refine lv_iload_n hx hb d_AM_event_41 rfl (lv_at hl 2 rfl) ?_
      obtain ⟨r42, hcl, hm⟩ := bn1_s hm
      refine kci (wc := wd_Events g (q0 3) q1 x1) (wr := wd_AM g h0 q0 x0) (w1 := wd_Events g (q0 3) q1 x1) hP hD hS hA [1, 2, 3, 4] [0] rfl rfl (by decide) (by decide) (va_runV (As := [.int a1, .int a2]) (rest := []) ⟨hx, hb, hml, hown, hts⟩ (c_Events_tellOf hG hGn l dC dI g F H.size (q0 3) q1 x1 a1 a2 hcl) (cwV 2 hts (gdV k4_239 k5_0 k5_1 k1_6 k5_2) rfl rfl rfl (by decide +kernel) ⟨Nat.le_of_ble_eq_true rfl, Nat.le_of_ble_eq_true rfl⟩) (kpV hG hP hK hD hS hA hGA [1, 2, 3, 4] (by decide) rfl (ci := 9) (q0 := 0) rfl rfl rfl) rfl rfl hl.1 rfl (lv_room (Nat.le_of_ble_eq_true rfl)) d_AM_event_42 ⟨Nat.le_of_ble_eq_true rfl, Nat.le_of_ble_eq_true rfl⟩) (fun H locs hP hD hS => ?_)
      have hP : va_P (dC, dI) vwCl (wd_AM g h0 q0 x0 ++ wd_Events g (q0 3) q1 x1) H := hP
      have hD : va_D A (wd_AM g h0 q0 x0 ++ wd_Events g (q0 3) q1 x1) := hD
      obtain rfl := Option.some.inj hm
      rw [hQ]
      exact kTi hx hb hr hlocks hAe hP hK hD hS (Nat.zero_le _) (Nat.zero_le _) d_AM_event_45
    · replace hm := if_t hm hc
      obtain rfl := Option.some.inj hm
      rw [hQ]
      exact kThrow (rest := []) hx hb hst hts (hGt A s hGA) (Or.inl ⟨rfl, rfl⟩) fit_IAE hown own_IAE k3_102 k1_14 k3_103 ((hGs A s hGA).2.2.2 43 (by decide)) htab (hl.1.trans hml.symm) hlocks hAe hP hK hD hS (Nat.le_of_ble_eq_true rfl) (Nat.le_of_ble_eq_true rfl) (Nat.le_of_ble_eq_true rfl) (Nat.le_of_ble_eq_true rfl) (Nat.le_of_ble_eq_true rfl) (Nat.le_of_ble_eq_true rfl) d_AM_event_26 d_AM_event_29 d_AM_event_30 d_AM_event_32 d_AM_event_35
abbrev b_AM_ranked : ByteArray := prog_1_method_20_code
abbrev y_AM_ranked : MethodName := ⟨"AlarmMatrix", "ranked", "(I)I"⟩
theorem d_AM_ranked_0 : decode b_AM_ranked 0 = .ok (.iload_n 1, 1) := by decide +kernel
theorem d_AM_ranked_1 : decode b_AM_ranked 1 = .ok (.ifCond .ge 13, 3) := by decide +kernel
theorem d_AM_ranked_4 : decode b_AM_ranked 4 = .ok (.new 66, 3) := by decide +kernel
theorem d_AM_ranked_7 : decode b_AM_ranked 7 = .ok (.dup, 1) := by decide +kernel
theorem d_AM_ranked_8 : decode b_AM_ranked 8 = .ok (.ldc 173, 2) := by decide +kernel
theorem d_AM_ranked_10 : decode b_AM_ranked 10 = .ok (.invokespecial 70, 3) := by decide +kernel
theorem d_AM_ranked_13 : decode b_AM_ranked 13 = .ok (.athrow, 1) := by decide +kernel
theorem d_AM_ranked_14 : decode b_AM_ranked 14 = .ok (.aload_n 0, 1) := by decide +kernel
theorem d_AM_ranked_15 : decode b_AM_ranked 15 = .ok (.getfield 51, 3) := by decide +kernel
theorem d_AM_ranked_18 : decode b_AM_ranked 18 = .ok (.invokevirtual 187, 3) := by decide +kernel
theorem d_AM_ranked_21 : decode b_AM_ranked 21 = .ok (.iload_n 1, 1) := by decide +kernel
theorem d_AM_ranked_22 : decode b_AM_ranked 22 = .ok (.invokevirtual 235, 3) := by decide +kernel
theorem d_AM_ranked_25 : decode b_AM_ranked 25 = .ok (.ireturn, 1) := by decide +kernel
def m_AM_ranked (F : Nat) (x0 : St) (x1 : St) (x2 : St) (a1 : Int32) : Option (Nat × Int32) :=
  (if (0 : Int32) ≤ a1 then (bn1 (m_Acts_findRanked F x2 a1) (fun r22 => (some (0, r22)))) else (some (1, (0 : Int32))))
abbrev rm_AM_ranked : Room := { frames := 6, cells := 1, slots := 6, locals := 90 }
set_option maxHeartbeats 4000000 in
set_option maxRecDepth 100000 in
theorem c_AM_ranked {G : (Nat → Prop) → State → Prop} (hG : gok G) (hGn : gN G) {adK adV : Nat → Nat} (hGs : gSt adK adV G) (hGt : gTh G) (l : Launch) (hst : l.stackTraces = false) (dC : Nat → ClassId) (dI : Nat → Nat → Nat) (g : Nat → ClassId) (F : Nat) (sz : Nat) (h0 : Nat) (q0 : Nat → Nat) (x0 : St) (q1 : Nat → Nat) (x1 : St) (q2 : Nat → Nat) (x2 : St) (a1 : Int32) {o : Nat × Int32} (hm : m_AM_ranked F x0 x1 x2 a1 = some o) : kT l y_AM_ranked (.code y_AM_ranked b_AM_ranked 2 (some .int) :: gw) rm_AM_ranked (dC, dI) vwCl (tyv g) G [.ref h0, .int a1] (wd_AM g h0 q0 x0 ++ wd_Plan g (q0 4) q1 x1 ++ wd_Acts g (q1 1) q2 x2) o.1 o.2 (wd_AM g h0 q0 x0 ++ wd_Plan g (q0 4) q1 x1 ++ wd_Acts g (q1 1) q2 x2) 1 6 sz := by
  unfold m_AM_ranked at hm
  refine kmT (cc := b_AM_ranked) (maxL := 2) (ret := (some .int)) (by decide) rfl (Nat.le_of_ble_eq_true rfl) ?_
  intro p e s m args below meth c Q hQ hx hb hr hts hown hlocks hml htab H locs A hAe hA hP hK hD hS hGA ls hl
  have hl : lv_has ls 2 [(0, .ref h0), (1, .int a1)] := hl
  have hts : ∀ w ∈ gw, w.before args s = true := fun w h => hts w (List.mem_cons_of_mem _ h)
  have hown : s.vm.findClass "AlarmMatrix" = some m.cls := hown
  refine lv_iload_n hx hb d_AM_ranked_0 rfl (lv_at hl 1 rfl) ?_
  refine lv_if_ge (tgt := 14) hx hb d_AM_ranked_1 (by decide) (fun hc => ?_) (fun hc => ?_)
  · replace hm := if_t hm hc
    refine lv_aload_n hx hb d_AM_ranked_14 rfl (lv_at hl 0 rfl) ?_
    refine va_get (D := (dC, dI)) (ci := 0) (v := .ref (q0 4)) (C := "AlarmMatrix") (T := T_AM) (N := 7) hx hb hts i_AM hown hK hP 0 rfl rfl 4 (by decide) (hts _ k1_223) (fun _ h9 => h9) rfl d_AM_ranked_15 ?_
    refine kcr (wc := wd_Plan g (q0 4) q1 x1) (wr := wd_AM g h0 q0 x0 ++ wd_Acts g (q1 1) q2 x2) (w1 := wd_Plan g (q0 4) q1 x1) hP hD hS hA [1, 2, 3, 4] [0, 5, 6, 7, 8, 9, 10, 11, 12, 13, 14, 15, 16, 17] rfl rfl (by decide) (by decide) (va_runV (As := []) (rest := []) ⟨hx, hb, hml, hown, hts⟩ (c_Plan_acts hG hGn l dC dI g F H.size (q0 4) q1 x1) (cwV 0 hts (gdV k3_75 k2_203 k2_204 k1_7 k2_205) rfl rfl rfl (by decide +kernel) ⟨Nat.le_of_ble_eq_true rfl, Nat.le_of_ble_eq_true rfl⟩) (kpV hG hP hK hD hS hA hGA [1, 2, 3, 4] (by decide) rfl (ci := 4) (q0 := 0) rfl rfl rfl) rfl rfl hl.1 rfl (lv_room (Nat.le_of_ble_eq_true rfl)) d_AM_ranked_18 ⟨Nat.le_of_ble_eq_true rfl, Nat.le_of_ble_eq_true rfl⟩) (fun H locs hP hD hS => ?_)
    have hP : va_P (dC, dI) vwCl (wd_AM g h0 q0 x0 ++ wd_Plan g (q0 4) q1 x1 ++ wd_Acts g (q1 1) q2 x2) H := hP.sub (ws' := wd_AM g h0 q0 x0 ++ wd_Plan g (q0 4) q1 x1 ++ wd_Acts g (q1 1) q2 x2) [0, 14, 15, 16, 17, 1, 2, 3, 4, 5, 6, 7, 8, 9, 10, 11, 12, 13] rfl
    have hD : va_D A (wd_AM g h0 q0 x0 ++ wd_Plan g (q0 4) q1 x1 ++ wd_Acts g (q1 1) q2 x2) := hD.sub (ws' := wd_AM g h0 q0 x0 ++ wd_Plan g (q0 4) q1 x1 ++ wd_Acts g (q1 1) q2 x2) [0, 14, 15, 16, 17, 1, 2, 3, 4, 5, 6, 7, 8, 9, 10, 11, 12, 13] (by decide) rfl
    refine lv_iload_n hx hb d_AM_ranked_21 rfl (lv_at hl 1 rfl) ?_
    obtain ⟨r22, hcl, hm⟩ := bn1_s hm
    refine kci (wc := wd_Acts g (q1 1) q2 x2) (wr := wd_AM g h0 q0 x0 ++ wd_Plan g (q0 4) q1 x1) (w1 := wd_Acts g (q1 1) q2 x2) hP hD hS hA [5, 6, 7, 8, 9, 10, 11, 12, 13, 14, 15, 16, 17] [0, 1, 2, 3, 4] rfl rfl (by decide) (by decide) (va_runV (As := [.int a1]) (rest := []) ⟨hx, hb, hml, hown, hts⟩ (c_Acts_findRanked hG hGn l dC dI g F H.size (q1 1) q2 x2 a1 hcl) (cwV 1 hts (gdV k5_10 k5_11 k5_12 k1_9 k5_13) rfl rfl rfl (by decide +kernel) ⟨Nat.le_of_ble_eq_true rfl, Nat.le_of_ble_eq_true rfl⟩) (kpV hG hP hK hD hS hA hGA [5, 6, 7, 8, 9, 10, 11, 12, 13, 14, 15, 16, 17] (by decide) rfl (ci := 6) (q0 := 0) rfl rfl rfl) rfl rfl hl.1 rfl (lv_room (Nat.le_of_ble_eq_true rfl)) d_AM_ranked_22 ⟨Nat.le_of_ble_eq_true rfl, Nat.le_of_ble_eq_true rfl⟩) (fun H locs hP hD hS => ?_)
    have hP : va_P (dC, dI) vwCl (wd_AM g h0 q0 x0 ++ wd_Plan g (q0 4) q1 x1 ++ wd_Acts g (q1 1) q2 x2) H := hP
    have hD : va_D A (wd_AM g h0 q0 x0 ++ wd_Plan g (q0 4) q1 x1 ++ wd_Acts g (q1 1) q2 x2) := hD
    obtain rfl := Option.some.inj hm
    rw [hQ]
    exact kTi hx hb hr hlocks hAe hP hK hD hS (Nat.zero_le _) (Nat.zero_le _) d_AM_ranked_25
  · replace hm := if_f hm hc
    obtain rfl := Option.some.inj hm
    rw [hQ]
    exact kThrow (rest := []) hx hb hst hts (hGt A s hGA) (Or.inl ⟨rfl, rfl⟩) fit_IAE hown own_IAE k3_102 k1_14 k3_103 ((hGs A s hGA).2.2.2 36 (by decide)) htab (hl.1.trans hml.symm) hlocks hAe hP hK hD hS (Nat.le_of_ble_eq_true rfl) (Nat.le_of_ble_eq_true rfl) (Nat.le_of_ble_eq_true rfl) (Nat.le_of_ble_eq_true rfl) (Nat.le_of_ble_eq_true rfl) (Nat.le_of_ble_eq_true rfl) d_AM_ranked_4 d_AM_ranked_7 d_AM_ranked_8 d_AM_ranked_10 d_AM_ranked_13
abbrev b_AM_time : ByteArray := prog_1_method_21_code
abbrev y_AM_time : MethodName := ⟨"AlarmMatrix", "time", "()I"⟩
theorem d_AM_time_0 : decode b_AM_time 0 = .ok (.aload_n 0, 1) := by decide +kernel
theorem d_AM_time_1 : decode b_AM_time 1 = .ok (.getfield 58, 3) := by decide +kernel
theorem d_AM_time_4 : decode b_AM_time 4 = .ok (.ireturn, 1) := by decide +kernel
def m_AM_time (F : Nat) (x0 : St) : Option (Int32) :=
  (some (x0 6 0))
abbrev rm_AM_time : Room := { frames := 0, cells := 0, slots := 0, locals := 0 }
set_option maxHeartbeats 4000000 in
set_option maxRecDepth 100000 in
theorem c_AM_time {G : (Nat → Prop) → State → Prop} (hG : gok G) (hGn : gN G) (l : Launch) (dC : Nat → ClassId) (dI : Nat → Nat → Nat) (g : Nat → ClassId) (F : Nat) (sz : Nat) (h0 : Nat) (q0 : Nat → Nat) (x0 : St) {o : Int32} (hm : m_AM_time F x0 = some o) : Met l y_AM_time (.code y_AM_time b_AM_time 1 (some .int) :: gw) rm_AM_time (kq (dC, dI) vwCl (tyv g) G [.ref h0] sz (wd_AM g h0 q0 x0)) (kqi (dC, dI) vwCl (tyv g) (wd_AM g h0 q0 x0) o (wd_AM g h0 q0 x0) sz) 0 0 (va_A (wd_AM g h0 q0 x0) sz) := by
  unfold m_AM_time at hm
  refine km (Qc := fun sz => kqi (dC, dI) vwCl (tyv g) (wd_AM g h0 q0 x0) o (wd_AM g h0 q0 x0) sz) (cc := b_AM_time) (maxL := 1) (ret := some .int) (by decide) rfl (Nat.le_of_ble_eq_true rfl) ?_
  intro p e s m args below meth c Q hQ hx hb hr hts hown hlocks hml hnm H locs A hAe hA hP hK hD hS hGA ls hl
  have hl : lv_has ls 1 [(0, .ref h0)] := hl
  have hts : ∀ w ∈ gw, w.before args s = true := fun w h => hts w (List.mem_cons_of_mem _ h)
  have hown : s.vm.findClass "AlarmMatrix" = some m.cls := hown
  refine lv_aload_n hx hb d_AM_time_0 rfl (lv_at hl 0 rfl) ?_
  refine va_get (D := (dC, dI)) (ci := 0) (v := .int (x0 6 0)) (C := "AlarmMatrix") (T := T_AM) (N := 7) hx hb hts i_AM hown hK hP 0 rfl rfl 6 (by decide) (hts _ k1_225) (fun _ h9 => h9) rfl d_AM_time_1 ?_
  obtain rfl := Option.some.inj hm
  rw [hQ]
  exact kri hx hb hr hlocks hAe hP hK hD hS d_AM_time_4

abbrev b_MD_isMet : ByteArray := prog_12_method_46_code
abbrev y_MD_isMet : MethodName := ⟨"AlarmMatrixModel", "isMet", "(I)Z"⟩
theorem d_MD_isMet_0 : decode b_MD_isMet 0 = .ok (.aload_n 0, 1) := by decide +kernel
theorem d_MD_isMet_1 : decode b_MD_isMet 1 = .ok (.aload_n 0, 1) := by decide +kernel
theorem d_MD_isMet_2 : decode b_MD_isMet 2 = .ok (.getfield 71, 3) := by decide +kernel
theorem d_MD_isMet_5 : decode b_MD_isMet 5 = .ok (.iload_n 1, 1) := by decide +kernel
theorem d_MD_isMet_6 : decode b_MD_isMet 6 = .ok (.iaload, 1) := by decide +kernel
theorem d_MD_isMet_7 : decode b_MD_isMet 7 = .ok (.invokevirtual 246, 3) := by decide +kernel
theorem d_MD_isMet_10 : decode b_MD_isMet 10 = .ok (.ifCond .eq 29, 3) := by decide +kernel
theorem d_MD_isMet_13 : decode b_MD_isMet 13 = .ok (.aload_n 0, 1) := by decide +kernel
theorem d_MD_isMet_14 : decode b_MD_isMet 14 = .ok (.getfield 74, 3) := by decide +kernel
theorem d_MD_isMet_17 : decode b_MD_isMet 17 = .ok (.iload_n 1, 1) := by decide +kernel
theorem d_MD_isMet_18 : decode b_MD_isMet 18 = .ok (.iaload, 1) := by decide +kernel
theorem d_MD_isMet_19 : decode b_MD_isMet 19 = .ok (.ifCond .lt 16, 3) := by decide +kernel
theorem d_MD_isMet_22 : decode b_MD_isMet 22 = .ok (.aload_n 0, 1) := by decide +kernel
theorem d_MD_isMet_23 : decode b_MD_isMet 23 = .ok (.aload_n 0, 1) := by decide +kernel
theorem d_MD_isMet_24 : decode b_MD_isMet 24 = .ok (.getfield 74, 3) := by decide +kernel
theorem d_MD_isMet_27 : decode b_MD_isMet 27 = .ok (.iload_n 1, 1) := by decide +kernel
theorem d_MD_isMet_28 : decode b_MD_isMet 28 = .ok (.iaload, 1) := by decide +kernel
theorem d_MD_isMet_29 : decode b_MD_isMet 29 = .ok (.invokevirtual 246, 3) := by decide +kernel
theorem d_MD_isMet_32 : decode b_MD_isMet 32 = .ok (.ifCond .eq 7, 3) := by decide +kernel
theorem d_MD_isMet_35 : decode b_MD_isMet 35 = .ok (.iconst 1, 1) := by decide +kernel
theorem d_MD_isMet_36 : decode b_MD_isMet 36 = .ok (.goto 4, 3) := by decide +kernel
theorem d_MD_isMet_39 : decode b_MD_isMet 39 = .ok (.iconst 0, 1) := by decide +kernel
theorem d_MD_isMet_40 : decode b_MD_isMet 40 = .ok (.ireturn, 1) := by decide +kernel
def m_MD_isMet (F : Nat) (x0 : St) (a1 : Int32) : Option (Int32) :=
  (ck a1 100 (bn1 (m_MD_isOn F x0 ((x0 29) a1.toNatClampNeg)) (fun r7 => (if r7 = (0 : Int32) then (some (0 : Int32)) else (ck a1 100 (if ((x0 30) a1.toNatClampNeg) < (0 : Int32) then (some (1 : Int32)) else (ck a1 100 (bn1 (m_MD_isOn F x0 ((x0 30) a1.toNatClampNeg)) (fun r29 => (if r29 = (0 : Int32) then (some (0 : Int32)) else (some (1 : Int32))))))))))))
abbrev rm_MD_isMet : Room := { frames := 4, cells := 0, slots := 0, locals := 92 }
set_option maxHeartbeats 4000000 in
set_option maxRecDepth 100000 in
theorem c_MD_isMet {G : (Nat → Prop) → State → Prop} (hG : gok G) (hGn : gN G) (l : Launch) (dC : Nat → ClassId) (dI : Nat → Nat → Nat) (g : Nat → ClassId) (F : Nat) (sz : Nat) (h0 : Nat) (q0 : Nat → Nat) (x0 : St) (a1 : Int32) {o : Int32} (hm : m_MD_isMet F x0 a1 = some o) : Met l y_MD_isMet (.code y_MD_isMet b_MD_isMet 2 (some .boolean) :: gw) rm_MD_isMet (kq (dC, dI) vwCl (tyv g) G [.ref h0, .int a1] sz (wd_MD g h0 q0 x0)) (kqi (dC, dI) vwCl (tyv g) (wd_MD g h0 q0 x0) o (wd_MD g h0 q0 x0) sz) 0 0 (va_A (wd_MD g h0 q0 x0) sz) := by
  unfold m_MD_isMet at hm
  refine km (Qc := fun sz => kqi (dC, dI) vwCl (tyv g) (wd_MD g h0 q0 x0) o (wd_MD g h0 q0 x0) sz) (cc := b_MD_isMet) (maxL := 2) (ret := some .boolean) (by decide) rfl (Nat.le_of_ble_eq_true rfl) ?_
  intro p e s m args below meth c Q hQ hx hb hr hts hown hlocks hml hnm H locs A hAe hA hP hK hD hS hGA ls hl
  have hl : lv_has ls 2 [(0, .ref h0), (1, .int a1)] := hl
  have hts : ∀ w ∈ gw, w.before args s = true := fun w h => hts w (List.mem_cons_of_mem _ h)
  have hown : s.vm.findClass "AlarmMatrixModel" = some m.cls := hown
  refine lv_aload_n hx hb d_MD_isMet_0 rfl (lv_at hl 0 rfl) ?_
  refine lv_aload_n hx hb d_MD_isMet_1 rfl (lv_at hl 0 rfl) ?_
  refine va_get (D := (dC, dI)) (ci := 10) (v := .ref (q0 29)) (C := "AlarmMatrixModel") (T := T_MD) (N := 42) hx hb hts i_MD hown hK hP 0 rfl rfl 29 (by decide) (hts _ k5_49) (fun _ h9 => h9) rfl d_MD_isMet_2 ?_
  refine lv_iload_n hx hb d_MD_isMet_5 rfl (lv_at hl 1 rfl) ?_
  obtain ⟨h_6, hm⟩ := ck_s hm
  refine va_iald (f := (x0 29)) hx hb hK hP 21 0 rfl rfl h_6 d_MD_isMet_6 ?_
  obtain ⟨r7, hcl, hm⟩ := bn1_s hm
  refine kci (wc := wd_MD g h0 q0 x0) (wr := ([] : va_W)) (w1 := wd_MD g h0 q0 x0) hP hD hS hA [0, 1, 2, 3, 4, 5, 6, 7, 8, 9, 10, 11, 12, 13, 14, 15, 16, 17, 18, 19, 20, 21, 22, 23, 24, 25, 26, 27, 28, 29, 30, 31] [] rfl rfl (by decide) (by decide) (va_runV (As := [.int ((x0 29) a1.toNatClampNeg)]) (rest := []) ⟨hx, hb, hml, hown, hts⟩ (c_MD_isOn hG hGn l dC dI g F H.size h0 q0 x0 ((x0 29) a1.toNatClampNeg) hcl) (cwV 1 hts (gdV k6_97 k6_99 kp_50 k1_10 k6_100) rfl rfl rfl (by decide +kernel) ⟨Nat.le_of_ble_eq_true rfl, Nat.le_of_ble_eq_true rfl⟩) (kpV hG hP hK hD hS hA hGA [0, 1, 2, 3, 4, 5, 6, 7, 8, 9, 10, 11, 12, 13, 14, 15, 16, 17, 18, 19, 20, 21, 22, 23, 24, 25, 26, 27, 28, 29, 30, 31] (by decide) rfl (ci := 10) (q0 := 0) rfl rfl rfl) rfl rfl hl.1 rfl (lv_room (Nat.le_of_ble_eq_true rfl)) d_MD_isMet_7 ⟨Nat.le_of_ble_eq_true rfl, Nat.le_of_ble_eq_true rfl⟩) (fun H locs hP hD hS => ?_)
  have hP : va_P (dC, dI) vwCl (wd_MD g h0 q0 x0) H := hP
  have hD : va_D A (wd_MD g h0 q0 x0) := hD
  refine lv_if_eq (tgt := 39) hx hb d_MD_isMet_10 (by decide) (fun hc => ?_) (fun hc => ?_)
  · replace hm := if_t hm hc
    refine lv_iconst (v := (0 : Int32)) hx hb d_MD_isMet_39 (by decide) ?_
    obtain rfl := Option.some.inj hm
    rw [hQ]
    exact krz hx hb hr nar_0 hlocks hAe hP hK hD hS d_MD_isMet_40
  · replace hm := if_f hm hc
    refine lv_aload_n hx hb d_MD_isMet_13 rfl (lv_at hl 0 rfl) ?_
    refine va_get (D := (dC, dI)) (ci := 10) (v := .ref (q0 30)) (C := "AlarmMatrixModel") (T := T_MD) (N := 42) hx hb hts i_MD hown hK hP 0 rfl rfl 30 (by decide) (hts _ k5_50) (fun _ h9 => h9) rfl d_MD_isMet_14 ?_
    refine lv_iload_n hx hb d_MD_isMet_17 rfl (lv_at hl 1 rfl) ?_
    obtain ⟨h_18, hm⟩ := ck_s hm
    refine va_iald (f := (x0 30)) hx hb hK hP 22 0 rfl rfl h_18 d_MD_isMet_18 ?_
    refine lv_if_lt (tgt := 35) hx hb d_MD_isMet_19 (by decide) (fun hc => ?_) (fun hc => ?_)
    · replace hm := if_t hm hc
      refine lv_iconst (v := (1 : Int32)) hx hb d_MD_isMet_35 (by decide) ?_
      refine lv_goto (tgt := 40) hx hb d_MD_isMet_36 (by decide) ?_
      obtain rfl := Option.some.inj hm
      rw [hQ]
      exact krz hx hb hr nar_1 hlocks hAe hP hK hD hS d_MD_isMet_40
    · replace hm := if_f hm hc
      refine lv_aload_n hx hb d_MD_isMet_22 rfl (lv_at hl 0 rfl) ?_
      refine lv_aload_n hx hb d_MD_isMet_23 rfl (lv_at hl 0 rfl) ?_
      refine va_get (D := (dC, dI)) (ci := 10) (v := .ref (q0 30)) (C := "AlarmMatrixModel") (T := T_MD) (N := 42) hx hb hts i_MD hown hK hP 0 rfl rfl 30 (by decide) (hts _ k5_50) (fun _ h9 => h9) rfl d_MD_isMet_24 ?_
      refine lv_iload_n hx hb d_MD_isMet_27 rfl (lv_at hl 1 rfl) ?_
      obtain ⟨h_28, hm⟩ := ck_s hm
      refine va_iald (f := (x0 30)) hx hb hK hP 22 0 rfl rfl h_28 d_MD_isMet_28 ?_
      obtain ⟨r29, hcl, hm⟩ := bn1_s hm
      refine kci (wc := wd_MD g h0 q0 x0) (wr := ([] : va_W)) (w1 := wd_MD g h0 q0 x0) hP hD hS hA [0, 1, 2, 3, 4, 5, 6, 7, 8, 9, 10, 11, 12, 13, 14, 15, 16, 17, 18, 19, 20, 21, 22, 23, 24, 25, 26, 27, 28, 29, 30, 31] [] rfl rfl (by decide) (by decide) (va_runV (As := [.int ((x0 30) a1.toNatClampNeg)]) (rest := []) ⟨hx, hb, hml, hown, hts⟩ (c_MD_isOn hG hGn l dC dI g F H.size h0 q0 x0 ((x0 30) a1.toNatClampNeg) hcl) (cwV 1 hts (gdV k6_97 k6_99 kp_50 k1_10 k6_100) rfl rfl rfl (by decide +kernel) ⟨Nat.le_of_ble_eq_true rfl, Nat.le_of_ble_eq_true rfl⟩) (kpV hG hP hK hD hS hA hGA [0, 1, 2, 3, 4, 5, 6, 7, 8, 9, 10, 11, 12, 13, 14, 15, 16, 17, 18, 19, 20, 21, 22, 23, 24, 25, 26, 27, 28, 29, 30, 31] (by decide) rfl (ci := 10) (q0 := 0) rfl rfl rfl) rfl rfl hl.1 rfl (lv_room (Nat.le_of_ble_eq_true rfl)) d_MD_isMet_29 ⟨Nat.le_of_ble_eq_true rfl, Nat.le_of_ble_eq_true rfl⟩) (fun H locs hP hD hS => ?_)
      have hP : va_P (dC, dI) vwCl (wd_MD g h0 q0 x0) H := hP
      have hD : va_D A (wd_MD g h0 q0 x0) := hD
      refine lv_if_eq (tgt := 39) hx hb d_MD_isMet_32 (by decide) (fun hc => ?_) (fun hc => ?_)
      · replace hm := if_t hm hc
        refine lv_iconst (v := (0 : Int32)) hx hb d_MD_isMet_39 (by decide) ?_
        obtain rfl := Option.some.inj hm
        rw [hQ]
        exact krz hx hb hr nar_0 hlocks hAe hP hK hD hS d_MD_isMet_40
      · replace hm := if_f hm hc
        refine lv_iconst (v := (1 : Int32)) hx hb d_MD_isMet_35 (by decide) ?_
        refine lv_goto (tgt := 40) hx hb d_MD_isMet_36 (by decide) ?_
        obtain rfl := Option.some.inj hm
        rw [hQ]
        exact krz hx hb hr nar_1 hlocks hAe hP hK hD hS d_MD_isMet_40
abbrev b_MD_isCalled : ByteArray := prog_12_method_47_code
abbrev y_MD_isCalled : MethodName := ⟨"AlarmMatrixModel", "isCalled", "(IZ)Z"⟩
theorem d_MD_isCalled_0 : decode b_MD_isCalled 0 = .ok (.iconst 0, 1) := by decide +kernel
theorem d_MD_isCalled_1 : decode b_MD_isCalled 1 = .ok (.istore_n 3, 1) := by decide +kernel
theorem d_MD_isCalled_2 : decode b_MD_isCalled 2 = .ok (.iconst 0, 1) := by decide +kernel
theorem d_MD_isCalled_3 : decode b_MD_isCalled 3 = .ok (.istore 4, 2) := by decide +kernel
theorem d_MD_isCalled_5 : decode b_MD_isCalled 5 = .ok (.iload 4, 2) := by decide +kernel
theorem d_MD_isCalled_7 : decode b_MD_isCalled 7 = .ok (.aload_n 0, 1) := by decide +kernel
theorem d_MD_isCalled_8 : decode b_MD_isCalled 8 = .ok (.getfield 220, 3) := by decide +kernel
theorem d_MD_isCalled_11 : decode b_MD_isCalled 11 = .ok (.if_icmp .ge 113, 3) := by decide +kernel
theorem d_MD_isCalled_14 : decode b_MD_isCalled 14 = .ok (.aload_n 0, 1) := by decide +kernel
theorem d_MD_isCalled_15 : decode b_MD_isCalled 15 = .ok (.getfield 77, 3) := by decide +kernel
theorem d_MD_isCalled_18 : decode b_MD_isCalled 18 = .ok (.iload 4, 2) := by decide +kernel
theorem d_MD_isCalled_20 : decode b_MD_isCalled 20 = .ok (.iaload, 1) := by decide +kernel
theorem d_MD_isCalled_21 : decode b_MD_isCalled 21 = .ok (.iload_n 1, 1) := by decide +kernel
theorem d_MD_isCalled_22 : decode b_MD_isCalled 22 = .ok (.if_icmp .ne 16, 3) := by decide +kernel
theorem d_MD_isCalled_25 : decode b_MD_isCalled 25 = .ok (.aload_n 0, 1) := by decide +kernel
theorem d_MD_isCalled_26 : decode b_MD_isCalled 26 = .ok (.iload 4, 2) := by decide +kernel
theorem d_MD_isCalled_28 : decode b_MD_isCalled 28 = .ok (.invokevirtual 249, 3) := by decide +kernel
theorem d_MD_isCalled_31 : decode b_MD_isCalled 31 = .ok (.ifCond .eq 7, 3) := by decide +kernel
theorem d_MD_isCalled_34 : decode b_MD_isCalled 34 = .ok (.iconst 1, 1) := by decide +kernel
theorem d_MD_isCalled_35 : decode b_MD_isCalled 35 = .ok (.goto 4, 3) := by decide +kernel
theorem d_MD_isCalled_38 : decode b_MD_isCalled 38 = .ok (.iconst 0, 1) := by decide +kernel
theorem d_MD_isCalled_39 : decode b_MD_isCalled 39 = .ok (.istore 5, 2) := by decide +kernel
theorem d_MD_isCalled_41 : decode b_MD_isCalled 41 = .ok (.iload 5, 2) := by decide +kernel
theorem d_MD_isCalled_43 : decode b_MD_isCalled 43 = .ok (.ifCond .eq 45, 3) := by decide +kernel
theorem d_MD_isCalled_46 : decode b_MD_isCalled 46 = .ok (.aload_n 0, 1) := by decide +kernel
theorem d_MD_isCalled_47 : decode b_MD_isCalled 47 = .ok (.aload_n 0, 1) := by decide +kernel
theorem d_MD_isCalled_48 : decode b_MD_isCalled 48 = .ok (.getfield 71, 3) := by decide +kernel
theorem d_MD_isCalled_51 : decode b_MD_isCalled 51 = .ok (.iload 4, 2) := by decide +kernel
theorem d_MD_isCalled_53 : decode b_MD_isCalled 53 = .ok (.iaload, 1) := by decide +kernel
theorem d_MD_isCalled_54 : decode b_MD_isCalled 54 = .ok (.invokevirtual 252, 3) := by decide +kernel
theorem d_MD_isCalled_57 : decode b_MD_isCalled 57 = .ok (.ifCond .ne 27, 3) := by decide +kernel
theorem d_MD_isCalled_60 : decode b_MD_isCalled 60 = .ok (.aload_n 0, 1) := by decide +kernel
theorem d_MD_isCalled_61 : decode b_MD_isCalled 61 = .ok (.getfield 74, 3) := by decide +kernel
theorem d_MD_isCalled_64 : decode b_MD_isCalled 64 = .ok (.iload 4, 2) := by decide +kernel
theorem d_MD_isCalled_66 : decode b_MD_isCalled 66 = .ok (.iaload, 1) := by decide +kernel
theorem d_MD_isCalled_67 : decode b_MD_isCalled 67 = .ok (.ifCond .lt 21, 3) := by decide +kernel
theorem d_MD_isCalled_70 : decode b_MD_isCalled 70 = .ok (.aload_n 0, 1) := by decide +kernel
theorem d_MD_isCalled_71 : decode b_MD_isCalled 71 = .ok (.aload_n 0, 1) := by decide +kernel
theorem d_MD_isCalled_72 : decode b_MD_isCalled 72 = .ok (.getfield 74, 3) := by decide +kernel
theorem d_MD_isCalled_75 : decode b_MD_isCalled 75 = .ok (.iload 4, 2) := by decide +kernel
theorem d_MD_isCalled_77 : decode b_MD_isCalled 77 = .ok (.iaload, 1) := by decide +kernel
theorem d_MD_isCalled_78 : decode b_MD_isCalled 78 = .ok (.invokevirtual 252, 3) := by decide +kernel
theorem d_MD_isCalled_81 : decode b_MD_isCalled 81 = .ok (.ifCond .eq 7, 3) := by decide +kernel
theorem d_MD_isCalled_84 : decode b_MD_isCalled 84 = .ok (.iconst 1, 1) := by decide +kernel
theorem d_MD_isCalled_85 : decode b_MD_isCalled 85 = .ok (.goto 4, 3) := by decide +kernel
theorem d_MD_isCalled_88 : decode b_MD_isCalled 88 = .ok (.iconst 0, 1) := by decide +kernel
theorem d_MD_isCalled_89 : decode b_MD_isCalled 89 = .ok (.istore 6, 2) := by decide +kernel
theorem d_MD_isCalled_91 : decode b_MD_isCalled 91 = .ok (.iload_n 3, 1) := by decide +kernel
theorem d_MD_isCalled_92 : decode b_MD_isCalled 92 = .ok (.ifCond .ne 20, 3) := by decide +kernel
theorem d_MD_isCalled_95 : decode b_MD_isCalled 95 = .ok (.iload_n 2, 1) := by decide +kernel
theorem d_MD_isCalled_96 : decode b_MD_isCalled 96 = .ok (.ifCond .eq 11, 3) := by decide +kernel
theorem d_MD_isCalled_99 : decode b_MD_isCalled 99 = .ok (.iload 6, 2) := by decide +kernel
theorem d_MD_isCalled_101 : decode b_MD_isCalled 101 = .ok (.ifCond .eq 15, 3) := by decide +kernel
theorem d_MD_isCalled_104 : decode b_MD_isCalled 104 = .ok (.goto 8, 3) := by decide +kernel
theorem d_MD_isCalled_107 : decode b_MD_isCalled 107 = .ok (.iload 5, 2) := by decide +kernel
theorem d_MD_isCalled_109 : decode b_MD_isCalled 109 = .ok (.ifCond .eq 7, 3) := by decide +kernel
theorem d_MD_isCalled_112 : decode b_MD_isCalled 112 = .ok (.iconst 1, 1) := by decide +kernel
theorem d_MD_isCalled_113 : decode b_MD_isCalled 113 = .ok (.goto 4, 3) := by decide +kernel
theorem d_MD_isCalled_116 : decode b_MD_isCalled 116 = .ok (.iconst 0, 1) := by decide +kernel
theorem d_MD_isCalled_117 : decode b_MD_isCalled 117 = .ok (.istore_n 3, 1) := by decide +kernel
theorem d_MD_isCalled_118 : decode b_MD_isCalled 118 = .ok (.iinc 4 1, 3) := by decide +kernel
theorem d_MD_isCalled_121 : decode b_MD_isCalled 121 = .ok (.goto (-116), 3) := by decide +kernel
theorem d_MD_isCalled_124 : decode b_MD_isCalled 124 = .ok (.iload_n 3, 1) := by decide +kernel
theorem d_MD_isCalled_125 : decode b_MD_isCalled 125 = .ok (.ireturn, 1) := by decide +kernel
def m_MD_isCalled_J89 {R : Type} (F : Nat) (a2 : Int32) (k5_124 : Int32 → Int32 → Option R) (rec5 : Int32 → Int32 → Option R) (j3_89 : Int32) (j4_89 : Int32) (j5_89 : Int32) (s0_89 : Int32) : Option R :=
  (if j3_89 = (0 : Int32) then (if a2 = (0 : Int32) then (if j5_89 = (0 : Int32) then (rec5 (0 : Int32) (j4_89 + (1 : Int32))) else (rec5 (1 : Int32) (j4_89 + (1 : Int32)))) else (if s0_89 = (0 : Int32) then (rec5 (0 : Int32) (j4_89 + (1 : Int32))) else (rec5 (1 : Int32) (j4_89 + (1 : Int32))))) else (rec5 (1 : Int32) (j4_89 + (1 : Int32))))
theorem m_MD_isCalled_J89_h {R : Type} {F : Nat} {a2 : Int32} {k5_124 : Int32 → Int32 → Option R} {rec5 : Int32 → Int32 → Option R} {j3_89 : Int32} {j4_89 : Int32} {j5_89 : Int32} {s0_89 : Int32} {o : R} (h : m_MD_isCalled_J89 F a2 k5_124 rec5 j3_89 j4_89 j5_89 s0_89 = some o) :
  (if j3_89 = (0 : Int32) then (if a2 = (0 : Int32) then (if j5_89 = (0 : Int32) then (rec5 (0 : Int32) (j4_89 + (1 : Int32))) else (rec5 (1 : Int32) (j4_89 + (1 : Int32)))) else (if s0_89 = (0 : Int32) then (rec5 (0 : Int32) (j4_89 + (1 : Int32))) else (rec5 (1 : Int32) (j4_89 + (1 : Int32))))) else (rec5 (1 : Int32) (j4_89 + (1 : Int32)))) = some o := h
def m_MD_isCalled_J39 {R : Type} (F : Nat) (a2 : Int32) (x0 : St) (k5_124 : Int32 → Int32 → Option R) (rec5 : Int32 → Int32 → Option R) (j3_39 : Int32) (j4_39 : Int32) (s0_39 : Int32) : Option R :=
  (if s0_39 = (0 : Int32) then (m_MD_isCalled_J89 F a2 k5_124 rec5 j3_39 j4_39 s0_39 (0 : Int32)) else (ck j4_39 100 (bn1 (m_MD_isSure F x0 ((x0 29) j4_39.toNatClampNeg)) (fun r54 => (if r54 = (0 : Int32) then (ck j4_39 100 (if ((x0 30) j4_39.toNatClampNeg) < (0 : Int32) then (m_MD_isCalled_J89 F a2 k5_124 rec5 j3_39 j4_39 s0_39 (0 : Int32)) else (ck j4_39 100 (bn1 (m_MD_isSure F x0 ((x0 30) j4_39.toNatClampNeg)) (fun r78 => (if r78 = (0 : Int32) then (m_MD_isCalled_J89 F a2 k5_124 rec5 j3_39 j4_39 s0_39 (0 : Int32)) else (m_MD_isCalled_J89 F a2 k5_124 rec5 j3_39 j4_39 s0_39 (1 : Int32)))))))) else (m_MD_isCalled_J89 F a2 k5_124 rec5 j3_39 j4_39 s0_39 (1 : Int32)))))))
theorem m_MD_isCalled_J39_h {R : Type} {F : Nat} {a2 : Int32} {x0 : St} {k5_124 : Int32 → Int32 → Option R} {rec5 : Int32 → Int32 → Option R} {j3_39 : Int32} {j4_39 : Int32} {s0_39 : Int32} {o : R} (h : m_MD_isCalled_J39 F a2 x0 k5_124 rec5 j3_39 j4_39 s0_39 = some o) :
  (if s0_39 = (0 : Int32) then (m_MD_isCalled_J89 F a2 k5_124 rec5 j3_39 j4_39 s0_39 (0 : Int32)) else (ck j4_39 100 (bn1 (m_MD_isSure F x0 ((x0 29) j4_39.toNatClampNeg)) (fun r54 => (if r54 = (0 : Int32) then (ck j4_39 100 (if ((x0 30) j4_39.toNatClampNeg) < (0 : Int32) then (m_MD_isCalled_J89 F a2 k5_124 rec5 j3_39 j4_39 s0_39 (0 : Int32)) else (ck j4_39 100 (bn1 (m_MD_isSure F x0 ((x0 30) j4_39.toNatClampNeg)) (fun r78 => (if r78 = (0 : Int32) then (m_MD_isCalled_J89 F a2 k5_124 rec5 j3_39 j4_39 s0_39 (0 : Int32)) else (m_MD_isCalled_J89 F a2 k5_124 rec5 j3_39 j4_39 s0_39 (1 : Int32)))))))) else (m_MD_isCalled_J89 F a2 k5_124 rec5 j3_39 j4_39 s0_39 (1 : Int32))))))) = some o := h
def m_MD_isCalled_B5 {R : Type} (F : Nat) (x0 : St) (a1 : Int32) (a2 : Int32) (k5_124 : Int32 → Int32 → Option R) (rec5 : Int32 → Int32 → Option R) (v3_5 : Int32) (v4_5 : Int32) : Option R :=
  (if (x0 27 0) ≤ v4_5 then (k5_124 v3_5 v4_5) else (ck v4_5 100 (if ((x0 31) v4_5.toNatClampNeg) = a1 then (bn1 (m_MD_isMet F x0 v4_5) (fun r28 => (if r28 = (0 : Int32) then (m_MD_isCalled_J39 F a2 x0 k5_124 rec5 v3_5 v4_5 (0 : Int32)) else (m_MD_isCalled_J39 F a2 x0 k5_124 rec5 v3_5 v4_5 (1 : Int32))))) else (m_MD_isCalled_J39 F a2 x0 k5_124 rec5 v3_5 v4_5 (0 : Int32)))))
theorem m_MD_isCalled_B5_h {R : Type} {F : Nat} {x0 : St} {a1 : Int32} {a2 : Int32} {k5_124 : Int32 → Int32 → Option R} {rec5 : Int32 → Int32 → Option R} {v3_5 : Int32} {v4_5 : Int32} {o : R} (h : m_MD_isCalled_B5 F x0 a1 a2 k5_124 rec5 v3_5 v4_5 = some o) :
  (if (x0 27 0) ≤ v4_5 then (k5_124 v3_5 v4_5) else (ck v4_5 100 (if ((x0 31) v4_5.toNatClampNeg) = a1 then (bn1 (m_MD_isMet F x0 v4_5) (fun r28 => (if r28 = (0 : Int32) then (m_MD_isCalled_J39 F a2 x0 k5_124 rec5 v3_5 v4_5 (0 : Int32)) else (m_MD_isCalled_J39 F a2 x0 k5_124 rec5 v3_5 v4_5 (1 : Int32))))) else (m_MD_isCalled_J39 F a2 x0 k5_124 rec5 v3_5 v4_5 (0 : Int32))))) = some o := h
def m_MD_isCalled (F : Nat) (x0 : St) (a1 : Int32) (a2 : Int32) : Option (Int32) :=
  (lq2 (m_MD_isCalled_B5 F x0 a1 a2 (fun v3_5 v4_5 => (ckb v3_5 (some v3_5)))) F (0 : Int32) (0 : Int32))
abbrev rm_MD_isCalled : Room := { frames := 5, cells := 0, slots := 0, locals := 113 }
set_option maxHeartbeats 4000000 in
set_option maxRecDepth 100000 in
theorem c_MD_isCalled {G : (Nat → Prop) → State → Prop} (hG : gok G) (hGn : gN G) (l : Launch) (dC : Nat → ClassId) (dI : Nat → Nat → Nat) (g : Nat → ClassId) (F : Nat) (sz : Nat) (h0 : Nat) (q0 : Nat → Nat) (x0 : St) (a1 : Int32) (a2 : Int32) {o : Int32} (hm : m_MD_isCalled F x0 a1 a2 = some o) : Met l y_MD_isCalled (.code y_MD_isCalled b_MD_isCalled 7 (some .boolean) :: gw) rm_MD_isCalled (kq (dC, dI) vwCl (tyv g) G [.ref h0, .int a1, .int a2] sz (wd_MD g h0 q0 x0)) (kqi (dC, dI) vwCl (tyv g) (wd_MD g h0 q0 x0) o (wd_MD g h0 q0 x0) sz) 0 0 (va_A (wd_MD g h0 q0 x0) sz) := by
  unfold m_MD_isCalled at hm
  refine km (Qc := fun sz => kqi (dC, dI) vwCl (tyv g) (wd_MD g h0 q0 x0) o (wd_MD g h0 q0 x0) sz) (cc := b_MD_isCalled) (maxL := 7) (ret := some .boolean) (by decide) rfl (Nat.le_of_ble_eq_true rfl) ?_
  intro p e s m args below meth c Q hQ hx hb hr hts hown hlocks hml hnm H locs A hAe hA hP hK hD hS hGA ls hl
  have hl : lv_has ls 7 [(0, .ref h0), (1, .int a1), (2, .int a2)] := hl
  have hts : ∀ w ∈ gw, w.before args s = true := fun w h => hts w (List.mem_cons_of_mem _ h)
  have hown : s.vm.findClass "AlarmMatrixModel" = some m.cls := hown
  refine lv_iconst (v := (0 : Int32)) hx hb d_MD_isCalled_0 (by decide) ?_
  refine lv_istore_n (lv' := [(3, .int (0 : Int32)), (0, .ref h0), (1, .int a1), (2, .int a2)]) hx hb d_MD_isCalled_1 rfl hl (by decide) rfl (fun ls hl => ?_)
  refine lv_iconst (v := (0 : Int32)) hx hb d_MD_isCalled_2 (by decide) ?_
  refine lv_istore (lv' := [(4, .int (0 : Int32)), (3, .int (0 : Int32)), (0, .ref h0), (1, .int a1), (2, .int a2)]) hx hb d_MD_isCalled_3 hl (by decide) rfl (fun ls hl => ?_)
  have L5 : ∀ (n5 : Nat) (v3_5 : Int32) (v4_5 : Int32) (H : Heap) (locs : List Loc) (ls : Array Slot), lq2 (m_MD_isCalled_B5 F x0 a1 a2 (fun v3_5 v4_5 => (ckb v3_5 (some v3_5)))) n5 v3_5 v4_5 = some o → va_P (dC, dI) vwCl (wd_MD g h0 q0 x0) H → va_D A (wd_MD g h0 q0 x0) → va_S A s.heap H locs → lv_has ls 7 [(0, .ref h0), (1, .int a1), (2, .int a2), (3, .int v3_5), (4, .int v4_5)] → W p l e rm_MD_isCalled s m args below meth c H locs 0 0 Q (F0 m 5 ls []) := by
    intro n5
    induction n5 with
    | zero => intro v3_5 v4_5 H locs ls hm; exact absurd hm (by intro z; cases z)
    | succ n5 ih5 =>
      intro v3_5 v4_5 H locs ls hm hP hD hS hl
      replace hm := m_MD_isCalled_B5_h (lq2_h hm)
      have J89 : ∀ (j3_89 : Int32) (j4_89 : Int32) (j5_89 : Int32) (s0_89 : Int32) (H : Heap) (locs : List Loc) (ls : Array Slot), m_MD_isCalled_J89 F a2 (fun v3_5 v4_5 => (ckb v3_5 (some v3_5))) (lq2 (m_MD_isCalled_B5 F x0 a1 a2 (fun v3_5 v4_5 => (ckb v3_5 (some v3_5)))) n5) j3_89 j4_89 j5_89 s0_89 = some o → va_P (dC, dI) vwCl (wd_MD g h0 q0 x0) H → va_D A (wd_MD g h0 q0 x0) → va_S A s.heap H locs → lv_has ls 7 [(0, .ref h0), (1, .int a1), (2, .int a2), (3, .int j3_89), (4, .int j4_89), (5, .int j5_89)] → W p l e rm_MD_isCalled s m args below meth c H locs 0 0 Q (F0 m 89 ls [.int s0_89]) := by
        intro j3_89 j4_89 j5_89 s0_89 H locs ls hm hP hD hS hl
        replace hm := m_MD_isCalled_J89_h hm
        refine lv_istore (lv' := [(6, .int s0_89), (0, .ref h0), (1, .int a1), (2, .int a2), (3, .int j3_89), (4, .int j4_89), (5, .int j5_89)]) hx hb d_MD_isCalled_89 hl (by decide) rfl (fun ls hl => ?_)
        refine lv_iload_n hx hb d_MD_isCalled_91 rfl (lv_at hl 4 rfl) ?_
        refine lv_if_ne (tgt := 112) hx hb d_MD_isCalled_92 (by decide) (fun hc => ?_) (fun hc => ?_)
        · replace hm := if_f hm hc
          refine lv_iconst (v := (1 : Int32)) hx hb d_MD_isCalled_112 (by decide) ?_
          refine lv_goto (tgt := 117) hx hb d_MD_isCalled_113 (by decide) ?_
          refine lv_istore_n (lv' := [(3, .int (1 : Int32)), (6, .int s0_89), (0, .ref h0), (1, .int a1), (2, .int a2), (4, .int j4_89), (5, .int j5_89)]) hx hb d_MD_isCalled_117 rfl hl (by decide) rfl (fun ls hl => ?_)
          refine lv_iinc (v := (j4_89 + (1 : Int32))) (lv' := [(4, .int (j4_89 + (1 : Int32))), (3, .int (1 : Int32)), (6, .int s0_89), (0, .ref h0), (1, .int a1), (2, .int a2), (5, .int j5_89)]) hx hb d_MD_isCalled_118 hl (k := 5) rfl rfl (by decide) rfl (fun ls hl => ?_)
          refine lv_goto (tgt := 5) hx hb d_MD_isCalled_121 (by decide) ?_
          exact ih5 (1 : Int32) (j4_89 + (1 : Int32)) H locs ls hm hP hD hS (lv_sub hl [3, 4, 5, 1, 0] rfl)
        · replace hm := if_t hm hc
          refine lv_iload_n hx hb d_MD_isCalled_95 rfl (lv_at hl 3 rfl) ?_
          refine lv_if_eq (tgt := 107) hx hb d_MD_isCalled_96 (by decide) (fun hc => ?_) (fun hc => ?_)
          · replace hm := if_t hm hc
            refine lv_iload hx hb d_MD_isCalled_107 (lv_at hl 6 rfl) ?_
            refine lv_if_eq (tgt := 116) hx hb d_MD_isCalled_109 (by decide) (fun hc => ?_) (fun hc => ?_)
            · replace hm := if_t hm hc
              refine lv_iconst (v := (0 : Int32)) hx hb d_MD_isCalled_116 (by decide) ?_
              refine lv_istore_n (lv' := [(3, .int (0 : Int32)), (6, .int s0_89), (0, .ref h0), (1, .int a1), (2, .int a2), (4, .int j4_89), (5, .int j5_89)]) hx hb d_MD_isCalled_117 rfl hl (by decide) rfl (fun ls hl => ?_)
              refine lv_iinc (v := (j4_89 + (1 : Int32))) (lv' := [(4, .int (j4_89 + (1 : Int32))), (3, .int (0 : Int32)), (6, .int s0_89), (0, .ref h0), (1, .int a1), (2, .int a2), (5, .int j5_89)]) hx hb d_MD_isCalled_118 hl (k := 5) rfl rfl (by decide) rfl (fun ls hl => ?_)
              refine lv_goto (tgt := 5) hx hb d_MD_isCalled_121 (by decide) ?_
              exact ih5 (0 : Int32) (j4_89 + (1 : Int32)) H locs ls hm hP hD hS (lv_sub hl [3, 4, 5, 1, 0] rfl)
            · replace hm := if_f hm hc
              refine lv_iconst (v := (1 : Int32)) hx hb d_MD_isCalled_112 (by decide) ?_
              refine lv_goto (tgt := 117) hx hb d_MD_isCalled_113 (by decide) ?_
              refine lv_istore_n (lv' := [(3, .int (1 : Int32)), (6, .int s0_89), (0, .ref h0), (1, .int a1), (2, .int a2), (4, .int j4_89), (5, .int j5_89)]) hx hb d_MD_isCalled_117 rfl hl (by decide) rfl (fun ls hl => ?_)
              refine lv_iinc (v := (j4_89 + (1 : Int32))) (lv' := [(4, .int (j4_89 + (1 : Int32))), (3, .int (1 : Int32)), (6, .int s0_89), (0, .ref h0), (1, .int a1), (2, .int a2), (5, .int j5_89)]) hx hb d_MD_isCalled_118 hl (k := 5) rfl rfl (by decide) rfl (fun ls hl => ?_)
              refine lv_goto (tgt := 5) hx hb d_MD_isCalled_121 (by decide) ?_
              exact ih5 (1 : Int32) (j4_89 + (1 : Int32)) H locs ls hm hP hD hS (lv_sub hl [3, 4, 5, 1, 0] rfl)
          · replace hm := if_f hm hc
            refine lv_iload hx hb d_MD_isCalled_99 (lv_at hl 0 rfl) ?_
            refine lv_if_eq (tgt := 116) hx hb d_MD_isCalled_101 (by decide) (fun hc => ?_) (fun hc => ?_)
            · replace hm := if_t hm hc
              refine lv_iconst (v := (0 : Int32)) hx hb d_MD_isCalled_116 (by decide) ?_
              refine lv_istore_n (lv' := [(3, .int (0 : Int32)), (6, .int s0_89), (0, .ref h0), (1, .int a1), (2, .int a2), (4, .int j4_89), (5, .int j5_89)]) hx hb d_MD_isCalled_117 rfl hl (by decide) rfl (fun ls hl => ?_)
              refine lv_iinc (v := (j4_89 + (1 : Int32))) (lv' := [(4, .int (j4_89 + (1 : Int32))), (3, .int (0 : Int32)), (6, .int s0_89), (0, .ref h0), (1, .int a1), (2, .int a2), (5, .int j5_89)]) hx hb d_MD_isCalled_118 hl (k := 5) rfl rfl (by decide) rfl (fun ls hl => ?_)
              refine lv_goto (tgt := 5) hx hb d_MD_isCalled_121 (by decide) ?_
              exact ih5 (0 : Int32) (j4_89 + (1 : Int32)) H locs ls hm hP hD hS (lv_sub hl [3, 4, 5, 1, 0] rfl)
            · replace hm := if_f hm hc
              refine lv_goto (tgt := 112) hx hb d_MD_isCalled_104 (by decide) ?_
              refine lv_iconst (v := (1 : Int32)) hx hb d_MD_isCalled_112 (by decide) ?_
              refine lv_goto (tgt := 117) hx hb d_MD_isCalled_113 (by decide) ?_
              refine lv_istore_n (lv' := [(3, .int (1 : Int32)), (6, .int s0_89), (0, .ref h0), (1, .int a1), (2, .int a2), (4, .int j4_89), (5, .int j5_89)]) hx hb d_MD_isCalled_117 rfl hl (by decide) rfl (fun ls hl => ?_)
              refine lv_iinc (v := (j4_89 + (1 : Int32))) (lv' := [(4, .int (j4_89 + (1 : Int32))), (3, .int (1 : Int32)), (6, .int s0_89), (0, .ref h0), (1, .int a1), (2, .int a2), (5, .int j5_89)]) hx hb d_MD_isCalled_118 hl (k := 5) rfl rfl (by decide) rfl (fun ls hl => ?_)
              refine lv_goto (tgt := 5) hx hb d_MD_isCalled_121 (by decide) ?_
              exact ih5 (1 : Int32) (j4_89 + (1 : Int32)) H locs ls hm hP hD hS (lv_sub hl [3, 4, 5, 1, 0] rfl)
      have J39 : ∀ (j3_39 : Int32) (j4_39 : Int32) (s0_39 : Int32) (H : Heap) (locs : List Loc) (ls : Array Slot), m_MD_isCalled_J39 F a2 x0 (fun v3_5 v4_5 => (ckb v3_5 (some v3_5))) (lq2 (m_MD_isCalled_B5 F x0 a1 a2 (fun v3_5 v4_5 => (ckb v3_5 (some v3_5)))) n5) j3_39 j4_39 s0_39 = some o → va_P (dC, dI) vwCl (wd_MD g h0 q0 x0) H → va_D A (wd_MD g h0 q0 x0) → va_S A s.heap H locs → lv_has ls 7 [(0, .ref h0), (1, .int a1), (2, .int a2), (3, .int j3_39), (4, .int j4_39)] → W p l e rm_MD_isCalled s m args below meth c H locs 0 0 Q (F0 m 39 ls [.int s0_39]) := by
        intro j3_39 j4_39 s0_39 H locs ls hm hP hD hS hl
        replace hm := m_MD_isCalled_J39_h hm
        refine lv_istore (lv' := [(5, .int s0_39), (0, .ref h0), (1, .int a1), (2, .int a2), (3, .int j3_39), (4, .int j4_39)]) hx hb d_MD_isCalled_39 hl (by decide) rfl (fun ls hl => ?_)
        refine lv_iload hx hb d_MD_isCalled_41 (lv_at hl 0 rfl) ?_
        refine lv_if_eq (tgt := 88) hx hb d_MD_isCalled_43 (by decide) (fun hc => ?_) (fun hc => ?_)
        · replace hm := if_t hm hc
          refine lv_iconst (v := (0 : Int32)) hx hb d_MD_isCalled_88 (by decide) ?_
          exact J89 j3_39 j4_39 s0_39 (0 : Int32) H locs ls hm hP hD hS (lv_sub hl [1, 2, 3, 4, 5, 0] rfl)
        · replace hm := if_f hm hc
          refine lv_aload_n hx hb d_MD_isCalled_46 rfl (lv_at hl 1 rfl) ?_
          refine lv_aload_n hx hb d_MD_isCalled_47 rfl (lv_at hl 1 rfl) ?_
          refine va_get (D := (dC, dI)) (ci := 10) (v := .ref (q0 29)) (C := "AlarmMatrixModel") (T := T_MD) (N := 42) hx hb hts i_MD hown hK hP 0 rfl rfl 29 (by decide) (hts _ k5_49) (fun _ h9 => h9) rfl d_MD_isCalled_48 ?_
          refine lv_iload hx hb d_MD_isCalled_51 (lv_at hl 5 rfl) ?_
          obtain ⟨h_53, hm⟩ := ck_s hm
          refine va_iald (f := (x0 29)) hx hb hK hP 21 0 rfl rfl h_53 d_MD_isCalled_53 ?_
          obtain ⟨r54, hcl, hm⟩ := bn1_s hm
          refine kci (wc := wd_MD g h0 q0 x0) (wr := ([] : va_W)) (w1 := wd_MD g h0 q0 x0) hP hD hS hA [0, 1, 2, 3, 4, 5, 6, 7, 8, 9, 10, 11, 12, 13, 14, 15, 16, 17, 18, 19, 20, 21, 22, 23, 24, 25, 26, 27, 28, 29, 30, 31] [] rfl rfl (by decide) (by decide) (va_runV (As := [.int ((x0 29) j4_39.toNatClampNeg)]) (rest := []) ⟨hx, hb, hml, hown, hts⟩ (c_MD_isSure hG hGn l dC dI g F H.size h0 q0 x0 ((x0 29) j4_39.toNatClampNeg) hcl) (cwV 1 hts (gdV k6_109 k6_111 kp_53 k1_10 k6_112) rfl rfl rfl (by decide +kernel) ⟨Nat.le_of_ble_eq_true rfl, Nat.le_of_ble_eq_true rfl⟩) (kpV hG hP hK hD hS hA hGA [0, 1, 2, 3, 4, 5, 6, 7, 8, 9, 10, 11, 12, 13, 14, 15, 16, 17, 18, 19, 20, 21, 22, 23, 24, 25, 26, 27, 28, 29, 30, 31] (by decide) rfl (ci := 10) (q0 := 0) rfl rfl rfl) rfl rfl hl.1 rfl (lv_room (Nat.le_of_ble_eq_true rfl)) d_MD_isCalled_54 ⟨Nat.le_of_ble_eq_true rfl, Nat.le_of_ble_eq_true rfl⟩) (fun H locs hP hD hS => ?_)
          have hP : va_P (dC, dI) vwCl (wd_MD g h0 q0 x0) H := hP
          have hD : va_D A (wd_MD g h0 q0 x0) := hD
          refine lv_if_ne (tgt := 84) hx hb d_MD_isCalled_57 (by decide) (fun hc => ?_) (fun hc => ?_)
          · replace hm := if_f hm hc
            refine lv_iconst (v := (1 : Int32)) hx hb d_MD_isCalled_84 (by decide) ?_
            refine lv_goto (tgt := 89) hx hb d_MD_isCalled_85 (by decide) ?_
            exact J89 j3_39 j4_39 s0_39 (1 : Int32) H locs ls hm hP hD hS (lv_sub hl [1, 2, 3, 4, 5, 0] rfl)
          · replace hm := if_t hm hc
            refine lv_aload_n hx hb d_MD_isCalled_60 rfl (lv_at hl 1 rfl) ?_
            refine va_get (D := (dC, dI)) (ci := 10) (v := .ref (q0 30)) (C := "AlarmMatrixModel") (T := T_MD) (N := 42) hx hb hts i_MD hown hK hP 0 rfl rfl 30 (by decide) (hts _ k5_50) (fun _ h9 => h9) rfl d_MD_isCalled_61 ?_
            refine lv_iload hx hb d_MD_isCalled_64 (lv_at hl 5 rfl) ?_
            obtain ⟨h_66, hm⟩ := ck_s hm
            refine va_iald (f := (x0 30)) hx hb hK hP 22 0 rfl rfl h_66 d_MD_isCalled_66 ?_
            refine lv_if_lt (tgt := 88) hx hb d_MD_isCalled_67 (by decide) (fun hc => ?_) (fun hc => ?_)
            · replace hm := if_t hm hc
              refine lv_iconst (v := (0 : Int32)) hx hb d_MD_isCalled_88 (by decide) ?_
              exact J89 j3_39 j4_39 s0_39 (0 : Int32) H locs ls hm hP hD hS (lv_sub hl [1, 2, 3, 4, 5, 0] rfl)
            · replace hm := if_f hm hc
              refine lv_aload_n hx hb d_MD_isCalled_70 rfl (lv_at hl 1 rfl) ?_
              refine lv_aload_n hx hb d_MD_isCalled_71 rfl (lv_at hl 1 rfl) ?_
              refine va_get (D := (dC, dI)) (ci := 10) (v := .ref (q0 30)) (C := "AlarmMatrixModel") (T := T_MD) (N := 42) hx hb hts i_MD hown hK hP 0 rfl rfl 30 (by decide) (hts _ k5_50) (fun _ h9 => h9) rfl d_MD_isCalled_72 ?_
              refine lv_iload hx hb d_MD_isCalled_75 (lv_at hl 5 rfl) ?_
              obtain ⟨h_77, hm⟩ := ck_s hm
              refine va_iald (f := (x0 30)) hx hb hK hP 22 0 rfl rfl h_77 d_MD_isCalled_77 ?_
              obtain ⟨r78, hcl, hm⟩ := bn1_s hm
              refine kci (wc := wd_MD g h0 q0 x0) (wr := ([] : va_W)) (w1 := wd_MD g h0 q0 x0) hP hD hS hA [0, 1, 2, 3, 4, 5, 6, 7, 8, 9, 10, 11, 12, 13, 14, 15, 16, 17, 18, 19, 20, 21, 22, 23, 24, 25, 26, 27, 28, 29, 30, 31] [] rfl rfl (by decide) (by decide) (va_runV (As := [.int ((x0 30) j4_39.toNatClampNeg)]) (rest := []) ⟨hx, hb, hml, hown, hts⟩ (c_MD_isSure hG hGn l dC dI g F H.size h0 q0 x0 ((x0 30) j4_39.toNatClampNeg) hcl) (cwV 1 hts (gdV k6_109 k6_111 kp_53 k1_10 k6_112) rfl rfl rfl (by decide +kernel) ⟨Nat.le_of_ble_eq_true rfl, Nat.le_of_ble_eq_true rfl⟩) (kpV hG hP hK hD hS hA hGA [0, 1, 2, 3, 4, 5, 6, 7, 8, 9, 10, 11, 12, 13, 14, 15, 16, 17, 18, 19, 20, 21, 22, 23, 24, 25, 26, 27, 28, 29, 30, 31] (by decide) rfl (ci := 10) (q0 := 0) rfl rfl rfl) rfl rfl hl.1 rfl (lv_room (Nat.le_of_ble_eq_true rfl)) d_MD_isCalled_78 ⟨Nat.le_of_ble_eq_true rfl, Nat.le_of_ble_eq_true rfl⟩) (fun H locs hP hD hS => ?_)
              have hP : va_P (dC, dI) vwCl (wd_MD g h0 q0 x0) H := hP
              have hD : va_D A (wd_MD g h0 q0 x0) := hD
              refine lv_if_eq (tgt := 88) hx hb d_MD_isCalled_81 (by decide) (fun hc => ?_) (fun hc => ?_)
              · replace hm := if_t hm hc
                refine lv_iconst (v := (0 : Int32)) hx hb d_MD_isCalled_88 (by decide) ?_
                exact J89 j3_39 j4_39 s0_39 (0 : Int32) H locs ls hm hP hD hS (lv_sub hl [1, 2, 3, 4, 5, 0] rfl)
              · replace hm := if_f hm hc
                refine lv_iconst (v := (1 : Int32)) hx hb d_MD_isCalled_84 (by decide) ?_
                refine lv_goto (tgt := 89) hx hb d_MD_isCalled_85 (by decide) ?_
                exact J89 j3_39 j4_39 s0_39 (1 : Int32) H locs ls hm hP hD hS (lv_sub hl [1, 2, 3, 4, 5, 0] rfl)
      refine lv_iload hx hb d_MD_isCalled_5 (lv_at hl 4 rfl) ?_
      refine lv_aload_n hx hb d_MD_isCalled_7 rfl (lv_at hl 0 rfl) ?_
      refine va_get (D := (dC, dI)) (ci := 10) (v := .int (x0 27 0)) (C := "AlarmMatrixModel") (T := T_MD) (N := 42) hx hb hts i_MD hown hK hP 0 rfl rfl 27 (by decide) (hts _ k5_47) (fun _ h9 => h9) rfl d_MD_isCalled_8 ?_
      refine lv_icmp_ge (tgt := 124) hx hb d_MD_isCalled_11 (by decide) (fun hc => ?_) (fun hc => ?_)
      · replace hm := if_t hm hc
        refine lv_iload_n hx hb d_MD_isCalled_124 rfl (lv_at hl 3 rfl) ?_
        obtain ⟨hz, hm⟩ := ckb_s hm
        obtain rfl := Option.some.inj hm
        rw [hQ]
        exact krz hx hb hr hz hlocks hAe hP hK hD hS d_MD_isCalled_125
      · replace hm := if_f hm hc
        refine lv_aload_n hx hb d_MD_isCalled_14 rfl (lv_at hl 0 rfl) ?_
        refine va_get (D := (dC, dI)) (ci := 10) (v := .ref (q0 31)) (C := "AlarmMatrixModel") (T := T_MD) (N := 42) hx hb hts i_MD hown hK hP 0 rfl rfl 31 (by decide) (hts _ k5_51) (fun _ h9 => h9) rfl d_MD_isCalled_15 ?_
        refine lv_iload hx hb d_MD_isCalled_18 (lv_at hl 4 rfl) ?_
        obtain ⟨h_20, hm⟩ := ck_s hm
        refine va_iald (f := (x0 31)) hx hb hK hP 23 0 rfl rfl h_20 d_MD_isCalled_20 ?_
        refine lv_iload_n hx hb d_MD_isCalled_21 rfl (lv_at hl 1 rfl) ?_
        refine lv_icmp_ne (tgt := 38) hx hb d_MD_isCalled_22 (by decide) (fun hc => ?_) (fun hc => ?_)
        · replace hm := if_f hm hc
          refine lv_iconst (v := (0 : Int32)) hx hb d_MD_isCalled_38 (by decide) ?_
          exact J39 v3_5 v4_5 (0 : Int32) H locs ls hm hP hD hS (lv_sub hl [0, 1, 2, 3, 4] rfl)
        · replace hm := if_t hm hc
          refine lv_aload_n hx hb d_MD_isCalled_25 rfl (lv_at hl 0 rfl) ?_
          refine lv_iload hx hb d_MD_isCalled_26 (lv_at hl 4 rfl) ?_
          obtain ⟨r28, hcl, hm⟩ := bn1_s hm
          refine kci (wc := wd_MD g h0 q0 x0) (wr := ([] : va_W)) (w1 := wd_MD g h0 q0 x0) hP hD hS hA [0, 1, 2, 3, 4, 5, 6, 7, 8, 9, 10, 11, 12, 13, 14, 15, 16, 17, 18, 19, 20, 21, 22, 23, 24, 25, 26, 27, 28, 29, 30, 31] [] rfl rfl (by decide) (by decide) (va_runV (As := [.int v4_5]) (rest := []) ⟨hx, hb, hml, hown, hts⟩ (c_MD_isMet hG hGn l dC dI g F H.size h0 q0 x0 v4_5 hcl) (cwV 1 hts (gdV k6_93 k6_95 kp_49 k1_10 k6_96) rfl rfl rfl (by decide +kernel) ⟨Nat.le_of_ble_eq_true rfl, Nat.le_of_ble_eq_true rfl⟩) (kpV hG hP hK hD hS hA hGA [0, 1, 2, 3, 4, 5, 6, 7, 8, 9, 10, 11, 12, 13, 14, 15, 16, 17, 18, 19, 20, 21, 22, 23, 24, 25, 26, 27, 28, 29, 30, 31] (by decide) rfl (ci := 10) (q0 := 0) rfl rfl rfl) rfl rfl hl.1 rfl (lv_room (Nat.le_of_ble_eq_true rfl)) d_MD_isCalled_28 ⟨Nat.le_of_ble_eq_true rfl, Nat.le_of_ble_eq_true rfl⟩) (fun H locs hP hD hS => ?_)
          have hP : va_P (dC, dI) vwCl (wd_MD g h0 q0 x0) H := hP
          have hD : va_D A (wd_MD g h0 q0 x0) := hD
          refine lv_if_eq (tgt := 38) hx hb d_MD_isCalled_31 (by decide) (fun hc => ?_) (fun hc => ?_)
          · replace hm := if_t hm hc
            refine lv_iconst (v := (0 : Int32)) hx hb d_MD_isCalled_38 (by decide) ?_
            exact J39 v3_5 v4_5 (0 : Int32) H locs ls hm hP hD hS (lv_sub hl [0, 1, 2, 3, 4] rfl)
          · replace hm := if_f hm hc
            refine lv_iconst (v := (1 : Int32)) hx hb d_MD_isCalled_34 (by decide) ?_
            refine lv_goto (tgt := 39) hx hb d_MD_isCalled_35 (by decide) ?_
            exact J39 v3_5 v4_5 (1 : Int32) H locs ls hm hP hD hS (lv_sub hl [0, 1, 2, 3, 4] rfl)
  exact L5 F (0 : Int32) (0 : Int32) H locs ls hm hP hD hS (lv_sub hl [2, 3, 4, 1, 0] rfl)
abbrev b_MD_tell : ByteArray := prog_12_method_49_code
abbrev y_MD_tell : MethodName := ⟨"AlarmMatrixModel", "tell", "(II)V"⟩
theorem d_MD_tell_0 : decode b_MD_tell 0 = .ok (.aload_n 0, 1) := by decide +kernel
theorem d_MD_tell_1 : decode b_MD_tell 1 = .ok (.getfield 255, 3) := by decide +kernel
theorem d_MD_tell_4 : decode b_MD_tell 4 = .ok (.bipush 60, 2) := by decide +kernel
theorem d_MD_tell_6 : decode b_MD_tell 6 = .ok (.if_icmp .ne 69, 3) := by decide +kernel
theorem d_MD_tell_9 : decode b_MD_tell 9 = .ok (.iconst 1, 1) := by decide +kernel
theorem d_MD_tell_10 : decode b_MD_tell 10 = .ok (.istore_n 3, 1) := by decide +kernel
theorem d_MD_tell_11 : decode b_MD_tell 11 = .ok (.iload_n 3, 1) := by decide +kernel
theorem d_MD_tell_12 : decode b_MD_tell 12 = .ok (.bipush 60, 2) := by decide +kernel
theorem d_MD_tell_14 : decode b_MD_tell 14 = .ok (.if_icmp .ge 51, 3) := by decide +kernel
theorem d_MD_tell_17 : decode b_MD_tell 17 = .ok (.aload_n 0, 1) := by decide +kernel
theorem d_MD_tell_18 : decode b_MD_tell 18 = .ok (.getfield 92, 3) := by decide +kernel
theorem d_MD_tell_21 : decode b_MD_tell 21 = .ok (.iload_n 3, 1) := by decide +kernel
theorem d_MD_tell_22 : decode b_MD_tell 22 = .ok (.iconst 1, 1) := by decide +kernel
theorem d_MD_tell_23 : decode b_MD_tell 23 = .ok (.isub, 1) := by decide +kernel
theorem d_MD_tell_24 : decode b_MD_tell 24 = .ok (.aload_n 0, 1) := by decide +kernel
theorem d_MD_tell_25 : decode b_MD_tell 25 = .ok (.getfield 92, 3) := by decide +kernel
theorem d_MD_tell_28 : decode b_MD_tell 28 = .ok (.iload_n 3, 1) := by decide +kernel
theorem d_MD_tell_29 : decode b_MD_tell 29 = .ok (.iaload, 1) := by decide +kernel
theorem d_MD_tell_30 : decode b_MD_tell 30 = .ok (.iastore, 1) := by decide +kernel
theorem d_MD_tell_31 : decode b_MD_tell 31 = .ok (.aload_n 0, 1) := by decide +kernel
theorem d_MD_tell_32 : decode b_MD_tell 32 = .ok (.getfield 95, 3) := by decide +kernel
theorem d_MD_tell_35 : decode b_MD_tell 35 = .ok (.iload_n 3, 1) := by decide +kernel
theorem d_MD_tell_36 : decode b_MD_tell 36 = .ok (.iconst 1, 1) := by decide +kernel
theorem d_MD_tell_37 : decode b_MD_tell 37 = .ok (.isub, 1) := by decide +kernel
theorem d_MD_tell_38 : decode b_MD_tell 38 = .ok (.aload_n 0, 1) := by decide +kernel
theorem d_MD_tell_39 : decode b_MD_tell 39 = .ok (.getfield 95, 3) := by decide +kernel
theorem d_MD_tell_42 : decode b_MD_tell 42 = .ok (.iload_n 3, 1) := by decide +kernel
theorem d_MD_tell_43 : decode b_MD_tell 43 = .ok (.iaload, 1) := by decide +kernel
theorem d_MD_tell_44 : decode b_MD_tell 44 = .ok (.iastore, 1) := by decide +kernel
theorem d_MD_tell_45 : decode b_MD_tell 45 = .ok (.aload_n 0, 1) := by decide +kernel
theorem d_MD_tell_46 : decode b_MD_tell 46 = .ok (.getfield 98, 3) := by decide +kernel
theorem d_MD_tell_49 : decode b_MD_tell 49 = .ok (.iload_n 3, 1) := by decide +kernel
theorem d_MD_tell_50 : decode b_MD_tell 50 = .ok (.iconst 1, 1) := by decide +kernel
theorem d_MD_tell_51 : decode b_MD_tell 51 = .ok (.isub, 1) := by decide +kernel
theorem d_MD_tell_52 : decode b_MD_tell 52 = .ok (.aload_n 0, 1) := by decide +kernel
theorem d_MD_tell_53 : decode b_MD_tell 53 = .ok (.getfield 98, 3) := by decide +kernel
theorem d_MD_tell_56 : decode b_MD_tell 56 = .ok (.iload_n 3, 1) := by decide +kernel
theorem d_MD_tell_57 : decode b_MD_tell 57 = .ok (.iaload, 1) := by decide +kernel
theorem d_MD_tell_58 : decode b_MD_tell 58 = .ok (.iastore, 1) := by decide +kernel
theorem d_MD_tell_59 : decode b_MD_tell 59 = .ok (.iinc 3 1, 3) := by decide +kernel
theorem d_MD_tell_62 : decode b_MD_tell 62 = .ok (.goto (-51), 3) := by decide +kernel
theorem d_MD_tell_65 : decode b_MD_tell 65 = .ok (.aload_n 0, 1) := by decide +kernel
theorem d_MD_tell_66 : decode b_MD_tell 66 = .ok (.dup, 1) := by decide +kernel
theorem d_MD_tell_67 : decode b_MD_tell 67 = .ok (.getfield 255, 3) := by decide +kernel
theorem d_MD_tell_70 : decode b_MD_tell 70 = .ok (.iconst 1, 1) := by decide +kernel
theorem d_MD_tell_71 : decode b_MD_tell 71 = .ok (.isub, 1) := by decide +kernel
theorem d_MD_tell_72 : decode b_MD_tell 72 = .ok (.putfield 255, 3) := by decide +kernel
theorem d_MD_tell_75 : decode b_MD_tell 75 = .ok (.aload_n 0, 1) := by decide +kernel
theorem d_MD_tell_76 : decode b_MD_tell 76 = .ok (.getfield 92, 3) := by decide +kernel
theorem d_MD_tell_79 : decode b_MD_tell 79 = .ok (.aload_n 0, 1) := by decide +kernel
theorem d_MD_tell_80 : decode b_MD_tell 80 = .ok (.getfield 255, 3) := by decide +kernel
theorem d_MD_tell_83 : decode b_MD_tell 83 = .ok (.aload_n 0, 1) := by decide +kernel
theorem d_MD_tell_84 : decode b_MD_tell 84 = .ok (.getfield 236, 3) := by decide +kernel
theorem d_MD_tell_87 : decode b_MD_tell 87 = .ok (.iastore, 1) := by decide +kernel
theorem d_MD_tell_88 : decode b_MD_tell 88 = .ok (.aload_n 0, 1) := by decide +kernel
theorem d_MD_tell_89 : decode b_MD_tell 89 = .ok (.getfield 95, 3) := by decide +kernel
theorem d_MD_tell_92 : decode b_MD_tell 92 = .ok (.aload_n 0, 1) := by decide +kernel
theorem d_MD_tell_93 : decode b_MD_tell 93 = .ok (.getfield 255, 3) := by decide +kernel
theorem d_MD_tell_96 : decode b_MD_tell 96 = .ok (.iload_n 1, 1) := by decide +kernel
theorem d_MD_tell_97 : decode b_MD_tell 97 = .ok (.iastore, 1) := by decide +kernel
theorem d_MD_tell_98 : decode b_MD_tell 98 = .ok (.aload_n 0, 1) := by decide +kernel
theorem d_MD_tell_99 : decode b_MD_tell 99 = .ok (.getfield 98, 3) := by decide +kernel
theorem d_MD_tell_102 : decode b_MD_tell 102 = .ok (.aload_n 0, 1) := by decide +kernel
theorem d_MD_tell_103 : decode b_MD_tell 103 = .ok (.getfield 255, 3) := by decide +kernel
theorem d_MD_tell_106 : decode b_MD_tell 106 = .ok (.iload_n 2, 1) := by decide +kernel
theorem d_MD_tell_107 : decode b_MD_tell 107 = .ok (.iastore, 1) := by decide +kernel
theorem d_MD_tell_108 : decode b_MD_tell 108 = .ok (.aload_n 0, 1) := by decide +kernel
theorem d_MD_tell_109 : decode b_MD_tell 109 = .ok (.dup, 1) := by decide +kernel
theorem d_MD_tell_110 : decode b_MD_tell 110 = .ok (.getfield 255, 3) := by decide +kernel
theorem d_MD_tell_113 : decode b_MD_tell 113 = .ok (.iconst 1, 1) := by decide +kernel
theorem d_MD_tell_114 : decode b_MD_tell 114 = .ok (.iadd, 1) := by decide +kernel
theorem d_MD_tell_115 : decode b_MD_tell 115 = .ok (.putfield 255, 3) := by decide +kernel
theorem d_MD_tell_118 : decode b_MD_tell 118 = .ok (.return_, 1) := by decide +kernel
def m_MD_tell_B11 {R : Type} (F : Nat)  (k11_65 : Int32 → St → Option R) (rec11 : Int32 → St → Option R) (v3_11 : Int32) (y0_11 : St) : Option R :=
  (if (60 : Int32) ≤ v3_11 then (k11_65 v3_11 y0_11) else (ck v3_11 60 (ck (v3_11 - (1 : Int32)) 60 (lz (st y0_11 37 (upd (y0_11 37) (v3_11 - (1 : Int32)).toNatClampNeg ((y0_11 37) v3_11.toNatClampNeg))) (fun e0_30 => (ck v3_11 60 (ck (v3_11 - (1 : Int32)) 60 (lz (st e0_30 38 (upd (e0_30 38) (v3_11 - (1 : Int32)).toNatClampNeg ((e0_30 38) v3_11.toNatClampNeg))) (fun e0_44 => (ck v3_11 60 (ck (v3_11 - (1 : Int32)) 60 (lz (st e0_44 39 (upd (e0_44 39) (v3_11 - (1 : Int32)).toNatClampNeg ((e0_44 39) v3_11.toNatClampNeg))) (fun e0_58 => (rec11 (v3_11 + (1 : Int32)) e0_58))))))))))))))
theorem m_MD_tell_B11_h {R : Type} {F : Nat}  {k11_65 : Int32 → St → Option R} {rec11 : Int32 → St → Option R} {v3_11 : Int32} {y0_11 : St} {o : R} (h : m_MD_tell_B11 F k11_65 rec11 v3_11 y0_11 = some o) :
  (if (60 : Int32) ≤ v3_11 then (k11_65 v3_11 y0_11) else (ck v3_11 60 (ck (v3_11 - (1 : Int32)) 60 (lz (st y0_11 37 (upd (y0_11 37) (v3_11 - (1 : Int32)).toNatClampNeg ((y0_11 37) v3_11.toNatClampNeg))) (fun e0_30 => (ck v3_11 60 (ck (v3_11 - (1 : Int32)) 60 (lz (st e0_30 38 (upd (e0_30 38) (v3_11 - (1 : Int32)).toNatClampNeg ((e0_30 38) v3_11.toNatClampNeg))) (fun e0_44 => (ck v3_11 60 (ck (v3_11 - (1 : Int32)) 60 (lz (st e0_44 39 (upd (e0_44 39) (v3_11 - (1 : Int32)).toNatClampNeg ((e0_44 39) v3_11.toNatClampNeg))) (fun e0_58 => (rec11 (v3_11 + (1 : Int32)) e0_58)))))))))))))) = some o := h
def m_MD_tell (F : Nat) (x0 : St) (a1 : Int32) (a2 : Int32) : Option (St) :=
  (if (x0 36 0) = (60 : Int32) then (lq2 (m_MD_tell_B11 F  (fun v3_11 y0_11 => (lz (sc y0_11 36 ((y0_11 36 0) - (1 : Int32))) (fun e0_72 => (ck (e0_72 36 0) 60 (lz (st e0_72 37 (upd (e0_72 37) (e0_72 36 0).toNatClampNeg (e0_72 2 0))) (fun e0_87 => (ck (e0_87 36 0) 60 (lz (st e0_87 38 (upd (e0_87 38) (e0_87 36 0).toNatClampNeg a1)) (fun e0_97 => (ck (e0_97 36 0) 60 (lz (st e0_97 39 (upd (e0_97 39) (e0_97 36 0).toNatClampNeg a2)) (fun e0_107 => (lz (sc e0_107 36 ((e0_107 36 0) + (1 : Int32))) (fun e0_115 => (some e0_115)))))))))))))))) F (1 : Int32) x0) else (ck (x0 36 0) 60 (lz (st x0 37 (upd (x0 37) (x0 36 0).toNatClampNeg (x0 2 0))) (fun e0_87 => (ck (e0_87 36 0) 60 (lz (st e0_87 38 (upd (e0_87 38) (e0_87 36 0).toNatClampNeg a1)) (fun e0_97 => (ck (e0_97 36 0) 60 (lz (st e0_97 39 (upd (e0_97 39) (e0_97 36 0).toNatClampNeg a2)) (fun e0_107 => (lz (sc e0_107 36 ((e0_107 36 0) + (1 : Int32))) (fun e0_115 => (some e0_115)))))))))))))
abbrev rm_MD_tell : Room := { frames := 0, cells := 0, slots := 0, locals := 0 }
set_option maxHeartbeats 4000000 in
set_option maxRecDepth 100000 in
theorem c_MD_tell {G : (Nat → Prop) → State → Prop} (hG : gok G) (hGn : gN G) (l : Launch) (dC : Nat → ClassId) (dI : Nat → Nat → Nat) (g : Nat → ClassId) (F : Nat) (sz : Nat) (h0 : Nat) (q0 : Nat → Nat) (x0 : St) (a1 : Int32) (a2 : Int32) {o : St} (hm : m_MD_tell F x0 a1 a2 = some o) : Met l y_MD_tell (.code y_MD_tell b_MD_tell 4 none :: gw) rm_MD_tell (kq (dC, dI) vwCl (tyv g) G [.ref h0, .int a1, .int a2] sz (wd_MD g h0 q0 x0)) (kqv (dC, dI) vwCl (tyv g) (wd_MD g h0 q0 x0) (wd_MD g h0 q0 o) sz) 0 0 (va_A (wd_MD g h0 q0 x0) sz) := by
  unfold m_MD_tell at hm
  refine km (Qc := fun sz => kqv (dC, dI) vwCl (tyv g) (wd_MD g h0 q0 x0) (wd_MD g h0 q0 o) sz) (cc := b_MD_tell) (maxL := 4) (ret := none) (by decide) rfl (Nat.le_of_ble_eq_true rfl) ?_
  intro p e s m args below meth c Q hQ hx hb hr hts hown hlocks hml hnm H locs A hAe hA hP hK hD hS hGA ls hl
  have hl : lv_has ls 4 [(0, .ref h0), (1, .int a1), (2, .int a2)] := hl
  have hts : ∀ w ∈ gw, w.before args s = true := fun w h => hts w (List.mem_cons_of_mem _ h)
  have hown : s.vm.findClass "AlarmMatrixModel" = some m.cls := hown
  refine lv_aload_n hx hb d_MD_tell_0 rfl (lv_at hl 0 rfl) ?_
  refine va_get (D := (dC, dI)) (ci := 10) (v := .int (x0 36 0)) (C := "AlarmMatrixModel") (T := T_MD) (N := 42) hx hb hts i_MD hown hK hP 0 rfl rfl 36 (by decide) (hts _ k5_56) (fun _ h9 => h9) rfl d_MD_tell_1 ?_
  refine lv_bipush (v := (60 : Int32)) hx hb d_MD_tell_4 (by decide) ?_
  refine lv_icmp_ne (tgt := 75) hx hb d_MD_tell_6 (by decide) (fun hc => ?_) (fun hc => ?_)
  · replace hm := if_f hm hc
    refine lv_aload_n hx hb d_MD_tell_75 rfl (lv_at hl 0 rfl) ?_
    refine va_get (D := (dC, dI)) (ci := 10) (v := .ref (q0 37)) (C := "AlarmMatrixModel") (T := T_MD) (N := 42) hx hb hts i_MD hown hK hP 0 rfl rfl 37 (by decide) (hts _ k5_57) (fun _ h9 => h9) rfl d_MD_tell_76 ?_
    refine lv_aload_n hx hb d_MD_tell_79 rfl (lv_at hl 0 rfl) ?_
    refine va_get (D := (dC, dI)) (ci := 10) (v := .int (x0 36 0)) (C := "AlarmMatrixModel") (T := T_MD) (N := 42) hx hb hts i_MD hown hK hP 0 rfl rfl 36 (by decide) (hts _ k5_56) (fun _ h9 => h9) rfl d_MD_tell_80 ?_
    refine lv_aload_n hx hb d_MD_tell_83 rfl (lv_at hl 0 rfl) ?_
    refine va_get (D := (dC, dI)) (ci := 10) (v := .int (x0 2 0)) (C := "AlarmMatrixModel") (T := T_MD) (N := 42) hx hb hts i_MD hown hK hP 0 rfl rfl 2 (by decide) (hts _ k5_22) (fun _ h9 => h9) rfl d_MD_tell_84 ?_
    obtain ⟨h_87, hm⟩ := ck_s hm
    obtain ⟨e0_87, he, hm⟩ := lz_s hm
    refine va_iast (f := (x0 37)) hx hb hK hP hD hS 28 0 rfl rfl h_87 d_MD_tell_87 (fun H locs hP hD hS => ?_)
    have hP : va_P (dC, dI) vwCl (wd_MD g h0 q0 e0_87) H := by rw [he]; exact hP
    have hD : va_D A (wd_MD g h0 q0 e0_87) := by rw [he]; exact hD
    refine lv_aload_n hx hb d_MD_tell_88 rfl (lv_at hl 0 rfl) ?_
    refine va_get (D := (dC, dI)) (ci := 10) (v := .ref (q0 38)) (C := "AlarmMatrixModel") (T := T_MD) (N := 42) hx hb hts i_MD hown hK hP 0 rfl rfl 38 (by decide) (hts _ k5_58) (fun _ h9 => h9) rfl d_MD_tell_89 ?_
    refine lv_aload_n hx hb d_MD_tell_92 rfl (lv_at hl 0 rfl) ?_
    refine va_get (D := (dC, dI)) (ci := 10) (v := .int (e0_87 36 0)) (C := "AlarmMatrixModel") (T := T_MD) (N := 42) hx hb hts i_MD hown hK hP 0 rfl rfl 36 (by decide) (hts _ k5_56) (fun _ h9 => h9) rfl d_MD_tell_93 ?_
    refine lv_iload_n hx hb d_MD_tell_96 rfl (lv_at hl 1 rfl) ?_
    obtain ⟨h_97, hm⟩ := ck_s hm
    obtain ⟨e0_97, he, hm⟩ := lz_s hm
    refine va_iast (f := (e0_87 38)) hx hb hK hP hD hS 29 0 rfl rfl h_97 d_MD_tell_97 (fun H locs hP hD hS => ?_)
    have hP : va_P (dC, dI) vwCl (wd_MD g h0 q0 e0_97) H := by rw [he]; exact hP
    have hD : va_D A (wd_MD g h0 q0 e0_97) := by rw [he]; exact hD
    refine lv_aload_n hx hb d_MD_tell_98 rfl (lv_at hl 0 rfl) ?_
    refine va_get (D := (dC, dI)) (ci := 10) (v := .ref (q0 39)) (C := "AlarmMatrixModel") (T := T_MD) (N := 42) hx hb hts i_MD hown hK hP 0 rfl rfl 39 (by decide) (hts _ k5_59) (fun _ h9 => h9) rfl d_MD_tell_99 ?_
    refine lv_aload_n hx hb d_MD_tell_102 rfl (lv_at hl 0 rfl) ?_
    refine va_get (D := (dC, dI)) (ci := 10) (v := .int (e0_97 36 0)) (C := "AlarmMatrixModel") (T := T_MD) (N := 42) hx hb hts i_MD hown hK hP 0 rfl rfl 36 (by decide) (hts _ k5_56) (fun _ h9 => h9) rfl d_MD_tell_103 ?_
    refine lv_iload_n hx hb d_MD_tell_106 rfl (lv_at hl 2 rfl) ?_
    obtain ⟨h_107, hm⟩ := ck_s hm
    obtain ⟨e0_107, he, hm⟩ := lz_s hm
    refine va_iast (f := (e0_97 39)) hx hb hK hP hD hS 30 0 rfl rfl h_107 d_MD_tell_107 (fun H locs hP hD hS => ?_)
    have hP : va_P (dC, dI) vwCl (wd_MD g h0 q0 e0_107) H := by rw [he]; exact hP
    have hD : va_D A (wd_MD g h0 q0 e0_107) := by rw [he]; exact hD
    refine lv_aload_n hx hb d_MD_tell_108 rfl (lv_at hl 0 rfl) ?_
    refine lv_dup hx hb d_MD_tell_109 rfl ?_
    refine va_get (D := (dC, dI)) (ci := 10) (v := .int (e0_107 36 0)) (C := "AlarmMatrixModel") (T := T_MD) (N := 42) hx hb hts i_MD hown hK hP 0 rfl rfl 36 (by decide) (hts _ k5_56) (fun _ h9 => h9) rfl d_MD_tell_110 ?_
    refine lv_iconst (v := (1 : Int32)) hx hb d_MD_tell_113 (by decide) ?_
    refine lv_iadd hx hb d_MD_tell_114 ?_
    obtain ⟨e0_115, he, hm⟩ := lz_s hm
    refine va_put (D := (dC, dI)) (ci := 10) (v := .int ((e0_107 36 0) + (1 : Int32))) (ty := .int) (C := "AlarmMatrixModel") (T := T_MD) (N := 42) hx hb hts i_MD t_MD o_MD n_MD hown hK hP hD hS 0 rfl rfl 36 (by decide) (hts _ k5_56) (fun _ h9 => h9) rfl (by decide +kernel) rfl rfl (Nat.le_of_ble_eq_true rfl) d_MD_tell_115 (fun H locs hP hD hS => ?_)
    have hP : va_P (dC, dI) vwCl (wd_MD g h0 q0 e0_115) H := by rw [he]; exact hP
    have hD : va_D A (wd_MD g h0 q0 e0_115) := by rw [he]; exact hD
    obtain rfl := Option.some.inj hm
    rw [hQ]
    exact krv hx hb hr hlocks hAe hP hK hD hS d_MD_tell_118
  · replace hm := if_t hm hc
    refine lv_iconst (v := (1 : Int32)) hx hb d_MD_tell_9 (by decide) ?_
    refine lv_istore_n (lv' := [(3, .int (1 : Int32)), (0, .ref h0), (1, .int a1), (2, .int a2)]) hx hb d_MD_tell_10 rfl hl (by decide) rfl (fun ls hl => ?_)
    have L11 : ∀ (n11 : Nat) (v3_11 : Int32) (y0_11 : St) (H : Heap) (locs : List Loc) (ls : Array Slot), lq2 (m_MD_tell_B11 F  (fun v3_11 y0_11 => (lz (sc y0_11 36 ((y0_11 36 0) - (1 : Int32))) (fun e0_72 => (ck (e0_72 36 0) 60 (lz (st e0_72 37 (upd (e0_72 37) (e0_72 36 0).toNatClampNeg (e0_72 2 0))) (fun e0_87 => (ck (e0_87 36 0) 60 (lz (st e0_87 38 (upd (e0_87 38) (e0_87 36 0).toNatClampNeg a1)) (fun e0_97 => (ck (e0_97 36 0) 60 (lz (st e0_97 39 (upd (e0_97 39) (e0_97 36 0).toNatClampNeg a2)) (fun e0_107 => (lz (sc e0_107 36 ((e0_107 36 0) + (1 : Int32))) (fun e0_115 => (some e0_115)))))))))))))))) n11 v3_11 y0_11 = some o → va_P (dC, dI) vwCl (wd_MD g h0 q0 y0_11) H → va_D A (wd_MD g h0 q0 y0_11) → va_S A s.heap H locs → lv_has ls 4 [(0, .ref h0), (1, .int a1), (2, .int a2), (3, .int v3_11)] → W p l e rm_MD_tell s m args below meth c H locs 0 0 Q (F0 m 11 ls []) := by
      intro n11
      induction n11 with
      | zero => intro v3_11 y0_11 H locs ls hm; exact absurd hm (by intro z; cases z)
      | succ n11 ih11 =>
        intro v3_11 y0_11 H locs ls hm hP hD hS hl
        replace hm := m_MD_tell_B11_h (lq2_h hm)
        refine lv_iload_n hx hb d_MD_tell_11 rfl (lv_at hl 3 rfl) ?_
        refine lv_bipush (v := (60 : Int32)) hx hb d_MD_tell_12 (by decide) ?_
        refine lv_icmp_ge (tgt := 65) hx hb d_MD_tell_14 (by decide) (fun hc => ?_) (fun hc => ?_)
        · replace hm := if_t hm hc
          refine lv_aload_n hx hb d_MD_tell_65 rfl (lv_at hl 0 rfl) ?_
          refine lv_dup hx hb d_MD_tell_66 rfl ?_
          refine va_get (D := (dC, dI)) (ci := 10) (v := .int (y0_11 36 0)) (C := "AlarmMatrixModel") (T := T_MD) (N := 42) hx hb hts i_MD hown hK hP 0 rfl rfl 36 (by decide) (hts _ k5_56) (fun _ h9 => h9) rfl d_MD_tell_67 ?_
          refine lv_iconst (v := (1 : Int32)) hx hb d_MD_tell_70 (by decide) ?_
          refine lv_isub hx hb d_MD_tell_71 ?_
          obtain ⟨e0_72, he, hm⟩ := lz_s hm
          refine va_put (D := (dC, dI)) (ci := 10) (v := .int ((y0_11 36 0) - (1 : Int32))) (ty := .int) (C := "AlarmMatrixModel") (T := T_MD) (N := 42) hx hb hts i_MD t_MD o_MD n_MD hown hK hP hD hS 0 rfl rfl 36 (by decide) (hts _ k5_56) (fun _ h9 => h9) rfl (by decide +kernel) rfl rfl (Nat.le_of_ble_eq_true rfl) d_MD_tell_72 (fun H locs hP hD hS => ?_)
          have hP : va_P (dC, dI) vwCl (wd_MD g h0 q0 e0_72) H := by rw [he]; exact hP
          have hD : va_D A (wd_MD g h0 q0 e0_72) := by rw [he]; exact hD
          refine lv_aload_n hx hb d_MD_tell_75 rfl (lv_at hl 0 rfl) ?_
          refine va_get (D := (dC, dI)) (ci := 10) (v := .ref (q0 37)) (C := "AlarmMatrixModel") (T := T_MD) (N := 42) hx hb hts i_MD hown hK hP 0 rfl rfl 37 (by decide) (hts _ k5_57) (fun _ h9 => h9) rfl d_MD_tell_76 ?_
          refine lv_aload_n hx hb d_MD_tell_79 rfl (lv_at hl 0 rfl) ?_
          refine va_get (D := (dC, dI)) (ci := 10) (v := .int (e0_72 36 0)) (C := "AlarmMatrixModel") (T := T_MD) (N := 42) hx hb hts i_MD hown hK hP 0 rfl rfl 36 (by decide) (hts _ k5_56) (fun _ h9 => h9) rfl d_MD_tell_80 ?_
          refine lv_aload_n hx hb d_MD_tell_83 rfl (lv_at hl 0 rfl) ?_
          refine va_get (D := (dC, dI)) (ci := 10) (v := .int (e0_72 2 0)) (C := "AlarmMatrixModel") (T := T_MD) (N := 42) hx hb hts i_MD hown hK hP 0 rfl rfl 2 (by decide) (hts _ k5_22) (fun _ h9 => h9) rfl d_MD_tell_84 ?_
          obtain ⟨h_87, hm⟩ := ck_s hm
          obtain ⟨e0_87, he, hm⟩ := lz_s hm
          refine va_iast (f := (e0_72 37)) hx hb hK hP hD hS 28 0 rfl rfl h_87 d_MD_tell_87 (fun H locs hP hD hS => ?_)
          have hP : va_P (dC, dI) vwCl (wd_MD g h0 q0 e0_87) H := by rw [he]; exact hP
          have hD : va_D A (wd_MD g h0 q0 e0_87) := by rw [he]; exact hD
          refine lv_aload_n hx hb d_MD_tell_88 rfl (lv_at hl 0 rfl) ?_
          refine va_get (D := (dC, dI)) (ci := 10) (v := .ref (q0 38)) (C := "AlarmMatrixModel") (T := T_MD) (N := 42) hx hb hts i_MD hown hK hP 0 rfl rfl 38 (by decide) (hts _ k5_58) (fun _ h9 => h9) rfl d_MD_tell_89 ?_
          refine lv_aload_n hx hb d_MD_tell_92 rfl (lv_at hl 0 rfl) ?_
          refine va_get (D := (dC, dI)) (ci := 10) (v := .int (e0_87 36 0)) (C := "AlarmMatrixModel") (T := T_MD) (N := 42) hx hb hts i_MD hown hK hP 0 rfl rfl 36 (by decide) (hts _ k5_56) (fun _ h9 => h9) rfl d_MD_tell_93 ?_
          refine lv_iload_n hx hb d_MD_tell_96 rfl (lv_at hl 1 rfl) ?_
          obtain ⟨h_97, hm⟩ := ck_s hm
          obtain ⟨e0_97, he, hm⟩ := lz_s hm
          refine va_iast (f := (e0_87 38)) hx hb hK hP hD hS 29 0 rfl rfl h_97 d_MD_tell_97 (fun H locs hP hD hS => ?_)
          have hP : va_P (dC, dI) vwCl (wd_MD g h0 q0 e0_97) H := by rw [he]; exact hP
          have hD : va_D A (wd_MD g h0 q0 e0_97) := by rw [he]; exact hD
          refine lv_aload_n hx hb d_MD_tell_98 rfl (lv_at hl 0 rfl) ?_
          refine va_get (D := (dC, dI)) (ci := 10) (v := .ref (q0 39)) (C := "AlarmMatrixModel") (T := T_MD) (N := 42) hx hb hts i_MD hown hK hP 0 rfl rfl 39 (by decide) (hts _ k5_59) (fun _ h9 => h9) rfl d_MD_tell_99 ?_
          refine lv_aload_n hx hb d_MD_tell_102 rfl (lv_at hl 0 rfl) ?_
          refine va_get (D := (dC, dI)) (ci := 10) (v := .int (e0_97 36 0)) (C := "AlarmMatrixModel") (T := T_MD) (N := 42) hx hb hts i_MD hown hK hP 0 rfl rfl 36 (by decide) (hts _ k5_56) (fun _ h9 => h9) rfl d_MD_tell_103 ?_
          refine lv_iload_n hx hb d_MD_tell_106 rfl (lv_at hl 2 rfl) ?_
          obtain ⟨h_107, hm⟩ := ck_s hm
          obtain ⟨e0_107, he, hm⟩ := lz_s hm
          refine va_iast (f := (e0_97 39)) hx hb hK hP hD hS 30 0 rfl rfl h_107 d_MD_tell_107 (fun H locs hP hD hS => ?_)
          have hP : va_P (dC, dI) vwCl (wd_MD g h0 q0 e0_107) H := by rw [he]; exact hP
          have hD : va_D A (wd_MD g h0 q0 e0_107) := by rw [he]; exact hD
          refine lv_aload_n hx hb d_MD_tell_108 rfl (lv_at hl 0 rfl) ?_
          refine lv_dup hx hb d_MD_tell_109 rfl ?_
          refine va_get (D := (dC, dI)) (ci := 10) (v := .int (e0_107 36 0)) (C := "AlarmMatrixModel") (T := T_MD) (N := 42) hx hb hts i_MD hown hK hP 0 rfl rfl 36 (by decide) (hts _ k5_56) (fun _ h9 => h9) rfl d_MD_tell_110 ?_
          refine lv_iconst (v := (1 : Int32)) hx hb d_MD_tell_113 (by decide) ?_
          refine lv_iadd hx hb d_MD_tell_114 ?_
          obtain ⟨e0_115, he, hm⟩ := lz_s hm
          refine va_put (D := (dC, dI)) (ci := 10) (v := .int ((e0_107 36 0) + (1 : Int32))) (ty := .int) (C := "AlarmMatrixModel") (T := T_MD) (N := 42) hx hb hts i_MD t_MD o_MD n_MD hown hK hP hD hS 0 rfl rfl 36 (by decide) (hts _ k5_56) (fun _ h9 => h9) rfl (by decide +kernel) rfl rfl (Nat.le_of_ble_eq_true rfl) d_MD_tell_115 (fun H locs hP hD hS => ?_)
          have hP : va_P (dC, dI) vwCl (wd_MD g h0 q0 e0_115) H := by rw [he]; exact hP
          have hD : va_D A (wd_MD g h0 q0 e0_115) := by rw [he]; exact hD
          obtain rfl := Option.some.inj hm
          rw [hQ]
          exact krv hx hb hr hlocks hAe hP hK hD hS d_MD_tell_118
        · replace hm := if_f hm hc
          refine lv_aload_n hx hb d_MD_tell_17 rfl (lv_at hl 0 rfl) ?_
          refine va_get (D := (dC, dI)) (ci := 10) (v := .ref (q0 37)) (C := "AlarmMatrixModel") (T := T_MD) (N := 42) hx hb hts i_MD hown hK hP 0 rfl rfl 37 (by decide) (hts _ k5_57) (fun _ h9 => h9) rfl d_MD_tell_18 ?_
          refine lv_iload_n hx hb d_MD_tell_21 rfl (lv_at hl 3 rfl) ?_
          refine lv_iconst (v := (1 : Int32)) hx hb d_MD_tell_22 (by decide) ?_
          refine lv_isub hx hb d_MD_tell_23 ?_
          refine lv_aload_n hx hb d_MD_tell_24 rfl (lv_at hl 0 rfl) ?_
          refine va_get (D := (dC, dI)) (ci := 10) (v := .ref (q0 37)) (C := "AlarmMatrixModel") (T := T_MD) (N := 42) hx hb hts i_MD hown hK hP 0 rfl rfl 37 (by decide) (hts _ k5_57) (fun _ h9 => h9) rfl d_MD_tell_25 ?_
          refine lv_iload_n hx hb d_MD_tell_28 rfl (lv_at hl 3 rfl) ?_
          obtain ⟨h_29, hm⟩ := ck_s hm
          refine va_iald (f := (y0_11 37)) hx hb hK hP 28 0 rfl rfl h_29 d_MD_tell_29 ?_
          obtain ⟨h_30, hm⟩ := ck_s hm
          obtain ⟨e0_30, he, hm⟩ := lz_s hm
          refine va_iast (f := (y0_11 37)) hx hb hK hP hD hS 28 0 rfl rfl h_30 d_MD_tell_30 (fun H locs hP hD hS => ?_)
          have hP : va_P (dC, dI) vwCl (wd_MD g h0 q0 e0_30) H := by rw [he]; exact hP
          have hD : va_D A (wd_MD g h0 q0 e0_30) := by rw [he]; exact hD
          refine lv_aload_n hx hb d_MD_tell_31 rfl (lv_at hl 0 rfl) ?_
          refine va_get (D := (dC, dI)) (ci := 10) (v := .ref (q0 38)) (C := "AlarmMatrixModel") (T := T_MD) (N := 42) hx hb hts i_MD hown hK hP 0 rfl rfl 38 (by decide) (hts _ k5_58) (fun _ h9 => h9) rfl d_MD_tell_32 ?_
          refine lv_iload_n hx hb d_MD_tell_35 rfl (lv_at hl 3 rfl) ?_
          refine lv_iconst (v := (1 : Int32)) hx hb d_MD_tell_36 (by decide) ?_
          refine lv_isub hx hb d_MD_tell_37 ?_
          refine lv_aload_n hx hb d_MD_tell_38 rfl (lv_at hl 0 rfl) ?_
          refine va_get (D := (dC, dI)) (ci := 10) (v := .ref (q0 38)) (C := "AlarmMatrixModel") (T := T_MD) (N := 42) hx hb hts i_MD hown hK hP 0 rfl rfl 38 (by decide) (hts _ k5_58) (fun _ h9 => h9) rfl d_MD_tell_39 ?_
          refine lv_iload_n hx hb d_MD_tell_42 rfl (lv_at hl 3 rfl) ?_
          obtain ⟨h_43, hm⟩ := ck_s hm
          refine va_iald (f := (e0_30 38)) hx hb hK hP 29 0 rfl rfl h_43 d_MD_tell_43 ?_
          obtain ⟨h_44, hm⟩ := ck_s hm
          obtain ⟨e0_44, he, hm⟩ := lz_s hm
          refine va_iast (f := (e0_30 38)) hx hb hK hP hD hS 29 0 rfl rfl h_44 d_MD_tell_44 (fun H locs hP hD hS => ?_)
          have hP : va_P (dC, dI) vwCl (wd_MD g h0 q0 e0_44) H := by rw [he]; exact hP
          have hD : va_D A (wd_MD g h0 q0 e0_44) := by rw [he]; exact hD
          refine lv_aload_n hx hb d_MD_tell_45 rfl (lv_at hl 0 rfl) ?_
          refine va_get (D := (dC, dI)) (ci := 10) (v := .ref (q0 39)) (C := "AlarmMatrixModel") (T := T_MD) (N := 42) hx hb hts i_MD hown hK hP 0 rfl rfl 39 (by decide) (hts _ k5_59) (fun _ h9 => h9) rfl d_MD_tell_46 ?_
          refine lv_iload_n hx hb d_MD_tell_49 rfl (lv_at hl 3 rfl) ?_
          refine lv_iconst (v := (1 : Int32)) hx hb d_MD_tell_50 (by decide) ?_
          refine lv_isub hx hb d_MD_tell_51 ?_
          refine lv_aload_n hx hb d_MD_tell_52 rfl (lv_at hl 0 rfl) ?_
          refine va_get (D := (dC, dI)) (ci := 10) (v := .ref (q0 39)) (C := "AlarmMatrixModel") (T := T_MD) (N := 42) hx hb hts i_MD hown hK hP 0 rfl rfl 39 (by decide) (hts _ k5_59) (fun _ h9 => h9) rfl d_MD_tell_53 ?_
          refine lv_iload_n hx hb d_MD_tell_56 rfl (lv_at hl 3 rfl) ?_
          obtain ⟨h_57, hm⟩ := ck_s hm
          refine va_iald (f := (e0_44 39)) hx hb hK hP 30 0 rfl rfl h_57 d_MD_tell_57 ?_
          obtain ⟨h_58, hm⟩ := ck_s hm
          obtain ⟨e0_58, he, hm⟩ := lz_s hm
          refine va_iast (f := (e0_44 39)) hx hb hK hP hD hS 30 0 rfl rfl h_58 d_MD_tell_58 (fun H locs hP hD hS => ?_)
          have hP : va_P (dC, dI) vwCl (wd_MD g h0 q0 e0_58) H := by rw [he]; exact hP
          have hD : va_D A (wd_MD g h0 q0 e0_58) := by rw [he]; exact hD
          refine lv_iinc (v := (v3_11 + (1 : Int32))) (lv' := [(3, .int (v3_11 + (1 : Int32))), (0, .ref h0), (1, .int a1), (2, .int a2)]) hx hb d_MD_tell_59 hl (k := 3) rfl rfl (by decide) rfl (fun ls hl => ?_)
          refine lv_goto (tgt := 11) hx hb d_MD_tell_62 (by decide) ?_
          exact ih11 (v3_11 + (1 : Int32)) e0_58 H locs ls hm hP hD hS (lv_sub hl [1, 2, 3, 0] rfl)
    exact L11 F (1 : Int32) x0 H locs ls hm hP hD hS (lv_sub hl [1, 2, 3, 0] rfl)
abbrev b_MD_rankedOne : ByteArray := prog_12_method_50_code
abbrev y_MD_rankedOne : MethodName := ⟨"AlarmMatrixModel", "rankedOne", "(I)I"⟩
theorem d_MD_rankedOne_0 : decode b_MD_rankedOne 0 = .ok (.iconst 0, 1) := by decide +kernel
theorem d_MD_rankedOne_1 : decode b_MD_rankedOne 1 = .ok (.istore_n 2, 1) := by decide +kernel
theorem d_MD_rankedOne_2 : decode b_MD_rankedOne 2 = .ok (.iload_n 2, 1) := by decide +kernel
theorem d_MD_rankedOne_3 : decode b_MD_rankedOne 3 = .ok (.bipush 20, 2) := by decide +kernel
theorem d_MD_rankedOne_5 : decode b_MD_rankedOne 5 = .ok (.if_icmp .ge 111, 3) := by decide +kernel
theorem d_MD_rankedOne_8 : decode b_MD_rankedOne 8 = .ok (.iconst 0, 1) := by decide +kernel
theorem d_MD_rankedOne_9 : decode b_MD_rankedOne 9 = .ok (.istore_n 3, 1) := by decide +kernel
theorem d_MD_rankedOne_10 : decode b_MD_rankedOne 10 = .ok (.iconst 0, 1) := by decide +kernel
theorem d_MD_rankedOne_11 : decode b_MD_rankedOne 11 = .ok (.istore 4, 2) := by decide +kernel
theorem d_MD_rankedOne_13 : decode b_MD_rankedOne 13 = .ok (.iload 4, 2) := by decide +kernel
theorem d_MD_rankedOne_15 : decode b_MD_rankedOne 15 = .ok (.bipush 20, 2) := by decide +kernel
theorem d_MD_rankedOne_17 : decode b_MD_rankedOne 17 = .ok (.if_icmp .ge 77, 3) := by decide +kernel
theorem d_MD_rankedOne_20 : decode b_MD_rankedOne 20 = .ok (.aload_n 0, 1) := by decide +kernel
theorem d_MD_rankedOne_21 : decode b_MD_rankedOne 21 = .ok (.getfield 62, 3) := by decide +kernel
theorem d_MD_rankedOne_24 : decode b_MD_rankedOne 24 = .ok (.iload 4, 2) := by decide +kernel
theorem d_MD_rankedOne_26 : decode b_MD_rankedOne 26 = .ok (.iaload, 1) := by decide +kernel
theorem d_MD_rankedOne_27 : decode b_MD_rankedOne 27 = .ok (.aload_n 0, 1) := by decide +kernel
theorem d_MD_rankedOne_28 : decode b_MD_rankedOne 28 = .ok (.getfield 62, 3) := by decide +kernel
theorem d_MD_rankedOne_31 : decode b_MD_rankedOne 31 = .ok (.iload_n 2, 1) := by decide +kernel
theorem d_MD_rankedOne_32 : decode b_MD_rankedOne 32 = .ok (.iaload, 1) := by decide +kernel
theorem d_MD_rankedOne_33 : decode b_MD_rankedOne 33 = .ok (.if_icmp .gt 25, 3) := by decide +kernel
theorem d_MD_rankedOne_36 : decode b_MD_rankedOne 36 = .ok (.aload_n 0, 1) := by decide +kernel
theorem d_MD_rankedOne_37 : decode b_MD_rankedOne 37 = .ok (.getfield 62, 3) := by decide +kernel
theorem d_MD_rankedOne_40 : decode b_MD_rankedOne 40 = .ok (.iload 4, 2) := by decide +kernel
theorem d_MD_rankedOne_42 : decode b_MD_rankedOne 42 = .ok (.iaload, 1) := by decide +kernel
theorem d_MD_rankedOne_43 : decode b_MD_rankedOne 43 = .ok (.aload_n 0, 1) := by decide +kernel
theorem d_MD_rankedOne_44 : decode b_MD_rankedOne 44 = .ok (.getfield 62, 3) := by decide +kernel
theorem d_MD_rankedOne_47 : decode b_MD_rankedOne 47 = .ok (.iload_n 2, 1) := by decide +kernel
theorem d_MD_rankedOne_48 : decode b_MD_rankedOne 48 = .ok (.iaload, 1) := by decide +kernel
theorem d_MD_rankedOne_49 : decode b_MD_rankedOne 49 = .ok (.if_icmp .ne 13, 3) := by decide +kernel
theorem d_MD_rankedOne_52 : decode b_MD_rankedOne 52 = .ok (.iload 4, 2) := by decide +kernel
theorem d_MD_rankedOne_54 : decode b_MD_rankedOne 54 = .ok (.iload_n 2, 1) := by decide +kernel
theorem d_MD_rankedOne_55 : decode b_MD_rankedOne 55 = .ok (.if_icmp .ge 7, 3) := by decide +kernel
theorem d_MD_rankedOne_58 : decode b_MD_rankedOne 58 = .ok (.iconst 1, 1) := by decide +kernel
theorem d_MD_rankedOne_59 : decode b_MD_rankedOne 59 = .ok (.goto 4, 3) := by decide +kernel
theorem d_MD_rankedOne_62 : decode b_MD_rankedOne 62 = .ok (.iconst 0, 1) := by decide +kernel
theorem d_MD_rankedOne_63 : decode b_MD_rankedOne 63 = .ok (.istore 5, 2) := by decide +kernel
theorem d_MD_rankedOne_65 : decode b_MD_rankedOne 65 = .ok (.iload_n 3, 1) := by decide +kernel
theorem d_MD_rankedOne_66 : decode b_MD_rankedOne 66 = .ok (.aload_n 0, 1) := by decide +kernel
theorem d_MD_rankedOne_67 : decode b_MD_rankedOne 67 = .ok (.getfield 56, 3) := by decide +kernel
theorem d_MD_rankedOne_70 : decode b_MD_rankedOne 70 = .ok (.iload 4, 2) := by decide +kernel
theorem d_MD_rankedOne_72 : decode b_MD_rankedOne 72 = .ok (.baload, 1) := by decide +kernel
theorem d_MD_rankedOne_73 : decode b_MD_rankedOne 73 = .ok (.ifCond .eq 12, 3) := by decide +kernel
theorem d_MD_rankedOne_76 : decode b_MD_rankedOne 76 = .ok (.iload 5, 2) := by decide +kernel
theorem d_MD_rankedOne_78 : decode b_MD_rankedOne 78 = .ok (.ifCond .eq 7, 3) := by decide +kernel
theorem d_MD_rankedOne_81 : decode b_MD_rankedOne 81 = .ok (.iconst 1, 1) := by decide +kernel
theorem d_MD_rankedOne_82 : decode b_MD_rankedOne 82 = .ok (.goto 4, 3) := by decide +kernel
theorem d_MD_rankedOne_85 : decode b_MD_rankedOne 85 = .ok (.iconst 0, 1) := by decide +kernel
theorem d_MD_rankedOne_86 : decode b_MD_rankedOne 86 = .ok (.iadd, 1) := by decide +kernel
theorem d_MD_rankedOne_87 : decode b_MD_rankedOne 87 = .ok (.istore_n 3, 1) := by decide +kernel
theorem d_MD_rankedOne_88 : decode b_MD_rankedOne 88 = .ok (.iinc 4 1, 3) := by decide +kernel
theorem d_MD_rankedOne_91 : decode b_MD_rankedOne 91 = .ok (.goto (-78), 3) := by decide +kernel
theorem d_MD_rankedOne_94 : decode b_MD_rankedOne 94 = .ok (.aload_n 0, 1) := by decide +kernel
theorem d_MD_rankedOne_95 : decode b_MD_rankedOne 95 = .ok (.getfield 56, 3) := by decide +kernel
theorem d_MD_rankedOne_98 : decode b_MD_rankedOne 98 = .ok (.iload_n 2, 1) := by decide +kernel
theorem d_MD_rankedOne_99 : decode b_MD_rankedOne 99 = .ok (.baload, 1) := by decide +kernel
theorem d_MD_rankedOne_100 : decode b_MD_rankedOne 100 = .ok (.ifCond .eq 10, 3) := by decide +kernel
theorem d_MD_rankedOne_103 : decode b_MD_rankedOne 103 = .ok (.iload_n 3, 1) := by decide +kernel
theorem d_MD_rankedOne_104 : decode b_MD_rankedOne 104 = .ok (.iload_n 1, 1) := by decide +kernel
theorem d_MD_rankedOne_105 : decode b_MD_rankedOne 105 = .ok (.if_icmp .ne 5, 3) := by decide +kernel
theorem d_MD_rankedOne_108 : decode b_MD_rankedOne 108 = .ok (.iload_n 2, 1) := by decide +kernel
theorem d_MD_rankedOne_109 : decode b_MD_rankedOne 109 = .ok (.ireturn, 1) := by decide +kernel
theorem d_MD_rankedOne_110 : decode b_MD_rankedOne 110 = .ok (.iinc 2 1, 3) := by decide +kernel
theorem d_MD_rankedOne_113 : decode b_MD_rankedOne 113 = .ok (.goto (-111), 3) := by decide +kernel
theorem d_MD_rankedOne_116 : decode b_MD_rankedOne 116 = .ok (.iconst (-1), 1) := by decide +kernel
theorem d_MD_rankedOne_117 : decode b_MD_rankedOne 117 = .ok (.ireturn, 1) := by decide +kernel
def m_MD_rankedOne_J63 {R : Type} (F : Nat) (x0 : St) (k13_94 : Int32 → Int32 → Option R) (rec13 : Int32 → Int32 → Option R) (j3_63 : Int32) (j4_63 : Int32) (s0_63 : Int32) : Option R :=
  (ck j4_63 40 (if ((x0 22) j4_63.toNatClampNeg) = (0 : Int32) then (rec13 (j3_63 + (0 : Int32)) (j4_63 + (1 : Int32))) else (if s0_63 = (0 : Int32) then (rec13 (j3_63 + (0 : Int32)) (j4_63 + (1 : Int32))) else (rec13 (j3_63 + (1 : Int32)) (j4_63 + (1 : Int32))))))
theorem m_MD_rankedOne_J63_h {R : Type} {F : Nat} {x0 : St} {k13_94 : Int32 → Int32 → Option R} {rec13 : Int32 → Int32 → Option R} {j3_63 : Int32} {j4_63 : Int32} {s0_63 : Int32} {o : R} (h : m_MD_rankedOne_J63 F x0 k13_94 rec13 j3_63 j4_63 s0_63 = some o) :
  (ck j4_63 40 (if ((x0 22) j4_63.toNatClampNeg) = (0 : Int32) then (rec13 (j3_63 + (0 : Int32)) (j4_63 + (1 : Int32))) else (if s0_63 = (0 : Int32) then (rec13 (j3_63 + (0 : Int32)) (j4_63 + (1 : Int32))) else (rec13 (j3_63 + (1 : Int32)) (j4_63 + (1 : Int32)))))) = some o := h
def m_MD_rankedOne_B13 {R : Type} (F : Nat) (v2_2 : Int32) (x0 : St) (k13_94 : Int32 → Int32 → Option R) (rec13 : Int32 → Int32 → Option R) (v3_13 : Int32) (v4_13 : Int32) : Option R :=
  (if (20 : Int32) ≤ v4_13 then (k13_94 v3_13 v4_13) else (ck v4_13 40 (ck v2_2 40 (if ((x0 24) v2_2.toNatClampNeg) < ((x0 24) v4_13.toNatClampNeg) then (m_MD_rankedOne_J63 F x0 k13_94 rec13 v3_13 v4_13 (1 : Int32)) else (ck v4_13 40 (ck v2_2 40 (if ((x0 24) v4_13.toNatClampNeg) = ((x0 24) v2_2.toNatClampNeg) then (if v2_2 ≤ v4_13 then (m_MD_rankedOne_J63 F x0 k13_94 rec13 v3_13 v4_13 (0 : Int32)) else (m_MD_rankedOne_J63 F x0 k13_94 rec13 v3_13 v4_13 (1 : Int32))) else (m_MD_rankedOne_J63 F x0 k13_94 rec13 v3_13 v4_13 (0 : Int32)))))))))
theorem m_MD_rankedOne_B13_h {R : Type} {F : Nat} {v2_2 : Int32} {x0 : St} {k13_94 : Int32 → Int32 → Option R} {rec13 : Int32 → Int32 → Option R} {v3_13 : Int32} {v4_13 : Int32} {o : R} (h : m_MD_rankedOne_B13 F v2_2 x0 k13_94 rec13 v3_13 v4_13 = some o) :
  (if (20 : Int32) ≤ v4_13 then (k13_94 v3_13 v4_13) else (ck v4_13 40 (ck v2_2 40 (if ((x0 24) v2_2.toNatClampNeg) < ((x0 24) v4_13.toNatClampNeg) then (m_MD_rankedOne_J63 F x0 k13_94 rec13 v3_13 v4_13 (1 : Int32)) else (ck v4_13 40 (ck v2_2 40 (if ((x0 24) v4_13.toNatClampNeg) = ((x0 24) v2_2.toNatClampNeg) then (if v2_2 ≤ v4_13 then (m_MD_rankedOne_J63 F x0 k13_94 rec13 v3_13 v4_13 (0 : Int32)) else (m_MD_rankedOne_J63 F x0 k13_94 rec13 v3_13 v4_13 (1 : Int32))) else (m_MD_rankedOne_J63 F x0 k13_94 rec13 v3_13 v4_13 (0 : Int32))))))))) = some o := h
def m_MD_rankedOne_B2 {R : Type} (F : Nat) (x0 : St) (a1 : Int32) (k2_108 : Int32 → Option R) (k2_116 : Int32 → Option R) (rec2 : Int32 → Option R) (v2_2 : Int32) : Option R :=
  (if (20 : Int32) ≤ v2_2 then (k2_116 v2_2) else (lq2 (m_MD_rankedOne_B13 F v2_2 x0 (fun v3_13 v4_13 => (ck v2_2 40 (if ((x0 22) v2_2.toNatClampNeg) = (0 : Int32) then (rec2 (v2_2 + (1 : Int32))) else (if v3_13 = a1 then (k2_108 v2_2) else (rec2 (v2_2 + (1 : Int32)))))))) F (0 : Int32) (0 : Int32)))
theorem m_MD_rankedOne_B2_h {R : Type} {F : Nat} {x0 : St} {a1 : Int32} {k2_108 : Int32 → Option R} {k2_116 : Int32 → Option R} {rec2 : Int32 → Option R} {v2_2 : Int32} {o : R} (h : m_MD_rankedOne_B2 F x0 a1 k2_108 k2_116 rec2 v2_2 = some o) :
  (if (20 : Int32) ≤ v2_2 then (k2_116 v2_2) else (lq2 (m_MD_rankedOne_B13 F v2_2 x0 (fun v3_13 v4_13 => (ck v2_2 40 (if ((x0 22) v2_2.toNatClampNeg) = (0 : Int32) then (rec2 (v2_2 + (1 : Int32))) else (if v3_13 = a1 then (k2_108 v2_2) else (rec2 (v2_2 + (1 : Int32)))))))) F (0 : Int32) (0 : Int32))) = some o := h
def m_MD_rankedOne (F : Nat) (x0 : St) (a1 : Int32) : Option (Int32) :=
  (lq1 (m_MD_rankedOne_B2 F x0 a1 (fun v2_2 => (some v2_2)) (fun v2_2 => (some (-1 : Int32)))) F (0 : Int32))
abbrev rm_MD_rankedOne : Room := { frames := 0, cells := 0, slots := 0, locals := 0 }
set_option maxHeartbeats 4000000 in
set_option maxRecDepth 100000 in
theorem c_MD_rankedOne {G : (Nat → Prop) → State → Prop} (hG : gok G) (hGn : gN G) (l : Launch) (dC : Nat → ClassId) (dI : Nat → Nat → Nat) (g : Nat → ClassId) (F : Nat) (sz : Nat) (h0 : Nat) (q0 : Nat → Nat) (x0 : St) (a1 : Int32) {o : Int32} (hm : m_MD_rankedOne F x0 a1 = some o) : Met l y_MD_rankedOne (.code y_MD_rankedOne b_MD_rankedOne 6 (some .int) :: gw) rm_MD_rankedOne (kq (dC, dI) vwCl (tyv g) G [.ref h0, .int a1] sz (wd_MD g h0 q0 x0)) (kqi (dC, dI) vwCl (tyv g) (wd_MD g h0 q0 x0) o (wd_MD g h0 q0 x0) sz) 0 0 (va_A (wd_MD g h0 q0 x0) sz) := by
  unfold m_MD_rankedOne at hm
  refine km (Qc := fun sz => kqi (dC, dI) vwCl (tyv g) (wd_MD g h0 q0 x0) o (wd_MD g h0 q0 x0) sz) (cc := b_MD_rankedOne) (maxL := 6) (ret := some .int) (by decide) rfl (Nat.le_of_ble_eq_true rfl) ?_
  intro p e s m args below meth c Q hQ hx hb hr hts hown hlocks hml hnm H locs A hAe hA hP hK hD hS hGA ls hl
  have hl : lv_has ls 6 [(0, .ref h0), (1, .int a1)] := hl
  have hts : ∀ w ∈ gw, w.before args s = true := fun w h => hts w (List.mem_cons_of_mem _ h)
  have hown : s.vm.findClass "AlarmMatrixModel" = some m.cls := hown
  refine lv_iconst (v := (0 : Int32)) hx hb d_MD_rankedOne_0 (by decide) ?_
  refine lv_istore_n (lv' := [(2, .int (0 : Int32)), (0, .ref h0), (1, .int a1)]) hx hb d_MD_rankedOne_1 rfl hl (by decide) rfl (fun ls hl => ?_)
  have L2 : ∀ (n2 : Nat) (v2_2 : Int32) (H : Heap) (locs : List Loc) (ls : Array Slot), lq1 (m_MD_rankedOne_B2 F x0 a1 (fun v2_2 => (some v2_2)) (fun v2_2 => (some (-1 : Int32)))) n2 v2_2 = some o → va_P (dC, dI) vwCl (wd_MD g h0 q0 x0) H → va_D A (wd_MD g h0 q0 x0) → va_S A s.heap H locs → lv_has ls 6 [(0, .ref h0), (1, .int a1), (2, .int v2_2)] → W p l e rm_MD_rankedOne s m args below meth c H locs 0 0 Q (F0 m 2 ls []) := by
    intro n2
    induction n2 with
    | zero => intro v2_2 H locs ls hm; exact absurd hm (by intro z; cases z)
    | succ n2 ih2 =>
      intro v2_2 H locs ls hm hP hD hS hl
      replace hm := m_MD_rankedOne_B2_h (lq1_h hm)
      refine lv_iload_n hx hb d_MD_rankedOne_2 rfl (lv_at hl 2 rfl) ?_
      refine lv_bipush (v := (20 : Int32)) hx hb d_MD_rankedOne_3 (by decide) ?_
      refine lv_icmp_ge (tgt := 116) hx hb d_MD_rankedOne_5 (by decide) (fun hc => ?_) (fun hc => ?_)
      · replace hm := if_t hm hc
        refine lv_iconst (v := (-1 : Int32)) hx hb d_MD_rankedOne_116 (by decide) ?_
        obtain rfl := Option.some.inj hm
        rw [hQ]
        exact kri hx hb hr hlocks hAe hP hK hD hS d_MD_rankedOne_117
      · replace hm := if_f hm hc
        refine lv_iconst (v := (0 : Int32)) hx hb d_MD_rankedOne_8 (by decide) ?_
        refine lv_istore_n (lv' := [(3, .int (0 : Int32)), (0, .ref h0), (1, .int a1), (2, .int v2_2)]) hx hb d_MD_rankedOne_9 rfl hl (by decide) rfl (fun ls hl => ?_)
        refine lv_iconst (v := (0 : Int32)) hx hb d_MD_rankedOne_10 (by decide) ?_
        refine lv_istore (lv' := [(4, .int (0 : Int32)), (3, .int (0 : Int32)), (0, .ref h0), (1, .int a1), (2, .int v2_2)]) hx hb d_MD_rankedOne_11 hl (by decide) rfl (fun ls hl => ?_)
        have L13 : ∀ (n13 : Nat) (v3_13 : Int32) (v4_13 : Int32) (H : Heap) (locs : List Loc) (ls : Array Slot), lq2 (m_MD_rankedOne_B13 F v2_2 x0 (fun v3_13 v4_13 => (ck v2_2 40 (if ((x0 22) v2_2.toNatClampNeg) = (0 : Int32) then (lq1 (m_MD_rankedOne_B2 F x0 a1 (fun v2_2 => (some v2_2)) (fun v2_2 => (some (-1 : Int32)))) n2 (v2_2 + (1 : Int32))) else (if v3_13 = a1 then (some v2_2) else (lq1 (m_MD_rankedOne_B2 F x0 a1 (fun v2_2 => (some v2_2)) (fun v2_2 => (some (-1 : Int32)))) n2 (v2_2 + (1 : Int32)))))))) n13 v3_13 v4_13 = some o → va_P (dC, dI) vwCl (wd_MD g h0 q0 x0) H → va_D A (wd_MD g h0 q0 x0) → va_S A s.heap H locs → lv_has ls 6 [(0, .ref h0), (1, .int a1), (2, .int v2_2), (3, .int v3_13), (4, .int v4_13)] → W p l e rm_MD_rankedOne s m args below meth c H locs 0 0 Q (F0 m 13 ls []) := by
          intro n13
          induction n13 with
          | zero => intro v3_13 v4_13 H locs ls hm; exact absurd hm (by intro z; cases z)
          | succ n13 ih13 =>
            intro v3_13 v4_13 H locs ls hm hP hD hS hl
            replace hm := m_MD_rankedOne_B13_h (lq2_h hm)
            have J63 : ∀ (j3_63 : Int32) (j4_63 : Int32) (s0_63 : Int32) (H : Heap) (locs : List Loc) (ls : Array Slot), m_MD_rankedOne_J63 F x0 (fun v3_13 v4_13 => (ck v2_2 40 (if ((x0 22) v2_2.toNatClampNeg) = (0 : Int32) then (lq1 (m_MD_rankedOne_B2 F x0 a1 (fun v2_2 => (some v2_2)) (fun v2_2 => (some (-1 : Int32)))) n2 (v2_2 + (1 : Int32))) else (if v3_13 = a1 then (some v2_2) else (lq1 (m_MD_rankedOne_B2 F x0 a1 (fun v2_2 => (some v2_2)) (fun v2_2 => (some (-1 : Int32)))) n2 (v2_2 + (1 : Int32))))))) (lq2 (m_MD_rankedOne_B13 F v2_2 x0 (fun v3_13 v4_13 => (ck v2_2 40 (if ((x0 22) v2_2.toNatClampNeg) = (0 : Int32) then (lq1 (m_MD_rankedOne_B2 F x0 a1 (fun v2_2 => (some v2_2)) (fun v2_2 => (some (-1 : Int32)))) n2 (v2_2 + (1 : Int32))) else (if v3_13 = a1 then (some v2_2) else (lq1 (m_MD_rankedOne_B2 F x0 a1 (fun v2_2 => (some v2_2)) (fun v2_2 => (some (-1 : Int32)))) n2 (v2_2 + (1 : Int32)))))))) n13) j3_63 j4_63 s0_63 = some o → va_P (dC, dI) vwCl (wd_MD g h0 q0 x0) H → va_D A (wd_MD g h0 q0 x0) → va_S A s.heap H locs → lv_has ls 6 [(0, .ref h0), (1, .int a1), (2, .int v2_2), (3, .int j3_63), (4, .int j4_63)] → W p l e rm_MD_rankedOne s m args below meth c H locs 0 0 Q (F0 m 63 ls [.int s0_63]) := by
              intro j3_63 j4_63 s0_63 H locs ls hm hP hD hS hl
              replace hm := m_MD_rankedOne_J63_h hm
              refine lv_istore (lv' := [(5, .int s0_63), (0, .ref h0), (1, .int a1), (2, .int v2_2), (3, .int j3_63), (4, .int j4_63)]) hx hb d_MD_rankedOne_63 hl (by decide) rfl (fun ls hl => ?_)
              refine lv_iload_n hx hb d_MD_rankedOne_65 rfl (lv_at hl 4 rfl) ?_
              refine lv_aload_n hx hb d_MD_rankedOne_66 rfl (lv_at hl 1 rfl) ?_
              refine va_get (D := (dC, dI)) (ci := 10) (v := .ref (q0 22)) (C := "AlarmMatrixModel") (T := T_MD) (N := 42) hx hb hts i_MD hown hK hP 0 rfl rfl 22 (by decide) (hts _ k5_42) (fun _ h9 => h9) rfl d_MD_rankedOne_67 ?_
              refine lv_iload hx hb d_MD_rankedOne_70 (lv_at hl 5 rfl) ?_
              obtain ⟨h_72, hm⟩ := ck_s hm
              refine va_zald (f := (x0 22)) hx hb hK hP 16 1 rfl rfl h_72 d_MD_rankedOne_72 ?_
              refine lv_if_eq (tgt := 85) hx hb d_MD_rankedOne_73 (by decide) (fun hc => ?_) (fun hc => ?_)
              · replace hm := if_t hm hc
                refine lv_iconst (v := (0 : Int32)) hx hb d_MD_rankedOne_85 (by decide) ?_
                refine lv_iadd hx hb d_MD_rankedOne_86 ?_
                refine lv_istore_n (lv' := [(3, .int (j3_63 + (0 : Int32))), (5, .int s0_63), (0, .ref h0), (1, .int a1), (2, .int v2_2), (4, .int j4_63)]) hx hb d_MD_rankedOne_87 rfl hl (by decide) rfl (fun ls hl => ?_)
                refine lv_iinc (v := (j4_63 + (1 : Int32))) (lv' := [(4, .int (j4_63 + (1 : Int32))), (3, .int (j3_63 + (0 : Int32))), (5, .int s0_63), (0, .ref h0), (1, .int a1), (2, .int v2_2)]) hx hb d_MD_rankedOne_88 hl (k := 5) rfl rfl (by decide) rfl (fun ls hl => ?_)
                refine lv_goto (tgt := 13) hx hb d_MD_rankedOne_91 (by decide) ?_
                exact ih13 (j3_63 + (0 : Int32)) (j4_63 + (1 : Int32)) H locs ls hm hP hD hS (lv_sub hl [3, 4, 5, 1, 0] rfl)
              · replace hm := if_f hm hc
                refine lv_iload hx hb d_MD_rankedOne_76 (lv_at hl 0 rfl) ?_
                refine lv_if_eq (tgt := 85) hx hb d_MD_rankedOne_78 (by decide) (fun hc => ?_) (fun hc => ?_)
                · replace hm := if_t hm hc
                  refine lv_iconst (v := (0 : Int32)) hx hb d_MD_rankedOne_85 (by decide) ?_
                  refine lv_iadd hx hb d_MD_rankedOne_86 ?_
                  refine lv_istore_n (lv' := [(3, .int (j3_63 + (0 : Int32))), (5, .int s0_63), (0, .ref h0), (1, .int a1), (2, .int v2_2), (4, .int j4_63)]) hx hb d_MD_rankedOne_87 rfl hl (by decide) rfl (fun ls hl => ?_)
                  refine lv_iinc (v := (j4_63 + (1 : Int32))) (lv' := [(4, .int (j4_63 + (1 : Int32))), (3, .int (j3_63 + (0 : Int32))), (5, .int s0_63), (0, .ref h0), (1, .int a1), (2, .int v2_2)]) hx hb d_MD_rankedOne_88 hl (k := 5) rfl rfl (by decide) rfl (fun ls hl => ?_)
                  refine lv_goto (tgt := 13) hx hb d_MD_rankedOne_91 (by decide) ?_
                  exact ih13 (j3_63 + (0 : Int32)) (j4_63 + (1 : Int32)) H locs ls hm hP hD hS (lv_sub hl [3, 4, 5, 1, 0] rfl)
                · replace hm := if_f hm hc
                  refine lv_iconst (v := (1 : Int32)) hx hb d_MD_rankedOne_81 (by decide) ?_
                  refine lv_goto (tgt := 86) hx hb d_MD_rankedOne_82 (by decide) ?_
                  refine lv_iadd hx hb d_MD_rankedOne_86 ?_
                  refine lv_istore_n (lv' := [(3, .int (j3_63 + (1 : Int32))), (5, .int s0_63), (0, .ref h0), (1, .int a1), (2, .int v2_2), (4, .int j4_63)]) hx hb d_MD_rankedOne_87 rfl hl (by decide) rfl (fun ls hl => ?_)
                  refine lv_iinc (v := (j4_63 + (1 : Int32))) (lv' := [(4, .int (j4_63 + (1 : Int32))), (3, .int (j3_63 + (1 : Int32))), (5, .int s0_63), (0, .ref h0), (1, .int a1), (2, .int v2_2)]) hx hb d_MD_rankedOne_88 hl (k := 5) rfl rfl (by decide) rfl (fun ls hl => ?_)
                  refine lv_goto (tgt := 13) hx hb d_MD_rankedOne_91 (by decide) ?_
                  exact ih13 (j3_63 + (1 : Int32)) (j4_63 + (1 : Int32)) H locs ls hm hP hD hS (lv_sub hl [3, 4, 5, 1, 0] rfl)
            refine lv_iload hx hb d_MD_rankedOne_13 (lv_at hl 4 rfl) ?_
            refine lv_bipush (v := (20 : Int32)) hx hb d_MD_rankedOne_15 (by decide) ?_
            refine lv_icmp_ge (tgt := 94) hx hb d_MD_rankedOne_17 (by decide) (fun hc => ?_) (fun hc => ?_)
            · replace hm := if_t hm hc
              refine lv_aload_n hx hb d_MD_rankedOne_94 rfl (lv_at hl 0 rfl) ?_
              refine va_get (D := (dC, dI)) (ci := 10) (v := .ref (q0 22)) (C := "AlarmMatrixModel") (T := T_MD) (N := 42) hx hb hts i_MD hown hK hP 0 rfl rfl 22 (by decide) (hts _ k5_42) (fun _ h9 => h9) rfl d_MD_rankedOne_95 ?_
              refine lv_iload_n hx hb d_MD_rankedOne_98 rfl (lv_at hl 2 rfl) ?_
              obtain ⟨h_99, hm⟩ := ck_s hm
              refine va_zald (f := (x0 22)) hx hb hK hP 16 1 rfl rfl h_99 d_MD_rankedOne_99 ?_
              refine lv_if_eq (tgt := 110) hx hb d_MD_rankedOne_100 (by decide) (fun hc => ?_) (fun hc => ?_)
              · replace hm := if_t hm hc
                refine lv_iinc (v := (v2_2 + (1 : Int32))) (lv' := [(2, .int (v2_2 + (1 : Int32))), (0, .ref h0), (1, .int a1), (3, .int v3_13), (4, .int v4_13)]) hx hb d_MD_rankedOne_110 hl (k := 2) rfl rfl (by decide) rfl (fun ls hl => ?_)
                refine lv_goto (tgt := 2) hx hb d_MD_rankedOne_113 (by decide) ?_
                exact ih2 (v2_2 + (1 : Int32)) H locs ls hm hP hD hS (lv_sub hl [1, 2, 0] rfl)
              · replace hm := if_f hm hc
                refine lv_iload_n hx hb d_MD_rankedOne_103 rfl (lv_at hl 3 rfl) ?_
                refine lv_iload_n hx hb d_MD_rankedOne_104 rfl (lv_at hl 1 rfl) ?_
                refine lv_icmp_ne (tgt := 110) hx hb d_MD_rankedOne_105 (by decide) (fun hc => ?_) (fun hc => ?_)
                · replace hm := if_f hm hc
                  refine lv_iinc (v := (v2_2 + (1 : Int32))) (lv' := [(2, .int (v2_2 + (1 : Int32))), (0, .ref h0), (1, .int a1), (3, .int v3_13), (4, .int v4_13)]) hx hb d_MD_rankedOne_110 hl (k := 2) rfl rfl (by decide) rfl (fun ls hl => ?_)
                  refine lv_goto (tgt := 2) hx hb d_MD_rankedOne_113 (by decide) ?_
                  exact ih2 (v2_2 + (1 : Int32)) H locs ls hm hP hD hS (lv_sub hl [1, 2, 0] rfl)
                · replace hm := if_t hm hc
                  refine lv_iload_n hx hb d_MD_rankedOne_108 rfl (lv_at hl 2 rfl) ?_
                  obtain rfl := Option.some.inj hm
                  rw [hQ]
                  exact kri hx hb hr hlocks hAe hP hK hD hS d_MD_rankedOne_109
            · replace hm := if_f hm hc
              refine lv_aload_n hx hb d_MD_rankedOne_20 rfl (lv_at hl 0 rfl) ?_
              refine va_get (D := (dC, dI)) (ci := 10) (v := .ref (q0 24)) (C := "AlarmMatrixModel") (T := T_MD) (N := 42) hx hb hts i_MD hown hK hP 0 rfl rfl 24 (by decide) (hts _ k5_44) (fun _ h9 => h9) rfl d_MD_rankedOne_21 ?_
              refine lv_iload hx hb d_MD_rankedOne_24 (lv_at hl 4 rfl) ?_
              obtain ⟨h_26, hm⟩ := ck_s hm
              refine va_iald (f := (x0 24)) hx hb hK hP 18 0 rfl rfl h_26 d_MD_rankedOne_26 ?_
              refine lv_aload_n hx hb d_MD_rankedOne_27 rfl (lv_at hl 0 rfl) ?_
              refine va_get (D := (dC, dI)) (ci := 10) (v := .ref (q0 24)) (C := "AlarmMatrixModel") (T := T_MD) (N := 42) hx hb hts i_MD hown hK hP 0 rfl rfl 24 (by decide) (hts _ k5_44) (fun _ h9 => h9) rfl d_MD_rankedOne_28 ?_
              refine lv_iload_n hx hb d_MD_rankedOne_31 rfl (lv_at hl 2 rfl) ?_
              obtain ⟨h_32, hm⟩ := ck_s hm
              refine va_iald (f := (x0 24)) hx hb hK hP 18 0 rfl rfl h_32 d_MD_rankedOne_32 ?_
              refine lv_icmp_gt (tgt := 58) hx hb d_MD_rankedOne_33 (by decide) (fun hc => ?_) (fun hc => ?_)
              · replace hm := if_t hm hc
                refine lv_iconst (v := (1 : Int32)) hx hb d_MD_rankedOne_58 (by decide) ?_
                refine lv_goto (tgt := 63) hx hb d_MD_rankedOne_59 (by decide) ?_
                exact J63 v3_13 v4_13 (1 : Int32) H locs ls hm hP hD hS (lv_sub hl [0, 1, 2, 3, 4] rfl)
              · replace hm := if_f hm hc
                refine lv_aload_n hx hb d_MD_rankedOne_36 rfl (lv_at hl 0 rfl) ?_
                refine va_get (D := (dC, dI)) (ci := 10) (v := .ref (q0 24)) (C := "AlarmMatrixModel") (T := T_MD) (N := 42) hx hb hts i_MD hown hK hP 0 rfl rfl 24 (by decide) (hts _ k5_44) (fun _ h9 => h9) rfl d_MD_rankedOne_37 ?_
                refine lv_iload hx hb d_MD_rankedOne_40 (lv_at hl 4 rfl) ?_
                obtain ⟨h_42, hm⟩ := ck_s hm
                refine va_iald (f := (x0 24)) hx hb hK hP 18 0 rfl rfl h_42 d_MD_rankedOne_42 ?_
                refine lv_aload_n hx hb d_MD_rankedOne_43 rfl (lv_at hl 0 rfl) ?_
                refine va_get (D := (dC, dI)) (ci := 10) (v := .ref (q0 24)) (C := "AlarmMatrixModel") (T := T_MD) (N := 42) hx hb hts i_MD hown hK hP 0 rfl rfl 24 (by decide) (hts _ k5_44) (fun _ h9 => h9) rfl d_MD_rankedOne_44 ?_
                refine lv_iload_n hx hb d_MD_rankedOne_47 rfl (lv_at hl 2 rfl) ?_
                obtain ⟨h_48, hm⟩ := ck_s hm
                refine va_iald (f := (x0 24)) hx hb hK hP 18 0 rfl rfl h_48 d_MD_rankedOne_48 ?_
                refine lv_icmp_ne (tgt := 62) hx hb d_MD_rankedOne_49 (by decide) (fun hc => ?_) (fun hc => ?_)
                · replace hm := if_f hm hc
                  refine lv_iconst (v := (0 : Int32)) hx hb d_MD_rankedOne_62 (by decide) ?_
                  exact J63 v3_13 v4_13 (0 : Int32) H locs ls hm hP hD hS (lv_sub hl [0, 1, 2, 3, 4] rfl)
                · replace hm := if_t hm hc
                  refine lv_iload hx hb d_MD_rankedOne_52 (lv_at hl 4 rfl) ?_
                  refine lv_iload_n hx hb d_MD_rankedOne_54 rfl (lv_at hl 2 rfl) ?_
                  refine lv_icmp_ge (tgt := 62) hx hb d_MD_rankedOne_55 (by decide) (fun hc => ?_) (fun hc => ?_)
                  · replace hm := if_t hm hc
                    refine lv_iconst (v := (0 : Int32)) hx hb d_MD_rankedOne_62 (by decide) ?_
                    exact J63 v3_13 v4_13 (0 : Int32) H locs ls hm hP hD hS (lv_sub hl [0, 1, 2, 3, 4] rfl)
                  · replace hm := if_f hm hc
                    refine lv_iconst (v := (1 : Int32)) hx hb d_MD_rankedOne_58 (by decide) ?_
                    refine lv_goto (tgt := 63) hx hb d_MD_rankedOne_59 (by decide) ?_
                    exact J63 v3_13 v4_13 (1 : Int32) H locs ls hm hP hD hS (lv_sub hl [0, 1, 2, 3, 4] rfl)
        exact L13 F (0 : Int32) (0 : Int32) H locs ls hm hP hD hS (lv_sub hl [2, 3, 4, 1, 0] rfl)
  exact L2 F (0 : Int32) H locs ls hm hP hD hS (lv_sub hl [1, 2, 0] rfl)
abbrev b_MD_go : ByteArray := prog_12_method_51_code
abbrev y_MD_go : MethodName := ⟨"AlarmMatrixModel", "go", "(I)I"⟩
theorem d_MD_go_0 : decode b_MD_go 0 = .ok (.aload_n 0, 1) := by decide +kernel
theorem d_MD_go_1 : decode b_MD_go 1 = .ok (.iload_n 1, 1) := by decide +kernel
theorem d_MD_go_2 : decode b_MD_go 2 = .ok (.iconst 0, 1) := by decide +kernel
theorem d_MD_go_3 : decode b_MD_go 3 = .ok (.invokevirtual 258, 3) := by decide +kernel
theorem d_MD_go_6 : decode b_MD_go 6 = .ok (.ifCond .ne 67, 3) := by decide +kernel
theorem d_MD_go_9 : decode b_MD_go 9 = .ok (.aload_n 0, 1) := by decide +kernel
theorem d_MD_go_10 : decode b_MD_go 10 = .ok (.getfield 80, 3) := by decide +kernel
theorem d_MD_go_13 : decode b_MD_go 13 = .ok (.iload_n 1, 1) := by decide +kernel
theorem d_MD_go_14 : decode b_MD_go 14 = .ok (.iaload, 1) := by decide +kernel
theorem d_MD_go_15 : decode b_MD_go 15 = .ok (.iconst 2, 1) := by decide +kernel
theorem d_MD_go_16 : decode b_MD_go 16 = .ok (.if_icmp .ne 16, 3) := by decide +kernel
theorem d_MD_go_19 : decode b_MD_go 19 = .ok (.aload_n 0, 1) := by decide +kernel
theorem d_MD_go_20 : decode b_MD_go 20 = .ok (.getfield 68, 3) := by decide +kernel
theorem d_MD_go_23 : decode b_MD_go 23 = .ok (.iload_n 1, 1) := by decide +kernel
theorem d_MD_go_24 : decode b_MD_go 24 = .ok (.baload, 1) := by decide +kernel
theorem d_MD_go_25 : decode b_MD_go 25 = .ok (.ifCond .ne 7, 3) := by decide +kernel
theorem d_MD_go_28 : decode b_MD_go 28 = .ok (.iconst 1, 1) := by decide +kernel
theorem d_MD_go_29 : decode b_MD_go 29 = .ok (.goto 4, 3) := by decide +kernel
theorem d_MD_go_32 : decode b_MD_go 32 = .ok (.iconst 0, 1) := by decide +kernel
theorem d_MD_go_33 : decode b_MD_go 33 = .ok (.istore_n 2, 1) := by decide +kernel
theorem d_MD_go_34 : decode b_MD_go 34 = .ok (.iload_n 2, 1) := by decide +kernel
theorem d_MD_go_35 : decode b_MD_go 35 = .ok (.ifCond .eq 9, 3) := by decide +kernel
theorem d_MD_go_38 : decode b_MD_go 38 = .ok (.aload_n 0, 1) := by decide +kernel
theorem d_MD_go_39 : decode b_MD_go 39 = .ok (.iload_n 1, 1) := by decide +kernel
theorem d_MD_go_40 : decode b_MD_go 40 = .ok (.iconst 0, 1) := by decide +kernel
theorem d_MD_go_41 : decode b_MD_go 41 = .ok (.invokevirtual 262, 3) := by decide +kernel
theorem d_MD_go_44 : decode b_MD_go 44 = .ok (.iload_n 2, 1) := by decide +kernel
theorem d_MD_go_45 : decode b_MD_go 45 = .ok (.ifCond .ne 13, 3) := by decide +kernel
theorem d_MD_go_48 : decode b_MD_go 48 = .ok (.aload_n 0, 1) := by decide +kernel
theorem d_MD_go_49 : decode b_MD_go 49 = .ok (.getfield 80, 3) := by decide +kernel
theorem d_MD_go_52 : decode b_MD_go 52 = .ok (.iload_n 1, 1) := by decide +kernel
theorem d_MD_go_53 : decode b_MD_go 53 = .ok (.iaload, 1) := by decide +kernel
theorem d_MD_go_54 : decode b_MD_go 54 = .ok (.iconst 1, 1) := by decide +kernel
theorem d_MD_go_55 : decode b_MD_go 55 = .ok (.if_icmp .ne 8, 3) := by decide +kernel
theorem d_MD_go_58 : decode b_MD_go 58 = .ok (.aload_n 0, 1) := by decide +kernel
theorem d_MD_go_59 : decode b_MD_go 59 = .ok (.iload_n 1, 1) := by decide +kernel
theorem d_MD_go_60 : decode b_MD_go 60 = .ok (.invokevirtual 223, 3) := by decide +kernel
theorem d_MD_go_63 : decode b_MD_go 63 = .ok (.iload_n 2, 1) := by decide +kernel
theorem d_MD_go_64 : decode b_MD_go 64 = .ok (.ifCond .eq 7, 3) := by decide +kernel
theorem d_MD_go_67 : decode b_MD_go 67 = .ok (.iconst 1, 1) := by decide +kernel
theorem d_MD_go_68 : decode b_MD_go 68 = .ok (.goto 4, 3) := by decide +kernel
theorem d_MD_go_71 : decode b_MD_go 71 = .ok (.iconst 0, 1) := by decide +kernel
theorem d_MD_go_72 : decode b_MD_go 72 = .ok (.ireturn, 1) := by decide +kernel
theorem d_MD_go_73 : decode b_MD_go 73 = .ok (.aload_n 0, 1) := by decide +kernel
theorem d_MD_go_74 : decode b_MD_go 74 = .ok (.getfield 80, 3) := by decide +kernel
theorem d_MD_go_77 : decode b_MD_go 77 = .ok (.iload_n 1, 1) := by decide +kernel
theorem d_MD_go_78 : decode b_MD_go 78 = .ok (.iaload, 1) := by decide +kernel
theorem d_MD_go_79 : decode b_MD_go 79 = .ok (.iconst 2, 1) := by decide +kernel
theorem d_MD_go_80 : decode b_MD_go 80 = .ok (.if_icmp .ne 5, 3) := by decide +kernel
theorem d_MD_go_83 : decode b_MD_go 83 = .ok (.iconst 0, 1) := by decide +kernel
theorem d_MD_go_84 : decode b_MD_go 84 = .ok (.ireturn, 1) := by decide +kernel
theorem d_MD_go_85 : decode b_MD_go 85 = .ok (.aload_n 0, 1) := by decide +kernel
theorem d_MD_go_86 : decode b_MD_go 86 = .ok (.getfield 80, 3) := by decide +kernel
theorem d_MD_go_89 : decode b_MD_go 89 = .ok (.iload_n 1, 1) := by decide +kernel
theorem d_MD_go_90 : decode b_MD_go 90 = .ok (.iaload, 1) := by decide +kernel
theorem d_MD_go_91 : decode b_MD_go 91 = .ok (.ifCond .ne 20, 3) := by decide +kernel
theorem d_MD_go_94 : decode b_MD_go 94 = .ok (.aload_n 0, 1) := by decide +kernel
theorem d_MD_go_95 : decode b_MD_go 95 = .ok (.getfield 80, 3) := by decide +kernel
theorem d_MD_go_98 : decode b_MD_go 98 = .ok (.iload_n 1, 1) := by decide +kernel
theorem d_MD_go_99 : decode b_MD_go 99 = .ok (.iconst 1, 1) := by decide +kernel
theorem d_MD_go_100 : decode b_MD_go 100 = .ok (.iastore, 1) := by decide +kernel
theorem d_MD_go_101 : decode b_MD_go 101 = .ok (.aload_n 0, 1) := by decide +kernel
theorem d_MD_go_102 : decode b_MD_go 102 = .ok (.getfield 83, 3) := by decide +kernel
theorem d_MD_go_105 : decode b_MD_go 105 = .ok (.iload_n 1, 1) := by decide +kernel
theorem d_MD_go_106 : decode b_MD_go 106 = .ok (.aload_n 0, 1) := by decide +kernel
theorem d_MD_go_107 : decode b_MD_go 107 = .ok (.getfield 236, 3) := by decide +kernel
theorem d_MD_go_110 : decode b_MD_go 110 = .ok (.iastore, 1) := by decide +kernel
theorem d_MD_go_111 : decode b_MD_go 111 = .ok (.aload_n 0, 1) := by decide +kernel
theorem d_MD_go_112 : decode b_MD_go 112 = .ok (.getfield 236, 3) := by decide +kernel
theorem d_MD_go_115 : decode b_MD_go 115 = .ok (.aload_n 0, 1) := by decide +kernel
theorem d_MD_go_116 : decode b_MD_go 116 = .ok (.getfield 83, 3) := by decide +kernel
theorem d_MD_go_119 : decode b_MD_go 119 = .ok (.iload_n 1, 1) := by decide +kernel
theorem d_MD_go_120 : decode b_MD_go 120 = .ok (.iaload, 1) := by decide +kernel
theorem d_MD_go_121 : decode b_MD_go 121 = .ok (.aload_n 0, 1) := by decide +kernel
theorem d_MD_go_122 : decode b_MD_go 122 = .ok (.getfield 65, 3) := by decide +kernel
theorem d_MD_go_125 : decode b_MD_go 125 = .ok (.iload_n 1, 1) := by decide +kernel
theorem d_MD_go_126 : decode b_MD_go 126 = .ok (.iaload, 1) := by decide +kernel
theorem d_MD_go_127 : decode b_MD_go 127 = .ok (.iadd, 1) := by decide +kernel
theorem d_MD_go_128 : decode b_MD_go 128 = .ok (.if_icmp .ge 23, 3) := by decide +kernel
theorem d_MD_go_131 : decode b_MD_go 131 = .ok (.aload_n 0, 1) := by decide +kernel
theorem d_MD_go_132 : decode b_MD_go 132 = .ok (.getfield 89, 3) := by decide +kernel
theorem d_MD_go_135 : decode b_MD_go 135 = .ok (.iload_n 1, 1) := by decide +kernel
theorem d_MD_go_136 : decode b_MD_go 136 = .ok (.baload, 1) := by decide +kernel
theorem d_MD_go_137 : decode b_MD_go 137 = .ok (.ifCond .ne 14, 3) := by decide +kernel
theorem d_MD_go_140 : decode b_MD_go 140 = .ok (.aload_n 0, 1) := by decide +kernel
theorem d_MD_go_141 : decode b_MD_go 141 = .ok (.iload_n 1, 1) := by decide +kernel
theorem d_MD_go_142 : decode b_MD_go 142 = .ok (.iconst 1, 1) := by decide +kernel
theorem d_MD_go_143 : decode b_MD_go 143 = .ok (.invokevirtual 258, 3) := by decide +kernel
theorem d_MD_go_146 : decode b_MD_go 146 = .ok (.ifCond .ne 5, 3) := by decide +kernel
theorem d_MD_go_149 : decode b_MD_go 149 = .ok (.iconst 0, 1) := by decide +kernel
theorem d_MD_go_150 : decode b_MD_go 150 = .ok (.ireturn, 1) := by decide +kernel
theorem d_MD_go_151 : decode b_MD_go 151 = .ok (.aload_n 0, 1) := by decide +kernel
theorem d_MD_go_152 : decode b_MD_go 152 = .ok (.iload_n 1, 1) := by decide +kernel
theorem d_MD_go_153 : decode b_MD_go 153 = .ok (.invokevirtual 223, 3) := by decide +kernel
theorem d_MD_go_156 : decode b_MD_go 156 = .ok (.aload_n 0, 1) := by decide +kernel
theorem d_MD_go_157 : decode b_MD_go 157 = .ok (.getfield 80, 3) := by decide +kernel
theorem d_MD_go_160 : decode b_MD_go 160 = .ok (.iload_n 1, 1) := by decide +kernel
theorem d_MD_go_161 : decode b_MD_go 161 = .ok (.iconst 2, 1) := by decide +kernel
theorem d_MD_go_162 : decode b_MD_go 162 = .ok (.iastore, 1) := by decide +kernel
theorem d_MD_go_163 : decode b_MD_go 163 = .ok (.aload_n 0, 1) := by decide +kernel
theorem d_MD_go_164 : decode b_MD_go 164 = .ok (.iload_n 1, 1) := by decide +kernel
theorem d_MD_go_165 : decode b_MD_go 165 = .ok (.iconst 1, 1) := by decide +kernel
theorem d_MD_go_166 : decode b_MD_go 166 = .ok (.invokevirtual 262, 3) := by decide +kernel
theorem d_MD_go_169 : decode b_MD_go 169 = .ok (.iconst 1, 1) := by decide +kernel
theorem d_MD_go_170 : decode b_MD_go 170 = .ok (.ireturn, 1) := by decide +kernel
def m_MD_go_J111 (F : Nat) (a1 : Int32) (t0_111 : St) : Option (Int32 × St) :=
  (ck a1 20 (ck a1 40 (if (((t0_111 33) a1.toNatClampNeg) + ((t0_111 25) a1.toNatClampNeg)) ≤ (t0_111 2 0) then (bn1 (m_MD_rests F t0_111 a1) (fun z0_153 => (ck a1 20 (lz (st z0_153 32 (upd (z0_153 32) a1.toNatClampNeg (2 : Int32))) (fun e0_162 => (bn1 (m_MD_tell F e0_162 a1 (1 : Int32)) (fun z0_166 => (some ((1 : Int32), z0_166))))))))) else (ck a1 20 (if ((t0_111 35) a1.toNatClampNeg) = (0 : Int32) then (bn1 (m_MD_isCalled F t0_111 a1 (1 : Int32)) (fun r143 => (if r143 = (0 : Int32) then (some ((0 : Int32), t0_111)) else (bn1 (m_MD_rests F t0_111 a1) (fun z0_153 => (ck a1 20 (lz (st z0_153 32 (upd (z0_153 32) a1.toNatClampNeg (2 : Int32))) (fun e0_162 => (bn1 (m_MD_tell F e0_162 a1 (1 : Int32)) (fun z0_166 => (some ((1 : Int32), z0_166)))))))))))) else (bn1 (m_MD_rests F t0_111 a1) (fun z0_153 => (ck a1 20 (lz (st z0_153 32 (upd (z0_153 32) a1.toNatClampNeg (2 : Int32))) (fun e0_162 => (bn1 (m_MD_tell F e0_162 a1 (1 : Int32)) (fun z0_166 => (some ((1 : Int32), z0_166))))))))))))))
theorem m_MD_go_J111_h {F : Nat} {a1 : Int32} {t0_111 : St} {o : (Int32 × St)} (h : m_MD_go_J111 F a1 t0_111 = some o) :
  (ck a1 20 (ck a1 40 (if (((t0_111 33) a1.toNatClampNeg) + ((t0_111 25) a1.toNatClampNeg)) ≤ (t0_111 2 0) then (bn1 (m_MD_rests F t0_111 a1) (fun z0_153 => (ck a1 20 (lz (st z0_153 32 (upd (z0_153 32) a1.toNatClampNeg (2 : Int32))) (fun e0_162 => (bn1 (m_MD_tell F e0_162 a1 (1 : Int32)) (fun z0_166 => (some ((1 : Int32), z0_166))))))))) else (ck a1 20 (if ((t0_111 35) a1.toNatClampNeg) = (0 : Int32) then (bn1 (m_MD_isCalled F t0_111 a1 (1 : Int32)) (fun r143 => (if r143 = (0 : Int32) then (some ((0 : Int32), t0_111)) else (bn1 (m_MD_rests F t0_111 a1) (fun z0_153 => (ck a1 20 (lz (st z0_153 32 (upd (z0_153 32) a1.toNatClampNeg (2 : Int32))) (fun e0_162 => (bn1 (m_MD_tell F e0_162 a1 (1 : Int32)) (fun z0_166 => (some ((1 : Int32), z0_166)))))))))))) else (bn1 (m_MD_rests F t0_111 a1) (fun z0_153 => (ck a1 20 (lz (st z0_153 32 (upd (z0_153 32) a1.toNatClampNeg (2 : Int32))) (fun e0_162 => (bn1 (m_MD_tell F e0_162 a1 (1 : Int32)) (fun z0_166 => (some ((1 : Int32), z0_166)))))))))))))) = some o := h
def m_MD_go_J44 (F : Nat) (a1 : Int32) (j2_44 : Int32) (t0_44 : St) : Option (Int32 × St) :=
  (if j2_44 = (0 : Int32) then (ck a1 20 (if ((t0_44 32) a1.toNatClampNeg) = (1 : Int32) then (bn1 (m_MD_rests F t0_44 a1) (fun z0_60 => (if j2_44 = (0 : Int32) then (some ((0 : Int32), z0_60)) else (some ((1 : Int32), z0_60))))) else (if j2_44 = (0 : Int32) then (some ((0 : Int32), t0_44)) else (some ((1 : Int32), t0_44))))) else (bn1 (m_MD_rests F t0_44 a1) (fun z0_60 => (if j2_44 = (0 : Int32) then (some ((0 : Int32), z0_60)) else (some ((1 : Int32), z0_60))))))
theorem m_MD_go_J44_h {F : Nat} {a1 : Int32} {j2_44 : Int32} {t0_44 : St} {o : (Int32 × St)} (h : m_MD_go_J44 F a1 j2_44 t0_44 = some o) :
  (if j2_44 = (0 : Int32) then (ck a1 20 (if ((t0_44 32) a1.toNatClampNeg) = (1 : Int32) then (bn1 (m_MD_rests F t0_44 a1) (fun z0_60 => (if j2_44 = (0 : Int32) then (some ((0 : Int32), z0_60)) else (some ((1 : Int32), z0_60))))) else (if j2_44 = (0 : Int32) then (some ((0 : Int32), t0_44)) else (some ((1 : Int32), t0_44))))) else (bn1 (m_MD_rests F t0_44 a1) (fun z0_60 => (if j2_44 = (0 : Int32) then (some ((0 : Int32), z0_60)) else (some ((1 : Int32), z0_60)))))) = some o := h
def m_MD_go (F : Nat) (x0 : St) (a1 : Int32) : Option (Int32 × St) :=
  (bn1 (m_MD_isCalled F x0 a1 (0 : Int32)) (fun r3 => (if r3 = (0 : Int32) then (ck a1 20 (if ((x0 32) a1.toNatClampNeg) = (2 : Int32) then (ck a1 40 (if ((x0 26) a1.toNatClampNeg) = (0 : Int32) then (if (1 : Int32) = (0 : Int32) then (m_MD_go_J44 F a1  (1 : Int32) x0) else (bn1 (m_MD_tell F x0 a1 (0 : Int32)) (fun z0_41 => (m_MD_go_J44 F a1  (1 : Int32) z0_41)))) else (if (0 : Int32) = (0 : Int32) then (m_MD_go_J44 F a1  (0 : Int32) x0) else (bn1 (m_MD_tell F x0 a1 (0 : Int32)) (fun z0_41 => (m_MD_go_J44 F a1  (0 : Int32) z0_41)))))) else (if (0 : Int32) = (0 : Int32) then (m_MD_go_J44 F a1  (0 : Int32) x0) else (bn1 (m_MD_tell F x0 a1 (0 : Int32)) (fun z0_41 => (m_MD_go_J44 F a1  (0 : Int32) z0_41)))))) else (ck a1 20 (if ((x0 32) a1.toNatClampNeg) = (2 : Int32) then (some ((0 : Int32), x0)) else (ck a1 20 (if ((x0 32) a1.toNatClampNeg) = (0 : Int32) then (ck a1 20 (lz (st x0 32 (upd (x0 32) a1.toNatClampNeg (1 : Int32))) (fun e0_100 => (ck a1 20 (lz (st e0_100 33 (upd (e0_100 33) a1.toNatClampNeg (e0_100 2 0))) (fun e0_110 => (m_MD_go_J111 F a1  e0_110))))))) else (m_MD_go_J111 F a1  x0))))))))
abbrev rm_MD_go : Room := { frames := 6, cells := 0, slots := 0, locals := 139 }
set_option maxHeartbeats 4000000 in
set_option maxRecDepth 100000 in
theorem c_MD_go {G : (Nat → Prop) → State → Prop} (hG : gok G) (hGn : gN G) (l : Launch) (dC : Nat → ClassId) (dI : Nat → Nat → Nat) (g : Nat → ClassId) (F : Nat) (sz : Nat) (h0 : Nat) (q0 : Nat → Nat) (x0 : St) (a1 : Int32) {o : Int32 × St} (hm : m_MD_go F x0 a1 = some o) : Met l y_MD_go (.code y_MD_go b_MD_go 3 (some .int) :: gw) rm_MD_go (kq (dC, dI) vwCl (tyv g) G [.ref h0, .int a1] sz (wd_MD g h0 q0 x0)) (kqi (dC, dI) vwCl (tyv g) (wd_MD g h0 q0 x0) o.1 (wd_MD g h0 q0 (o.2)) sz) 0 0 (va_A (wd_MD g h0 q0 x0) sz) := by
  unfold m_MD_go at hm
  refine km (Qc := fun sz => kqi (dC, dI) vwCl (tyv g) (wd_MD g h0 q0 x0) o.1 (wd_MD g h0 q0 (o.2)) sz) (cc := b_MD_go) (maxL := 3) (ret := some .int) (by decide) rfl (Nat.le_of_ble_eq_true rfl) ?_
  intro p e s m args below meth c Q hQ hx hb hr hts hown hlocks hml hnm H locs A hAe hA hP hK hD hS hGA ls hl
  have hl : lv_has ls 3 [(0, .ref h0), (1, .int a1)] := hl
  have hts : ∀ w ∈ gw, w.before args s = true := fun w h => hts w (List.mem_cons_of_mem _ h)
  have hown : s.vm.findClass "AlarmMatrixModel" = some m.cls := hown
  have J111 : ∀ (t0_111 : St) (H : Heap) (locs : List Loc) (ls : Array Slot), m_MD_go_J111 F a1  t0_111 = some o → va_P (dC, dI) vwCl (wd_MD g h0 q0 t0_111) H → va_D A (wd_MD g h0 q0 t0_111) → va_S A s.heap H locs → lv_has ls 3 [(0, .ref h0), (1, .int a1)] → W p l e rm_MD_go s m args below meth c H locs 0 0 Q (F0 m 111 ls []) := by
    intro t0_111 H locs ls hm hP hD hS hl
    replace hm := m_MD_go_J111_h hm
    refine lv_aload_n hx hb d_MD_go_111 rfl (lv_at hl 0 rfl) ?_
    refine va_get (D := (dC, dI)) (ci := 10) (v := .int (t0_111 2 0)) (C := "AlarmMatrixModel") (T := T_MD) (N := 42) hx hb hts i_MD hown hK hP 0 rfl rfl 2 (by decide) (hts _ k5_22) (fun _ h9 => h9) rfl d_MD_go_112 ?_
    refine lv_aload_n hx hb d_MD_go_115 rfl (lv_at hl 0 rfl) ?_
    refine va_get (D := (dC, dI)) (ci := 10) (v := .ref (q0 33)) (C := "AlarmMatrixModel") (T := T_MD) (N := 42) hx hb hts i_MD hown hK hP 0 rfl rfl 33 (by decide) (hts _ k5_53) (fun _ h9 => h9) rfl d_MD_go_116 ?_
    refine lv_iload_n hx hb d_MD_go_119 rfl (lv_at hl 1 rfl) ?_
    obtain ⟨h_120, hm⟩ := ck_s hm
    refine va_iald (f := (t0_111 33)) hx hb hK hP 25 0 rfl rfl h_120 d_MD_go_120 ?_
    refine lv_aload_n hx hb d_MD_go_121 rfl (lv_at hl 0 rfl) ?_
    refine va_get (D := (dC, dI)) (ci := 10) (v := .ref (q0 25)) (C := "AlarmMatrixModel") (T := T_MD) (N := 42) hx hb hts i_MD hown hK hP 0 rfl rfl 25 (by decide) (hts _ k5_45) (fun _ h9 => h9) rfl d_MD_go_122 ?_
    refine lv_iload_n hx hb d_MD_go_125 rfl (lv_at hl 1 rfl) ?_
    obtain ⟨h_126, hm⟩ := ck_s hm
    refine va_iald (f := (t0_111 25)) hx hb hK hP 19 0 rfl rfl h_126 d_MD_go_126 ?_
    refine lv_iadd hx hb d_MD_go_127 ?_
    refine lv_icmp_ge (tgt := 151) hx hb d_MD_go_128 (by decide) (fun hc => ?_) (fun hc => ?_)
    · replace hm := if_t hm hc
      refine lv_aload_n hx hb d_MD_go_151 rfl (lv_at hl 0 rfl) ?_
      refine lv_iload_n hx hb d_MD_go_152 rfl (lv_at hl 1 rfl) ?_
      obtain ⟨z0_153, hcl, hm⟩ := bn1_s hm
      refine kcv (wc := wd_MD g h0 q0 t0_111) (wr := ([] : va_W)) (w1 := wd_MD g h0 q0 z0_153) hP hD hS hA [0, 1, 2, 3, 4, 5, 6, 7, 8, 9, 10, 11, 12, 13, 14, 15, 16, 17, 18, 19, 20, 21, 22, 23, 24, 25, 26, 27, 28, 29, 30, 31] [] rfl rfl (by decide) (by decide) (va_runV (As := [.int a1]) (rest := []) ⟨hx, hb, hml, hown, hts⟩ (c_MD_rests hG hGn l dC dI g F H.size h0 q0 t0_111 a1 hcl) (cwV 1 hts (gdV k6_33 k6_35 kp_43 k1_10 k6_36) rfl rfl rfl (by decide +kernel) ⟨Nat.le_of_ble_eq_true rfl, Nat.le_of_ble_eq_true rfl⟩) (kpV hG hP hK hD hS hA hGA [0, 1, 2, 3, 4, 5, 6, 7, 8, 9, 10, 11, 12, 13, 14, 15, 16, 17, 18, 19, 20, 21, 22, 23, 24, 25, 26, 27, 28, 29, 30, 31] (by decide) rfl (ci := 10) (q0 := 0) rfl rfl rfl) rfl rfl hl.1 rfl (lv_room (Nat.le_of_ble_eq_true rfl)) d_MD_go_153 ⟨Nat.le_of_ble_eq_true rfl, Nat.le_of_ble_eq_true rfl⟩) (fun H locs hP hD hS => ?_)
      have hP : va_P (dC, dI) vwCl (wd_MD g h0 q0 z0_153) H := hP
      have hD : va_D A (wd_MD g h0 q0 z0_153) := hD
      refine lv_aload_n hx hb d_MD_go_156 rfl (lv_at hl 0 rfl) ?_
      refine va_get (D := (dC, dI)) (ci := 10) (v := .ref (q0 32)) (C := "AlarmMatrixModel") (T := T_MD) (N := 42) hx hb hts i_MD hown hK hP 0 rfl rfl 32 (by decide) (hts _ k5_52) (fun _ h9 => h9) rfl d_MD_go_157 ?_
      refine lv_iload_n hx hb d_MD_go_160 rfl (lv_at hl 1 rfl) ?_
      refine lv_iconst (v := (2 : Int32)) hx hb d_MD_go_161 (by decide) ?_
      obtain ⟨h_162, hm⟩ := ck_s hm
      obtain ⟨e0_162, he, hm⟩ := lz_s hm
      refine va_iast (f := (z0_153 32)) hx hb hK hP hD hS 24 0 rfl rfl h_162 d_MD_go_162 (fun H locs hP hD hS => ?_)
      have hP : va_P (dC, dI) vwCl (wd_MD g h0 q0 e0_162) H := by rw [he]; exact hP
      have hD : va_D A (wd_MD g h0 q0 e0_162) := by rw [he]; exact hD
      refine lv_aload_n hx hb d_MD_go_163 rfl (lv_at hl 0 rfl) ?_
      refine lv_iload_n hx hb d_MD_go_164 rfl (lv_at hl 1 rfl) ?_
      refine lv_iconst (v := (1 : Int32)) hx hb d_MD_go_165 (by decide) ?_
      obtain ⟨z0_166, hcl, hm⟩ := bn1_s hm
      refine kcv (wc := wd_MD g h0 q0 e0_162) (wr := ([] : va_W)) (w1 := wd_MD g h0 q0 z0_166) hP hD hS hA [0, 1, 2, 3, 4, 5, 6, 7, 8, 9, 10, 11, 12, 13, 14, 15, 16, 17, 18, 19, 20, 21, 22, 23, 24, 25, 26, 27, 28, 29, 30, 31] [] rfl rfl (by decide) (by decide) (va_runV (As := [.int a1, .int (1 : Int32)]) (rest := []) ⟨hx, hb, hml, hown, hts⟩ (c_MD_tell hG hGn l dC dI g F H.size h0 q0 e0_162 a1 (1 : Int32) hcl) (cwV 2 hts (gdV k6_113 k6_115 kp_54 k1_10 k6_116) rfl rfl rfl (by decide +kernel) ⟨Nat.le_of_ble_eq_true rfl, Nat.le_of_ble_eq_true rfl⟩) (kpV hG hP hK hD hS hA hGA [0, 1, 2, 3, 4, 5, 6, 7, 8, 9, 10, 11, 12, 13, 14, 15, 16, 17, 18, 19, 20, 21, 22, 23, 24, 25, 26, 27, 28, 29, 30, 31] (by decide) rfl (ci := 10) (q0 := 0) rfl rfl rfl) rfl rfl hl.1 rfl (lv_room (Nat.le_of_ble_eq_true rfl)) d_MD_go_166 ⟨Nat.le_of_ble_eq_true rfl, Nat.le_of_ble_eq_true rfl⟩) (fun H locs hP hD hS => ?_)
      have hP : va_P (dC, dI) vwCl (wd_MD g h0 q0 z0_166) H := hP
      have hD : va_D A (wd_MD g h0 q0 z0_166) := hD
      refine lv_iconst (v := (1 : Int32)) hx hb d_MD_go_169 (by decide) ?_
      obtain rfl := Option.some.inj hm
      rw [hQ]
      exact kri hx hb hr hlocks hAe hP hK hD hS d_MD_go_170
    · replace hm := if_f hm hc
      refine lv_aload_n hx hb d_MD_go_131 rfl (lv_at hl 0 rfl) ?_
      refine va_get (D := (dC, dI)) (ci := 10) (v := .ref (q0 35)) (C := "AlarmMatrixModel") (T := T_MD) (N := 42) hx hb hts i_MD hown hK hP 0 rfl rfl 35 (by decide) (hts _ k5_55) (fun _ h9 => h9) rfl d_MD_go_132 ?_
      refine lv_iload_n hx hb d_MD_go_135 rfl (lv_at hl 1 rfl) ?_
      obtain ⟨h_136, hm⟩ := ck_s hm
      refine va_zald (f := (t0_111 35)) hx hb hK hP 27 1 rfl rfl h_136 d_MD_go_136 ?_
      refine lv_if_ne (tgt := 151) hx hb d_MD_go_137 (by decide) (fun hc => ?_) (fun hc => ?_)
      · replace hm := if_f hm hc
        refine lv_aload_n hx hb d_MD_go_151 rfl (lv_at hl 0 rfl) ?_
        refine lv_iload_n hx hb d_MD_go_152 rfl (lv_at hl 1 rfl) ?_
        obtain ⟨z0_153, hcl, hm⟩ := bn1_s hm
        refine kcv (wc := wd_MD g h0 q0 t0_111) (wr := ([] : va_W)) (w1 := wd_MD g h0 q0 z0_153) hP hD hS hA [0, 1, 2, 3, 4, 5, 6, 7, 8, 9, 10, 11, 12, 13, 14, 15, 16, 17, 18, 19, 20, 21, 22, 23, 24, 25, 26, 27, 28, 29, 30, 31] [] rfl rfl (by decide) (by decide) (va_runV (As := [.int a1]) (rest := []) ⟨hx, hb, hml, hown, hts⟩ (c_MD_rests hG hGn l dC dI g F H.size h0 q0 t0_111 a1 hcl) (cwV 1 hts (gdV k6_33 k6_35 kp_43 k1_10 k6_36) rfl rfl rfl (by decide +kernel) ⟨Nat.le_of_ble_eq_true rfl, Nat.le_of_ble_eq_true rfl⟩) (kpV hG hP hK hD hS hA hGA [0, 1, 2, 3, 4, 5, 6, 7, 8, 9, 10, 11, 12, 13, 14, 15, 16, 17, 18, 19, 20, 21, 22, 23, 24, 25, 26, 27, 28, 29, 30, 31] (by decide) rfl (ci := 10) (q0 := 0) rfl rfl rfl) rfl rfl hl.1 rfl (lv_room (Nat.le_of_ble_eq_true rfl)) d_MD_go_153 ⟨Nat.le_of_ble_eq_true rfl, Nat.le_of_ble_eq_true rfl⟩) (fun H locs hP hD hS => ?_)
        have hP : va_P (dC, dI) vwCl (wd_MD g h0 q0 z0_153) H := hP
        have hD : va_D A (wd_MD g h0 q0 z0_153) := hD
        refine lv_aload_n hx hb d_MD_go_156 rfl (lv_at hl 0 rfl) ?_
        refine va_get (D := (dC, dI)) (ci := 10) (v := .ref (q0 32)) (C := "AlarmMatrixModel") (T := T_MD) (N := 42) hx hb hts i_MD hown hK hP 0 rfl rfl 32 (by decide) (hts _ k5_52) (fun _ h9 => h9) rfl d_MD_go_157 ?_
        refine lv_iload_n hx hb d_MD_go_160 rfl (lv_at hl 1 rfl) ?_
        refine lv_iconst (v := (2 : Int32)) hx hb d_MD_go_161 (by decide) ?_
        obtain ⟨h_162, hm⟩ := ck_s hm
        obtain ⟨e0_162, he, hm⟩ := lz_s hm
        refine va_iast (f := (z0_153 32)) hx hb hK hP hD hS 24 0 rfl rfl h_162 d_MD_go_162 (fun H locs hP hD hS => ?_)
        have hP : va_P (dC, dI) vwCl (wd_MD g h0 q0 e0_162) H := by rw [he]; exact hP
        have hD : va_D A (wd_MD g h0 q0 e0_162) := by rw [he]; exact hD
        refine lv_aload_n hx hb d_MD_go_163 rfl (lv_at hl 0 rfl) ?_
        refine lv_iload_n hx hb d_MD_go_164 rfl (lv_at hl 1 rfl) ?_
        refine lv_iconst (v := (1 : Int32)) hx hb d_MD_go_165 (by decide) ?_
        obtain ⟨z0_166, hcl, hm⟩ := bn1_s hm
        refine kcv (wc := wd_MD g h0 q0 e0_162) (wr := ([] : va_W)) (w1 := wd_MD g h0 q0 z0_166) hP hD hS hA [0, 1, 2, 3, 4, 5, 6, 7, 8, 9, 10, 11, 12, 13, 14, 15, 16, 17, 18, 19, 20, 21, 22, 23, 24, 25, 26, 27, 28, 29, 30, 31] [] rfl rfl (by decide) (by decide) (va_runV (As := [.int a1, .int (1 : Int32)]) (rest := []) ⟨hx, hb, hml, hown, hts⟩ (c_MD_tell hG hGn l dC dI g F H.size h0 q0 e0_162 a1 (1 : Int32) hcl) (cwV 2 hts (gdV k6_113 k6_115 kp_54 k1_10 k6_116) rfl rfl rfl (by decide +kernel) ⟨Nat.le_of_ble_eq_true rfl, Nat.le_of_ble_eq_true rfl⟩) (kpV hG hP hK hD hS hA hGA [0, 1, 2, 3, 4, 5, 6, 7, 8, 9, 10, 11, 12, 13, 14, 15, 16, 17, 18, 19, 20, 21, 22, 23, 24, 25, 26, 27, 28, 29, 30, 31] (by decide) rfl (ci := 10) (q0 := 0) rfl rfl rfl) rfl rfl hl.1 rfl (lv_room (Nat.le_of_ble_eq_true rfl)) d_MD_go_166 ⟨Nat.le_of_ble_eq_true rfl, Nat.le_of_ble_eq_true rfl⟩) (fun H locs hP hD hS => ?_)
        have hP : va_P (dC, dI) vwCl (wd_MD g h0 q0 z0_166) H := hP
        have hD : va_D A (wd_MD g h0 q0 z0_166) := hD
        refine lv_iconst (v := (1 : Int32)) hx hb d_MD_go_169 (by decide) ?_
        obtain rfl := Option.some.inj hm
        rw [hQ]
        exact kri hx hb hr hlocks hAe hP hK hD hS d_MD_go_170
      · replace hm := if_t hm hc
        refine lv_aload_n hx hb d_MD_go_140 rfl (lv_at hl 0 rfl) ?_
        refine lv_iload_n hx hb d_MD_go_141 rfl (lv_at hl 1 rfl) ?_
        refine lv_iconst (v := (1 : Int32)) hx hb d_MD_go_142 (by decide) ?_
        obtain ⟨r143, hcl, hm⟩ := bn1_s hm
        refine kci (wc := wd_MD g h0 q0 t0_111) (wr := ([] : va_W)) (w1 := wd_MD g h0 q0 t0_111) hP hD hS hA [0, 1, 2, 3, 4, 5, 6, 7, 8, 9, 10, 11, 12, 13, 14, 15, 16, 17, 18, 19, 20, 21, 22, 23, 24, 25, 26, 27, 28, 29, 30, 31] [] rfl rfl (by decide) (by decide) (va_runV (As := [.int a1, .int (1 : Int32)]) (rest := []) ⟨hx, hb, hml, hown, hts⟩ (c_MD_isCalled hG hGn l dC dI g F H.size h0 q0 t0_111 a1 (1 : Int32) hcl) (cwV 2 hts (gdV k6_89 k6_91 kp_48 k1_10 k6_92) rfl rfl rfl (by decide +kernel) ⟨Nat.le_of_ble_eq_true rfl, Nat.le_of_ble_eq_true rfl⟩) (kpV hG hP hK hD hS hA hGA [0, 1, 2, 3, 4, 5, 6, 7, 8, 9, 10, 11, 12, 13, 14, 15, 16, 17, 18, 19, 20, 21, 22, 23, 24, 25, 26, 27, 28, 29, 30, 31] (by decide) rfl (ci := 10) (q0 := 0) rfl rfl rfl) rfl rfl hl.1 rfl (lv_room (Nat.le_of_ble_eq_true rfl)) d_MD_go_143 ⟨Nat.le_of_ble_eq_true rfl, Nat.le_of_ble_eq_true rfl⟩) (fun H locs hP hD hS => ?_)
        have hP : va_P (dC, dI) vwCl (wd_MD g h0 q0 t0_111) H := hP
        have hD : va_D A (wd_MD g h0 q0 t0_111) := hD
        refine lv_if_ne (tgt := 151) hx hb d_MD_go_146 (by decide) (fun hc => ?_) (fun hc => ?_)
        · replace hm := if_f hm hc
          refine lv_aload_n hx hb d_MD_go_151 rfl (lv_at hl 0 rfl) ?_
          refine lv_iload_n hx hb d_MD_go_152 rfl (lv_at hl 1 rfl) ?_
          obtain ⟨z0_153, hcl, hm⟩ := bn1_s hm
          refine kcv (wc := wd_MD g h0 q0 t0_111) (wr := ([] : va_W)) (w1 := wd_MD g h0 q0 z0_153) hP hD hS hA [0, 1, 2, 3, 4, 5, 6, 7, 8, 9, 10, 11, 12, 13, 14, 15, 16, 17, 18, 19, 20, 21, 22, 23, 24, 25, 26, 27, 28, 29, 30, 31] [] rfl rfl (by decide) (by decide) (va_runV (As := [.int a1]) (rest := []) ⟨hx, hb, hml, hown, hts⟩ (c_MD_rests hG hGn l dC dI g F H.size h0 q0 t0_111 a1 hcl) (cwV 1 hts (gdV k6_33 k6_35 kp_43 k1_10 k6_36) rfl rfl rfl (by decide +kernel) ⟨Nat.le_of_ble_eq_true rfl, Nat.le_of_ble_eq_true rfl⟩) (kpV hG hP hK hD hS hA hGA [0, 1, 2, 3, 4, 5, 6, 7, 8, 9, 10, 11, 12, 13, 14, 15, 16, 17, 18, 19, 20, 21, 22, 23, 24, 25, 26, 27, 28, 29, 30, 31] (by decide) rfl (ci := 10) (q0 := 0) rfl rfl rfl) rfl rfl hl.1 rfl (lv_room (Nat.le_of_ble_eq_true rfl)) d_MD_go_153 ⟨Nat.le_of_ble_eq_true rfl, Nat.le_of_ble_eq_true rfl⟩) (fun H locs hP hD hS => ?_)
          have hP : va_P (dC, dI) vwCl (wd_MD g h0 q0 z0_153) H := hP
          have hD : va_D A (wd_MD g h0 q0 z0_153) := hD
          refine lv_aload_n hx hb d_MD_go_156 rfl (lv_at hl 0 rfl) ?_
          refine va_get (D := (dC, dI)) (ci := 10) (v := .ref (q0 32)) (C := "AlarmMatrixModel") (T := T_MD) (N := 42) hx hb hts i_MD hown hK hP 0 rfl rfl 32 (by decide) (hts _ k5_52) (fun _ h9 => h9) rfl d_MD_go_157 ?_
          refine lv_iload_n hx hb d_MD_go_160 rfl (lv_at hl 1 rfl) ?_
          refine lv_iconst (v := (2 : Int32)) hx hb d_MD_go_161 (by decide) ?_
          obtain ⟨h_162, hm⟩ := ck_s hm
          obtain ⟨e0_162, he, hm⟩ := lz_s hm
          refine va_iast (f := (z0_153 32)) hx hb hK hP hD hS 24 0 rfl rfl h_162 d_MD_go_162 (fun H locs hP hD hS => ?_)
          have hP : va_P (dC, dI) vwCl (wd_MD g h0 q0 e0_162) H := by rw [he]; exact hP
          have hD : va_D A (wd_MD g h0 q0 e0_162) := by rw [he]; exact hD
          refine lv_aload_n hx hb d_MD_go_163 rfl (lv_at hl 0 rfl) ?_
          refine lv_iload_n hx hb d_MD_go_164 rfl (lv_at hl 1 rfl) ?_
          refine lv_iconst (v := (1 : Int32)) hx hb d_MD_go_165 (by decide) ?_
          obtain ⟨z0_166, hcl, hm⟩ := bn1_s hm
          refine kcv (wc := wd_MD g h0 q0 e0_162) (wr := ([] : va_W)) (w1 := wd_MD g h0 q0 z0_166) hP hD hS hA [0, 1, 2, 3, 4, 5, 6, 7, 8, 9, 10, 11, 12, 13, 14, 15, 16, 17, 18, 19, 20, 21, 22, 23, 24, 25, 26, 27, 28, 29, 30, 31] [] rfl rfl (by decide) (by decide) (va_runV (As := [.int a1, .int (1 : Int32)]) (rest := []) ⟨hx, hb, hml, hown, hts⟩ (c_MD_tell hG hGn l dC dI g F H.size h0 q0 e0_162 a1 (1 : Int32) hcl) (cwV 2 hts (gdV k6_113 k6_115 kp_54 k1_10 k6_116) rfl rfl rfl (by decide +kernel) ⟨Nat.le_of_ble_eq_true rfl, Nat.le_of_ble_eq_true rfl⟩) (kpV hG hP hK hD hS hA hGA [0, 1, 2, 3, 4, 5, 6, 7, 8, 9, 10, 11, 12, 13, 14, 15, 16, 17, 18, 19, 20, 21, 22, 23, 24, 25, 26, 27, 28, 29, 30, 31] (by decide) rfl (ci := 10) (q0 := 0) rfl rfl rfl) rfl rfl hl.1 rfl (lv_room (Nat.le_of_ble_eq_true rfl)) d_MD_go_166 ⟨Nat.le_of_ble_eq_true rfl, Nat.le_of_ble_eq_true rfl⟩) (fun H locs hP hD hS => ?_)
          have hP : va_P (dC, dI) vwCl (wd_MD g h0 q0 z0_166) H := hP
          have hD : va_D A (wd_MD g h0 q0 z0_166) := hD
          refine lv_iconst (v := (1 : Int32)) hx hb d_MD_go_169 (by decide) ?_
          obtain rfl := Option.some.inj hm
          rw [hQ]
          exact kri hx hb hr hlocks hAe hP hK hD hS d_MD_go_170
        · replace hm := if_t hm hc
          refine lv_iconst (v := (0 : Int32)) hx hb d_MD_go_149 (by decide) ?_
          obtain rfl := Option.some.inj hm
          rw [hQ]
          exact kri hx hb hr hlocks hAe hP hK hD hS d_MD_go_150
  have J44 : ∀ (j2_44 : Int32) (t0_44 : St) (H : Heap) (locs : List Loc) (ls : Array Slot), m_MD_go_J44 F a1  j2_44 t0_44 = some o → va_P (dC, dI) vwCl (wd_MD g h0 q0 t0_44) H → va_D A (wd_MD g h0 q0 t0_44) → va_S A s.heap H locs → lv_has ls 3 [(0, .ref h0), (1, .int a1), (2, .int j2_44)] → W p l e rm_MD_go s m args below meth c H locs 0 0 Q (F0 m 44 ls []) := by
    intro j2_44 t0_44 H locs ls hm hP hD hS hl
    replace hm := m_MD_go_J44_h hm
    refine lv_iload_n hx hb d_MD_go_44 rfl (lv_at hl 2 rfl) ?_
    refine lv_if_ne (tgt := 58) hx hb d_MD_go_45 (by decide) (fun hc => ?_) (fun hc => ?_)
    · replace hm := if_f hm hc
      refine lv_aload_n hx hb d_MD_go_58 rfl (lv_at hl 0 rfl) ?_
      refine lv_iload_n hx hb d_MD_go_59 rfl (lv_at hl 1 rfl) ?_
      obtain ⟨z0_60, hcl, hm⟩ := bn1_s hm
      refine kcv (wc := wd_MD g h0 q0 t0_44) (wr := ([] : va_W)) (w1 := wd_MD g h0 q0 z0_60) hP hD hS hA [0, 1, 2, 3, 4, 5, 6, 7, 8, 9, 10, 11, 12, 13, 14, 15, 16, 17, 18, 19, 20, 21, 22, 23, 24, 25, 26, 27, 28, 29, 30, 31] [] rfl rfl (by decide) (by decide) (va_runV (As := [.int a1]) (rest := []) ⟨hx, hb, hml, hown, hts⟩ (c_MD_rests hG hGn l dC dI g F H.size h0 q0 t0_44 a1 hcl) (cwV 1 hts (gdV k6_33 k6_35 kp_43 k1_10 k6_36) rfl rfl rfl (by decide +kernel) ⟨Nat.le_of_ble_eq_true rfl, Nat.le_of_ble_eq_true rfl⟩) (kpV hG hP hK hD hS hA hGA [0, 1, 2, 3, 4, 5, 6, 7, 8, 9, 10, 11, 12, 13, 14, 15, 16, 17, 18, 19, 20, 21, 22, 23, 24, 25, 26, 27, 28, 29, 30, 31] (by decide) rfl (ci := 10) (q0 := 0) rfl rfl rfl) rfl rfl hl.1 rfl (lv_room (Nat.le_of_ble_eq_true rfl)) d_MD_go_60 ⟨Nat.le_of_ble_eq_true rfl, Nat.le_of_ble_eq_true rfl⟩) (fun H locs hP hD hS => ?_)
      have hP : va_P (dC, dI) vwCl (wd_MD g h0 q0 z0_60) H := hP
      have hD : va_D A (wd_MD g h0 q0 z0_60) := hD
      refine lv_iload_n hx hb d_MD_go_63 rfl (lv_at hl 2 rfl) ?_
      refine lv_if_eq (tgt := 71) hx hb d_MD_go_64 (by decide) (fun hc => ?_) (fun hc => ?_)
      · replace hm := if_t hm hc
        refine lv_iconst (v := (0 : Int32)) hx hb d_MD_go_71 (by decide) ?_
        obtain rfl := Option.some.inj hm
        rw [hQ]
        exact kri hx hb hr hlocks hAe hP hK hD hS d_MD_go_72
      · replace hm := if_f hm hc
        refine lv_iconst (v := (1 : Int32)) hx hb d_MD_go_67 (by decide) ?_
        refine lv_goto (tgt := 72) hx hb d_MD_go_68 (by decide) ?_
        obtain rfl := Option.some.inj hm
        rw [hQ]
        exact kri hx hb hr hlocks hAe hP hK hD hS d_MD_go_72
    · replace hm := if_t hm hc
      refine lv_aload_n hx hb d_MD_go_48 rfl (lv_at hl 0 rfl) ?_
      refine va_get (D := (dC, dI)) (ci := 10) (v := .ref (q0 32)) (C := "AlarmMatrixModel") (T := T_MD) (N := 42) hx hb hts i_MD hown hK hP 0 rfl rfl 32 (by decide) (hts _ k5_52) (fun _ h9 => h9) rfl d_MD_go_49 ?_
      refine lv_iload_n hx hb d_MD_go_52 rfl (lv_at hl 1 rfl) ?_
      obtain ⟨h_53, hm⟩ := ck_s hm
      refine va_iald (f := (t0_44 32)) hx hb hK hP 24 0 rfl rfl h_53 d_MD_go_53 ?_
      refine lv_iconst (v := (1 : Int32)) hx hb d_MD_go_54 (by decide) ?_
      refine lv_icmp_ne (tgt := 63) hx hb d_MD_go_55 (by decide) (fun hc => ?_) (fun hc => ?_)
      · replace hm := if_f hm hc
        refine lv_iload_n hx hb d_MD_go_63 rfl (lv_at hl 2 rfl) ?_
        refine lv_if_eq (tgt := 71) hx hb d_MD_go_64 (by decide) (fun hc => ?_) (fun hc => ?_)
        · replace hm := if_t hm hc
          refine lv_iconst (v := (0 : Int32)) hx hb d_MD_go_71 (by decide) ?_
          obtain rfl := Option.some.inj hm
          rw [hQ]
          exact kri hx hb hr hlocks hAe hP hK hD hS d_MD_go_72
        · replace hm := if_f hm hc
          refine lv_iconst (v := (1 : Int32)) hx hb d_MD_go_67 (by decide) ?_
          refine lv_goto (tgt := 72) hx hb d_MD_go_68 (by decide) ?_
          obtain rfl := Option.some.inj hm
          rw [hQ]
          exact kri hx hb hr hlocks hAe hP hK hD hS d_MD_go_72
      · replace hm := if_t hm hc
        refine lv_aload_n hx hb d_MD_go_58 rfl (lv_at hl 0 rfl) ?_
        refine lv_iload_n hx hb d_MD_go_59 rfl (lv_at hl 1 rfl) ?_
        obtain ⟨z0_60, hcl, hm⟩ := bn1_s hm
        refine kcv (wc := wd_MD g h0 q0 t0_44) (wr := ([] : va_W)) (w1 := wd_MD g h0 q0 z0_60) hP hD hS hA [0, 1, 2, 3, 4, 5, 6, 7, 8, 9, 10, 11, 12, 13, 14, 15, 16, 17, 18, 19, 20, 21, 22, 23, 24, 25, 26, 27, 28, 29, 30, 31] [] rfl rfl (by decide) (by decide) (va_runV (As := [.int a1]) (rest := []) ⟨hx, hb, hml, hown, hts⟩ (c_MD_rests hG hGn l dC dI g F H.size h0 q0 t0_44 a1 hcl) (cwV 1 hts (gdV k6_33 k6_35 kp_43 k1_10 k6_36) rfl rfl rfl (by decide +kernel) ⟨Nat.le_of_ble_eq_true rfl, Nat.le_of_ble_eq_true rfl⟩) (kpV hG hP hK hD hS hA hGA [0, 1, 2, 3, 4, 5, 6, 7, 8, 9, 10, 11, 12, 13, 14, 15, 16, 17, 18, 19, 20, 21, 22, 23, 24, 25, 26, 27, 28, 29, 30, 31] (by decide) rfl (ci := 10) (q0 := 0) rfl rfl rfl) rfl rfl hl.1 rfl (lv_room (Nat.le_of_ble_eq_true rfl)) d_MD_go_60 ⟨Nat.le_of_ble_eq_true rfl, Nat.le_of_ble_eq_true rfl⟩) (fun H locs hP hD hS => ?_)
        have hP : va_P (dC, dI) vwCl (wd_MD g h0 q0 z0_60) H := hP
        have hD : va_D A (wd_MD g h0 q0 z0_60) := hD
        refine lv_iload_n hx hb d_MD_go_63 rfl (lv_at hl 2 rfl) ?_
        refine lv_if_eq (tgt := 71) hx hb d_MD_go_64 (by decide) (fun hc => ?_) (fun hc => ?_)
        · replace hm := if_t hm hc
          refine lv_iconst (v := (0 : Int32)) hx hb d_MD_go_71 (by decide) ?_
          obtain rfl := Option.some.inj hm
          rw [hQ]
          exact kri hx hb hr hlocks hAe hP hK hD hS d_MD_go_72
        · replace hm := if_f hm hc
          refine lv_iconst (v := (1 : Int32)) hx hb d_MD_go_67 (by decide) ?_
          refine lv_goto (tgt := 72) hx hb d_MD_go_68 (by decide) ?_
          obtain rfl := Option.some.inj hm
          rw [hQ]
          exact kri hx hb hr hlocks hAe hP hK hD hS d_MD_go_72
  refine lv_aload_n hx hb d_MD_go_0 rfl (lv_at hl 0 rfl) ?_
  refine lv_iload_n hx hb d_MD_go_1 rfl (lv_at hl 1 rfl) ?_
  refine lv_iconst (v := (0 : Int32)) hx hb d_MD_go_2 (by decide) ?_
  obtain ⟨r3, hcl, hm⟩ := bn1_s hm
  refine kci (wc := wd_MD g h0 q0 x0) (wr := ([] : va_W)) (w1 := wd_MD g h0 q0 x0) hP hD hS hA [0, 1, 2, 3, 4, 5, 6, 7, 8, 9, 10, 11, 12, 13, 14, 15, 16, 17, 18, 19, 20, 21, 22, 23, 24, 25, 26, 27, 28, 29, 30, 31] [] rfl rfl (by decide) (by decide) (va_runV (As := [.int a1, .int (0 : Int32)]) (rest := []) ⟨hx, hb, hml, hown, hts⟩ (c_MD_isCalled hG hGn l dC dI g F H.size h0 q0 x0 a1 (0 : Int32) hcl) (cwV 2 hts (gdV k6_89 k6_91 kp_48 k1_10 k6_92) rfl rfl rfl (by decide +kernel) ⟨Nat.le_of_ble_eq_true rfl, Nat.le_of_ble_eq_true rfl⟩) (kpV hG hP hK hD hS hA hGA [0, 1, 2, 3, 4, 5, 6, 7, 8, 9, 10, 11, 12, 13, 14, 15, 16, 17, 18, 19, 20, 21, 22, 23, 24, 25, 26, 27, 28, 29, 30, 31] (by decide) rfl (ci := 10) (q0 := 0) rfl rfl rfl) rfl rfl hl.1 rfl (lv_room (Nat.le_of_ble_eq_true rfl)) d_MD_go_3 ⟨Nat.le_of_ble_eq_true rfl, Nat.le_of_ble_eq_true rfl⟩) (fun H locs hP hD hS => ?_)
  have hP : va_P (dC, dI) vwCl (wd_MD g h0 q0 x0) H := hP
  have hD : va_D A (wd_MD g h0 q0 x0) := hD
  refine lv_if_ne (tgt := 73) hx hb d_MD_go_6 (by decide) (fun hc => ?_) (fun hc => ?_)
  · replace hm := if_f hm hc
    refine lv_aload_n hx hb d_MD_go_73 rfl (lv_at hl 0 rfl) ?_
    refine va_get (D := (dC, dI)) (ci := 10) (v := .ref (q0 32)) (C := "AlarmMatrixModel") (T := T_MD) (N := 42) hx hb hts i_MD hown hK hP 0 rfl rfl 32 (by decide) (hts _ k5_52) (fun _ h9 => h9) rfl d_MD_go_74 ?_
    refine lv_iload_n hx hb d_MD_go_77 rfl (lv_at hl 1 rfl) ?_
    obtain ⟨h_78, hm⟩ := ck_s hm
    refine va_iald (f := (x0 32)) hx hb hK hP 24 0 rfl rfl h_78 d_MD_go_78 ?_
    refine lv_iconst (v := (2 : Int32)) hx hb d_MD_go_79 (by decide) ?_
    refine lv_icmp_ne (tgt := 85) hx hb d_MD_go_80 (by decide) (fun hc => ?_) (fun hc => ?_)
    · replace hm := if_f hm hc
      refine lv_aload_n hx hb d_MD_go_85 rfl (lv_at hl 0 rfl) ?_
      refine va_get (D := (dC, dI)) (ci := 10) (v := .ref (q0 32)) (C := "AlarmMatrixModel") (T := T_MD) (N := 42) hx hb hts i_MD hown hK hP 0 rfl rfl 32 (by decide) (hts _ k5_52) (fun _ h9 => h9) rfl d_MD_go_86 ?_
      refine lv_iload_n hx hb d_MD_go_89 rfl (lv_at hl 1 rfl) ?_
      obtain ⟨h_90, hm⟩ := ck_s hm
      refine va_iald (f := (x0 32)) hx hb hK hP 24 0 rfl rfl h_90 d_MD_go_90 ?_
      refine lv_if_ne (tgt := 111) hx hb d_MD_go_91 (by decide) (fun hc => ?_) (fun hc => ?_)
      · replace hm := if_f hm hc
        exact J111 x0 H locs ls hm hP hD hS (lv_sub hl [0, 1] rfl)
      · replace hm := if_t hm hc
        refine lv_aload_n hx hb d_MD_go_94 rfl (lv_at hl 0 rfl) ?_
        refine va_get (D := (dC, dI)) (ci := 10) (v := .ref (q0 32)) (C := "AlarmMatrixModel") (T := T_MD) (N := 42) hx hb hts i_MD hown hK hP 0 rfl rfl 32 (by decide) (hts _ k5_52) (fun _ h9 => h9) rfl d_MD_go_95 ?_
        refine lv_iload_n hx hb d_MD_go_98 rfl (lv_at hl 1 rfl) ?_
        refine lv_iconst (v := (1 : Int32)) hx hb d_MD_go_99 (by decide) ?_
        obtain ⟨h_100, hm⟩ := ck_s hm
        obtain ⟨e0_100, he, hm⟩ := lz_s hm
        refine va_iast (f := (x0 32)) hx hb hK hP hD hS 24 0 rfl rfl h_100 d_MD_go_100 (fun H locs hP hD hS => ?_)
        have hP : va_P (dC, dI) vwCl (wd_MD g h0 q0 e0_100) H := by rw [he]; exact hP
        have hD : va_D A (wd_MD g h0 q0 e0_100) := by rw [he]; exact hD
        refine lv_aload_n hx hb d_MD_go_101 rfl (lv_at hl 0 rfl) ?_
        refine va_get (D := (dC, dI)) (ci := 10) (v := .ref (q0 33)) (C := "AlarmMatrixModel") (T := T_MD) (N := 42) hx hb hts i_MD hown hK hP 0 rfl rfl 33 (by decide) (hts _ k5_53) (fun _ h9 => h9) rfl d_MD_go_102 ?_
        refine lv_iload_n hx hb d_MD_go_105 rfl (lv_at hl 1 rfl) ?_
        refine lv_aload_n hx hb d_MD_go_106 rfl (lv_at hl 0 rfl) ?_
        refine va_get (D := (dC, dI)) (ci := 10) (v := .int (e0_100 2 0)) (C := "AlarmMatrixModel") (T := T_MD) (N := 42) hx hb hts i_MD hown hK hP 0 rfl rfl 2 (by decide) (hts _ k5_22) (fun _ h9 => h9) rfl d_MD_go_107 ?_
        obtain ⟨h_110, hm⟩ := ck_s hm
        obtain ⟨e0_110, he, hm⟩ := lz_s hm
        refine va_iast (f := (e0_100 33)) hx hb hK hP hD hS 25 0 rfl rfl h_110 d_MD_go_110 (fun H locs hP hD hS => ?_)
        have hP : va_P (dC, dI) vwCl (wd_MD g h0 q0 e0_110) H := by rw [he]; exact hP
        have hD : va_D A (wd_MD g h0 q0 e0_110) := by rw [he]; exact hD
        exact J111 e0_110 H locs ls hm hP hD hS (lv_sub hl [0, 1] rfl)
    · replace hm := if_t hm hc
      refine lv_iconst (v := (0 : Int32)) hx hb d_MD_go_83 (by decide) ?_
      obtain rfl := Option.some.inj hm
      rw [hQ]
      exact kri hx hb hr hlocks hAe hP hK hD hS d_MD_go_84
  · replace hm := if_t hm hc
    refine lv_aload_n hx hb d_MD_go_9 rfl (lv_at hl 0 rfl) ?_
    refine va_get (D := (dC, dI)) (ci := 10) (v := .ref (q0 32)) (C := "AlarmMatrixModel") (T := T_MD) (N := 42) hx hb hts i_MD hown hK hP 0 rfl rfl 32 (by decide) (hts _ k5_52) (fun _ h9 => h9) rfl d_MD_go_10 ?_
    refine lv_iload_n hx hb d_MD_go_13 rfl (lv_at hl 1 rfl) ?_
    obtain ⟨h_14, hm⟩ := ck_s hm
    refine va_iald (f := (x0 32)) hx hb hK hP 24 0 rfl rfl h_14 d_MD_go_14 ?_
    refine lv_iconst (v := (2 : Int32)) hx hb d_MD_go_15 (by decide) ?_
    refine lv_icmp_ne (tgt := 32) hx hb d_MD_go_16 (by decide) (fun hc => ?_) (fun hc => ?_)
    · replace hm := if_f hm hc
      refine lv_iconst (v := (0 : Int32)) hx hb d_MD_go_32 (by decide) ?_
      refine lv_istore_n (lv' := [(2, .int (0 : Int32)), (0, .ref h0), (1, .int a1)]) hx hb d_MD_go_33 rfl hl (by decide) rfl (fun ls hl => ?_)
      refine lv_iload_n hx hb d_MD_go_34 rfl (lv_at hl 0 rfl) ?_
      refine lv_if_eq (tgt := 44) hx hb d_MD_go_35 (by decide) (fun hc => ?_) (fun hc => ?_)
      · replace hm := if_t hm hc
        exact J44 (0 : Int32) x0 H locs ls hm hP hD hS (lv_sub hl [1, 2, 0] rfl)
      · replace hm := if_f hm hc
        refine lv_aload_n hx hb d_MD_go_38 rfl (lv_at hl 1 rfl) ?_
        refine lv_iload_n hx hb d_MD_go_39 rfl (lv_at hl 2 rfl) ?_
        refine lv_iconst (v := (0 : Int32)) hx hb d_MD_go_40 (by decide) ?_
        obtain ⟨z0_41, hcl, hm⟩ := bn1_s hm
        refine kcv (wc := wd_MD g h0 q0 x0) (wr := ([] : va_W)) (w1 := wd_MD g h0 q0 z0_41) hP hD hS hA [0, 1, 2, 3, 4, 5, 6, 7, 8, 9, 10, 11, 12, 13, 14, 15, 16, 17, 18, 19, 20, 21, 22, 23, 24, 25, 26, 27, 28, 29, 30, 31] [] rfl rfl (by decide) (by decide) (va_runV (As := [.int a1, .int (0 : Int32)]) (rest := []) ⟨hx, hb, hml, hown, hts⟩ (c_MD_tell hG hGn l dC dI g F H.size h0 q0 x0 a1 (0 : Int32) hcl) (cwV 2 hts (gdV k6_113 k6_115 kp_54 k1_10 k6_116) rfl rfl rfl (by decide +kernel) ⟨Nat.le_of_ble_eq_true rfl, Nat.le_of_ble_eq_true rfl⟩) (kpV hG hP hK hD hS hA hGA [0, 1, 2, 3, 4, 5, 6, 7, 8, 9, 10, 11, 12, 13, 14, 15, 16, 17, 18, 19, 20, 21, 22, 23, 24, 25, 26, 27, 28, 29, 30, 31] (by decide) rfl (ci := 10) (q0 := 0) rfl rfl rfl) rfl rfl hl.1 rfl (lv_room (Nat.le_of_ble_eq_true rfl)) d_MD_go_41 ⟨Nat.le_of_ble_eq_true rfl, Nat.le_of_ble_eq_true rfl⟩) (fun H locs hP hD hS => ?_)
        have hP : va_P (dC, dI) vwCl (wd_MD g h0 q0 z0_41) H := hP
        have hD : va_D A (wd_MD g h0 q0 z0_41) := hD
        exact J44 (0 : Int32) z0_41 H locs ls hm hP hD hS (lv_sub hl [1, 2, 0] rfl)
    · replace hm := if_t hm hc
      refine lv_aload_n hx hb d_MD_go_19 rfl (lv_at hl 0 rfl) ?_
      refine va_get (D := (dC, dI)) (ci := 10) (v := .ref (q0 26)) (C := "AlarmMatrixModel") (T := T_MD) (N := 42) hx hb hts i_MD hown hK hP 0 rfl rfl 26 (by decide) (hts _ k5_46) (fun _ h9 => h9) rfl d_MD_go_20 ?_
      refine lv_iload_n hx hb d_MD_go_23 rfl (lv_at hl 1 rfl) ?_
      obtain ⟨h_24, hm⟩ := ck_s hm
      refine va_zald (f := (x0 26)) hx hb hK hP 20 1 rfl rfl h_24 d_MD_go_24 ?_
      refine lv_if_ne (tgt := 32) hx hb d_MD_go_25 (by decide) (fun hc => ?_) (fun hc => ?_)
      · replace hm := if_f hm hc
        refine lv_iconst (v := (0 : Int32)) hx hb d_MD_go_32 (by decide) ?_
        refine lv_istore_n (lv' := [(2, .int (0 : Int32)), (0, .ref h0), (1, .int a1)]) hx hb d_MD_go_33 rfl hl (by decide) rfl (fun ls hl => ?_)
        refine lv_iload_n hx hb d_MD_go_34 rfl (lv_at hl 0 rfl) ?_
        refine lv_if_eq (tgt := 44) hx hb d_MD_go_35 (by decide) (fun hc => ?_) (fun hc => ?_)
        · replace hm := if_t hm hc
          exact J44 (0 : Int32) x0 H locs ls hm hP hD hS (lv_sub hl [1, 2, 0] rfl)
        · replace hm := if_f hm hc
          refine lv_aload_n hx hb d_MD_go_38 rfl (lv_at hl 1 rfl) ?_
          refine lv_iload_n hx hb d_MD_go_39 rfl (lv_at hl 2 rfl) ?_
          refine lv_iconst (v := (0 : Int32)) hx hb d_MD_go_40 (by decide) ?_
          obtain ⟨z0_41, hcl, hm⟩ := bn1_s hm
          refine kcv (wc := wd_MD g h0 q0 x0) (wr := ([] : va_W)) (w1 := wd_MD g h0 q0 z0_41) hP hD hS hA [0, 1, 2, 3, 4, 5, 6, 7, 8, 9, 10, 11, 12, 13, 14, 15, 16, 17, 18, 19, 20, 21, 22, 23, 24, 25, 26, 27, 28, 29, 30, 31] [] rfl rfl (by decide) (by decide) (va_runV (As := [.int a1, .int (0 : Int32)]) (rest := []) ⟨hx, hb, hml, hown, hts⟩ (c_MD_tell hG hGn l dC dI g F H.size h0 q0 x0 a1 (0 : Int32) hcl) (cwV 2 hts (gdV k6_113 k6_115 kp_54 k1_10 k6_116) rfl rfl rfl (by decide +kernel) ⟨Nat.le_of_ble_eq_true rfl, Nat.le_of_ble_eq_true rfl⟩) (kpV hG hP hK hD hS hA hGA [0, 1, 2, 3, 4, 5, 6, 7, 8, 9, 10, 11, 12, 13, 14, 15, 16, 17, 18, 19, 20, 21, 22, 23, 24, 25, 26, 27, 28, 29, 30, 31] (by decide) rfl (ci := 10) (q0 := 0) rfl rfl rfl) rfl rfl hl.1 rfl (lv_room (Nat.le_of_ble_eq_true rfl)) d_MD_go_41 ⟨Nat.le_of_ble_eq_true rfl, Nat.le_of_ble_eq_true rfl⟩) (fun H locs hP hD hS => ?_)
          have hP : va_P (dC, dI) vwCl (wd_MD g h0 q0 z0_41) H := hP
          have hD : va_D A (wd_MD g h0 q0 z0_41) := hD
          exact J44 (0 : Int32) z0_41 H locs ls hm hP hD hS (lv_sub hl [1, 2, 0] rfl)
      · replace hm := if_t hm hc
        refine lv_iconst (v := (1 : Int32)) hx hb d_MD_go_28 (by decide) ?_
        refine lv_goto (tgt := 33) hx hb d_MD_go_29 (by decide) ?_
        refine lv_istore_n (lv' := [(2, .int (1 : Int32)), (0, .ref h0), (1, .int a1)]) hx hb d_MD_go_33 rfl hl (by decide) rfl (fun ls hl => ?_)
        refine lv_iload_n hx hb d_MD_go_34 rfl (lv_at hl 0 rfl) ?_
        refine lv_if_eq (tgt := 44) hx hb d_MD_go_35 (by decide) (fun hc => ?_) (fun hc => ?_)
        · replace hm := if_t hm hc
          exact J44 (1 : Int32) x0 H locs ls hm hP hD hS (lv_sub hl [1, 2, 0] rfl)
        · replace hm := if_f hm hc
          refine lv_aload_n hx hb d_MD_go_38 rfl (lv_at hl 1 rfl) ?_
          refine lv_iload_n hx hb d_MD_go_39 rfl (lv_at hl 2 rfl) ?_
          refine lv_iconst (v := (0 : Int32)) hx hb d_MD_go_40 (by decide) ?_
          obtain ⟨z0_41, hcl, hm⟩ := bn1_s hm
          refine kcv (wc := wd_MD g h0 q0 x0) (wr := ([] : va_W)) (w1 := wd_MD g h0 q0 z0_41) hP hD hS hA [0, 1, 2, 3, 4, 5, 6, 7, 8, 9, 10, 11, 12, 13, 14, 15, 16, 17, 18, 19, 20, 21, 22, 23, 24, 25, 26, 27, 28, 29, 30, 31] [] rfl rfl (by decide) (by decide) (va_runV (As := [.int a1, .int (0 : Int32)]) (rest := []) ⟨hx, hb, hml, hown, hts⟩ (c_MD_tell hG hGn l dC dI g F H.size h0 q0 x0 a1 (0 : Int32) hcl) (cwV 2 hts (gdV k6_113 k6_115 kp_54 k1_10 k6_116) rfl rfl rfl (by decide +kernel) ⟨Nat.le_of_ble_eq_true rfl, Nat.le_of_ble_eq_true rfl⟩) (kpV hG hP hK hD hS hA hGA [0, 1, 2, 3, 4, 5, 6, 7, 8, 9, 10, 11, 12, 13, 14, 15, 16, 17, 18, 19, 20, 21, 22, 23, 24, 25, 26, 27, 28, 29, 30, 31] (by decide) rfl (ci := 10) (q0 := 0) rfl rfl rfl) rfl rfl hl.1 rfl (lv_room (Nat.le_of_ble_eq_true rfl)) d_MD_go_41 ⟨Nat.le_of_ble_eq_true rfl, Nat.le_of_ble_eq_true rfl⟩) (fun H locs hP hD hS => ?_)
          have hP : va_P (dC, dI) vwCl (wd_MD g h0 q0 z0_41) H := hP
          have hD : va_D A (wd_MD g h0 q0 z0_41) := hD
          exact J44 (1 : Int32) z0_41 H locs ls hm hP hD hS (lv_sub hl [1, 2, 0] rfl)
abbrev b_MD_ticks : ByteArray := prog_12_method_52_code
abbrev y_MD_ticks : MethodName := ⟨"AlarmMatrixModel", "ticks", "(I)I"⟩
theorem d_MD_ticks_0 : decode b_MD_ticks 0 = .ok (.aload_n 0, 1) := by decide +kernel
theorem d_MD_ticks_1 : decode b_MD_ticks 1 = .ok (.iload_n 1, 1) := by decide +kernel
theorem d_MD_ticks_2 : decode b_MD_ticks 2 = .ok (.iconst 1, 1) := by decide +kernel
theorem d_MD_ticks_3 : decode b_MD_ticks 3 = .ok (.if_icmp .lt 14, 3) := by decide +kernel
theorem d_MD_ticks_6 : decode b_MD_ticks 6 = .ok (.iload_n 1, 1) := by decide +kernel
theorem d_MD_ticks_7 : decode b_MD_ticks 7 = .ok (.sipush 200, 3) := by decide +kernel
theorem d_MD_ticks_10 : decode b_MD_ticks 10 = .ok (.if_icmp .gt 7, 3) := by decide +kernel
theorem d_MD_ticks_13 : decode b_MD_ticks 13 = .ok (.iconst 1, 1) := by decide +kernel
theorem d_MD_ticks_14 : decode b_MD_ticks 14 = .ok (.goto 4, 3) := by decide +kernel
theorem d_MD_ticks_17 : decode b_MD_ticks 17 = .ok (.iconst 0, 1) := by decide +kernel
theorem d_MD_ticks_18 : decode b_MD_ticks 18 = .ok (.aload_n 0, 1) := by decide +kernel
theorem d_MD_ticks_19 : decode b_MD_ticks 19 = .ok (.getfield 236, 3) := by decide +kernel
theorem d_MD_ticks_22 : decode b_MD_ticks 22 = .ok (.iload_n 1, 1) := by decide +kernel
theorem d_MD_ticks_23 : decode b_MD_ticks 23 = .ok (.iadd, 1) := by decide +kernel
theorem d_MD_ticks_24 : decode b_MD_ticks 24 = .ok (.sipush 20000, 3) := by decide +kernel
theorem d_MD_ticks_27 : decode b_MD_ticks 27 = .ok (.if_icmp .gt 7, 3) := by decide +kernel
theorem d_MD_ticks_30 : decode b_MD_ticks 30 = .ok (.iconst 1, 1) := by decide +kernel
theorem d_MD_ticks_31 : decode b_MD_ticks 31 = .ok (.goto 4, 3) := by decide +kernel
theorem d_MD_ticks_34 : decode b_MD_ticks 34 = .ok (.iconst 0, 1) := by decide +kernel
theorem d_MD_ticks_35 : decode b_MD_ticks 35 = .ok (.invokevirtual 114, 3) := by decide +kernel
theorem d_MD_ticks_38 : decode b_MD_ticks 38 = .ok (.ifCond .ne 5, 3) := by decide +kernel
theorem d_MD_ticks_41 : decode b_MD_ticks 41 = .ok (.iconst 0, 1) := by decide +kernel
theorem d_MD_ticks_42 : decode b_MD_ticks 42 = .ok (.ireturn, 1) := by decide +kernel
theorem d_MD_ticks_43 : decode b_MD_ticks 43 = .ok (.iconst 0, 1) := by decide +kernel
theorem d_MD_ticks_44 : decode b_MD_ticks 44 = .ok (.istore_n 2, 1) := by decide +kernel
theorem d_MD_ticks_45 : decode b_MD_ticks 45 = .ok (.iconst 0, 1) := by decide +kernel
theorem d_MD_ticks_46 : decode b_MD_ticks 46 = .ok (.istore_n 3, 1) := by decide +kernel
theorem d_MD_ticks_47 : decode b_MD_ticks 47 = .ok (.iload_n 3, 1) := by decide +kernel
theorem d_MD_ticks_48 : decode b_MD_ticks 48 = .ok (.iload_n 1, 1) := by decide +kernel
theorem d_MD_ticks_49 : decode b_MD_ticks 49 = .ok (.if_icmp .ge 57, 3) := by decide +kernel
theorem d_MD_ticks_52 : decode b_MD_ticks 52 = .ok (.aload_n 0, 1) := by decide +kernel
theorem d_MD_ticks_53 : decode b_MD_ticks 53 = .ok (.dup, 1) := by decide +kernel
theorem d_MD_ticks_54 : decode b_MD_ticks 54 = .ok (.getfield 236, 3) := by decide +kernel
theorem d_MD_ticks_57 : decode b_MD_ticks 57 = .ok (.iconst 1, 1) := by decide +kernel
theorem d_MD_ticks_58 : decode b_MD_ticks 58 = .ok (.iadd, 1) := by decide +kernel
theorem d_MD_ticks_59 : decode b_MD_ticks 59 = .ok (.putfield 236, 3) := by decide +kernel
theorem d_MD_ticks_62 : decode b_MD_ticks 62 = .ok (.aload_n 0, 1) := by decide +kernel
theorem d_MD_ticks_63 : decode b_MD_ticks 63 = .ok (.iconst 0, 1) := by decide +kernel
theorem d_MD_ticks_64 : decode b_MD_ticks 64 = .ok (.invokevirtual 266, 3) := by decide +kernel
theorem d_MD_ticks_67 : decode b_MD_ticks 67 = .ok (.istore 4, 2) := by decide +kernel
theorem d_MD_ticks_69 : decode b_MD_ticks 69 = .ok (.iconst 1, 1) := by decide +kernel
theorem d_MD_ticks_70 : decode b_MD_ticks 70 = .ok (.istore 5, 2) := by decide +kernel
theorem d_MD_ticks_72 : decode b_MD_ticks 72 = .ok (.iload 4, 2) := by decide +kernel
theorem d_MD_ticks_74 : decode b_MD_ticks 74 = .ok (.ifCond .lt 26, 3) := by decide +kernel
theorem d_MD_ticks_77 : decode b_MD_ticks 77 = .ok (.iload_n 2, 1) := by decide +kernel
theorem d_MD_ticks_78 : decode b_MD_ticks 78 = .ok (.aload_n 0, 1) := by decide +kernel
theorem d_MD_ticks_79 : decode b_MD_ticks 79 = .ok (.iload 4, 2) := by decide +kernel
theorem d_MD_ticks_81 : decode b_MD_ticks 81 = .ok (.invokevirtual 269, 3) := by decide +kernel
theorem d_MD_ticks_84 : decode b_MD_ticks 84 = .ok (.iadd, 1) := by decide +kernel
theorem d_MD_ticks_85 : decode b_MD_ticks 85 = .ok (.istore_n 2, 1) := by decide +kernel
theorem d_MD_ticks_86 : decode b_MD_ticks 86 = .ok (.aload_n 0, 1) := by decide +kernel
theorem d_MD_ticks_87 : decode b_MD_ticks 87 = .ok (.iload 5, 2) := by decide +kernel
theorem d_MD_ticks_89 : decode b_MD_ticks 89 = .ok (.invokevirtual 266, 3) := by decide +kernel
theorem d_MD_ticks_92 : decode b_MD_ticks 92 = .ok (.istore 4, 2) := by decide +kernel
theorem d_MD_ticks_94 : decode b_MD_ticks 94 = .ok (.iinc 5 1, 3) := by decide +kernel
theorem d_MD_ticks_97 : decode b_MD_ticks 97 = .ok (.goto (-25), 3) := by decide +kernel
theorem d_MD_ticks_100 : decode b_MD_ticks 100 = .ok (.iinc 3 1, 3) := by decide +kernel
theorem d_MD_ticks_103 : decode b_MD_ticks 103 = .ok (.goto (-56), 3) := by decide +kernel
theorem d_MD_ticks_106 : decode b_MD_ticks 106 = .ok (.iload_n 2, 1) := by decide +kernel
theorem d_MD_ticks_107 : decode b_MD_ticks 107 = .ok (.ireturn, 1) := by decide +kernel
def m_MD_ticks_B72 {R : Type} (F : Nat)  (k72_100 : Int32 → Int32 → Int32 → St → Option R) (rec72 : Int32 → Int32 → Int32 → St → Option R) (v2_72 : Int32) (v4_72 : Int32) (v5_72 : Int32) (y0_72 : St) : Option R :=
  (if v4_72 < (0 : Int32) then (k72_100 v2_72 v4_72 v5_72 y0_72) else (bn2 (m_MD_go F y0_72 v4_72) (fun r81 z0_81 => (bn1 (m_MD_rankedOne F z0_81 v5_72) (fun r89 => (rec72 (v2_72 + r81) r89 (v5_72 + (1 : Int32)) z0_81))))))
theorem m_MD_ticks_B72_h {R : Type} {F : Nat}  {k72_100 : Int32 → Int32 → Int32 → St → Option R} {rec72 : Int32 → Int32 → Int32 → St → Option R} {v2_72 : Int32} {v4_72 : Int32} {v5_72 : Int32} {y0_72 : St} {o : R} (h : m_MD_ticks_B72 F k72_100 rec72 v2_72 v4_72 v5_72 y0_72 = some o) :
  (if v4_72 < (0 : Int32) then (k72_100 v2_72 v4_72 v5_72 y0_72) else (bn2 (m_MD_go F y0_72 v4_72) (fun r81 z0_81 => (bn1 (m_MD_rankedOne F z0_81 v5_72) (fun r89 => (rec72 (v2_72 + r81) r89 (v5_72 + (1 : Int32)) z0_81)))))) = some o := h
def m_MD_ticks_B47 {R : Type} (F : Nat) (a1 : Int32) (k47_106 : Int32 → Int32 → St → Option R) (rec47 : Int32 → Int32 → St → Option R) (v2_47 : Int32) (v3_47 : Int32) (y0_47 : St) : Option R :=
  (if a1 ≤ v3_47 then (k47_106 v2_47 v3_47 y0_47) else (lz (sc y0_47 2 ((y0_47 2 0) + (1 : Int32))) (fun e0_59 => (bn1 (m_MD_rankedOne F e0_59 (0 : Int32)) (fun r64 => (lq4 (m_MD_ticks_B72 F  (fun v2_72 v4_72 v5_72 y0_72 => (rec47 v2_72 (v3_47 + (1 : Int32)) y0_72))) F v2_47 r64 (1 : Int32) e0_59))))))
theorem m_MD_ticks_B47_h {R : Type} {F : Nat} {a1 : Int32} {k47_106 : Int32 → Int32 → St → Option R} {rec47 : Int32 → Int32 → St → Option R} {v2_47 : Int32} {v3_47 : Int32} {y0_47 : St} {o : R} (h : m_MD_ticks_B47 F a1 k47_106 rec47 v2_47 v3_47 y0_47 = some o) :
  (if a1 ≤ v3_47 then (k47_106 v2_47 v3_47 y0_47) else (lz (sc y0_47 2 ((y0_47 2 0) + (1 : Int32))) (fun e0_59 => (bn1 (m_MD_rankedOne F e0_59 (0 : Int32)) (fun r64 => (lq4 (m_MD_ticks_B72 F  (fun v2_72 v4_72 v5_72 y0_72 => (rec47 v2_72 (v3_47 + (1 : Int32)) y0_72))) F v2_47 r64 (1 : Int32) e0_59)))))) = some o := h
def m_MD_ticks (F : Nat) (x0 : St) (a1 : Int32) : Option (Int32 × St) :=
  (if a1 < (1 : Int32) then (if (20000 : Int32) < ((x0 2 0) + a1) then (bn2 (m_MD_goes F x0 (0 : Int32) (0 : Int32)) (fun r35 z0_35 => (if r35 = (0 : Int32) then (some ((0 : Int32), z0_35)) else (lq3 (m_MD_ticks_B47 F a1 (fun v2_47 v3_47 y0_47 => (some (v2_47, y0_47)))) F (0 : Int32) (0 : Int32) z0_35)))) else (bn2 (m_MD_goes F x0 (0 : Int32) (1 : Int32)) (fun r35 z0_35 => (if r35 = (0 : Int32) then (some ((0 : Int32), z0_35)) else (lq3 (m_MD_ticks_B47 F a1 (fun v2_47 v3_47 y0_47 => (some (v2_47, y0_47)))) F (0 : Int32) (0 : Int32) z0_35))))) else (if (200 : Int32) < a1 then (if (20000 : Int32) < ((x0 2 0) + a1) then (bn2 (m_MD_goes F x0 (0 : Int32) (0 : Int32)) (fun r35 z0_35 => (if r35 = (0 : Int32) then (some ((0 : Int32), z0_35)) else (lq3 (m_MD_ticks_B47 F a1 (fun v2_47 v3_47 y0_47 => (some (v2_47, y0_47)))) F (0 : Int32) (0 : Int32) z0_35)))) else (bn2 (m_MD_goes F x0 (0 : Int32) (1 : Int32)) (fun r35 z0_35 => (if r35 = (0 : Int32) then (some ((0 : Int32), z0_35)) else (lq3 (m_MD_ticks_B47 F a1 (fun v2_47 v3_47 y0_47 => (some (v2_47, y0_47)))) F (0 : Int32) (0 : Int32) z0_35))))) else (if (20000 : Int32) < ((x0 2 0) + a1) then (bn2 (m_MD_goes F x0 (1 : Int32) (0 : Int32)) (fun r35 z0_35 => (if r35 = (0 : Int32) then (some ((0 : Int32), z0_35)) else (lq3 (m_MD_ticks_B47 F a1 (fun v2_47 v3_47 y0_47 => (some (v2_47, y0_47)))) F (0 : Int32) (0 : Int32) z0_35)))) else (bn2 (m_MD_goes F x0 (1 : Int32) (1 : Int32)) (fun r35 z0_35 => (if r35 = (0 : Int32) then (some ((0 : Int32), z0_35)) else (lq3 (m_MD_ticks_B47 F a1 (fun v2_47 v3_47 y0_47 => (some (v2_47, y0_47)))) F (0 : Int32) (0 : Int32) z0_35)))))))
abbrev rm_MD_ticks : Room := { frames := 7, cells := 0, slots := 0, locals := 161 }
set_option maxHeartbeats 4000000 in
set_option maxRecDepth 100000 in
theorem c_MD_ticks {G : (Nat → Prop) → State → Prop} (hG : gok G) (hGn : gN G) (l : Launch) (dC : Nat → ClassId) (dI : Nat → Nat → Nat) (g : Nat → ClassId) (F : Nat) (sz : Nat) (h0 : Nat) (q0 : Nat → Nat) (x0 : St) (a1 : Int32) {o : Int32 × St} (hm : m_MD_ticks F x0 a1 = some o) : Met l y_MD_ticks (.code y_MD_ticks b_MD_ticks 6 (some .int) :: gw) rm_MD_ticks (kq (dC, dI) vwCl (tyv g) G [.ref h0, .int a1] sz (wd_MD g h0 q0 x0)) (kqi (dC, dI) vwCl (tyv g) (wd_MD g h0 q0 x0) o.1 (wd_MD g h0 q0 (o.2)) sz) 0 0 (va_A (wd_MD g h0 q0 x0) sz) := by
  unfold m_MD_ticks at hm
  refine km (Qc := fun sz => kqi (dC, dI) vwCl (tyv g) (wd_MD g h0 q0 x0) o.1 (wd_MD g h0 q0 (o.2)) sz) (cc := b_MD_ticks) (maxL := 6) (ret := some .int) (by decide) rfl (Nat.le_of_ble_eq_true rfl) ?_
  intro p e s m args below meth c Q hQ hx hb hr hts hown hlocks hml hnm H locs A hAe hA hP hK hD hS hGA ls hl
  have hl : lv_has ls 6 [(0, .ref h0), (1, .int a1)] := hl
  have hts : ∀ w ∈ gw, w.before args s = true := fun w h => hts w (List.mem_cons_of_mem _ h)
  have hown : s.vm.findClass "AlarmMatrixModel" = some m.cls := hown
  refine lv_aload_n hx hb d_MD_ticks_0 rfl (lv_at hl 0 rfl) ?_
  refine lv_iload_n hx hb d_MD_ticks_1 rfl (lv_at hl 1 rfl) ?_
  refine lv_iconst (v := (1 : Int32)) hx hb d_MD_ticks_2 (by decide) ?_
  refine lv_icmp_lt (tgt := 17) hx hb d_MD_ticks_3 (by decide) (fun hc => ?_) (fun hc => ?_)
  · replace hm := if_t hm hc
    refine lv_iconst (v := (0 : Int32)) hx hb d_MD_ticks_17 (by decide) ?_
    refine lv_aload_n hx hb d_MD_ticks_18 rfl (lv_at hl 0 rfl) ?_
    refine va_get (D := (dC, dI)) (ci := 10) (v := .int (x0 2 0)) (C := "AlarmMatrixModel") (T := T_MD) (N := 42) hx hb hts i_MD hown hK hP 0 rfl rfl 2 (by decide) (hts _ k5_22) (fun _ h9 => h9) rfl d_MD_ticks_19 ?_
    refine lv_iload_n hx hb d_MD_ticks_22 rfl (lv_at hl 1 rfl) ?_
    refine lv_iadd hx hb d_MD_ticks_23 ?_
    refine lv_sipush (v := (20000 : Int32)) hx hb d_MD_ticks_24 (by decide) ?_
    refine lv_icmp_gt (tgt := 34) hx hb d_MD_ticks_27 (by decide) (fun hc => ?_) (fun hc => ?_)
    · replace hm := if_t hm hc
      refine lv_iconst (v := (0 : Int32)) hx hb d_MD_ticks_34 (by decide) ?_
      obtain ⟨r35, z0_35, hcl, hm⟩ := bn2_s hm
      refine kci (wc := wd_MD g h0 q0 x0) (wr := ([] : va_W)) (w1 := wd_MD g h0 q0 z0_35) hP hD hS hA [0, 1, 2, 3, 4, 5, 6, 7, 8, 9, 10, 11, 12, 13, 14, 15, 16, 17, 18, 19, 20, 21, 22, 23, 24, 25, 26, 27, 28, 29, 30, 31] [] rfl rfl (by decide) (by decide) (va_runV (As := [.int (0 : Int32), .int (0 : Int32)]) (rest := []) ⟨hx, hb, hml, hown, hts⟩ (c_MD_goes hG hGn l dC dI g F H.size h0 q0 x0 (0 : Int32) (0 : Int32) hcl) (cwV 2 hts (gdV k5_155 k5_157 kp_20 k1_10 k5_158) rfl rfl rfl (by decide +kernel) ⟨Nat.le_of_ble_eq_true rfl, Nat.le_of_ble_eq_true rfl⟩) (kpV hG hP hK hD hS hA hGA [0, 1, 2, 3, 4, 5, 6, 7, 8, 9, 10, 11, 12, 13, 14, 15, 16, 17, 18, 19, 20, 21, 22, 23, 24, 25, 26, 27, 28, 29, 30, 31] (by decide) rfl (ci := 10) (q0 := 0) rfl rfl rfl) rfl rfl hl.1 rfl (lv_room (Nat.le_of_ble_eq_true rfl)) d_MD_ticks_35 ⟨Nat.le_of_ble_eq_true rfl, Nat.le_of_ble_eq_true rfl⟩) (fun H locs hP hD hS => ?_)
      have hP : va_P (dC, dI) vwCl (wd_MD g h0 q0 z0_35) H := hP
      have hD : va_D A (wd_MD g h0 q0 z0_35) := hD
      refine lv_if_ne (tgt := 43) hx hb d_MD_ticks_38 (by decide) (fun hc => ?_) (fun hc => ?_)
      · replace hm := if_f hm hc
        refine lv_iconst (v := (0 : Int32)) hx hb d_MD_ticks_43 (by decide) ?_
        refine lv_istore_n (lv' := [(2, .int (0 : Int32)), (0, .ref h0), (1, .int a1)]) hx hb d_MD_ticks_44 rfl hl (by decide) rfl (fun ls hl => ?_)
        refine lv_iconst (v := (0 : Int32)) hx hb d_MD_ticks_45 (by decide) ?_
        refine lv_istore_n (lv' := [(3, .int (0 : Int32)), (2, .int (0 : Int32)), (0, .ref h0), (1, .int a1)]) hx hb d_MD_ticks_46 rfl hl (by decide) rfl (fun ls hl => ?_)
        have L47 : ∀ (n47 : Nat) (v2_47 : Int32) (v3_47 : Int32) (y0_47 : St) (H : Heap) (locs : List Loc) (ls : Array Slot), lq3 (m_MD_ticks_B47 F a1 (fun v2_47 v3_47 y0_47 => (some (v2_47, y0_47)))) n47 v2_47 v3_47 y0_47 = some o → va_P (dC, dI) vwCl (wd_MD g h0 q0 y0_47) H → va_D A (wd_MD g h0 q0 y0_47) → va_S A s.heap H locs → lv_has ls 6 [(0, .ref h0), (1, .int a1), (2, .int v2_47), (3, .int v3_47)] → W p l e rm_MD_ticks s m args below meth c H locs 0 0 Q (F0 m 47 ls []) := by
          intro n47
          induction n47 with
          | zero => intro v2_47 v3_47 y0_47 H locs ls hm; exact absurd hm (by intro z; cases z)
          | succ n47 ih47 =>
            intro v2_47 v3_47 y0_47 H locs ls hm hP hD hS hl
            replace hm := m_MD_ticks_B47_h (lq3_h hm)
            refine lv_iload_n hx hb d_MD_ticks_47 rfl (lv_at hl 3 rfl) ?_
            refine lv_iload_n hx hb d_MD_ticks_48 rfl (lv_at hl 1 rfl) ?_
            refine lv_icmp_ge (tgt := 106) hx hb d_MD_ticks_49 (by decide) (fun hc => ?_) (fun hc => ?_)
            · replace hm := if_t hm hc
              refine lv_iload_n hx hb d_MD_ticks_106 rfl (lv_at hl 2 rfl) ?_
              obtain rfl := Option.some.inj hm
              rw [hQ]
              exact kri hx hb hr hlocks hAe hP hK hD hS d_MD_ticks_107
            · replace hm := if_f hm hc
              refine lv_aload_n hx hb d_MD_ticks_52 rfl (lv_at hl 0 rfl) ?_
              refine lv_dup hx hb d_MD_ticks_53 rfl ?_
              refine va_get (D := (dC, dI)) (ci := 10) (v := .int (y0_47 2 0)) (C := "AlarmMatrixModel") (T := T_MD) (N := 42) hx hb hts i_MD hown hK hP 0 rfl rfl 2 (by decide) (hts _ k5_22) (fun _ h9 => h9) rfl d_MD_ticks_54 ?_
              refine lv_iconst (v := (1 : Int32)) hx hb d_MD_ticks_57 (by decide) ?_
              refine lv_iadd hx hb d_MD_ticks_58 ?_
              obtain ⟨e0_59, he, hm⟩ := lz_s hm
              refine va_put (D := (dC, dI)) (ci := 10) (v := .int ((y0_47 2 0) + (1 : Int32))) (ty := .int) (C := "AlarmMatrixModel") (T := T_MD) (N := 42) hx hb hts i_MD t_MD o_MD n_MD hown hK hP hD hS 0 rfl rfl 2 (by decide) (hts _ k5_22) (fun _ h9 => h9) rfl (by decide +kernel) rfl rfl (Nat.le_of_ble_eq_true rfl) d_MD_ticks_59 (fun H locs hP hD hS => ?_)
              have hP : va_P (dC, dI) vwCl (wd_MD g h0 q0 e0_59) H := by rw [he]; exact hP
              have hD : va_D A (wd_MD g h0 q0 e0_59) := by rw [he]; exact hD
              refine lv_aload_n hx hb d_MD_ticks_62 rfl (lv_at hl 0 rfl) ?_
              refine lv_iconst (v := (0 : Int32)) hx hb d_MD_ticks_63 (by decide) ?_
              obtain ⟨r64, hcl, hm⟩ := bn1_s hm
              refine kci (wc := wd_MD g h0 q0 e0_59) (wr := ([] : va_W)) (w1 := wd_MD g h0 q0 e0_59) hP hD hS hA [0, 1, 2, 3, 4, 5, 6, 7, 8, 9, 10, 11, 12, 13, 14, 15, 16, 17, 18, 19, 20, 21, 22, 23, 24, 25, 26, 27, 28, 29, 30, 31] [] rfl rfl (by decide) (by decide) (va_runV (As := [.int (0 : Int32)]) (rest := []) ⟨hx, hb, hml, hown, hts⟩ (c_MD_rankedOne hG hGn l dC dI g F H.size h0 q0 e0_59 (0 : Int32) hcl) (cwV 1 hts (gdV k6_81 k6_83 kp_46 k1_10 k6_84) rfl rfl rfl (by decide +kernel) ⟨Nat.le_of_ble_eq_true rfl, Nat.le_of_ble_eq_true rfl⟩) (kpV hG hP hK hD hS hA hGA [0, 1, 2, 3, 4, 5, 6, 7, 8, 9, 10, 11, 12, 13, 14, 15, 16, 17, 18, 19, 20, 21, 22, 23, 24, 25, 26, 27, 28, 29, 30, 31] (by decide) rfl (ci := 10) (q0 := 0) rfl rfl rfl) rfl rfl hl.1 rfl (lv_room (Nat.le_of_ble_eq_true rfl)) d_MD_ticks_64 ⟨Nat.le_of_ble_eq_true rfl, Nat.le_of_ble_eq_true rfl⟩) (fun H locs hP hD hS => ?_)
              have hP : va_P (dC, dI) vwCl (wd_MD g h0 q0 e0_59) H := hP
              have hD : va_D A (wd_MD g h0 q0 e0_59) := hD
              refine lv_istore (lv' := [(4, .int r64), (0, .ref h0), (1, .int a1), (2, .int v2_47), (3, .int v3_47)]) hx hb d_MD_ticks_67 hl (by decide) rfl (fun ls hl => ?_)
              refine lv_iconst (v := (1 : Int32)) hx hb d_MD_ticks_69 (by decide) ?_
              refine lv_istore (lv' := [(5, .int (1 : Int32)), (4, .int r64), (0, .ref h0), (1, .int a1), (2, .int v2_47), (3, .int v3_47)]) hx hb d_MD_ticks_70 hl (by decide) rfl (fun ls hl => ?_)
              have L72 : ∀ (n72 : Nat) (v2_72 : Int32) (v4_72 : Int32) (v5_72 : Int32) (y0_72 : St) (H : Heap) (locs : List Loc) (ls : Array Slot), lq4 (m_MD_ticks_B72 F  (fun v2_72 v4_72 v5_72 y0_72 => (lq3 (m_MD_ticks_B47 F a1 (fun v2_47 v3_47 y0_47 => (some (v2_47, y0_47)))) n47 v2_72 (v3_47 + (1 : Int32)) y0_72))) n72 v2_72 v4_72 v5_72 y0_72 = some o → va_P (dC, dI) vwCl (wd_MD g h0 q0 y0_72) H → va_D A (wd_MD g h0 q0 y0_72) → va_S A s.heap H locs → lv_has ls 6 [(0, .ref h0), (1, .int a1), (2, .int v2_72), (3, .int v3_47), (4, .int v4_72), (5, .int v5_72)] → W p l e rm_MD_ticks s m args below meth c H locs 0 0 Q (F0 m 72 ls []) := by
                intro n72
                induction n72 with
                | zero => intro v2_72 v4_72 v5_72 y0_72 H locs ls hm; exact absurd hm (by intro z; cases z)
                | succ n72 ih72 =>
                  intro v2_72 v4_72 v5_72 y0_72 H locs ls hm hP hD hS hl
                  replace hm := m_MD_ticks_B72_h (lq4_h hm)
                  refine lv_iload hx hb d_MD_ticks_72 (lv_at hl 4 rfl) ?_
                  refine lv_if_lt (tgt := 100) hx hb d_MD_ticks_74 (by decide) (fun hc => ?_) (fun hc => ?_)
                  · replace hm := if_t hm hc
                    refine lv_iinc (v := (v3_47 + (1 : Int32))) (lv' := [(3, .int (v3_47 + (1 : Int32))), (0, .ref h0), (1, .int a1), (2, .int v2_72), (4, .int v4_72), (5, .int v5_72)]) hx hb d_MD_ticks_100 hl (k := 3) rfl rfl (by decide) rfl (fun ls hl => ?_)
                    refine lv_goto (tgt := 47) hx hb d_MD_ticks_103 (by decide) ?_
                    exact ih47 v2_72 (v3_47 + (1 : Int32)) y0_72 H locs ls hm hP hD hS (lv_sub hl [1, 2, 3, 0] rfl)
                  · replace hm := if_f hm hc
                    refine lv_iload_n hx hb d_MD_ticks_77 rfl (lv_at hl 2 rfl) ?_
                    refine lv_aload_n hx hb d_MD_ticks_78 rfl (lv_at hl 0 rfl) ?_
                    refine lv_iload hx hb d_MD_ticks_79 (lv_at hl 4 rfl) ?_
                    obtain ⟨r81, z0_81, hcl, hm⟩ := bn2_s hm
                    refine kci (wc := wd_MD g h0 q0 y0_72) (wr := ([] : va_W)) (w1 := wd_MD g h0 q0 z0_81) hP hD hS hA [0, 1, 2, 3, 4, 5, 6, 7, 8, 9, 10, 11, 12, 13, 14, 15, 16, 17, 18, 19, 20, 21, 22, 23, 24, 25, 26, 27, 28, 29, 30, 31] [] rfl rfl (by decide) (by decide) (va_runV (As := [.int v4_72]) (rest := [.int v2_72]) ⟨hx, hb, hml, hown, hts⟩ (c_MD_go hG hGn l dC dI g F H.size h0 q0 y0_72 v4_72 hcl) (cwV 1 hts (gdV k6_85 k6_87 kp_47 k1_10 k6_88) rfl rfl rfl (by decide +kernel) ⟨Nat.le_of_ble_eq_true rfl, Nat.le_of_ble_eq_true rfl⟩) (kpV hG hP hK hD hS hA hGA [0, 1, 2, 3, 4, 5, 6, 7, 8, 9, 10, 11, 12, 13, 14, 15, 16, 17, 18, 19, 20, 21, 22, 23, 24, 25, 26, 27, 28, 29, 30, 31] (by decide) rfl (ci := 10) (q0 := 0) rfl rfl rfl) rfl rfl hl.1 rfl (lv_room (Nat.le_of_ble_eq_true rfl)) d_MD_ticks_81 ⟨Nat.le_of_ble_eq_true rfl, Nat.le_of_ble_eq_true rfl⟩) (fun H locs hP hD hS => ?_)
                    have hP : va_P (dC, dI) vwCl (wd_MD g h0 q0 z0_81) H := hP
                    have hD : va_D A (wd_MD g h0 q0 z0_81) := hD
                    refine lv_iadd hx hb d_MD_ticks_84 ?_
                    refine lv_istore_n (lv' := [(2, .int (v2_72 + r81)), (0, .ref h0), (1, .int a1), (3, .int v3_47), (4, .int v4_72), (5, .int v5_72)]) hx hb d_MD_ticks_85 rfl hl (by decide) rfl (fun ls hl => ?_)
                    refine lv_aload_n hx hb d_MD_ticks_86 rfl (lv_at hl 1 rfl) ?_
                    refine lv_iload hx hb d_MD_ticks_87 (lv_at hl 5 rfl) ?_
                    obtain ⟨r89, hcl, hm⟩ := bn1_s hm
                    refine kci (wc := wd_MD g h0 q0 z0_81) (wr := ([] : va_W)) (w1 := wd_MD g h0 q0 z0_81) hP hD hS hA [0, 1, 2, 3, 4, 5, 6, 7, 8, 9, 10, 11, 12, 13, 14, 15, 16, 17, 18, 19, 20, 21, 22, 23, 24, 25, 26, 27, 28, 29, 30, 31] [] rfl rfl (by decide) (by decide) (va_runV (As := [.int v5_72]) (rest := []) ⟨hx, hb, hml, hown, hts⟩ (c_MD_rankedOne hG hGn l dC dI g F H.size h0 q0 z0_81 v5_72 hcl) (cwV 1 hts (gdV k6_81 k6_83 kp_46 k1_10 k6_84) rfl rfl rfl (by decide +kernel) ⟨Nat.le_of_ble_eq_true rfl, Nat.le_of_ble_eq_true rfl⟩) (kpV hG hP hK hD hS hA hGA [0, 1, 2, 3, 4, 5, 6, 7, 8, 9, 10, 11, 12, 13, 14, 15, 16, 17, 18, 19, 20, 21, 22, 23, 24, 25, 26, 27, 28, 29, 30, 31] (by decide) rfl (ci := 10) (q0 := 0) rfl rfl rfl) rfl rfl hl.1 rfl (lv_room (Nat.le_of_ble_eq_true rfl)) d_MD_ticks_89 ⟨Nat.le_of_ble_eq_true rfl, Nat.le_of_ble_eq_true rfl⟩) (fun H locs hP hD hS => ?_)
                    have hP : va_P (dC, dI) vwCl (wd_MD g h0 q0 z0_81) H := hP
                    have hD : va_D A (wd_MD g h0 q0 z0_81) := hD
                    refine lv_istore (lv' := [(4, .int r89), (2, .int (v2_72 + r81)), (0, .ref h0), (1, .int a1), (3, .int v3_47), (5, .int v5_72)]) hx hb d_MD_ticks_92 hl (by decide) rfl (fun ls hl => ?_)
                    refine lv_iinc (v := (v5_72 + (1 : Int32))) (lv' := [(5, .int (v5_72 + (1 : Int32))), (4, .int r89), (2, .int (v2_72 + r81)), (0, .ref h0), (1, .int a1), (3, .int v3_47)]) hx hb d_MD_ticks_94 hl (k := 5) rfl rfl (by decide) rfl (fun ls hl => ?_)
                    refine lv_goto (tgt := 72) hx hb d_MD_ticks_97 (by decide) ?_
                    exact ih72 (v2_72 + r81) r89 (v5_72 + (1 : Int32)) z0_81 H locs ls hm hP hD hS (lv_sub hl [3, 4, 2, 5, 1, 0] rfl)
              exact L72 F v2_47 r64 (1 : Int32) e0_59 H locs ls hm hP hD hS (lv_sub hl [2, 3, 4, 5, 1, 0] rfl)
        exact L47 F (0 : Int32) (0 : Int32) z0_35 H locs ls hm hP hD hS (lv_sub hl [2, 3, 1, 0] rfl)
      · replace hm := if_t hm hc
        refine lv_iconst (v := (0 : Int32)) hx hb d_MD_ticks_41 (by decide) ?_
        obtain rfl := Option.some.inj hm
        rw [hQ]
        exact kri hx hb hr hlocks hAe hP hK hD hS d_MD_ticks_42
    · replace hm := if_f hm hc
      refine lv_iconst (v := (1 : Int32)) hx hb d_MD_ticks_30 (by decide) ?_
      refine lv_goto (tgt := 35) hx hb d_MD_ticks_31 (by decide) ?_
      obtain ⟨r35, z0_35, hcl, hm⟩ := bn2_s hm
      refine kci (wc := wd_MD g h0 q0 x0) (wr := ([] : va_W)) (w1 := wd_MD g h0 q0 z0_35) hP hD hS hA [0, 1, 2, 3, 4, 5, 6, 7, 8, 9, 10, 11, 12, 13, 14, 15, 16, 17, 18, 19, 20, 21, 22, 23, 24, 25, 26, 27, 28, 29, 30, 31] [] rfl rfl (by decide) (by decide) (va_runV (As := [.int (0 : Int32), .int (1 : Int32)]) (rest := []) ⟨hx, hb, hml, hown, hts⟩ (c_MD_goes hG hGn l dC dI g F H.size h0 q0 x0 (0 : Int32) (1 : Int32) hcl) (cwV 2 hts (gdV k5_155 k5_157 kp_20 k1_10 k5_158) rfl rfl rfl (by decide +kernel) ⟨Nat.le_of_ble_eq_true rfl, Nat.le_of_ble_eq_true rfl⟩) (kpV hG hP hK hD hS hA hGA [0, 1, 2, 3, 4, 5, 6, 7, 8, 9, 10, 11, 12, 13, 14, 15, 16, 17, 18, 19, 20, 21, 22, 23, 24, 25, 26, 27, 28, 29, 30, 31] (by decide) rfl (ci := 10) (q0 := 0) rfl rfl rfl) rfl rfl hl.1 rfl (lv_room (Nat.le_of_ble_eq_true rfl)) d_MD_ticks_35 ⟨Nat.le_of_ble_eq_true rfl, Nat.le_of_ble_eq_true rfl⟩) (fun H locs hP hD hS => ?_)
      have hP : va_P (dC, dI) vwCl (wd_MD g h0 q0 z0_35) H := hP
      have hD : va_D A (wd_MD g h0 q0 z0_35) := hD
      refine lv_if_ne (tgt := 43) hx hb d_MD_ticks_38 (by decide) (fun hc => ?_) (fun hc => ?_)
      · replace hm := if_f hm hc
        refine lv_iconst (v := (0 : Int32)) hx hb d_MD_ticks_43 (by decide) ?_
        refine lv_istore_n (lv' := [(2, .int (0 : Int32)), (0, .ref h0), (1, .int a1)]) hx hb d_MD_ticks_44 rfl hl (by decide) rfl (fun ls hl => ?_)
        refine lv_iconst (v := (0 : Int32)) hx hb d_MD_ticks_45 (by decide) ?_
        refine lv_istore_n (lv' := [(3, .int (0 : Int32)), (2, .int (0 : Int32)), (0, .ref h0), (1, .int a1)]) hx hb d_MD_ticks_46 rfl hl (by decide) rfl (fun ls hl => ?_)
        have L47 : ∀ (n47 : Nat) (v2_47 : Int32) (v3_47 : Int32) (y0_47 : St) (H : Heap) (locs : List Loc) (ls : Array Slot), lq3 (m_MD_ticks_B47 F a1 (fun v2_47 v3_47 y0_47 => (some (v2_47, y0_47)))) n47 v2_47 v3_47 y0_47 = some o → va_P (dC, dI) vwCl (wd_MD g h0 q0 y0_47) H → va_D A (wd_MD g h0 q0 y0_47) → va_S A s.heap H locs → lv_has ls 6 [(0, .ref h0), (1, .int a1), (2, .int v2_47), (3, .int v3_47)] → W p l e rm_MD_ticks s m args below meth c H locs 0 0 Q (F0 m 47 ls []) := by
          intro n47
          induction n47 with
          | zero => intro v2_47 v3_47 y0_47 H locs ls hm; exact absurd hm (by intro z; cases z)
          | succ n47 ih47 =>
            intro v2_47 v3_47 y0_47 H locs ls hm hP hD hS hl
            replace hm := m_MD_ticks_B47_h (lq3_h hm)
            refine lv_iload_n hx hb d_MD_ticks_47 rfl (lv_at hl 3 rfl) ?_
            refine lv_iload_n hx hb d_MD_ticks_48 rfl (lv_at hl 1 rfl) ?_
            refine lv_icmp_ge (tgt := 106) hx hb d_MD_ticks_49 (by decide) (fun hc => ?_) (fun hc => ?_)
            · replace hm := if_t hm hc
              refine lv_iload_n hx hb d_MD_ticks_106 rfl (lv_at hl 2 rfl) ?_
              obtain rfl := Option.some.inj hm
              rw [hQ]
              exact kri hx hb hr hlocks hAe hP hK hD hS d_MD_ticks_107
            · replace hm := if_f hm hc
              refine lv_aload_n hx hb d_MD_ticks_52 rfl (lv_at hl 0 rfl) ?_
              refine lv_dup hx hb d_MD_ticks_53 rfl ?_
              refine va_get (D := (dC, dI)) (ci := 10) (v := .int (y0_47 2 0)) (C := "AlarmMatrixModel") (T := T_MD) (N := 42) hx hb hts i_MD hown hK hP 0 rfl rfl 2 (by decide) (hts _ k5_22) (fun _ h9 => h9) rfl d_MD_ticks_54 ?_
              refine lv_iconst (v := (1 : Int32)) hx hb d_MD_ticks_57 (by decide) ?_
              refine lv_iadd hx hb d_MD_ticks_58 ?_
              obtain ⟨e0_59, he, hm⟩ := lz_s hm
              refine va_put (D := (dC, dI)) (ci := 10) (v := .int ((y0_47 2 0) + (1 : Int32))) (ty := .int) (C := "AlarmMatrixModel") (T := T_MD) (N := 42) hx hb hts i_MD t_MD o_MD n_MD hown hK hP hD hS 0 rfl rfl 2 (by decide) (hts _ k5_22) (fun _ h9 => h9) rfl (by decide +kernel) rfl rfl (Nat.le_of_ble_eq_true rfl) d_MD_ticks_59 (fun H locs hP hD hS => ?_)
              have hP : va_P (dC, dI) vwCl (wd_MD g h0 q0 e0_59) H := by rw [he]; exact hP
              have hD : va_D A (wd_MD g h0 q0 e0_59) := by rw [he]; exact hD
              refine lv_aload_n hx hb d_MD_ticks_62 rfl (lv_at hl 0 rfl) ?_
              refine lv_iconst (v := (0 : Int32)) hx hb d_MD_ticks_63 (by decide) ?_
              obtain ⟨r64, hcl, hm⟩ := bn1_s hm
              refine kci (wc := wd_MD g h0 q0 e0_59) (wr := ([] : va_W)) (w1 := wd_MD g h0 q0 e0_59) hP hD hS hA [0, 1, 2, 3, 4, 5, 6, 7, 8, 9, 10, 11, 12, 13, 14, 15, 16, 17, 18, 19, 20, 21, 22, 23, 24, 25, 26, 27, 28, 29, 30, 31] [] rfl rfl (by decide) (by decide) (va_runV (As := [.int (0 : Int32)]) (rest := []) ⟨hx, hb, hml, hown, hts⟩ (c_MD_rankedOne hG hGn l dC dI g F H.size h0 q0 e0_59 (0 : Int32) hcl) (cwV 1 hts (gdV k6_81 k6_83 kp_46 k1_10 k6_84) rfl rfl rfl (by decide +kernel) ⟨Nat.le_of_ble_eq_true rfl, Nat.le_of_ble_eq_true rfl⟩) (kpV hG hP hK hD hS hA hGA [0, 1, 2, 3, 4, 5, 6, 7, 8, 9, 10, 11, 12, 13, 14, 15, 16, 17, 18, 19, 20, 21, 22, 23, 24, 25, 26, 27, 28, 29, 30, 31] (by decide) rfl (ci := 10) (q0 := 0) rfl rfl rfl) rfl rfl hl.1 rfl (lv_room (Nat.le_of_ble_eq_true rfl)) d_MD_ticks_64 ⟨Nat.le_of_ble_eq_true rfl, Nat.le_of_ble_eq_true rfl⟩) (fun H locs hP hD hS => ?_)
              have hP : va_P (dC, dI) vwCl (wd_MD g h0 q0 e0_59) H := hP
              have hD : va_D A (wd_MD g h0 q0 e0_59) := hD
              refine lv_istore (lv' := [(4, .int r64), (0, .ref h0), (1, .int a1), (2, .int v2_47), (3, .int v3_47)]) hx hb d_MD_ticks_67 hl (by decide) rfl (fun ls hl => ?_)
              refine lv_iconst (v := (1 : Int32)) hx hb d_MD_ticks_69 (by decide) ?_
              refine lv_istore (lv' := [(5, .int (1 : Int32)), (4, .int r64), (0, .ref h0), (1, .int a1), (2, .int v2_47), (3, .int v3_47)]) hx hb d_MD_ticks_70 hl (by decide) rfl (fun ls hl => ?_)
              have L72 : ∀ (n72 : Nat) (v2_72 : Int32) (v4_72 : Int32) (v5_72 : Int32) (y0_72 : St) (H : Heap) (locs : List Loc) (ls : Array Slot), lq4 (m_MD_ticks_B72 F  (fun v2_72 v4_72 v5_72 y0_72 => (lq3 (m_MD_ticks_B47 F a1 (fun v2_47 v3_47 y0_47 => (some (v2_47, y0_47)))) n47 v2_72 (v3_47 + (1 : Int32)) y0_72))) n72 v2_72 v4_72 v5_72 y0_72 = some o → va_P (dC, dI) vwCl (wd_MD g h0 q0 y0_72) H → va_D A (wd_MD g h0 q0 y0_72) → va_S A s.heap H locs → lv_has ls 6 [(0, .ref h0), (1, .int a1), (2, .int v2_72), (3, .int v3_47), (4, .int v4_72), (5, .int v5_72)] → W p l e rm_MD_ticks s m args below meth c H locs 0 0 Q (F0 m 72 ls []) := by
                intro n72
                induction n72 with
                | zero => intro v2_72 v4_72 v5_72 y0_72 H locs ls hm; exact absurd hm (by intro z; cases z)
                | succ n72 ih72 =>
                  intro v2_72 v4_72 v5_72 y0_72 H locs ls hm hP hD hS hl
                  replace hm := m_MD_ticks_B72_h (lq4_h hm)
                  refine lv_iload hx hb d_MD_ticks_72 (lv_at hl 4 rfl) ?_
                  refine lv_if_lt (tgt := 100) hx hb d_MD_ticks_74 (by decide) (fun hc => ?_) (fun hc => ?_)
                  · replace hm := if_t hm hc
                    refine lv_iinc (v := (v3_47 + (1 : Int32))) (lv' := [(3, .int (v3_47 + (1 : Int32))), (0, .ref h0), (1, .int a1), (2, .int v2_72), (4, .int v4_72), (5, .int v5_72)]) hx hb d_MD_ticks_100 hl (k := 3) rfl rfl (by decide) rfl (fun ls hl => ?_)
                    refine lv_goto (tgt := 47) hx hb d_MD_ticks_103 (by decide) ?_
                    exact ih47 v2_72 (v3_47 + (1 : Int32)) y0_72 H locs ls hm hP hD hS (lv_sub hl [1, 2, 3, 0] rfl)
                  · replace hm := if_f hm hc
                    refine lv_iload_n hx hb d_MD_ticks_77 rfl (lv_at hl 2 rfl) ?_
                    refine lv_aload_n hx hb d_MD_ticks_78 rfl (lv_at hl 0 rfl) ?_
                    refine lv_iload hx hb d_MD_ticks_79 (lv_at hl 4 rfl) ?_
                    obtain ⟨r81, z0_81, hcl, hm⟩ := bn2_s hm
                    refine kci (wc := wd_MD g h0 q0 y0_72) (wr := ([] : va_W)) (w1 := wd_MD g h0 q0 z0_81) hP hD hS hA [0, 1, 2, 3, 4, 5, 6, 7, 8, 9, 10, 11, 12, 13, 14, 15, 16, 17, 18, 19, 20, 21, 22, 23, 24, 25, 26, 27, 28, 29, 30, 31] [] rfl rfl (by decide) (by decide) (va_runV (As := [.int v4_72]) (rest := [.int v2_72]) ⟨hx, hb, hml, hown, hts⟩ (c_MD_go hG hGn l dC dI g F H.size h0 q0 y0_72 v4_72 hcl) (cwV 1 hts (gdV k6_85 k6_87 kp_47 k1_10 k6_88) rfl rfl rfl (by decide +kernel) ⟨Nat.le_of_ble_eq_true rfl, Nat.le_of_ble_eq_true rfl⟩) (kpV hG hP hK hD hS hA hGA [0, 1, 2, 3, 4, 5, 6, 7, 8, 9, 10, 11, 12, 13, 14, 15, 16, 17, 18, 19, 20, 21, 22, 23, 24, 25, 26, 27, 28, 29, 30, 31] (by decide) rfl (ci := 10) (q0 := 0) rfl rfl rfl) rfl rfl hl.1 rfl (lv_room (Nat.le_of_ble_eq_true rfl)) d_MD_ticks_81 ⟨Nat.le_of_ble_eq_true rfl, Nat.le_of_ble_eq_true rfl⟩) (fun H locs hP hD hS => ?_)
                    have hP : va_P (dC, dI) vwCl (wd_MD g h0 q0 z0_81) H := hP
                    have hD : va_D A (wd_MD g h0 q0 z0_81) := hD
                    refine lv_iadd hx hb d_MD_ticks_84 ?_
                    refine lv_istore_n (lv' := [(2, .int (v2_72 + r81)), (0, .ref h0), (1, .int a1), (3, .int v3_47), (4, .int v4_72), (5, .int v5_72)]) hx hb d_MD_ticks_85 rfl hl (by decide) rfl (fun ls hl => ?_)
                    refine lv_aload_n hx hb d_MD_ticks_86 rfl (lv_at hl 1 rfl) ?_
                    refine lv_iload hx hb d_MD_ticks_87 (lv_at hl 5 rfl) ?_
                    obtain ⟨r89, hcl, hm⟩ := bn1_s hm
                    refine kci (wc := wd_MD g h0 q0 z0_81) (wr := ([] : va_W)) (w1 := wd_MD g h0 q0 z0_81) hP hD hS hA [0, 1, 2, 3, 4, 5, 6, 7, 8, 9, 10, 11, 12, 13, 14, 15, 16, 17, 18, 19, 20, 21, 22, 23, 24, 25, 26, 27, 28, 29, 30, 31] [] rfl rfl (by decide) (by decide) (va_runV (As := [.int v5_72]) (rest := []) ⟨hx, hb, hml, hown, hts⟩ (c_MD_rankedOne hG hGn l dC dI g F H.size h0 q0 z0_81 v5_72 hcl) (cwV 1 hts (gdV k6_81 k6_83 kp_46 k1_10 k6_84) rfl rfl rfl (by decide +kernel) ⟨Nat.le_of_ble_eq_true rfl, Nat.le_of_ble_eq_true rfl⟩) (kpV hG hP hK hD hS hA hGA [0, 1, 2, 3, 4, 5, 6, 7, 8, 9, 10, 11, 12, 13, 14, 15, 16, 17, 18, 19, 20, 21, 22, 23, 24, 25, 26, 27, 28, 29, 30, 31] (by decide) rfl (ci := 10) (q0 := 0) rfl rfl rfl) rfl rfl hl.1 rfl (lv_room (Nat.le_of_ble_eq_true rfl)) d_MD_ticks_89 ⟨Nat.le_of_ble_eq_true rfl, Nat.le_of_ble_eq_true rfl⟩) (fun H locs hP hD hS => ?_)
                    have hP : va_P (dC, dI) vwCl (wd_MD g h0 q0 z0_81) H := hP
                    have hD : va_D A (wd_MD g h0 q0 z0_81) := hD
                    refine lv_istore (lv' := [(4, .int r89), (2, .int (v2_72 + r81)), (0, .ref h0), (1, .int a1), (3, .int v3_47), (5, .int v5_72)]) hx hb d_MD_ticks_92 hl (by decide) rfl (fun ls hl => ?_)
                    refine lv_iinc (v := (v5_72 + (1 : Int32))) (lv' := [(5, .int (v5_72 + (1 : Int32))), (4, .int r89), (2, .int (v2_72 + r81)), (0, .ref h0), (1, .int a1), (3, .int v3_47)]) hx hb d_MD_ticks_94 hl (k := 5) rfl rfl (by decide) rfl (fun ls hl => ?_)
                    refine lv_goto (tgt := 72) hx hb d_MD_ticks_97 (by decide) ?_
                    exact ih72 (v2_72 + r81) r89 (v5_72 + (1 : Int32)) z0_81 H locs ls hm hP hD hS (lv_sub hl [3, 4, 2, 5, 1, 0] rfl)
              exact L72 F v2_47 r64 (1 : Int32) e0_59 H locs ls hm hP hD hS (lv_sub hl [2, 3, 4, 5, 1, 0] rfl)
        exact L47 F (0 : Int32) (0 : Int32) z0_35 H locs ls hm hP hD hS (lv_sub hl [2, 3, 1, 0] rfl)
      · replace hm := if_t hm hc
        refine lv_iconst (v := (0 : Int32)) hx hb d_MD_ticks_41 (by decide) ?_
        obtain rfl := Option.some.inj hm
        rw [hQ]
        exact kri hx hb hr hlocks hAe hP hK hD hS d_MD_ticks_42
  · replace hm := if_f hm hc
    refine lv_iload_n hx hb d_MD_ticks_6 rfl (lv_at hl 1 rfl) ?_
    refine lv_sipush (v := (200 : Int32)) hx hb d_MD_ticks_7 (by decide) ?_
    refine lv_icmp_gt (tgt := 17) hx hb d_MD_ticks_10 (by decide) (fun hc => ?_) (fun hc => ?_)
    · replace hm := if_t hm hc
      refine lv_iconst (v := (0 : Int32)) hx hb d_MD_ticks_17 (by decide) ?_
      refine lv_aload_n hx hb d_MD_ticks_18 rfl (lv_at hl 0 rfl) ?_
      refine va_get (D := (dC, dI)) (ci := 10) (v := .int (x0 2 0)) (C := "AlarmMatrixModel") (T := T_MD) (N := 42) hx hb hts i_MD hown hK hP 0 rfl rfl 2 (by decide) (hts _ k5_22) (fun _ h9 => h9) rfl d_MD_ticks_19 ?_
      refine lv_iload_n hx hb d_MD_ticks_22 rfl (lv_at hl 1 rfl) ?_
      refine lv_iadd hx hb d_MD_ticks_23 ?_
      refine lv_sipush (v := (20000 : Int32)) hx hb d_MD_ticks_24 (by decide) ?_
      refine lv_icmp_gt (tgt := 34) hx hb d_MD_ticks_27 (by decide) (fun hc => ?_) (fun hc => ?_)
      · replace hm := if_t hm hc
        refine lv_iconst (v := (0 : Int32)) hx hb d_MD_ticks_34 (by decide) ?_
        obtain ⟨r35, z0_35, hcl, hm⟩ := bn2_s hm
        refine kci (wc := wd_MD g h0 q0 x0) (wr := ([] : va_W)) (w1 := wd_MD g h0 q0 z0_35) hP hD hS hA [0, 1, 2, 3, 4, 5, 6, 7, 8, 9, 10, 11, 12, 13, 14, 15, 16, 17, 18, 19, 20, 21, 22, 23, 24, 25, 26, 27, 28, 29, 30, 31] [] rfl rfl (by decide) (by decide) (va_runV (As := [.int (0 : Int32), .int (0 : Int32)]) (rest := []) ⟨hx, hb, hml, hown, hts⟩ (c_MD_goes hG hGn l dC dI g F H.size h0 q0 x0 (0 : Int32) (0 : Int32) hcl) (cwV 2 hts (gdV k5_155 k5_157 kp_20 k1_10 k5_158) rfl rfl rfl (by decide +kernel) ⟨Nat.le_of_ble_eq_true rfl, Nat.le_of_ble_eq_true rfl⟩) (kpV hG hP hK hD hS hA hGA [0, 1, 2, 3, 4, 5, 6, 7, 8, 9, 10, 11, 12, 13, 14, 15, 16, 17, 18, 19, 20, 21, 22, 23, 24, 25, 26, 27, 28, 29, 30, 31] (by decide) rfl (ci := 10) (q0 := 0) rfl rfl rfl) rfl rfl hl.1 rfl (lv_room (Nat.le_of_ble_eq_true rfl)) d_MD_ticks_35 ⟨Nat.le_of_ble_eq_true rfl, Nat.le_of_ble_eq_true rfl⟩) (fun H locs hP hD hS => ?_)
        have hP : va_P (dC, dI) vwCl (wd_MD g h0 q0 z0_35) H := hP
        have hD : va_D A (wd_MD g h0 q0 z0_35) := hD
        refine lv_if_ne (tgt := 43) hx hb d_MD_ticks_38 (by decide) (fun hc => ?_) (fun hc => ?_)
        · replace hm := if_f hm hc
          refine lv_iconst (v := (0 : Int32)) hx hb d_MD_ticks_43 (by decide) ?_
          refine lv_istore_n (lv' := [(2, .int (0 : Int32)), (0, .ref h0), (1, .int a1)]) hx hb d_MD_ticks_44 rfl hl (by decide) rfl (fun ls hl => ?_)
          refine lv_iconst (v := (0 : Int32)) hx hb d_MD_ticks_45 (by decide) ?_
          refine lv_istore_n (lv' := [(3, .int (0 : Int32)), (2, .int (0 : Int32)), (0, .ref h0), (1, .int a1)]) hx hb d_MD_ticks_46 rfl hl (by decide) rfl (fun ls hl => ?_)
          have L47 : ∀ (n47 : Nat) (v2_47 : Int32) (v3_47 : Int32) (y0_47 : St) (H : Heap) (locs : List Loc) (ls : Array Slot), lq3 (m_MD_ticks_B47 F a1 (fun v2_47 v3_47 y0_47 => (some (v2_47, y0_47)))) n47 v2_47 v3_47 y0_47 = some o → va_P (dC, dI) vwCl (wd_MD g h0 q0 y0_47) H → va_D A (wd_MD g h0 q0 y0_47) → va_S A s.heap H locs → lv_has ls 6 [(0, .ref h0), (1, .int a1), (2, .int v2_47), (3, .int v3_47)] → W p l e rm_MD_ticks s m args below meth c H locs 0 0 Q (F0 m 47 ls []) := by
            intro n47
            induction n47 with
            | zero => intro v2_47 v3_47 y0_47 H locs ls hm; exact absurd hm (by intro z; cases z)
            | succ n47 ih47 =>
              intro v2_47 v3_47 y0_47 H locs ls hm hP hD hS hl
              replace hm := m_MD_ticks_B47_h (lq3_h hm)
              refine lv_iload_n hx hb d_MD_ticks_47 rfl (lv_at hl 3 rfl) ?_
              refine lv_iload_n hx hb d_MD_ticks_48 rfl (lv_at hl 1 rfl) ?_
              refine lv_icmp_ge (tgt := 106) hx hb d_MD_ticks_49 (by decide) (fun hc => ?_) (fun hc => ?_)
              · replace hm := if_t hm hc
                refine lv_iload_n hx hb d_MD_ticks_106 rfl (lv_at hl 2 rfl) ?_
                obtain rfl := Option.some.inj hm
                rw [hQ]
                exact kri hx hb hr hlocks hAe hP hK hD hS d_MD_ticks_107
              · replace hm := if_f hm hc
                refine lv_aload_n hx hb d_MD_ticks_52 rfl (lv_at hl 0 rfl) ?_
                refine lv_dup hx hb d_MD_ticks_53 rfl ?_
                refine va_get (D := (dC, dI)) (ci := 10) (v := .int (y0_47 2 0)) (C := "AlarmMatrixModel") (T := T_MD) (N := 42) hx hb hts i_MD hown hK hP 0 rfl rfl 2 (by decide) (hts _ k5_22) (fun _ h9 => h9) rfl d_MD_ticks_54 ?_
                refine lv_iconst (v := (1 : Int32)) hx hb d_MD_ticks_57 (by decide) ?_
                refine lv_iadd hx hb d_MD_ticks_58 ?_
                obtain ⟨e0_59, he, hm⟩ := lz_s hm
                refine va_put (D := (dC, dI)) (ci := 10) (v := .int ((y0_47 2 0) + (1 : Int32))) (ty := .int) (C := "AlarmMatrixModel") (T := T_MD) (N := 42) hx hb hts i_MD t_MD o_MD n_MD hown hK hP hD hS 0 rfl rfl 2 (by decide) (hts _ k5_22) (fun _ h9 => h9) rfl (by decide +kernel) rfl rfl (Nat.le_of_ble_eq_true rfl) d_MD_ticks_59 (fun H locs hP hD hS => ?_)
                have hP : va_P (dC, dI) vwCl (wd_MD g h0 q0 e0_59) H := by rw [he]; exact hP
                have hD : va_D A (wd_MD g h0 q0 e0_59) := by rw [he]; exact hD
                refine lv_aload_n hx hb d_MD_ticks_62 rfl (lv_at hl 0 rfl) ?_
                refine lv_iconst (v := (0 : Int32)) hx hb d_MD_ticks_63 (by decide) ?_
                obtain ⟨r64, hcl, hm⟩ := bn1_s hm
                refine kci (wc := wd_MD g h0 q0 e0_59) (wr := ([] : va_W)) (w1 := wd_MD g h0 q0 e0_59) hP hD hS hA [0, 1, 2, 3, 4, 5, 6, 7, 8, 9, 10, 11, 12, 13, 14, 15, 16, 17, 18, 19, 20, 21, 22, 23, 24, 25, 26, 27, 28, 29, 30, 31] [] rfl rfl (by decide) (by decide) (va_runV (As := [.int (0 : Int32)]) (rest := []) ⟨hx, hb, hml, hown, hts⟩ (c_MD_rankedOne hG hGn l dC dI g F H.size h0 q0 e0_59 (0 : Int32) hcl) (cwV 1 hts (gdV k6_81 k6_83 kp_46 k1_10 k6_84) rfl rfl rfl (by decide +kernel) ⟨Nat.le_of_ble_eq_true rfl, Nat.le_of_ble_eq_true rfl⟩) (kpV hG hP hK hD hS hA hGA [0, 1, 2, 3, 4, 5, 6, 7, 8, 9, 10, 11, 12, 13, 14, 15, 16, 17, 18, 19, 20, 21, 22, 23, 24, 25, 26, 27, 28, 29, 30, 31] (by decide) rfl (ci := 10) (q0 := 0) rfl rfl rfl) rfl rfl hl.1 rfl (lv_room (Nat.le_of_ble_eq_true rfl)) d_MD_ticks_64 ⟨Nat.le_of_ble_eq_true rfl, Nat.le_of_ble_eq_true rfl⟩) (fun H locs hP hD hS => ?_)
                have hP : va_P (dC, dI) vwCl (wd_MD g h0 q0 e0_59) H := hP
                have hD : va_D A (wd_MD g h0 q0 e0_59) := hD
                refine lv_istore (lv' := [(4, .int r64), (0, .ref h0), (1, .int a1), (2, .int v2_47), (3, .int v3_47)]) hx hb d_MD_ticks_67 hl (by decide) rfl (fun ls hl => ?_)
                refine lv_iconst (v := (1 : Int32)) hx hb d_MD_ticks_69 (by decide) ?_
                refine lv_istore (lv' := [(5, .int (1 : Int32)), (4, .int r64), (0, .ref h0), (1, .int a1), (2, .int v2_47), (3, .int v3_47)]) hx hb d_MD_ticks_70 hl (by decide) rfl (fun ls hl => ?_)
                have L72 : ∀ (n72 : Nat) (v2_72 : Int32) (v4_72 : Int32) (v5_72 : Int32) (y0_72 : St) (H : Heap) (locs : List Loc) (ls : Array Slot), lq4 (m_MD_ticks_B72 F  (fun v2_72 v4_72 v5_72 y0_72 => (lq3 (m_MD_ticks_B47 F a1 (fun v2_47 v3_47 y0_47 => (some (v2_47, y0_47)))) n47 v2_72 (v3_47 + (1 : Int32)) y0_72))) n72 v2_72 v4_72 v5_72 y0_72 = some o → va_P (dC, dI) vwCl (wd_MD g h0 q0 y0_72) H → va_D A (wd_MD g h0 q0 y0_72) → va_S A s.heap H locs → lv_has ls 6 [(0, .ref h0), (1, .int a1), (2, .int v2_72), (3, .int v3_47), (4, .int v4_72), (5, .int v5_72)] → W p l e rm_MD_ticks s m args below meth c H locs 0 0 Q (F0 m 72 ls []) := by
                  intro n72
                  induction n72 with
                  | zero => intro v2_72 v4_72 v5_72 y0_72 H locs ls hm; exact absurd hm (by intro z; cases z)
                  | succ n72 ih72 =>
                    intro v2_72 v4_72 v5_72 y0_72 H locs ls hm hP hD hS hl
                    replace hm := m_MD_ticks_B72_h (lq4_h hm)
                    refine lv_iload hx hb d_MD_ticks_72 (lv_at hl 4 rfl) ?_
                    refine lv_if_lt (tgt := 100) hx hb d_MD_ticks_74 (by decide) (fun hc => ?_) (fun hc => ?_)
                    · replace hm := if_t hm hc
                      refine lv_iinc (v := (v3_47 + (1 : Int32))) (lv' := [(3, .int (v3_47 + (1 : Int32))), (0, .ref h0), (1, .int a1), (2, .int v2_72), (4, .int v4_72), (5, .int v5_72)]) hx hb d_MD_ticks_100 hl (k := 3) rfl rfl (by decide) rfl (fun ls hl => ?_)
                      refine lv_goto (tgt := 47) hx hb d_MD_ticks_103 (by decide) ?_
                      exact ih47 v2_72 (v3_47 + (1 : Int32)) y0_72 H locs ls hm hP hD hS (lv_sub hl [1, 2, 3, 0] rfl)
                    · replace hm := if_f hm hc
                      refine lv_iload_n hx hb d_MD_ticks_77 rfl (lv_at hl 2 rfl) ?_
                      refine lv_aload_n hx hb d_MD_ticks_78 rfl (lv_at hl 0 rfl) ?_
                      refine lv_iload hx hb d_MD_ticks_79 (lv_at hl 4 rfl) ?_
                      obtain ⟨r81, z0_81, hcl, hm⟩ := bn2_s hm
                      refine kci (wc := wd_MD g h0 q0 y0_72) (wr := ([] : va_W)) (w1 := wd_MD g h0 q0 z0_81) hP hD hS hA [0, 1, 2, 3, 4, 5, 6, 7, 8, 9, 10, 11, 12, 13, 14, 15, 16, 17, 18, 19, 20, 21, 22, 23, 24, 25, 26, 27, 28, 29, 30, 31] [] rfl rfl (by decide) (by decide) (va_runV (As := [.int v4_72]) (rest := [.int v2_72]) ⟨hx, hb, hml, hown, hts⟩ (c_MD_go hG hGn l dC dI g F H.size h0 q0 y0_72 v4_72 hcl) (cwV 1 hts (gdV k6_85 k6_87 kp_47 k1_10 k6_88) rfl rfl rfl (by decide +kernel) ⟨Nat.le_of_ble_eq_true rfl, Nat.le_of_ble_eq_true rfl⟩) (kpV hG hP hK hD hS hA hGA [0, 1, 2, 3, 4, 5, 6, 7, 8, 9, 10, 11, 12, 13, 14, 15, 16, 17, 18, 19, 20, 21, 22, 23, 24, 25, 26, 27, 28, 29, 30, 31] (by decide) rfl (ci := 10) (q0 := 0) rfl rfl rfl) rfl rfl hl.1 rfl (lv_room (Nat.le_of_ble_eq_true rfl)) d_MD_ticks_81 ⟨Nat.le_of_ble_eq_true rfl, Nat.le_of_ble_eq_true rfl⟩) (fun H locs hP hD hS => ?_)
                      have hP : va_P (dC, dI) vwCl (wd_MD g h0 q0 z0_81) H := hP
                      have hD : va_D A (wd_MD g h0 q0 z0_81) := hD
                      refine lv_iadd hx hb d_MD_ticks_84 ?_
                      refine lv_istore_n (lv' := [(2, .int (v2_72 + r81)), (0, .ref h0), (1, .int a1), (3, .int v3_47), (4, .int v4_72), (5, .int v5_72)]) hx hb d_MD_ticks_85 rfl hl (by decide) rfl (fun ls hl => ?_)
                      refine lv_aload_n hx hb d_MD_ticks_86 rfl (lv_at hl 1 rfl) ?_
                      refine lv_iload hx hb d_MD_ticks_87 (lv_at hl 5 rfl) ?_
                      obtain ⟨r89, hcl, hm⟩ := bn1_s hm
                      refine kci (wc := wd_MD g h0 q0 z0_81) (wr := ([] : va_W)) (w1 := wd_MD g h0 q0 z0_81) hP hD hS hA [0, 1, 2, 3, 4, 5, 6, 7, 8, 9, 10, 11, 12, 13, 14, 15, 16, 17, 18, 19, 20, 21, 22, 23, 24, 25, 26, 27, 28, 29, 30, 31] [] rfl rfl (by decide) (by decide) (va_runV (As := [.int v5_72]) (rest := []) ⟨hx, hb, hml, hown, hts⟩ (c_MD_rankedOne hG hGn l dC dI g F H.size h0 q0 z0_81 v5_72 hcl) (cwV 1 hts (gdV k6_81 k6_83 kp_46 k1_10 k6_84) rfl rfl rfl (by decide +kernel) ⟨Nat.le_of_ble_eq_true rfl, Nat.le_of_ble_eq_true rfl⟩) (kpV hG hP hK hD hS hA hGA [0, 1, 2, 3, 4, 5, 6, 7, 8, 9, 10, 11, 12, 13, 14, 15, 16, 17, 18, 19, 20, 21, 22, 23, 24, 25, 26, 27, 28, 29, 30, 31] (by decide) rfl (ci := 10) (q0 := 0) rfl rfl rfl) rfl rfl hl.1 rfl (lv_room (Nat.le_of_ble_eq_true rfl)) d_MD_ticks_89 ⟨Nat.le_of_ble_eq_true rfl, Nat.le_of_ble_eq_true rfl⟩) (fun H locs hP hD hS => ?_)
                      have hP : va_P (dC, dI) vwCl (wd_MD g h0 q0 z0_81) H := hP
                      have hD : va_D A (wd_MD g h0 q0 z0_81) := hD
                      refine lv_istore (lv' := [(4, .int r89), (2, .int (v2_72 + r81)), (0, .ref h0), (1, .int a1), (3, .int v3_47), (5, .int v5_72)]) hx hb d_MD_ticks_92 hl (by decide) rfl (fun ls hl => ?_)
                      refine lv_iinc (v := (v5_72 + (1 : Int32))) (lv' := [(5, .int (v5_72 + (1 : Int32))), (4, .int r89), (2, .int (v2_72 + r81)), (0, .ref h0), (1, .int a1), (3, .int v3_47)]) hx hb d_MD_ticks_94 hl (k := 5) rfl rfl (by decide) rfl (fun ls hl => ?_)
                      refine lv_goto (tgt := 72) hx hb d_MD_ticks_97 (by decide) ?_
                      exact ih72 (v2_72 + r81) r89 (v5_72 + (1 : Int32)) z0_81 H locs ls hm hP hD hS (lv_sub hl [3, 4, 2, 5, 1, 0] rfl)
                exact L72 F v2_47 r64 (1 : Int32) e0_59 H locs ls hm hP hD hS (lv_sub hl [2, 3, 4, 5, 1, 0] rfl)
          exact L47 F (0 : Int32) (0 : Int32) z0_35 H locs ls hm hP hD hS (lv_sub hl [2, 3, 1, 0] rfl)
        · replace hm := if_t hm hc
          refine lv_iconst (v := (0 : Int32)) hx hb d_MD_ticks_41 (by decide) ?_
          obtain rfl := Option.some.inj hm
          rw [hQ]
          exact kri hx hb hr hlocks hAe hP hK hD hS d_MD_ticks_42
      · replace hm := if_f hm hc
        refine lv_iconst (v := (1 : Int32)) hx hb d_MD_ticks_30 (by decide) ?_
        refine lv_goto (tgt := 35) hx hb d_MD_ticks_31 (by decide) ?_
        obtain ⟨r35, z0_35, hcl, hm⟩ := bn2_s hm
        refine kci (wc := wd_MD g h0 q0 x0) (wr := ([] : va_W)) (w1 := wd_MD g h0 q0 z0_35) hP hD hS hA [0, 1, 2, 3, 4, 5, 6, 7, 8, 9, 10, 11, 12, 13, 14, 15, 16, 17, 18, 19, 20, 21, 22, 23, 24, 25, 26, 27, 28, 29, 30, 31] [] rfl rfl (by decide) (by decide) (va_runV (As := [.int (0 : Int32), .int (1 : Int32)]) (rest := []) ⟨hx, hb, hml, hown, hts⟩ (c_MD_goes hG hGn l dC dI g F H.size h0 q0 x0 (0 : Int32) (1 : Int32) hcl) (cwV 2 hts (gdV k5_155 k5_157 kp_20 k1_10 k5_158) rfl rfl rfl (by decide +kernel) ⟨Nat.le_of_ble_eq_true rfl, Nat.le_of_ble_eq_true rfl⟩) (kpV hG hP hK hD hS hA hGA [0, 1, 2, 3, 4, 5, 6, 7, 8, 9, 10, 11, 12, 13, 14, 15, 16, 17, 18, 19, 20, 21, 22, 23, 24, 25, 26, 27, 28, 29, 30, 31] (by decide) rfl (ci := 10) (q0 := 0) rfl rfl rfl) rfl rfl hl.1 rfl (lv_room (Nat.le_of_ble_eq_true rfl)) d_MD_ticks_35 ⟨Nat.le_of_ble_eq_true rfl, Nat.le_of_ble_eq_true rfl⟩) (fun H locs hP hD hS => ?_)
        have hP : va_P (dC, dI) vwCl (wd_MD g h0 q0 z0_35) H := hP
        have hD : va_D A (wd_MD g h0 q0 z0_35) := hD
        refine lv_if_ne (tgt := 43) hx hb d_MD_ticks_38 (by decide) (fun hc => ?_) (fun hc => ?_)
        · replace hm := if_f hm hc
          refine lv_iconst (v := (0 : Int32)) hx hb d_MD_ticks_43 (by decide) ?_
          refine lv_istore_n (lv' := [(2, .int (0 : Int32)), (0, .ref h0), (1, .int a1)]) hx hb d_MD_ticks_44 rfl hl (by decide) rfl (fun ls hl => ?_)
          refine lv_iconst (v := (0 : Int32)) hx hb d_MD_ticks_45 (by decide) ?_
          refine lv_istore_n (lv' := [(3, .int (0 : Int32)), (2, .int (0 : Int32)), (0, .ref h0), (1, .int a1)]) hx hb d_MD_ticks_46 rfl hl (by decide) rfl (fun ls hl => ?_)
          have L47 : ∀ (n47 : Nat) (v2_47 : Int32) (v3_47 : Int32) (y0_47 : St) (H : Heap) (locs : List Loc) (ls : Array Slot), lq3 (m_MD_ticks_B47 F a1 (fun v2_47 v3_47 y0_47 => (some (v2_47, y0_47)))) n47 v2_47 v3_47 y0_47 = some o → va_P (dC, dI) vwCl (wd_MD g h0 q0 y0_47) H → va_D A (wd_MD g h0 q0 y0_47) → va_S A s.heap H locs → lv_has ls 6 [(0, .ref h0), (1, .int a1), (2, .int v2_47), (3, .int v3_47)] → W p l e rm_MD_ticks s m args below meth c H locs 0 0 Q (F0 m 47 ls []) := by
            intro n47
            induction n47 with
            | zero => intro v2_47 v3_47 y0_47 H locs ls hm; exact absurd hm (by intro z; cases z)
            | succ n47 ih47 =>
              intro v2_47 v3_47 y0_47 H locs ls hm hP hD hS hl
              replace hm := m_MD_ticks_B47_h (lq3_h hm)
              refine lv_iload_n hx hb d_MD_ticks_47 rfl (lv_at hl 3 rfl) ?_
              refine lv_iload_n hx hb d_MD_ticks_48 rfl (lv_at hl 1 rfl) ?_
              refine lv_icmp_ge (tgt := 106) hx hb d_MD_ticks_49 (by decide) (fun hc => ?_) (fun hc => ?_)
              · replace hm := if_t hm hc
                refine lv_iload_n hx hb d_MD_ticks_106 rfl (lv_at hl 2 rfl) ?_
                obtain rfl := Option.some.inj hm
                rw [hQ]
                exact kri hx hb hr hlocks hAe hP hK hD hS d_MD_ticks_107
              · replace hm := if_f hm hc
                refine lv_aload_n hx hb d_MD_ticks_52 rfl (lv_at hl 0 rfl) ?_
                refine lv_dup hx hb d_MD_ticks_53 rfl ?_
                refine va_get (D := (dC, dI)) (ci := 10) (v := .int (y0_47 2 0)) (C := "AlarmMatrixModel") (T := T_MD) (N := 42) hx hb hts i_MD hown hK hP 0 rfl rfl 2 (by decide) (hts _ k5_22) (fun _ h9 => h9) rfl d_MD_ticks_54 ?_
                refine lv_iconst (v := (1 : Int32)) hx hb d_MD_ticks_57 (by decide) ?_
                refine lv_iadd hx hb d_MD_ticks_58 ?_
                obtain ⟨e0_59, he, hm⟩ := lz_s hm
                refine va_put (D := (dC, dI)) (ci := 10) (v := .int ((y0_47 2 0) + (1 : Int32))) (ty := .int) (C := "AlarmMatrixModel") (T := T_MD) (N := 42) hx hb hts i_MD t_MD o_MD n_MD hown hK hP hD hS 0 rfl rfl 2 (by decide) (hts _ k5_22) (fun _ h9 => h9) rfl (by decide +kernel) rfl rfl (Nat.le_of_ble_eq_true rfl) d_MD_ticks_59 (fun H locs hP hD hS => ?_)
                have hP : va_P (dC, dI) vwCl (wd_MD g h0 q0 e0_59) H := by rw [he]; exact hP
                have hD : va_D A (wd_MD g h0 q0 e0_59) := by rw [he]; exact hD
                refine lv_aload_n hx hb d_MD_ticks_62 rfl (lv_at hl 0 rfl) ?_
                refine lv_iconst (v := (0 : Int32)) hx hb d_MD_ticks_63 (by decide) ?_
                obtain ⟨r64, hcl, hm⟩ := bn1_s hm
                refine kci (wc := wd_MD g h0 q0 e0_59) (wr := ([] : va_W)) (w1 := wd_MD g h0 q0 e0_59) hP hD hS hA [0, 1, 2, 3, 4, 5, 6, 7, 8, 9, 10, 11, 12, 13, 14, 15, 16, 17, 18, 19, 20, 21, 22, 23, 24, 25, 26, 27, 28, 29, 30, 31] [] rfl rfl (by decide) (by decide) (va_runV (As := [.int (0 : Int32)]) (rest := []) ⟨hx, hb, hml, hown, hts⟩ (c_MD_rankedOne hG hGn l dC dI g F H.size h0 q0 e0_59 (0 : Int32) hcl) (cwV 1 hts (gdV k6_81 k6_83 kp_46 k1_10 k6_84) rfl rfl rfl (by decide +kernel) ⟨Nat.le_of_ble_eq_true rfl, Nat.le_of_ble_eq_true rfl⟩) (kpV hG hP hK hD hS hA hGA [0, 1, 2, 3, 4, 5, 6, 7, 8, 9, 10, 11, 12, 13, 14, 15, 16, 17, 18, 19, 20, 21, 22, 23, 24, 25, 26, 27, 28, 29, 30, 31] (by decide) rfl (ci := 10) (q0 := 0) rfl rfl rfl) rfl rfl hl.1 rfl (lv_room (Nat.le_of_ble_eq_true rfl)) d_MD_ticks_64 ⟨Nat.le_of_ble_eq_true rfl, Nat.le_of_ble_eq_true rfl⟩) (fun H locs hP hD hS => ?_)
                have hP : va_P (dC, dI) vwCl (wd_MD g h0 q0 e0_59) H := hP
                have hD : va_D A (wd_MD g h0 q0 e0_59) := hD
                refine lv_istore (lv' := [(4, .int r64), (0, .ref h0), (1, .int a1), (2, .int v2_47), (3, .int v3_47)]) hx hb d_MD_ticks_67 hl (by decide) rfl (fun ls hl => ?_)
                refine lv_iconst (v := (1 : Int32)) hx hb d_MD_ticks_69 (by decide) ?_
                refine lv_istore (lv' := [(5, .int (1 : Int32)), (4, .int r64), (0, .ref h0), (1, .int a1), (2, .int v2_47), (3, .int v3_47)]) hx hb d_MD_ticks_70 hl (by decide) rfl (fun ls hl => ?_)
                have L72 : ∀ (n72 : Nat) (v2_72 : Int32) (v4_72 : Int32) (v5_72 : Int32) (y0_72 : St) (H : Heap) (locs : List Loc) (ls : Array Slot), lq4 (m_MD_ticks_B72 F  (fun v2_72 v4_72 v5_72 y0_72 => (lq3 (m_MD_ticks_B47 F a1 (fun v2_47 v3_47 y0_47 => (some (v2_47, y0_47)))) n47 v2_72 (v3_47 + (1 : Int32)) y0_72))) n72 v2_72 v4_72 v5_72 y0_72 = some o → va_P (dC, dI) vwCl (wd_MD g h0 q0 y0_72) H → va_D A (wd_MD g h0 q0 y0_72) → va_S A s.heap H locs → lv_has ls 6 [(0, .ref h0), (1, .int a1), (2, .int v2_72), (3, .int v3_47), (4, .int v4_72), (5, .int v5_72)] → W p l e rm_MD_ticks s m args below meth c H locs 0 0 Q (F0 m 72 ls []) := by
                  intro n72
                  induction n72 with
                  | zero => intro v2_72 v4_72 v5_72 y0_72 H locs ls hm; exact absurd hm (by intro z; cases z)
                  | succ n72 ih72 =>
                    intro v2_72 v4_72 v5_72 y0_72 H locs ls hm hP hD hS hl
                    replace hm := m_MD_ticks_B72_h (lq4_h hm)
                    refine lv_iload hx hb d_MD_ticks_72 (lv_at hl 4 rfl) ?_
                    refine lv_if_lt (tgt := 100) hx hb d_MD_ticks_74 (by decide) (fun hc => ?_) (fun hc => ?_)
                    · replace hm := if_t hm hc
                      refine lv_iinc (v := (v3_47 + (1 : Int32))) (lv' := [(3, .int (v3_47 + (1 : Int32))), (0, .ref h0), (1, .int a1), (2, .int v2_72), (4, .int v4_72), (5, .int v5_72)]) hx hb d_MD_ticks_100 hl (k := 3) rfl rfl (by decide) rfl (fun ls hl => ?_)
                      refine lv_goto (tgt := 47) hx hb d_MD_ticks_103 (by decide) ?_
                      exact ih47 v2_72 (v3_47 + (1 : Int32)) y0_72 H locs ls hm hP hD hS (lv_sub hl [1, 2, 3, 0] rfl)
                    · replace hm := if_f hm hc
                      refine lv_iload_n hx hb d_MD_ticks_77 rfl (lv_at hl 2 rfl) ?_
                      refine lv_aload_n hx hb d_MD_ticks_78 rfl (lv_at hl 0 rfl) ?_
                      refine lv_iload hx hb d_MD_ticks_79 (lv_at hl 4 rfl) ?_
                      obtain ⟨r81, z0_81, hcl, hm⟩ := bn2_s hm
                      refine kci (wc := wd_MD g h0 q0 y0_72) (wr := ([] : va_W)) (w1 := wd_MD g h0 q0 z0_81) hP hD hS hA [0, 1, 2, 3, 4, 5, 6, 7, 8, 9, 10, 11, 12, 13, 14, 15, 16, 17, 18, 19, 20, 21, 22, 23, 24, 25, 26, 27, 28, 29, 30, 31] [] rfl rfl (by decide) (by decide) (va_runV (As := [.int v4_72]) (rest := [.int v2_72]) ⟨hx, hb, hml, hown, hts⟩ (c_MD_go hG hGn l dC dI g F H.size h0 q0 y0_72 v4_72 hcl) (cwV 1 hts (gdV k6_85 k6_87 kp_47 k1_10 k6_88) rfl rfl rfl (by decide +kernel) ⟨Nat.le_of_ble_eq_true rfl, Nat.le_of_ble_eq_true rfl⟩) (kpV hG hP hK hD hS hA hGA [0, 1, 2, 3, 4, 5, 6, 7, 8, 9, 10, 11, 12, 13, 14, 15, 16, 17, 18, 19, 20, 21, 22, 23, 24, 25, 26, 27, 28, 29, 30, 31] (by decide) rfl (ci := 10) (q0 := 0) rfl rfl rfl) rfl rfl hl.1 rfl (lv_room (Nat.le_of_ble_eq_true rfl)) d_MD_ticks_81 ⟨Nat.le_of_ble_eq_true rfl, Nat.le_of_ble_eq_true rfl⟩) (fun H locs hP hD hS => ?_)
                      have hP : va_P (dC, dI) vwCl (wd_MD g h0 q0 z0_81) H := hP
                      have hD : va_D A (wd_MD g h0 q0 z0_81) := hD
                      refine lv_iadd hx hb d_MD_ticks_84 ?_
                      refine lv_istore_n (lv' := [(2, .int (v2_72 + r81)), (0, .ref h0), (1, .int a1), (3, .int v3_47), (4, .int v4_72), (5, .int v5_72)]) hx hb d_MD_ticks_85 rfl hl (by decide) rfl (fun ls hl => ?_)
                      refine lv_aload_n hx hb d_MD_ticks_86 rfl (lv_at hl 1 rfl) ?_
                      refine lv_iload hx hb d_MD_ticks_87 (lv_at hl 5 rfl) ?_
                      obtain ⟨r89, hcl, hm⟩ := bn1_s hm
                      refine kci (wc := wd_MD g h0 q0 z0_81) (wr := ([] : va_W)) (w1 := wd_MD g h0 q0 z0_81) hP hD hS hA [0, 1, 2, 3, 4, 5, 6, 7, 8, 9, 10, 11, 12, 13, 14, 15, 16, 17, 18, 19, 20, 21, 22, 23, 24, 25, 26, 27, 28, 29, 30, 31] [] rfl rfl (by decide) (by decide) (va_runV (As := [.int v5_72]) (rest := []) ⟨hx, hb, hml, hown, hts⟩ (c_MD_rankedOne hG hGn l dC dI g F H.size h0 q0 z0_81 v5_72 hcl) (cwV 1 hts (gdV k6_81 k6_83 kp_46 k1_10 k6_84) rfl rfl rfl (by decide +kernel) ⟨Nat.le_of_ble_eq_true rfl, Nat.le_of_ble_eq_true rfl⟩) (kpV hG hP hK hD hS hA hGA [0, 1, 2, 3, 4, 5, 6, 7, 8, 9, 10, 11, 12, 13, 14, 15, 16, 17, 18, 19, 20, 21, 22, 23, 24, 25, 26, 27, 28, 29, 30, 31] (by decide) rfl (ci := 10) (q0 := 0) rfl rfl rfl) rfl rfl hl.1 rfl (lv_room (Nat.le_of_ble_eq_true rfl)) d_MD_ticks_89 ⟨Nat.le_of_ble_eq_true rfl, Nat.le_of_ble_eq_true rfl⟩) (fun H locs hP hD hS => ?_)
                      have hP : va_P (dC, dI) vwCl (wd_MD g h0 q0 z0_81) H := hP
                      have hD : va_D A (wd_MD g h0 q0 z0_81) := hD
                      refine lv_istore (lv' := [(4, .int r89), (2, .int (v2_72 + r81)), (0, .ref h0), (1, .int a1), (3, .int v3_47), (5, .int v5_72)]) hx hb d_MD_ticks_92 hl (by decide) rfl (fun ls hl => ?_)
                      refine lv_iinc (v := (v5_72 + (1 : Int32))) (lv' := [(5, .int (v5_72 + (1 : Int32))), (4, .int r89), (2, .int (v2_72 + r81)), (0, .ref h0), (1, .int a1), (3, .int v3_47)]) hx hb d_MD_ticks_94 hl (k := 5) rfl rfl (by decide) rfl (fun ls hl => ?_)
                      refine lv_goto (tgt := 72) hx hb d_MD_ticks_97 (by decide) ?_
                      exact ih72 (v2_72 + r81) r89 (v5_72 + (1 : Int32)) z0_81 H locs ls hm hP hD hS (lv_sub hl [3, 4, 2, 5, 1, 0] rfl)
                exact L72 F v2_47 r64 (1 : Int32) e0_59 H locs ls hm hP hD hS (lv_sub hl [2, 3, 4, 5, 1, 0] rfl)
          exact L47 F (0 : Int32) (0 : Int32) z0_35 H locs ls hm hP hD hS (lv_sub hl [2, 3, 1, 0] rfl)
        · replace hm := if_t hm hc
          refine lv_iconst (v := (0 : Int32)) hx hb d_MD_ticks_41 (by decide) ?_
          obtain rfl := Option.some.inj hm
          rw [hQ]
          exact kri hx hb hr hlocks hAe hP hK hD hS d_MD_ticks_42
    · replace hm := if_f hm hc
      refine lv_iconst (v := (1 : Int32)) hx hb d_MD_ticks_13 (by decide) ?_
      refine lv_goto (tgt := 18) hx hb d_MD_ticks_14 (by decide) ?_
      refine lv_aload_n hx hb d_MD_ticks_18 rfl (lv_at hl 0 rfl) ?_
      refine va_get (D := (dC, dI)) (ci := 10) (v := .int (x0 2 0)) (C := "AlarmMatrixModel") (T := T_MD) (N := 42) hx hb hts i_MD hown hK hP 0 rfl rfl 2 (by decide) (hts _ k5_22) (fun _ h9 => h9) rfl d_MD_ticks_19 ?_
      refine lv_iload_n hx hb d_MD_ticks_22 rfl (lv_at hl 1 rfl) ?_
      refine lv_iadd hx hb d_MD_ticks_23 ?_
      refine lv_sipush (v := (20000 : Int32)) hx hb d_MD_ticks_24 (by decide) ?_
      refine lv_icmp_gt (tgt := 34) hx hb d_MD_ticks_27 (by decide) (fun hc => ?_) (fun hc => ?_)
      · replace hm := if_t hm hc
        refine lv_iconst (v := (0 : Int32)) hx hb d_MD_ticks_34 (by decide) ?_
        obtain ⟨r35, z0_35, hcl, hm⟩ := bn2_s hm
        refine kci (wc := wd_MD g h0 q0 x0) (wr := ([] : va_W)) (w1 := wd_MD g h0 q0 z0_35) hP hD hS hA [0, 1, 2, 3, 4, 5, 6, 7, 8, 9, 10, 11, 12, 13, 14, 15, 16, 17, 18, 19, 20, 21, 22, 23, 24, 25, 26, 27, 28, 29, 30, 31] [] rfl rfl (by decide) (by decide) (va_runV (As := [.int (1 : Int32), .int (0 : Int32)]) (rest := []) ⟨hx, hb, hml, hown, hts⟩ (c_MD_goes hG hGn l dC dI g F H.size h0 q0 x0 (1 : Int32) (0 : Int32) hcl) (cwV 2 hts (gdV k5_155 k5_157 kp_20 k1_10 k5_158) rfl rfl rfl (by decide +kernel) ⟨Nat.le_of_ble_eq_true rfl, Nat.le_of_ble_eq_true rfl⟩) (kpV hG hP hK hD hS hA hGA [0, 1, 2, 3, 4, 5, 6, 7, 8, 9, 10, 11, 12, 13, 14, 15, 16, 17, 18, 19, 20, 21, 22, 23, 24, 25, 26, 27, 28, 29, 30, 31] (by decide) rfl (ci := 10) (q0 := 0) rfl rfl rfl) rfl rfl hl.1 rfl (lv_room (Nat.le_of_ble_eq_true rfl)) d_MD_ticks_35 ⟨Nat.le_of_ble_eq_true rfl, Nat.le_of_ble_eq_true rfl⟩) (fun H locs hP hD hS => ?_)
        have hP : va_P (dC, dI) vwCl (wd_MD g h0 q0 z0_35) H := hP
        have hD : va_D A (wd_MD g h0 q0 z0_35) := hD
        refine lv_if_ne (tgt := 43) hx hb d_MD_ticks_38 (by decide) (fun hc => ?_) (fun hc => ?_)
        · replace hm := if_f hm hc
          refine lv_iconst (v := (0 : Int32)) hx hb d_MD_ticks_43 (by decide) ?_
          refine lv_istore_n (lv' := [(2, .int (0 : Int32)), (0, .ref h0), (1, .int a1)]) hx hb d_MD_ticks_44 rfl hl (by decide) rfl (fun ls hl => ?_)
          refine lv_iconst (v := (0 : Int32)) hx hb d_MD_ticks_45 (by decide) ?_
          refine lv_istore_n (lv' := [(3, .int (0 : Int32)), (2, .int (0 : Int32)), (0, .ref h0), (1, .int a1)]) hx hb d_MD_ticks_46 rfl hl (by decide) rfl (fun ls hl => ?_)
          have L47 : ∀ (n47 : Nat) (v2_47 : Int32) (v3_47 : Int32) (y0_47 : St) (H : Heap) (locs : List Loc) (ls : Array Slot), lq3 (m_MD_ticks_B47 F a1 (fun v2_47 v3_47 y0_47 => (some (v2_47, y0_47)))) n47 v2_47 v3_47 y0_47 = some o → va_P (dC, dI) vwCl (wd_MD g h0 q0 y0_47) H → va_D A (wd_MD g h0 q0 y0_47) → va_S A s.heap H locs → lv_has ls 6 [(0, .ref h0), (1, .int a1), (2, .int v2_47), (3, .int v3_47)] → W p l e rm_MD_ticks s m args below meth c H locs 0 0 Q (F0 m 47 ls []) := by
            intro n47
            induction n47 with
            | zero => intro v2_47 v3_47 y0_47 H locs ls hm; exact absurd hm (by intro z; cases z)
            | succ n47 ih47 =>
              intro v2_47 v3_47 y0_47 H locs ls hm hP hD hS hl
              replace hm := m_MD_ticks_B47_h (lq3_h hm)
              refine lv_iload_n hx hb d_MD_ticks_47 rfl (lv_at hl 3 rfl) ?_
              refine lv_iload_n hx hb d_MD_ticks_48 rfl (lv_at hl 1 rfl) ?_
              refine lv_icmp_ge (tgt := 106) hx hb d_MD_ticks_49 (by decide) (fun hc => ?_) (fun hc => ?_)
              · replace hm := if_t hm hc
                refine lv_iload_n hx hb d_MD_ticks_106 rfl (lv_at hl 2 rfl) ?_
                obtain rfl := Option.some.inj hm
                rw [hQ]
                exact kri hx hb hr hlocks hAe hP hK hD hS d_MD_ticks_107
              · replace hm := if_f hm hc
                refine lv_aload_n hx hb d_MD_ticks_52 rfl (lv_at hl 0 rfl) ?_
                refine lv_dup hx hb d_MD_ticks_53 rfl ?_
                refine va_get (D := (dC, dI)) (ci := 10) (v := .int (y0_47 2 0)) (C := "AlarmMatrixModel") (T := T_MD) (N := 42) hx hb hts i_MD hown hK hP 0 rfl rfl 2 (by decide) (hts _ k5_22) (fun _ h9 => h9) rfl d_MD_ticks_54 ?_
                refine lv_iconst (v := (1 : Int32)) hx hb d_MD_ticks_57 (by decide) ?_
                refine lv_iadd hx hb d_MD_ticks_58 ?_
                obtain ⟨e0_59, he, hm⟩ := lz_s hm
                refine va_put (D := (dC, dI)) (ci := 10) (v := .int ((y0_47 2 0) + (1 : Int32))) (ty := .int) (C := "AlarmMatrixModel") (T := T_MD) (N := 42) hx hb hts i_MD t_MD o_MD n_MD hown hK hP hD hS 0 rfl rfl 2 (by decide) (hts _ k5_22) (fun _ h9 => h9) rfl (by decide +kernel) rfl rfl (Nat.le_of_ble_eq_true rfl) d_MD_ticks_59 (fun H locs hP hD hS => ?_)
                have hP : va_P (dC, dI) vwCl (wd_MD g h0 q0 e0_59) H := by rw [he]; exact hP
                have hD : va_D A (wd_MD g h0 q0 e0_59) := by rw [he]; exact hD
                refine lv_aload_n hx hb d_MD_ticks_62 rfl (lv_at hl 0 rfl) ?_
                refine lv_iconst (v := (0 : Int32)) hx hb d_MD_ticks_63 (by decide) ?_
                obtain ⟨r64, hcl, hm⟩ := bn1_s hm
                refine kci (wc := wd_MD g h0 q0 e0_59) (wr := ([] : va_W)) (w1 := wd_MD g h0 q0 e0_59) hP hD hS hA [0, 1, 2, 3, 4, 5, 6, 7, 8, 9, 10, 11, 12, 13, 14, 15, 16, 17, 18, 19, 20, 21, 22, 23, 24, 25, 26, 27, 28, 29, 30, 31] [] rfl rfl (by decide) (by decide) (va_runV (As := [.int (0 : Int32)]) (rest := []) ⟨hx, hb, hml, hown, hts⟩ (c_MD_rankedOne hG hGn l dC dI g F H.size h0 q0 e0_59 (0 : Int32) hcl) (cwV 1 hts (gdV k6_81 k6_83 kp_46 k1_10 k6_84) rfl rfl rfl (by decide +kernel) ⟨Nat.le_of_ble_eq_true rfl, Nat.le_of_ble_eq_true rfl⟩) (kpV hG hP hK hD hS hA hGA [0, 1, 2, 3, 4, 5, 6, 7, 8, 9, 10, 11, 12, 13, 14, 15, 16, 17, 18, 19, 20, 21, 22, 23, 24, 25, 26, 27, 28, 29, 30, 31] (by decide) rfl (ci := 10) (q0 := 0) rfl rfl rfl) rfl rfl hl.1 rfl (lv_room (Nat.le_of_ble_eq_true rfl)) d_MD_ticks_64 ⟨Nat.le_of_ble_eq_true rfl, Nat.le_of_ble_eq_true rfl⟩) (fun H locs hP hD hS => ?_)
                have hP : va_P (dC, dI) vwCl (wd_MD g h0 q0 e0_59) H := hP
                have hD : va_D A (wd_MD g h0 q0 e0_59) := hD
                refine lv_istore (lv' := [(4, .int r64), (0, .ref h0), (1, .int a1), (2, .int v2_47), (3, .int v3_47)]) hx hb d_MD_ticks_67 hl (by decide) rfl (fun ls hl => ?_)
                refine lv_iconst (v := (1 : Int32)) hx hb d_MD_ticks_69 (by decide) ?_
                refine lv_istore (lv' := [(5, .int (1 : Int32)), (4, .int r64), (0, .ref h0), (1, .int a1), (2, .int v2_47), (3, .int v3_47)]) hx hb d_MD_ticks_70 hl (by decide) rfl (fun ls hl => ?_)
                have L72 : ∀ (n72 : Nat) (v2_72 : Int32) (v4_72 : Int32) (v5_72 : Int32) (y0_72 : St) (H : Heap) (locs : List Loc) (ls : Array Slot), lq4 (m_MD_ticks_B72 F  (fun v2_72 v4_72 v5_72 y0_72 => (lq3 (m_MD_ticks_B47 F a1 (fun v2_47 v3_47 y0_47 => (some (v2_47, y0_47)))) n47 v2_72 (v3_47 + (1 : Int32)) y0_72))) n72 v2_72 v4_72 v5_72 y0_72 = some o → va_P (dC, dI) vwCl (wd_MD g h0 q0 y0_72) H → va_D A (wd_MD g h0 q0 y0_72) → va_S A s.heap H locs → lv_has ls 6 [(0, .ref h0), (1, .int a1), (2, .int v2_72), (3, .int v3_47), (4, .int v4_72), (5, .int v5_72)] → W p l e rm_MD_ticks s m args below meth c H locs 0 0 Q (F0 m 72 ls []) := by
                  intro n72
                  induction n72 with
                  | zero => intro v2_72 v4_72 v5_72 y0_72 H locs ls hm; exact absurd hm (by intro z; cases z)
                  | succ n72 ih72 =>
                    intro v2_72 v4_72 v5_72 y0_72 H locs ls hm hP hD hS hl
                    replace hm := m_MD_ticks_B72_h (lq4_h hm)
                    refine lv_iload hx hb d_MD_ticks_72 (lv_at hl 4 rfl) ?_
                    refine lv_if_lt (tgt := 100) hx hb d_MD_ticks_74 (by decide) (fun hc => ?_) (fun hc => ?_)
                    · replace hm := if_t hm hc
                      refine lv_iinc (v := (v3_47 + (1 : Int32))) (lv' := [(3, .int (v3_47 + (1 : Int32))), (0, .ref h0), (1, .int a1), (2, .int v2_72), (4, .int v4_72), (5, .int v5_72)]) hx hb d_MD_ticks_100 hl (k := 3) rfl rfl (by decide) rfl (fun ls hl => ?_)
                      refine lv_goto (tgt := 47) hx hb d_MD_ticks_103 (by decide) ?_
                      exact ih47 v2_72 (v3_47 + (1 : Int32)) y0_72 H locs ls hm hP hD hS (lv_sub hl [1, 2, 3, 0] rfl)
                    · replace hm := if_f hm hc
                      refine lv_iload_n hx hb d_MD_ticks_77 rfl (lv_at hl 2 rfl) ?_
                      refine lv_aload_n hx hb d_MD_ticks_78 rfl (lv_at hl 0 rfl) ?_
                      refine lv_iload hx hb d_MD_ticks_79 (lv_at hl 4 rfl) ?_
                      obtain ⟨r81, z0_81, hcl, hm⟩ := bn2_s hm
                      refine kci (wc := wd_MD g h0 q0 y0_72) (wr := ([] : va_W)) (w1 := wd_MD g h0 q0 z0_81) hP hD hS hA [0, 1, 2, 3, 4, 5, 6, 7, 8, 9, 10, 11, 12, 13, 14, 15, 16, 17, 18, 19, 20, 21, 22, 23, 24, 25, 26, 27, 28, 29, 30, 31] [] rfl rfl (by decide) (by decide) (va_runV (As := [.int v4_72]) (rest := [.int v2_72]) ⟨hx, hb, hml, hown, hts⟩ (c_MD_go hG hGn l dC dI g F H.size h0 q0 y0_72 v4_72 hcl) (cwV 1 hts (gdV k6_85 k6_87 kp_47 k1_10 k6_88) rfl rfl rfl (by decide +kernel) ⟨Nat.le_of_ble_eq_true rfl, Nat.le_of_ble_eq_true rfl⟩) (kpV hG hP hK hD hS hA hGA [0, 1, 2, 3, 4, 5, 6, 7, 8, 9, 10, 11, 12, 13, 14, 15, 16, 17, 18, 19, 20, 21, 22, 23, 24, 25, 26, 27, 28, 29, 30, 31] (by decide) rfl (ci := 10) (q0 := 0) rfl rfl rfl) rfl rfl hl.1 rfl (lv_room (Nat.le_of_ble_eq_true rfl)) d_MD_ticks_81 ⟨Nat.le_of_ble_eq_true rfl, Nat.le_of_ble_eq_true rfl⟩) (fun H locs hP hD hS => ?_)
                      have hP : va_P (dC, dI) vwCl (wd_MD g h0 q0 z0_81) H := hP
                      have hD : va_D A (wd_MD g h0 q0 z0_81) := hD
                      refine lv_iadd hx hb d_MD_ticks_84 ?_
                      refine lv_istore_n (lv' := [(2, .int (v2_72 + r81)), (0, .ref h0), (1, .int a1), (3, .int v3_47), (4, .int v4_72), (5, .int v5_72)]) hx hb d_MD_ticks_85 rfl hl (by decide) rfl (fun ls hl => ?_)
                      refine lv_aload_n hx hb d_MD_ticks_86 rfl (lv_at hl 1 rfl) ?_
                      refine lv_iload hx hb d_MD_ticks_87 (lv_at hl 5 rfl) ?_
                      obtain ⟨r89, hcl, hm⟩ := bn1_s hm
                      refine kci (wc := wd_MD g h0 q0 z0_81) (wr := ([] : va_W)) (w1 := wd_MD g h0 q0 z0_81) hP hD hS hA [0, 1, 2, 3, 4, 5, 6, 7, 8, 9, 10, 11, 12, 13, 14, 15, 16, 17, 18, 19, 20, 21, 22, 23, 24, 25, 26, 27, 28, 29, 30, 31] [] rfl rfl (by decide) (by decide) (va_runV (As := [.int v5_72]) (rest := []) ⟨hx, hb, hml, hown, hts⟩ (c_MD_rankedOne hG hGn l dC dI g F H.size h0 q0 z0_81 v5_72 hcl) (cwV 1 hts (gdV k6_81 k6_83 kp_46 k1_10 k6_84) rfl rfl rfl (by decide +kernel) ⟨Nat.le_of_ble_eq_true rfl, Nat.le_of_ble_eq_true rfl⟩) (kpV hG hP hK hD hS hA hGA [0, 1, 2, 3, 4, 5, 6, 7, 8, 9, 10, 11, 12, 13, 14, 15, 16, 17, 18, 19, 20, 21, 22, 23, 24, 25, 26, 27, 28, 29, 30, 31] (by decide) rfl (ci := 10) (q0 := 0) rfl rfl rfl) rfl rfl hl.1 rfl (lv_room (Nat.le_of_ble_eq_true rfl)) d_MD_ticks_89 ⟨Nat.le_of_ble_eq_true rfl, Nat.le_of_ble_eq_true rfl⟩) (fun H locs hP hD hS => ?_)
                      have hP : va_P (dC, dI) vwCl (wd_MD g h0 q0 z0_81) H := hP
                      have hD : va_D A (wd_MD g h0 q0 z0_81) := hD
                      refine lv_istore (lv' := [(4, .int r89), (2, .int (v2_72 + r81)), (0, .ref h0), (1, .int a1), (3, .int v3_47), (5, .int v5_72)]) hx hb d_MD_ticks_92 hl (by decide) rfl (fun ls hl => ?_)
                      refine lv_iinc (v := (v5_72 + (1 : Int32))) (lv' := [(5, .int (v5_72 + (1 : Int32))), (4, .int r89), (2, .int (v2_72 + r81)), (0, .ref h0), (1, .int a1), (3, .int v3_47)]) hx hb d_MD_ticks_94 hl (k := 5) rfl rfl (by decide) rfl (fun ls hl => ?_)
                      refine lv_goto (tgt := 72) hx hb d_MD_ticks_97 (by decide) ?_
                      exact ih72 (v2_72 + r81) r89 (v5_72 + (1 : Int32)) z0_81 H locs ls hm hP hD hS (lv_sub hl [3, 4, 2, 5, 1, 0] rfl)
                exact L72 F v2_47 r64 (1 : Int32) e0_59 H locs ls hm hP hD hS (lv_sub hl [2, 3, 4, 5, 1, 0] rfl)
          exact L47 F (0 : Int32) (0 : Int32) z0_35 H locs ls hm hP hD hS (lv_sub hl [2, 3, 1, 0] rfl)
        · replace hm := if_t hm hc
          refine lv_iconst (v := (0 : Int32)) hx hb d_MD_ticks_41 (by decide) ?_
          obtain rfl := Option.some.inj hm
          rw [hQ]
          exact kri hx hb hr hlocks hAe hP hK hD hS d_MD_ticks_42
      · replace hm := if_f hm hc
        refine lv_iconst (v := (1 : Int32)) hx hb d_MD_ticks_30 (by decide) ?_
        refine lv_goto (tgt := 35) hx hb d_MD_ticks_31 (by decide) ?_
        obtain ⟨r35, z0_35, hcl, hm⟩ := bn2_s hm
        refine kci (wc := wd_MD g h0 q0 x0) (wr := ([] : va_W)) (w1 := wd_MD g h0 q0 z0_35) hP hD hS hA [0, 1, 2, 3, 4, 5, 6, 7, 8, 9, 10, 11, 12, 13, 14, 15, 16, 17, 18, 19, 20, 21, 22, 23, 24, 25, 26, 27, 28, 29, 30, 31] [] rfl rfl (by decide) (by decide) (va_runV (As := [.int (1 : Int32), .int (1 : Int32)]) (rest := []) ⟨hx, hb, hml, hown, hts⟩ (c_MD_goes hG hGn l dC dI g F H.size h0 q0 x0 (1 : Int32) (1 : Int32) hcl) (cwV 2 hts (gdV k5_155 k5_157 kp_20 k1_10 k5_158) rfl rfl rfl (by decide +kernel) ⟨Nat.le_of_ble_eq_true rfl, Nat.le_of_ble_eq_true rfl⟩) (kpV hG hP hK hD hS hA hGA [0, 1, 2, 3, 4, 5, 6, 7, 8, 9, 10, 11, 12, 13, 14, 15, 16, 17, 18, 19, 20, 21, 22, 23, 24, 25, 26, 27, 28, 29, 30, 31] (by decide) rfl (ci := 10) (q0 := 0) rfl rfl rfl) rfl rfl hl.1 rfl (lv_room (Nat.le_of_ble_eq_true rfl)) d_MD_ticks_35 ⟨Nat.le_of_ble_eq_true rfl, Nat.le_of_ble_eq_true rfl⟩) (fun H locs hP hD hS => ?_)
        have hP : va_P (dC, dI) vwCl (wd_MD g h0 q0 z0_35) H := hP
        have hD : va_D A (wd_MD g h0 q0 z0_35) := hD
        refine lv_if_ne (tgt := 43) hx hb d_MD_ticks_38 (by decide) (fun hc => ?_) (fun hc => ?_)
        · replace hm := if_f hm hc
          refine lv_iconst (v := (0 : Int32)) hx hb d_MD_ticks_43 (by decide) ?_
          refine lv_istore_n (lv' := [(2, .int (0 : Int32)), (0, .ref h0), (1, .int a1)]) hx hb d_MD_ticks_44 rfl hl (by decide) rfl (fun ls hl => ?_)
          refine lv_iconst (v := (0 : Int32)) hx hb d_MD_ticks_45 (by decide) ?_
          refine lv_istore_n (lv' := [(3, .int (0 : Int32)), (2, .int (0 : Int32)), (0, .ref h0), (1, .int a1)]) hx hb d_MD_ticks_46 rfl hl (by decide) rfl (fun ls hl => ?_)
          have L47 : ∀ (n47 : Nat) (v2_47 : Int32) (v3_47 : Int32) (y0_47 : St) (H : Heap) (locs : List Loc) (ls : Array Slot), lq3 (m_MD_ticks_B47 F a1 (fun v2_47 v3_47 y0_47 => (some (v2_47, y0_47)))) n47 v2_47 v3_47 y0_47 = some o → va_P (dC, dI) vwCl (wd_MD g h0 q0 y0_47) H → va_D A (wd_MD g h0 q0 y0_47) → va_S A s.heap H locs → lv_has ls 6 [(0, .ref h0), (1, .int a1), (2, .int v2_47), (3, .int v3_47)] → W p l e rm_MD_ticks s m args below meth c H locs 0 0 Q (F0 m 47 ls []) := by
            intro n47
            induction n47 with
            | zero => intro v2_47 v3_47 y0_47 H locs ls hm; exact absurd hm (by intro z; cases z)
            | succ n47 ih47 =>
              intro v2_47 v3_47 y0_47 H locs ls hm hP hD hS hl
              replace hm := m_MD_ticks_B47_h (lq3_h hm)
              refine lv_iload_n hx hb d_MD_ticks_47 rfl (lv_at hl 3 rfl) ?_
              refine lv_iload_n hx hb d_MD_ticks_48 rfl (lv_at hl 1 rfl) ?_
              refine lv_icmp_ge (tgt := 106) hx hb d_MD_ticks_49 (by decide) (fun hc => ?_) (fun hc => ?_)
              · replace hm := if_t hm hc
                refine lv_iload_n hx hb d_MD_ticks_106 rfl (lv_at hl 2 rfl) ?_
                obtain rfl := Option.some.inj hm
                rw [hQ]
                exact kri hx hb hr hlocks hAe hP hK hD hS d_MD_ticks_107
              · replace hm := if_f hm hc
                refine lv_aload_n hx hb d_MD_ticks_52 rfl (lv_at hl 0 rfl) ?_
                refine lv_dup hx hb d_MD_ticks_53 rfl ?_
                refine va_get (D := (dC, dI)) (ci := 10) (v := .int (y0_47 2 0)) (C := "AlarmMatrixModel") (T := T_MD) (N := 42) hx hb hts i_MD hown hK hP 0 rfl rfl 2 (by decide) (hts _ k5_22) (fun _ h9 => h9) rfl d_MD_ticks_54 ?_
                refine lv_iconst (v := (1 : Int32)) hx hb d_MD_ticks_57 (by decide) ?_
                refine lv_iadd hx hb d_MD_ticks_58 ?_
                obtain ⟨e0_59, he, hm⟩ := lz_s hm
                refine va_put (D := (dC, dI)) (ci := 10) (v := .int ((y0_47 2 0) + (1 : Int32))) (ty := .int) (C := "AlarmMatrixModel") (T := T_MD) (N := 42) hx hb hts i_MD t_MD o_MD n_MD hown hK hP hD hS 0 rfl rfl 2 (by decide) (hts _ k5_22) (fun _ h9 => h9) rfl (by decide +kernel) rfl rfl (Nat.le_of_ble_eq_true rfl) d_MD_ticks_59 (fun H locs hP hD hS => ?_)
                have hP : va_P (dC, dI) vwCl (wd_MD g h0 q0 e0_59) H := by rw [he]; exact hP
                have hD : va_D A (wd_MD g h0 q0 e0_59) := by rw [he]; exact hD
                refine lv_aload_n hx hb d_MD_ticks_62 rfl (lv_at hl 0 rfl) ?_
                refine lv_iconst (v := (0 : Int32)) hx hb d_MD_ticks_63 (by decide) ?_
                obtain ⟨r64, hcl, hm⟩ := bn1_s hm
                refine kci (wc := wd_MD g h0 q0 e0_59) (wr := ([] : va_W)) (w1 := wd_MD g h0 q0 e0_59) hP hD hS hA [0, 1, 2, 3, 4, 5, 6, 7, 8, 9, 10, 11, 12, 13, 14, 15, 16, 17, 18, 19, 20, 21, 22, 23, 24, 25, 26, 27, 28, 29, 30, 31] [] rfl rfl (by decide) (by decide) (va_runV (As := [.int (0 : Int32)]) (rest := []) ⟨hx, hb, hml, hown, hts⟩ (c_MD_rankedOne hG hGn l dC dI g F H.size h0 q0 e0_59 (0 : Int32) hcl) (cwV 1 hts (gdV k6_81 k6_83 kp_46 k1_10 k6_84) rfl rfl rfl (by decide +kernel) ⟨Nat.le_of_ble_eq_true rfl, Nat.le_of_ble_eq_true rfl⟩) (kpV hG hP hK hD hS hA hGA [0, 1, 2, 3, 4, 5, 6, 7, 8, 9, 10, 11, 12, 13, 14, 15, 16, 17, 18, 19, 20, 21, 22, 23, 24, 25, 26, 27, 28, 29, 30, 31] (by decide) rfl (ci := 10) (q0 := 0) rfl rfl rfl) rfl rfl hl.1 rfl (lv_room (Nat.le_of_ble_eq_true rfl)) d_MD_ticks_64 ⟨Nat.le_of_ble_eq_true rfl, Nat.le_of_ble_eq_true rfl⟩) (fun H locs hP hD hS => ?_)
                have hP : va_P (dC, dI) vwCl (wd_MD g h0 q0 e0_59) H := hP
                have hD : va_D A (wd_MD g h0 q0 e0_59) := hD
                refine lv_istore (lv' := [(4, .int r64), (0, .ref h0), (1, .int a1), (2, .int v2_47), (3, .int v3_47)]) hx hb d_MD_ticks_67 hl (by decide) rfl (fun ls hl => ?_)
                refine lv_iconst (v := (1 : Int32)) hx hb d_MD_ticks_69 (by decide) ?_
                refine lv_istore (lv' := [(5, .int (1 : Int32)), (4, .int r64), (0, .ref h0), (1, .int a1), (2, .int v2_47), (3, .int v3_47)]) hx hb d_MD_ticks_70 hl (by decide) rfl (fun ls hl => ?_)
                have L72 : ∀ (n72 : Nat) (v2_72 : Int32) (v4_72 : Int32) (v5_72 : Int32) (y0_72 : St) (H : Heap) (locs : List Loc) (ls : Array Slot), lq4 (m_MD_ticks_B72 F  (fun v2_72 v4_72 v5_72 y0_72 => (lq3 (m_MD_ticks_B47 F a1 (fun v2_47 v3_47 y0_47 => (some (v2_47, y0_47)))) n47 v2_72 (v3_47 + (1 : Int32)) y0_72))) n72 v2_72 v4_72 v5_72 y0_72 = some o → va_P (dC, dI) vwCl (wd_MD g h0 q0 y0_72) H → va_D A (wd_MD g h0 q0 y0_72) → va_S A s.heap H locs → lv_has ls 6 [(0, .ref h0), (1, .int a1), (2, .int v2_72), (3, .int v3_47), (4, .int v4_72), (5, .int v5_72)] → W p l e rm_MD_ticks s m args below meth c H locs 0 0 Q (F0 m 72 ls []) := by
                  intro n72
                  induction n72 with
                  | zero => intro v2_72 v4_72 v5_72 y0_72 H locs ls hm; exact absurd hm (by intro z; cases z)
                  | succ n72 ih72 =>
                    intro v2_72 v4_72 v5_72 y0_72 H locs ls hm hP hD hS hl
                    replace hm := m_MD_ticks_B72_h (lq4_h hm)
                    refine lv_iload hx hb d_MD_ticks_72 (lv_at hl 4 rfl) ?_
                    refine lv_if_lt (tgt := 100) hx hb d_MD_ticks_74 (by decide) (fun hc => ?_) (fun hc => ?_)
                    · replace hm := if_t hm hc
                      refine lv_iinc (v := (v3_47 + (1 : Int32))) (lv' := [(3, .int (v3_47 + (1 : Int32))), (0, .ref h0), (1, .int a1), (2, .int v2_72), (4, .int v4_72), (5, .int v5_72)]) hx hb d_MD_ticks_100 hl (k := 3) rfl rfl (by decide) rfl (fun ls hl => ?_)
                      refine lv_goto (tgt := 47) hx hb d_MD_ticks_103 (by decide) ?_
                      exact ih47 v2_72 (v3_47 + (1 : Int32)) y0_72 H locs ls hm hP hD hS (lv_sub hl [1, 2, 3, 0] rfl)
                    · replace hm := if_f hm hc
                      refine lv_iload_n hx hb d_MD_ticks_77 rfl (lv_at hl 2 rfl) ?_
                      refine lv_aload_n hx hb d_MD_ticks_78 rfl (lv_at hl 0 rfl) ?_
                      refine lv_iload hx hb d_MD_ticks_79 (lv_at hl 4 rfl) ?_
                      obtain ⟨r81, z0_81, hcl, hm⟩ := bn2_s hm
                      refine kci (wc := wd_MD g h0 q0 y0_72) (wr := ([] : va_W)) (w1 := wd_MD g h0 q0 z0_81) hP hD hS hA [0, 1, 2, 3, 4, 5, 6, 7, 8, 9, 10, 11, 12, 13, 14, 15, 16, 17, 18, 19, 20, 21, 22, 23, 24, 25, 26, 27, 28, 29, 30, 31] [] rfl rfl (by decide) (by decide) (va_runV (As := [.int v4_72]) (rest := [.int v2_72]) ⟨hx, hb, hml, hown, hts⟩ (c_MD_go hG hGn l dC dI g F H.size h0 q0 y0_72 v4_72 hcl) (cwV 1 hts (gdV k6_85 k6_87 kp_47 k1_10 k6_88) rfl rfl rfl (by decide +kernel) ⟨Nat.le_of_ble_eq_true rfl, Nat.le_of_ble_eq_true rfl⟩) (kpV hG hP hK hD hS hA hGA [0, 1, 2, 3, 4, 5, 6, 7, 8, 9, 10, 11, 12, 13, 14, 15, 16, 17, 18, 19, 20, 21, 22, 23, 24, 25, 26, 27, 28, 29, 30, 31] (by decide) rfl (ci := 10) (q0 := 0) rfl rfl rfl) rfl rfl hl.1 rfl (lv_room (Nat.le_of_ble_eq_true rfl)) d_MD_ticks_81 ⟨Nat.le_of_ble_eq_true rfl, Nat.le_of_ble_eq_true rfl⟩) (fun H locs hP hD hS => ?_)
                      have hP : va_P (dC, dI) vwCl (wd_MD g h0 q0 z0_81) H := hP
                      have hD : va_D A (wd_MD g h0 q0 z0_81) := hD
                      refine lv_iadd hx hb d_MD_ticks_84 ?_
                      refine lv_istore_n (lv' := [(2, .int (v2_72 + r81)), (0, .ref h0), (1, .int a1), (3, .int v3_47), (4, .int v4_72), (5, .int v5_72)]) hx hb d_MD_ticks_85 rfl hl (by decide) rfl (fun ls hl => ?_)
                      refine lv_aload_n hx hb d_MD_ticks_86 rfl (lv_at hl 1 rfl) ?_
                      refine lv_iload hx hb d_MD_ticks_87 (lv_at hl 5 rfl) ?_
                      obtain ⟨r89, hcl, hm⟩ := bn1_s hm
                      refine kci (wc := wd_MD g h0 q0 z0_81) (wr := ([] : va_W)) (w1 := wd_MD g h0 q0 z0_81) hP hD hS hA [0, 1, 2, 3, 4, 5, 6, 7, 8, 9, 10, 11, 12, 13, 14, 15, 16, 17, 18, 19, 20, 21, 22, 23, 24, 25, 26, 27, 28, 29, 30, 31] [] rfl rfl (by decide) (by decide) (va_runV (As := [.int v5_72]) (rest := []) ⟨hx, hb, hml, hown, hts⟩ (c_MD_rankedOne hG hGn l dC dI g F H.size h0 q0 z0_81 v5_72 hcl) (cwV 1 hts (gdV k6_81 k6_83 kp_46 k1_10 k6_84) rfl rfl rfl (by decide +kernel) ⟨Nat.le_of_ble_eq_true rfl, Nat.le_of_ble_eq_true rfl⟩) (kpV hG hP hK hD hS hA hGA [0, 1, 2, 3, 4, 5, 6, 7, 8, 9, 10, 11, 12, 13, 14, 15, 16, 17, 18, 19, 20, 21, 22, 23, 24, 25, 26, 27, 28, 29, 30, 31] (by decide) rfl (ci := 10) (q0 := 0) rfl rfl rfl) rfl rfl hl.1 rfl (lv_room (Nat.le_of_ble_eq_true rfl)) d_MD_ticks_89 ⟨Nat.le_of_ble_eq_true rfl, Nat.le_of_ble_eq_true rfl⟩) (fun H locs hP hD hS => ?_)
                      have hP : va_P (dC, dI) vwCl (wd_MD g h0 q0 z0_81) H := hP
                      have hD : va_D A (wd_MD g h0 q0 z0_81) := hD
                      refine lv_istore (lv' := [(4, .int r89), (2, .int (v2_72 + r81)), (0, .ref h0), (1, .int a1), (3, .int v3_47), (5, .int v5_72)]) hx hb d_MD_ticks_92 hl (by decide) rfl (fun ls hl => ?_)
                      refine lv_iinc (v := (v5_72 + (1 : Int32))) (lv' := [(5, .int (v5_72 + (1 : Int32))), (4, .int r89), (2, .int (v2_72 + r81)), (0, .ref h0), (1, .int a1), (3, .int v3_47)]) hx hb d_MD_ticks_94 hl (k := 5) rfl rfl (by decide) rfl (fun ls hl => ?_)
                      refine lv_goto (tgt := 72) hx hb d_MD_ticks_97 (by decide) ?_
                      exact ih72 (v2_72 + r81) r89 (v5_72 + (1 : Int32)) z0_81 H locs ls hm hP hD hS (lv_sub hl [3, 4, 2, 5, 1, 0] rfl)
                exact L72 F v2_47 r64 (1 : Int32) e0_59 H locs ls hm hP hD hS (lv_sub hl [2, 3, 4, 5, 1, 0] rfl)
          exact L47 F (0 : Int32) (0 : Int32) z0_35 H locs ls hm hP hD hS (lv_sub hl [2, 3, 1, 0] rfl)
        · replace hm := if_t hm hc
          refine lv_iconst (v := (0 : Int32)) hx hb d_MD_ticks_41 (by decide) ?_
          obtain rfl := Option.some.inj hm
          rw [hQ]
          exact kri hx hb hr hlocks hAe hP hK hD hS d_MD_ticks_42

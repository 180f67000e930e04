abbrev b_MD_readAct : ByteArray := prog_12_method_25_code
abbrev y_MD_readAct : MethodName := ⟨"AlarmMatrixModel", "readAct", "()V"⟩
theorem d_MD_readAct_0 : decode b_MD_readAct 0 = .ok (.aload_n 0, 1) := by decide +kernel
theorem d_MD_readAct_1 : decode b_MD_readAct 1 = .ok (.iconst 0, 1) := by decide +kernel
theorem d_MD_readAct_2 : decode b_MD_readAct 2 = .ok (.bipush 19, 2) := by decide +kernel
theorem d_MD_readAct_4 : decode b_MD_readAct 4 = .ok (.invokevirtual 177, 3) := by decide +kernel
theorem d_MD_readAct_7 : decode b_MD_readAct 7 = .ok (.bipush 20, 2) := by decide +kernel
theorem d_MD_readAct_9 : decode b_MD_readAct 9 = .ok (.iadd, 1) := by decide +kernel
theorem d_MD_readAct_10 : decode b_MD_readAct 10 = .ok (.istore_n 1, 1) := by decide +kernel
theorem d_MD_readAct_11 : decode b_MD_readAct 11 = .ok (.aload_n 0, 1) := by decide +kernel
theorem d_MD_readAct_12 : decode b_MD_readAct 12 = .ok (.getfield 163, 3) := by decide +kernel
theorem d_MD_readAct_15 : decode b_MD_readAct 15 = .ok (.ifCond .ge 24, 3) := by decide +kernel
theorem d_MD_readAct_18 : decode b_MD_readAct 18 = .ok (.aload_n 0, 1) := by decide +kernel
theorem d_MD_readAct_19 : decode b_MD_readAct 19 = .ok (.aload_n 0, 1) := by decide +kernel
theorem d_MD_readAct_20 : decode b_MD_readAct 20 = .ok (.getfield 56, 3) := by decide +kernel
theorem d_MD_readAct_23 : decode b_MD_readAct 23 = .ok (.iload_n 1, 1) := by decide +kernel
theorem d_MD_readAct_24 : decode b_MD_readAct 24 = .ok (.baload, 1) := by decide +kernel
theorem d_MD_readAct_25 : decode b_MD_readAct 25 = .ok (.ifCond .ne 7, 3) := by decide +kernel
theorem d_MD_readAct_28 : decode b_MD_readAct 28 = .ok (.iconst 1, 1) := by decide +kernel
theorem d_MD_readAct_29 : decode b_MD_readAct 29 = .ok (.goto 4, 3) := by decide +kernel
theorem d_MD_readAct_32 : decode b_MD_readAct 32 = .ok (.iconst 0, 1) := by decide +kernel
theorem d_MD_readAct_33 : decode b_MD_readAct 33 = .ok (.invokevirtual 170, 3) := by decide +kernel
theorem d_MD_readAct_36 : decode b_MD_readAct 36 = .ok (.ifCond .ne 4, 3) := by decide +kernel
theorem d_MD_readAct_39 : decode b_MD_readAct 39 = .ok (.return_, 1) := by decide +kernel
theorem d_MD_readAct_40 : decode b_MD_readAct 40 = .ok (.aload_n 0, 1) := by decide +kernel
theorem d_MD_readAct_41 : decode b_MD_readAct 41 = .ok (.dup, 1) := by decide +kernel
theorem d_MD_readAct_42 : decode b_MD_readAct 42 = .ok (.getfield 160, 3) := by decide +kernel
theorem d_MD_readAct_45 : decode b_MD_readAct 45 = .ok (.iconst 1, 1) := by decide +kernel
theorem d_MD_readAct_46 : decode b_MD_readAct 46 = .ok (.iadd, 1) := by decide +kernel
theorem d_MD_readAct_47 : decode b_MD_readAct 47 = .ok (.putfield 160, 3) := by decide +kernel
theorem d_MD_readAct_50 : decode b_MD_readAct 50 = .ok (.aload_n 0, 1) := by decide +kernel
theorem d_MD_readAct_51 : decode b_MD_readAct 51 = .ok (.ldc 146, 2) := by decide +kernel
theorem d_MD_readAct_53 : decode b_MD_readAct 53 = .ok (.invokevirtual 181, 3) := by decide +kernel
theorem d_MD_readAct_56 : decode b_MD_readAct 56 = .ok (.aload_n 0, 1) := by decide +kernel
theorem d_MD_readAct_57 : decode b_MD_readAct 57 = .ok (.getfield 59, 3) := by decide +kernel
theorem d_MD_readAct_60 : decode b_MD_readAct 60 = .ok (.iload_n 1, 1) := by decide +kernel
theorem d_MD_readAct_61 : decode b_MD_readAct 61 = .ok (.aload_n 0, 1) := by decide +kernel
theorem d_MD_readAct_62 : decode b_MD_readAct 62 = .ok (.iconst 0, 1) := by decide +kernel
theorem d_MD_readAct_63 : decode b_MD_readAct 63 = .ok (.iconst 5, 1) := by decide +kernel
theorem d_MD_readAct_64 : decode b_MD_readAct 64 = .ok (.invokevirtual 184, 3) := by decide +kernel
theorem d_MD_readAct_67 : decode b_MD_readAct 67 = .ok (.iastore, 1) := by decide +kernel
theorem d_MD_readAct_68 : decode b_MD_readAct 68 = .ok (.aload_n 0, 1) := by decide +kernel
theorem d_MD_readAct_69 : decode b_MD_readAct 69 = .ok (.ldc 147, 2) := by decide +kernel
theorem d_MD_readAct_71 : decode b_MD_readAct 71 = .ok (.invokevirtual 181, 3) := by decide +kernel
theorem d_MD_readAct_74 : decode b_MD_readAct 74 = .ok (.aload_n 0, 1) := by decide +kernel
theorem d_MD_readAct_75 : decode b_MD_readAct 75 = .ok (.getfield 62, 3) := by decide +kernel
theorem d_MD_readAct_78 : decode b_MD_readAct 78 = .ok (.iload_n 1, 1) := by decide +kernel
theorem d_MD_readAct_79 : decode b_MD_readAct 79 = .ok (.aload_n 0, 1) := by decide +kernel
theorem d_MD_readAct_80 : decode b_MD_readAct 80 = .ok (.iconst 0, 1) := by decide +kernel
theorem d_MD_readAct_81 : decode b_MD_readAct 81 = .ok (.bipush 99, 2) := by decide +kernel
theorem d_MD_readAct_83 : decode b_MD_readAct 83 = .ok (.invokevirtual 184, 3) := by decide +kernel
theorem d_MD_readAct_86 : decode b_MD_readAct 86 = .ok (.iastore, 1) := by decide +kernel
theorem d_MD_readAct_87 : decode b_MD_readAct 87 = .ok (.aload_n 0, 1) := by decide +kernel
theorem d_MD_readAct_88 : decode b_MD_readAct 88 = .ok (.ldc 148, 2) := by decide +kernel
theorem d_MD_readAct_90 : decode b_MD_readAct 90 = .ok (.invokevirtual 181, 3) := by decide +kernel
theorem d_MD_readAct_93 : decode b_MD_readAct 93 = .ok (.aload_n 0, 1) := by decide +kernel
theorem d_MD_readAct_94 : decode b_MD_readAct 94 = .ok (.getfield 65, 3) := by decide +kernel
theorem d_MD_readAct_97 : decode b_MD_readAct 97 = .ok (.iload_n 1, 1) := by decide +kernel
theorem d_MD_readAct_98 : decode b_MD_readAct 98 = .ok (.aload_n 0, 1) := by decide +kernel
theorem d_MD_readAct_99 : decode b_MD_readAct 99 = .ok (.iconst 0, 1) := by decide +kernel
theorem d_MD_readAct_100 : decode b_MD_readAct 100 = .ok (.sipush 600, 3) := by decide +kernel
theorem d_MD_readAct_103 : decode b_MD_readAct 103 = .ok (.invokevirtual 184, 3) := by decide +kernel
theorem d_MD_readAct_106 : decode b_MD_readAct 106 = .ok (.iastore, 1) := by decide +kernel
theorem d_MD_readAct_107 : decode b_MD_readAct 107 = .ok (.aload_n 0, 1) := by decide +kernel
theorem d_MD_readAct_108 : decode b_MD_readAct 108 = .ok (.invokevirtual 191, 3) := by decide +kernel
theorem d_MD_readAct_111 : decode b_MD_readAct 111 = .ok (.aload_n 0, 1) := by decide +kernel
theorem d_MD_readAct_112 : decode b_MD_readAct 112 = .ok (.getfield 56, 3) := by decide +kernel
theorem d_MD_readAct_115 : decode b_MD_readAct 115 = .ok (.iload_n 1, 1) := by decide +kernel
theorem d_MD_readAct_116 : decode b_MD_readAct 116 = .ok (.iconst 1, 1) := by decide +kernel
theorem d_MD_readAct_117 : decode b_MD_readAct 117 = .ok (.bastore, 1) := by decide +kernel
theorem d_MD_readAct_118 : decode b_MD_readAct 118 = .ok (.aload_n 0, 1) := by decide +kernel
theorem d_MD_readAct_119 : decode b_MD_readAct 119 = .ok (.getfield 68, 3) := by decide +kernel
theorem d_MD_readAct_122 : decode b_MD_readAct 122 = .ok (.iload_n 1, 1) := by decide +kernel
theorem d_MD_readAct_123 : decode b_MD_readAct 123 = .ok (.iconst 0, 1) := by decide +kernel
theorem d_MD_readAct_124 : decode b_MD_readAct 124 = .ok (.bastore, 1) := by decide +kernel
theorem d_MD_readAct_125 : decode b_MD_readAct 125 = .ok (.return_, 1) := by decide +kernel
def m_MD_readAct (F : Nat) (x0 : St) : Option (St) :=
  (bn2 (m_MD_look F x0 (0 : Int32) (19 : Int32)) (fun r4 z0_4 => (if (0 : Int32) ≤ (z0_4 17 0) then (some z0_4) else (ck (r4 + (20 : Int32)) 40 (if ((z0_4 22) (r4 + (20 : Int32)).toNatClampNeg) = (0 : Int32) then (bn2 (m_MD_want F z0_4 (1 : Int32)) (fun r33 z0_33 => (if r33 = (0 : Int32) then (some z0_33) else (lz (sc z0_33 16 ((z0_33 16 0) + (1 : Int32))) (fun e0_47 => (bn1 (m_MD_take_0 F e0_47 (145707 : Int32)) (fun z0_53 => (bn2 (m_MD_takeNumber F z0_53 (0 : Int32) (5 : Int32)) (fun r64 z0_64 => (ck (r4 + (20 : Int32)) 40 (lz (st z0_64 23 (upd (z0_64 23) (r4 + (20 : Int32)).toNatClampNeg r64)) (fun e0_67 => (bn1 (m_MD_take_0 F e0_67 (374834 : Int32)) (fun z0_71 => (bn2 (m_MD_takeNumber F z0_71 (0 : Int32) (99 : Int32)) (fun r83 z0_83 => (ck (r4 + (20 : Int32)) 40 (lz (st z0_83 24 (upd (z0_83 24) (r4 + (20 : Int32)).toNatClampNeg r83)) (fun e0_86 => (bn1 (m_MD_take_0 F e0_86 (26259620 : Int32)) (fun z0_90 => (bn2 (m_MD_takeNumber F z0_90 (0 : Int32) (600 : Int32)) (fun r103 z0_103 => (ck (r4 + (20 : Int32)) 40 (lz (st z0_103 25 (upd (z0_103 25) (r4 + (20 : Int32)).toNatClampNeg r103)) (fun e0_106 => (bn1 (m_MD_takeStop F e0_106) (fun z0_108 => (ck (r4 + (20 : Int32)) 40 (lz (st z0_108 22 (upd (z0_108 22) (r4 + (20 : Int32)).toNatClampNeg (vp_nar .boolean (1 : Int32)))) (fun e0_117 => (ck (r4 + (20 : Int32)) 40 (lz (st e0_117 26 (upd (e0_117 26) (r4 + (20 : Int32)).toNatClampNeg (vp_nar .boolean (0 : Int32)))) (fun e0_124 => (some e0_124))))))))))))))))))))))))))))))))))) else (bn2 (m_MD_want F z0_4 (0 : Int32)) (fun r33 z0_33 => (if r33 = (0 : Int32) then (some z0_33) else (lz (sc z0_33 16 ((z0_33 16 0) + (1 : Int32))) (fun e0_47 => (bn1 (m_MD_take_0 F e0_47 (145707 : Int32)) (fun z0_53 => (bn2 (m_MD_takeNumber F z0_53 (0 : Int32) (5 : Int32)) (fun r64 z0_64 => (ck (r4 + (20 : Int32)) 40 (lz (st z0_64 23 (upd (z0_64 23) (r4 + (20 : Int32)).toNatClampNeg r64)) (fun e0_67 => (bn1 (m_MD_take_0 F e0_67 (374834 : Int32)) (fun z0_71 => (bn2 (m_MD_takeNumber F z0_71 (0 : Int32) (99 : Int32)) (fun r83 z0_83 => (ck (r4 + (20 : Int32)) 40 (lz (st z0_83 24 (upd (z0_83 24) (r4 + (20 : Int32)).toNatClampNeg r83)) (fun e0_86 => (bn1 (m_MD_take_0 F e0_86 (26259620 : Int32)) (fun z0_90 => (bn2 (m_MD_takeNumber F z0_90 (0 : Int32) (600 : Int32)) (fun r103 z0_103 => (ck (r4 + (20 : Int32)) 40 (lz (st z0_103 25 (upd (z0_103 25) (r4 + (20 : Int32)).toNatClampNeg r103)) (fun e0_106 => (bn1 (m_MD_takeStop F e0_106) (fun z0_108 => (ck (r4 + (20 : Int32)) 40 (lz (st z0_108 22 (upd (z0_108 22) (r4 + (20 : Int32)).toNatClampNeg (vp_nar .boolean (1 : Int32)))) (fun e0_117 => (ck (r4 + (20 : Int32)) 40 (lz (st e0_117 26 (upd (e0_117 26) (r4 + (20 : Int32)).toNatClampNeg (vp_nar .boolean (0 : Int32)))) (fun e0_124 => (some e0_124))))))))))))))))))))))))))))))))))))))))
abbrev rm_MD_readAct : Room := { frames := 3, cells := 0, slots := 0, locals := 69 }
set_option maxHeartbeats 4000000 in
set_option maxRecDepth 100000 in
theorem c_MD_readAct {G : (Nat → Prop) → State → Prop} (hG : gok G) (hGn : gN G) (l : Launch) (dC : Nat → ClassId) (dI : Nat → Nat → Nat) (g : Nat → ClassId) (F : Nat) (sz : Nat) (h0 : Nat) (q0 : Nat → Nat) (x0 : St) {o : St} (hm : m_MD_readAct F x0 = some o) : Met l y_MD_readAct (.code y_MD_readAct b_MD_readAct 2 none :: gw) rm_MD_readAct (kq (dC, dI) vwCl (tyv g) G [.ref h0] sz (wd_MD g h0 q0 x0)) (kqv (dC, dI) vwCl (tyv g) (wd_MD g h0 q0 x0) (wd_MD g h0 q0 o) sz) 0 0 (va_A (wd_MD g h0 q0 x0) sz) := by
  unfold m_MD_readAct at hm
  refine km (Qc := fun sz => kqv (dC, dI) vwCl (tyv g) (wd_MD g h0 q0 x0) (wd_MD g h0 q0 o) sz) (cc := b_MD_readAct) (maxL := 2) (ret := none) (by decide) rfl (Nat.le_of_ble_eq_true rfl) ?_
  intro p e s m args below meth c Q hQ hx hb hr hts hown hlocks hml hnm H locs A hAe hA hP hK hD hS hGA ls hl
  have hl : lv_has ls 2 [(0, .ref h0)] := hl
  have hts : ∀ w ∈ gw, w.before args s = true := fun w h => hts w (List.mem_cons_of_mem _ h)
  have hown : s.vm.findClass "AlarmMatrixModel" = some m.cls := hown
  refine lv_aload_n hx hb d_MD_readAct_0 rfl (lv_at hl 0 rfl) ?_
  refine lv_iconst (v := (0 : Int32)) hx hb d_MD_readAct_1 (by decide) ?_
  refine lv_bipush (v := (19 : Int32)) hx hb d_MD_readAct_2 (by decide) ?_
  obtain ⟨r4, z0_4, hcl, hm⟩ := bn2_s hm
  refine kci (wc := wd_MD g h0 q0 x0) (wr := ([] : va_W)) (w1 := wd_MD g h0 q0 z0_4) hP hD hS hA [0, 1, 2, 3, 4, 5, 6, 7, 8, 9, 10, 11, 12, 13, 14, 15, 16, 17, 18, 19, 20, 21, 22, 23, 24, 25, 26, 27, 28, 29, 30, 31] [] rfl rfl (by decide) (by decide) (va_runV (As := [.int (0 : Int32), .int (19 : Int32)]) (rest := []) ⟨hx, hb, hml, hown, hts⟩ (c_MD_look hG hGn l dC dI g F H.size h0 q0 x0 (0 : Int32) (19 : Int32) hcl) (cwV 2 hts (gdV k5_225 k5_227 kp_31 k1_10 k5_228) rfl rfl rfl (by decide +kernel) ⟨Nat.le_of_ble_eq_true rfl, Nat.le_of_ble_eq_true rfl⟩) (kpV hG hP hK hD hS hA hGA [0, 1, 2, 3, 4, 5, 6, 7, 8, 9, 10, 11, 12, 13, 14, 15, 16, 17, 18, 19, 20, 21, 22, 23, 24, 25, 26, 27, 28, 29, 30, 31] (by decide) rfl (ci := 10) (q0 := 0) rfl rfl rfl) rfl rfl hl.1 rfl (lv_room (Nat.le_of_ble_eq_true rfl)) d_MD_readAct_4 ⟨Nat.le_of_ble_eq_true rfl, Nat.le_of_ble_eq_true rfl⟩) (fun H locs hP hD hS => ?_)
  have hP : va_P (dC, dI) vwCl (wd_MD g h0 q0 z0_4) H := hP
  have hD : va_D A (wd_MD g h0 q0 z0_4) := hD
  refine lv_bipush (v := (20 : Int32)) hx hb d_MD_readAct_7 (by decide) ?_
  refine lv_iadd hx hb d_MD_readAct_9 ?_
  refine lv_istore_n (lv' := [(1, .int (r4 + (20 : Int32))), (0, .ref h0)]) hx hb d_MD_readAct_10 rfl hl (by decide) rfl (fun ls hl => ?_)
  refine lv_aload_n hx hb d_MD_readAct_11 rfl (lv_at hl 1 rfl) ?_
  refine va_get (D := (dC, dI)) (ci := 10) (v := .int (z0_4 17 0)) (C := "AlarmMatrixModel") (T := T_MD) (N := 42) hx hb hts i_MD hown hK hP 0 rfl rfl 17 (by decide) (hts _ k5_37) (fun _ h9 => h9) rfl d_MD_readAct_12 ?_
  refine lv_if_ge (tgt := 39) hx hb d_MD_readAct_15 (by decide) (fun hc => ?_) (fun hc => ?_)
  · replace hm := if_t hm hc
    obtain rfl := Option.some.inj hm
    rw [hQ]
    exact krv hx hb hr hlocks hAe hP hK hD hS d_MD_readAct_39
  · replace hm := if_f hm hc
    refine lv_aload_n hx hb d_MD_readAct_18 rfl (lv_at hl 1 rfl) ?_
    refine lv_aload_n hx hb d_MD_readAct_19 rfl (lv_at hl 1 rfl) ?_
    refine va_get (D := (dC, dI)) (ci := 10) (v := .ref (q0 22)) (C := "AlarmMatrixModel") (T := T_MD) (N := 42) hx hb hts i_MD hown hK hP 0 rfl rfl 22 (by decide) (hts _ k5_42) (fun _ h9 => h9) rfl d_MD_readAct_20 ?_
    refine lv_iload_n hx hb d_MD_readAct_23 rfl (lv_at hl 0 rfl) ?_
    obtain ⟨h_24, hm⟩ := ck_s hm
    refine va_zald (f := (z0_4 22)) hx hb hK hP 16 1 rfl rfl h_24 d_MD_readAct_24 ?_
    refine lv_if_ne (tgt := 32) hx hb d_MD_readAct_25 (by decide) (fun hc => ?_) (fun hc => ?_)
    · replace hm := if_f hm hc
      refine lv_iconst (v := (0 : Int32)) hx hb d_MD_readAct_32 (by decide) ?_
      obtain ⟨r33, z0_33, hcl, hm⟩ := bn2_s hm
      refine kci (wc := wd_MD g h0 q0 z0_4) (wr := ([] : va_W)) (w1 := wd_MD g h0 q0 z0_33) hP hD hS hA [0, 1, 2, 3, 4, 5, 6, 7, 8, 9, 10, 11, 12, 13, 14, 15, 16, 17, 18, 19, 20, 21, 22, 23, 24, 25, 26, 27, 28, 29, 30, 31] [] rfl rfl (by decide) (by decide) (va_runV (As := [.int (0 : Int32)]) (rest := []) ⟨hx, hb, hml, hown, hts⟩ (c_MD_want hG hGn l dC dI g F H.size h0 q0 z0_4 (0 : Int32) hcl) (cwV 1 hts (gdV k5_229 k5_231 kp_32 k1_10 k5_232) rfl rfl rfl (by decide +kernel) ⟨Nat.le_of_ble_eq_true rfl, Nat.le_of_ble_eq_true rfl⟩) (kpV hG hP hK hD hS hA hGA [0, 1, 2, 3, 4, 5, 6, 7, 8, 9, 10, 11, 12, 13, 14, 15, 16, 17, 18, 19, 20, 21, 22, 23, 24, 25, 26, 27, 28, 29, 30, 31] (by decide) rfl (ci := 10) (q0 := 0) rfl rfl rfl) rfl rfl hl.1 rfl (lv_room (Nat.le_of_ble_eq_true rfl)) d_MD_readAct_33 ⟨Nat.le_of_ble_eq_true rfl, Nat.le_of_ble_eq_true rfl⟩) (fun H locs hP hD hS => ?_)
      have hP : va_P (dC, dI) vwCl (wd_MD g h0 q0 z0_33) H := hP
      have hD : va_D A (wd_MD g h0 q0 z0_33) := hD
      refine lv_if_ne (tgt := 40) hx hb d_MD_readAct_36 (by decide) (fun hc => ?_) (fun hc => ?_)
      · replace hm := if_f hm hc
        refine lv_aload_n hx hb d_MD_readAct_40 rfl (lv_at hl 1 rfl) ?_
        refine lv_dup hx hb d_MD_readAct_41 rfl ?_
        refine va_get (D := (dC, dI)) (ci := 10) (v := .int (z0_33 16 0)) (C := "AlarmMatrixModel") (T := T_MD) (N := 42) hx hb hts i_MD hown hK hP 0 rfl rfl 16 (by decide) (hts _ k5_36) (fun _ h9 => h9) rfl d_MD_readAct_42 ?_
        refine lv_iconst (v := (1 : Int32)) hx hb d_MD_readAct_45 (by decide) ?_
        refine lv_iadd hx hb d_MD_readAct_46 ?_
        obtain ⟨e0_47, he, hm⟩ := lz_s hm
        refine va_put (D := (dC, dI)) (ci := 10) (v := .int ((z0_33 16 0) + (1 : Int32))) (ty := .int) (C := "AlarmMatrixModel") (T := T_MD) (N := 42) hx hb hts i_MD t_MD o_MD n_MD hown hK hP hD hS 0 rfl rfl 16 (by decide) (hts _ k5_36) (fun _ h9 => h9) rfl (by decide +kernel) rfl rfl (Nat.le_of_ble_eq_true rfl) d_MD_readAct_47 (fun H locs hP hD hS => ?_)
        have hP : va_P (dC, dI) vwCl (wd_MD g h0 q0 e0_47) H := by rw [he]; exact hP
        have hD : va_D A (wd_MD g h0 q0 e0_47) := by rw [he]; exact hD
        refine lv_aload_n hx hb d_MD_readAct_50 rfl (lv_at hl 1 rfl) ?_
        refine lv_ldc (v := (145707 : Int32)) hx hb hown (hts _ k5_190) d_MD_readAct_51 ?_
        obtain ⟨z0_53, hcl, hm⟩ := bn1_s hm
        refine kcv (wc := wd_MD g h0 q0 e0_47) (wr := ([] : va_W)) (w1 := wd_MD g h0 q0 z0_53) hP hD hS hA [0, 1, 2, 3, 4, 5, 6, 7, 8, 9, 10, 11, 12, 13, 14, 15, 16, 17, 18, 19, 20, 21, 22, 23, 24, 25, 26, 27, 28, 29, 30, 31] [] rfl rfl (by decide) (by decide) (va_runV (As := [.int (145707 : Int32)]) (rest := []) ⟨hx, hb, hml, hown, hts⟩ (c_MD_take_0 hG hGn l dC dI g F H.size h0 q0 e0_47 (145707 : Int32) hcl) (cwV 1 hts (gdV k5_233 k5_235 kp_33 k1_10 k5_236) rfl rfl rfl (by decide +kernel) ⟨Nat.le_of_ble_eq_true rfl, Nat.le_of_ble_eq_true rfl⟩) (kpV hG hP hK hD hS hA hGA [0, 1, 2, 3, 4, 5, 6, 7, 8, 9, 10, 11, 12, 13, 14, 15, 16, 17, 18, 19, 20, 21, 22, 23, 24, 25, 26, 27, 28, 29, 30, 31] (by decide) rfl (ci := 10) (q0 := 0) rfl rfl rfl) rfl rfl hl.1 rfl (lv_room (Nat.le_of_ble_eq_true rfl)) d_MD_readAct_53 ⟨Nat.le_of_ble_eq_true rfl, Nat.le_of_ble_eq_true rfl⟩) (fun H locs hP hD hS => ?_)
        have hP : va_P (dC, dI) vwCl (wd_MD g h0 q0 z0_53) H := hP
        have hD : va_D A (wd_MD g h0 q0 z0_53) := hD
        refine lv_aload_n hx hb d_MD_readAct_56 rfl (lv_at hl 1 rfl) ?_
        refine va_get (D := (dC, dI)) (ci := 10) (v := .ref (q0 23)) (C := "AlarmMatrixModel") (T := T_MD) (N := 42) hx hb hts i_MD hown hK hP 0 rfl rfl 23 (by decide) (hts _ k5_43) (fun _ h9 => h9) rfl d_MD_readAct_57 ?_
        refine lv_iload_n hx hb d_MD_readAct_60 rfl (lv_at hl 0 rfl) ?_
        refine lv_aload_n hx hb d_MD_readAct_61 rfl (lv_at hl 1 rfl) ?_
        refine lv_iconst (v := (0 : Int32)) hx hb d_MD_readAct_62 (by decide) ?_
        refine lv_iconst (v := (5 : Int32)) hx hb d_MD_readAct_63 (by decide) ?_
        obtain ⟨r64, z0_64, hcl, hm⟩ := bn2_s hm
        refine kci (wc := wd_MD g h0 q0 z0_53) (wr := ([] : va_W)) (w1 := wd_MD g h0 q0 z0_64) hP hD hS hA [0, 1, 2, 3, 4, 5, 6, 7, 8, 9, 10, 11, 12, 13, 14, 15, 16, 17, 18, 19, 20, 21, 22, 23, 24, 25, 26, 27, 28, 29, 30, 31] [] rfl rfl (by decide) (by decide) (va_runV (As := [.int (0 : Int32), .int (5 : Int32)]) (rest := [.int (r4 + (20 : Int32)), .ref (q0 23)]) ⟨hx, hb, hml, hown, hts⟩ (c_MD_takeNumber hG hGn l dC dI g F H.size h0 q0 z0_53 (0 : Int32) (5 : Int32) hcl) (cwV 2 hts (gdV k5_237 k5_239 kp_34 k1_10 k6_0) rfl rfl rfl (by decide +kernel) ⟨Nat.le_of_ble_eq_true rfl, Nat.le_of_ble_eq_true rfl⟩) (kpV hG hP hK hD hS hA hGA [0, 1, 2, 3, 4, 5, 6, 7, 8, 9, 10, 11, 12, 13, 14, 15, 16, 17, 18, 19, 20, 21, 22, 23, 24, 25, 26, 27, 28, 29, 30, 31] (by decide) rfl (ci := 10) (q0 := 0) rfl rfl rfl) rfl rfl hl.1 rfl (lv_room (Nat.le_of_ble_eq_true rfl)) d_MD_readAct_64 ⟨Nat.le_of_ble_eq_true rfl, Nat.le_of_ble_eq_true rfl⟩) (fun H locs hP hD hS => ?_)
        have hP : va_P (dC, dI) vwCl (wd_MD g h0 q0 z0_64) H := hP
        have hD : va_D A (wd_MD g h0 q0 z0_64) := hD
        obtain ⟨h_67, hm⟩ := ck_s hm
        obtain ⟨e0_67, he, hm⟩ := lz_s hm
        refine va_iast (f := (z0_64 23)) hx hb hK hP hD hS 17 0 rfl rfl h_67 d_MD_readAct_67 (fun H locs hP hD hS => ?_)
        have hP : va_P (dC, dI) vwCl (wd_MD g h0 q0 e0_67) H := by rw [he]; exact hP
        have hD : va_D A (wd_MD g h0 q0 e0_67) := by rw [he]; exact hD
        refine lv_aload_n hx hb d_MD_readAct_68 rfl (lv_at hl 1 rfl) ?_
        refine lv_ldc (v := (374834 : Int32)) hx hb hown (hts _ k5_191) d_MD_readAct_69 ?_
        obtain ⟨z0_71, hcl, hm⟩ := bn1_s hm
        refine kcv (wc := wd_MD g h0 q0 e0_67) (wr := ([] : va_W)) (w1 := wd_MD g h0 q0 z0_71) hP hD hS hA [0, 1, 2, 3, 4, 5, 6, 7, 8, 9, 10, 11, 12, 13, 14, 15, 16, 17, 18, 19, 20, 21, 22, 23, 24, 25, 26, 27, 28, 29, 30, 31] [] rfl rfl (by decide) (by decide) (va_runV (As := [.int (374834 : Int32)]) (rest := []) ⟨hx, hb, hml, hown, hts⟩ (c_MD_take_0 hG hGn l dC dI g F H.size h0 q0 e0_67 (374834 : Int32) hcl) (cwV 1 hts (gdV k5_233 k5_235 kp_33 k1_10 k5_236) rfl rfl rfl (by decide +kernel) ⟨Nat.le_of_ble_eq_true rfl, Nat.le_of_ble_eq_true rfl⟩) (kpV hG hP hK hD hS hA hGA [0, 1, 2, 3, 4, 5, 6, 7, 8, 9, 10, 11, 12, 13, 14, 15, 16, 17, 18, 19, 20, 21, 22, 23, 24, 25, 26, 27, 28, 29, 30, 31] (by decide) rfl (ci := 10) (q0 := 0) rfl rfl rfl) rfl rfl hl.1 rfl (lv_room (Nat.le_of_ble_eq_true rfl)) d_MD_readAct_71 ⟨Nat.le_of_ble_eq_true rfl, Nat.le_of_ble_eq_true rfl⟩) (fun H locs hP hD hS => ?_)
        have hP : va_P (dC, dI) vwCl (wd_MD g h0 q0 z0_71) H := hP
        have hD : va_D A (wd_MD g h0 q0 z0_71) := hD
        refine lv_aload_n hx hb d_MD_readAct_74 rfl (lv_at hl 1 rfl) ?_
        refine va_get (D := (dC, dI)) (ci := 10) (v := .ref (q0 24)) (C := "AlarmMatrixModel") (T := T_MD) (N := 42) hx hb hts i_MD hown hK hP 0 rfl rfl 24 (by decide) (hts _ k5_44) (fun _ h9 => h9) rfl d_MD_readAct_75 ?_
        refine lv_iload_n hx hb d_MD_readAct_78 rfl (lv_at hl 0 rfl) ?_
        refine lv_aload_n hx hb d_MD_readAct_79 rfl (lv_at hl 1 rfl) ?_
        refine lv_iconst (v := (0 : Int32)) hx hb d_MD_readAct_80 (by decide) ?_
        refine lv_bipush (v := (99 : Int32)) hx hb d_MD_readAct_81 (by decide) ?_
        obtain ⟨r83, z0_83, hcl, hm⟩ := bn2_s hm
        refine kci (wc := wd_MD g h0 q0 z0_71) (wr := ([] : va_W)) (w1 := wd_MD g h0 q0 z0_83) hP hD hS hA [0, 1, 2, 3, 4, 5, 6, 7, 8, 9, 10, 11, 12, 13, 14, 15, 16, 17, 18, 19, 20, 21, 22, 23, 24, 25, 26, 27, 28, 29, 30, 31] [] rfl rfl (by decide) (by decide) (va_runV (As := [.int (0 : Int32), .int (99 : Int32)]) (rest := [.int (r4 + (20 : Int32)), .ref (q0 24)]) ⟨hx, hb, hml, hown, hts⟩ (c_MD_takeNumber hG hGn l dC dI g F H.size h0 q0 z0_71 (0 : Int32) (99 : Int32) hcl) (cwV 2 hts (gdV k5_237 k5_239 kp_34 k1_10 k6_0) rfl rfl rfl (by decide +kernel) ⟨Nat.le_of_ble_eq_true rfl, Nat.le_of_ble_eq_true rfl⟩) (kpV hG hP hK hD hS hA hGA [0, 1, 2, 3, 4, 5, 6, 7, 8, 9, 10, 11, 12, 13, 14, 15, 16, 17, 18, 19, 20, 21, 22, 23, 24, 25, 26, 27, 28, 29, 30, 31] (by decide) rfl (ci := 10) (q0 := 0) rfl rfl rfl) rfl rfl hl.1 rfl (lv_room (Nat.le_of_ble_eq_true rfl)) d_MD_readAct_83 ⟨Nat.le_of_ble_eq_true rfl, Nat.le_of_ble_eq_true rfl⟩) (fun H locs hP hD hS => ?_)
        have hP : va_P (dC, dI) vwCl (wd_MD g h0 q0 z0_83) H := hP
        have hD : va_D A (wd_MD g h0 q0 z0_83) := hD
        obtain ⟨h_86, hm⟩ := ck_s hm
        obtain ⟨e0_86, he, hm⟩ := lz_s hm
        refine va_iast (f := (z0_83 24)) hx hb hK hP hD hS 18 0 rfl rfl h_86 d_MD_readAct_86 (fun H locs hP hD hS => ?_)
        have hP : va_P (dC, dI) vwCl (wd_MD g h0 q0 e0_86) H := by rw [he]; exact hP
        have hD : va_D A (wd_MD g h0 q0 e0_86) := by rw [he]; exact hD
        refine lv_aload_n hx hb d_MD_readAct_87 rfl (lv_at hl 1 rfl) ?_
        refine lv_ldc (v := (26259620 : Int32)) hx hb hown (hts _ k5_192) d_MD_readAct_88 ?_
        obtain ⟨z0_90, hcl, hm⟩ := bn1_s hm
        refine kcv (wc := wd_MD g h0 q0 e0_86) (wr := ([] : va_W)) (w1 := wd_MD g h0 q0 z0_90) hP hD hS hA [0, 1, 2, 3, 4, 5, 6, 7, 8, 9, 10, 11, 12, 13, 14, 15, 16, 17, 18, 19, 20, 21, 22, 23, 24, 25, 26, 27, 28, 29, 30, 31] [] rfl rfl (by decide) (by decide) (va_runV (As := [.int (26259620 : Int32)]) (rest := []) ⟨hx, hb, hml, hown, hts⟩ (c_MD_take_0 hG hGn l dC dI g F H.size h0 q0 e0_86 (26259620 : Int32) hcl) (cwV 1 hts (gdV k5_233 k5_235 kp_33 k1_10 k5_236) rfl rfl rfl (by decide +kernel) ⟨Nat.le_of_ble_eq_true rfl, Nat.le_of_ble_eq_true rfl⟩) (kpV hG hP hK hD hS hA hGA [0, 1, 2, 3, 4, 5, 6, 7, 8, 9, 10, 11, 12, 13, 14, 15, 16, 17, 18, 19, 20, 21, 22, 23, 24, 25, 26, 27, 28, 29, 30, 31] (by decide) rfl (ci := 10) (q0 := 0) rfl rfl rfl) rfl rfl hl.1 rfl (lv_room (Nat.le_of_ble_eq_true rfl)) d_MD_readAct_90 ⟨Nat.le_of_ble_eq_true rfl, Nat.le_of_ble_eq_true rfl⟩) (fun H locs hP hD hS => ?_)
        have hP : va_P (dC, dI) vwCl (wd_MD g h0 q0 z0_90) H := hP
        have hD : va_D A (wd_MD g h0 q0 z0_90) := hD
        refine lv_aload_n hx hb d_MD_readAct_93 rfl (lv_at hl 1 rfl) ?_
        refine va_get (D := (dC, dI)) (ci := 10) (v := .ref (q0 25)) (C := "AlarmMatrixModel") (T := T_MD) (N := 42) hx hb hts i_MD hown hK hP 0 rfl rfl 25 (by decide) (hts _ k5_45) (fun _ h9 => h9) rfl d_MD_readAct_94 ?_
        refine lv_iload_n hx hb d_MD_readAct_97 rfl (lv_at hl 0 rfl) ?_
        refine lv_aload_n hx hb d_MD_readAct_98 rfl (lv_at hl 1 rfl) ?_
        refine lv_iconst (v := (0 : Int32)) hx hb d_MD_readAct_99 (by decide) ?_
        refine lv_sipush (v := (600 : Int32)) hx hb d_MD_readAct_100 (by decide) ?_
        obtain ⟨r103, z0_103, hcl, hm⟩ := bn2_s hm
        refine kci (wc := wd_MD g h0 q0 z0_90) (wr := ([] : va_W)) (w1 := wd_MD g h0 q0 z0_103) hP hD hS hA [0, 1, 2, 3, 4, 5, 6, 7, 8, 9, 10, 11, 12, 13, 14, 15, 16, 17, 18, 19, 20, 21, 22, 23, 24, 25, 26, 27, 28, 29, 30, 31] [] rfl rfl (by decide) (by decide) (va_runV (As := [.int (0 : Int32), .int (600 : Int32)]) (rest := [.int (r4 + (20 : Int32)), .ref (q0 25)]) ⟨hx, hb, hml, hown, hts⟩ (c_MD_takeNumber hG hGn l dC dI g F H.size h0 q0 z0_90 (0 : Int32) (600 : Int32) hcl) (cwV 2 hts (gdV k5_237 k5_239 kp_34 k1_10 k6_0) rfl rfl rfl (by decide +kernel) ⟨Nat.le_of_ble_eq_true rfl, Nat.le_of_ble_eq_true rfl⟩) (kpV hG hP hK hD hS hA hGA [0, 1, 2, 3, 4, 5, 6, 7, 8, 9, 10, 11, 12, 13, 14, 15, 16, 17, 18, 19, 20, 21, 22, 23, 24, 25, 26, 27, 28, 29, 30, 31] (by decide) rfl (ci := 10) (q0 := 0) rfl rfl rfl) rfl rfl hl.1 rfl (lv_room (Nat.le_of_ble_eq_true rfl)) d_MD_readAct_103 ⟨Nat.le_of_ble_eq_true rfl, Nat.le_of_ble_eq_true rfl⟩) (fun H locs hP hD hS => ?_)
        have hP : va_P (dC, dI) vwCl (wd_MD g h0 q0 z0_103) H := hP
        have hD : va_D A (wd_MD g h0 q0 z0_103) := hD
        obtain ⟨h_106, hm⟩ := ck_s hm
        obtain ⟨e0_106, he, hm⟩ := lz_s hm
        refine va_iast (f := (z0_103 25)) hx hb hK hP hD hS 19 0 rfl rfl h_106 d_MD_readAct_106 (fun H locs hP hD hS => ?_)
        have hP : va_P (dC, dI) vwCl (wd_MD g h0 q0 e0_106) H := by rw [he]; exact hP
        have hD : va_D A (wd_MD g h0 q0 e0_106) := by rw [he]; exact hD
        refine lv_aload_n hx hb d_MD_readAct_107 rfl (lv_at hl 1 rfl) ?_
        obtain ⟨z0_108, hcl, hm⟩ := bn1_s hm
        refine kcv (wc := wd_MD g h0 q0 e0_106) (wr := ([] : va_W)) (w1 := wd_MD g h0 q0 z0_108) hP hD hS hA [0, 1, 2, 3, 4, 5, 6, 7, 8, 9, 10, 11, 12, 13, 14, 15, 16, 17, 18, 19, 20, 21, 22, 23, 24, 25, 26, 27, 28, 29, 30, 31] [] rfl rfl (by decide) (by decide) (va_runV (As := []) (rest := []) ⟨hx, hb, hml, hown, hts⟩ (c_MD_takeStop hG hGn l dC dI g F H.size h0 q0 e0_106 hcl) (cwV 0 hts (gdV k6_13 k6_15 kp_38 k1_10 k6_16) rfl rfl rfl (by decide +kernel) ⟨Nat.le_of_ble_eq_true rfl, Nat.le_of_ble_eq_true rfl⟩) (kpV hG hP hK hD hS hA hGA [0, 1, 2, 3, 4, 5, 6, 7, 8, 9, 10, 11, 12, 13, 14, 15, 16, 17, 18, 19, 20, 21, 22, 23, 24, 25, 26, 27, 28, 29, 30, 31] (by decide) rfl (ci := 10) (q0 := 0) rfl rfl rfl) rfl rfl hl.1 rfl (lv_room (Nat.le_of_ble_eq_true rfl)) d_MD_readAct_108 ⟨Nat.le_of_ble_eq_true rfl, Nat.le_of_ble_eq_true rfl⟩) (fun H locs hP hD hS => ?_)
        have hP : va_P (dC, dI) vwCl (wd_MD g h0 q0 z0_108) H := hP
        have hD : va_D A (wd_MD g h0 q0 z0_108) := hD
        refine lv_aload_n hx hb d_MD_readAct_111 rfl (lv_at hl 1 rfl) ?_
        refine va_get (D := (dC, dI)) (ci := 10) (v := .ref (q0 22)) (C := "AlarmMatrixModel") (T := T_MD) (N := 42) hx hb hts i_MD hown hK hP 0 rfl rfl 22 (by decide) (hts _ k5_42) (fun _ h9 => h9) rfl d_MD_readAct_112 ?_
        refine lv_iload_n hx hb d_MD_readAct_115 rfl (lv_at hl 0 rfl) ?_
        refine lv_iconst (v := (1 : Int32)) hx hb d_MD_readAct_116 (by decide) ?_
        obtain ⟨h_117, hm⟩ := ck_s hm
        obtain ⟨e0_117, he, hm⟩ := lz_s hm
        refine va_zast (f := (z0_108 22)) hx hb hK hP hD hS 16 1 rfl rfl h_117 d_MD_readAct_117 (fun H locs hP hD hS => ?_)
        have hP : va_P (dC, dI) vwCl (wd_MD g h0 q0 e0_117) H := by rw [he]; exact hP
        have hD : va_D A (wd_MD g h0 q0 e0_117) := by rw [he]; exact hD
        refine lv_aload_n hx hb d_MD_readAct_118 rfl (lv_at hl 1 rfl) ?_
        refine va_get (D := (dC, dI)) (ci := 10) (v := .ref (q0 26)) (C := "AlarmMatrixModel") (T := T_MD) (N := 42) hx hb hts i_MD hown hK hP 0 rfl rfl 26 (by decide) (hts _ k5_46) (fun _ h9 => h9) rfl d_MD_readAct_119 ?_
        refine lv_iload_n hx hb d_MD_readAct_122 rfl (lv_at hl 0 rfl) ?_
        refine lv_iconst (v := (0 : Int32)) hx hb d_MD_readAct_123 (by decide) ?_
        obtain ⟨h_124, hm⟩ := ck_s hm
        obtain ⟨e0_124, he, hm⟩ := lz_s hm
        refine va_zast (f := (e0_117 26)) hx hb hK hP hD hS 20 1 rfl rfl h_124 d_MD_readAct_124 (fun H locs hP hD hS => ?_)
        have hP : va_P (dC, dI) vwCl (wd_MD g h0 q0 e0_124) H := by rw [he]; exact hP
        have hD : va_D A (wd_MD g h0 q0 e0_124) := by rw [he]; exact hD
        obtain rfl := Option.some.inj hm
        rw [hQ]
        exact krv hx hb hr hlocks hAe hP hK hD hS d_MD_readAct_125
      · replace hm := if_t hm hc
        obtain rfl := Option.some.inj hm
        rw [hQ]
        exact krv hx hb hr hlocks hAe hP hK hD hS d_MD_readAct_39
    · replace hm := if_t hm hc
      refine lv_iconst (v := (1 : Int32)) hx hb d_MD_readAct_28 (by decide) ?_
      refine lv_goto (tgt := 33) hx hb d_MD_readAct_29 (by decide) ?_
      obtain ⟨r33, z0_33, hcl, hm⟩ := bn2_s hm
      refine kci (wc := wd_MD g h0 q0 z0_4) (wr := ([] : va_W)) (w1 := wd_MD g h0 q0 z0_33) hP hD hS hA [0, 1, 2, 3, 4, 5, 6, 7, 8, 9, 10, 11, 12, 13, 14, 15, 16, 17, 18, 19, 20, 21, 22, 23, 24, 25, 26, 27, 28, 29, 30, 31] [] rfl rfl (by decide) (by decide) (va_runV (As := [.int (1 : Int32)]) (rest := []) ⟨hx, hb, hml, hown, hts⟩ (c_MD_want hG hGn l dC dI g F H.size h0 q0 z0_4 (1 : Int32) hcl) (cwV 1 hts (gdV k5_229 k5_231 kp_32 k1_10 k5_232) rfl rfl rfl (by decide +kernel) ⟨Nat.le_of_ble_eq_true rfl, Nat.le_of_ble_eq_true rfl⟩) (kpV hG hP hK hD hS hA hGA [0, 1, 2, 3, 4, 5, 6, 7, 8, 9, 10, 11, 12, 13, 14, 15, 16, 17, 18, 19, 20, 21, 22, 23, 24, 25, 26, 27, 28, 29, 30, 31] (by decide) rfl (ci := 10) (q0 := 0) rfl rfl rfl) rfl rfl hl.1 rfl (lv_room (Nat.le_of_ble_eq_true rfl)) d_MD_readAct_33 ⟨Nat.le_of_ble_eq_true rfl, Nat.le_of_ble_eq_true rfl⟩) (fun H locs hP hD hS => ?_)
      have hP : va_P (dC, dI) vwCl (wd_MD g h0 q0 z0_33) H := hP
      have hD : va_D A (wd_MD g h0 q0 z0_33) := hD
      refine lv_if_ne (tgt := 40) hx hb d_MD_readAct_36 (by decide) (fun hc => ?_) (fun hc => ?_)
      · replace hm := if_f hm hc
        refine lv_aload_n hx hb d_MD_readAct_40 rfl (lv_at hl 1 rfl) ?_
        refine lv_dup hx hb d_MD_readAct_41 rfl ?_
        refine va_get (D := (dC, dI)) (ci := 10) (v := .int (z0_33 16 0)) (C := "AlarmMatrixModel") (T := T_MD) (N := 42) hx hb hts i_MD hown hK hP 0 rfl rfl 16 (by decide) (hts _ k5_36) (fun _ h9 => h9) rfl d_MD_readAct_42 ?_
        refine lv_iconst (v := (1 : Int32)) hx hb d_MD_readAct_45 (by decide) ?_
        refine lv_iadd hx hb d_MD_readAct_46 ?_
        obtain ⟨e0_47, he, hm⟩ := lz_s hm
        refine va_put (D := (dC, dI)) (ci := 10) (v := .int ((z0_33 16 0) + (1 : Int32))) (ty := .int) (C := "AlarmMatrixModel") (T := T_MD) (N := 42) hx hb hts i_MD t_MD o_MD n_MD hown hK hP hD hS 0 rfl rfl 16 (by decide) (hts _ k5_36) (fun _ h9 => h9) rfl (by decide +kernel) rfl rfl (Nat.le_of_ble_eq_true rfl) d_MD_readAct_47 (fun H locs hP hD hS => ?_)
        have hP : va_P (dC, dI) vwCl (wd_MD g h0 q0 e0_47) H := by rw [he]; exact hP
        have hD : va_D A (wd_MD g h0 q0 e0_47) := by rw [he]; exact hD
        refine lv_aload_n hx hb d_MD_readAct_50 rfl (lv_at hl 1 rfl) ?_
        refine lv_ldc (v := (145707 : Int32)) hx hb hown (hts _ k5_190) d_MD_readAct_51 ?_
        obtain ⟨z0_53, hcl, hm⟩ := bn1_s hm
        refine kcv (wc := wd_MD g h0 q0 e0_47) (wr := ([] : va_W)) (w1 := wd_MD g h0 q0 z0_53) hP hD hS hA [0, 1, 2, 3, 4, 5, 6, 7, 8, 9, 10, 11, 12, 13, 14, 15, 16, 17, 18, 19, 20, 21, 22, 23, 24, 25, 26, 27, 28, 29, 30, 31] [] rfl rfl (by decide) (by decide) (va_runV (As := [.int (145707 : Int32)]) (rest := []) ⟨hx, hb, hml, hown, hts⟩ (c_MD_take_0 hG hGn l dC dI g F H.size h0 q0 e0_47 (145707 : Int32) hcl) (cwV 1 hts (gdV k5_233 k5_235 kp_33 k1_10 k5_236) rfl rfl rfl (by decide +kernel) ⟨Nat.le_of_ble_eq_true rfl, Nat.le_of_ble_eq_true rfl⟩) (kpV hG hP hK hD hS hA hGA [0, 1, 2, 3, 4, 5, 6, 7, 8, 9, 10, 11, 12, 13, 14, 15, 16, 17, 18, 19, 20, 21, 22, 23, 24, 25, 26, 27, 28, 29, 30, 31] (by decide) rfl (ci := 10) (q0 := 0) rfl rfl rfl) rfl rfl hl.1 rfl (lv_room (Nat.le_of_ble_eq_true rfl)) d_MD_readAct_53 ⟨Nat.le_of_ble_eq_true rfl, Nat.le_of_ble_eq_true rfl⟩) (fun H locs hP hD hS => ?_)
        have hP : va_P (dC, dI) vwCl (wd_MD g h0 q0 z0_53) H := hP
        have hD : va_D A (wd_MD g h0 q0 z0_53) := hD
        refine lv_aload_n hx hb d_MD_readAct_56 rfl (lv_at hl 1 rfl) ?_
        refine va_get (D := (dC, dI)) (ci := 10) (v := .ref (q0 23)) (C := "AlarmMatrixModel") (T := T_MD) (N := 42) hx hb hts i_MD hown hK hP 0 rfl rfl 23 (by decide) (hts _ k5_43) (fun _ h9 => h9) rfl d_MD_readAct_57 ?_
        refine lv_iload_n hx hb d_MD_readAct_60 rfl (lv_at hl 0 rfl) ?_
        refine lv_aload_n hx hb d_MD_readAct_61 rfl (lv_at hl 1 rfl) ?_
        refine lv_iconst (v := (0 : Int32)) hx hb d_MD_readAct_62 (by decide) ?_
        refine lv_iconst (v := (5 : Int32)) hx hb d_MD_readAct_63 (by decide) ?_
        obtain ⟨r64, z0_64, hcl, hm⟩ := bn2_s hm
        refine kci (wc := wd_MD g h0 q0 z0_53) (wr := ([] : va_W)) (w1 := wd_MD g h0 q0 z0_64) hP hD hS hA [0, 1, 2, 3, 4, 5, 6, 7, 8, 9, 10, 11, 12, 13, 14, 15, 16, 17, 18, 19, 20, 21, 22, 23, 24, 25, 26, 27, 28, 29, 30, 31] [] rfl rfl (by decide) (by decide) (va_runV (As := [.int (0 : Int32), .int (5 : Int32)]) (rest := [.int (r4 + (20 : Int32)), .ref (q0 23)]) ⟨hx, hb, hml, hown, hts⟩ (c_MD_takeNumber hG hGn l dC dI g F H.size h0 q0 z0_53 (0 : Int32) (5 : Int32) hcl) (cwV 2 hts (gdV k5_237 k5_239 kp_34 k1_10 k6_0) rfl rfl rfl (by decide +kernel) ⟨Nat.le_of_ble_eq_true rfl, Nat.le_of_ble_eq_true rfl⟩) (kpV hG hP hK hD hS hA hGA [0, 1, 2, 3, 4, 5, 6, 7, 8, 9, 10, 11, 12, 13, 14, 15, 16, 17, 18, 19, 20, 21, 22, 23, 24, 25, 26, 27, 28, 29, 30, 31] (by decide) rfl (ci := 10) (q0 := 0) rfl rfl rfl) rfl rfl hl.1 rfl (lv_room (Nat.le_of_ble_eq_true rfl)) d_MD_readAct_64 ⟨Nat.le_of_ble_eq_true rfl, Nat.le_of_ble_eq_true rfl⟩) (fun H locs hP hD hS => ?_)
        have hP : va_P (dC, dI) vwCl (wd_MD g h0 q0 z0_64) H := hP
        have hD : va_D A (wd_MD g h0 q0 z0_64) := hD
        obtain ⟨h_67, hm⟩ := ck_s hm
        obtain ⟨e0_67, he, hm⟩ := lz_s hm
        refine va_iast (f := (z0_64 23)) hx hb hK hP hD hS 17 0 rfl rfl h_67 d_MD_readAct_67 (fun H locs hP hD hS => ?_)
        have hP : va_P (dC, dI) vwCl (wd_MD g h0 q0 e0_67) H := by rw [he]; exact hP
        have hD : va_D A (wd_MD g h0 q0 e0_67) := by rw [he]; exact hD
        refine lv_aload_n hx hb d_MD_readAct_68 rfl (lv_at hl 1 rfl) ?_
        refine lv_ldc (v := (374834 : Int32)) hx hb hown (hts _ k5_191) d_MD_readAct_69 ?_
        obtain ⟨z0_71, hcl, hm⟩ := bn1_s hm
        refine kcv (wc := wd_MD g h0 q0 e0_67) (wr := ([] : va_W)) (w1 := wd_MD g h0 q0 z0_71) hP hD hS hA [0, 1, 2, 3, 4, 5, 6, 7, 8, 9, 10, 11, 12, 13, 14, 15, 16, 17, 18, 19, 20, 21, 22, 23, 24, 25, 26, 27, 28, 29, 30, 31] [] rfl rfl (by decide) (by decide) (va_runV (As := [.int (374834 : Int32)]) (rest := []) ⟨hx, hb, hml, hown, hts⟩ (c_MD_take_0 hG hGn l dC dI g F H.size h0 q0 e0_67 (374834 : Int32) hcl) (cwV 1 hts (gdV k5_233 k5_235 kp_33 k1_10 k5_236) rfl rfl rfl (by decide +kernel) ⟨Nat.le_of_ble_eq_true rfl, Nat.le_of_ble_eq_true rfl⟩) (kpV hG hP hK hD hS hA hGA [0, 1, 2, 3, 4, 5, 6, 7, 8, 9, 10, 11, 12, 13, 14, 15, 16, 17, 18, 19, 20, 21, 22, 23, 24, 25, 26, 27, 28, 29, 30, 31] (by decide) rfl (ci := 10) (q0 := 0) rfl rfl rfl) rfl rfl hl.1 rfl (lv_room (Nat.le_of_ble_eq_true rfl)) d_MD_readAct_71 ⟨Nat.le_of_ble_eq_true rfl, Nat.le_of_ble_eq_true rfl⟩) (fun H locs hP hD hS => ?_)
        have hP : va_P (dC, dI) vwCl (wd_MD g h0 q0 z0_71) H := hP
        have hD : va_D A (wd_MD g h0 q0 z0_71) := hD
        refine lv_aload_n hx hb d_MD_readAct_74 rfl (lv_at hl 1 rfl) ?_
        refine va_get (D := (dC, dI)) (ci := 10) (v := .ref (q0 24)) (C := "AlarmMatrixModel") (T := T_MD) (N := 42) hx hb hts i_MD hown hK hP 0 rfl rfl 24 (by decide) (hts _ k5_44) (fun _ h9 => h9) rfl d_MD_readAct_75 ?_
        refine lv_iload_n hx hb d_MD_readAct_78 rfl (lv_at hl 0 rfl) ?_
        refine lv_aload_n hx hb d_MD_readAct_79 rfl (lv_at hl 1 rfl) ?_
        refine lv_iconst (v := (0 : Int32)) hx hb d_MD_readAct_80 (by decide) ?_
        refine lv_bipush (v := (99 : Int32)) hx hb d_MD_readAct_81 (by decide) ?_
        obtain ⟨r83, z0_83, hcl, hm⟩ := bn2_s hm
        refine kci (wc := wd_MD g h0 q0 z0_71) (wr := ([] : va_W)) (w1 := wd_MD g h0 q0 z0_83) hP hD hS hA [0, 1, 2, 3, 4, 5, 6, 7, 8, 9, 10, 11, 12, 13, 14, 15, 16, 17, 18, 19, 20, 21, 22, 23, 24, 25, 26, 27, 28, 29, 30, 31] [] rfl rfl (by decide) (by decide) (va_runV (As := [.int (0 : Int32), .int (99 : Int32)]) (rest := [.int (r4 + (20 : Int32)), .ref (q0 24)]) ⟨hx, hb, hml, hown, hts⟩ (c_MD_takeNumber hG hGn l dC dI g F H.size h0 q0 z0_71 (0 : Int32) (99 : Int32) hcl) (cwV 2 hts (gdV k5_237 k5_239 kp_34 k1_10 k6_0) rfl rfl rfl (by decide +kernel) ⟨Nat.le_of_ble_eq_true rfl, Nat.le_of_ble_eq_true rfl⟩) (kpV hG hP hK hD hS hA hGA [0, 1, 2, 3, 4, 5, 6, 7, 8, 9, 10, 11, 12, 13, 14, 15, 16, 17, 18, 19, 20, 21, 22, 23, 24, 25, 26, 27, 28, 29, 30, 31] (by decide) rfl (ci := 10) (q0 := 0) rfl rfl rfl) rfl rfl hl.1 rfl (lv_room (Nat.le_of_ble_eq_true rfl)) d_MD_readAct_83 ⟨Nat.le_of_ble_eq_true rfl, Nat.le_of_ble_eq_true rfl⟩) (fun H locs hP hD hS => ?_)
        have hP : va_P (dC, dI) vwCl (wd_MD g h0 q0 z0_83) H := hP
        have hD : va_D A (wd_MD g h0 q0 z0_83) := hD
        obtain ⟨h_86, hm⟩ := ck_s hm
        obtain ⟨e0_86, he, hm⟩ := lz_s hm
        refine va_iast (f := (z0_83 24)) hx hb hK hP hD hS 18 0 rfl rfl h_86 d_MD_readAct_86 (fun H locs hP hD hS => ?_)
        have hP : va_P (dC, dI) vwCl (wd_MD g h0 q0 e0_86) H := by rw [he]; exact hP
        have hD : va_D A (wd_MD g h0 q0 e0_86) := by rw [he]; exact hD
        refine lv_aload_n hx hb d_MD_readAct_87 rfl (lv_at hl 1 rfl) ?_
        refine lv_ldc (v := (26259620 : Int32)) hx hb hown (hts _ k5_192) d_MD_readAct_88 ?_
        obtain ⟨z0_90, hcl, hm⟩ := bn1_s hm
        refine kcv (wc := wd_MD g h0 q0 e0_86) (wr := ([] : va_W)) (w1 := wd_MD g h0 q0 z0_90) hP hD hS hA [0, 1, 2, 3, 4, 5, 6, 7, 8, 9, 10, 11, 12, 13, 14, 15, 16, 17, 18, 19, 20, 21, 22, 23, 24, 25, 26, 27, 28, 29, 30, 31] [] rfl rfl (by decide) (by decide) (va_runV (As := [.int (26259620 : Int32)]) (rest := []) ⟨hx, hb, hml, hown, hts⟩ (c_MD_take_0 hG hGn l dC dI g F H.size h0 q0 e0_86 (26259620 : Int32) hcl) (cwV 1 hts (gdV k5_233 k5_235 kp_33 k1_10 k5_236) rfl rfl rfl (by decide +kernel) ⟨Nat.le_of_ble_eq_true rfl, Nat.le_of_ble_eq_true rfl⟩) (kpV hG hP hK hD hS hA hGA [0, 1, 2, 3, 4, 5, 6, 7, 8, 9, 10, 11, 12, 13, 14, 15, 16, 17, 18, 19, 20, 21, 22, 23, 24, 25, 26, 27, 28, 29, 30, 31] (by decide) rfl (ci := 10) (q0 := 0) rfl rfl rfl) rfl rfl hl.1 rfl (lv_room (Nat.le_of_ble_eq_true rfl)) d_MD_readAct_90 ⟨Nat.le_of_ble_eq_true rfl, Nat.le_of_ble_eq_true rfl⟩) (fun H locs hP hD hS => ?_)
        have hP : va_P (dC, dI) vwCl (wd_MD g h0 q0 z0_90) H := hP
        have hD : va_D A (wd_MD g h0 q0 z0_90) := hD
        refine lv_aload_n hx hb d_MD_readAct_93 rfl (lv_at hl 1 rfl) ?_
        refine va_get (D := (dC, dI)) (ci := 10) (v := .ref (q0 25)) (C := "AlarmMatrixModel") (T := T_MD) (N := 42) hx hb hts i_MD hown hK hP 0 rfl rfl 25 (by decide) (hts _ k5_45) (fun _ h9 => h9) rfl d_MD_readAct_94 ?_
        refine lv_iload_n hx hb d_MD_readAct_97 rfl (lv_at hl 0 rfl) ?_
        refine lv_aload_n hx hb d_MD_readAct_98 rfl (lv_at hl 1 rfl) ?_
        refine lv_iconst (v := (0 : Int32)) hx hb d_MD_readAct_99 (by decide) ?_
        refine lv_sipush (v := (600 : Int32)) hx hb d_MD_readAct_100 (by decide) ?_
        obtain ⟨r103, z0_103, hcl, hm⟩ := bn2_s hm
        refine kci (wc := wd_MD g h0 q0 z0_90) (wr := ([] : va_W)) (w1 := wd_MD g h0 q0 z0_103) hP hD hS hA [0, 1, 2, 3, 4, 5, 6, 7, 8, 9, 10, 11, 12, 13, 14, 15, 16, 17, 18, 19, 20, 21, 22, 23, 24, 25, 26, 27, 28, 29, 30, 31] [] rfl rfl (by decide) (by decide) (va_runV (As := [.int (0 : Int32), .int (600 : Int32)]) (rest := [.int (r4 + (20 : Int32)), .ref (q0 25)]) ⟨hx, hb, hml, hown, hts⟩ (c_MD_takeNumber hG hGn l dC dI g F H.size h0 q0 z0_90 (0 : Int32) (600 : Int32) hcl) (cwV 2 hts (gdV k5_237 k5_239 kp_34 k1_10 k6_0) rfl rfl rfl (by decide +kernel) ⟨Nat.le_of_ble_eq_true rfl, Nat.le_of_ble_eq_true rfl⟩) (kpV hG hP hK hD hS hA hGA [0, 1, 2, 3, 4, 5, 6, 7, 8, 9, 10, 11, 12, 13, 14, 15, 16, 17, 18, 19, 20, 21, 22, 23, 24, 25, 26, 27, 28, 29, 30, 31] (by decide) rfl (ci := 10) (q0 := 0) rfl rfl rfl) rfl rfl hl.1 rfl (lv_room (Nat.le_of_ble_eq_true rfl)) d_MD_readAct_103 ⟨Nat.le_of_ble_eq_true rfl, Nat.le_of_ble_eq_true rfl⟩) (fun H locs hP hD hS => ?_)
        have hP : va_P (dC, dI) vwCl (wd_MD g h0 q0 z0_103) H := hP
        have hD : va_D A (wd_MD g h0 q0 z0_103) := hD
        obtain ⟨h_106, hm⟩ := ck_s hm
        obtain ⟨e0_106, he, hm⟩ := lz_s hm
        refine va_iast (f := (z0_103 25)) hx hb hK hP hD hS 19 0 rfl rfl h_106 d_MD_readAct_106 (fun H locs hP hD hS => ?_)
        have hP : va_P (dC, dI) vwCl (wd_MD g h0 q0 e0_106) H := by rw [he]; exact hP
        have hD : va_D A (wd_MD g h0 q0 e0_106) := by rw [he]; exact hD
        refine lv_aload_n hx hb d_MD_readAct_107 rfl (lv_at hl 1 rfl) ?_
        obtain ⟨z0_108, hcl, hm⟩ := bn1_s hm
        refine kcv (wc := wd_MD g h0 q0 e0_106) (wr := ([] : va_W)) (w1 := wd_MD g h0 q0 z0_108) hP hD hS hA [0, 1, 2, 3, 4, 5, 6, 7, 8, 9, 10, 11, 12, 13, 14, 15, 16, 17, 18, 19, 20, 21, 22, 23, 24, 25, 26, 27, 28, 29, 30, 31] [] rfl rfl (by decide) (by decide) (va_runV (As := []) (rest := []) ⟨hx, hb, hml, hown, hts⟩ (c_MD_takeStop hG hGn l dC dI g F H.size h0 q0 e0_106 hcl) (cwV 0 hts (gdV k6_13 k6_15 kp_38 k1_10 k6_16) rfl rfl rfl (by decide +kernel) ⟨Nat.le_of_ble_eq_true rfl, Nat.le_of_ble_eq_true rfl⟩) (kpV hG hP hK hD hS hA hGA [0, 1, 2, 3, 4, 5, 6, 7, 8, 9, 10, 11, 12, 13, 14, 15, 16, 17, 18, 19, 20, 21, 22, 23, 24, 25, 26, 27, 28, 29, 30, 31] (by decide) rfl (ci := 10) (q0 := 0) rfl rfl rfl) rfl rfl hl.1 rfl (lv_room (Nat.le_of_ble_eq_true rfl)) d_MD_readAct_108 ⟨Nat.le_of_ble_eq_true rfl, Nat.le_of_ble_eq_true rfl⟩) (fun H locs hP hD hS => ?_)
        have hP : va_P (dC, dI) vwCl (wd_MD g h0 q0 z0_108) H := hP
        have hD : va_D A (wd_MD g h0 q0 z0_108) := hD
        refine lv_aload_n hx hb d_MD_readAct_111 rfl (lv_at hl 1 rfl) ?_
        refine va_get (D := (dC, dI)) (ci := 10) (v := .ref (q0 22)) (C := "AlarmMatrixModel") (T := T_MD) (N := 42) hx hb hts i_MD hown hK hP 0 rfl rfl 22 (by decide) (hts _ k5_42) (fun _ h9 => h9) rfl d_MD_readAct_112 ?_
        refine lv_iload_n hx hb d_MD_readAct_115 rfl (lv_at hl 0 rfl) ?_
        refine lv_iconst (v := (1 : Int32)) hx hb d_MD_readAct_116 (by decide) ?_
        obtain ⟨h_117, hm⟩ := ck_s hm
        obtain ⟨e0_117, he, hm⟩ := lz_s hm
        refine va_zast (f := (z0_108 22)) hx hb hK hP hD hS 16 1 rfl rfl h_117 d_MD_readAct_117 (fun H locs hP hD hS => ?_)
        have hP : va_P (dC, dI) vwCl (wd_MD g h0 q0 e0_117) H := by rw [he]; exact hP
        have hD : va_D A (wd_MD g h0 q0 e0_117) := by rw [he]; exact hD
        refine lv_aload_n hx hb d_MD_readAct_118 rfl (lv_at hl 1 rfl) ?_
        refine va_get (D := (dC, dI)) (ci := 10) (v := .ref (q0 26)) (C := "AlarmMatrixModel") (T := T_MD) (N := 42) hx hb hts i_MD hown hK hP 0 rfl rfl 26 (by decide) (hts _ k5_46) (fun _ h9 => h9) rfl d_MD_readAct_119 ?_
        refine lv_iload_n hx hb d_MD_readAct_122 rfl (lv_at hl 0 rfl) ?_
        refine lv_iconst (v := (0 : Int32)) hx hb d_MD_readAct_123 (by decide) ?_
        obtain ⟨h_124, hm⟩ := ck_s hm
        obtain ⟨e0_124, he, hm⟩ := lz_s hm
        refine va_zast (f := (e0_117 26)) hx hb hK hP hD hS 20 1 rfl rfl h_124 d_MD_readAct_124 (fun H locs hP hD hS => ?_)
        have hP : va_P (dC, dI) vwCl (wd_MD g h0 q0 e0_124) H := by rw [he]; exact hP
        have hD : va_D A (wd_MD g h0 q0 e0_124) := by rw [he]; exact hD
        obtain rfl := Option.some.inj hm
        rw [hQ]
        exact krv hx hb hr hlocks hAe hP hK hD hS d_MD_readAct_125
      · replace hm := if_t hm hc
        obtain rfl := Option.some.inj hm
        rw [hQ]
        exact krv hx hb hr hlocks hAe hP hK hD hS d_MD_readAct_39
abbrev b_MD_takeZone : ByteArray := prog_12_method_26_code
abbrev y_MD_takeZone : MethodName := ⟨"AlarmMatrixModel", "takeZone", "(I)I"⟩
theorem d_MD_takeZone_0 : decode b_MD_takeZone 0 = .ok (.aload_n 0, 1) := by decide +kernel
theorem d_MD_takeZone_1 : decode b_MD_takeZone 1 = .ok (.iconst 0, 1) := by decide +kernel
theorem d_MD_takeZone_2 : decode b_MD_takeZone 2 = .ok (.bipush 19, 2) := by decide +kernel
theorem d_MD_takeZone_4 : decode b_MD_takeZone 4 = .ok (.invokevirtual 177, 3) := by decide +kernel
theorem d_MD_takeZone_7 : decode b_MD_takeZone 7 = .ok (.istore_n 2, 1) := by decide +kernel
theorem d_MD_takeZone_8 : decode b_MD_takeZone 8 = .ok (.aload_n 0, 1) := by decide +kernel
theorem d_MD_takeZone_9 : decode b_MD_takeZone 9 = .ok (.getfield 163, 3) := by decide +kernel
theorem d_MD_takeZone_12 : decode b_MD_takeZone 12 = .ok (.ifCond .ge 42, 3) := by decide +kernel
theorem d_MD_takeZone_15 : decode b_MD_takeZone 15 = .ok (.aload_n 0, 1) := by decide +kernel
theorem d_MD_takeZone_16 : decode b_MD_takeZone 16 = .ok (.aload_n 0, 1) := by decide +kernel
theorem d_MD_takeZone_17 : decode b_MD_takeZone 17 = .ok (.getfield 44, 3) := by decide +kernel
theorem d_MD_takeZone_20 : decode b_MD_takeZone 20 = .ok (.bipush 20, 2) := by decide +kernel
theorem d_MD_takeZone_22 : decode b_MD_takeZone 22 = .ok (.iload_n 2, 1) := by decide +kernel
theorem d_MD_takeZone_23 : decode b_MD_takeZone 23 = .ok (.iadd, 1) := by decide +kernel
theorem d_MD_takeZone_24 : decode b_MD_takeZone 24 = .ok (.baload, 1) := by decide +kernel
theorem d_MD_takeZone_25 : decode b_MD_takeZone 25 = .ok (.ifCond .eq 12, 3) := by decide +kernel
theorem d_MD_takeZone_28 : decode b_MD_takeZone 28 = .ok (.iload_n 2, 1) := by decide +kernel
theorem d_MD_takeZone_29 : decode b_MD_takeZone 29 = .ok (.iload_n 1, 1) := by decide +kernel
theorem d_MD_takeZone_30 : decode b_MD_takeZone 30 = .ok (.if_icmp .eq 7, 3) := by decide +kernel
theorem d_MD_takeZone_33 : decode b_MD_takeZone 33 = .ok (.iconst 1, 1) := by decide +kernel
theorem d_MD_takeZone_34 : decode b_MD_takeZone 34 = .ok (.goto 4, 3) := by decide +kernel
theorem d_MD_takeZone_37 : decode b_MD_takeZone 37 = .ok (.iconst 0, 1) := by decide +kernel
theorem d_MD_takeZone_38 : decode b_MD_takeZone 38 = .ok (.invokevirtual 170, 3) := by decide +kernel
theorem d_MD_takeZone_41 : decode b_MD_takeZone 41 = .ok (.ifCond .eq 13, 3) := by decide +kernel
theorem d_MD_takeZone_44 : decode b_MD_takeZone 44 = .ok (.aload_n 0, 1) := by decide +kernel
theorem d_MD_takeZone_45 : decode b_MD_takeZone 45 = .ok (.dup, 1) := by decide +kernel
theorem d_MD_takeZone_46 : decode b_MD_takeZone 46 = .ok (.getfield 160, 3) := by decide +kernel
theorem d_MD_takeZone_49 : decode b_MD_takeZone 49 = .ok (.iconst 1, 1) := by decide +kernel
theorem d_MD_takeZone_50 : decode b_MD_takeZone 50 = .ok (.iadd, 1) := by decide +kernel
theorem d_MD_takeZone_51 : decode b_MD_takeZone 51 = .ok (.putfield 160, 3) := by decide +kernel
theorem d_MD_takeZone_54 : decode b_MD_takeZone 54 = .ok (.iload_n 2, 1) := by decide +kernel
theorem d_MD_takeZone_55 : decode b_MD_takeZone 55 = .ok (.ireturn, 1) := by decide +kernel
def m_MD_takeZone (F : Nat) (x0 : St) (a1 : Int32) : Option (Int32 × St) :=
  (bn2 (m_MD_look F x0 (0 : Int32) (19 : Int32)) (fun r4 z0_4 => (if (0 : Int32) ≤ (z0_4 17 0) then (some (r4, z0_4)) else (ck ((20 : Int32) + r4) 40 (if ((z0_4 18) ((20 : Int32) + r4).toNatClampNeg) = (0 : Int32) then (bn2 (m_MD_want F z0_4 (0 : Int32)) (fun r38 z0_38 => (if r38 = (0 : Int32) then (some (r4, z0_38)) else (lz (sc z0_38 16 ((z0_38 16 0) + (1 : Int32))) (fun e0_51 => (some (r4, e0_51))))))) else (if r4 = a1 then (bn2 (m_MD_want F z0_4 (0 : Int32)) (fun r38 z0_38 => (if r38 = (0 : Int32) then (some (r4, z0_38)) else (lz (sc z0_38 16 ((z0_38 16 0) + (1 : Int32))) (fun e0_51 => (some (r4, e0_51))))))) else (bn2 (m_MD_want F z0_4 (1 : Int32)) (fun r38 z0_38 => (if r38 = (0 : Int32) then (some (r4, z0_38)) else (lz (sc z0_38 16 ((z0_38 16 0) + (1 : Int32))) (fun e0_51 => (some (r4, e0_51)))))))))))))
abbrev rm_MD_takeZone : Room := { frames := 2, cells := 0, slots := 0, locals := 46 }
set_option maxHeartbeats 4000000 in
set_option maxRecDepth 100000 in
theorem c_MD_takeZone {G : (Nat → Prop) → State → Prop} (hG : gok G) (hGn : gN G) (l : Launch) (dC : Nat → ClassId) (dI : Nat → Nat → Nat) (g : Nat → ClassId) (F : Nat) (sz : Nat) (h0 : Nat) (q0 : Nat → Nat) (x0 : St) (a1 : Int32) {o : Int32 × St} (hm : m_MD_takeZone F x0 a1 = some o) : Met l y_MD_takeZone (.code y_MD_takeZone b_MD_takeZone 3 (some .int) :: gw) rm_MD_takeZone (kq (dC, dI) vwCl (tyv g) G [.ref h0, .int a1] sz (wd_MD g h0 q0 x0)) (kqi (dC, dI) vwCl (tyv g) (wd_MD g h0 q0 x0) o.1 (wd_MD g h0 q0 (o.2)) sz) 0 0 (va_A (wd_MD g h0 q0 x0) sz) := by
  unfold m_MD_takeZone at hm
  refine km (Qc := fun sz => kqi (dC, dI) vwCl (tyv g) (wd_MD g h0 q0 x0) o.1 (wd_MD g h0 q0 (o.2)) sz) (cc := b_MD_takeZone) (maxL := 3) (ret := some .int) (by decide) rfl (Nat.le_of_ble_eq_true rfl) ?_
  intro p e s m args below meth c Q hQ hx hb hr hts hown hlocks hml hnm H locs A hAe hA hP hK hD hS hGA ls hl
  have hl : lv_has ls 3 [(0, .ref h0), (1, .int a1)] := hl
  have hts : ∀ w ∈ gw, w.before args s = true := fun w h => hts w (List.mem_cons_of_mem _ h)
  have hown : s.vm.findClass "AlarmMatrixModel" = some m.cls := hown
  refine lv_aload_n hx hb d_MD_takeZone_0 rfl (lv_at hl 0 rfl) ?_
  refine lv_iconst (v := (0 : Int32)) hx hb d_MD_takeZone_1 (by decide) ?_
  refine lv_bipush (v := (19 : Int32)) hx hb d_MD_takeZone_2 (by decide) ?_
  obtain ⟨r4, z0_4, hcl, hm⟩ := bn2_s hm
  refine kci (wc := wd_MD g h0 q0 x0) (wr := ([] : va_W)) (w1 := wd_MD g h0 q0 z0_4) hP hD hS hA [0, 1, 2, 3, 4, 5, 6, 7, 8, 9, 10, 11, 12, 13, 14, 15, 16, 17, 18, 19, 20, 21, 22, 23, 24, 25, 26, 27, 28, 29, 30, 31] [] rfl rfl (by decide) (by decide) (va_runV (As := [.int (0 : Int32), .int (19 : Int32)]) (rest := []) ⟨hx, hb, hml, hown, hts⟩ (c_MD_look hG hGn l dC dI g F H.size h0 q0 x0 (0 : Int32) (19 : Int32) hcl) (cwV 2 hts (gdV k5_225 k5_227 kp_31 k1_10 k5_228) rfl rfl rfl (by decide +kernel) ⟨Nat.le_of_ble_eq_true rfl, Nat.le_of_ble_eq_true rfl⟩) (kpV hG hP hK hD hS hA hGA [0, 1, 2, 3, 4, 5, 6, 7, 8, 9, 10, 11, 12, 13, 14, 15, 16, 17, 18, 19, 20, 21, 22, 23, 24, 25, 26, 27, 28, 29, 30, 31] (by decide) rfl (ci := 10) (q0 := 0) rfl rfl rfl) rfl rfl hl.1 rfl (lv_room (Nat.le_of_ble_eq_true rfl)) d_MD_takeZone_4 ⟨Nat.le_of_ble_eq_true rfl, Nat.le_of_ble_eq_true rfl⟩) (fun H locs hP hD hS => ?_)
  have hP : va_P (dC, dI) vwCl (wd_MD g h0 q0 z0_4) H := hP
  have hD : va_D A (wd_MD g h0 q0 z0_4) := hD
  refine lv_istore_n (lv' := [(2, .int r4), (0, .ref h0), (1, .int a1)]) hx hb d_MD_takeZone_7 rfl hl (by decide) rfl (fun ls hl => ?_)
  refine lv_aload_n hx hb d_MD_takeZone_8 rfl (lv_at hl 1 rfl) ?_
  refine va_get (D := (dC, dI)) (ci := 10) (v := .int (z0_4 17 0)) (C := "AlarmMatrixModel") (T := T_MD) (N := 42) hx hb hts i_MD hown hK hP 0 rfl rfl 17 (by decide) (hts _ k5_37) (fun _ h9 => h9) rfl d_MD_takeZone_9 ?_
  refine lv_if_ge (tgt := 54) hx hb d_MD_takeZone_12 (by decide) (fun hc => ?_) (fun hc => ?_)
  · replace hm := if_t hm hc
    refine lv_iload_n hx hb d_MD_takeZone_54 rfl (lv_at hl 0 rfl) ?_
    obtain rfl := Option.some.inj hm
    rw [hQ]
    exact kri hx hb hr hlocks hAe hP hK hD hS d_MD_takeZone_55
  · replace hm := if_f hm hc
    refine lv_aload_n hx hb d_MD_takeZone_15 rfl (lv_at hl 1 rfl) ?_
    refine lv_aload_n hx hb d_MD_takeZone_16 rfl (lv_at hl 1 rfl) ?_
    refine va_get (D := (dC, dI)) (ci := 10) (v := .ref (q0 18)) (C := "AlarmMatrixModel") (T := T_MD) (N := 42) hx hb hts i_MD hown hK hP 0 rfl rfl 18 (by decide) (hts _ k5_38) (fun _ h9 => h9) rfl d_MD_takeZone_17 ?_
    refine lv_bipush (v := (20 : Int32)) hx hb d_MD_takeZone_20 (by decide) ?_
    refine lv_iload_n hx hb d_MD_takeZone_22 rfl (lv_at hl 0 rfl) ?_
    refine lv_iadd hx hb d_MD_takeZone_23 ?_
    obtain ⟨h_24, hm⟩ := ck_s hm
    refine va_zald (f := (z0_4 18)) hx hb hK hP 12 1 rfl rfl h_24 d_MD_takeZone_24 ?_
    refine lv_if_eq (tgt := 37) hx hb d_MD_takeZone_25 (by decide) (fun hc => ?_) (fun hc => ?_)
    · replace hm := if_t hm hc
      refine lv_iconst (v := (0 : Int32)) hx hb d_MD_takeZone_37 (by decide) ?_
      obtain ⟨r38, z0_38, hcl, hm⟩ := bn2_s hm
      refine kci (wc := wd_MD g h0 q0 z0_4) (wr := ([] : va_W)) (w1 := wd_MD g h0 q0 z0_38) hP hD hS hA [0, 1, 2, 3, 4, 5, 6, 7, 8, 9, 10, 11, 12, 13, 14, 15, 16, 17, 18, 19, 20, 21, 22, 23, 24, 25, 26, 27, 28, 29, 30, 31] [] rfl rfl (by decide) (by decide) (va_runV (As := [.int (0 : Int32)]) (rest := []) ⟨hx, hb, hml, hown, hts⟩ (c_MD_want hG hGn l dC dI g F H.size h0 q0 z0_4 (0 : Int32) hcl) (cwV 1 hts (gdV k5_229 k5_231 kp_32 k1_10 k5_232) rfl rfl rfl (by decide +kernel) ⟨Nat.le_of_ble_eq_true rfl, Nat.le_of_ble_eq_true rfl⟩) (kpV hG hP hK hD hS hA hGA [0, 1, 2, 3, 4, 5, 6, 7, 8, 9, 10, 11, 12, 13, 14, 15, 16, 17, 18, 19, 20, 21, 22, 23, 24, 25, 26, 27, 28, 29, 30, 31] (by decide) rfl (ci := 10) (q0 := 0) rfl rfl rfl) rfl rfl hl.1 rfl (lv_room (Nat.le_of_ble_eq_true rfl)) d_MD_takeZone_38 ⟨Nat.le_of_ble_eq_true rfl, Nat.le_of_ble_eq_true rfl⟩) (fun H locs hP hD hS => ?_)
      have hP : va_P (dC, dI) vwCl (wd_MD g h0 q0 z0_38) H := hP
      have hD : va_D A (wd_MD g h0 q0 z0_38) := hD
      refine lv_if_eq (tgt := 54) hx hb d_MD_takeZone_41 (by decide) (fun hc => ?_) (fun hc => ?_)
      · replace hm := if_t hm hc
        refine lv_iload_n hx hb d_MD_takeZone_54 rfl (lv_at hl 0 rfl) ?_
        obtain rfl := Option.some.inj hm
        rw [hQ]
        exact kri hx hb hr hlocks hAe hP hK hD hS d_MD_takeZone_55
      · replace hm := if_f hm hc
        refine lv_aload_n hx hb d_MD_takeZone_44 rfl (lv_at hl 1 rfl) ?_
        refine lv_dup hx hb d_MD_takeZone_45 rfl ?_
        refine va_get (D := (dC, dI)) (ci := 10) (v := .int (z0_38 16 0)) (C := "AlarmMatrixModel") (T := T_MD) (N := 42) hx hb hts i_MD hown hK hP 0 rfl rfl 16 (by decide) (hts _ k5_36) (fun _ h9 => h9) rfl d_MD_takeZone_46 ?_
        refine lv_iconst (v := (1 : Int32)) hx hb d_MD_takeZone_49 (by decide) ?_
        refine lv_iadd hx hb d_MD_takeZone_50 ?_
        obtain ⟨e0_51, he, hm⟩ := lz_s hm
        refine va_put (D := (dC, dI)) (ci := 10) (v := .int ((z0_38 16 0) + (1 : Int32))) (ty := .int) (C := "AlarmMatrixModel") (T := T_MD) (N := 42) hx hb hts i_MD t_MD o_MD n_MD hown hK hP hD hS 0 rfl rfl 16 (by decide) (hts _ k5_36) (fun _ h9 => h9) rfl (by decide +kernel) rfl rfl (Nat.le_of_ble_eq_true rfl) d_MD_takeZone_51 (fun H locs hP hD hS => ?_)
        have hP : va_P (dC, dI) vwCl (wd_MD g h0 q0 e0_51) H := by rw [he]; exact hP
        have hD : va_D A (wd_MD g h0 q0 e0_51) := by rw [he]; exact hD
        refine lv_iload_n hx hb d_MD_takeZone_54 rfl (lv_at hl 0 rfl) ?_
        obtain rfl := Option.some.inj hm
        rw [hQ]
        exact kri hx hb hr hlocks hAe hP hK hD hS d_MD_takeZone_55
    · replace hm := if_f hm hc
      refine lv_iload_n hx hb d_MD_takeZone_28 rfl (lv_at hl 0 rfl) ?_
      refine lv_iload_n hx hb d_MD_takeZone_29 rfl (lv_at hl 2 rfl) ?_
      refine lv_icmp_eq (tgt := 37) hx hb d_MD_takeZone_30 (by decide) (fun hc => ?_) (fun hc => ?_)
      · replace hm := if_t hm hc
        refine lv_iconst (v := (0 : Int32)) hx hb d_MD_takeZone_37 (by decide) ?_
        obtain ⟨r38, z0_38, hcl, hm⟩ := bn2_s hm
        refine kci (wc := wd_MD g h0 q0 z0_4) (wr := ([] : va_W)) (w1 := wd_MD g h0 q0 z0_38) hP hD hS hA [0, 1, 2, 3, 4, 5, 6, 7, 8, 9, 10, 11, 12, 13, 14, 15, 16, 17, 18, 19, 20, 21, 22, 23, 24, 25, 26, 27, 28, 29, 30, 31] [] rfl rfl (by decide) (by decide) (va_runV (As := [.int (0 : Int32)]) (rest := []) ⟨hx, hb, hml, hown, hts⟩ (c_MD_want hG hGn l dC dI g F H.size h0 q0 z0_4 (0 : Int32) hcl) (cwV 1 hts (gdV k5_229 k5_231 kp_32 k1_10 k5_232) rfl rfl rfl (by decide +kernel) ⟨Nat.le_of_ble_eq_true rfl, Nat.le_of_ble_eq_true rfl⟩) (kpV hG hP hK hD hS hA hGA [0, 1, 2, 3, 4, 5, 6, 7, 8, 9, 10, 11, 12, 13, 14, 15, 16, 17, 18, 19, 20, 21, 22, 23, 24, 25, 26, 27, 28, 29, 30, 31] (by decide) rfl (ci := 10) (q0 := 0) rfl rfl rfl) rfl rfl hl.1 rfl (lv_room (Nat.le_of_ble_eq_true rfl)) d_MD_takeZone_38 ⟨Nat.le_of_ble_eq_true rfl, Nat.le_of_ble_eq_true rfl⟩) (fun H locs hP hD hS => ?_)
        have hP : va_P (dC, dI) vwCl (wd_MD g h0 q0 z0_38) H := hP
        have hD : va_D A (wd_MD g h0 q0 z0_38) := hD
        refine lv_if_eq (tgt := 54) hx hb d_MD_takeZone_41 (by decide) (fun hc => ?_) (fun hc => ?_)
        · replace hm := if_t hm hc
          refine lv_iload_n hx hb d_MD_takeZone_54 rfl (lv_at hl 0 rfl) ?_
          obtain rfl := Option.some.inj hm
          rw [hQ]
          exact kri hx hb hr hlocks hAe hP hK hD hS d_MD_takeZone_55
        · replace hm := if_f hm hc
          refine lv_aload_n hx hb d_MD_takeZone_44 rfl (lv_at hl 1 rfl) ?_
          refine lv_dup hx hb d_MD_takeZone_45 rfl ?_
          refine va_get (D := (dC, dI)) (ci := 10) (v := .int (z0_38 16 0)) (C := "AlarmMatrixModel") (T := T_MD) (N := 42) hx hb hts i_MD hown hK hP 0 rfl rfl 16 (by decide) (hts _ k5_36) (fun _ h9 => h9) rfl d_MD_takeZone_46 ?_
          refine lv_iconst (v := (1 : Int32)) hx hb d_MD_takeZone_49 (by decide) ?_
          refine lv_iadd hx hb d_MD_takeZone_50 ?_
          obtain ⟨e0_51, he, hm⟩ := lz_s hm
          refine va_put (D := (dC, dI)) (ci := 10) (v := .int ((z0_38 16 0) + (1 : Int32))) (ty := .int) (C := "AlarmMatrixModel") (T := T_MD) (N := 42) hx hb hts i_MD t_MD o_MD n_MD hown hK hP hD hS 0 rfl rfl 16 (by decide) (hts _ k5_36) (fun _ h9 => h9) rfl (by decide +kernel) rfl rfl (Nat.le_of_ble_eq_true rfl) d_MD_takeZone_51 (fun H locs hP hD hS => ?_)
          have hP : va_P (dC, dI) vwCl (wd_MD g h0 q0 e0_51) H := by rw [he]; exact hP
          have hD : va_D A (wd_MD g h0 q0 e0_51) := by rw [he]; exact hD
          refine lv_iload_n hx hb d_MD_takeZone_54 rfl (lv_at hl 0 rfl) ?_
          obtain rfl := Option.some.inj hm
          rw [hQ]
          exact kri hx hb hr hlocks hAe hP hK hD hS d_MD_takeZone_55
      · replace hm := if_f hm hc
        refine lv_iconst (v := (1 : Int32)) hx hb d_MD_takeZone_33 (by decide) ?_
        refine lv_goto (tgt := 38) hx hb d_MD_takeZone_34 (by decide) ?_
        obtain ⟨r38, z0_38, hcl, hm⟩ := bn2_s hm
        refine kci (wc := wd_MD g h0 q0 z0_4) (wr := ([] : va_W)) (w1 := wd_MD g h0 q0 z0_38) hP hD hS hA [0, 1, 2, 3, 4, 5, 6, 7, 8, 9, 10, 11, 12, 13, 14, 15, 16, 17, 18, 19, 20, 21, 22, 23, 24, 25, 26, 27, 28, 29, 30, 31] [] rfl rfl (by decide) (by decide) (va_runV (As := [.int (1 : Int32)]) (rest := []) ⟨hx, hb, hml, hown, hts⟩ (c_MD_want hG hGn l dC dI g F H.size h0 q0 z0_4 (1 : Int32) hcl) (cwV 1 hts (gdV k5_229 k5_231 kp_32 k1_10 k5_232) rfl rfl rfl (by decide +kernel) ⟨Nat.le_of_ble_eq_true rfl, Nat.le_of_ble_eq_true rfl⟩) (kpV hG hP hK hD hS hA hGA [0, 1, 2, 3, 4, 5, 6, 7, 8, 9, 10, 11, 12, 13, 14, 15, 16, 17, 18, 19, 20, 21, 22, 23, 24, 25, 26, 27, 28, 29, 30, 31] (by decide) rfl (ci := 10) (q0 := 0) rfl rfl rfl) rfl rfl hl.1 rfl (lv_room (Nat.le_of_ble_eq_true rfl)) d_MD_takeZone_38 ⟨Nat.le_of_ble_eq_true rfl, Nat.le_of_ble_eq_true rfl⟩) (fun H locs hP hD hS => ?_)
        have hP : va_P (dC, dI) vwCl (wd_MD g h0 q0 z0_38) H := hP
        have hD : va_D A (wd_MD g h0 q0 z0_38) := hD
        refine lv_if_eq (tgt := 54) hx hb d_MD_takeZone_41 (by decide) (fun hc => ?_) (fun hc => ?_)
        · replace hm := if_t hm hc
          refine lv_iload_n hx hb d_MD_takeZone_54 rfl (lv_at hl 0 rfl) ?_
          obtain rfl := Option.some.inj hm
          rw [hQ]
          exact kri hx hb hr hlocks hAe hP hK hD hS d_MD_takeZone_55
        · replace hm := if_f hm hc
          refine lv_aload_n hx hb d_MD_takeZone_44 rfl (lv_at hl 1 rfl) ?_
          refine lv_dup hx hb d_MD_takeZone_45 rfl ?_
          refine va_get (D := (dC, dI)) (ci := 10) (v := .int (z0_38 16 0)) (C := "AlarmMatrixModel") (T := T_MD) (N := 42) hx hb hts i_MD hown hK hP 0 rfl rfl 16 (by decide) (hts _ k5_36) (fun _ h9 => h9) rfl d_MD_takeZone_46 ?_
          refine lv_iconst (v := (1 : Int32)) hx hb d_MD_takeZone_49 (by decide) ?_
          refine lv_iadd hx hb d_MD_takeZone_50 ?_
          obtain ⟨e0_51, he, hm⟩ := lz_s hm
          refine va_put (D := (dC, dI)) (ci := 10) (v := .int ((z0_38 16 0) + (1 : Int32))) (ty := .int) (C := "AlarmMatrixModel") (T := T_MD) (N := 42) hx hb hts i_MD t_MD o_MD n_MD hown hK hP hD hS 0 rfl rfl 16 (by decide) (hts _ k5_36) (fun _ h9 => h9) rfl (by decide +kernel) rfl rfl (Nat.le_of_ble_eq_true rfl) d_MD_takeZone_51 (fun H locs hP hD hS => ?_)
          have hP : va_P (dC, dI) vwCl (wd_MD g h0 q0 e0_51) H := by rw [he]; exact hP
          have hD : va_D A (wd_MD g h0 q0 e0_51) := by rw [he]; exact hD
          refine lv_iload_n hx hb d_MD_takeZone_54 rfl (lv_at hl 0 rfl) ?_
          obtain rfl := Option.some.inj hm
          rw [hQ]
          exact kri hx hb hr hlocks hAe hP hK hD hS d_MD_takeZone_55
abbrev b_MD_readRow : ByteArray := prog_12_method_27_code
abbrev y_MD_readRow : MethodName := ⟨"AlarmMatrixModel", "readRow", "()V"⟩
theorem d_MD_readRow_0 : decode b_MD_readRow 0 = .ok (.aload_n 0, 1) := by decide +kernel
theorem d_MD_readRow_1 : decode b_MD_readRow 1 = .ok (.iconst (-1), 1) := by decide +kernel
theorem d_MD_readRow_2 : decode b_MD_readRow 2 = .ok (.invokevirtual 194, 3) := by decide +kernel
theorem d_MD_readRow_5 : decode b_MD_readRow 5 = .ok (.istore_n 1, 1) := by decide +kernel
theorem d_MD_readRow_6 : decode b_MD_readRow 6 = .ok (.iconst (-1), 1) := by decide +kernel
theorem d_MD_readRow_7 : decode b_MD_readRow 7 = .ok (.istore_n 2, 1) := by decide +kernel
theorem d_MD_readRow_8 : decode b_MD_readRow 8 = .ok (.aload_n 0, 1) := by decide +kernel
theorem d_MD_readRow_9 : decode b_MD_readRow 9 = .ok (.getfield 163, 3) := by decide +kernel
theorem d_MD_readRow_12 : decode b_MD_readRow 12 = .ok (.ifCond .ge 28, 3) := by decide +kernel
theorem d_MD_readRow_15 : decode b_MD_readRow 15 = .ok (.aload_n 0, 1) := by decide +kernel
theorem d_MD_readRow_16 : decode b_MD_readRow 16 = .ok (.bipush 38, 2) := by decide +kernel
theorem d_MD_readRow_18 : decode b_MD_readRow 18 = .ok (.invokevirtual 174, 3) := by decide +kernel
theorem d_MD_readRow_21 : decode b_MD_readRow 21 = .ok (.ifCond .eq 19, 3) := by decide +kernel
theorem d_MD_readRow_24 : decode b_MD_readRow 24 = .ok (.aload_n 0, 1) := by decide +kernel
theorem d_MD_readRow_25 : decode b_MD_readRow 25 = .ok (.dup, 1) := by decide +kernel
theorem d_MD_readRow_26 : decode b_MD_readRow 26 = .ok (.getfield 160, 3) := by decide +kernel
theorem d_MD_readRow_29 : decode b_MD_readRow 29 = .ok (.iconst 1, 1) := by decide +kernel
theorem d_MD_readRow_30 : decode b_MD_readRow 30 = .ok (.iadd, 1) := by decide +kernel
theorem d_MD_readRow_31 : decode b_MD_readRow 31 = .ok (.putfield 160, 3) := by decide +kernel
theorem d_MD_readRow_34 : decode b_MD_readRow 34 = .ok (.aload_n 0, 1) := by decide +kernel
theorem d_MD_readRow_35 : decode b_MD_readRow 35 = .ok (.iload_n 1, 1) := by decide +kernel
theorem d_MD_readRow_36 : decode b_MD_readRow 36 = .ok (.invokevirtual 194, 3) := by decide +kernel
theorem d_MD_readRow_39 : decode b_MD_readRow 39 = .ok (.istore_n 2, 1) := by decide +kernel
theorem d_MD_readRow_40 : decode b_MD_readRow 40 = .ok (.aload_n 0, 1) := by decide +kernel
theorem d_MD_readRow_41 : decode b_MD_readRow 41 = .ok (.ldc 149, 2) := by decide +kernel
theorem d_MD_readRow_43 : decode b_MD_readRow 43 = .ok (.invokevirtual 181, 3) := by decide +kernel
theorem d_MD_readRow_46 : decode b_MD_readRow 46 = .ok (.aload_n 0, 1) := by decide +kernel
theorem d_MD_readRow_47 : decode b_MD_readRow 47 = .ok (.getfield 163, 3) := by decide +kernel
theorem d_MD_readRow_50 : decode b_MD_readRow 50 = .ok (.ifCond .ge 13, 3) := by decide +kernel
theorem d_MD_readRow_53 : decode b_MD_readRow 53 = .ok (.aload_n 0, 1) := by decide +kernel
theorem d_MD_readRow_54 : decode b_MD_readRow 54 = .ok (.iconst 0, 1) := by decide +kernel
theorem d_MD_readRow_55 : decode b_MD_readRow 55 = .ok (.bipush 19, 2) := by decide +kernel
theorem d_MD_readRow_57 : decode b_MD_readRow 57 = .ok (.invokevirtual 177, 3) := by decide +kernel
theorem d_MD_readRow_60 : decode b_MD_readRow 60 = .ok (.goto 4, 3) := by decide +kernel
theorem d_MD_readRow_63 : decode b_MD_readRow 63 = .ok (.iconst (-1), 1) := by decide +kernel
theorem d_MD_readRow_64 : decode b_MD_readRow 64 = .ok (.istore_n 3, 1) := by decide +kernel
theorem d_MD_readRow_65 : decode b_MD_readRow 65 = .ok (.aload_n 0, 1) := by decide +kernel
theorem d_MD_readRow_66 : decode b_MD_readRow 66 = .ok (.getfield 163, 3) := by decide +kernel
theorem d_MD_readRow_69 : decode b_MD_readRow 69 = .ok (.ifCond .ge 29, 3) := by decide +kernel
theorem d_MD_readRow_72 : decode b_MD_readRow 72 = .ok (.aload_n 0, 1) := by decide +kernel
theorem d_MD_readRow_73 : decode b_MD_readRow 73 = .ok (.aload_n 0, 1) := by decide +kernel
theorem d_MD_readRow_74 : decode b_MD_readRow 74 = .ok (.getfield 56, 3) := by decide +kernel
theorem d_MD_readRow_77 : decode b_MD_readRow 77 = .ok (.bipush 20, 2) := by decide +kernel
theorem d_MD_readRow_79 : decode b_MD_readRow 79 = .ok (.iload_n 3, 1) := by decide +kernel
theorem d_MD_readRow_80 : decode b_MD_readRow 80 = .ok (.iadd, 1) := by decide +kernel
theorem d_MD_readRow_81 : decode b_MD_readRow 81 = .ok (.baload, 1) := by decide +kernel
theorem d_MD_readRow_82 : decode b_MD_readRow 82 = .ok (.invokevirtual 170, 3) := by decide +kernel
theorem d_MD_readRow_85 : decode b_MD_readRow 85 = .ok (.ifCond .eq 13, 3) := by decide +kernel
theorem d_MD_readRow_88 : decode b_MD_readRow 88 = .ok (.aload_n 0, 1) := by decide +kernel
theorem d_MD_readRow_89 : decode b_MD_readRow 89 = .ok (.dup, 1) := by decide +kernel
theorem d_MD_readRow_90 : decode b_MD_readRow 90 = .ok (.getfield 160, 3) := by decide +kernel
theorem d_MD_readRow_93 : decode b_MD_readRow 93 = .ok (.iconst 1, 1) := by decide +kernel
theorem d_MD_readRow_94 : decode b_MD_readRow 94 = .ok (.iadd, 1) := by decide +kernel
theorem d_MD_readRow_95 : decode b_MD_readRow 95 = .ok (.putfield 160, 3) := by decide +kernel
theorem d_MD_readRow_98 : decode b_MD_readRow 98 = .ok (.aload_n 0, 1) := by decide +kernel
theorem d_MD_readRow_99 : decode b_MD_readRow 99 = .ok (.invokevirtual 191, 3) := by decide +kernel
theorem d_MD_readRow_102 : decode b_MD_readRow 102 = .ok (.aload_n 0, 1) := by decide +kernel
theorem d_MD_readRow_103 : decode b_MD_readRow 103 = .ok (.getfield 163, 3) := by decide +kernel
theorem d_MD_readRow_106 : decode b_MD_readRow 106 = .ok (.ifCond .ge 52, 3) := by decide +kernel
theorem d_MD_readRow_109 : decode b_MD_readRow 109 = .ok (.aload_n 0, 1) := by decide +kernel
theorem d_MD_readRow_110 : decode b_MD_readRow 110 = .ok (.getfield 71, 3) := by decide +kernel
theorem d_MD_readRow_113 : decode b_MD_readRow 113 = .ok (.bipush 50, 2) := by decide +kernel
theorem d_MD_readRow_115 : decode b_MD_readRow 115 = .ok (.aload_n 0, 1) := by decide +kernel
theorem d_MD_readRow_116 : decode b_MD_readRow 116 = .ok (.getfield 197, 3) := by decide +kernel
theorem d_MD_readRow_119 : decode b_MD_readRow 119 = .ok (.iadd, 1) := by decide +kernel
theorem d_MD_readRow_120 : decode b_MD_readRow 120 = .ok (.iload_n 1, 1) := by decide +kernel
theorem d_MD_readRow_121 : decode b_MD_readRow 121 = .ok (.iastore, 1) := by decide +kernel
theorem d_MD_readRow_122 : decode b_MD_readRow 122 = .ok (.aload_n 0, 1) := by decide +kernel
theorem d_MD_readRow_123 : decode b_MD_readRow 123 = .ok (.getfield 74, 3) := by decide +kernel
theorem d_MD_readRow_126 : decode b_MD_readRow 126 = .ok (.bipush 50, 2) := by decide +kernel
theorem d_MD_readRow_128 : decode b_MD_readRow 128 = .ok (.aload_n 0, 1) := by decide +kernel
theorem d_MD_readRow_129 : decode b_MD_readRow 129 = .ok (.getfield 197, 3) := by decide +kernel
theorem d_MD_readRow_132 : decode b_MD_readRow 132 = .ok (.iadd, 1) := by decide +kernel
theorem d_MD_readRow_133 : decode b_MD_readRow 133 = .ok (.iload_n 2, 1) := by decide +kernel
theorem d_MD_readRow_134 : decode b_MD_readRow 134 = .ok (.iastore, 1) := by decide +kernel
theorem d_MD_readRow_135 : decode b_MD_readRow 135 = .ok (.aload_n 0, 1) := by decide +kernel
theorem d_MD_readRow_136 : decode b_MD_readRow 136 = .ok (.getfield 77, 3) := by decide +kernel
theorem d_MD_readRow_139 : decode b_MD_readRow 139 = .ok (.bipush 50, 2) := by decide +kernel
theorem d_MD_readRow_141 : decode b_MD_readRow 141 = .ok (.aload_n 0, 1) := by decide +kernel
theorem d_MD_readRow_142 : decode b_MD_readRow 142 = .ok (.getfield 197, 3) := by decide +kernel
theorem d_MD_readRow_145 : decode b_MD_readRow 145 = .ok (.iadd, 1) := by decide +kernel
theorem d_MD_readRow_146 : decode b_MD_readRow 146 = .ok (.iload_n 3, 1) := by decide +kernel
theorem d_MD_readRow_147 : decode b_MD_readRow 147 = .ok (.iastore, 1) := by decide +kernel
theorem d_MD_readRow_148 : decode b_MD_readRow 148 = .ok (.aload_n 0, 1) := by decide +kernel
theorem d_MD_readRow_149 : decode b_MD_readRow 149 = .ok (.dup, 1) := by decide +kernel
theorem d_MD_readRow_150 : decode b_MD_readRow 150 = .ok (.getfield 197, 3) := by decide +kernel
theorem d_MD_readRow_153 : decode b_MD_readRow 153 = .ok (.iconst 1, 1) := by decide +kernel
theorem d_MD_readRow_154 : decode b_MD_readRow 154 = .ok (.iadd, 1) := by decide +kernel
theorem d_MD_readRow_155 : decode b_MD_readRow 155 = .ok (.putfield 197, 3) := by decide +kernel
theorem d_MD_readRow_158 : decode b_MD_readRow 158 = .ok (.return_, 1) := by decide +kernel
def m_MD_readRow_J64 (F : Nat)  (j1_64 : Int32) (j2_64 : Int32) (s0_64 : Int32) (t0_64 : St) : Option (St) :=
  (if (0 : Int32) ≤ (t0_64 17 0) then (bn1 (m_MD_takeStop F t0_64) (fun z0_99 => (if (0 : Int32) ≤ (z0_99 17 0) then (some z0_99) else (ck ((50 : Int32) + (z0_99 28 0)) 100 (lz (st z0_99 29 (upd (z0_99 29) ((50 : Int32) + (z0_99 28 0)).toNatClampNeg j1_64)) (fun e0_121 => (ck ((50 : Int32) + (e0_121 28 0)) 100 (lz (st e0_121 30 (upd (e0_121 30) ((50 : Int32) + (e0_121 28 0)).toNatClampNeg j2_64)) (fun e0_134 => (ck ((50 : Int32) + (e0_134 28 0)) 100 (lz (st e0_134 31 (upd (e0_134 31) ((50 : Int32) + (e0_134 28 0)).toNatClampNeg s0_64)) (fun e0_147 => (lz (sc e0_147 28 ((e0_147 28 0) + (1 : Int32))) (fun e0_155 => (some e0_155))))))))))))))) else (ck ((20 : Int32) + s0_64) 40 (bn2 (m_MD_want F t0_64 ((t0_64 22) ((20 : Int32) + s0_64).toNatClampNeg)) (fun r82 z0_82 => (if r82 = (0 : Int32) then (bn1 (m_MD_takeStop F z0_82) (fun z0_99 => (if (0 : Int32) ≤ (z0_99 17 0) then (some z0_99) else (ck ((50 : Int32) + (z0_99 28 0)) 100 (lz (st z0_99 29 (upd (z0_99 29) ((50 : Int32) + (z0_99 28 0)).toNatClampNeg j1_64)) (fun e0_121 => (ck ((50 : Int32) + (e0_121 28 0)) 100 (lz (st e0_121 30 (upd (e0_121 30) ((50 : Int32) + (e0_121 28 0)).toNatClampNeg j2_64)) (fun e0_134 => (ck ((50 : Int32) + (e0_134 28 0)) 100 (lz (st e0_134 31 (upd (e0_134 31) ((50 : Int32) + (e0_134 28 0)).toNatClampNeg s0_64)) (fun e0_147 => (lz (sc e0_147 28 ((e0_147 28 0) + (1 : Int32))) (fun e0_155 => (some e0_155))))))))))))))) else (lz (sc z0_82 16 ((z0_82 16 0) + (1 : Int32))) (fun e0_95 => (bn1 (m_MD_takeStop F e0_95) (fun z0_99 => (if (0 : Int32) ≤ (z0_99 17 0) then (some z0_99) else (ck ((50 : Int32) + (z0_99 28 0)) 100 (lz (st z0_99 29 (upd (z0_99 29) ((50 : Int32) + (z0_99 28 0)).toNatClampNeg j1_64)) (fun e0_121 => (ck ((50 : Int32) + (e0_121 28 0)) 100 (lz (st e0_121 30 (upd (e0_121 30) ((50 : Int32) + (e0_121 28 0)).toNatClampNeg j2_64)) (fun e0_134 => (ck ((50 : Int32) + (e0_134 28 0)) 100 (lz (st e0_134 31 (upd (e0_134 31) ((50 : Int32) + (e0_134 28 0)).toNatClampNeg s0_64)) (fun e0_147 => (lz (sc e0_147 28 ((e0_147 28 0) + (1 : Int32))) (fun e0_155 => (some e0_155))))))))))))))))))))))
theorem m_MD_readRow_J64_h {F : Nat}  {j1_64 : Int32} {j2_64 : Int32} {s0_64 : Int32} {t0_64 : St} {o : (St)} (h : m_MD_readRow_J64 F j1_64 j2_64 s0_64 t0_64 = some o) :
  (if (0 : Int32) ≤ (t0_64 17 0) then (bn1 (m_MD_takeStop F t0_64) (fun z0_99 => (if (0 : Int32) ≤ (z0_99 17 0) then (some z0_99) else (ck ((50 : Int32) + (z0_99 28 0)) 100 (lz (st z0_99 29 (upd (z0_99 29) ((50 : Int32) + (z0_99 28 0)).toNatClampNeg j1_64)) (fun e0_121 => (ck ((50 : Int32) + (e0_121 28 0)) 100 (lz (st e0_121 30 (upd (e0_121 30) ((50 : Int32) + (e0_121 28 0)).toNatClampNeg j2_64)) (fun e0_134 => (ck ((50 : Int32) + (e0_134 28 0)) 100 (lz (st e0_134 31 (upd (e0_134 31) ((50 : Int32) + (e0_134 28 0)).toNatClampNeg s0_64)) (fun e0_147 => (lz (sc e0_147 28 ((e0_147 28 0) + (1 : Int32))) (fun e0_155 => (some e0_155))))))))))))))) else (ck ((20 : Int32) + s0_64) 40 (bn2 (m_MD_want F t0_64 ((t0_64 22) ((20 : Int32) + s0_64).toNatClampNeg)) (fun r82 z0_82 => (if r82 = (0 : Int32) then (bn1 (m_MD_takeStop F z0_82) (fun z0_99 => (if (0 : Int32) ≤ (z0_99 17 0) then (some z0_99) else (ck ((50 : Int32) + (z0_99 28 0)) 100 (lz (st z0_99 29 (upd (z0_99 29) ((50 : Int32) + (z0_99 28 0)).toNatClampNeg j1_64)) (fun e0_121 => (ck ((50 : Int32) + (e0_121 28 0)) 100 (lz (st e0_121 30 (upd (e0_121 30) ((50 : Int32) + (e0_121 28 0)).toNatClampNeg j2_64)) (fun e0_134 => (ck ((50 : Int32) + (e0_134 28 0)) 100 (lz (st e0_134 31 (upd (e0_134 31) ((50 : Int32) + (e0_134 28 0)).toNatClampNeg s0_64)) (fun e0_147 => (lz (sc e0_147 28 ((e0_147 28 0) + (1 : Int32))) (fun e0_155 => (some e0_155))))))))))))))) else (lz (sc z0_82 16 ((z0_82 16 0) + (1 : Int32))) (fun e0_95 => (bn1 (m_MD_takeStop F e0_95) (fun z0_99 => (if (0 : Int32) ≤ (z0_99 17 0) then (some z0_99) else (ck ((50 : Int32) + (z0_99 28 0)) 100 (lz (st z0_99 29 (upd (z0_99 29) ((50 : Int32) + (z0_99 28 0)).toNatClampNeg j1_64)) (fun e0_121 => (ck ((50 : Int32) + (e0_121 28 0)) 100 (lz (st e0_121 30 (upd (e0_121 30) ((50 : Int32) + (e0_121 28 0)).toNatClampNeg j2_64)) (fun e0_134 => (ck ((50 : Int32) + (e0_134 28 0)) 100 (lz (st e0_134 31 (upd (e0_134 31) ((50 : Int32) + (e0_134 28 0)).toNatClampNeg s0_64)) (fun e0_147 => (lz (sc e0_147 28 ((e0_147 28 0) + (1 : Int32))) (fun e0_155 => (some e0_155)))))))))))))))))))))) = some o := h
def m_MD_readRow (F : Nat) (x0 : St) : Option (St) :=
  (bn2 (m_MD_takeZone F x0 (-1 : Int32)) (fun r2 z0_2 => (if (0 : Int32) ≤ (z0_2 17 0) then (bn1 (m_MD_take_0 F z0_2 (628196 : Int32)) (fun z0_43 => (if (0 : Int32) ≤ (z0_43 17 0) then (m_MD_readRow_J64 F   r2 (-1 : Int32) (-1 : Int32) z0_43) else (bn2 (m_MD_look F z0_43 (0 : Int32) (19 : Int32)) (fun r57 z0_57 => (m_MD_readRow_J64 F   r2 (-1 : Int32) r57 z0_57)))))) else (bn1 (m_MD_isSign F z0_2 (38 : Int32)) (fun r18 => (if r18 = (0 : Int32) then (bn1 (m_MD_take_0 F z0_2 (628196 : Int32)) (fun z0_43 => (if (0 : Int32) ≤ (z0_43 17 0) then (m_MD_readRow_J64 F   r2 (-1 : Int32) (-1 : Int32) z0_43) else (bn2 (m_MD_look F z0_43 (0 : Int32) (19 : Int32)) (fun r57 z0_57 => (m_MD_readRow_J64 F   r2 (-1 : Int32) r57 z0_57)))))) else (lz (sc z0_2 16 ((z0_2 16 0) + (1 : Int32))) (fun e0_31 => (bn2 (m_MD_takeZone F e0_31 r2) (fun r36 z0_36 => (bn1 (m_MD_take_0 F z0_36 (628196 : Int32)) (fun z0_43 => (if (0 : Int32) ≤ (z0_43 17 0) then (m_MD_readRow_J64 F   r2 r36 (-1 : Int32) z0_43) else (bn2 (m_MD_look F z0_43 (0 : Int32) (19 : Int32)) (fun r57 z0_57 => (m_MD_readRow_J64 F   r2 r36 r57 z0_57))))))))))))))))
abbrev rm_MD_readRow : Room := { frames := 3, cells := 0, slots := 0, locals := 68 }
set_option maxHeartbeats 4000000 in
set_option maxRecDepth 100000 in
theorem c_MD_readRow {G : (Nat → Prop) → State → Prop} (hG : gok G) (hGn : gN G) (l : Launch) (dC : Nat → ClassId) (dI : Nat → Nat → Nat) (g : Nat → ClassId) (F : Nat) (sz : Nat) (h0 : Nat) (q0 : Nat → Nat) (x0 : St) {o : St} (hm : m_MD_readRow F x0 = some o) : Met l y_MD_readRow (.code y_MD_readRow b_MD_readRow 4 none :: gw) rm_MD_readRow (kq (dC, dI) vwCl (tyv g) G [.ref h0] sz (wd_MD g h0 q0 x0)) (kqv (dC, dI) vwCl (tyv g) (wd_MD g h0 q0 x0) (wd_MD g h0 q0 o) sz) 0 0 (va_A (wd_MD g h0 q0 x0) sz) := by
  unfold m_MD_readRow at hm
  refine km (Qc := fun sz => kqv (dC, dI) vwCl (tyv g) (wd_MD g h0 q0 x0) (wd_MD g h0 q0 o) sz) (cc := b_MD_readRow) (maxL := 4) (ret := none) (by decide) rfl (Nat.le_of_ble_eq_true rfl) ?_
  intro p e s m args below meth c Q hQ hx hb hr hts hown hlocks hml hnm H locs A hAe hA hP hK hD hS hGA ls hl
  have hl : lv_has ls 4 [(0, .ref h0)] := hl
  have hts : ∀ w ∈ gw, w.before args s = true := fun w h => hts w (List.mem_cons_of_mem _ h)
  have hown : s.vm.findClass "AlarmMatrixModel" = some m.cls := hown
  have J64 : ∀ (j1_64 : Int32) (j2_64 : Int32) (s0_64 : Int32) (t0_64 : St) (H : Heap) (locs : List Loc) (ls : Array Slot), m_MD_readRow_J64 F   j1_64 j2_64 s0_64 t0_64 = some o → va_P (dC, dI) vwCl (wd_MD g h0 q0 t0_64) H → va_D A (wd_MD g h0 q0 t0_64) → va_S A s.heap H locs → lv_has ls 4 [(0, .ref h0), (1, .int j1_64), (2, .int j2_64)] → W p l e rm_MD_readRow s m args below meth c H locs 0 0 Q (F0 m 64 ls [.int s0_64]) := by
    intro j1_64 j2_64 s0_64 t0_64 H locs ls hm hP hD hS hl
    replace hm := m_MD_readRow_J64_h hm
    refine lv_istore_n (lv' := [(3, .int s0_64), (0, .ref h0), (1, .int j1_64), (2, .int j2_64)]) hx hb d_MD_readRow_64 rfl hl (by decide) rfl (fun ls hl => ?_)
    refine lv_aload_n hx hb d_MD_readRow_65 rfl (lv_at hl 1 rfl) ?_
    refine va_get (D := (dC, dI)) (ci := 10) (v := .int (t0_64 17 0)) (C := "AlarmMatrixModel") (T := T_MD) (N := 42) hx hb hts i_MD hown hK hP 0 rfl rfl 17 (by decide) (hts _ k5_37) (fun _ h9 => h9) rfl d_MD_readRow_66 ?_
    refine lv_if_ge (tgt := 98) hx hb d_MD_readRow_69 (by decide) (fun hc => ?_) (fun hc => ?_)
    · replace hm := if_t hm hc
      refine lv_aload_n hx hb d_MD_readRow_98 rfl (lv_at hl 1 rfl) ?_
      obtain ⟨z0_99, hcl, hm⟩ := bn1_s hm
      refine kcv (wc := wd_MD g h0 q0 t0_64) (wr := ([] : va_W)) (w1 := wd_MD g h0 q0 z0_99) hP hD hS hA [0, 1, 2, 3, 4, 5, 6, 7, 8, 9, 10, 11, 12, 13, 14, 15, 16, 17, 18, 19, 20, 21, 22, 23, 24, 25, 26, 27, 28, 29, 30, 31] [] rfl rfl (by decide) (by decide) (va_runV (As := []) (rest := []) ⟨hx, hb, hml, hown, hts⟩ (c_MD_takeStop hG hGn l dC dI g F H.size h0 q0 t0_64 hcl) (cwV 0 hts (gdV k6_13 k6_15 kp_38 k1_10 k6_16) rfl rfl rfl (by decide +kernel) ⟨Nat.le_of_ble_eq_true rfl, Nat.le_of_ble_eq_true rfl⟩) (kpV hG hP hK hD hS hA hGA [0, 1, 2, 3, 4, 5, 6, 7, 8, 9, 10, 11, 12, 13, 14, 15, 16, 17, 18, 19, 20, 21, 22, 23, 24, 25, 26, 27, 28, 29, 30, 31] (by decide) rfl (ci := 10) (q0 := 0) rfl rfl rfl) rfl rfl hl.1 rfl (lv_room (Nat.le_of_ble_eq_true rfl)) d_MD_readRow_99 ⟨Nat.le_of_ble_eq_true rfl, Nat.le_of_ble_eq_true rfl⟩) (fun H locs hP hD hS => ?_)
      have hP : va_P (dC, dI) vwCl (wd_MD g h0 q0 z0_99) H := hP
      have hD : va_D A (wd_MD g h0 q0 z0_99) := hD
      refine lv_aload_n hx hb d_MD_readRow_102 rfl (lv_at hl 1 rfl) ?_
      refine va_get (D := (dC, dI)) (ci := 10) (v := .int (z0_99 17 0)) (C := "AlarmMatrixModel") (T := T_MD) (N := 42) hx hb hts i_MD hown hK hP 0 rfl rfl 17 (by decide) (hts _ k5_37) (fun _ h9 => h9) rfl d_MD_readRow_103 ?_
      refine lv_if_ge (tgt := 158) hx hb d_MD_readRow_106 (by decide) (fun hc => ?_) (fun hc => ?_)
      · replace hm := if_t hm hc
        obtain rfl := Option.some.inj hm
        rw [hQ]
        exact krv hx hb hr hlocks hAe hP hK hD hS d_MD_readRow_158
      · replace hm := if_f hm hc
        refine lv_aload_n hx hb d_MD_readRow_109 rfl (lv_at hl 1 rfl) ?_
        refine va_get (D := (dC, dI)) (ci := 10) (v := .ref (q0 29)) (C := "AlarmMatrixModel") (T := T_MD) (N := 42) hx hb hts i_MD hown hK hP 0 rfl rfl 29 (by decide) (hts _ k5_49) (fun _ h9 => h9) rfl d_MD_readRow_110 ?_
        refine lv_bipush (v := (50 : Int32)) hx hb d_MD_readRow_113 (by decide) ?_
        refine lv_aload_n hx hb d_MD_readRow_115 rfl (lv_at hl 1 rfl) ?_
        refine va_get (D := (dC, dI)) (ci := 10) (v := .int (z0_99 28 0)) (C := "AlarmMatrixModel") (T := T_MD) (N := 42) hx hb hts i_MD hown hK hP 0 rfl rfl 28 (by decide) (hts _ k5_48) (fun _ h9 => h9) rfl d_MD_readRow_116 ?_
        refine lv_iadd hx hb d_MD_readRow_119 ?_
        refine lv_iload_n hx hb d_MD_readRow_120 rfl (lv_at hl 2 rfl) ?_
        obtain ⟨h_121, hm⟩ := ck_s hm
        obtain ⟨e0_121, he, hm⟩ := lz_s hm
        refine va_iast (f := (z0_99 29)) hx hb hK hP hD hS 21 0 rfl rfl h_121 d_MD_readRow_121 (fun H locs hP hD hS => ?_)
        have hP : va_P (dC, dI) vwCl (wd_MD g h0 q0 e0_121) H := by rw [he]; exact hP
        have hD : va_D A (wd_MD g h0 q0 e0_121) := by rw [he]; exact hD
        refine lv_aload_n hx hb d_MD_readRow_122 rfl (lv_at hl 1 rfl) ?_
        refine va_get (D := (dC, dI)) (ci := 10) (v := .ref (q0 30)) (C := "AlarmMatrixModel") (T := T_MD) (N := 42) hx hb hts i_MD hown hK hP 0 rfl rfl 30 (by decide) (hts _ k5_50) (fun _ h9 => h9) rfl d_MD_readRow_123 ?_
        refine lv_bipush (v := (50 : Int32)) hx hb d_MD_readRow_126 (by decide) ?_
        refine lv_aload_n hx hb d_MD_readRow_128 rfl (lv_at hl 1 rfl) ?_
        refine va_get (D := (dC, dI)) (ci := 10) (v := .int (e0_121 28 0)) (C := "AlarmMatrixModel") (T := T_MD) (N := 42) hx hb hts i_MD hown hK hP 0 rfl rfl 28 (by decide) (hts _ k5_48) (fun _ h9 => h9) rfl d_MD_readRow_129 ?_
        refine lv_iadd hx hb d_MD_readRow_132 ?_
        refine lv_iload_n hx hb d_MD_readRow_133 rfl (lv_at hl 3 rfl) ?_
        obtain ⟨h_134, hm⟩ := ck_s hm
        obtain ⟨e0_134, he, hm⟩ := lz_s hm
        refine va_iast (f := (e0_121 30)) hx hb hK hP hD hS 22 0 rfl rfl h_134 d_MD_readRow_134 (fun H locs hP hD hS => ?_)
        have hP : va_P (dC, dI) vwCl (wd_MD g h0 q0 e0_134) H := by rw [he]; exact hP
        have hD : va_D A (wd_MD g h0 q0 e0_134) := by rw [he]; exact hD
        refine lv_aload_n hx hb d_MD_readRow_135 rfl (lv_at hl 1 rfl) ?_
        refine va_get (D := (dC, dI)) (ci := 10) (v := .ref (q0 31)) (C := "AlarmMatrixModel") (T := T_MD) (N := 42) hx hb hts i_MD hown hK hP 0 rfl rfl 31 (by decide) (hts _ k5_51) (fun _ h9 => h9) rfl d_MD_readRow_136 ?_
        refine lv_bipush (v := (50 : Int32)) hx hb d_MD_readRow_139 (by decide) ?_
        refine lv_aload_n hx hb d_MD_readRow_141 rfl (lv_at hl 1 rfl) ?_
        refine va_get (D := (dC, dI)) (ci := 10) (v := .int (e0_134 28 0)) (C := "AlarmMatrixModel") (T := T_MD) (N := 42) hx hb hts i_MD hown hK hP 0 rfl rfl 28 (by decide) (hts _ k5_48) (fun _ h9 => h9) rfl d_MD_readRow_142 ?_
        refine lv_iadd hx hb d_MD_readRow_145 ?_
        refine lv_iload_n hx hb d_MD_readRow_146 rfl (lv_at hl 0 rfl) ?_
        obtain ⟨h_147, hm⟩ := ck_s hm
        obtain ⟨e0_147, he, hm⟩ := lz_s hm
        refine va_iast (f := (e0_134 31)) hx hb hK hP hD hS 23 0 rfl rfl h_147 d_MD_readRow_147 (fun H locs hP hD hS => ?_)
        have hP : va_P (dC, dI) vwCl (wd_MD g h0 q0 e0_147) H := by rw [he]; exact hP
        have hD : va_D A (wd_MD g h0 q0 e0_147) := by rw [he]; exact hD
        refine lv_aload_n hx hb d_MD_readRow_148 rfl (lv_at hl 1 rfl) ?_
        refine lv_dup hx hb d_MD_readRow_149 rfl ?_
        refine va_get (D := (dC, dI)) (ci := 10) (v := .int (e0_147 28 0)) (C := "AlarmMatrixModel") (T := T_MD) (N := 42) hx hb hts i_MD hown hK hP 0 rfl rfl 28 (by decide) (hts _ k5_48) (fun _ h9 => h9) rfl d_MD_readRow_150 ?_
        refine lv_iconst (v := (1 : Int32)) hx hb d_MD_readRow_153 (by decide) ?_
        refine lv_iadd hx hb d_MD_readRow_154 ?_
        obtain ⟨e0_155, he, hm⟩ := lz_s hm
        refine va_put (D := (dC, dI)) (ci := 10) (v := .int ((e0_147 28 0) + (1 : Int32))) (ty := .int) (C := "AlarmMatrixModel") (T := T_MD) (N := 42) hx hb hts i_MD t_MD o_MD n_MD hown hK hP hD hS 0 rfl rfl 28 (by decide) (hts _ k5_48) (fun _ h9 => h9) rfl (by decide +kernel) rfl rfl (Nat.le_of_ble_eq_true rfl) d_MD_readRow_155 (fun H locs hP hD hS => ?_)
        have hP : va_P (dC, dI) vwCl (wd_MD g h0 q0 e0_155) H := by rw [he]; exact hP
        have hD : va_D A (wd_MD g h0 q0 e0_155) := by rw [he]; exact hD
        obtain rfl := Option.some.inj hm
        rw [hQ]
        exact krv hx hb hr hlocks hAe hP hK hD hS d_MD_readRow_158
    · replace hm := if_f hm hc
      refine lv_aload_n hx hb d_MD_readRow_72 rfl (lv_at hl 1 rfl) ?_
      refine lv_aload_n hx hb d_MD_readRow_73 rfl (lv_at hl 1 rfl) ?_
      refine va_get (D := (dC, dI)) (ci := 10) (v := .ref (q0 22)) (C := "AlarmMatrixModel") (T := T_MD) (N := 42) hx hb hts i_MD hown hK hP 0 rfl rfl 22 (by decide) (hts _ k5_42) (fun _ h9 => h9) rfl d_MD_readRow_74 ?_
      refine lv_bipush (v := (20 : Int32)) hx hb d_MD_readRow_77 (by decide) ?_
      refine lv_iload_n hx hb d_MD_readRow_79 rfl (lv_at hl 0 rfl) ?_
      refine lv_iadd hx hb d_MD_readRow_80 ?_
      obtain ⟨h_81, hm⟩ := ck_s hm
      refine va_zald (f := (t0_64 22)) hx hb hK hP 16 1 rfl rfl h_81 d_MD_readRow_81 ?_
      obtain ⟨r82, z0_82, hcl, hm⟩ := bn2_s hm
      refine kci (wc := wd_MD g h0 q0 t0_64) (wr := ([] : va_W)) (w1 := wd_MD g h0 q0 z0_82) hP hD hS hA [0, 1, 2, 3, 4, 5, 6, 7, 8, 9, 10, 11, 12, 13, 14, 15, 16, 17, 18, 19, 20, 21, 22, 23, 24, 25, 26, 27, 28, 29, 30, 31] [] rfl rfl (by decide) (by decide) (va_runV (As := [.int ((t0_64 22) ((20 : Int32) + s0_64).toNatClampNeg)]) (rest := []) ⟨hx, hb, hml, hown, hts⟩ (c_MD_want hG hGn l dC dI g F H.size h0 q0 t0_64 ((t0_64 22) ((20 : Int32) + s0_64).toNatClampNeg) hcl) (cwV 1 hts (gdV k5_229 k5_231 kp_32 k1_10 k5_232) rfl rfl rfl (by decide +kernel) ⟨Nat.le_of_ble_eq_true rfl, Nat.le_of_ble_eq_true rfl⟩) (kpV hG hP hK hD hS hA hGA [0, 1, 2, 3, 4, 5, 6, 7, 8, 9, 10, 11, 12, 13, 14, 15, 16, 17, 18, 19, 20, 21, 22, 23, 24, 25, 26, 27, 28, 29, 30, 31] (by decide) rfl (ci := 10) (q0 := 0) rfl rfl rfl) rfl rfl hl.1 rfl (lv_room (Nat.le_of_ble_eq_true rfl)) d_MD_readRow_82 ⟨Nat.le_of_ble_eq_true rfl, Nat.le_of_ble_eq_true rfl⟩) (fun H locs hP hD hS => ?_)
      have hP : va_P (dC, dI) vwCl (wd_MD g h0 q0 z0_82) H := hP
      have hD : va_D A (wd_MD g h0 q0 z0_82) := hD
      refine lv_if_eq (tgt := 98) hx hb d_MD_readRow_85 (by decide) (fun hc => ?_) (fun hc => ?_)
      · replace hm := if_t hm hc
        refine lv_aload_n hx hb d_MD_readRow_98 rfl (lv_at hl 1 rfl) ?_
        obtain ⟨z0_99, hcl, hm⟩ := bn1_s hm
        refine kcv (wc := wd_MD g h0 q0 z0_82) (wr := ([] : va_W)) (w1 := wd_MD g h0 q0 z0_99) hP hD hS hA [0, 1, 2, 3, 4, 5, 6, 7, 8, 9, 10, 11, 12, 13, 14, 15, 16, 17, 18, 19, 20, 21, 22, 23, 24, 25, 26, 27, 28, 29, 30, 31] [] rfl rfl (by decide) (by decide) (va_runV (As := []) (rest := []) ⟨hx, hb, hml, hown, hts⟩ (c_MD_takeStop hG hGn l dC dI g F H.size h0 q0 z0_82 hcl) (cwV 0 hts (gdV k6_13 k6_15 kp_38 k1_10 k6_16) rfl rfl rfl (by decide +kernel) ⟨Nat.le_of_ble_eq_true rfl, Nat.le_of_ble_eq_true rfl⟩) (kpV hG hP hK hD hS hA hGA [0, 1, 2, 3, 4, 5, 6, 7, 8, 9, 10, 11, 12, 13, 14, 15, 16, 17, 18, 19, 20, 21, 22, 23, 24, 25, 26, 27, 28, 29, 30, 31] (by decide) rfl (ci := 10) (q0 := 0) rfl rfl rfl) rfl rfl hl.1 rfl (lv_room (Nat.le_of_ble_eq_true rfl)) d_MD_readRow_99 ⟨Nat.le_of_ble_eq_true rfl, Nat.le_of_ble_eq_true rfl⟩) (fun H locs hP hD hS => ?_)
        have hP : va_P (dC, dI) vwCl (wd_MD g h0 q0 z0_99) H := hP
        have hD : va_D A (wd_MD g h0 q0 z0_99) := hD
        refine lv_aload_n hx hb d_MD_readRow_102 rfl (lv_at hl 1 rfl) ?_
        refine va_get (D := (dC, dI)) (ci := 10) (v := .int (z0_99 17 0)) (C := "AlarmMatrixModel") (T := T_MD) (N := 42) hx hb hts i_MD hown hK hP 0 rfl rfl 17 (by decide) (hts _ k5_37) (fun _ h9 => h9) rfl d_MD_readRow_103 ?_
        refine lv_if_ge (tgt := 158) hx hb d_MD_readRow_106 (by decide) (fun hc => ?_) (fun hc => ?_)
        · replace hm := if_t hm hc
          obtain rfl := Option.some.inj hm
          rw [hQ]
          exact krv hx hb hr hlocks hAe hP hK hD hS d_MD_readRow_158
        · replace hm := if_f hm hc
          refine lv_aload_n hx hb d_MD_readRow_109 rfl (lv_at hl 1 rfl) ?_
          refine va_get (D := (dC, dI)) (ci := 10) (v := .ref (q0 29)) (C := "AlarmMatrixModel") (T := T_MD) (N := 42) hx hb hts i_MD hown hK hP 0 rfl rfl 29 (by decide) (hts _ k5_49) (fun _ h9 => h9) rfl d_MD_readRow_110 ?_
          refine lv_bipush (v := (50 : Int32)) hx hb d_MD_readRow_113 (by decide) ?_
          refine lv_aload_n hx hb d_MD_readRow_115 rfl (lv_at hl 1 rfl) ?_
          refine va_get (D := (dC, dI)) (ci := 10) (v := .int (z0_99 28 0)) (C := "AlarmMatrixModel") (T := T_MD) (N := 42) hx hb hts i_MD hown hK hP 0 rfl rfl 28 (by decide) (hts _ k5_48) (fun _ h9 => h9) rfl d_MD_readRow_116 ?_
          refine lv_iadd hx hb d_MD_readRow_119 ?_
          refine lv_iload_n hx hb d_MD_readRow_120 rfl (lv_at hl 2 rfl) ?_
          obtain ⟨h_121, hm⟩ := ck_s hm
          obtain ⟨e0_121, he, hm⟩ := lz_s hm
          refine va_iast (f := (z0_99 29)) hx hb hK hP hD hS 21 0 rfl rfl h_121 d_MD_readRow_121 (fun H locs hP hD hS => ?_)
          have hP : va_P (dC, dI) vwCl (wd_MD g h0 q0 e0_121) H := by rw [he]; exact hP
          have hD : va_D A (wd_MD g h0 q0 e0_121) := by rw [he]; exact hD
          refine lv_aload_n hx hb d_MD_readRow_122 rfl (lv_at hl 1 rfl) ?_
          refine va_get (D := (dC, dI)) (ci := 10) (v := .ref (q0 30)) (C := "AlarmMatrixModel") (T := T_MD) (N := 42) hx hb hts i_MD hown hK hP 0 rfl rfl 30 (by decide) (hts _ k5_50) (fun _ h9 => h9) rfl d_MD_readRow_123 ?_
          refine lv_bipush (v := (50 : Int32)) hx hb d_MD_readRow_126 (by decide) ?_
          refine lv_aload_n hx hb d_MD_readRow_128 rfl (lv_at hl 1 rfl) ?_
          refine va_get (D := (dC, dI)) (ci := 10) (v := .int (e0_121 28 0)) (C := "AlarmMatrixModel") (T := T_MD) (N := 42) hx hb hts i_MD hown hK hP 0 rfl rfl 28 (by decide) (hts _ k5_48) (fun _ h9 => h9) rfl d_MD_readRow_129 ?_
          refine lv_iadd hx hb d_MD_readRow_132 ?_
          refine lv_iload_n hx hb d_MD_readRow_133 rfl (lv_at hl 3 rfl) ?_
          obtain ⟨h_134, hm⟩ := ck_s hm
          obtain ⟨e0_134, he, hm⟩ := lz_s hm
          refine va_iast (f := (e0_121 30)) hx hb hK hP hD hS 22 0 rfl rfl h_134 d_MD_readRow_134 (fun H locs hP hD hS => ?_)
          have hP : va_P (dC, dI) vwCl (wd_MD g h0 q0 e0_134) H := by rw [he]; exact hP
          have hD : va_D A (wd_MD g h0 q0 e0_134) := by rw [he]; exact hD
          refine lv_aload_n hx hb d_MD_readRow_135 rfl (lv_at hl 1 rfl) ?_
          refine va_get (D := (dC, dI)) (ci := 10) (v := .ref (q0 31)) (C := "AlarmMatrixModel") (T := T_MD) (N := 42) hx hb hts i_MD hown hK hP 0 rfl rfl 31 (by decide) (hts _ k5_51) (fun _ h9 => h9) rfl d_MD_readRow_136 ?_
          refine lv_bipush (v := (50 : Int32)) hx hb d_MD_readRow_139 (by decide) ?_
          refine lv_aload_n hx hb d_MD_readRow_141 rfl (lv_at hl 1 rfl) ?_
          refine va_get (D := (dC, dI)) (ci := 10) (v := .int (e0_134 28 0)) (C := "AlarmMatrixModel") (T := T_MD) (N := 42) hx hb hts i_MD hown hK hP 0 rfl rfl 28 (by decide) (hts _ k5_48) (fun _ h9 => h9) rfl d_MD_readRow_142 ?_
          refine lv_iadd hx hb d_MD_readRow_145 ?_
          refine lv_iload_n hx hb d_MD_readRow_146 rfl (lv_at hl 0 rfl) ?_
          obtain ⟨h_147, hm⟩ := ck_s hm
          obtain ⟨e0_147, he, hm⟩ := lz_s hm
          refine va_iast (f := (e0_134 31)) hx hb hK hP hD hS 23 0 rfl rfl h_147 d_MD_readRow_147 (fun H locs hP hD hS => ?_)
          have hP : va_P (dC, dI) vwCl (wd_MD g h0 q0 e0_147) H := by rw [he]; exact hP
          have hD : va_D A (wd_MD g h0 q0 e0_147) := by rw [he]; exact hD
          refine lv_aload_n hx hb d_MD_readRow_148 rfl (lv_at hl 1 rfl) ?_
          refine lv_dup hx hb d_MD_readRow_149 rfl ?_
          refine va_get (D := (dC, dI)) (ci := 10) (v := .int (e0_147 28 0)) (C := "AlarmMatrixModel") (T := T_MD) (N := 42) hx hb hts i_MD hown hK hP 0 rfl rfl 28 (by decide) (hts _ k5_48) (fun _ h9 => h9) rfl d_MD_readRow_150 ?_
          refine lv_iconst (v := (1 : Int32)) hx hb d_MD_readRow_153 (by decide) ?_
          refine lv_iadd hx hb d_MD_readRow_154 ?_
          obtain ⟨e0_155, he, hm⟩ := lz_s hm
          refine va_put (D := (dC, dI)) (ci := 10) (v := .int ((e0_147 28 0) + (1 : Int32))) (ty := .int) (C := "AlarmMatrixModel") (T := T_MD) (N := 42) hx hb hts i_MD t_MD o_MD n_MD hown hK hP hD hS 0 rfl rfl 28 (by decide) (hts _ k5_48) (fun _ h9 => h9) rfl (by decide +kernel) rfl rfl (Nat.le_of_ble_eq_true rfl) d_MD_readRow_155 (fun H locs hP hD hS => ?_)
          have hP : va_P (dC, dI) vwCl (wd_MD g h0 q0 e0_155) H := by rw [he]; exact hP
          have hD : va_D A (wd_MD g h0 q0 e0_155) := by rw [he]; exact hD
          obtain rfl := Option.some.inj hm
          rw [hQ]
          exact krv hx hb hr hlocks hAe hP hK hD hS d_MD_readRow_158
      · replace hm := if_f hm hc
        refine lv_aload_n hx hb d_MD_readRow_88 rfl (lv_at hl 1 rfl) ?_
        refine lv_dup hx hb d_MD_readRow_89 rfl ?_
        refine va_get (D := (dC, dI)) (ci := 10) (v := .int (z0_82 16 0)) (C := "AlarmMatrixModel") (T := T_MD) (N := 42) hx hb hts i_MD hown hK hP 0 rfl rfl 16 (by decide) (hts _ k5_36) (fun _ h9 => h9) rfl d_MD_readRow_90 ?_
        refine lv_iconst (v := (1 : Int32)) hx hb d_MD_readRow_93 (by decide) ?_
        refine lv_iadd hx hb d_MD_readRow_94 ?_
        obtain ⟨e0_95, he, hm⟩ := lz_s hm
        refine va_put (D := (dC, dI)) (ci := 10) (v := .int ((z0_82 16 0) + (1 : Int32))) (ty := .int) (C := "AlarmMatrixModel") (T := T_MD) (N := 42) hx hb hts i_MD t_MD o_MD n_MD hown hK hP hD hS 0 rfl rfl 16 (by decide) (hts _ k5_36) (fun _ h9 => h9) rfl (by decide +kernel) rfl rfl (Nat.le_of_ble_eq_true rfl) d_MD_readRow_95 (fun H locs hP hD hS => ?_)
        have hP : va_P (dC, dI) vwCl (wd_MD g h0 q0 e0_95) H := by rw [he]; exact hP
        have hD : va_D A (wd_MD g h0 q0 e0_95) := by rw [he]; exact hD
        refine lv_aload_n hx hb d_MD_readRow_98 rfl (lv_at hl 1 rfl) ?_
        obtain ⟨z0_99, hcl, hm⟩ := bn1_s hm
        refine kcv (wc := wd_MD g h0 q0 e0_95) (wr := ([] : va_W)) (w1 := wd_MD g h0 q0 z0_99) hP hD hS hA [0, 1, 2, 3, 4, 5, 6, 7, 8, 9, 10, 11, 12, 13, 14, 15, 16, 17, 18, 19, 20, 21, 22, 23, 24, 25, 26, 27, 28, 29, 30, 31] [] rfl rfl (by decide) (by decide) (va_runV (As := []) (rest := []) ⟨hx, hb, hml, hown, hts⟩ (c_MD_takeStop hG hGn l dC dI g F H.size h0 q0 e0_95 hcl) (cwV 0 hts (gdV k6_13 k6_15 kp_38 k1_10 k6_16) rfl rfl rfl (by decide +kernel) ⟨Nat.le_of_ble_eq_true rfl, Nat.le_of_ble_eq_true rfl⟩) (kpV hG hP hK hD hS hA hGA [0, 1, 2, 3, 4, 5, 6, 7, 8, 9, 10, 11, 12, 13, 14, 15, 16, 17, 18, 19, 20, 21, 22, 23, 24, 25, 26, 27, 28, 29, 30, 31] (by decide) rfl (ci := 10) (q0 := 0) rfl rfl rfl) rfl rfl hl.1 rfl (lv_room (Nat.le_of_ble_eq_true rfl)) d_MD_readRow_99 ⟨Nat.le_of_ble_eq_true rfl, Nat.le_of_ble_eq_true rfl⟩) (fun H locs hP hD hS => ?_)
        have hP : va_P (dC, dI) vwCl (wd_MD g h0 q0 z0_99) H := hP
        have hD : va_D A (wd_MD g h0 q0 z0_99) := hD
        refine lv_aload_n hx hb d_MD_readRow_102 rfl (lv_at hl 1 rfl) ?_
        refine va_get (D := (dC, dI)) (ci := 10) (v := .int (z0_99 17 0)) (C := "AlarmMatrixModel") (T := T_MD) (N := 42) hx hb hts i_MD hown hK hP 0 rfl rfl 17 (by decide) (hts _ k5_37) (fun _ h9 => h9) rfl d_MD_readRow_103 ?_
        refine lv_if_ge (tgt := 158) hx hb d_MD_readRow_106 (by decide) (fun hc => ?_) (fun hc => ?_)
        · replace hm := if_t hm hc
          obtain rfl := Option.some.inj hm
          rw [hQ]
          exact krv hx hb hr hlocks hAe hP hK hD hS d_MD_readRow_158
        · replace hm := if_f hm hc
          refine lv_aload_n hx hb d_MD_readRow_109 rfl (lv_at hl 1 rfl) ?_
          refine va_get (D := (dC, dI)) (ci := 10) (v := .ref (q0 29)) (C := "AlarmMatrixModel") (T := T_MD) (N := 42) hx hb hts i_MD hown hK hP 0 rfl rfl 29 (by decide) (hts _ k5_49) (fun _ h9 => h9) rfl d_MD_readRow_110 ?_
          refine lv_bipush (v := (50 : Int32)) hx hb d_MD_readRow_113 (by decide) ?_
          refine lv_aload_n hx hb d_MD_readRow_115 rfl (lv_at hl 1 rfl) ?_
          refine va_get (D := (dC, dI)) (ci := 10) (v := .int (z0_99 28 0)) (C := "AlarmMatrixModel") (T := T_MD) (N := 42) hx hb hts i_MD hown hK hP 0 rfl rfl 28 (by decide) (hts _ k5_48) (fun _ h9 => h9) rfl d_MD_readRow_116 ?_
          refine lv_iadd hx hb d_MD_readRow_119 ?_
          refine lv_iload_n hx hb d_MD_readRow_120 rfl (lv_at hl 2 rfl) ?_
          obtain ⟨h_121, hm⟩ := ck_s hm
          obtain ⟨e0_121, he, hm⟩ := lz_s hm
          refine va_iast (f := (z0_99 29)) hx hb hK hP hD hS 21 0 rfl rfl h_121 d_MD_readRow_121 (fun H locs hP hD hS => ?_)
          have hP : va_P (dC, dI) vwCl (wd_MD g h0 q0 e0_121) H := by rw [he]; exact hP
          have hD : va_D A (wd_MD g h0 q0 e0_121) := by rw [he]; exact hD
          refine lv_aload_n hx hb d_MD_readRow_122 rfl (lv_at hl 1 rfl) ?_
          refine va_get (D := (dC, dI)) (ci := 10) (v := .ref (q0 30)) (C := "AlarmMatrixModel") (T := T_MD) (N := 42) hx hb hts i_MD hown hK hP 0 rfl rfl 30 (by decide) (hts _ k5_50) (fun _ h9 => h9) rfl d_MD_readRow_123 ?_
          refine lv_bipush (v := (50 : Int32)) hx hb d_MD_readRow_126 (by decide) ?_
          refine lv_aload_n hx hb d_MD_readRow_128 rfl (lv_at hl 1 rfl) ?_
          refine va_get (D := (dC, dI)) (ci := 10) (v := .int (e0_121 28 0)) (C := "AlarmMatrixModel") (T := T_MD) (N := 42) hx hb hts i_MD hown hK hP 0 rfl rfl 28 (by decide) (hts _ k5_48) (fun _ h9 => h9) rfl d_MD_readRow_129 ?_
          refine lv_iadd hx hb d_MD_readRow_132 ?_
          refine lv_iload_n hx hb d_MD_readRow_133 rfl (lv_at hl 3 rfl) ?_
          obtain ⟨h_134, hm⟩ := ck_s hm
          obtain ⟨e0_134, he, hm⟩ := lz_s hm
          refine va_iast (f := (e0_121 30)) hx hb hK hP hD hS 22 0 rfl rfl h_134 d_MD_readRow_134 (fun H locs hP hD hS => ?_)
          have hP : va_P (dC, dI) vwCl (wd_MD g h0 q0 e0_134) H := by rw [he]; exact hP
          have hD : va_D A (wd_MD g h0 q0 e0_134) := by rw [he]; exact hD
          refine lv_aload_n hx hb d_MD_readRow_135 rfl (lv_at hl 1 rfl) ?_
          refine va_get (D := (dC, dI)) (ci := 10) (v := .ref (q0 31)) (C := "AlarmMatrixModel") (T := T_MD) (N := 42) hx hb hts i_MD hown hK hP 0 rfl rfl 31 (by decide) (hts _ k5_51) (fun _ h9 => h9) rfl d_MD_readRow_136 ?_
          refine lv_bipush (v := (50 : Int32)) hx hb d_MD_readRow_139 (by decide) ?_
          refine lv_aload_n hx hb d_MD_readRow_141 rfl (lv_at hl 1 rfl) ?_
          refine va_get (D := (dC, dI)) (ci := 10) (v := .int (e0_134 28 0)) (C := "AlarmMatrixModel") (T := T_MD) (N := 42) hx hb hts i_MD hown hK hP 0 rfl rfl 28 (by decide) (hts _ k5_48) (fun _ h9 => h9) rfl d_MD_readRow_142 ?_
          refine lv_iadd hx hb d_MD_readRow_145 ?_
          refine lv_iload_n hx hb d_MD_readRow_146 rfl (lv_at hl 0 rfl) ?_
          obtain ⟨h_147, hm⟩ := ck_s hm
          obtain ⟨e0_147, he, hm⟩ := lz_s hm
          refine va_iast (f := (e0_134 31)) hx hb hK hP hD hS 23 0 rfl rfl h_147 d_MD_readRow_147 (fun H locs hP hD hS => ?_)
          have hP : va_P (dC, dI) vwCl (wd_MD g h0 q0 e0_147) H := by rw [he]; exact hP
          have hD : va_D A (wd_MD g h0 q0 e0_147) := by rw [he]; exact hD
          refine lv_aload_n hx hb d_MD_readRow_148 rfl (lv_at hl 1 rfl) ?_
          refine lv_dup hx hb d_MD_readRow_149 rfl ?_
          refine va_get (D := (dC, dI)) (ci := 10) (v := .int (e0_147 28 0)) (C := "AlarmMatrixModel") (T := T_MD) (N := 42) hx hb hts i_MD hown hK hP 0 rfl rfl 28 (by decide) (hts _ k5_48) (fun _ h9 => h9) rfl d_MD_readRow_150 ?_
          refine lv_iconst (v := (1 : Int32)) hx hb d_MD_readRow_153 (by decide) ?_
          refine lv_iadd hx hb d_MD_readRow_154 ?_
          obtain ⟨e0_155, he, hm⟩ := lz_s hm
          refine va_put (D := (dC, dI)) (ci := 10) (v := .int ((e0_147 28 0) + (1 : Int32))) (ty := .int) (C := "AlarmMatrixModel") (T := T_MD) (N := 42) hx hb hts i_MD t_MD o_MD n_MD hown hK hP hD hS 0 rfl rfl 28 (by decide) (hts _ k5_48) (fun _ h9 => h9) rfl (by decide +kernel) rfl rfl (Nat.le_of_ble_eq_true rfl) d_MD_readRow_155 (fun H locs hP hD hS => ?_)
          have hP : va_P (dC, dI) vwCl (wd_MD g h0 q0 e0_155) H := by rw [he]; exact hP
          have hD : va_D A (wd_MD g h0 q0 e0_155) := by rw [he]; exact hD
          obtain rfl := Option.some.inj hm
          rw [hQ]
          exact krv hx hb hr hlocks hAe hP hK hD hS d_MD_readRow_158
  refine lv_aload_n hx hb d_MD_readRow_0 rfl (lv_at hl 0 rfl) ?_
  refine lv_iconst (v := (-1 : Int32)) hx hb d_MD_readRow_1 (by decide) ?_
  obtain ⟨r2, z0_2, hcl, hm⟩ := bn2_s hm
  refine kci (wc := wd_MD g h0 q0 x0) (wr := ([] : va_W)) (w1 := wd_MD g h0 q0 z0_2) hP hD hS hA [0, 1, 2, 3, 4, 5, 6, 7, 8, 9, 10, 11, 12, 13, 14, 15, 16, 17, 18, 19, 20, 21, 22, 23, 24, 25, 26, 27, 28, 29, 30, 31] [] rfl rfl (by decide) (by decide) (va_runV (As := [.int (-1 : Int32)]) (rest := []) ⟨hx, hb, hml, hown, hts⟩ (c_MD_takeZone hG hGn l dC dI g F H.size h0 q0 x0 (-1 : Int32) hcl) (cwV 1 hts (gdV k6_21 k6_23 kp_40 k1_10 k6_24) rfl rfl rfl (by decide +kernel) ⟨Nat.le_of_ble_eq_true rfl, Nat.le_of_ble_eq_true rfl⟩) (kpV hG hP hK hD hS hA hGA [0, 1, 2, 3, 4, 5, 6, 7, 8, 9, 10, 11, 12, 13, 14, 15, 16, 17, 18, 19, 20, 21, 22, 23, 24, 25, 26, 27, 28, 29, 30, 31] (by decide) rfl (ci := 10) (q0 := 0) rfl rfl rfl) rfl rfl hl.1 rfl (lv_room (Nat.le_of_ble_eq_true rfl)) d_MD_readRow_2 ⟨Nat.le_of_ble_eq_true rfl, Nat.le_of_ble_eq_true rfl⟩) (fun H locs hP hD hS => ?_)
  have hP : va_P (dC, dI) vwCl (wd_MD g h0 q0 z0_2) H := hP
  have hD : va_D A (wd_MD g h0 q0 z0_2) := hD
  refine lv_istore_n (lv' := [(1, .int r2), (0, .ref h0)]) hx hb d_MD_readRow_5 rfl hl (by decide) rfl (fun ls hl => ?_)
  refine lv_iconst (v := (-1 : Int32)) hx hb d_MD_readRow_6 (by decide) ?_
  refine lv_istore_n (lv' := [(2, .int (-1 : Int32)), (1, .int r2), (0, .ref h0)]) hx hb d_MD_readRow_7 rfl hl (by decide) rfl (fun ls hl => ?_)
  refine lv_aload_n hx hb d_MD_readRow_8 rfl (lv_at hl 2 rfl) ?_
  refine va_get (D := (dC, dI)) (ci := 10) (v := .int (z0_2 17 0)) (C := "AlarmMatrixModel") (T := T_MD) (N := 42) hx hb hts i_MD hown hK hP 0 rfl rfl 17 (by decide) (hts _ k5_37) (fun _ h9 => h9) rfl d_MD_readRow_9 ?_
  refine lv_if_ge (tgt := 40) hx hb d_MD_readRow_12 (by decide) (fun hc => ?_) (fun hc => ?_)
  · replace hm := if_t hm hc
    refine lv_aload_n hx hb d_MD_readRow_40 rfl (lv_at hl 2 rfl) ?_
    refine lv_ldc (v := (628196 : Int32)) hx hb hown (hts _ k5_193) d_MD_readRow_41 ?_
    obtain ⟨z0_43, hcl, hm⟩ := bn1_s hm
    refine kcv (wc := wd_MD g h0 q0 z0_2) (wr := ([] : va_W)) (w1 := wd_MD g h0 q0 z0_43) hP hD hS hA [0, 1, 2, 3, 4, 5, 6, 7, 8, 9, 10, 11, 12, 13, 14, 15, 16, 17, 18, 19, 20, 21, 22, 23, 24, 25, 26, 27, 28, 29, 30, 31] [] rfl rfl (by decide) (by decide) (va_runV (As := [.int (628196 : Int32)]) (rest := []) ⟨hx, hb, hml, hown, hts⟩ (c_MD_take_0 hG hGn l dC dI g F H.size h0 q0 z0_2 (628196 : Int32) hcl) (cwV 1 hts (gdV k5_233 k5_235 kp_33 k1_10 k5_236) rfl rfl rfl (by decide +kernel) ⟨Nat.le_of_ble_eq_true rfl, Nat.le_of_ble_eq_true rfl⟩) (kpV hG hP hK hD hS hA hGA [0, 1, 2, 3, 4, 5, 6, 7, 8, 9, 10, 11, 12, 13, 14, 15, 16, 17, 18, 19, 20, 21, 22, 23, 24, 25, 26, 27, 28, 29, 30, 31] (by decide) rfl (ci := 10) (q0 := 0) rfl rfl rfl) rfl rfl hl.1 rfl (lv_room (Nat.le_of_ble_eq_true rfl)) d_MD_readRow_43 ⟨Nat.le_of_ble_eq_true rfl, Nat.le_of_ble_eq_true rfl⟩) (fun H locs hP hD hS => ?_)
    have hP : va_P (dC, dI) vwCl (wd_MD g h0 q0 z0_43) H := hP
    have hD : va_D A (wd_MD g h0 q0 z0_43) := hD
    refine lv_aload_n hx hb d_MD_readRow_46 rfl (lv_at hl 2 rfl) ?_
    refine va_get (D := (dC, dI)) (ci := 10) (v := .int (z0_43 17 0)) (C := "AlarmMatrixModel") (T := T_MD) (N := 42) hx hb hts i_MD hown hK hP 0 rfl rfl 17 (by decide) (hts _ k5_37) (fun _ h9 => h9) rfl d_MD_readRow_47 ?_
    refine lv_if_ge (tgt := 63) hx hb d_MD_readRow_50 (by decide) (fun hc => ?_) (fun hc => ?_)
    · replace hm := if_t hm hc
      refine lv_iconst (v := (-1 : Int32)) hx hb d_MD_readRow_63 (by decide) ?_
      exact J64 r2 (-1 : Int32) (-1 : Int32) z0_43 H locs ls hm hP hD hS (lv_sub hl [2, 1, 0] rfl)
    · replace hm := if_f hm hc
      refine lv_aload_n hx hb d_MD_readRow_53 rfl (lv_at hl 2 rfl) ?_
      refine lv_iconst (v := (0 : Int32)) hx hb d_MD_readRow_54 (by decide) ?_
      refine lv_bipush (v := (19 : Int32)) hx hb d_MD_readRow_55 (by decide) ?_
      obtain ⟨r57, z0_57, hcl, hm⟩ := bn2_s hm
      refine kci (wc := wd_MD g h0 q0 z0_43) (wr := ([] : va_W)) (w1 := wd_MD g h0 q0 z0_57) hP hD hS hA [0, 1, 2, 3, 4, 5, 6, 7, 8, 9, 10, 11, 12, 13, 14, 15, 16, 17, 18, 19, 20, 21, 22, 23, 24, 25, 26, 27, 28, 29, 30, 31] [] rfl rfl (by decide) (by decide) (va_runV (As := [.int (0 : Int32), .int (19 : Int32)]) (rest := []) ⟨hx, hb, hml, hown, hts⟩ (c_MD_look hG hGn l dC dI g F H.size h0 q0 z0_43 (0 : Int32) (19 : Int32) hcl) (cwV 2 hts (gdV k5_225 k5_227 kp_31 k1_10 k5_228) rfl rfl rfl (by decide +kernel) ⟨Nat.le_of_ble_eq_true rfl, Nat.le_of_ble_eq_true rfl⟩) (kpV hG hP hK hD hS hA hGA [0, 1, 2, 3, 4, 5, 6, 7, 8, 9, 10, 11, 12, 13, 14, 15, 16, 17, 18, 19, 20, 21, 22, 23, 24, 25, 26, 27, 28, 29, 30, 31] (by decide) rfl (ci := 10) (q0 := 0) rfl rfl rfl) rfl rfl hl.1 rfl (lv_room (Nat.le_of_ble_eq_true rfl)) d_MD_readRow_57 ⟨Nat.le_of_ble_eq_true rfl, Nat.le_of_ble_eq_true rfl⟩) (fun H locs hP hD hS => ?_)
      have hP : va_P (dC, dI) vwCl (wd_MD g h0 q0 z0_57) H := hP
      have hD : va_D A (wd_MD g h0 q0 z0_57) := hD
      refine lv_goto (tgt := 64) hx hb d_MD_readRow_60 (by decide) ?_
      exact J64 r2 (-1 : Int32) r57 z0_57 H locs ls hm hP hD hS (lv_sub hl [2, 1, 0] rfl)
  · replace hm := if_f hm hc
    refine lv_aload_n hx hb d_MD_readRow_15 rfl (lv_at hl 2 rfl) ?_
    refine lv_bipush (v := (38 : Int32)) hx hb d_MD_readRow_16 (by decide) ?_
    obtain ⟨r18, hcl, hm⟩ := bn1_s hm
    refine kci (wc := wd_MD g h0 q0 z0_2) (wr := ([] : va_W)) (w1 := wd_MD g h0 q0 z0_2) hP hD hS hA [0, 1, 2, 3, 4, 5, 6, 7, 8, 9, 10, 11, 12, 13, 14, 15, 16, 17, 18, 19, 20, 21, 22, 23, 24, 25, 26, 27, 28, 29, 30, 31] [] rfl rfl (by decide) (by decide) (va_runV (As := [.int (38 : Int32)]) (rest := []) ⟨hx, hb, hml, hown, hts⟩ (c_MD_isSign hG hGn l dC dI g F H.size h0 q0 z0_2 (38 : Int32) hcl) (cwV 1 hts (gdV k6_5 k6_7 kp_36 k1_10 k6_8) rfl rfl rfl (by decide +kernel) ⟨Nat.le_of_ble_eq_true rfl, Nat.le_of_ble_eq_true rfl⟩) (kpV hG hP hK hD hS hA hGA [0, 1, 2, 3, 4, 5, 6, 7, 8, 9, 10, 11, 12, 13, 14, 15, 16, 17, 18, 19, 20, 21, 22, 23, 24, 25, 26, 27, 28, 29, 30, 31] (by decide) rfl (ci := 10) (q0 := 0) rfl rfl rfl) rfl rfl hl.1 rfl (lv_room (Nat.le_of_ble_eq_true rfl)) d_MD_readRow_18 ⟨Nat.le_of_ble_eq_true rfl, Nat.le_of_ble_eq_true rfl⟩) (fun H locs hP hD hS => ?_)
    have hP : va_P (dC, dI) vwCl (wd_MD g h0 q0 z0_2) H := hP
    have hD : va_D A (wd_MD g h0 q0 z0_2) := hD
    refine lv_if_eq (tgt := 40) hx hb d_MD_readRow_21 (by decide) (fun hc => ?_) (fun hc => ?_)
    · replace hm := if_t hm hc
      refine lv_aload_n hx hb d_MD_readRow_40 rfl (lv_at hl 2 rfl) ?_
      refine lv_ldc (v := (628196 : Int32)) hx hb hown (hts _ k5_193) d_MD_readRow_41 ?_
      obtain ⟨z0_43, hcl, hm⟩ := bn1_s hm
      refine kcv (wc := wd_MD g h0 q0 z0_2) (wr := ([] : va_W)) (w1 := wd_MD g h0 q0 z0_43) hP hD hS hA [0, 1, 2, 3, 4, 5, 6, 7, 8, 9, 10, 11, 12, 13, 14, 15, 16, 17, 18, 19, 20, 21, 22, 23, 24, 25, 26, 27, 28, 29, 30, 31] [] rfl rfl (by decide) (by decide) (va_runV (As := [.int (628196 : Int32)]) (rest := []) ⟨hx, hb, hml, hown, hts⟩ (c_MD_take_0 hG hGn l dC dI g F H.size h0 q0 z0_2 (628196 : Int32) hcl) (cwV 1 hts (gdV k5_233 k5_235 kp_33 k1_10 k5_236) rfl rfl rfl (by decide +kernel) ⟨Nat.le_of_ble_eq_true rfl, Nat.le_of_ble_eq_true rfl⟩) (kpV hG hP hK hD hS hA hGA [0, 1, 2, 3, 4, 5, 6, 7, 8, 9, 10, 11, 12, 13, 14, 15, 16, 17, 18, 19, 20, 21, 22, 23, 24, 25, 26, 27, 28, 29, 30, 31] (by decide) rfl (ci := 10) (q0 := 0) rfl rfl rfl) rfl rfl hl.1 rfl (lv_room (Nat.le_of_ble_eq_true rfl)) d_MD_readRow_43 ⟨Nat.le_of_ble_eq_true rfl, Nat.le_of_ble_eq_true rfl⟩) (fun H locs hP hD hS => ?_)
      have hP : va_P (dC, dI) vwCl (wd_MD g h0 q0 z0_43) H := hP
      have hD : va_D A (wd_MD g h0 q0 z0_43) := hD
      refine lv_aload_n hx hb d_MD_readRow_46 rfl (lv_at hl 2 rfl) ?_
      refine va_get (D := (dC, dI)) (ci := 10) (v := .int (z0_43 17 0)) (C := "AlarmMatrixModel") (T := T_MD) (N := 42) hx hb hts i_MD hown hK hP 0 rfl rfl 17 (by decide) (hts _ k5_37) (fun _ h9 => h9) rfl d_MD_readRow_47 ?_
      refine lv_if_ge (tgt := 63) hx hb d_MD_readRow_50 (by decide) (fun hc => ?_) (fun hc => ?_)
      · replace hm := if_t hm hc
        refine lv_iconst (v := (-1 : Int32)) hx hb d_MD_readRow_63 (by decide) ?_
        exact J64 r2 (-1 : Int32) (-1 : Int32) z0_43 H locs ls hm hP hD hS (lv_sub hl [2, 1, 0] rfl)
      · replace hm := if_f hm hc
        refine lv_aload_n hx hb d_MD_readRow_53 rfl (lv_at hl 2 rfl) ?_
        refine lv_iconst (v := (0 : Int32)) hx hb d_MD_readRow_54 (by decide) ?_
        refine lv_bipush (v := (19 : Int32)) hx hb d_MD_readRow_55 (by decide) ?_
        obtain ⟨r57, z0_57, hcl, hm⟩ := bn2_s hm
        refine kci (wc := wd_MD g h0 q0 z0_43) (wr := ([] : va_W)) (w1 := wd_MD g h0 q0 z0_57) hP hD hS hA [0, 1, 2, 3, 4, 5, 6, 7, 8, 9, 10, 11, 12, 13, 14, 15, 16, 17, 18, 19, 20, 21, 22, 23, 24, 25, 26, 27, 28, 29, 30, 31] [] rfl rfl (by decide) (by decide) (va_runV (As := [.int (0 : Int32), .int (19 : Int32)]) (rest := []) ⟨hx, hb, hml, hown, hts⟩ (c_MD_look hG hGn l dC dI g F H.size h0 q0 z0_43 (0 : Int32) (19 : Int32) hcl) (cwV 2 hts (gdV k5_225 k5_227 kp_31 k1_10 k5_228) rfl rfl rfl (by decide +kernel) ⟨Nat.le_of_ble_eq_true rfl, Nat.le_of_ble_eq_true rfl⟩) (kpV hG hP hK hD hS hA hGA [0, 1, 2, 3, 4, 5, 6, 7, 8, 9, 10, 11, 12, 13, 14, 15, 16, 17, 18, 19, 20, 21, 22, 23, 24, 25, 26, 27, 28, 29, 30, 31] (by decide) rfl (ci := 10) (q0 := 0) rfl rfl rfl) rfl rfl hl.1 rfl (lv_room (Nat.le_of_ble_eq_true rfl)) d_MD_readRow_57 ⟨Nat.le_of_ble_eq_true rfl, Nat.le_of_ble_eq_true rfl⟩) (fun H locs hP hD hS => ?_)
        have hP : va_P (dC, dI) vwCl (wd_MD g h0 q0 z0_57) H := hP
        have hD : va_D A (wd_MD g h0 q0 z0_57) := hD
        refine lv_goto (tgt := 64) hx hb d_MD_readRow_60 (by decide) ?_
        exact J64 r2 (-1 : Int32) r57 z0_57 H locs ls hm hP hD hS (lv_sub hl [2, 1, 0] rfl)
    · replace hm := if_f hm hc
      refine lv_aload_n hx hb d_MD_readRow_24 rfl (lv_at hl 2 rfl) ?_
      refine lv_dup hx hb d_MD_readRow_25 rfl ?_
      refine va_get (D := (dC, dI)) (ci := 10) (v := .int (z0_2 16 0)) (C := "AlarmMatrixModel") (T := T_MD) (N := 42) hx hb hts i_MD hown hK hP 0 rfl rfl 16 (by decide) (hts _ k5_36) (fun _ h9 => h9) rfl d_MD_readRow_26 ?_
      refine lv_iconst (v := (1 : Int32)) hx hb d_MD_readRow_29 (by decide) ?_
      refine lv_iadd hx hb d_MD_readRow_30 ?_
      obtain ⟨e0_31, he, hm⟩ := lz_s hm
      refine va_put (D := (dC, dI)) (ci := 10) (v := .int ((z0_2 16 0) + (1 : Int32))) (ty := .int) (C := "AlarmMatrixModel") (T := T_MD) (N := 42) hx hb hts i_MD t_MD o_MD n_MD hown hK hP hD hS 0 rfl rfl 16 (by decide) (hts _ k5_36) (fun _ h9 => h9) rfl (by decide +kernel) rfl rfl (Nat.le_of_ble_eq_true rfl) d_MD_readRow_31 (fun H locs hP hD hS => ?_)
      have hP : va_P (dC, dI) vwCl (wd_MD g h0 q0 e0_31) H := by rw [he]; exact hP
      have hD : va_D A (wd_MD g h0 q0 e0_31) := by rw [he]; exact hD
      refine lv_aload_n hx hb d_MD_readRow_34 rfl (lv_at hl 2 rfl) ?_
      refine lv_iload_n hx hb d_MD_readRow_35 rfl (lv_at hl 1 rfl) ?_
      obtain ⟨r36, z0_36, hcl, hm⟩ := bn2_s hm
      refine kci (wc := wd_MD g h0 q0 e0_31) (wr := ([] : va_W)) (w1 := wd_MD g h0 q0 z0_36) hP hD hS hA [0, 1, 2, 3, 4, 5, 6, 7, 8, 9, 10, 11, 12, 13, 14, 15, 16, 17, 18, 19, 20, 21, 22, 23, 24, 25, 26, 27, 28, 29, 30, 31] [] rfl rfl (by decide) (by decide) (va_runV (As := [.int r2]) (rest := []) ⟨hx, hb, hml, hown, hts⟩ (c_MD_takeZone hG hGn l dC dI g F H.size h0 q0 e0_31 r2 hcl) (cwV 1 hts (gdV k6_21 k6_23 kp_40 k1_10 k6_24) rfl rfl rfl (by decide +kernel) ⟨Nat.le_of_ble_eq_true rfl, Nat.le_of_ble_eq_true rfl⟩) (kpV hG hP hK hD hS hA hGA [0, 1, 2, 3, 4, 5, 6, 7, 8, 9, 10, 11, 12, 13, 14, 15, 16, 17, 18, 19, 20, 21, 22, 23, 24, 25, 26, 27, 28, 29, 30, 31] (by decide) rfl (ci := 10) (q0 := 0) rfl rfl rfl) rfl rfl hl.1 rfl (lv_room (Nat.le_of_ble_eq_true rfl)) d_MD_readRow_36 ⟨Nat.le_of_ble_eq_true rfl, Nat.le_of_ble_eq_true rfl⟩) (fun H locs hP hD hS => ?_)
      have hP : va_P (dC, dI) vwCl (wd_MD g h0 q0 z0_36) H := hP
      have hD : va_D A (wd_MD g h0 q0 z0_36) := hD
      refine lv_istore_n (lv' := [(2, .int r36), (1, .int r2), (0, .ref h0)]) hx hb d_MD_readRow_39 rfl hl (by decide) rfl (fun ls hl => ?_)
      refine lv_aload_n hx hb d_MD_readRow_40 rfl (lv_at hl 2 rfl) ?_
      refine lv_ldc (v := (628196 : Int32)) hx hb hown (hts _ k5_193) d_MD_readRow_41 ?_
      obtain ⟨z0_43, hcl, hm⟩ := bn1_s hm
      refine kcv (wc := wd_MD g h0 q0 z0_36) (wr := ([] : va_W)) (w1 := wd_MD g h0 q0 z0_43) hP hD hS hA [0, 1, 2, 3, 4, 5, 6, 7, 8, 9, 10, 11, 12, 13, 14, 15, 16, 17, 18, 19, 20, 21, 22, 23, 24, 25, 26, 27, 28, 29, 30, 31] [] rfl rfl (by decide) (by decide) (va_runV (As := [.int (628196 : Int32)]) (rest := []) ⟨hx, hb, hml, hown, hts⟩ (c_MD_take_0 hG hGn l dC dI g F H.size h0 q0 z0_36 (628196 : Int32) hcl) (cwV 1 hts (gdV k5_233 k5_235 kp_33 k1_10 k5_236) rfl rfl rfl (by decide +kernel) ⟨Nat.le_of_ble_eq_true rfl, Nat.le_of_ble_eq_true rfl⟩) (kpV hG hP hK hD hS hA hGA [0, 1, 2, 3, 4, 5, 6, 7, 8, 9, 10, 11, 12, 13, 14, 15, 16, 17, 18, 19, 20, 21, 22, 23, 24, 25, 26, 27, 28, 29, 30, 31] (by decide) rfl (ci := 10) (q0 := 0) rfl rfl rfl) rfl rfl hl.1 rfl (lv_room (Nat.le_of_ble_eq_true rfl)) d_MD_readRow_43 ⟨Nat.le_of_ble_eq_true rfl, Nat.le_of_ble_eq_true rfl⟩) (fun H locs hP hD hS => ?_)
      have hP : va_P (dC, dI) vwCl (wd_MD g h0 q0 z0_43) H := hP
      have hD : va_D A (wd_MD g h0 q0 z0_43) := hD
      refine lv_aload_n hx hb d_MD_readRow_46 rfl (lv_at hl 2 rfl) ?_
      refine va_get (D := (dC, dI)) (ci := 10) (v := .int (z0_43 17 0)) (C := "AlarmMatrixModel") (T := T_MD) (N := 42) hx hb hts i_MD hown hK hP 0 rfl rfl 17 (by decide) (hts _ k5_37) (fun _ h9 => h9) rfl d_MD_readRow_47 ?_
      refine lv_if_ge (tgt := 63) hx hb d_MD_readRow_50 (by decide) (fun hc => ?_) (fun hc => ?_)
      · replace hm := if_t hm hc
        refine lv_iconst (v := (-1 : Int32)) hx hb d_MD_readRow_63 (by decide) ?_
        exact J64 r2 r36 (-1 : Int32) z0_43 H locs ls hm hP hD hS (lv_sub hl [2, 1, 0] rfl)
      · replace hm := if_f hm hc
        refine lv_aload_n hx hb d_MD_readRow_53 rfl (lv_at hl 2 rfl) ?_
        refine lv_iconst (v := (0 : Int32)) hx hb d_MD_readRow_54 (by decide) ?_
        refine lv_bipush (v := (19 : Int32)) hx hb d_MD_readRow_55 (by decide) ?_
        obtain ⟨r57, z0_57, hcl, hm⟩ := bn2_s hm
        refine kci (wc := wd_MD g h0 q0 z0_43) (wr := ([] : va_W)) (w1 := wd_MD g h0 q0 z0_57) hP hD hS hA [0, 1, 2, 3, 4, 5, 6, 7, 8, 9, 10, 11, 12, 13, 14, 15, 16, 17, 18, 19, 20, 21, 22, 23, 24, 25, 26, 27, 28, 29, 30, 31] [] rfl rfl (by decide) (by decide) (va_runV (As := [.int (0 : Int32), .int (19 : Int32)]) (rest := []) ⟨hx, hb, hml, hown, hts⟩ (c_MD_look hG hGn l dC dI g F H.size h0 q0 z0_43 (0 : Int32) (19 : Int32) hcl) (cwV 2 hts (gdV k5_225 k5_227 kp_31 k1_10 k5_228) rfl rfl rfl (by decide +kernel) ⟨Nat.le_of_ble_eq_true rfl, Nat.le_of_ble_eq_true rfl⟩) (kpV hG hP hK hD hS hA hGA [0, 1, 2, 3, 4, 5, 6, 7, 8, 9, 10, 11, 12, 13, 14, 15, 16, 17, 18, 19, 20, 21, 22, 23, 24, 25, 26, 27, 28, 29, 30, 31] (by decide) rfl (ci := 10) (q0 := 0) rfl rfl rfl) rfl rfl hl.1 rfl (lv_room (Nat.le_of_ble_eq_true rfl)) d_MD_readRow_57 ⟨Nat.le_of_ble_eq_true rfl, Nat.le_of_ble_eq_true rfl⟩) (fun H locs hP hD hS => ?_)
        have hP : va_P (dC, dI) vwCl (wd_MD g h0 q0 z0_57) H := hP
        have hD : va_D A (wd_MD g h0 q0 z0_57) := hD
        refine lv_goto (tgt := 64) hx hb d_MD_readRow_60 (by decide) ?_
        exact J64 r2 r36 r57 z0_57 H locs ls hm hP hD hS (lv_sub hl [2, 1, 0] rfl)
abbrev b_MD_readHold : ByteArray := prog_12_method_28_code
abbrev y_MD_readHold : MethodName := ⟨"AlarmMatrixModel", "readHold", "()V"⟩
theorem d_MD_readHold_0 : decode b_MD_readHold 0 = .ok (.aload_n 0, 1) := by decide +kernel
theorem d_MD_readHold_1 : decode b_MD_readHold 1 = .ok (.iconst 0, 1) := by decide +kernel
theorem d_MD_readHold_2 : decode b_MD_readHold 2 = .ok (.bipush 19, 2) := by decide +kernel
theorem d_MD_readHold_4 : decode b_MD_readHold 4 = .ok (.invokevirtual 177, 3) := by decide +kernel
theorem d_MD_readHold_7 : decode b_MD_readHold 7 = .ok (.istore_n 1, 1) := by decide +kernel
theorem d_MD_readHold_8 : decode b_MD_readHold 8 = .ok (.aload_n 0, 1) := by decide +kernel
theorem d_MD_readHold_9 : decode b_MD_readHold 9 = .ok (.getfield 163, 3) := by decide +kernel
theorem d_MD_readHold_12 : decode b_MD_readHold 12 = .ok (.ifCond .ge 49, 3) := by decide +kernel
theorem d_MD_readHold_15 : decode b_MD_readHold 15 = .ok (.aload_n 0, 1) := by decide +kernel
theorem d_MD_readHold_16 : decode b_MD_readHold 16 = .ok (.aload_n 0, 1) := by decide +kernel
theorem d_MD_readHold_17 : decode b_MD_readHold 17 = .ok (.getfield 56, 3) := by decide +kernel
theorem d_MD_readHold_20 : decode b_MD_readHold 20 = .ok (.bipush 20, 2) := by decide +kernel
theorem d_MD_readHold_22 : decode b_MD_readHold 22 = .ok (.iload_n 1, 1) := by decide +kernel
theorem d_MD_readHold_23 : decode b_MD_readHold 23 = .ok (.iadd, 1) := by decide +kernel
theorem d_MD_readHold_24 : decode b_MD_readHold 24 = .ok (.baload, 1) := by decide +kernel
theorem d_MD_readHold_25 : decode b_MD_readHold 25 = .ok (.ifCond .eq 19, 3) := by decide +kernel
theorem d_MD_readHold_28 : decode b_MD_readHold 28 = .ok (.aload_n 0, 1) := by decide +kernel
theorem d_MD_readHold_29 : decode b_MD_readHold 29 = .ok (.getfield 68, 3) := by decide +kernel
theorem d_MD_readHold_32 : decode b_MD_readHold 32 = .ok (.bipush 20, 2) := by decide +kernel
theorem d_MD_readHold_34 : decode b_MD_readHold 34 = .ok (.iload_n 1, 1) := by decide +kernel
theorem d_MD_readHold_35 : decode b_MD_readHold 35 = .ok (.iadd, 1) := by decide +kernel
theorem d_MD_readHold_36 : decode b_MD_readHold 36 = .ok (.baload, 1) := by decide +kernel
theorem d_MD_readHold_37 : decode b_MD_readHold 37 = .ok (.ifCond .ne 7, 3) := by decide +kernel
theorem d_MD_readHold_40 : decode b_MD_readHold 40 = .ok (.iconst 1, 1) := by decide +kernel
theorem d_MD_readHold_41 : decode b_MD_readHold 41 = .ok (.goto 4, 3) := by decide +kernel
theorem d_MD_readHold_44 : decode b_MD_readHold 44 = .ok (.iconst 0, 1) := by decide +kernel
theorem d_MD_readHold_45 : decode b_MD_readHold 45 = .ok (.invokevirtual 170, 3) := by decide +kernel
theorem d_MD_readHold_48 : decode b_MD_readHold 48 = .ok (.ifCond .eq 13, 3) := by decide +kernel
theorem d_MD_readHold_51 : decode b_MD_readHold 51 = .ok (.aload_n 0, 1) := by decide +kernel
theorem d_MD_readHold_52 : decode b_MD_readHold 52 = .ok (.dup, 1) := by decide +kernel
theorem d_MD_readHold_53 : decode b_MD_readHold 53 = .ok (.getfield 160, 3) := by decide +kernel
theorem d_MD_readHold_56 : decode b_MD_readHold 56 = .ok (.iconst 1, 1) := by decide +kernel
theorem d_MD_readHold_57 : decode b_MD_readHold 57 = .ok (.iadd, 1) := by decide +kernel
theorem d_MD_readHold_58 : decode b_MD_readHold 58 = .ok (.putfield 160, 3) := by decide +kernel
theorem d_MD_readHold_61 : decode b_MD_readHold 61 = .ok (.aload_n 0, 1) := by decide +kernel
theorem d_MD_readHold_62 : decode b_MD_readHold 62 = .ok (.invokevirtual 191, 3) := by decide +kernel
theorem d_MD_readHold_65 : decode b_MD_readHold 65 = .ok (.aload_n 0, 1) := by decide +kernel
theorem d_MD_readHold_66 : decode b_MD_readHold 66 = .ok (.getfield 163, 3) := by decide +kernel
theorem d_MD_readHold_69 : decode b_MD_readHold 69 = .ok (.ifCond .ge 13, 3) := by decide +kernel
theorem d_MD_readHold_72 : decode b_MD_readHold 72 = .ok (.aload_n 0, 1) := by decide +kernel
theorem d_MD_readHold_73 : decode b_MD_readHold 73 = .ok (.getfield 68, 3) := by decide +kernel
theorem d_MD_readHold_76 : decode b_MD_readHold 76 = .ok (.bipush 20, 2) := by decide +kernel
theorem d_MD_readHold_78 : decode b_MD_readHold 78 = .ok (.iload_n 1, 1) := by decide +kernel
theorem d_MD_readHold_79 : decode b_MD_readHold 79 = .ok (.iadd, 1) := by decide +kernel
theorem d_MD_readHold_80 : decode b_MD_readHold 80 = .ok (.iconst 1, 1) := by decide +kernel
theorem d_MD_readHold_81 : decode b_MD_readHold 81 = .ok (.bastore, 1) := by decide +kernel
theorem d_MD_readHold_82 : decode b_MD_readHold 82 = .ok (.return_, 1) := by decide +kernel
def m_MD_readHold_J61 (F : Nat)  (j1_61 : Int32) (t0_61 : St) : Option (St) :=
  (bn1 (m_MD_takeStop F t0_61) (fun z0_62 => (if (0 : Int32) ≤ (z0_62 17 0) then (some z0_62) else (ck ((20 : Int32) + j1_61) 40 (lz (st z0_62 26 (upd (z0_62 26) ((20 : Int32) + j1_61).toNatClampNeg (vp_nar .boolean (1 : Int32)))) (fun e0_81 => (some e0_81)))))))
theorem m_MD_readHold_J61_h {F : Nat}  {j1_61 : Int32} {t0_61 : St} {o : (St)} (h : m_MD_readHold_J61 F j1_61 t0_61 = some o) :
  (bn1 (m_MD_takeStop F t0_61) (fun z0_62 => (if (0 : Int32) ≤ (z0_62 17 0) then (some z0_62) else (ck ((20 : Int32) + j1_61) 40 (lz (st z0_62 26 (upd (z0_62 26) ((20 : Int32) + j1_61).toNatClampNeg (vp_nar .boolean (1 : Int32)))) (fun e0_81 => (some e0_81))))))) = some o := h
def m_MD_readHold (F : Nat) (x0 : St) : Option (St) :=
  (bn2 (m_MD_look F x0 (0 : Int32) (19 : Int32)) (fun r4 z0_4 => (if (0 : Int32) ≤ (z0_4 17 0) then (m_MD_readHold_J61 F   r4 z0_4) else (ck ((20 : Int32) + r4) 40 (if ((z0_4 22) ((20 : Int32) + r4).toNatClampNeg) = (0 : Int32) then (bn2 (m_MD_want F z0_4 (0 : Int32)) (fun r45 z0_45 => (if r45 = (0 : Int32) then (m_MD_readHold_J61 F   r4 z0_45) else (lz (sc z0_45 16 ((z0_45 16 0) + (1 : Int32))) (fun e0_58 => (m_MD_readHold_J61 F   r4 e0_58)))))) else (ck ((20 : Int32) + r4) 40 (if ((z0_4 26) ((20 : Int32) + r4).toNatClampNeg) = (0 : Int32) then (bn2 (m_MD_want F z0_4 (1 : Int32)) (fun r45 z0_45 => (if r45 = (0 : Int32) then (m_MD_readHold_J61 F   r4 z0_45) else (lz (sc z0_45 16 ((z0_45 16 0) + (1 : Int32))) (fun e0_58 => (m_MD_readHold_J61 F   r4 e0_58)))))) else (bn2 (m_MD_want F z0_4 (0 : Int32)) (fun r45 z0_45 => (if r45 = (0 : Int32) then (m_MD_readHold_J61 F   r4 z0_45) else (lz (sc z0_45 16 ((z0_45 16 0) + (1 : Int32))) (fun e0_58 => (m_MD_readHold_J61 F   r4 e0_58)))))))))))))
abbrev rm_MD_readHold : Room := { frames := 2, cells := 0, slots := 0, locals := 46 }
set_option maxHeartbeats 4000000 in
set_option maxRecDepth 100000 in
theorem c_MD_readHold {G : (Nat → Prop) → State → Prop} (hG : gok G) (hGn : gN G) (l : Launch) (dC : Nat → ClassId) (dI : Nat → Nat → Nat) (g : Nat → ClassId) (F : Nat) (sz : Nat) (h0 : Nat) (q0 : Nat → Nat) (x0 : St) {o : St} (hm : m_MD_readHold F x0 = some o) : Met l y_MD_readHold (.code y_MD_readHold b_MD_readHold 2 none :: gw) rm_MD_readHold (kq (dC, dI) vwCl (tyv g) G [.ref h0] sz (wd_MD g h0 q0 x0)) (kqv (dC, dI) vwCl (tyv g) (wd_MD g h0 q0 x0) (wd_MD g h0 q0 o) sz) 0 0 (va_A (wd_MD g h0 q0 x0) sz) := by
  unfold m_MD_readHold at hm
  refine km (Qc := fun sz => kqv (dC, dI) vwCl (tyv g) (wd_MD g h0 q0 x0) (wd_MD g h0 q0 o) sz) (cc := b_MD_readHold) (maxL := 2) (ret := none) (by decide) rfl (Nat.le_of_ble_eq_true rfl) ?_
  intro p e s m args below meth c Q hQ hx hb hr hts hown hlocks hml hnm H locs A hAe hA hP hK hD hS hGA ls hl
  have hl : lv_has ls 2 [(0, .ref h0)] := hl
  have hts : ∀ w ∈ gw, w.before args s = true := fun w h => hts w (List.mem_cons_of_mem _ h)
  have hown : s.vm.findClass "AlarmMatrixModel" = some m.cls := hown
  have J61 : ∀ (j1_61 : Int32) (t0_61 : St) (H : Heap) (locs : List Loc) (ls : Array Slot), m_MD_readHold_J61 F   j1_61 t0_61 = some o → va_P (dC, dI) vwCl (wd_MD g h0 q0 t0_61) H → va_D A (wd_MD g h0 q0 t0_61) → va_S A s.heap H locs → lv_has ls 2 [(0, .ref h0), (1, .int j1_61)] → W p l e rm_MD_readHold s m args below meth c H locs 0 0 Q (F0 m 61 ls []) := by
    intro j1_61 t0_61 H locs ls hm hP hD hS hl
    replace hm := m_MD_readHold_J61_h hm
    refine lv_aload_n hx hb d_MD_readHold_61 rfl (lv_at hl 0 rfl) ?_
    obtain ⟨z0_62, hcl, hm⟩ := bn1_s hm
    refine kcv (wc := wd_MD g h0 q0 t0_61) (wr := ([] : va_W)) (w1 := wd_MD g h0 q0 z0_62) hP hD hS hA [0, 1, 2, 3, 4, 5, 6, 7, 8, 9, 10, 11, 12, 13, 14, 15, 16, 17, 18, 19, 20, 21, 22, 23, 24, 25, 26, 27, 28, 29, 30, 31] [] rfl rfl (by decide) (by decide) (va_runV (As := []) (rest := []) ⟨hx, hb, hml, hown, hts⟩ (c_MD_takeStop hG hGn l dC dI g F H.size h0 q0 t0_61 hcl) (cwV 0 hts (gdV k6_13 k6_15 kp_38 k1_10 k6_16) rfl rfl rfl (by decide +kernel) ⟨Nat.le_of_ble_eq_true rfl, Nat.le_of_ble_eq_true rfl⟩) (kpV hG hP hK hD hS hA hGA [0, 1, 2, 3, 4, 5, 6, 7, 8, 9, 10, 11, 12, 13, 14, 15, 16, 17, 18, 19, 20, 21, 22, 23, 24, 25, 26, 27, 28, 29, 30, 31] (by decide) rfl (ci := 10) (q0 := 0) rfl rfl rfl) rfl rfl hl.1 rfl (lv_room (Nat.le_of_ble_eq_true rfl)) d_MD_readHold_62 ⟨Nat.le_of_ble_eq_true rfl, Nat.le_of_ble_eq_true rfl⟩) (fun H locs hP hD hS => ?_)
    have hP : va_P (dC, dI) vwCl (wd_MD g h0 q0 z0_62) H := hP
    have hD : va_D A (wd_MD g h0 q0 z0_62) := hD
    refine lv_aload_n hx hb d_MD_readHold_65 rfl (lv_at hl 0 rfl) ?_
    refine va_get (D := (dC, dI)) (ci := 10) (v := .int (z0_62 17 0)) (C := "AlarmMatrixModel") (T := T_MD) (N := 42) hx hb hts i_MD hown hK hP 0 rfl rfl 17 (by decide) (hts _ k5_37) (fun _ h9 => h9) rfl d_MD_readHold_66 ?_
    refine lv_if_ge (tgt := 82) hx hb d_MD_readHold_69 (by decide) (fun hc => ?_) (fun hc => ?_)
    · replace hm := if_t hm hc
      obtain rfl := Option.some.inj hm
      rw [hQ]
      exact krv hx hb hr hlocks hAe hP hK hD hS d_MD_readHold_82
    · replace hm := if_f hm hc
      refine lv_aload_n hx hb d_MD_readHold_72 rfl (lv_at hl 0 rfl) ?_
      refine va_get (D := (dC, dI)) (ci := 10) (v := .ref (q0 26)) (C := "AlarmMatrixModel") (T := T_MD) (N := 42) hx hb hts i_MD hown hK hP 0 rfl rfl 26 (by decide) (hts _ k5_46) (fun _ h9 => h9) rfl d_MD_readHold_73 ?_
      refine lv_bipush (v := (20 : Int32)) hx hb d_MD_readHold_76 (by decide) ?_
      refine lv_iload_n hx hb d_MD_readHold_78 rfl (lv_at hl 1 rfl) ?_
      refine lv_iadd hx hb d_MD_readHold_79 ?_
      refine lv_iconst (v := (1 : Int32)) hx hb d_MD_readHold_80 (by decide) ?_
      obtain ⟨h_81, hm⟩ := ck_s hm
      obtain ⟨e0_81, he, hm⟩ := lz_s hm
      refine va_zast (f := (z0_62 26)) hx hb hK hP hD hS 20 1 rfl rfl h_81 d_MD_readHold_81 (fun H locs hP hD hS => ?_)
      have hP : va_P (dC, dI) vwCl (wd_MD g h0 q0 e0_81) H := by rw [he]; exact hP
      have hD : va_D A (wd_MD g h0 q0 e0_81) := by rw [he]; exact hD
      obtain rfl := Option.some.inj hm
      rw [hQ]
      exact krv hx hb hr hlocks hAe hP hK hD hS d_MD_readHold_82
  refine lv_aload_n hx hb d_MD_readHold_0 rfl (lv_at hl 0 rfl) ?_
  refine lv_iconst (v := (0 : Int32)) hx hb d_MD_readHold_1 (by decide) ?_
  refine lv_bipush (v := (19 : Int32)) hx hb d_MD_readHold_2 (by decide) ?_
  obtain ⟨r4, z0_4, hcl, hm⟩ := bn2_s hm
  refine kci (wc := wd_MD g h0 q0 x0) (wr := ([] : va_W)) (w1 := wd_MD g h0 q0 z0_4) hP hD hS hA [0, 1, 2, 3, 4, 5, 6, 7, 8, 9, 10, 11, 12, 13, 14, 15, 16, 17, 18, 19, 20, 21, 22, 23, 24, 25, 26, 27, 28, 29, 30, 31] [] rfl rfl (by decide) (by decide) (va_runV (As := [.int (0 : Int32), .int (19 : Int32)]) (rest := []) ⟨hx, hb, hml, hown, hts⟩ (c_MD_look hG hGn l dC dI g F H.size h0 q0 x0 (0 : Int32) (19 : Int32) hcl) (cwV 2 hts (gdV k5_225 k5_227 kp_31 k1_10 k5_228) rfl rfl rfl (by decide +kernel) ⟨Nat.le_of_ble_eq_true rfl, Nat.le_of_ble_eq_true rfl⟩) (kpV hG hP hK hD hS hA hGA [0, 1, 2, 3, 4, 5, 6, 7, 8, 9, 10, 11, 12, 13, 14, 15, 16, 17, 18, 19, 20, 21, 22, 23, 24, 25, 26, 27, 28, 29, 30, 31] (by decide) rfl (ci := 10) (q0 := 0) rfl rfl rfl) rfl rfl hl.1 rfl (lv_room (Nat.le_of_ble_eq_true rfl)) d_MD_readHold_4 ⟨Nat.le_of_ble_eq_true rfl, Nat.le_of_ble_eq_true rfl⟩) (fun H locs hP hD hS => ?_)
  have hP : va_P (dC, dI) vwCl (wd_MD g h0 q0 z0_4) H := hP
  have hD : va_D A (wd_MD g h0 q0 z0_4) := hD
  refine lv_istore_n (lv' := [(1, .int r4), (0, .ref h0)]) hx hb d_MD_readHold_7 rfl hl (by decide) rfl (fun ls hl => ?_)
  refine lv_aload_n hx hb d_MD_readHold_8 rfl (lv_at hl 1 rfl) ?_
  refine va_get (D := (dC, dI)) (ci := 10) (v := .int (z0_4 17 0)) (C := "AlarmMatrixModel") (T := T_MD) (N := 42) hx hb hts i_MD hown hK hP 0 rfl rfl 17 (by decide) (hts _ k5_37) (fun _ h9 => h9) rfl d_MD_readHold_9 ?_
  refine lv_if_ge (tgt := 61) hx hb d_MD_readHold_12 (by decide) (fun hc => ?_) (fun hc => ?_)
  · replace hm := if_t hm hc
    exact J61 r4 z0_4 H locs ls hm hP hD hS (lv_sub hl [1, 0] rfl)
  · replace hm := if_f hm hc
    refine lv_aload_n hx hb d_MD_readHold_15 rfl (lv_at hl 1 rfl) ?_
    refine lv_aload_n hx hb d_MD_readHold_16 rfl (lv_at hl 1 rfl) ?_
    refine va_get (D := (dC, dI)) (ci := 10) (v := .ref (q0 22)) (C := "AlarmMatrixModel") (T := T_MD) (N := 42) hx hb hts i_MD hown hK hP 0 rfl rfl 22 (by decide) (hts _ k5_42) (fun _ h9 => h9) rfl d_MD_readHold_17 ?_
    refine lv_bipush (v := (20 : Int32)) hx hb d_MD_readHold_20 (by decide) ?_
    refine lv_iload_n hx hb d_MD_readHold_22 rfl (lv_at hl 0 rfl) ?_
    refine lv_iadd hx hb d_MD_readHold_23 ?_
    obtain ⟨h_24, hm⟩ := ck_s hm
    refine va_zald (f := (z0_4 22)) hx hb hK hP 16 1 rfl rfl h_24 d_MD_readHold_24 ?_
    refine lv_if_eq (tgt := 44) hx hb d_MD_readHold_25 (by decide) (fun hc => ?_) (fun hc => ?_)
    · replace hm := if_t hm hc
      refine lv_iconst (v := (0 : Int32)) hx hb d_MD_readHold_44 (by decide) ?_
      obtain ⟨r45, z0_45, hcl, hm⟩ := bn2_s hm
      refine kci (wc := wd_MD g h0 q0 z0_4) (wr := ([] : va_W)) (w1 := wd_MD g h0 q0 z0_45) hP hD hS hA [0, 1, 2, 3, 4, 5, 6, 7, 8, 9, 10, 11, 12, 13, 14, 15, 16, 17, 18, 19, 20, 21, 22, 23, 24, 25, 26, 27, 28, 29, 30, 31] [] rfl rfl (by decide) (by decide) (va_runV (As := [.int (0 : Int32)]) (rest := []) ⟨hx, hb, hml, hown, hts⟩ (c_MD_want hG hGn l dC dI g F H.size h0 q0 z0_4 (0 : Int32) hcl) (cwV 1 hts (gdV k5_229 k5_231 kp_32 k1_10 k5_232) rfl rfl rfl (by decide +kernel) ⟨Nat.le_of_ble_eq_true rfl, Nat.le_of_ble_eq_true rfl⟩) (kpV hG hP hK hD hS hA hGA [0, 1, 2, 3, 4, 5, 6, 7, 8, 9, 10, 11, 12, 13, 14, 15, 16, 17, 18, 19, 20, 21, 22, 23, 24, 25, 26, 27, 28, 29, 30, 31] (by decide) rfl (ci := 10) (q0 := 0) rfl rfl rfl) rfl rfl hl.1 rfl (lv_room (Nat.le_of_ble_eq_true rfl)) d_MD_readHold_45 ⟨Nat.le_of_ble_eq_true rfl, Nat.le_of_ble_eq_true rfl⟩) (fun H locs hP hD hS => ?_)
      have hP : va_P (dC, dI) vwCl (wd_MD g h0 q0 z0_45) H := hP
      have hD : va_D A (wd_MD g h0 q0 z0_45) := hD
      refine lv_if_eq (tgt := 61) hx hb d_MD_readHold_48 (by decide) (fun hc => ?_) (fun hc => ?_)
      · replace hm := if_t hm hc
        exact J61 r4 z0_45 H locs ls hm hP hD hS (lv_sub hl [1, 0] rfl)
      · replace hm := if_f hm hc
        refine lv_aload_n hx hb d_MD_readHold_51 rfl (lv_at hl 1 rfl) ?_
        refine lv_dup hx hb d_MD_readHold_52 rfl ?_
        refine va_get (D := (dC, dI)) (ci := 10) (v := .int (z0_45 16 0)) (C := "AlarmMatrixModel") (T := T_MD) (N := 42) hx hb hts i_MD hown hK hP 0 rfl rfl 16 (by decide) (hts _ k5_36) (fun _ h9 => h9) rfl d_MD_readHold_53 ?_
        refine lv_iconst (v := (1 : Int32)) hx hb d_MD_readHold_56 (by decide) ?_
        refine lv_iadd hx hb d_MD_readHold_57 ?_
        obtain ⟨e0_58, he, hm⟩ := lz_s hm
        refine va_put (D := (dC, dI)) (ci := 10) (v := .int ((z0_45 16 0) + (1 : Int32))) (ty := .int) (C := "AlarmMatrixModel") (T := T_MD) (N := 42) hx hb hts i_MD t_MD o_MD n_MD hown hK hP hD hS 0 rfl rfl 16 (by decide) (hts _ k5_36) (fun _ h9 => h9) rfl (by decide +kernel) rfl rfl (Nat.le_of_ble_eq_true rfl) d_MD_readHold_58 (fun H locs hP hD hS => ?_)
        have hP : va_P (dC, dI) vwCl (wd_MD g h0 q0 e0_58) H := by rw [he]; exact hP
        have hD : va_D A (wd_MD g h0 q0 e0_58) := by rw [he]; exact hD
        exact J61 r4 e0_58 H locs ls hm hP hD hS (lv_sub hl [1, 0] rfl)
    · replace hm := if_f hm hc
      refine lv_aload_n hx hb d_MD_readHold_28 rfl (lv_at hl 1 rfl) ?_
      refine va_get (D := (dC, dI)) (ci := 10) (v := .ref (q0 26)) (C := "AlarmMatrixModel") (T := T_MD) (N := 42) hx hb hts i_MD hown hK hP 0 rfl rfl 26 (by decide) (hts _ k5_46) (fun _ h9 => h9) rfl d_MD_readHold_29 ?_
      refine lv_bipush (v := (20 : Int32)) hx hb d_MD_readHold_32 (by decide) ?_
      refine lv_iload_n hx hb d_MD_readHold_34 rfl (lv_at hl 0 rfl) ?_
      refine lv_iadd hx hb d_MD_readHold_35 ?_
      obtain ⟨h_36, hm⟩ := ck_s hm
      refine va_zald (f := (z0_4 26)) hx hb hK hP 20 1 rfl rfl h_36 d_MD_readHold_36 ?_
      refine lv_if_ne (tgt := 44) hx hb d_MD_readHold_37 (by decide) (fun hc => ?_) (fun hc => ?_)
      · replace hm := if_f hm hc
        refine lv_iconst (v := (0 : Int32)) hx hb d_MD_readHold_44 (by decide) ?_
        obtain ⟨r45, z0_45, hcl, hm⟩ := bn2_s hm
        refine kci (wc := wd_MD g h0 q0 z0_4) (wr := ([] : va_W)) (w1 := wd_MD g h0 q0 z0_45) hP hD hS hA [0, 1, 2, 3, 4, 5, 6, 7, 8, 9, 10, 11, 12, 13, 14, 15, 16, 17, 18, 19, 20, 21, 22, 23, 24, 25, 26, 27, 28, 29, 30, 31] [] rfl rfl (by decide) (by decide) (va_runV (As := [.int (0 : Int32)]) (rest := []) ⟨hx, hb, hml, hown, hts⟩ (c_MD_want hG hGn l dC dI g F H.size h0 q0 z0_4 (0 : Int32) hcl) (cwV 1 hts (gdV k5_229 k5_231 kp_32 k1_10 k5_232) rfl rfl rfl (by decide +kernel) ⟨Nat.le_of_ble_eq_true rfl, Nat.le_of_ble_eq_true rfl⟩) (kpV hG hP hK hD hS hA hGA [0, 1, 2, 3, 4, 5, 6, 7, 8, 9, 10, 11, 12, 13, 14, 15, 16, 17, 18, 19, 20, 21, 22, 23, 24, 25, 26, 27, 28, 29, 30, 31] (by decide) rfl (ci := 10) (q0 := 0) rfl rfl rfl) rfl rfl hl.1 rfl (lv_room (Nat.le_of_ble_eq_true rfl)) d_MD_readHold_45 ⟨Nat.le_of_ble_eq_true rfl, Nat.le_of_ble_eq_true rfl⟩) (fun H locs hP hD hS => ?_)
        have hP : va_P (dC, dI) vwCl (wd_MD g h0 q0 z0_45) H := hP
        have hD : va_D A (wd_MD g h0 q0 z0_45) := hD
        refine lv_if_eq (tgt := 61) hx hb d_MD_readHold_48 (by decide) (fun hc => ?_) (fun hc => ?_)
        · replace hm := if_t hm hc
          exact J61 r4 z0_45 H locs ls hm hP hD hS (lv_sub hl [1, 0] rfl)
        · replace hm := if_f hm hc
          refine lv_aload_n hx hb d_MD_readHold_51 rfl (lv_at hl 1 rfl) ?_
          refine lv_dup hx hb d_MD_readHold_52 rfl ?_
          refine va_get (D := (dC, dI)) (ci := 10) (v := .int (z0_45 16 0)) (C := "AlarmMatrixModel") (T := T_MD) (N := 42) hx hb hts i_MD hown hK hP 0 rfl rfl 16 (by decide) (hts _ k5_36) (fun _ h9 => h9) rfl d_MD_readHold_53 ?_
          refine lv_iconst (v := (1 : Int32)) hx hb d_MD_readHold_56 (by decide) ?_
          refine lv_iadd hx hb d_MD_readHold_57 ?_
          obtain ⟨e0_58, he, hm⟩ := lz_s hm
          refine va_put (D := (dC, dI)) (ci := 10) (v := .int ((z0_45 16 0) + (1 : Int32))) (ty := .int) (C := "AlarmMatrixModel") (T := T_MD) (N := 42) hx hb hts i_MD t_MD o_MD n_MD hown hK hP hD hS 0 rfl rfl 16 (by decide) (hts _ k5_36) (fun _ h9 => h9) rfl (by decide +kernel) rfl rfl (Nat.le_of_ble_eq_true rfl) d_MD_readHold_58 (fun H locs hP hD hS => ?_)
          have hP : va_P (dC, dI) vwCl (wd_MD g h0 q0 e0_58) H := by rw [he]; exact hP
          have hD : va_D A (wd_MD g h0 q0 e0_58) := by rw [he]; exact hD
          exact J61 r4 e0_58 H locs ls hm hP hD hS (lv_sub hl [1, 0] rfl)
      · replace hm := if_t hm hc
        refine lv_iconst (v := (1 : Int32)) hx hb d_MD_readHold_40 (by decide) ?_
        refine lv_goto (tgt := 45) hx hb d_MD_readHold_41 (by decide) ?_
        obtain ⟨r45, z0_45, hcl, hm⟩ := bn2_s hm
        refine kci (wc := wd_MD g h0 q0 z0_4) (wr := ([] : va_W)) (w1 := wd_MD g h0 q0 z0_45) hP hD hS hA [0, 1, 2, 3, 4, 5, 6, 7, 8, 9, 10, 11, 12, 13, 14, 15, 16, 17, 18, 19, 20, 21, 22, 23, 24, 25, 26, 27, 28, 29, 30, 31] [] rfl rfl (by decide) (by decide) (va_runV (As := [.int (1 : Int32)]) (rest := []) ⟨hx, hb, hml, hown, hts⟩ (c_MD_want hG hGn l dC dI g F H.size h0 q0 z0_4 (1 : Int32) hcl) (cwV 1 hts (gdV k5_229 k5_231 kp_32 k1_10 k5_232) rfl rfl rfl (by decide +kernel) ⟨Nat.le_of_ble_eq_true rfl, Nat.le_of_ble_eq_true rfl⟩) (kpV hG hP hK hD hS hA hGA [0, 1, 2, 3, 4, 5, 6, 7, 8, 9, 10, 11, 12, 13, 14, 15, 16, 17, 18, 19, 20, 21, 22, 23, 24, 25, 26, 27, 28, 29, 30, 31] (by decide) rfl (ci := 10) (q0 := 0) rfl rfl rfl) rfl rfl hl.1 rfl (lv_room (Nat.le_of_ble_eq_true rfl)) d_MD_readHold_45 ⟨Nat.le_of_ble_eq_true rfl, Nat.le_of_ble_eq_true rfl⟩) (fun H locs hP hD hS => ?_)
        have hP : va_P (dC, dI) vwCl (wd_MD g h0 q0 z0_45) H := hP
        have hD : va_D A (wd_MD g h0 q0 z0_45) := hD
        refine lv_if_eq (tgt := 61) hx hb d_MD_readHold_48 (by decide) (fun hc => ?_) (fun hc => ?_)
        · replace hm := if_t hm hc
          exact J61 r4 z0_45 H locs ls hm hP hD hS (lv_sub hl [1, 0] rfl)
        · replace hm := if_f hm hc
          refine lv_aload_n hx hb d_MD_readHold_51 rfl (lv_at hl 1 rfl) ?_
          refine lv_dup hx hb d_MD_readHold_52 rfl ?_
          refine va_get (D := (dC, dI)) (ci := 10) (v := .int (z0_45 16 0)) (C := "AlarmMatrixModel") (T := T_MD) (N := 42) hx hb hts i_MD hown hK hP 0 rfl rfl 16 (by decide) (hts _ k5_36) (fun _ h9 => h9) rfl d_MD_readHold_53 ?_
          refine lv_iconst (v := (1 : Int32)) hx hb d_MD_readHold_56 (by decide) ?_
          refine lv_iadd hx hb d_MD_readHold_57 ?_
          obtain ⟨e0_58, he, hm⟩ := lz_s hm
          refine va_put (D := (dC, dI)) (ci := 10) (v := .int ((z0_45 16 0) + (1 : Int32))) (ty := .int) (C := "AlarmMatrixModel") (T := T_MD) (N := 42) hx hb hts i_MD t_MD o_MD n_MD hown hK hP hD hS 0 rfl rfl 16 (by decide) (hts _ k5_36) (fun _ h9 => h9) rfl (by decide +kernel) rfl rfl (Nat.le_of_ble_eq_true rfl) d_MD_readHold_58 (fun H locs hP hD hS => ?_)
          have hP : va_P (dC, dI) vwCl (wd_MD g h0 q0 e0_58) H := by rw [he]; exact hP
          have hD : va_D A (wd_MD g h0 q0 e0_58) := by rw [he]; exact hD
          exact J61 r4 e0_58 H locs ls hm hP hD hS (lv_sub hl [1, 0] rfl)
abbrev b_MD_readSentence : ByteArray := prog_12_method_29_code
abbrev y_MD_readSentence : MethodName := ⟨"AlarmMatrixModel", "readSentence", "()V"⟩
theorem d_MD_readSentence_0 : decode b_MD_readSentence 0 = .ok (.aload_n 0, 1) := by decide +kernel
theorem d_MD_readSentence_1 : decode b_MD_readSentence 1 = .ok (.invokevirtual 166, 3) := by decide +kernel
theorem d_MD_readSentence_4 : decode b_MD_readSentence 4 = .ok (.istore_n 1, 1) := by decide +kernel
theorem d_MD_readSentence_5 : decode b_MD_readSentence 5 = .ok (.iload_n 1, 1) := by decide +kernel
theorem d_MD_readSentence_6 : decode b_MD_readSentence 6 = .ok (.ldc 136, 2) := by decide +kernel
theorem d_MD_readSentence_8 : decode b_MD_readSentence 8 = .ok (.if_icmp .ne 20, 3) := by decide +kernel
theorem d_MD_readSentence_11 : decode b_MD_readSentence 11 = .ok (.aload_n 0, 1) := by decide +kernel
theorem d_MD_readSentence_12 : decode b_MD_readSentence 12 = .ok (.dup, 1) := by decide +kernel
theorem d_MD_readSentence_13 : decode b_MD_readSentence 13 = .ok (.getfield 160, 3) := by decide +kernel
theorem d_MD_readSentence_16 : decode b_MD_readSentence 16 = .ok (.iconst 1, 1) := by decide +kernel
theorem d_MD_readSentence_17 : decode b_MD_readSentence 17 = .ok (.iadd, 1) := by decide +kernel
theorem d_MD_readSentence_18 : decode b_MD_readSentence 18 = .ok (.putfield 160, 3) := by decide +kernel
theorem d_MD_readSentence_21 : decode b_MD_readSentence 21 = .ok (.aload_n 0, 1) := by decide +kernel
theorem d_MD_readSentence_22 : decode b_MD_readSentence 22 = .ok (.invokevirtual 200, 3) := by decide +kernel
theorem d_MD_readSentence_25 : decode b_MD_readSentence 25 = .ok (.goto 88, 3) := by decide +kernel
theorem d_MD_readSentence_28 : decode b_MD_readSentence 28 = .ok (.iload_n 1, 1) := by decide +kernel
theorem d_MD_readSentence_29 : decode b_MD_readSentence 29 = .ok (.sipush 20577, 3) := by decide +kernel
theorem d_MD_readSentence_32 : decode b_MD_readSentence 32 = .ok (.if_icmp .ne 20, 3) := by decide +kernel
theorem d_MD_readSentence_35 : decode b_MD_readSentence 35 = .ok (.aload_n 0, 1) := by decide +kernel
theorem d_MD_readSentence_36 : decode b_MD_readSentence 36 = .ok (.dup, 1) := by decide +kernel
theorem d_MD_readSentence_37 : decode b_MD_readSentence 37 = .ok (.getfield 160, 3) := by decide +kernel
theorem d_MD_readSentence_40 : decode b_MD_readSentence 40 = .ok (.iconst 1, 1) := by decide +kernel
theorem d_MD_readSentence_41 : decode b_MD_readSentence 41 = .ok (.iadd, 1) := by decide +kernel
theorem d_MD_readSentence_42 : decode b_MD_readSentence 42 = .ok (.putfield 160, 3) := by decide +kernel
theorem d_MD_readSentence_45 : decode b_MD_readSentence 45 = .ok (.aload_n 0, 1) := by decide +kernel
theorem d_MD_readSentence_46 : decode b_MD_readSentence 46 = .ok (.invokevirtual 203, 3) := by decide +kernel
theorem d_MD_readSentence_49 : decode b_MD_readSentence 49 = .ok (.goto 64, 3) := by decide +kernel
theorem d_MD_readSentence_52 : decode b_MD_readSentence 52 = .ok (.iload_n 1, 1) := by decide +kernel
theorem d_MD_readSentence_53 : decode b_MD_readSentence 53 = .ok (.ldc 138, 2) := by decide +kernel
theorem d_MD_readSentence_55 : decode b_MD_readSentence 55 = .ok (.if_icmp .ne 41, 3) := by decide +kernel
theorem d_MD_readSentence_58 : decode b_MD_readSentence 58 = .ok (.aload_n 0, 1) := by decide +kernel
theorem d_MD_readSentence_59 : decode b_MD_readSentence 59 = .ok (.aload_n 0, 1) := by decide +kernel
theorem d_MD_readSentence_60 : decode b_MD_readSentence 60 = .ok (.getfield 197, 3) := by decide +kernel
theorem d_MD_readSentence_63 : decode b_MD_readSentence 63 = .ok (.bipush 50, 2) := by decide +kernel
theorem d_MD_readSentence_65 : decode b_MD_readSentence 65 = .ok (.if_icmp .ge 7, 3) := by decide +kernel
theorem d_MD_readSentence_68 : decode b_MD_readSentence 68 = .ok (.iconst 1, 1) := by decide +kernel
theorem d_MD_readSentence_69 : decode b_MD_readSentence 69 = .ok (.goto 4, 3) := by decide +kernel
theorem d_MD_readSentence_72 : decode b_MD_readSentence 72 = .ok (.iconst 0, 1) := by decide +kernel
theorem d_MD_readSentence_73 : decode b_MD_readSentence 73 = .ok (.invokevirtual 170, 3) := by decide +kernel
theorem d_MD_readSentence_76 : decode b_MD_readSentence 76 = .ok (.ifCond .eq 37, 3) := by decide +kernel
theorem d_MD_readSentence_79 : decode b_MD_readSentence 79 = .ok (.aload_n 0, 1) := by decide +kernel
theorem d_MD_readSentence_80 : decode b_MD_readSentence 80 = .ok (.dup, 1) := by decide +kernel
theorem d_MD_readSentence_81 : decode b_MD_readSentence 81 = .ok (.getfield 160, 3) := by decide +kernel
theorem d_MD_readSentence_84 : decode b_MD_readSentence 84 = .ok (.iconst 1, 1) := by decide +kernel
theorem d_MD_readSentence_85 : decode b_MD_readSentence 85 = .ok (.iadd, 1) := by decide +kernel
theorem d_MD_readSentence_86 : decode b_MD_readSentence 86 = .ok (.putfield 160, 3) := by decide +kernel
theorem d_MD_readSentence_89 : decode b_MD_readSentence 89 = .ok (.aload_n 0, 1) := by decide +kernel
theorem d_MD_readSentence_90 : decode b_MD_readSentence 90 = .ok (.invokevirtual 206, 3) := by decide +kernel
theorem d_MD_readSentence_93 : decode b_MD_readSentence 93 = .ok (.goto 20, 3) := by decide +kernel
theorem d_MD_readSentence_96 : decode b_MD_readSentence 96 = .ok (.aload_n 0, 1) := by decide +kernel
theorem d_MD_readSentence_97 : decode b_MD_readSentence 97 = .ok (.ldc 137, 2) := by decide +kernel
theorem d_MD_readSentence_99 : decode b_MD_readSentence 99 = .ok (.invokevirtual 181, 3) := by decide +kernel
theorem d_MD_readSentence_102 : decode b_MD_readSentence 102 = .ok (.aload_n 0, 1) := by decide +kernel
theorem d_MD_readSentence_103 : decode b_MD_readSentence 103 = .ok (.getfield 163, 3) := by decide +kernel
theorem d_MD_readSentence_106 : decode b_MD_readSentence 106 = .ok (.ifCond .ge 7, 3) := by decide +kernel
theorem d_MD_readSentence_109 : decode b_MD_readSentence 109 = .ok (.aload_n 0, 1) := by decide +kernel
theorem d_MD_readSentence_110 : decode b_MD_readSentence 110 = .ok (.invokevirtual 209, 3) := by decide +kernel
theorem d_MD_readSentence_113 : decode b_MD_readSentence 113 = .ok (.return_, 1) := by decide +kernel
def m_MD_readSentence (F : Nat) (x0 : St) : Option (St) :=
  (bn1 (m_MD_letters F x0) (fun r1 => (if r1 = (178682 : Int32) then (lz (sc x0 16 ((x0 16 0) + (1 : Int32))) (fun e0_18 => (bn1 (m_MD_readZone F e0_18) (fun z0_22 => (some z0_22))))) else (if r1 = (20577 : Int32) then (lz (sc x0 16 ((x0 16 0) + (1 : Int32))) (fun e0_42 => (bn1 (m_MD_readAct F e0_42) (fun z0_46 => (some z0_46))))) else (if r1 = (464151 : Int32) then (if (50 : Int32) ≤ (x0 28 0) then (bn2 (m_MD_want F x0 (0 : Int32)) (fun r73 z0_73 => (if r73 = (0 : Int32) then (some z0_73) else (lz (sc z0_73 16 ((z0_73 16 0) + (1 : Int32))) (fun e0_86 => (bn1 (m_MD_readRow F e0_86) (fun z0_90 => (some z0_90)))))))) else (bn2 (m_MD_want F x0 (1 : Int32)) (fun r73 z0_73 => (if r73 = (0 : Int32) then (some z0_73) else (lz (sc z0_73 16 ((z0_73 16 0) + (1 : Int32))) (fun e0_86 => (bn1 (m_MD_readRow F e0_86) (fun z0_90 => (some z0_90))))))))) else (bn1 (m_MD_take_0 F x0 (143848 : Int32)) (fun z0_99 => (if (0 : Int32) ≤ (z0_99 17 0) then (some z0_99) else (bn1 (m_MD_readHold F z0_99) (fun z0_110 => (some z0_110)))))))))))
abbrev rm_MD_readSentence : Room := { frames := 4, cells := 0, slots := 0, locals := 94 }
set_option maxHeartbeats 4000000 in
set_option maxRecDepth 100000 in
theorem c_MD_readSentence {G : (Nat → Prop) → State → Prop} (hG : gok G) (hGn : gN G) (l : Launch) (dC : Nat → ClassId) (dI : Nat → Nat → Nat) (g : Nat → ClassId) (F : Nat) (sz : Nat) (h0 : Nat) (q0 : Nat → Nat) (x0 : St) {o : St} (hm : m_MD_readSentence F x0 = some o) : Met l y_MD_readSentence (.code y_MD_readSentence b_MD_readSentence 2 none :: gw) rm_MD_readSentence (kq (dC, dI) vwCl (tyv g) G [.ref h0] sz (wd_MD g h0 q0 x0)) (kqv (dC, dI) vwCl (tyv g) (wd_MD g h0 q0 x0) (wd_MD g h0 q0 o) sz) 0 0 (va_A (wd_MD g h0 q0 x0) sz) := by
  unfold m_MD_readSentence at hm
  refine km (Qc := fun sz => kqv (dC, dI) vwCl (tyv g) (wd_MD g h0 q0 x0) (wd_MD g h0 q0 o) sz) (cc := b_MD_readSentence) (maxL := 2) (ret := none) (by decide) rfl (Nat.le_of_ble_eq_true rfl) ?_
  intro p e s m args below meth c Q hQ hx hb hr hts hown hlocks hml hnm H locs A hAe hA hP hK hD hS hGA ls hl
  have hl : lv_has ls 2 [(0, .ref h0)] := hl
  have hts : ∀ w ∈ gw, w.before args s = true := fun w h => hts w (List.mem_cons_of_mem _ h)
  have hown : s.vm.findClass "AlarmMatrixModel" = some m.cls := hown
  refine lv_aload_n hx hb d_MD_readSentence_0 rfl (lv_at hl 0 rfl) ?_
  obtain ⟨r1, hcl, hm⟩ := bn1_s hm
  refine kci (wc := wd_MD g h0 q0 x0) (wr := ([] : va_W)) (w1 := wd_MD g h0 q0 x0) hP hD hS hA [0, 1, 2, 3, 4, 5, 6, 7, 8, 9, 10, 11, 12, 13, 14, 15, 16, 17, 18, 19, 20, 21, 22, 23, 24, 25, 26, 27, 28, 29, 30, 31] [] rfl rfl (by decide) (by decide) (va_runV (As := []) (rest := []) ⟨hx, hb, hml, hown, hts⟩ (c_MD_letters hG hGn l dC dI g F H.size h0 q0 x0 hcl) (cwV 0 hts (gdV k5_217 k5_219 kp_29 k1_10 k5_220) rfl rfl rfl (by decide +kernel) ⟨Nat.le_of_ble_eq_true rfl, Nat.le_of_ble_eq_true rfl⟩) (kpV hG hP hK hD hS hA hGA [0, 1, 2, 3, 4, 5, 6, 7, 8, 9, 10, 11, 12, 13, 14, 15, 16, 17, 18, 19, 20, 21, 22, 23, 24, 25, 26, 27, 28, 29, 30, 31] (by decide) rfl (ci := 10) (q0 := 0) rfl rfl rfl) rfl rfl hl.1 rfl (lv_room (Nat.le_of_ble_eq_true rfl)) d_MD_readSentence_1 ⟨Nat.le_of_ble_eq_true rfl, Nat.le_of_ble_eq_true rfl⟩) (fun H locs hP hD hS => ?_)
  have hP : va_P (dC, dI) vwCl (wd_MD g h0 q0 x0) H := hP
  have hD : va_D A (wd_MD g h0 q0 x0) := hD
  refine lv_istore_n (lv' := [(1, .int r1), (0, .ref h0)]) hx hb d_MD_readSentence_4 rfl hl (by decide) rfl (fun ls hl => ?_)
  refine lv_iload_n hx hb d_MD_readSentence_5 rfl (lv_at hl 0 rfl) ?_
  refine lv_ldc (v := (178682 : Int32)) hx hb hown (hts _ k5_174) d_MD_readSentence_6 ?_
  refine lv_icmp_ne (tgt := 28) hx hb d_MD_readSentence_8 (by decide) (fun hc => ?_) (fun hc => ?_)
  · replace hm := if_f hm hc
    refine lv_iload_n hx hb d_MD_readSentence_28 rfl (lv_at hl 0 rfl) ?_
    refine lv_sipush (v := (20577 : Int32)) hx hb d_MD_readSentence_29 (by decide) ?_
    refine lv_icmp_ne (tgt := 52) hx hb d_MD_readSentence_32 (by decide) (fun hc => ?_) (fun hc => ?_)
    · replace hm := if_f hm hc
      refine lv_iload_n hx hb d_MD_readSentence_52 rfl (lv_at hl 0 rfl) ?_
      refine lv_ldc (v := (464151 : Int32)) hx hb hown (hts _ k5_176) d_MD_readSentence_53 ?_
      refine lv_icmp_ne (tgt := 96) hx hb d_MD_readSentence_55 (by decide) (fun hc => ?_) (fun hc => ?_)
      · replace hm := if_f hm hc
        refine lv_aload_n hx hb d_MD_readSentence_96 rfl (lv_at hl 1 rfl) ?_
        refine lv_ldc (v := (143848 : Int32)) hx hb hown (hts _ k5_175) d_MD_readSentence_97 ?_
        obtain ⟨z0_99, hcl, hm⟩ := bn1_s hm
        refine kcv (wc := wd_MD g h0 q0 x0) (wr := ([] : va_W)) (w1 := wd_MD g h0 q0 z0_99) hP hD hS hA [0, 1, 2, 3, 4, 5, 6, 7, 8, 9, 10, 11, 12, 13, 14, 15, 16, 17, 18, 19, 20, 21, 22, 23, 24, 25, 26, 27, 28, 29, 30, 31] [] rfl rfl (by decide) (by decide) (va_runV (As := [.int (143848 : Int32)]) (rest := []) ⟨hx, hb, hml, hown, hts⟩ (c_MD_take_0 hG hGn l dC dI g F H.size h0 q0 x0 (143848 : Int32) hcl) (cwV 1 hts (gdV k5_233 k5_235 kp_33 k1_10 k5_236) rfl rfl rfl (by decide +kernel) ⟨Nat.le_of_ble_eq_true rfl, Nat.le_of_ble_eq_true rfl⟩) (kpV hG hP hK hD hS hA hGA [0, 1, 2, 3, 4, 5, 6, 7, 8, 9, 10, 11, 12, 13, 14, 15, 16, 17, 18, 19, 20, 21, 22, 23, 24, 25, 26, 27, 28, 29, 30, 31] (by decide) rfl (ci := 10) (q0 := 0) rfl rfl rfl) rfl rfl hl.1 rfl (lv_room (Nat.le_of_ble_eq_true rfl)) d_MD_readSentence_99 ⟨Nat.le_of_ble_eq_true rfl, Nat.le_of_ble_eq_true rfl⟩) (fun H locs hP hD hS => ?_)
        have hP : va_P (dC, dI) vwCl (wd_MD g h0 q0 z0_99) H := hP
        have hD : va_D A (wd_MD g h0 q0 z0_99) := hD
        refine lv_aload_n hx hb d_MD_readSentence_102 rfl (lv_at hl 1 rfl) ?_
        refine va_get (D := (dC, dI)) (ci := 10) (v := .int (z0_99 17 0)) (C := "AlarmMatrixModel") (T := T_MD) (N := 42) hx hb hts i_MD hown hK hP 0 rfl rfl 17 (by decide) (hts _ k5_37) (fun _ h9 => h9) rfl d_MD_readSentence_103 ?_
        refine lv_if_ge (tgt := 113) hx hb d_MD_readSentence_106 (by decide) (fun hc => ?_) (fun hc => ?_)
        · replace hm := if_t hm hc
          obtain rfl := Option.some.inj hm
          rw [hQ]
          exact krv hx hb hr hlocks hAe hP hK hD hS d_MD_readSentence_113
        · replace hm := if_f hm hc
          refine lv_aload_n hx hb d_MD_readSentence_109 rfl (lv_at hl 1 rfl) ?_
          obtain ⟨z0_110, hcl, hm⟩ := bn1_s hm
          refine kcv (wc := wd_MD g h0 q0 z0_99) (wr := ([] : va_W)) (w1 := wd_MD g h0 q0 z0_110) hP hD hS hA [0, 1, 2, 3, 4, 5, 6, 7, 8, 9, 10, 11, 12, 13, 14, 15, 16, 17, 18, 19, 20, 21, 22, 23, 24, 25, 26, 27, 28, 29, 30, 31] [] rfl rfl (by decide) (by decide) (va_runV (As := []) (rest := []) ⟨hx, hb, hml, hown, hts⟩ (c_MD_readHold hG hGn l dC dI g F H.size h0 q0 z0_99 hcl) (cwV 0 hts (gdV k6_25 k6_27 kp_41 k1_10 k6_28) rfl rfl rfl (by decide +kernel) ⟨Nat.le_of_ble_eq_true rfl, Nat.le_of_ble_eq_true rfl⟩) (kpV hG hP hK hD hS hA hGA [0, 1, 2, 3, 4, 5, 6, 7, 8, 9, 10, 11, 12, 13, 14, 15, 16, 17, 18, 19, 20, 21, 22, 23, 24, 25, 26, 27, 28, 29, 30, 31] (by decide) rfl (ci := 10) (q0 := 0) rfl rfl rfl) rfl rfl hl.1 rfl (lv_room (Nat.le_of_ble_eq_true rfl)) d_MD_readSentence_110 ⟨Nat.le_of_ble_eq_true rfl, Nat.le_of_ble_eq_true rfl⟩) (fun H locs hP hD hS => ?_)
          have hP : va_P (dC, dI) vwCl (wd_MD g h0 q0 z0_110) H := hP
          have hD : va_D A (wd_MD g h0 q0 z0_110) := hD
          obtain rfl := Option.some.inj hm
          rw [hQ]
          exact krv hx hb hr hlocks hAe hP hK hD hS d_MD_readSentence_113
      · replace hm := if_t hm hc
        refine lv_aload_n hx hb d_MD_readSentence_58 rfl (lv_at hl 1 rfl) ?_
        refine lv_aload_n hx hb d_MD_readSentence_59 rfl (lv_at hl 1 rfl) ?_
        refine va_get (D := (dC, dI)) (ci := 10) (v := .int (x0 28 0)) (C := "AlarmMatrixModel") (T := T_MD) (N := 42) hx hb hts i_MD hown hK hP 0 rfl rfl 28 (by decide) (hts _ k5_48) (fun _ h9 => h9) rfl d_MD_readSentence_60 ?_
        refine lv_bipush (v := (50 : Int32)) hx hb d_MD_readSentence_63 (by decide) ?_
        refine lv_icmp_ge (tgt := 72) hx hb d_MD_readSentence_65 (by decide) (fun hc => ?_) (fun hc => ?_)
        · replace hm := if_t hm hc
          refine lv_iconst (v := (0 : Int32)) hx hb d_MD_readSentence_72 (by decide) ?_
          obtain ⟨r73, z0_73, hcl, hm⟩ := bn2_s hm
          refine kci (wc := wd_MD g h0 q0 x0) (wr := ([] : va_W)) (w1 := wd_MD g h0 q0 z0_73) hP hD hS hA [0, 1, 2, 3, 4, 5, 6, 7, 8, 9, 10, 11, 12, 13, 14, 15, 16, 17, 18, 19, 20, 21, 22, 23, 24, 25, 26, 27, 28, 29, 30, 31] [] rfl rfl (by decide) (by decide) (va_runV (As := [.int (0 : Int32)]) (rest := []) ⟨hx, hb, hml, hown, hts⟩ (c_MD_want hG hGn l dC dI g F H.size h0 q0 x0 (0 : Int32) hcl) (cwV 1 hts (gdV k5_229 k5_231 kp_32 k1_10 k5_232) rfl rfl rfl (by decide +kernel) ⟨Nat.le_of_ble_eq_true rfl, Nat.le_of_ble_eq_true rfl⟩) (kpV hG hP hK hD hS hA hGA [0, 1, 2, 3, 4, 5, 6, 7, 8, 9, 10, 11, 12, 13, 14, 15, 16, 17, 18, 19, 20, 21, 22, 23, 24, 25, 26, 27, 28, 29, 30, 31] (by decide) rfl (ci := 10) (q0 := 0) rfl rfl rfl) rfl rfl hl.1 rfl (lv_room (Nat.le_of_ble_eq_true rfl)) d_MD_readSentence_73 ⟨Nat.le_of_ble_eq_true rfl, Nat.le_of_ble_eq_true rfl⟩) (fun H locs hP hD hS => ?_)
          have hP : va_P (dC, dI) vwCl (wd_MD g h0 q0 z0_73) H := hP
          have hD : va_D A (wd_MD g h0 q0 z0_73) := hD
          refine lv_if_eq (tgt := 113) hx hb d_MD_readSentence_76 (by decide) (fun hc => ?_) (fun hc => ?_)
          · replace hm := if_t hm hc
            obtain rfl := Option.some.inj hm
            rw [hQ]
            exact krv hx hb hr hlocks hAe hP hK hD hS d_MD_readSentence_113
          · replace hm := if_f hm hc
            refine lv_aload_n hx hb d_MD_readSentence_79 rfl (lv_at hl 1 rfl) ?_
            refine lv_dup hx hb d_MD_readSentence_80 rfl ?_
            refine va_get (D := (dC, dI)) (ci := 10) (v := .int (z0_73 16 0)) (C := "AlarmMatrixModel") (T := T_MD) (N := 42) hx hb hts i_MD hown hK hP 0 rfl rfl 16 (by decide) (hts _ k5_36) (fun _ h9 => h9) rfl d_MD_readSentence_81 ?_
            refine lv_iconst (v := (1 : Int32)) hx hb d_MD_readSentence_84 (by decide) ?_
            refine lv_iadd hx hb d_MD_readSentence_85 ?_
            obtain ⟨e0_86, he, hm⟩ := lz_s hm
            refine va_put (D := (dC, dI)) (ci := 10) (v := .int ((z0_73 16 0) + (1 : Int32))) (ty := .int) (C := "AlarmMatrixModel") (T := T_MD) (N := 42) hx hb hts i_MD t_MD o_MD n_MD hown hK hP hD hS 0 rfl rfl 16 (by decide) (hts _ k5_36) (fun _ h9 => h9) rfl (by decide +kernel) rfl rfl (Nat.le_of_ble_eq_true rfl) d_MD_readSentence_86 (fun H locs hP hD hS => ?_)
            have hP : va_P (dC, dI) vwCl (wd_MD g h0 q0 e0_86) H := by rw [he]; exact hP
            have hD : va_D A (wd_MD g h0 q0 e0_86) := by rw [he]; exact hD
            refine lv_aload_n hx hb d_MD_readSentence_89 rfl (lv_at hl 1 rfl) ?_
            obtain ⟨z0_90, hcl, hm⟩ := bn1_s hm
            refine kcv (wc := wd_MD g h0 q0 e0_86) (wr := ([] : va_W)) (w1 := wd_MD g h0 q0 z0_90) hP hD hS hA [0, 1, 2, 3, 4, 5, 6, 7, 8, 9, 10, 11, 12, 13, 14, 15, 16, 17, 18, 19, 20, 21, 22, 23, 24, 25, 26, 27, 28, 29, 30, 31] [] rfl rfl (by decide) (by decide) (va_runV (As := []) (rest := []) ⟨hx, hb, hml, hown, hts⟩ (c_MD_readRow hG hGn l dC dI g F H.size h0 q0 e0_86 hcl) (cwV 0 hts (gdV k6_17 k6_19 kp_39 k1_10 k6_20) rfl rfl rfl (by decide +kernel) ⟨Nat.le_of_ble_eq_true rfl, Nat.le_of_ble_eq_true rfl⟩) (kpV hG hP hK hD hS hA hGA [0, 1, 2, 3, 4, 5, 6, 7, 8, 9, 10, 11, 12, 13, 14, 15, 16, 17, 18, 19, 20, 21, 22, 23, 24, 25, 26, 27, 28, 29, 30, 31] (by decide) rfl (ci := 10) (q0 := 0) rfl rfl rfl) rfl rfl hl.1 rfl (lv_room (Nat.le_of_ble_eq_true rfl)) d_MD_readSentence_90 ⟨Nat.le_of_ble_eq_true rfl, Nat.le_of_ble_eq_true rfl⟩) (fun H locs hP hD hS => ?_)
            have hP : va_P (dC, dI) vwCl (wd_MD g h0 q0 z0_90) H := hP
            have hD : va_D A (wd_MD g h0 q0 z0_90) := hD
            refine lv_goto (tgt := 113) hx hb d_MD_readSentence_93 (by decide) ?_
            obtain rfl := Option.some.inj hm
            rw [hQ]
            exact krv hx hb hr hlocks hAe hP hK hD hS d_MD_readSentence_113
        · replace hm := if_f hm hc
          refine lv_iconst (v := (1 : Int32)) hx hb d_MD_readSentence_68 (by decide) ?_
          refine lv_goto (tgt := 73) hx hb d_MD_readSentence_69 (by decide) ?_
          obtain ⟨r73, z0_73, hcl, hm⟩ := bn2_s hm
          refine kci (wc := wd_MD g h0 q0 x0) (wr := ([] : va_W)) (w1 := wd_MD g h0 q0 z0_73) hP hD hS hA [0, 1, 2, 3, 4, 5, 6, 7, 8, 9, 10, 11, 12, 13, 14, 15, 16, 17, 18, 19, 20, 21, 22, 23, 24, 25, 26, 27, 28, 29, 30, 31] [] rfl rfl (by decide) (by decide) (va_runV (As := [.int (1 : Int32)]) (rest := []) ⟨hx, hb, hml, hown, hts⟩ (c_MD_want hG hGn l dC dI g F H.size h0 q0 x0 (1 : Int32) hcl) (cwV 1 hts (gdV k5_229 k5_231 kp_32 k1_10 k5_232) rfl rfl rfl (by decide +kernel) ⟨Nat.le_of_ble_eq_true rfl, Nat.le_of_ble_eq_true rfl⟩) (kpV hG hP hK hD hS hA hGA [0, 1, 2, 3, 4, 5, 6, 7, 8, 9, 10, 11, 12, 13, 14, 15, 16, 17, 18, 19, 20, 21, 22, 23, 24, 25, 26, 27, 28, 29, 30, 31] (by decide) rfl (ci := 10) (q0 := 0) rfl rfl rfl) rfl rfl hl.1 rfl (lv_room (Nat.le_of_ble_eq_true rfl)) d_MD_readSentence_73 ⟨Nat.le_of_ble_eq_true rfl, Nat.le_of_ble_eq_true rfl⟩) (fun H locs hP hD hS => ?_)
          have hP : va_P (dC, dI) vwCl (wd_MD g h0 q0 z0_73) H := hP
          have hD : va_D A (wd_MD g h0 q0 z0_73) := hD
          refine lv_if_eq (tgt := 113) hx hb d_MD_readSentence_76 (by decide) (fun hc => ?_) (fun hc => ?_)
          · replace hm := if_t hm hc
            obtain rfl := Option.some.inj hm
            rw [hQ]
            exact krv hx hb hr hlocks hAe hP hK hD hS d_MD_readSentence_113
          · replace hm := if_f hm hc
            refine lv_aload_n hx hb d_MD_readSentence_79 rfl (lv_at hl 1 rfl) ?_
            refine lv_dup hx hb d_MD_readSentence_80 rfl ?_
            refine va_get (D := (dC, dI)) (ci := 10) (v := .int (z0_73 16 0)) (C := "AlarmMatrixModel") (T := T_MD) (N := 42) hx hb hts i_MD hown hK hP 0 rfl rfl 16 (by decide) (hts _ k5_36) (fun _ h9 => h9) rfl d_MD_readSentence_81 ?_
            refine lv_iconst (v := (1 : Int32)) hx hb d_MD_readSentence_84 (by decide) ?_
            refine lv_iadd hx hb d_MD_readSentence_85 ?_
            obtain ⟨e0_86, he, hm⟩ := lz_s hm
            refine va_put (D := (dC, dI)) (ci := 10) (v := .int ((z0_73 16 0) + (1 : Int32))) (ty := .int) (C := "AlarmMatrixModel") (T := T_MD) (N := 42) hx hb hts i_MD t_MD o_MD n_MD hown hK hP hD hS 0 rfl rfl 16 (by decide) (hts _ k5_36) (fun _ h9 => h9) rfl (by decide +kernel) rfl rfl (Nat.le_of_ble_eq_true rfl) d_MD_readSentence_86 (fun H locs hP hD hS => ?_)
            have hP : va_P (dC, dI) vwCl (wd_MD g h0 q0 e0_86) H := by rw [he]; exact hP
            have hD : va_D A (wd_MD g h0 q0 e0_86) := by rw [he]; exact hD
            refine lv_aload_n hx hb d_MD_readSentence_89 rfl (lv_at hl 1 rfl) ?_
            obtain ⟨z0_90, hcl, hm⟩ := bn1_s hm
            refine kcv (wc := wd_MD g h0 q0 e0_86) (wr := ([] : va_W)) (w1 := wd_MD g h0 q0 z0_90) hP hD hS hA [0, 1, 2, 3, 4, 5, 6, 7, 8, 9, 10, 11, 12, 13, 14, 15, 16, 17, 18, 19, 20, 21, 22, 23, 24, 25, 26, 27, 28, 29, 30, 31] [] rfl rfl (by decide) (by decide) (va_runV (As := []) (rest := []) ⟨hx, hb, hml, hown, hts⟩ (c_MD_readRow hG hGn l dC dI g F H.size h0 q0 e0_86 hcl) (cwV 0 hts (gdV k6_17 k6_19 kp_39 k1_10 k6_20) rfl rfl rfl (by decide +kernel) ⟨Nat.le_of_ble_eq_true rfl, Nat.le_of_ble_eq_true rfl⟩) (kpV hG hP hK hD hS hA hGA [0, 1, 2, 3, 4, 5, 6, 7, 8, 9, 10, 11, 12, 13, 14, 15, 16, 17, 18, 19, 20, 21, 22, 23, 24, 25, 26, 27, 28, 29, 30, 31] (by decide) rfl (ci := 10) (q0 := 0) rfl rfl rfl) rfl rfl hl.1 rfl (lv_room (Nat.le_of_ble_eq_true rfl)) d_MD_readSentence_90 ⟨Nat.le_of_ble_eq_true rfl, Nat.le_of_ble_eq_true rfl⟩) (fun H locs hP hD hS => ?_)
            have hP : va_P (dC, dI) vwCl (wd_MD g h0 q0 z0_90) H := hP
            have hD : va_D A (wd_MD g h0 q0 z0_90) := hD
            refine lv_goto (tgt := 113) hx hb d_MD_readSentence_93 (by decide) ?_
            obtain rfl := Option.some.inj hm
            rw [hQ]
            exact krv hx hb hr hlocks hAe hP hK hD hS d_MD_readSentence_113
    · replace hm := if_t hm hc
      refine lv_aload_n hx hb d_MD_readSentence_35 rfl (lv_at hl 1 rfl) ?_
      refine lv_dup hx hb d_MD_readSentence_36 rfl ?_
      refine va_get (D := (dC, dI)) (ci := 10) (v := .int (x0 16 0)) (C := "AlarmMatrixModel") (T := T_MD) (N := 42) hx hb hts i_MD hown hK hP 0 rfl rfl 16 (by decide) (hts _ k5_36) (fun _ h9 => h9) rfl d_MD_readSentence_37 ?_
      refine lv_iconst (v := (1 : Int32)) hx hb d_MD_readSentence_40 (by decide) ?_
      refine lv_iadd hx hb d_MD_readSentence_41 ?_
      obtain ⟨e0_42, he, hm⟩ := lz_s hm
      refine va_put (D := (dC, dI)) (ci := 10) (v := .int ((x0 16 0) + (1 : Int32))) (ty := .int) (C := "AlarmMatrixModel") (T := T_MD) (N := 42) hx hb hts i_MD t_MD o_MD n_MD hown hK hP hD hS 0 rfl rfl 16 (by decide) (hts _ k5_36) (fun _ h9 => h9) rfl (by decide +kernel) rfl rfl (Nat.le_of_ble_eq_true rfl) d_MD_readSentence_42 (fun H locs hP hD hS => ?_)
      have hP : va_P (dC, dI) vwCl (wd_MD g h0 q0 e0_42) H := by rw [he]; exact hP
      have hD : va_D A (wd_MD g h0 q0 e0_42) := by rw [he]; exact hD
      refine lv_aload_n hx hb d_MD_readSentence_45 rfl (lv_at hl 1 rfl) ?_
      obtain ⟨z0_46, hcl, hm⟩ := bn1_s hm
      refine kcv (wc := wd_MD g h0 q0 e0_42) (wr := ([] : va_W)) (w1 := wd_MD g h0 q0 z0_46) hP hD hS hA [0, 1, 2, 3, 4, 5, 6, 7, 8, 9, 10, 11, 12, 13, 14, 15, 16, 17, 18, 19, 20, 21, 22, 23, 24, 25, 26, 27, 28, 29, 30, 31] [] rfl rfl (by decide) (by decide) (va_runV (As := []) (rest := []) ⟨hx, hb, hml, hown, hts⟩ (c_MD_readAct hG hGn l dC dI g F H.size h0 q0 e0_42 hcl) (cwV 0 hts (gdV k6_9 k6_11 kp_37 k1_10 k6_12) rfl rfl rfl (by decide +kernel) ⟨Nat.le_of_ble_eq_true rfl, Nat.le_of_ble_eq_true rfl⟩) (kpV hG hP hK hD hS hA hGA [0, 1, 2, 3, 4, 5, 6, 7, 8, 9, 10, 11, 12, 13, 14, 15, 16, 17, 18, 19, 20, 21, 22, 23, 24, 25, 26, 27, 28, 29, 30, 31] (by decide) rfl (ci := 10) (q0 := 0) rfl rfl rfl) rfl rfl hl.1 rfl (lv_room (Nat.le_of_ble_eq_true rfl)) d_MD_readSentence_46 ⟨Nat.le_of_ble_eq_true rfl, Nat.le_of_ble_eq_true rfl⟩) (fun H locs hP hD hS => ?_)
      have hP : va_P (dC, dI) vwCl (wd_MD g h0 q0 z0_46) H := hP
      have hD : va_D A (wd_MD g h0 q0 z0_46) := hD
      refine lv_goto (tgt := 113) hx hb d_MD_readSentence_49 (by decide) ?_
      obtain rfl := Option.some.inj hm
      rw [hQ]
      exact krv hx hb hr hlocks hAe hP hK hD hS d_MD_readSentence_113
  · replace hm := if_t hm hc
    refine lv_aload_n hx hb d_MD_readSentence_11 rfl (lv_at hl 1 rfl) ?_
    refine lv_dup hx hb d_MD_readSentence_12 rfl ?_
    refine va_get (D := (dC, dI)) (ci := 10) (v := .int (x0 16 0)) (C := "AlarmMatrixModel") (T := T_MD) (N := 42) hx hb hts i_MD hown hK hP 0 rfl rfl 16 (by decide) (hts _ k5_36) (fun _ h9 => h9) rfl d_MD_readSentence_13 ?_
    refine lv_iconst (v := (1 : Int32)) hx hb d_MD_readSentence_16 (by decide) ?_
    refine lv_iadd hx hb d_MD_readSentence_17 ?_
    obtain ⟨e0_18, he, hm⟩ := lz_s hm
    refine va_put (D := (dC, dI)) (ci := 10) (v := .int ((x0 16 0) + (1 : Int32))) (ty := .int) (C := "AlarmMatrixModel") (T := T_MD) (N := 42) hx hb hts i_MD t_MD o_MD n_MD hown hK hP hD hS 0 rfl rfl 16 (by decide) (hts _ k5_36) (fun _ h9 => h9) rfl (by decide +kernel) rfl rfl (Nat.le_of_ble_eq_true rfl) d_MD_readSentence_18 (fun H locs hP hD hS => ?_)
    have hP : va_P (dC, dI) vwCl (wd_MD g h0 q0 e0_18) H := by rw [he]; exact hP
    have hD : va_D A (wd_MD g h0 q0 e0_18) := by rw [he]; exact hD
    refine lv_aload_n hx hb d_MD_readSentence_21 rfl (lv_at hl 1 rfl) ?_
    obtain ⟨z0_22, hcl, hm⟩ := bn1_s hm
    refine kcv (wc := wd_MD g h0 q0 e0_18) (wr := ([] : va_W)) (w1 := wd_MD g h0 q0 z0_22) hP hD hS hA [0, 1, 2, 3, 4, 5, 6, 7, 8, 9, 10, 11, 12, 13, 14, 15, 16, 17, 18, 19, 20, 21, 22, 23, 24, 25, 26, 27, 28, 29, 30, 31] [] rfl rfl (by decide) (by decide) (va_runV (As := []) (rest := []) ⟨hx, hb, hml, hown, hts⟩ (c_MD_readZone hG hGn l dC dI g F H.size h0 q0 e0_18 hcl) (cwV 0 hts (gdV k5_221 k5_223 kp_30 k1_10 k5_224) rfl rfl rfl (by decide +kernel) ⟨Nat.le_of_ble_eq_true rfl, Nat.le_of_ble_eq_true rfl⟩) (kpV hG hP hK hD hS hA hGA [0, 1, 2, 3, 4, 5, 6, 7, 8, 9, 10, 11, 12, 13, 14, 15, 16, 17, 18, 19, 20, 21, 22, 23, 24, 25, 26, 27, 28, 29, 30, 31] (by decide) rfl (ci := 10) (q0 := 0) rfl rfl rfl) rfl rfl hl.1 rfl (lv_room (Nat.le_of_ble_eq_true rfl)) d_MD_readSentence_22 ⟨Nat.le_of_ble_eq_true rfl, Nat.le_of_ble_eq_true rfl⟩) (fun H locs hP hD hS => ?_)
    have hP : va_P (dC, dI) vwCl (wd_MD g h0 q0 z0_22) H := hP
    have hD : va_D A (wd_MD g h0 q0 z0_22) := hD
    refine lv_goto (tgt := 113) hx hb d_MD_readSentence_25 (by decide) ?_
    obtain rfl := Option.some.inj hm
    rw [hQ]
    exact krv hx hb hr hlocks hAe hP hK hD hS d_MD_readSentence_113
abbrev b_MD_rests : ByteArray := prog_12_method_48_code
abbrev y_MD_rests : MethodName := ⟨"AlarmMatrixModel", "rests", "(I)V"⟩
theorem d_MD_rests_0 : decode b_MD_rests 0 = .ok (.aload_n 0, 1) := by decide +kernel
theorem d_MD_rests_1 : decode b_MD_rests 1 = .ok (.getfield 80, 3) := by decide +kernel
theorem d_MD_rests_4 : decode b_MD_rests 4 = .ok (.iload_n 1, 1) := by decide +kernel
theorem d_MD_rests_5 : decode b_MD_rests 5 = .ok (.iconst 0, 1) := by decide +kernel
theorem d_MD_rests_6 : decode b_MD_rests 6 = .ok (.iastore, 1) := by decide +kernel
theorem d_MD_rests_7 : decode b_MD_rests 7 = .ok (.aload_n 0, 1) := by decide +kernel
theorem d_MD_rests_8 : decode b_MD_rests 8 = .ok (.getfield 83, 3) := by decide +kernel
theorem d_MD_rests_11 : decode b_MD_rests 11 = .ok (.iload_n 1, 1) := by decide +kernel
theorem d_MD_rests_12 : decode b_MD_rests 12 = .ok (.iconst (-1), 1) := by decide +kernel
theorem d_MD_rests_13 : decode b_MD_rests 13 = .ok (.iastore, 1) := by decide +kernel
theorem d_MD_rests_14 : decode b_MD_rests 14 = .ok (.aload_n 0, 1) := by decide +kernel
theorem d_MD_rests_15 : decode b_MD_rests 15 = .ok (.getfield 86, 3) := by decide +kernel
theorem d_MD_rests_18 : decode b_MD_rests 18 = .ok (.iload_n 1, 1) := by decide +kernel
theorem d_MD_rests_19 : decode b_MD_rests 19 = .ok (.iconst 0, 1) := by decide +kernel
theorem d_MD_rests_20 : decode b_MD_rests 20 = .ok (.bastore, 1) := by decide +kernel
theorem d_MD_rests_21 : decode b_MD_rests 21 = .ok (.aload_n 0, 1) := by decide +kernel
theorem d_MD_rests_22 : decode b_MD_rests 22 = .ok (.getfield 89, 3) := by decide +kernel
theorem d_MD_rests_25 : decode b_MD_rests 25 = .ok (.iload_n 1, 1) := by decide +kernel
theorem d_MD_rests_26 : decode b_MD_rests 26 = .ok (.iconst 0, 1) := by decide +kernel
theorem d_MD_rests_27 : decode b_MD_rests 27 = .ok (.bastore, 1) := by decide +kernel
theorem d_MD_rests_28 : decode b_MD_rests 28 = .ok (.return_, 1) := by decide +kernel
def m_MD_rests (F : Nat) (x0 : St) (a1 : Int32) : Option (St) :=
  (ck a1 20 (lz (st x0 32 (upd (x0 32) a1.toNatClampNeg (0 : Int32))) (fun e0_6 => (ck a1 20 (lz (st e0_6 33 (upd (e0_6 33) a1.toNatClampNeg (-1 : Int32))) (fun e0_13 => (ck a1 20 (lz (st e0_13 34 (upd (e0_13 34) a1.toNatClampNeg (vp_nar .boolean (0 : Int32)))) (fun e0_20 => (ck a1 20 (lz (st e0_20 35 (upd (e0_20 35) a1.toNatClampNeg (vp_nar .boolean (0 : Int32)))) (fun e0_27 => (some e0_27)))))))))))))
abbrev rm_MD_rests : Room := { frames := 0, cells := 0, slots := 0, locals := 0 }
set_option maxHeartbeats 4000000 in
set_option maxRecDepth 100000 in
theorem c_MD_rests {G : (Nat → Prop) → State → Prop} (hG : gok G) (hGn : gN G) (l : Launch) (dC : Nat → ClassId) (dI : Nat → Nat → Nat) (g : Nat → ClassId) (F : Nat) (sz : Nat) (h0 : Nat) (q0 : Nat → Nat) (x0 : St) (a1 : Int32) {o : St} (hm : m_MD_rests F x0 a1 = some o) : Met l y_MD_rests (.code y_MD_rests b_MD_rests 2 none :: gw) rm_MD_rests (kq (dC, dI) vwCl (tyv g) G [.ref h0, .int a1] sz (wd_MD g h0 q0 x0)) (kqv (dC, dI) vwCl (tyv g) (wd_MD g h0 q0 x0) (wd_MD g h0 q0 o) sz) 0 0 (va_A (wd_MD g h0 q0 x0) sz) := by
  unfold m_MD_rests at hm
  refine km (Qc := fun sz => kqv (dC, dI) vwCl (tyv g) (wd_MD g h0 q0 x0) (wd_MD g h0 q0 o) sz) (cc := b_MD_rests) (maxL := 2) (ret := none) (by decide) rfl (Nat.le_of_ble_eq_true rfl) ?_
  intro p e s m args below meth c Q hQ hx hb hr hts hown hlocks hml hnm H locs A hAe hA hP hK hD hS hGA ls hl
  have hl : lv_has ls 2 [(0, .ref h0), (1, .int a1)] := hl
  have hts : ∀ w ∈ gw, w.before args s = true := fun w h => hts w (List.mem_cons_of_mem _ h)
  have hown : s.vm.findClass "AlarmMatrixModel" = some m.cls := hown
  refine lv_aload_n hx hb d_MD_rests_0 rfl (lv_at hl 0 rfl) ?_
  refine va_get (D := (dC, dI)) (ci := 10) (v := .ref (q0 32)) (C := "AlarmMatrixModel") (T := T_MD) (N := 42) hx hb hts i_MD hown hK hP 0 rfl rfl 32 (by decide) (hts _ k5_52) (fun _ h9 => h9) rfl d_MD_rests_1 ?_
  refine lv_iload_n hx hb d_MD_rests_4 rfl (lv_at hl 1 rfl) ?_
  refine lv_iconst (v := (0 : Int32)) hx hb d_MD_rests_5 (by decide) ?_
  obtain ⟨h_6, hm⟩ := ck_s hm
  obtain ⟨e0_6, he, hm⟩ := lz_s hm
  refine va_iast (f := (x0 32)) hx hb hK hP hD hS 24 0 rfl rfl h_6 d_MD_rests_6 (fun H locs hP hD hS => ?_)
  have hP : va_P (dC, dI) vwCl (wd_MD g h0 q0 e0_6) H := by rw [he]; exact hP
  have hD : va_D A (wd_MD g h0 q0 e0_6) := by rw [he]; exact hD
  refine lv_aload_n hx hb d_MD_rests_7 rfl (lv_at hl 0 rfl) ?_
  refine va_get (D := (dC, dI)) (ci := 10) (v := .ref (q0 33)) (C := "AlarmMatrixModel") (T := T_MD) (N := 42) hx hb hts i_MD hown hK hP 0 rfl rfl 33 (by decide) (hts _ k5_53) (fun _ h9 => h9) rfl d_MD_rests_8 ?_
  refine lv_iload_n hx hb d_MD_rests_11 rfl (lv_at hl 1 rfl) ?_
  refine lv_iconst (v := (-1 : Int32)) hx hb d_MD_rests_12 (by decide) ?_
  obtain ⟨h_13, hm⟩ := ck_s hm
  obtain ⟨e0_13, he, hm⟩ := lz_s hm
  refine va_iast (f := (e0_6 33)) hx hb hK hP hD hS 25 0 rfl rfl h_13 d_MD_rests_13 (fun H locs hP hD hS => ?_)
  have hP : va_P (dC, dI) vwCl (wd_MD g h0 q0 e0_13) H := by rw [he]; exact hP
  have hD : va_D A (wd_MD g h0 q0 e0_13) := by rw [he]; exact hD
  refine lv_aload_n hx hb d_MD_rests_14 rfl (lv_at hl 0 rfl) ?_
  refine va_get (D := (dC, dI)) (ci := 10) (v := .ref (q0 34)) (C := "AlarmMatrixModel") (T := T_MD) (N := 42) hx hb hts i_MD hown hK hP 0 rfl rfl 34 (by decide) (hts _ k5_54) (fun _ h9 => h9) rfl d_MD_rests_15 ?_
  refine lv_iload_n hx hb d_MD_rests_18 rfl (lv_at hl 1 rfl) ?_
  refine lv_iconst (v := (0 : Int32)) hx hb d_MD_rests_19 (by decide) ?_
  obtain ⟨h_20, hm⟩ := ck_s hm
  obtain ⟨e0_20, he, hm⟩ := lz_s hm
  refine va_zast (f := (e0_13 34)) hx hb hK hP hD hS 26 1 rfl rfl h_20 d_MD_rests_20 (fun H locs hP hD hS => ?_)
  have hP : va_P (dC, dI) vwCl (wd_MD g h0 q0 e0_20) H := by rw [he]; exact hP
  have hD : va_D A (wd_MD g h0 q0 e0_20) := by rw [he]; exact hD
  refine lv_aload_n hx hb d_MD_rests_21 rfl (lv_at hl 0 rfl) ?_
  refine va_get (D := (dC, dI)) (ci := 10) (v := .ref (q0 35)) (C := "AlarmMatrixModel") (T := T_MD) (N := 42) hx hb hts i_MD hown hK hP 0 rfl rfl 35 (by decide) (hts _ k5_55) (fun _ h9 => h9) rfl d_MD_rests_22 ?_
  refine lv_iload_n hx hb d_MD_rests_25 rfl (lv_at hl 1 rfl) ?_
  refine lv_iconst (v := (0 : Int32)) hx hb d_MD_rests_26 (by decide) ?_
  obtain ⟨h_27, hm⟩ := ck_s hm
  obtain ⟨e0_27, he, hm⟩ := lz_s hm
  refine va_zast (f := (e0_20 35)) hx hb hK hP hD hS 27 1 rfl rfl h_27 d_MD_rests_27 (fun H locs hP hD hS => ?_)
  have hP : va_P (dC, dI) vwCl (wd_MD g h0 q0 e0_27) H := by rw [he]; exact hP
  have hD : va_D A (wd_MD g h0 q0 e0_27) := by rw [he]; exact hD
  obtain rfl := Option.some.inj hm
  rw [hQ]
  exact krv hx hb hr hlocks hAe hP hK hD hS d_MD_rests_28
abbrev b_MD_take_1 : ByteArray := prog_12_method_31_code
abbrev y_MD_take_1 : MethodName := ⟨"AlarmMatrixModel", "take", "()V"⟩
theorem d_MD_take_1_0 : decode b_MD_take_1 0 = .ok (.iconst 0, 1) := by decide +kernel
theorem d_MD_take_1_1 : decode b_MD_take_1 1 = .ok (.istore_n 1, 1) := by decide +kernel
theorem d_MD_take_1_2 : decode b_MD_take_1 2 = .ok (.iload_n 1, 1) := by decide +kernel
theorem d_MD_take_1_3 : decode b_MD_take_1 3 = .ok (.bipush 20, 2) := by decide +kernel
theorem d_MD_take_1_5 : decode b_MD_take_1 5 = .ok (.if_icmp .ge 174, 3) := by decide +kernel
theorem d_MD_take_1_8 : decode b_MD_take_1 8 = .ok (.aload_n 0, 1) := by decide +kernel
theorem d_MD_take_1_9 : decode b_MD_take_1 9 = .ok (.getfield 44, 3) := by decide +kernel
theorem d_MD_take_1_12 : decode b_MD_take_1 12 = .ok (.iload_n 1, 1) := by decide +kernel
theorem d_MD_take_1_13 : decode b_MD_take_1 13 = .ok (.aload_n 0, 1) := by decide +kernel
theorem d_MD_take_1_14 : decode b_MD_take_1 14 = .ok (.getfield 44, 3) := by decide +kernel
theorem d_MD_take_1_17 : decode b_MD_take_1 17 = .ok (.bipush 20, 2) := by decide +kernel
theorem d_MD_take_1_19 : decode b_MD_take_1 19 = .ok (.iload_n 1, 1) := by decide +kernel
theorem d_MD_take_1_20 : decode b_MD_take_1 20 = .ok (.iadd, 1) := by decide +kernel
theorem d_MD_take_1_21 : decode b_MD_take_1 21 = .ok (.baload, 1) := by decide +kernel
theorem d_MD_take_1_22 : decode b_MD_take_1 22 = .ok (.bastore, 1) := by decide +kernel
theorem d_MD_take_1_23 : decode b_MD_take_1 23 = .ok (.aload_n 0, 1) := by decide +kernel
theorem d_MD_take_1_24 : decode b_MD_take_1 24 = .ok (.getfield 47, 3) := by decide +kernel
theorem d_MD_take_1_27 : decode b_MD_take_1 27 = .ok (.iload_n 1, 1) := by decide +kernel
theorem d_MD_take_1_28 : decode b_MD_take_1 28 = .ok (.aload_n 0, 1) := by decide +kernel
theorem d_MD_take_1_29 : decode b_MD_take_1 29 = .ok (.getfield 47, 3) := by decide +kernel
theorem d_MD_take_1_32 : decode b_MD_take_1 32 = .ok (.bipush 20, 2) := by decide +kernel
theorem d_MD_take_1_34 : decode b_MD_take_1 34 = .ok (.iload_n 1, 1) := by decide +kernel
theorem d_MD_take_1_35 : decode b_MD_take_1 35 = .ok (.iadd, 1) := by decide +kernel
theorem d_MD_take_1_36 : decode b_MD_take_1 36 = .ok (.iaload, 1) := by decide +kernel
theorem d_MD_take_1_37 : decode b_MD_take_1 37 = .ok (.iastore, 1) := by decide +kernel
theorem d_MD_take_1_38 : decode b_MD_take_1 38 = .ok (.aload_n 0, 1) := by decide +kernel
theorem d_MD_take_1_39 : decode b_MD_take_1 39 = .ok (.getfield 50, 3) := by decide +kernel
theorem d_MD_take_1_42 : decode b_MD_take_1 42 = .ok (.iload_n 1, 1) := by decide +kernel
theorem d_MD_take_1_43 : decode b_MD_take_1 43 = .ok (.aload_n 0, 1) := by decide +kernel
theorem d_MD_take_1_44 : decode b_MD_take_1 44 = .ok (.getfield 50, 3) := by decide +kernel
theorem d_MD_take_1_47 : decode b_MD_take_1 47 = .ok (.bipush 20, 2) := by decide +kernel
theorem d_MD_take_1_49 : decode b_MD_take_1 49 = .ok (.iload_n 1, 1) := by decide +kernel
theorem d_MD_take_1_50 : decode b_MD_take_1 50 = .ok (.iadd, 1) := by decide +kernel
theorem d_MD_take_1_51 : decode b_MD_take_1 51 = .ok (.iaload, 1) := by decide +kernel
theorem d_MD_take_1_52 : decode b_MD_take_1 52 = .ok (.iastore, 1) := by decide +kernel
theorem d_MD_take_1_53 : decode b_MD_take_1 53 = .ok (.iconst 0, 1) := by decide +kernel
theorem d_MD_take_1_54 : decode b_MD_take_1 54 = .ok (.istore_n 2, 1) := by decide +kernel
theorem d_MD_take_1_55 : decode b_MD_take_1 55 = .ok (.iload_n 2, 1) := by decide +kernel
theorem d_MD_take_1_56 : decode b_MD_take_1 56 = .ok (.bipush 12, 2) := by decide +kernel
theorem d_MD_take_1_58 : decode b_MD_take_1 58 = .ok (.if_icmp .ge 35, 3) := by decide +kernel
theorem d_MD_take_1_61 : decode b_MD_take_1 61 = .ok (.aload_n 0, 1) := by decide +kernel
theorem d_MD_take_1_62 : decode b_MD_take_1 62 = .ok (.getfield 53, 3) := by decide +kernel
theorem d_MD_take_1_65 : decode b_MD_take_1 65 = .ok (.bipush 12, 2) := by decide +kernel
theorem d_MD_take_1_67 : decode b_MD_take_1 67 = .ok (.iload_n 1, 1) := by decide +kernel
theorem d_MD_take_1_68 : decode b_MD_take_1 68 = .ok (.imul, 1) := by decide +kernel
theorem d_MD_take_1_69 : decode b_MD_take_1 69 = .ok (.iload_n 2, 1) := by decide +kernel
theorem d_MD_take_1_70 : decode b_MD_take_1 70 = .ok (.iadd, 1) := by decide +kernel
theorem d_MD_take_1_71 : decode b_MD_take_1 71 = .ok (.aload_n 0, 1) := by decide +kernel
theorem d_MD_take_1_72 : decode b_MD_take_1 72 = .ok (.getfield 53, 3) := by decide +kernel
theorem d_MD_take_1_75 : decode b_MD_take_1 75 = .ok (.sipush 240, 3) := by decide +kernel
theorem d_MD_take_1_78 : decode b_MD_take_1 78 = .ok (.bipush 12, 2) := by decide +kernel
theorem d_MD_take_1_80 : decode b_MD_take_1 80 = .ok (.iload_n 1, 1) := by decide +kernel
theorem d_MD_take_1_81 : decode b_MD_take_1 81 = .ok (.imul, 1) := by decide +kernel
theorem d_MD_take_1_82 : decode b_MD_take_1 82 = .ok (.iadd, 1) := by decide +kernel
theorem d_MD_take_1_83 : decode b_MD_take_1 83 = .ok (.iload_n 2, 1) := by decide +kernel
theorem d_MD_take_1_84 : decode b_MD_take_1 84 = .ok (.iadd, 1) := by decide +kernel
theorem d_MD_take_1_85 : decode b_MD_take_1 85 = .ok (.iaload, 1) := by decide +kernel
theorem d_MD_take_1_86 : decode b_MD_take_1 86 = .ok (.iastore, 1) := by decide +kernel
theorem d_MD_take_1_87 : decode b_MD_take_1 87 = .ok (.iinc 2 1, 3) := by decide +kernel
theorem d_MD_take_1_90 : decode b_MD_take_1 90 = .ok (.goto (-35), 3) := by decide +kernel
theorem d_MD_take_1_93 : decode b_MD_take_1 93 = .ok (.aload_n 0, 1) := by decide +kernel
theorem d_MD_take_1_94 : decode b_MD_take_1 94 = .ok (.getfield 56, 3) := by decide +kernel
theorem d_MD_take_1_97 : decode b_MD_take_1 97 = .ok (.iload_n 1, 1) := by decide +kernel
theorem d_MD_take_1_98 : decode b_MD_take_1 98 = .ok (.aload_n 0, 1) := by decide +kernel
theorem d_MD_take_1_99 : decode b_MD_take_1 99 = .ok (.getfield 56, 3) := by decide +kernel
theorem d_MD_take_1_102 : decode b_MD_take_1 102 = .ok (.bipush 20, 2) := by decide +kernel
theorem d_MD_take_1_104 : decode b_MD_take_1 104 = .ok (.iload_n 1, 1) := by decide +kernel
theorem d_MD_take_1_105 : decode b_MD_take_1 105 = .ok (.iadd, 1) := by decide +kernel
theorem d_MD_take_1_106 : decode b_MD_take_1 106 = .ok (.baload, 1) := by decide +kernel
theorem d_MD_take_1_107 : decode b_MD_take_1 107 = .ok (.bastore, 1) := by decide +kernel
theorem d_MD_take_1_108 : decode b_MD_take_1 108 = .ok (.aload_n 0, 1) := by decide +kernel
theorem d_MD_take_1_109 : decode b_MD_take_1 109 = .ok (.getfield 59, 3) := by decide +kernel
theorem d_MD_take_1_112 : decode b_MD_take_1 112 = .ok (.iload_n 1, 1) := by decide +kernel
theorem d_MD_take_1_113 : decode b_MD_take_1 113 = .ok (.aload_n 0, 1) := by decide +kernel
theorem d_MD_take_1_114 : decode b_MD_take_1 114 = .ok (.getfield 59, 3) := by decide +kernel
theorem d_MD_take_1_117 : decode b_MD_take_1 117 = .ok (.bipush 20, 2) := by decide +kernel
theorem d_MD_take_1_119 : decode b_MD_take_1 119 = .ok (.iload_n 1, 1) := by decide +kernel
theorem d_MD_take_1_120 : decode b_MD_take_1 120 = .ok (.iadd, 1) := by decide +kernel
theorem d_MD_take_1_121 : decode b_MD_take_1 121 = .ok (.iaload, 1) := by decide +kernel
theorem d_MD_take_1_122 : decode b_MD_take_1 122 = .ok (.iastore, 1) := by decide +kernel
theorem d_MD_take_1_123 : decode b_MD_take_1 123 = .ok (.aload_n 0, 1) := by decide +kernel
theorem d_MD_take_1_124 : decode b_MD_take_1 124 = .ok (.getfield 62, 3) := by decide +kernel
theorem d_MD_take_1_127 : decode b_MD_take_1 127 = .ok (.iload_n 1, 1) := by decide +kernel
theorem d_MD_take_1_128 : decode b_MD_take_1 128 = .ok (.aload_n 0, 1) := by decide +kernel
theorem d_MD_take_1_129 : decode b_MD_take_1 129 = .ok (.getfield 62, 3) := by decide +kernel
theorem d_MD_take_1_132 : decode b_MD_take_1 132 = .ok (.bipush 20, 2) := by decide +kernel
theorem d_MD_take_1_134 : decode b_MD_take_1 134 = .ok (.iload_n 1, 1) := by decide +kernel
theorem d_MD_take_1_135 : decode b_MD_take_1 135 = .ok (.iadd, 1) := by decide +kernel
theorem d_MD_take_1_136 : decode b_MD_take_1 136 = .ok (.iaload, 1) := by decide +kernel
theorem d_MD_take_1_137 : decode b_MD_take_1 137 = .ok (.iastore, 1) := by decide +kernel
theorem d_MD_take_1_138 : decode b_MD_take_1 138 = .ok (.aload_n 0, 1) := by decide +kernel
theorem d_MD_take_1_139 : decode b_MD_take_1 139 = .ok (.getfield 65, 3) := by decide +kernel
theorem d_MD_take_1_142 : decode b_MD_take_1 142 = .ok (.iload_n 1, 1) := by decide +kernel
theorem d_MD_take_1_143 : decode b_MD_take_1 143 = .ok (.aload_n 0, 1) := by decide +kernel
theorem d_MD_take_1_144 : decode b_MD_take_1 144 = .ok (.getfield 65, 3) := by decide +kernel
theorem d_MD_take_1_147 : decode b_MD_take_1 147 = .ok (.bipush 20, 2) := by decide +kernel
theorem d_MD_take_1_149 : decode b_MD_take_1 149 = .ok (.iload_n 1, 1) := by decide +kernel
theorem d_MD_take_1_150 : decode b_MD_take_1 150 = .ok (.iadd, 1) := by decide +kernel
theorem d_MD_take_1_151 : decode b_MD_take_1 151 = .ok (.iaload, 1) := by decide +kernel
theorem d_MD_take_1_152 : decode b_MD_take_1 152 = .ok (.iastore, 1) := by decide +kernel
theorem d_MD_take_1_153 : decode b_MD_take_1 153 = .ok (.aload_n 0, 1) := by decide +kernel
theorem d_MD_take_1_154 : decode b_MD_take_1 154 = .ok (.getfield 68, 3) := by decide +kernel
theorem d_MD_take_1_157 : decode b_MD_take_1 157 = .ok (.iload_n 1, 1) := by decide +kernel
theorem d_MD_take_1_158 : decode b_MD_take_1 158 = .ok (.aload_n 0, 1) := by decide +kernel
theorem d_MD_take_1_159 : decode b_MD_take_1 159 = .ok (.getfield 68, 3) := by decide +kernel
theorem d_MD_take_1_162 : decode b_MD_take_1 162 = .ok (.bipush 20, 2) := by decide +kernel
theorem d_MD_take_1_164 : decode b_MD_take_1 164 = .ok (.iload_n 1, 1) := by decide +kernel
theorem d_MD_take_1_165 : decode b_MD_take_1 165 = .ok (.iadd, 1) := by decide +kernel
theorem d_MD_take_1_166 : decode b_MD_take_1 166 = .ok (.baload, 1) := by decide +kernel
theorem d_MD_take_1_167 : decode b_MD_take_1 167 = .ok (.bastore, 1) := by decide +kernel
theorem d_MD_take_1_168 : decode b_MD_take_1 168 = .ok (.aload_n 0, 1) := by decide +kernel
theorem d_MD_take_1_169 : decode b_MD_take_1 169 = .ok (.iload_n 1, 1) := by decide +kernel
theorem d_MD_take_1_170 : decode b_MD_take_1 170 = .ok (.invokevirtual 223, 3) := by decide +kernel
theorem d_MD_take_1_173 : decode b_MD_take_1 173 = .ok (.iinc 1 1, 3) := by decide +kernel
theorem d_MD_take_1_176 : decode b_MD_take_1 176 = .ok (.goto (-174), 3) := by decide +kernel
theorem d_MD_take_1_179 : decode b_MD_take_1 179 = .ok (.aload_n 0, 1) := by decide +kernel
theorem d_MD_take_1_180 : decode b_MD_take_1 180 = .ok (.aload_n 0, 1) := by decide +kernel
theorem d_MD_take_1_181 : decode b_MD_take_1 181 = .ok (.getfield 197, 3) := by decide +kernel
theorem d_MD_take_1_184 : decode b_MD_take_1 184 = .ok (.putfield 220, 3) := by decide +kernel
theorem d_MD_take_1_187 : decode b_MD_take_1 187 = .ok (.iconst 0, 1) := by decide +kernel
theorem d_MD_take_1_188 : decode b_MD_take_1 188 = .ok (.istore_n 1, 1) := by decide +kernel
theorem d_MD_take_1_189 : decode b_MD_take_1 189 = .ok (.iload_n 1, 1) := by decide +kernel
theorem d_MD_take_1_190 : decode b_MD_take_1 190 = .ok (.aload_n 0, 1) := by decide +kernel
theorem d_MD_take_1_191 : decode b_MD_take_1 191 = .ok (.getfield 220, 3) := by decide +kernel
theorem d_MD_take_1_194 : decode b_MD_take_1 194 = .ok (.if_icmp .ge 54, 3) := by decide +kernel
theorem d_MD_take_1_197 : decode b_MD_take_1 197 = .ok (.aload_n 0, 1) := by decide +kernel
theorem d_MD_take_1_198 : decode b_MD_take_1 198 = .ok (.getfield 71, 3) := by decide +kernel
theorem d_MD_take_1_201 : decode b_MD_take_1 201 = .ok (.iload_n 1, 1) := by decide +kernel
theorem d_MD_take_1_202 : decode b_MD_take_1 202 = .ok (.aload_n 0, 1) := by decide +kernel
theorem d_MD_take_1_203 : decode b_MD_take_1 203 = .ok (.getfield 71, 3) := by decide +kernel
theorem d_MD_take_1_206 : decode b_MD_take_1 206 = .ok (.bipush 50, 2) := by decide +kernel
theorem d_MD_take_1_208 : decode b_MD_take_1 208 = .ok (.iload_n 1, 1) := by decide +kernel
theorem d_MD_take_1_209 : decode b_MD_take_1 209 = .ok (.iadd, 1) := by decide +kernel
theorem d_MD_take_1_210 : decode b_MD_take_1 210 = .ok (.iaload, 1) := by decide +kernel
theorem d_MD_take_1_211 : decode b_MD_take_1 211 = .ok (.iastore, 1) := by decide +kernel
theorem d_MD_take_1_212 : decode b_MD_take_1 212 = .ok (.aload_n 0, 1) := by decide +kernel
theorem d_MD_take_1_213 : decode b_MD_take_1 213 = .ok (.getfield 74, 3) := by decide +kernel
theorem d_MD_take_1_216 : decode b_MD_take_1 216 = .ok (.iload_n 1, 1) := by decide +kernel
theorem d_MD_take_1_217 : decode b_MD_take_1 217 = .ok (.aload_n 0, 1) := by decide +kernel
theorem d_MD_take_1_218 : decode b_MD_take_1 218 = .ok (.getfield 74, 3) := by decide +kernel
theorem d_MD_take_1_221 : decode b_MD_take_1 221 = .ok (.bipush 50, 2) := by decide +kernel
theorem d_MD_take_1_223 : decode b_MD_take_1 223 = .ok (.iload_n 1, 1) := by decide +kernel
theorem d_MD_take_1_224 : decode b_MD_take_1 224 = .ok (.iadd, 1) := by decide +kernel
theorem d_MD_take_1_225 : decode b_MD_take_1 225 = .ok (.iaload, 1) := by decide +kernel
theorem d_MD_take_1_226 : decode b_MD_take_1 226 = .ok (.iastore, 1) := by decide +kernel
theorem d_MD_take_1_227 : decode b_MD_take_1 227 = .ok (.aload_n 0, 1) := by decide +kernel
theorem d_MD_take_1_228 : decode b_MD_take_1 228 = .ok (.getfield 77, 3) := by decide +kernel
theorem d_MD_take_1_231 : decode b_MD_take_1 231 = .ok (.iload_n 1, 1) := by decide +kernel
theorem d_MD_take_1_232 : decode b_MD_take_1 232 = .ok (.aload_n 0, 1) := by decide +kernel
theorem d_MD_take_1_233 : decode b_MD_take_1 233 = .ok (.getfield 77, 3) := by decide +kernel
theorem d_MD_take_1_236 : decode b_MD_take_1 236 = .ok (.bipush 50, 2) := by decide +kernel
theorem d_MD_take_1_238 : decode b_MD_take_1 238 = .ok (.iload_n 1, 1) := by decide +kernel
theorem d_MD_take_1_239 : decode b_MD_take_1 239 = .ok (.iadd, 1) := by decide +kernel
theorem d_MD_take_1_240 : decode b_MD_take_1 240 = .ok (.iaload, 1) := by decide +kernel
theorem d_MD_take_1_241 : decode b_MD_take_1 241 = .ok (.iastore, 1) := by decide +kernel
theorem d_MD_take_1_242 : decode b_MD_take_1 242 = .ok (.iinc 1 1, 3) := by decide +kernel
theorem d_MD_take_1_245 : decode b_MD_take_1 245 = .ok (.goto (-56), 3) := by decide +kernel
theorem d_MD_take_1_248 : decode b_MD_take_1 248 = .ok (.return_, 1) := by decide +kernel
def m_MD_take_1_B55 {R : Type} (F : Nat) (v1_2 : Int32) (k55_93 : Int32 → St → Option R) (rec55 : Int32 → St → Option R) (v2_55 : Int32) (y0_55 : St) : Option R :=
  (if (12 : Int32) ≤ v2_55 then (k55_93 v2_55 y0_55) else (ck (((240 : Int32) + ((12 : Int32) * v1_2)) + v2_55) 480 (ck (((12 : Int32) * v1_2) + v2_55) 480 (lz (st y0_55 21 (upd (y0_55 21) (((12 : Int32) * v1_2) + v2_55).toNatClampNeg ((y0_55 21) (((240 : Int32) + ((12 : Int32) * v1_2)) + v2_55).toNatClampNeg))) (fun e0_86 => (rec55 (v2_55 + (1 : Int32)) e0_86))))))
theorem m_MD_take_1_B55_h {R : Type} {F : Nat} {v1_2 : Int32} {k55_93 : Int32 → St → Option R} {rec55 : Int32 → St → Option R} {v2_55 : Int32} {y0_55 : St} {o : R} (h : m_MD_take_1_B55 F v1_2 k55_93 rec55 v2_55 y0_55 = some o) :
  (if (12 : Int32) ≤ v2_55 then (k55_93 v2_55 y0_55) else (ck (((240 : Int32) + ((12 : Int32) * v1_2)) + v2_55) 480 (ck (((12 : Int32) * v1_2) + v2_55) 480 (lz (st y0_55 21 (upd (y0_55 21) (((12 : Int32) * v1_2) + v2_55).toNatClampNeg ((y0_55 21) (((240 : Int32) + ((12 : Int32) * v1_2)) + v2_55).toNatClampNeg))) (fun e0_86 => (rec55 (v2_55 + (1 : Int32)) e0_86)))))) = some o := h
def m_MD_take_1_B2 {R : Type} (F : Nat)  (k2_179 : Int32 → St → Option R) (rec2 : Int32 → St → Option R) (v1_2 : Int32) (y0_2 : St) : Option R :=
  (if (20 : Int32) ≤ v1_2 then (k2_179 v1_2 y0_2) else (ck ((20 : Int32) + v1_2) 40 (ck v1_2 40 (lz (st y0_2 18 (upd (y0_2 18) v1_2.toNatClampNeg (vp_nar .boolean ((y0_2 18) ((20 : Int32) + v1_2).toNatClampNeg)))) (fun e0_22 => (ck ((20 : Int32) + v1_2) 40 (ck v1_2 40 (lz (st e0_22 19 (upd (e0_22 19) v1_2.toNatClampNeg ((e0_22 19) ((20 : Int32) + v1_2).toNatClampNeg))) (fun e0_37 => (ck ((20 : Int32) + v1_2) 40 (ck v1_2 40 (lz (st e0_37 20 (upd (e0_37 20) v1_2.toNatClampNeg ((e0_37 20) ((20 : Int32) + v1_2).toNatClampNeg))) (fun e0_52 => (lq2 (m_MD_take_1_B55 F v1_2 (fun v2_55 y0_55 => (ck ((20 : Int32) + v1_2) 40 (ck v1_2 40 (lz (st y0_55 22 (upd (y0_55 22) v1_2.toNatClampNeg (vp_nar .boolean ((y0_55 22) ((20 : Int32) + v1_2).toNatClampNeg)))) (fun e0_107 => (ck ((20 : Int32) + v1_2) 40 (ck v1_2 40 (lz (st e0_107 23 (upd (e0_107 23) v1_2.toNatClampNeg ((e0_107 23) ((20 : Int32) + v1_2).toNatClampNeg))) (fun e0_122 => (ck ((20 : Int32) + v1_2) 40 (ck v1_2 40 (lz (st e0_122 24 (upd (e0_122 24) v1_2.toNatClampNeg ((e0_122 24) ((20 : Int32) + v1_2).toNatClampNeg))) (fun e0_137 => (ck ((20 : Int32) + v1_2) 40 (ck v1_2 40 (lz (st e0_137 25 (upd (e0_137 25) v1_2.toNatClampNeg ((e0_137 25) ((20 : Int32) + v1_2).toNatClampNeg))) (fun e0_152 => (ck ((20 : Int32) + v1_2) 40 (ck v1_2 40 (lz (st e0_152 26 (upd (e0_152 26) v1_2.toNatClampNeg (vp_nar .boolean ((e0_152 26) ((20 : Int32) + v1_2).toNatClampNeg)))) (fun e0_167 => (bn1 (m_MD_rests F e0_167 v1_2) (fun z0_170 => (rec2 (v1_2 + (1 : Int32)) z0_170))))))))))))))))))))))))) F (0 : Int32) e0_52))))))))))))))
theorem m_MD_take_1_B2_h {R : Type} {F : Nat}  {k2_179 : Int32 → St → Option R} {rec2 : Int32 → St → Option R} {v1_2 : Int32} {y0_2 : St} {o : R} (h : m_MD_take_1_B2 F k2_179 rec2 v1_2 y0_2 = some o) :
  (if (20 : Int32) ≤ v1_2 then (k2_179 v1_2 y0_2) else (ck ((20 : Int32) + v1_2) 40 (ck v1_2 40 (lz (st y0_2 18 (upd (y0_2 18) v1_2.toNatClampNeg (vp_nar .boolean ((y0_2 18) ((20 : Int32) + v1_2).toNatClampNeg)))) (fun e0_22 => (ck ((20 : Int32) + v1_2) 40 (ck v1_2 40 (lz (st e0_22 19 (upd (e0_22 19) v1_2.toNatClampNeg ((e0_22 19) ((20 : Int32) + v1_2).toNatClampNeg))) (fun e0_37 => (ck ((20 : Int32) + v1_2) 40 (ck v1_2 40 (lz (st e0_37 20 (upd (e0_37 20) v1_2.toNatClampNeg ((e0_37 20) ((20 : Int32) + v1_2).toNatClampNeg))) (fun e0_52 => (lq2 (m_MD_take_1_B55 F v1_2 (fun v2_55 y0_55 => (ck ((20 : Int32) + v1_2) 40 (ck v1_2 40 (lz (st y0_55 22 (upd (y0_55 22) v1_2.toNatClampNeg (vp_nar .boolean ((y0_55 22) ((20 : Int32) + v1_2).toNatClampNeg)))) (fun e0_107 => (ck ((20 : Int32) + v1_2) 40 (ck v1_2 40 (lz (st e0_107 23 (upd (e0_107 23) v1_2.toNatClampNeg ((e0_107 23) ((20 : Int32) + v1_2).toNatClampNeg))) (fun e0_122 => (ck ((20 : Int32) + v1_2) 40 (ck v1_2 40 (lz (st e0_122 24 (upd (e0_122 24) v1_2.toNatClampNeg ((e0_122 24) ((20 : Int32) + v1_2).toNatClampNeg))) (fun e0_137 => (ck ((20 : Int32) + v1_2) 40 (ck v1_2 40 (lz (st e0_137 25 (upd (e0_137 25) v1_2.toNatClampNeg ((e0_137 25) ((20 : Int32) + v1_2).toNatClampNeg))) (fun e0_152 => (ck ((20 : Int32) + v1_2) 40 (ck v1_2 40 (lz (st e0_152 26 (upd (e0_152 26) v1_2.toNatClampNeg (vp_nar .boolean ((e0_152 26) ((20 : Int32) + v1_2).toNatClampNeg)))) (fun e0_167 => (bn1 (m_MD_rests F e0_167 v1_2) (fun z0_170 => (rec2 (v1_2 + (1 : Int32)) z0_170))))))))))))))))))))))))) F (0 : Int32) e0_52)))))))))))))) = some o := h
def m_MD_take_1_B189 {R : Type} (F : Nat)  (k189_248 : Int32 → St → Option R) (rec189 : Int32 → St → Option R) (v1_189 : Int32) (y0_189 : St) : Option R :=
  (if (y0_189 27 0) ≤ v1_189 then (k189_248 v1_189 y0_189) else (ck ((50 : Int32) + v1_189) 100 (ck v1_189 100 (lz (st y0_189 29 (upd (y0_189 29) v1_189.toNatClampNeg ((y0_189 29) ((50 : Int32) + v1_189).toNatClampNeg))) (fun e0_211 => (ck ((50 : Int32) + v1_189) 100 (ck v1_189 100 (lz (st e0_211 30 (upd (e0_211 30) v1_189.toNatClampNeg ((e0_211 30) ((50 : Int32) + v1_189).toNatClampNeg))) (fun e0_226 => (ck ((50 : Int32) + v1_189) 100 (ck v1_189 100 (lz (st e0_226 31 (upd (e0_226 31) v1_189.toNatClampNeg ((e0_226 31) ((50 : Int32) + v1_189).toNatClampNeg))) (fun e0_241 => (rec189 (v1_189 + (1 : Int32)) e0_241))))))))))))))
theorem m_MD_take_1_B189_h {R : Type} {F : Nat}  {k189_248 : Int32 → St → Option R} {rec189 : Int32 → St → Option R} {v1_189 : Int32} {y0_189 : St} {o : R} (h : m_MD_take_1_B189 F k189_248 rec189 v1_189 y0_189 = some o) :
  (if (y0_189 27 0) ≤ v1_189 then (k189_248 v1_189 y0_189) else (ck ((50 : Int32) + v1_189) 100 (ck v1_189 100 (lz (st y0_189 29 (upd (y0_189 29) v1_189.toNatClampNeg ((y0_189 29) ((50 : Int32) + v1_189).toNatClampNeg))) (fun e0_211 => (ck ((50 : Int32) + v1_189) 100 (ck v1_189 100 (lz (st e0_211 30 (upd (e0_211 30) v1_189.toNatClampNeg ((e0_211 30) ((50 : Int32) + v1_189).toNatClampNeg))) (fun e0_226 => (ck ((50 : Int32) + v1_189) 100 (ck v1_189 100 (lz (st e0_226 31 (upd (e0_226 31) v1_189.toNatClampNeg ((e0_226 31) ((50 : Int32) + v1_189).toNatClampNeg))) (fun e0_241 => (rec189 (v1_189 + (1 : Int32)) e0_241)))))))))))))) = some o := h
def m_MD_take_1 (F : Nat) (x0 : St) : Option (St) :=
  (lq2 (m_MD_take_1_B2 F  (fun v1_2 y0_2 => (lz (sc y0_2 27 (y0_2 28 0)) (fun e0_184 => (lq2 (m_MD_take_1_B189 F  (fun v1_189 y0_189 => (some y0_189))) F (0 : Int32) e0_184))))) F (0 : Int32) x0)
abbrev rm_MD_take_1 : Room := { frames := 1, cells := 0, slots := 0, locals := 21 }
set_option maxHeartbeats 4000000 in
set_option maxRecDepth 100000 in
theorem c_MD_take_1 {G : (Nat → Prop) → State → Prop} (hG : gok G) (hGn : gN G) (l : Launch) (dC : Nat → ClassId) (dI : Nat → Nat → Nat) (g : Nat → ClassId) (F : Nat) (sz : Nat) (h0 : Nat) (q0 : Nat → Nat) (x0 : St) {o : St} (hm : m_MD_take_1 F x0 = some o) : Met l y_MD_take_1 (.code y_MD_take_1 b_MD_take_1 3 none :: gw) rm_MD_take_1 (kq (dC, dI) vwCl (tyv g) G [.ref h0] sz (wd_MD g h0 q0 x0)) (kqv (dC, dI) vwCl (tyv g) (wd_MD g h0 q0 x0) (wd_MD g h0 q0 o) sz) 0 0 (va_A (wd_MD g h0 q0 x0) sz) := by
  unfold m_MD_take_1 at hm
  refine km (Qc := fun sz => kqv (dC, dI) vwCl (tyv g) (wd_MD g h0 q0 x0) (wd_MD g h0 q0 o) sz) (cc := b_MD_take_1) (maxL := 3) (ret := none) (by decide) rfl (Nat.le_of_ble_eq_true rfl) ?_
  intro p e s m args below meth c Q hQ hx hb hr hts hown hlocks hml hnm H locs A hAe hA hP hK hD hS hGA ls hl
  have hl : lv_has ls 3 [(0, .ref h0)] := hl
  have hts : ∀ w ∈ gw, w.before args s = true := fun w h => hts w (List.mem_cons_of_mem _ h)
  have hown : s.vm.findClass "AlarmMatrixModel" = some m.cls := hown
  refine lv_iconst (v := (0 : Int32)) hx hb d_MD_take_1_0 (by decide) ?_
  refine lv_istore_n (lv' := [(1, .int (0 : Int32)), (0, .ref h0)]) hx hb d_MD_take_1_1 rfl hl (by decide) rfl (fun ls hl => ?_)
  have L2 : ∀ (n2 : Nat) (v1_2 : Int32) (y0_2 : St) (H : Heap) (locs : List Loc) (ls : Array Slot), lq2 (m_MD_take_1_B2 F  (fun v1_2 y0_2 => (lz (sc y0_2 27 (y0_2 28 0)) (fun e0_184 => (lq2 (m_MD_take_1_B189 F  (fun v1_189 y0_189 => (some y0_189))) F (0 : Int32) e0_184))))) n2 v1_2 y0_2 = some o → va_P (dC, dI) vwCl (wd_MD g h0 q0 y0_2) H → va_D A (wd_MD g h0 q0 y0_2) → va_S A s.heap H locs → lv_has ls 3 [(0, .ref h0), (1, .int v1_2)] → W p l e rm_MD_take_1 s m args below meth c H locs 0 0 Q (F0 m 2 ls []) := by
    intro n2
    induction n2 with
    | zero => intro v1_2 y0_2 H locs ls hm; exact absurd hm (by intro z; cases z)
    | succ n2 ih2 =>
      intro v1_2 y0_2 H locs ls hm hP hD hS hl
      replace hm := m_MD_take_1_B2_h (lq2_h hm)
      refine lv_iload_n hx hb d_MD_take_1_2 rfl (lv_at hl 1 rfl) ?_
      refine lv_bipush (v := (20 : Int32)) hx hb d_MD_take_1_3 (by decide) ?_
      refine lv_icmp_ge (tgt := 179) hx hb d_MD_take_1_5 (by decide) (fun hc => ?_) (fun hc => ?_)
      · replace hm := if_t hm hc
        refine lv_aload_n hx hb d_MD_take_1_179 rfl (lv_at hl 0 rfl) ?_
        refine lv_aload_n hx hb d_MD_take_1_180 rfl (lv_at hl 0 rfl) ?_
        refine va_get (D := (dC, dI)) (ci := 10) (v := .int (y0_2 28 0)) (C := "AlarmMatrixModel") (T := T_MD) (N := 42) hx hb hts i_MD hown hK hP 0 rfl rfl 28 (by decide) (hts _ k5_48) (fun _ h9 => h9) rfl d_MD_take_1_181 ?_
        obtain ⟨e0_184, he, hm⟩ := lz_s hm
        refine va_put (D := (dC, dI)) (ci := 10) (v := .int (y0_2 28 0)) (ty := .int) (C := "AlarmMatrixModel") (T := T_MD) (N := 42) hx hb hts i_MD t_MD o_MD n_MD hown hK hP hD hS 0 rfl rfl 27 (by decide) (hts _ k5_47) (fun _ h9 => h9) rfl (by decide +kernel) rfl rfl (Nat.le_of_ble_eq_true rfl) d_MD_take_1_184 (fun H locs hP hD hS => ?_)
        have hP : va_P (dC, dI) vwCl (wd_MD g h0 q0 e0_184) H := by rw [he]; exact hP
        have hD : va_D A (wd_MD g h0 q0 e0_184) := by rw [he]; exact hD
        refine lv_iconst (v := (0 : Int32)) hx hb d_MD_take_1_187 (by decide) ?_
        refine lv_istore_n (lv' := [(1, .int (0 : Int32)), (0, .ref h0)]) hx hb d_MD_take_1_188 rfl hl (by decide) rfl (fun ls hl => ?_)
        have L189 : ∀ (n189 : Nat) (v1_189 : Int32) (y0_189 : St) (H : Heap) (locs : List Loc) (ls : Array Slot), lq2 (m_MD_take_1_B189 F  (fun v1_189 y0_189 => (some y0_189))) n189 v1_189 y0_189 = some o → va_P (dC, dI) vwCl (wd_MD g h0 q0 y0_189) H → va_D A (wd_MD g h0 q0 y0_189) → va_S A s.heap H locs → lv_has ls 3 [(0, .ref h0), (1, .int v1_189)] → W p l e rm_MD_take_1 s m args below meth c H locs 0 0 Q (F0 m 189 ls []) := by
          intro n189
          induction n189 with
          | zero => intro v1_189 y0_189 H locs ls hm; exact absurd hm (by intro z; cases z)
          | succ n189 ih189 =>
            intro v1_189 y0_189 H locs ls hm hP hD hS hl
            replace hm := m_MD_take_1_B189_h (lq2_h hm)
            refine lv_iload_n hx hb d_MD_take_1_189 rfl (lv_at hl 1 rfl) ?_
            refine lv_aload_n hx hb d_MD_take_1_190 rfl (lv_at hl 0 rfl) ?_
            refine va_get (D := (dC, dI)) (ci := 10) (v := .int (y0_189 27 0)) (C := "AlarmMatrixModel") (T := T_MD) (N := 42) hx hb hts i_MD hown hK hP 0 rfl rfl 27 (by decide) (hts _ k5_47) (fun _ h9 => h9) rfl d_MD_take_1_191 ?_
            refine lv_icmp_ge (tgt := 248) hx hb d_MD_take_1_194 (by decide) (fun hc => ?_) (fun hc => ?_)
            · replace hm := if_t hm hc
              obtain rfl := Option.some.inj hm
              rw [hQ]
              exact krv hx hb hr hlocks hAe hP hK hD hS d_MD_take_1_248
            · replace hm := if_f hm hc
              refine lv_aload_n hx hb d_MD_take_1_197 rfl (lv_at hl 0 rfl) ?_
              refine va_get (D := (dC, dI)) (ci := 10) (v := .ref (q0 29)) (C := "AlarmMatrixModel") (T := T_MD) (N := 42) hx hb hts i_MD hown hK hP 0 rfl rfl 29 (by decide) (hts _ k5_49) (fun _ h9 => h9) rfl d_MD_take_1_198 ?_
              refine lv_iload_n hx hb d_MD_take_1_201 rfl (lv_at hl 1 rfl) ?_
              refine lv_aload_n hx hb d_MD_take_1_202 rfl (lv_at hl 0 rfl) ?_
              refine va_get (D := (dC, dI)) (ci := 10) (v := .ref (q0 29)) (C := "AlarmMatrixModel") (T := T_MD) (N := 42) hx hb hts i_MD hown hK hP 0 rfl rfl 29 (by decide) (hts _ k5_49) (fun _ h9 => h9) rfl d_MD_take_1_203 ?_
              refine lv_bipush (v := (50 : Int32)) hx hb d_MD_take_1_206 (by decide) ?_
              refine lv_iload_n hx hb d_MD_take_1_208 rfl (lv_at hl 1 rfl) ?_
              refine lv_iadd hx hb d_MD_take_1_209 ?_
              obtain ⟨h_210, hm⟩ := ck_s hm
              refine va_iald (f := (y0_189 29)) hx hb hK hP 21 0 rfl rfl h_210 d_MD_take_1_210 ?_
              obtain ⟨h_211, hm⟩ := ck_s hm
              obtain ⟨e0_211, he, hm⟩ := lz_s hm
              refine va_iast (f := (y0_189 29)) hx hb hK hP hD hS 21 0 rfl rfl h_211 d_MD_take_1_211 (fun H locs hP hD hS => ?_)
              have hP : va_P (dC, dI) vwCl (wd_MD g h0 q0 e0_211) H := by rw [he]; exact hP
              have hD : va_D A (wd_MD g h0 q0 e0_211) := by rw [he]; exact hD
              refine lv_aload_n hx hb d_MD_take_1_212 rfl (lv_at hl 0 rfl) ?_
              refine va_get (D := (dC, dI)) (ci := 10) (v := .ref (q0 30)) (C := "AlarmMatrixModel") (T := T_MD) (N := 42) hx hb hts i_MD hown hK hP 0 rfl rfl 30 (by decide) (hts _ k5_50) (fun _ h9 => h9) rfl d_MD_take_1_213 ?_
              refine lv_iload_n hx hb d_MD_take_1_216 rfl (lv_at hl 1 rfl) ?_
              refine lv_aload_n hx hb d_MD_take_1_217 rfl (lv_at hl 0 rfl) ?_
              refine va_get (D := (dC, dI)) (ci := 10) (v := .ref (q0 30)) (C := "AlarmMatrixModel") (T := T_MD) (N := 42) hx hb hts i_MD hown hK hP 0 rfl rfl 30 (by decide) (hts _ k5_50) (fun _ h9 => h9) rfl d_MD_take_1_218 ?_
              refine lv_bipush (v := (50 : Int32)) hx hb d_MD_take_1_221 (by decide) ?_
              refine lv_iload_n hx hb d_MD_take_1_223 rfl (lv_at hl 1 rfl) ?_
              refine lv_iadd hx hb d_MD_take_1_224 ?_
              obtain ⟨h_225, hm⟩ := ck_s hm
              refine va_iald (f := (e0_211 30)) hx hb hK hP 22 0 rfl rfl h_225 d_MD_take_1_225 ?_
              obtain ⟨h_226, hm⟩ := ck_s hm
              obtain ⟨e0_226, he, hm⟩ := lz_s hm
              refine va_iast (f := (e0_211 30)) hx hb hK hP hD hS 22 0 rfl rfl h_226 d_MD_take_1_226 (fun H locs hP hD hS => ?_)
              have hP : va_P (dC, dI) vwCl (wd_MD g h0 q0 e0_226) H := by rw [he]; exact hP
              have hD : va_D A (wd_MD g h0 q0 e0_226) := by rw [he]; exact hD
              refine lv_aload_n hx hb d_MD_take_1_227 rfl (lv_at hl 0 rfl) ?_
              refine va_get (D := (dC, dI)) (ci := 10) (v := .ref (q0 31)) (C := "AlarmMatrixModel") (T := T_MD) (N := 42) hx hb hts i_MD hown hK hP 0 rfl rfl 31 (by decide) (hts _ k5_51) (fun _ h9 => h9) rfl d_MD_take_1_228 ?_
              refine lv_iload_n hx hb d_MD_take_1_231 rfl (lv_at hl 1 rfl) ?_
              refine lv_aload_n hx hb d_MD_take_1_232 rfl (lv_at hl 0 rfl) ?_
              refine va_get (D := (dC, dI)) (ci := 10) (v := .ref (q0 31)) (C := "AlarmMatrixModel") (T := T_MD) (N := 42) hx hb hts i_MD hown hK hP 0 rfl rfl 31 (by decide) (hts _ k5_51) (fun _ h9 => h9) rfl d_MD_take_1_233 ?_
              refine lv_bipush (v := (50 : Int32)) hx hb d_MD_take_1_236 (by decide) ?_
              refine lv_iload_n hx hb d_MD_take_1_238 rfl (lv_at hl 1 rfl) ?_
              refine lv_iadd hx hb d_MD_take_1_239 ?_
              obtain ⟨h_240, hm⟩ := ck_s hm
              refine va_iald (f := (e0_226 31)) hx hb hK hP 23 0 rfl rfl h_240 d_MD_take_1_240 ?_
              obtain ⟨h_241, hm⟩ := ck_s hm
              obtain ⟨e0_241, he, hm⟩ := lz_s hm
              refine va_iast (f := (e0_226 31)) hx hb hK hP hD hS 23 0 rfl rfl h_241 d_MD_take_1_241 (fun H locs hP hD hS => ?_)
              have hP : va_P (dC, dI) vwCl (wd_MD g h0 q0 e0_241) H := by rw [he]; exact hP
              have hD : va_D A (wd_MD g h0 q0 e0_241) := by rw [he]; exact hD
              refine lv_iinc (v := (v1_189 + (1 : Int32))) (lv' := [(1, .int (v1_189 + (1 : Int32))), (0, .ref h0)]) hx hb d_MD_take_1_242 hl (k := 1) rfl rfl (by decide) rfl (fun ls hl => ?_)
              refine lv_goto (tgt := 189) hx hb d_MD_take_1_245 (by decide) ?_
              exact ih189 (v1_189 + (1 : Int32)) e0_241 H locs ls hm hP hD hS (lv_sub hl [1, 0] rfl)
        exact L189 F (0 : Int32) e0_184 H locs ls hm hP hD hS (lv_sub hl [1, 0] rfl)
      · replace hm := if_f hm hc
        refine lv_aload_n hx hb d_MD_take_1_8 rfl (lv_at hl 0 rfl) ?_
        refine va_get (D := (dC, dI)) (ci := 10) (v := .ref (q0 18)) (C := "AlarmMatrixModel") (T := T_MD) (N := 42) hx hb hts i_MD hown hK hP 0 rfl rfl 18 (by decide) (hts _ k5_38) (fun _ h9 => h9) rfl d_MD_take_1_9 ?_
        refine lv_iload_n hx hb d_MD_take_1_12 rfl (lv_at hl 1 rfl) ?_
        refine lv_aload_n hx hb d_MD_take_1_13 rfl (lv_at hl 0 rfl) ?_
        refine va_get (D := (dC, dI)) (ci := 10) (v := .ref (q0 18)) (C := "AlarmMatrixModel") (T := T_MD) (N := 42) hx hb hts i_MD hown hK hP 0 rfl rfl 18 (by decide) (hts _ k5_38) (fun _ h9 => h9) rfl d_MD_take_1_14 ?_
        refine lv_bipush (v := (20 : Int32)) hx hb d_MD_take_1_17 (by decide) ?_
        refine lv_iload_n hx hb d_MD_take_1_19 rfl (lv_at hl 1 rfl) ?_
        refine lv_iadd hx hb d_MD_take_1_20 ?_
        obtain ⟨h_21, hm⟩ := ck_s hm
        refine va_zald (f := (y0_2 18)) hx hb hK hP 12 1 rfl rfl h_21 d_MD_take_1_21 ?_
        obtain ⟨h_22, hm⟩ := ck_s hm
        obtain ⟨e0_22, he, hm⟩ := lz_s hm
        refine va_zast (f := (y0_2 18)) hx hb hK hP hD hS 12 1 rfl rfl h_22 d_MD_take_1_22 (fun H locs hP hD hS => ?_)
        have hP : va_P (dC, dI) vwCl (wd_MD g h0 q0 e0_22) H := by rw [he]; exact hP
        have hD : va_D A (wd_MD g h0 q0 e0_22) := by rw [he]; exact hD
        refine lv_aload_n hx hb d_MD_take_1_23 rfl (lv_at hl 0 rfl) ?_
        refine va_get (D := (dC, dI)) (ci := 10) (v := .ref (q0 19)) (C := "AlarmMatrixModel") (T := T_MD) (N := 42) hx hb hts i_MD hown hK hP 0 rfl rfl 19 (by decide) (hts _ k5_39) (fun _ h9 => h9) rfl d_MD_take_1_24 ?_
        refine lv_iload_n hx hb d_MD_take_1_27 rfl (lv_at hl 1 rfl) ?_
        refine lv_aload_n hx hb d_MD_take_1_28 rfl (lv_at hl 0 rfl) ?_
        refine va_get (D := (dC, dI)) (ci := 10) (v := .ref (q0 19)) (C := "AlarmMatrixModel") (T := T_MD) (N := 42) hx hb hts i_MD hown hK hP 0 rfl rfl 19 (by decide) (hts _ k5_39) (fun _ h9 => h9) rfl d_MD_take_1_29 ?_
        refine lv_bipush (v := (20 : Int32)) hx hb d_MD_take_1_32 (by decide) ?_
        refine lv_iload_n hx hb d_MD_take_1_34 rfl (lv_at hl 1 rfl) ?_
        refine lv_iadd hx hb d_MD_take_1_35 ?_
        obtain ⟨h_36, hm⟩ := ck_s hm
        refine va_iald (f := (e0_22 19)) hx hb hK hP 13 0 rfl rfl h_36 d_MD_take_1_36 ?_
        obtain ⟨h_37, hm⟩ := ck_s hm
        obtain ⟨e0_37, he, hm⟩ := lz_s hm
        refine va_iast (f := (e0_22 19)) hx hb hK hP hD hS 13 0 rfl rfl h_37 d_MD_take_1_37 (fun H locs hP hD hS => ?_)
        have hP : va_P (dC, dI) vwCl (wd_MD g h0 q0 e0_37) H := by rw [he]; exact hP
        have hD : va_D A (wd_MD g h0 q0 e0_37) := by rw [he]; exact hD
        refine lv_aload_n hx hb d_MD_take_1_38 rfl (lv_at hl 0 rfl) ?_
        refine va_get (D := (dC, dI)) (ci := 10) (v := .ref (q0 20)) (C := "AlarmMatrixModel") (T := T_MD) (N := 42) hx hb hts i_MD hown hK hP 0 rfl rfl 20 (by decide) (hts _ k5_40) (fun _ h9 => h9) rfl d_MD_take_1_39 ?_
        refine lv_iload_n hx hb d_MD_take_1_42 rfl (lv_at hl 1 rfl) ?_
        refine lv_aload_n hx hb d_MD_take_1_43 rfl (lv_at hl 0 rfl) ?_
        refine va_get (D := (dC, dI)) (ci := 10) (v := .ref (q0 20)) (C := "AlarmMatrixModel") (T := T_MD) (N := 42) hx hb hts i_MD hown hK hP 0 rfl rfl 20 (by decide) (hts _ k5_40) (fun _ h9 => h9) rfl d_MD_take_1_44 ?_
        refine lv_bipush (v := (20 : Int32)) hx hb d_MD_take_1_47 (by decide) ?_
        refine lv_iload_n hx hb d_MD_take_1_49 rfl (lv_at hl 1 rfl) ?_
        refine lv_iadd hx hb d_MD_take_1_50 ?_
        obtain ⟨h_51, hm⟩ := ck_s hm
        refine va_iald (f := (e0_37 20)) hx hb hK hP 14 0 rfl rfl h_51 d_MD_take_1_51 ?_
        obtain ⟨h_52, hm⟩ := ck_s hm
        obtain ⟨e0_52, he, hm⟩ := lz_s hm
        refine va_iast (f := (e0_37 20)) hx hb hK hP hD hS 14 0 rfl rfl h_52 d_MD_take_1_52 (fun H locs hP hD hS => ?_)
        have hP : va_P (dC, dI) vwCl (wd_MD g h0 q0 e0_52) H := by rw [he]; exact hP
        have hD : va_D A (wd_MD g h0 q0 e0_52) := by rw [he]; exact hD
        refine lv_iconst (v := (0 : Int32)) hx hb d_MD_take_1_53 (by decide) ?_
        refine lv_istore_n (lv' := [(2, .int (0 : Int32)), (0, .ref h0), (1, .int v1_2)]) hx hb d_MD_take_1_54 rfl hl (by decide) rfl (fun ls hl => ?_)
        have L55 : ∀ (n55 : Nat) (v2_55 : Int32) (y0_55 : St) (H : Heap) (locs : List Loc) (ls : Array Slot), lq2 (m_MD_take_1_B55 F v1_2 (fun v2_55 y0_55 => (ck ((20 : Int32) + v1_2) 40 (ck v1_2 40 (lz (st y0_55 22 (upd (y0_55 22) v1_2.toNatClampNeg (vp_nar .boolean ((y0_55 22) ((20 : Int32) + v1_2).toNatClampNeg)))) (fun e0_107 => (ck ((20 : Int32) + v1_2) 40 (ck v1_2 40 (lz (st e0_107 23 (upd (e0_107 23) v1_2.toNatClampNeg ((e0_107 23) ((20 : Int32) + v1_2).toNatClampNeg))) (fun e0_122 => (ck ((20 : Int32) + v1_2) 40 (ck v1_2 40 (lz (st e0_122 24 (upd (e0_122 24) v1_2.toNatClampNeg ((e0_122 24) ((20 : Int32) + v1_2).toNatClampNeg))) (fun e0_137 => (ck ((20 : Int32) + v1_2) 40 (ck v1_2 40 (lz (st e0_137 25 (upd (e0_137 25) v1_2.toNatClampNeg ((e0_137 25) ((20 : Int32) + v1_2).toNatClampNeg))) (fun e0_152 => (ck ((20 : Int32) + v1_2) 40 (ck v1_2 40 (lz (st e0_152 26 (upd (e0_152 26) v1_2.toNatClampNeg (vp_nar .boolean ((e0_152 26) ((20 : Int32) + v1_2).toNatClampNeg)))) (fun e0_167 => (bn1 (m_MD_rests F e0_167 v1_2) (fun z0_170 => (lq2 (m_MD_take_1_B2 F  (fun v1_2 y0_2 => (lz (sc y0_2 27 (y0_2 28 0)) (fun e0_184 => (lq2 (m_MD_take_1_B189 F  (fun v1_189 y0_189 => (some y0_189))) F (0 : Int32) e0_184))))) n2 (v1_2 + (1 : Int32)) z0_170))))))))))))))))))))))))) n55 v2_55 y0_55 = some o → va_P (dC, dI) vwCl (wd_MD g h0 q0 y0_55) H → va_D A (wd_MD g h0 q0 y0_55) → va_S A s.heap H locs → lv_has ls 3 [(0, .ref h0), (1, .int v1_2), (2, .int v2_55)] → W p l e rm_MD_take_1 s m args below meth c H locs 0 0 Q (F0 m 55 ls []) := by
          intro n55
          induction n55 with
          | zero => intro v2_55 y0_55 H locs ls hm; exact absurd hm (by intro z; cases z)
          | succ n55 ih55 =>
            intro v2_55 y0_55 H locs ls hm hP hD hS hl
            replace hm := m_MD_take_1_B55_h (lq2_h hm)
            refine lv_iload_n hx hb d_MD_take_1_55 rfl (lv_at hl 2 rfl) ?_
            refine lv_bipush (v := (12 : Int32)) hx hb d_MD_take_1_56 (by decide) ?_
            refine lv_icmp_ge (tgt := 93) hx hb d_MD_take_1_58 (by decide) (fun hc => ?_) (fun hc => ?_)
            · replace hm := if_t hm hc
              refine lv_aload_n hx hb d_MD_take_1_93 rfl (lv_at hl 0 rfl) ?_
              refine va_get (D := (dC, dI)) (ci := 10) (v := .ref (q0 22)) (C := "AlarmMatrixModel") (T := T_MD) (N := 42) hx hb hts i_MD hown hK hP 0 rfl rfl 22 (by decide) (hts _ k5_42) (fun _ h9 => h9) rfl d_MD_take_1_94 ?_
              refine lv_iload_n hx hb d_MD_take_1_97 rfl (lv_at hl 1 rfl) ?_
              refine lv_aload_n hx hb d_MD_take_1_98 rfl (lv_at hl 0 rfl) ?_
              refine va_get (D := (dC, dI)) (ci := 10) (v := .ref (q0 22)) (C := "AlarmMatrixModel") (T := T_MD) (N := 42) hx hb hts i_MD hown hK hP 0 rfl rfl 22 (by decide) (hts _ k5_42) (fun _ h9 => h9) rfl d_MD_take_1_99 ?_
              refine lv_bipush (v := (20 : Int32)) hx hb d_MD_take_1_102 (by decide) ?_
              refine lv_iload_n hx hb d_MD_take_1_104 rfl (lv_at hl 1 rfl) ?_
              refine lv_iadd hx hb d_MD_take_1_105 ?_
              obtain ⟨h_106, hm⟩ := ck_s hm
              refine va_zald (f := (y0_55 22)) hx hb hK hP 16 1 rfl rfl h_106 d_MD_take_1_106 ?_
              obtain ⟨h_107, hm⟩ := ck_s hm
              obtain ⟨e0_107, he, hm⟩ := lz_s hm
              refine va_zast (f := (y0_55 22)) hx hb hK hP hD hS 16 1 rfl rfl h_107 d_MD_take_1_107 (fun H locs hP hD hS => ?_)
              have hP : va_P (dC, dI) vwCl (wd_MD g h0 q0 e0_107) H := by rw [he]; exact hP
              have hD : va_D A (wd_MD g h0 q0 e0_107) := by rw [he]; exact hD
              refine lv_aload_n hx hb d_MD_take_1_108 rfl (lv_at hl 0 rfl) ?_
              refine va_get (D := (dC, dI)) (ci := 10) (v := .ref (q0 23)) (C := "AlarmMatrixModel") (T := T_MD) (N := 42) hx hb hts i_MD hown hK hP 0 rfl rfl 23 (by decide) (hts _ k5_43) (fun _ h9 => h9) rfl d_MD_take_1_109 ?_
              refine lv_iload_n hx hb d_MD_take_1_112 rfl (lv_at hl 1 rfl) ?_
              refine lv_aload_n hx hb d_MD_take_1_113 rfl (lv_at hl 0 rfl) ?_
              refine va_get (D := (dC, dI)) (ci := 10) (v := .ref (q0 23)) (C := "AlarmMatrixModel") (T := T_MD) (N := 42) hx hb hts i_MD hown hK hP 0 rfl rfl 23 (by decide) (hts _ k5_43) (fun _ h9 => h9) rfl d_MD_take_1_114 ?_
              refine lv_bipush (v := (20 : Int32)) hx hb d_MD_take_1_117 (by decide) ?_
              refine lv_iload_n hx hb d_MD_take_1_119 rfl (lv_at hl 1 rfl) ?_
              refine lv_iadd hx hb d_MD_take_1_120 ?_
              obtain ⟨h_121, hm⟩ := ck_s hm
              refine va_iald (f := (e0_107 23)) hx hb hK hP 17 0 rfl rfl h_121 d_MD_take_1_121 ?_
              obtain ⟨h_122, hm⟩ := ck_s hm
              obtain ⟨e0_122, he, hm⟩ := lz_s hm
              refine va_iast (f := (e0_107 23)) hx hb hK hP hD hS 17 0 rfl rfl h_122 d_MD_take_1_122 (fun H locs hP hD hS => ?_)
              have hP : va_P (dC, dI) vwCl (wd_MD g h0 q0 e0_122) H := by rw [he]; exact hP
              have hD : va_D A (wd_MD g h0 q0 e0_122) := by rw [he]; exact hD
              refine lv_aload_n hx hb d_MD_take_1_123 rfl (lv_at hl 0 rfl) ?_
              refine va_get (D := (dC, dI)) (ci := 10) (v := .ref (q0 24)) (C := "AlarmMatrixModel") (T := T_MD) (N := 42) hx hb hts i_MD hown hK hP 0 rfl rfl 24 (by decide) (hts _ k5_44) (fun _ h9 => h9) rfl d_MD_take_1_124 ?_
              refine lv_iload_n hx hb d_MD_take_1_127 rfl (lv_at hl 1 rfl) ?_
              refine lv_aload_n hx hb d_MD_take_1_128 rfl (lv_at hl 0 rfl) ?_
              refine va_get (D := (dC, dI)) (ci := 10) (v := .ref (q0 24)) (C := "AlarmMatrixModel") (T := T_MD) (N := 42) hx hb hts i_MD hown hK hP 0 rfl rfl 24 (by decide) (hts _ k5_44) (fun _ h9 => h9) rfl d_MD_take_1_129 ?_
              refine lv_bipush (v := (20 : Int32)) hx hb d_MD_take_1_132 (by decide) ?_
              refine lv_iload_n hx hb d_MD_take_1_134 rfl (lv_at hl 1 rfl) ?_
              refine lv_iadd hx hb d_MD_take_1_135 ?_
              obtain ⟨h_136, hm⟩ := ck_s hm
              refine va_iald (f := (e0_122 24)) hx hb hK hP 18 0 rfl rfl h_136 d_MD_take_1_136 ?_
              obtain ⟨h_137, hm⟩ := ck_s hm
              obtain ⟨e0_137, he, hm⟩ := lz_s hm
              refine va_iast (f := (e0_122 24)) hx hb hK hP hD hS 18 0 rfl rfl h_137 d_MD_take_1_137 (fun H locs hP hD hS => ?_)
              have hP : va_P (dC, dI) vwCl (wd_MD g h0 q0 e0_137) H := by rw [he]; exact hP
              have hD : va_D A (wd_MD g h0 q0 e0_137) := by rw [he]; exact hD
              refine lv_aload_n hx hb d_MD_take_1_138 rfl (lv_at hl 0 rfl) ?_
              refine va_get (D := (dC, dI)) (ci := 10) (v := .ref (q0 25)) (C := "AlarmMatrixModel") (T := T_MD) (N := 42) hx hb hts i_MD hown hK hP 0 rfl rfl 25 (by decide) (hts _ k5_45) (fun _ h9 => h9) rfl d_MD_take_1_139 ?_
              refine lv_iload_n hx hb d_MD_take_1_142 rfl (lv_at hl 1 rfl) ?_
              refine lv_aload_n hx hb d_MD_take_1_143 rfl (lv_at hl 0 rfl) ?_
              refine va_get (D := (dC, dI)) (ci := 10) (v := .ref (q0 25)) (C := "AlarmMatrixModel") (T := T_MD) (N := 42) hx hb hts i_MD hown hK hP 0 rfl rfl 25 (by decide) (hts _ k5_45) (fun _ h9 => h9) rfl d_MD_take_1_144 ?_
              refine lv_bipush (v := (20 : Int32)) hx hb d_MD_take_1_147 (by decide) ?_
              refine lv_iload_n hx hb d_MD_take_1_149 rfl (lv_at hl 1 rfl) ?_
              refine lv_iadd hx hb d_MD_take_1_150 ?_
              obtain ⟨h_151, hm⟩ := ck_s hm
              refine va_iald (f := (e0_137 25)) hx hb hK hP 19 0 rfl rfl h_151 d_MD_take_1_151 ?_
              obtain ⟨h_152, hm⟩ := ck_s hm
              obtain ⟨e0_152, he, hm⟩ := lz_s hm
              refine va_iast (f := (e0_137 25)) hx hb hK hP hD hS 19 0 rfl rfl h_152 d_MD_take_1_152 (fun H locs hP hD hS => ?_)
              have hP : va_P (dC, dI) vwCl (wd_MD g h0 q0 e0_152) H := by rw [he]; exact hP
              have hD : va_D A (wd_MD g h0 q0 e0_152) := by rw [he]; exact hD
              refine lv_aload_n hx hb d_MD_take_1_153 rfl (lv_at hl 0 rfl) ?_
              refine va_get (D := (dC, dI)) (ci := 10) (v := .ref (q0 26)) (C := "AlarmMatrixModel") (T := T_MD) (N := 42) hx hb hts i_MD hown hK hP 0 rfl rfl 26 (by decide) (hts _ k5_46) (fun _ h9 => h9) rfl d_MD_take_1_154 ?_
              refine lv_iload_n hx hb d_MD_take_1_157 rfl (lv_at hl 1 rfl) ?_
              refine lv_aload_n hx hb d_MD_take_1_158 rfl (lv_at hl 0 rfl) ?_
              refine va_get (D := (dC, dI)) (ci := 10) (v := .ref (q0 26)) (C := "AlarmMatrixModel") (T := T_MD) (N := 42) hx hb hts i_MD hown hK hP 0 rfl rfl 26 (by decide) (hts _ k5_46) (fun _ h9 => h9) rfl d_MD_take_1_159 ?_
              refine lv_bipush (v := (20 : Int32)) hx hb d_MD_take_1_162 (by decide) ?_
              refine lv_iload_n hx hb d_MD_take_1_164 rfl (lv_at hl 1 rfl) ?_
              refine lv_iadd hx hb d_MD_take_1_165 ?_
              obtain ⟨h_166, hm⟩ := ck_s hm
              refine va_zald (f := (e0_152 26)) hx hb hK hP 20 1 rfl rfl h_166 d_MD_take_1_166 ?_
              obtain ⟨h_167, hm⟩ := ck_s hm
              obtain ⟨e0_167, he, hm⟩ := lz_s hm
              refine va_zast (f := (e0_152 26)) hx hb hK hP hD hS 20 1 rfl rfl h_167 d_MD_take_1_167 (fun H locs hP hD hS => ?_)
              have hP : va_P (dC, dI) vwCl (wd_MD g h0 q0 e0_167) H := by rw [he]; exact hP
              have hD : va_D A (wd_MD g h0 q0 e0_167) := by rw [he]; exact hD
              refine lv_aload_n hx hb d_MD_take_1_168 rfl (lv_at hl 0 rfl) ?_
              refine lv_iload_n hx hb d_MD_take_1_169 rfl (lv_at hl 1 rfl) ?_
              obtain ⟨z0_170, hcl, hm⟩ := bn1_s hm
              refine kcv (wc := wd_MD g h0 q0 e0_167) (wr := ([] : va_W)) (w1 := wd_MD g h0 q0 z0_170) hP hD hS hA [0, 1, 2, 3, 4, 5, 6, 7, 8, 9, 10, 11, 12, 13, 14, 15, 16, 17, 18, 19, 20, 21, 22, 23, 24, 25, 26, 27, 28, 29, 30, 31] [] rfl rfl (by decide) (by decide) (va_runV (As := [.int v1_2]) (rest := []) ⟨hx, hb, hml, hown, hts⟩ (c_MD_rests hG hGn l dC dI g F H.size h0 q0 e0_167 v1_2 hcl) (cwV 1 hts (gdV k6_33 k6_35 kp_43 k1_10 k6_36) rfl rfl rfl (by decide +kernel) ⟨Nat.le_of_ble_eq_true rfl, Nat.le_of_ble_eq_true rfl⟩) (kpV hG hP hK hD hS hA hGA [0, 1, 2, 3, 4, 5, 6, 7, 8, 9, 10, 11, 12, 13, 14, 15, 16, 17, 18, 19, 20, 21, 22, 23, 24, 25, 26, 27, 28, 29, 30, 31] (by decide) rfl (ci := 10) (q0 := 0) rfl rfl rfl) rfl rfl hl.1 rfl (lv_room (Nat.le_of_ble_eq_true rfl)) d_MD_take_1_170 ⟨Nat.le_of_ble_eq_true rfl, Nat.le_of_ble_eq_true rfl⟩) (fun H locs hP hD hS => ?_)
              have hP : va_P (dC, dI) vwCl (wd_MD g h0 q0 z0_170) H := hP
              have hD : va_D A (wd_MD g h0 q0 z0_170) := hD
              refine lv_iinc (v := (v1_2 + (1 : Int32))) (lv' := [(1, .int (v1_2 + (1 : Int32))), (0, .ref h0), (2, .int v2_55)]) hx hb d_MD_take_1_173 hl (k := 1) rfl rfl (by decide) rfl (fun ls hl => ?_)
              refine lv_goto (tgt := 2) hx hb d_MD_take_1_176 (by decide) ?_
              exact ih2 (v1_2 + (1 : Int32)) z0_170 H locs ls hm hP hD hS (lv_sub hl [1, 0] rfl)
            · replace hm := if_f hm hc
              refine lv_aload_n hx hb d_MD_take_1_61 rfl (lv_at hl 0 rfl) ?_
              refine va_get (D := (dC, dI)) (ci := 10) (v := .ref (q0 21)) (C := "AlarmMatrixModel") (T := T_MD) (N := 42) hx hb hts i_MD hown hK hP 0 rfl rfl 21 (by decide) (hts _ k5_41) (fun _ h9 => h9) rfl d_MD_take_1_62 ?_
              refine lv_bipush (v := (12 : Int32)) hx hb d_MD_take_1_65 (by decide) ?_
              refine lv_iload_n hx hb d_MD_take_1_67 rfl (lv_at hl 1 rfl) ?_
              refine lv_imul hx hb d_MD_take_1_68 ?_
              refine lv_iload_n hx hb d_MD_take_1_69 rfl (lv_at hl 2 rfl) ?_
              refine lv_iadd hx hb d_MD_take_1_70 ?_
              refine lv_aload_n hx hb d_MD_take_1_71 rfl (lv_at hl 0 rfl) ?_
              refine va_get (D := (dC, dI)) (ci := 10) (v := .ref (q0 21)) (C := "AlarmMatrixModel") (T := T_MD) (N := 42) hx hb hts i_MD hown hK hP 0 rfl rfl 21 (by decide) (hts _ k5_41) (fun _ h9 => h9) rfl d_MD_take_1_72 ?_
              refine lv_sipush (v := (240 : Int32)) hx hb d_MD_take_1_75 (by decide) ?_
              refine lv_bipush (v := (12 : Int32)) hx hb d_MD_take_1_78 (by decide) ?_
              refine lv_iload_n hx hb d_MD_take_1_80 rfl (lv_at hl 1 rfl) ?_
              refine lv_imul hx hb d_MD_take_1_81 ?_
              refine lv_iadd hx hb d_MD_take_1_82 ?_
              refine lv_iload_n hx hb d_MD_take_1_83 rfl (lv_at hl 2 rfl) ?_
              refine lv_iadd hx hb d_MD_take_1_84 ?_
              obtain ⟨h_85, hm⟩ := ck_s hm
              refine va_iald (f := (y0_55 21)) hx hb hK hP 15 0 rfl rfl h_85 d_MD_take_1_85 ?_
              obtain ⟨h_86, hm⟩ := ck_s hm
              obtain ⟨e0_86, he, hm⟩ := lz_s hm
              refine va_iast (f := (y0_55 21)) hx hb hK hP hD hS 15 0 rfl rfl h_86 d_MD_take_1_86 (fun H locs hP hD hS => ?_)
              have hP : va_P (dC, dI) vwCl (wd_MD g h0 q0 e0_86) H := by rw [he]; exact hP
              have hD : va_D A (wd_MD g h0 q0 e0_86) := by rw [he]; exact hD
              refine lv_iinc (v := (v2_55 + (1 : Int32))) (lv' := [(2, .int (v2_55 + (1 : Int32))), (0, .ref h0), (1, .int v1_2)]) hx hb d_MD_take_1_87 hl (k := 2) rfl rfl (by decide) rfl (fun ls hl => ?_)
              refine lv_goto (tgt := 55) hx hb d_MD_take_1_90 (by decide) ?_
              exact ih55 (v2_55 + (1 : Int32)) e0_86 H locs ls hm hP hD hS (lv_sub hl [1, 2, 0] rfl)
        exact L55 F (0 : Int32) e0_52 H locs ls hm hP hD hS (lv_sub hl [1, 2, 0] rfl)
  exact L2 F (0 : Int32) x0 H locs ls hm hP hD hS (lv_sub hl [1, 0] rfl)

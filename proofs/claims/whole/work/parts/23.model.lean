abbrev b_MD_read : ByteArray := prog_12_method_30_code
abbrev y_MD_read : MethodName := ⟨"AlarmMatrixModel", "read", "()I"⟩
theorem d_MD_read_0 : decode b_MD_read 0 = .ok (.aload_n 0, 1) := by decide +kernel
theorem d_MD_read_1 : decode b_MD_read 1 = .ok (.iconst 0, 1) := by decide +kernel
theorem d_MD_read_2 : decode b_MD_read 2 = .ok (.putfield 108, 3) := by decide +kernel
theorem d_MD_read_5 : decode b_MD_read 5 = .ok (.aload_n 0, 1) := by decide +kernel
theorem d_MD_read_6 : decode b_MD_read 6 = .ok (.invokevirtual 212, 3) := by decide +kernel
theorem d_MD_read_9 : decode b_MD_read 9 = .ok (.aload_n 0, 1) := by decide +kernel
theorem d_MD_read_10 : decode b_MD_read 10 = .ok (.iconst 0, 1) := by decide +kernel
theorem d_MD_read_11 : decode b_MD_read 11 = .ok (.putfield 160, 3) := by decide +kernel
theorem d_MD_read_14 : decode b_MD_read 14 = .ok (.aload_n 0, 1) := by decide +kernel
theorem d_MD_read_15 : decode b_MD_read 15 = .ok (.iconst (-1), 1) := by decide +kernel
theorem d_MD_read_16 : decode b_MD_read 16 = .ok (.putfield 163, 3) := by decide +kernel
theorem d_MD_read_19 : decode b_MD_read 19 = .ok (.aload_n 0, 1) := by decide +kernel
theorem d_MD_read_20 : decode b_MD_read 20 = .ok (.iconst 0, 1) := by decide +kernel
theorem d_MD_read_21 : decode b_MD_read 21 = .ok (.putfield 197, 3) := by decide +kernel
theorem d_MD_read_24 : decode b_MD_read 24 = .ok (.bipush 20, 2) := by decide +kernel
theorem d_MD_read_26 : decode b_MD_read 26 = .ok (.istore_n 1, 1) := by decide +kernel
theorem d_MD_read_27 : decode b_MD_read 27 = .ok (.iload_n 1, 1) := by decide +kernel
theorem d_MD_read_28 : decode b_MD_read 28 = .ok (.bipush 40, 2) := by decide +kernel
theorem d_MD_read_30 : decode b_MD_read 30 = .ok (.if_icmp .ge 23, 3) := by decide +kernel
theorem d_MD_read_33 : decode b_MD_read 33 = .ok (.aload_n 0, 1) := by decide +kernel
theorem d_MD_read_34 : decode b_MD_read 34 = .ok (.getfield 44, 3) := by decide +kernel
theorem d_MD_read_37 : decode b_MD_read 37 = .ok (.iload_n 1, 1) := by decide +kernel
theorem d_MD_read_38 : decode b_MD_read 38 = .ok (.iconst 0, 1) := by decide +kernel
theorem d_MD_read_39 : decode b_MD_read 39 = .ok (.bastore, 1) := by decide +kernel
theorem d_MD_read_40 : decode b_MD_read 40 = .ok (.aload_n 0, 1) := by decide +kernel
theorem d_MD_read_41 : decode b_MD_read 41 = .ok (.getfield 56, 3) := by decide +kernel
theorem d_MD_read_44 : decode b_MD_read 44 = .ok (.iload_n 1, 1) := by decide +kernel
theorem d_MD_read_45 : decode b_MD_read 45 = .ok (.iconst 0, 1) := by decide +kernel
theorem d_MD_read_46 : decode b_MD_read 46 = .ok (.bastore, 1) := by decide +kernel
theorem d_MD_read_47 : decode b_MD_read 47 = .ok (.iinc 1 1, 3) := by decide +kernel
theorem d_MD_read_50 : decode b_MD_read 50 = .ok (.goto (-23), 3) := by decide +kernel
theorem d_MD_read_53 : decode b_MD_read 53 = .ok (.aload_n 0, 1) := by decide +kernel
theorem d_MD_read_54 : decode b_MD_read 54 = .ok (.getfield 160, 3) := by decide +kernel
theorem d_MD_read_57 : decode b_MD_read 57 = .ok (.aload_n 0, 1) := by decide +kernel
theorem d_MD_read_58 : decode b_MD_read 58 = .ok (.getfield 153, 3) := by decide +kernel
theorem d_MD_read_61 : decode b_MD_read 61 = .ok (.if_icmp .ge 17, 3) := by decide +kernel
theorem d_MD_read_64 : decode b_MD_read 64 = .ok (.aload_n 0, 1) := by decide +kernel
theorem d_MD_read_65 : decode b_MD_read 65 = .ok (.getfield 163, 3) := by decide +kernel
theorem d_MD_read_68 : decode b_MD_read 68 = .ok (.ifCond .ge 10, 3) := by decide +kernel
theorem d_MD_read_71 : decode b_MD_read 71 = .ok (.aload_n 0, 1) := by decide +kernel
theorem d_MD_read_72 : decode b_MD_read 72 = .ok (.invokevirtual 215, 3) := by decide +kernel
theorem d_MD_read_75 : decode b_MD_read 75 = .ok (.goto (-22), 3) := by decide +kernel
theorem d_MD_read_78 : decode b_MD_read 78 = .ok (.aload_n 0, 1) := by decide +kernel
theorem d_MD_read_79 : decode b_MD_read 79 = .ok (.getfield 163, 3) := by decide +kernel
theorem d_MD_read_82 : decode b_MD_read 82 = .ok (.ifCond .lt 10, 3) := by decide +kernel
theorem d_MD_read_85 : decode b_MD_read 85 = .ok (.iconst (-1), 1) := by decide +kernel
theorem d_MD_read_86 : decode b_MD_read 86 = .ok (.aload_n 0, 1) := by decide +kernel
theorem d_MD_read_87 : decode b_MD_read 87 = .ok (.getfield 163, 3) := by decide +kernel
theorem d_MD_read_90 : decode b_MD_read 90 = .ok (.isub, 1) := by decide +kernel
theorem d_MD_read_91 : decode b_MD_read 91 = .ok (.ireturn, 1) := by decide +kernel
theorem d_MD_read_92 : decode b_MD_read 92 = .ok (.aload_n 0, 1) := by decide +kernel
theorem d_MD_read_93 : decode b_MD_read 93 = .ok (.invokevirtual 218, 3) := by decide +kernel
theorem d_MD_read_96 : decode b_MD_read 96 = .ok (.aload_n 0, 1) := by decide +kernel
theorem d_MD_read_97 : decode b_MD_read 97 = .ok (.getfield 220, 3) := by decide +kernel
theorem d_MD_read_100 : decode b_MD_read 100 = .ok (.ireturn, 1) := by decide +kernel
def m_MD_read_B27 {R : Type} (F : Nat)  (k27_53 : Int32 → St → Option R) (rec27 : Int32 → St → Option R) (v1_27 : Int32) (y0_27 : St) : Option R :=
  (if (40 : Int32) ≤ v1_27 then (k27_53 v1_27 y0_27) else (ck v1_27 40 (lz (st y0_27 18 (upd (y0_27 18) v1_27.toNatClampNeg (vp_nar .boolean (0 : Int32)))) (fun e0_39 => (ck v1_27 40 (lz (st e0_39 22 (upd (e0_39 22) v1_27.toNatClampNeg (vp_nar .boolean (0 : Int32)))) (fun e0_46 => (rec27 (v1_27 + (1 : Int32)) e0_46))))))))
theorem m_MD_read_B27_h {R : Type} {F : Nat}  {k27_53 : Int32 → St → Option R} {rec27 : Int32 → St → Option R} {v1_27 : Int32} {y0_27 : St} {o : R} (h : m_MD_read_B27 F k27_53 rec27 v1_27 y0_27 = some o) :
  (if (40 : Int32) ≤ v1_27 then (k27_53 v1_27 y0_27) else (ck v1_27 40 (lz (st y0_27 18 (upd (y0_27 18) v1_27.toNatClampNeg (vp_nar .boolean (0 : Int32)))) (fun e0_39 => (ck v1_27 40 (lz (st e0_39 22 (upd (e0_39 22) v1_27.toNatClampNeg (vp_nar .boolean (0 : Int32)))) (fun e0_46 => (rec27 (v1_27 + (1 : Int32)) e0_46)))))))) = some o := h
def m_MD_read_B53 {R : Type} (F : Nat)  (k53_78 : St → Option R) (rec53 : St → Option R) (y0_53 : St) : Option R :=
  (if (y0_53 13 0) ≤ (y0_53 16 0) then (k53_78 y0_53) else (if (0 : Int32) ≤ (y0_53 17 0) then (k53_78 y0_53) else (bn1 (m_MD_readSentence F y0_53) (fun z0_72 => (rec53 z0_72)))))
theorem m_MD_read_B53_h {R : Type} {F : Nat}  {k53_78 : St → Option R} {rec53 : St → Option R} {y0_53 : St} {o : R} (h : m_MD_read_B53 F k53_78 rec53 y0_53 = some o) :
  (if (y0_53 13 0) ≤ (y0_53 16 0) then (k53_78 y0_53) else (if (0 : Int32) ≤ (y0_53 17 0) then (k53_78 y0_53) else (bn1 (m_MD_readSentence F y0_53) (fun z0_72 => (rec53 z0_72))))) = some o := h
def m_MD_read (F : Nat) (x0 : St) : Option (Int32 × St) :=
  (lz (sc x0 0 (0 : Int32)) (fun e0_2 => (bn1 (m_MD_list F e0_2) (fun z0_6 => (lz (sc z0_6 16 (0 : Int32)) (fun e0_11 => (lz (sc e0_11 17 (-1 : Int32)) (fun e0_16 => (lz (sc e0_16 28 (0 : Int32)) (fun e0_21 => (lq2 (m_MD_read_B27 F  (fun v1_27 y0_27 => (lq1 (m_MD_read_B53 F  (fun y0_53 => (if (y0_53 17 0) < (0 : Int32) then (bn1 (m_MD_take_1 F y0_53) (fun z0_93 => (some ((z0_93 27 0), z0_93)))) else (some (((-1 : Int32) - (y0_53 17 0)), y0_53))))) F y0_27))) F (20 : Int32) e0_21)))))))))))
abbrev rm_MD_read : Room := { frames := 5, cells := 0, slots := 0, locals := 115 }
set_option maxHeartbeats 4000000 in
set_option maxRecDepth 100000 in
theorem c_MD_read {G : (Nat → Prop) → State → Prop} (hG : gok G) (hGn : gN G) (l : Launch) (dC : Nat → ClassId) (dI : Nat → Nat → Nat) (g : Nat → ClassId) (F : Nat) (sz : Nat) (h0 : Nat) (q0 : Nat → Nat) (x0 : St) {o : Int32 × St} (hm : m_MD_read F x0 = some o) : Met l y_MD_read (.code y_MD_read b_MD_read 2 (some .int) :: gw) rm_MD_read (kq (dC, dI) vwCl (tyv g) G [.ref h0] sz (wd_MD g h0 q0 x0)) (kqi (dC, dI) vwCl (tyv g) (wd_MD g h0 q0 x0) o.1 (wd_MD g h0 q0 (o.2)) sz) 0 0 (va_A (wd_MD g h0 q0 x0) sz) := by
  unfold m_MD_read at hm
  refine km (Qc := fun sz => kqi (dC, dI) vwCl (tyv g) (wd_MD g h0 q0 x0) o.1 (wd_MD g h0 q0 (o.2)) sz) (cc := b_MD_read) (maxL := 2) (ret := some .int) (by decide) rfl (Nat.le_of_ble_eq_true rfl) ?_
  intro p e s m args below meth c Q hQ hx hb hr hts hown hlocks hml hnm H locs A hAe hA hP hK hD hS hGA ls hl
  have hl : lv_has ls 2 [(0, .ref h0)] := hl
  have hts : ∀ w ∈ gw, w.before args s = true := fun w h => hts w (List.mem_cons_of_mem _ h)
  have hown : s.vm.findClass "AlarmMatrixModel" = some m.cls := hown
  refine lv_aload_n hx hb d_MD_read_0 rfl (lv_at hl 0 rfl) ?_
  refine lv_iconst (v := (0 : Int32)) hx hb d_MD_read_1 (by decide) ?_
  obtain ⟨e0_2, he, hm⟩ := lz_s hm
  refine va_put (D := (dC, dI)) (ci := 10) (v := .int (0 : Int32)) (ty := .int) (C := "AlarmMatrixModel") (T := T_MD) (N := 42) hx hb hts i_MD t_MD o_MD n_MD hown hK hP hD hS 0 rfl rfl 0 (by decide) (hts _ k5_20) (fun _ h9 => h9) rfl (by decide +kernel) rfl rfl (Nat.le_of_ble_eq_true rfl) d_MD_read_2 (fun H locs hP hD hS => ?_)
  have hP : va_P (dC, dI) vwCl (wd_MD g h0 q0 e0_2) H := by rw [he]; exact hP
  have hD : va_D A (wd_MD g h0 q0 e0_2) := by rw [he]; exact hD
  refine lv_aload_n hx hb d_MD_read_5 rfl (lv_at hl 0 rfl) ?_
  obtain ⟨z0_6, hcl, hm⟩ := bn1_s hm
  refine kcv (wc := wd_MD g h0 q0 e0_2) (wr := ([] : va_W)) (w1 := wd_MD g h0 q0 z0_6) hP hD hS hA [0, 1, 2, 3, 4, 5, 6, 7, 8, 9, 10, 11, 12, 13, 14, 15, 16, 17, 18, 19, 20, 21, 22, 23, 24, 25, 26, 27, 28, 29, 30, 31] [] rfl rfl (by decide) (by decide) (va_runV (As := []) (rest := []) ⟨hx, hb, hml, hown, hts⟩ (c_MD_list hG hGn l dC dI g F H.size h0 q0 e0_2 hcl) (cwV 0 hts (gdV k5_206 k5_208 kp_27 k1_10 k5_209) rfl rfl rfl (by decide +kernel) ⟨Nat.le_of_ble_eq_true rfl, Nat.le_of_ble_eq_true rfl⟩) (kpV hG hP hK hD hS hA hGA [0, 1, 2, 3, 4, 5, 6, 7, 8, 9, 10, 11, 12, 13, 14, 15, 16, 17, 18, 19, 20, 21, 22, 23, 24, 25, 26, 27, 28, 29, 30, 31] (by decide) rfl (ci := 10) (q0 := 0) rfl rfl rfl) rfl rfl hl.1 rfl (lv_room (Nat.le_of_ble_eq_true rfl)) d_MD_read_6 ⟨Nat.le_of_ble_eq_true rfl, Nat.le_of_ble_eq_true rfl⟩) (fun H locs hP hD hS => ?_)
  have hP : va_P (dC, dI) vwCl (wd_MD g h0 q0 z0_6) H := hP
  have hD : va_D A (wd_MD g h0 q0 z0_6) := hD
  refine lv_aload_n hx hb d_MD_read_9 rfl (lv_at hl 0 rfl) ?_
  refine lv_iconst (v := (0 : Int32)) hx hb d_MD_read_10 (by decide) ?_
  obtain ⟨e0_11, he, hm⟩ := lz_s hm
  refine va_put (D := (dC, dI)) (ci := 10) (v := .int (0 : Int32)) (ty := .int) (C := "AlarmMatrixModel") (T := T_MD) (N := 42) hx hb hts i_MD t_MD o_MD n_MD hown hK hP hD hS 0 rfl rfl 16 (by decide) (hts _ k5_36) (fun _ h9 => h9) rfl (by decide +kernel) rfl rfl (Nat.le_of_ble_eq_true rfl) d_MD_read_11 (fun H locs hP hD hS => ?_)
  have hP : va_P (dC, dI) vwCl (wd_MD g h0 q0 e0_11) H := by rw [he]; exact hP
  have hD : va_D A (wd_MD g h0 q0 e0_11) := by rw [he]; exact hD
  refine lv_aload_n hx hb d_MD_read_14 rfl (lv_at hl 0 rfl) ?_
  refine lv_iconst (v := (-1 : Int32)) hx hb d_MD_read_15 (by decide) ?_
  obtain ⟨e0_16, he, hm⟩ := lz_s hm
  refine va_put (D := (dC, dI)) (ci := 10) (v := .int (-1 : Int32)) (ty := .int) (C := "AlarmMatrixModel") (T := T_MD) (N := 42) hx hb hts i_MD t_MD o_MD n_MD hown hK hP hD hS 0 rfl rfl 17 (by decide) (hts _ k5_37) (fun _ h9 => h9) rfl (by decide +kernel) rfl rfl (Nat.le_of_ble_eq_true rfl) d_MD_read_16 (fun H locs hP hD hS => ?_)
  have hP : va_P (dC, dI) vwCl (wd_MD g h0 q0 e0_16) H := by rw [he]; exact hP
  have hD : va_D A (wd_MD g h0 q0 e0_16) := by rw [he]; exact hD
  refine lv_aload_n hx hb d_MD_read_19 rfl (lv_at hl 0 rfl) ?_
  refine lv_iconst (v := (0 : Int32)) hx hb d_MD_read_20 (by decide) ?_
  obtain ⟨e0_21, he, hm⟩ := lz_s hm
  refine va_put (D := (dC, dI)) (ci := 10) (v := .int (0 : Int32)) (ty := .int) (C := "AlarmMatrixModel") (T := T_MD) (N := 42) hx hb hts i_MD t_MD o_MD n_MD hown hK hP hD hS 0 rfl rfl 28 (by decide) (hts _ k5_48) (fun _ h9 => h9) rfl (by decide +kernel) rfl rfl (Nat.le_of_ble_eq_true rfl) d_MD_read_21 (fun H locs hP hD hS => ?_)
  have hP : va_P (dC, dI) vwCl (wd_MD g h0 q0 e0_21) H := by rw [he]; exact hP
  have hD : va_D A (wd_MD g h0 q0 e0_21) := by rw [he]; exact hD
  refine lv_bipush (v := (20 : Int32)) hx hb d_MD_read_24 (by decide) ?_
  refine lv_istore_n (lv' := [(1, .int (20 : Int32)), (0, .ref h0)]) hx hb d_MD_read_26 rfl hl (by decide) rfl (fun ls hl => ?_)
  have L27 : ∀ (n27 : Nat) (v1_27 : Int32) (y0_27 : St) (H : Heap) (locs : List Loc) (ls : Array Slot), lq2 (m_MD_read_B27 F  (fun v1_27 y0_27 => (lq1 (m_MD_read_B53 F  (fun y0_53 => (if (y0_53 17 0) < (0 : Int32) then (bn1 (m_MD_take_1 F y0_53) (fun z0_93 => (some ((z0_93 27 0), z0_93)))) else (some (((-1 : Int32) - (y0_53 17 0)), y0_53))))) F y0_27))) n27 v1_27 y0_27 = some o → va_P (dC, dI) vwCl (wd_MD g h0 q0 y0_27) H → va_D A (wd_MD g h0 q0 y0_27) → va_S A s.heap H locs → lv_has ls 2 [(0, .ref h0), (1, .int v1_27)] → W p l e rm_MD_read s m args below meth c H locs 0 0 Q (F0 m 27 ls []) := by
    intro n27
    induction n27 with
    | zero => intro v1_27 y0_27 H locs ls hm; exact absurd hm (by intro z; cases z)
    | succ n27 ih27 =>
      intro v1_27 y0_27 H locs ls hm hP hD hS hl
      replace hm := m_MD_read_B27_h (lq2_h hm)
      refine lv_iload_n hx hb d_MD_read_27 rfl (lv_at hl 1 rfl) ?_
      refine lv_bipush (v := (40 : Int32)) hx hb d_MD_read_28 (by decide) ?_
      refine lv_icmp_ge (tgt := 53) hx hb d_MD_read_30 (by decide) (fun hc => ?_) (fun hc => ?_)
      · replace hm := if_t hm hc
        have L53 : ∀ (n53 : Nat) (y0_53 : St) (H : Heap) (locs : List Loc) (ls : Array Slot), lq1 (m_MD_read_B53 F  (fun y0_53 => (if (y0_53 17 0) < (0 : Int32) then (bn1 (m_MD_take_1 F y0_53) (fun z0_93 => (some ((z0_93 27 0), z0_93)))) else (some (((-1 : Int32) - (y0_53 17 0)), y0_53))))) n53 y0_53 = some o → va_P (dC, dI) vwCl (wd_MD g h0 q0 y0_53) H → va_D A (wd_MD g h0 q0 y0_53) → va_S A s.heap H locs → lv_has ls 2 [(0, .ref h0), (1, .int v1_27)] → W p l e rm_MD_read s m args below meth c H locs 0 0 Q (F0 m 53 ls []) := by
          intro n53
          induction n53 with
          | zero => intro y0_53 H locs ls hm; exact absurd hm (by intro z; cases z)
          | succ n53 ih53 =>
            intro y0_53 H locs ls hm hP hD hS hl
            replace hm := m_MD_read_B53_h (lq1_h hm)
            refine lv_aload_n hx hb d_MD_read_53 rfl (lv_at hl 0 rfl) ?_
            refine va_get (D := (dC, dI)) (ci := 10) (v := .int (y0_53 16 0)) (C := "AlarmMatrixModel") (T := T_MD) (N := 42) hx hb hts i_MD hown hK hP 0 rfl rfl 16 (by decide) (hts _ k5_36) (fun _ h9 => h9) rfl d_MD_read_54 ?_
            refine lv_aload_n hx hb d_MD_read_57 rfl (lv_at hl 0 rfl) ?_
            refine va_get (D := (dC, dI)) (ci := 10) (v := .int (y0_53 13 0)) (C := "AlarmMatrixModel") (T := T_MD) (N := 42) hx hb hts i_MD hown hK hP 0 rfl rfl 13 (by decide) (hts _ k5_33) (fun _ h9 => h9) rfl d_MD_read_58 ?_
            refine lv_icmp_ge (tgt := 78) hx hb d_MD_read_61 (by decide) (fun hc => ?_) (fun hc => ?_)
            · replace hm := if_t hm hc
              refine lv_aload_n hx hb d_MD_read_78 rfl (lv_at hl 0 rfl) ?_
              refine va_get (D := (dC, dI)) (ci := 10) (v := .int (y0_53 17 0)) (C := "AlarmMatrixModel") (T := T_MD) (N := 42) hx hb hts i_MD hown hK hP 0 rfl rfl 17 (by decide) (hts _ k5_37) (fun _ h9 => h9) rfl d_MD_read_79 ?_
              refine lv_if_lt (tgt := 92) hx hb d_MD_read_82 (by decide) (fun hc => ?_) (fun hc => ?_)
              · replace hm := if_t hm hc
                refine lv_aload_n hx hb d_MD_read_92 rfl (lv_at hl 0 rfl) ?_
                obtain ⟨z0_93, hcl, hm⟩ := bn1_s hm
                refine kcv (wc := wd_MD g h0 q0 y0_53) (wr := ([] : va_W)) (w1 := wd_MD g h0 q0 z0_93) hP hD hS hA [0, 1, 2, 3, 4, 5, 6, 7, 8, 9, 10, 11, 12, 13, 14, 15, 16, 17, 18, 19, 20, 21, 22, 23, 24, 25, 26, 27, 28, 29, 30, 31] [] rfl rfl (by decide) (by decide) (va_runV (As := []) (rest := []) ⟨hx, hb, hml, hown, hts⟩ (c_MD_take_1 hG hGn l dC dI g F H.size h0 q0 y0_53 hcl) (cwV 0 hts (gdV k6_29 k6_31 kp_42 k1_10 k6_32) rfl rfl rfl (by decide +kernel) ⟨Nat.le_of_ble_eq_true rfl, Nat.le_of_ble_eq_true rfl⟩) (kpV hG hP hK hD hS hA hGA [0, 1, 2, 3, 4, 5, 6, 7, 8, 9, 10, 11, 12, 13, 14, 15, 16, 17, 18, 19, 20, 21, 22, 23, 24, 25, 26, 27, 28, 29, 30, 31] (by decide) rfl (ci := 10) (q0 := 0) rfl rfl rfl) rfl rfl hl.1 rfl (lv_room (Nat.le_of_ble_eq_true rfl)) d_MD_read_93 ⟨Nat.le_of_ble_eq_true rfl, Nat.le_of_ble_eq_true rfl⟩) (fun H locs hP hD hS => ?_)
                have hP : va_P (dC, dI) vwCl (wd_MD g h0 q0 z0_93) H := hP
                have hD : va_D A (wd_MD g h0 q0 z0_93) := hD
                refine lv_aload_n hx hb d_MD_read_96 rfl (lv_at hl 0 rfl) ?_
                refine va_get (D := (dC, dI)) (ci := 10) (v := .int (z0_93 27 0)) (C := "AlarmMatrixModel") (T := T_MD) (N := 42) hx hb hts i_MD hown hK hP 0 rfl rfl 27 (by decide) (hts _ k5_47) (fun _ h9 => h9) rfl d_MD_read_97 ?_
                obtain rfl := Option.some.inj hm
                rw [hQ]
                exact kri hx hb hr hlocks hAe hP hK hD hS d_MD_read_100
              · replace hm := if_f hm hc
                refine lv_iconst (v := (-1 : Int32)) hx hb d_MD_read_85 (by decide) ?_
                refine lv_aload_n hx hb d_MD_read_86 rfl (lv_at hl 0 rfl) ?_
                refine va_get (D := (dC, dI)) (ci := 10) (v := .int (y0_53 17 0)) (C := "AlarmMatrixModel") (T := T_MD) (N := 42) hx hb hts i_MD hown hK hP 0 rfl rfl 17 (by decide) (hts _ k5_37) (fun _ h9 => h9) rfl d_MD_read_87 ?_
                refine lv_isub hx hb d_MD_read_90 ?_
                obtain rfl := Option.some.inj hm
                rw [hQ]
                exact kri hx hb hr hlocks hAe hP hK hD hS d_MD_read_91
            · replace hm := if_f hm hc
              refine lv_aload_n hx hb d_MD_read_64 rfl (lv_at hl 0 rfl) ?_
              refine va_get (D := (dC, dI)) (ci := 10) (v := .int (y0_53 17 0)) (C := "AlarmMatrixModel") (T := T_MD) (N := 42) hx hb hts i_MD hown hK hP 0 rfl rfl 17 (by decide) (hts _ k5_37) (fun _ h9 => h9) rfl d_MD_read_65 ?_
              refine lv_if_ge (tgt := 78) hx hb d_MD_read_68 (by decide) (fun hc => ?_) (fun hc => ?_)
              · replace hm := if_t hm hc
                refine lv_aload_n hx hb d_MD_read_78 rfl (lv_at hl 0 rfl) ?_
                refine va_get (D := (dC, dI)) (ci := 10) (v := .int (y0_53 17 0)) (C := "AlarmMatrixModel") (T := T_MD) (N := 42) hx hb hts i_MD hown hK hP 0 rfl rfl 17 (by decide) (hts _ k5_37) (fun _ h9 => h9) rfl d_MD_read_79 ?_
                refine lv_if_lt (tgt := 92) hx hb d_MD_read_82 (by decide) (fun hc => ?_) (fun hc => ?_)
                · replace hm := if_t hm hc
                  refine lv_aload_n hx hb d_MD_read_92 rfl (lv_at hl 0 rfl) ?_
                  obtain ⟨z0_93, hcl, hm⟩ := bn1_s hm
                  refine kcv (wc := wd_MD g h0 q0 y0_53) (wr := ([] : va_W)) (w1 := wd_MD g h0 q0 z0_93) hP hD hS hA [0, 1, 2, 3, 4, 5, 6, 7, 8, 9, 10, 11, 12, 13, 14, 15, 16, 17, 18, 19, 20, 21, 22, 23, 24, 25, 26, 27, 28, 29, 30, 31] [] rfl rfl (by decide) (by decide) (va_runV (As := []) (rest := []) ⟨hx, hb, hml, hown, hts⟩ (c_MD_take_1 hG hGn l dC dI g F H.size h0 q0 y0_53 hcl) (cwV 0 hts (gdV k6_29 k6_31 kp_42 k1_10 k6_32) rfl rfl rfl (by decide +kernel) ⟨Nat.le_of_ble_eq_true rfl, Nat.le_of_ble_eq_true rfl⟩) (kpV hG hP hK hD hS hA hGA [0, 1, 2, 3, 4, 5, 6, 7, 8, 9, 10, 11, 12, 13, 14, 15, 16, 17, 18, 19, 20, 21, 22, 23, 24, 25, 26, 27, 28, 29, 30, 31] (by decide) rfl (ci := 10) (q0 := 0) rfl rfl rfl) rfl rfl hl.1 rfl (lv_room (Nat.le_of_ble_eq_true rfl)) d_MD_read_93 ⟨Nat.le_of_ble_eq_true rfl, Nat.le_of_ble_eq_true rfl⟩) (fun H locs hP hD hS => ?_)
                  have hP : va_P (dC, dI) vwCl (wd_MD g h0 q0 z0_93) H := hP
                  have hD : va_D A (wd_MD g h0 q0 z0_93) := hD
                  refine lv_aload_n hx hb d_MD_read_96 rfl (lv_at hl 0 rfl) ?_
                  refine va_get (D := (dC, dI)) (ci := 10) (v := .int (z0_93 27 0)) (C := "AlarmMatrixModel") (T := T_MD) (N := 42) hx hb hts i_MD hown hK hP 0 rfl rfl 27 (by decide) (hts _ k5_47) (fun _ h9 => h9) rfl d_MD_read_97 ?_
                  obtain rfl := Option.some.inj hm
                  rw [hQ]
                  exact kri hx hb hr hlocks hAe hP hK hD hS d_MD_read_100
                · replace hm := if_f hm hc
                  refine lv_iconst (v := (-1 : Int32)) hx hb d_MD_read_85 (by decide) ?_
                  refine lv_aload_n hx hb d_MD_read_86 rfl (lv_at hl 0 rfl) ?_
                  refine va_get (D := (dC, dI)) (ci := 10) (v := .int (y0_53 17 0)) (C := "AlarmMatrixModel") (T := T_MD) (N := 42) hx hb hts i_MD hown hK hP 0 rfl rfl 17 (by decide) (hts _ k5_37) (fun _ h9 => h9) rfl d_MD_read_87 ?_
                  refine lv_isub hx hb d_MD_read_90 ?_
                  obtain rfl := Option.some.inj hm
                  rw [hQ]
                  exact kri hx hb hr hlocks hAe hP hK hD hS d_MD_read_91
              · replace hm := if_f hm hc
                refine lv_aload_n hx hb d_MD_read_71 rfl (lv_at hl 0 rfl) ?_
                obtain ⟨z0_72, hcl, hm⟩ := bn1_s hm
                refine kcv (wc := wd_MD g h0 q0 y0_53) (wr := ([] : va_W)) (w1 := wd_MD g h0 q0 z0_72) hP hD hS hA [0, 1, 2, 3, 4, 5, 6, 7, 8, 9, 10, 11, 12, 13, 14, 15, 16, 17, 18, 19, 20, 21, 22, 23, 24, 25, 26, 27, 28, 29, 30, 31] [] rfl rfl (by decide) (by decide) (va_runV (As := []) (rest := []) ⟨hx, hb, hml, hown, hts⟩ (c_MD_readSentence hG hGn l dC dI g F H.size h0 q0 y0_53 hcl) (cwV 0 hts (gdV k5_213 k5_215 kp_28 k1_10 k5_216) rfl rfl rfl (by decide +kernel) ⟨Nat.le_of_ble_eq_true rfl, Nat.le_of_ble_eq_true rfl⟩) (kpV hG hP hK hD hS hA hGA [0, 1, 2, 3, 4, 5, 6, 7, 8, 9, 10, 11, 12, 13, 14, 15, 16, 17, 18, 19, 20, 21, 22, 23, 24, 25, 26, 27, 28, 29, 30, 31] (by decide) rfl (ci := 10) (q0 := 0) rfl rfl rfl) rfl rfl hl.1 rfl (lv_room (Nat.le_of_ble_eq_true rfl)) d_MD_read_72 ⟨Nat.le_of_ble_eq_true rfl, Nat.le_of_ble_eq_true rfl⟩) (fun H locs hP hD hS => ?_)
                have hP : va_P (dC, dI) vwCl (wd_MD g h0 q0 z0_72) H := hP
                have hD : va_D A (wd_MD g h0 q0 z0_72) := hD
                refine lv_goto (tgt := 53) hx hb d_MD_read_75 (by decide) ?_
                exact ih53 z0_72 H locs ls hm hP hD hS (lv_sub hl [0, 1] rfl)
        exact L53 F y0_27 H locs ls hm hP hD hS (lv_sub hl [0, 1] rfl)
      · replace hm := if_f hm hc
        refine lv_aload_n hx hb d_MD_read_33 rfl (lv_at hl 0 rfl) ?_
        refine va_get (D := (dC, dI)) (ci := 10) (v := .ref (q0 18)) (C := "AlarmMatrixModel") (T := T_MD) (N := 42) hx hb hts i_MD hown hK hP 0 rfl rfl 18 (by decide) (hts _ k5_38) (fun _ h9 => h9) rfl d_MD_read_34 ?_
        refine lv_iload_n hx hb d_MD_read_37 rfl (lv_at hl 1 rfl) ?_
        refine lv_iconst (v := (0 : Int32)) hx hb d_MD_read_38 (by decide) ?_
        obtain ⟨h_39, hm⟩ := ck_s hm
        obtain ⟨e0_39, he, hm⟩ := lz_s hm
        refine va_zast (f := (y0_27 18)) hx hb hK hP hD hS 12 1 rfl rfl h_39 d_MD_read_39 (fun H locs hP hD hS => ?_)
        have hP : va_P (dC, dI) vwCl (wd_MD g h0 q0 e0_39) H := by rw [he]; exact hP
        have hD : va_D A (wd_MD g h0 q0 e0_39) := by rw [he]; exact hD
        refine lv_aload_n hx hb d_MD_read_40 rfl (lv_at hl 0 rfl) ?_
        refine va_get (D := (dC, dI)) (ci := 10) (v := .ref (q0 22)) (C := "AlarmMatrixModel") (T := T_MD) (N := 42) hx hb hts i_MD hown hK hP 0 rfl rfl 22 (by decide) (hts _ k5_42) (fun _ h9 => h9) rfl d_MD_read_41 ?_
        refine lv_iload_n hx hb d_MD_read_44 rfl (lv_at hl 1 rfl) ?_
        refine lv_iconst (v := (0 : Int32)) hx hb d_MD_read_45 (by decide) ?_
        obtain ⟨h_46, hm⟩ := ck_s hm
        obtain ⟨e0_46, he, hm⟩ := lz_s hm
        refine va_zast (f := (e0_39 22)) hx hb hK hP hD hS 16 1 rfl rfl h_46 d_MD_read_46 (fun H locs hP hD hS => ?_)
        have hP : va_P (dC, dI) vwCl (wd_MD g h0 q0 e0_46) H := by rw [he]; exact hP
        have hD : va_D A (wd_MD g h0 q0 e0_46) := by rw [he]; exact hD
        refine lv_iinc (v := (v1_27 + (1 : Int32))) (lv' := [(1, .int (v1_27 + (1 : Int32))), (0, .ref h0)]) hx hb d_MD_read_47 hl (k := 1) rfl rfl (by decide) rfl (fun ls hl => ?_)
        refine lv_goto (tgt := 27) hx hb d_MD_read_50 (by decide) ?_
        exact ih27 (v1_27 + (1 : Int32)) e0_46 H locs ls hm hP hD hS (lv_sub hl [1, 0] rfl)
  exact L27 F (20 : Int32) e0_21 H locs ls hm hP hD hS (lv_sub hl [1, 0] rfl)
abbrev b_MD_isPoint : ByteArray := prog_12_method_32_code
abbrev y_MD_isPoint : MethodName := ⟨"AlarmMatrixModel", "isPoint", "(I)Z"⟩
theorem d_MD_isPoint_0 : decode b_MD_isPoint 0 = .ok (.iload_n 1, 1) := by decide +kernel
theorem d_MD_isPoint_1 : decode b_MD_isPoint 1 = .ok (.ifCond .lt 15, 3) := by decide +kernel
theorem d_MD_isPoint_4 : decode b_MD_isPoint 4 = .ok (.iload_n 1, 1) := by decide +kernel
theorem d_MD_isPoint_5 : decode b_MD_isPoint 5 = .ok (.aload_n 0, 1) := by decide +kernel
theorem d_MD_isPoint_6 : decode b_MD_isPoint 6 = .ok (.getfield 104, 3) := by decide +kernel
theorem d_MD_isPoint_9 : decode b_MD_isPoint 9 = .ok (.if_icmp .ge 7, 3) := by decide +kernel
theorem d_MD_isPoint_12 : decode b_MD_isPoint 12 = .ok (.iconst 1, 1) := by decide +kernel
theorem d_MD_isPoint_13 : decode b_MD_isPoint 13 = .ok (.goto 4, 3) := by decide +kernel
theorem d_MD_isPoint_16 : decode b_MD_isPoint 16 = .ok (.iconst 0, 1) := by decide +kernel
theorem d_MD_isPoint_17 : decode b_MD_isPoint 17 = .ok (.ireturn, 1) := by decide +kernel
def m_MD_isPoint (F : Nat) (x0 : St) (a1 : Int32) : Option (Int32) :=
  (if a1 < (0 : Int32) then (some (0 : Int32)) else (if (x0 1 0) ≤ a1 then (some (0 : Int32)) else (some (1 : Int32))))
abbrev rm_MD_isPoint : Room := { frames := 0, cells := 0, slots := 0, locals := 0 }
set_option maxHeartbeats 4000000 in
set_option maxRecDepth 100000 in
theorem c_MD_isPoint {G : (Nat → Prop) → State → Prop} (hG : gok G) (hGn : gN G) (l : Launch) (dC : Nat → ClassId) (dI : Nat → Nat → Nat) (g : Nat → ClassId) (F : Nat) (sz : Nat) (h0 : Nat) (q0 : Nat → Nat) (x0 : St) (a1 : Int32) {o : Int32} (hm : m_MD_isPoint F x0 a1 = some o) : Met l y_MD_isPoint (.code y_MD_isPoint b_MD_isPoint 2 (some .boolean) :: gw) rm_MD_isPoint (kq (dC, dI) vwCl (tyv g) G [.ref h0, .int a1] sz (wd_MD g h0 q0 x0)) (kqi (dC, dI) vwCl (tyv g) (wd_MD g h0 q0 x0) o (wd_MD g h0 q0 x0) sz) 0 0 (va_A (wd_MD g h0 q0 x0) sz) := by
  unfold m_MD_isPoint at hm
  refine km (Qc := fun sz => kqi (dC, dI) vwCl (tyv g) (wd_MD g h0 q0 x0) o (wd_MD g h0 q0 x0) sz) (cc := b_MD_isPoint) (maxL := 2) (ret := some .boolean) (by decide) rfl (Nat.le_of_ble_eq_true rfl) ?_
  intro p e s m args below meth c Q hQ hx hb hr hts hown hlocks hml hnm H locs A hAe hA hP hK hD hS hGA ls hl
  have hl : lv_has ls 2 [(0, .ref h0), (1, .int a1)] := hl
  have hts : ∀ w ∈ gw, w.before args s = true := fun w h => hts w (List.mem_cons_of_mem _ h)
  have hown : s.vm.findClass "AlarmMatrixModel" = some m.cls := hown
  refine lv_iload_n hx hb d_MD_isPoint_0 rfl (lv_at hl 1 rfl) ?_
  refine lv_if_lt (tgt := 16) hx hb d_MD_isPoint_1 (by decide) (fun hc => ?_) (fun hc => ?_)
  · replace hm := if_t hm hc
    refine lv_iconst (v := (0 : Int32)) hx hb d_MD_isPoint_16 (by decide) ?_
    obtain rfl := Option.some.inj hm
    rw [hQ]
    exact krz hx hb hr nar_0 hlocks hAe hP hK hD hS d_MD_isPoint_17
  · replace hm := if_f hm hc
    refine lv_iload_n hx hb d_MD_isPoint_4 rfl (lv_at hl 1 rfl) ?_
    refine lv_aload_n hx hb d_MD_isPoint_5 rfl (lv_at hl 0 rfl) ?_
    refine va_get (D := (dC, dI)) (ci := 10) (v := .int (x0 1 0)) (C := "AlarmMatrixModel") (T := T_MD) (N := 42) hx hb hts i_MD hown hK hP 0 rfl rfl 1 (by decide) (hts _ k5_21) (fun _ h9 => h9) rfl d_MD_isPoint_6 ?_
    refine lv_icmp_ge (tgt := 16) hx hb d_MD_isPoint_9 (by decide) (fun hc => ?_) (fun hc => ?_)
    · replace hm := if_t hm hc
      refine lv_iconst (v := (0 : Int32)) hx hb d_MD_isPoint_16 (by decide) ?_
      obtain rfl := Option.some.inj hm
      rw [hQ]
      exact krz hx hb hr nar_0 hlocks hAe hP hK hD hS d_MD_isPoint_17
    · replace hm := if_f hm hc
      refine lv_iconst (v := (1 : Int32)) hx hb d_MD_isPoint_12 (by decide) ?_
      refine lv_goto (tgt := 17) hx hb d_MD_isPoint_13 (by decide) ?_
      obtain rfl := Option.some.inj hm
      rw [hQ]
      exact krz hx hb hr nar_1 hlocks hAe hP hK hD hS d_MD_isPoint_17
abbrev b_MD_isLoop : ByteArray := prog_12_method_33_code
abbrev y_MD_isLoop : MethodName := ⟨"AlarmMatrixModel", "isLoop", "(I)Z"⟩
theorem d_MD_isLoop_0 : decode b_MD_isLoop 0 = .ok (.iload_n 0, 1) := by decide +kernel
theorem d_MD_isLoop_1 : decode b_MD_isLoop 1 = .ok (.ifCond .lt 13, 3) := by decide +kernel
theorem d_MD_isLoop_4 : decode b_MD_isLoop 4 = .ok (.iload_n 0, 1) := by decide +kernel
theorem d_MD_isLoop_5 : decode b_MD_isLoop 5 = .ok (.bipush 8, 2) := by decide +kernel
theorem d_MD_isLoop_7 : decode b_MD_isLoop 7 = .ok (.if_icmp .ge 7, 3) := by decide +kernel
theorem d_MD_isLoop_10 : decode b_MD_isLoop 10 = .ok (.iconst 1, 1) := by decide +kernel
theorem d_MD_isLoop_11 : decode b_MD_isLoop 11 = .ok (.goto 4, 3) := by decide +kernel
theorem d_MD_isLoop_14 : decode b_MD_isLoop 14 = .ok (.iconst 0, 1) := by decide +kernel
theorem d_MD_isLoop_15 : decode b_MD_isLoop 15 = .ok (.ireturn, 1) := by decide +kernel
def m_MD_isLoop (F : Nat) (a1 : Int32) : Option (Int32) :=
  (if a1 < (0 : Int32) then (some (0 : Int32)) else (if (8 : Int32) ≤ a1 then (some (0 : Int32)) else (some (1 : Int32))))
abbrev rm_MD_isLoop : Room := { frames := 0, cells := 0, slots := 0, locals := 0 }
set_option maxHeartbeats 4000000 in
set_option maxRecDepth 100000 in
theorem c_MD_isLoop {G : (Nat → Prop) → State → Prop} (hG : gok G) (hGn : gN G) (l : Launch) (dC : Nat → ClassId) (dI : Nat → Nat → Nat) (g : Nat → ClassId) (F : Nat) (sz : Nat) (a1 : Int32) {o : Int32} (hm : m_MD_isLoop F a1 = some o) : Met l y_MD_isLoop (.code y_MD_isLoop b_MD_isLoop 1 (some .boolean) :: gw) rm_MD_isLoop (kq (dC, dI) vwCl (tyv g) G [.int a1] sz (([] : va_W))) (kqi (dC, dI) vwCl (tyv g) (([] : va_W)) o (([] : va_W)) sz) 0 0 (va_A (([] : va_W)) sz) := by
  unfold m_MD_isLoop at hm
  refine km (Qc := fun sz => kqi (dC, dI) vwCl (tyv g) (([] : va_W)) o (([] : va_W)) sz) (cc := b_MD_isLoop) (maxL := 1) (ret := some .boolean) (by decide) rfl (Nat.le_of_ble_eq_true rfl) ?_
  intro p e s m args below meth c Q hQ hx hb hr hts hown hlocks hml hnm H locs A hAe hA hP hK hD hS hGA ls hl
  have hl : lv_has ls 1 [(0, .int a1)] := hl
  have hts : ∀ w ∈ gw, w.before args s = true := fun w h => hts w (List.mem_cons_of_mem _ h)
  have hown : s.vm.findClass "AlarmMatrixModel" = some m.cls := hown
  refine lv_iload_n hx hb d_MD_isLoop_0 rfl (lv_at hl 0 rfl) ?_
  refine lv_if_lt (tgt := 14) hx hb d_MD_isLoop_1 (by decide) (fun hc => ?_) (fun hc => ?_)
  · replace hm := if_t hm hc
    refine lv_iconst (v := (0 : Int32)) hx hb d_MD_isLoop_14 (by decide) ?_
    obtain rfl := Option.some.inj hm
    rw [hQ]
    exact krz hx hb hr nar_0 hlocks hAe hP hK hD hS d_MD_isLoop_15
  · replace hm := if_f hm hc
    refine lv_iload_n hx hb d_MD_isLoop_4 rfl (lv_at hl 0 rfl) ?_
    refine lv_bipush (v := (8 : Int32)) hx hb d_MD_isLoop_5 (by decide) ?_
    refine lv_icmp_ge (tgt := 14) hx hb d_MD_isLoop_7 (by decide) (fun hc => ?_) (fun hc => ?_)
    · replace hm := if_t hm hc
      refine lv_iconst (v := (0 : Int32)) hx hb d_MD_isLoop_14 (by decide) ?_
      obtain rfl := Option.some.inj hm
      rw [hQ]
      exact krz hx hb hr nar_0 hlocks hAe hP hK hD hS d_MD_isLoop_15
    · replace hm := if_f hm hc
      refine lv_iconst (v := (1 : Int32)) hx hb d_MD_isLoop_10 (by decide) ?_
      refine lv_goto (tgt := 15) hx hb d_MD_isLoop_11 (by decide) ?_
      obtain rfl := Option.some.inj hm
      rw [hQ]
      exact krz hx hb hr nar_1 hlocks hAe hP hK hD hS d_MD_isLoop_15
abbrev b_MD_signal : ByteArray := prog_12_method_34_code
abbrev y_MD_signal : MethodName := ⟨"AlarmMatrixModel", "signal", "(II)I"⟩
theorem d_MD_signal_0 : decode b_MD_signal 0 = .ok (.aload_n 0, 1) := by decide +kernel
theorem d_MD_signal_1 : decode b_MD_signal 1 = .ok (.aload_n 0, 1) := by decide +kernel
theorem d_MD_signal_2 : decode b_MD_signal 2 = .ok (.iload_n 1, 1) := by decide +kernel
theorem d_MD_signal_3 : decode b_MD_signal 3 = .ok (.invokevirtual 226, 3) := by decide +kernel
theorem d_MD_signal_6 : decode b_MD_signal 6 = .ok (.ifCond .eq 17, 3) := by decide +kernel
theorem d_MD_signal_9 : decode b_MD_signal 9 = .ok (.iload_n 2, 1) := by decide +kernel
theorem d_MD_signal_10 : decode b_MD_signal 10 = .ok (.ifCond .lt 13, 3) := by decide +kernel
theorem d_MD_signal_13 : decode b_MD_signal 13 = .ok (.iload_n 2, 1) := by decide +kernel
theorem d_MD_signal_14 : decode b_MD_signal 14 = .ok (.bipush 100, 2) := by decide +kernel
theorem d_MD_signal_16 : decode b_MD_signal 16 = .ok (.if_icmp .gt 7, 3) := by decide +kernel
theorem d_MD_signal_19 : decode b_MD_signal 19 = .ok (.iconst 1, 1) := by decide +kernel
theorem d_MD_signal_20 : decode b_MD_signal 20 = .ok (.goto 4, 3) := by decide +kernel
theorem d_MD_signal_23 : decode b_MD_signal 23 = .ok (.iconst 0, 1) := by decide +kernel
theorem d_MD_signal_24 : decode b_MD_signal 24 = .ok (.iconst 1, 1) := by decide +kernel
theorem d_MD_signal_25 : decode b_MD_signal 25 = .ok (.invokevirtual 114, 3) := by decide +kernel
theorem d_MD_signal_28 : decode b_MD_signal 28 = .ok (.ifCond .ne 5, 3) := by decide +kernel
theorem d_MD_signal_31 : decode b_MD_signal 31 = .ok (.iconst 0, 1) := by decide +kernel
theorem d_MD_signal_32 : decode b_MD_signal 32 = .ok (.ireturn, 1) := by decide +kernel
theorem d_MD_signal_33 : decode b_MD_signal 33 = .ok (.aload_n 0, 1) := by decide +kernel
theorem d_MD_signal_34 : decode b_MD_signal 34 = .ok (.getfield 7, 3) := by decide +kernel
theorem d_MD_signal_37 : decode b_MD_signal 37 = .ok (.iload_n 1, 1) := by decide +kernel
theorem d_MD_signal_38 : decode b_MD_signal 38 = .ok (.iaload, 1) := by decide +kernel
theorem d_MD_signal_39 : decode b_MD_signal 39 = .ok (.istore_n 3, 1) := by decide +kernel
theorem d_MD_signal_40 : decode b_MD_signal 40 = .ok (.aload_n 0, 1) := by decide +kernel
theorem d_MD_signal_41 : decode b_MD_signal 41 = .ok (.getfield 7, 3) := by decide +kernel
theorem d_MD_signal_44 : decode b_MD_signal 44 = .ok (.iload_n 1, 1) := by decide +kernel
theorem d_MD_signal_45 : decode b_MD_signal 45 = .ok (.iload_n 2, 1) := by decide +kernel
theorem d_MD_signal_46 : decode b_MD_signal 46 = .ok (.iastore, 1) := by decide +kernel
theorem d_MD_signal_47 : decode b_MD_signal 47 = .ok (.iload_n 3, 1) := by decide +kernel
theorem d_MD_signal_48 : decode b_MD_signal 48 = .ok (.ireturn, 1) := by decide +kernel
def m_MD_signal (F : Nat) (x0 : St) (a1 : Int32) (a2 : Int32) : Option (Int32 × St) :=
  (bn1 (m_MD_isPoint F x0 a1) (fun r3 => (if r3 = (0 : Int32) then (bn2 (m_MD_goes F x0 (0 : Int32) (1 : Int32)) (fun r25 z0_25 => (if r25 = (0 : Int32) then (some ((0 : Int32), z0_25)) else (ck a1 200 (ck a1 200 (lz (st z0_25 3 (upd (z0_25 3) a1.toNatClampNeg a2)) (fun e0_46 => (some (((z0_25 3) a1.toNatClampNeg), e0_46))))))))) else (if a2 < (0 : Int32) then (bn2 (m_MD_goes F x0 (0 : Int32) (1 : Int32)) (fun r25 z0_25 => (if r25 = (0 : Int32) then (some ((0 : Int32), z0_25)) else (ck a1 200 (ck a1 200 (lz (st z0_25 3 (upd (z0_25 3) a1.toNatClampNeg a2)) (fun e0_46 => (some (((z0_25 3) a1.toNatClampNeg), e0_46))))))))) else (if (100 : Int32) < a2 then (bn2 (m_MD_goes F x0 (0 : Int32) (1 : Int32)) (fun r25 z0_25 => (if r25 = (0 : Int32) then (some ((0 : Int32), z0_25)) else (ck a1 200 (ck a1 200 (lz (st z0_25 3 (upd (z0_25 3) a1.toNatClampNeg a2)) (fun e0_46 => (some (((z0_25 3) a1.toNatClampNeg), e0_46))))))))) else (bn2 (m_MD_goes F x0 (1 : Int32) (1 : Int32)) (fun r25 z0_25 => (if r25 = (0 : Int32) then (some ((0 : Int32), z0_25)) else (ck a1 200 (ck a1 200 (lz (st z0_25 3 (upd (z0_25 3) a1.toNatClampNeg a2)) (fun e0_46 => (some (((z0_25 3) a1.toNatClampNeg), e0_46))))))))))))))
abbrev rm_MD_signal : Room := { frames := 1, cells := 0, slots := 0, locals := 22 }
set_option maxHeartbeats 4000000 in
set_option maxRecDepth 100000 in
theorem c_MD_signal {G : (Nat → Prop) → State → Prop} (hG : gok G) (hGn : gN G) (l : Launch) (dC : Nat → ClassId) (dI : Nat → Nat → Nat) (g : Nat → ClassId) (F : Nat) (sz : Nat) (h0 : Nat) (q0 : Nat → Nat) (x0 : St) (a1 : Int32) (a2 : Int32) {o : Int32 × St} (hm : m_MD_signal F x0 a1 a2 = some o) : Met l y_MD_signal (.code y_MD_signal b_MD_signal 4 (some .int) :: gw) rm_MD_signal (kq (dC, dI) vwCl (tyv g) G [.ref h0, .int a1, .int a2] sz (wd_MD g h0 q0 x0)) (kqi (dC, dI) vwCl (tyv g) (wd_MD g h0 q0 x0) o.1 (wd_MD g h0 q0 (o.2)) sz) 0 0 (va_A (wd_MD g h0 q0 x0) sz) := by
  unfold m_MD_signal at hm
  refine km (Qc := fun sz => kqi (dC, dI) vwCl (tyv g) (wd_MD g h0 q0 x0) o.1 (wd_MD g h0 q0 (o.2)) sz) (cc := b_MD_signal) (maxL := 4) (ret := some .int) (by decide) rfl (Nat.le_of_ble_eq_true rfl) ?_
  intro p e s m args below meth c Q hQ hx hb hr hts hown hlocks hml hnm H locs A hAe hA hP hK hD hS hGA ls hl
  have hl : lv_has ls 4 [(0, .ref h0), (1, .int a1), (2, .int a2)] := hl
  have hts : ∀ w ∈ gw, w.before args s = true := fun w h => hts w (List.mem_cons_of_mem _ h)
  have hown : s.vm.findClass "AlarmMatrixModel" = some m.cls := hown
  refine lv_aload_n hx hb d_MD_signal_0 rfl (lv_at hl 0 rfl) ?_
  refine lv_aload_n hx hb d_MD_signal_1 rfl (lv_at hl 0 rfl) ?_
  refine lv_iload_n hx hb d_MD_signal_2 rfl (lv_at hl 1 rfl) ?_
  obtain ⟨r3, hcl, hm⟩ := bn1_s hm
  refine kci (wc := wd_MD g h0 q0 x0) (wr := ([] : va_W)) (w1 := wd_MD g h0 q0 x0) hP hD hS hA [0, 1, 2, 3, 4, 5, 6, 7, 8, 9, 10, 11, 12, 13, 14, 15, 16, 17, 18, 19, 20, 21, 22, 23, 24, 25, 26, 27, 28, 29, 30, 31] [] rfl rfl (by decide) (by decide) (va_runV (As := [.int a1]) (rest := [.ref h0]) ⟨hx, hb, hml, hown, hts⟩ (c_MD_isPoint hG hGn l dC dI g F H.size h0 q0 x0 a1 hcl) (cwV 1 hts (gdV k6_41 k6_43 kp_44 k1_10 k6_44) rfl rfl rfl (by decide +kernel) ⟨Nat.le_of_ble_eq_true rfl, Nat.le_of_ble_eq_true rfl⟩) (kpV hG hP hK hD hS hA hGA [0, 1, 2, 3, 4, 5, 6, 7, 8, 9, 10, 11, 12, 13, 14, 15, 16, 17, 18, 19, 20, 21, 22, 23, 24, 25, 26, 27, 28, 29, 30, 31] (by decide) rfl (ci := 10) (q0 := 0) rfl rfl rfl) rfl rfl hl.1 rfl (lv_room (Nat.le_of_ble_eq_true rfl)) d_MD_signal_3 ⟨Nat.le_of_ble_eq_true rfl, Nat.le_of_ble_eq_true rfl⟩) (fun H locs hP hD hS => ?_)
  have hP : va_P (dC, dI) vwCl (wd_MD g h0 q0 x0) H := hP
  have hD : va_D A (wd_MD g h0 q0 x0) := hD
  refine lv_if_eq (tgt := 23) hx hb d_MD_signal_6 (by decide) (fun hc => ?_) (fun hc => ?_)
  · replace hm := if_t hm hc
    refine lv_iconst (v := (0 : Int32)) hx hb d_MD_signal_23 (by decide) ?_
    refine lv_iconst (v := (1 : Int32)) hx hb d_MD_signal_24 (by decide) ?_
    obtain ⟨r25, z0_25, hcl, hm⟩ := bn2_s hm
    refine kci (wc := wd_MD g h0 q0 x0) (wr := ([] : va_W)) (w1 := wd_MD g h0 q0 z0_25) hP hD hS hA [0, 1, 2, 3, 4, 5, 6, 7, 8, 9, 10, 11, 12, 13, 14, 15, 16, 17, 18, 19, 20, 21, 22, 23, 24, 25, 26, 27, 28, 29, 30, 31] [] rfl rfl (by decide) (by decide) (va_runV (As := [.int (0 : Int32), .int (1 : Int32)]) (rest := []) ⟨hx, hb, hml, hown, hts⟩ (c_MD_goes hG hGn l dC dI g F H.size h0 q0 x0 (0 : Int32) (1 : Int32) hcl) (cwV 2 hts (gdV k5_155 k5_157 kp_20 k1_10 k5_158) rfl rfl rfl (by decide +kernel) ⟨Nat.le_of_ble_eq_true rfl, Nat.le_of_ble_eq_true rfl⟩) (kpV hG hP hK hD hS hA hGA [0, 1, 2, 3, 4, 5, 6, 7, 8, 9, 10, 11, 12, 13, 14, 15, 16, 17, 18, 19, 20, 21, 22, 23, 24, 25, 26, 27, 28, 29, 30, 31] (by decide) rfl (ci := 10) (q0 := 0) rfl rfl rfl) rfl rfl hl.1 rfl (lv_room (Nat.le_of_ble_eq_true rfl)) d_MD_signal_25 ⟨Nat.le_of_ble_eq_true rfl, Nat.le_of_ble_eq_true rfl⟩) (fun H locs hP hD hS => ?_)
    have hP : va_P (dC, dI) vwCl (wd_MD g h0 q0 z0_25) H := hP
    have hD : va_D A (wd_MD g h0 q0 z0_25) := hD
    refine lv_if_ne (tgt := 33) hx hb d_MD_signal_28 (by decide) (fun hc => ?_) (fun hc => ?_)
    · replace hm := if_f hm hc
      refine lv_aload_n hx hb d_MD_signal_33 rfl (lv_at hl 0 rfl) ?_
      refine va_get (D := (dC, dI)) (ci := 10) (v := .ref (q0 3)) (C := "AlarmMatrixModel") (T := T_MD) (N := 42) hx hb hts i_MD hown hK hP 0 rfl rfl 3 (by decide) (hts _ k5_23) (fun _ h9 => h9) rfl d_MD_signal_34 ?_
      refine lv_iload_n hx hb d_MD_signal_37 rfl (lv_at hl 1 rfl) ?_
      obtain ⟨h_38, hm⟩ := ck_s hm
      refine va_iald (f := (z0_25 3)) hx hb hK hP 1 0 rfl rfl h_38 d_MD_signal_38 ?_
      refine lv_istore_n (lv' := [(3, .int ((z0_25 3) a1.toNatClampNeg)), (0, .ref h0), (1, .int a1), (2, .int a2)]) hx hb d_MD_signal_39 rfl hl (by decide) rfl (fun ls hl => ?_)
      refine lv_aload_n hx hb d_MD_signal_40 rfl (lv_at hl 1 rfl) ?_
      refine va_get (D := (dC, dI)) (ci := 10) (v := .ref (q0 3)) (C := "AlarmMatrixModel") (T := T_MD) (N := 42) hx hb hts i_MD hown hK hP 0 rfl rfl 3 (by decide) (hts _ k5_23) (fun _ h9 => h9) rfl d_MD_signal_41 ?_
      refine lv_iload_n hx hb d_MD_signal_44 rfl (lv_at hl 2 rfl) ?_
      refine lv_iload_n hx hb d_MD_signal_45 rfl (lv_at hl 3 rfl) ?_
      obtain ⟨h_46, hm⟩ := ck_s hm
      obtain ⟨e0_46, he, hm⟩ := lz_s hm
      refine va_iast (f := (z0_25 3)) hx hb hK hP hD hS 1 0 rfl rfl h_46 d_MD_signal_46 (fun H locs hP hD hS => ?_)
      have hP : va_P (dC, dI) vwCl (wd_MD g h0 q0 e0_46) H := by rw [he]; exact hP
      have hD : va_D A (wd_MD g h0 q0 e0_46) := by rw [he]; exact hD
      refine lv_iload_n hx hb d_MD_signal_47 rfl (lv_at hl 0 rfl) ?_
      obtain rfl := Option.some.inj hm
      rw [hQ]
      exact kri hx hb hr hlocks hAe hP hK hD hS d_MD_signal_48
    · replace hm := if_t hm hc
      refine lv_iconst (v := (0 : Int32)) hx hb d_MD_signal_31 (by decide) ?_
      obtain rfl := Option.some.inj hm
      rw [hQ]
      exact kri hx hb hr hlocks hAe hP hK hD hS d_MD_signal_32
  · replace hm := if_f hm hc
    refine lv_iload_n hx hb d_MD_signal_9 rfl (lv_at hl 2 rfl) ?_
    refine lv_if_lt (tgt := 23) hx hb d_MD_signal_10 (by decide) (fun hc => ?_) (fun hc => ?_)
    · replace hm := if_t hm hc
      refine lv_iconst (v := (0 : Int32)) hx hb d_MD_signal_23 (by decide) ?_
      refine lv_iconst (v := (1 : Int32)) hx hb d_MD_signal_24 (by decide) ?_
      obtain ⟨r25, z0_25, hcl, hm⟩ := bn2_s hm
      refine kci (wc := wd_MD g h0 q0 x0) (wr := ([] : va_W)) (w1 := wd_MD g h0 q0 z0_25) hP hD hS hA [0, 1, 2, 3, 4, 5, 6, 7, 8, 9, 10, 11, 12, 13, 14, 15, 16, 17, 18, 19, 20, 21, 22, 23, 24, 25, 26, 27, 28, 29, 30, 31] [] rfl rfl (by decide) (by decide) (va_runV (As := [.int (0 : Int32), .int (1 : Int32)]) (rest := []) ⟨hx, hb, hml, hown, hts⟩ (c_MD_goes hG hGn l dC dI g F H.size h0 q0 x0 (0 : Int32) (1 : Int32) hcl) (cwV 2 hts (gdV k5_155 k5_157 kp_20 k1_10 k5_158) rfl rfl rfl (by decide +kernel) ⟨Nat.le_of_ble_eq_true rfl, Nat.le_of_ble_eq_true rfl⟩) (kpV hG hP hK hD hS hA hGA [0, 1, 2, 3, 4, 5, 6, 7, 8, 9, 10, 11, 12, 13, 14, 15, 16, 17, 18, 19, 20, 21, 22, 23, 24, 25, 26, 27, 28, 29, 30, 31] (by decide) rfl (ci := 10) (q0 := 0) rfl rfl rfl) rfl rfl hl.1 rfl (lv_room (Nat.le_of_ble_eq_true rfl)) d_MD_signal_25 ⟨Nat.le_of_ble_eq_true rfl, Nat.le_of_ble_eq_true rfl⟩) (fun H locs hP hD hS => ?_)
      have hP : va_P (dC, dI) vwCl (wd_MD g h0 q0 z0_25) H := hP
      have hD : va_D A (wd_MD g h0 q0 z0_25) := hD
      refine lv_if_ne (tgt := 33) hx hb d_MD_signal_28 (by decide) (fun hc => ?_) (fun hc => ?_)
      · replace hm := if_f hm hc
        refine lv_aload_n hx hb d_MD_signal_33 rfl (lv_at hl 0 rfl) ?_
        refine va_get (D := (dC, dI)) (ci := 10) (v := .ref (q0 3)) (C := "AlarmMatrixModel") (T := T_MD) (N := 42) hx hb hts i_MD hown hK hP 0 rfl rfl 3 (by decide) (hts _ k5_23) (fun _ h9 => h9) rfl d_MD_signal_34 ?_
        refine lv_iload_n hx hb d_MD_signal_37 rfl (lv_at hl 1 rfl) ?_
        obtain ⟨h_38, hm⟩ := ck_s hm
        refine va_iald (f := (z0_25 3)) hx hb hK hP 1 0 rfl rfl h_38 d_MD_signal_38 ?_
        refine lv_istore_n (lv' := [(3, .int ((z0_25 3) a1.toNatClampNeg)), (0, .ref h0), (1, .int a1), (2, .int a2)]) hx hb d_MD_signal_39 rfl hl (by decide) rfl (fun ls hl => ?_)
        refine lv_aload_n hx hb d_MD_signal_40 rfl (lv_at hl 1 rfl) ?_
        refine va_get (D := (dC, dI)) (ci := 10) (v := .ref (q0 3)) (C := "AlarmMatrixModel") (T := T_MD) (N := 42) hx hb hts i_MD hown hK hP 0 rfl rfl 3 (by decide) (hts _ k5_23) (fun _ h9 => h9) rfl d_MD_signal_41 ?_
        refine lv_iload_n hx hb d_MD_signal_44 rfl (lv_at hl 2 rfl) ?_
        refine lv_iload_n hx hb d_MD_signal_45 rfl (lv_at hl 3 rfl) ?_
        obtain ⟨h_46, hm⟩ := ck_s hm
        obtain ⟨e0_46, he, hm⟩ := lz_s hm
        refine va_iast (f := (z0_25 3)) hx hb hK hP hD hS 1 0 rfl rfl h_46 d_MD_signal_46 (fun H locs hP hD hS => ?_)
        have hP : va_P (dC, dI) vwCl (wd_MD g h0 q0 e0_46) H := by rw [he]; exact hP
        have hD : va_D A (wd_MD g h0 q0 e0_46) := by rw [he]; exact hD
        refine lv_iload_n hx hb d_MD_signal_47 rfl (lv_at hl 0 rfl) ?_
        obtain rfl := Option.some.inj hm
        rw [hQ]
        exact kri hx hb hr hlocks hAe hP hK hD hS d_MD_signal_48
      · replace hm := if_t hm hc
        refine lv_iconst (v := (0 : Int32)) hx hb d_MD_signal_31 (by decide) ?_
        obtain rfl := Option.some.inj hm
        rw [hQ]
        exact kri hx hb hr hlocks hAe hP hK hD hS d_MD_signal_32
    · replace hm := if_f hm hc
      refine lv_iload_n hx hb d_MD_signal_13 rfl (lv_at hl 2 rfl) ?_
      refine lv_bipush (v := (100 : Int32)) hx hb d_MD_signal_14 (by decide) ?_
      refine lv_icmp_gt (tgt := 23) hx hb d_MD_signal_16 (by decide) (fun hc => ?_) (fun hc => ?_)
      · replace hm := if_t hm hc
        refine lv_iconst (v := (0 : Int32)) hx hb d_MD_signal_23 (by decide) ?_
        refine lv_iconst (v := (1 : Int32)) hx hb d_MD_signal_24 (by decide) ?_
        obtain ⟨r25, z0_25, hcl, hm⟩ := bn2_s hm
        refine kci (wc := wd_MD g h0 q0 x0) (wr := ([] : va_W)) (w1 := wd_MD g h0 q0 z0_25) hP hD hS hA [0, 1, 2, 3, 4, 5, 6, 7, 8, 9, 10, 11, 12, 13, 14, 15, 16, 17, 18, 19, 20, 21, 22, 23, 24, 25, 26, 27, 28, 29, 30, 31] [] rfl rfl (by decide) (by decide) (va_runV (As := [.int (0 : Int32), .int (1 : Int32)]) (rest := []) ⟨hx, hb, hml, hown, hts⟩ (c_MD_goes hG hGn l dC dI g F H.size h0 q0 x0 (0 : Int32) (1 : Int32) hcl) (cwV 2 hts (gdV k5_155 k5_157 kp_20 k1_10 k5_158) rfl rfl rfl (by decide +kernel) ⟨Nat.le_of_ble_eq_true rfl, Nat.le_of_ble_eq_true rfl⟩) (kpV hG hP hK hD hS hA hGA [0, 1, 2, 3, 4, 5, 6, 7, 8, 9, 10, 11, 12, 13, 14, 15, 16, 17, 18, 19, 20, 21, 22, 23, 24, 25, 26, 27, 28, 29, 30, 31] (by decide) rfl (ci := 10) (q0 := 0) rfl rfl rfl) rfl rfl hl.1 rfl (lv_room (Nat.le_of_ble_eq_true rfl)) d_MD_signal_25 ⟨Nat.le_of_ble_eq_true rfl, Nat.le_of_ble_eq_true rfl⟩) (fun H locs hP hD hS => ?_)
        have hP : va_P (dC, dI) vwCl (wd_MD g h0 q0 z0_25) H := hP
        have hD : va_D A (wd_MD g h0 q0 z0_25) := hD
        refine lv_if_ne (tgt := 33) hx hb d_MD_signal_28 (by decide) (fun hc => ?_) (fun hc => ?_)
        · replace hm := if_f hm hc
          refine lv_aload_n hx hb d_MD_signal_33 rfl (lv_at hl 0 rfl) ?_
          refine va_get (D := (dC, dI)) (ci := 10) (v := .ref (q0 3)) (C := "AlarmMatrixModel") (T := T_MD) (N := 42) hx hb hts i_MD hown hK hP 0 rfl rfl 3 (by decide) (hts _ k5_23) (fun _ h9 => h9) rfl d_MD_signal_34 ?_
          refine lv_iload_n hx hb d_MD_signal_37 rfl (lv_at hl 1 rfl) ?_
          obtain ⟨h_38, hm⟩ := ck_s hm
          refine va_iald (f := (z0_25 3)) hx hb hK hP 1 0 rfl rfl h_38 d_MD_signal_38 ?_
          refine lv_istore_n (lv' := [(3, .int ((z0_25 3) a1.toNatClampNeg)), (0, .ref h0), (1, .int a1), (2, .int a2)]) hx hb d_MD_signal_39 rfl hl (by decide) rfl (fun ls hl => ?_)
          refine lv_aload_n hx hb d_MD_signal_40 rfl (lv_at hl 1 rfl) ?_
          refine va_get (D := (dC, dI)) (ci := 10) (v := .ref (q0 3)) (C := "AlarmMatrixModel") (T := T_MD) (N := 42) hx hb hts i_MD hown hK hP 0 rfl rfl 3 (by decide) (hts _ k5_23) (fun _ h9 => h9) rfl d_MD_signal_41 ?_
          refine lv_iload_n hx hb d_MD_signal_44 rfl (lv_at hl 2 rfl) ?_
          refine lv_iload_n hx hb d_MD_signal_45 rfl (lv_at hl 3 rfl) ?_
          obtain ⟨h_46, hm⟩ := ck_s hm
          obtain ⟨e0_46, he, hm⟩ := lz_s hm
          refine va_iast (f := (z0_25 3)) hx hb hK hP hD hS 1 0 rfl rfl h_46 d_MD_signal_46 (fun H locs hP hD hS => ?_)
          have hP : va_P (dC, dI) vwCl (wd_MD g h0 q0 e0_46) H := by rw [he]; exact hP
          have hD : va_D A (wd_MD g h0 q0 e0_46) := by rw [he]; exact hD
          refine lv_iload_n hx hb d_MD_signal_47 rfl (lv_at hl 0 rfl) ?_
          obtain rfl := Option.some.inj hm
          rw [hQ]
          exact kri hx hb hr hlocks hAe hP hK hD hS d_MD_signal_48
        · replace hm := if_t hm hc
          refine lv_iconst (v := (0 : Int32)) hx hb d_MD_signal_31 (by decide) ?_
          obtain rfl := Option.some.inj hm
          rw [hQ]
          exact kri hx hb hr hlocks hAe hP hK hD hS d_MD_signal_32
      · replace hm := if_f hm hc
        refine lv_iconst (v := (1 : Int32)) hx hb d_MD_signal_19 (by decide) ?_
        refine lv_goto (tgt := 24) hx hb d_MD_signal_20 (by decide) ?_
        refine lv_iconst (v := (1 : Int32)) hx hb d_MD_signal_24 (by decide) ?_
        obtain ⟨r25, z0_25, hcl, hm⟩ := bn2_s hm
        refine kci (wc := wd_MD g h0 q0 x0) (wr := ([] : va_W)) (w1 := wd_MD g h0 q0 z0_25) hP hD hS hA [0, 1, 2, 3, 4, 5, 6, 7, 8, 9, 10, 11, 12, 13, 14, 15, 16, 17, 18, 19, 20, 21, 22, 23, 24, 25, 26, 27, 28, 29, 30, 31] [] rfl rfl (by decide) (by decide) (va_runV (As := [.int (1 : Int32), .int (1 : Int32)]) (rest := []) ⟨hx, hb, hml, hown, hts⟩ (c_MD_goes hG hGn l dC dI g F H.size h0 q0 x0 (1 : Int32) (1 : Int32) hcl) (cwV 2 hts (gdV k5_155 k5_157 kp_20 k1_10 k5_158) rfl rfl rfl (by decide +kernel) ⟨Nat.le_of_ble_eq_true rfl, Nat.le_of_ble_eq_true rfl⟩) (kpV hG hP hK hD hS hA hGA [0, 1, 2, 3, 4, 5, 6, 7, 8, 9, 10, 11, 12, 13, 14, 15, 16, 17, 18, 19, 20, 21, 22, 23, 24, 25, 26, 27, 28, 29, 30, 31] (by decide) rfl (ci := 10) (q0 := 0) rfl rfl rfl) rfl rfl hl.1 rfl (lv_room (Nat.le_of_ble_eq_true rfl)) d_MD_signal_25 ⟨Nat.le_of_ble_eq_true rfl, Nat.le_of_ble_eq_true rfl⟩) (fun H locs hP hD hS => ?_)
        have hP : va_P (dC, dI) vwCl (wd_MD g h0 q0 z0_25) H := hP
        have hD : va_D A (wd_MD g h0 q0 z0_25) := hD
        refine lv_if_ne (tgt := 33) hx hb d_MD_signal_28 (by decide) (fun hc => ?_) (fun hc => ?_)
        · replace hm := if_f hm hc
          refine lv_aload_n hx hb d_MD_signal_33 rfl (lv_at hl 0 rfl) ?_
          refine va_get (D := (dC, dI)) (ci := 10) (v := .ref (q0 3)) (C := "AlarmMatrixModel") (T := T_MD) (N := 42) hx hb hts i_MD hown hK hP 0 rfl rfl 3 (by decide) (hts _ k5_23) (fun _ h9 => h9) rfl d_MD_signal_34 ?_
          refine lv_iload_n hx hb d_MD_signal_37 rfl (lv_at hl 1 rfl) ?_
          obtain ⟨h_38, hm⟩ := ck_s hm
          refine va_iald (f := (z0_25 3)) hx hb hK hP 1 0 rfl rfl h_38 d_MD_signal_38 ?_
          refine lv_istore_n (lv' := [(3, .int ((z0_25 3) a1.toNatClampNeg)), (0, .ref h0), (1, .int a1), (2, .int a2)]) hx hb d_MD_signal_39 rfl hl (by decide) rfl (fun ls hl => ?_)
          refine lv_aload_n hx hb d_MD_signal_40 rfl (lv_at hl 1 rfl) ?_
          refine va_get (D := (dC, dI)) (ci := 10) (v := .ref (q0 3)) (C := "AlarmMatrixModel") (T := T_MD) (N := 42) hx hb hts i_MD hown hK hP 0 rfl rfl 3 (by decide) (hts _ k5_23) (fun _ h9 => h9) rfl d_MD_signal_41 ?_
          refine lv_iload_n hx hb d_MD_signal_44 rfl (lv_at hl 2 rfl) ?_
          refine lv_iload_n hx hb d_MD_signal_45 rfl (lv_at hl 3 rfl) ?_
          obtain ⟨h_46, hm⟩ := ck_s hm
          obtain ⟨e0_46, he, hm⟩ := lz_s hm
          refine va_iast (f := (z0_25 3)) hx hb hK hP hD hS 1 0 rfl rfl h_46 d_MD_signal_46 (fun H locs hP hD hS => ?_)
          have hP : va_P (dC, dI) vwCl (wd_MD g h0 q0 e0_46) H := by rw [he]; exact hP
          have hD : va_D A (wd_MD g h0 q0 e0_46) := by rw [he]; exact hD
          refine lv_iload_n hx hb d_MD_signal_47 rfl (lv_at hl 0 rfl) ?_
          obtain rfl := Option.some.inj hm
          rw [hQ]
          exact kri hx hb hr hlocks hAe hP hK hD hS d_MD_signal_48
        · replace hm := if_t hm hc
          refine lv_iconst (v := (0 : Int32)) hx hb d_MD_signal_31 (by decide) ?_
          obtain rfl := Option.some.inj hm
          rw [hQ]
          exact kri hx hb hr hlocks hAe hP hK hD hS d_MD_signal_32
abbrev b_MD_fault : ByteArray := prog_12_method_35_code
abbrev y_MD_fault : MethodName := ⟨"AlarmMatrixModel", "fault", "(IZ)Z"⟩
theorem d_MD_fault_0 : decode b_MD_fault 0 = .ok (.aload_n 0, 1) := by decide +kernel
theorem d_MD_fault_1 : decode b_MD_fault 1 = .ok (.aload_n 0, 1) := by decide +kernel
theorem d_MD_fault_2 : decode b_MD_fault 2 = .ok (.iload_n 1, 1) := by decide +kernel
theorem d_MD_fault_3 : decode b_MD_fault 3 = .ok (.invokevirtual 226, 3) := by decide +kernel
theorem d_MD_fault_6 : decode b_MD_fault 6 = .ok (.iconst 1, 1) := by decide +kernel
theorem d_MD_fault_7 : decode b_MD_fault 7 = .ok (.invokevirtual 114, 3) := by decide +kernel
theorem d_MD_fault_10 : decode b_MD_fault 10 = .ok (.ifCond .ne 5, 3) := by decide +kernel
theorem d_MD_fault_13 : decode b_MD_fault 13 = .ok (.iconst 0, 1) := by decide +kernel
theorem d_MD_fault_14 : decode b_MD_fault 14 = .ok (.ireturn, 1) := by decide +kernel
theorem d_MD_fault_15 : decode b_MD_fault 15 = .ok (.aload_n 0, 1) := by decide +kernel
theorem d_MD_fault_16 : decode b_MD_fault 16 = .ok (.getfield 13, 3) := by decide +kernel
theorem d_MD_fault_19 : decode b_MD_fault 19 = .ok (.iload_n 1, 1) := by decide +kernel
theorem d_MD_fault_20 : decode b_MD_fault 20 = .ok (.baload, 1) := by decide +kernel
theorem d_MD_fault_21 : decode b_MD_fault 21 = .ok (.istore_n 3, 1) := by decide +kernel
theorem d_MD_fault_22 : decode b_MD_fault 22 = .ok (.aload_n 0, 1) := by decide +kernel
theorem d_MD_fault_23 : decode b_MD_fault 23 = .ok (.getfield 13, 3) := by decide +kernel
theorem d_MD_fault_26 : decode b_MD_fault 26 = .ok (.iload_n 1, 1) := by decide +kernel
theorem d_MD_fault_27 : decode b_MD_fault 27 = .ok (.iload_n 2, 1) := by decide +kernel
theorem d_MD_fault_28 : decode b_MD_fault 28 = .ok (.bastore, 1) := by decide +kernel
theorem d_MD_fault_29 : decode b_MD_fault 29 = .ok (.iload_n 3, 1) := by decide +kernel
theorem d_MD_fault_30 : decode b_MD_fault 30 = .ok (.ireturn, 1) := by decide +kernel
def m_MD_fault (F : Nat) (x0 : St) (a1 : Int32) (a2 : Int32) : Option (Int32 × St) :=
  (bn1 (m_MD_isPoint F x0 a1) (fun r3 => (bn2 (m_MD_goes F x0 r3 (1 : Int32)) (fun r7 z0_7 => (if r7 = (0 : Int32) then (some ((0 : Int32), z0_7)) else (ck a1 200 (ck a1 200 (lz (st z0_7 4 (upd (z0_7 4) a1.toNatClampNeg (vp_nar .boolean a2))) (fun e0_28 => (ckb ((z0_7 4) a1.toNatClampNeg) (some (((z0_7 4) a1.toNatClampNeg), e0_28))))))))))))
abbrev rm_MD_fault : Room := { frames := 1, cells := 0, slots := 0, locals := 22 }
set_option maxHeartbeats 4000000 in
set_option maxRecDepth 100000 in
theorem c_MD_fault {G : (Nat → Prop) → State → Prop} (hG : gok G) (hGn : gN G) (l : Launch) (dC : Nat → ClassId) (dI : Nat → Nat → Nat) (g : Nat → ClassId) (F : Nat) (sz : Nat) (h0 : Nat) (q0 : Nat → Nat) (x0 : St) (a1 : Int32) (a2 : Int32) {o : Int32 × St} (hm : m_MD_fault F x0 a1 a2 = some o) : Met l y_MD_fault (.code y_MD_fault b_MD_fault 4 (some .boolean) :: gw) rm_MD_fault (kq (dC, dI) vwCl (tyv g) G [.ref h0, .int a1, .int a2] sz (wd_MD g h0 q0 x0)) (kqi (dC, dI) vwCl (tyv g) (wd_MD g h0 q0 x0) o.1 (wd_MD g h0 q0 (o.2)) sz) 0 0 (va_A (wd_MD g h0 q0 x0) sz) := by
  unfold m_MD_fault at hm
  refine km (Qc := fun sz => kqi (dC, dI) vwCl (tyv g) (wd_MD g h0 q0 x0) o.1 (wd_MD g h0 q0 (o.2)) sz) (cc := b_MD_fault) (maxL := 4) (ret := some .boolean) (by decide) rfl (Nat.le_of_ble_eq_true rfl) ?_
  intro p e s m args below meth c Q hQ hx hb hr hts hown hlocks hml hnm H locs A hAe hA hP hK hD hS hGA ls hl
  have hl : lv_has ls 4 [(0, .ref h0), (1, .int a1), (2, .int a2)] := hl
  have hts : ∀ w ∈ gw, w.before args s = true := fun w h => hts w (List.mem_cons_of_mem _ h)
  have hown : s.vm.findClass "AlarmMatrixModel" = some m.cls := hown
  refine lv_aload_n hx hb d_MD_fault_0 rfl (lv_at hl 0 rfl) ?_
  refine lv_aload_n hx hb d_MD_fault_1 rfl (lv_at hl 0 rfl) ?_
  refine lv_iload_n hx hb d_MD_fault_2 rfl (lv_at hl 1 rfl) ?_
  obtain ⟨r3, hcl, hm⟩ := bn1_s hm
  refine kci (wc := wd_MD g h0 q0 x0) (wr := ([] : va_W)) (w1 := wd_MD g h0 q0 x0) hP hD hS hA [0, 1, 2, 3, 4, 5, 6, 7, 8, 9, 10, 11, 12, 13, 14, 15, 16, 17, 18, 19, 20, 21, 22, 23, 24, 25, 26, 27, 28, 29, 30, 31] [] rfl rfl (by decide) (by decide) (va_runV (As := [.int a1]) (rest := [.ref h0]) ⟨hx, hb, hml, hown, hts⟩ (c_MD_isPoint hG hGn l dC dI g F H.size h0 q0 x0 a1 hcl) (cwV 1 hts (gdV k6_41 k6_43 kp_44 k1_10 k6_44) rfl rfl rfl (by decide +kernel) ⟨Nat.le_of_ble_eq_true rfl, Nat.le_of_ble_eq_true rfl⟩) (kpV hG hP hK hD hS hA hGA [0, 1, 2, 3, 4, 5, 6, 7, 8, 9, 10, 11, 12, 13, 14, 15, 16, 17, 18, 19, 20, 21, 22, 23, 24, 25, 26, 27, 28, 29, 30, 31] (by decide) rfl (ci := 10) (q0 := 0) rfl rfl rfl) rfl rfl hl.1 rfl (lv_room (Nat.le_of_ble_eq_true rfl)) d_MD_fault_3 ⟨Nat.le_of_ble_eq_true rfl, Nat.le_of_ble_eq_true rfl⟩) (fun H locs hP hD hS => ?_)
  have hP : va_P (dC, dI) vwCl (wd_MD g h0 q0 x0) H := hP
  have hD : va_D A (wd_MD g h0 q0 x0) := hD
  refine lv_iconst (v := (1 : Int32)) hx hb d_MD_fault_6 (by decide) ?_
  obtain ⟨r7, z0_7, hcl, hm⟩ := bn2_s hm
  refine kci (wc := wd_MD g h0 q0 x0) (wr := ([] : va_W)) (w1 := wd_MD g h0 q0 z0_7) hP hD hS hA [0, 1, 2, 3, 4, 5, 6, 7, 8, 9, 10, 11, 12, 13, 14, 15, 16, 17, 18, 19, 20, 21, 22, 23, 24, 25, 26, 27, 28, 29, 30, 31] [] rfl rfl (by decide) (by decide) (va_runV (As := [.int r3, .int (1 : Int32)]) (rest := []) ⟨hx, hb, hml, hown, hts⟩ (c_MD_goes hG hGn l dC dI g F H.size h0 q0 x0 r3 (1 : Int32) hcl) (cwV 2 hts (gdV k5_155 k5_157 kp_20 k1_10 k5_158) rfl rfl rfl (by decide +kernel) ⟨Nat.le_of_ble_eq_true rfl, Nat.le_of_ble_eq_true rfl⟩) (kpV hG hP hK hD hS hA hGA [0, 1, 2, 3, 4, 5, 6, 7, 8, 9, 10, 11, 12, 13, 14, 15, 16, 17, 18, 19, 20, 21, 22, 23, 24, 25, 26, 27, 28, 29, 30, 31] (by decide) rfl (ci := 10) (q0 := 0) rfl rfl rfl) rfl rfl hl.1 rfl (lv_room (Nat.le_of_ble_eq_true rfl)) d_MD_fault_7 ⟨Nat.le_of_ble_eq_true rfl, Nat.le_of_ble_eq_true rfl⟩) (fun H locs hP hD hS => ?_)
  have hP : va_P (dC, dI) vwCl (wd_MD g h0 q0 z0_7) H := hP
  have hD : va_D A (wd_MD g h0 q0 z0_7) := hD
  refine lv_if_ne (tgt := 15) hx hb d_MD_fault_10 (by decide) (fun hc => ?_) (fun hc => ?_)
  · replace hm := if_f hm hc
    refine lv_aload_n hx hb d_MD_fault_15 rfl (lv_at hl 0 rfl) ?_
    refine va_get (D := (dC, dI)) (ci := 10) (v := .ref (q0 4)) (C := "AlarmMatrixModel") (T := T_MD) (N := 42) hx hb hts i_MD hown hK hP 0 rfl rfl 4 (by decide) (hts _ k5_24) (fun _ h9 => h9) rfl d_MD_fault_16 ?_
    refine lv_iload_n hx hb d_MD_fault_19 rfl (lv_at hl 1 rfl) ?_
    obtain ⟨h_20, hm⟩ := ck_s hm
    refine va_zald (f := (z0_7 4)) hx hb hK hP 2 1 rfl rfl h_20 d_MD_fault_20 ?_
    refine lv_istore_n (lv' := [(3, .int ((z0_7 4) a1.toNatClampNeg)), (0, .ref h0), (1, .int a1), (2, .int a2)]) hx hb d_MD_fault_21 rfl hl (by decide) rfl (fun ls hl => ?_)
    refine lv_aload_n hx hb d_MD_fault_22 rfl (lv_at hl 1 rfl) ?_
    refine va_get (D := (dC, dI)) (ci := 10) (v := .ref (q0 4)) (C := "AlarmMatrixModel") (T := T_MD) (N := 42) hx hb hts i_MD hown hK hP 0 rfl rfl 4 (by decide) (hts _ k5_24) (fun _ h9 => h9) rfl d_MD_fault_23 ?_
    refine lv_iload_n hx hb d_MD_fault_26 rfl (lv_at hl 2 rfl) ?_
    refine lv_iload_n hx hb d_MD_fault_27 rfl (lv_at hl 3 rfl) ?_
    obtain ⟨h_28, hm⟩ := ck_s hm
    obtain ⟨e0_28, he, hm⟩ := lz_s hm
    refine va_zast (f := (z0_7 4)) hx hb hK hP hD hS 2 1 rfl rfl h_28 d_MD_fault_28 (fun H locs hP hD hS => ?_)
    have hP : va_P (dC, dI) vwCl (wd_MD g h0 q0 e0_28) H := by rw [he]; exact hP
    have hD : va_D A (wd_MD g h0 q0 e0_28) := by rw [he]; exact hD
    refine lv_iload_n hx hb d_MD_fault_29 rfl (lv_at hl 0 rfl) ?_
    obtain ⟨hz, hm⟩ := ckb_s hm
    obtain rfl := Option.some.inj hm
    rw [hQ]
    exact krz hx hb hr hz hlocks hAe hP hK hD hS d_MD_fault_30
  · replace hm := if_t hm hc
    refine lv_iconst (v := (0 : Int32)) hx hb d_MD_fault_13 (by decide) ?_
    obtain rfl := Option.some.inj hm
    rw [hQ]
    exact krz hx hb hr nar_0 hlocks hAe hP hK hD hS d_MD_fault_14
abbrev b_MD_disable : ByteArray := prog_12_method_36_code
abbrev y_MD_disable : MethodName := ⟨"AlarmMatrixModel", "disable", "(II)I"⟩
theorem d_MD_disable_0 : decode b_MD_disable 0 = .ok (.aload_n 0, 1) := by decide +kernel
theorem d_MD_disable_1 : decode b_MD_disable 1 = .ok (.aload_n 0, 1) := by decide +kernel
theorem d_MD_disable_2 : decode b_MD_disable 2 = .ok (.iload_n 1, 1) := by decide +kernel
theorem d_MD_disable_3 : decode b_MD_disable 3 = .ok (.invokevirtual 226, 3) := by decide +kernel
theorem d_MD_disable_6 : decode b_MD_disable 6 = .ok (.ifCond .eq 17, 3) := by decide +kernel
theorem d_MD_disable_9 : decode b_MD_disable 9 = .ok (.iload_n 2, 1) := by decide +kernel
theorem d_MD_disable_10 : decode b_MD_disable 10 = .ok (.ifCond .lt 13, 3) := by decide +kernel
theorem d_MD_disable_13 : decode b_MD_disable 13 = .ok (.iload_n 2, 1) := by decide +kernel
theorem d_MD_disable_14 : decode b_MD_disable 14 = .ok (.ldc 229, 2) := by decide +kernel
theorem d_MD_disable_16 : decode b_MD_disable 16 = .ok (.if_icmp .gt 7, 3) := by decide +kernel
theorem d_MD_disable_19 : decode b_MD_disable 19 = .ok (.iconst 1, 1) := by decide +kernel
theorem d_MD_disable_20 : decode b_MD_disable 20 = .ok (.goto 4, 3) := by decide +kernel
theorem d_MD_disable_23 : decode b_MD_disable 23 = .ok (.iconst 0, 1) := by decide +kernel
theorem d_MD_disable_24 : decode b_MD_disable 24 = .ok (.iconst 1, 1) := by decide +kernel
theorem d_MD_disable_25 : decode b_MD_disable 25 = .ok (.invokevirtual 114, 3) := by decide +kernel
theorem d_MD_disable_28 : decode b_MD_disable 28 = .ok (.ifCond .ne 5, 3) := by decide +kernel
theorem d_MD_disable_31 : decode b_MD_disable 31 = .ok (.iconst 0, 1) := by decide +kernel
theorem d_MD_disable_32 : decode b_MD_disable 32 = .ok (.ireturn, 1) := by decide +kernel
theorem d_MD_disable_33 : decode b_MD_disable 33 = .ok (.aload_n 0, 1) := by decide +kernel
theorem d_MD_disable_34 : decode b_MD_disable 34 = .ok (.getfield 17, 3) := by decide +kernel
theorem d_MD_disable_37 : decode b_MD_disable 37 = .ok (.iload_n 1, 1) := by decide +kernel
theorem d_MD_disable_38 : decode b_MD_disable 38 = .ok (.iaload, 1) := by decide +kernel
theorem d_MD_disable_39 : decode b_MD_disable 39 = .ok (.istore_n 3, 1) := by decide +kernel
theorem d_MD_disable_40 : decode b_MD_disable 40 = .ok (.aload_n 0, 1) := by decide +kernel
theorem d_MD_disable_41 : decode b_MD_disable 41 = .ok (.getfield 17, 3) := by decide +kernel
theorem d_MD_disable_44 : decode b_MD_disable 44 = .ok (.iload_n 1, 1) := by decide +kernel
theorem d_MD_disable_45 : decode b_MD_disable 45 = .ok (.iload_n 2, 1) := by decide +kernel
theorem d_MD_disable_46 : decode b_MD_disable 46 = .ok (.iastore, 1) := by decide +kernel
theorem d_MD_disable_47 : decode b_MD_disable 47 = .ok (.iload_n 3, 1) := by decide +kernel
theorem d_MD_disable_48 : decode b_MD_disable 48 = .ok (.ireturn, 1) := by decide +kernel
def m_MD_disable (F : Nat) (x0 : St) (a1 : Int32) (a2 : Int32) : Option (Int32 × St) :=
  (bn1 (m_MD_isPoint F x0 a1) (fun r3 => (if r3 = (0 : Int32) then (bn2 (m_MD_goes F x0 (0 : Int32) (1 : Int32)) (fun r25 z0_25 => (if r25 = (0 : Int32) then (some ((0 : Int32), z0_25)) else (ck a1 200 (ck a1 200 (lz (st z0_25 5 (upd (z0_25 5) a1.toNatClampNeg a2)) (fun e0_46 => (some (((z0_25 5) a1.toNatClampNeg), e0_46))))))))) else (if a2 < (0 : Int32) then (bn2 (m_MD_goes F x0 (0 : Int32) (1 : Int32)) (fun r25 z0_25 => (if r25 = (0 : Int32) then (some ((0 : Int32), z0_25)) else (ck a1 200 (ck a1 200 (lz (st z0_25 5 (upd (z0_25 5) a1.toNatClampNeg a2)) (fun e0_46 => (some (((z0_25 5) a1.toNatClampNeg), e0_46))))))))) else (if (1000000 : Int32) < a2 then (bn2 (m_MD_goes F x0 (0 : Int32) (1 : Int32)) (fun r25 z0_25 => (if r25 = (0 : Int32) then (some ((0 : Int32), z0_25)) else (ck a1 200 (ck a1 200 (lz (st z0_25 5 (upd (z0_25 5) a1.toNatClampNeg a2)) (fun e0_46 => (some (((z0_25 5) a1.toNatClampNeg), e0_46))))))))) else (bn2 (m_MD_goes F x0 (1 : Int32) (1 : Int32)) (fun r25 z0_25 => (if r25 = (0 : Int32) then (some ((0 : Int32), z0_25)) else (ck a1 200 (ck a1 200 (lz (st z0_25 5 (upd (z0_25 5) a1.toNatClampNeg a2)) (fun e0_46 => (some (((z0_25 5) a1.toNatClampNeg), e0_46))))))))))))))
abbrev rm_MD_disable : Room := { frames := 1, cells := 0, slots := 0, locals := 22 }
set_option maxHeartbeats 4000000 in
set_option maxRecDepth 100000 in
theorem c_MD_disable {G : (Nat → Prop) → State → Prop} (hG : gok G) (hGn : gN G) (l : Launch) (dC : Nat → ClassId) (dI : Nat → Nat → Nat) (g : Nat → ClassId) (F : Nat) (sz : Nat) (h0 : Nat) (q0 : Nat → Nat) (x0 : St) (a1 : Int32) (a2 : Int32) {o : Int32 × St} (hm : m_MD_disable F x0 a1 a2 = some o) : Met l y_MD_disable (.code y_MD_disable b_MD_disable 4 (some .int) :: gw) rm_MD_disable (kq (dC, dI) vwCl (tyv g) G [.ref h0, .int a1, .int a2] sz (wd_MD g h0 q0 x0)) (kqi (dC, dI) vwCl (tyv g) (wd_MD g h0 q0 x0) o.1 (wd_MD g h0 q0 (o.2)) sz) 0 0 (va_A (wd_MD g h0 q0 x0) sz) := by
  unfold m_MD_disable at hm
  refine km (Qc := fun sz => kqi (dC, dI) vwCl (tyv g) (wd_MD g h0 q0 x0) o.1 (wd_MD g h0 q0 (o.2)) sz) (cc := b_MD_disable) (maxL := 4) (ret := some .int) (by decide) rfl (Nat.le_of_ble_eq_true rfl) ?_
  intro p e s m args below meth c Q hQ hx hb hr hts hown hlocks hml hnm H locs A hAe hA hP hK hD hS hGA ls hl
  have hl : lv_has ls 4 [(0, .ref h0), (1, .int a1), (2, .int a2)] := hl
  have hts : ∀ w ∈ gw, w.before args s = true := fun w h => hts w (List.mem_cons_of_mem _ h)
  have hown : s.vm.findClass "AlarmMatrixModel" = some m.cls := hown
  refine lv_aload_n hx hb d_MD_disable_0 rfl (lv_at hl 0 rfl) ?_
  refine lv_aload_n hx hb d_MD_disable_1 rfl (lv_at hl 0 rfl) ?_
  refine lv_iload_n hx hb d_MD_disable_2 rfl (lv_at hl 1 rfl) ?_
  obtain ⟨r3, hcl, hm⟩ := bn1_s hm
  refine kci (wc := wd_MD g h0 q0 x0) (wr := ([] : va_W)) (w1 := wd_MD g h0 q0 x0) hP hD hS hA [0, 1, 2, 3, 4, 5, 6, 7, 8, 9, 10, 11, 12, 13, 14, 15, 16, 17, 18, 19, 20, 21, 22, 23, 24, 25, 26, 27, 28, 29, 30, 31] [] rfl rfl (by decide) (by decide) (va_runV (As := [.int a1]) (rest := [.ref h0]) ⟨hx, hb, hml, hown, hts⟩ (c_MD_isPoint hG hGn l dC dI g F H.size h0 q0 x0 a1 hcl) (cwV 1 hts (gdV k6_41 k6_43 kp_44 k1_10 k6_44) rfl rfl rfl (by decide +kernel) ⟨Nat.le_of_ble_eq_true rfl, Nat.le_of_ble_eq_true rfl⟩) (kpV hG hP hK hD hS hA hGA [0, 1, 2, 3, 4, 5, 6, 7, 8, 9, 10, 11, 12, 13, 14, 15, 16, 17, 18, 19, 20, 21, 22, 23, 24, 25, 26, 27, 28, 29, 30, 31] (by decide) rfl (ci := 10) (q0 := 0) rfl rfl rfl) rfl rfl hl.1 rfl (lv_room (Nat.le_of_ble_eq_true rfl)) d_MD_disable_3 ⟨Nat.le_of_ble_eq_true rfl, Nat.le_of_ble_eq_true rfl⟩) (fun H locs hP hD hS => ?_)
  have hP : va_P (dC, dI) vwCl (wd_MD g h0 q0 x0) H := hP
  have hD : va_D A (wd_MD g h0 q0 x0) := hD
  refine lv_if_eq (tgt := 23) hx hb d_MD_disable_6 (by decide) (fun hc => ?_) (fun hc => ?_)
  · replace hm := if_t hm hc
    refine lv_iconst (v := (0 : Int32)) hx hb d_MD_disable_23 (by decide) ?_
    refine lv_iconst (v := (1 : Int32)) hx hb d_MD_disable_24 (by decide) ?_
    obtain ⟨r25, z0_25, hcl, hm⟩ := bn2_s hm
    refine kci (wc := wd_MD g h0 q0 x0) (wr := ([] : va_W)) (w1 := wd_MD g h0 q0 z0_25) hP hD hS hA [0, 1, 2, 3, 4, 5, 6, 7, 8, 9, 10, 11, 12, 13, 14, 15, 16, 17, 18, 19, 20, 21, 22, 23, 24, 25, 26, 27, 28, 29, 30, 31] [] rfl rfl (by decide) (by decide) (va_runV (As := [.int (0 : Int32), .int (1 : Int32)]) (rest := []) ⟨hx, hb, hml, hown, hts⟩ (c_MD_goes hG hGn l dC dI g F H.size h0 q0 x0 (0 : Int32) (1 : Int32) hcl) (cwV 2 hts (gdV k5_155 k5_157 kp_20 k1_10 k5_158) rfl rfl rfl (by decide +kernel) ⟨Nat.le_of_ble_eq_true rfl, Nat.le_of_ble_eq_true rfl⟩) (kpV hG hP hK hD hS hA hGA [0, 1, 2, 3, 4, 5, 6, 7, 8, 9, 10, 11, 12, 13, 14, 15, 16, 17, 18, 19, 20, 21, 22, 23, 24, 25, 26, 27, 28, 29, 30, 31] (by decide) rfl (ci := 10) (q0 := 0) rfl rfl rfl) rfl rfl hl.1 rfl (lv_room (Nat.le_of_ble_eq_true rfl)) d_MD_disable_25 ⟨Nat.le_of_ble_eq_true rfl, Nat.le_of_ble_eq_true rfl⟩) (fun H locs hP hD hS => ?_)
    have hP : va_P (dC, dI) vwCl (wd_MD g h0 q0 z0_25) H := hP
    have hD : va_D A (wd_MD g h0 q0 z0_25) := hD
    refine lv_if_ne (tgt := 33) hx hb d_MD_disable_28 (by decide) (fun hc => ?_) (fun hc => ?_)
    · replace hm := if_f hm hc
      refine lv_aload_n hx hb d_MD_disable_33 rfl (lv_at hl 0 rfl) ?_
      refine va_get (D := (dC, dI)) (ci := 10) (v := .ref (q0 5)) (C := "AlarmMatrixModel") (T := T_MD) (N := 42) hx hb hts i_MD hown hK hP 0 rfl rfl 5 (by decide) (hts _ k5_25) (fun _ h9 => h9) rfl d_MD_disable_34 ?_
      refine lv_iload_n hx hb d_MD_disable_37 rfl (lv_at hl 1 rfl) ?_
      obtain ⟨h_38, hm⟩ := ck_s hm
      refine va_iald (f := (z0_25 5)) hx hb hK hP 3 0 rfl rfl h_38 d_MD_disable_38 ?_
      refine lv_istore_n (lv' := [(3, .int ((z0_25 5) a1.toNatClampNeg)), (0, .ref h0), (1, .int a1), (2, .int a2)]) hx hb d_MD_disable_39 rfl hl (by decide) rfl (fun ls hl => ?_)
      refine lv_aload_n hx hb d_MD_disable_40 rfl (lv_at hl 1 rfl) ?_
      refine va_get (D := (dC, dI)) (ci := 10) (v := .ref (q0 5)) (C := "AlarmMatrixModel") (T := T_MD) (N := 42) hx hb hts i_MD hown hK hP 0 rfl rfl 5 (by decide) (hts _ k5_25) (fun _ h9 => h9) rfl d_MD_disable_41 ?_
      refine lv_iload_n hx hb d_MD_disable_44 rfl (lv_at hl 2 rfl) ?_
      refine lv_iload_n hx hb d_MD_disable_45 rfl (lv_at hl 3 rfl) ?_
      obtain ⟨h_46, hm⟩ := ck_s hm
      obtain ⟨e0_46, he, hm⟩ := lz_s hm
      refine va_iast (f := (z0_25 5)) hx hb hK hP hD hS 3 0 rfl rfl h_46 d_MD_disable_46 (fun H locs hP hD hS => ?_)
      have hP : va_P (dC, dI) vwCl (wd_MD g h0 q0 e0_46) H := by rw [he]; exact hP
      have hD : va_D A (wd_MD g h0 q0 e0_46) := by rw [he]; exact hD
      refine lv_iload_n hx hb d_MD_disable_47 rfl (lv_at hl 0 rfl) ?_
      obtain rfl := Option.some.inj hm
      rw [hQ]
      exact kri hx hb hr hlocks hAe hP hK hD hS d_MD_disable_48
    · replace hm := if_t hm hc
      refine lv_iconst (v := (0 : Int32)) hx hb d_MD_disable_31 (by decide) ?_
      obtain rfl := Option.some.inj hm
      rw [hQ]
      exact kri hx hb hr hlocks hAe hP hK hD hS d_MD_disable_32
  · replace hm := if_f hm hc
    refine lv_iload_n hx hb d_MD_disable_9 rfl (lv_at hl 2 rfl) ?_
    refine lv_if_lt (tgt := 23) hx hb d_MD_disable_10 (by decide) (fun hc => ?_) (fun hc => ?_)
    · replace hm := if_t hm hc
      refine lv_iconst (v := (0 : Int32)) hx hb d_MD_disable_23 (by decide) ?_
      refine lv_iconst (v := (1 : Int32)) hx hb d_MD_disable_24 (by decide) ?_
      obtain ⟨r25, z0_25, hcl, hm⟩ := bn2_s hm
      refine kci (wc := wd_MD g h0 q0 x0) (wr := ([] : va_W)) (w1 := wd_MD g h0 q0 z0_25) hP hD hS hA [0, 1, 2, 3, 4, 5, 6, 7, 8, 9, 10, 11, 12, 13, 14, 15, 16, 17, 18, 19, 20, 21, 22, 23, 24, 25, 26, 27, 28, 29, 30, 31] [] rfl rfl (by decide) (by decide) (va_runV (As := [.int (0 : Int32), .int (1 : Int32)]) (rest := []) ⟨hx, hb, hml, hown, hts⟩ (c_MD_goes hG hGn l dC dI g F H.size h0 q0 x0 (0 : Int32) (1 : Int32) hcl) (cwV 2 hts (gdV k5_155 k5_157 kp_20 k1_10 k5_158) rfl rfl rfl (by decide +kernel) ⟨Nat.le_of_ble_eq_true rfl, Nat.le_of_ble_eq_true rfl⟩) (kpV hG hP hK hD hS hA hGA [0, 1, 2, 3, 4, 5, 6, 7, 8, 9, 10, 11, 12, 13, 14, 15, 16, 17, 18, 19, 20, 21, 22, 23, 24, 25, 26, 27, 28, 29, 30, 31] (by decide) rfl (ci := 10) (q0 := 0) rfl rfl rfl) rfl rfl hl.1 rfl (lv_room (Nat.le_of_ble_eq_true rfl)) d_MD_disable_25 ⟨Nat.le_of_ble_eq_true rfl, Nat.le_of_ble_eq_true rfl⟩) (fun H locs hP hD hS => ?_)
      have hP : va_P (dC, dI) vwCl (wd_MD g h0 q0 z0_25) H := hP
      have hD : va_D A (wd_MD g h0 q0 z0_25) := hD
      refine lv_if_ne (tgt := 33) hx hb d_MD_disable_28 (by decide) (fun hc => ?_) (fun hc => ?_)
      · replace hm := if_f hm hc
        refine lv_aload_n hx hb d_MD_disable_33 rfl (lv_at hl 0 rfl) ?_
        refine va_get (D := (dC, dI)) (ci := 10) (v := .ref (q0 5)) (C := "AlarmMatrixModel") (T := T_MD) (N := 42) hx hb hts i_MD hown hK hP 0 rfl rfl 5 (by decide) (hts _ k5_25) (fun _ h9 => h9) rfl d_MD_disable_34 ?_
        refine lv_iload_n hx hb d_MD_disable_37 rfl (lv_at hl 1 rfl) ?_
        obtain ⟨h_38, hm⟩ := ck_s hm
        refine va_iald (f := (z0_25 5)) hx hb hK hP 3 0 rfl rfl h_38 d_MD_disable_38 ?_
        refine lv_istore_n (lv' := [(3, .int ((z0_25 5) a1.toNatClampNeg)), (0, .ref h0), (1, .int a1), (2, .int a2)]) hx hb d_MD_disable_39 rfl hl (by decide) rfl (fun ls hl => ?_)
        refine lv_aload_n hx hb d_MD_disable_40 rfl (lv_at hl 1 rfl) ?_
        refine va_get (D := (dC, dI)) (ci := 10) (v := .ref (q0 5)) (C := "AlarmMatrixModel") (T := T_MD) (N := 42) hx hb hts i_MD hown hK hP 0 rfl rfl 5 (by decide) (hts _ k5_25) (fun _ h9 => h9) rfl d_MD_disable_41 ?_
        refine lv_iload_n hx hb d_MD_disable_44 rfl (lv_at hl 2 rfl) ?_
        refine lv_iload_n hx hb d_MD_disable_45 rfl (lv_at hl 3 rfl) ?_
        obtain ⟨h_46, hm⟩ := ck_s hm
        obtain ⟨e0_46, he, hm⟩ := lz_s hm
        refine va_iast (f := (z0_25 5)) hx hb hK hP hD hS 3 0 rfl rfl h_46 d_MD_disable_46 (fun H locs hP hD hS => ?_)
        have hP : va_P (dC, dI) vwCl (wd_MD g h0 q0 e0_46) H := by rw [he]; exact hP
        have hD : va_D A (wd_MD g h0 q0 e0_46) := by rw [he]; exact hD
        refine lv_iload_n hx hb d_MD_disable_47 rfl (lv_at hl 0 rfl) ?_
        obtain rfl := Option.some.inj hm
        rw [hQ]
        exact kri hx hb hr hlocks hAe hP hK hD hS d_MD_disable_48
      · replace hm := if_t hm hc
        refine lv_iconst (v := (0 : Int32)) hx hb d_MD_disable_31 (by decide) ?_
        obtain rfl := Option.some.inj hm
        rw [hQ]
        exact kri hx hb hr hlocks hAe hP hK hD hS d_MD_disable_32
    · replace hm := if_f hm hc
      refine lv_iload_n hx hb d_MD_disable_13 rfl (lv_at hl 2 rfl) ?_
      refine lv_ldc (v := (1000000 : Int32)) hx hb hown (hts _ k6_53) d_MD_disable_14 ?_
      refine lv_icmp_gt (tgt := 23) hx hb d_MD_disable_16 (by decide) (fun hc => ?_) (fun hc => ?_)
      · replace hm := if_t hm hc
        refine lv_iconst (v := (0 : Int32)) hx hb d_MD_disable_23 (by decide) ?_
        refine lv_iconst (v := (1 : Int32)) hx hb d_MD_disable_24 (by decide) ?_
        obtain ⟨r25, z0_25, hcl, hm⟩ := bn2_s hm
        refine kci (wc := wd_MD g h0 q0 x0) (wr := ([] : va_W)) (w1 := wd_MD g h0 q0 z0_25) hP hD hS hA [0, 1, 2, 3, 4, 5, 6, 7, 8, 9, 10, 11, 12, 13, 14, 15, 16, 17, 18, 19, 20, 21, 22, 23, 24, 25, 26, 27, 28, 29, 30, 31] [] rfl rfl (by decide) (by decide) (va_runV (As := [.int (0 : Int32), .int (1 : Int32)]) (rest := []) ⟨hx, hb, hml, hown, hts⟩ (c_MD_goes hG hGn l dC dI g F H.size h0 q0 x0 (0 : Int32) (1 : Int32) hcl) (cwV 2 hts (gdV k5_155 k5_157 kp_20 k1_10 k5_158) rfl rfl rfl (by decide +kernel) ⟨Nat.le_of_ble_eq_true rfl, Nat.le_of_ble_eq_true rfl⟩) (kpV hG hP hK hD hS hA hGA [0, 1, 2, 3, 4, 5, 6, 7, 8, 9, 10, 11, 12, 13, 14, 15, 16, 17, 18, 19, 20, 21, 22, 23, 24, 25, 26, 27, 28, 29, 30, 31] (by decide) rfl (ci := 10) (q0 := 0) rfl rfl rfl) rfl rfl hl.1 rfl (lv_room (Nat.le_of_ble_eq_true rfl)) d_MD_disable_25 ⟨Nat.le_of_ble_eq_true rfl, Nat.le_of_ble_eq_true rfl⟩) (fun H locs hP hD hS => ?_)
        have hP : va_P (dC, dI) vwCl (wd_MD g h0 q0 z0_25) H := hP
        have hD : va_D A (wd_MD g h0 q0 z0_25) := hD
        refine lv_if_ne (tgt := 33) hx hb d_MD_disable_28 (by decide) (fun hc => ?_) (fun hc => ?_)
        · replace hm := if_f hm hc
          refine lv_aload_n hx hb d_MD_disable_33 rfl (lv_at hl 0 rfl) ?_
          refine va_get (D := (dC, dI)) (ci := 10) (v := .ref (q0 5)) (C := "AlarmMatrixModel") (T := T_MD) (N := 42) hx hb hts i_MD hown hK hP 0 rfl rfl 5 (by decide) (hts _ k5_25) (fun _ h9 => h9) rfl d_MD_disable_34 ?_
          refine lv_iload_n hx hb d_MD_disable_37 rfl (lv_at hl 1 rfl) ?_
          obtain ⟨h_38, hm⟩ := ck_s hm
          refine va_iald (f := (z0_25 5)) hx hb hK hP 3 0 rfl rfl h_38 d_MD_disable_38 ?_
          refine lv_istore_n (lv' := [(3, .int ((z0_25 5) a1.toNatClampNeg)), (0, .ref h0), (1, .int a1), (2, .int a2)]) hx hb d_MD_disable_39 rfl hl (by decide) rfl (fun ls hl => ?_)
          refine lv_aload_n hx hb d_MD_disable_40 rfl (lv_at hl 1 rfl) ?_
          refine va_get (D := (dC, dI)) (ci := 10) (v := .ref (q0 5)) (C := "AlarmMatrixModel") (T := T_MD) (N := 42) hx hb hts i_MD hown hK hP 0 rfl rfl 5 (by decide) (hts _ k5_25) (fun _ h9 => h9) rfl d_MD_disable_41 ?_
          refine lv_iload_n hx hb d_MD_disable_44 rfl (lv_at hl 2 rfl) ?_
          refine lv_iload_n hx hb d_MD_disable_45 rfl (lv_at hl 3 rfl) ?_
          obtain ⟨h_46, hm⟩ := ck_s hm
          obtain ⟨e0_46, he, hm⟩ := lz_s hm
          refine va_iast (f := (z0_25 5)) hx hb hK hP hD hS 3 0 rfl rfl h_46 d_MD_disable_46 (fun H locs hP hD hS => ?_)
          have hP : va_P (dC, dI) vwCl (wd_MD g h0 q0 e0_46) H := by rw [he]; exact hP
          have hD : va_D A (wd_MD g h0 q0 e0_46) := by rw [he]; exact hD
          refine lv_iload_n hx hb d_MD_disable_47 rfl (lv_at hl 0 rfl) ?_
          obtain rfl := Option.some.inj hm
          rw [hQ]
          exact kri hx hb hr hlocks hAe hP hK hD hS d_MD_disable_48
        · replace hm := if_t hm hc
          refine lv_iconst (v := (0 : Int32)) hx hb d_MD_disable_31 (by decide) ?_
          obtain rfl := Option.some.inj hm
          rw [hQ]
          exact kri hx hb hr hlocks hAe hP hK hD hS d_MD_disable_32
      · replace hm := if_f hm hc
        refine lv_iconst (v := (1 : Int32)) hx hb d_MD_disable_19 (by decide) ?_
        refine lv_goto (tgt := 24) hx hb d_MD_disable_20 (by decide) ?_
        refine lv_iconst (v := (1 : Int32)) hx hb d_MD_disable_24 (by decide) ?_
        obtain ⟨r25, z0_25, hcl, hm⟩ := bn2_s hm
        refine kci (wc := wd_MD g h0 q0 x0) (wr := ([] : va_W)) (w1 := wd_MD g h0 q0 z0_25) hP hD hS hA [0, 1, 2, 3, 4, 5, 6, 7, 8, 9, 10, 11, 12, 13, 14, 15, 16, 17, 18, 19, 20, 21, 22, 23, 24, 25, 26, 27, 28, 29, 30, 31] [] rfl rfl (by decide) (by decide) (va_runV (As := [.int (1 : Int32), .int (1 : Int32)]) (rest := []) ⟨hx, hb, hml, hown, hts⟩ (c_MD_goes hG hGn l dC dI g F H.size h0 q0 x0 (1 : Int32) (1 : Int32) hcl) (cwV 2 hts (gdV k5_155 k5_157 kp_20 k1_10 k5_158) rfl rfl rfl (by decide +kernel) ⟨Nat.le_of_ble_eq_true rfl, Nat.le_of_ble_eq_true rfl⟩) (kpV hG hP hK hD hS hA hGA [0, 1, 2, 3, 4, 5, 6, 7, 8, 9, 10, 11, 12, 13, 14, 15, 16, 17, 18, 19, 20, 21, 22, 23, 24, 25, 26, 27, 28, 29, 30, 31] (by decide) rfl (ci := 10) (q0 := 0) rfl rfl rfl) rfl rfl hl.1 rfl (lv_room (Nat.le_of_ble_eq_true rfl)) d_MD_disable_25 ⟨Nat.le_of_ble_eq_true rfl, Nat.le_of_ble_eq_true rfl⟩) (fun H locs hP hD hS => ?_)
        have hP : va_P (dC, dI) vwCl (wd_MD g h0 q0 z0_25) H := hP
        have hD : va_D A (wd_MD g h0 q0 z0_25) := hD
        refine lv_if_ne (tgt := 33) hx hb d_MD_disable_28 (by decide) (fun hc => ?_) (fun hc => ?_)
        · replace hm := if_f hm hc
          refine lv_aload_n hx hb d_MD_disable_33 rfl (lv_at hl 0 rfl) ?_
          refine va_get (D := (dC, dI)) (ci := 10) (v := .ref (q0 5)) (C := "AlarmMatrixModel") (T := T_MD) (N := 42) hx hb hts i_MD hown hK hP 0 rfl rfl 5 (by decide) (hts _ k5_25) (fun _ h9 => h9) rfl d_MD_disable_34 ?_
          refine lv_iload_n hx hb d_MD_disable_37 rfl (lv_at hl 1 rfl) ?_
          obtain ⟨h_38, hm⟩ := ck_s hm
          refine va_iald (f := (z0_25 5)) hx hb hK hP 3 0 rfl rfl h_38 d_MD_disable_38 ?_
          refine lv_istore_n (lv' := [(3, .int ((z0_25 5) a1.toNatClampNeg)), (0, .ref h0), (1, .int a1), (2, .int a2)]) hx hb d_MD_disable_39 rfl hl (by decide) rfl (fun ls hl => ?_)
          refine lv_aload_n hx hb d_MD_disable_40 rfl (lv_at hl 1 rfl) ?_
          refine va_get (D := (dC, dI)) (ci := 10) (v := .ref (q0 5)) (C := "AlarmMatrixModel") (T := T_MD) (N := 42) hx hb hts i_MD hown hK hP 0 rfl rfl 5 (by decide) (hts _ k5_25) (fun _ h9 => h9) rfl d_MD_disable_41 ?_
          refine lv_iload_n hx hb d_MD_disable_44 rfl (lv_at hl 2 rfl) ?_
          refine lv_iload_n hx hb d_MD_disable_45 rfl (lv_at hl 3 rfl) ?_
          obtain ⟨h_46, hm⟩ := ck_s hm
          obtain ⟨e0_46, he, hm⟩ := lz_s hm
          refine va_iast (f := (z0_25 5)) hx hb hK hP hD hS 3 0 rfl rfl h_46 d_MD_disable_46 (fun H locs hP hD hS => ?_)
          have hP : va_P (dC, dI) vwCl (wd_MD g h0 q0 e0_46) H := by rw [he]; exact hP
          have hD : va_D A (wd_MD g h0 q0 e0_46) := by rw [he]; exact hD
          refine lv_iload_n hx hb d_MD_disable_47 rfl (lv_at hl 0 rfl) ?_
          obtain rfl := Option.some.inj hm
          rw [hQ]
          exact kri hx hb hr hlocks hAe hP hK hD hS d_MD_disable_48
        · replace hm := if_t hm hc
          refine lv_iconst (v := (0 : Int32)) hx hb d_MD_disable_31 (by decide) ?_
          obtain rfl := Option.some.inj hm
          rw [hQ]
          exact kri hx hb hr hlocks hAe hP hK hD hS d_MD_disable_32
abbrev b_MD_loop : ByteArray := prog_12_method_37_code
abbrev y_MD_loop : MethodName := ⟨"AlarmMatrixModel", "loop", "(II)I"⟩
theorem d_MD_loop_0 : decode b_MD_loop 0 = .ok (.iload_n 1, 1) := by decide +kernel
theorem d_MD_loop_1 : decode b_MD_loop 1 = .ok (.invokestatic 230, 3) := by decide +kernel
theorem d_MD_loop_4 : decode b_MD_loop 4 = .ok (.ifCond .eq 15, 3) := by decide +kernel
theorem d_MD_loop_7 : decode b_MD_loop 7 = .ok (.aload_n 0, 1) := by decide +kernel
theorem d_MD_loop_8 : decode b_MD_loop 8 = .ok (.iload_n 2, 1) := by decide +kernel
theorem d_MD_loop_9 : decode b_MD_loop 9 = .ok (.invokevirtual 226, 3) := by decide +kernel
theorem d_MD_loop_12 : decode b_MD_loop 12 = .ok (.ifCond .eq 7, 3) := by decide +kernel
theorem d_MD_loop_15 : decode b_MD_loop 15 = .ok (.iconst 1, 1) := by decide +kernel
theorem d_MD_loop_16 : decode b_MD_loop 16 = .ok (.goto 4, 3) := by decide +kernel
theorem d_MD_loop_19 : decode b_MD_loop 19 = .ok (.iconst 0, 1) := by decide +kernel
theorem d_MD_loop_20 : decode b_MD_loop 20 = .ok (.istore_n 3, 1) := by decide +kernel
theorem d_MD_loop_21 : decode b_MD_loop 21 = .ok (.aload_n 0, 1) := by decide +kernel
theorem d_MD_loop_22 : decode b_MD_loop 22 = .ok (.iload_n 3, 1) := by decide +kernel
theorem d_MD_loop_23 : decode b_MD_loop 23 = .ok (.iload_n 3, 1) := by decide +kernel
theorem d_MD_loop_24 : decode b_MD_loop 24 = .ok (.ifCond .eq 27, 3) := by decide +kernel
theorem d_MD_loop_27 : decode b_MD_loop 27 = .ok (.aload_n 0, 1) := by decide +kernel
theorem d_MD_loop_28 : decode b_MD_loop 28 = .ok (.getfield 20, 3) := by decide +kernel
theorem d_MD_loop_31 : decode b_MD_loop 31 = .ok (.iload_n 2, 1) := by decide +kernel
theorem d_MD_loop_32 : decode b_MD_loop 32 = .ok (.iaload, 1) := by decide +kernel
theorem d_MD_loop_33 : decode b_MD_loop 33 = .ok (.ifCond .ge 18, 3) := by decide +kernel
theorem d_MD_loop_36 : decode b_MD_loop 36 = .ok (.aload_n 0, 1) := by decide +kernel
theorem d_MD_loop_37 : decode b_MD_loop 37 = .ok (.getfield 26, 3) := by decide +kernel
theorem d_MD_loop_40 : decode b_MD_loop 40 = .ok (.iload_n 1, 1) := by decide +kernel
theorem d_MD_loop_41 : decode b_MD_loop 41 = .ok (.iaload, 1) := by decide +kernel
theorem d_MD_loop_42 : decode b_MD_loop 42 = .ok (.bipush 40, 2) := by decide +kernel
theorem d_MD_loop_44 : decode b_MD_loop 44 = .ok (.if_icmp .ge 7, 3) := by decide +kernel
theorem d_MD_loop_47 : decode b_MD_loop 47 = .ok (.iconst 1, 1) := by decide +kernel
theorem d_MD_loop_48 : decode b_MD_loop 48 = .ok (.goto 4, 3) := by decide +kernel
theorem d_MD_loop_51 : decode b_MD_loop 51 = .ok (.iconst 0, 1) := by decide +kernel
theorem d_MD_loop_52 : decode b_MD_loop 52 = .ok (.invokevirtual 114, 3) := by decide +kernel
theorem d_MD_loop_55 : decode b_MD_loop 55 = .ok (.ifCond .ne 5, 3) := by decide +kernel
theorem d_MD_loop_58 : decode b_MD_loop 58 = .ok (.iconst 0, 1) := by decide +kernel
theorem d_MD_loop_59 : decode b_MD_loop 59 = .ok (.ireturn, 1) := by decide +kernel
theorem d_MD_loop_60 : decode b_MD_loop 60 = .ok (.aload_n 0, 1) := by decide +kernel
theorem d_MD_loop_61 : decode b_MD_loop 61 = .ok (.getfield 20, 3) := by decide +kernel
theorem d_MD_loop_64 : decode b_MD_loop 64 = .ok (.iload_n 2, 1) := by decide +kernel
theorem d_MD_loop_65 : decode b_MD_loop 65 = .ok (.iload_n 1, 1) := by decide +kernel
theorem d_MD_loop_66 : decode b_MD_loop 66 = .ok (.iastore, 1) := by decide +kernel
theorem d_MD_loop_67 : decode b_MD_loop 67 = .ok (.aload_n 0, 1) := by decide +kernel
theorem d_MD_loop_68 : decode b_MD_loop 68 = .ok (.getfield 23, 3) := by decide +kernel
theorem d_MD_loop_71 : decode b_MD_loop 71 = .ok (.iload_n 2, 1) := by decide +kernel
theorem d_MD_loop_72 : decode b_MD_loop 72 = .ok (.aload_n 0, 1) := by decide +kernel
theorem d_MD_loop_73 : decode b_MD_loop 73 = .ok (.getfield 26, 3) := by decide +kernel
theorem d_MD_loop_76 : decode b_MD_loop 76 = .ok (.iload_n 1, 1) := by decide +kernel
theorem d_MD_loop_77 : decode b_MD_loop 77 = .ok (.iaload, 1) := by decide +kernel
theorem d_MD_loop_78 : decode b_MD_loop 78 = .ok (.iastore, 1) := by decide +kernel
theorem d_MD_loop_79 : decode b_MD_loop 79 = .ok (.aload_n 0, 1) := by decide +kernel
theorem d_MD_loop_80 : decode b_MD_loop 80 = .ok (.getfield 29, 3) := by decide +kernel
theorem d_MD_loop_83 : decode b_MD_loop 83 = .ok (.bipush 40, 2) := by decide +kernel
theorem d_MD_loop_85 : decode b_MD_loop 85 = .ok (.iload_n 1, 1) := by decide +kernel
theorem d_MD_loop_86 : decode b_MD_loop 86 = .ok (.imul, 1) := by decide +kernel
theorem d_MD_loop_87 : decode b_MD_loop 87 = .ok (.aload_n 0, 1) := by decide +kernel
theorem d_MD_loop_88 : decode b_MD_loop 88 = .ok (.getfield 26, 3) := by decide +kernel
theorem d_MD_loop_91 : decode b_MD_loop 91 = .ok (.iload_n 1, 1) := by decide +kernel
theorem d_MD_loop_92 : decode b_MD_loop 92 = .ok (.iaload, 1) := by decide +kernel
theorem d_MD_loop_93 : decode b_MD_loop 93 = .ok (.iadd, 1) := by decide +kernel
theorem d_MD_loop_94 : decode b_MD_loop 94 = .ok (.iload_n 2, 1) := by decide +kernel
theorem d_MD_loop_95 : decode b_MD_loop 95 = .ok (.iastore, 1) := by decide +kernel
theorem d_MD_loop_96 : decode b_MD_loop 96 = .ok (.aload_n 0, 1) := by decide +kernel
theorem d_MD_loop_97 : decode b_MD_loop 97 = .ok (.getfield 26, 3) := by decide +kernel
theorem d_MD_loop_100 : decode b_MD_loop 100 = .ok (.iload_n 1, 1) := by decide +kernel
theorem d_MD_loop_101 : decode b_MD_loop 101 = .ok (.dup2, 1) := by decide +kernel
theorem d_MD_loop_102 : decode b_MD_loop 102 = .ok (.iaload, 1) := by decide +kernel
theorem d_MD_loop_103 : decode b_MD_loop 103 = .ok (.iconst 1, 1) := by decide +kernel
theorem d_MD_loop_104 : decode b_MD_loop 104 = .ok (.iadd, 1) := by decide +kernel
theorem d_MD_loop_105 : decode b_MD_loop 105 = .ok (.iastore, 1) := by decide +kernel
theorem d_MD_loop_106 : decode b_MD_loop 106 = .ok (.aload_n 0, 1) := by decide +kernel
theorem d_MD_loop_107 : decode b_MD_loop 107 = .ok (.getfield 26, 3) := by decide +kernel
theorem d_MD_loop_110 : decode b_MD_loop 110 = .ok (.iload_n 1, 1) := by decide +kernel
theorem d_MD_loop_111 : decode b_MD_loop 111 = .ok (.iaload, 1) := by decide +kernel
theorem d_MD_loop_112 : decode b_MD_loop 112 = .ok (.ireturn, 1) := by decide +kernel
def m_MD_loop_J52 (F : Nat) (a2 : Int32) (a1 : Int32) (j3_52 : Int32) (s0_52 : Int32) (s1_52 : Int32) (t0_52 : St) : Option (Int32 × St) :=
  (bn2 (m_MD_goes F t0_52 s1_52 s0_52) (fun r52 z0_52 => (if r52 = (0 : Int32) then (some ((0 : Int32), z0_52)) else (ck a2 200 (lz (st z0_52 6 (upd (z0_52 6) a2.toNatClampNeg a1)) (fun e0_66 => (ck a1 8 (ck a2 200 (lz (st e0_66 7 (upd (e0_66 7) a2.toNatClampNeg ((e0_66 8) a1.toNatClampNeg))) (fun e0_78 => (ck a1 8 (ck (((40 : Int32) * a1) + ((e0_78 8) a1.toNatClampNeg)) 320 (lz (st e0_78 9 (upd (e0_78 9) (((40 : Int32) * a1) + ((e0_78 8) a1.toNatClampNeg)).toNatClampNeg a2)) (fun e0_95 => (ck a1 8 (ck a1 8 (lz (st e0_95 8 (upd (e0_95 8) a1.toNatClampNeg (((e0_95 8) a1.toNatClampNeg) + (1 : Int32)))) (fun e0_105 => (ck a1 8 (some (((e0_105 8) a1.toNatClampNeg), e0_105)))))))))))))))))))))
theorem m_MD_loop_J52_h {F : Nat} {a2 : Int32} {a1 : Int32} {j3_52 : Int32} {s0_52 : Int32} {s1_52 : Int32} {t0_52 : St} {o : (Int32 × St)} (h : m_MD_loop_J52 F a2 a1 j3_52 s0_52 s1_52 t0_52 = some o) :
  (bn2 (m_MD_goes F t0_52 s1_52 s0_52) (fun r52 z0_52 => (if r52 = (0 : Int32) then (some ((0 : Int32), z0_52)) else (ck a2 200 (lz (st z0_52 6 (upd (z0_52 6) a2.toNatClampNeg a1)) (fun e0_66 => (ck a1 8 (ck a2 200 (lz (st e0_66 7 (upd (e0_66 7) a2.toNatClampNeg ((e0_66 8) a1.toNatClampNeg))) (fun e0_78 => (ck a1 8 (ck (((40 : Int32) * a1) + ((e0_78 8) a1.toNatClampNeg)) 320 (lz (st e0_78 9 (upd (e0_78 9) (((40 : Int32) * a1) + ((e0_78 8) a1.toNatClampNeg)).toNatClampNeg a2)) (fun e0_95 => (ck a1 8 (ck a1 8 (lz (st e0_95 8 (upd (e0_95 8) a1.toNatClampNeg (((e0_95 8) a1.toNatClampNeg) + (1 : Int32)))) (fun e0_105 => (ck a1 8 (some (((e0_105 8) a1.toNatClampNeg), e0_105))))))))))))))))))))) = some o := h
def m_MD_loop (F : Nat) (x0 : St) (a1 : Int32) (a2 : Int32) : Option (Int32 × St) :=
  (bn1 (m_MD_isLoop F a1) (fun r1 => (if r1 = (0 : Int32) then (if (0 : Int32) = (0 : Int32) then (m_MD_loop_J52 F a2 a1  (0 : Int32) (0 : Int32) (0 : Int32) x0) else (ck a2 200 (if (0 : Int32) ≤ ((x0 6) a2.toNatClampNeg) then (m_MD_loop_J52 F a2 a1  (0 : Int32) (0 : Int32) (0 : Int32) x0) else (ck a1 8 (if (40 : Int32) ≤ ((x0 8) a1.toNatClampNeg) then (m_MD_loop_J52 F a2 a1  (0 : Int32) (0 : Int32) (0 : Int32) x0) else (m_MD_loop_J52 F a2 a1  (0 : Int32) (1 : Int32) (0 : Int32) x0)))))) else (bn1 (m_MD_isPoint F x0 a2) (fun r9 => (if r9 = (0 : Int32) then (if (0 : Int32) = (0 : Int32) then (m_MD_loop_J52 F a2 a1  (0 : Int32) (0 : Int32) (0 : Int32) x0) else (ck a2 200 (if (0 : Int32) ≤ ((x0 6) a2.toNatClampNeg) then (m_MD_loop_J52 F a2 a1  (0 : Int32) (0 : Int32) (0 : Int32) x0) else (ck a1 8 (if (40 : Int32) ≤ ((x0 8) a1.toNatClampNeg) then (m_MD_loop_J52 F a2 a1  (0 : Int32) (0 : Int32) (0 : Int32) x0) else (m_MD_loop_J52 F a2 a1  (0 : Int32) (1 : Int32) (0 : Int32) x0)))))) else (if (1 : Int32) = (0 : Int32) then (m_MD_loop_J52 F a2 a1  (1 : Int32) (0 : Int32) (1 : Int32) x0) else (ck a2 200 (if (0 : Int32) ≤ ((x0 6) a2.toNatClampNeg) then (m_MD_loop_J52 F a2 a1  (1 : Int32) (0 : Int32) (1 : Int32) x0) else (ck a1 8 (if (40 : Int32) ≤ ((x0 8) a1.toNatClampNeg) then (m_MD_loop_J52 F a2 a1  (1 : Int32) (0 : Int32) (1 : Int32) x0) else (m_MD_loop_J52 F a2 a1  (1 : Int32) (1 : Int32) (1 : Int32) x0))))))))))))
abbrev rm_MD_loop : Room := { frames := 1, cells := 0, slots := 0, locals := 22 }
set_option maxHeartbeats 4000000 in
set_option maxRecDepth 100000 in
theorem c_MD_loop {G : (Nat → Prop) → State → Prop} (hG : gok G) (hGn : gN G) (l : Launch) (dC : Nat → ClassId) (dI : Nat → Nat → Nat) (g : Nat → ClassId) (F : Nat) (sz : Nat) (h0 : Nat) (q0 : Nat → Nat) (x0 : St) (a1 : Int32) (a2 : Int32) {o : Int32 × St} (hm : m_MD_loop F x0 a1 a2 = some o) : Met l y_MD_loop (.code y_MD_loop b_MD_loop 4 (some .int) :: gw) rm_MD_loop (kq (dC, dI) vwCl (tyv g) G [.ref h0, .int a1, .int a2] sz (wd_MD g h0 q0 x0)) (kqi (dC, dI) vwCl (tyv g) (wd_MD g h0 q0 x0) o.1 (wd_MD g h0 q0 (o.2)) sz) 0 0 (va_A (wd_MD g h0 q0 x0) sz) := by
  unfold m_MD_loop at hm
  refine km (Qc := fun sz => kqi (dC, dI) vwCl (tyv g) (wd_MD g h0 q0 x0) o.1 (wd_MD g h0 q0 (o.2)) sz) (cc := b_MD_loop) (maxL := 4) (ret := some .int) (by decide) rfl (Nat.le_of_ble_eq_true rfl) ?_
  intro p e s m args below meth c Q hQ hx hb hr hts hown hlocks hml hnm H locs A hAe hA hP hK hD hS hGA ls hl
  have hl : lv_has ls 4 [(0, .ref h0), (1, .int a1), (2, .int a2)] := hl
  have hts : ∀ w ∈ gw, w.before args s = true := fun w h => hts w (List.mem_cons_of_mem _ h)
  have hown : s.vm.findClass "AlarmMatrixModel" = some m.cls := hown
  have J52 : ∀ (j3_52 : Int32) (s0_52 : Int32) (s1_52 : Int32) (t0_52 : St) (H : Heap) (locs : List Loc) (ls : Array Slot), m_MD_loop_J52 F a2 a1  j3_52 s0_52 s1_52 t0_52 = some o → va_P (dC, dI) vwCl (wd_MD g h0 q0 t0_52) H → va_D A (wd_MD g h0 q0 t0_52) → va_S A s.heap H locs → lv_has ls 4 [(0, .ref h0), (1, .int a1), (2, .int a2), (3, .int j3_52)] → W p l e rm_MD_loop s m args below meth c H locs 0 0 Q (F0 m 52 ls [.int s0_52, .int s1_52, .ref h0]) := by
    intro j3_52 s0_52 s1_52 t0_52 H locs ls hm hP hD hS hl
    replace hm := m_MD_loop_J52_h hm
    obtain ⟨r52, z0_52, hcl, hm⟩ := bn2_s hm
    refine kci (wc := wd_MD g h0 q0 t0_52) (wr := ([] : va_W)) (w1 := wd_MD g h0 q0 z0_52) hP hD hS hA [0, 1, 2, 3, 4, 5, 6, 7, 8, 9, 10, 11, 12, 13, 14, 15, 16, 17, 18, 19, 20, 21, 22, 23, 24, 25, 26, 27, 28, 29, 30, 31] [] rfl rfl (by decide) (by decide) (va_runV (As := [.int s1_52, .int s0_52]) (rest := []) ⟨hx, hb, hml, hown, hts⟩ (c_MD_goes hG hGn l dC dI g F H.size h0 q0 t0_52 s1_52 s0_52 hcl) (cwV 2 hts (gdV k5_155 k5_157 kp_20 k1_10 k5_158) rfl rfl rfl (by decide +kernel) ⟨Nat.le_of_ble_eq_true rfl, Nat.le_of_ble_eq_true rfl⟩) (kpV hG hP hK hD hS hA hGA [0, 1, 2, 3, 4, 5, 6, 7, 8, 9, 10, 11, 12, 13, 14, 15, 16, 17, 18, 19, 20, 21, 22, 23, 24, 25, 26, 27, 28, 29, 30, 31] (by decide) rfl (ci := 10) (q0 := 0) rfl rfl rfl) rfl rfl hl.1 rfl (lv_room (Nat.le_of_ble_eq_true rfl)) d_MD_loop_52 ⟨Nat.le_of_ble_eq_true rfl, Nat.le_of_ble_eq_true rfl⟩) (fun H locs hP hD hS => ?_)
    have hP : va_P (dC, dI) vwCl (wd_MD g h0 q0 z0_52) H := hP
    have hD : va_D A (wd_MD g h0 q0 z0_52) := hD
    refine lv_if_ne (tgt := 60) hx hb d_MD_loop_55 (by decide) (fun hc => ?_) (fun hc => ?_)
    · replace hm := if_f hm hc
      refine lv_aload_n hx hb d_MD_loop_60 rfl (lv_at hl 0 rfl) ?_
      refine va_get (D := (dC, dI)) (ci := 10) (v := .ref (q0 6)) (C := "AlarmMatrixModel") (T := T_MD) (N := 42) hx hb hts i_MD hown hK hP 0 rfl rfl 6 (by decide) (hts _ k5_26) (fun _ h9 => h9) rfl d_MD_loop_61 ?_
      refine lv_iload_n hx hb d_MD_loop_64 rfl (lv_at hl 2 rfl) ?_
      refine lv_iload_n hx hb d_MD_loop_65 rfl (lv_at hl 1 rfl) ?_
      obtain ⟨h_66, hm⟩ := ck_s hm
      obtain ⟨e0_66, he, hm⟩ := lz_s hm
      refine va_iast (f := (z0_52 6)) hx hb hK hP hD hS 4 0 rfl rfl h_66 d_MD_loop_66 (fun H locs hP hD hS => ?_)
      have hP : va_P (dC, dI) vwCl (wd_MD g h0 q0 e0_66) H := by rw [he]; exact hP
      have hD : va_D A (wd_MD g h0 q0 e0_66) := by rw [he]; exact hD
      refine lv_aload_n hx hb d_MD_loop_67 rfl (lv_at hl 0 rfl) ?_
      refine va_get (D := (dC, dI)) (ci := 10) (v := .ref (q0 7)) (C := "AlarmMatrixModel") (T := T_MD) (N := 42) hx hb hts i_MD hown hK hP 0 rfl rfl 7 (by decide) (hts _ k5_27) (fun _ h9 => h9) rfl d_MD_loop_68 ?_
      refine lv_iload_n hx hb d_MD_loop_71 rfl (lv_at hl 2 rfl) ?_
      refine lv_aload_n hx hb d_MD_loop_72 rfl (lv_at hl 0 rfl) ?_
      refine va_get (D := (dC, dI)) (ci := 10) (v := .ref (q0 8)) (C := "AlarmMatrixModel") (T := T_MD) (N := 42) hx hb hts i_MD hown hK hP 0 rfl rfl 8 (by decide) (hts _ k5_28) (fun _ h9 => h9) rfl d_MD_loop_73 ?_
      refine lv_iload_n hx hb d_MD_loop_76 rfl (lv_at hl 1 rfl) ?_
      obtain ⟨h_77, hm⟩ := ck_s hm
      refine va_iald (f := (e0_66 8)) hx hb hK hP 6 0 rfl rfl h_77 d_MD_loop_77 ?_
      obtain ⟨h_78, hm⟩ := ck_s hm
      obtain ⟨e0_78, he, hm⟩ := lz_s hm
      refine va_iast (f := (e0_66 7)) hx hb hK hP hD hS 5 0 rfl rfl h_78 d_MD_loop_78 (fun H locs hP hD hS => ?_)
      have hP : va_P (dC, dI) vwCl (wd_MD g h0 q0 e0_78) H := by rw [he]; exact hP
      have hD : va_D A (wd_MD g h0 q0 e0_78) := by rw [he]; exact hD
      refine lv_aload_n hx hb d_MD_loop_79 rfl (lv_at hl 0 rfl) ?_
      refine va_get (D := (dC, dI)) (ci := 10) (v := .ref (q0 9)) (C := "AlarmMatrixModel") (T := T_MD) (N := 42) hx hb hts i_MD hown hK hP 0 rfl rfl 9 (by decide) (hts _ k5_29) (fun _ h9 => h9) rfl d_MD_loop_80 ?_
      refine lv_bipush (v := (40 : Int32)) hx hb d_MD_loop_83 (by decide) ?_
      refine lv_iload_n hx hb d_MD_loop_85 rfl (lv_at hl 1 rfl) ?_
      refine lv_imul hx hb d_MD_loop_86 ?_
      refine lv_aload_n hx hb d_MD_loop_87 rfl (lv_at hl 0 rfl) ?_
      refine va_get (D := (dC, dI)) (ci := 10) (v := .ref (q0 8)) (C := "AlarmMatrixModel") (T := T_MD) (N := 42) hx hb hts i_MD hown hK hP 0 rfl rfl 8 (by decide) (hts _ k5_28) (fun _ h9 => h9) rfl d_MD_loop_88 ?_
      refine lv_iload_n hx hb d_MD_loop_91 rfl (lv_at hl 1 rfl) ?_
      obtain ⟨h_92, hm⟩ := ck_s hm
      refine va_iald (f := (e0_78 8)) hx hb hK hP 6 0 rfl rfl h_92 d_MD_loop_92 ?_
      refine lv_iadd hx hb d_MD_loop_93 ?_
      refine lv_iload_n hx hb d_MD_loop_94 rfl (lv_at hl 2 rfl) ?_
      obtain ⟨h_95, hm⟩ := ck_s hm
      obtain ⟨e0_95, he, hm⟩ := lz_s hm
      refine va_iast (f := (e0_78 9)) hx hb hK hP hD hS 7 0 rfl rfl h_95 d_MD_loop_95 (fun H locs hP hD hS => ?_)
      have hP : va_P (dC, dI) vwCl (wd_MD g h0 q0 e0_95) H := by rw [he]; exact hP
      have hD : va_D A (wd_MD g h0 q0 e0_95) := by rw [he]; exact hD
      refine lv_aload_n hx hb d_MD_loop_96 rfl (lv_at hl 0 rfl) ?_
      refine va_get (D := (dC, dI)) (ci := 10) (v := .ref (q0 8)) (C := "AlarmMatrixModel") (T := T_MD) (N := 42) hx hb hts i_MD hown hK hP 0 rfl rfl 8 (by decide) (hts _ k5_28) (fun _ h9 => h9) rfl d_MD_loop_97 ?_
      refine lv_iload_n hx hb d_MD_loop_100 rfl (lv_at hl 1 rfl) ?_
      refine lv_dup2_11 hx hb d_MD_loop_101 rfl rfl ?_
      obtain ⟨h_102, hm⟩ := ck_s hm
      refine va_iald (f := (e0_95 8)) hx hb hK hP 6 0 rfl rfl h_102 d_MD_loop_102 ?_
      refine lv_iconst (v := (1 : Int32)) hx hb d_MD_loop_103 (by decide) ?_
      refine lv_iadd hx hb d_MD_loop_104 ?_
      obtain ⟨h_105, hm⟩ := ck_s hm
      obtain ⟨e0_105, he, hm⟩ := lz_s hm
      refine va_iast (f := (e0_95 8)) hx hb hK hP hD hS 6 0 rfl rfl h_105 d_MD_loop_105 (fun H locs hP hD hS => ?_)
      have hP : va_P (dC, dI) vwCl (wd_MD g h0 q0 e0_105) H := by rw [he]; exact hP
      have hD : va_D A (wd_MD g h0 q0 e0_105) := by rw [he]; exact hD
      refine lv_aload_n hx hb d_MD_loop_106 rfl (lv_at hl 0 rfl) ?_
      refine va_get (D := (dC, dI)) (ci := 10) (v := .ref (q0 8)) (C := "AlarmMatrixModel") (T := T_MD) (N := 42) hx hb hts i_MD hown hK hP 0 rfl rfl 8 (by decide) (hts _ k5_28) (fun _ h9 => h9) rfl d_MD_loop_107 ?_
      refine lv_iload_n hx hb d_MD_loop_110 rfl (lv_at hl 1 rfl) ?_
      obtain ⟨h_111, hm⟩ := ck_s hm
      refine va_iald (f := (e0_105 8)) hx hb hK hP 6 0 rfl rfl h_111 d_MD_loop_111 ?_
      obtain rfl := Option.some.inj hm
      rw [hQ]
      exact kri hx hb hr hlocks hAe hP hK hD hS d_MD_loop_112
    · replace hm := if_t hm hc
      refine lv_iconst (v := (0 : Int32)) hx hb d_MD_loop_58 (by decide) ?_
      obtain rfl := Option.some.inj hm
      rw [hQ]
      exact kri hx hb hr hlocks hAe hP hK hD hS d_MD_loop_59
  refine lv_iload_n hx hb d_MD_loop_0 rfl (lv_at hl 1 rfl) ?_
  obtain ⟨r1, hcl, hm⟩ := bn1_s hm
  refine kci (wc := ([] : va_W)) (wr := wd_MD g h0 q0 x0) (w1 := ([] : va_W)) hP hD hS hA [] [0, 1, 2, 3, 4, 5, 6, 7, 8, 9, 10, 11, 12, 13, 14, 15, 16, 17, 18, 19, 20, 21, 22, 23, 24, 25, 26, 27, 28, 29, 30, 31] rfl rfl (by decide) (by decide) (va_runS (As := [.int a1]) (rest := []) ⟨hx, hb, hml, hown, hts⟩ (c_MD_isLoop hG hGn l dC dI g F H.size a1 hcl) (cwS 1 hts (gdS k6_58 k6_59 k1_10 k6_60) rfl rfl rfl (by decide +kernel) ⟨Nat.le_of_ble_eq_true rfl, Nat.le_of_ble_eq_true rfl⟩) (kpS hG hP hK hD hS hA hGA [] (by decide) rfl) rfl rfl hl.1 rfl (lv_room (Nat.le_of_ble_eq_true rfl)) d_MD_loop_1 ⟨Nat.le_of_ble_eq_true rfl, Nat.le_of_ble_eq_true rfl⟩) (fun H locs hP hD hS => ?_)
  have hP : va_P (dC, dI) vwCl (wd_MD g h0 q0 x0) H := hP
  have hD : va_D A (wd_MD g h0 q0 x0) := hD
  refine lv_if_eq (tgt := 19) hx hb d_MD_loop_4 (by decide) (fun hc => ?_) (fun hc => ?_)
  · replace hm := if_t hm hc
    refine lv_iconst (v := (0 : Int32)) hx hb d_MD_loop_19 (by decide) ?_
    refine lv_istore_n (lv' := [(3, .int (0 : Int32)), (0, .ref h0), (1, .int a1), (2, .int a2)]) hx hb d_MD_loop_20 rfl hl (by decide) rfl (fun ls hl => ?_)
    refine lv_aload_n hx hb d_MD_loop_21 rfl (lv_at hl 1 rfl) ?_
    refine lv_iload_n hx hb d_MD_loop_22 rfl (lv_at hl 0 rfl) ?_
    refine lv_iload_n hx hb d_MD_loop_23 rfl (lv_at hl 0 rfl) ?_
    refine lv_if_eq (tgt := 51) hx hb d_MD_loop_24 (by decide) (fun hc => ?_) (fun hc => ?_)
    · replace hm := if_t hm hc
      refine lv_iconst (v := (0 : Int32)) hx hb d_MD_loop_51 (by decide) ?_
      exact J52 (0 : Int32) (0 : Int32) (0 : Int32) x0 H locs ls hm hP hD hS (lv_sub hl [1, 2, 3, 0] rfl)
    · replace hm := if_f hm hc
      refine lv_aload_n hx hb d_MD_loop_27 rfl (lv_at hl 1 rfl) ?_
      refine va_get (D := (dC, dI)) (ci := 10) (v := .ref (q0 6)) (C := "AlarmMatrixModel") (T := T_MD) (N := 42) hx hb hts i_MD hown hK hP 0 rfl rfl 6 (by decide) (hts _ k5_26) (fun _ h9 => h9) rfl d_MD_loop_28 ?_
      refine lv_iload_n hx hb d_MD_loop_31 rfl (lv_at hl 3 rfl) ?_
      obtain ⟨h_32, hm⟩ := ck_s hm
      refine va_iald (f := (x0 6)) hx hb hK hP 4 0 rfl rfl h_32 d_MD_loop_32 ?_
      refine lv_if_ge (tgt := 51) hx hb d_MD_loop_33 (by decide) (fun hc => ?_) (fun hc => ?_)
      · replace hm := if_t hm hc
        refine lv_iconst (v := (0 : Int32)) hx hb d_MD_loop_51 (by decide) ?_
        exact J52 (0 : Int32) (0 : Int32) (0 : Int32) x0 H locs ls hm hP hD hS (lv_sub hl [1, 2, 3, 0] rfl)
      · replace hm := if_f hm hc
        refine lv_aload_n hx hb d_MD_loop_36 rfl (lv_at hl 1 rfl) ?_
        refine va_get (D := (dC, dI)) (ci := 10) (v := .ref (q0 8)) (C := "AlarmMatrixModel") (T := T_MD) (N := 42) hx hb hts i_MD hown hK hP 0 rfl rfl 8 (by decide) (hts _ k5_28) (fun _ h9 => h9) rfl d_MD_loop_37 ?_
        refine lv_iload_n hx hb d_MD_loop_40 rfl (lv_at hl 2 rfl) ?_
        obtain ⟨h_41, hm⟩ := ck_s hm
        refine va_iald (f := (x0 8)) hx hb hK hP 6 0 rfl rfl h_41 d_MD_loop_41 ?_
        refine lv_bipush (v := (40 : Int32)) hx hb d_MD_loop_42 (by decide) ?_
        refine lv_icmp_ge (tgt := 51) hx hb d_MD_loop_44 (by decide) (fun hc => ?_) (fun hc => ?_)
        · replace hm := if_t hm hc
          refine lv_iconst (v := (0 : Int32)) hx hb d_MD_loop_51 (by decide) ?_
          exact J52 (0 : Int32) (0 : Int32) (0 : Int32) x0 H locs ls hm hP hD hS (lv_sub hl [1, 2, 3, 0] rfl)
        · replace hm := if_f hm hc
          refine lv_iconst (v := (1 : Int32)) hx hb d_MD_loop_47 (by decide) ?_
          refine lv_goto (tgt := 52) hx hb d_MD_loop_48 (by decide) ?_
          exact J52 (0 : Int32) (1 : Int32) (0 : Int32) x0 H locs ls hm hP hD hS (lv_sub hl [1, 2, 3, 0] rfl)
  · replace hm := if_f hm hc
    refine lv_aload_n hx hb d_MD_loop_7 rfl (lv_at hl 0 rfl) ?_
    refine lv_iload_n hx hb d_MD_loop_8 rfl (lv_at hl 2 rfl) ?_
    obtain ⟨r9, hcl, hm⟩ := bn1_s hm
    refine kci (wc := wd_MD g h0 q0 x0) (wr := ([] : va_W)) (w1 := wd_MD g h0 q0 x0) hP hD hS hA [0, 1, 2, 3, 4, 5, 6, 7, 8, 9, 10, 11, 12, 13, 14, 15, 16, 17, 18, 19, 20, 21, 22, 23, 24, 25, 26, 27, 28, 29, 30, 31] [] rfl rfl (by decide) (by decide) (va_runV (As := [.int a2]) (rest := []) ⟨hx, hb, hml, hown, hts⟩ (c_MD_isPoint hG hGn l dC dI g F H.size h0 q0 x0 a2 hcl) (cwV 1 hts (gdV k6_41 k6_43 kp_44 k1_10 k6_44) rfl rfl rfl (by decide +kernel) ⟨Nat.le_of_ble_eq_true rfl, Nat.le_of_ble_eq_true rfl⟩) (kpV hG hP hK hD hS hA hGA [0, 1, 2, 3, 4, 5, 6, 7, 8, 9, 10, 11, 12, 13, 14, 15, 16, 17, 18, 19, 20, 21, 22, 23, 24, 25, 26, 27, 28, 29, 30, 31] (by decide) rfl (ci := 10) (q0 := 0) rfl rfl rfl) rfl rfl hl.1 rfl (lv_room (Nat.le_of_ble_eq_true rfl)) d_MD_loop_9 ⟨Nat.le_of_ble_eq_true rfl, Nat.le_of_ble_eq_true rfl⟩) (fun H locs hP hD hS => ?_)
    have hP : va_P (dC, dI) vwCl (wd_MD g h0 q0 x0) H := hP
    have hD : va_D A (wd_MD g h0 q0 x0) := hD
    refine lv_if_eq (tgt := 19) hx hb d_MD_loop_12 (by decide) (fun hc => ?_) (fun hc => ?_)
    · replace hm := if_t hm hc
      refine lv_iconst (v := (0 : Int32)) hx hb d_MD_loop_19 (by decide) ?_
      refine lv_istore_n (lv' := [(3, .int (0 : Int32)), (0, .ref h0), (1, .int a1), (2, .int a2)]) hx hb d_MD_loop_20 rfl hl (by decide) rfl (fun ls hl => ?_)
      refine lv_aload_n hx hb d_MD_loop_21 rfl (lv_at hl 1 rfl) ?_
      refine lv_iload_n hx hb d_MD_loop_22 rfl (lv_at hl 0 rfl) ?_
      refine lv_iload_n hx hb d_MD_loop_23 rfl (lv_at hl 0 rfl) ?_
      refine lv_if_eq (tgt := 51) hx hb d_MD_loop_24 (by decide) (fun hc => ?_) (fun hc => ?_)
      · replace hm := if_t hm hc
        refine lv_iconst (v := (0 : Int32)) hx hb d_MD_loop_51 (by decide) ?_
        exact J52 (0 : Int32) (0 : Int32) (0 : Int32) x0 H locs ls hm hP hD hS (lv_sub hl [1, 2, 3, 0] rfl)
      · replace hm := if_f hm hc
        refine lv_aload_n hx hb d_MD_loop_27 rfl (lv_at hl 1 rfl) ?_
        refine va_get (D := (dC, dI)) (ci := 10) (v := .ref (q0 6)) (C := "AlarmMatrixModel") (T := T_MD) (N := 42) hx hb hts i_MD hown hK hP 0 rfl rfl 6 (by decide) (hts _ k5_26) (fun _ h9 => h9) rfl d_MD_loop_28 ?_
        refine lv_iload_n hx hb d_MD_loop_31 rfl (lv_at hl 3 rfl) ?_
        obtain ⟨h_32, hm⟩ := ck_s hm
        refine va_iald (f := (x0 6)) hx hb hK hP 4 0 rfl rfl h_32 d_MD_loop_32 ?_
        refine lv_if_ge (tgt := 51) hx hb d_MD_loop_33 (by decide) (fun hc => ?_) (fun hc => ?_)
        · replace hm := if_t hm hc
          refine lv_iconst (v := (0 : Int32)) hx hb d_MD_loop_51 (by decide) ?_
          exact J52 (0 : Int32) (0 : Int32) (0 : Int32) x0 H locs ls hm hP hD hS (lv_sub hl [1, 2, 3, 0] rfl)
        · replace hm := if_f hm hc
          refine lv_aload_n hx hb d_MD_loop_36 rfl (lv_at hl 1 rfl) ?_
          refine va_get (D := (dC, dI)) (ci := 10) (v := .ref (q0 8)) (C := "AlarmMatrixModel") (T := T_MD) (N := 42) hx hb hts i_MD hown hK hP 0 rfl rfl 8 (by decide) (hts _ k5_28) (fun _ h9 => h9) rfl d_MD_loop_37 ?_
          refine lv_iload_n hx hb d_MD_loop_40 rfl (lv_at hl 2 rfl) ?_
          obtain ⟨h_41, hm⟩ := ck_s hm
          refine va_iald (f := (x0 8)) hx hb hK hP 6 0 rfl rfl h_41 d_MD_loop_41 ?_
          refine lv_bipush (v := (40 : Int32)) hx hb d_MD_loop_42 (by decide) ?_
          refine lv_icmp_ge (tgt := 51) hx hb d_MD_loop_44 (by decide) (fun hc => ?_) (fun hc => ?_)
          · replace hm := if_t hm hc
            refine lv_iconst (v := (0 : Int32)) hx hb d_MD_loop_51 (by decide) ?_
            exact J52 (0 : Int32) (0 : Int32) (0 : Int32) x0 H locs ls hm hP hD hS (lv_sub hl [1, 2, 3, 0] rfl)
          · replace hm := if_f hm hc
            refine lv_iconst (v := (1 : Int32)) hx hb d_MD_loop_47 (by decide) ?_
            refine lv_goto (tgt := 52) hx hb d_MD_loop_48 (by decide) ?_
            exact J52 (0 : Int32) (1 : Int32) (0 : Int32) x0 H locs ls hm hP hD hS (lv_sub hl [1, 2, 3, 0] rfl)
    · replace hm := if_f hm hc
      refine lv_iconst (v := (1 : Int32)) hx hb d_MD_loop_15 (by decide) ?_
      refine lv_goto (tgt := 20) hx hb d_MD_loop_16 (by decide) ?_
      refine lv_istore_n (lv' := [(3, .int (1 : Int32)), (0, .ref h0), (1, .int a1), (2, .int a2)]) hx hb d_MD_loop_20 rfl hl (by decide) rfl (fun ls hl => ?_)
      refine lv_aload_n hx hb d_MD_loop_21 rfl (lv_at hl 1 rfl) ?_
      refine lv_iload_n hx hb d_MD_loop_22 rfl (lv_at hl 0 rfl) ?_
      refine lv_iload_n hx hb d_MD_loop_23 rfl (lv_at hl 0 rfl) ?_
      refine lv_if_eq (tgt := 51) hx hb d_MD_loop_24 (by decide) (fun hc => ?_) (fun hc => ?_)
      · replace hm := if_t hm hc
        refine lv_iconst (v := (0 : Int32)) hx hb d_MD_loop_51 (by decide) ?_
        exact J52 (1 : Int32) (0 : Int32) (1 : Int32) x0 H locs ls hm hP hD hS (lv_sub hl [1, 2, 3, 0] rfl)
      · replace hm := if_f hm hc
        refine lv_aload_n hx hb d_MD_loop_27 rfl (lv_at hl 1 rfl) ?_
        refine va_get (D := (dC, dI)) (ci := 10) (v := .ref (q0 6)) (C := "AlarmMatrixModel") (T := T_MD) (N := 42) hx hb hts i_MD hown hK hP 0 rfl rfl 6 (by decide) (hts _ k5_26) (fun _ h9 => h9) rfl d_MD_loop_28 ?_
        refine lv_iload_n hx hb d_MD_loop_31 rfl (lv_at hl 3 rfl) ?_
        obtain ⟨h_32, hm⟩ := ck_s hm
        refine va_iald (f := (x0 6)) hx hb hK hP 4 0 rfl rfl h_32 d_MD_loop_32 ?_
        refine lv_if_ge (tgt := 51) hx hb d_MD_loop_33 (by decide) (fun hc => ?_) (fun hc => ?_)
        · replace hm := if_t hm hc
          refine lv_iconst (v := (0 : Int32)) hx hb d_MD_loop_51 (by decide) ?_
          exact J52 (1 : Int32) (0 : Int32) (1 : Int32) x0 H locs ls hm hP hD hS (lv_sub hl [1, 2, 3, 0] rfl)
        · replace hm := if_f hm hc
          refine lv_aload_n hx hb d_MD_loop_36 rfl (lv_at hl 1 rfl) ?_
          refine va_get (D := (dC, dI)) (ci := 10) (v := .ref (q0 8)) (C := "AlarmMatrixModel") (T := T_MD) (N := 42) hx hb hts i_MD hown hK hP 0 rfl rfl 8 (by decide) (hts _ k5_28) (fun _ h9 => h9) rfl d_MD_loop_37 ?_
          refine lv_iload_n hx hb d_MD_loop_40 rfl (lv_at hl 2 rfl) ?_
          obtain ⟨h_41, hm⟩ := ck_s hm
          refine va_iald (f := (x0 8)) hx hb hK hP 6 0 rfl rfl h_41 d_MD_loop_41 ?_
          refine lv_bipush (v := (40 : Int32)) hx hb d_MD_loop_42 (by decide) ?_
          refine lv_icmp_ge (tgt := 51) hx hb d_MD_loop_44 (by decide) (fun hc => ?_) (fun hc => ?_)
          · replace hm := if_t hm hc
            refine lv_iconst (v := (0 : Int32)) hx hb d_MD_loop_51 (by decide) ?_
            exact J52 (1 : Int32) (0 : Int32) (1 : Int32) x0 H locs ls hm hP hD hS (lv_sub hl [1, 2, 3, 0] rfl)
          · replace hm := if_f hm hc
            refine lv_iconst (v := (1 : Int32)) hx hb d_MD_loop_47 (by decide) ?_
            refine lv_goto (tgt := 52) hx hb d_MD_loop_48 (by decide) ?_
            exact J52 (1 : Int32) (1 : Int32) (1 : Int32) x0 H locs ls hm hP hD hS (lv_sub hl [1, 2, 3, 0] rfl)
abbrev b_MD_cut : ByteArray := prog_12_method_38_code
abbrev y_MD_cut : MethodName := ⟨"AlarmMatrixModel", "cut", "(IIZ)Z"⟩
theorem d_MD_cut_0 : decode b_MD_cut 0 = .ok (.aload_n 0, 1) := by decide +kernel
theorem d_MD_cut_1 : decode b_MD_cut 1 = .ok (.iload_n 1, 1) := by decide +kernel
theorem d_MD_cut_2 : decode b_MD_cut 2 = .ok (.invokestatic 230, 3) := by decide +kernel
theorem d_MD_cut_5 : decode b_MD_cut 5 = .ok (.ifCond .eq 21, 3) := by decide +kernel
theorem d_MD_cut_8 : decode b_MD_cut 8 = .ok (.iload_n 2, 1) := by decide +kernel
theorem d_MD_cut_9 : decode b_MD_cut 9 = .ok (.ifCond .lt 17, 3) := by decide +kernel
theorem d_MD_cut_12 : decode b_MD_cut 12 = .ok (.iload_n 2, 1) := by decide +kernel
theorem d_MD_cut_13 : decode b_MD_cut 13 = .ok (.aload_n 0, 1) := by decide +kernel
theorem d_MD_cut_14 : decode b_MD_cut 14 = .ok (.getfield 26, 3) := by decide +kernel
theorem d_MD_cut_17 : decode b_MD_cut 17 = .ok (.iload_n 1, 1) := by decide +kernel
theorem d_MD_cut_18 : decode b_MD_cut 18 = .ok (.iaload, 1) := by decide +kernel
theorem d_MD_cut_19 : decode b_MD_cut 19 = .ok (.if_icmp .gt 7, 3) := by decide +kernel
theorem d_MD_cut_22 : decode b_MD_cut 22 = .ok (.iconst 1, 1) := by decide +kernel
theorem d_MD_cut_23 : decode b_MD_cut 23 = .ok (.goto 4, 3) := by decide +kernel
theorem d_MD_cut_26 : decode b_MD_cut 26 = .ok (.iconst 0, 1) := by decide +kernel
theorem d_MD_cut_27 : decode b_MD_cut 27 = .ok (.iconst 1, 1) := by decide +kernel
theorem d_MD_cut_28 : decode b_MD_cut 28 = .ok (.invokevirtual 114, 3) := by decide +kernel
theorem d_MD_cut_31 : decode b_MD_cut 31 = .ok (.ifCond .ne 5, 3) := by decide +kernel
theorem d_MD_cut_34 : decode b_MD_cut 34 = .ok (.iconst 0, 1) := by decide +kernel
theorem d_MD_cut_35 : decode b_MD_cut 35 = .ok (.ireturn, 1) := by decide +kernel
theorem d_MD_cut_36 : decode b_MD_cut 36 = .ok (.aload_n 0, 1) := by decide +kernel
theorem d_MD_cut_37 : decode b_MD_cut 37 = .ok (.getfield 32, 3) := by decide +kernel
theorem d_MD_cut_40 : decode b_MD_cut 40 = .ok (.bipush 41, 2) := by decide +kernel
theorem d_MD_cut_42 : decode b_MD_cut 42 = .ok (.iload_n 1, 1) := by decide +kernel
theorem d_MD_cut_43 : decode b_MD_cut 43 = .ok (.imul, 1) := by decide +kernel
theorem d_MD_cut_44 : decode b_MD_cut 44 = .ok (.iload_n 2, 1) := by decide +kernel
theorem d_MD_cut_45 : decode b_MD_cut 45 = .ok (.iadd, 1) := by decide +kernel
theorem d_MD_cut_46 : decode b_MD_cut 46 = .ok (.baload, 1) := by decide +kernel
theorem d_MD_cut_47 : decode b_MD_cut 47 = .ok (.istore 4, 2) := by decide +kernel
theorem d_MD_cut_49 : decode b_MD_cut 49 = .ok (.aload_n 0, 1) := by decide +kernel
theorem d_MD_cut_50 : decode b_MD_cut 50 = .ok (.getfield 32, 3) := by decide +kernel
theorem d_MD_cut_53 : decode b_MD_cut 53 = .ok (.bipush 41, 2) := by decide +kernel
theorem d_MD_cut_55 : decode b_MD_cut 55 = .ok (.iload_n 1, 1) := by decide +kernel
theorem d_MD_cut_56 : decode b_MD_cut 56 = .ok (.imul, 1) := by decide +kernel
theorem d_MD_cut_57 : decode b_MD_cut 57 = .ok (.iload_n 2, 1) := by decide +kernel
theorem d_MD_cut_58 : decode b_MD_cut 58 = .ok (.iadd, 1) := by decide +kernel
theorem d_MD_cut_59 : decode b_MD_cut 59 = .ok (.iload_n 3, 1) := by decide +kernel
theorem d_MD_cut_60 : decode b_MD_cut 60 = .ok (.bastore, 1) := by decide +kernel
theorem d_MD_cut_61 : decode b_MD_cut 61 = .ok (.iload 4, 2) := by decide +kernel
theorem d_MD_cut_63 : decode b_MD_cut 63 = .ok (.ireturn, 1) := by decide +kernel
def m_MD_cut_J27 (F : Nat) (a1 : Int32) (a2 : Int32) (a3 : Int32) (s0_27 : Int32) (t0_27 : St) : Option (Int32 × St) :=
  (bn2 (m_MD_goes F t0_27 s0_27 (1 : Int32)) (fun r28 z0_28 => (if r28 = (0 : Int32) then (some ((0 : Int32), z0_28)) else (ck (((41 : Int32) * a1) + a2) 328 (ck (((41 : Int32) * a1) + a2) 328 (lz (st z0_28 10 (upd (z0_28 10) (((41 : Int32) * a1) + a2).toNatClampNeg (vp_nar .boolean a3))) (fun e0_60 => (ckb ((z0_28 10) (((41 : Int32) * a1) + a2).toNatClampNeg) (some (((z0_28 10) (((41 : Int32) * a1) + a2).toNatClampNeg), e0_60))))))))))
theorem m_MD_cut_J27_h {F : Nat} {a1 : Int32} {a2 : Int32} {a3 : Int32} {s0_27 : Int32} {t0_27 : St} {o : (Int32 × St)} (h : m_MD_cut_J27 F a1 a2 a3 s0_27 t0_27 = some o) :
  (bn2 (m_MD_goes F t0_27 s0_27 (1 : Int32)) (fun r28 z0_28 => (if r28 = (0 : Int32) then (some ((0 : Int32), z0_28)) else (ck (((41 : Int32) * a1) + a2) 328 (ck (((41 : Int32) * a1) + a2) 328 (lz (st z0_28 10 (upd (z0_28 10) (((41 : Int32) * a1) + a2).toNatClampNeg (vp_nar .boolean a3))) (fun e0_60 => (ckb ((z0_28 10) (((41 : Int32) * a1) + a2).toNatClampNeg) (some (((z0_28 10) (((41 : Int32) * a1) + a2).toNatClampNeg), e0_60)))))))))) = some o := h
def m_MD_cut (F : Nat) (x0 : St) (a1 : Int32) (a2 : Int32) (a3 : Int32) : Option (Int32 × St) :=
  (bn1 (m_MD_isLoop F a1) (fun r2 => (if r2 = (0 : Int32) then (m_MD_cut_J27 F a1 a2 a3  (0 : Int32) x0) else (if a2 < (0 : Int32) then (m_MD_cut_J27 F a1 a2 a3  (0 : Int32) x0) else (ck a1 8 (if ((x0 8) a1.toNatClampNeg) < a2 then (m_MD_cut_J27 F a1 a2 a3  (0 : Int32) x0) else (m_MD_cut_J27 F a1 a2 a3  (1 : Int32) x0)))))))
abbrev rm_MD_cut : Room := { frames := 1, cells := 0, slots := 0, locals := 22 }
set_option maxHeartbeats 4000000 in
set_option maxRecDepth 100000 in
theorem c_MD_cut {G : (Nat → Prop) → State → Prop} (hG : gok G) (hGn : gN G) (l : Launch) (dC : Nat → ClassId) (dI : Nat → Nat → Nat) (g : Nat → ClassId) (F : Nat) (sz : Nat) (h0 : Nat) (q0 : Nat → Nat) (x0 : St) (a1 : Int32) (a2 : Int32) (a3 : Int32) {o : Int32 × St} (hm : m_MD_cut F x0 a1 a2 a3 = some o) : Met l y_MD_cut (.code y_MD_cut b_MD_cut 5 (some .boolean) :: gw) rm_MD_cut (kq (dC, dI) vwCl (tyv g) G [.ref h0, .int a1, .int a2, .int a3] sz (wd_MD g h0 q0 x0)) (kqi (dC, dI) vwCl (tyv g) (wd_MD g h0 q0 x0) o.1 (wd_MD g h0 q0 (o.2)) sz) 0 0 (va_A (wd_MD g h0 q0 x0) sz) := by
  unfold m_MD_cut at hm
  refine km (Qc := fun sz => kqi (dC, dI) vwCl (tyv g) (wd_MD g h0 q0 x0) o.1 (wd_MD g h0 q0 (o.2)) sz) (cc := b_MD_cut) (maxL := 5) (ret := some .boolean) (by decide) rfl (Nat.le_of_ble_eq_true rfl) ?_
  intro p e s m args below meth c Q hQ hx hb hr hts hown hlocks hml hnm H locs A hAe hA hP hK hD hS hGA ls hl
  have hl : lv_has ls 5 [(0, .ref h0), (1, .int a1), (2, .int a2), (3, .int a3)] := hl
  have hts : ∀ w ∈ gw, w.before args s = true := fun w h => hts w (List.mem_cons_of_mem _ h)
  have hown : s.vm.findClass "AlarmMatrixModel" = some m.cls := hown
  have J27 : ∀ (s0_27 : Int32) (t0_27 : St) (H : Heap) (locs : List Loc) (ls : Array Slot), m_MD_cut_J27 F a1 a2 a3  s0_27 t0_27 = some o → va_P (dC, dI) vwCl (wd_MD g h0 q0 t0_27) H → va_D A (wd_MD g h0 q0 t0_27) → va_S A s.heap H locs → lv_has ls 5 [(0, .ref h0), (1, .int a1), (2, .int a2), (3, .int a3)] → W p l e rm_MD_cut s m args below meth c H locs 0 0 Q (F0 m 27 ls [.int s0_27, .ref h0]) := by
    intro s0_27 t0_27 H locs ls hm hP hD hS hl
    replace hm := m_MD_cut_J27_h hm
    refine lv_iconst (v := (1 : Int32)) hx hb d_MD_cut_27 (by decide) ?_
    obtain ⟨r28, z0_28, hcl, hm⟩ := bn2_s hm
    refine kci (wc := wd_MD g h0 q0 t0_27) (wr := ([] : va_W)) (w1 := wd_MD g h0 q0 z0_28) hP hD hS hA [0, 1, 2, 3, 4, 5, 6, 7, 8, 9, 10, 11, 12, 13, 14, 15, 16, 17, 18, 19, 20, 21, 22, 23, 24, 25, 26, 27, 28, 29, 30, 31] [] rfl rfl (by decide) (by decide) (va_runV (As := [.int s0_27, .int (1 : Int32)]) (rest := []) ⟨hx, hb, hml, hown, hts⟩ (c_MD_goes hG hGn l dC dI g F H.size h0 q0 t0_27 s0_27 (1 : Int32) hcl) (cwV 2 hts (gdV k5_155 k5_157 kp_20 k1_10 k5_158) rfl rfl rfl (by decide +kernel) ⟨Nat.le_of_ble_eq_true rfl, Nat.le_of_ble_eq_true rfl⟩) (kpV hG hP hK hD hS hA hGA [0, 1, 2, 3, 4, 5, 6, 7, 8, 9, 10, 11, 12, 13, 14, 15, 16, 17, 18, 19, 20, 21, 22, 23, 24, 25, 26, 27, 28, 29, 30, 31] (by decide) rfl (ci := 10) (q0 := 0) rfl rfl rfl) rfl rfl hl.1 rfl (lv_room (Nat.le_of_ble_eq_true rfl)) d_MD_cut_28 ⟨Nat.le_of_ble_eq_true rfl, Nat.le_of_ble_eq_true rfl⟩) (fun H locs hP hD hS => ?_)
    have hP : va_P (dC, dI) vwCl (wd_MD g h0 q0 z0_28) H := hP
    have hD : va_D A (wd_MD g h0 q0 z0_28) := hD
    refine lv_if_ne (tgt := 36) hx hb d_MD_cut_31 (by decide) (fun hc => ?_) (fun hc => ?_)
    · replace hm := if_f hm hc
      refine lv_aload_n hx hb d_MD_cut_36 rfl (lv_at hl 0 rfl) ?_
      refine va_get (D := (dC, dI)) (ci := 10) (v := .ref (q0 10)) (C := "AlarmMatrixModel") (T := T_MD) (N := 42) hx hb hts i_MD hown hK hP 0 rfl rfl 10 (by decide) (hts _ k5_30) (fun _ h9 => h9) rfl d_MD_cut_37 ?_
      refine lv_bipush (v := (41 : Int32)) hx hb d_MD_cut_40 (by decide) ?_
      refine lv_iload_n hx hb d_MD_cut_42 rfl (lv_at hl 1 rfl) ?_
      refine lv_imul hx hb d_MD_cut_43 ?_
      refine lv_iload_n hx hb d_MD_cut_44 rfl (lv_at hl 2 rfl) ?_
      refine lv_iadd hx hb d_MD_cut_45 ?_
      obtain ⟨h_46, hm⟩ := ck_s hm
      refine va_zald (f := (z0_28 10)) hx hb hK hP 8 1 rfl rfl h_46 d_MD_cut_46 ?_
      refine lv_istore (lv' := [(4, .int ((z0_28 10) (((41 : Int32) * a1) + a2).toNatClampNeg)), (0, .ref h0), (1, .int a1), (2, .int a2), (3, .int a3)]) hx hb d_MD_cut_47 hl (by decide) rfl (fun ls hl => ?_)
      refine lv_aload_n hx hb d_MD_cut_49 rfl (lv_at hl 1 rfl) ?_
      refine va_get (D := (dC, dI)) (ci := 10) (v := .ref (q0 10)) (C := "AlarmMatrixModel") (T := T_MD) (N := 42) hx hb hts i_MD hown hK hP 0 rfl rfl 10 (by decide) (hts _ k5_30) (fun _ h9 => h9) rfl d_MD_cut_50 ?_
      refine lv_bipush (v := (41 : Int32)) hx hb d_MD_cut_53 (by decide) ?_
      refine lv_iload_n hx hb d_MD_cut_55 rfl (lv_at hl 2 rfl) ?_
      refine lv_imul hx hb d_MD_cut_56 ?_
      refine lv_iload_n hx hb d_MD_cut_57 rfl (lv_at hl 3 rfl) ?_
      refine lv_iadd hx hb d_MD_cut_58 ?_
      refine lv_iload_n hx hb d_MD_cut_59 rfl (lv_at hl 4 rfl) ?_
      obtain ⟨h_60, hm⟩ := ck_s hm
      obtain ⟨e0_60, he, hm⟩ := lz_s hm
      refine va_zast (f := (z0_28 10)) hx hb hK hP hD hS 8 1 rfl rfl h_60 d_MD_cut_60 (fun H locs hP hD hS => ?_)
      have hP : va_P (dC, dI) vwCl (wd_MD g h0 q0 e0_60) H := by rw [he]; exact hP
      have hD : va_D A (wd_MD g h0 q0 e0_60) := by rw [he]; exact hD
      refine lv_iload hx hb d_MD_cut_61 (lv_at hl 0 rfl) ?_
      obtain ⟨hz, hm⟩ := ckb_s hm
      obtain rfl := Option.some.inj hm
      rw [hQ]
      exact krz hx hb hr hz hlocks hAe hP hK hD hS d_MD_cut_63
    · replace hm := if_t hm hc
      refine lv_iconst (v := (0 : Int32)) hx hb d_MD_cut_34 (by decide) ?_
      obtain rfl := Option.some.inj hm
      rw [hQ]
      exact krz hx hb hr nar_0 hlocks hAe hP hK hD hS d_MD_cut_35
  refine lv_aload_n hx hb d_MD_cut_0 rfl (lv_at hl 0 rfl) ?_
  refine lv_iload_n hx hb d_MD_cut_1 rfl (lv_at hl 1 rfl) ?_
  obtain ⟨r2, hcl, hm⟩ := bn1_s hm
  refine kci (wc := ([] : va_W)) (wr := wd_MD g h0 q0 x0) (w1 := ([] : va_W)) hP hD hS hA [] [0, 1, 2, 3, 4, 5, 6, 7, 8, 9, 10, 11, 12, 13, 14, 15, 16, 17, 18, 19, 20, 21, 22, 23, 24, 25, 26, 27, 28, 29, 30, 31] rfl rfl (by decide) (by decide) (va_runS (As := [.int a1]) (rest := [.ref h0]) ⟨hx, hb, hml, hown, hts⟩ (c_MD_isLoop hG hGn l dC dI g F H.size a1 hcl) (cwS 1 hts (gdS k6_58 k6_59 k1_10 k6_60) rfl rfl rfl (by decide +kernel) ⟨Nat.le_of_ble_eq_true rfl, Nat.le_of_ble_eq_true rfl⟩) (kpS hG hP hK hD hS hA hGA [] (by decide) rfl) rfl rfl hl.1 rfl (lv_room (Nat.le_of_ble_eq_true rfl)) d_MD_cut_2 ⟨Nat.le_of_ble_eq_true rfl, Nat.le_of_ble_eq_true rfl⟩) (fun H locs hP hD hS => ?_)
  have hP : va_P (dC, dI) vwCl (wd_MD g h0 q0 x0) H := hP
  have hD : va_D A (wd_MD g h0 q0 x0) := hD
  refine lv_if_eq (tgt := 26) hx hb d_MD_cut_5 (by decide) (fun hc => ?_) (fun hc => ?_)
  · replace hm := if_t hm hc
    refine lv_iconst (v := (0 : Int32)) hx hb d_MD_cut_26 (by decide) ?_
    exact J27 (0 : Int32) x0 H locs ls hm hP hD hS (lv_sub hl [0, 1, 2, 3] rfl)
  · replace hm := if_f hm hc
    refine lv_iload_n hx hb d_MD_cut_8 rfl (lv_at hl 2 rfl) ?_
    refine lv_if_lt (tgt := 26) hx hb d_MD_cut_9 (by decide) (fun hc => ?_) (fun hc => ?_)
    · replace hm := if_t hm hc
      refine lv_iconst (v := (0 : Int32)) hx hb d_MD_cut_26 (by decide) ?_
      exact J27 (0 : Int32) x0 H locs ls hm hP hD hS (lv_sub hl [0, 1, 2, 3] rfl)
    · replace hm := if_f hm hc
      refine lv_iload_n hx hb d_MD_cut_12 rfl (lv_at hl 2 rfl) ?_
      refine lv_aload_n hx hb d_MD_cut_13 rfl (lv_at hl 0 rfl) ?_
      refine va_get (D := (dC, dI)) (ci := 10) (v := .ref (q0 8)) (C := "AlarmMatrixModel") (T := T_MD) (N := 42) hx hb hts i_MD hown hK hP 0 rfl rfl 8 (by decide) (hts _ k5_28) (fun _ h9 => h9) rfl d_MD_cut_14 ?_
      refine lv_iload_n hx hb d_MD_cut_17 rfl (lv_at hl 1 rfl) ?_
      obtain ⟨h_18, hm⟩ := ck_s hm
      refine va_iald (f := (x0 8)) hx hb hK hP 6 0 rfl rfl h_18 d_MD_cut_18 ?_
      refine lv_icmp_gt (tgt := 26) hx hb d_MD_cut_19 (by decide) (fun hc => ?_) (fun hc => ?_)
      · replace hm := if_t hm hc
        refine lv_iconst (v := (0 : Int32)) hx hb d_MD_cut_26 (by decide) ?_
        exact J27 (0 : Int32) x0 H locs ls hm hP hD hS (lv_sub hl [0, 1, 2, 3] rfl)
      · replace hm := if_f hm hc
        refine lv_iconst (v := (1 : Int32)) hx hb d_MD_cut_22 (by decide) ?_
        refine lv_goto (tgt := 27) hx hb d_MD_cut_23 (by decide) ?_
        exact J27 (1 : Int32) x0 H locs ls hm hP hD hS (lv_sub hl [0, 1, 2, 3] rfl)
abbrev b_MD_isHeard : ByteArray := prog_12_method_39_code
abbrev y_MD_isHeard : MethodName := ⟨"AlarmMatrixModel", "isHeard", "(I)Z"⟩
theorem d_MD_isHeard_0 : decode b_MD_isHeard 0 = .ok (.aload_n 0, 1) := by decide +kernel
theorem d_MD_isHeard_1 : decode b_MD_isHeard 1 = .ok (.getfield 20, 3) := by decide +kernel
theorem d_MD_isHeard_4 : decode b_MD_isHeard 4 = .ok (.iload_n 1, 1) := by decide +kernel
theorem d_MD_isHeard_5 : decode b_MD_isHeard 5 = .ok (.iaload, 1) := by decide +kernel
theorem d_MD_isHeard_6 : decode b_MD_isHeard 6 = .ok (.ifCond .ge 5, 3) := by decide +kernel
theorem d_MD_isHeard_9 : decode b_MD_isHeard 9 = .ok (.iconst 1, 1) := by decide +kernel
theorem d_MD_isHeard_10 : decode b_MD_isHeard 10 = .ok (.ireturn, 1) := by decide +kernel
theorem d_MD_isHeard_11 : decode b_MD_isHeard 11 = .ok (.iconst 0, 1) := by decide +kernel
theorem d_MD_isHeard_12 : decode b_MD_isHeard 12 = .ok (.istore_n 2, 1) := by decide +kernel
theorem d_MD_isHeard_13 : decode b_MD_isHeard 13 = .ok (.iconst 0, 1) := by decide +kernel
theorem d_MD_isHeard_14 : decode b_MD_isHeard 14 = .ok (.istore_n 3, 1) := by decide +kernel
theorem d_MD_isHeard_15 : decode b_MD_isHeard 15 = .ok (.iconst 0, 1) := by decide +kernel
theorem d_MD_isHeard_16 : decode b_MD_isHeard 16 = .ok (.istore 4, 2) := by decide +kernel
theorem d_MD_isHeard_18 : decode b_MD_isHeard 18 = .ok (.iload 4, 2) := by decide +kernel
theorem d_MD_isHeard_20 : decode b_MD_isHeard 20 = .ok (.bipush 40, 2) := by decide +kernel
theorem d_MD_isHeard_22 : decode b_MD_isHeard 22 = .ok (.if_icmp .gt 80, 3) := by decide +kernel
theorem d_MD_isHeard_25 : decode b_MD_isHeard 25 = .ok (.aload_n 0, 1) := by decide +kernel
theorem d_MD_isHeard_26 : decode b_MD_isHeard 26 = .ok (.getfield 32, 3) := by decide +kernel
theorem d_MD_isHeard_29 : decode b_MD_isHeard 29 = .ok (.bipush 41, 2) := by decide +kernel
theorem d_MD_isHeard_31 : decode b_MD_isHeard 31 = .ok (.aload_n 0, 1) := by decide +kernel
theorem d_MD_isHeard_32 : decode b_MD_isHeard 32 = .ok (.getfield 20, 3) := by decide +kernel
theorem d_MD_isHeard_35 : decode b_MD_isHeard 35 = .ok (.iload_n 1, 1) := by decide +kernel
theorem d_MD_isHeard_36 : decode b_MD_isHeard 36 = .ok (.iaload, 1) := by decide +kernel
theorem d_MD_isHeard_37 : decode b_MD_isHeard 37 = .ok (.imul, 1) := by decide +kernel
theorem d_MD_isHeard_38 : decode b_MD_isHeard 38 = .ok (.iload 4, 2) := by decide +kernel
theorem d_MD_isHeard_40 : decode b_MD_isHeard 40 = .ok (.iadd, 1) := by decide +kernel
theorem d_MD_isHeard_41 : decode b_MD_isHeard 41 = .ok (.baload, 1) := by decide +kernel
theorem d_MD_isHeard_42 : decode b_MD_isHeard 42 = .ok (.istore 5, 2) := by decide +kernel
theorem d_MD_isHeard_44 : decode b_MD_isHeard 44 = .ok (.iload_n 2, 1) := by decide +kernel
theorem d_MD_isHeard_45 : decode b_MD_isHeard 45 = .ok (.ifCond .ne 19, 3) := by decide +kernel
theorem d_MD_isHeard_48 : decode b_MD_isHeard 48 = .ok (.iload 5, 2) := by decide +kernel
theorem d_MD_isHeard_50 : decode b_MD_isHeard 50 = .ok (.ifCond .eq 18, 3) := by decide +kernel
theorem d_MD_isHeard_53 : decode b_MD_isHeard 53 = .ok (.iload 4, 2) := by decide +kernel
theorem d_MD_isHeard_55 : decode b_MD_isHeard 55 = .ok (.aload_n 0, 1) := by decide +kernel
theorem d_MD_isHeard_56 : decode b_MD_isHeard 56 = .ok (.getfield 23, 3) := by decide +kernel
theorem d_MD_isHeard_59 : decode b_MD_isHeard 59 = .ok (.iload_n 1, 1) := by decide +kernel
theorem d_MD_isHeard_60 : decode b_MD_isHeard 60 = .ok (.iaload, 1) := by decide +kernel
theorem d_MD_isHeard_61 : decode b_MD_isHeard 61 = .ok (.if_icmp .gt 7, 3) := by decide +kernel
theorem d_MD_isHeard_64 : decode b_MD_isHeard 64 = .ok (.iconst 1, 1) := by decide +kernel
theorem d_MD_isHeard_65 : decode b_MD_isHeard 65 = .ok (.goto 4, 3) := by decide +kernel
theorem d_MD_isHeard_68 : decode b_MD_isHeard 68 = .ok (.iconst 0, 1) := by decide +kernel
theorem d_MD_isHeard_69 : decode b_MD_isHeard 69 = .ok (.istore_n 2, 1) := by decide +kernel
theorem d_MD_isHeard_70 : decode b_MD_isHeard 70 = .ok (.iload_n 3, 1) := by decide +kernel
theorem d_MD_isHeard_71 : decode b_MD_isHeard 71 = .ok (.ifCond .ne 19, 3) := by decide +kernel
theorem d_MD_isHeard_74 : decode b_MD_isHeard 74 = .ok (.iload 5, 2) := by decide +kernel
theorem d_MD_isHeard_76 : decode b_MD_isHeard 76 = .ok (.ifCond .eq 18, 3) := by decide +kernel
theorem d_MD_isHeard_79 : decode b_MD_isHeard 79 = .ok (.iload 4, 2) := by decide +kernel
theorem d_MD_isHeard_81 : decode b_MD_isHeard 81 = .ok (.aload_n 0, 1) := by decide +kernel
theorem d_MD_isHeard_82 : decode b_MD_isHeard 82 = .ok (.getfield 23, 3) := by decide +kernel
theorem d_MD_isHeard_85 : decode b_MD_isHeard 85 = .ok (.iload_n 1, 1) := by decide +kernel
theorem d_MD_isHeard_86 : decode b_MD_isHeard 86 = .ok (.iaload, 1) := by decide +kernel
theorem d_MD_isHeard_87 : decode b_MD_isHeard 87 = .ok (.if_icmp .le 7, 3) := by decide +kernel
theorem d_MD_isHeard_90 : decode b_MD_isHeard 90 = .ok (.iconst 1, 1) := by decide +kernel
theorem d_MD_isHeard_91 : decode b_MD_isHeard 91 = .ok (.goto 4, 3) := by decide +kernel
theorem d_MD_isHeard_94 : decode b_MD_isHeard 94 = .ok (.iconst 0, 1) := by decide +kernel
theorem d_MD_isHeard_95 : decode b_MD_isHeard 95 = .ok (.istore_n 3, 1) := by decide +kernel
theorem d_MD_isHeard_96 : decode b_MD_isHeard 96 = .ok (.iinc 4 1, 3) := by decide +kernel
theorem d_MD_isHeard_99 : decode b_MD_isHeard 99 = .ok (.goto (-81), 3) := by decide +kernel
theorem d_MD_isHeard_102 : decode b_MD_isHeard 102 = .ok (.iload_n 2, 1) := by decide +kernel
theorem d_MD_isHeard_103 : decode b_MD_isHeard 103 = .ok (.ifCond .eq 7, 3) := by decide +kernel
theorem d_MD_isHeard_106 : decode b_MD_isHeard 106 = .ok (.iload_n 3, 1) := by decide +kernel
theorem d_MD_isHeard_107 : decode b_MD_isHeard 107 = .ok (.ifCond .ne 7, 3) := by decide +kernel
theorem d_MD_isHeard_110 : decode b_MD_isHeard 110 = .ok (.iconst 1, 1) := by decide +kernel
theorem d_MD_isHeard_111 : decode b_MD_isHeard 111 = .ok (.goto 4, 3) := by decide +kernel
theorem d_MD_isHeard_114 : decode b_MD_isHeard 114 = .ok (.iconst 0, 1) := by decide +kernel
theorem d_MD_isHeard_115 : decode b_MD_isHeard 115 = .ok (.ireturn, 1) := by decide +kernel
def m_MD_isHeard_J69 {R : Type} (F : Nat) (a1 : Int32) (x0 : St) (k18_102 : Int32 → Int32 → Int32 → Option R) (rec18 : Int32 → Int32 → Int32 → Option R) (j2_69 : Int32) (j3_69 : Int32) (j4_69 : Int32) (j5_69 : Int32) (s0_69 : Int32) : Option R :=
  (if j3_69 = (0 : Int32) then (if j5_69 = (0 : Int32) then (rec18 s0_69 (0 : Int32) (j4_69 + (1 : Int32))) else (ck a1 200 (if j4_69 ≤ ((x0 7) a1.toNatClampNeg) then (rec18 s0_69 (0 : Int32) (j4_69 + (1 : Int32))) else (rec18 s0_69 (1 : Int32) (j4_69 + (1 : Int32)))))) else (rec18 s0_69 (1 : Int32) (j4_69 + (1 : Int32))))
theorem m_MD_isHeard_J69_h {R : Type} {F : Nat} {a1 : Int32} {x0 : St} {k18_102 : Int32 → Int32 → Int32 → Option R} {rec18 : Int32 → Int32 → Int32 → Option R} {j2_69 : Int32} {j3_69 : Int32} {j4_69 : Int32} {j5_69 : Int32} {s0_69 : Int32} {o : R} (h : m_MD_isHeard_J69 F a1 x0 k18_102 rec18 j2_69 j3_69 j4_69 j5_69 s0_69 = some o) :
  (if j3_69 = (0 : Int32) then (if j5_69 = (0 : Int32) then (rec18 s0_69 (0 : Int32) (j4_69 + (1 : Int32))) else (ck a1 200 (if j4_69 ≤ ((x0 7) a1.toNatClampNeg) then (rec18 s0_69 (0 : Int32) (j4_69 + (1 : Int32))) else (rec18 s0_69 (1 : Int32) (j4_69 + (1 : Int32)))))) else (rec18 s0_69 (1 : Int32) (j4_69 + (1 : Int32)))) = some o := h
def m_MD_isHeard_B18 {R : Type} (F : Nat) (a1 : Int32) (x0 : St) (k18_102 : Int32 → Int32 → Int32 → Option R) (rec18 : Int32 → Int32 → Int32 → Option R) (v2_18 : Int32) (v3_18 : Int32) (v4_18 : Int32) : Option R :=
  (if (40 : Int32) < v4_18 then (k18_102 v2_18 v3_18 v4_18) else (ck a1 200 (ck (((41 : Int32) * ((x0 6) a1.toNatClampNeg)) + v4_18) 328 (if v2_18 = (0 : Int32) then (if ((x0 10) (((41 : Int32) * ((x0 6) a1.toNatClampNeg)) + v4_18).toNatClampNeg) = (0 : Int32) then (m_MD_isHeard_J69 F a1 x0 k18_102 rec18 v2_18 v3_18 v4_18 ((x0 10) (((41 : Int32) * ((x0 6) a1.toNatClampNeg)) + v4_18).toNatClampNeg) (0 : Int32)) else (ck a1 200 (if ((x0 7) a1.toNatClampNeg) < v4_18 then (m_MD_isHeard_J69 F a1 x0 k18_102 rec18 v2_18 v3_18 v4_18 ((x0 10) (((41 : Int32) * ((x0 6) a1.toNatClampNeg)) + v4_18).toNatClampNeg) (0 : Int32)) else (m_MD_isHeard_J69 F a1 x0 k18_102 rec18 v2_18 v3_18 v4_18 ((x0 10) (((41 : Int32) * ((x0 6) a1.toNatClampNeg)) + v4_18).toNatClampNeg) (1 : Int32))))) else (m_MD_isHeard_J69 F a1 x0 k18_102 rec18 v2_18 v3_18 v4_18 ((x0 10) (((41 : Int32) * ((x0 6) a1.toNatClampNeg)) + v4_18).toNatClampNeg) (1 : Int32))))))
theorem m_MD_isHeard_B18_h {R : Type} {F : Nat} {a1 : Int32} {x0 : St} {k18_102 : Int32 → Int32 → Int32 → Option R} {rec18 : Int32 → Int32 → Int32 → Option R} {v2_18 : Int32} {v3_18 : Int32} {v4_18 : Int32} {o : R} (h : m_MD_isHeard_B18 F a1 x0 k18_102 rec18 v2_18 v3_18 v4_18 = some o) :
  (if (40 : Int32) < v4_18 then (k18_102 v2_18 v3_18 v4_18) else (ck a1 200 (ck (((41 : Int32) * ((x0 6) a1.toNatClampNeg)) + v4_18) 328 (if v2_18 = (0 : Int32) then (if ((x0 10) (((41 : Int32) * ((x0 6) a1.toNatClampNeg)) + v4_18).toNatClampNeg) = (0 : Int32) then (m_MD_isHeard_J69 F a1 x0 k18_102 rec18 v2_18 v3_18 v4_18 ((x0 10) (((41 : Int32) * ((x0 6) a1.toNatClampNeg)) + v4_18).toNatClampNeg) (0 : Int32)) else (ck a1 200 (if ((x0 7) a1.toNatClampNeg) < v4_18 then (m_MD_isHeard_J69 F a1 x0 k18_102 rec18 v2_18 v3_18 v4_18 ((x0 10) (((41 : Int32) * ((x0 6) a1.toNatClampNeg)) + v4_18).toNatClampNeg) (0 : Int32)) else (m_MD_isHeard_J69 F a1 x0 k18_102 rec18 v2_18 v3_18 v4_18 ((x0 10) (((41 : Int32) * ((x0 6) a1.toNatClampNeg)) + v4_18).toNatClampNeg) (1 : Int32))))) else (m_MD_isHeard_J69 F a1 x0 k18_102 rec18 v2_18 v3_18 v4_18 ((x0 10) (((41 : Int32) * ((x0 6) a1.toNatClampNeg)) + v4_18).toNatClampNeg) (1 : Int32)))))) = some o := h
def m_MD_isHeard (F : Nat) (x0 : St) (a1 : Int32) : Option (Int32) :=
  (ck a1 200 (if (0 : Int32) ≤ ((x0 6) a1.toNatClampNeg) then (lq3 (m_MD_isHeard_B18 F a1 x0 (fun v2_18 v3_18 v4_18 => (if v2_18 = (0 : Int32) then (some (1 : Int32)) else (if v3_18 = (0 : Int32) then (some (1 : Int32)) else (some (0 : Int32)))))) F (0 : Int32) (0 : Int32) (0 : Int32)) else (some (1 : Int32))))
abbrev rm_MD_isHeard : Room := { frames := 0, cells := 0, slots := 0, locals := 0 }
set_option maxHeartbeats 4000000 in
set_option maxRecDepth 100000 in
theorem c_MD_isHeard {G : (Nat → Prop) → State → Prop} (hG : gok G) (hGn : gN G) (l : Launch) (dC : Nat → ClassId) (dI : Nat → Nat → Nat) (g : Nat → ClassId) (F : Nat) (sz : Nat) (h0 : Nat) (q0 : Nat → Nat) (x0 : St) (a1 : Int32) {o : Int32} (hm : m_MD_isHeard F x0 a1 = some o) : Met l y_MD_isHeard (.code y_MD_isHeard b_MD_isHeard 6 (some .boolean) :: gw) rm_MD_isHeard (kq (dC, dI) vwCl (tyv g) G [.ref h0, .int a1] sz (wd_MD g h0 q0 x0)) (kqi (dC, dI) vwCl (tyv g) (wd_MD g h0 q0 x0) o (wd_MD g h0 q0 x0) sz) 0 0 (va_A (wd_MD g h0 q0 x0) sz) := by
  unfold m_MD_isHeard at hm
  refine km (Qc := fun sz => kqi (dC, dI) vwCl (tyv g) (wd_MD g h0 q0 x0) o (wd_MD g h0 q0 x0) sz) (cc := b_MD_isHeard) (maxL := 6) (ret := some .boolean) (by decide) rfl (Nat.le_of_ble_eq_true rfl) ?_
  intro p e s m args below meth c Q hQ hx hb hr hts hown hlocks hml hnm H locs A hAe hA hP hK hD hS hGA ls hl
  have hl : lv_has ls 6 [(0, .ref h0), (1, .int a1)] := hl
  have hts : ∀ w ∈ gw, w.before args s = true := fun w h => hts w (List.mem_cons_of_mem _ h)
  have hown : s.vm.findClass "AlarmMatrixModel" = some m.cls := hown
  refine lv_aload_n hx hb d_MD_isHeard_0 rfl (lv_at hl 0 rfl) ?_
  refine va_get (D := (dC, dI)) (ci := 10) (v := .ref (q0 6)) (C := "AlarmMatrixModel") (T := T_MD) (N := 42) hx hb hts i_MD hown hK hP 0 rfl rfl 6 (by decide) (hts _ k5_26) (fun _ h9 => h9) rfl d_MD_isHeard_1 ?_
  refine lv_iload_n hx hb d_MD_isHeard_4 rfl (lv_at hl 1 rfl) ?_
  obtain ⟨h_5, hm⟩ := ck_s hm
  refine va_iald (f := (x0 6)) hx hb hK hP 4 0 rfl rfl h_5 d_MD_isHeard_5 ?_
  refine lv_if_ge (tgt := 11) hx hb d_MD_isHeard_6 (by decide) (fun hc => ?_) (fun hc => ?_)
  · replace hm := if_t hm hc
    refine lv_iconst (v := (0 : Int32)) hx hb d_MD_isHeard_11 (by decide) ?_
    refine lv_istore_n (lv' := [(2, .int (0 : Int32)), (0, .ref h0), (1, .int a1)]) hx hb d_MD_isHeard_12 rfl hl (by decide) rfl (fun ls hl => ?_)
    refine lv_iconst (v := (0 : Int32)) hx hb d_MD_isHeard_13 (by decide) ?_
    refine lv_istore_n (lv' := [(3, .int (0 : Int32)), (2, .int (0 : Int32)), (0, .ref h0), (1, .int a1)]) hx hb d_MD_isHeard_14 rfl hl (by decide) rfl (fun ls hl => ?_)
    refine lv_iconst (v := (0 : Int32)) hx hb d_MD_isHeard_15 (by decide) ?_
    refine lv_istore (lv' := [(4, .int (0 : Int32)), (3, .int (0 : Int32)), (2, .int (0 : Int32)), (0, .ref h0), (1, .int a1)]) hx hb d_MD_isHeard_16 hl (by decide) rfl (fun ls hl => ?_)
    have L18 : ∀ (n18 : Nat) (v2_18 : Int32) (v3_18 : Int32) (v4_18 : Int32) (H : Heap) (locs : List Loc) (ls : Array Slot), lq3 (m_MD_isHeard_B18 F a1 x0 (fun v2_18 v3_18 v4_18 => (if v2_18 = (0 : Int32) then (some (1 : Int32)) else (if v3_18 = (0 : Int32) then (some (1 : Int32)) else (some (0 : Int32)))))) n18 v2_18 v3_18 v4_18 = some o → va_P (dC, dI) vwCl (wd_MD g h0 q0 x0) H → va_D A (wd_MD g h0 q0 x0) → va_S A s.heap H locs → lv_has ls 6 [(0, .ref h0), (1, .int a1), (2, .int v2_18), (3, .int v3_18), (4, .int v4_18)] → W p l e rm_MD_isHeard s m args below meth c H locs 0 0 Q (F0 m 18 ls []) := by
      intro n18
      induction n18 with
      | zero => intro v2_18 v3_18 v4_18 H locs ls hm; exact absurd hm (by intro z; cases z)
      | succ n18 ih18 =>
        intro v2_18 v3_18 v4_18 H locs ls hm hP hD hS hl
        replace hm := m_MD_isHeard_B18_h (lq3_h hm)
        have J69 : ∀ (j2_69 : Int32) (j3_69 : Int32) (j4_69 : Int32) (j5_69 : Int32) (s0_69 : Int32) (H : Heap) (locs : List Loc) (ls : Array Slot), m_MD_isHeard_J69 F a1 x0 (fun v2_18 v3_18 v4_18 => (if v2_18 = (0 : Int32) then (some (1 : Int32)) else (if v3_18 = (0 : Int32) then (some (1 : Int32)) else (some (0 : Int32))))) (lq3 (m_MD_isHeard_B18 F a1 x0 (fun v2_18 v3_18 v4_18 => (if v2_18 = (0 : Int32) then (some (1 : Int32)) else (if v3_18 = (0 : Int32) then (some (1 : Int32)) else (some (0 : Int32)))))) n18) j2_69 j3_69 j4_69 j5_69 s0_69 = some o → va_P (dC, dI) vwCl (wd_MD g h0 q0 x0) H → va_D A (wd_MD g h0 q0 x0) → va_S A s.heap H locs → lv_has ls 6 [(0, .ref h0), (1, .int a1), (2, .int j2_69), (3, .int j3_69), (4, .int j4_69), (5, .int j5_69)] → W p l e rm_MD_isHeard s m args below meth c H locs 0 0 Q (F0 m 69 ls [.int s0_69]) := by
          intro j2_69 j3_69 j4_69 j5_69 s0_69 H locs ls hm hP hD hS hl
          replace hm := m_MD_isHeard_J69_h hm
          refine lv_istore_n (lv' := [(2, .int s0_69), (0, .ref h0), (1, .int a1), (3, .int j3_69), (4, .int j4_69), (5, .int j5_69)]) hx hb d_MD_isHeard_69 rfl hl (by decide) rfl (fun ls hl => ?_)
          refine lv_iload_n hx hb d_MD_isHeard_70 rfl (lv_at hl 3 rfl) ?_
          refine lv_if_ne (tgt := 90) hx hb d_MD_isHeard_71 (by decide) (fun hc => ?_) (fun hc => ?_)
          · replace hm := if_f hm hc
            refine lv_iconst (v := (1 : Int32)) hx hb d_MD_isHeard_90 (by decide) ?_
            refine lv_goto (tgt := 95) hx hb d_MD_isHeard_91 (by decide) ?_
            refine lv_istore_n (lv' := [(3, .int (1 : Int32)), (2, .int s0_69), (0, .ref h0), (1, .int a1), (4, .int j4_69), (5, .int j5_69)]) hx hb d_MD_isHeard_95 rfl hl (by decide) rfl (fun ls hl => ?_)
            refine lv_iinc (v := (j4_69 + (1 : Int32))) (lv' := [(4, .int (j4_69 + (1 : Int32))), (3, .int (1 : Int32)), (2, .int s0_69), (0, .ref h0), (1, .int a1), (5, .int j5_69)]) hx hb d_MD_isHeard_96 hl (k := 4) rfl rfl (by decide) rfl (fun ls hl => ?_)
            refine lv_goto (tgt := 18) hx hb d_MD_isHeard_99 (by decide) ?_
            exact ih18 s0_69 (1 : Int32) (j4_69 + (1 : Int32)) H locs ls hm hP hD hS (lv_sub hl [3, 4, 2, 1, 0] rfl)
          · replace hm := if_t hm hc
            refine lv_iload hx hb d_MD_isHeard_74 (lv_at hl 5 rfl) ?_
            refine lv_if_eq (tgt := 94) hx hb d_MD_isHeard_76 (by decide) (fun hc => ?_) (fun hc => ?_)
            · replace hm := if_t hm hc
              refine lv_iconst (v := (0 : Int32)) hx hb d_MD_isHeard_94 (by decide) ?_
              refine lv_istore_n (lv' := [(3, .int (0 : Int32)), (2, .int s0_69), (0, .ref h0), (1, .int a1), (4, .int j4_69), (5, .int j5_69)]) hx hb d_MD_isHeard_95 rfl hl (by decide) rfl (fun ls hl => ?_)
              refine lv_iinc (v := (j4_69 + (1 : Int32))) (lv' := [(4, .int (j4_69 + (1 : Int32))), (3, .int (0 : Int32)), (2, .int s0_69), (0, .ref h0), (1, .int a1), (5, .int j5_69)]) hx hb d_MD_isHeard_96 hl (k := 4) rfl rfl (by decide) rfl (fun ls hl => ?_)
              refine lv_goto (tgt := 18) hx hb d_MD_isHeard_99 (by decide) ?_
              exact ih18 s0_69 (0 : Int32) (j4_69 + (1 : Int32)) H locs ls hm hP hD hS (lv_sub hl [3, 4, 2, 1, 0] rfl)
            · replace hm := if_f hm hc
              refine lv_iload hx hb d_MD_isHeard_79 (lv_at hl 4 rfl) ?_
              refine lv_aload_n hx hb d_MD_isHeard_81 rfl (lv_at hl 1 rfl) ?_
              refine va_get (D := (dC, dI)) (ci := 10) (v := .ref (q0 7)) (C := "AlarmMatrixModel") (T := T_MD) (N := 42) hx hb hts i_MD hown hK hP 0 rfl rfl 7 (by decide) (hts _ k5_27) (fun _ h9 => h9) rfl d_MD_isHeard_82 ?_
              refine lv_iload_n hx hb d_MD_isHeard_85 rfl (lv_at hl 2 rfl) ?_
              obtain ⟨h_86, hm⟩ := ck_s hm
              refine va_iald (f := (x0 7)) hx hb hK hP 5 0 rfl rfl h_86 d_MD_isHeard_86 ?_
              refine lv_icmp_le (tgt := 94) hx hb d_MD_isHeard_87 (by decide) (fun hc => ?_) (fun hc => ?_)
              · replace hm := if_t hm hc
                refine lv_iconst (v := (0 : Int32)) hx hb d_MD_isHeard_94 (by decide) ?_
                refine lv_istore_n (lv' := [(3, .int (0 : Int32)), (2, .int s0_69), (0, .ref h0), (1, .int a1), (4, .int j4_69), (5, .int j5_69)]) hx hb d_MD_isHeard_95 rfl hl (by decide) rfl (fun ls hl => ?_)
                refine lv_iinc (v := (j4_69 + (1 : Int32))) (lv' := [(4, .int (j4_69 + (1 : Int32))), (3, .int (0 : Int32)), (2, .int s0_69), (0, .ref h0), (1, .int a1), (5, .int j5_69)]) hx hb d_MD_isHeard_96 hl (k := 4) rfl rfl (by decide) rfl (fun ls hl => ?_)
                refine lv_goto (tgt := 18) hx hb d_MD_isHeard_99 (by decide) ?_
                exact ih18 s0_69 (0 : Int32) (j4_69 + (1 : Int32)) H locs ls hm hP hD hS (lv_sub hl [3, 4, 2, 1, 0] rfl)
              · replace hm := if_f hm hc
                refine lv_iconst (v := (1 : Int32)) hx hb d_MD_isHeard_90 (by decide) ?_
                refine lv_goto (tgt := 95) hx hb d_MD_isHeard_91 (by decide) ?_
                refine lv_istore_n (lv' := [(3, .int (1 : Int32)), (2, .int s0_69), (0, .ref h0), (1, .int a1), (4, .int j4_69), (5, .int j5_69)]) hx hb d_MD_isHeard_95 rfl hl (by decide) rfl (fun ls hl => ?_)
                refine lv_iinc (v := (j4_69 + (1 : Int32))) (lv' := [(4, .int (j4_69 + (1 : Int32))), (3, .int (1 : Int32)), (2, .int s0_69), (0, .ref h0), (1, .int a1), (5, .int j5_69)]) hx hb d_MD_isHeard_96 hl (k := 4) rfl rfl (by decide) rfl (fun ls hl => ?_)
                refine lv_goto (tgt := 18) hx hb d_MD_isHeard_99 (by decide) ?_
                exact ih18 s0_69 (1 : Int32) (j4_69 + (1 : Int32)) H locs ls hm hP hD hS (lv_sub hl [3, 4, 2, 1, 0] rfl)
        refine lv_iload hx hb d_MD_isHeard_18 (lv_at hl 4 rfl) ?_
        refine lv_bipush (v := (40 : Int32)) hx hb d_MD_isHeard_20 (by decide) ?_
        refine lv_icmp_gt (tgt := 102) hx hb d_MD_isHeard_22 (by decide) (fun hc => ?_) (fun hc => ?_)
        · replace hm := if_t hm hc
          refine lv_iload_n hx hb d_MD_isHeard_102 rfl (lv_at hl 2 rfl) ?_
          refine lv_if_eq (tgt := 110) hx hb d_MD_isHeard_103 (by decide) (fun hc => ?_) (fun hc => ?_)
          · replace hm := if_t hm hc
            refine lv_iconst (v := (1 : Int32)) hx hb d_MD_isHeard_110 (by decide) ?_
            refine lv_goto (tgt := 115) hx hb d_MD_isHeard_111 (by decide) ?_
            obtain rfl := Option.some.inj hm
            rw [hQ]
            exact krz hx hb hr nar_1 hlocks hAe hP hK hD hS d_MD_isHeard_115
          · replace hm := if_f hm hc
            refine lv_iload_n hx hb d_MD_isHeard_106 rfl (lv_at hl 3 rfl) ?_
            refine lv_if_ne (tgt := 114) hx hb d_MD_isHeard_107 (by decide) (fun hc => ?_) (fun hc => ?_)
            · replace hm := if_f hm hc
              refine lv_iconst (v := (0 : Int32)) hx hb d_MD_isHeard_114 (by decide) ?_
              obtain rfl := Option.some.inj hm
              rw [hQ]
              exact krz hx hb hr nar_0 hlocks hAe hP hK hD hS d_MD_isHeard_115
            · replace hm := if_t hm hc
              refine lv_iconst (v := (1 : Int32)) hx hb d_MD_isHeard_110 (by decide) ?_
              refine lv_goto (tgt := 115) hx hb d_MD_isHeard_111 (by decide) ?_
              obtain rfl := Option.some.inj hm
              rw [hQ]
              exact krz hx hb hr nar_1 hlocks hAe hP hK hD hS d_MD_isHeard_115
        · replace hm := if_f hm hc
          refine lv_aload_n hx hb d_MD_isHeard_25 rfl (lv_at hl 0 rfl) ?_
          refine va_get (D := (dC, dI)) (ci := 10) (v := .ref (q0 10)) (C := "AlarmMatrixModel") (T := T_MD) (N := 42) hx hb hts i_MD hown hK hP 0 rfl rfl 10 (by decide) (hts _ k5_30) (fun _ h9 => h9) rfl d_MD_isHeard_26 ?_
          refine lv_bipush (v := (41 : Int32)) hx hb d_MD_isHeard_29 (by decide) ?_
          refine lv_aload_n hx hb d_MD_isHeard_31 rfl (lv_at hl 0 rfl) ?_
          refine va_get (D := (dC, dI)) (ci := 10) (v := .ref (q0 6)) (C := "AlarmMatrixModel") (T := T_MD) (N := 42) hx hb hts i_MD hown hK hP 0 rfl rfl 6 (by decide) (hts _ k5_26) (fun _ h9 => h9) rfl d_MD_isHeard_32 ?_
          refine lv_iload_n hx hb d_MD_isHeard_35 rfl (lv_at hl 1 rfl) ?_
          obtain ⟨h_36, hm⟩ := ck_s hm
          refine va_iald (f := (x0 6)) hx hb hK hP 4 0 rfl rfl h_36 d_MD_isHeard_36 ?_
          refine lv_imul hx hb d_MD_isHeard_37 ?_
          refine lv_iload hx hb d_MD_isHeard_38 (lv_at hl 4 rfl) ?_
          refine lv_iadd hx hb d_MD_isHeard_40 ?_
          obtain ⟨h_41, hm⟩ := ck_s hm
          refine va_zald (f := (x0 10)) hx hb hK hP 8 1 rfl rfl h_41 d_MD_isHeard_41 ?_
          refine lv_istore (lv' := [(5, .int ((x0 10) (((41 : Int32) * ((x0 6) a1.toNatClampNeg)) + v4_18).toNatClampNeg)), (0, .ref h0), (1, .int a1), (2, .int v2_18), (3, .int v3_18), (4, .int v4_18)]) hx hb d_MD_isHeard_42 hl (by decide) rfl (fun ls hl => ?_)
          refine lv_iload_n hx hb d_MD_isHeard_44 rfl (lv_at hl 3 rfl) ?_
          refine lv_if_ne (tgt := 64) hx hb d_MD_isHeard_45 (by decide) (fun hc => ?_) (fun hc => ?_)
          · replace hm := if_f hm hc
            refine lv_iconst (v := (1 : Int32)) hx hb d_MD_isHeard_64 (by decide) ?_
            refine lv_goto (tgt := 69) hx hb d_MD_isHeard_65 (by decide) ?_
            exact J69 v2_18 v3_18 v4_18 ((x0 10) (((41 : Int32) * ((x0 6) a1.toNatClampNeg)) + v4_18).toNatClampNeg) (1 : Int32) H locs ls hm hP hD hS (lv_sub hl [1, 2, 3, 4, 5, 0] rfl)
          · replace hm := if_t hm hc
            refine lv_iload hx hb d_MD_isHeard_48 (lv_at hl 0 rfl) ?_
            refine lv_if_eq (tgt := 68) hx hb d_MD_isHeard_50 (by decide) (fun hc => ?_) (fun hc => ?_)
            · replace hm := if_t hm hc
              refine lv_iconst (v := (0 : Int32)) hx hb d_MD_isHeard_68 (by decide) ?_
              exact J69 v2_18 v3_18 v4_18 ((x0 10) (((41 : Int32) * ((x0 6) a1.toNatClampNeg)) + v4_18).toNatClampNeg) (0 : Int32) H locs ls hm hP hD hS (lv_sub hl [1, 2, 3, 4, 5, 0] rfl)
            · replace hm := if_f hm hc
              refine lv_iload hx hb d_MD_isHeard_53 (lv_at hl 5 rfl) ?_
              refine lv_aload_n hx hb d_MD_isHeard_55 rfl (lv_at hl 1 rfl) ?_
              refine va_get (D := (dC, dI)) (ci := 10) (v := .ref (q0 7)) (C := "AlarmMatrixModel") (T := T_MD) (N := 42) hx hb hts i_MD hown hK hP 0 rfl rfl 7 (by decide) (hts _ k5_27) (fun _ h9 => h9) rfl d_MD_isHeard_56 ?_
              refine lv_iload_n hx hb d_MD_isHeard_59 rfl (lv_at hl 2 rfl) ?_
              obtain ⟨h_60, hm⟩ := ck_s hm
              refine va_iald (f := (x0 7)) hx hb hK hP 5 0 rfl rfl h_60 d_MD_isHeard_60 ?_
              refine lv_icmp_gt (tgt := 68) hx hb d_MD_isHeard_61 (by decide) (fun hc => ?_) (fun hc => ?_)
              · replace hm := if_t hm hc
                refine lv_iconst (v := (0 : Int32)) hx hb d_MD_isHeard_68 (by decide) ?_
                exact J69 v2_18 v3_18 v4_18 ((x0 10) (((41 : Int32) * ((x0 6) a1.toNatClampNeg)) + v4_18).toNatClampNeg) (0 : Int32) H locs ls hm hP hD hS (lv_sub hl [1, 2, 3, 4, 5, 0] rfl)
              · replace hm := if_f hm hc
                refine lv_iconst (v := (1 : Int32)) hx hb d_MD_isHeard_64 (by decide) ?_
                refine lv_goto (tgt := 69) hx hb d_MD_isHeard_65 (by decide) ?_
                exact J69 v2_18 v3_18 v4_18 ((x0 10) (((41 : Int32) * ((x0 6) a1.toNatClampNeg)) + v4_18).toNatClampNeg) (1 : Int32) H locs ls hm hP hD hS (lv_sub hl [1, 2, 3, 4, 5, 0] rfl)
    exact L18 F (0 : Int32) (0 : Int32) (0 : Int32) H locs ls hm hP hD hS (lv_sub hl [3, 4, 2, 1, 0] rfl)
  · replace hm := if_f hm hc
    refine lv_iconst (v := (1 : Int32)) hx hb d_MD_isHeard_9 (by decide) ?_
    obtain rfl := Option.some.inj hm
    rw [hQ]
    exact krz hx hb hr nar_1 hlocks hAe hP hK hD hS d_MD_isHeard_10
abbrev b_MD_heard : ByteArray := prog_12_method_40_code
abbrev y_MD_heard : MethodName := ⟨"AlarmMatrixModel", "heard", "(I)I"⟩
theorem d_MD_heard_0 : decode b_MD_heard 0 = .ok (.aload_n 0, 1) := by decide +kernel
theorem d_MD_heard_1 : decode b_MD_heard 1 = .ok (.iload_n 1, 1) := by decide +kernel
theorem d_MD_heard_2 : decode b_MD_heard 2 = .ok (.invokestatic 230, 3) := by decide +kernel
theorem d_MD_heard_5 : decode b_MD_heard 5 = .ok (.iconst 1, 1) := by decide +kernel
theorem d_MD_heard_6 : decode b_MD_heard 6 = .ok (.invokevirtual 114, 3) := by decide +kernel
theorem d_MD_heard_9 : decode b_MD_heard 9 = .ok (.ifCond .ne 5, 3) := by decide +kernel
theorem d_MD_heard_12 : decode b_MD_heard 12 = .ok (.iconst 0, 1) := by decide +kernel
theorem d_MD_heard_13 : decode b_MD_heard 13 = .ok (.ireturn, 1) := by decide +kernel
theorem d_MD_heard_14 : decode b_MD_heard 14 = .ok (.iconst 0, 1) := by decide +kernel
theorem d_MD_heard_15 : decode b_MD_heard 15 = .ok (.istore_n 2, 1) := by decide +kernel
theorem d_MD_heard_16 : decode b_MD_heard 16 = .ok (.iconst 0, 1) := by decide +kernel
theorem d_MD_heard_17 : decode b_MD_heard 17 = .ok (.istore_n 3, 1) := by decide +kernel
theorem d_MD_heard_18 : decode b_MD_heard 18 = .ok (.iload_n 3, 1) := by decide +kernel
theorem d_MD_heard_19 : decode b_MD_heard 19 = .ok (.aload_n 0, 1) := by decide +kernel
theorem d_MD_heard_20 : decode b_MD_heard 20 = .ok (.getfield 26, 3) := by decide +kernel
theorem d_MD_heard_23 : decode b_MD_heard 23 = .ok (.iload_n 1, 1) := by decide +kernel
theorem d_MD_heard_24 : decode b_MD_heard 24 = .ok (.iaload, 1) := by decide +kernel
theorem d_MD_heard_25 : decode b_MD_heard 25 = .ok (.if_icmp .ge 35, 3) := by decide +kernel
theorem d_MD_heard_28 : decode b_MD_heard 28 = .ok (.iload_n 2, 1) := by decide +kernel
theorem d_MD_heard_29 : decode b_MD_heard 29 = .ok (.aload_n 0, 1) := by decide +kernel
theorem d_MD_heard_30 : decode b_MD_heard 30 = .ok (.aload_n 0, 1) := by decide +kernel
theorem d_MD_heard_31 : decode b_MD_heard 31 = .ok (.getfield 29, 3) := by decide +kernel
theorem d_MD_heard_34 : decode b_MD_heard 34 = .ok (.bipush 40, 2) := by decide +kernel
theorem d_MD_heard_36 : decode b_MD_heard 36 = .ok (.iload_n 1, 1) := by decide +kernel
theorem d_MD_heard_37 : decode b_MD_heard 37 = .ok (.imul, 1) := by decide +kernel
theorem d_MD_heard_38 : decode b_MD_heard 38 = .ok (.iload_n 3, 1) := by decide +kernel
theorem d_MD_heard_39 : decode b_MD_heard 39 = .ok (.iadd, 1) := by decide +kernel
theorem d_MD_heard_40 : decode b_MD_heard 40 = .ok (.iaload, 1) := by decide +kernel
theorem d_MD_heard_41 : decode b_MD_heard 41 = .ok (.invokevirtual 233, 3) := by decide +kernel
theorem d_MD_heard_44 : decode b_MD_heard 44 = .ok (.ifCond .eq 7, 3) := by decide +kernel
theorem d_MD_heard_47 : decode b_MD_heard 47 = .ok (.iconst 1, 1) := by decide +kernel
theorem d_MD_heard_48 : decode b_MD_heard 48 = .ok (.goto 4, 3) := by decide +kernel
theorem d_MD_heard_51 : decode b_MD_heard 51 = .ok (.iconst 0, 1) := by decide +kernel
theorem d_MD_heard_52 : decode b_MD_heard 52 = .ok (.iadd, 1) := by decide +kernel
theorem d_MD_heard_53 : decode b_MD_heard 53 = .ok (.istore_n 2, 1) := by decide +kernel
theorem d_MD_heard_54 : decode b_MD_heard 54 = .ok (.iinc 3 1, 3) := by decide +kernel
theorem d_MD_heard_57 : decode b_MD_heard 57 = .ok (.goto (-39), 3) := by decide +kernel
theorem d_MD_heard_60 : decode b_MD_heard 60 = .ok (.iload_n 2, 1) := by decide +kernel
theorem d_MD_heard_61 : decode b_MD_heard 61 = .ok (.ireturn, 1) := by decide +kernel
def m_MD_heard_B18 {R : Type} (F : Nat) (a1 : Int32) (z0_6 : St) (k18_60 : Int32 → Int32 → Option R) (rec18 : Int32 → Int32 → Option R) (v2_18 : Int32) (v3_18 : Int32) : Option R :=
  (ck a1 8 (if ((z0_6 8) a1.toNatClampNeg) ≤ v3_18 then (k18_60 v2_18 v3_18) else (ck (((40 : Int32) * a1) + v3_18) 320 (bn1 (m_MD_isHeard F z0_6 ((z0_6 9) (((40 : Int32) * a1) + v3_18).toNatClampNeg)) (fun r41 => (if r41 = (0 : Int32) then (rec18 (v2_18 + (0 : Int32)) (v3_18 + (1 : Int32))) else (rec18 (v2_18 + (1 : Int32)) (v3_18 + (1 : Int32)))))))))
theorem m_MD_heard_B18_h {R : Type} {F : Nat} {a1 : Int32} {z0_6 : St} {k18_60 : Int32 → Int32 → Option R} {rec18 : Int32 → Int32 → Option R} {v2_18 : Int32} {v3_18 : Int32} {o : R} (h : m_MD_heard_B18 F a1 z0_6 k18_60 rec18 v2_18 v3_18 = some o) :
  (ck a1 8 (if ((z0_6 8) a1.toNatClampNeg) ≤ v3_18 then (k18_60 v2_18 v3_18) else (ck (((40 : Int32) * a1) + v3_18) 320 (bn1 (m_MD_isHeard F z0_6 ((z0_6 9) (((40 : Int32) * a1) + v3_18).toNatClampNeg)) (fun r41 => (if r41 = (0 : Int32) then (rec18 (v2_18 + (0 : Int32)) (v3_18 + (1 : Int32))) else (rec18 (v2_18 + (1 : Int32)) (v3_18 + (1 : Int32))))))))) = some o := h
def m_MD_heard (F : Nat) (x0 : St) (a1 : Int32) : Option (Int32 × St) :=
  (bn1 (m_MD_isLoop F a1) (fun r2 => (bn2 (m_MD_goes F x0 r2 (1 : Int32)) (fun r6 z0_6 => (if r6 = (0 : Int32) then (some ((0 : Int32), z0_6)) else (lq2 (m_MD_heard_B18 F a1 z0_6 (fun v2_18 v3_18 => (some (v2_18, z0_6)))) F (0 : Int32) (0 : Int32)))))))
abbrev rm_MD_heard : Room := { frames := 1, cells := 0, slots := 0, locals := 25 }
set_option maxHeartbeats 4000000 in
set_option maxRecDepth 100000 in
theorem c_MD_heard {G : (Nat → Prop) → State → Prop} (hG : gok G) (hGn : gN G) (l : Launch) (dC : Nat → ClassId) (dI : Nat → Nat → Nat) (g : Nat → ClassId) (F : Nat) (sz : Nat) (h0 : Nat) (q0 : Nat → Nat) (x0 : St) (a1 : Int32) {o : Int32 × St} (hm : m_MD_heard F x0 a1 = some o) : Met l y_MD_heard (.code y_MD_heard b_MD_heard 4 (some .int) :: gw) rm_MD_heard (kq (dC, dI) vwCl (tyv g) G [.ref h0, .int a1] sz (wd_MD g h0 q0 x0)) (kqi (dC, dI) vwCl (tyv g) (wd_MD g h0 q0 x0) o.1 (wd_MD g h0 q0 (o.2)) sz) 0 0 (va_A (wd_MD g h0 q0 x0) sz) := by
  unfold m_MD_heard at hm
  refine km (Qc := fun sz => kqi (dC, dI) vwCl (tyv g) (wd_MD g h0 q0 x0) o.1 (wd_MD g h0 q0 (o.2)) sz) (cc := b_MD_heard) (maxL := 4) (ret := some .int) (by decide) rfl (Nat.le_of_ble_eq_true rfl) ?_
  intro p e s m args below meth c Q hQ hx hb hr hts hown hlocks hml hnm H locs A hAe hA hP hK hD hS hGA ls hl
  have hl : lv_has ls 4 [(0, .ref h0), (1, .int a1)] := hl
  have hts : ∀ w ∈ gw, w.before args s = true := fun w h => hts w (List.mem_cons_of_mem _ h)
  have hown : s.vm.findClass "AlarmMatrixModel" = some m.cls := hown
  refine lv_aload_n hx hb d_MD_heard_0 rfl (lv_at hl 0 rfl) ?_
  refine lv_iload_n hx hb d_MD_heard_1 rfl (lv_at hl 1 rfl) ?_
  obtain ⟨r2, hcl, hm⟩ := bn1_s hm
  refine kci (wc := ([] : va_W)) (wr := wd_MD g h0 q0 x0) (w1 := ([] : va_W)) hP hD hS hA [] [0, 1, 2, 3, 4, 5, 6, 7, 8, 9, 10, 11, 12, 13, 14, 15, 16, 17, 18, 19, 20, 21, 22, 23, 24, 25, 26, 27, 28, 29, 30, 31] rfl rfl (by decide) (by decide) (va_runS (As := [.int a1]) (rest := [.ref h0]) ⟨hx, hb, hml, hown, hts⟩ (c_MD_isLoop hG hGn l dC dI g F H.size a1 hcl) (cwS 1 hts (gdS k6_58 k6_59 k1_10 k6_60) rfl rfl rfl (by decide +kernel) ⟨Nat.le_of_ble_eq_true rfl, Nat.le_of_ble_eq_true rfl⟩) (kpS hG hP hK hD hS hA hGA [] (by decide) rfl) rfl rfl hl.1 rfl (lv_room (Nat.le_of_ble_eq_true rfl)) d_MD_heard_2 ⟨Nat.le_of_ble_eq_true rfl, Nat.le_of_ble_eq_true rfl⟩) (fun H locs hP hD hS => ?_)
  have hP : va_P (dC, dI) vwCl (wd_MD g h0 q0 x0) H := hP
  have hD : va_D A (wd_MD g h0 q0 x0) := hD
  refine lv_iconst (v := (1 : Int32)) hx hb d_MD_heard_5 (by decide) ?_
  obtain ⟨r6, z0_6, hcl, hm⟩ := bn2_s hm
  refine kci (wc := wd_MD g h0 q0 x0) (wr := ([] : va_W)) (w1 := wd_MD g h0 q0 z0_6) hP hD hS hA [0, 1, 2, 3, 4, 5, 6, 7, 8, 9, 10, 11, 12, 13, 14, 15, 16, 17, 18, 19, 20, 21, 22, 23, 24, 25, 26, 27, 28, 29, 30, 31] [] rfl rfl (by decide) (by decide) (va_runV (As := [.int r2, .int (1 : Int32)]) (rest := []) ⟨hx, hb, hml, hown, hts⟩ (c_MD_goes hG hGn l dC dI g F H.size h0 q0 x0 r2 (1 : Int32) hcl) (cwV 2 hts (gdV k5_155 k5_157 kp_20 k1_10 k5_158) rfl rfl rfl (by decide +kernel) ⟨Nat.le_of_ble_eq_true rfl, Nat.le_of_ble_eq_true rfl⟩) (kpV hG hP hK hD hS hA hGA [0, 1, 2, 3, 4, 5, 6, 7, 8, 9, 10, 11, 12, 13, 14, 15, 16, 17, 18, 19, 20, 21, 22, 23, 24, 25, 26, 27, 28, 29, 30, 31] (by decide) rfl (ci := 10) (q0 := 0) rfl rfl rfl) rfl rfl hl.1 rfl (lv_room (Nat.le_of_ble_eq_true rfl)) d_MD_heard_6 ⟨Nat.le_of_ble_eq_true rfl, Nat.le_of_ble_eq_true rfl⟩) (fun H locs hP hD hS => ?_)
  have hP : va_P (dC, dI) vwCl (wd_MD g h0 q0 z0_6) H := hP
  have hD : va_D A (wd_MD g h0 q0 z0_6) := hD
  refine lv_if_ne (tgt := 14) hx hb d_MD_heard_9 (by decide) (fun hc => ?_) (fun hc => ?_)
  · replace hm := if_f hm hc
    refine lv_iconst (v := (0 : Int32)) hx hb d_MD_heard_14 (by decide) ?_
    refine lv_istore_n (lv' := [(2, .int (0 : Int32)), (0, .ref h0), (1, .int a1)]) hx hb d_MD_heard_15 rfl hl (by decide) rfl (fun ls hl => ?_)
    refine lv_iconst (v := (0 : Int32)) hx hb d_MD_heard_16 (by decide) ?_
    refine lv_istore_n (lv' := [(3, .int (0 : Int32)), (2, .int (0 : Int32)), (0, .ref h0), (1, .int a1)]) hx hb d_MD_heard_17 rfl hl (by decide) rfl (fun ls hl => ?_)
    have L18 : ∀ (n18 : Nat) (v2_18 : Int32) (v3_18 : Int32) (H : Heap) (locs : List Loc) (ls : Array Slot), lq2 (m_MD_heard_B18 F a1 z0_6 (fun v2_18 v3_18 => (some (v2_18, z0_6)))) n18 v2_18 v3_18 = some o → va_P (dC, dI) vwCl (wd_MD g h0 q0 z0_6) H → va_D A (wd_MD g h0 q0 z0_6) → va_S A s.heap H locs → lv_has ls 4 [(0, .ref h0), (1, .int a1), (2, .int v2_18), (3, .int v3_18)] → W p l e rm_MD_heard s m args below meth c H locs 0 0 Q (F0 m 18 ls []) := by
      intro n18
      induction n18 with
      | zero => intro v2_18 v3_18 H locs ls hm; exact absurd hm (by intro z; cases z)
      | succ n18 ih18 =>
        intro v2_18 v3_18 H locs ls hm hP hD hS hl
        replace hm := m_MD_heard_B18_h (lq2_h hm)
        refine lv_iload_n hx hb d_MD_heard_18 rfl (lv_at hl 3 rfl) ?_
        refine lv_aload_n hx hb d_MD_heard_19 rfl (lv_at hl 0 rfl) ?_
        refine va_get (D := (dC, dI)) (ci := 10) (v := .ref (q0 8)) (C := "AlarmMatrixModel") (T := T_MD) (N := 42) hx hb hts i_MD hown hK hP 0 rfl rfl 8 (by decide) (hts _ k5_28) (fun _ h9 => h9) rfl d_MD_heard_20 ?_
        refine lv_iload_n hx hb d_MD_heard_23 rfl (lv_at hl 1 rfl) ?_
        obtain ⟨h_24, hm⟩ := ck_s hm
        refine va_iald (f := (z0_6 8)) hx hb hK hP 6 0 rfl rfl h_24 d_MD_heard_24 ?_
        refine lv_icmp_ge (tgt := 60) hx hb d_MD_heard_25 (by decide) (fun hc => ?_) (fun hc => ?_)
        · replace hm := if_t hm hc
          refine lv_iload_n hx hb d_MD_heard_60 rfl (lv_at hl 2 rfl) ?_
          obtain rfl := Option.some.inj hm
          rw [hQ]
          exact kri hx hb hr hlocks hAe hP hK hD hS d_MD_heard_61
        · replace hm := if_f hm hc
          refine lv_iload_n hx hb d_MD_heard_28 rfl (lv_at hl 2 rfl) ?_
          refine lv_aload_n hx hb d_MD_heard_29 rfl (lv_at hl 0 rfl) ?_
          refine lv_aload_n hx hb d_MD_heard_30 rfl (lv_at hl 0 rfl) ?_
          refine va_get (D := (dC, dI)) (ci := 10) (v := .ref (q0 9)) (C := "AlarmMatrixModel") (T := T_MD) (N := 42) hx hb hts i_MD hown hK hP 0 rfl rfl 9 (by decide) (hts _ k5_29) (fun _ h9 => h9) rfl d_MD_heard_31 ?_
          refine lv_bipush (v := (40 : Int32)) hx hb d_MD_heard_34 (by decide) ?_
          refine lv_iload_n hx hb d_MD_heard_36 rfl (lv_at hl 1 rfl) ?_
          refine lv_imul hx hb d_MD_heard_37 ?_
          refine lv_iload_n hx hb d_MD_heard_38 rfl (lv_at hl 3 rfl) ?_
          refine lv_iadd hx hb d_MD_heard_39 ?_
          obtain ⟨h_40, hm⟩ := ck_s hm
          refine va_iald (f := (z0_6 9)) hx hb hK hP 7 0 rfl rfl h_40 d_MD_heard_40 ?_
          obtain ⟨r41, hcl, hm⟩ := bn1_s hm
          refine kci (wc := wd_MD g h0 q0 z0_6) (wr := ([] : va_W)) (w1 := wd_MD g h0 q0 z0_6) hP hD hS hA [0, 1, 2, 3, 4, 5, 6, 7, 8, 9, 10, 11, 12, 13, 14, 15, 16, 17, 18, 19, 20, 21, 22, 23, 24, 25, 26, 27, 28, 29, 30, 31] [] rfl rfl (by decide) (by decide) (va_runV (As := [.int ((z0_6 9) (((40 : Int32) * a1) + v3_18).toNatClampNeg)]) (rest := [.int v2_18]) ⟨hx, hb, hml, hown, hts⟩ (c_MD_isHeard hG hGn l dC dI g F H.size h0 q0 z0_6 ((z0_6 9) (((40 : Int32) * a1) + v3_18).toNatClampNeg) hcl) (cwV 1 hts (gdV k6_69 k6_71 kp_45 k1_10 k6_72) rfl rfl rfl (by decide +kernel) ⟨Nat.le_of_ble_eq_true rfl, Nat.le_of_ble_eq_true rfl⟩) (kpV hG hP hK hD hS hA hGA [0, 1, 2, 3, 4, 5, 6, 7, 8, 9, 10, 11, 12, 13, 14, 15, 16, 17, 18, 19, 20, 21, 22, 23, 24, 25, 26, 27, 28, 29, 30, 31] (by decide) rfl (ci := 10) (q0 := 0) rfl rfl rfl) rfl rfl hl.1 rfl (lv_room (Nat.le_of_ble_eq_true rfl)) d_MD_heard_41 ⟨Nat.le_of_ble_eq_true rfl, Nat.le_of_ble_eq_true rfl⟩) (fun H locs hP hD hS => ?_)
          have hP : va_P (dC, dI) vwCl (wd_MD g h0 q0 z0_6) H := hP
          have hD : va_D A (wd_MD g h0 q0 z0_6) := hD
          refine lv_if_eq (tgt := 51) hx hb d_MD_heard_44 (by decide) (fun hc => ?_) (fun hc => ?_)
          · replace hm := if_t hm hc
            refine lv_iconst (v := (0 : Int32)) hx hb d_MD_heard_51 (by decide) ?_
            refine lv_iadd hx hb d_MD_heard_52 ?_
            refine lv_istore_n (lv' := [(2, .int (v2_18 + (0 : Int32))), (0, .ref h0), (1, .int a1), (3, .int v3_18)]) hx hb d_MD_heard_53 rfl hl (by decide) rfl (fun ls hl => ?_)
            refine lv_iinc (v := (v3_18 + (1 : Int32))) (lv' := [(3, .int (v3_18 + (1 : Int32))), (2, .int (v2_18 + (0 : Int32))), (0, .ref h0), (1, .int a1)]) hx hb d_MD_heard_54 hl (k := 3) rfl rfl (by decide) rfl (fun ls hl => ?_)
            refine lv_goto (tgt := 18) hx hb d_MD_heard_57 (by decide) ?_
            exact ih18 (v2_18 + (0 : Int32)) (v3_18 + (1 : Int32)) H locs ls hm hP hD hS (lv_sub hl [2, 3, 1, 0] rfl)
          · replace hm := if_f hm hc
            refine lv_iconst (v := (1 : Int32)) hx hb d_MD_heard_47 (by decide) ?_
            refine lv_goto (tgt := 52) hx hb d_MD_heard_48 (by decide) ?_
            refine lv_iadd hx hb d_MD_heard_52 ?_
            refine lv_istore_n (lv' := [(2, .int (v2_18 + (1 : Int32))), (0, .ref h0), (1, .int a1), (3, .int v3_18)]) hx hb d_MD_heard_53 rfl hl (by decide) rfl (fun ls hl => ?_)
            refine lv_iinc (v := (v3_18 + (1 : Int32))) (lv' := [(3, .int (v3_18 + (1 : Int32))), (2, .int (v2_18 + (1 : Int32))), (0, .ref h0), (1, .int a1)]) hx hb d_MD_heard_54 hl (k := 3) rfl rfl (by decide) rfl (fun ls hl => ?_)
            refine lv_goto (tgt := 18) hx hb d_MD_heard_57 (by decide) ?_
            exact ih18 (v2_18 + (1 : Int32)) (v3_18 + (1 : Int32)) H locs ls hm hP hD hS (lv_sub hl [2, 3, 1, 0] rfl)
    exact L18 F (0 : Int32) (0 : Int32) H locs ls hm hP hD hS (lv_sub hl [2, 3, 1, 0] rfl)
  · replace hm := if_t hm hc
    refine lv_iconst (v := (0 : Int32)) hx hb d_MD_heard_12 (by decide) ?_
    obtain rfl := Option.some.inj hm
    rw [hQ]
    exact kri hx hb hr hlocks hAe hP hK hD hS d_MD_heard_13
abbrev b_MD_unreachable : ByteArray := prog_12_method_41_code
abbrev y_MD_unreachable : MethodName := ⟨"AlarmMatrixModel", "unreachable", "(I)I"⟩
theorem d_MD_unreachable_0 : decode b_MD_unreachable 0 = .ok (.aload_n 0, 1) := by decide +kernel
theorem d_MD_unreachable_1 : decode b_MD_unreachable 1 = .ok (.iload_n 1, 1) := by decide +kernel
theorem d_MD_unreachable_2 : decode b_MD_unreachable 2 = .ok (.ifCond .lt 7, 3) := by decide +kernel
theorem d_MD_unreachable_5 : decode b_MD_unreachable 5 = .ok (.iconst 1, 1) := by decide +kernel
theorem d_MD_unreachable_6 : decode b_MD_unreachable 6 = .ok (.goto 4, 3) := by decide +kernel
theorem d_MD_unreachable_9 : decode b_MD_unreachable 9 = .ok (.iconst 0, 1) := by decide +kernel
theorem d_MD_unreachable_10 : decode b_MD_unreachable 10 = .ok (.iconst 1, 1) := by decide +kernel
theorem d_MD_unreachable_11 : decode b_MD_unreachable 11 = .ok (.invokevirtual 114, 3) := by decide +kernel
theorem d_MD_unreachable_14 : decode b_MD_unreachable 14 = .ok (.ifCond .ne 5, 3) := by decide +kernel
theorem d_MD_unreachable_17 : decode b_MD_unreachable 17 = .ok (.iconst 0, 1) := by decide +kernel
theorem d_MD_unreachable_18 : decode b_MD_unreachable 18 = .ok (.ireturn, 1) := by decide +kernel
theorem d_MD_unreachable_19 : decode b_MD_unreachable 19 = .ok (.iconst 0, 1) := by decide +kernel
theorem d_MD_unreachable_20 : decode b_MD_unreachable 20 = .ok (.istore_n 2, 1) := by decide +kernel
theorem d_MD_unreachable_21 : decode b_MD_unreachable 21 = .ok (.iconst 0, 1) := by decide +kernel
theorem d_MD_unreachable_22 : decode b_MD_unreachable 22 = .ok (.istore_n 3, 1) := by decide +kernel
theorem d_MD_unreachable_23 : decode b_MD_unreachable 23 = .ok (.iload_n 3, 1) := by decide +kernel
theorem d_MD_unreachable_24 : decode b_MD_unreachable 24 = .ok (.aload_n 0, 1) := by decide +kernel
theorem d_MD_unreachable_25 : decode b_MD_unreachable 25 = .ok (.getfield 104, 3) := by decide +kernel
theorem d_MD_unreachable_28 : decode b_MD_unreachable 28 = .ok (.if_icmp .ge 27, 3) := by decide +kernel
theorem d_MD_unreachable_31 : decode b_MD_unreachable 31 = .ok (.aload_n 0, 1) := by decide +kernel
theorem d_MD_unreachable_32 : decode b_MD_unreachable 32 = .ok (.iload_n 3, 1) := by decide +kernel
theorem d_MD_unreachable_33 : decode b_MD_unreachable 33 = .ok (.invokevirtual 233, 3) := by decide +kernel
theorem d_MD_unreachable_36 : decode b_MD_unreachable 36 = .ok (.ifCond .ne 13, 3) := by decide +kernel
theorem d_MD_unreachable_39 : decode b_MD_unreachable 39 = .ok (.iload_n 2, 1) := by decide +kernel
theorem d_MD_unreachable_40 : decode b_MD_unreachable 40 = .ok (.iload_n 1, 1) := by decide +kernel
theorem d_MD_unreachable_41 : decode b_MD_unreachable 41 = .ok (.if_icmp .ne 5, 3) := by decide +kernel
theorem d_MD_unreachable_44 : decode b_MD_unreachable 44 = .ok (.iload_n 3, 1) := by decide +kernel
theorem d_MD_unreachable_45 : decode b_MD_unreachable 45 = .ok (.ireturn, 1) := by decide +kernel
theorem d_MD_unreachable_46 : decode b_MD_unreachable 46 = .ok (.iinc 2 1, 3) := by decide +kernel
theorem d_MD_unreachable_49 : decode b_MD_unreachable 49 = .ok (.iinc 3 1, 3) := by decide +kernel
theorem d_MD_unreachable_52 : decode b_MD_unreachable 52 = .ok (.goto (-29), 3) := by decide +kernel
theorem d_MD_unreachable_55 : decode b_MD_unreachable 55 = .ok (.iconst (-1), 1) := by decide +kernel
theorem d_MD_unreachable_56 : decode b_MD_unreachable 56 = .ok (.ireturn, 1) := by decide +kernel
def m_MD_unreachable_B23 {R : Type} (F : Nat) (z0_11 : St) (a1 : Int32) (k23_44 : Int32 → Int32 → Option R) (k23_55 : Int32 → Int32 → Option R) (rec23 : Int32 → Int32 → Option R) (v2_23 : Int32) (v3_23 : Int32) : Option R :=
  (if (z0_11 1 0) ≤ v3_23 then (k23_55 v2_23 v3_23) else (bn1 (m_MD_isHeard F z0_11 v3_23) (fun r33 => (if r33 = (0 : Int32) then (if v2_23 = a1 then (k23_44 v2_23 v3_23) else (rec23 (v2_23 + (1 : Int32)) (v3_23 + (1 : Int32)))) else (rec23 v2_23 (v3_23 + (1 : Int32)))))))
theorem m_MD_unreachable_B23_h {R : Type} {F : Nat} {z0_11 : St} {a1 : Int32} {k23_44 : Int32 → Int32 → Option R} {k23_55 : Int32 → Int32 → Option R} {rec23 : Int32 → Int32 → Option R} {v2_23 : Int32} {v3_23 : Int32} {o : R} (h : m_MD_unreachable_B23 F z0_11 a1 k23_44 k23_55 rec23 v2_23 v3_23 = some o) :
  (if (z0_11 1 0) ≤ v3_23 then (k23_55 v2_23 v3_23) else (bn1 (m_MD_isHeard F z0_11 v3_23) (fun r33 => (if r33 = (0 : Int32) then (if v2_23 = a1 then (k23_44 v2_23 v3_23) else (rec23 (v2_23 + (1 : Int32)) (v3_23 + (1 : Int32)))) else (rec23 v2_23 (v3_23 + (1 : Int32))))))) = some o := h
def m_MD_unreachable (F : Nat) (x0 : St) (a1 : Int32) : Option (Int32 × St) :=
  (if a1 < (0 : Int32) then (bn2 (m_MD_goes F x0 (0 : Int32) (1 : Int32)) (fun r11 z0_11 => (if r11 = (0 : Int32) then (some ((0 : Int32), z0_11)) else (lq2 (m_MD_unreachable_B23 F z0_11 a1 (fun v2_23 v3_23 => (some (v3_23, z0_11))) (fun v2_23 v3_23 => (some ((-1 : Int32), z0_11)))) F (0 : Int32) (0 : Int32))))) else (bn2 (m_MD_goes F x0 (1 : Int32) (1 : Int32)) (fun r11 z0_11 => (if r11 = (0 : Int32) then (some ((0 : Int32), z0_11)) else (lq2 (m_MD_unreachable_B23 F z0_11 a1 (fun v2_23 v3_23 => (some (v3_23, z0_11))) (fun v2_23 v3_23 => (some ((-1 : Int32), z0_11)))) F (0 : Int32) (0 : Int32))))))
abbrev rm_MD_unreachable : Room := { frames := 1, cells := 0, slots := 0, locals := 25 }
set_option maxHeartbeats 4000000 in
set_option maxRecDepth 100000 in
theorem c_MD_unreachable {G : (Nat → Prop) → State → Prop} (hG : gok G) (hGn : gN G) (l : Launch) (dC : Nat → ClassId) (dI : Nat → Nat → Nat) (g : Nat → ClassId) (F : Nat) (sz : Nat) (h0 : Nat) (q0 : Nat → Nat) (x0 : St) (a1 : Int32) {o : Int32 × St} (hm : m_MD_unreachable F x0 a1 = some o) : Met l y_MD_unreachable (.code y_MD_unreachable b_MD_unreachable 4 (some .int) :: gw) rm_MD_unreachable (kq (dC, dI) vwCl (tyv g) G [.ref h0, .int a1] sz (wd_MD g h0 q0 x0)) (kqi (dC, dI) vwCl (tyv g) (wd_MD g h0 q0 x0) o.1 (wd_MD g h0 q0 (o.2)) sz) 0 0 (va_A (wd_MD g h0 q0 x0) sz) := by
  unfold m_MD_unreachable at hm
  refine km (Qc := fun sz => kqi (dC, dI) vwCl (tyv g) (wd_MD g h0 q0 x0) o.1 (wd_MD g h0 q0 (o.2)) sz) (cc := b_MD_unreachable) (maxL := 4) (ret := some .int) (by decide) rfl (Nat.le_of_ble_eq_true rfl) ?_
  intro p e s m args below meth c Q hQ hx hb hr hts hown hlocks hml hnm H locs A hAe hA hP hK hD hS hGA ls hl
  have hl : lv_has ls 4 [(0, .ref h0), (1, .int a1)] := hl
  have hts : ∀ w ∈ gw, w.before args s = true := fun w h => hts w (List.mem_cons_of_mem _ h)
  have hown : s.vm.findClass "AlarmMatrixModel" = some m.cls := hown
  refine lv_aload_n hx hb d_MD_unreachable_0 rfl (lv_at hl 0 rfl) ?_
  refine lv_iload_n hx hb d_MD_unreachable_1 rfl (lv_at hl 1 rfl) ?_
  refine lv_if_lt (tgt := 9) hx hb d_MD_unreachable_2 (by decide) (fun hc => ?_) (fun hc => ?_)
  · replace hm := if_t hm hc
    refine lv_iconst (v := (0 : Int32)) hx hb d_MD_unreachable_9 (by decide) ?_
    refine lv_iconst (v := (1 : Int32)) hx hb d_MD_unreachable_10 (by decide) ?_
    obtain ⟨r11, z0_11, hcl, hm⟩ := bn2_s hm
    refine kci (wc := wd_MD g h0 q0 x0) (wr := ([] : va_W)) (w1 := wd_MD g h0 q0 z0_11) hP hD hS hA [0, 1, 2, 3, 4, 5, 6, 7, 8, 9, 10, 11, 12, 13, 14, 15, 16, 17, 18, 19, 20, 21, 22, 23, 24, 25, 26, 27, 28, 29, 30, 31] [] rfl rfl (by decide) (by decide) (va_runV (As := [.int (0 : Int32), .int (1 : Int32)]) (rest := []) ⟨hx, hb, hml, hown, hts⟩ (c_MD_goes hG hGn l dC dI g F H.size h0 q0 x0 (0 : Int32) (1 : Int32) hcl) (cwV 2 hts (gdV k5_155 k5_157 kp_20 k1_10 k5_158) rfl rfl rfl (by decide +kernel) ⟨Nat.le_of_ble_eq_true rfl, Nat.le_of_ble_eq_true rfl⟩) (kpV hG hP hK hD hS hA hGA [0, 1, 2, 3, 4, 5, 6, 7, 8, 9, 10, 11, 12, 13, 14, 15, 16, 17, 18, 19, 20, 21, 22, 23, 24, 25, 26, 27, 28, 29, 30, 31] (by decide) rfl (ci := 10) (q0 := 0) rfl rfl rfl) rfl rfl hl.1 rfl (lv_room (Nat.le_of_ble_eq_true rfl)) d_MD_unreachable_11 ⟨Nat.le_of_ble_eq_true rfl, Nat.le_of_ble_eq_true rfl⟩) (fun H locs hP hD hS => ?_)
    have hP : va_P (dC, dI) vwCl (wd_MD g h0 q0 z0_11) H := hP
    have hD : va_D A (wd_MD g h0 q0 z0_11) := hD
    refine lv_if_ne (tgt := 19) hx hb d_MD_unreachable_14 (by decide) (fun hc => ?_) (fun hc => ?_)
    · replace hm := if_f hm hc
      refine lv_iconst (v := (0 : Int32)) hx hb d_MD_unreachable_19 (by decide) ?_
      refine lv_istore_n (lv' := [(2, .int (0 : Int32)), (0, .ref h0), (1, .int a1)]) hx hb d_MD_unreachable_20 rfl hl (by decide) rfl (fun ls hl => ?_)
      refine lv_iconst (v := (0 : Int32)) hx hb d_MD_unreachable_21 (by decide) ?_
      refine lv_istore_n (lv' := [(3, .int (0 : Int32)), (2, .int (0 : Int32)), (0, .ref h0), (1, .int a1)]) hx hb d_MD_unreachable_22 rfl hl (by decide) rfl (fun ls hl => ?_)
      have L23 : ∀ (n23 : Nat) (v2_23 : Int32) (v3_23 : Int32) (H : Heap) (locs : List Loc) (ls : Array Slot), lq2 (m_MD_unreachable_B23 F z0_11 a1 (fun v2_23 v3_23 => (some (v3_23, z0_11))) (fun v2_23 v3_23 => (some ((-1 : Int32), z0_11)))) n23 v2_23 v3_23 = some o → va_P (dC, dI) vwCl (wd_MD g h0 q0 z0_11) H → va_D A (wd_MD g h0 q0 z0_11) → va_S A s.heap H locs → lv_has ls 4 [(0, .ref h0), (1, .int a1), (2, .int v2_23), (3, .int v3_23)] → W p l e rm_MD_unreachable s m args below meth c H locs 0 0 Q (F0 m 23 ls []) := by
        intro n23
        induction n23 with
        | zero => intro v2_23 v3_23 H locs ls hm; exact absurd hm (by intro z; cases z)
        | succ n23 ih23 =>
          intro v2_23 v3_23 H locs ls hm hP hD hS hl
          replace hm := m_MD_unreachable_B23_h (lq2_h hm)
          refine lv_iload_n hx hb d_MD_unreachable_23 rfl (lv_at hl 3 rfl) ?_
          refine lv_aload_n hx hb d_MD_unreachable_24 rfl (lv_at hl 0 rfl) ?_
          refine va_get (D := (dC, dI)) (ci := 10) (v := .int (z0_11 1 0)) (C := "AlarmMatrixModel") (T := T_MD) (N := 42) hx hb hts i_MD hown hK hP 0 rfl rfl 1 (by decide) (hts _ k5_21) (fun _ h9 => h9) rfl d_MD_unreachable_25 ?_
          refine lv_icmp_ge (tgt := 55) hx hb d_MD_unreachable_28 (by decide) (fun hc => ?_) (fun hc => ?_)
          · replace hm := if_t hm hc
            refine lv_iconst (v := (-1 : Int32)) hx hb d_MD_unreachable_55 (by decide) ?_
            obtain rfl := Option.some.inj hm
            rw [hQ]
            exact kri hx hb hr hlocks hAe hP hK hD hS d_MD_unreachable_56
          · replace hm := if_f hm hc
            refine lv_aload_n hx hb d_MD_unreachable_31 rfl (lv_at hl 0 rfl) ?_
            refine lv_iload_n hx hb d_MD_unreachable_32 rfl (lv_at hl 3 rfl) ?_
            obtain ⟨r33, hcl, hm⟩ := bn1_s hm
            refine kci (wc := wd_MD g h0 q0 z0_11) (wr := ([] : va_W)) (w1 := wd_MD g h0 q0 z0_11) hP hD hS hA [0, 1, 2, 3, 4, 5, 6, 7, 8, 9, 10, 11, 12, 13, 14, 15, 16, 17, 18, 19, 20, 21, 22, 23, 24, 25, 26, 27, 28, 29, 30, 31] [] rfl rfl (by decide) (by decide) (va_runV (As := [.int v3_23]) (rest := []) ⟨hx, hb, hml, hown, hts⟩ (c_MD_isHeard hG hGn l dC dI g F H.size h0 q0 z0_11 v3_23 hcl) (cwV 1 hts (gdV k6_69 k6_71 kp_45 k1_10 k6_72) rfl rfl rfl (by decide +kernel) ⟨Nat.le_of_ble_eq_true rfl, Nat.le_of_ble_eq_true rfl⟩) (kpV hG hP hK hD hS hA hGA [0, 1, 2, 3, 4, 5, 6, 7, 8, 9, 10, 11, 12, 13, 14, 15, 16, 17, 18, 19, 20, 21, 22, 23, 24, 25, 26, 27, 28, 29, 30, 31] (by decide) rfl (ci := 10) (q0 := 0) rfl rfl rfl) rfl rfl hl.1 rfl (lv_room (Nat.le_of_ble_eq_true rfl)) d_MD_unreachable_33 ⟨Nat.le_of_ble_eq_true rfl, Nat.le_of_ble_eq_true rfl⟩) (fun H locs hP hD hS => ?_)
            have hP : va_P (dC, dI) vwCl (wd_MD g h0 q0 z0_11) H := hP
            have hD : va_D A (wd_MD g h0 q0 z0_11) := hD
            refine lv_if_ne (tgt := 49) hx hb d_MD_unreachable_36 (by decide) (fun hc => ?_) (fun hc => ?_)
            · replace hm := if_f hm hc
              refine lv_iinc (v := (v3_23 + (1 : Int32))) (lv' := [(3, .int (v3_23 + (1 : Int32))), (0, .ref h0), (1, .int a1), (2, .int v2_23)]) hx hb d_MD_unreachable_49 hl (k := 3) rfl rfl (by decide) rfl (fun ls hl => ?_)
              refine lv_goto (tgt := 23) hx hb d_MD_unreachable_52 (by decide) ?_
              exact ih23 v2_23 (v3_23 + (1 : Int32)) H locs ls hm hP hD hS (lv_sub hl [1, 2, 3, 0] rfl)
            · replace hm := if_t hm hc
              refine lv_iload_n hx hb d_MD_unreachable_39 rfl (lv_at hl 2 rfl) ?_
              refine lv_iload_n hx hb d_MD_unreachable_40 rfl (lv_at hl 1 rfl) ?_
              refine lv_icmp_ne (tgt := 46) hx hb d_MD_unreachable_41 (by decide) (fun hc => ?_) (fun hc => ?_)
              · replace hm := if_f hm hc
                refine lv_iinc (v := (v2_23 + (1 : Int32))) (lv' := [(2, .int (v2_23 + (1 : Int32))), (0, .ref h0), (1, .int a1), (3, .int v3_23)]) hx hb d_MD_unreachable_46 hl (k := 2) rfl rfl (by decide) rfl (fun ls hl => ?_)
                refine lv_iinc (v := (v3_23 + (1 : Int32))) (lv' := [(3, .int (v3_23 + (1 : Int32))), (2, .int (v2_23 + (1 : Int32))), (0, .ref h0), (1, .int a1)]) hx hb d_MD_unreachable_49 hl (k := 3) rfl rfl (by decide) rfl (fun ls hl => ?_)
                refine lv_goto (tgt := 23) hx hb d_MD_unreachable_52 (by decide) ?_
                exact ih23 (v2_23 + (1 : Int32)) (v3_23 + (1 : Int32)) H locs ls hm hP hD hS (lv_sub hl [2, 3, 1, 0] rfl)
              · replace hm := if_t hm hc
                refine lv_iload_n hx hb d_MD_unreachable_44 rfl (lv_at hl 3 rfl) ?_
                obtain rfl := Option.some.inj hm
                rw [hQ]
                exact kri hx hb hr hlocks hAe hP hK hD hS d_MD_unreachable_45
      exact L23 F (0 : Int32) (0 : Int32) H locs ls hm hP hD hS (lv_sub hl [2, 3, 1, 0] rfl)
    · replace hm := if_t hm hc
      refine lv_iconst (v := (0 : Int32)) hx hb d_MD_unreachable_17 (by decide) ?_
      obtain rfl := Option.some.inj hm
      rw [hQ]
      exact kri hx hb hr hlocks hAe hP hK hD hS d_MD_unreachable_18
  · replace hm := if_f hm hc
    refine lv_iconst (v := (1 : Int32)) hx hb d_MD_unreachable_5 (by decide) ?_
    refine lv_goto (tgt := 10) hx hb d_MD_unreachable_6 (by decide) ?_
    refine lv_iconst (v := (1 : Int32)) hx hb d_MD_unreachable_10 (by decide) ?_
    obtain ⟨r11, z0_11, hcl, hm⟩ := bn2_s hm
    refine kci (wc := wd_MD g h0 q0 x0) (wr := ([] : va_W)) (w1 := wd_MD g h0 q0 z0_11) hP hD hS hA [0, 1, 2, 3, 4, 5, 6, 7, 8, 9, 10, 11, 12, 13, 14, 15, 16, 17, 18, 19, 20, 21, 22, 23, 24, 25, 26, 27, 28, 29, 30, 31] [] rfl rfl (by decide) (by decide) (va_runV (As := [.int (1 : Int32), .int (1 : Int32)]) (rest := []) ⟨hx, hb, hml, hown, hts⟩ (c_MD_goes hG hGn l dC dI g F H.size h0 q0 x0 (1 : Int32) (1 : Int32) hcl) (cwV 2 hts (gdV k5_155 k5_157 kp_20 k1_10 k5_158) rfl rfl rfl (by decide +kernel) ⟨Nat.le_of_ble_eq_true rfl, Nat.le_of_ble_eq_true rfl⟩) (kpV hG hP hK hD hS hA hGA [0, 1, 2, 3, 4, 5, 6, 7, 8, 9, 10, 11, 12, 13, 14, 15, 16, 17, 18, 19, 20, 21, 22, 23, 24, 25, 26, 27, 28, 29, 30, 31] (by decide) rfl (ci := 10) (q0 := 0) rfl rfl rfl) rfl rfl hl.1 rfl (lv_room (Nat.le_of_ble_eq_true rfl)) d_MD_unreachable_11 ⟨Nat.le_of_ble_eq_true rfl, Nat.le_of_ble_eq_true rfl⟩) (fun H locs hP hD hS => ?_)
    have hP : va_P (dC, dI) vwCl (wd_MD g h0 q0 z0_11) H := hP
    have hD : va_D A (wd_MD g h0 q0 z0_11) := hD
    refine lv_if_ne (tgt := 19) hx hb d_MD_unreachable_14 (by decide) (fun hc => ?_) (fun hc => ?_)
    · replace hm := if_f hm hc
      refine lv_iconst (v := (0 : Int32)) hx hb d_MD_unreachable_19 (by decide) ?_
      refine lv_istore_n (lv' := [(2, .int (0 : Int32)), (0, .ref h0), (1, .int a1)]) hx hb d_MD_unreachable_20 rfl hl (by decide) rfl (fun ls hl => ?_)
      refine lv_iconst (v := (0 : Int32)) hx hb d_MD_unreachable_21 (by decide) ?_
      refine lv_istore_n (lv' := [(3, .int (0 : Int32)), (2, .int (0 : Int32)), (0, .ref h0), (1, .int a1)]) hx hb d_MD_unreachable_22 rfl hl (by decide) rfl (fun ls hl => ?_)
      have L23 : ∀ (n23 : Nat) (v2_23 : Int32) (v3_23 : Int32) (H : Heap) (locs : List Loc) (ls : Array Slot), lq2 (m_MD_unreachable_B23 F z0_11 a1 (fun v2_23 v3_23 => (some (v3_23, z0_11))) (fun v2_23 v3_23 => (some ((-1 : Int32), z0_11)))) n23 v2_23 v3_23 = some o → va_P (dC, dI) vwCl (wd_MD g h0 q0 z0_11) H → va_D A (wd_MD g h0 q0 z0_11) → va_S A s.heap H locs → lv_has ls 4 [(0, .ref h0), (1, .int a1), (2, .int v2_23), (3, .int v3_23)] → W p l e rm_MD_unreachable s m args below meth c H locs 0 0 Q (F0 m 23 ls []) := by
        intro n23
        induction n23 with
        | zero => intro v2_23 v3_23 H locs ls hm; exact absurd hm (by intro z; cases z)
        | succ n23 ih23 =>
          intro v2_23 v3_23 H locs ls hm hP hD hS hl
          replace hm := m_MD_unreachable_B23_h (lq2_h hm)
          refine lv_iload_n hx hb d_MD_unreachable_23 rfl (lv_at hl 3 rfl) ?_
          refine lv_aload_n hx hb d_MD_unreachable_24 rfl (lv_at hl 0 rfl) ?_
          refine va_get (D := (dC, dI)) (ci := 10) (v := .int (z0_11 1 0)) (C := "AlarmMatrixModel") (T := T_MD) (N := 42) hx hb hts i_MD hown hK hP 0 rfl rfl 1 (by decide) (hts _ k5_21) (fun _ h9 => h9) rfl d_MD_unreachable_25 ?_
          refine lv_icmp_ge (tgt := 55) hx hb d_MD_unreachable_28 (by decide) (fun hc => ?_) (fun hc => ?_)
          · replace hm := if_t hm hc
            refine lv_iconst (v := (-1 : Int32)) hx hb d_MD_unreachable_55 (by decide) ?_
            obtain rfl := Option.some.inj hm
            rw [hQ]
            exact kri hx hb hr hlocks hAe hP hK hD hS d_MD_unreachable_56
          · replace hm := if_f hm hc
            refine lv_aload_n hx hb d_MD_unreachable_31 rfl (lv_at hl 0 rfl) ?_
            refine lv_iload_n hx hb d_MD_unreachable_32 rfl (lv_at hl 3 rfl) ?_
            obtain ⟨r33, hcl, hm⟩ := bn1_s hm
            refine kci (wc := wd_MD g h0 q0 z0_11) (wr := ([] : va_W)) (w1 := wd_MD g h0 q0 z0_11) hP hD hS hA [0, 1, 2, 3, 4, 5, 6, 7, 8, 9, 10, 11, 12, 13, 14, 15, 16, 17, 18, 19, 20, 21, 22, 23, 24, 25, 26, 27, 28, 29, 30, 31] [] rfl rfl (by decide) (by decide) (va_runV (As := [.int v3_23]) (rest := []) ⟨hx, hb, hml, hown, hts⟩ (c_MD_isHeard hG hGn l dC dI g F H.size h0 q0 z0_11 v3_23 hcl) (cwV 1 hts (gdV k6_69 k6_71 kp_45 k1_10 k6_72) rfl rfl rfl (by decide +kernel) ⟨Nat.le_of_ble_eq_true rfl, Nat.le_of_ble_eq_true rfl⟩) (kpV hG hP hK hD hS hA hGA [0, 1, 2, 3, 4, 5, 6, 7, 8, 9, 10, 11, 12, 13, 14, 15, 16, 17, 18, 19, 20, 21, 22, 23, 24, 25, 26, 27, 28, 29, 30, 31] (by decide) rfl (ci := 10) (q0 := 0) rfl rfl rfl) rfl rfl hl.1 rfl (lv_room (Nat.le_of_ble_eq_true rfl)) d_MD_unreachable_33 ⟨Nat.le_of_ble_eq_true rfl, Nat.le_of_ble_eq_true rfl⟩) (fun H locs hP hD hS => ?_)
            have hP : va_P (dC, dI) vwCl (wd_MD g h0 q0 z0_11) H := hP
            have hD : va_D A (wd_MD g h0 q0 z0_11) := hD
            refine lv_if_ne (tgt := 49) hx hb d_MD_unreachable_36 (by decide) (fun hc => ?_) (fun hc => ?_)
            · replace hm := if_f hm hc
              refine lv_iinc (v := (v3_23 + (1 : Int32))) (lv' := [(3, .int (v3_23 + (1 : Int32))), (0, .ref h0), (1, .int a1), (2, .int v2_23)]) hx hb d_MD_unreachable_49 hl (k := 3) rfl rfl (by decide) rfl (fun ls hl => ?_)
              refine lv_goto (tgt := 23) hx hb d_MD_unreachable_52 (by decide) ?_
              exact ih23 v2_23 (v3_23 + (1 : Int32)) H locs ls hm hP hD hS (lv_sub hl [1, 2, 3, 0] rfl)
            · replace hm := if_t hm hc
              refine lv_iload_n hx hb d_MD_unreachable_39 rfl (lv_at hl 2 rfl) ?_
              refine lv_iload_n hx hb d_MD_unreachable_40 rfl (lv_at hl 1 rfl) ?_
              refine lv_icmp_ne (tgt := 46) hx hb d_MD_unreachable_41 (by decide) (fun hc => ?_) (fun hc => ?_)
              · replace hm := if_f hm hc
                refine lv_iinc (v := (v2_23 + (1 : Int32))) (lv' := [(2, .int (v2_23 + (1 : Int32))), (0, .ref h0), (1, .int a1), (3, .int v3_23)]) hx hb d_MD_unreachable_46 hl (k := 2) rfl rfl (by decide) rfl (fun ls hl => ?_)
                refine lv_iinc (v := (v3_23 + (1 : Int32))) (lv' := [(3, .int (v3_23 + (1 : Int32))), (2, .int (v2_23 + (1 : Int32))), (0, .ref h0), (1, .int a1)]) hx hb d_MD_unreachable_49 hl (k := 3) rfl rfl (by decide) rfl (fun ls hl => ?_)
                refine lv_goto (tgt := 23) hx hb d_MD_unreachable_52 (by decide) ?_
                exact ih23 (v2_23 + (1 : Int32)) (v3_23 + (1 : Int32)) H locs ls hm hP hD hS (lv_sub hl [2, 3, 1, 0] rfl)
              · replace hm := if_t hm hc
                refine lv_iload_n hx hb d_MD_unreachable_44 rfl (lv_at hl 3 rfl) ?_
                obtain rfl := Option.some.inj hm
                rw [hQ]
                exact kri hx hb hr hlocks hAe hP hK hD hS d_MD_unreachable_45
      exact L23 F (0 : Int32) (0 : Int32) H locs ls hm hP hD hS (lv_sub hl [2, 3, 1, 0] rfl)
    · replace hm := if_t hm hc
      refine lv_iconst (v := (0 : Int32)) hx hb d_MD_unreachable_17 (by decide) ?_
      obtain rfl := Option.some.inj hm
      rw [hQ]
      exact kri hx hb hr hlocks hAe hP hK hD hS d_MD_unreachable_18
abbrev b_MD_counts : ByteArray := prog_12_method_42_code
abbrev y_MD_counts : MethodName := ⟨"AlarmMatrixModel", "counts", "(I)Z"⟩
theorem d_MD_counts_0 : decode b_MD_counts 0 = .ok (.aload_n 0, 1) := by decide +kernel
theorem d_MD_counts_1 : decode b_MD_counts 1 = .ok (.getfield 13, 3) := by decide +kernel
theorem d_MD_counts_4 : decode b_MD_counts 4 = .ok (.iload_n 1, 1) := by decide +kernel
theorem d_MD_counts_5 : decode b_MD_counts 5 = .ok (.baload, 1) := by decide +kernel
theorem d_MD_counts_6 : decode b_MD_counts 6 = .ok (.ifCond .ne 28, 3) := by decide +kernel
theorem d_MD_counts_9 : decode b_MD_counts 9 = .ok (.aload_n 0, 1) := by decide +kernel
theorem d_MD_counts_10 : decode b_MD_counts 10 = .ok (.iload_n 1, 1) := by decide +kernel
theorem d_MD_counts_11 : decode b_MD_counts 11 = .ok (.invokevirtual 233, 3) := by decide +kernel
theorem d_MD_counts_14 : decode b_MD_counts 14 = .ok (.ifCond .eq 20, 3) := by decide +kernel
theorem d_MD_counts_17 : decode b_MD_counts 17 = .ok (.aload_n 0, 1) := by decide +kernel
theorem d_MD_counts_18 : decode b_MD_counts 18 = .ok (.getfield 236, 3) := by decide +kernel
theorem d_MD_counts_21 : decode b_MD_counts 21 = .ok (.aload_n 0, 1) := by decide +kernel
theorem d_MD_counts_22 : decode b_MD_counts 22 = .ok (.getfield 17, 3) := by decide +kernel
theorem d_MD_counts_25 : decode b_MD_counts 25 = .ok (.iload_n 1, 1) := by decide +kernel
theorem d_MD_counts_26 : decode b_MD_counts 26 = .ok (.iaload, 1) := by decide +kernel
theorem d_MD_counts_27 : decode b_MD_counts 27 = .ok (.if_icmp .lt 7, 3) := by decide +kernel
theorem d_MD_counts_30 : decode b_MD_counts 30 = .ok (.iconst 1, 1) := by decide +kernel
theorem d_MD_counts_31 : decode b_MD_counts 31 = .ok (.goto 4, 3) := by decide +kernel
theorem d_MD_counts_34 : decode b_MD_counts 34 = .ok (.iconst 0, 1) := by decide +kernel
theorem d_MD_counts_35 : decode b_MD_counts 35 = .ok (.ireturn, 1) := by decide +kernel
def m_MD_counts (F : Nat) (x0 : St) (a1 : Int32) : Option (Int32) :=
  (ck a1 200 (if ((x0 4) a1.toNatClampNeg) = (0 : Int32) then (bn1 (m_MD_isHeard F x0 a1) (fun r11 => (if r11 = (0 : Int32) then (some (0 : Int32)) else (ck a1 200 (if (x0 2 0) < ((x0 5) a1.toNatClampNeg) then (some (0 : Int32)) else (some (1 : Int32))))))) else (some (0 : Int32))))
abbrev rm_MD_counts : Room := { frames := 1, cells := 0, slots := 0, locals := 25 }
set_option maxHeartbeats 4000000 in
set_option maxRecDepth 100000 in
theorem c_MD_counts {G : (Nat → Prop) → State → Prop} (hG : gok G) (hGn : gN G) (l : Launch) (dC : Nat → ClassId) (dI : Nat → Nat → Nat) (g : Nat → ClassId) (F : Nat) (sz : Nat) (h0 : Nat) (q0 : Nat → Nat) (x0 : St) (a1 : Int32) {o : Int32} (hm : m_MD_counts F x0 a1 = some o) : Met l y_MD_counts (.code y_MD_counts b_MD_counts 2 (some .boolean) :: gw) rm_MD_counts (kq (dC, dI) vwCl (tyv g) G [.ref h0, .int a1] sz (wd_MD g h0 q0 x0)) (kqi (dC, dI) vwCl (tyv g) (wd_MD g h0 q0 x0) o (wd_MD g h0 q0 x0) sz) 0 0 (va_A (wd_MD g h0 q0 x0) sz) := by
  unfold m_MD_counts at hm
  refine km (Qc := fun sz => kqi (dC, dI) vwCl (tyv g) (wd_MD g h0 q0 x0) o (wd_MD g h0 q0 x0) sz) (cc := b_MD_counts) (maxL := 2) (ret := some .boolean) (by decide) rfl (Nat.le_of_ble_eq_true rfl) ?_
  intro p e s m args below meth c Q hQ hx hb hr hts hown hlocks hml hnm H locs A hAe hA hP hK hD hS hGA ls hl
  have hl : lv_has ls 2 [(0, .ref h0), (1, .int a1)] := hl
  have hts : ∀ w ∈ gw, w.before args s = true := fun w h => hts w (List.mem_cons_of_mem _ h)
  have hown : s.vm.findClass "AlarmMatrixModel" = some m.cls := hown
  refine lv_aload_n hx hb d_MD_counts_0 rfl (lv_at hl 0 rfl) ?_
  refine va_get (D := (dC, dI)) (ci := 10) (v := .ref (q0 4)) (C := "AlarmMatrixModel") (T := T_MD) (N := 42) hx hb hts i_MD hown hK hP 0 rfl rfl 4 (by decide) (hts _ k5_24) (fun _ h9 => h9) rfl d_MD_counts_1 ?_
  refine lv_iload_n hx hb d_MD_counts_4 rfl (lv_at hl 1 rfl) ?_
  obtain ⟨h_5, hm⟩ := ck_s hm
  refine va_zald (f := (x0 4)) hx hb hK hP 2 1 rfl rfl h_5 d_MD_counts_5 ?_
  refine lv_if_ne (tgt := 34) hx hb d_MD_counts_6 (by decide) (fun hc => ?_) (fun hc => ?_)
  · replace hm := if_f hm hc
    refine lv_iconst (v := (0 : Int32)) hx hb d_MD_counts_34 (by decide) ?_
    obtain rfl := Option.some.inj hm
    rw [hQ]
    exact krz hx hb hr nar_0 hlocks hAe hP hK hD hS d_MD_counts_35
  · replace hm := if_t hm hc
    refine lv_aload_n hx hb d_MD_counts_9 rfl (lv_at hl 0 rfl) ?_
    refine lv_iload_n hx hb d_MD_counts_10 rfl (lv_at hl 1 rfl) ?_
    obtain ⟨r11, hcl, hm⟩ := bn1_s hm
    refine kci (wc := wd_MD g h0 q0 x0) (wr := ([] : va_W)) (w1 := wd_MD g h0 q0 x0) hP hD hS hA [0, 1, 2, 3, 4, 5, 6, 7, 8, 9, 10, 11, 12, 13, 14, 15, 16, 17, 18, 19, 20, 21, 22, 23, 24, 25, 26, 27, 28, 29, 30, 31] [] rfl rfl (by decide) (by decide) (va_runV (As := [.int a1]) (rest := []) ⟨hx, hb, hml, hown, hts⟩ (c_MD_isHeard hG hGn l dC dI g F H.size h0 q0 x0 a1 hcl) (cwV 1 hts (gdV k6_69 k6_71 kp_45 k1_10 k6_72) rfl rfl rfl (by decide +kernel) ⟨Nat.le_of_ble_eq_true rfl, Nat.le_of_ble_eq_true rfl⟩) (kpV hG hP hK hD hS hA hGA [0, 1, 2, 3, 4, 5, 6, 7, 8, 9, 10, 11, 12, 13, 14, 15, 16, 17, 18, 19, 20, 21, 22, 23, 24, 25, 26, 27, 28, 29, 30, 31] (by decide) rfl (ci := 10) (q0 := 0) rfl rfl rfl) rfl rfl hl.1 rfl (lv_room (Nat.le_of_ble_eq_true rfl)) d_MD_counts_11 ⟨Nat.le_of_ble_eq_true rfl, Nat.le_of_ble_eq_true rfl⟩) (fun H locs hP hD hS => ?_)
    have hP : va_P (dC, dI) vwCl (wd_MD g h0 q0 x0) H := hP
    have hD : va_D A (wd_MD g h0 q0 x0) := hD
    refine lv_if_eq (tgt := 34) hx hb d_MD_counts_14 (by decide) (fun hc => ?_) (fun hc => ?_)
    · replace hm := if_t hm hc
      refine lv_iconst (v := (0 : Int32)) hx hb d_MD_counts_34 (by decide) ?_
      obtain rfl := Option.some.inj hm
      rw [hQ]
      exact krz hx hb hr nar_0 hlocks hAe hP hK hD hS d_MD_counts_35
    · replace hm := if_f hm hc
      refine lv_aload_n hx hb d_MD_counts_17 rfl (lv_at hl 0 rfl) ?_
      refine va_get (D := (dC, dI)) (ci := 10) (v := .int (x0 2 0)) (C := "AlarmMatrixModel") (T := T_MD) (N := 42) hx hb hts i_MD hown hK hP 0 rfl rfl 2 (by decide) (hts _ k5_22) (fun _ h9 => h9) rfl d_MD_counts_18 ?_
      refine lv_aload_n hx hb d_MD_counts_21 rfl (lv_at hl 0 rfl) ?_
      refine va_get (D := (dC, dI)) (ci := 10) (v := .ref (q0 5)) (C := "AlarmMatrixModel") (T := T_MD) (N := 42) hx hb hts i_MD hown hK hP 0 rfl rfl 5 (by decide) (hts _ k5_25) (fun _ h9 => h9) rfl d_MD_counts_22 ?_
      refine lv_iload_n hx hb d_MD_counts_25 rfl (lv_at hl 1 rfl) ?_
      obtain ⟨h_26, hm⟩ := ck_s hm
      refine va_iald (f := (x0 5)) hx hb hK hP 3 0 rfl rfl h_26 d_MD_counts_26 ?_
      refine lv_icmp_lt (tgt := 34) hx hb d_MD_counts_27 (by decide) (fun hc => ?_) (fun hc => ?_)
      · replace hm := if_t hm hc
        refine lv_iconst (v := (0 : Int32)) hx hb d_MD_counts_34 (by decide) ?_
        obtain rfl := Option.some.inj hm
        rw [hQ]
        exact krz hx hb hr nar_0 hlocks hAe hP hK hD hS d_MD_counts_35
      · replace hm := if_f hm hc
        refine lv_iconst (v := (1 : Int32)) hx hb d_MD_counts_30 (by decide) ?_
        refine lv_goto (tgt := 35) hx hb d_MD_counts_31 (by decide) ?_
        obtain rfl := Option.some.inj hm
        rw [hQ]
        exact krz hx hb hr nar_1 hlocks hAe hP hK hD hS d_MD_counts_35
abbrev b_MD_ofZone : ByteArray := prog_12_method_43_code
abbrev y_MD_ofZone : MethodName := ⟨"AlarmMatrixModel", "ofZone", "(IZ)I"⟩
theorem d_MD_ofZone_0 : decode b_MD_ofZone 0 = .ok (.iconst 0, 1) := by decide +kernel
theorem d_MD_ofZone_1 : decode b_MD_ofZone 1 = .ok (.istore_n 3, 1) := by decide +kernel
theorem d_MD_ofZone_2 : decode b_MD_ofZone 2 = .ok (.iconst 0, 1) := by decide +kernel
theorem d_MD_ofZone_3 : decode b_MD_ofZone 3 = .ok (.istore 4, 2) := by decide +kernel
theorem d_MD_ofZone_5 : decode b_MD_ofZone 5 = .ok (.iload 4, 2) := by decide +kernel
theorem d_MD_ofZone_7 : decode b_MD_ofZone 7 = .ok (.aload_n 0, 1) := by decide +kernel
theorem d_MD_ofZone_8 : decode b_MD_ofZone 8 = .ok (.getfield 50, 3) := by decide +kernel
theorem d_MD_ofZone_11 : decode b_MD_ofZone 11 = .ok (.iload_n 1, 1) := by decide +kernel
theorem d_MD_ofZone_12 : decode b_MD_ofZone 12 = .ok (.iaload, 1) := by decide +kernel
theorem d_MD_ofZone_13 : decode b_MD_ofZone 13 = .ok (.if_icmp .ge 56, 3) := by decide +kernel
theorem d_MD_ofZone_16 : decode b_MD_ofZone 16 = .ok (.aload_n 0, 1) := by decide +kernel
theorem d_MD_ofZone_17 : decode b_MD_ofZone 17 = .ok (.getfield 53, 3) := by decide +kernel
theorem d_MD_ofZone_20 : decode b_MD_ofZone 20 = .ok (.bipush 12, 2) := by decide +kernel
theorem d_MD_ofZone_22 : decode b_MD_ofZone 22 = .ok (.iload_n 1, 1) := by decide +kernel
theorem d_MD_ofZone_23 : decode b_MD_ofZone 23 = .ok (.imul, 1) := by decide +kernel
theorem d_MD_ofZone_24 : decode b_MD_ofZone 24 = .ok (.iload 4, 2) := by decide +kernel
theorem d_MD_ofZone_26 : decode b_MD_ofZone 26 = .ok (.iadd, 1) := by decide +kernel
theorem d_MD_ofZone_27 : decode b_MD_ofZone 27 = .ok (.iaload, 1) := by decide +kernel
theorem d_MD_ofZone_28 : decode b_MD_ofZone 28 = .ok (.istore 5, 2) := by decide +kernel
theorem d_MD_ofZone_30 : decode b_MD_ofZone 30 = .ok (.iload_n 3, 1) := by decide +kernel
theorem d_MD_ofZone_31 : decode b_MD_ofZone 31 = .ok (.aload_n 0, 1) := by decide +kernel
theorem d_MD_ofZone_32 : decode b_MD_ofZone 32 = .ok (.iload 5, 2) := by decide +kernel
theorem d_MD_ofZone_34 : decode b_MD_ofZone 34 = .ok (.invokevirtual 239, 3) := by decide +kernel
theorem d_MD_ofZone_37 : decode b_MD_ofZone 37 = .ok (.ifCond .eq 23, 3) := by decide +kernel
theorem d_MD_ofZone_40 : decode b_MD_ofZone 40 = .ok (.iload_n 2, 1) := by decide +kernel
theorem d_MD_ofZone_41 : decode b_MD_ofZone 41 = .ok (.ifCond .eq 15, 3) := by decide +kernel
theorem d_MD_ofZone_44 : decode b_MD_ofZone 44 = .ok (.aload_n 0, 1) := by decide +kernel
theorem d_MD_ofZone_45 : decode b_MD_ofZone 45 = .ok (.getfield 7, 3) := by decide +kernel
theorem d_MD_ofZone_48 : decode b_MD_ofZone 48 = .ok (.iload 5, 2) := by decide +kernel
theorem d_MD_ofZone_50 : decode b_MD_ofZone 50 = .ok (.iaload, 1) := by decide +kernel
theorem d_MD_ofZone_51 : decode b_MD_ofZone 51 = .ok (.bipush 50, 2) := by decide +kernel
theorem d_MD_ofZone_53 : decode b_MD_ofZone 53 = .ok (.if_icmp .lt 7, 3) := by decide +kernel
theorem d_MD_ofZone_56 : decode b_MD_ofZone 56 = .ok (.iconst 1, 1) := by decide +kernel
theorem d_MD_ofZone_57 : decode b_MD_ofZone 57 = .ok (.goto 4, 3) := by decide +kernel
theorem d_MD_ofZone_60 : decode b_MD_ofZone 60 = .ok (.iconst 0, 1) := by decide +kernel
theorem d_MD_ofZone_61 : decode b_MD_ofZone 61 = .ok (.iadd, 1) := by decide +kernel
theorem d_MD_ofZone_62 : decode b_MD_ofZone 62 = .ok (.istore_n 3, 1) := by decide +kernel
theorem d_MD_ofZone_63 : decode b_MD_ofZone 63 = .ok (.iinc 4 1, 3) := by decide +kernel
theorem d_MD_ofZone_66 : decode b_MD_ofZone 66 = .ok (.goto (-61), 3) := by decide +kernel
theorem d_MD_ofZone_69 : decode b_MD_ofZone 69 = .ok (.iload_n 3, 1) := by decide +kernel
theorem d_MD_ofZone_70 : decode b_MD_ofZone 70 = .ok (.ireturn, 1) := by decide +kernel
def m_MD_ofZone_B5 {R : Type} (F : Nat) (a1 : Int32) (x0 : St) (a2 : Int32) (k5_69 : Int32 → Int32 → Option R) (rec5 : Int32 → Int32 → Option R) (v3_5 : Int32) (v4_5 : Int32) : Option R :=
  (ck a1 40 (if ((x0 20) a1.toNatClampNeg) ≤ v4_5 then (k5_69 v3_5 v4_5) else (ck (((12 : Int32) * a1) + v4_5) 480 (bn1 (m_MD_counts F x0 ((x0 21) (((12 : Int32) * a1) + v4_5).toNatClampNeg)) (fun r34 => (if r34 = (0 : Int32) then (rec5 (v3_5 + (0 : Int32)) (v4_5 + (1 : Int32))) else (if a2 = (0 : Int32) then (rec5 (v3_5 + (1 : Int32)) (v4_5 + (1 : Int32))) else (ck ((x0 21) (((12 : Int32) * a1) + v4_5).toNatClampNeg) 200 (if ((x0 3) ((x0 21) (((12 : Int32) * a1) + v4_5).toNatClampNeg).toNatClampNeg) < (50 : Int32) then (rec5 (v3_5 + (0 : Int32)) (v4_5 + (1 : Int32))) else (rec5 (v3_5 + (1 : Int32)) (v4_5 + (1 : Int32))))))))))))
theorem m_MD_ofZone_B5_h {R : Type} {F : Nat} {a1 : Int32} {x0 : St} {a2 : Int32} {k5_69 : Int32 → Int32 → Option R} {rec5 : Int32 → Int32 → Option R} {v3_5 : Int32} {v4_5 : Int32} {o : R} (h : m_MD_ofZone_B5 F a1 x0 a2 k5_69 rec5 v3_5 v4_5 = some o) :
  (ck a1 40 (if ((x0 20) a1.toNatClampNeg) ≤ v4_5 then (k5_69 v3_5 v4_5) else (ck (((12 : Int32) * a1) + v4_5) 480 (bn1 (m_MD_counts F x0 ((x0 21) (((12 : Int32) * a1) + v4_5).toNatClampNeg)) (fun r34 => (if r34 = (0 : Int32) then (rec5 (v3_5 + (0 : Int32)) (v4_5 + (1 : Int32))) else (if a2 = (0 : Int32) then (rec5 (v3_5 + (1 : Int32)) (v4_5 + (1 : Int32))) else (ck ((x0 21) (((12 : Int32) * a1) + v4_5).toNatClampNeg) 200 (if ((x0 3) ((x0 21) (((12 : Int32) * a1) + v4_5).toNatClampNeg).toNatClampNeg) < (50 : Int32) then (rec5 (v3_5 + (0 : Int32)) (v4_5 + (1 : Int32))) else (rec5 (v3_5 + (1 : Int32)) (v4_5 + (1 : Int32)))))))))))) = some o := h
def m_MD_ofZone (F : Nat) (x0 : St) (a1 : Int32) (a2 : Int32) : Option (Int32) :=
  (lq2 (m_MD_ofZone_B5 F a1 x0 a2 (fun v3_5 v4_5 => (some v3_5))) F (0 : Int32) (0 : Int32))
abbrev rm_MD_ofZone : Room := { frames := 2, cells := 0, slots := 0, locals := 46 }
set_option maxHeartbeats 4000000 in
set_option maxRecDepth 100000 in
theorem c_MD_ofZone {G : (Nat → Prop) → State → Prop} (hG : gok G) (hGn : gN G) (l : Launch) (dC : Nat → ClassId) (dI : Nat → Nat → Nat) (g : Nat → ClassId) (F : Nat) (sz : Nat) (h0 : Nat) (q0 : Nat → Nat) (x0 : St) (a1 : Int32) (a2 : Int32) {o : Int32} (hm : m_MD_ofZone F x0 a1 a2 = some o) : Met l y_MD_ofZone (.code y_MD_ofZone b_MD_ofZone 6 (some .int) :: gw) rm_MD_ofZone (kq (dC, dI) vwCl (tyv g) G [.ref h0, .int a1, .int a2] sz (wd_MD g h0 q0 x0)) (kqi (dC, dI) vwCl (tyv g) (wd_MD g h0 q0 x0) o (wd_MD g h0 q0 x0) sz) 0 0 (va_A (wd_MD g h0 q0 x0) sz) := by
  unfold m_MD_ofZone at hm
  refine km (Qc := fun sz => kqi (dC, dI) vwCl (tyv g) (wd_MD g h0 q0 x0) o (wd_MD g h0 q0 x0) sz) (cc := b_MD_ofZone) (maxL := 6) (ret := some .int) (by decide) rfl (Nat.le_of_ble_eq_true rfl) ?_
  intro p e s m args below meth c Q hQ hx hb hr hts hown hlocks hml hnm H locs A hAe hA hP hK hD hS hGA ls hl
  have hl : lv_has ls 6 [(0, .ref h0), (1, .int a1), (2, .int a2)] := hl
  have hts : ∀ w ∈ gw, w.before args s = true := fun w h => hts w (List.mem_cons_of_mem _ h)
  have hown : s.vm.findClass "AlarmMatrixModel" = some m.cls := hown
  refine lv_iconst (v := (0 : Int32)) hx hb d_MD_ofZone_0 (by decide) ?_
  refine lv_istore_n (lv' := [(3, .int (0 : Int32)), (0, .ref h0), (1, .int a1), (2, .int a2)]) hx hb d_MD_ofZone_1 rfl hl (by decide) rfl (fun ls hl => ?_)
  refine lv_iconst (v := (0 : Int32)) hx hb d_MD_ofZone_2 (by decide) ?_
  refine lv_istore (lv' := [(4, .int (0 : Int32)), (3, .int (0 : Int32)), (0, .ref h0), (1, .int a1), (2, .int a2)]) hx hb d_MD_ofZone_3 hl (by decide) rfl (fun ls hl => ?_)
  have L5 : ∀ (n5 : Nat) (v3_5 : Int32) (v4_5 : Int32) (H : Heap) (locs : List Loc) (ls : Array Slot), lq2 (m_MD_ofZone_B5 F a1 x0 a2 (fun v3_5 v4_5 => (some v3_5))) n5 v3_5 v4_5 = some o → va_P (dC, dI) vwCl (wd_MD g h0 q0 x0) H → va_D A (wd_MD g h0 q0 x0) → va_S A s.heap H locs → lv_has ls 6 [(0, .ref h0), (1, .int a1), (2, .int a2), (3, .int v3_5), (4, .int v4_5)] → W p l e rm_MD_ofZone s m args below meth c H locs 0 0 Q (F0 m 5 ls []) := by
    intro n5
    induction n5 with
    | zero => intro v3_5 v4_5 H locs ls hm; exact absurd hm (by intro z; cases z)
    | succ n5 ih5 =>
      intro v3_5 v4_5 H locs ls hm hP hD hS hl
      replace hm := m_MD_ofZone_B5_h (lq2_h hm)
      refine lv_iload hx hb d_MD_ofZone_5 (lv_at hl 4 rfl) ?_
      refine lv_aload_n hx hb d_MD_ofZone_7 rfl (lv_at hl 0 rfl) ?_
      refine va_get (D := (dC, dI)) (ci := 10) (v := .ref (q0 20)) (C := "AlarmMatrixModel") (T := T_MD) (N := 42) hx hb hts i_MD hown hK hP 0 rfl rfl 20 (by decide) (hts _ k5_40) (fun _ h9 => h9) rfl d_MD_ofZone_8 ?_
      refine lv_iload_n hx hb d_MD_ofZone_11 rfl (lv_at hl 1 rfl) ?_
      obtain ⟨h_12, hm⟩ := ck_s hm
      refine va_iald (f := (x0 20)) hx hb hK hP 14 0 rfl rfl h_12 d_MD_ofZone_12 ?_
      refine lv_icmp_ge (tgt := 69) hx hb d_MD_ofZone_13 (by decide) (fun hc => ?_) (fun hc => ?_)
      · replace hm := if_t hm hc
        refine lv_iload_n hx hb d_MD_ofZone_69 rfl (lv_at hl 3 rfl) ?_
        obtain rfl := Option.some.inj hm
        rw [hQ]
        exact kri hx hb hr hlocks hAe hP hK hD hS d_MD_ofZone_70
      · replace hm := if_f hm hc
        refine lv_aload_n hx hb d_MD_ofZone_16 rfl (lv_at hl 0 rfl) ?_
        refine va_get (D := (dC, dI)) (ci := 10) (v := .ref (q0 21)) (C := "AlarmMatrixModel") (T := T_MD) (N := 42) hx hb hts i_MD hown hK hP 0 rfl rfl 21 (by decide) (hts _ k5_41) (fun _ h9 => h9) rfl d_MD_ofZone_17 ?_
        refine lv_bipush (v := (12 : Int32)) hx hb d_MD_ofZone_20 (by decide) ?_
        refine lv_iload_n hx hb d_MD_ofZone_22 rfl (lv_at hl 1 rfl) ?_
        refine lv_imul hx hb d_MD_ofZone_23 ?_
        refine lv_iload hx hb d_MD_ofZone_24 (lv_at hl 4 rfl) ?_
        refine lv_iadd hx hb d_MD_ofZone_26 ?_
        obtain ⟨h_27, hm⟩ := ck_s hm
        refine va_iald (f := (x0 21)) hx hb hK hP 15 0 rfl rfl h_27 d_MD_ofZone_27 ?_
        refine lv_istore (lv' := [(5, .int ((x0 21) (((12 : Int32) * a1) + v4_5).toNatClampNeg)), (0, .ref h0), (1, .int a1), (2, .int a2), (3, .int v3_5), (4, .int v4_5)]) hx hb d_MD_ofZone_28 hl (by decide) rfl (fun ls hl => ?_)
        refine lv_iload_n hx hb d_MD_ofZone_30 rfl (lv_at hl 4 rfl) ?_
        refine lv_aload_n hx hb d_MD_ofZone_31 rfl (lv_at hl 1 rfl) ?_
        refine lv_iload hx hb d_MD_ofZone_32 (lv_at hl 0 rfl) ?_
        obtain ⟨r34, hcl, hm⟩ := bn1_s hm
        refine kci (wc := wd_MD g h0 q0 x0) (wr := ([] : va_W)) (w1 := wd_MD g h0 q0 x0) hP hD hS hA [0, 1, 2, 3, 4, 5, 6, 7, 8, 9, 10, 11, 12, 13, 14, 15, 16, 17, 18, 19, 20, 21, 22, 23, 24, 25, 26, 27, 28, 29, 30, 31] [] rfl rfl (by decide) (by decide) (va_runV (As := [.int ((x0 21) (((12 : Int32) * a1) + v4_5).toNatClampNeg)]) (rest := [.int v3_5]) ⟨hx, hb, hml, hown, hts⟩ (c_MD_counts hG hGn l dC dI g F H.size h0 q0 x0 ((x0 21) (((12 : Int32) * a1) + v4_5).toNatClampNeg) hcl) (cwV 1 hts (gdV k6_105 k6_107 kp_52 k1_10 k6_108) rfl rfl rfl (by decide +kernel) ⟨Nat.le_of_ble_eq_true rfl, Nat.le_of_ble_eq_true rfl⟩) (kpV hG hP hK hD hS hA hGA [0, 1, 2, 3, 4, 5, 6, 7, 8, 9, 10, 11, 12, 13, 14, 15, 16, 17, 18, 19, 20, 21, 22, 23, 24, 25, 26, 27, 28, 29, 30, 31] (by decide) rfl (ci := 10) (q0 := 0) rfl rfl rfl) rfl rfl hl.1 rfl (lv_room (Nat.le_of_ble_eq_true rfl)) d_MD_ofZone_34 ⟨Nat.le_of_ble_eq_true rfl, Nat.le_of_ble_eq_true rfl⟩) (fun H locs hP hD hS => ?_)
        have hP : va_P (dC, dI) vwCl (wd_MD g h0 q0 x0) H := hP
        have hD : va_D A (wd_MD g h0 q0 x0) := hD
        refine lv_if_eq (tgt := 60) hx hb d_MD_ofZone_37 (by decide) (fun hc => ?_) (fun hc => ?_)
        · replace hm := if_t hm hc
          refine lv_iconst (v := (0 : Int32)) hx hb d_MD_ofZone_60 (by decide) ?_
          refine lv_iadd hx hb d_MD_ofZone_61 ?_
          refine lv_istore_n (lv' := [(3, .int (v3_5 + (0 : Int32))), (5, .int ((x0 21) (((12 : Int32) * a1) + v4_5).toNatClampNeg)), (0, .ref h0), (1, .int a1), (2, .int a2), (4, .int v4_5)]) hx hb d_MD_ofZone_62 rfl hl (by decide) rfl (fun ls hl => ?_)
          refine lv_iinc (v := (v4_5 + (1 : Int32))) (lv' := [(4, .int (v4_5 + (1 : Int32))), (3, .int (v3_5 + (0 : Int32))), (5, .int ((x0 21) (((12 : Int32) * a1) + v4_5).toNatClampNeg)), (0, .ref h0), (1, .int a1), (2, .int a2)]) hx hb d_MD_ofZone_63 hl (k := 5) rfl rfl (by decide) rfl (fun ls hl => ?_)
          refine lv_goto (tgt := 5) hx hb d_MD_ofZone_66 (by decide) ?_
          exact ih5 (v3_5 + (0 : Int32)) (v4_5 + (1 : Int32)) H locs ls hm hP hD hS (lv_sub hl [3, 4, 5, 1, 0] rfl)
        · replace hm := if_f hm hc
          refine lv_iload_n hx hb d_MD_ofZone_40 rfl (lv_at hl 3 rfl) ?_
          refine lv_if_eq (tgt := 56) hx hb d_MD_ofZone_41 (by decide) (fun hc => ?_) (fun hc => ?_)
          · replace hm := if_t hm hc
            refine lv_iconst (v := (1 : Int32)) hx hb d_MD_ofZone_56 (by decide) ?_
            refine lv_goto (tgt := 61) hx hb d_MD_ofZone_57 (by decide) ?_
            refine lv_iadd hx hb d_MD_ofZone_61 ?_
            refine lv_istore_n (lv' := [(3, .int (v3_5 + (1 : Int32))), (5, .int ((x0 21) (((12 : Int32) * a1) + v4_5).toNatClampNeg)), (0, .ref h0), (1, .int a1), (2, .int a2), (4, .int v4_5)]) hx hb d_MD_ofZone_62 rfl hl (by decide) rfl (fun ls hl => ?_)
            refine lv_iinc (v := (v4_5 + (1 : Int32))) (lv' := [(4, .int (v4_5 + (1 : Int32))), (3, .int (v3_5 + (1 : Int32))), (5, .int ((x0 21) (((12 : Int32) * a1) + v4_5).toNatClampNeg)), (0, .ref h0), (1, .int a1), (2, .int a2)]) hx hb d_MD_ofZone_63 hl (k := 5) rfl rfl (by decide) rfl (fun ls hl => ?_)
            refine lv_goto (tgt := 5) hx hb d_MD_ofZone_66 (by decide) ?_
            exact ih5 (v3_5 + (1 : Int32)) (v4_5 + (1 : Int32)) H locs ls hm hP hD hS (lv_sub hl [3, 4, 5, 1, 0] rfl)
          · replace hm := if_f hm hc
            refine lv_aload_n hx hb d_MD_ofZone_44 rfl (lv_at hl 1 rfl) ?_
            refine va_get (D := (dC, dI)) (ci := 10) (v := .ref (q0 3)) (C := "AlarmMatrixModel") (T := T_MD) (N := 42) hx hb hts i_MD hown hK hP 0 rfl rfl 3 (by decide) (hts _ k5_23) (fun _ h9 => h9) rfl d_MD_ofZone_45 ?_
            refine lv_iload hx hb d_MD_ofZone_48 (lv_at hl 0 rfl) ?_
            obtain ⟨h_50, hm⟩ := ck_s hm
            refine va_iald (f := (x0 3)) hx hb hK hP 1 0 rfl rfl h_50 d_MD_ofZone_50 ?_
            refine lv_bipush (v := (50 : Int32)) hx hb d_MD_ofZone_51 (by decide) ?_
            refine lv_icmp_lt (tgt := 60) hx hb d_MD_ofZone_53 (by decide) (fun hc => ?_) (fun hc => ?_)
            · replace hm := if_t hm hc
              refine lv_iconst (v := (0 : Int32)) hx hb d_MD_ofZone_60 (by decide) ?_
              refine lv_iadd hx hb d_MD_ofZone_61 ?_
              refine lv_istore_n (lv' := [(3, .int (v3_5 + (0 : Int32))), (5, .int ((x0 21) (((12 : Int32) * a1) + v4_5).toNatClampNeg)), (0, .ref h0), (1, .int a1), (2, .int a2), (4, .int v4_5)]) hx hb d_MD_ofZone_62 rfl hl (by decide) rfl (fun ls hl => ?_)
              refine lv_iinc (v := (v4_5 + (1 : Int32))) (lv' := [(4, .int (v4_5 + (1 : Int32))), (3, .int (v3_5 + (0 : Int32))), (5, .int ((x0 21) (((12 : Int32) * a1) + v4_5).toNatClampNeg)), (0, .ref h0), (1, .int a1), (2, .int a2)]) hx hb d_MD_ofZone_63 hl (k := 5) rfl rfl (by decide) rfl (fun ls hl => ?_)
              refine lv_goto (tgt := 5) hx hb d_MD_ofZone_66 (by decide) ?_
              exact ih5 (v3_5 + (0 : Int32)) (v4_5 + (1 : Int32)) H locs ls hm hP hD hS (lv_sub hl [3, 4, 5, 1, 0] rfl)
            · replace hm := if_f hm hc
              refine lv_iconst (v := (1 : Int32)) hx hb d_MD_ofZone_56 (by decide) ?_
              refine lv_goto (tgt := 61) hx hb d_MD_ofZone_57 (by decide) ?_
              refine lv_iadd hx hb d_MD_ofZone_61 ?_
              refine lv_istore_n (lv' := [(3, .int (v3_5 + (1 : Int32))), (5, .int ((x0 21) (((12 : Int32) * a1) + v4_5).toNatClampNeg)), (0, .ref h0), (1, .int a1), (2, .int a2), (4, .int v4_5)]) hx hb d_MD_ofZone_62 rfl hl (by decide) rfl (fun ls hl => ?_)
              refine lv_iinc (v := (v4_5 + (1 : Int32))) (lv' := [(4, .int (v4_5 + (1 : Int32))), (3, .int (v3_5 + (1 : Int32))), (5, .int ((x0 21) (((12 : Int32) * a1) + v4_5).toNatClampNeg)), (0, .ref h0), (1, .int a1), (2, .int a2)]) hx hb d_MD_ofZone_63 hl (k := 5) rfl rfl (by decide) rfl (fun ls hl => ?_)
              refine lv_goto (tgt := 5) hx hb d_MD_ofZone_66 (by decide) ?_
              exact ih5 (v3_5 + (1 : Int32)) (v4_5 + (1 : Int32)) H locs ls hm hP hD hS (lv_sub hl [3, 4, 5, 1, 0] rfl)
  exact L5 F (0 : Int32) (0 : Int32) H locs ls hm hP hD hS (lv_sub hl [2, 3, 4, 1, 0] rfl)
abbrev b_MD_isOn : ByteArray := prog_12_method_44_code
abbrev y_MD_isOn : MethodName := ⟨"AlarmMatrixModel", "isOn", "(I)Z"⟩
theorem d_MD_isOn_0 : decode b_MD_isOn 0 = .ok (.aload_n 0, 1) := by decide +kernel
theorem d_MD_isOn_1 : decode b_MD_isOn 1 = .ok (.iload_n 1, 1) := by decide +kernel
theorem d_MD_isOn_2 : decode b_MD_isOn 2 = .ok (.iconst 1, 1) := by decide +kernel
theorem d_MD_isOn_3 : decode b_MD_isOn 3 = .ok (.invokevirtual 242, 3) := by decide +kernel
theorem d_MD_isOn_6 : decode b_MD_isOn 6 = .ok (.aload_n 0, 1) := by decide +kernel
theorem d_MD_isOn_7 : decode b_MD_isOn 7 = .ok (.getfield 47, 3) := by decide +kernel
theorem d_MD_isOn_10 : decode b_MD_isOn 10 = .ok (.iload_n 1, 1) := by decide +kernel
theorem d_MD_isOn_11 : decode b_MD_isOn 11 = .ok (.iaload, 1) := by decide +kernel
theorem d_MD_isOn_12 : decode b_MD_isOn 12 = .ok (.if_icmp .lt 7, 3) := by decide +kernel
theorem d_MD_isOn_15 : decode b_MD_isOn 15 = .ok (.iconst 1, 1) := by decide +kernel
theorem d_MD_isOn_16 : decode b_MD_isOn 16 = .ok (.goto 4, 3) := by decide +kernel
theorem d_MD_isOn_19 : decode b_MD_isOn 19 = .ok (.iconst 0, 1) := by decide +kernel
theorem d_MD_isOn_20 : decode b_MD_isOn 20 = .ok (.ireturn, 1) := by decide +kernel
def m_MD_isOn (F : Nat) (x0 : St) (a1 : Int32) : Option (Int32) :=
  (bn1 (m_MD_ofZone F x0 a1 (1 : Int32)) (fun r3 => (ck a1 40 (if r3 < ((x0 19) a1.toNatClampNeg) then (some (0 : Int32)) else (some (1 : Int32))))))
abbrev rm_MD_isOn : Room := { frames := 3, cells := 0, slots := 0, locals := 71 }
set_option maxHeartbeats 4000000 in
set_option maxRecDepth 100000 in
theorem c_MD_isOn {G : (Nat → Prop) → State → Prop} (hG : gok G) (hGn : gN G) (l : Launch) (dC : Nat → ClassId) (dI : Nat → Nat → Nat) (g : Nat → ClassId) (F : Nat) (sz : Nat) (h0 : Nat) (q0 : Nat → Nat) (x0 : St) (a1 : Int32) {o : Int32} (hm : m_MD_isOn F x0 a1 = some o) : Met l y_MD_isOn (.code y_MD_isOn b_MD_isOn 2 (some .boolean) :: gw) rm_MD_isOn (kq (dC, dI) vwCl (tyv g) G [.ref h0, .int a1] sz (wd_MD g h0 q0 x0)) (kqi (dC, dI) vwCl (tyv g) (wd_MD g h0 q0 x0) o (wd_MD g h0 q0 x0) sz) 0 0 (va_A (wd_MD g h0 q0 x0) sz) := by
  unfold m_MD_isOn at hm
  refine km (Qc := fun sz => kqi (dC, dI) vwCl (tyv g) (wd_MD g h0 q0 x0) o (wd_MD g h0 q0 x0) sz) (cc := b_MD_isOn) (maxL := 2) (ret := some .boolean) (by decide) rfl (Nat.le_of_ble_eq_true rfl) ?_
  intro p e s m args below meth c Q hQ hx hb hr hts hown hlocks hml hnm H locs A hAe hA hP hK hD hS hGA ls hl
  have hl : lv_has ls 2 [(0, .ref h0), (1, .int a1)] := hl
  have hts : ∀ w ∈ gw, w.before args s = true := fun w h => hts w (List.mem_cons_of_mem _ h)
  have hown : s.vm.findClass "AlarmMatrixModel" = some m.cls := hown
  refine lv_aload_n hx hb d_MD_isOn_0 rfl (lv_at hl 0 rfl) ?_
  refine lv_iload_n hx hb d_MD_isOn_1 rfl (lv_at hl 1 rfl) ?_
  refine lv_iconst (v := (1 : Int32)) hx hb d_MD_isOn_2 (by decide) ?_
  obtain ⟨r3, hcl, hm⟩ := bn1_s hm
  refine kci (wc := wd_MD g h0 q0 x0) (wr := ([] : va_W)) (w1 := wd_MD g h0 q0 x0) hP hD hS hA [0, 1, 2, 3, 4, 5, 6, 7, 8, 9, 10, 11, 12, 13, 14, 15, 16, 17, 18, 19, 20, 21, 22, 23, 24, 25, 26, 27, 28, 29, 30, 31] [] rfl rfl (by decide) (by decide) (va_runV (As := [.int a1, .int (1 : Int32)]) (rest := []) ⟨hx, hb, hml, hown, hts⟩ (c_MD_ofZone hG hGn l dC dI g F H.size h0 q0 x0 a1 (1 : Int32) hcl) (cwV 2 hts (gdV k6_101 k6_103 kp_51 k1_10 k6_104) rfl rfl rfl (by decide +kernel) ⟨Nat.le_of_ble_eq_true rfl, Nat.le_of_ble_eq_true rfl⟩) (kpV hG hP hK hD hS hA hGA [0, 1, 2, 3, 4, 5, 6, 7, 8, 9, 10, 11, 12, 13, 14, 15, 16, 17, 18, 19, 20, 21, 22, 23, 24, 25, 26, 27, 28, 29, 30, 31] (by decide) rfl (ci := 10) (q0 := 0) rfl rfl rfl) rfl rfl hl.1 rfl (lv_room (Nat.le_of_ble_eq_true rfl)) d_MD_isOn_3 ⟨Nat.le_of_ble_eq_true rfl, Nat.le_of_ble_eq_true rfl⟩) (fun H locs hP hD hS => ?_)
  have hP : va_P (dC, dI) vwCl (wd_MD g h0 q0 x0) H := hP
  have hD : va_D A (wd_MD g h0 q0 x0) := hD
  refine lv_aload_n hx hb d_MD_isOn_6 rfl (lv_at hl 0 rfl) ?_
  refine va_get (D := (dC, dI)) (ci := 10) (v := .ref (q0 19)) (C := "AlarmMatrixModel") (T := T_MD) (N := 42) hx hb hts i_MD hown hK hP 0 rfl rfl 19 (by decide) (hts _ k5_39) (fun _ h9 => h9) rfl d_MD_isOn_7 ?_
  refine lv_iload_n hx hb d_MD_isOn_10 rfl (lv_at hl 1 rfl) ?_
  obtain ⟨h_11, hm⟩ := ck_s hm
  refine va_iald (f := (x0 19)) hx hb hK hP 13 0 rfl rfl h_11 d_MD_isOn_11 ?_
  refine lv_icmp_lt (tgt := 19) hx hb d_MD_isOn_12 (by decide) (fun hc => ?_) (fun hc => ?_)
  · replace hm := if_t hm hc
    refine lv_iconst (v := (0 : Int32)) hx hb d_MD_isOn_19 (by decide) ?_
    obtain rfl := Option.some.inj hm
    rw [hQ]
    exact krz hx hb hr nar_0 hlocks hAe hP hK hD hS d_MD_isOn_20
  · replace hm := if_f hm hc
    refine lv_iconst (v := (1 : Int32)) hx hb d_MD_isOn_15 (by decide) ?_
    refine lv_goto (tgt := 20) hx hb d_MD_isOn_16 (by decide) ?_
    obtain rfl := Option.some.inj hm
    rw [hQ]
    exact krz hx hb hr nar_1 hlocks hAe hP hK hD hS d_MD_isOn_20
abbrev b_MD_isSure : ByteArray := prog_12_method_45_code
abbrev y_MD_isSure : MethodName := ⟨"AlarmMatrixModel", "isSure", "(I)Z"⟩
theorem d_MD_isSure_0 : decode b_MD_isSure 0 = .ok (.aload_n 0, 1) := by decide +kernel
theorem d_MD_isSure_1 : decode b_MD_isSure 1 = .ok (.iload_n 1, 1) := by decide +kernel
theorem d_MD_isSure_2 : decode b_MD_isSure 2 = .ok (.iconst 0, 1) := by decide +kernel
theorem d_MD_isSure_3 : decode b_MD_isSure 3 = .ok (.invokevirtual 242, 3) := by decide +kernel
theorem d_MD_isSure_6 : decode b_MD_isSure 6 = .ok (.istore_n 2, 1) := by decide +kernel
theorem d_MD_isSure_7 : decode b_MD_isSure 7 = .ok (.iload_n 2, 1) := by decide +kernel
theorem d_MD_isSure_8 : decode b_MD_isSure 8 = .ok (.ifCond .le 17, 3) := by decide +kernel
theorem d_MD_isSure_11 : decode b_MD_isSure 11 = .ok (.aload_n 0, 1) := by decide +kernel
theorem d_MD_isSure_12 : decode b_MD_isSure 12 = .ok (.iload_n 1, 1) := by decide +kernel
theorem d_MD_isSure_13 : decode b_MD_isSure 13 = .ok (.iconst 1, 1) := by decide +kernel
theorem d_MD_isSure_14 : decode b_MD_isSure 14 = .ok (.invokevirtual 242, 3) := by decide +kernel
theorem d_MD_isSure_17 : decode b_MD_isSure 17 = .ok (.iload_n 2, 1) := by decide +kernel
theorem d_MD_isSure_18 : decode b_MD_isSure 18 = .ok (.if_icmp .ne 7, 3) := by decide +kernel
theorem d_MD_isSure_21 : decode b_MD_isSure 21 = .ok (.iconst 1, 1) := by decide +kernel
theorem d_MD_isSure_22 : decode b_MD_isSure 22 = .ok (.goto 4, 3) := by decide +kernel
theorem d_MD_isSure_25 : decode b_MD_isSure 25 = .ok (.iconst 0, 1) := by decide +kernel
theorem d_MD_isSure_26 : decode b_MD_isSure 26 = .ok (.ireturn, 1) := by decide +kernel
def m_MD_isSure (F : Nat) (x0 : St) (a1 : Int32) : Option (Int32) :=
  (bn1 (m_MD_ofZone F x0 a1 (0 : Int32)) (fun r3 => (if r3 ≤ (0 : Int32) then (some (0 : Int32)) else (bn1 (m_MD_ofZone F x0 a1 (1 : Int32)) (fun r14 => (if r14 = r3 then (some (1 : Int32)) else (some (0 : Int32))))))))
abbrev rm_MD_isSure : Room := { frames := 3, cells := 0, slots := 0, locals := 71 }
set_option maxHeartbeats 4000000 in
set_option maxRecDepth 100000 in
theorem c_MD_isSure {G : (Nat → Prop) → State → Prop} (hG : gok G) (hGn : gN G) (l : Launch) (dC : Nat → ClassId) (dI : Nat → Nat → Nat) (g : Nat → ClassId) (F : Nat) (sz : Nat) (h0 : Nat) (q0 : Nat → Nat) (x0 : St) (a1 : Int32) {o : Int32} (hm : m_MD_isSure F x0 a1 = some o) : Met l y_MD_isSure (.code y_MD_isSure b_MD_isSure 3 (some .boolean) :: gw) rm_MD_isSure (kq (dC, dI) vwCl (tyv g) G [.ref h0, .int a1] sz (wd_MD g h0 q0 x0)) (kqi (dC, dI) vwCl (tyv g) (wd_MD g h0 q0 x0) o (wd_MD g h0 q0 x0) sz) 0 0 (va_A (wd_MD g h0 q0 x0) sz) := by
  unfold m_MD_isSure at hm
  refine km (Qc := fun sz => kqi (dC, dI) vwCl (tyv g) (wd_MD g h0 q0 x0) o (wd_MD g h0 q0 x0) sz) (cc := b_MD_isSure) (maxL := 3) (ret := some .boolean) (by decide) rfl (Nat.le_of_ble_eq_true rfl) ?_
  intro p e s m args below meth c Q hQ hx hb hr hts hown hlocks hml hnm H locs A hAe hA hP hK hD hS hGA ls hl
  have hl : lv_has ls 3 [(0, .ref h0), (1, .int a1)] := hl
  have hts : ∀ w ∈ gw, w.before args s = true := fun w h => hts w (List.mem_cons_of_mem _ h)
  have hown : s.vm.findClass "AlarmMatrixModel" = some m.cls := hown
  refine lv_aload_n hx hb d_MD_isSure_0 rfl (lv_at hl 0 rfl) ?_
  refine lv_iload_n hx hb d_MD_isSure_1 rfl (lv_at hl 1 rfl) ?_
  refine lv_iconst (v := (0 : Int32)) hx hb d_MD_isSure_2 (by decide) ?_
  obtain ⟨r3, hcl, hm⟩ := bn1_s hm
  refine kci (wc := wd_MD g h0 q0 x0) (wr := ([] : va_W)) (w1 := wd_MD g h0 q0 x0) hP hD hS hA [0, 1, 2, 3, 4, 5, 6, 7, 8, 9, 10, 11, 12, 13, 14, 15, 16, 17, 18, 19, 20, 21, 22, 23, 24, 25, 26, 27, 28, 29, 30, 31] [] rfl rfl (by decide) (by decide) (va_runV (As := [.int a1, .int (0 : Int32)]) (rest := []) ⟨hx, hb, hml, hown, hts⟩ (c_MD_ofZone hG hGn l dC dI g F H.size h0 q0 x0 a1 (0 : Int32) hcl) (cwV 2 hts (gdV k6_101 k6_103 kp_51 k1_10 k6_104) rfl rfl rfl (by decide +kernel) ⟨Nat.le_of_ble_eq_true rfl, Nat.le_of_ble_eq_true rfl⟩) (kpV hG hP hK hD hS hA hGA [0, 1, 2, 3, 4, 5, 6, 7, 8, 9, 10, 11, 12, 13, 14, 15, 16, 17, 18, 19, 20, 21, 22, 23, 24, 25, 26, 27, 28, 29, 30, 31] (by decide) rfl (ci := 10) (q0 := 0) rfl rfl rfl) rfl rfl hl.1 rfl (lv_room (Nat.le_of_ble_eq_true rfl)) d_MD_isSure_3 ⟨Nat.le_of_ble_eq_true rfl, Nat.le_of_ble_eq_true rfl⟩) (fun H locs hP hD hS => ?_)
  have hP : va_P (dC, dI) vwCl (wd_MD g h0 q0 x0) H := hP
  have hD : va_D A (wd_MD g h0 q0 x0) := hD
  refine lv_istore_n (lv' := [(2, .int r3), (0, .ref h0), (1, .int a1)]) hx hb d_MD_isSure_6 rfl hl (by decide) rfl (fun ls hl => ?_)
  refine lv_iload_n hx hb d_MD_isSure_7 rfl (lv_at hl 0 rfl) ?_
  refine lv_if_le (tgt := 25) hx hb d_MD_isSure_8 (by decide) (fun hc => ?_) (fun hc => ?_)
  · replace hm := if_t hm hc
    refine lv_iconst (v := (0 : Int32)) hx hb d_MD_isSure_25 (by decide) ?_
    obtain rfl := Option.some.inj hm
    rw [hQ]
    exact krz hx hb hr nar_0 hlocks hAe hP hK hD hS d_MD_isSure_26
  · replace hm := if_f hm hc
    refine lv_aload_n hx hb d_MD_isSure_11 rfl (lv_at hl 1 rfl) ?_
    refine lv_iload_n hx hb d_MD_isSure_12 rfl (lv_at hl 2 rfl) ?_
    refine lv_iconst (v := (1 : Int32)) hx hb d_MD_isSure_13 (by decide) ?_
    obtain ⟨r14, hcl, hm⟩ := bn1_s hm
    refine kci (wc := wd_MD g h0 q0 x0) (wr := ([] : va_W)) (w1 := wd_MD g h0 q0 x0) hP hD hS hA [0, 1, 2, 3, 4, 5, 6, 7, 8, 9, 10, 11, 12, 13, 14, 15, 16, 17, 18, 19, 20, 21, 22, 23, 24, 25, 26, 27, 28, 29, 30, 31] [] rfl rfl (by decide) (by decide) (va_runV (As := [.int a1, .int (1 : Int32)]) (rest := []) ⟨hx, hb, hml, hown, hts⟩ (c_MD_ofZone hG hGn l dC dI g F H.size h0 q0 x0 a1 (1 : Int32) hcl) (cwV 2 hts (gdV k6_101 k6_103 kp_51 k1_10 k6_104) rfl rfl rfl (by decide +kernel) ⟨Nat.le_of_ble_eq_true rfl, Nat.le_of_ble_eq_true rfl⟩) (kpV hG hP hK hD hS hA hGA [0, 1, 2, 3, 4, 5, 6, 7, 8, 9, 10, 11, 12, 13, 14, 15, 16, 17, 18, 19, 20, 21, 22, 23, 24, 25, 26, 27, 28, 29, 30, 31] (by decide) rfl (ci := 10) (q0 := 0) rfl rfl rfl) rfl rfl hl.1 rfl (lv_room (Nat.le_of_ble_eq_true rfl)) d_MD_isSure_14 ⟨Nat.le_of_ble_eq_true rfl, Nat.le_of_ble_eq_true rfl⟩) (fun H locs hP hD hS => ?_)
    have hP : va_P (dC, dI) vwCl (wd_MD g h0 q0 x0) H := hP
    have hD : va_D A (wd_MD g h0 q0 x0) := hD
    refine lv_iload_n hx hb d_MD_isSure_17 rfl (lv_at hl 0 rfl) ?_
    refine lv_icmp_ne (tgt := 25) hx hb d_MD_isSure_18 (by decide) (fun hc => ?_) (fun hc => ?_)
    · replace hm := if_f hm hc
      refine lv_iconst (v := (0 : Int32)) hx hb d_MD_isSure_25 (by decide) ?_
      obtain rfl := Option.some.inj hm
      rw [hQ]
      exact krz hx hb hr nar_0 hlocks hAe hP hK hD hS d_MD_isSure_26
    · replace hm := if_t hm hc
      refine lv_iconst (v := (1 : Int32)) hx hb d_MD_isSure_21 (by decide) ?_
      refine lv_goto (tgt := 26) hx hb d_MD_isSure_22 (by decide) ?_
      obtain rfl := Option.some.inj hm
      rw [hQ]
      exact krz hx hb hr nar_1 hlocks hAe hP hK hD hS d_MD_isSure_26

abbrev b_Reader_readPoints : ByteArray := prog_7_method_5_code
abbrev y_Reader_readPoints : MethodName := ⟨"AlarmMatrix$Reader", "readPoints", "(I)Z"⟩
theorem d_Reader_readPoints_0 : decode b_Reader_readPoints 0 = .ok (.aload_n 0, 1) := by decide +kernel
theorem d_Reader_readPoints_1 : decode b_Reader_readPoints 1 = .ok (.getfield 20, 3) := by decide +kernel
theorem d_Reader_readPoints_4 : decode b_Reader_readPoints 4 = .ok (.invokevirtual 75, 3) := by decide +kernel
theorem d_Reader_readPoints_7 : decode b_Reader_readPoints 7 = .ok (.astore_n 2, 1) := by decide +kernel
theorem d_Reader_readPoints_8 : decode b_Reader_readPoints 8 = .ok (.iconst 0, 1) := by decide +kernel
theorem d_Reader_readPoints_9 : decode b_Reader_readPoints 9 = .ok (.istore_n 3, 1) := by decide +kernel
theorem d_Reader_readPoints_10 : decode b_Reader_readPoints 10 = .ok (.iload_n 3, 1) := by decide +kernel
theorem d_Reader_readPoints_11 : decode b_Reader_readPoints 11 = .ok (.bipush 12, 2) := by decide +kernel
theorem d_Reader_readPoints_13 : decode b_Reader_readPoints 13 = .ok (.if_icmp .ge 75, 3) := by decide +kernel
theorem d_Reader_readPoints_16 : decode b_Reader_readPoints 16 = .ok (.aload_n 0, 1) := by decide +kernel
theorem d_Reader_readPoints_17 : decode b_Reader_readPoints 17 = .ok (.getfield 14, 3) := by decide +kernel
theorem d_Reader_readPoints_20 : decode b_Reader_readPoints 20 = .ok (.invokevirtual 33, 3) := by decide +kernel
theorem d_Reader_readPoints_23 : decode b_Reader_readPoints 23 = .ok (.iload_n 3, 1) := by decide +kernel
theorem d_Reader_readPoints_24 : decode b_Reader_readPoints 24 = .ok (.ifCond .le 17, 3) := by decide +kernel
theorem d_Reader_readPoints_27 : decode b_Reader_readPoints 27 = .ok (.aload_n 0, 1) := by decide +kernel
theorem d_Reader_readPoints_28 : decode b_Reader_readPoints 28 = .ok (.getfield 14, 3) := by decide +kernel
theorem d_Reader_readPoints_31 : decode b_Reader_readPoints 31 = .ok (.ldc 103, 2) := by decide +kernel
theorem d_Reader_readPoints_33 : decode b_Reader_readPoints 33 = .ok (.invokevirtual 46, 3) := by decide +kernel
theorem d_Reader_readPoints_36 : decode b_Reader_readPoints 36 = .ok (.ifCond .eq 5, 3) := by decide +kernel
theorem d_Reader_readPoints_39 : decode b_Reader_readPoints 39 = .ok (.iconst 1, 1) := by decide +kernel
theorem d_Reader_readPoints_40 : decode b_Reader_readPoints 40 = .ok (.ireturn, 1) := by decide +kernel
theorem d_Reader_readPoints_41 : decode b_Reader_readPoints 41 = .ok (.aload_n 0, 1) := by decide +kernel
theorem d_Reader_readPoints_42 : decode b_Reader_readPoints 42 = .ok (.getfield 14, 3) := by decide +kernel
theorem d_Reader_readPoints_45 : decode b_Reader_readPoints 45 = .ok (.iconst 0, 1) := by decide +kernel
theorem d_Reader_readPoints_46 : decode b_Reader_readPoints 46 = .ok (.aload_n 0, 1) := by decide +kernel
theorem d_Reader_readPoints_47 : decode b_Reader_readPoints 47 = .ok (.getfield 24, 3) := by decide +kernel
theorem d_Reader_readPoints_50 : decode b_Reader_readPoints 50 = .ok (.iconst 1, 1) := by decide +kernel
theorem d_Reader_readPoints_51 : decode b_Reader_readPoints 51 = .ok (.isub, 1) := by decide +kernel
theorem d_Reader_readPoints_52 : decode b_Reader_readPoints 52 = .ok (.invokevirtual 105, 3) := by decide +kernel
theorem d_Reader_readPoints_55 : decode b_Reader_readPoints 55 = .ok (.istore 4, 2) := by decide +kernel
theorem d_Reader_readPoints_57 : decode b_Reader_readPoints 57 = .ok (.iload 4, 2) := by decide +kernel
theorem d_Reader_readPoints_59 : decode b_Reader_readPoints 59 = .ok (.iconst (-1), 1) := by decide +kernel
theorem d_Reader_readPoints_60 : decode b_Reader_readPoints 60 = .ok (.if_icmp .eq 13, 3) := by decide +kernel
theorem d_Reader_readPoints_63 : decode b_Reader_readPoints 63 = .ok (.aload_n 2, 1) := by decide +kernel
theorem d_Reader_readPoints_64 : decode b_Reader_readPoints 64 = .ok (.iload_n 1, 1) := by decide +kernel
theorem d_Reader_readPoints_65 : decode b_Reader_readPoints 65 = .ok (.iload 4, 2) := by decide +kernel
theorem d_Reader_readPoints_67 : decode b_Reader_readPoints 67 = .ok (.invokevirtual 108, 3) := by decide +kernel
theorem d_Reader_readPoints_70 : decode b_Reader_readPoints 70 = .ok (.ifCond .eq 5, 3) := by decide +kernel
theorem d_Reader_readPoints_73 : decode b_Reader_readPoints 73 = .ok (.iconst 0, 1) := by decide +kernel
theorem d_Reader_readPoints_74 : decode b_Reader_readPoints 74 = .ok (.ireturn, 1) := by decide +kernel
theorem d_Reader_readPoints_75 : decode b_Reader_readPoints 75 = .ok (.aload_n 2, 1) := by decide +kernel
theorem d_Reader_readPoints_76 : decode b_Reader_readPoints 76 = .ok (.iload_n 1, 1) := by decide +kernel
theorem d_Reader_readPoints_77 : decode b_Reader_readPoints 77 = .ok (.iload 4, 2) := by decide +kernel
theorem d_Reader_readPoints_79 : decode b_Reader_readPoints 79 = .ok (.invokevirtual 112, 3) := by decide +kernel
theorem d_Reader_readPoints_82 : decode b_Reader_readPoints 82 = .ok (.iinc 3 1, 3) := by decide +kernel
theorem d_Reader_readPoints_85 : decode b_Reader_readPoints 85 = .ok (.goto (-75), 3) := by decide +kernel
theorem d_Reader_readPoints_88 : decode b_Reader_readPoints 88 = .ok (.aload_n 0, 1) := by decide +kernel
theorem d_Reader_readPoints_89 : decode b_Reader_readPoints 89 = .ok (.getfield 14, 3) := by decide +kernel
theorem d_Reader_readPoints_92 : decode b_Reader_readPoints 92 = .ok (.ldc 103, 2) := by decide +kernel
theorem d_Reader_readPoints_94 : decode b_Reader_readPoints 94 = .ok (.invokevirtual 87, 3) := by decide +kernel
theorem d_Reader_readPoints_97 : decode b_Reader_readPoints 97 = .ok (.ireturn, 1) := by decide +kernel
def m_Reader_readPoints_B10 {R : Type} (F : Nat) (x4 : St) (x0 : St) (a1 : Int32) (k10_39 : Int32 → St → St → Option R) (k10_73 : Int32 → St → St → Option R) (k10_88 : Int32 → St → St → Option R) (rec10 : Int32 → St → St → Option R) (v3_10 : Int32) (y2_10 : St) (y3_10 : St) : Option R :=
  (if (12 : Int32) ≤ v3_10 then (k10_88 v3_10 y2_10 y3_10) else (bn1 (m_Words_step F y2_10 x4) (fun z2_20 => (if v3_10 ≤ (0 : Int32) then (bn1 (m_Words_valueWithin F z2_20 x4 (0 : Int32) ((x0 2 0) - (1 : Int32))) (fun r52 => (if r52 = (-1 : Int32) then (k10_73 v3_10 z2_20 y3_10) else (bn1 (m_Zones_hasPoint F y3_10 a1 r52) (fun r67 => (if r67 = (0 : Int32) then (bn1 (m_Zones_addPoint F y3_10 a1 r52) (fun z3_79 => (rec10 (v3_10 + (1 : Int32)) z2_20 z3_79))) else (k10_73 v3_10 z2_20 y3_10))))))) else (bn1 (m_Words_is F z2_20 x4 3) (fun r33 => (if r33 = (0 : Int32) then (bn1 (m_Words_valueWithin F z2_20 x4 (0 : Int32) ((x0 2 0) - (1 : Int32))) (fun r52 => (if r52 = (-1 : Int32) then (k10_73 v3_10 z2_20 y3_10) else (bn1 (m_Zones_hasPoint F y3_10 a1 r52) (fun r67 => (if r67 = (0 : Int32) then (bn1 (m_Zones_addPoint F y3_10 a1 r52) (fun z3_79 => (rec10 (v3_10 + (1 : Int32)) z2_20 z3_79))) else (k10_73 v3_10 z2_20 y3_10))))))) else (k10_39 v3_10 z2_20 y3_10))))))))
theorem m_Reader_readPoints_B10_h {R : Type} {F : Nat} {x4 : St} {x0 : St} {a1 : Int32} {k10_39 : Int32 → St → St → Option R} {k10_73 : Int32 → St → St → Option R} {k10_88 : Int32 → St → St → Option R} {rec10 : Int32 → St → St → Option R} {v3_10 : Int32} {y2_10 : St} {y3_10 : St} {o : R} (h : m_Reader_readPoints_B10 F x4 x0 a1 k10_39 k10_73 k10_88 rec10 v3_10 y2_10 y3_10 = some o) :
  (if (12 : Int32) ≤ v3_10 then (k10_88 v3_10 y2_10 y3_10) else (bn1 (m_Words_step F y2_10 x4) (fun z2_20 => (if v3_10 ≤ (0 : Int32) then (bn1 (m_Words_valueWithin F z2_20 x4 (0 : Int32) ((x0 2 0) - (1 : Int32))) (fun r52 => (if r52 = (-1 : Int32) then (k10_73 v3_10 z2_20 y3_10) else (bn1 (m_Zones_hasPoint F y3_10 a1 r52) (fun r67 => (if r67 = (0 : Int32) then (bn1 (m_Zones_addPoint F y3_10 a1 r52) (fun z3_79 => (rec10 (v3_10 + (1 : Int32)) z2_20 z3_79))) else (k10_73 v3_10 z2_20 y3_10))))))) else (bn1 (m_Words_is F z2_20 x4 3) (fun r33 => (if r33 = (0 : Int32) then (bn1 (m_Words_valueWithin F z2_20 x4 (0 : Int32) ((x0 2 0) - (1 : Int32))) (fun r52 => (if r52 = (-1 : Int32) then (k10_73 v3_10 z2_20 y3_10) else (bn1 (m_Zones_hasPoint F y3_10 a1 r52) (fun r67 => (if r67 = (0 : Int32) then (bn1 (m_Zones_addPoint F y3_10 a1 r52) (fun z3_79 => (rec10 (v3_10 + (1 : Int32)) z2_20 z3_79))) else (k10_73 v3_10 z2_20 y3_10))))))) else (k10_39 v3_10 z2_20 y3_10)))))))) = some o := h
def m_Reader_readPoints (F : Nat) (x0 : St) (x1 : St) (x2 : St) (x3 : St) (x4 : St) (a1 : Int32) : Option (Int32 × St × St) :=
  (lq3 (m_Reader_readPoints_B10 F x4 x0 a1 (fun v3_10 y2_10 y3_10 => (some ((1 : Int32), y2_10, y3_10))) (fun v3_10 y2_10 y3_10 => (some ((0 : Int32), y2_10, y3_10))) (fun v3_10 y2_10 y3_10 => (bn2 (m_Words_stepTo F y2_10 x4 3) (fun r94 z2_94 => (ckb r94 (some (r94, z2_94, y3_10))))))) F (0 : Int32) x2 x3)
abbrev rm_Reader_readPoints : Room := { frames := 6, cells := 0, slots := 0, locals := 128 }
set_option maxHeartbeats 4000000 in
set_option maxRecDepth 100000 in
theorem c_Reader_readPoints {G : (Nat → Prop) → State → Prop} (hG : gok G) (hGn : gN G) {adK adV : Nat → Nat} (hGs : gSt adK adV G) (l : Launch) (dC : Nat → ClassId) (dI : Nat → Nat → Nat) (g : Nat → ClassId) (F : Nat) (sz : Nat) (h0 : Nat) (q0 : Nat → Nat) (x0 : St) (q1 : Nat → Nat) (x1 : St) (q2 : Nat → Nat) (x2 : St) (q3 : Nat → Nat) (x3 : St) (q4 : Nat → Nat) (x4 : St) (a1 : Int32) {o : Int32 × St × St} (hm : m_Reader_readPoints F x0 x1 x2 x3 x4 a1 = some o) : Met l y_Reader_readPoints (.code y_Reader_readPoints b_Reader_readPoints 5 (some .boolean) :: gw) rm_Reader_readPoints (kq (dC, dI) vwCl (tyv g) G [.ref h0, .int a1] sz (wd_Reader g h0 q0 x0 ++ wd_Plan g (q0 1) q1 x1 ++ wd_Words g (q0 0) q2 x2 ++ wd_Zones g (q1 0) q3 x3 ++ wd_Text g (q2 0) q4 x4)) (kqi (dC, dI) vwCl (tyv g) (wd_Reader g h0 q0 x0 ++ wd_Plan g (q0 1) q1 x1 ++ wd_Words g (q0 0) q2 x2 ++ wd_Zones g (q1 0) q3 x3 ++ wd_Text g (q2 0) q4 x4) o.1 (wd_Reader g h0 q0 x0 ++ wd_Plan g (q0 1) q1 x1 ++ wd_Words g (q0 0) q2 (o.2.1) ++ wd_Zones g (q1 0) q3 (o.2.2) ++ wd_Text g (q2 0) q4 x4) sz) 0 0 (va_A (wd_Reader g h0 q0 x0 ++ wd_Plan g (q0 1) q1 x1 ++ wd_Words g (q0 0) q2 x2 ++ wd_Zones g (q1 0) q3 x3 ++ wd_Text g (q2 0) q4 x4) sz) := by
  unfold m_Reader_readPoints at hm
  refine km (Qc := fun sz => kqi (dC, dI) vwCl (tyv g) (wd_Reader g h0 q0 x0 ++ wd_Plan g (q0 1) q1 x1 ++ wd_Words g (q0 0) q2 x2 ++ wd_Zones g (q1 0) q3 x3 ++ wd_Text g (q2 0) q4 x4) o.1 (wd_Reader g h0 q0 x0 ++ wd_Plan g (q0 1) q1 x1 ++ wd_Words g (q0 0) q2 (o.2.1) ++ wd_Zones g (q1 0) q3 (o.2.2) ++ wd_Text g (q2 0) q4 x4) sz) (cc := b_Reader_readPoints) (maxL := 5) (ret := some .boolean) (by decide) rfl (Nat.le_of_ble_eq_true rfl) ?_
  intro p e s m args below meth c Q hQ hx hb hr hts hown hlocks hml hnm H locs A hAe hA hP hK hD hS hGA ls hl
  have hl : lv_has ls 5 [(0, .ref h0), (1, .int a1)] := hl
  have hts : ∀ w ∈ gw, w.before args s = true := fun w h => hts w (List.mem_cons_of_mem _ h)
  have hown : s.vm.findClass "AlarmMatrix$Reader" = some m.cls := hown
  refine lv_aload_n hx hb d_Reader_readPoints_0 rfl (lv_at hl 0 rfl) ?_
  refine va_get (D := (dC, dI)) (ci := 3) (v := .ref (q0 1)) (C := "AlarmMatrix$Reader") (T := T_Reader) (N := 3) hx hb hts i_Reader hown hK hP 0 rfl rfl 1 (by decide) (hts _ k2_35) (fun _ h9 => h9) rfl d_Reader_readPoints_1 ?_
  refine kcr (wc := wd_Plan g (q0 1) q1 x1) (wr := wd_Reader g h0 q0 x0 ++ wd_Words g (q0 0) q2 x2 ++ wd_Zones g (q1 0) q3 x3 ++ wd_Text g (q2 0) q4 x4) (w1 := wd_Plan g (q0 1) q1 x1) hP hD hS hA [1, 2, 3, 4] [0, 5, 6, 7, 8, 9, 10, 11, 12, 13, 14] rfl rfl (by decide) (by decide) (va_runV (As := []) (rest := []) ⟨hx, hb, hml, hown, hts⟩ (c_Plan_zones hG hGn l dC dI g F H.size (q0 1) q1 x1) (cwV 0 hts (gdV k2_155 k2_156 k2_157 k1_7 k2_158) rfl rfl rfl (by decide +kernel) ⟨Nat.le_of_ble_eq_true rfl, Nat.le_of_ble_eq_true rfl⟩) (kpV hG hP hK hD hS hA hGA [1, 2, 3, 4] (by decide) rfl (ci := 4) (q0 := 0) rfl rfl rfl) rfl rfl hl.1 rfl (lv_room (Nat.le_of_ble_eq_true rfl)) d_Reader_readPoints_4 ⟨Nat.le_of_ble_eq_true rfl, Nat.le_of_ble_eq_true rfl⟩) (fun H locs hP hD hS => ?_)
  have hP : va_P (dC, dI) vwCl (wd_Reader g h0 q0 x0 ++ wd_Plan g (q0 1) q1 x1 ++ wd_Words g (q0 0) q2 x2 ++ wd_Zones g (q1 0) q3 x3 ++ wd_Text g (q2 0) q4 x4) H := hP.sub (ws' := wd_Reader g h0 q0 x0 ++ wd_Plan g (q0 1) q1 x1 ++ wd_Words g (q0 0) q2 x2 ++ wd_Zones g (q1 0) q3 x3 ++ wd_Text g (q2 0) q4 x4) [0, 11, 12, 13, 14, 1, 2, 3, 4, 5, 6, 7, 8, 9, 10] rfl
  have hD : va_D A (wd_Reader g h0 q0 x0 ++ wd_Plan g (q0 1) q1 x1 ++ wd_Words g (q0 0) q2 x2 ++ wd_Zones g (q1 0) q3 x3 ++ wd_Text g (q2 0) q4 x4) := hD.sub (ws' := wd_Reader g h0 q0 x0 ++ wd_Plan g (q0 1) q1 x1 ++ wd_Words g (q0 0) q2 x2 ++ wd_Zones g (q1 0) q3 x3 ++ wd_Text g (q2 0) q4 x4) [0, 11, 12, 13, 14, 1, 2, 3, 4, 5, 6, 7, 8, 9, 10] (by decide) rfl
  refine lv_astore_n (lv' := [(2, .ref (q1 0)), (0, .ref h0), (1, .int a1)]) hx hb d_Reader_readPoints_7 rfl hl (by decide) rfl (fun ls hl => ?_)
  refine lv_iconst (v := (0 : Int32)) hx hb d_Reader_readPoints_8 (by decide) ?_
  refine lv_istore_n (lv' := [(3, .int (0 : Int32)), (2, .ref (q1 0)), (0, .ref h0), (1, .int a1)]) hx hb d_Reader_readPoints_9 rfl hl (by decide) rfl (fun ls hl => ?_)
  have L10 : ∀ (n10 : Nat) (v3_10 : Int32) (y2_10 : St) (y3_10 : St) (H : Heap) (locs : List Loc) (ls : Array Slot), lq3 (m_Reader_readPoints_B10 F x4 x0 a1 (fun v3_10 y2_10 y3_10 => (some ((1 : Int32), y2_10, y3_10))) (fun v3_10 y2_10 y3_10 => (some ((0 : Int32), y2_10, y3_10))) (fun v3_10 y2_10 y3_10 => (bn2 (m_Words_stepTo F y2_10 x4 3) (fun r94 z2_94 => (ckb r94 (some (r94, z2_94, y3_10))))))) n10 v3_10 y2_10 y3_10 = some o → va_P (dC, dI) vwCl (wd_Reader g h0 q0 x0 ++ wd_Plan g (q0 1) q1 x1 ++ wd_Words g (q0 0) q2 y2_10 ++ wd_Zones g (q1 0) q3 y3_10 ++ wd_Text g (q2 0) q4 x4) H → va_D A (wd_Reader g h0 q0 x0 ++ wd_Plan g (q0 1) q1 x1 ++ wd_Words g (q0 0) q2 y2_10 ++ wd_Zones g (q1 0) q3 y3_10 ++ wd_Text g (q2 0) q4 x4) → va_S A s.heap H locs → lv_has ls 5 [(0, .ref h0), (1, .int a1), (2, .ref (q1 0)), (3, .int v3_10)] → W p l e rm_Reader_readPoints s m args below meth c H locs 0 0 Q (F0 m 10 ls []) := by
    intro n10
    induction n10 with
    | zero => intro v3_10 y2_10 y3_10 H locs ls hm; exact absurd hm (by intro z; cases z)
    | succ n10 ih10 =>
      intro v3_10 y2_10 y3_10 H locs ls hm hP hD hS hl
      replace hm := m_Reader_readPoints_B10_h (lq3_h hm)
      refine lv_iload_n hx hb d_Reader_readPoints_10 rfl (lv_at hl 3 rfl) ?_
      refine lv_bipush (v := (12 : Int32)) hx hb d_Reader_readPoints_11 (by decide) ?_
      refine lv_icmp_ge (tgt := 88) hx hb d_Reader_readPoints_13 (by decide) (fun hc => ?_) (fun hc => ?_)
      · replace hm := if_t hm hc
        refine lv_aload_n hx hb d_Reader_readPoints_88 rfl (lv_at hl 0 rfl) ?_
        refine va_get (D := (dC, dI)) (ci := 3) (v := .ref (q0 0)) (C := "AlarmMatrix$Reader") (T := T_Reader) (N := 3) hx hb hts i_Reader hown hK hP 0 rfl rfl 0 (by decide) (hts _ k2_34) (fun _ h9 => h9) rfl d_Reader_readPoints_89 ?_
        refine va_ldcS hx hb hown ((hGs A s hGA).2.2.2 3 (by decide)) d_Reader_readPoints_92 ?_
        obtain ⟨r94, z2_94, hcl, hm⟩ := bn2_s hm
        refine kci (wc := wd_Words g (q0 0) q2 y2_10 ++ wd_Text g (q2 0) q4 x4) (wr := wd_Reader g h0 q0 x0 ++ wd_Plan g (q0 1) q1 x1 ++ wd_Zones g (q1 0) q3 y3_10) (w1 := wd_Words g (q0 0) q2 z2_94 ++ wd_Text g (q2 0) q4 x4) hP hD hS hA [5, 12, 13, 14] [0, 1, 2, 3, 4, 6, 7, 8, 9, 10, 11] rfl rfl (by decide) (by decide) (va_runV (As := [.ref (adK 3)]) (rest := []) ⟨hx, hb, hml, hown, hts⟩ (c_Words_stepTo hG hGn hGs l dC dI g F H.size (q0 0) q2 y2_10 q4 x4 3 (by decide) hcl) (cwV 1 hts (gdV k2_165 k2_166 k2_167 k1_21 k2_168) rfl rfl rfl (by decide +kernel) ⟨Nat.le_of_ble_eq_true rfl, Nat.le_of_ble_eq_true rfl⟩) (kpV hG hP hK hD hS hA hGA [5, 12, 13, 14] (by decide) rfl (ci := 2) (q0 := 0) rfl rfl rfl) rfl rfl hl.1 rfl (lv_room (Nat.le_of_ble_eq_true rfl)) d_Reader_readPoints_94 ⟨Nat.le_of_ble_eq_true rfl, Nat.le_of_ble_eq_true rfl⟩) (fun H locs hP hD hS => ?_)
        have hP : va_P (dC, dI) vwCl (wd_Reader g h0 q0 x0 ++ wd_Plan g (q0 1) q1 x1 ++ wd_Words g (q0 0) q2 z2_94 ++ wd_Zones g (q1 0) q3 y3_10 ++ wd_Text g (q2 0) q4 x4) H := hP.sub (ws' := wd_Reader g h0 q0 x0 ++ wd_Plan g (q0 1) q1 x1 ++ wd_Words g (q0 0) q2 z2_94 ++ wd_Zones g (q1 0) q3 y3_10 ++ wd_Text g (q2 0) q4 x4) [0, 1, 2, 3, 4, 11, 5, 6, 7, 8, 9, 10, 12, 13, 14] rfl
        have hD : va_D A (wd_Reader g h0 q0 x0 ++ wd_Plan g (q0 1) q1 x1 ++ wd_Words g (q0 0) q2 z2_94 ++ wd_Zones g (q1 0) q3 y3_10 ++ wd_Text g (q2 0) q4 x4) := hD.sub (ws' := wd_Reader g h0 q0 x0 ++ wd_Plan g (q0 1) q1 x1 ++ wd_Words g (q0 0) q2 z2_94 ++ wd_Zones g (q1 0) q3 y3_10 ++ wd_Text g (q2 0) q4 x4) [0, 1, 2, 3, 4, 11, 5, 6, 7, 8, 9, 10, 12, 13, 14] (by decide) rfl
        obtain ⟨hz, hm⟩ := ckb_s hm
        obtain rfl := Option.some.inj hm
        rw [hQ]
        exact krz hx hb hr hz hlocks hAe hP hK hD hS d_Reader_readPoints_97
      · replace hm := if_f hm hc
        refine lv_aload_n hx hb d_Reader_readPoints_16 rfl (lv_at hl 0 rfl) ?_
        refine va_get (D := (dC, dI)) (ci := 3) (v := .ref (q0 0)) (C := "AlarmMatrix$Reader") (T := T_Reader) (N := 3) hx hb hts i_Reader hown hK hP 0 rfl rfl 0 (by decide) (hts _ k2_34) (fun _ h9 => h9) rfl d_Reader_readPoints_17 ?_
        obtain ⟨z2_20, hcl, hm⟩ := bn1_s hm
        refine kcv (wc := wd_Words g (q0 0) q2 y2_10 ++ wd_Text g (q2 0) q4 x4) (wr := wd_Reader g h0 q0 x0 ++ wd_Plan g (q0 1) q1 x1 ++ wd_Zones g (q1 0) q3 y3_10) (w1 := wd_Words g (q0 0) q2 z2_20 ++ wd_Text g (q2 0) q4 x4) hP hD hS hA [5, 12, 13, 14] [0, 1, 2, 3, 4, 6, 7, 8, 9, 10, 11] rfl rfl (by decide) (by decide) (va_runV (As := []) (rest := []) ⟨hx, hb, hml, hown, hts⟩ (c_Words_step hG hGn l dC dI g F H.size (q0 0) q2 y2_10 q4 x4 hcl) (cwV 0 hts (gdV k2_63 k2_64 k2_65 k1_21 k2_66) rfl rfl rfl (by decide +kernel) ⟨Nat.le_of_ble_eq_true rfl, Nat.le_of_ble_eq_true rfl⟩) (kpV hG hP hK hD hS hA hGA [5, 12, 13, 14] (by decide) rfl (ci := 2) (q0 := 0) rfl rfl rfl) rfl rfl hl.1 rfl (lv_room (Nat.le_of_ble_eq_true rfl)) d_Reader_readPoints_20 ⟨Nat.le_of_ble_eq_true rfl, Nat.le_of_ble_eq_true rfl⟩) (fun H locs hP hD hS => ?_)
        have hP : va_P (dC, dI) vwCl (wd_Reader g h0 q0 x0 ++ wd_Plan g (q0 1) q1 x1 ++ wd_Words g (q0 0) q2 z2_20 ++ wd_Zones g (q1 0) q3 y3_10 ++ wd_Text g (q2 0) q4 x4) H := hP.sub (ws' := wd_Reader g h0 q0 x0 ++ wd_Plan g (q0 1) q1 x1 ++ wd_Words g (q0 0) q2 z2_20 ++ wd_Zones g (q1 0) q3 y3_10 ++ wd_Text g (q2 0) q4 x4) [0, 1, 2, 3, 4, 11, 5, 6, 7, 8, 9, 10, 12, 13, 14] rfl
        have hD : va_D A (wd_Reader g h0 q0 x0 ++ wd_Plan g (q0 1) q1 x1 ++ wd_Words g (q0 0) q2 z2_20 ++ wd_Zones g (q1 0) q3 y3_10 ++ wd_Text g (q2 0) q4 x4) := hD.sub (ws' := wd_Reader g h0 q0 x0 ++ wd_Plan g (q0 1) q1 x1 ++ wd_Words g (q0 0) q2 z2_20 ++ wd_Zones g (q1 0) q3 y3_10 ++ wd_Text g (q2 0) q4 x4) [0, 1, 2, 3, 4, 11, 5, 6, 7, 8, 9, 10, 12, 13, 14] (by decide) rfl
        refine lv_iload_n hx hb d_Reader_readPoints_23 rfl (lv_at hl 3 rfl) ?_
        refine lv_if_le (tgt := 41) hx hb d_Reader_readPoints_24 (by decide) (fun hc => ?_) (fun hc => ?_)
        · replace hm := if_t hm hc
          refine lv_aload_n hx hb d_Reader_readPoints_41 rfl (lv_at hl 0 rfl) ?_
          refine va_get (D := (dC, dI)) (ci := 3) (v := .ref (q0 0)) (C := "AlarmMatrix$Reader") (T := T_Reader) (N := 3) hx hb hts i_Reader hown hK hP 0 rfl rfl 0 (by decide) (hts _ k2_34) (fun _ h9 => h9) rfl d_Reader_readPoints_42 ?_
          refine lv_iconst (v := (0 : Int32)) hx hb d_Reader_readPoints_45 (by decide) ?_
          refine lv_aload_n hx hb d_Reader_readPoints_46 rfl (lv_at hl 0 rfl) ?_
          refine va_get (D := (dC, dI)) (ci := 3) (v := .int (x0 2 0)) (C := "AlarmMatrix$Reader") (T := T_Reader) (N := 3) hx hb hts i_Reader hown hK hP 0 rfl rfl 2 (by decide) (hts _ k2_36) (fun _ h9 => h9) rfl d_Reader_readPoints_47 ?_
          refine lv_iconst (v := (1 : Int32)) hx hb d_Reader_readPoints_50 (by decide) ?_
          refine lv_isub hx hb d_Reader_readPoints_51 ?_
          obtain ⟨r52, hcl, hm⟩ := bn1_s hm
          refine kci (wc := wd_Words g (q0 0) q2 z2_20 ++ wd_Text g (q2 0) q4 x4) (wr := wd_Reader g h0 q0 x0 ++ wd_Plan g (q0 1) q1 x1 ++ wd_Zones g (q1 0) q3 y3_10) (w1 := wd_Words g (q0 0) q2 z2_20 ++ wd_Text g (q2 0) q4 x4) hP hD hS hA [5, 12, 13, 14] [0, 1, 2, 3, 4, 6, 7, 8, 9, 10, 11] rfl rfl (by decide) (by decide) (va_runV (As := [.int (0 : Int32), .int ((x0 2 0) - (1 : Int32))]) (rest := []) ⟨hx, hb, hml, hown, hts⟩ (c_Words_valueWithin hG hGn l dC dI g F H.size (q0 0) q2 z2_20 q4 x4 (0 : Int32) ((x0 2 0) - (1 : Int32)) hcl) (cwV 2 hts (gdV k2_180 k2_149 k2_150 k1_21 k2_151) rfl rfl rfl (by decide +kernel) ⟨Nat.le_of_ble_eq_true rfl, Nat.le_of_ble_eq_true rfl⟩) (kpV hG hP hK hD hS hA hGA [5, 12, 13, 14] (by decide) rfl (ci := 2) (q0 := 0) rfl rfl rfl) rfl rfl hl.1 rfl (lv_room (Nat.le_of_ble_eq_true rfl)) d_Reader_readPoints_52 ⟨Nat.le_of_ble_eq_true rfl, Nat.le_of_ble_eq_true rfl⟩) (fun H locs hP hD hS => ?_)
          have hP : va_P (dC, dI) vwCl (wd_Reader g h0 q0 x0 ++ wd_Plan g (q0 1) q1 x1 ++ wd_Words g (q0 0) q2 z2_20 ++ wd_Zones g (q1 0) q3 y3_10 ++ wd_Text g (q2 0) q4 x4) H := hP.sub (ws' := wd_Reader g h0 q0 x0 ++ wd_Plan g (q0 1) q1 x1 ++ wd_Words g (q0 0) q2 z2_20 ++ wd_Zones g (q1 0) q3 y3_10 ++ wd_Text g (q2 0) q4 x4) [0, 1, 2, 3, 4, 11, 5, 6, 7, 8, 9, 10, 12, 13, 14] rfl
          have hD : va_D A (wd_Reader g h0 q0 x0 ++ wd_Plan g (q0 1) q1 x1 ++ wd_Words g (q0 0) q2 z2_20 ++ wd_Zones g (q1 0) q3 y3_10 ++ wd_Text g (q2 0) q4 x4) := hD.sub (ws' := wd_Reader g h0 q0 x0 ++ wd_Plan g (q0 1) q1 x1 ++ wd_Words g (q0 0) q2 z2_20 ++ wd_Zones g (q1 0) q3 y3_10 ++ wd_Text g (q2 0) q4 x4) [0, 1, 2, 3, 4, 11, 5, 6, 7, 8, 9, 10, 12, 13, 14] (by decide) rfl
          refine lv_istore (lv' := [(4, .int r52), (0, .ref h0), (1, .int a1), (2, .ref (q1 0)), (3, .int v3_10)]) hx hb d_Reader_readPoints_55 hl (by decide) rfl (fun ls hl => ?_)
          refine lv_iload hx hb d_Reader_readPoints_57 (lv_at hl 0 rfl) ?_
          refine lv_iconst (v := (-1 : Int32)) hx hb d_Reader_readPoints_59 (by decide) ?_
          refine lv_icmp_eq (tgt := 73) hx hb d_Reader_readPoints_60 (by decide) (fun hc => ?_) (fun hc => ?_)
          · replace hm := if_t hm hc
            refine lv_iconst (v := (0 : Int32)) hx hb d_Reader_readPoints_73 (by decide) ?_
            obtain rfl := Option.some.inj hm
            rw [hQ]
            exact krz hx hb hr nar_0 hlocks hAe hP hK hD hS d_Reader_readPoints_74
          · replace hm := if_f hm hc
            refine lv_aload_n hx hb d_Reader_readPoints_63 rfl (lv_at hl 3 rfl) ?_
            refine lv_iload_n hx hb d_Reader_readPoints_64 rfl (lv_at hl 2 rfl) ?_
            refine lv_iload hx hb d_Reader_readPoints_65 (lv_at hl 0 rfl) ?_
            obtain ⟨r67, hcl, hm⟩ := bn1_s hm
            refine kci (wc := wd_Zones g (q1 0) q3 y3_10) (wr := wd_Reader g h0 q0 x0 ++ wd_Plan g (q0 1) q1 x1 ++ wd_Words g (q0 0) q2 z2_20 ++ wd_Text g (q2 0) q4 x4) (w1 := wd_Zones g (q1 0) q3 y3_10) hP hD hS hA [6, 7, 8, 9, 10, 11] [0, 1, 2, 3, 4, 5, 12, 13, 14] rfl rfl (by decide) (by decide) (va_runV (As := [.int a1, .int r52]) (rest := []) ⟨hx, hb, hml, hown, hts⟩ (c_Zones_hasPoint hG hGn l dC dI g F H.size (q1 0) q3 y3_10 a1 r52 hcl) (cwV 2 hts (gdV k2_181 k2_182 k2_183 k1_8 k2_184) rfl rfl rfl (by decide +kernel) ⟨Nat.le_of_ble_eq_true rfl, Nat.le_of_ble_eq_true rfl⟩) (kpV hG hP hK hD hS hA hGA [6, 7, 8, 9, 10, 11] (by decide) rfl (ci := 5) (q0 := 0) rfl rfl rfl) rfl rfl hl.1 rfl (lv_room (Nat.le_of_ble_eq_true rfl)) d_Reader_readPoints_67 ⟨Nat.le_of_ble_eq_true rfl, Nat.le_of_ble_eq_true rfl⟩) (fun H locs hP hD hS => ?_)
            have hP : va_P (dC, dI) vwCl (wd_Reader g h0 q0 x0 ++ wd_Plan g (q0 1) q1 x1 ++ wd_Words g (q0 0) q2 z2_20 ++ wd_Zones g (q1 0) q3 y3_10 ++ wd_Text g (q2 0) q4 x4) H := hP.sub (ws' := wd_Reader g h0 q0 x0 ++ wd_Plan g (q0 1) q1 x1 ++ wd_Words g (q0 0) q2 z2_20 ++ wd_Zones g (q1 0) q3 y3_10 ++ wd_Text g (q2 0) q4 x4) [0, 1, 2, 3, 4, 5, 9, 10, 11, 12, 13, 14, 6, 7, 8] rfl
            have hD : va_D A (wd_Reader g h0 q0 x0 ++ wd_Plan g (q0 1) q1 x1 ++ wd_Words g (q0 0) q2 z2_20 ++ wd_Zones g (q1 0) q3 y3_10 ++ wd_Text g (q2 0) q4 x4) := hD.sub (ws' := wd_Reader g h0 q0 x0 ++ wd_Plan g (q0 1) q1 x1 ++ wd_Words g (q0 0) q2 z2_20 ++ wd_Zones g (q1 0) q3 y3_10 ++ wd_Text g (q2 0) q4 x4) [0, 1, 2, 3, 4, 5, 9, 10, 11, 12, 13, 14, 6, 7, 8] (by decide) rfl
            refine lv_if_eq (tgt := 75) hx hb d_Reader_readPoints_70 (by decide) (fun hc => ?_) (fun hc => ?_)
            · replace hm := if_t hm hc
              refine lv_aload_n hx hb d_Reader_readPoints_75 rfl (lv_at hl 3 rfl) ?_
              refine lv_iload_n hx hb d_Reader_readPoints_76 rfl (lv_at hl 2 rfl) ?_
              refine lv_iload hx hb d_Reader_readPoints_77 (lv_at hl 0 rfl) ?_
              obtain ⟨z3_79, hcl, hm⟩ := bn1_s hm
              refine kcv (wc := wd_Zones g (q1 0) q3 y3_10) (wr := wd_Reader g h0 q0 x0 ++ wd_Plan g (q0 1) q1 x1 ++ wd_Words g (q0 0) q2 z2_20 ++ wd_Text g (q2 0) q4 x4) (w1 := wd_Zones g (q1 0) q3 z3_79) hP hD hS hA [6, 7, 8, 9, 10, 11] [0, 1, 2, 3, 4, 5, 12, 13, 14] rfl rfl (by decide) (by decide) (va_runV (As := [.int a1, .int r52]) (rest := []) ⟨hx, hb, hml, hown, hts⟩ (c_Zones_addPoint hG hGn l dC dI g F H.size (q1 0) q3 y3_10 a1 r52 hcl) (cwV 2 hts (gdV k2_185 k2_186 k2_187 k1_8 k2_188) rfl rfl rfl (by decide +kernel) ⟨Nat.le_of_ble_eq_true rfl, Nat.le_of_ble_eq_true rfl⟩) (kpV hG hP hK hD hS hA hGA [6, 7, 8, 9, 10, 11] (by decide) rfl (ci := 5) (q0 := 0) rfl rfl rfl) rfl rfl hl.1 rfl (lv_room (Nat.le_of_ble_eq_true rfl)) d_Reader_readPoints_79 ⟨Nat.le_of_ble_eq_true rfl, Nat.le_of_ble_eq_true rfl⟩) (fun H locs hP hD hS => ?_)
              have hP : va_P (dC, dI) vwCl (wd_Reader g h0 q0 x0 ++ wd_Plan g (q0 1) q1 x1 ++ wd_Words g (q0 0) q2 z2_20 ++ wd_Zones g (q1 0) q3 z3_79 ++ wd_Text g (q2 0) q4 x4) H := hP.sub (ws' := wd_Reader g h0 q0 x0 ++ wd_Plan g (q0 1) q1 x1 ++ wd_Words g (q0 0) q2 z2_20 ++ wd_Zones g (q1 0) q3 z3_79 ++ wd_Text g (q2 0) q4 x4) [0, 1, 2, 3, 4, 5, 9, 10, 11, 12, 13, 14, 6, 7, 8] rfl
              have hD : va_D A (wd_Reader g h0 q0 x0 ++ wd_Plan g (q0 1) q1 x1 ++ wd_Words g (q0 0) q2 z2_20 ++ wd_Zones g (q1 0) q3 z3_79 ++ wd_Text g (q2 0) q4 x4) := hD.sub (ws' := wd_Reader g h0 q0 x0 ++ wd_Plan g (q0 1) q1 x1 ++ wd_Words g (q0 0) q2 z2_20 ++ wd_Zones g (q1 0) q3 z3_79 ++ wd_Text g (q2 0) q4 x4) [0, 1, 2, 3, 4, 5, 9, 10, 11, 12, 13, 14, 6, 7, 8] (by decide) rfl
              refine lv_iinc (v := (v3_10 + (1 : Int32))) (lv' := [(3, .int (v3_10 + (1 : Int32))), (4, .int r52), (0, .ref h0), (1, .int a1), (2, .ref (q1 0))]) hx hb d_Reader_readPoints_82 hl (k := 4) rfl rfl (by decide) rfl (fun ls hl => ?_)
              refine lv_goto (tgt := 10) hx hb d_Reader_readPoints_85 (by decide) ?_
              exact ih10 (v3_10 + (1 : Int32)) z2_20 z3_79 H locs ls hm hP hD hS (lv_sub hl [2, 3, 4, 0] rfl)
            · replace hm := if_f hm hc
              refine lv_iconst (v := (0 : Int32)) hx hb d_Reader_readPoints_73 (by decide) ?_
              obtain rfl := Option.some.inj hm
              rw [hQ]
              exact krz hx hb hr nar_0 hlocks hAe hP hK hD hS d_Reader_readPoints_74
        · replace hm := if_f hm hc
          refine lv_aload_n hx hb d_Reader_readPoints_27 rfl (lv_at hl 0 rfl) ?_
          refine va_get (D := (dC, dI)) (ci := 3) (v := .ref (q0 0)) (C := "AlarmMatrix$Reader") (T := T_Reader) (N := 3) hx hb hts i_Reader hown hK hP 0 rfl rfl 0 (by decide) (hts _ k2_34) (fun _ h9 => h9) rfl d_Reader_readPoints_28 ?_
          refine va_ldcS hx hb hown ((hGs A s hGA).2.2.2 3 (by decide)) d_Reader_readPoints_31 ?_
          obtain ⟨r33, hcl, hm⟩ := bn1_s hm
          refine kci (wc := wd_Words g (q0 0) q2 z2_20 ++ wd_Text g (q2 0) q4 x4) (wr := wd_Reader g h0 q0 x0 ++ wd_Plan g (q0 1) q1 x1 ++ wd_Zones g (q1 0) q3 y3_10) (w1 := wd_Words g (q0 0) q2 z2_20 ++ wd_Text g (q2 0) q4 x4) hP hD hS hA [5, 12, 13, 14] [0, 1, 2, 3, 4, 6, 7, 8, 9, 10, 11] rfl rfl (by decide) (by decide) (va_runV (As := [.ref (adK 3)]) (rest := []) ⟨hx, hb, hml, hown, hts⟩ (c_Words_is hG hGn hGs l dC dI g F H.size (q0 0) q2 z2_20 q4 x4 3 (by decide) hcl) (cwV 1 hts (gdV k2_87 k2_88 k2_89 k1_21 k2_90) rfl rfl rfl (by decide +kernel) ⟨Nat.le_of_ble_eq_true rfl, Nat.le_of_ble_eq_true rfl⟩) (kpV hG hP hK hD hS hA hGA [5, 12, 13, 14] (by decide) rfl (ci := 2) (q0 := 0) rfl rfl rfl) rfl rfl hl.1 rfl (lv_room (Nat.le_of_ble_eq_true rfl)) d_Reader_readPoints_33 ⟨Nat.le_of_ble_eq_true rfl, Nat.le_of_ble_eq_true rfl⟩) (fun H locs hP hD hS => ?_)
          have hP : va_P (dC, dI) vwCl (wd_Reader g h0 q0 x0 ++ wd_Plan g (q0 1) q1 x1 ++ wd_Words g (q0 0) q2 z2_20 ++ wd_Zones g (q1 0) q3 y3_10 ++ wd_Text g (q2 0) q4 x4) H := hP.sub (ws' := wd_Reader g h0 q0 x0 ++ wd_Plan g (q0 1) q1 x1 ++ wd_Words g (q0 0) q2 z2_20 ++ wd_Zones g (q1 0) q3 y3_10 ++ wd_Text g (q2 0) q4 x4) [0, 1, 2, 3, 4, 11, 5, 6, 7, 8, 9, 10, 12, 13, 14] rfl
          have hD : va_D A (wd_Reader g h0 q0 x0 ++ wd_Plan g (q0 1) q1 x1 ++ wd_Words g (q0 0) q2 z2_20 ++ wd_Zones g (q1 0) q3 y3_10 ++ wd_Text g (q2 0) q4 x4) := hD.sub (ws' := wd_Reader g h0 q0 x0 ++ wd_Plan g (q0 1) q1 x1 ++ wd_Words g (q0 0) q2 z2_20 ++ wd_Zones g (q1 0) q3 y3_10 ++ wd_Text g (q2 0) q4 x4) [0, 1, 2, 3, 4, 11, 5, 6, 7, 8, 9, 10, 12, 13, 14] (by decide) rfl
          refine lv_if_eq (tgt := 41) hx hb d_Reader_readPoints_36 (by decide) (fun hc => ?_) (fun hc => ?_)
          · replace hm := if_t hm hc
            refine lv_aload_n hx hb d_Reader_readPoints_41 rfl (lv_at hl 0 rfl) ?_
            refine va_get (D := (dC, dI)) (ci := 3) (v := .ref (q0 0)) (C := "AlarmMatrix$Reader") (T := T_Reader) (N := 3) hx hb hts i_Reader hown hK hP 0 rfl rfl 0 (by decide) (hts _ k2_34) (fun _ h9 => h9) rfl d_Reader_readPoints_42 ?_
            refine lv_iconst (v := (0 : Int32)) hx hb d_Reader_readPoints_45 (by decide) ?_
            refine lv_aload_n hx hb d_Reader_readPoints_46 rfl (lv_at hl 0 rfl) ?_
            refine va_get (D := (dC, dI)) (ci := 3) (v := .int (x0 2 0)) (C := "AlarmMatrix$Reader") (T := T_Reader) (N := 3) hx hb hts i_Reader hown hK hP 0 rfl rfl 2 (by decide) (hts _ k2_36) (fun _ h9 => h9) rfl d_Reader_readPoints_47 ?_
            refine lv_iconst (v := (1 : Int32)) hx hb d_Reader_readPoints_50 (by decide) ?_
            refine lv_isub hx hb d_Reader_readPoints_51 ?_
            obtain ⟨r52, hcl, hm⟩ := bn1_s hm
            refine kci (wc := wd_Words g (q0 0) q2 z2_20 ++ wd_Text g (q2 0) q4 x4) (wr := wd_Reader g h0 q0 x0 ++ wd_Plan g (q0 1) q1 x1 ++ wd_Zones g (q1 0) q3 y3_10) (w1 := wd_Words g (q0 0) q2 z2_20 ++ wd_Text g (q2 0) q4 x4) hP hD hS hA [5, 12, 13, 14] [0, 1, 2, 3, 4, 6, 7, 8, 9, 10, 11] rfl rfl (by decide) (by decide) (va_runV (As := [.int (0 : Int32), .int ((x0 2 0) - (1 : Int32))]) (rest := []) ⟨hx, hb, hml, hown, hts⟩ (c_Words_valueWithin hG hGn l dC dI g F H.size (q0 0) q2 z2_20 q4 x4 (0 : Int32) ((x0 2 0) - (1 : Int32)) hcl) (cwV 2 hts (gdV k2_180 k2_149 k2_150 k1_21 k2_151) rfl rfl rfl (by decide +kernel) ⟨Nat.le_of_ble_eq_true rfl, Nat.le_of_ble_eq_true rfl⟩) (kpV hG hP hK hD hS hA hGA [5, 12, 13, 14] (by decide) rfl (ci := 2) (q0 := 0) rfl rfl rfl) rfl rfl hl.1 rfl (lv_room (Nat.le_of_ble_eq_true rfl)) d_Reader_readPoints_52 ⟨Nat.le_of_ble_eq_true rfl, Nat.le_of_ble_eq_true rfl⟩) (fun H locs hP hD hS => ?_)
            have hP : va_P (dC, dI) vwCl (wd_Reader g h0 q0 x0 ++ wd_Plan g (q0 1) q1 x1 ++ wd_Words g (q0 0) q2 z2_20 ++ wd_Zones g (q1 0) q3 y3_10 ++ wd_Text g (q2 0) q4 x4) H := hP.sub (ws' := wd_Reader g h0 q0 x0 ++ wd_Plan g (q0 1) q1 x1 ++ wd_Words g (q0 0) q2 z2_20 ++ wd_Zones g (q1 0) q3 y3_10 ++ wd_Text g (q2 0) q4 x4) [0, 1, 2, 3, 4, 11, 5, 6, 7, 8, 9, 10, 12, 13, 14] rfl
            have hD : va_D A (wd_Reader g h0 q0 x0 ++ wd_Plan g (q0 1) q1 x1 ++ wd_Words g (q0 0) q2 z2_20 ++ wd_Zones g (q1 0) q3 y3_10 ++ wd_Text g (q2 0) q4 x4) := hD.sub (ws' := wd_Reader g h0 q0 x0 ++ wd_Plan g (q0 1) q1 x1 ++ wd_Words g (q0 0) q2 z2_20 ++ wd_Zones g (q1 0) q3 y3_10 ++ wd_Text g (q2 0) q4 x4) [0, 1, 2, 3, 4, 11, 5, 6, 7, 8, 9, 10, 12, 13, 14] (by decide) rfl
            refine lv_istore (lv' := [(4, .int r52), (0, .ref h0), (1, .int a1), (2, .ref (q1 0)), (3, .int v3_10)]) hx hb d_Reader_readPoints_55 hl (by decide) rfl (fun ls hl => ?_)
            refine lv_iload hx hb d_Reader_readPoints_57 (lv_at hl 0 rfl) ?_
            refine lv_iconst (v := (-1 : Int32)) hx hb d_Reader_readPoints_59 (by decide) ?_
            refine lv_icmp_eq (tgt := 73) hx hb d_Reader_readPoints_60 (by decide) (fun hc => ?_) (fun hc => ?_)
            · replace hm := if_t hm hc
              refine lv_iconst (v := (0 : Int32)) hx hb d_Reader_readPoints_73 (by decide) ?_
              obtain rfl := Option.some.inj hm
              rw [hQ]
              exact krz hx hb hr nar_0 hlocks hAe hP hK hD hS d_Reader_readPoints_74
            · replace hm := if_f hm hc
              refine lv_aload_n hx hb d_Reader_readPoints_63 rfl (lv_at hl 3 rfl) ?_
              refine lv_iload_n hx hb d_Reader_readPoints_64 rfl (lv_at hl 2 rfl) ?_
              refine lv_iload hx hb d_Reader_readPoints_65 (lv_at hl 0 rfl) ?_
              obtain ⟨r67, hcl, hm⟩ := bn1_s hm
              refine kci (wc := wd_Zones g (q1 0) q3 y3_10) (wr := wd_Reader g h0 q0 x0 ++ wd_Plan g (q0 1) q1 x1 ++ wd_Words g (q0 0) q2 z2_20 ++ wd_Text g (q2 0) q4 x4) (w1 := wd_Zones g (q1 0) q3 y3_10) hP hD hS hA [6, 7, 8, 9, 10, 11] [0, 1, 2, 3, 4, 5, 12, 13, 14] rfl rfl (by decide) (by decide) (va_runV (As := [.int a1, .int r52]) (rest := []) ⟨hx, hb, hml, hown, hts⟩ (c_Zones_hasPoint hG hGn l dC dI g F H.size (q1 0) q3 y3_10 a1 r52 hcl) (cwV 2 hts (gdV k2_181 k2_182 k2_183 k1_8 k2_184) rfl rfl rfl (by decide +kernel) ⟨Nat.le_of_ble_eq_true rfl, Nat.le_of_ble_eq_true rfl⟩) (kpV hG hP hK hD hS hA hGA [6, 7, 8, 9, 10, 11] (by decide) rfl (ci := 5) (q0 := 0) rfl rfl rfl) rfl rfl hl.1 rfl (lv_room (Nat.le_of_ble_eq_true rfl)) d_Reader_readPoints_67 ⟨Nat.le_of_ble_eq_true rfl, Nat.le_of_ble_eq_true rfl⟩) (fun H locs hP hD hS => ?_)
              have hP : va_P (dC, dI) vwCl (wd_Reader g h0 q0 x0 ++ wd_Plan g (q0 1) q1 x1 ++ wd_Words g (q0 0) q2 z2_20 ++ wd_Zones g (q1 0) q3 y3_10 ++ wd_Text g (q2 0) q4 x4) H := hP.sub (ws' := wd_Reader g h0 q0 x0 ++ wd_Plan g (q0 1) q1 x1 ++ wd_Words g (q0 0) q2 z2_20 ++ wd_Zones g (q1 0) q3 y3_10 ++ wd_Text g (q2 0) q4 x4) [0, 1, 2, 3, 4, 5, 9, 10, 11, 12, 13, 14, 6, 7, 8] rfl
              have hD : va_D A (wd_Reader g h0 q0 x0 ++ wd_Plan g (q0 1) q1 x1 ++ wd_Words g (q0 0) q2 z2_20 ++ wd_Zones g (q1 0) q3 y3_10 ++ wd_Text g (q2 0) q4 x4) := hD.sub (ws' := wd_Reader g h0 q0 x0 ++ wd_Plan g (q0 1) q1 x1 ++ wd_Words g (q0 0) q2 z2_20 ++ wd_Zones g (q1 0) q3 y3_10 ++ wd_Text g (q2 0) q4 x4) [0, 1, 2, 3, 4, 5, 9, 10, 11, 12, 13, 14, 6, 7, 8] (by decide) rfl
              refine lv_if_eq (tgt := 75) hx hb d_Reader_readPoints_70 (by decide) (fun hc => ?_) (fun hc => ?_)
              · replace hm := if_t hm hc
                refine lv_aload_n hx hb d_Reader_readPoints_75 rfl (lv_at hl 3 rfl) ?_
                refine lv_iload_n hx hb d_Reader_readPoints_76 rfl (lv_at hl 2 rfl) ?_
                refine lv_iload hx hb d_Reader_readPoints_77 (lv_at hl 0 rfl) ?_
                obtain ⟨z3_79, hcl, hm⟩ := bn1_s hm
                refine kcv (wc := wd_Zones g (q1 0) q3 y3_10) (wr := wd_Reader g h0 q0 x0 ++ wd_Plan g (q0 1) q1 x1 ++ wd_Words g (q0 0) q2 z2_20 ++ wd_Text g (q2 0) q4 x4) (w1 := wd_Zones g (q1 0) q3 z3_79) hP hD hS hA [6, 7, 8, 9, 10, 11] [0, 1, 2, 3, 4, 5, 12, 13, 14] rfl rfl (by decide) (by decide) (va_runV (As := [.int a1, .int r52]) (rest := []) ⟨hx, hb, hml, hown, hts⟩ (c_Zones_addPoint hG hGn l dC dI g F H.size (q1 0) q3 y3_10 a1 r52 hcl) (cwV 2 hts (gdV k2_185 k2_186 k2_187 k1_8 k2_188) rfl rfl rfl (by decide +kernel) ⟨Nat.le_of_ble_eq_true rfl, Nat.le_of_ble_eq_true rfl⟩) (kpV hG hP hK hD hS hA hGA [6, 7, 8, 9, 10, 11] (by decide) rfl (ci := 5) (q0 := 0) rfl rfl rfl) rfl rfl hl.1 rfl (lv_room (Nat.le_of_ble_eq_true rfl)) d_Reader_readPoints_79 ⟨Nat.le_of_ble_eq_true rfl, Nat.le_of_ble_eq_true rfl⟩) (fun H locs hP hD hS => ?_)
                have hP : va_P (dC, dI) vwCl (wd_Reader g h0 q0 x0 ++ wd_Plan g (q0 1) q1 x1 ++ wd_Words g (q0 0) q2 z2_20 ++ wd_Zones g (q1 0) q3 z3_79 ++ wd_Text g (q2 0) q4 x4) H := hP.sub (ws' := wd_Reader g h0 q0 x0 ++ wd_Plan g (q0 1) q1 x1 ++ wd_Words g (q0 0) q2 z2_20 ++ wd_Zones g (q1 0) q3 z3_79 ++ wd_Text g (q2 0) q4 x4) [0, 1, 2, 3, 4, 5, 9, 10, 11, 12, 13, 14, 6, 7, 8] rfl
                have hD : va_D A (wd_Reader g h0 q0 x0 ++ wd_Plan g (q0 1) q1 x1 ++ wd_Words g (q0 0) q2 z2_20 ++ wd_Zones g (q1 0) q3 z3_79 ++ wd_Text g (q2 0) q4 x4) := hD.sub (ws' := wd_Reader g h0 q0 x0 ++ wd_Plan g (q0 1) q1 x1 ++ wd_Words g (q0 0) q2 z2_20 ++ wd_Zones g (q1 0) q3 z3_79 ++ wd_Text g (q2 0) q4 x4) [0, 1, 2, 3, 4, 5, 9, 10, 11, 12, 13, 14, 6, 7, 8] (by decide) rfl
                refine lv_iinc (v := (v3_10 + (1 : Int32))) (lv' := [(3, .int (v3_10 + (1 : Int32))), (4, .int r52), (0, .ref h0), (1, .int a1), (2, .ref (q1 0))]) hx hb d_Reader_readPoints_82 hl (k := 4) rfl rfl (by decide) rfl (fun ls hl => ?_)
                refine lv_goto (tgt := 10) hx hb d_Reader_readPoints_85 (by decide) ?_
                exact ih10 (v3_10 + (1 : Int32)) z2_20 z3_79 H locs ls hm hP hD hS (lv_sub hl [2, 3, 4, 0] rfl)
              · replace hm := if_f hm hc
                refine lv_iconst (v := (0 : Int32)) hx hb d_Reader_readPoints_73 (by decide) ?_
                obtain rfl := Option.some.inj hm
                rw [hQ]
                exact krz hx hb hr nar_0 hlocks hAe hP hK hD hS d_Reader_readPoints_74
          · replace hm := if_f hm hc
            refine lv_iconst (v := (1 : Int32)) hx hb d_Reader_readPoints_39 (by decide) ?_
            obtain rfl := Option.some.inj hm
            rw [hQ]
            exact krz hx hb hr nar_1 hlocks hAe hP hK hD hS d_Reader_readPoints_40
  exact L10 F (0 : Int32) x2 x3 H locs ls hm hP hD hS (lv_sub hl [2, 3, 1, 0] rfl)
abbrev b_Reader_readZone : ByteArray := prog_7_method_4_code
abbrev y_Reader_readZone : MethodName := ⟨"AlarmMatrix$Reader", "readZone", "()I"⟩
theorem d_Reader_readZone_0 : decode b_Reader_readZone 0 = .ok (.aload_n 0, 1) := by decide +kernel
theorem d_Reader_readZone_1 : decode b_Reader_readZone 1 = .ok (.getfield 14, 3) := by decide +kernel
theorem d_Reader_readZone_4 : decode b_Reader_readZone 4 = .ok (.iconst 0, 1) := by decide +kernel
theorem d_Reader_readZone_5 : decode b_Reader_readZone 5 = .ok (.bipush 19, 2) := by decide +kernel
theorem d_Reader_readZone_7 : decode b_Reader_readZone 7 = .ok (.invokevirtual 71, 3) := by decide +kernel
theorem d_Reader_readZone_10 : decode b_Reader_readZone 10 = .ok (.istore_n 1, 1) := by decide +kernel
theorem d_Reader_readZone_11 : decode b_Reader_readZone 11 = .ok (.iload_n 1, 1) := by decide +kernel
theorem d_Reader_readZone_12 : decode b_Reader_readZone 12 = .ok (.iconst (-1), 1) := by decide +kernel
theorem d_Reader_readZone_13 : decode b_Reader_readZone 13 = .ok (.if_icmp .eq 29, 3) := by decide +kernel
theorem d_Reader_readZone_16 : decode b_Reader_readZone 16 = .ok (.aload_n 0, 1) := by decide +kernel
theorem d_Reader_readZone_17 : decode b_Reader_readZone 17 = .ok (.getfield 20, 3) := by decide +kernel
theorem d_Reader_readZone_20 : decode b_Reader_readZone 20 = .ok (.invokevirtual 75, 3) := by decide +kernel
theorem d_Reader_readZone_23 : decode b_Reader_readZone 23 = .ok (.iload_n 1, 1) := by decide +kernel
theorem d_Reader_readZone_24 : decode b_Reader_readZone 24 = .ok (.invokevirtual 79, 3) := by decide +kernel
theorem d_Reader_readZone_27 : decode b_Reader_readZone 27 = .ok (.ifCond .ne 15, 3) := by decide +kernel
theorem d_Reader_readZone_30 : decode b_Reader_readZone 30 = .ok (.aload_n 0, 1) := by decide +kernel
theorem d_Reader_readZone_31 : decode b_Reader_readZone 31 = .ok (.getfield 14, 3) := by decide +kernel
theorem d_Reader_readZone_34 : decode b_Reader_readZone 34 = .ok (.ldc 85, 2) := by decide +kernel
theorem d_Reader_readZone_36 : decode b_Reader_readZone 36 = .ok (.invokevirtual 87, 3) := by decide +kernel
theorem d_Reader_readZone_39 : decode b_Reader_readZone 39 = .ok (.ifCond .ne 11, 3) := by decide +kernel
theorem d_Reader_readZone_42 : decode b_Reader_readZone 42 = .ok (.aload_n 0, 1) := by decide +kernel
theorem d_Reader_readZone_43 : decode b_Reader_readZone 43 = .ok (.getfield 14, 3) := by decide +kernel
theorem d_Reader_readZone_46 : decode b_Reader_readZone 46 = .ok (.invokevirtual 68, 3) := by decide +kernel
theorem d_Reader_readZone_49 : decode b_Reader_readZone 49 = .ok (.ireturn, 1) := by decide +kernel
theorem d_Reader_readZone_50 : decode b_Reader_readZone 50 = .ok (.aload_n 0, 1) := by decide +kernel
theorem d_Reader_readZone_51 : decode b_Reader_readZone 51 = .ok (.getfield 14, 3) := by decide +kernel
theorem d_Reader_readZone_54 : decode b_Reader_readZone 54 = .ok (.iconst 1, 1) := by decide +kernel
theorem d_Reader_readZone_55 : decode b_Reader_readZone 55 = .ok (.bipush 12, 2) := by decide +kernel
theorem d_Reader_readZone_57 : decode b_Reader_readZone 57 = .ok (.invokevirtual 71, 3) := by decide +kernel
theorem d_Reader_readZone_60 : decode b_Reader_readZone 60 = .ok (.istore_n 2, 1) := by decide +kernel
theorem d_Reader_readZone_61 : decode b_Reader_readZone 61 = .ok (.aload_n 0, 1) := by decide +kernel
theorem d_Reader_readZone_62 : decode b_Reader_readZone 62 = .ok (.getfield 14, 3) := by decide +kernel
theorem d_Reader_readZone_65 : decode b_Reader_readZone 65 = .ok (.invokevirtual 68, 3) := by decide +kernel
theorem d_Reader_readZone_68 : decode b_Reader_readZone 68 = .ok (.istore_n 3, 1) := by decide +kernel
theorem d_Reader_readZone_69 : decode b_Reader_readZone 69 = .ok (.iload_n 2, 1) := by decide +kernel
theorem d_Reader_readZone_70 : decode b_Reader_readZone 70 = .ok (.iconst (-1), 1) := by decide +kernel
theorem d_Reader_readZone_71 : decode b_Reader_readZone 71 = .ok (.if_icmp .eq 23, 3) := by decide +kernel
theorem d_Reader_readZone_74 : decode b_Reader_readZone 74 = .ok (.aload_n 0, 1) := by decide +kernel
theorem d_Reader_readZone_75 : decode b_Reader_readZone 75 = .ok (.getfield 14, 3) := by decide +kernel
theorem d_Reader_readZone_78 : decode b_Reader_readZone 78 = .ok (.ldc 90, 2) := by decide +kernel
theorem d_Reader_readZone_80 : decode b_Reader_readZone 80 = .ok (.invokevirtual 87, 3) := by decide +kernel
theorem d_Reader_readZone_83 : decode b_Reader_readZone 83 = .ok (.ifCond .eq 11, 3) := by decide +kernel
theorem d_Reader_readZone_86 : decode b_Reader_readZone 86 = .ok (.aload_n 0, 1) := by decide +kernel
theorem d_Reader_readZone_87 : decode b_Reader_readZone 87 = .ok (.iload_n 1, 1) := by decide +kernel
theorem d_Reader_readZone_88 : decode b_Reader_readZone 88 = .ok (.invokevirtual 92, 3) := by decide +kernel
theorem d_Reader_readZone_91 : decode b_Reader_readZone 91 = .ok (.ifCond .ne 11, 3) := by decide +kernel
theorem d_Reader_readZone_94 : decode b_Reader_readZone 94 = .ok (.aload_n 0, 1) := by decide +kernel
theorem d_Reader_readZone_95 : decode b_Reader_readZone 95 = .ok (.getfield 14, 3) := by decide +kernel
theorem d_Reader_readZone_98 : decode b_Reader_readZone 98 = .ok (.invokevirtual 68, 3) := by decide +kernel
theorem d_Reader_readZone_101 : decode b_Reader_readZone 101 = .ok (.ireturn, 1) := by decide +kernel
theorem d_Reader_readZone_102 : decode b_Reader_readZone 102 = .ok (.iload_n 2, 1) := by decide +kernel
theorem d_Reader_readZone_103 : decode b_Reader_readZone 103 = .ok (.aload_n 0, 1) := by decide +kernel
theorem d_Reader_readZone_104 : decode b_Reader_readZone 104 = .ok (.getfield 20, 3) := by decide +kernel
theorem d_Reader_readZone_107 : decode b_Reader_readZone 107 = .ok (.invokevirtual 75, 3) := by decide +kernel
theorem d_Reader_readZone_110 : decode b_Reader_readZone 110 = .ok (.iload_n 1, 1) := by decide +kernel
theorem d_Reader_readZone_111 : decode b_Reader_readZone 111 = .ok (.invokevirtual 95, 3) := by decide +kernel
theorem d_Reader_readZone_114 : decode b_Reader_readZone 114 = .ok (.if_icmp .le 5, 3) := by decide +kernel
theorem d_Reader_readZone_117 : decode b_Reader_readZone 117 = .ok (.iload_n 3, 1) := by decide +kernel
theorem d_Reader_readZone_118 : decode b_Reader_readZone 118 = .ok (.ireturn, 1) := by decide +kernel
theorem d_Reader_readZone_119 : decode b_Reader_readZone 119 = .ok (.aload_n 0, 1) := by decide +kernel
theorem d_Reader_readZone_120 : decode b_Reader_readZone 120 = .ok (.getfield 20, 3) := by decide +kernel
theorem d_Reader_readZone_123 : decode b_Reader_readZone 123 = .ok (.invokevirtual 75, 3) := by decide +kernel
theorem d_Reader_readZone_126 : decode b_Reader_readZone 126 = .ok (.iload_n 1, 1) := by decide +kernel
theorem d_Reader_readZone_127 : decode b_Reader_readZone 127 = .ok (.iload_n 2, 1) := by decide +kernel
theorem d_Reader_readZone_128 : decode b_Reader_readZone 128 = .ok (.invokevirtual 99, 3) := by decide +kernel
theorem d_Reader_readZone_131 : decode b_Reader_readZone 131 = .ok (.iconst (-1), 1) := by decide +kernel
theorem d_Reader_readZone_132 : decode b_Reader_readZone 132 = .ok (.ireturn, 1) := by decide +kernel
def m_Reader_readZone (F : Nat) (x0 : St) (x1 : St) (x2 : St) (x3 : St) (x4 : St) : Option (Int32 × St × St) :=
  (bn2 (m_Words_stepToValue F x2 x4 (0 : Int32) (19 : Int32)) (fun r7 z2_7 => (if r7 = (-1 : Int32) then (bn1 (m_Words_number F z2_7) (fun r46 => (some (r46, z2_7, x3)))) else (bn1 (m_Zones_isTold F x3 r7) (fun r24 => (if r24 = (0 : Int32) then (bn2 (m_Words_stepTo F z2_7 x4 1) (fun r36 z2_36 => (if r36 = (0 : Int32) then (bn1 (m_Words_number F z2_36) (fun r46 => (some (r46, z2_36, x3)))) else (bn2 (m_Words_stepToValue F z2_36 x4 (1 : Int32) (12 : Int32)) (fun r57 z2_57 => (bn1 (m_Words_number F z2_57) (fun r65 => (if r57 = (-1 : Int32) then (bn1 (m_Words_number F z2_57) (fun r98 => (some (r98, z2_57, x3)))) else (bn2 (m_Words_stepTo F z2_57 x4 2) (fun r80 z2_80 => (if r80 = (0 : Int32) then (bn1 (m_Words_number F z2_80) (fun r98 => (some (r98, z2_80, x3)))) else (bn3 (m_Reader_readPoints F x0 x1 z2_80 x3 x4 r7) (fun r88 z2_88 z3_88 => (if r88 = (0 : Int32) then (bn1 (m_Words_number F z2_88) (fun r98 => (some (r98, z2_88, z3_88)))) else (bn1 (m_Zones_sizeOf F z3_88 r7) (fun r111 => (if r57 ≤ r111 then (bn1 (m_Zones_tell F z3_88 r7 r57) (fun z3_128 => (some ((-1 : Int32), z2_88, z3_128)))) else (some (r65, z2_88, z3_88))))))))))))))))))) else (bn1 (m_Words_number F z2_7) (fun r46 => (some (r46, z2_7, x3))))))))))
abbrev rm_Reader_readZone : Room := { frames := 7, cells := 0, slots := 0, locals := 152 }
set_option maxHeartbeats 4000000 in
set_option maxRecDepth 100000 in
theorem c_Reader_readZone {G : (Nat → Prop) → State → Prop} (hG : gok G) (hGn : gN G) {adK adV : Nat → Nat} (hGs : gSt adK adV G) (l : Launch) (dC : Nat → ClassId) (dI : Nat → Nat → Nat) (g : Nat → ClassId) (F : Nat) (sz : Nat) (h0 : Nat) (q0 : Nat → Nat) (x0 : St) (q1 : Nat → Nat) (x1 : St) (q2 : Nat → Nat) (x2 : St) (q3 : Nat → Nat) (x3 : St) (q4 : Nat → Nat) (x4 : St) {o : Int32 × St × St} (hm : m_Reader_readZone F x0 x1 x2 x3 x4 = some o) : Met l y_Reader_readZone (.code y_Reader_readZone b_Reader_readZone 4 (some .int) :: gw) rm_Reader_readZone (kq (dC, dI) vwCl (tyv g) G [.ref h0] sz (wd_Reader g h0 q0 x0 ++ wd_Plan g (q0 1) q1 x1 ++ wd_Words g (q0 0) q2 x2 ++ wd_Zones g (q1 0) q3 x3 ++ wd_Text g (q2 0) q4 x4)) (kqi (dC, dI) vwCl (tyv g) (wd_Reader g h0 q0 x0 ++ wd_Plan g (q0 1) q1 x1 ++ wd_Words g (q0 0) q2 x2 ++ wd_Zones g (q1 0) q3 x3 ++ wd_Text g (q2 0) q4 x4) o.1 (wd_Reader g h0 q0 x0 ++ wd_Plan g (q0 1) q1 x1 ++ wd_Words g (q0 0) q2 (o.2.1) ++ wd_Zones g (q1 0) q3 (o.2.2) ++ wd_Text g (q2 0) q4 x4) sz) 0 0 (va_A (wd_Reader g h0 q0 x0 ++ wd_Plan g (q0 1) q1 x1 ++ wd_Words g (q0 0) q2 x2 ++ wd_Zones g (q1 0) q3 x3 ++ wd_Text g (q2 0) q4 x4) sz) := by
  unfold m_Reader_readZone at hm
  refine km (Qc := fun sz => kqi (dC, dI) vwCl (tyv g) (wd_Reader g h0 q0 x0 ++ wd_Plan g (q0 1) q1 x1 ++ wd_Words g (q0 0) q2 x2 ++ wd_Zones g (q1 0) q3 x3 ++ wd_Text g (q2 0) q4 x4) o.1 (wd_Reader g h0 q0 x0 ++ wd_Plan g (q0 1) q1 x1 ++ wd_Words g (q0 0) q2 (o.2.1) ++ wd_Zones g (q1 0) q3 (o.2.2) ++ wd_Text g (q2 0) q4 x4) sz) (cc := b_Reader_readZone) (maxL := 4) (ret := some .int) (by decide) rfl (Nat.le_of_ble_eq_true rfl) ?_
  intro p e s m args below meth c Q hQ hx hb hr hts hown hlocks hml hnm H locs A hAe hA hP hK hD hS hGA ls hl
  have hl : lv_has ls 4 [(0, .ref h0)] := hl
  have hts : ∀ w ∈ gw, w.before args s = true := fun w h => hts w (List.mem_cons_of_mem _ h)
  have hown : s.vm.findClass "AlarmMatrix$Reader" = some m.cls := hown
  refine lv_aload_n hx hb d_Reader_readZone_0 rfl (lv_at hl 0 rfl) ?_
  refine va_get (D := (dC, dI)) (ci := 3) (v := .ref (q0 0)) (C := "AlarmMatrix$Reader") (T := T_Reader) (N := 3) hx hb hts i_Reader hown hK hP 0 rfl rfl 0 (by decide) (hts _ k2_34) (fun _ h9 => h9) rfl d_Reader_readZone_1 ?_
  refine lv_iconst (v := (0 : Int32)) hx hb d_Reader_readZone_4 (by decide) ?_
  refine lv_bipush (v := (19 : Int32)) hx hb d_Reader_readZone_5 (by decide) ?_
  obtain ⟨r7, z2_7, hcl, hm⟩ := bn2_s hm
  refine kci (wc := wd_Words g (q0 0) q2 x2 ++ wd_Text g (q2 0) q4 x4) (wr := wd_Reader g h0 q0 x0 ++ wd_Plan g (q0 1) q1 x1 ++ wd_Zones g (q1 0) q3 x3) (w1 := wd_Words g (q0 0) q2 z2_7 ++ wd_Text g (q2 0) q4 x4) hP hD hS hA [5, 12, 13, 14] [0, 1, 2, 3, 4, 6, 7, 8, 9, 10, 11] rfl rfl (by decide) (by decide) (va_runV (As := [.int (0 : Int32), .int (19 : Int32)]) (rest := []) ⟨hx, hb, hml, hown, hts⟩ (c_Words_stepToValue hG hGn l dC dI g F H.size (q0 0) q2 x2 q4 x4 (0 : Int32) (19 : Int32) hcl) (cwV 2 hts (gdV k2_143 k2_144 k2_145 k1_21 k2_146) rfl rfl rfl (by decide +kernel) ⟨Nat.le_of_ble_eq_true rfl, Nat.le_of_ble_eq_true rfl⟩) (kpV hG hP hK hD hS hA hGA [5, 12, 13, 14] (by decide) rfl (ci := 2) (q0 := 0) rfl rfl rfl) rfl rfl hl.1 rfl (lv_room (Nat.le_of_ble_eq_true rfl)) d_Reader_readZone_7 ⟨Nat.le_of_ble_eq_true rfl, Nat.le_of_ble_eq_true rfl⟩) (fun H locs hP hD hS => ?_)
  have hP : va_P (dC, dI) vwCl (wd_Reader g h0 q0 x0 ++ wd_Plan g (q0 1) q1 x1 ++ wd_Words g (q0 0) q2 z2_7 ++ wd_Zones g (q1 0) q3 x3 ++ wd_Text g (q2 0) q4 x4) H := hP.sub (ws' := wd_Reader g h0 q0 x0 ++ wd_Plan g (q0 1) q1 x1 ++ wd_Words g (q0 0) q2 z2_7 ++ wd_Zones g (q1 0) q3 x3 ++ wd_Text g (q2 0) q4 x4) [0, 1, 2, 3, 4, 11, 5, 6, 7, 8, 9, 10, 12, 13, 14] rfl
  have hD : va_D A (wd_Reader g h0 q0 x0 ++ wd_Plan g (q0 1) q1 x1 ++ wd_Words g (q0 0) q2 z2_7 ++ wd_Zones g (q1 0) q3 x3 ++ wd_Text g (q2 0) q4 x4) := hD.sub (ws' := wd_Reader g h0 q0 x0 ++ wd_Plan g (q0 1) q1 x1 ++ wd_Words g (q0 0) q2 z2_7 ++ wd_Zones g (q1 0) q3 x3 ++ wd_Text g (q2 0) q4 x4) [0, 1, 2, 3, 4, 11, 5, 6, 7, 8, 9, 10, 12, 13, 14] (by decide) rfl
  refine lv_istore_n (lv' := [(1, .int r7), (0, .ref h0)]) hx hb d_Reader_readZone_10 rfl hl (by decide) rfl (fun ls hl => ?_)
  refine lv_iload_n hx hb d_Reader_readZone_11 rfl (lv_at hl 0 rfl) ?_
  refine lv_iconst (v := (-1 : Int32)) hx hb d_Reader_readZone_12 (by decide) ?_
  refine lv_icmp_eq (tgt := 42) hx hb d_Reader_readZone_13 (by decide) (fun hc => ?_) (fun hc => ?_)
  · replace hm := if_t hm hc
    refine lv_aload_n hx hb d_Reader_readZone_42 rfl (lv_at hl 1 rfl) ?_
    refine va_get (D := (dC, dI)) (ci := 3) (v := .ref (q0 0)) (C := "AlarmMatrix$Reader") (T := T_Reader) (N := 3) hx hb hts i_Reader hown hK hP 0 rfl rfl 0 (by decide) (hts _ k2_34) (fun _ h9 => h9) rfl d_Reader_readZone_43 ?_
    obtain ⟨r46, hcl, hm⟩ := bn1_s hm
    refine kci (wc := wd_Words g (q0 0) q2 z2_7) (wr := wd_Reader g h0 q0 x0 ++ wd_Plan g (q0 1) q1 x1 ++ wd_Zones g (q1 0) q3 x3 ++ wd_Text g (q2 0) q4 x4) (w1 := wd_Words g (q0 0) q2 z2_7) hP hD hS hA [5] [0, 1, 2, 3, 4, 6, 7, 8, 9, 10, 11, 12, 13, 14] rfl rfl (by decide) (by decide) (va_runV (As := []) (rest := []) ⟨hx, hb, hml, hown, hts⟩ (c_Words_number hG hGn l dC dI g F H.size (q0 0) q2 z2_7 hcl) (cwV 0 hts (gdV k2_170 k2_171 k2_172 k1_21 k2_173) rfl rfl rfl (by decide +kernel) ⟨Nat.le_of_ble_eq_true rfl, Nat.le_of_ble_eq_true rfl⟩) (kpV hG hP hK hD hS hA hGA [5] (by decide) rfl (ci := 2) (q0 := 0) rfl rfl rfl) rfl rfl hl.1 rfl (lv_room (Nat.le_of_ble_eq_true rfl)) d_Reader_readZone_46 ⟨Nat.le_of_ble_eq_true rfl, Nat.le_of_ble_eq_true rfl⟩) (fun H locs hP hD hS => ?_)
    have hP : va_P (dC, dI) vwCl (wd_Reader g h0 q0 x0 ++ wd_Plan g (q0 1) q1 x1 ++ wd_Words g (q0 0) q2 z2_7 ++ wd_Zones g (q1 0) q3 x3 ++ wd_Text g (q2 0) q4 x4) H := hP.sub (ws' := wd_Reader g h0 q0 x0 ++ wd_Plan g (q0 1) q1 x1 ++ wd_Words g (q0 0) q2 z2_7 ++ wd_Zones g (q1 0) q3 x3 ++ wd_Text g (q2 0) q4 x4) [0, 1, 2, 3, 4, 14, 5, 6, 7, 8, 9, 10, 11, 12, 13] rfl
    have hD : va_D A (wd_Reader g h0 q0 x0 ++ wd_Plan g (q0 1) q1 x1 ++ wd_Words g (q0 0) q2 z2_7 ++ wd_Zones g (q1 0) q3 x3 ++ wd_Text g (q2 0) q4 x4) := hD.sub (ws' := wd_Reader g h0 q0 x0 ++ wd_Plan g (q0 1) q1 x1 ++ wd_Words g (q0 0) q2 z2_7 ++ wd_Zones g (q1 0) q3 x3 ++ wd_Text g (q2 0) q4 x4) [0, 1, 2, 3, 4, 14, 5, 6, 7, 8, 9, 10, 11, 12, 13] (by decide) rfl
    obtain rfl := Option.some.inj hm
    rw [hQ]
    exact kri hx hb hr hlocks hAe hP hK hD hS d_Reader_readZone_49
  · replace hm := if_f hm hc
    refine lv_aload_n hx hb d_Reader_readZone_16 rfl (lv_at hl 1 rfl) ?_
    refine va_get (D := (dC, dI)) (ci := 3) (v := .ref (q0 1)) (C := "AlarmMatrix$Reader") (T := T_Reader) (N := 3) hx hb hts i_Reader hown hK hP 0 rfl rfl 1 (by decide) (hts _ k2_35) (fun _ h9 => h9) rfl d_Reader_readZone_17 ?_
    refine kcr (wc := wd_Plan g (q0 1) q1 x1) (wr := wd_Reader g h0 q0 x0 ++ wd_Words g (q0 0) q2 z2_7 ++ wd_Zones g (q1 0) q3 x3 ++ wd_Text g (q2 0) q4 x4) (w1 := wd_Plan g (q0 1) q1 x1) hP hD hS hA [1, 2, 3, 4] [0, 5, 6, 7, 8, 9, 10, 11, 12, 13, 14] rfl rfl (by decide) (by decide) (va_runV (As := []) (rest := []) ⟨hx, hb, hml, hown, hts⟩ (c_Plan_zones hG hGn l dC dI g F H.size (q0 1) q1 x1) (cwV 0 hts (gdV k2_155 k2_156 k2_157 k1_7 k2_158) rfl rfl rfl (by decide +kernel) ⟨Nat.le_of_ble_eq_true rfl, Nat.le_of_ble_eq_true rfl⟩) (kpV hG hP hK hD hS hA hGA [1, 2, 3, 4] (by decide) rfl (ci := 4) (q0 := 0) rfl rfl rfl) rfl rfl hl.1 rfl (lv_room (Nat.le_of_ble_eq_true rfl)) d_Reader_readZone_20 ⟨Nat.le_of_ble_eq_true rfl, Nat.le_of_ble_eq_true rfl⟩) (fun H locs hP hD hS => ?_)
    have hP : va_P (dC, dI) vwCl (wd_Reader g h0 q0 x0 ++ wd_Plan g (q0 1) q1 x1 ++ wd_Words g (q0 0) q2 z2_7 ++ wd_Zones g (q1 0) q3 x3 ++ wd_Text g (q2 0) q4 x4) H := hP.sub (ws' := wd_Reader g h0 q0 x0 ++ wd_Plan g (q0 1) q1 x1 ++ wd_Words g (q0 0) q2 z2_7 ++ wd_Zones g (q1 0) q3 x3 ++ wd_Text g (q2 0) q4 x4) [0, 11, 12, 13, 14, 1, 2, 3, 4, 5, 6, 7, 8, 9, 10] rfl
    have hD : va_D A (wd_Reader g h0 q0 x0 ++ wd_Plan g (q0 1) q1 x1 ++ wd_Words g (q0 0) q2 z2_7 ++ wd_Zones g (q1 0) q3 x3 ++ wd_Text g (q2 0) q4 x4) := hD.sub (ws' := wd_Reader g h0 q0 x0 ++ wd_Plan g (q0 1) q1 x1 ++ wd_Words g (q0 0) q2 z2_7 ++ wd_Zones g (q1 0) q3 x3 ++ wd_Text g (q2 0) q4 x4) [0, 11, 12, 13, 14, 1, 2, 3, 4, 5, 6, 7, 8, 9, 10] (by decide) rfl
    refine lv_iload_n hx hb d_Reader_readZone_23 rfl (lv_at hl 0 rfl) ?_
    obtain ⟨r24, hcl, hm⟩ := bn1_s hm
    refine kci (wc := wd_Zones g (q1 0) q3 x3) (wr := wd_Reader g h0 q0 x0 ++ wd_Plan g (q0 1) q1 x1 ++ wd_Words g (q0 0) q2 z2_7 ++ wd_Text g (q2 0) q4 x4) (w1 := wd_Zones g (q1 0) q3 x3) hP hD hS hA [6, 7, 8, 9, 10, 11] [0, 1, 2, 3, 4, 5, 12, 13, 14] rfl rfl (by decide) (by decide) (va_runV (As := [.int r7]) (rest := []) ⟨hx, hb, hml, hown, hts⟩ (c_Zones_isTold hG hGn l dC dI g F H.size (q1 0) q3 x3 r7 hcl) (cwV 1 hts (gdV k2_159 k2_160 k2_161 k1_8 k2_162) rfl rfl rfl (by decide +kernel) ⟨Nat.le_of_ble_eq_true rfl, Nat.le_of_ble_eq_true rfl⟩) (kpV hG hP hK hD hS hA hGA [6, 7, 8, 9, 10, 11] (by decide) rfl (ci := 5) (q0 := 0) rfl rfl rfl) rfl rfl hl.1 rfl (lv_room (Nat.le_of_ble_eq_true rfl)) d_Reader_readZone_24 ⟨Nat.le_of_ble_eq_true rfl, Nat.le_of_ble_eq_true rfl⟩) (fun H locs hP hD hS => ?_)
    have hP : va_P (dC, dI) vwCl (wd_Reader g h0 q0 x0 ++ wd_Plan g (q0 1) q1 x1 ++ wd_Words g (q0 0) q2 z2_7 ++ wd_Zones g (q1 0) q3 x3 ++ wd_Text g (q2 0) q4 x4) H := hP.sub (ws' := wd_Reader g h0 q0 x0 ++ wd_Plan g (q0 1) q1 x1 ++ wd_Words g (q0 0) q2 z2_7 ++ wd_Zones g (q1 0) q3 x3 ++ wd_Text g (q2 0) q4 x4) [0, 1, 2, 3, 4, 5, 9, 10, 11, 12, 13, 14, 6, 7, 8] rfl
    have hD : va_D A (wd_Reader g h0 q0 x0 ++ wd_Plan g (q0 1) q1 x1 ++ wd_Words g (q0 0) q2 z2_7 ++ wd_Zones g (q1 0) q3 x3 ++ wd_Text g (q2 0) q4 x4) := hD.sub (ws' := wd_Reader g h0 q0 x0 ++ wd_Plan g (q0 1) q1 x1 ++ wd_Words g (q0 0) q2 z2_7 ++ wd_Zones g (q1 0) q3 x3 ++ wd_Text g (q2 0) q4 x4) [0, 1, 2, 3, 4, 5, 9, 10, 11, 12, 13, 14, 6, 7, 8] (by decide) rfl
    refine lv_if_ne (tgt := 42) hx hb d_Reader_readZone_27 (by decide) (fun hc => ?_) (fun hc => ?_)
    · replace hm := if_f hm hc
      refine lv_aload_n hx hb d_Reader_readZone_42 rfl (lv_at hl 1 rfl) ?_
      refine va_get (D := (dC, dI)) (ci := 3) (v := .ref (q0 0)) (C := "AlarmMatrix$Reader") (T := T_Reader) (N := 3) hx hb hts i_Reader hown hK hP 0 rfl rfl 0 (by decide) (hts _ k2_34) (fun _ h9 => h9) rfl d_Reader_readZone_43 ?_
      obtain ⟨r46, hcl, hm⟩ := bn1_s hm
      refine kci (wc := wd_Words g (q0 0) q2 z2_7) (wr := wd_Reader g h0 q0 x0 ++ wd_Plan g (q0 1) q1 x1 ++ wd_Zones g (q1 0) q3 x3 ++ wd_Text g (q2 0) q4 x4) (w1 := wd_Words g (q0 0) q2 z2_7) hP hD hS hA [5] [0, 1, 2, 3, 4, 6, 7, 8, 9, 10, 11, 12, 13, 14] rfl rfl (by decide) (by decide) (va_runV (As := []) (rest := []) ⟨hx, hb, hml, hown, hts⟩ (c_Words_number hG hGn l dC dI g F H.size (q0 0) q2 z2_7 hcl) (cwV 0 hts (gdV k2_170 k2_171 k2_172 k1_21 k2_173) rfl rfl rfl (by decide +kernel) ⟨Nat.le_of_ble_eq_true rfl, Nat.le_of_ble_eq_true rfl⟩) (kpV hG hP hK hD hS hA hGA [5] (by decide) rfl (ci := 2) (q0 := 0) rfl rfl rfl) rfl rfl hl.1 rfl (lv_room (Nat.le_of_ble_eq_true rfl)) d_Reader_readZone_46 ⟨Nat.le_of_ble_eq_true rfl, Nat.le_of_ble_eq_true rfl⟩) (fun H locs hP hD hS => ?_)
      have hP : va_P (dC, dI) vwCl (wd_Reader g h0 q0 x0 ++ wd_Plan g (q0 1) q1 x1 ++ wd_Words g (q0 0) q2 z2_7 ++ wd_Zones g (q1 0) q3 x3 ++ wd_Text g (q2 0) q4 x4) H := hP.sub (ws' := wd_Reader g h0 q0 x0 ++ wd_Plan g (q0 1) q1 x1 ++ wd_Words g (q0 0) q2 z2_7 ++ wd_Zones g (q1 0) q3 x3 ++ wd_Text g (q2 0) q4 x4) [0, 1, 2, 3, 4, 14, 5, 6, 7, 8, 9, 10, 11, 12, 13] rfl
      have hD : va_D A (wd_Reader g h0 q0 x0 ++ wd_Plan g (q0 1) q1 x1 ++ wd_Words g (q0 0) q2 z2_7 ++ wd_Zones g (q1 0) q3 x3 ++ wd_Text g (q2 0) q4 x4) := hD.sub (ws' := wd_Reader g h0 q0 x0 ++ wd_Plan g (q0 1) q1 x1 ++ wd_Words g (q0 0) q2 z2_7 ++ wd_Zones g (q1 0) q3 x3 ++ wd_Text g (q2 0) q4 x4) [0, 1, 2, 3, 4, 14, 5, 6, 7, 8, 9, 10, 11, 12, 13] (by decide) rfl
      obtain rfl := Option.some.inj hm
      rw [hQ]
      exact kri hx hb hr hlocks hAe hP hK hD hS d_Reader_readZone_49
    · replace hm := if_t hm hc
      refine lv_aload_n hx hb d_Reader_readZone_30 rfl (lv_at hl 1 rfl) ?_
      refine va_get (D := (dC, dI)) (ci := 3) (v := .ref (q0 0)) (C := "AlarmMatrix$Reader") (T := T_Reader) (N := 3) hx hb hts i_Reader hown hK hP 0 rfl rfl 0 (by decide) (hts _ k2_34) (fun _ h9 => h9) rfl d_Reader_readZone_31 ?_
      refine va_ldcS hx hb hown ((hGs A s hGA).2.2.2 1 (by decide)) d_Reader_readZone_34 ?_
      obtain ⟨r36, z2_36, hcl, hm⟩ := bn2_s hm
      refine kci (wc := wd_Words g (q0 0) q2 z2_7 ++ wd_Text g (q2 0) q4 x4) (wr := wd_Reader g h0 q0 x0 ++ wd_Plan g (q0 1) q1 x1 ++ wd_Zones g (q1 0) q3 x3) (w1 := wd_Words g (q0 0) q2 z2_36 ++ wd_Text g (q2 0) q4 x4) hP hD hS hA [5, 12, 13, 14] [0, 1, 2, 3, 4, 6, 7, 8, 9, 10, 11] rfl rfl (by decide) (by decide) (va_runV (As := [.ref (adK 1)]) (rest := []) ⟨hx, hb, hml, hown, hts⟩ (c_Words_stepTo hG hGn hGs l dC dI g F H.size (q0 0) q2 z2_7 q4 x4 1 (by decide) hcl) (cwV 1 hts (gdV k2_165 k2_166 k2_167 k1_21 k2_168) rfl rfl rfl (by decide +kernel) ⟨Nat.le_of_ble_eq_true rfl, Nat.le_of_ble_eq_true rfl⟩) (kpV hG hP hK hD hS hA hGA [5, 12, 13, 14] (by decide) rfl (ci := 2) (q0 := 0) rfl rfl rfl) rfl rfl hl.1 rfl (lv_room (Nat.le_of_ble_eq_true rfl)) d_Reader_readZone_36 ⟨Nat.le_of_ble_eq_true rfl, Nat.le_of_ble_eq_true rfl⟩) (fun H locs hP hD hS => ?_)
      have hP : va_P (dC, dI) vwCl (wd_Reader g h0 q0 x0 ++ wd_Plan g (q0 1) q1 x1 ++ wd_Words g (q0 0) q2 z2_36 ++ wd_Zones g (q1 0) q3 x3 ++ wd_Text g (q2 0) q4 x4) H := hP.sub (ws' := wd_Reader g h0 q0 x0 ++ wd_Plan g (q0 1) q1 x1 ++ wd_Words g (q0 0) q2 z2_36 ++ wd_Zones g (q1 0) q3 x3 ++ wd_Text g (q2 0) q4 x4) [0, 1, 2, 3, 4, 11, 5, 6, 7, 8, 9, 10, 12, 13, 14] rfl
      have hD : va_D A (wd_Reader g h0 q0 x0 ++ wd_Plan g (q0 1) q1 x1 ++ wd_Words g (q0 0) q2 z2_36 ++ wd_Zones g (q1 0) q3 x3 ++ wd_Text g (q2 0) q4 x4) := hD.sub (ws' := wd_Reader g h0 q0 x0 ++ wd_Plan g (q0 1) q1 x1 ++ wd_Words g (q0 0) q2 z2_36 ++ wd_Zones g (q1 0) q3 x3 ++ wd_Text g (q2 0) q4 x4) [0, 1, 2, 3, 4, 11, 5, 6, 7, 8, 9, 10, 12, 13, 14] (by decide) rfl
      refine lv_if_ne (tgt := 50) hx hb d_Reader_readZone_39 (by decide) (fun hc => ?_) (fun hc => ?_)
      · replace hm := if_f hm hc
        refine lv_aload_n hx hb d_Reader_readZone_50 rfl (lv_at hl 1 rfl) ?_
        refine va_get (D := (dC, dI)) (ci := 3) (v := .ref (q0 0)) (C := "AlarmMatrix$Reader") (T := T_Reader) (N := 3) hx hb hts i_Reader hown hK hP 0 rfl rfl 0 (by decide) (hts _ k2_34) (fun _ h9 => h9) rfl d_Reader_readZone_51 ?_
        refine lv_iconst (v := (1 : Int32)) hx hb d_Reader_readZone_54 (by decide) ?_
        refine lv_bipush (v := (12 : Int32)) hx hb d_Reader_readZone_55 (by decide) ?_
        obtain ⟨r57, z2_57, hcl, hm⟩ := bn2_s hm
        refine kci (wc := wd_Words g (q0 0) q2 z2_36 ++ wd_Text g (q2 0) q4 x4) (wr := wd_Reader g h0 q0 x0 ++ wd_Plan g (q0 1) q1 x1 ++ wd_Zones g (q1 0) q3 x3) (w1 := wd_Words g (q0 0) q2 z2_57 ++ wd_Text g (q2 0) q4 x4) hP hD hS hA [5, 12, 13, 14] [0, 1, 2, 3, 4, 6, 7, 8, 9, 10, 11] rfl rfl (by decide) (by decide) (va_runV (As := [.int (1 : Int32), .int (12 : Int32)]) (rest := []) ⟨hx, hb, hml, hown, hts⟩ (c_Words_stepToValue hG hGn l dC dI g F H.size (q0 0) q2 z2_36 q4 x4 (1 : Int32) (12 : Int32) hcl) (cwV 2 hts (gdV k2_143 k2_144 k2_145 k1_21 k2_146) rfl rfl rfl (by decide +kernel) ⟨Nat.le_of_ble_eq_true rfl, Nat.le_of_ble_eq_true rfl⟩) (kpV hG hP hK hD hS hA hGA [5, 12, 13, 14] (by decide) rfl (ci := 2) (q0 := 0) rfl rfl rfl) rfl rfl hl.1 rfl (lv_room (Nat.le_of_ble_eq_true rfl)) d_Reader_readZone_57 ⟨Nat.le_of_ble_eq_true rfl, Nat.le_of_ble_eq_true rfl⟩) (fun H locs hP hD hS => ?_)
        have hP : va_P (dC, dI) vwCl (wd_Reader g h0 q0 x0 ++ wd_Plan g (q0 1) q1 x1 ++ wd_Words g (q0 0) q2 z2_57 ++ wd_Zones g (q1 0) q3 x3 ++ wd_Text g (q2 0) q4 x4) H := hP.sub (ws' := wd_Reader g h0 q0 x0 ++ wd_Plan g (q0 1) q1 x1 ++ wd_Words g (q0 0) q2 z2_57 ++ wd_Zones g (q1 0) q3 x3 ++ wd_Text g (q2 0) q4 x4) [0, 1, 2, 3, 4, 11, 5, 6, 7, 8, 9, 10, 12, 13, 14] rfl
        have hD : va_D A (wd_Reader g h0 q0 x0 ++ wd_Plan g (q0 1) q1 x1 ++ wd_Words g (q0 0) q2 z2_57 ++ wd_Zones g (q1 0) q3 x3 ++ wd_Text g (q2 0) q4 x4) := hD.sub (ws' := wd_Reader g h0 q0 x0 ++ wd_Plan g (q0 1) q1 x1 ++ wd_Words g (q0 0) q2 z2_57 ++ wd_Zones g (q1 0) q3 x3 ++ wd_Text g (q2 0) q4 x4) [0, 1, 2, 3, 4, 11, 5, 6, 7, 8, 9, 10, 12, 13, 14] (by decide) rfl
        refine lv_istore_n (lv' := [(2, .int r57), (1, .int r7), (0, .ref h0)]) hx hb d_Reader_readZone_60 rfl hl (by decide) rfl (fun ls hl => ?_)
        refine lv_aload_n hx hb d_Reader_readZone_61 rfl (lv_at hl 2 rfl) ?_
        refine va_get (D := (dC, dI)) (ci := 3) (v := .ref (q0 0)) (C := "AlarmMatrix$Reader") (T := T_Reader) (N := 3) hx hb hts i_Reader hown hK hP 0 rfl rfl 0 (by decide) (hts _ k2_34) (fun _ h9 => h9) rfl d_Reader_readZone_62 ?_
        obtain ⟨r65, hcl, hm⟩ := bn1_s hm
        refine kci (wc := wd_Words g (q0 0) q2 z2_57) (wr := wd_Reader g h0 q0 x0 ++ wd_Plan g (q0 1) q1 x1 ++ wd_Zones g (q1 0) q3 x3 ++ wd_Text g (q2 0) q4 x4) (w1 := wd_Words g (q0 0) q2 z2_57) hP hD hS hA [5] [0, 1, 2, 3, 4, 6, 7, 8, 9, 10, 11, 12, 13, 14] rfl rfl (by decide) (by decide) (va_runV (As := []) (rest := []) ⟨hx, hb, hml, hown, hts⟩ (c_Words_number hG hGn l dC dI g F H.size (q0 0) q2 z2_57 hcl) (cwV 0 hts (gdV k2_170 k2_171 k2_172 k1_21 k2_173) rfl rfl rfl (by decide +kernel) ⟨Nat.le_of_ble_eq_true rfl, Nat.le_of_ble_eq_true rfl⟩) (kpV hG hP hK hD hS hA hGA [5] (by decide) rfl (ci := 2) (q0 := 0) rfl rfl rfl) rfl rfl hl.1 rfl (lv_room (Nat.le_of_ble_eq_true rfl)) d_Reader_readZone_65 ⟨Nat.le_of_ble_eq_true rfl, Nat.le_of_ble_eq_true rfl⟩) (fun H locs hP hD hS => ?_)
        have hP : va_P (dC, dI) vwCl (wd_Reader g h0 q0 x0 ++ wd_Plan g (q0 1) q1 x1 ++ wd_Words g (q0 0) q2 z2_57 ++ wd_Zones g (q1 0) q3 x3 ++ wd_Text g (q2 0) q4 x4) H := hP.sub (ws' := wd_Reader g h0 q0 x0 ++ wd_Plan g (q0 1) q1 x1 ++ wd_Words g (q0 0) q2 z2_57 ++ wd_Zones g (q1 0) q3 x3 ++ wd_Text g (q2 0) q4 x4) [0, 1, 2, 3, 4, 14, 5, 6, 7, 8, 9, 10, 11, 12, 13] rfl
        have hD : va_D A (wd_Reader g h0 q0 x0 ++ wd_Plan g (q0 1) q1 x1 ++ wd_Words g (q0 0) q2 z2_57 ++ wd_Zones g (q1 0) q3 x3 ++ wd_Text g (q2 0) q4 x4) := hD.sub (ws' := wd_Reader g h0 q0 x0 ++ wd_Plan g (q0 1) q1 x1 ++ wd_Words g (q0 0) q2 z2_57 ++ wd_Zones g (q1 0) q3 x3 ++ wd_Text g (q2 0) q4 x4) [0, 1, 2, 3, 4, 14, 5, 6, 7, 8, 9, 10, 11, 12, 13] (by decide) rfl
        refine lv_istore_n (lv' := [(3, .int r65), (2, .int r57), (1, .int r7), (0, .ref h0)]) hx hb d_Reader_readZone_68 rfl hl (by decide) rfl (fun ls hl => ?_)
        refine lv_iload_n hx hb d_Reader_readZone_69 rfl (lv_at hl 1 rfl) ?_
        refine lv_iconst (v := (-1 : Int32)) hx hb d_Reader_readZone_70 (by decide) ?_
        refine lv_icmp_eq (tgt := 94) hx hb d_Reader_readZone_71 (by decide) (fun hc => ?_) (fun hc => ?_)
        · replace hm := if_t hm hc
          refine lv_aload_n hx hb d_Reader_readZone_94 rfl (lv_at hl 3 rfl) ?_
          refine va_get (D := (dC, dI)) (ci := 3) (v := .ref (q0 0)) (C := "AlarmMatrix$Reader") (T := T_Reader) (N := 3) hx hb hts i_Reader hown hK hP 0 rfl rfl 0 (by decide) (hts _ k2_34) (fun _ h9 => h9) rfl d_Reader_readZone_95 ?_
          obtain ⟨r98, hcl, hm⟩ := bn1_s hm
          refine kci (wc := wd_Words g (q0 0) q2 z2_57) (wr := wd_Reader g h0 q0 x0 ++ wd_Plan g (q0 1) q1 x1 ++ wd_Zones g (q1 0) q3 x3 ++ wd_Text g (q2 0) q4 x4) (w1 := wd_Words g (q0 0) q2 z2_57) hP hD hS hA [5] [0, 1, 2, 3, 4, 6, 7, 8, 9, 10, 11, 12, 13, 14] rfl rfl (by decide) (by decide) (va_runV (As := []) (rest := []) ⟨hx, hb, hml, hown, hts⟩ (c_Words_number hG hGn l dC dI g F H.size (q0 0) q2 z2_57 hcl) (cwV 0 hts (gdV k2_170 k2_171 k2_172 k1_21 k2_173) rfl rfl rfl (by decide +kernel) ⟨Nat.le_of_ble_eq_true rfl, Nat.le_of_ble_eq_true rfl⟩) (kpV hG hP hK hD hS hA hGA [5] (by decide) rfl (ci := 2) (q0 := 0) rfl rfl rfl) rfl rfl hl.1 rfl (lv_room (Nat.le_of_ble_eq_true rfl)) d_Reader_readZone_98 ⟨Nat.le_of_ble_eq_true rfl, Nat.le_of_ble_eq_true rfl⟩) (fun H locs hP hD hS => ?_)
          have hP : va_P (dC, dI) vwCl (wd_Reader g h0 q0 x0 ++ wd_Plan g (q0 1) q1 x1 ++ wd_Words g (q0 0) q2 z2_57 ++ wd_Zones g (q1 0) q3 x3 ++ wd_Text g (q2 0) q4 x4) H := hP.sub (ws' := wd_Reader g h0 q0 x0 ++ wd_Plan g (q0 1) q1 x1 ++ wd_Words g (q0 0) q2 z2_57 ++ wd_Zones g (q1 0) q3 x3 ++ wd_Text g (q2 0) q4 x4) [0, 1, 2, 3, 4, 14, 5, 6, 7, 8, 9, 10, 11, 12, 13] rfl
          have hD : va_D A (wd_Reader g h0 q0 x0 ++ wd_Plan g (q0 1) q1 x1 ++ wd_Words g (q0 0) q2 z2_57 ++ wd_Zones g (q1 0) q3 x3 ++ wd_Text g (q2 0) q4 x4) := hD.sub (ws' := wd_Reader g h0 q0 x0 ++ wd_Plan g (q0 1) q1 x1 ++ wd_Words g (q0 0) q2 z2_57 ++ wd_Zones g (q1 0) q3 x3 ++ wd_Text g (q2 0) q4 x4) [0, 1, 2, 3, 4, 14, 5, 6, 7, 8, 9, 10, 11, 12, 13] (by decide) rfl
          obtain rfl := Option.some.inj hm
          rw [hQ]
          exact kri hx hb hr hlocks hAe hP hK hD hS d_Reader_readZone_101
        · replace hm := if_f hm hc
          refine lv_aload_n hx hb d_Reader_readZone_74 rfl (lv_at hl 3 rfl) ?_
          refine va_get (D := (dC, dI)) (ci := 3) (v := .ref (q0 0)) (C := "AlarmMatrix$Reader") (T := T_Reader) (N := 3) hx hb hts i_Reader hown hK hP 0 rfl rfl 0 (by decide) (hts _ k2_34) (fun _ h9 => h9) rfl d_Reader_readZone_75 ?_
          refine va_ldcS hx hb hown ((hGs A s hGA).2.2.2 2 (by decide)) d_Reader_readZone_78 ?_
          obtain ⟨r80, z2_80, hcl, hm⟩ := bn2_s hm
          refine kci (wc := wd_Words g (q0 0) q2 z2_57 ++ wd_Text g (q2 0) q4 x4) (wr := wd_Reader g h0 q0 x0 ++ wd_Plan g (q0 1) q1 x1 ++ wd_Zones g (q1 0) q3 x3) (w1 := wd_Words g (q0 0) q2 z2_80 ++ wd_Text g (q2 0) q4 x4) hP hD hS hA [5, 12, 13, 14] [0, 1, 2, 3, 4, 6, 7, 8, 9, 10, 11] rfl rfl (by decide) (by decide) (va_runV (As := [.ref (adK 2)]) (rest := []) ⟨hx, hb, hml, hown, hts⟩ (c_Words_stepTo hG hGn hGs l dC dI g F H.size (q0 0) q2 z2_57 q4 x4 2 (by decide) hcl) (cwV 1 hts (gdV k2_165 k2_166 k2_167 k1_21 k2_168) rfl rfl rfl (by decide +kernel) ⟨Nat.le_of_ble_eq_true rfl, Nat.le_of_ble_eq_true rfl⟩) (kpV hG hP hK hD hS hA hGA [5, 12, 13, 14] (by decide) rfl (ci := 2) (q0 := 0) rfl rfl rfl) rfl rfl hl.1 rfl (lv_room (Nat.le_of_ble_eq_true rfl)) d_Reader_readZone_80 ⟨Nat.le_of_ble_eq_true rfl, Nat.le_of_ble_eq_true rfl⟩) (fun H locs hP hD hS => ?_)
          have hP : va_P (dC, dI) vwCl (wd_Reader g h0 q0 x0 ++ wd_Plan g (q0 1) q1 x1 ++ wd_Words g (q0 0) q2 z2_80 ++ wd_Zones g (q1 0) q3 x3 ++ wd_Text g (q2 0) q4 x4) H := hP.sub (ws' := wd_Reader g h0 q0 x0 ++ wd_Plan g (q0 1) q1 x1 ++ wd_Words g (q0 0) q2 z2_80 ++ wd_Zones g (q1 0) q3 x3 ++ wd_Text g (q2 0) q4 x4) [0, 1, 2, 3, 4, 11, 5, 6, 7, 8, 9, 10, 12, 13, 14] rfl
          have hD : va_D A (wd_Reader g h0 q0 x0 ++ wd_Plan g (q0 1) q1 x1 ++ wd_Words g (q0 0) q2 z2_80 ++ wd_Zones g (q1 0) q3 x3 ++ wd_Text g (q2 0) q4 x4) := hD.sub (ws' := wd_Reader g h0 q0 x0 ++ wd_Plan g (q0 1) q1 x1 ++ wd_Words g (q0 0) q2 z2_80 ++ wd_Zones g (q1 0) q3 x3 ++ wd_Text g (q2 0) q4 x4) [0, 1, 2, 3, 4, 11, 5, 6, 7, 8, 9, 10, 12, 13, 14] (by decide) rfl
          refine lv_if_eq (tgt := 94) hx hb d_Reader_readZone_83 (by decide) (fun hc => ?_) (fun hc => ?_)
          · replace hm := if_t hm hc
            refine lv_aload_n hx hb d_Reader_readZone_94 rfl (lv_at hl 3 rfl) ?_
            refine va_get (D := (dC, dI)) (ci := 3) (v := .ref (q0 0)) (C := "AlarmMatrix$Reader") (T := T_Reader) (N := 3) hx hb hts i_Reader hown hK hP 0 rfl rfl 0 (by decide) (hts _ k2_34) (fun _ h9 => h9) rfl d_Reader_readZone_95 ?_
            obtain ⟨r98, hcl, hm⟩ := bn1_s hm
            refine kci (wc := wd_Words g (q0 0) q2 z2_80) (wr := wd_Reader g h0 q0 x0 ++ wd_Plan g (q0 1) q1 x1 ++ wd_Zones g (q1 0) q3 x3 ++ wd_Text g (q2 0) q4 x4) (w1 := wd_Words g (q0 0) q2 z2_80) hP hD hS hA [5] [0, 1, 2, 3, 4, 6, 7, 8, 9, 10, 11, 12, 13, 14] rfl rfl (by decide) (by decide) (va_runV (As := []) (rest := []) ⟨hx, hb, hml, hown, hts⟩ (c_Words_number hG hGn l dC dI g F H.size (q0 0) q2 z2_80 hcl) (cwV 0 hts (gdV k2_170 k2_171 k2_172 k1_21 k2_173) rfl rfl rfl (by decide +kernel) ⟨Nat.le_of_ble_eq_true rfl, Nat.le_of_ble_eq_true rfl⟩) (kpV hG hP hK hD hS hA hGA [5] (by decide) rfl (ci := 2) (q0 := 0) rfl rfl rfl) rfl rfl hl.1 rfl (lv_room (Nat.le_of_ble_eq_true rfl)) d_Reader_readZone_98 ⟨Nat.le_of_ble_eq_true rfl, Nat.le_of_ble_eq_true rfl⟩) (fun H locs hP hD hS => ?_)
            have hP : va_P (dC, dI) vwCl (wd_Reader g h0 q0 x0 ++ wd_Plan g (q0 1) q1 x1 ++ wd_Words g (q0 0) q2 z2_80 ++ wd_Zones g (q1 0) q3 x3 ++ wd_Text g (q2 0) q4 x4) H := hP.sub (ws' := wd_Reader g h0 q0 x0 ++ wd_Plan g (q0 1) q1 x1 ++ wd_Words g (q0 0) q2 z2_80 ++ wd_Zones g (q1 0) q3 x3 ++ wd_Text g (q2 0) q4 x4) [0, 1, 2, 3, 4, 14, 5, 6, 7, 8, 9, 10, 11, 12, 13] rfl
            have hD : va_D A (wd_Reader g h0 q0 x0 ++ wd_Plan g (q0 1) q1 x1 ++ wd_Words g (q0 0) q2 z2_80 ++ wd_Zones g (q1 0) q3 x3 ++ wd_Text g (q2 0) q4 x4) := hD.sub (ws' := wd_Reader g h0 q0 x0 ++ wd_Plan g (q0 1) q1 x1 ++ wd_Words g (q0 0) q2 z2_80 ++ wd_Zones g (q1 0) q3 x3 ++ wd_Text g (q2 0) q4 x4) [0, 1, 2, 3, 4, 14, 5, 6, 7, 8, 9, 10, 11, 12, 13] (by decide) rfl
            obtain rfl := Option.some.inj hm
            rw [hQ]
            exact kri hx hb hr hlocks hAe hP hK hD hS d_Reader_readZone_101
          · replace hm := if_f hm hc
            refine lv_aload_n hx hb d_Reader_readZone_86 rfl (lv_at hl 3 rfl) ?_
            refine lv_iload_n hx hb d_Reader_readZone_87 rfl (lv_at hl 2 rfl) ?_
            obtain ⟨r88, z2_88, z3_88, hcl, hm⟩ := bn3_s hm
            refine kci (wc := wd_Reader g h0 q0 x0 ++ wd_Plan g (q0 1) q1 x1 ++ wd_Words g (q0 0) q2 z2_80 ++ wd_Zones g (q1 0) q3 x3 ++ wd_Text g (q2 0) q4 x4) (wr := ([] : va_W)) (w1 := wd_Reader g h0 q0 x0 ++ wd_Plan g (q0 1) q1 x1 ++ wd_Words g (q0 0) q2 z2_88 ++ wd_Zones g (q1 0) q3 z3_88 ++ wd_Text g (q2 0) q4 x4) hP hD hS hA [0, 1, 2, 3, 4, 5, 6, 7, 8, 9, 10, 11, 12, 13, 14] [] rfl rfl (by decide) (by decide) (va_runV (As := [.int r7]) (rest := []) ⟨hx, hb, hml, hown, hts⟩ (c_Reader_readPoints hG hGn hGs l dC dI g F H.size h0 q0 x0 q1 x1 q2 z2_80 q3 x3 q4 x4 r7 hcl) (cwV 1 hts (gdV k2_175 k2_177 kp_2 k1_20 k2_178) rfl rfl rfl (by decide +kernel) ⟨Nat.le_of_ble_eq_true rfl, Nat.le_of_ble_eq_true rfl⟩) (kpV hG hP hK hD hS hA hGA [0, 1, 2, 3, 4, 5, 6, 7, 8, 9, 10, 11, 12, 13, 14] (by decide) rfl (ci := 3) (q0 := 0) rfl rfl rfl) rfl rfl hl.1 rfl (lv_room (Nat.le_of_ble_eq_true rfl)) d_Reader_readZone_88 ⟨Nat.le_of_ble_eq_true rfl, Nat.le_of_ble_eq_true rfl⟩) (fun H locs hP hD hS => ?_)
            have hP : va_P (dC, dI) vwCl (wd_Reader g h0 q0 x0 ++ wd_Plan g (q0 1) q1 x1 ++ wd_Words g (q0 0) q2 z2_88 ++ wd_Zones g (q1 0) q3 z3_88 ++ wd_Text g (q2 0) q4 x4) H := hP
            have hD : va_D A (wd_Reader g h0 q0 x0 ++ wd_Plan g (q0 1) q1 x1 ++ wd_Words g (q0 0) q2 z2_88 ++ wd_Zones g (q1 0) q3 z3_88 ++ wd_Text g (q2 0) q4 x4) := hD
            refine lv_if_ne (tgt := 102) hx hb d_Reader_readZone_91 (by decide) (fun hc => ?_) (fun hc => ?_)
            · replace hm := if_f hm hc
              refine lv_iload_n hx hb d_Reader_readZone_102 rfl (lv_at hl 1 rfl) ?_
              refine lv_aload_n hx hb d_Reader_readZone_103 rfl (lv_at hl 3 rfl) ?_
              refine va_get (D := (dC, dI)) (ci := 3) (v := .ref (q0 1)) (C := "AlarmMatrix$Reader") (T := T_Reader) (N := 3) hx hb hts i_Reader hown hK hP 0 rfl rfl 1 (by decide) (hts _ k2_35) (fun _ h9 => h9) rfl d_Reader_readZone_104 ?_
              refine kcr (wc := wd_Plan g (q0 1) q1 x1) (wr := wd_Reader g h0 q0 x0 ++ wd_Words g (q0 0) q2 z2_88 ++ wd_Zones g (q1 0) q3 z3_88 ++ wd_Text g (q2 0) q4 x4) (w1 := wd_Plan g (q0 1) q1 x1) hP hD hS hA [1, 2, 3, 4] [0, 5, 6, 7, 8, 9, 10, 11, 12, 13, 14] rfl rfl (by decide) (by decide) (va_runV (As := []) (rest := [.int r57]) ⟨hx, hb, hml, hown, hts⟩ (c_Plan_zones hG hGn l dC dI g F H.size (q0 1) q1 x1) (cwV 0 hts (gdV k2_155 k2_156 k2_157 k1_7 k2_158) rfl rfl rfl (by decide +kernel) ⟨Nat.le_of_ble_eq_true rfl, Nat.le_of_ble_eq_true rfl⟩) (kpV hG hP hK hD hS hA hGA [1, 2, 3, 4] (by decide) rfl (ci := 4) (q0 := 0) rfl rfl rfl) rfl rfl hl.1 rfl (lv_room (Nat.le_of_ble_eq_true rfl)) d_Reader_readZone_107 ⟨Nat.le_of_ble_eq_true rfl, Nat.le_of_ble_eq_true rfl⟩) (fun H locs hP hD hS => ?_)
              have hP : va_P (dC, dI) vwCl (wd_Reader g h0 q0 x0 ++ wd_Plan g (q0 1) q1 x1 ++ wd_Words g (q0 0) q2 z2_88 ++ wd_Zones g (q1 0) q3 z3_88 ++ wd_Text g (q2 0) q4 x4) H := hP.sub (ws' := wd_Reader g h0 q0 x0 ++ wd_Plan g (q0 1) q1 x1 ++ wd_Words g (q0 0) q2 z2_88 ++ wd_Zones g (q1 0) q3 z3_88 ++ wd_Text g (q2 0) q4 x4) [0, 11, 12, 13, 14, 1, 2, 3, 4, 5, 6, 7, 8, 9, 10] rfl
              have hD : va_D A (wd_Reader g h0 q0 x0 ++ wd_Plan g (q0 1) q1 x1 ++ wd_Words g (q0 0) q2 z2_88 ++ wd_Zones g (q1 0) q3 z3_88 ++ wd_Text g (q2 0) q4 x4) := hD.sub (ws' := wd_Reader g h0 q0 x0 ++ wd_Plan g (q0 1) q1 x1 ++ wd_Words g (q0 0) q2 z2_88 ++ wd_Zones g (q1 0) q3 z3_88 ++ wd_Text g (q2 0) q4 x4) [0, 11, 12, 13, 14, 1, 2, 3, 4, 5, 6, 7, 8, 9, 10] (by decide) rfl
              refine lv_iload_n hx hb d_Reader_readZone_110 rfl (lv_at hl 2 rfl) ?_
              obtain ⟨r111, hcl, hm⟩ := bn1_s hm
              refine kci (wc := wd_Zones g (q1 0) q3 z3_88) (wr := wd_Reader g h0 q0 x0 ++ wd_Plan g (q0 1) q1 x1 ++ wd_Words g (q0 0) q2 z2_88 ++ wd_Text g (q2 0) q4 x4) (w1 := wd_Zones g (q1 0) q3 z3_88) hP hD hS hA [6, 7, 8, 9, 10, 11] [0, 1, 2, 3, 4, 5, 12, 13, 14] rfl rfl (by decide) (by decide) (va_runV (As := [.int r7]) (rest := [.int r57]) ⟨hx, hb, hml, hown, hts⟩ (c_Zones_sizeOf hG hGn l dC dI g F H.size (q1 0) q3 z3_88 r7 hcl) (cwV 1 hts (gdV k2_189 k2_190 k2_191 k1_8 k2_192) rfl rfl rfl (by decide +kernel) ⟨Nat.le_of_ble_eq_true rfl, Nat.le_of_ble_eq_true rfl⟩) (kpV hG hP hK hD hS hA hGA [6, 7, 8, 9, 10, 11] (by decide) rfl (ci := 5) (q0 := 0) rfl rfl rfl) rfl rfl hl.1 rfl (lv_room (Nat.le_of_ble_eq_true rfl)) d_Reader_readZone_111 ⟨Nat.le_of_ble_eq_true rfl, Nat.le_of_ble_eq_true rfl⟩) (fun H locs hP hD hS => ?_)
              have hP : va_P (dC, dI) vwCl (wd_Reader g h0 q0 x0 ++ wd_Plan g (q0 1) q1 x1 ++ wd_Words g (q0 0) q2 z2_88 ++ wd_Zones g (q1 0) q3 z3_88 ++ wd_Text g (q2 0) q4 x4) H := hP.sub (ws' := wd_Reader g h0 q0 x0 ++ wd_Plan g (q0 1) q1 x1 ++ wd_Words g (q0 0) q2 z2_88 ++ wd_Zones g (q1 0) q3 z3_88 ++ wd_Text g (q2 0) q4 x4) [0, 1, 2, 3, 4, 5, 9, 10, 11, 12, 13, 14, 6, 7, 8] rfl
              have hD : va_D A (wd_Reader g h0 q0 x0 ++ wd_Plan g (q0 1) q1 x1 ++ wd_Words g (q0 0) q2 z2_88 ++ wd_Zones g (q1 0) q3 z3_88 ++ wd_Text g (q2 0) q4 x4) := hD.sub (ws' := wd_Reader g h0 q0 x0 ++ wd_Plan g (q0 1) q1 x1 ++ wd_Words g (q0 0) q2 z2_88 ++ wd_Zones g (q1 0) q3 z3_88 ++ wd_Text g (q2 0) q4 x4) [0, 1, 2, 3, 4, 5, 9, 10, 11, 12, 13, 14, 6, 7, 8] (by decide) rfl
              refine lv_icmp_le (tgt := 119) hx hb d_Reader_readZone_114 (by decide) (fun hc => ?_) (fun hc => ?_)
              · replace hm := if_t hm hc
                refine lv_aload_n hx hb d_Reader_readZone_119 rfl (lv_at hl 3 rfl) ?_
                refine va_get (D := (dC, dI)) (ci := 3) (v := .ref (q0 1)) (C := "AlarmMatrix$Reader") (T := T_Reader) (N := 3) hx hb hts i_Reader hown hK hP 0 rfl rfl 1 (by decide) (hts _ k2_35) (fun _ h9 => h9) rfl d_Reader_readZone_120 ?_
                refine kcr (wc := wd_Plan g (q0 1) q1 x1) (wr := wd_Reader g h0 q0 x0 ++ wd_Words g (q0 0) q2 z2_88 ++ wd_Zones g (q1 0) q3 z3_88 ++ wd_Text g (q2 0) q4 x4) (w1 := wd_Plan g (q0 1) q1 x1) hP hD hS hA [1, 2, 3, 4] [0, 5, 6, 7, 8, 9, 10, 11, 12, 13, 14] rfl rfl (by decide) (by decide) (va_runV (As := []) (rest := []) ⟨hx, hb, hml, hown, hts⟩ (c_Plan_zones hG hGn l dC dI g F H.size (q0 1) q1 x1) (cwV 0 hts (gdV k2_155 k2_156 k2_157 k1_7 k2_158) rfl rfl rfl (by decide +kernel) ⟨Nat.le_of_ble_eq_true rfl, Nat.le_of_ble_eq_true rfl⟩) (kpV hG hP hK hD hS hA hGA [1, 2, 3, 4] (by decide) rfl (ci := 4) (q0 := 0) rfl rfl rfl) rfl rfl hl.1 rfl (lv_room (Nat.le_of_ble_eq_true rfl)) d_Reader_readZone_123 ⟨Nat.le_of_ble_eq_true rfl, Nat.le_of_ble_eq_true rfl⟩) (fun H locs hP hD hS => ?_)
                have hP : va_P (dC, dI) vwCl (wd_Reader g h0 q0 x0 ++ wd_Plan g (q0 1) q1 x1 ++ wd_Words g (q0 0) q2 z2_88 ++ wd_Zones g (q1 0) q3 z3_88 ++ wd_Text g (q2 0) q4 x4) H := hP.sub (ws' := wd_Reader g h0 q0 x0 ++ wd_Plan g (q0 1) q1 x1 ++ wd_Words g (q0 0) q2 z2_88 ++ wd_Zones g (q1 0) q3 z3_88 ++ wd_Text g (q2 0) q4 x4) [0, 11, 12, 13, 14, 1, 2, 3, 4, 5, 6, 7, 8, 9, 10] rfl
                have hD : va_D A (wd_Reader g h0 q0 x0 ++ wd_Plan g (q0 1) q1 x1 ++ wd_Words g (q0 0) q2 z2_88 ++ wd_Zones g (q1 0) q3 z3_88 ++ wd_Text g (q2 0) q4 x4) := hD.sub (ws' := wd_Reader g h0 q0 x0 ++ wd_Plan g (q0 1) q1 x1 ++ wd_Words g (q0 0) q2 z2_88 ++ wd_Zones g (q1 0) q3 z3_88 ++ wd_Text g (q2 0) q4 x4) [0, 11, 12, 13, 14, 1, 2, 3, 4, 5, 6, 7, 8, 9, 10] (by decide) rfl
                refine lv_iload_n hx hb d_Reader_readZone_126 rfl (lv_at hl 2 rfl) ?_
                refine lv_iload_n hx hb d_Reader_readZone_127 rfl (lv_at hl 1 rfl) ?_
                obtain ⟨z3_128, hcl, hm⟩ := bn1_s hm
                refine kcv (wc := wd_Zones g (q1 0) q3 z3_88) (wr := wd_Reader g h0 q0 x0 ++ wd_Plan g (q0 1) q1 x1 ++ wd_Words g (q0 0) q2 z2_88 ++ wd_Text g (q2 0) q4 x4) (w1 := wd_Zones g (q1 0) q3 z3_128) hP hD hS hA [6, 7, 8, 9, 10, 11] [0, 1, 2, 3, 4, 5, 12, 13, 14] rfl rfl (by decide) (by decide) (va_runV (As := [.int r7, .int r57]) (rest := []) ⟨hx, hb, hml, hown, hts⟩ (c_Zones_tell hG hGn l dC dI g F H.size (q1 0) q3 z3_88 r7 r57 hcl) (cwV 2 hts (gdV k2_193 k2_194 k2_195 k1_8 k2_196) rfl rfl rfl (by decide +kernel) ⟨Nat.le_of_ble_eq_true rfl, Nat.le_of_ble_eq_true rfl⟩) (kpV hG hP hK hD hS hA hGA [6, 7, 8, 9, 10, 11] (by decide) rfl (ci := 5) (q0 := 0) rfl rfl rfl) rfl rfl hl.1 rfl (lv_room (Nat.le_of_ble_eq_true rfl)) d_Reader_readZone_128 ⟨Nat.le_of_ble_eq_true rfl, Nat.le_of_ble_eq_true rfl⟩) (fun H locs hP hD hS => ?_)
                have hP : va_P (dC, dI) vwCl (wd_Reader g h0 q0 x0 ++ wd_Plan g (q0 1) q1 x1 ++ wd_Words g (q0 0) q2 z2_88 ++ wd_Zones g (q1 0) q3 z3_128 ++ wd_Text g (q2 0) q4 x4) H := hP.sub (ws' := wd_Reader g h0 q0 x0 ++ wd_Plan g (q0 1) q1 x1 ++ wd_Words g (q0 0) q2 z2_88 ++ wd_Zones g (q1 0) q3 z3_128 ++ wd_Text g (q2 0) q4 x4) [0, 1, 2, 3, 4, 5, 9, 10, 11, 12, 13, 14, 6, 7, 8] rfl
                have hD : va_D A (wd_Reader g h0 q0 x0 ++ wd_Plan g (q0 1) q1 x1 ++ wd_Words g (q0 0) q2 z2_88 ++ wd_Zones g (q1 0) q3 z3_128 ++ wd_Text g (q2 0) q4 x4) := hD.sub (ws' := wd_Reader g h0 q0 x0 ++ wd_Plan g (q0 1) q1 x1 ++ wd_Words g (q0 0) q2 z2_88 ++ wd_Zones g (q1 0) q3 z3_128 ++ wd_Text g (q2 0) q4 x4) [0, 1, 2, 3, 4, 5, 9, 10, 11, 12, 13, 14, 6, 7, 8] (by decide) rfl
                refine lv_iconst (v := (-1 : Int32)) hx hb d_Reader_readZone_131 (by decide) ?_
                obtain rfl := Option.some.inj hm
                rw [hQ]
                exact kri hx hb hr hlocks hAe hP hK hD hS d_Reader_readZone_132
              · replace hm := if_f hm hc
                refine lv_iload_n hx hb d_Reader_readZone_117 rfl (lv_at hl 0 rfl) ?_
                obtain rfl := Option.some.inj hm
                rw [hQ]
                exact kri hx hb hr hlocks hAe hP hK hD hS d_Reader_readZone_118
            · replace hm := if_t hm hc
              refine lv_aload_n hx hb d_Reader_readZone_94 rfl (lv_at hl 3 rfl) ?_
              refine va_get (D := (dC, dI)) (ci := 3) (v := .ref (q0 0)) (C := "AlarmMatrix$Reader") (T := T_Reader) (N := 3) hx hb hts i_Reader hown hK hP 0 rfl rfl 0 (by decide) (hts _ k2_34) (fun _ h9 => h9) rfl d_Reader_readZone_95 ?_
              obtain ⟨r98, hcl, hm⟩ := bn1_s hm
              refine kci (wc := wd_Words g (q0 0) q2 z2_88) (wr := wd_Reader g h0 q0 x0 ++ wd_Plan g (q0 1) q1 x1 ++ wd_Zones g (q1 0) q3 z3_88 ++ wd_Text g (q2 0) q4 x4) (w1 := wd_Words g (q0 0) q2 z2_88) hP hD hS hA [5] [0, 1, 2, 3, 4, 6, 7, 8, 9, 10, 11, 12, 13, 14] rfl rfl (by decide) (by decide) (va_runV (As := []) (rest := []) ⟨hx, hb, hml, hown, hts⟩ (c_Words_number hG hGn l dC dI g F H.size (q0 0) q2 z2_88 hcl) (cwV 0 hts (gdV k2_170 k2_171 k2_172 k1_21 k2_173) rfl rfl rfl (by decide +kernel) ⟨Nat.le_of_ble_eq_true rfl, Nat.le_of_ble_eq_true rfl⟩) (kpV hG hP hK hD hS hA hGA [5] (by decide) rfl (ci := 2) (q0 := 0) rfl rfl rfl) rfl rfl hl.1 rfl (lv_room (Nat.le_of_ble_eq_true rfl)) d_Reader_readZone_98 ⟨Nat.le_of_ble_eq_true rfl, Nat.le_of_ble_eq_true rfl⟩) (fun H locs hP hD hS => ?_)
              have hP : va_P (dC, dI) vwCl (wd_Reader g h0 q0 x0 ++ wd_Plan g (q0 1) q1 x1 ++ wd_Words g (q0 0) q2 z2_88 ++ wd_Zones g (q1 0) q3 z3_88 ++ wd_Text g (q2 0) q4 x4) H := hP.sub (ws' := wd_Reader g h0 q0 x0 ++ wd_Plan g (q0 1) q1 x1 ++ wd_Words g (q0 0) q2 z2_88 ++ wd_Zones g (q1 0) q3 z3_88 ++ wd_Text g (q2 0) q4 x4) [0, 1, 2, 3, 4, 14, 5, 6, 7, 8, 9, 10, 11, 12, 13] rfl
              have hD : va_D A (wd_Reader g h0 q0 x0 ++ wd_Plan g (q0 1) q1 x1 ++ wd_Words g (q0 0) q2 z2_88 ++ wd_Zones g (q1 0) q3 z3_88 ++ wd_Text g (q2 0) q4 x4) := hD.sub (ws' := wd_Reader g h0 q0 x0 ++ wd_Plan g (q0 1) q1 x1 ++ wd_Words g (q0 0) q2 z2_88 ++ wd_Zones g (q1 0) q3 z3_88 ++ wd_Text g (q2 0) q4 x4) [0, 1, 2, 3, 4, 14, 5, 6, 7, 8, 9, 10, 11, 12, 13] (by decide) rfl
              obtain rfl := Option.some.inj hm
              rw [hQ]
              exact kri hx hb hr hlocks hAe hP hK hD hS d_Reader_readZone_101
      · replace hm := if_t hm hc
        refine lv_aload_n hx hb d_Reader_readZone_42 rfl (lv_at hl 1 rfl) ?_
        refine va_get (D := (dC, dI)) (ci := 3) (v := .ref (q0 0)) (C := "AlarmMatrix$Reader") (T := T_Reader) (N := 3) hx hb hts i_Reader hown hK hP 0 rfl rfl 0 (by decide) (hts _ k2_34) (fun _ h9 => h9) rfl d_Reader_readZone_43 ?_
        obtain ⟨r46, hcl, hm⟩ := bn1_s hm
        refine kci (wc := wd_Words g (q0 0) q2 z2_36) (wr := wd_Reader g h0 q0 x0 ++ wd_Plan g (q0 1) q1 x1 ++ wd_Zones g (q1 0) q3 x3 ++ wd_Text g (q2 0) q4 x4) (w1 := wd_Words g (q0 0) q2 z2_36) hP hD hS hA [5] [0, 1, 2, 3, 4, 6, 7, 8, 9, 10, 11, 12, 13, 14] rfl rfl (by decide) (by decide) (va_runV (As := []) (rest := []) ⟨hx, hb, hml, hown, hts⟩ (c_Words_number hG hGn l dC dI g F H.size (q0 0) q2 z2_36 hcl) (cwV 0 hts (gdV k2_170 k2_171 k2_172 k1_21 k2_173) rfl rfl rfl (by decide +kernel) ⟨Nat.le_of_ble_eq_true rfl, Nat.le_of_ble_eq_true rfl⟩) (kpV hG hP hK hD hS hA hGA [5] (by decide) rfl (ci := 2) (q0 := 0) rfl rfl rfl) rfl rfl hl.1 rfl (lv_room (Nat.le_of_ble_eq_true rfl)) d_Reader_readZone_46 ⟨Nat.le_of_ble_eq_true rfl, Nat.le_of_ble_eq_true rfl⟩) (fun H locs hP hD hS => ?_)
        have hP : va_P (dC, dI) vwCl (wd_Reader g h0 q0 x0 ++ wd_Plan g (q0 1) q1 x1 ++ wd_Words g (q0 0) q2 z2_36 ++ wd_Zones g (q1 0) q3 x3 ++ wd_Text g (q2 0) q4 x4) H := hP.sub (ws' := wd_Reader g h0 q0 x0 ++ wd_Plan g (q0 1) q1 x1 ++ wd_Words g (q0 0) q2 z2_36 ++ wd_Zones g (q1 0) q3 x3 ++ wd_Text g (q2 0) q4 x4) [0, 1, 2, 3, 4, 14, 5, 6, 7, 8, 9, 10, 11, 12, 13] rfl
        have hD : va_D A (wd_Reader g h0 q0 x0 ++ wd_Plan g (q0 1) q1 x1 ++ wd_Words g (q0 0) q2 z2_36 ++ wd_Zones g (q1 0) q3 x3 ++ wd_Text g (q2 0) q4 x4) := hD.sub (ws' := wd_Reader g h0 q0 x0 ++ wd_Plan g (q0 1) q1 x1 ++ wd_Words g (q0 0) q2 z2_36 ++ wd_Zones g (q1 0) q3 x3 ++ wd_Text g (q2 0) q4 x4) [0, 1, 2, 3, 4, 14, 5, 6, 7, 8, 9, 10, 11, 12, 13] (by decide) rfl
        obtain rfl := Option.some.inj hm
        rw [hQ]
        exact kri hx hb hr hlocks hAe hP hK hD hS d_Reader_readZone_49
abbrev b_Reader_readSentence : ByteArray := prog_7_method_3_code
abbrev y_Reader_readSentence : MethodName := ⟨"AlarmMatrix$Reader", "readSentence", "()I"⟩
theorem d_Reader_readSentence_0 : decode b_Reader_readSentence 0 = .ok (.aload_n 0, 1) := by decide +kernel
theorem d_Reader_readSentence_1 : decode b_Reader_readSentence 1 = .ok (.getfield 14, 3) := by decide +kernel
theorem d_Reader_readSentence_4 : decode b_Reader_readSentence 4 = .ok (.ldc 44, 2) := by decide +kernel
theorem d_Reader_readSentence_6 : decode b_Reader_readSentence 6 = .ok (.invokevirtual 46, 3) := by decide +kernel
theorem d_Reader_readSentence_9 : decode b_Reader_readSentence 9 = .ok (.ifCond .eq 8, 3) := by decide +kernel
theorem d_Reader_readSentence_12 : decode b_Reader_readSentence 12 = .ok (.aload_n 0, 1) := by decide +kernel
theorem d_Reader_readSentence_13 : decode b_Reader_readSentence 13 = .ok (.invokevirtual 50, 3) := by decide +kernel
theorem d_Reader_readSentence_16 : decode b_Reader_readSentence 16 = .ok (.ireturn, 1) := by decide +kernel
theorem d_Reader_readSentence_17 : decode b_Reader_readSentence 17 = .ok (.aload_n 0, 1) := by decide +kernel
theorem d_Reader_readSentence_18 : decode b_Reader_readSentence 18 = .ok (.getfield 14, 3) := by decide +kernel
theorem d_Reader_readSentence_21 : decode b_Reader_readSentence 21 = .ok (.ldc 53, 2) := by decide +kernel
theorem d_Reader_readSentence_23 : decode b_Reader_readSentence 23 = .ok (.invokevirtual 46, 3) := by decide +kernel
theorem d_Reader_readSentence_26 : decode b_Reader_readSentence 26 = .ok (.ifCond .eq 8, 3) := by decide +kernel
theorem d_Reader_readSentence_29 : decode b_Reader_readSentence 29 = .ok (.aload_n 0, 1) := by decide +kernel
theorem d_Reader_readSentence_30 : decode b_Reader_readSentence 30 = .ok (.invokevirtual 55, 3) := by decide +kernel
theorem d_Reader_readSentence_33 : decode b_Reader_readSentence 33 = .ok (.ireturn, 1) := by decide +kernel
theorem d_Reader_readSentence_34 : decode b_Reader_readSentence 34 = .ok (.aload_n 0, 1) := by decide +kernel
theorem d_Reader_readSentence_35 : decode b_Reader_readSentence 35 = .ok (.getfield 14, 3) := by decide +kernel
theorem d_Reader_readSentence_38 : decode b_Reader_readSentence 38 = .ok (.ldc 58, 2) := by decide +kernel
theorem d_Reader_readSentence_40 : decode b_Reader_readSentence 40 = .ok (.invokevirtual 46, 3) := by decide +kernel
theorem d_Reader_readSentence_43 : decode b_Reader_readSentence 43 = .ok (.ifCond .eq 8, 3) := by decide +kernel
theorem d_Reader_readSentence_46 : decode b_Reader_readSentence 46 = .ok (.aload_n 0, 1) := by decide +kernel
theorem d_Reader_readSentence_47 : decode b_Reader_readSentence 47 = .ok (.invokevirtual 60, 3) := by decide +kernel
theorem d_Reader_readSentence_50 : decode b_Reader_readSentence 50 = .ok (.ireturn, 1) := by decide +kernel
theorem d_Reader_readSentence_51 : decode b_Reader_readSentence 51 = .ok (.aload_n 0, 1) := by decide +kernel
theorem d_Reader_readSentence_52 : decode b_Reader_readSentence 52 = .ok (.getfield 14, 3) := by decide +kernel
theorem d_Reader_readSentence_55 : decode b_Reader_readSentence 55 = .ok (.ldc 63, 2) := by decide +kernel
theorem d_Reader_readSentence_57 : decode b_Reader_readSentence 57 = .ok (.invokevirtual 46, 3) := by decide +kernel
theorem d_Reader_readSentence_60 : decode b_Reader_readSentence 60 = .ok (.ifCond .eq 10, 3) := by decide +kernel
theorem d_Reader_readSentence_63 : decode b_Reader_readSentence 63 = .ok (.aload_n 0, 1) := by decide +kernel
theorem d_Reader_readSentence_64 : decode b_Reader_readSentence 64 = .ok (.invokevirtual 65, 3) := by decide +kernel
theorem d_Reader_readSentence_67 : decode b_Reader_readSentence 67 = .ok (.goto 10, 3) := by decide +kernel
theorem d_Reader_readSentence_70 : decode b_Reader_readSentence 70 = .ok (.aload_n 0, 1) := by decide +kernel
theorem d_Reader_readSentence_71 : decode b_Reader_readSentence 71 = .ok (.getfield 14, 3) := by decide +kernel
theorem d_Reader_readSentence_74 : decode b_Reader_readSentence 74 = .ok (.invokevirtual 68, 3) := by decide +kernel
theorem d_Reader_readSentence_77 : decode b_Reader_readSentence 77 = .ok (.ireturn, 1) := by decide +kernel
def m_Reader_readSentence (F : Nat) (x0 : St) (x1 : St) (x2 : St) (x3 : St) (x4 : St) (x5 : St) : Option (Int32 × St × St × St × St) :=
  (bn1 (m_Words_is F x2 x5 0) (fun r6 => (if r6 = (0 : Int32) then (bn1 (m_Words_is F x2 x5 4) (fun r23 => (if r23 = (0 : Int32) then (bn1 (m_Words_is F x2 x5 8) (fun r40 => (if r40 = (0 : Int32) then (bn1 (m_Words_is F x2 x5 11) (fun r57 => (if r57 = (0 : Int32) then (bn1 (m_Words_number F x2) (fun r74 => (some (r74, x1, x2, x3, x4)))) else (bn3 (m_Reader_readHold F x0 x1 x2 x3 x5) (fun r64 z2_64 z3_64 => (some (r64, x1, z2_64, z3_64, x4))))))) else (bn3 (m_Reader_readRow F x0 x1 x2 x3 x4 x5) (fun r47 z1_47 z2_47 => (some (r47, z1_47, z2_47, x3, x4))))))) else (bn3 (m_Reader_readAct F x0 x1 x2 x3 x5) (fun r30 z2_30 z3_30 => (some (r30, x1, z2_30, z3_30, x4))))))) else (bn3 (m_Reader_readZone F x0 x1 x2 x4 x5) (fun r13 z2_13 z4_13 => (some (r13, x1, z2_13, x3, z4_13)))))))
abbrev rm_Reader_readSentence : Room := { frames := 8, cells := 0, slots := 0, locals := 175 }
set_option maxHeartbeats 4000000 in
set_option maxRecDepth 100000 in
theorem c_Reader_readSentence {G : (Nat → Prop) → State → Prop} (hG : gok G) (hGn : gN G) {adK adV : Nat → Nat} (hGs : gSt adK adV G) (l : Launch) (dC : Nat → ClassId) (dI : Nat → Nat → Nat) (g : Nat → ClassId) (F : Nat) (sz : Nat) (h0 : Nat) (q0 : Nat → Nat) (x0 : St) (q1 : Nat → Nat) (x1 : St) (q2 : Nat → Nat) (x2 : St) (q3 : Nat → Nat) (x3 : St) (q4 : Nat → Nat) (x4 : St) (q5 : Nat → Nat) (x5 : St) {o : Int32 × St × St × St × St} (hm : m_Reader_readSentence F x0 x1 x2 x3 x4 x5 = some o) : Met l y_Reader_readSentence (.code y_Reader_readSentence b_Reader_readSentence 1 (some .int) :: gw) rm_Reader_readSentence (kq (dC, dI) vwCl (tyv g) G [.ref h0] sz (wd_Reader g h0 q0 x0 ++ wd_Plan g (q0 1) q1 x1 ++ wd_Words g (q0 0) q2 x2 ++ wd_Acts g (q1 1) q3 x3 ++ wd_Zones g (q1 0) q4 x4 ++ wd_Text g (q2 0) q5 x5)) (kqi (dC, dI) vwCl (tyv g) (wd_Reader g h0 q0 x0 ++ wd_Plan g (q0 1) q1 x1 ++ wd_Words g (q0 0) q2 x2 ++ wd_Acts g (q1 1) q3 x3 ++ wd_Zones g (q1 0) q4 x4 ++ wd_Text g (q2 0) q5 x5) o.1 (wd_Reader g h0 q0 x0 ++ wd_Plan g (q0 1) q1 (o.2.1) ++ wd_Words g (q0 0) q2 (o.2.2.1) ++ wd_Acts g (q1 1) q3 (o.2.2.2.1) ++ wd_Zones g (q1 0) q4 (o.2.2.2.2) ++ wd_Text g (q2 0) q5 x5) sz) 0 0 (va_A (wd_Reader g h0 q0 x0 ++ wd_Plan g (q0 1) q1 x1 ++ wd_Words g (q0 0) q2 x2 ++ wd_Acts g (q1 1) q3 x3 ++ wd_Zones g (q1 0) q4 x4 ++ wd_Text g (q2 0) q5 x5) sz) := by
  unfold m_Reader_readSentence at hm
  refine km (Qc := fun sz => kqi (dC, dI) vwCl (tyv g) (wd_Reader g h0 q0 x0 ++ wd_Plan g (q0 1) q1 x1 ++ wd_Words g (q0 0) q2 x2 ++ wd_Acts g (q1 1) q3 x3 ++ wd_Zones g (q1 0) q4 x4 ++ wd_Text g (q2 0) q5 x5) o.1 (wd_Reader g h0 q0 x0 ++ wd_Plan g (q0 1) q1 (o.2.1) ++ wd_Words g (q0 0) q2 (o.2.2.1) ++ wd_Acts g (q1 1) q3 (o.2.2.2.1) ++ wd_Zones g (q1 0) q4 (o.2.2.2.2) ++ wd_Text g (q2 0) q5 x5) sz) (cc := b_Reader_readSentence) (maxL := 1) (ret := some .int) (by decide) rfl (Nat.le_of_ble_eq_true rfl) ?_
  intro p e s m args below meth c Q hQ hx hb hr hts hown hlocks hml hnm H locs A hAe hA hP hK hD hS hGA ls hl
  have hl : lv_has ls 1 [(0, .ref h0)] := hl
  have hts : ∀ w ∈ gw, w.before args s = true := fun w h => hts w (List.mem_cons_of_mem _ h)
  have hown : s.vm.findClass "AlarmMatrix$Reader" = some m.cls := hown
  refine lv_aload_n hx hb d_Reader_readSentence_0 rfl (lv_at hl 0 rfl) ?_
  refine va_get (D := (dC, dI)) (ci := 3) (v := .ref (q0 0)) (C := "AlarmMatrix$Reader") (T := T_Reader) (N := 3) hx hb hts i_Reader hown hK hP 0 rfl rfl 0 (by decide) (hts _ k2_34) (fun _ h9 => h9) rfl d_Reader_readSentence_1 ?_
  refine va_ldcS hx hb hown ((hGs A s hGA).2.2.2 0 (by decide)) d_Reader_readSentence_4 ?_
  obtain ⟨r6, hcl, hm⟩ := bn1_s hm
  refine kci (wc := wd_Words g (q0 0) q2 x2 ++ wd_Text g (q2 0) q5 x5) (wr := wd_Reader g h0 q0 x0 ++ wd_Plan g (q0 1) q1 x1 ++ wd_Acts g (q1 1) q3 x3 ++ wd_Zones g (q1 0) q4 x4) (w1 := wd_Words g (q0 0) q2 x2 ++ wd_Text g (q2 0) q5 x5) hP hD hS hA [5, 25, 26, 27] [0, 1, 2, 3, 4, 6, 7, 8, 9, 10, 11, 12, 13, 14, 15, 16, 17, 18, 19, 20, 21, 22, 23, 24] rfl rfl (by decide) (by decide) (va_runV (As := [.ref (adK 0)]) (rest := []) ⟨hx, hb, hml, hown, hts⟩ (c_Words_is hG hGn hGs l dC dI g F H.size (q0 0) q2 x2 q5 x5 0 (by decide) hcl) (cwV 1 hts (gdV k2_87 k2_88 k2_89 k1_21 k2_90) rfl rfl rfl (by decide +kernel) ⟨Nat.le_of_ble_eq_true rfl, Nat.le_of_ble_eq_true rfl⟩) (kpV hG hP hK hD hS hA hGA [5, 25, 26, 27] (by decide) rfl (ci := 2) (q0 := 0) rfl rfl rfl) rfl rfl hl.1 rfl (lv_room (Nat.le_of_ble_eq_true rfl)) d_Reader_readSentence_6 ⟨Nat.le_of_ble_eq_true rfl, Nat.le_of_ble_eq_true rfl⟩) (fun H locs hP hD hS => ?_)
  have hP : va_P (dC, dI) vwCl (wd_Reader g h0 q0 x0 ++ wd_Plan g (q0 1) q1 x1 ++ wd_Words g (q0 0) q2 x2 ++ wd_Acts g (q1 1) q3 x3 ++ wd_Zones g (q1 0) q4 x4 ++ wd_Text g (q2 0) q5 x5) H := hP.sub (ws' := wd_Reader g h0 q0 x0 ++ wd_Plan g (q0 1) q1 x1 ++ wd_Words g (q0 0) q2 x2 ++ wd_Acts g (q1 1) q3 x3 ++ wd_Zones g (q1 0) q4 x4 ++ wd_Text g (q2 0) q5 x5) [0, 1, 2, 3, 4, 24, 5, 6, 7, 8, 9, 10, 11, 12, 13, 14, 15, 16, 17, 18, 19, 20, 21, 22, 23, 25, 26, 27] rfl
  have hD : va_D A (wd_Reader g h0 q0 x0 ++ wd_Plan g (q0 1) q1 x1 ++ wd_Words g (q0 0) q2 x2 ++ wd_Acts g (q1 1) q3 x3 ++ wd_Zones g (q1 0) q4 x4 ++ wd_Text g (q2 0) q5 x5) := hD.sub (ws' := wd_Reader g h0 q0 x0 ++ wd_Plan g (q0 1) q1 x1 ++ wd_Words g (q0 0) q2 x2 ++ wd_Acts g (q1 1) q3 x3 ++ wd_Zones g (q1 0) q4 x4 ++ wd_Text g (q2 0) q5 x5) [0, 1, 2, 3, 4, 24, 5, 6, 7, 8, 9, 10, 11, 12, 13, 14, 15, 16, 17, 18, 19, 20, 21, 22, 23, 25, 26, 27] (by decide) rfl
  refine lv_if_eq (tgt := 17) hx hb d_Reader_readSentence_9 (by decide) (fun hc => ?_) (fun hc => ?_)
  · replace hm := if_t hm hc
    refine lv_aload_n hx hb d_Reader_readSentence_17 rfl (lv_at hl 0 rfl) ?_
    refine va_get (D := (dC, dI)) (ci := 3) (v := .ref (q0 0)) (C := "AlarmMatrix$Reader") (T := T_Reader) (N := 3) hx hb hts i_Reader hown hK hP 0 rfl rfl 0 (by decide) (hts _ k2_34) (fun _ h9 => h9) rfl d_Reader_readSentence_18 ?_
    refine va_ldcS hx hb hown ((hGs A s hGA).2.2.2 4 (by decide)) d_Reader_readSentence_21 ?_
    obtain ⟨r23, hcl, hm⟩ := bn1_s hm
    refine kci (wc := wd_Words g (q0 0) q2 x2 ++ wd_Text g (q2 0) q5 x5) (wr := wd_Reader g h0 q0 x0 ++ wd_Plan g (q0 1) q1 x1 ++ wd_Acts g (q1 1) q3 x3 ++ wd_Zones g (q1 0) q4 x4) (w1 := wd_Words g (q0 0) q2 x2 ++ wd_Text g (q2 0) q5 x5) hP hD hS hA [5, 25, 26, 27] [0, 1, 2, 3, 4, 6, 7, 8, 9, 10, 11, 12, 13, 14, 15, 16, 17, 18, 19, 20, 21, 22, 23, 24] rfl rfl (by decide) (by decide) (va_runV (As := [.ref (adK 4)]) (rest := []) ⟨hx, hb, hml, hown, hts⟩ (c_Words_is hG hGn hGs l dC dI g F H.size (q0 0) q2 x2 q5 x5 4 (by decide) hcl) (cwV 1 hts (gdV k2_87 k2_88 k2_89 k1_21 k2_90) rfl rfl rfl (by decide +kernel) ⟨Nat.le_of_ble_eq_true rfl, Nat.le_of_ble_eq_true rfl⟩) (kpV hG hP hK hD hS hA hGA [5, 25, 26, 27] (by decide) rfl (ci := 2) (q0 := 0) rfl rfl rfl) rfl rfl hl.1 rfl (lv_room (Nat.le_of_ble_eq_true rfl)) d_Reader_readSentence_23 ⟨Nat.le_of_ble_eq_true rfl, Nat.le_of_ble_eq_true rfl⟩) (fun H locs hP hD hS => ?_)
    have hP : va_P (dC, dI) vwCl (wd_Reader g h0 q0 x0 ++ wd_Plan g (q0 1) q1 x1 ++ wd_Words g (q0 0) q2 x2 ++ wd_Acts g (q1 1) q3 x3 ++ wd_Zones g (q1 0) q4 x4 ++ wd_Text g (q2 0) q5 x5) H := hP.sub (ws' := wd_Reader g h0 q0 x0 ++ wd_Plan g (q0 1) q1 x1 ++ wd_Words g (q0 0) q2 x2 ++ wd_Acts g (q1 1) q3 x3 ++ wd_Zones g (q1 0) q4 x4 ++ wd_Text g (q2 0) q5 x5) [0, 1, 2, 3, 4, 24, 5, 6, 7, 8, 9, 10, 11, 12, 13, 14, 15, 16, 17, 18, 19, 20, 21, 22, 23, 25, 26, 27] rfl
    have hD : va_D A (wd_Reader g h0 q0 x0 ++ wd_Plan g (q0 1) q1 x1 ++ wd_Words g (q0 0) q2 x2 ++ wd_Acts g (q1 1) q3 x3 ++ wd_Zones g (q1 0) q4 x4 ++ wd_Text g (q2 0) q5 x5) := hD.sub (ws' := wd_Reader g h0 q0 x0 ++ wd_Plan g (q0 1) q1 x1 ++ wd_Words g (q0 0) q2 x2 ++ wd_Acts g (q1 1) q3 x3 ++ wd_Zones g (q1 0) q4 x4 ++ wd_Text g (q2 0) q5 x5) [0, 1, 2, 3, 4, 24, 5, 6, 7, 8, 9, 10, 11, 12, 13, 14, 15, 16, 17, 18, 19, 20, 21, 22, 23, 25, 26, 27] (by decide) rfl
    refine lv_if_eq (tgt := 34) hx hb d_Reader_readSentence_26 (by decide) (fun hc => ?_) (fun hc => ?_)
    · replace hm := if_t hm hc
      refine lv_aload_n hx hb d_Reader_readSentence_34 rfl (lv_at hl 0 rfl) ?_
      refine va_get (D := (dC, dI)) (ci := 3) (v := .ref (q0 0)) (C := "AlarmMatrix$Reader") (T := T_Reader) (N := 3) hx hb hts i_Reader hown hK hP 0 rfl rfl 0 (by decide) (hts _ k2_34) (fun _ h9 => h9) rfl d_Reader_readSentence_35 ?_
      refine va_ldcS hx hb hown ((hGs A s hGA).2.2.2 8 (by decide)) d_Reader_readSentence_38 ?_
      obtain ⟨r40, hcl, hm⟩ := bn1_s hm
      refine kci (wc := wd_Words g (q0 0) q2 x2 ++ wd_Text g (q2 0) q5 x5) (wr := wd_Reader g h0 q0 x0 ++ wd_Plan g (q0 1) q1 x1 ++ wd_Acts g (q1 1) q3 x3 ++ wd_Zones g (q1 0) q4 x4) (w1 := wd_Words g (q0 0) q2 x2 ++ wd_Text g (q2 0) q5 x5) hP hD hS hA [5, 25, 26, 27] [0, 1, 2, 3, 4, 6, 7, 8, 9, 10, 11, 12, 13, 14, 15, 16, 17, 18, 19, 20, 21, 22, 23, 24] rfl rfl (by decide) (by decide) (va_runV (As := [.ref (adK 8)]) (rest := []) ⟨hx, hb, hml, hown, hts⟩ (c_Words_is hG hGn hGs l dC dI g F H.size (q0 0) q2 x2 q5 x5 8 (by decide) hcl) (cwV 1 hts (gdV k2_87 k2_88 k2_89 k1_21 k2_90) rfl rfl rfl (by decide +kernel) ⟨Nat.le_of_ble_eq_true rfl, Nat.le_of_ble_eq_true rfl⟩) (kpV hG hP hK hD hS hA hGA [5, 25, 26, 27] (by decide) rfl (ci := 2) (q0 := 0) rfl rfl rfl) rfl rfl hl.1 rfl (lv_room (Nat.le_of_ble_eq_true rfl)) d_Reader_readSentence_40 ⟨Nat.le_of_ble_eq_true rfl, Nat.le_of_ble_eq_true rfl⟩) (fun H locs hP hD hS => ?_)
      have hP : va_P (dC, dI) vwCl (wd_Reader g h0 q0 x0 ++ wd_Plan g (q0 1) q1 x1 ++ wd_Words g (q0 0) q2 x2 ++ wd_Acts g (q1 1) q3 x3 ++ wd_Zones g (q1 0) q4 x4 ++ wd_Text g (q2 0) q5 x5) H := hP.sub (ws' := wd_Reader g h0 q0 x0 ++ wd_Plan g (q0 1) q1 x1 ++ wd_Words g (q0 0) q2 x2 ++ wd_Acts g (q1 1) q3 x3 ++ wd_Zones g (q1 0) q4 x4 ++ wd_Text g (q2 0) q5 x5) [0, 1, 2, 3, 4, 24, 5, 6, 7, 8, 9, 10, 11, 12, 13, 14, 15, 16, 17, 18, 19, 20, 21, 22, 23, 25, 26, 27] rfl
      have hD : va_D A (wd_Reader g h0 q0 x0 ++ wd_Plan g (q0 1) q1 x1 ++ wd_Words g (q0 0) q2 x2 ++ wd_Acts g (q1 1) q3 x3 ++ wd_Zones g (q1 0) q4 x4 ++ wd_Text g (q2 0) q5 x5) := hD.sub (ws' := wd_Reader g h0 q0 x0 ++ wd_Plan g (q0 1) q1 x1 ++ wd_Words g (q0 0) q2 x2 ++ wd_Acts g (q1 1) q3 x3 ++ wd_Zones g (q1 0) q4 x4 ++ wd_Text g (q2 0) q5 x5) [0, 1, 2, 3, 4, 24, 5, 6, 7, 8, 9, 10, 11, 12, 13, 14, 15, 16, 17, 18, 19, 20, 21, 22, 23, 25, 26, 27] (by decide) rfl
      refine lv_if_eq (tgt := 51) hx hb d_Reader_readSentence_43 (by decide) (fun hc => ?_) (fun hc => ?_)
      · replace hm := if_t hm hc
        refine lv_aload_n hx hb d_Reader_readSentence_51 rfl (lv_at hl 0 rfl) ?_
        refine va_get (D := (dC, dI)) (ci := 3) (v := .ref (q0 0)) (C := "AlarmMatrix$Reader") (T := T_Reader) (N := 3) hx hb hts i_Reader hown hK hP 0 rfl rfl 0 (by decide) (hts _ k2_34) (fun _ h9 => h9) rfl d_Reader_readSentence_52 ?_
        refine va_ldcS hx hb hown ((hGs A s hGA).2.2.2 11 (by decide)) d_Reader_readSentence_55 ?_
        obtain ⟨r57, hcl, hm⟩ := bn1_s hm
        refine kci (wc := wd_Words g (q0 0) q2 x2 ++ wd_Text g (q2 0) q5 x5) (wr := wd_Reader g h0 q0 x0 ++ wd_Plan g (q0 1) q1 x1 ++ wd_Acts g (q1 1) q3 x3 ++ wd_Zones g (q1 0) q4 x4) (w1 := wd_Words g (q0 0) q2 x2 ++ wd_Text g (q2 0) q5 x5) hP hD hS hA [5, 25, 26, 27] [0, 1, 2, 3, 4, 6, 7, 8, 9, 10, 11, 12, 13, 14, 15, 16, 17, 18, 19, 20, 21, 22, 23, 24] rfl rfl (by decide) (by decide) (va_runV (As := [.ref (adK 11)]) (rest := []) ⟨hx, hb, hml, hown, hts⟩ (c_Words_is hG hGn hGs l dC dI g F H.size (q0 0) q2 x2 q5 x5 11 (by decide) hcl) (cwV 1 hts (gdV k2_87 k2_88 k2_89 k1_21 k2_90) rfl rfl rfl (by decide +kernel) ⟨Nat.le_of_ble_eq_true rfl, Nat.le_of_ble_eq_true rfl⟩) (kpV hG hP hK hD hS hA hGA [5, 25, 26, 27] (by decide) rfl (ci := 2) (q0 := 0) rfl rfl rfl) rfl rfl hl.1 rfl (lv_room (Nat.le_of_ble_eq_true rfl)) d_Reader_readSentence_57 ⟨Nat.le_of_ble_eq_true rfl, Nat.le_of_ble_eq_true rfl⟩) (fun H locs hP hD hS => ?_)
        have hP : va_P (dC, dI) vwCl (wd_Reader g h0 q0 x0 ++ wd_Plan g (q0 1) q1 x1 ++ wd_Words g (q0 0) q2 x2 ++ wd_Acts g (q1 1) q3 x3 ++ wd_Zones g (q1 0) q4 x4 ++ wd_Text g (q2 0) q5 x5) H := hP.sub (ws' := wd_Reader g h0 q0 x0 ++ wd_Plan g (q0 1) q1 x1 ++ wd_Words g (q0 0) q2 x2 ++ wd_Acts g (q1 1) q3 x3 ++ wd_Zones g (q1 0) q4 x4 ++ wd_Text g (q2 0) q5 x5) [0, 1, 2, 3, 4, 24, 5, 6, 7, 8, 9, 10, 11, 12, 13, 14, 15, 16, 17, 18, 19, 20, 21, 22, 23, 25, 26, 27] rfl
        have hD : va_D A (wd_Reader g h0 q0 x0 ++ wd_Plan g (q0 1) q1 x1 ++ wd_Words g (q0 0) q2 x2 ++ wd_Acts g (q1 1) q3 x3 ++ wd_Zones g (q1 0) q4 x4 ++ wd_Text g (q2 0) q5 x5) := hD.sub (ws' := wd_Reader g h0 q0 x0 ++ wd_Plan g (q0 1) q1 x1 ++ wd_Words g (q0 0) q2 x2 ++ wd_Acts g (q1 1) q3 x3 ++ wd_Zones g (q1 0) q4 x4 ++ wd_Text g (q2 0) q5 x5) [0, 1, 2, 3, 4, 24, 5, 6, 7, 8, 9, 10, 11, 12, 13, 14, 15, 16, 17, 18, 19, 20, 21, 22, 23, 25, 26, 27] (by decide) rfl
        refine lv_if_eq (tgt := 70) hx hb d_Reader_readSentence_60 (by decide) (fun hc => ?_) (fun hc => ?_)
        · replace hm := if_t hm hc
          refine lv_aload_n hx hb d_Reader_readSentence_70 rfl (lv_at hl 0 rfl) ?_
          refine va_get (D := (dC, dI)) (ci := 3) (v := .ref (q0 0)) (C := "AlarmMatrix$Reader") (T := T_Reader) (N := 3) hx hb hts i_Reader hown hK hP 0 rfl rfl 0 (by decide) (hts _ k2_34) (fun _ h9 => h9) rfl d_Reader_readSentence_71 ?_
          obtain ⟨r74, hcl, hm⟩ := bn1_s hm
          refine kci (wc := wd_Words g (q0 0) q2 x2) (wr := wd_Reader g h0 q0 x0 ++ wd_Plan g (q0 1) q1 x1 ++ wd_Acts g (q1 1) q3 x3 ++ wd_Zones g (q1 0) q4 x4 ++ wd_Text g (q2 0) q5 x5) (w1 := wd_Words g (q0 0) q2 x2) hP hD hS hA [5] [0, 1, 2, 3, 4, 6, 7, 8, 9, 10, 11, 12, 13, 14, 15, 16, 17, 18, 19, 20, 21, 22, 23, 24, 25, 26, 27] rfl rfl (by decide) (by decide) (va_runV (As := []) (rest := []) ⟨hx, hb, hml, hown, hts⟩ (c_Words_number hG hGn l dC dI g F H.size (q0 0) q2 x2 hcl) (cwV 0 hts (gdV k2_170 k2_171 k2_172 k1_21 k2_173) rfl rfl rfl (by decide +kernel) ⟨Nat.le_of_ble_eq_true rfl, Nat.le_of_ble_eq_true rfl⟩) (kpV hG hP hK hD hS hA hGA [5] (by decide) rfl (ci := 2) (q0 := 0) rfl rfl rfl) rfl rfl hl.1 rfl (lv_room (Nat.le_of_ble_eq_true rfl)) d_Reader_readSentence_74 ⟨Nat.le_of_ble_eq_true rfl, Nat.le_of_ble_eq_true rfl⟩) (fun H locs hP hD hS => ?_)
          have hP : va_P (dC, dI) vwCl (wd_Reader g h0 q0 x0 ++ wd_Plan g (q0 1) q1 x1 ++ wd_Words g (q0 0) q2 x2 ++ wd_Acts g (q1 1) q3 x3 ++ wd_Zones g (q1 0) q4 x4 ++ wd_Text g (q2 0) q5 x5) H := hP.sub (ws' := wd_Reader g h0 q0 x0 ++ wd_Plan g (q0 1) q1 x1 ++ wd_Words g (q0 0) q2 x2 ++ wd_Acts g (q1 1) q3 x3 ++ wd_Zones g (q1 0) q4 x4 ++ wd_Text g (q2 0) q5 x5) [0, 1, 2, 3, 4, 27, 5, 6, 7, 8, 9, 10, 11, 12, 13, 14, 15, 16, 17, 18, 19, 20, 21, 22, 23, 24, 25, 26] rfl
          have hD : va_D A (wd_Reader g h0 q0 x0 ++ wd_Plan g (q0 1) q1 x1 ++ wd_Words g (q0 0) q2 x2 ++ wd_Acts g (q1 1) q3 x3 ++ wd_Zones g (q1 0) q4 x4 ++ wd_Text g (q2 0) q5 x5) := hD.sub (ws' := wd_Reader g h0 q0 x0 ++ wd_Plan g (q0 1) q1 x1 ++ wd_Words g (q0 0) q2 x2 ++ wd_Acts g (q1 1) q3 x3 ++ wd_Zones g (q1 0) q4 x4 ++ wd_Text g (q2 0) q5 x5) [0, 1, 2, 3, 4, 27, 5, 6, 7, 8, 9, 10, 11, 12, 13, 14, 15, 16, 17, 18, 19, 20, 21, 22, 23, 24, 25, 26] (by decide) rfl
          obtain rfl := Option.some.inj hm
          rw [hQ]
          exact kri hx hb hr hlocks hAe hP hK hD hS d_Reader_readSentence_77
        · replace hm := if_f hm hc
          refine lv_aload_n hx hb d_Reader_readSentence_63 rfl (lv_at hl 0 rfl) ?_
          obtain ⟨r64, z2_64, z3_64, hcl, hm⟩ := bn3_s hm
          refine kci (wc := wd_Reader g h0 q0 x0 ++ wd_Plan g (q0 1) q1 x1 ++ wd_Words g (q0 0) q2 x2 ++ wd_Acts g (q1 1) q3 x3 ++ wd_Text g (q2 0) q5 x5) (wr := wd_Zones g (q1 0) q4 x4) (w1 := wd_Reader g h0 q0 x0 ++ wd_Plan g (q0 1) q1 x1 ++ wd_Words g (q0 0) q2 z2_64 ++ wd_Acts g (q1 1) q3 z3_64 ++ wd_Text g (q2 0) q5 x5) hP hD hS hA [0, 1, 2, 3, 4, 5, 6, 7, 8, 9, 10, 11, 12, 13, 14, 15, 16, 17, 18, 25, 26, 27] [19, 20, 21, 22, 23, 24] rfl rfl (by decide) (by decide) (va_runV (As := []) (rest := []) ⟨hx, hb, hml, hown, hts⟩ (c_Reader_readHold hG hGn hGs l dC dI g F H.size h0 q0 x0 q1 x1 q2 x2 q3 x3 q5 x5 hcl) (cwV 0 hts (gdV k3_10 k3_12 kp_9 k1_20 k3_13) rfl rfl rfl (by decide +kernel) ⟨Nat.le_of_ble_eq_true rfl, Nat.le_of_ble_eq_true rfl⟩) (kpV hG hP hK hD hS hA hGA [0, 1, 2, 3, 4, 5, 6, 7, 8, 9, 10, 11, 12, 13, 14, 15, 16, 17, 18, 25, 26, 27] (by decide) rfl (ci := 3) (q0 := 0) rfl rfl rfl) rfl rfl hl.1 rfl (lv_room (Nat.le_of_ble_eq_true rfl)) d_Reader_readSentence_64 ⟨Nat.le_of_ble_eq_true rfl, Nat.le_of_ble_eq_true rfl⟩) (fun H locs hP hD hS => ?_)
          have hP : va_P (dC, dI) vwCl (wd_Reader g h0 q0 x0 ++ wd_Plan g (q0 1) q1 x1 ++ wd_Words g (q0 0) q2 z2_64 ++ wd_Acts g (q1 1) q3 z3_64 ++ wd_Zones g (q1 0) q4 x4 ++ wd_Text g (q2 0) q5 x5) H := hP.sub (ws' := wd_Reader g h0 q0 x0 ++ wd_Plan g (q0 1) q1 x1 ++ wd_Words g (q0 0) q2 z2_64 ++ wd_Acts g (q1 1) q3 z3_64 ++ wd_Zones g (q1 0) q4 x4 ++ wd_Text g (q2 0) q5 x5) [6, 7, 8, 9, 10, 11, 12, 13, 14, 15, 16, 17, 18, 19, 20, 21, 22, 23, 24, 0, 1, 2, 3, 4, 5, 25, 26, 27] rfl
          have hD : va_D A (wd_Reader g h0 q0 x0 ++ wd_Plan g (q0 1) q1 x1 ++ wd_Words g (q0 0) q2 z2_64 ++ wd_Acts g (q1 1) q3 z3_64 ++ wd_Zones g (q1 0) q4 x4 ++ wd_Text g (q2 0) q5 x5) := hD.sub (ws' := wd_Reader g h0 q0 x0 ++ wd_Plan g (q0 1) q1 x1 ++ wd_Words g (q0 0) q2 z2_64 ++ wd_Acts g (q1 1) q3 z3_64 ++ wd_Zones g (q1 0) q4 x4 ++ wd_Text g (q2 0) q5 x5) [6, 7, 8, 9, 10, 11, 12, 13, 14, 15, 16, 17, 18, 19, 20, 21, 22, 23, 24, 0, 1, 2, 3, 4, 5, 25, 26, 27] (by decide) rfl
          refine lv_goto (tgt := 77) hx hb d_Reader_readSentence_67 (by decide) ?_
          obtain rfl := Option.some.inj hm
          rw [hQ]
          exact kri hx hb hr hlocks hAe hP hK hD hS d_Reader_readSentence_77
      · replace hm := if_f hm hc
        refine lv_aload_n hx hb d_Reader_readSentence_46 rfl (lv_at hl 0 rfl) ?_
        obtain ⟨r47, z1_47, z2_47, hcl, hm⟩ := bn3_s hm
        refine kci (wc := wd_Reader g h0 q0 x0 ++ wd_Plan g (q0 1) q1 x1 ++ wd_Words g (q0 0) q2 x2 ++ wd_Acts g (q1 1) q3 x3 ++ wd_Zones g (q1 0) q4 x4 ++ wd_Text g (q2 0) q5 x5) (wr := ([] : va_W)) (w1 := wd_Reader g h0 q0 x0 ++ wd_Plan g (q0 1) q1 z1_47 ++ wd_Words g (q0 0) q2 z2_47 ++ wd_Acts g (q1 1) q3 x3 ++ wd_Zones g (q1 0) q4 x4 ++ wd_Text g (q2 0) q5 x5) hP hD hS hA [0, 1, 2, 3, 4, 5, 6, 7, 8, 9, 10, 11, 12, 13, 14, 15, 16, 17, 18, 19, 20, 21, 22, 23, 24, 25, 26, 27] [] rfl rfl (by decide) (by decide) (va_runV (As := []) (rest := []) ⟨hx, hb, hml, hown, hts⟩ (c_Reader_readRow hG hGn hGs l dC dI g F H.size h0 q0 x0 q1 x1 q2 x2 q3 x3 q4 x4 q5 x5 hcl) (cwV 0 hts (gdV k2_227 k2_229 kp_6 k1_20 k2_230) rfl rfl rfl (by decide +kernel) ⟨Nat.le_of_ble_eq_true rfl, Nat.le_of_ble_eq_true rfl⟩) (kpV hG hP hK hD hS hA hGA [0, 1, 2, 3, 4, 5, 6, 7, 8, 9, 10, 11, 12, 13, 14, 15, 16, 17, 18, 19, 20, 21, 22, 23, 24, 25, 26, 27] (by decide) rfl (ci := 3) (q0 := 0) rfl rfl rfl) rfl rfl hl.1 rfl (lv_room (Nat.le_of_ble_eq_true rfl)) d_Reader_readSentence_47 ⟨Nat.le_of_ble_eq_true rfl, Nat.le_of_ble_eq_true rfl⟩) (fun H locs hP hD hS => ?_)
        have hP : va_P (dC, dI) vwCl (wd_Reader g h0 q0 x0 ++ wd_Plan g (q0 1) q1 z1_47 ++ wd_Words g (q0 0) q2 z2_47 ++ wd_Acts g (q1 1) q3 x3 ++ wd_Zones g (q1 0) q4 x4 ++ wd_Text g (q2 0) q5 x5) H := hP
        have hD : va_D A (wd_Reader g h0 q0 x0 ++ wd_Plan g (q0 1) q1 z1_47 ++ wd_Words g (q0 0) q2 z2_47 ++ wd_Acts g (q1 1) q3 x3 ++ wd_Zones g (q1 0) q4 x4 ++ wd_Text g (q2 0) q5 x5) := hD
        obtain rfl := Option.some.inj hm
        rw [hQ]
        exact kri hx hb hr hlocks hAe hP hK hD hS d_Reader_readSentence_50
    · replace hm := if_f hm hc
      refine lv_aload_n hx hb d_Reader_readSentence_29 rfl (lv_at hl 0 rfl) ?_
      obtain ⟨r30, z2_30, z3_30, hcl, hm⟩ := bn3_s hm
      refine kci (wc := wd_Reader g h0 q0 x0 ++ wd_Plan g (q0 1) q1 x1 ++ wd_Words g (q0 0) q2 x2 ++ wd_Acts g (q1 1) q3 x3 ++ wd_Text g (q2 0) q5 x5) (wr := wd_Zones g (q1 0) q4 x4) (w1 := wd_Reader g h0 q0 x0 ++ wd_Plan g (q0 1) q1 x1 ++ wd_Words g (q0 0) q2 z2_30 ++ wd_Acts g (q1 1) q3 z3_30 ++ wd_Text g (q2 0) q5 x5) hP hD hS hA [0, 1, 2, 3, 4, 5, 6, 7, 8, 9, 10, 11, 12, 13, 14, 15, 16, 17, 18, 25, 26, 27] [19, 20, 21, 22, 23, 24] rfl rfl (by decide) (by decide) (va_runV (As := []) (rest := []) ⟨hx, hb, hml, hown, hts⟩ (c_Reader_readAct hG hGn hGs l dC dI g F H.size h0 q0 x0 q1 x1 q2 x2 q3 x3 q5 x5 hcl) (cwV 0 hts (gdV k2_198 k2_200 kp_3 k1_20 k2_201) rfl rfl rfl (by decide +kernel) ⟨Nat.le_of_ble_eq_true rfl, Nat.le_of_ble_eq_true rfl⟩) (kpV hG hP hK hD hS hA hGA [0, 1, 2, 3, 4, 5, 6, 7, 8, 9, 10, 11, 12, 13, 14, 15, 16, 17, 18, 25, 26, 27] (by decide) rfl (ci := 3) (q0 := 0) rfl rfl rfl) rfl rfl hl.1 rfl (lv_room (Nat.le_of_ble_eq_true rfl)) d_Reader_readSentence_30 ⟨Nat.le_of_ble_eq_true rfl, Nat.le_of_ble_eq_true rfl⟩) (fun H locs hP hD hS => ?_)
      have hP : va_P (dC, dI) vwCl (wd_Reader g h0 q0 x0 ++ wd_Plan g (q0 1) q1 x1 ++ wd_Words g (q0 0) q2 z2_30 ++ wd_Acts g (q1 1) q3 z3_30 ++ wd_Zones g (q1 0) q4 x4 ++ wd_Text g (q2 0) q5 x5) H := hP.sub (ws' := wd_Reader g h0 q0 x0 ++ wd_Plan g (q0 1) q1 x1 ++ wd_Words g (q0 0) q2 z2_30 ++ wd_Acts g (q1 1) q3 z3_30 ++ wd_Zones g (q1 0) q4 x4 ++ wd_Text g (q2 0) q5 x5) [6, 7, 8, 9, 10, 11, 12, 13, 14, 15, 16, 17, 18, 19, 20, 21, 22, 23, 24, 0, 1, 2, 3, 4, 5, 25, 26, 27] rfl
      have hD : va_D A (wd_Reader g h0 q0 x0 ++ wd_Plan g (q0 1) q1 x1 ++ wd_Words g (q0 0) q2 z2_30 ++ wd_Acts g (q1 1) q3 z3_30 ++ wd_Zones g (q1 0) q4 x4 ++ wd_Text g (q2 0) q5 x5) := hD.sub (ws' := wd_Reader g h0 q0 x0 ++ wd_Plan g (q0 1) q1 x1 ++ wd_Words g (q0 0) q2 z2_30 ++ wd_Acts g (q1 1) q3 z3_30 ++ wd_Zones g (q1 0) q4 x4 ++ wd_Text g (q2 0) q5 x5) [6, 7, 8, 9, 10, 11, 12, 13, 14, 15, 16, 17, 18, 19, 20, 21, 22, 23, 24, 0, 1, 2, 3, 4, 5, 25, 26, 27] (by decide) rfl
      obtain rfl := Option.some.inj hm
      rw [hQ]
      exact kri hx hb hr hlocks hAe hP hK hD hS d_Reader_readSentence_33
  · replace hm := if_f hm hc
    refine lv_aload_n hx hb d_Reader_readSentence_12 rfl (lv_at hl 0 rfl) ?_
    obtain ⟨r13, z2_13, z4_13, hcl, hm⟩ := bn3_s hm
    refine kci (wc := wd_Reader g h0 q0 x0 ++ wd_Plan g (q0 1) q1 x1 ++ wd_Words g (q0 0) q2 x2 ++ wd_Zones g (q1 0) q4 x4 ++ wd_Text g (q2 0) q5 x5) (wr := wd_Acts g (q1 1) q3 x3) (w1 := wd_Reader g h0 q0 x0 ++ wd_Plan g (q0 1) q1 x1 ++ wd_Words g (q0 0) q2 z2_13 ++ wd_Zones g (q1 0) q4 z4_13 ++ wd_Text g (q2 0) q5 x5) hP hD hS hA [0, 1, 2, 3, 4, 5, 19, 20, 21, 22, 23, 24, 25, 26, 27] [6, 7, 8, 9, 10, 11, 12, 13, 14, 15, 16, 17, 18] rfl rfl (by decide) (by decide) (va_runV (As := []) (rest := []) ⟨hx, hb, hml, hown, hts⟩ (c_Reader_readZone hG hGn hGs l dC dI g F H.size h0 q0 x0 q1 x1 q2 x2 q4 x4 q5 x5 hcl) (cwV 0 hts (gdV k2_139 k2_141 kp_1 k1_20 k2_142) rfl rfl rfl (by decide +kernel) ⟨Nat.le_of_ble_eq_true rfl, Nat.le_of_ble_eq_true rfl⟩) (kpV hG hP hK hD hS hA hGA [0, 1, 2, 3, 4, 5, 19, 20, 21, 22, 23, 24, 25, 26, 27] (by decide) rfl (ci := 3) (q0 := 0) rfl rfl rfl) rfl rfl hl.1 rfl (lv_room (Nat.le_of_ble_eq_true rfl)) d_Reader_readSentence_13 ⟨Nat.le_of_ble_eq_true rfl, Nat.le_of_ble_eq_true rfl⟩) (fun H locs hP hD hS => ?_)
    have hP : va_P (dC, dI) vwCl (wd_Reader g h0 q0 x0 ++ wd_Plan g (q0 1) q1 x1 ++ wd_Words g (q0 0) q2 z2_13 ++ wd_Acts g (q1 1) q3 x3 ++ wd_Zones g (q1 0) q4 z4_13 ++ wd_Text g (q2 0) q5 x5) H := hP.sub (ws' := wd_Reader g h0 q0 x0 ++ wd_Plan g (q0 1) q1 x1 ++ wd_Words g (q0 0) q2 z2_13 ++ wd_Acts g (q1 1) q3 x3 ++ wd_Zones g (q1 0) q4 z4_13 ++ wd_Text g (q2 0) q5 x5) [13, 14, 15, 16, 17, 18, 0, 1, 2, 3, 4, 5, 6, 7, 8, 9, 10, 11, 12, 19, 20, 21, 22, 23, 24, 25, 26, 27] rfl
    have hD : va_D A (wd_Reader g h0 q0 x0 ++ wd_Plan g (q0 1) q1 x1 ++ wd_Words g (q0 0) q2 z2_13 ++ wd_Acts g (q1 1) q3 x3 ++ wd_Zones g (q1 0) q4 z4_13 ++ wd_Text g (q2 0) q5 x5) := hD.sub (ws' := wd_Reader g h0 q0 x0 ++ wd_Plan g (q0 1) q1 x1 ++ wd_Words g (q0 0) q2 z2_13 ++ wd_Acts g (q1 1) q3 x3 ++ wd_Zones g (q1 0) q4 z4_13 ++ wd_Text g (q2 0) q5 x5) [13, 14, 15, 16, 17, 18, 0, 1, 2, 3, 4, 5, 6, 7, 8, 9, 10, 11, 12, 19, 20, 21, 22, 23, 24, 25, 26, 27] (by decide) rfl
    obtain rfl := Option.some.inj hm
    rw [hQ]
    exact kri hx hb hr hlocks hAe hP hK hD hS d_Reader_readSentence_16

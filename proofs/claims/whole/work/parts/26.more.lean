abbrev b_Reader_findWrongWord : ByteArray := prog_7_method_2_code
abbrev y_Reader_findWrongWord : MethodName := ⟨"AlarmMatrix$Reader", "findWrongWord", "()I"⟩
theorem d_Reader_findWrongWord_0 : decode b_Reader_findWrongWord 0 = .ok (.aload_n 0, 1) := by decide +kernel
theorem d_Reader_findWrongWord_1 : decode b_Reader_findWrongWord 1 = .ok (.getfield 20, 3) := by decide +kernel
theorem d_Reader_findWrongWord_4 : decode b_Reader_findWrongWord 4 = .ok (.invokevirtual 28, 3) := by decide +kernel
theorem d_Reader_findWrongWord_7 : decode b_Reader_findWrongWord 7 = .ok (.iconst 0, 1) := by decide +kernel
theorem d_Reader_findWrongWord_8 : decode b_Reader_findWrongWord 8 = .ok (.istore_n 1, 1) := by decide +kernel
theorem d_Reader_findWrongWord_9 : decode b_Reader_findWrongWord 9 = .ok (.iload_n 1, 1) := by decide +kernel
theorem d_Reader_findWrongWord_10 : decode b_Reader_findWrongWord 10 = .ok (.sipush 2000, 3) := by decide +kernel
theorem d_Reader_findWrongWord_13 : decode b_Reader_findWrongWord 13 = .ok (.if_icmp .gt 40, 3) := by decide +kernel
theorem d_Reader_findWrongWord_16 : decode b_Reader_findWrongWord 16 = .ok (.aload_n 0, 1) := by decide +kernel
theorem d_Reader_findWrongWord_17 : decode b_Reader_findWrongWord 17 = .ok (.getfield 14, 3) := by decide +kernel
theorem d_Reader_findWrongWord_20 : decode b_Reader_findWrongWord 20 = .ok (.invokevirtual 33, 3) := by decide +kernel
theorem d_Reader_findWrongWord_23 : decode b_Reader_findWrongWord 23 = .ok (.aload_n 0, 1) := by decide +kernel
theorem d_Reader_findWrongWord_24 : decode b_Reader_findWrongWord 24 = .ok (.getfield 14, 3) := by decide +kernel
theorem d_Reader_findWrongWord_27 : decode b_Reader_findWrongWord 27 = .ok (.invokevirtual 36, 3) := by decide +kernel
theorem d_Reader_findWrongWord_30 : decode b_Reader_findWrongWord 30 = .ok (.ifCond .eq 5, 3) := by decide +kernel
theorem d_Reader_findWrongWord_33 : decode b_Reader_findWrongWord 33 = .ok (.iconst (-1), 1) := by decide +kernel
theorem d_Reader_findWrongWord_34 : decode b_Reader_findWrongWord 34 = .ok (.ireturn, 1) := by decide +kernel
theorem d_Reader_findWrongWord_35 : decode b_Reader_findWrongWord 35 = .ok (.aload_n 0, 1) := by decide +kernel
theorem d_Reader_findWrongWord_36 : decode b_Reader_findWrongWord 36 = .ok (.invokevirtual 40, 3) := by decide +kernel
theorem d_Reader_findWrongWord_39 : decode b_Reader_findWrongWord 39 = .ok (.istore_n 2, 1) := by decide +kernel
theorem d_Reader_findWrongWord_40 : decode b_Reader_findWrongWord 40 = .ok (.iload_n 2, 1) := by decide +kernel
theorem d_Reader_findWrongWord_41 : decode b_Reader_findWrongWord 41 = .ok (.iconst (-1), 1) := by decide +kernel
theorem d_Reader_findWrongWord_42 : decode b_Reader_findWrongWord 42 = .ok (.if_icmp .eq 5, 3) := by decide +kernel
theorem d_Reader_findWrongWord_45 : decode b_Reader_findWrongWord 45 = .ok (.iload_n 2, 1) := by decide +kernel
theorem d_Reader_findWrongWord_46 : decode b_Reader_findWrongWord 46 = .ok (.ireturn, 1) := by decide +kernel
theorem d_Reader_findWrongWord_47 : decode b_Reader_findWrongWord 47 = .ok (.iinc 1 1, 3) := by decide +kernel
theorem d_Reader_findWrongWord_50 : decode b_Reader_findWrongWord 50 = .ok (.goto (-41), 3) := by decide +kernel
theorem d_Reader_findWrongWord_53 : decode b_Reader_findWrongWord 53 = .ok (.iconst (-1), 1) := by decide +kernel
theorem d_Reader_findWrongWord_54 : decode b_Reader_findWrongWord 54 = .ok (.ireturn, 1) := by decide +kernel
def m_Reader_findWrongWord_B9 {R : Type} (F : Nat) (x5 : St) (x0 : St) (k9_33 : Int32 → St → St → St → St → Option R) (k9_45 : Int32 → St → St → St → St → Int32 → Option R) (k9_53 : Int32 → St → St → St → St → Option R) (rec9 : Int32 → St → St → St → St → Option R) (v1_9 : Int32) (y1_9 : St) (y2_9 : St) (y3_9 : St) (y4_9 : St) : Option R :=
  (if (2000 : Int32) < v1_9 then (k9_53 v1_9 y1_9 y2_9 y3_9 y4_9) else (bn1 (m_Words_step F y2_9 x5) (fun z2_20 => (bn1 (m_Words_isBehindLast F z2_20 x5) (fun r27 => (if r27 = (0 : Int32) then (bn5 (m_Reader_readSentence F x0 y1_9 z2_20 y3_9 y4_9 x5) (fun r36 z1_36 z2_36 z3_36 z4_36 => (if r36 = (-1 : Int32) then (rec9 (v1_9 + (1 : Int32)) z1_36 z2_36 z3_36 z4_36) else (k9_45 v1_9 z1_36 z2_36 z3_36 z4_36 r36)))) else (k9_33 v1_9 y1_9 z2_20 y3_9 y4_9)))))))
theorem m_Reader_findWrongWord_B9_h {R : Type} {F : Nat} {x5 : St} {x0 : St} {k9_33 : Int32 → St → St → St → St → Option R} {k9_45 : Int32 → St → St → St → St → Int32 → Option R} {k9_53 : Int32 → St → St → St → St → Option R} {rec9 : Int32 → St → St → St → St → Option R} {v1_9 : Int32} {y1_9 : St} {y2_9 : St} {y3_9 : St} {y4_9 : St} {o : R} (h : m_Reader_findWrongWord_B9 F x5 x0 k9_33 k9_45 k9_53 rec9 v1_9 y1_9 y2_9 y3_9 y4_9 = some o) :
  (if (2000 : Int32) < v1_9 then (k9_53 v1_9 y1_9 y2_9 y3_9 y4_9) else (bn1 (m_Words_step F y2_9 x5) (fun z2_20 => (bn1 (m_Words_isBehindLast F z2_20 x5) (fun r27 => (if r27 = (0 : Int32) then (bn5 (m_Reader_readSentence F x0 y1_9 z2_20 y3_9 y4_9 x5) (fun r36 z1_36 z2_36 z3_36 z4_36 => (if r36 = (-1 : Int32) then (rec9 (v1_9 + (1 : Int32)) z1_36 z2_36 z3_36 z4_36) else (k9_45 v1_9 z1_36 z2_36 z3_36 z4_36 r36)))) else (k9_33 v1_9 y1_9 z2_20 y3_9 y4_9))))))) = some o := h
def m_Reader_findWrongWord (F : Nat) (x0 : St) (x1 : St) (x2 : St) (x3 : St) (x4 : St) (x5 : St) : Option (Int32 × St × St × St × St) :=
  (bn3 (m_Plan_clear F x1 x3 x4) (fun z1_4 z3_4 z4_4 => (lq5 (m_Reader_findWrongWord_B9 F x5 x0 (fun v1_9 y1_9 y2_9 y3_9 y4_9 => (some ((-1 : Int32), y1_9, y2_9, y3_9, y4_9))) (fun v1_9 y1_9 y2_9 y3_9 y4_9 u2_9_45 => (some (u2_9_45, y1_9, y2_9, y3_9, y4_9))) (fun v1_9 y1_9 y2_9 y3_9 y4_9 => (some ((-1 : Int32), y1_9, y2_9, y3_9, y4_9)))) F (0 : Int32) z1_4 x2 z3_4 z4_4)))
abbrev rm_Reader_findWrongWord : Room := { frames := 9, cells := 0, slots := 0, locals := 195 }
set_option maxHeartbeats 4000000 in
set_option maxRecDepth 100000 in
theorem c_Reader_findWrongWord {G : (Nat → Prop) → State → Prop} (hG : gok G) (hGn : gN G) {adK adV : Nat → Nat} (hGs : gSt adK adV G) (l : Launch) (dC : Nat → ClassId) (dI : Nat → Nat → Nat) (g : Nat → ClassId) (F : Nat) (sz : Nat) (h0 : Nat) (q0 : Nat → Nat) (x0 : St) (q1 : Nat → Nat) (x1 : St) (q2 : Nat → Nat) (x2 : St) (q3 : Nat → Nat) (x3 : St) (q4 : Nat → Nat) (x4 : St) (q5 : Nat → Nat) (x5 : St) {o : Int32 × St × St × St × St} (hm : m_Reader_findWrongWord F x0 x1 x2 x3 x4 x5 = some o) : Met l y_Reader_findWrongWord (.code y_Reader_findWrongWord b_Reader_findWrongWord 3 (some .int) :: gw) rm_Reader_findWrongWord (kq (dC, dI) vwCl (tyv g) G [.ref h0] sz (wd_Reader g h0 q0 x0 ++ wd_Plan g (q0 1) q1 x1 ++ wd_Words g (q0 0) q2 x2 ++ wd_Acts g (q1 1) q3 x3 ++ wd_Zones g (q1 0) q4 x4 ++ wd_Text g (q2 0) q5 x5)) (kqi (dC, dI) vwCl (tyv g) (wd_Reader g h0 q0 x0 ++ wd_Plan g (q0 1) q1 x1 ++ wd_Words g (q0 0) q2 x2 ++ wd_Acts g (q1 1) q3 x3 ++ wd_Zones g (q1 0) q4 x4 ++ wd_Text g (q2 0) q5 x5) o.1 (wd_Reader g h0 q0 x0 ++ wd_Plan g (q0 1) q1 (o.2.1) ++ wd_Words g (q0 0) q2 (o.2.2.1) ++ wd_Acts g (q1 1) q3 (o.2.2.2.1) ++ wd_Zones g (q1 0) q4 (o.2.2.2.2) ++ wd_Text g (q2 0) q5 x5) sz) 0 0 (va_A (wd_Reader g h0 q0 x0 ++ wd_Plan g (q0 1) q1 x1 ++ wd_Words g (q0 0) q2 x2 ++ wd_Acts g (q1 1) q3 x3 ++ wd_Zones g (q1 0) q4 x4 ++ wd_Text g (q2 0) q5 x5) sz) := by
  unfold m_Reader_findWrongWord at hm
  refine km (Qc := fun sz => kqi (dC, dI) vwCl (tyv g) (wd_Reader g h0 q0 x0 ++ wd_Plan g (q0 1) q1 x1 ++ wd_Words g (q0 0) q2 x2 ++ wd_Acts g (q1 1) q3 x3 ++ wd_Zones g (q1 0) q4 x4 ++ wd_Text g (q2 0) q5 x5) o.1 (wd_Reader g h0 q0 x0 ++ wd_Plan g (q0 1) q1 (o.2.1) ++ wd_Words g (q0 0) q2 (o.2.2.1) ++ wd_Acts g (q1 1) q3 (o.2.2.2.1) ++ wd_Zones g (q1 0) q4 (o.2.2.2.2) ++ wd_Text g (q2 0) q5 x5) sz) (cc := b_Reader_findWrongWord) (maxL := 3) (ret := some .int) (by decide) rfl (Nat.le_of_ble_eq_true rfl) ?_
  intro p e s m args below meth c Q hQ hx hb hr hts hown hlocks hml hnm H locs A hAe hA hP hK hD hS hGA ls hl
  have hl : lv_has ls 3 [(0, .ref h0)] := hl
  have hts : ∀ w ∈ gw, w.before args s = true := fun w h => hts w (List.mem_cons_of_mem _ h)
  have hown : s.vm.findClass "AlarmMatrix$Reader" = some m.cls := hown
  refine lv_aload_n hx hb d_Reader_findWrongWord_0 rfl (lv_at hl 0 rfl) ?_
  refine va_get (D := (dC, dI)) (ci := 3) (v := .ref (q0 1)) (C := "AlarmMatrix$Reader") (T := T_Reader) (N := 3) hx hb hts i_Reader hown hK hP 0 rfl rfl 1 (by decide) (hts _ k2_35) (fun _ h9 => h9) rfl d_Reader_findWrongWord_1 ?_
  obtain ⟨z1_4, z3_4, z4_4, hcl, hm⟩ := bn3_s hm
  refine kcv (wc := wd_Plan g (q0 1) q1 x1 ++ wd_Acts g (q1 1) q3 x3 ++ wd_Zones g (q1 0) q4 x4) (wr := wd_Reader g h0 q0 x0 ++ wd_Words g (q0 0) q2 x2 ++ wd_Text g (q2 0) q5 x5) (w1 := wd_Plan g (q0 1) q1 z1_4 ++ wd_Acts g (q1 1) q3 z3_4 ++ wd_Zones g (q1 0) q4 z4_4) hP hD hS hA [1, 2, 3, 4, 6, 7, 8, 9, 10, 11, 12, 13, 14, 15, 16, 17, 18, 19, 20, 21, 22, 23, 24] [0, 5, 25, 26, 27] rfl rfl (by decide) (by decide) (va_runV (As := []) (rest := []) ⟨hx, hb, hml, hown, hts⟩ (c_Plan_clear hG hGn l dC dI g F H.size (q0 1) q1 x1 q3 x3 q4 x4 hcl) (cwV 0 hts (gdV k2_48 k2_49 k2_50 k1_7 k2_51) rfl rfl rfl (by decide +kernel) ⟨Nat.le_of_ble_eq_true rfl, Nat.le_of_ble_eq_true rfl⟩) (kpV hG hP hK hD hS hA hGA [1, 2, 3, 4, 6, 7, 8, 9, 10, 11, 12, 13, 14, 15, 16, 17, 18, 19, 20, 21, 22, 23, 24] (by decide) rfl (ci := 4) (q0 := 0) rfl rfl rfl) rfl rfl hl.1 rfl (lv_room (Nat.le_of_ble_eq_true rfl)) d_Reader_findWrongWord_4 ⟨Nat.le_of_ble_eq_true rfl, Nat.le_of_ble_eq_true rfl⟩) (fun H locs hP hD hS => ?_)
  have hP : va_P (dC, dI) vwCl (wd_Reader g h0 q0 x0 ++ wd_Plan g (q0 1) q1 z1_4 ++ wd_Words g (q0 0) q2 x2 ++ wd_Acts g (q1 1) q3 z3_4 ++ wd_Zones g (q1 0) q4 z4_4 ++ wd_Text g (q2 0) q5 x5) H := hP.sub (ws' := wd_Reader g h0 q0 x0 ++ wd_Plan g (q0 1) q1 z1_4 ++ wd_Words g (q0 0) q2 x2 ++ wd_Acts g (q1 1) q3 z3_4 ++ wd_Zones g (q1 0) q4 z4_4 ++ wd_Text g (q2 0) q5 x5) [0, 5, 6, 7, 8, 1, 9, 10, 11, 12, 13, 14, 15, 16, 17, 18, 19, 20, 21, 22, 23, 24, 25, 26, 27, 2, 3, 4] rfl
  have hD : va_D A (wd_Reader g h0 q0 x0 ++ wd_Plan g (q0 1) q1 z1_4 ++ wd_Words g (q0 0) q2 x2 ++ wd_Acts g (q1 1) q3 z3_4 ++ wd_Zones g (q1 0) q4 z4_4 ++ wd_Text g (q2 0) q5 x5) := hD.sub (ws' := wd_Reader g h0 q0 x0 ++ wd_Plan g (q0 1) q1 z1_4 ++ wd_Words g (q0 0) q2 x2 ++ wd_Acts g (q1 1) q3 z3_4 ++ wd_Zones g (q1 0) q4 z4_4 ++ wd_Text g (q2 0) q5 x5) [0, 5, 6, 7, 8, 1, 9, 10, 11, 12, 13, 14, 15, 16, 17, 18, 19, 20, 21, 22, 23, 24, 25, 26, 27, 2, 3, 4] (by decide) rfl
  refine lv_iconst (v := (0 : Int32)) hx hb d_Reader_findWrongWord_7 (by decide) ?_
  refine lv_istore_n (lv' := [(1, .int (0 : Int32)), (0, .ref h0)]) hx hb d_Reader_findWrongWord_8 rfl hl (by decide) rfl (fun ls hl => ?_)
  have L9 : ∀ (n9 : Nat) (v1_9 : Int32) (y1_9 : St) (y2_9 : St) (y3_9 : St) (y4_9 : St) (H : Heap) (locs : List Loc) (ls : Array Slot), lq5 (m_Reader_findWrongWord_B9 F x5 x0 (fun v1_9 y1_9 y2_9 y3_9 y4_9 => (some ((-1 : Int32), y1_9, y2_9, y3_9, y4_9))) (fun v1_9 y1_9 y2_9 y3_9 y4_9 u2_9_45 => (some (u2_9_45, y1_9, y2_9, y3_9, y4_9))) (fun v1_9 y1_9 y2_9 y3_9 y4_9 => (some ((-1 : Int32), y1_9, y2_9, y3_9, y4_9)))) n9 v1_9 y1_9 y2_9 y3_9 y4_9 = some o → va_P (dC, dI) vwCl (wd_Reader g h0 q0 x0 ++ wd_Plan g (q0 1) q1 y1_9 ++ wd_Words g (q0 0) q2 y2_9 ++ wd_Acts g (q1 1) q3 y3_9 ++ wd_Zones g (q1 0) q4 y4_9 ++ wd_Text g (q2 0) q5 x5) H → va_D A (wd_Reader g h0 q0 x0 ++ wd_Plan g (q0 1) q1 y1_9 ++ wd_Words g (q0 0) q2 y2_9 ++ wd_Acts g (q1 1) q3 y3_9 ++ wd_Zones g (q1 0) q4 y4_9 ++ wd_Text g (q2 0) q5 x5) → va_S A s.heap H locs → lv_has ls 3 [(0, .ref h0), (1, .int v1_9)] → W p l e rm_Reader_findWrongWord s m args below meth c H locs 0 0 Q (F0 m 9 ls []) := by
    intro n9
    induction n9 with
    | zero => intro v1_9 y1_9 y2_9 y3_9 y4_9 H locs ls hm; exact absurd hm (by intro z; cases z)
    | succ n9 ih9 =>
      intro v1_9 y1_9 y2_9 y3_9 y4_9 H locs ls hm hP hD hS hl
      replace hm := m_Reader_findWrongWord_B9_h (lq5_h hm)
      refine lv_iload_n hx hb d_Reader_findWrongWord_9 rfl (lv_at hl 1 rfl) ?_
      refine lv_sipush (v := (2000 : Int32)) hx hb d_Reader_findWrongWord_10 (by decide) ?_
      refine lv_icmp_gt (tgt := 53) hx hb d_Reader_findWrongWord_13 (by decide) (fun hc => ?_) (fun hc => ?_)
      · replace hm := if_t hm hc
        refine lv_iconst (v := (-1 : Int32)) hx hb d_Reader_findWrongWord_53 (by decide) ?_
        obtain rfl := Option.some.inj hm
        rw [hQ]
        exact kri hx hb hr hlocks hAe hP hK hD hS d_Reader_findWrongWord_54
      · replace hm := if_f hm hc
        refine lv_aload_n hx hb d_Reader_findWrongWord_16 rfl (lv_at hl 0 rfl) ?_
        refine va_get (D := (dC, dI)) (ci := 3) (v := .ref (q0 0)) (C := "AlarmMatrix$Reader") (T := T_Reader) (N := 3) hx hb hts i_Reader hown hK hP 0 rfl rfl 0 (by decide) (hts _ k2_34) (fun _ h9 => h9) rfl d_Reader_findWrongWord_17 ?_
        obtain ⟨z2_20, hcl, hm⟩ := bn1_s hm
        refine kcv (wc := wd_Words g (q0 0) q2 y2_9 ++ wd_Text g (q2 0) q5 x5) (wr := wd_Reader g h0 q0 x0 ++ wd_Plan g (q0 1) q1 y1_9 ++ wd_Acts g (q1 1) q3 y3_9 ++ wd_Zones g (q1 0) q4 y4_9) (w1 := wd_Words g (q0 0) q2 z2_20 ++ wd_Text g (q2 0) q5 x5) hP hD hS hA [5, 25, 26, 27] [0, 1, 2, 3, 4, 6, 7, 8, 9, 10, 11, 12, 13, 14, 15, 16, 17, 18, 19, 20, 21, 22, 23, 24] rfl rfl (by decide) (by decide) (va_runV (As := []) (rest := []) ⟨hx, hb, hml, hown, hts⟩ (c_Words_step hG hGn l dC dI g F H.size (q0 0) q2 y2_9 q5 x5 hcl) (cwV 0 hts (gdV k2_63 k2_64 k2_65 k1_21 k2_66) rfl rfl rfl (by decide +kernel) ⟨Nat.le_of_ble_eq_true rfl, Nat.le_of_ble_eq_true rfl⟩) (kpV hG hP hK hD hS hA hGA [5, 25, 26, 27] (by decide) rfl (ci := 2) (q0 := 0) rfl rfl rfl) rfl rfl hl.1 rfl (lv_room (Nat.le_of_ble_eq_true rfl)) d_Reader_findWrongWord_20 ⟨Nat.le_of_ble_eq_true rfl, Nat.le_of_ble_eq_true rfl⟩) (fun H locs hP hD hS => ?_)
        have hP : va_P (dC, dI) vwCl (wd_Reader g h0 q0 x0 ++ wd_Plan g (q0 1) q1 y1_9 ++ wd_Words g (q0 0) q2 z2_20 ++ wd_Acts g (q1 1) q3 y3_9 ++ wd_Zones g (q1 0) q4 y4_9 ++ wd_Text g (q2 0) q5 x5) H := hP.sub (ws' := wd_Reader g h0 q0 x0 ++ wd_Plan g (q0 1) q1 y1_9 ++ wd_Words g (q0 0) q2 z2_20 ++ wd_Acts g (q1 1) q3 y3_9 ++ wd_Zones g (q1 0) q4 y4_9 ++ wd_Text g (q2 0) q5 x5) [0, 1, 2, 3, 4, 24, 5, 6, 7, 8, 9, 10, 11, 12, 13, 14, 15, 16, 17, 18, 19, 20, 21, 22, 23, 25, 26, 27] rfl
        have hD : va_D A (wd_Reader g h0 q0 x0 ++ wd_Plan g (q0 1) q1 y1_9 ++ wd_Words g (q0 0) q2 z2_20 ++ wd_Acts g (q1 1) q3 y3_9 ++ wd_Zones g (q1 0) q4 y4_9 ++ wd_Text g (q2 0) q5 x5) := hD.sub (ws' := wd_Reader g h0 q0 x0 ++ wd_Plan g (q0 1) q1 y1_9 ++ wd_Words g (q0 0) q2 z2_20 ++ wd_Acts g (q1 1) q3 y3_9 ++ wd_Zones g (q1 0) q4 y4_9 ++ wd_Text g (q2 0) q5 x5) [0, 1, 2, 3, 4, 24, 5, 6, 7, 8, 9, 10, 11, 12, 13, 14, 15, 16, 17, 18, 19, 20, 21, 22, 23, 25, 26, 27] (by decide) rfl
        refine lv_aload_n hx hb d_Reader_findWrongWord_23 rfl (lv_at hl 0 rfl) ?_
        refine va_get (D := (dC, dI)) (ci := 3) (v := .ref (q0 0)) (C := "AlarmMatrix$Reader") (T := T_Reader) (N := 3) hx hb hts i_Reader hown hK hP 0 rfl rfl 0 (by decide) (hts _ k2_34) (fun _ h9 => h9) rfl d_Reader_findWrongWord_24 ?_
        obtain ⟨r27, hcl, hm⟩ := bn1_s hm
        refine kci (wc := wd_Words g (q0 0) q2 z2_20 ++ wd_Text g (q2 0) q5 x5) (wr := wd_Reader g h0 q0 x0 ++ wd_Plan g (q0 1) q1 y1_9 ++ wd_Acts g (q1 1) q3 y3_9 ++ wd_Zones g (q1 0) q4 y4_9) (w1 := wd_Words g (q0 0) q2 z2_20 ++ wd_Text g (q2 0) q5 x5) hP hD hS hA [5, 25, 26, 27] [0, 1, 2, 3, 4, 6, 7, 8, 9, 10, 11, 12, 13, 14, 15, 16, 17, 18, 19, 20, 21, 22, 23, 24] rfl rfl (by decide) (by decide) (va_runV (As := []) (rest := []) ⟨hx, hb, hml, hown, hts⟩ (c_Words_isBehindLast hG hGn l dC dI g F H.size (q0 0) q2 z2_20 q5 x5 hcl) (cwV 0 hts (gdV k2_78 k2_79 k2_80 k1_21 k2_81) rfl rfl rfl (by decide +kernel) ⟨Nat.le_of_ble_eq_true rfl, Nat.le_of_ble_eq_true rfl⟩) (kpV hG hP hK hD hS hA hGA [5, 25, 26, 27] (by decide) rfl (ci := 2) (q0 := 0) rfl rfl rfl) rfl rfl hl.1 rfl (lv_room (Nat.le_of_ble_eq_true rfl)) d_Reader_findWrongWord_27 ⟨Nat.le_of_ble_eq_true rfl, Nat.le_of_ble_eq_true rfl⟩) (fun H locs hP hD hS => ?_)
        have hP : va_P (dC, dI) vwCl (wd_Reader g h0 q0 x0 ++ wd_Plan g (q0 1) q1 y1_9 ++ wd_Words g (q0 0) q2 z2_20 ++ wd_Acts g (q1 1) q3 y3_9 ++ wd_Zones g (q1 0) q4 y4_9 ++ wd_Text g (q2 0) q5 x5) H := hP.sub (ws' := wd_Reader g h0 q0 x0 ++ wd_Plan g (q0 1) q1 y1_9 ++ wd_Words g (q0 0) q2 z2_20 ++ wd_Acts g (q1 1) q3 y3_9 ++ wd_Zones g (q1 0) q4 y4_9 ++ wd_Text g (q2 0) q5 x5) [0, 1, 2, 3, 4, 24, 5, 6, 7, 8, 9, 10, 11, 12, 13, 14, 15, 16, 17, 18, 19, 20, 21, 22, 23, 25, 26, 27] rfl
        have hD : va_D A (wd_Reader g h0 q0 x0 ++ wd_Plan g (q0 1) q1 y1_9 ++ wd_Words g (q0 0) q2 z2_20 ++ wd_Acts g (q1 1) q3 y3_9 ++ wd_Zones g (q1 0) q4 y4_9 ++ wd_Text g (q2 0) q5 x5) := hD.sub (ws' := wd_Reader g h0 q0 x0 ++ wd_Plan g (q0 1) q1 y1_9 ++ wd_Words g (q0 0) q2 z2_20 ++ wd_Acts g (q1 1) q3 y3_9 ++ wd_Zones g (q1 0) q4 y4_9 ++ wd_Text g (q2 0) q5 x5) [0, 1, 2, 3, 4, 24, 5, 6, 7, 8, 9, 10, 11, 12, 13, 14, 15, 16, 17, 18, 19, 20, 21, 22, 23, 25, 26, 27] (by decide) rfl
        refine lv_if_eq (tgt := 35) hx hb d_Reader_findWrongWord_30 (by decide) (fun hc => ?_) (fun hc => ?_)
        · replace hm := if_t hm hc
          refine lv_aload_n hx hb d_Reader_findWrongWord_35 rfl (lv_at hl 0 rfl) ?_
          obtain ⟨r36, z1_36, z2_36, z3_36, z4_36, hcl, hm⟩ := bn5_s hm
          refine kci (wc := wd_Reader g h0 q0 x0 ++ wd_Plan g (q0 1) q1 y1_9 ++ wd_Words g (q0 0) q2 z2_20 ++ wd_Acts g (q1 1) q3 y3_9 ++ wd_Zones g (q1 0) q4 y4_9 ++ wd_Text g (q2 0) q5 x5) (wr := ([] : va_W)) (w1 := wd_Reader g h0 q0 x0 ++ wd_Plan g (q0 1) q1 z1_36 ++ wd_Words g (q0 0) q2 z2_36 ++ wd_Acts g (q1 1) q3 z3_36 ++ wd_Zones g (q1 0) q4 z4_36 ++ wd_Text g (q2 0) q5 x5) hP hD hS hA [0, 1, 2, 3, 4, 5, 6, 7, 8, 9, 10, 11, 12, 13, 14, 15, 16, 17, 18, 19, 20, 21, 22, 23, 24, 25, 26, 27] [] rfl rfl (by decide) (by decide) (va_runV (As := []) (rest := []) ⟨hx, hb, hml, hown, hts⟩ (c_Reader_readSentence hG hGn hGs l dC dI g F H.size h0 q0 x0 q1 y1_9 q2 z2_20 q3 y3_9 q4 y4_9 q5 x5 hcl) (cwV 0 hts (gdV k2_82 k2_84 kp_0 k1_20 k2_85) rfl rfl rfl (by decide +kernel) ⟨Nat.le_of_ble_eq_true rfl, Nat.le_of_ble_eq_true rfl⟩) (kpV hG hP hK hD hS hA hGA [0, 1, 2, 3, 4, 5, 6, 7, 8, 9, 10, 11, 12, 13, 14, 15, 16, 17, 18, 19, 20, 21, 22, 23, 24, 25, 26, 27] (by decide) rfl (ci := 3) (q0 := 0) rfl rfl rfl) rfl rfl hl.1 rfl (lv_room (Nat.le_of_ble_eq_true rfl)) d_Reader_findWrongWord_36 ⟨Nat.le_of_ble_eq_true rfl, Nat.le_of_ble_eq_true rfl⟩) (fun H locs hP hD hS => ?_)
          have hP : va_P (dC, dI) vwCl (wd_Reader g h0 q0 x0 ++ wd_Plan g (q0 1) q1 z1_36 ++ wd_Words g (q0 0) q2 z2_36 ++ wd_Acts g (q1 1) q3 z3_36 ++ wd_Zones g (q1 0) q4 z4_36 ++ wd_Text g (q2 0) q5 x5) H := hP
          have hD : va_D A (wd_Reader g h0 q0 x0 ++ wd_Plan g (q0 1) q1 z1_36 ++ wd_Words g (q0 0) q2 z2_36 ++ wd_Acts g (q1 1) q3 z3_36 ++ wd_Zones g (q1 0) q4 z4_36 ++ wd_Text g (q2 0) q5 x5) := hD
          refine lv_istore_n (lv' := [(2, .int r36), (0, .ref h0), (1, .int v1_9)]) hx hb d_Reader_findWrongWord_39 rfl hl (by decide) rfl (fun ls hl => ?_)
          refine lv_iload_n hx hb d_Reader_findWrongWord_40 rfl (lv_at hl 0 rfl) ?_
          refine lv_iconst (v := (-1 : Int32)) hx hb d_Reader_findWrongWord_41 (by decide) ?_
          refine lv_icmp_eq (tgt := 47) hx hb d_Reader_findWrongWord_42 (by decide) (fun hc => ?_) (fun hc => ?_)
          · replace hm := if_t hm hc
            refine lv_iinc (v := (v1_9 + (1 : Int32))) (lv' := [(1, .int (v1_9 + (1 : Int32))), (2, .int r36), (0, .ref h0)]) hx hb d_Reader_findWrongWord_47 hl (k := 2) rfl rfl (by decide) rfl (fun ls hl => ?_)
            refine lv_goto (tgt := 9) hx hb d_Reader_findWrongWord_50 (by decide) ?_
            exact ih9 (v1_9 + (1 : Int32)) z1_36 z2_36 z3_36 z4_36 H locs ls hm hP hD hS (lv_sub hl [2, 0] rfl)
          · replace hm := if_f hm hc
            refine lv_iload_n hx hb d_Reader_findWrongWord_45 rfl (lv_at hl 0 rfl) ?_
            obtain rfl := Option.some.inj hm
            rw [hQ]
            exact kri hx hb hr hlocks hAe hP hK hD hS d_Reader_findWrongWord_46
        · replace hm := if_f hm hc
          refine lv_iconst (v := (-1 : Int32)) hx hb d_Reader_findWrongWord_33 (by decide) ?_
          obtain rfl := Option.some.inj hm
          rw [hQ]
          exact kri hx hb hr hlocks hAe hP hK hD hS d_Reader_findWrongWord_34
  exact L9 F (0 : Int32) z1_4 x2 z3_4 z4_4 H locs ls hm hP hD hS (lv_sub hl [1, 0] rfl)
abbrev b_AM_putSentence : ByteArray := prog_1_method_27_code
abbrev y_AM_putSentence : MethodName := ⟨"AlarmMatrix", "putSentence", "(IIIII)V"⟩
theorem d_AM_putSentence_0 : decode b_AM_putSentence 0 = .ok (.iload_n 1, 1) := by decide +kernel
theorem d_AM_putSentence_1 : decode b_AM_putSentence 1 = .ok (.tableswitch 202 0 3 #[31, 91, 140, 165], 31) := by decide +kernel
theorem d_AM_putSentence_32 : decode b_AM_putSentence 32 = .ok (.aload_n 0, 1) := by decide +kernel
theorem d_AM_putSentence_33 : decode b_AM_putSentence 33 = .ok (.getfield 10, 3) := by decide +kernel
theorem d_AM_putSentence_36 : decode b_AM_putSentence 36 = .ok (.ldc 241, 2) := by decide +kernel
theorem d_AM_putSentence_38 : decode b_AM_putSentence 38 = .ok (.iload_n 2, 1) := by decide +kernel
theorem d_AM_putSentence_39 : decode b_AM_putSentence 39 = .ok (.invokevirtual 243, 3) := by decide +kernel
theorem d_AM_putSentence_42 : decode b_AM_putSentence 42 = .ok (.aload_n 0, 1) := by decide +kernel
theorem d_AM_putSentence_43 : decode b_AM_putSentence 43 = .ok (.getfield 10, 3) := by decide +kernel
theorem d_AM_putSentence_46 : decode b_AM_putSentence 46 = .ok (.ldc 247, 2) := by decide +kernel
theorem d_AM_putSentence_48 : decode b_AM_putSentence 48 = .ok (.iload_n 3, 1) := by decide +kernel
theorem d_AM_putSentence_49 : decode b_AM_putSentence 49 = .ok (.invokevirtual 243, 3) := by decide +kernel
theorem d_AM_putSentence_52 : decode b_AM_putSentence 52 = .ok (.aload_n 0, 1) := by decide +kernel
theorem d_AM_putSentence_53 : decode b_AM_putSentence 53 = .ok (.getfield 10, 3) := by decide +kernel
theorem d_AM_putSentence_56 : decode b_AM_putSentence 56 = .ok (.ldc 249, 2) := by decide +kernel
theorem d_AM_putSentence_58 : decode b_AM_putSentence 58 = .ok (.invokevirtual 251, 3) := by decide +kernel
theorem d_AM_putSentence_61 : decode b_AM_putSentence 61 = .ok (.iconst 0, 1) := by decide +kernel
theorem d_AM_putSentence_62 : decode b_AM_putSentence 62 = .ok (.istore 6, 2) := by decide +kernel
theorem d_AM_putSentence_64 : decode b_AM_putSentence 64 = .ok (.iload 6, 2) := by decide +kernel
theorem d_AM_putSentence_66 : decode b_AM_putSentence 66 = .ok (.iload 5, 2) := by decide +kernel
theorem d_AM_putSentence_68 : decode b_AM_putSentence 68 = .ok (.if_icmp .ge 21, 3) := by decide +kernel
theorem d_AM_putSentence_71 : decode b_AM_putSentence 71 = .ok (.aload_n 0, 1) := by decide +kernel
theorem d_AM_putSentence_72 : decode b_AM_putSentence 72 = .ok (.getfield 10, 3) := by decide +kernel
theorem d_AM_putSentence_75 : decode b_AM_putSentence 75 = .ok (.iload 4, 2) := by decide +kernel
theorem d_AM_putSentence_77 : decode b_AM_putSentence 77 = .ok (.iload 6, 2) := by decide +kernel
theorem d_AM_putSentence_79 : decode b_AM_putSentence 79 = .ok (.iadd, 1) := by decide +kernel
theorem d_AM_putSentence_80 : decode b_AM_putSentence 80 = .ok (.invokevirtual 254, 3) := by decide +kernel
theorem d_AM_putSentence_83 : decode b_AM_putSentence 83 = .ok (.iinc 6 1, 3) := by decide +kernel
theorem d_AM_putSentence_86 : decode b_AM_putSentence 86 = .ok (.goto (-22), 3) := by decide +kernel
theorem d_AM_putSentence_89 : decode b_AM_putSentence 89 = .ok (.goto 125, 3) := by decide +kernel
theorem d_AM_putSentence_92 : decode b_AM_putSentence 92 = .ok (.aload_n 0, 1) := by decide +kernel
theorem d_AM_putSentence_93 : decode b_AM_putSentence 93 = .ok (.getfield 10, 3) := by decide +kernel
theorem d_AM_putSentence_96 : decode b_AM_putSentence 96 = .ok (.ldc_w 257, 3) := by decide +kernel
theorem d_AM_putSentence_99 : decode b_AM_putSentence 99 = .ok (.iload_n 2, 1) := by decide +kernel
theorem d_AM_putSentence_100 : decode b_AM_putSentence 100 = .ok (.invokevirtual 243, 3) := by decide +kernel
theorem d_AM_putSentence_103 : decode b_AM_putSentence 103 = .ok (.aload_n 0, 1) := by decide +kernel
theorem d_AM_putSentence_104 : decode b_AM_putSentence 104 = .ok (.getfield 10, 3) := by decide +kernel
theorem d_AM_putSentence_107 : decode b_AM_putSentence 107 = .ok (.ldc_w 259, 3) := by decide +kernel
theorem d_AM_putSentence_110 : decode b_AM_putSentence 110 = .ok (.iload_n 3, 1) := by decide +kernel
theorem d_AM_putSentence_111 : decode b_AM_putSentence 111 = .ok (.invokevirtual 243, 3) := by decide +kernel
theorem d_AM_putSentence_114 : decode b_AM_putSentence 114 = .ok (.aload_n 0, 1) := by decide +kernel
theorem d_AM_putSentence_115 : decode b_AM_putSentence 115 = .ok (.getfield 10, 3) := by decide +kernel
theorem d_AM_putSentence_118 : decode b_AM_putSentence 118 = .ok (.ldc_w 261, 3) := by decide +kernel
theorem d_AM_putSentence_121 : decode b_AM_putSentence 121 = .ok (.iload 4, 2) := by decide +kernel
theorem d_AM_putSentence_123 : decode b_AM_putSentence 123 = .ok (.invokevirtual 243, 3) := by decide +kernel
theorem d_AM_putSentence_126 : decode b_AM_putSentence 126 = .ok (.aload_n 0, 1) := by decide +kernel
theorem d_AM_putSentence_127 : decode b_AM_putSentence 127 = .ok (.getfield 10, 3) := by decide +kernel
theorem d_AM_putSentence_130 : decode b_AM_putSentence 130 = .ok (.ldc_w 263, 3) := by decide +kernel
theorem d_AM_putSentence_133 : decode b_AM_putSentence 133 = .ok (.iload 5, 2) := by decide +kernel
theorem d_AM_putSentence_135 : decode b_AM_putSentence 135 = .ok (.invokevirtual 243, 3) := by decide +kernel
theorem d_AM_putSentence_138 : decode b_AM_putSentence 138 = .ok (.goto 76, 3) := by decide +kernel
theorem d_AM_putSentence_141 : decode b_AM_putSentence 141 = .ok (.aload_n 0, 1) := by decide +kernel
theorem d_AM_putSentence_142 : decode b_AM_putSentence 142 = .ok (.getfield 10, 3) := by decide +kernel
theorem d_AM_putSentence_145 : decode b_AM_putSentence 145 = .ok (.ldc_w 265, 3) := by decide +kernel
theorem d_AM_putSentence_148 : decode b_AM_putSentence 148 = .ok (.iload_n 2, 1) := by decide +kernel
theorem d_AM_putSentence_149 : decode b_AM_putSentence 149 = .ok (.invokevirtual 243, 3) := by decide +kernel
theorem d_AM_putSentence_152 : decode b_AM_putSentence 152 = .ok (.aload_n 0, 1) := by decide +kernel
theorem d_AM_putSentence_153 : decode b_AM_putSentence 153 = .ok (.getfield 10, 3) := by decide +kernel
theorem d_AM_putSentence_156 : decode b_AM_putSentence 156 = .ok (.ldc_w 267, 3) := by decide +kernel
theorem d_AM_putSentence_159 : decode b_AM_putSentence 159 = .ok (.iload_n 3, 1) := by decide +kernel
theorem d_AM_putSentence_160 : decode b_AM_putSentence 160 = .ok (.invokevirtual 243, 3) := by decide +kernel
theorem d_AM_putSentence_163 : decode b_AM_putSentence 163 = .ok (.goto 51, 3) := by decide +kernel
theorem d_AM_putSentence_166 : decode b_AM_putSentence 166 = .ok (.aload_n 0, 1) := by decide +kernel
theorem d_AM_putSentence_167 : decode b_AM_putSentence 167 = .ok (.getfield 10, 3) := by decide +kernel
theorem d_AM_putSentence_170 : decode b_AM_putSentence 170 = .ok (.ldc_w 265, 3) := by decide +kernel
theorem d_AM_putSentence_173 : decode b_AM_putSentence 173 = .ok (.iload_n 2, 1) := by decide +kernel
theorem d_AM_putSentence_174 : decode b_AM_putSentence 174 = .ok (.invokevirtual 243, 3) := by decide +kernel
theorem d_AM_putSentence_177 : decode b_AM_putSentence 177 = .ok (.aload_n 0, 1) := by decide +kernel
theorem d_AM_putSentence_178 : decode b_AM_putSentence 178 = .ok (.getfield 10, 3) := by decide +kernel
theorem d_AM_putSentence_181 : decode b_AM_putSentence 181 = .ok (.ldc_w 269, 3) := by decide +kernel
theorem d_AM_putSentence_184 : decode b_AM_putSentence 184 = .ok (.iload_n 3, 1) := by decide +kernel
theorem d_AM_putSentence_185 : decode b_AM_putSentence 185 = .ok (.invokevirtual 243, 3) := by decide +kernel
theorem d_AM_putSentence_188 : decode b_AM_putSentence 188 = .ok (.aload_n 0, 1) := by decide +kernel
theorem d_AM_putSentence_189 : decode b_AM_putSentence 189 = .ok (.getfield 10, 3) := by decide +kernel
theorem d_AM_putSentence_192 : decode b_AM_putSentence 192 = .ok (.ldc_w 267, 3) := by decide +kernel
theorem d_AM_putSentence_195 : decode b_AM_putSentence 195 = .ok (.iload 4, 2) := by decide +kernel
theorem d_AM_putSentence_197 : decode b_AM_putSentence 197 = .ok (.invokevirtual 243, 3) := by decide +kernel
theorem d_AM_putSentence_200 : decode b_AM_putSentence 200 = .ok (.goto 14, 3) := by decide +kernel
theorem d_AM_putSentence_203 : decode b_AM_putSentence 203 = .ok (.aload_n 0, 1) := by decide +kernel
theorem d_AM_putSentence_204 : decode b_AM_putSentence 204 = .ok (.getfield 10, 3) := by decide +kernel
theorem d_AM_putSentence_207 : decode b_AM_putSentence 207 = .ok (.ldc_w 271, 3) := by decide +kernel
theorem d_AM_putSentence_210 : decode b_AM_putSentence 210 = .ok (.iload_n 2, 1) := by decide +kernel
theorem d_AM_putSentence_211 : decode b_AM_putSentence 211 = .ok (.invokevirtual 243, 3) := by decide +kernel
theorem d_AM_putSentence_214 : decode b_AM_putSentence 214 = .ok (.aload_n 0, 1) := by decide +kernel
theorem d_AM_putSentence_215 : decode b_AM_putSentence 215 = .ok (.getfield 10, 3) := by decide +kernel
theorem d_AM_putSentence_218 : decode b_AM_putSentence 218 = .ok (.ldc_w 273, 3) := by decide +kernel
theorem d_AM_putSentence_221 : decode b_AM_putSentence 221 = .ok (.invokevirtual 251, 3) := by decide +kernel
theorem d_AM_putSentence_224 : decode b_AM_putSentence 224 = .ok (.return_, 1) := by decide +kernel
def m_AM_putSentence_B64 {R : Type} (F : Nat) (a5 : Int32) (a4 : Int32) (k64_89 : Int32 → St → Option R) (rec64 : Int32 → St → Option R) (v6_64 : Int32) (y1_64 : St) : Option R :=
  (if a5 ≤ v6_64 then (k64_89 v6_64 y1_64) else (bn1 (m_Text_putNumber F y1_64 (a4 + v6_64)) (fun z1_80 => (rec64 (v6_64 + (1 : Int32)) z1_80))))
theorem m_AM_putSentence_B64_h {R : Type} {F : Nat} {a5 : Int32} {a4 : Int32} {k64_89 : Int32 → St → Option R} {rec64 : Int32 → St → Option R} {v6_64 : Int32} {y1_64 : St} {o : R} (h : m_AM_putSentence_B64 F a5 a4 k64_89 rec64 v6_64 y1_64 = some o) :
  (if a5 ≤ v6_64 then (k64_89 v6_64 y1_64) else (bn1 (m_Text_putNumber F y1_64 (a4 + v6_64)) (fun z1_80 => (rec64 (v6_64 + (1 : Int32)) z1_80)))) = some o := h
def m_AM_putSentence (F : Nat) (x0 : St) (x1 : St) (a1 : Int32) (a2 : Int32) (a3 : Int32) (a4 : Int32) (a5 : Int32) : Option (St) :=
  (if a1 = (0 : Int32) then (bn1 (m_Text_putPair F x1 15 a2) (fun z1_39 => (bn1 (m_Text_putPair F z1_39 16 a3) (fun z1_49 => (bn1 (m_Text_putWord F z1_49 17) (fun z1_58 => (lq2 (m_AM_putSentence_B64 F a5 a4 (fun v6_64 y1_64 => (bn1 (m_Text_putWord F y1_64 26) (fun z1_221 => (some z1_221))))) F (0 : Int32) z1_58))))))) else (if a1 = (1 : Int32) then (bn1 (m_Text_putPair F x1 18 a2) (fun z1_100 => (bn1 (m_Text_putPair F z1_100 19 a3) (fun z1_111 => (bn1 (m_Text_putPair F z1_111 20 a4) (fun z1_123 => (bn1 (m_Text_putPair F z1_123 21 a5) (fun z1_135 => (bn1 (m_Text_putWord F z1_135 26) (fun z1_221 => (some z1_221))))))))))) else (if a1 = (2 : Int32) then (bn1 (m_Text_putPair F x1 22 a2) (fun z1_149 => (bn1 (m_Text_putPair F z1_149 23 a3) (fun z1_160 => (bn1 (m_Text_putWord F z1_160 26) (fun z1_221 => (some z1_221))))))) else (if a1 = (3 : Int32) then (bn1 (m_Text_putPair F x1 22 a2) (fun z1_174 => (bn1 (m_Text_putPair F z1_174 24 a3) (fun z1_185 => (bn1 (m_Text_putPair F z1_185 23 a4) (fun z1_197 => (bn1 (m_Text_putWord F z1_197 26) (fun z1_221 => (some z1_221))))))))) else (bn1 (m_Text_putPair F x1 25 a2) (fun z1_211 => (bn1 (m_Text_putWord F z1_211 26) (fun z1_221 => (some z1_221)))))))))
abbrev rm_AM_putSentence : Room := { frames := 6, cells := 0, slots := 0, locals := 129 }
set_option maxHeartbeats 4000000 in
set_option maxRecDepth 100000 in
theorem c_AM_putSentence {G : (Nat → Prop) → State → Prop} (hG : gok G) (hGn : gN G) {adK adV : Nat → Nat} (hGs : gSt adK adV G) (l : Launch) (dC : Nat → ClassId) (dI : Nat → Nat → Nat) (g : Nat → ClassId) (F : Nat) (sz : Nat) (h0 : Nat) (q0 : Nat → Nat) (x0 : St) (q1 : Nat → Nat) (x1 : St) (a1 : Int32) (a2 : Int32) (a3 : Int32) (a4 : Int32) (a5 : Int32) {o : St} (hm : m_AM_putSentence F x0 x1 a1 a2 a3 a4 a5 = some o) : Met l y_AM_putSentence (.code y_AM_putSentence b_AM_putSentence 7 none :: gw) rm_AM_putSentence (kq (dC, dI) vwCl (tyv g) G [.ref h0, .int a1, .int a2, .int a3, .int a4, .int a5] sz (wd_AM g h0 q0 x0 ++ wd_Text g (q0 0) q1 x1)) (kqv (dC, dI) vwCl (tyv g) (wd_AM g h0 q0 x0 ++ wd_Text g (q0 0) q1 x1) (wd_AM g h0 q0 x0 ++ wd_Text g (q0 0) q1 o) sz) 0 0 (va_A (wd_AM g h0 q0 x0 ++ wd_Text g (q0 0) q1 x1) sz) := by
  unfold m_AM_putSentence at hm
  refine km (Qc := fun sz => kqv (dC, dI) vwCl (tyv g) (wd_AM g h0 q0 x0 ++ wd_Text g (q0 0) q1 x1) (wd_AM g h0 q0 x0 ++ wd_Text g (q0 0) q1 o) sz) (cc := b_AM_putSentence) (maxL := 7) (ret := none) (by decide) rfl (Nat.le_of_ble_eq_true rfl) ?_
  intro p e s m args below meth c Q hQ hx hb hr hts hown hlocks hml hnm H locs A hAe hA hP hK hD hS hGA ls hl
  have hl : lv_has ls 7 [(0, .ref h0), (1, .int a1), (2, .int a2), (3, .int a3), (4, .int a4), (5, .int a5)] := hl
  have hts : ∀ w ∈ gw, w.before args s = true := fun w h => hts w (List.mem_cons_of_mem _ h)
  have hown : s.vm.findClass "AlarmMatrix" = some m.cls := hown
  refine lv_iload_n hx hb d_AM_putSentence_0 rfl (lv_at hl 1 rfl) ?_
  by_cases hc0 : a1 = (0 : Int32)
  · replace hm := if_t hm hc0
    refine lv_tableIn (tgt := 32) hx hb d_AM_putSentence_1 (by rw [hc0]; decide) (by rw [hc0]; decide) (by rw [hc0]; rfl) (by decide) ?_
    refine lv_aload_n hx hb d_AM_putSentence_32 rfl (lv_at hl 0 rfl) ?_
    refine va_get (D := (dC, dI)) (ci := 0) (v := .ref (q0 0)) (C := "AlarmMatrix") (T := T_AM) (N := 7) hx hb hts i_AM hown hK hP 0 rfl rfl 0 (by decide) (hts _ k1_219) (fun _ h9 => h9) rfl d_AM_putSentence_33 ?_
    refine va_ldcS hx hb hown ((hGs A s hGA).2.2.2 15 (by decide)) d_AM_putSentence_36 ?_
    refine lv_iload_n hx hb d_AM_putSentence_38 rfl (lv_at hl 2 rfl) ?_
    obtain ⟨z1_39, hcl, hm⟩ := bn1_s hm
    refine kcv (wc := wd_Text g (q0 0) q1 x1) (wr := wd_AM g h0 q0 x0) (w1 := wd_Text g (q0 0) q1 z1_39) hP hD hS hA [1, 2, 3] [0] rfl rfl (by decide) (by decide) (va_runV (As := [.ref (adK 15), .int a2]) (rest := []) ⟨hx, hb, hml, hown, hts⟩ (c_Text_putPair hG hGn hGs l dC dI g F H.size (q0 0) q1 x1 15 (by decide) a2 hcl) (cwV 2 hts (gdV k3_208 k3_209 k3_210 k1_2 k3_211) rfl rfl rfl (by decide +kernel) ⟨Nat.le_of_ble_eq_true rfl, Nat.le_of_ble_eq_true rfl⟩) (kpV hG hP hK hD hS hA hGA [1, 2, 3] (by decide) rfl (ci := 1) (q0 := 0) rfl rfl rfl) rfl rfl hl.1 rfl (lv_room (Nat.le_of_ble_eq_true rfl)) d_AM_putSentence_39 ⟨Nat.le_of_ble_eq_true rfl, Nat.le_of_ble_eq_true rfl⟩) (fun H locs hP hD hS => ?_)
    have hP : va_P (dC, dI) vwCl (wd_AM g h0 q0 x0 ++ wd_Text g (q0 0) q1 z1_39) H := hP
    have hD : va_D A (wd_AM g h0 q0 x0 ++ wd_Text g (q0 0) q1 z1_39) := hD
    refine lv_aload_n hx hb d_AM_putSentence_42 rfl (lv_at hl 0 rfl) ?_
    refine va_get (D := (dC, dI)) (ci := 0) (v := .ref (q0 0)) (C := "AlarmMatrix") (T := T_AM) (N := 7) hx hb hts i_AM hown hK hP 0 rfl rfl 0 (by decide) (hts _ k1_219) (fun _ h9 => h9) rfl d_AM_putSentence_43 ?_
    refine va_ldcS hx hb hown ((hGs A s hGA).2.2.2 16 (by decide)) d_AM_putSentence_46 ?_
    refine lv_iload_n hx hb d_AM_putSentence_48 rfl (lv_at hl 3 rfl) ?_
    obtain ⟨z1_49, hcl, hm⟩ := bn1_s hm
    refine kcv (wc := wd_Text g (q0 0) q1 z1_39) (wr := wd_AM g h0 q0 x0) (w1 := wd_Text g (q0 0) q1 z1_49) hP hD hS hA [1, 2, 3] [0] rfl rfl (by decide) (by decide) (va_runV (As := [.ref (adK 16), .int a3]) (rest := []) ⟨hx, hb, hml, hown, hts⟩ (c_Text_putPair hG hGn hGs l dC dI g F H.size (q0 0) q1 z1_39 16 (by decide) a3 hcl) (cwV 2 hts (gdV k3_208 k3_209 k3_210 k1_2 k3_211) rfl rfl rfl (by decide +kernel) ⟨Nat.le_of_ble_eq_true rfl, Nat.le_of_ble_eq_true rfl⟩) (kpV hG hP hK hD hS hA hGA [1, 2, 3] (by decide) rfl (ci := 1) (q0 := 0) rfl rfl rfl) rfl rfl hl.1 rfl (lv_room (Nat.le_of_ble_eq_true rfl)) d_AM_putSentence_49 ⟨Nat.le_of_ble_eq_true rfl, Nat.le_of_ble_eq_true rfl⟩) (fun H locs hP hD hS => ?_)
    have hP : va_P (dC, dI) vwCl (wd_AM g h0 q0 x0 ++ wd_Text g (q0 0) q1 z1_49) H := hP
    have hD : va_D A (wd_AM g h0 q0 x0 ++ wd_Text g (q0 0) q1 z1_49) := hD
    refine lv_aload_n hx hb d_AM_putSentence_52 rfl (lv_at hl 0 rfl) ?_
    refine va_get (D := (dC, dI)) (ci := 0) (v := .ref (q0 0)) (C := "AlarmMatrix") (T := T_AM) (N := 7) hx hb hts i_AM hown hK hP 0 rfl rfl 0 (by decide) (hts _ k1_219) (fun _ h9 => h9) rfl d_AM_putSentence_53 ?_
    refine va_ldcS hx hb hown ((hGs A s hGA).2.2.2 17 (by decide)) d_AM_putSentence_56 ?_
    obtain ⟨z1_58, hcl, hm⟩ := bn1_s hm
    refine kcv (wc := wd_Text g (q0 0) q1 z1_49) (wr := wd_AM g h0 q0 x0) (w1 := wd_Text g (q0 0) q1 z1_58) hP hD hS hA [1, 2, 3] [0] rfl rfl (by decide) (by decide) (va_runV (As := [.ref (adK 17)]) (rest := []) ⟨hx, hb, hml, hown, hts⟩ (c_Text_putWord hG hGn hGs l dC dI g F H.size (q0 0) q1 z1_49 17 (by decide) hcl) (cwV 1 hts (gdV k3_225 k3_213 k3_214 k1_2 k3_215) rfl rfl rfl (by decide +kernel) ⟨Nat.le_of_ble_eq_true rfl, Nat.le_of_ble_eq_true rfl⟩) (kpV hG hP hK hD hS hA hGA [1, 2, 3] (by decide) rfl (ci := 1) (q0 := 0) rfl rfl rfl) rfl rfl hl.1 rfl (lv_room (Nat.le_of_ble_eq_true rfl)) d_AM_putSentence_58 ⟨Nat.le_of_ble_eq_true rfl, Nat.le_of_ble_eq_true rfl⟩) (fun H locs hP hD hS => ?_)
    have hP : va_P (dC, dI) vwCl (wd_AM g h0 q0 x0 ++ wd_Text g (q0 0) q1 z1_58) H := hP
    have hD : va_D A (wd_AM g h0 q0 x0 ++ wd_Text g (q0 0) q1 z1_58) := hD
    refine lv_iconst (v := (0 : Int32)) hx hb d_AM_putSentence_61 (by decide) ?_
    refine lv_istore (lv' := [(6, .int (0 : Int32)), (0, .ref h0), (1, .int a1), (2, .int a2), (3, .int a3), (4, .int a4), (5, .int a5)]) hx hb d_AM_putSentence_62 hl (by decide) rfl (fun ls hl => ?_)
    have L64 : ∀ (n64 : Nat) (v6_64 : Int32) (y1_64 : St) (H : Heap) (locs : List Loc) (ls : Array Slot), lq2 (m_AM_putSentence_B64 F a5 a4 (fun v6_64 y1_64 => (bn1 (m_Text_putWord F y1_64 26) (fun z1_221 => (some z1_221))))) n64 v6_64 y1_64 = some o → va_P (dC, dI) vwCl (wd_AM g h0 q0 x0 ++ wd_Text g (q0 0) q1 y1_64) H → va_D A (wd_AM g h0 q0 x0 ++ wd_Text g (q0 0) q1 y1_64) → va_S A s.heap H locs → lv_has ls 7 [(0, .ref h0), (1, .int a1), (2, .int a2), (3, .int a3), (4, .int a4), (5, .int a5), (6, .int v6_64)] → W p l e rm_AM_putSentence s m args below meth c H locs 0 0 Q (F0 m 64 ls []) := by
      intro n64
      induction n64 with
      | zero => intro v6_64 y1_64 H locs ls hm; exact absurd hm (by intro z; cases z)
      | succ n64 ih64 =>
        intro v6_64 y1_64 H locs ls hm hP hD hS hl
        replace hm := m_AM_putSentence_B64_h (lq2_h hm)
        refine lv_iload hx hb d_AM_putSentence_64 (lv_at hl 6 rfl) ?_
        refine lv_iload hx hb d_AM_putSentence_66 (lv_at hl 5 rfl) ?_
        refine lv_icmp_ge (tgt := 89) hx hb d_AM_putSentence_68 (by decide) (fun hc => ?_) (fun hc => ?_)
        · replace hm := if_t hm hc
          refine lv_goto (tgt := 214) hx hb d_AM_putSentence_89 (by decide) ?_
          refine lv_aload_n hx hb d_AM_putSentence_214 rfl (lv_at hl 0 rfl) ?_
          refine va_get (D := (dC, dI)) (ci := 0) (v := .ref (q0 0)) (C := "AlarmMatrix") (T := T_AM) (N := 7) hx hb hts i_AM hown hK hP 0 rfl rfl 0 (by decide) (hts _ k1_219) (fun _ h9 => h9) rfl d_AM_putSentence_215 ?_
          refine kldcW hx hb hown ((hGs A s hGA).2.2.2 26 (by decide)) d_AM_putSentence_218 ?_
          obtain ⟨z1_221, hcl, hm⟩ := bn1_s hm
          refine kcv (wc := wd_Text g (q0 0) q1 y1_64) (wr := wd_AM g h0 q0 x0) (w1 := wd_Text g (q0 0) q1 z1_221) hP hD hS hA [1, 2, 3] [0] rfl rfl (by decide) (by decide) (va_runV (As := [.ref (adK 26)]) (rest := []) ⟨hx, hb, hml, hown, hts⟩ (c_Text_putWord hG hGn hGs l dC dI g F H.size (q0 0) q1 y1_64 26 (by decide) hcl) (cwV 1 hts (gdV k3_225 k3_213 k3_214 k1_2 k3_215) rfl rfl rfl (by decide +kernel) ⟨Nat.le_of_ble_eq_true rfl, Nat.le_of_ble_eq_true rfl⟩) (kpV hG hP hK hD hS hA hGA [1, 2, 3] (by decide) rfl (ci := 1) (q0 := 0) rfl rfl rfl) rfl rfl hl.1 rfl (lv_room (Nat.le_of_ble_eq_true rfl)) d_AM_putSentence_221 ⟨Nat.le_of_ble_eq_true rfl, Nat.le_of_ble_eq_true rfl⟩) (fun H locs hP hD hS => ?_)
          have hP : va_P (dC, dI) vwCl (wd_AM g h0 q0 x0 ++ wd_Text g (q0 0) q1 z1_221) H := hP
          have hD : va_D A (wd_AM g h0 q0 x0 ++ wd_Text g (q0 0) q1 z1_221) := hD
          obtain rfl := Option.some.inj hm
          rw [hQ]
          exact krv hx hb hr hlocks hAe hP hK hD hS d_AM_putSentence_224
        · replace hm := if_f hm hc
          refine lv_aload_n hx hb d_AM_putSentence_71 rfl (lv_at hl 0 rfl) ?_
          refine va_get (D := (dC, dI)) (ci := 0) (v := .ref (q0 0)) (C := "AlarmMatrix") (T := T_AM) (N := 7) hx hb hts i_AM hown hK hP 0 rfl rfl 0 (by decide) (hts _ k1_219) (fun _ h9 => h9) rfl d_AM_putSentence_72 ?_
          refine lv_iload hx hb d_AM_putSentence_75 (lv_at hl 4 rfl) ?_
          refine lv_iload hx hb d_AM_putSentence_77 (lv_at hl 6 rfl) ?_
          refine lv_iadd hx hb d_AM_putSentence_79 ?_
          obtain ⟨z1_80, hcl, hm⟩ := bn1_s hm
          refine kcv (wc := wd_Text g (q0 0) q1 y1_64) (wr := wd_AM g h0 q0 x0) (w1 := wd_Text g (q0 0) q1 z1_80) hP hD hS hA [1, 2, 3] [0] rfl rfl (by decide) (by decide) (va_runV (As := [.int (a4 + v6_64)]) (rest := []) ⟨hx, hb, hml, hown, hts⟩ (c_Text_putNumber hG hGn l dC dI g F H.size (q0 0) q1 y1_64 (a4 + v6_64) hcl) (cwV 1 hts (gdV k3_226 k3_220 k3_221 k1_2 k3_222) rfl rfl rfl (by decide +kernel) ⟨Nat.le_of_ble_eq_true rfl, Nat.le_of_ble_eq_true rfl⟩) (kpV hG hP hK hD hS hA hGA [1, 2, 3] (by decide) rfl (ci := 1) (q0 := 0) rfl rfl rfl) rfl rfl hl.1 rfl (lv_room (Nat.le_of_ble_eq_true rfl)) d_AM_putSentence_80 ⟨Nat.le_of_ble_eq_true rfl, Nat.le_of_ble_eq_true rfl⟩) (fun H locs hP hD hS => ?_)
          have hP : va_P (dC, dI) vwCl (wd_AM g h0 q0 x0 ++ wd_Text g (q0 0) q1 z1_80) H := hP
          have hD : va_D A (wd_AM g h0 q0 x0 ++ wd_Text g (q0 0) q1 z1_80) := hD
          refine lv_iinc (v := (v6_64 + (1 : Int32))) (lv' := [(6, .int (v6_64 + (1 : Int32))), (0, .ref h0), (1, .int a1), (2, .int a2), (3, .int a3), (4, .int a4), (5, .int a5)]) hx hb d_AM_putSentence_83 hl (k := 6) rfl rfl (by decide) rfl (fun ls hl => ?_)
          refine lv_goto (tgt := 64) hx hb d_AM_putSentence_86 (by decide) ?_
          exact ih64 (v6_64 + (1 : Int32)) z1_80 H locs ls hm hP hD hS (lv_sub hl [1, 2, 3, 4, 5, 6, 0] rfl)
    exact L64 F (0 : Int32) z1_58 H locs ls hm hP hD hS (lv_sub hl [1, 2, 3, 4, 5, 6, 0] rfl)
  · replace hm := if_f hm hc0
    by_cases hc1 : a1 = (1 : Int32)
    · replace hm := if_t hm hc1
      refine lv_tableIn (tgt := 92) hx hb d_AM_putSentence_1 (by rw [hc1]; decide) (by rw [hc1]; decide) (by rw [hc1]; rfl) (by decide) ?_
      refine lv_aload_n hx hb d_AM_putSentence_92 rfl (lv_at hl 0 rfl) ?_
      refine va_get (D := (dC, dI)) (ci := 0) (v := .ref (q0 0)) (C := "AlarmMatrix") (T := T_AM) (N := 7) hx hb hts i_AM hown hK hP 0 rfl rfl 0 (by decide) (hts _ k1_219) (fun _ h9 => h9) rfl d_AM_putSentence_93 ?_
      refine kldcW hx hb hown ((hGs A s hGA).2.2.2 18 (by decide)) d_AM_putSentence_96 ?_
      refine lv_iload_n hx hb d_AM_putSentence_99 rfl (lv_at hl 2 rfl) ?_
      obtain ⟨z1_100, hcl, hm⟩ := bn1_s hm
      refine kcv (wc := wd_Text g (q0 0) q1 x1) (wr := wd_AM g h0 q0 x0) (w1 := wd_Text g (q0 0) q1 z1_100) hP hD hS hA [1, 2, 3] [0] rfl rfl (by decide) (by decide) (va_runV (As := [.ref (adK 18), .int a2]) (rest := []) ⟨hx, hb, hml, hown, hts⟩ (c_Text_putPair hG hGn hGs l dC dI g F H.size (q0 0) q1 x1 18 (by decide) a2 hcl) (cwV 2 hts (gdV k3_208 k3_209 k3_210 k1_2 k3_211) rfl rfl rfl (by decide +kernel) ⟨Nat.le_of_ble_eq_true rfl, Nat.le_of_ble_eq_true rfl⟩) (kpV hG hP hK hD hS hA hGA [1, 2, 3] (by decide) rfl (ci := 1) (q0 := 0) rfl rfl rfl) rfl rfl hl.1 rfl (lv_room (Nat.le_of_ble_eq_true rfl)) d_AM_putSentence_100 ⟨Nat.le_of_ble_eq_true rfl, Nat.le_of_ble_eq_true rfl⟩) (fun H locs hP hD hS => ?_)
      have hP : va_P (dC, dI) vwCl (wd_AM g h0 q0 x0 ++ wd_Text g (q0 0) q1 z1_100) H := hP
      have hD : va_D A (wd_AM g h0 q0 x0 ++ wd_Text g (q0 0) q1 z1_100) := hD
      refine lv_aload_n hx hb d_AM_putSentence_103 rfl (lv_at hl 0 rfl) ?_
      refine va_get (D := (dC, dI)) (ci := 0) (v := .ref (q0 0)) (C := "AlarmMatrix") (T := T_AM) (N := 7) hx hb hts i_AM hown hK hP 0 rfl rfl 0 (by decide) (hts _ k1_219) (fun _ h9 => h9) rfl d_AM_putSentence_104 ?_
      refine kldcW hx hb hown ((hGs A s hGA).2.2.2 19 (by decide)) d_AM_putSentence_107 ?_
      refine lv_iload_n hx hb d_AM_putSentence_110 rfl (lv_at hl 3 rfl) ?_
      obtain ⟨z1_111, hcl, hm⟩ := bn1_s hm
      refine kcv (wc := wd_Text g (q0 0) q1 z1_100) (wr := wd_AM g h0 q0 x0) (w1 := wd_Text g (q0 0) q1 z1_111) hP hD hS hA [1, 2, 3] [0] rfl rfl (by decide) (by decide) (va_runV (As := [.ref (adK 19), .int a3]) (rest := []) ⟨hx, hb, hml, hown, hts⟩ (c_Text_putPair hG hGn hGs l dC dI g F H.size (q0 0) q1 z1_100 19 (by decide) a3 hcl) (cwV 2 hts (gdV k3_208 k3_209 k3_210 k1_2 k3_211) rfl rfl rfl (by decide +kernel) ⟨Nat.le_of_ble_eq_true rfl, Nat.le_of_ble_eq_true rfl⟩) (kpV hG hP hK hD hS hA hGA [1, 2, 3] (by decide) rfl (ci := 1) (q0 := 0) rfl rfl rfl) rfl rfl hl.1 rfl (lv_room (Nat.le_of_ble_eq_true rfl)) d_AM_putSentence_111 ⟨Nat.le_of_ble_eq_true rfl, Nat.le_of_ble_eq_true rfl⟩) (fun H locs hP hD hS => ?_)
      have hP : va_P (dC, dI) vwCl (wd_AM g h0 q0 x0 ++ wd_Text g (q0 0) q1 z1_111) H := hP
      have hD : va_D A (wd_AM g h0 q0 x0 ++ wd_Text g (q0 0) q1 z1_111) := hD
      refine lv_aload_n hx hb d_AM_putSentence_114 rfl (lv_at hl 0 rfl) ?_
      refine va_get (D := (dC, dI)) (ci := 0) (v := .ref (q0 0)) (C := "AlarmMatrix") (T := T_AM) (N := 7) hx hb hts i_AM hown hK hP 0 rfl rfl 0 (by decide) (hts _ k1_219) (fun _ h9 => h9) rfl d_AM_putSentence_115 ?_
      refine kldcW hx hb hown ((hGs A s hGA).2.2.2 20 (by decide)) d_AM_putSentence_118 ?_
      refine lv_iload hx hb d_AM_putSentence_121 (lv_at hl 4 rfl) ?_
      obtain ⟨z1_123, hcl, hm⟩ := bn1_s hm
      refine kcv (wc := wd_Text g (q0 0) q1 z1_111) (wr := wd_AM g h0 q0 x0) (w1 := wd_Text g (q0 0) q1 z1_123) hP hD hS hA [1, 2, 3] [0] rfl rfl (by decide) (by decide) (va_runV (As := [.ref (adK 20), .int a4]) (rest := []) ⟨hx, hb, hml, hown, hts⟩ (c_Text_putPair hG hGn hGs l dC dI g F H.size (q0 0) q1 z1_111 20 (by decide) a4 hcl) (cwV 2 hts (gdV k3_208 k3_209 k3_210 k1_2 k3_211) rfl rfl rfl (by decide +kernel) ⟨Nat.le_of_ble_eq_true rfl, Nat.le_of_ble_eq_true rfl⟩) (kpV hG hP hK hD hS hA hGA [1, 2, 3] (by decide) rfl (ci := 1) (q0 := 0) rfl rfl rfl) rfl rfl hl.1 rfl (lv_room (Nat.le_of_ble_eq_true rfl)) d_AM_putSentence_123 ⟨Nat.le_of_ble_eq_true rfl, Nat.le_of_ble_eq_true rfl⟩) (fun H locs hP hD hS => ?_)
      have hP : va_P (dC, dI) vwCl (wd_AM g h0 q0 x0 ++ wd_Text g (q0 0) q1 z1_123) H := hP
      have hD : va_D A (wd_AM g h0 q0 x0 ++ wd_Text g (q0 0) q1 z1_123) := hD
      refine lv_aload_n hx hb d_AM_putSentence_126 rfl (lv_at hl 0 rfl) ?_
      refine va_get (D := (dC, dI)) (ci := 0) (v := .ref (q0 0)) (C := "AlarmMatrix") (T := T_AM) (N := 7) hx hb hts i_AM hown hK hP 0 rfl rfl 0 (by decide) (hts _ k1_219) (fun _ h9 => h9) rfl d_AM_putSentence_127 ?_
      refine kldcW hx hb hown ((hGs A s hGA).2.2.2 21 (by decide)) d_AM_putSentence_130 ?_
      refine lv_iload hx hb d_AM_putSentence_133 (lv_at hl 5 rfl) ?_
      obtain ⟨z1_135, hcl, hm⟩ := bn1_s hm
      refine kcv (wc := wd_Text g (q0 0) q1 z1_123) (wr := wd_AM g h0 q0 x0) (w1 := wd_Text g (q0 0) q1 z1_135) hP hD hS hA [1, 2, 3] [0] rfl rfl (by decide) (by decide) (va_runV (As := [.ref (adK 21), .int a5]) (rest := []) ⟨hx, hb, hml, hown, hts⟩ (c_Text_putPair hG hGn hGs l dC dI g F H.size (q0 0) q1 z1_123 21 (by decide) a5 hcl) (cwV 2 hts (gdV k3_208 k3_209 k3_210 k1_2 k3_211) rfl rfl rfl (by decide +kernel) ⟨Nat.le_of_ble_eq_true rfl, Nat.le_of_ble_eq_true rfl⟩) (kpV hG hP hK hD hS hA hGA [1, 2, 3] (by decide) rfl (ci := 1) (q0 := 0) rfl rfl rfl) rfl rfl hl.1 rfl (lv_room (Nat.le_of_ble_eq_true rfl)) d_AM_putSentence_135 ⟨Nat.le_of_ble_eq_true rfl, Nat.le_of_ble_eq_true rfl⟩) (fun H locs hP hD hS => ?_)
      have hP : va_P (dC, dI) vwCl (wd_AM g h0 q0 x0 ++ wd_Text g (q0 0) q1 z1_135) H := hP
      have hD : va_D A (wd_AM g h0 q0 x0 ++ wd_Text g (q0 0) q1 z1_135) := hD
      refine lv_goto (tgt := 214) hx hb d_AM_putSentence_138 (by decide) ?_
      refine lv_aload_n hx hb d_AM_putSentence_214 rfl (lv_at hl 0 rfl) ?_
      refine va_get (D := (dC, dI)) (ci := 0) (v := .ref (q0 0)) (C := "AlarmMatrix") (T := T_AM) (N := 7) hx hb hts i_AM hown hK hP 0 rfl rfl 0 (by decide) (hts _ k1_219) (fun _ h9 => h9) rfl d_AM_putSentence_215 ?_
      refine kldcW hx hb hown ((hGs A s hGA).2.2.2 26 (by decide)) d_AM_putSentence_218 ?_
      obtain ⟨z1_221, hcl, hm⟩ := bn1_s hm
      refine kcv (wc := wd_Text g (q0 0) q1 z1_135) (wr := wd_AM g h0 q0 x0) (w1 := wd_Text g (q0 0) q1 z1_221) hP hD hS hA [1, 2, 3] [0] rfl rfl (by decide) (by decide) (va_runV (As := [.ref (adK 26)]) (rest := []) ⟨hx, hb, hml, hown, hts⟩ (c_Text_putWord hG hGn hGs l dC dI g F H.size (q0 0) q1 z1_135 26 (by decide) hcl) (cwV 1 hts (gdV k3_225 k3_213 k3_214 k1_2 k3_215) rfl rfl rfl (by decide +kernel) ⟨Nat.le_of_ble_eq_true rfl, Nat.le_of_ble_eq_true rfl⟩) (kpV hG hP hK hD hS hA hGA [1, 2, 3] (by decide) rfl (ci := 1) (q0 := 0) rfl rfl rfl) rfl rfl hl.1 rfl (lv_room (Nat.le_of_ble_eq_true rfl)) d_AM_putSentence_221 ⟨Nat.le_of_ble_eq_true rfl, Nat.le_of_ble_eq_true rfl⟩) (fun H locs hP hD hS => ?_)
      have hP : va_P (dC, dI) vwCl (wd_AM g h0 q0 x0 ++ wd_Text g (q0 0) q1 z1_221) H := hP
      have hD : va_D A (wd_AM g h0 q0 x0 ++ wd_Text g (q0 0) q1 z1_221) := hD
      obtain rfl := Option.some.inj hm
      rw [hQ]
      exact krv hx hb hr hlocks hAe hP hK hD hS d_AM_putSentence_224
    · replace hm := if_f hm hc1
      by_cases hc2 : a1 = (2 : Int32)
      · replace hm := if_t hm hc2
        refine lv_tableIn (tgt := 141) hx hb d_AM_putSentence_1 (by rw [hc2]; decide) (by rw [hc2]; decide) (by rw [hc2]; rfl) (by decide) ?_
        refine lv_aload_n hx hb d_AM_putSentence_141 rfl (lv_at hl 0 rfl) ?_
        refine va_get (D := (dC, dI)) (ci := 0) (v := .ref (q0 0)) (C := "AlarmMatrix") (T := T_AM) (N := 7) hx hb hts i_AM hown hK hP 0 rfl rfl 0 (by decide) (hts _ k1_219) (fun _ h9 => h9) rfl d_AM_putSentence_142 ?_
        refine kldcW hx hb hown ((hGs A s hGA).2.2.2 22 (by decide)) d_AM_putSentence_145 ?_
        refine lv_iload_n hx hb d_AM_putSentence_148 rfl (lv_at hl 2 rfl) ?_
        obtain ⟨z1_149, hcl, hm⟩ := bn1_s hm
        refine kcv (wc := wd_Text g (q0 0) q1 x1) (wr := wd_AM g h0 q0 x0) (w1 := wd_Text g (q0 0) q1 z1_149) hP hD hS hA [1, 2, 3] [0] rfl rfl (by decide) (by decide) (va_runV (As := [.ref (adK 22), .int a2]) (rest := []) ⟨hx, hb, hml, hown, hts⟩ (c_Text_putPair hG hGn hGs l dC dI g F H.size (q0 0) q1 x1 22 (by decide) a2 hcl) (cwV 2 hts (gdV k3_208 k3_209 k3_210 k1_2 k3_211) rfl rfl rfl (by decide +kernel) ⟨Nat.le_of_ble_eq_true rfl, Nat.le_of_ble_eq_true rfl⟩) (kpV hG hP hK hD hS hA hGA [1, 2, 3] (by decide) rfl (ci := 1) (q0 := 0) rfl rfl rfl) rfl rfl hl.1 rfl (lv_room (Nat.le_of_ble_eq_true rfl)) d_AM_putSentence_149 ⟨Nat.le_of_ble_eq_true rfl, Nat.le_of_ble_eq_true rfl⟩) (fun H locs hP hD hS => ?_)
        have hP : va_P (dC, dI) vwCl (wd_AM g h0 q0 x0 ++ wd_Text g (q0 0) q1 z1_149) H := hP
        have hD : va_D A (wd_AM g h0 q0 x0 ++ wd_Text g (q0 0) q1 z1_149) := hD
        refine lv_aload_n hx hb d_AM_putSentence_152 rfl (lv_at hl 0 rfl) ?_
        refine va_get (D := (dC, dI)) (ci := 0) (v := .ref (q0 0)) (C := "AlarmMatrix") (T := T_AM) (N := 7) hx hb hts i_AM hown hK hP 0 rfl rfl 0 (by decide) (hts _ k1_219) (fun _ h9 => h9) rfl d_AM_putSentence_153 ?_
        refine kldcW hx hb hown ((hGs A s hGA).2.2.2 23 (by decide)) d_AM_putSentence_156 ?_
        refine lv_iload_n hx hb d_AM_putSentence_159 rfl (lv_at hl 3 rfl) ?_
        obtain ⟨z1_160, hcl, hm⟩ := bn1_s hm
        refine kcv (wc := wd_Text g (q0 0) q1 z1_149) (wr := wd_AM g h0 q0 x0) (w1 := wd_Text g (q0 0) q1 z1_160) hP hD hS hA [1, 2, 3] [0] rfl rfl (by decide) (by decide) (va_runV (As := [.ref (adK 23), .int a3]) (rest := []) ⟨hx, hb, hml, hown, hts⟩ (c_Text_putPair hG hGn hGs l dC dI g F H.size (q0 0) q1 z1_149 23 (by decide) a3 hcl) (cwV 2 hts (gdV k3_208 k3_209 k3_210 k1_2 k3_211) rfl rfl rfl (by decide +kernel) ⟨Nat.le_of_ble_eq_true rfl, Nat.le_of_ble_eq_true rfl⟩) (kpV hG hP hK hD hS hA hGA [1, 2, 3] (by decide) rfl (ci := 1) (q0 := 0) rfl rfl rfl) rfl rfl hl.1 rfl (lv_room (Nat.le_of_ble_eq_true rfl)) d_AM_putSentence_160 ⟨Nat.le_of_ble_eq_true rfl, Nat.le_of_ble_eq_true rfl⟩) (fun H locs hP hD hS => ?_)
        have hP : va_P (dC, dI) vwCl (wd_AM g h0 q0 x0 ++ wd_Text g (q0 0) q1 z1_160) H := hP
        have hD : va_D A (wd_AM g h0 q0 x0 ++ wd_Text g (q0 0) q1 z1_160) := hD
        refine lv_goto (tgt := 214) hx hb d_AM_putSentence_163 (by decide) ?_
        refine lv_aload_n hx hb d_AM_putSentence_214 rfl (lv_at hl 0 rfl) ?_
        refine va_get (D := (dC, dI)) (ci := 0) (v := .ref (q0 0)) (C := "AlarmMatrix") (T := T_AM) (N := 7) hx hb hts i_AM hown hK hP 0 rfl rfl 0 (by decide) (hts _ k1_219) (fun _ h9 => h9) rfl d_AM_putSentence_215 ?_
        refine kldcW hx hb hown ((hGs A s hGA).2.2.2 26 (by decide)) d_AM_putSentence_218 ?_
        obtain ⟨z1_221, hcl, hm⟩ := bn1_s hm
        refine kcv (wc := wd_Text g (q0 0) q1 z1_160) (wr := wd_AM g h0 q0 x0) (w1 := wd_Text g (q0 0) q1 z1_221) hP hD hS hA [1, 2, 3] [0] rfl rfl (by decide) (by decide) (va_runV (As := [.ref (adK 26)]) (rest := []) ⟨hx, hb, hml, hown, hts⟩ (c_Text_putWord hG hGn hGs l dC dI g F H.size (q0 0) q1 z1_160 26 (by decide) hcl) (cwV 1 hts (gdV k3_225 k3_213 k3_214 k1_2 k3_215) rfl rfl rfl (by decide +kernel) ⟨Nat.le_of_ble_eq_true rfl, Nat.le_of_ble_eq_true rfl⟩) (kpV hG hP hK hD hS hA hGA [1, 2, 3] (by decide) rfl (ci := 1) (q0 := 0) rfl rfl rfl) rfl rfl hl.1 rfl (lv_room (Nat.le_of_ble_eq_true rfl)) d_AM_putSentence_221 ⟨Nat.le_of_ble_eq_true rfl, Nat.le_of_ble_eq_true rfl⟩) (fun H locs hP hD hS => ?_)
        have hP : va_P (dC, dI) vwCl (wd_AM g h0 q0 x0 ++ wd_Text g (q0 0) q1 z1_221) H := hP
        have hD : va_D A (wd_AM g h0 q0 x0 ++ wd_Text g (q0 0) q1 z1_221) := hD
        obtain rfl := Option.some.inj hm
        rw [hQ]
        exact krv hx hb hr hlocks hAe hP hK hD hS d_AM_putSentence_224
      · replace hm := if_f hm hc2
        by_cases hc3 : a1 = (3 : Int32)
        · replace hm := if_t hm hc3
          refine lv_tableIn (tgt := 166) hx hb d_AM_putSentence_1 (by rw [hc3]; decide) (by rw [hc3]; decide) (by rw [hc3]; rfl) (by decide) ?_
          refine lv_aload_n hx hb d_AM_putSentence_166 rfl (lv_at hl 0 rfl) ?_
          refine va_get (D := (dC, dI)) (ci := 0) (v := .ref (q0 0)) (C := "AlarmMatrix") (T := T_AM) (N := 7) hx hb hts i_AM hown hK hP 0 rfl rfl 0 (by decide) (hts _ k1_219) (fun _ h9 => h9) rfl d_AM_putSentence_167 ?_
          refine kldcW hx hb hown ((hGs A s hGA).2.2.2 22 (by decide)) d_AM_putSentence_170 ?_
          refine lv_iload_n hx hb d_AM_putSentence_173 rfl (lv_at hl 2 rfl) ?_
          obtain ⟨z1_174, hcl, hm⟩ := bn1_s hm
          refine kcv (wc := wd_Text g (q0 0) q1 x1) (wr := wd_AM g h0 q0 x0) (w1 := wd_Text g (q0 0) q1 z1_174) hP hD hS hA [1, 2, 3] [0] rfl rfl (by decide) (by decide) (va_runV (As := [.ref (adK 22), .int a2]) (rest := []) ⟨hx, hb, hml, hown, hts⟩ (c_Text_putPair hG hGn hGs l dC dI g F H.size (q0 0) q1 x1 22 (by decide) a2 hcl) (cwV 2 hts (gdV k3_208 k3_209 k3_210 k1_2 k3_211) rfl rfl rfl (by decide +kernel) ⟨Nat.le_of_ble_eq_true rfl, Nat.le_of_ble_eq_true rfl⟩) (kpV hG hP hK hD hS hA hGA [1, 2, 3] (by decide) rfl (ci := 1) (q0 := 0) rfl rfl rfl) rfl rfl hl.1 rfl (lv_room (Nat.le_of_ble_eq_true rfl)) d_AM_putSentence_174 ⟨Nat.le_of_ble_eq_true rfl, Nat.le_of_ble_eq_true rfl⟩) (fun H locs hP hD hS => ?_)
          have hP : va_P (dC, dI) vwCl (wd_AM g h0 q0 x0 ++ wd_Text g (q0 0) q1 z1_174) H := hP
          have hD : va_D A (wd_AM g h0 q0 x0 ++ wd_Text g (q0 0) q1 z1_174) := hD
          refine lv_aload_n hx hb d_AM_putSentence_177 rfl (lv_at hl 0 rfl) ?_
          refine va_get (D := (dC, dI)) (ci := 0) (v := .ref (q0 0)) (C := "AlarmMatrix") (T := T_AM) (N := 7) hx hb hts i_AM hown hK hP 0 rfl rfl 0 (by decide) (hts _ k1_219) (fun _ h9 => h9) rfl d_AM_putSentence_178 ?_
          refine kldcW hx hb hown ((hGs A s hGA).2.2.2 24 (by decide)) d_AM_putSentence_181 ?_
          refine lv_iload_n hx hb d_AM_putSentence_184 rfl (lv_at hl 3 rfl) ?_
          obtain ⟨z1_185, hcl, hm⟩ := bn1_s hm
          refine kcv (wc := wd_Text g (q0 0) q1 z1_174) (wr := wd_AM g h0 q0 x0) (w1 := wd_Text g (q0 0) q1 z1_185) hP hD hS hA [1, 2, 3] [0] rfl rfl (by decide) (by decide) (va_runV (As := [.ref (adK 24), .int a3]) (rest := []) ⟨hx, hb, hml, hown, hts⟩ (c_Text_putPair hG hGn hGs l dC dI g F H.size (q0 0) q1 z1_174 24 (by decide) a3 hcl) (cwV 2 hts (gdV k3_208 k3_209 k3_210 k1_2 k3_211) rfl rfl rfl (by decide +kernel) ⟨Nat.le_of_ble_eq_true rfl, Nat.le_of_ble_eq_true rfl⟩) (kpV hG hP hK hD hS hA hGA [1, 2, 3] (by decide) rfl (ci := 1) (q0 := 0) rfl rfl rfl) rfl rfl hl.1 rfl (lv_room (Nat.le_of_ble_eq_true rfl)) d_AM_putSentence_185 ⟨Nat.le_of_ble_eq_true rfl, Nat.le_of_ble_eq_true rfl⟩) (fun H locs hP hD hS => ?_)
          have hP : va_P (dC, dI) vwCl (wd_AM g h0 q0 x0 ++ wd_Text g (q0 0) q1 z1_185) H := hP
          have hD : va_D A (wd_AM g h0 q0 x0 ++ wd_Text g (q0 0) q1 z1_185) := hD
          refine lv_aload_n hx hb d_AM_putSentence_188 rfl (lv_at hl 0 rfl) ?_
          refine va_get (D := (dC, dI)) (ci := 0) (v := .ref (q0 0)) (C := "AlarmMatrix") (T := T_AM) (N := 7) hx hb hts i_AM hown hK hP 0 rfl rfl 0 (by decide) (hts _ k1_219) (fun _ h9 => h9) rfl d_AM_putSentence_189 ?_
          refine kldcW hx hb hown ((hGs A s hGA).2.2.2 23 (by decide)) d_AM_putSentence_192 ?_
          refine lv_iload hx hb d_AM_putSentence_195 (lv_at hl 4 rfl) ?_
          obtain ⟨z1_197, hcl, hm⟩ := bn1_s hm
          refine kcv (wc := wd_Text g (q0 0) q1 z1_185) (wr := wd_AM g h0 q0 x0) (w1 := wd_Text g (q0 0) q1 z1_197) hP hD hS hA [1, 2, 3] [0] rfl rfl (by decide) (by decide) (va_runV (As := [.ref (adK 23), .int a4]) (rest := []) ⟨hx, hb, hml, hown, hts⟩ (c_Text_putPair hG hGn hGs l dC dI g F H.size (q0 0) q1 z1_185 23 (by decide) a4 hcl) (cwV 2 hts (gdV k3_208 k3_209 k3_210 k1_2 k3_211) rfl rfl rfl (by decide +kernel) ⟨Nat.le_of_ble_eq_true rfl, Nat.le_of_ble_eq_true rfl⟩) (kpV hG hP hK hD hS hA hGA [1, 2, 3] (by decide) rfl (ci := 1) (q0 := 0) rfl rfl rfl) rfl rfl hl.1 rfl (lv_room (Nat.le_of_ble_eq_true rfl)) d_AM_putSentence_197 ⟨Nat.le_of_ble_eq_true rfl, Nat.le_of_ble_eq_true rfl⟩) (fun H locs hP hD hS => ?_)
          have hP : va_P (dC, dI) vwCl (wd_AM g h0 q0 x0 ++ wd_Text g (q0 0) q1 z1_197) H := hP
          have hD : va_D A (wd_AM g h0 q0 x0 ++ wd_Text g (q0 0) q1 z1_197) := hD
          refine lv_goto (tgt := 214) hx hb d_AM_putSentence_200 (by decide) ?_
          refine lv_aload_n hx hb d_AM_putSentence_214 rfl (lv_at hl 0 rfl) ?_
          refine va_get (D := (dC, dI)) (ci := 0) (v := .ref (q0 0)) (C := "AlarmMatrix") (T := T_AM) (N := 7) hx hb hts i_AM hown hK hP 0 rfl rfl 0 (by decide) (hts _ k1_219) (fun _ h9 => h9) rfl d_AM_putSentence_215 ?_
          refine kldcW hx hb hown ((hGs A s hGA).2.2.2 26 (by decide)) d_AM_putSentence_218 ?_
          obtain ⟨z1_221, hcl, hm⟩ := bn1_s hm
          refine kcv (wc := wd_Text g (q0 0) q1 z1_197) (wr := wd_AM g h0 q0 x0) (w1 := wd_Text g (q0 0) q1 z1_221) hP hD hS hA [1, 2, 3] [0] rfl rfl (by decide) (by decide) (va_runV (As := [.ref (adK 26)]) (rest := []) ⟨hx, hb, hml, hown, hts⟩ (c_Text_putWord hG hGn hGs l dC dI g F H.size (q0 0) q1 z1_197 26 (by decide) hcl) (cwV 1 hts (gdV k3_225 k3_213 k3_214 k1_2 k3_215) rfl rfl rfl (by decide +kernel) ⟨Nat.le_of_ble_eq_true rfl, Nat.le_of_ble_eq_true rfl⟩) (kpV hG hP hK hD hS hA hGA [1, 2, 3] (by decide) rfl (ci := 1) (q0 := 0) rfl rfl rfl) rfl rfl hl.1 rfl (lv_room (Nat.le_of_ble_eq_true rfl)) d_AM_putSentence_221 ⟨Nat.le_of_ble_eq_true rfl, Nat.le_of_ble_eq_true rfl⟩) (fun H locs hP hD hS => ?_)
          have hP : va_P (dC, dI) vwCl (wd_AM g h0 q0 x0 ++ wd_Text g (q0 0) q1 z1_221) H := hP
          have hD : va_D A (wd_AM g h0 q0 x0 ++ wd_Text g (q0 0) q1 z1_221) := hD
          obtain rfl := Option.some.inj hm
          rw [hQ]
          exact krv hx hb hr hlocks hAe hP hK hD hS d_AM_putSentence_224
        · replace hm := if_f hm hc3
          refine lv_tableOut (tgt := 203) hx hb d_AM_putSentence_1 (sw_out (lo := 0) (n := 4) (by decide) (fun k hk => by rcases (show k = 0 ∨ k = 1 ∨ k = 2 ∨ k = 3 by omega) with rfl | rfl | rfl | rfl <;> assumption)) (by decide) ?_
          refine lv_aload_n hx hb d_AM_putSentence_203 rfl (lv_at hl 0 rfl) ?_
          refine va_get (D := (dC, dI)) (ci := 0) (v := .ref (q0 0)) (C := "AlarmMatrix") (T := T_AM) (N := 7) hx hb hts i_AM hown hK hP 0 rfl rfl 0 (by decide) (hts _ k1_219) (fun _ h9 => h9) rfl d_AM_putSentence_204 ?_
          refine kldcW hx hb hown ((hGs A s hGA).2.2.2 25 (by decide)) d_AM_putSentence_207 ?_
          refine lv_iload_n hx hb d_AM_putSentence_210 rfl (lv_at hl 2 rfl) ?_
          obtain ⟨z1_211, hcl, hm⟩ := bn1_s hm
          refine kcv (wc := wd_Text g (q0 0) q1 x1) (wr := wd_AM g h0 q0 x0) (w1 := wd_Text g (q0 0) q1 z1_211) hP hD hS hA [1, 2, 3] [0] rfl rfl (by decide) (by decide) (va_runV (As := [.ref (adK 25), .int a2]) (rest := []) ⟨hx, hb, hml, hown, hts⟩ (c_Text_putPair hG hGn hGs l dC dI g F H.size (q0 0) q1 x1 25 (by decide) a2 hcl) (cwV 2 hts (gdV k3_208 k3_209 k3_210 k1_2 k3_211) rfl rfl rfl (by decide +kernel) ⟨Nat.le_of_ble_eq_true rfl, Nat.le_of_ble_eq_true rfl⟩) (kpV hG hP hK hD hS hA hGA [1, 2, 3] (by decide) rfl (ci := 1) (q0 := 0) rfl rfl rfl) rfl rfl hl.1 rfl (lv_room (Nat.le_of_ble_eq_true rfl)) d_AM_putSentence_211 ⟨Nat.le_of_ble_eq_true rfl, Nat.le_of_ble_eq_true rfl⟩) (fun H locs hP hD hS => ?_)
          have hP : va_P (dC, dI) vwCl (wd_AM g h0 q0 x0 ++ wd_Text g (q0 0) q1 z1_211) H := hP
          have hD : va_D A (wd_AM g h0 q0 x0 ++ wd_Text g (q0 0) q1 z1_211) := hD
          refine lv_aload_n hx hb d_AM_putSentence_214 rfl (lv_at hl 0 rfl) ?_
          refine va_get (D := (dC, dI)) (ci := 0) (v := .ref (q0 0)) (C := "AlarmMatrix") (T := T_AM) (N := 7) hx hb hts i_AM hown hK hP 0 rfl rfl 0 (by decide) (hts _ k1_219) (fun _ h9 => h9) rfl d_AM_putSentence_215 ?_
          refine kldcW hx hb hown ((hGs A s hGA).2.2.2 26 (by decide)) d_AM_putSentence_218 ?_
          obtain ⟨z1_221, hcl, hm⟩ := bn1_s hm
          refine kcv (wc := wd_Text g (q0 0) q1 z1_211) (wr := wd_AM g h0 q0 x0) (w1 := wd_Text g (q0 0) q1 z1_221) hP hD hS hA [1, 2, 3] [0] rfl rfl (by decide) (by decide) (va_runV (As := [.ref (adK 26)]) (rest := []) ⟨hx, hb, hml, hown, hts⟩ (c_Text_putWord hG hGn hGs l dC dI g F H.size (q0 0) q1 z1_211 26 (by decide) hcl) (cwV 1 hts (gdV k3_225 k3_213 k3_214 k1_2 k3_215) rfl rfl rfl (by decide +kernel) ⟨Nat.le_of_ble_eq_true rfl, Nat.le_of_ble_eq_true rfl⟩) (kpV hG hP hK hD hS hA hGA [1, 2, 3] (by decide) rfl (ci := 1) (q0 := 0) rfl rfl rfl) rfl rfl hl.1 rfl (lv_room (Nat.le_of_ble_eq_true rfl)) d_AM_putSentence_221 ⟨Nat.le_of_ble_eq_true rfl, Nat.le_of_ble_eq_true rfl⟩) (fun H locs hP hD hS => ?_)
          have hP : va_P (dC, dI) vwCl (wd_AM g h0 q0 x0 ++ wd_Text g (q0 0) q1 z1_221) H := hP
          have hD : va_D A (wd_AM g h0 q0 x0 ++ wd_Text g (q0 0) q1 z1_221) := hD
          obtain rfl := Option.some.inj hm
          rw [hQ]
          exact krv hx hb hr hlocks hAe hP hK hD hS d_AM_putSentence_224

abbrev b_Acts_clear : ByteArray := prog_2_method_2_code
abbrev y_Acts_clear : MethodName := ⟨"AlarmMatrix$Acts", "clear", "()V"⟩
theorem d_Acts_clear_0 : decode b_Acts_clear 0 = .ok (.aload_n 0, 1) := by decide +kernel
theorem d_Acts_clear_1 : decode b_Acts_clear 1 = .ok (.iconst 0, 1) := by decide +kernel
theorem d_Acts_clear_2 : decode b_Acts_clear 2 = .ok (.putfield 31, 3) := by decide +kernel
theorem d_Acts_clear_5 : decode b_Acts_clear 5 = .ok (.iconst 0, 1) := by decide +kernel
theorem d_Acts_clear_6 : decode b_Acts_clear 6 = .ok (.istore_n 1, 1) := by decide +kernel
theorem d_Acts_clear_7 : decode b_Acts_clear 7 = .ok (.iload_n 1, 1) := by decide +kernel
theorem d_Acts_clear_8 : decode b_Acts_clear 8 = .ok (.bipush 20, 2) := by decide +kernel
theorem d_Acts_clear_10 : decode b_Acts_clear 10 = .ok (.if_icmp .ge 30, 3) := by decide +kernel
theorem d_Acts_clear_13 : decode b_Acts_clear 13 = .ok (.aload_n 0, 1) := by decide +kernel
theorem d_Acts_clear_14 : decode b_Acts_clear 14 = .ok (.getfield 21, 3) := by decide +kernel
theorem d_Acts_clear_17 : decode b_Acts_clear 17 = .ok (.iload_n 1, 1) := by decide +kernel
theorem d_Acts_clear_18 : decode b_Acts_clear 18 = .ok (.iconst 0, 1) := by decide +kernel
theorem d_Acts_clear_19 : decode b_Acts_clear 19 = .ok (.bastore, 1) := by decide +kernel
theorem d_Acts_clear_20 : decode b_Acts_clear 20 = .ok (.aload_n 0, 1) := by decide +kernel
theorem d_Acts_clear_21 : decode b_Acts_clear 21 = .ok (.getfield 25, 3) := by decide +kernel
theorem d_Acts_clear_24 : decode b_Acts_clear 24 = .ok (.iload_n 1, 1) := by decide +kernel
theorem d_Acts_clear_25 : decode b_Acts_clear 25 = .ok (.iconst 0, 1) := by decide +kernel
theorem d_Acts_clear_26 : decode b_Acts_clear 26 = .ok (.bastore, 1) := by decide +kernel
theorem d_Acts_clear_27 : decode b_Acts_clear 27 = .ok (.aload_n 0, 1) := by decide +kernel
theorem d_Acts_clear_28 : decode b_Acts_clear 28 = .ok (.getfield 35, 3) := by decide +kernel
theorem d_Acts_clear_31 : decode b_Acts_clear 31 = .ok (.iload_n 1, 1) := by decide +kernel
theorem d_Acts_clear_32 : decode b_Acts_clear 32 = .ok (.iconst 0, 1) := by decide +kernel
theorem d_Acts_clear_33 : decode b_Acts_clear 33 = .ok (.iastore, 1) := by decide +kernel
theorem d_Acts_clear_34 : decode b_Acts_clear 34 = .ok (.iinc 1 1, 3) := by decide +kernel
theorem d_Acts_clear_37 : decode b_Acts_clear 37 = .ok (.goto (-30), 3) := by decide +kernel
theorem d_Acts_clear_40 : decode b_Acts_clear 40 = .ok (.return_, 1) := by decide +kernel
def m_Acts_clear_B7 {R : Type} (F : Nat)  (k7_40 : Int32 → St → Option R) (rec7 : Int32 → St → Option R) (v1_7 : Int32) (y0_7 : St) : Option R :=
  (if (20 : Int32) ≤ v1_7 then (k7_40 v1_7 y0_7) else (ck v1_7 20 (lz (st y0_7 3 (upd (y0_7 3) v1_7.toNatClampNeg (vp_nar .boolean (0 : Int32)))) (fun e0_19 => (ck v1_7 20 (lz (st e0_19 4 (upd (e0_19 4) v1_7.toNatClampNeg (vp_nar .boolean (0 : Int32)))) (fun e0_26 => (ck v1_7 20 (lz (st e0_26 7 (upd (e0_26 7) v1_7.toNatClampNeg (0 : Int32))) (fun e0_33 => (rec7 (v1_7 + (1 : Int32)) e0_33)))))))))))
theorem m_Acts_clear_B7_h {R : Type} {F : Nat}  {k7_40 : Int32 → St → Option R} {rec7 : Int32 → St → Option R} {v1_7 : Int32} {y0_7 : St} {o : R} (h : m_Acts_clear_B7 F k7_40 rec7 v1_7 y0_7 = some o) :
  (if (20 : Int32) ≤ v1_7 then (k7_40 v1_7 y0_7) else (ck v1_7 20 (lz (st y0_7 3 (upd (y0_7 3) v1_7.toNatClampNeg (vp_nar .boolean (0 : Int32)))) (fun e0_19 => (ck v1_7 20 (lz (st e0_19 4 (upd (e0_19 4) v1_7.toNatClampNeg (vp_nar .boolean (0 : Int32)))) (fun e0_26 => (ck v1_7 20 (lz (st e0_26 7 (upd (e0_26 7) v1_7.toNatClampNeg (0 : Int32))) (fun e0_33 => (rec7 (v1_7 + (1 : Int32)) e0_33))))))))))) = some o := h
def m_Acts_clear (F : Nat) (x0 : St) : Option (St) :=
  (lz (sc x0 6 (0 : Int32)) (fun e0_2 => (lq2 (m_Acts_clear_B7 F  (fun v1_7 y0_7 => (some y0_7))) F (0 : Int32) e0_2)))
abbrev rm_Acts_clear : Room := { frames := 0, cells := 0, slots := 0, locals := 0 }
set_option maxHeartbeats 4000000 in
set_option maxRecDepth 100000 in
theorem c_Acts_clear {G : (Nat → Prop) → State → Prop} (hG : gok G) (hGn : gN G) (l : Launch) (dC : Nat → ClassId) (dI : Nat → Nat → Nat) (g : Nat → ClassId) (F : Nat) (sz : Nat) (h0 : Nat) (q0 : Nat → Nat) (x0 : St) {o : St} (hm : m_Acts_clear F x0 = some o) : Met l y_Acts_clear (.code y_Acts_clear b_Acts_clear 2 none :: gw) rm_Acts_clear (kq (dC, dI) vwCl (tyv g) G [.ref h0] sz (wd_Acts g h0 q0 x0)) (kqv (dC, dI) vwCl (tyv g) (wd_Acts g h0 q0 x0) (wd_Acts g h0 q0 o) sz) 0 0 (va_A (wd_Acts g h0 q0 x0) sz) := by
  unfold m_Acts_clear at hm
  refine km (Qc := fun sz => kqv (dC, dI) vwCl (tyv g) (wd_Acts g h0 q0 x0) (wd_Acts g h0 q0 o) sz) (cc := b_Acts_clear) (maxL := 2) (ret := none) (by decide) rfl (Nat.le_of_ble_eq_true rfl) ?_
  intro p e s m args below meth c Q hQ hx hb hr hts hown hlocks hml hnm H locs A hAe hA hP hK hD hS hGA ls hl
  have hl : lv_has ls 2 [(0, .ref h0)] := hl
  have hts : ∀ w ∈ gw, w.before args s = true := fun w h => hts w (List.mem_cons_of_mem _ h)
  have hown : s.vm.findClass "AlarmMatrix$Acts" = some m.cls := hown
  refine lv_aload_n hx hb d_Acts_clear_0 rfl (lv_at hl 0 rfl) ?_
  refine lv_iconst (v := (0 : Int32)) hx hb d_Acts_clear_1 (by decide) ?_
  obtain ⟨e0_2, he, hm⟩ := lz_s hm
  refine va_put (D := (dC, dI)) (ci := 6) (v := .int (0 : Int32)) (ty := .int) (C := "AlarmMatrix$Acts") (T := T_Acts) (N := 13) hx hb hts i_Acts t_Acts o_Acts n_Acts hown hK hP hD hS 0 rfl rfl 6 (by decide) (hts _ k1_166) (fun _ h9 => h9) rfl (by decide +kernel) rfl rfl (Nat.le_of_ble_eq_true rfl) d_Acts_clear_2 (fun H locs hP hD hS => ?_)
  have hP : va_P (dC, dI) vwCl (wd_Acts g h0 q0 e0_2) H := by rw [he]; exact hP
  have hD : va_D A (wd_Acts g h0 q0 e0_2) := by rw [he]; exact hD
  refine lv_iconst (v := (0 : Int32)) hx hb d_Acts_clear_5 (by decide) ?_
  refine lv_istore_n (lv' := [(1, .int (0 : Int32)), (0, .ref h0)]) hx hb d_Acts_clear_6 rfl hl (by decide) rfl (fun ls hl => ?_)
  have L7 : ∀ (n7 : Nat) (v1_7 : Int32) (y0_7 : St) (H : Heap) (locs : List Loc) (ls : Array Slot), lq2 (m_Acts_clear_B7 F  (fun v1_7 y0_7 => (some y0_7))) n7 v1_7 y0_7 = some o → va_P (dC, dI) vwCl (wd_Acts g h0 q0 y0_7) H → va_D A (wd_Acts g h0 q0 y0_7) → va_S A s.heap H locs → lv_has ls 2 [(0, .ref h0), (1, .int v1_7)] → W p l e rm_Acts_clear s m args below meth c H locs 0 0 Q (F0 m 7 ls []) := by
    intro n7
    induction n7 with
    | zero => intro v1_7 y0_7 H locs ls hm; exact absurd hm (by intro z; cases z)
    | succ n7 ih7 =>
      intro v1_7 y0_7 H locs ls hm hP hD hS hl
      replace hm := m_Acts_clear_B7_h (lq2_h hm)
      refine lv_iload_n hx hb d_Acts_clear_7 rfl (lv_at hl 1 rfl) ?_
      refine lv_bipush (v := (20 : Int32)) hx hb d_Acts_clear_8 (by decide) ?_
      refine lv_icmp_ge (tgt := 40) hx hb d_Acts_clear_10 (by decide) (fun hc => ?_) (fun hc => ?_)
      · replace hm := if_t hm hc
        obtain rfl := Option.some.inj hm
        rw [hQ]
        exact krv hx hb hr hlocks hAe hP hK hD hS d_Acts_clear_40
      · replace hm := if_f hm hc
        refine lv_aload_n hx hb d_Acts_clear_13 rfl (lv_at hl 0 rfl) ?_
        refine va_get (D := (dC, dI)) (ci := 6) (v := .ref (q0 3)) (C := "AlarmMatrix$Acts") (T := T_Acts) (N := 13) hx hb hts i_Acts hown hK hP 0 rfl rfl 3 (by decide) (hts _ k1_163) (fun _ h9 => h9) rfl d_Acts_clear_14 ?_
        refine lv_iload_n hx hb d_Acts_clear_17 rfl (lv_at hl 1 rfl) ?_
        refine lv_iconst (v := (0 : Int32)) hx hb d_Acts_clear_18 (by decide) ?_
        obtain ⟨h_19, hm⟩ := ck_s hm
        obtain ⟨e0_19, he, hm⟩ := lz_s hm
        refine va_zast (f := (y0_7 3)) hx hb hK hP hD hS 4 1 rfl rfl h_19 d_Acts_clear_19 (fun H locs hP hD hS => ?_)
        have hP : va_P (dC, dI) vwCl (wd_Acts g h0 q0 e0_19) H := by rw [he]; exact hP
        have hD : va_D A (wd_Acts g h0 q0 e0_19) := by rw [he]; exact hD
        refine lv_aload_n hx hb d_Acts_clear_20 rfl (lv_at hl 0 rfl) ?_
        refine va_get (D := (dC, dI)) (ci := 6) (v := .ref (q0 4)) (C := "AlarmMatrix$Acts") (T := T_Acts) (N := 13) hx hb hts i_Acts hown hK hP 0 rfl rfl 4 (by decide) (hts _ k1_164) (fun _ h9 => h9) rfl d_Acts_clear_21 ?_
        refine lv_iload_n hx hb d_Acts_clear_24 rfl (lv_at hl 1 rfl) ?_
        refine lv_iconst (v := (0 : Int32)) hx hb d_Acts_clear_25 (by decide) ?_
        obtain ⟨h_26, hm⟩ := ck_s hm
        obtain ⟨e0_26, he, hm⟩ := lz_s hm
        refine va_zast (f := (e0_19 4)) hx hb hK hP hD hS 5 1 rfl rfl h_26 d_Acts_clear_26 (fun H locs hP hD hS => ?_)
        have hP : va_P (dC, dI) vwCl (wd_Acts g h0 q0 e0_26) H := by rw [he]; exact hP
        have hD : va_D A (wd_Acts g h0 q0 e0_26) := by rw [he]; exact hD
        refine lv_aload_n hx hb d_Acts_clear_27 rfl (lv_at hl 0 rfl) ?_
        refine va_get (D := (dC, dI)) (ci := 6) (v := .ref (q0 7)) (C := "AlarmMatrix$Acts") (T := T_Acts) (N := 13) hx hb hts i_Acts hown hK hP 0 rfl rfl 7 (by decide) (hts _ k1_167) (fun _ h9 => h9) rfl d_Acts_clear_28 ?_
        refine lv_iload_n hx hb d_Acts_clear_31 rfl (lv_at hl 1 rfl) ?_
        refine lv_iconst (v := (0 : Int32)) hx hb d_Acts_clear_32 (by decide) ?_
        obtain ⟨h_33, hm⟩ := ck_s hm
        obtain ⟨e0_33, he, hm⟩ := lz_s hm
        refine va_iast (f := (e0_26 7)) hx hb hK hP hD hS 7 0 rfl rfl h_33 d_Acts_clear_33 (fun H locs hP hD hS => ?_)
        have hP : va_P (dC, dI) vwCl (wd_Acts g h0 q0 e0_33) H := by rw [he]; exact hP
        have hD : va_D A (wd_Acts g h0 q0 e0_33) := by rw [he]; exact hD
        refine lv_iinc (v := (v1_7 + (1 : Int32))) (lv' := [(1, .int (v1_7 + (1 : Int32))), (0, .ref h0)]) hx hb d_Acts_clear_34 hl (k := 1) rfl rfl (by decide) rfl (fun ls hl => ?_)
        refine lv_goto (tgt := 7) hx hb d_Acts_clear_37 (by decide) ?_
        exact ih7 (v1_7 + (1 : Int32)) e0_33 H locs ls hm hP hD hS (lv_sub hl [1, 0] rfl)
  exact L7 F (0 : Int32) e0_2 H locs ls hm hP hD hS (lv_sub hl [1, 0] rfl)
abbrev b_Acts_isTold : ByteArray := prog_2_method_3_code
abbrev y_Acts_isTold : MethodName := ⟨"AlarmMatrix$Acts", "isTold", "(I)Z"⟩
theorem d_Acts_isTold_0 : decode b_Acts_isTold 0 = .ok (.iload_n 1, 1) := by decide +kernel
theorem d_Acts_isTold_1 : decode b_Acts_isTold 1 = .ok (.iconst 0, 1) := by decide +kernel
theorem d_Acts_isTold_2 : decode b_Acts_isTold 2 = .ok (.bipush 19, 2) := by decide +kernel
theorem d_Acts_isTold_4 : decode b_Acts_isTold 4 = .ok (.invokestatic 53, 3) := by decide +kernel
theorem d_Acts_isTold_7 : decode b_Acts_isTold 7 = .ok (.ifCond .eq 16, 3) := by decide +kernel
theorem d_Acts_isTold_10 : decode b_Acts_isTold 10 = .ok (.aload_n 0, 1) := by decide +kernel
theorem d_Acts_isTold_11 : decode b_Acts_isTold 11 = .ok (.getfield 21, 3) := by decide +kernel
theorem d_Acts_isTold_14 : decode b_Acts_isTold 14 = .ok (.iload_n 1, 1) := by decide +kernel
theorem d_Acts_isTold_15 : decode b_Acts_isTold 15 = .ok (.baload, 1) := by decide +kernel
theorem d_Acts_isTold_16 : decode b_Acts_isTold 16 = .ok (.ifCond .eq 7, 3) := by decide +kernel
theorem d_Acts_isTold_19 : decode b_Acts_isTold 19 = .ok (.iconst 1, 1) := by decide +kernel
theorem d_Acts_isTold_20 : decode b_Acts_isTold 20 = .ok (.goto 4, 3) := by decide +kernel
theorem d_Acts_isTold_23 : decode b_Acts_isTold 23 = .ok (.iconst 0, 1) := by decide +kernel
theorem d_Acts_isTold_24 : decode b_Acts_isTold 24 = .ok (.ireturn, 1) := by decide +kernel
def m_Acts_isTold (F : Nat) (x0 : St) (a1 : Int32) : Option (Int32) :=
  (bn1 (m_AM_isWithin F a1 (0 : Int32) (19 : Int32)) (fun r4 => (if r4 = (0 : Int32) then (some (0 : Int32)) else (ck a1 20 (if ((x0 3) a1.toNatClampNeg) = (0 : Int32) then (some (0 : Int32)) else (some (1 : Int32)))))))
abbrev rm_Acts_isTold : Room := { frames := 1, cells := 0, slots := 0, locals := 22 }
set_option maxHeartbeats 4000000 in
set_option maxRecDepth 100000 in
theorem c_Acts_isTold {G : (Nat → Prop) → State → Prop} (hG : gok G) (hGn : gN G) (l : Launch) (dC : Nat → ClassId) (dI : Nat → Nat → Nat) (g : Nat → ClassId) (F : Nat) (sz : Nat) (h0 : Nat) (q0 : Nat → Nat) (x0 : St) (a1 : Int32) {o : Int32} (hm : m_Acts_isTold F x0 a1 = some o) : Met l y_Acts_isTold (.code y_Acts_isTold b_Acts_isTold 2 (some .boolean) :: gw) rm_Acts_isTold (kq (dC, dI) vwCl (tyv g) G [.ref h0, .int a1] sz (wd_Acts g h0 q0 x0)) (kqi (dC, dI) vwCl (tyv g) (wd_Acts g h0 q0 x0) o (wd_Acts g h0 q0 x0) sz) 0 0 (va_A (wd_Acts g h0 q0 x0) sz) := by
  unfold m_Acts_isTold at hm
  refine km (Qc := fun sz => kqi (dC, dI) vwCl (tyv g) (wd_Acts g h0 q0 x0) o (wd_Acts g h0 q0 x0) sz) (cc := b_Acts_isTold) (maxL := 2) (ret := some .boolean) (by decide) rfl (Nat.le_of_ble_eq_true rfl) ?_
  intro p e s m args below meth c Q hQ hx hb hr hts hown hlocks hml hnm H locs A hAe hA hP hK hD hS hGA ls hl
  have hl : lv_has ls 2 [(0, .ref h0), (1, .int a1)] := hl
  have hts : ∀ w ∈ gw, w.before args s = true := fun w h => hts w (List.mem_cons_of_mem _ h)
  have hown : s.vm.findClass "AlarmMatrix$Acts" = some m.cls := hown
  refine lv_iload_n hx hb d_Acts_isTold_0 rfl (lv_at hl 1 rfl) ?_
  refine lv_iconst (v := (0 : Int32)) hx hb d_Acts_isTold_1 (by decide) ?_
  refine lv_bipush (v := (19 : Int32)) hx hb d_Acts_isTold_2 (by decide) ?_
  obtain ⟨r4, hcl, hm⟩ := bn1_s hm
  refine kci (wc := ([] : va_W)) (wr := wd_Acts g h0 q0 x0) (w1 := ([] : va_W)) hP hD hS hA [] [0, 1, 2, 3, 4, 5, 6, 7, 8, 9, 10, 11, 12] rfl rfl (by decide) (by decide) (va_runSN (host := "AlarmMatrix") (As := [.int a1, .int (0 : Int32), .int (19 : Int32)]) (rest := []) ⟨hx, hb, hml, hown, hts⟩ (c_AM_isWithin hG hGn l dC dI g F H.size a1 (0 : Int32) (19 : Int32) hcl) ⟨va_cnB 3 hts (gdI k2_154) rfl rfl rfl (hGn A s hGA _ nw2_210) (hts _ k1_1) (by decide +kernel) ⟨Nat.le_of_ble_eq_true rfl, Nat.le_of_ble_eq_true rfl⟩, (hts _ k2_153), trivial⟩ (kpS hG hP hK hD hS hA hGA [] (by decide) rfl) rfl rfl hl.1 rfl (lv_room (Nat.le_of_ble_eq_true rfl)) d_Acts_isTold_4 ⟨Nat.le_of_ble_eq_true rfl, Nat.le_of_ble_eq_true rfl⟩) (fun H locs hP hD hS => ?_)
  have hP : va_P (dC, dI) vwCl (wd_Acts g h0 q0 x0) H := hP
  have hD : va_D A (wd_Acts g h0 q0 x0) := hD
  refine lv_if_eq (tgt := 23) hx hb d_Acts_isTold_7 (by decide) (fun hc => ?_) (fun hc => ?_)
  · replace hm := if_t hm hc
    refine lv_iconst (v := (0 : Int32)) hx hb d_Acts_isTold_23 (by decide) ?_
    obtain rfl := Option.some.inj hm
    rw [hQ]
    exact krz hx hb hr nar_0 hlocks hAe hP hK hD hS d_Acts_isTold_24
  · replace hm := if_f hm hc
    refine lv_aload_n hx hb d_Acts_isTold_10 rfl (lv_at hl 0 rfl) ?_
    refine va_get (D := (dC, dI)) (ci := 6) (v := .ref (q0 3)) (C := "AlarmMatrix$Acts") (T := T_Acts) (N := 13) hx hb hts i_Acts hown hK hP 0 rfl rfl 3 (by decide) (hts _ k1_163) (fun _ h9 => h9) rfl d_Acts_isTold_11 ?_
    refine lv_iload_n hx hb d_Acts_isTold_14 rfl (lv_at hl 1 rfl) ?_
    obtain ⟨h_15, hm⟩ := ck_s hm
    refine va_zald (f := (x0 3)) hx hb hK hP 4 1 rfl rfl h_15 d_Acts_isTold_15 ?_
    refine lv_if_eq (tgt := 23) hx hb d_Acts_isTold_16 (by decide) (fun hc => ?_) (fun hc => ?_)
    · replace hm := if_t hm hc
      refine lv_iconst (v := (0 : Int32)) hx hb d_Acts_isTold_23 (by decide) ?_
      obtain rfl := Option.some.inj hm
      rw [hQ]
      exact krz hx hb hr nar_0 hlocks hAe hP hK hD hS d_Acts_isTold_24
    · replace hm := if_f hm hc
      refine lv_iconst (v := (1 : Int32)) hx hb d_Acts_isTold_19 (by decide) ?_
      refine lv_goto (tgt := 24) hx hb d_Acts_isTold_20 (by decide) ?_
      obtain rfl := Option.some.inj hm
      rw [hQ]
      exact krz hx hb hr nar_1 hlocks hAe hP hK hD hS d_Acts_isTold_24
abbrev b_Acts_isHeld : ByteArray := prog_2_method_4_code
abbrev y_Acts_isHeld : MethodName := ⟨"AlarmMatrix$Acts", "isHeld", "(I)Z"⟩
theorem d_Acts_isHeld_0 : decode b_Acts_isHeld 0 = .ok (.aload_n 0, 1) := by decide +kernel
theorem d_Acts_isHeld_1 : decode b_Acts_isHeld 1 = .ok (.getfield 25, 3) := by decide +kernel
theorem d_Acts_isHeld_4 : decode b_Acts_isHeld 4 = .ok (.iload_n 1, 1) := by decide +kernel
theorem d_Acts_isHeld_5 : decode b_Acts_isHeld 5 = .ok (.baload, 1) := by decide +kernel
theorem d_Acts_isHeld_6 : decode b_Acts_isHeld 6 = .ok (.ireturn, 1) := by decide +kernel
def m_Acts_isHeld (F : Nat) (x0 : St) (a1 : Int32) : Option (Int32) :=
  (ck a1 20 (ckb ((x0 4) a1.toNatClampNeg) (some ((x0 4) a1.toNatClampNeg))))
abbrev rm_Acts_isHeld : Room := { frames := 0, cells := 0, slots := 0, locals := 0 }
set_option maxHeartbeats 4000000 in
set_option maxRecDepth 100000 in
theorem c_Acts_isHeld {G : (Nat → Prop) → State → Prop} (hG : gok G) (hGn : gN G) (l : Launch) (dC : Nat → ClassId) (dI : Nat → Nat → Nat) (g : Nat → ClassId) (F : Nat) (sz : Nat) (h0 : Nat) (q0 : Nat → Nat) (x0 : St) (a1 : Int32) {o : Int32} (hm : m_Acts_isHeld F x0 a1 = some o) : Met l y_Acts_isHeld (.code y_Acts_isHeld b_Acts_isHeld 2 (some .boolean) :: gw) rm_Acts_isHeld (kq (dC, dI) vwCl (tyv g) G [.ref h0, .int a1] sz (wd_Acts g h0 q0 x0)) (kqi (dC, dI) vwCl (tyv g) (wd_Acts g h0 q0 x0) o (wd_Acts g h0 q0 x0) sz) 0 0 (va_A (wd_Acts g h0 q0 x0) sz) := by
  unfold m_Acts_isHeld at hm
  refine km (Qc := fun sz => kqi (dC, dI) vwCl (tyv g) (wd_Acts g h0 q0 x0) o (wd_Acts g h0 q0 x0) sz) (cc := b_Acts_isHeld) (maxL := 2) (ret := some .boolean) (by decide) rfl (Nat.le_of_ble_eq_true rfl) ?_
  intro p e s m args below meth c Q hQ hx hb hr hts hown hlocks hml hnm H locs A hAe hA hP hK hD hS hGA ls hl
  have hl : lv_has ls 2 [(0, .ref h0), (1, .int a1)] := hl
  have hts : ∀ w ∈ gw, w.before args s = true := fun w h => hts w (List.mem_cons_of_mem _ h)
  have hown : s.vm.findClass "AlarmMatrix$Acts" = some m.cls := hown
  refine lv_aload_n hx hb d_Acts_isHeld_0 rfl (lv_at hl 0 rfl) ?_
  refine va_get (D := (dC, dI)) (ci := 6) (v := .ref (q0 4)) (C := "AlarmMatrix$Acts") (T := T_Acts) (N := 13) hx hb hts i_Acts hown hK hP 0 rfl rfl 4 (by decide) (hts _ k1_164) (fun _ h9 => h9) rfl d_Acts_isHeld_1 ?_
  refine lv_iload_n hx hb d_Acts_isHeld_4 rfl (lv_at hl 1 rfl) ?_
  obtain ⟨h_5, hm⟩ := ck_s hm
  refine va_zald (f := (x0 4)) hx hb hK hP 5 1 rfl rfl h_5 d_Acts_isHeld_5 ?_
  obtain ⟨hz, hm⟩ := ckb_s hm
  obtain rfl := Option.some.inj hm
  rw [hQ]
  exact krz hx hb hr hz hlocks hAe hP hK hD hS d_Acts_isHeld_6
abbrev b_Acts_hold : ByteArray := prog_2_method_5_code
abbrev y_Acts_hold : MethodName := ⟨"AlarmMatrix$Acts", "hold", "(I)V"⟩
theorem d_Acts_hold_0 : decode b_Acts_hold 0 = .ok (.aload_n 0, 1) := by decide +kernel
theorem d_Acts_hold_1 : decode b_Acts_hold 1 = .ok (.getfield 25, 3) := by decide +kernel
theorem d_Acts_hold_4 : decode b_Acts_hold 4 = .ok (.iload_n 1, 1) := by decide +kernel
theorem d_Acts_hold_5 : decode b_Acts_hold 5 = .ok (.iconst 1, 1) := by decide +kernel
theorem d_Acts_hold_6 : decode b_Acts_hold 6 = .ok (.bastore, 1) := by decide +kernel
theorem d_Acts_hold_7 : decode b_Acts_hold 7 = .ok (.return_, 1) := by decide +kernel
def m_Acts_hold (F : Nat) (x0 : St) (a1 : Int32) : Option (St) :=
  (ck a1 20 (lz (st x0 4 (upd (x0 4) a1.toNatClampNeg (vp_nar .boolean (1 : Int32)))) (fun e0_6 => (some e0_6))))
abbrev rm_Acts_hold : Room := { frames := 0, cells := 0, slots := 0, locals := 0 }
set_option maxHeartbeats 4000000 in
set_option maxRecDepth 100000 in
theorem c_Acts_hold {G : (Nat → Prop) → State → Prop} (hG : gok G) (hGn : gN G) (l : Launch) (dC : Nat → ClassId) (dI : Nat → Nat → Nat) (g : Nat → ClassId) (F : Nat) (sz : Nat) (h0 : Nat) (q0 : Nat → Nat) (x0 : St) (a1 : Int32) {o : St} (hm : m_Acts_hold F x0 a1 = some o) : Met l y_Acts_hold (.code y_Acts_hold b_Acts_hold 2 none :: gw) rm_Acts_hold (kq (dC, dI) vwCl (tyv g) G [.ref h0, .int a1] sz (wd_Acts g h0 q0 x0)) (kqv (dC, dI) vwCl (tyv g) (wd_Acts g h0 q0 x0) (wd_Acts g h0 q0 o) sz) 0 0 (va_A (wd_Acts g h0 q0 x0) sz) := by
  unfold m_Acts_hold at hm
  refine km (Qc := fun sz => kqv (dC, dI) vwCl (tyv g) (wd_Acts g h0 q0 x0) (wd_Acts g h0 q0 o) sz) (cc := b_Acts_hold) (maxL := 2) (ret := none) (by decide) rfl (Nat.le_of_ble_eq_true rfl) ?_
  intro p e s m args below meth c Q hQ hx hb hr hts hown hlocks hml hnm H locs A hAe hA hP hK hD hS hGA ls hl
  have hl : lv_has ls 2 [(0, .ref h0), (1, .int a1)] := hl
  have hts : ∀ w ∈ gw, w.before args s = true := fun w h => hts w (List.mem_cons_of_mem _ h)
  have hown : s.vm.findClass "AlarmMatrix$Acts" = some m.cls := hown
  refine lv_aload_n hx hb d_Acts_hold_0 rfl (lv_at hl 0 rfl) ?_
  refine va_get (D := (dC, dI)) (ci := 6) (v := .ref (q0 4)) (C := "AlarmMatrix$Acts") (T := T_Acts) (N := 13) hx hb hts i_Acts hown hK hP 0 rfl rfl 4 (by decide) (hts _ k1_164) (fun _ h9 => h9) rfl d_Acts_hold_1 ?_
  refine lv_iload_n hx hb d_Acts_hold_4 rfl (lv_at hl 1 rfl) ?_
  refine lv_iconst (v := (1 : Int32)) hx hb d_Acts_hold_5 (by decide) ?_
  obtain ⟨h_6, hm⟩ := ck_s hm
  obtain ⟨e0_6, he, hm⟩ := lz_s hm
  refine va_zast (f := (x0 4)) hx hb hK hP hD hS 5 1 rfl rfl h_6 d_Acts_hold_6 (fun H locs hP hD hS => ?_)
  have hP : va_P (dC, dI) vwCl (wd_Acts g h0 q0 e0_6) H := by rw [he]; exact hP
  have hD : va_D A (wd_Acts g h0 q0 e0_6) := by rw [he]; exact hD
  obtain rfl := Option.some.inj hm
  rw [hQ]
  exact krv hx hb hr hlocks hAe hP hK hD hS d_Acts_hold_7
abbrev b_Acts_goesBefore : ByteArray := prog_2_method_8_code
abbrev y_Acts_goesBefore : MethodName := ⟨"AlarmMatrix$Acts", "goesBefore", "(II)Z"⟩
theorem d_Acts_goesBefore_0 : decode b_Acts_goesBefore 0 = .ok (.aload_n 0, 1) := by decide +kernel
theorem d_Acts_goesBefore_1 : decode b_Acts_goesBefore 1 = .ok (.getfield 15, 3) := by decide +kernel
theorem d_Acts_goesBefore_4 : decode b_Acts_goesBefore 4 = .ok (.iload_n 1, 1) := by decide +kernel
theorem d_Acts_goesBefore_5 : decode b_Acts_goesBefore 5 = .ok (.iaload, 1) := by decide +kernel
theorem d_Acts_goesBefore_6 : decode b_Acts_goesBefore 6 = .ok (.aload_n 0, 1) := by decide +kernel
theorem d_Acts_goesBefore_7 : decode b_Acts_goesBefore 7 = .ok (.getfield 15, 3) := by decide +kernel
theorem d_Acts_goesBefore_10 : decode b_Acts_goesBefore 10 = .ok (.iload_n 2, 1) := by decide +kernel
theorem d_Acts_goesBefore_11 : decode b_Acts_goesBefore 11 = .ok (.iaload, 1) := by decide +kernel
theorem d_Acts_goesBefore_12 : decode b_Acts_goesBefore 12 = .ok (.if_icmp .gt 23, 3) := by decide +kernel
theorem d_Acts_goesBefore_15 : decode b_Acts_goesBefore 15 = .ok (.aload_n 0, 1) := by decide +kernel
theorem d_Acts_goesBefore_16 : decode b_Acts_goesBefore 16 = .ok (.getfield 15, 3) := by decide +kernel
theorem d_Acts_goesBefore_19 : decode b_Acts_goesBefore 19 = .ok (.iload_n 1, 1) := by decide +kernel
theorem d_Acts_goesBefore_20 : decode b_Acts_goesBefore 20 = .ok (.iaload, 1) := by decide +kernel
theorem d_Acts_goesBefore_21 : decode b_Acts_goesBefore 21 = .ok (.aload_n 0, 1) := by decide +kernel
theorem d_Acts_goesBefore_22 : decode b_Acts_goesBefore 22 = .ok (.getfield 15, 3) := by decide +kernel
theorem d_Acts_goesBefore_25 : decode b_Acts_goesBefore 25 = .ok (.iload_n 2, 1) := by decide +kernel
theorem d_Acts_goesBefore_26 : decode b_Acts_goesBefore 26 = .ok (.iaload, 1) := by decide +kernel
theorem d_Acts_goesBefore_27 : decode b_Acts_goesBefore 27 = .ok (.if_icmp .ne 12, 3) := by decide +kernel
theorem d_Acts_goesBefore_30 : decode b_Acts_goesBefore 30 = .ok (.iload_n 1, 1) := by decide +kernel
theorem d_Acts_goesBefore_31 : decode b_Acts_goesBefore 31 = .ok (.iload_n 2, 1) := by decide +kernel
theorem d_Acts_goesBefore_32 : decode b_Acts_goesBefore 32 = .ok (.if_icmp .ge 7, 3) := by decide +kernel
theorem d_Acts_goesBefore_35 : decode b_Acts_goesBefore 35 = .ok (.iconst 1, 1) := by decide +kernel
theorem d_Acts_goesBefore_36 : decode b_Acts_goesBefore 36 = .ok (.goto 4, 3) := by decide +kernel
theorem d_Acts_goesBefore_39 : decode b_Acts_goesBefore 39 = .ok (.iconst 0, 1) := by decide +kernel
theorem d_Acts_goesBefore_40 : decode b_Acts_goesBefore 40 = .ok (.ireturn, 1) := by decide +kernel
def m_Acts_goesBefore (F : Nat) (x0 : St) (a1 : Int32) (a2 : Int32) : Option (Int32) :=
  (ck a1 20 (ck a2 20 (if ((x0 1) a2.toNatClampNeg) < ((x0 1) a1.toNatClampNeg) then (some (1 : Int32)) else (ck a1 20 (ck a2 20 (if ((x0 1) a1.toNatClampNeg) = ((x0 1) a2.toNatClampNeg) then (if a2 ≤ a1 then (some (0 : Int32)) else (some (1 : Int32))) else (some (0 : Int32))))))))
abbrev rm_Acts_goesBefore : Room := { frames := 0, cells := 0, slots := 0, locals := 0 }
set_option maxHeartbeats 4000000 in
set_option maxRecDepth 100000 in
theorem c_Acts_goesBefore {G : (Nat → Prop) → State → Prop} (hG : gok G) (hGn : gN G) (l : Launch) (dC : Nat → ClassId) (dI : Nat → Nat → Nat) (g : Nat → ClassId) (F : Nat) (sz : Nat) (h0 : Nat) (q0 : Nat → Nat) (x0 : St) (a1 : Int32) (a2 : Int32) {o : Int32} (hm : m_Acts_goesBefore F x0 a1 a2 = some o) : Met l y_Acts_goesBefore (.code y_Acts_goesBefore b_Acts_goesBefore 3 (some .boolean) :: gw) rm_Acts_goesBefore (kq (dC, dI) vwCl (tyv g) G [.ref h0, .int a1, .int a2] sz (wd_Acts g h0 q0 x0)) (kqi (dC, dI) vwCl (tyv g) (wd_Acts g h0 q0 x0) o (wd_Acts g h0 q0 x0) sz) 0 0 (va_A (wd_Acts g h0 q0 x0) sz) := by
  unfold m_Acts_goesBefore at hm
  refine km (Qc := fun sz => kqi (dC, dI) vwCl (tyv g) (wd_Acts g h0 q0 x0) o (wd_Acts g h0 q0 x0) sz) (cc := b_Acts_goesBefore) (maxL := 3) (ret := some .boolean) (by decide) rfl (Nat.le_of_ble_eq_true rfl) ?_
  intro p e s m args below meth c Q hQ hx hb hr hts hown hlocks hml hnm H locs A hAe hA hP hK hD hS hGA ls hl
  have hl : lv_has ls 3 [(0, .ref h0), (1, .int a1), (2, .int a2)] := hl
  have hts : ∀ w ∈ gw, w.before args s = true := fun w h => hts w (List.mem_cons_of_mem _ h)
  have hown : s.vm.findClass "AlarmMatrix$Acts" = some m.cls := hown
  refine lv_aload_n hx hb d_Acts_goesBefore_0 rfl (lv_at hl 0 rfl) ?_
  refine va_get (D := (dC, dI)) (ci := 6) (v := .ref (q0 1)) (C := "AlarmMatrix$Acts") (T := T_Acts) (N := 13) hx hb hts i_Acts hown hK hP 0 rfl rfl 1 (by decide) (hts _ k1_161) (fun _ h9 => h9) rfl d_Acts_goesBefore_1 ?_
  refine lv_iload_n hx hb d_Acts_goesBefore_4 rfl (lv_at hl 1 rfl) ?_
  obtain ⟨h_5, hm⟩ := ck_s hm
  refine va_iald (f := (x0 1)) hx hb hK hP 2 0 rfl rfl h_5 d_Acts_goesBefore_5 ?_
  refine lv_aload_n hx hb d_Acts_goesBefore_6 rfl (lv_at hl 0 rfl) ?_
  refine va_get (D := (dC, dI)) (ci := 6) (v := .ref (q0 1)) (C := "AlarmMatrix$Acts") (T := T_Acts) (N := 13) hx hb hts i_Acts hown hK hP 0 rfl rfl 1 (by decide) (hts _ k1_161) (fun _ h9 => h9) rfl d_Acts_goesBefore_7 ?_
  refine lv_iload_n hx hb d_Acts_goesBefore_10 rfl (lv_at hl 2 rfl) ?_
  obtain ⟨h_11, hm⟩ := ck_s hm
  refine va_iald (f := (x0 1)) hx hb hK hP 2 0 rfl rfl h_11 d_Acts_goesBefore_11 ?_
  refine lv_icmp_gt (tgt := 35) hx hb d_Acts_goesBefore_12 (by decide) (fun hc => ?_) (fun hc => ?_)
  · replace hm := if_t hm hc
    refine lv_iconst (v := (1 : Int32)) hx hb d_Acts_goesBefore_35 (by decide) ?_
    refine lv_goto (tgt := 40) hx hb d_Acts_goesBefore_36 (by decide) ?_
    obtain rfl := Option.some.inj hm
    rw [hQ]
    exact krz hx hb hr nar_1 hlocks hAe hP hK hD hS d_Acts_goesBefore_40
  · replace hm := if_f hm hc
    refine lv_aload_n hx hb d_Acts_goesBefore_15 rfl (lv_at hl 0 rfl) ?_
    refine va_get (D := (dC, dI)) (ci := 6) (v := .ref (q0 1)) (C := "AlarmMatrix$Acts") (T := T_Acts) (N := 13) hx hb hts i_Acts hown hK hP 0 rfl rfl 1 (by decide) (hts _ k1_161) (fun _ h9 => h9) rfl d_Acts_goesBefore_16 ?_
    refine lv_iload_n hx hb d_Acts_goesBefore_19 rfl (lv_at hl 1 rfl) ?_
    obtain ⟨h_20, hm⟩ := ck_s hm
    refine va_iald (f := (x0 1)) hx hb hK hP 2 0 rfl rfl h_20 d_Acts_goesBefore_20 ?_
    refine lv_aload_n hx hb d_Acts_goesBefore_21 rfl (lv_at hl 0 rfl) ?_
    refine va_get (D := (dC, dI)) (ci := 6) (v := .ref (q0 1)) (C := "AlarmMatrix$Acts") (T := T_Acts) (N := 13) hx hb hts i_Acts hown hK hP 0 rfl rfl 1 (by decide) (hts _ k1_161) (fun _ h9 => h9) rfl d_Acts_goesBefore_22 ?_
    refine lv_iload_n hx hb d_Acts_goesBefore_25 rfl (lv_at hl 2 rfl) ?_
    obtain ⟨h_26, hm⟩ := ck_s hm
    refine va_iald (f := (x0 1)) hx hb hK hP 2 0 rfl rfl h_26 d_Acts_goesBefore_26 ?_
    refine lv_icmp_ne (tgt := 39) hx hb d_Acts_goesBefore_27 (by decide) (fun hc => ?_) (fun hc => ?_)
    · replace hm := if_f hm hc
      refine lv_iconst (v := (0 : Int32)) hx hb d_Acts_goesBefore_39 (by decide) ?_
      obtain rfl := Option.some.inj hm
      rw [hQ]
      exact krz hx hb hr nar_0 hlocks hAe hP hK hD hS d_Acts_goesBefore_40
    · replace hm := if_t hm hc
      refine lv_iload_n hx hb d_Acts_goesBefore_30 rfl (lv_at hl 1 rfl) ?_
      refine lv_iload_n hx hb d_Acts_goesBefore_31 rfl (lv_at hl 2 rfl) ?_
      refine lv_icmp_ge (tgt := 39) hx hb d_Acts_goesBefore_32 (by decide) (fun hc => ?_) (fun hc => ?_)
      · replace hm := if_t hm hc
        refine lv_iconst (v := (0 : Int32)) hx hb d_Acts_goesBefore_39 (by decide) ?_
        obtain rfl := Option.some.inj hm
        rw [hQ]
        exact krz hx hb hr nar_0 hlocks hAe hP hK hD hS d_Acts_goesBefore_40
      · replace hm := if_f hm hc
        refine lv_iconst (v := (1 : Int32)) hx hb d_Acts_goesBefore_35 (by decide) ?_
        refine lv_goto (tgt := 40) hx hb d_Acts_goesBefore_36 (by decide) ?_
        obtain rfl := Option.some.inj hm
        rw [hQ]
        exact krz hx hb hr nar_1 hlocks hAe hP hK hD hS d_Acts_goesBefore_40
abbrev b_Acts_putInOrder : ByteArray := prog_2_method_7_code
abbrev y_Acts_putInOrder : MethodName := ⟨"AlarmMatrix$Acts", "putInOrder", "(I)V"⟩
theorem d_Acts_putInOrder_0 : decode b_Acts_putInOrder 0 = .ok (.aload_n 0, 1) := by decide +kernel
theorem d_Acts_putInOrder_1 : decode b_Acts_putInOrder 1 = .ok (.getfield 31, 3) := by decide +kernel
theorem d_Acts_putInOrder_4 : decode b_Acts_putInOrder 4 = .ok (.bipush 20, 2) := by decide +kernel
theorem d_Acts_putInOrder_6 : decode b_Acts_putInOrder 6 = .ok (.if_icmp .lt 4, 3) := by decide +kernel
theorem d_Acts_putInOrder_9 : decode b_Acts_putInOrder 9 = .ok (.return_, 1) := by decide +kernel
theorem d_Acts_putInOrder_10 : decode b_Acts_putInOrder 10 = .ok (.aload_n 0, 1) := by decide +kernel
theorem d_Acts_putInOrder_11 : decode b_Acts_putInOrder 11 = .ok (.getfield 31, 3) := by decide +kernel
theorem d_Acts_putInOrder_14 : decode b_Acts_putInOrder 14 = .ok (.istore_n 2, 1) := by decide +kernel
theorem d_Acts_putInOrder_15 : decode b_Acts_putInOrder 15 = .ok (.iload_n 2, 1) := by decide +kernel
theorem d_Acts_putInOrder_16 : decode b_Acts_putInOrder 16 = .ok (.ifCond .le 39, 3) := by decide +kernel
theorem d_Acts_putInOrder_19 : decode b_Acts_putInOrder 19 = .ok (.aload_n 0, 1) := by decide +kernel
theorem d_Acts_putInOrder_20 : decode b_Acts_putInOrder 20 = .ok (.iload_n 1, 1) := by decide +kernel
theorem d_Acts_putInOrder_21 : decode b_Acts_putInOrder 21 = .ok (.aload_n 0, 1) := by decide +kernel
theorem d_Acts_putInOrder_22 : decode b_Acts_putInOrder 22 = .ok (.getfield 28, 3) := by decide +kernel
theorem d_Acts_putInOrder_25 : decode b_Acts_putInOrder 25 = .ok (.iload_n 2, 1) := by decide +kernel
theorem d_Acts_putInOrder_26 : decode b_Acts_putInOrder 26 = .ok (.iconst 1, 1) := by decide +kernel
theorem d_Acts_putInOrder_27 : decode b_Acts_putInOrder 27 = .ok (.isub, 1) := by decide +kernel
theorem d_Acts_putInOrder_28 : decode b_Acts_putInOrder 28 = .ok (.iaload, 1) := by decide +kernel
theorem d_Acts_putInOrder_29 : decode b_Acts_putInOrder 29 = .ok (.invokevirtual 61, 3) := by decide +kernel
theorem d_Acts_putInOrder_32 : decode b_Acts_putInOrder 32 = .ok (.ifCond .eq 23, 3) := by decide +kernel
theorem d_Acts_putInOrder_35 : decode b_Acts_putInOrder 35 = .ok (.aload_n 0, 1) := by decide +kernel
theorem d_Acts_putInOrder_36 : decode b_Acts_putInOrder 36 = .ok (.getfield 28, 3) := by decide +kernel
theorem d_Acts_putInOrder_39 : decode b_Acts_putInOrder 39 = .ok (.iload_n 2, 1) := by decide +kernel
theorem d_Acts_putInOrder_40 : decode b_Acts_putInOrder 40 = .ok (.aload_n 0, 1) := by decide +kernel
theorem d_Acts_putInOrder_41 : decode b_Acts_putInOrder 41 = .ok (.getfield 28, 3) := by decide +kernel
theorem d_Acts_putInOrder_44 : decode b_Acts_putInOrder 44 = .ok (.iload_n 2, 1) := by decide +kernel
theorem d_Acts_putInOrder_45 : decode b_Acts_putInOrder 45 = .ok (.iconst 1, 1) := by decide +kernel
theorem d_Acts_putInOrder_46 : decode b_Acts_putInOrder 46 = .ok (.isub, 1) := by decide +kernel
theorem d_Acts_putInOrder_47 : decode b_Acts_putInOrder 47 = .ok (.iaload, 1) := by decide +kernel
theorem d_Acts_putInOrder_48 : decode b_Acts_putInOrder 48 = .ok (.iastore, 1) := by decide +kernel
theorem d_Acts_putInOrder_49 : decode b_Acts_putInOrder 49 = .ok (.iinc 2 (-1), 3) := by decide +kernel
theorem d_Acts_putInOrder_52 : decode b_Acts_putInOrder 52 = .ok (.goto (-37), 3) := by decide +kernel
theorem d_Acts_putInOrder_55 : decode b_Acts_putInOrder 55 = .ok (.aload_n 0, 1) := by decide +kernel
theorem d_Acts_putInOrder_56 : decode b_Acts_putInOrder 56 = .ok (.getfield 28, 3) := by decide +kernel
theorem d_Acts_putInOrder_59 : decode b_Acts_putInOrder 59 = .ok (.iload_n 2, 1) := by decide +kernel
theorem d_Acts_putInOrder_60 : decode b_Acts_putInOrder 60 = .ok (.iload_n 1, 1) := by decide +kernel
theorem d_Acts_putInOrder_61 : decode b_Acts_putInOrder 61 = .ok (.iastore, 1) := by decide +kernel
theorem d_Acts_putInOrder_62 : decode b_Acts_putInOrder 62 = .ok (.aload_n 0, 1) := by decide +kernel
theorem d_Acts_putInOrder_63 : decode b_Acts_putInOrder 63 = .ok (.dup, 1) := by decide +kernel
theorem d_Acts_putInOrder_64 : decode b_Acts_putInOrder 64 = .ok (.getfield 31, 3) := by decide +kernel
theorem d_Acts_putInOrder_67 : decode b_Acts_putInOrder 67 = .ok (.iconst 1, 1) := by decide +kernel
theorem d_Acts_putInOrder_68 : decode b_Acts_putInOrder 68 = .ok (.iadd, 1) := by decide +kernel
theorem d_Acts_putInOrder_69 : decode b_Acts_putInOrder 69 = .ok (.putfield 31, 3) := by decide +kernel
theorem d_Acts_putInOrder_72 : decode b_Acts_putInOrder 72 = .ok (.return_, 1) := by decide +kernel
def m_Acts_putInOrder_B15 {R : Type} (F : Nat) (a1 : Int32) (k15_55 : Int32 → St → Option R) (rec15 : Int32 → St → Option R) (v2_15 : Int32) (y0_15 : St) : Option R :=
  (if v2_15 ≤ (0 : Int32) then (k15_55 v2_15 y0_15) else (ck (v2_15 - (1 : Int32)) 20 (bn1 (m_Acts_goesBefore F y0_15 a1 ((y0_15 5) (v2_15 - (1 : Int32)).toNatClampNeg)) (fun r29 => (if r29 = (0 : Int32) then (k15_55 v2_15 y0_15) else (ck (v2_15 - (1 : Int32)) 20 (ck v2_15 20 (lz (st y0_15 5 (upd (y0_15 5) v2_15.toNatClampNeg ((y0_15 5) (v2_15 - (1 : Int32)).toNatClampNeg))) (fun e0_48 => (rec15 (v2_15 + (-1 : Int32)) e0_48))))))))))
theorem m_Acts_putInOrder_B15_h {R : Type} {F : Nat} {a1 : Int32} {k15_55 : Int32 → St → Option R} {rec15 : Int32 → St → Option R} {v2_15 : Int32} {y0_15 : St} {o : R} (h : m_Acts_putInOrder_B15 F a1 k15_55 rec15 v2_15 y0_15 = some o) :
  (if v2_15 ≤ (0 : Int32) then (k15_55 v2_15 y0_15) else (ck (v2_15 - (1 : Int32)) 20 (bn1 (m_Acts_goesBefore F y0_15 a1 ((y0_15 5) (v2_15 - (1 : Int32)).toNatClampNeg)) (fun r29 => (if r29 = (0 : Int32) then (k15_55 v2_15 y0_15) else (ck (v2_15 - (1 : Int32)) 20 (ck v2_15 20 (lz (st y0_15 5 (upd (y0_15 5) v2_15.toNatClampNeg ((y0_15 5) (v2_15 - (1 : Int32)).toNatClampNeg))) (fun e0_48 => (rec15 (v2_15 + (-1 : Int32)) e0_48)))))))))) = some o := h
def m_Acts_putInOrder (F : Nat) (x0 : St) (a1 : Int32) : Option (St) :=
  (if (x0 6 0) < (20 : Int32) then (lq2 (m_Acts_putInOrder_B15 F a1 (fun v2_15 y0_15 => (ck v2_15 20 (lz (st y0_15 5 (upd (y0_15 5) v2_15.toNatClampNeg a1)) (fun e0_61 => (lz (sc e0_61 6 ((e0_61 6 0) + (1 : Int32))) (fun e0_69 => (some e0_69)))))))) F (x0 6 0) x0) else (some x0))
abbrev rm_Acts_putInOrder : Room := { frames := 1, cells := 0, slots := 0, locals := 22 }
set_option maxHeartbeats 4000000 in
set_option maxRecDepth 100000 in
theorem c_Acts_putInOrder {G : (Nat → Prop) → State → Prop} (hG : gok G) (hGn : gN G) (l : Launch) (dC : Nat → ClassId) (dI : Nat → Nat → Nat) (g : Nat → ClassId) (F : Nat) (sz : Nat) (h0 : Nat) (q0 : Nat → Nat) (x0 : St) (a1 : Int32) {o : St} (hm : m_Acts_putInOrder F x0 a1 = some o) : Met l y_Acts_putInOrder (.code y_Acts_putInOrder b_Acts_putInOrder 3 none :: gw) rm_Acts_putInOrder (kq (dC, dI) vwCl (tyv g) G [.ref h0, .int a1] sz (wd_Acts g h0 q0 x0)) (kqv (dC, dI) vwCl (tyv g) (wd_Acts g h0 q0 x0) (wd_Acts g h0 q0 o) sz) 0 0 (va_A (wd_Acts g h0 q0 x0) sz) := by
  unfold m_Acts_putInOrder at hm
  refine km (Qc := fun sz => kqv (dC, dI) vwCl (tyv g) (wd_Acts g h0 q0 x0) (wd_Acts g h0 q0 o) sz) (cc := b_Acts_putInOrder) (maxL := 3) (ret := none) (by decide) rfl (Nat.le_of_ble_eq_true rfl) ?_
  intro p e s m args below meth c Q hQ hx hb hr hts hown hlocks hml hnm H locs A hAe hA hP hK hD hS hGA ls hl
  have hl : lv_has ls 3 [(0, .ref h0), (1, .int a1)] := hl
  have hts : ∀ w ∈ gw, w.before args s = true := fun w h => hts w (List.mem_cons_of_mem _ h)
  have hown : s.vm.findClass "AlarmMatrix$Acts" = some m.cls := hown
  refine lv_aload_n hx hb d_Acts_putInOrder_0 rfl (lv_at hl 0 rfl) ?_
  refine va_get (D := (dC, dI)) (ci := 6) (v := .int (x0 6 0)) (C := "AlarmMatrix$Acts") (T := T_Acts) (N := 13) hx hb hts i_Acts hown hK hP 0 rfl rfl 6 (by decide) (hts _ k1_166) (fun _ h9 => h9) rfl d_Acts_putInOrder_1 ?_
  refine lv_bipush (v := (20 : Int32)) hx hb d_Acts_putInOrder_4 (by decide) ?_
  refine lv_icmp_lt (tgt := 10) hx hb d_Acts_putInOrder_6 (by decide) (fun hc => ?_) (fun hc => ?_)
  · replace hm := if_t hm hc
    refine lv_aload_n hx hb d_Acts_putInOrder_10 rfl (lv_at hl 0 rfl) ?_
    refine va_get (D := (dC, dI)) (ci := 6) (v := .int (x0 6 0)) (C := "AlarmMatrix$Acts") (T := T_Acts) (N := 13) hx hb hts i_Acts hown hK hP 0 rfl rfl 6 (by decide) (hts _ k1_166) (fun _ h9 => h9) rfl d_Acts_putInOrder_11 ?_
    refine lv_istore_n (lv' := [(2, .int (x0 6 0)), (0, .ref h0), (1, .int a1)]) hx hb d_Acts_putInOrder_14 rfl hl (by decide) rfl (fun ls hl => ?_)
    have L15 : ∀ (n15 : Nat) (v2_15 : Int32) (y0_15 : St) (H : Heap) (locs : List Loc) (ls : Array Slot), lq2 (m_Acts_putInOrder_B15 F a1 (fun v2_15 y0_15 => (ck v2_15 20 (lz (st y0_15 5 (upd (y0_15 5) v2_15.toNatClampNeg a1)) (fun e0_61 => (lz (sc e0_61 6 ((e0_61 6 0) + (1 : Int32))) (fun e0_69 => (some e0_69)))))))) n15 v2_15 y0_15 = some o → va_P (dC, dI) vwCl (wd_Acts g h0 q0 y0_15) H → va_D A (wd_Acts g h0 q0 y0_15) → va_S A s.heap H locs → lv_has ls 3 [(0, .ref h0), (1, .int a1), (2, .int v2_15)] → W p l e rm_Acts_putInOrder s m args below meth c H locs 0 0 Q (F0 m 15 ls []) := by
      intro n15
      induction n15 with
      | zero => intro v2_15 y0_15 H locs ls hm; exact absurd hm (by intro z; cases z)
      | succ n15 ih15 =>
        intro v2_15 y0_15 H locs ls hm hP hD hS hl
        replace hm := m_Acts_putInOrder_B15_h (lq2_h hm)
        refine lv_iload_n hx hb d_Acts_putInOrder_15 rfl (lv_at hl 2 rfl) ?_
        refine lv_if_le (tgt := 55) hx hb d_Acts_putInOrder_16 (by decide) (fun hc => ?_) (fun hc => ?_)
        · replace hm := if_t hm hc
          refine lv_aload_n hx hb d_Acts_putInOrder_55 rfl (lv_at hl 0 rfl) ?_
          refine va_get (D := (dC, dI)) (ci := 6) (v := .ref (q0 5)) (C := "AlarmMatrix$Acts") (T := T_Acts) (N := 13) hx hb hts i_Acts hown hK hP 0 rfl rfl 5 (by decide) (hts _ k1_165) (fun _ h9 => h9) rfl d_Acts_putInOrder_56 ?_
          refine lv_iload_n hx hb d_Acts_putInOrder_59 rfl (lv_at hl 2 rfl) ?_
          refine lv_iload_n hx hb d_Acts_putInOrder_60 rfl (lv_at hl 1 rfl) ?_
          obtain ⟨h_61, hm⟩ := ck_s hm
          obtain ⟨e0_61, he, hm⟩ := lz_s hm
          refine va_iast (f := (y0_15 5)) hx hb hK hP hD hS 6 0 rfl rfl h_61 d_Acts_putInOrder_61 (fun H locs hP hD hS => ?_)
          have hP : va_P (dC, dI) vwCl (wd_Acts g h0 q0 e0_61) H := by rw [he]; exact hP
          have hD : va_D A (wd_Acts g h0 q0 e0_61) := by rw [he]; exact hD
          refine lv_aload_n hx hb d_Acts_putInOrder_62 rfl (lv_at hl 0 rfl) ?_
          refine lv_dup hx hb d_Acts_putInOrder_63 rfl ?_
          refine va_get (D := (dC, dI)) (ci := 6) (v := .int (e0_61 6 0)) (C := "AlarmMatrix$Acts") (T := T_Acts) (N := 13) hx hb hts i_Acts hown hK hP 0 rfl rfl 6 (by decide) (hts _ k1_166) (fun _ h9 => h9) rfl d_Acts_putInOrder_64 ?_
          refine lv_iconst (v := (1 : Int32)) hx hb d_Acts_putInOrder_67 (by decide) ?_
          refine lv_iadd hx hb d_Acts_putInOrder_68 ?_
          obtain ⟨e0_69, he, hm⟩ := lz_s hm
          refine va_put (D := (dC, dI)) (ci := 6) (v := .int ((e0_61 6 0) + (1 : Int32))) (ty := .int) (C := "AlarmMatrix$Acts") (T := T_Acts) (N := 13) hx hb hts i_Acts t_Acts o_Acts n_Acts hown hK hP hD hS 0 rfl rfl 6 (by decide) (hts _ k1_166) (fun _ h9 => h9) rfl (by decide +kernel) rfl rfl (Nat.le_of_ble_eq_true rfl) d_Acts_putInOrder_69 (fun H locs hP hD hS => ?_)
          have hP : va_P (dC, dI) vwCl (wd_Acts g h0 q0 e0_69) H := by rw [he]; exact hP
          have hD : va_D A (wd_Acts g h0 q0 e0_69) := by rw [he]; exact hD
          obtain rfl := Option.some.inj hm
          rw [hQ]
          exact krv hx hb hr hlocks hAe hP hK hD hS d_Acts_putInOrder_72
        · replace hm := if_f hm hc
          refine lv_aload_n hx hb d_Acts_putInOrder_19 rfl (lv_at hl 0 rfl) ?_
          refine lv_iload_n hx hb d_Acts_putInOrder_20 rfl (lv_at hl 1 rfl) ?_
          refine lv_aload_n hx hb d_Acts_putInOrder_21 rfl (lv_at hl 0 rfl) ?_
          refine va_get (D := (dC, dI)) (ci := 6) (v := .ref (q0 5)) (C := "AlarmMatrix$Acts") (T := T_Acts) (N := 13) hx hb hts i_Acts hown hK hP 0 rfl rfl 5 (by decide) (hts _ k1_165) (fun _ h9 => h9) rfl d_Acts_putInOrder_22 ?_
          refine lv_iload_n hx hb d_Acts_putInOrder_25 rfl (lv_at hl 2 rfl) ?_
          refine lv_iconst (v := (1 : Int32)) hx hb d_Acts_putInOrder_26 (by decide) ?_
          refine lv_isub hx hb d_Acts_putInOrder_27 ?_
          obtain ⟨h_28, hm⟩ := ck_s hm
          refine va_iald (f := (y0_15 5)) hx hb hK hP 6 0 rfl rfl h_28 d_Acts_putInOrder_28 ?_
          obtain ⟨r29, hcl, hm⟩ := bn1_s hm
          refine kci (wc := wd_Acts g h0 q0 y0_15) (wr := ([] : va_W)) (w1 := wd_Acts g h0 q0 y0_15) hP hD hS hA [0, 1, 2, 3, 4, 5, 6, 7, 8, 9, 10, 11, 12] [] rfl rfl (by decide) (by decide) (va_runV (As := [.int a1, .int ((y0_15 5) (v2_15 - (1 : Int32)).toNatClampNeg)]) (rest := []) ⟨hx, hb, hml, hown, hts⟩ (c_Acts_goesBefore hG hGn l dC dI g F H.size h0 q0 y0_15 a1 ((y0_15 5) (v2_15 - (1 : Int32)).toNatClampNeg) hcl) (cwV 2 hts (gdV k2_222 k2_224 kp_5 k1_9 k2_225) rfl rfl rfl (by decide +kernel) ⟨Nat.le_of_ble_eq_true rfl, Nat.le_of_ble_eq_true rfl⟩) (kpV hG hP hK hD hS hA hGA [0, 1, 2, 3, 4, 5, 6, 7, 8, 9, 10, 11, 12] (by decide) rfl (ci := 6) (q0 := 0) rfl rfl rfl) rfl rfl hl.1 rfl (lv_room (Nat.le_of_ble_eq_true rfl)) d_Acts_putInOrder_29 ⟨Nat.le_of_ble_eq_true rfl, Nat.le_of_ble_eq_true rfl⟩) (fun H locs hP hD hS => ?_)
          have hP : va_P (dC, dI) vwCl (wd_Acts g h0 q0 y0_15) H := hP
          have hD : va_D A (wd_Acts g h0 q0 y0_15) := hD
          refine lv_if_eq (tgt := 55) hx hb d_Acts_putInOrder_32 (by decide) (fun hc => ?_) (fun hc => ?_)
          · replace hm := if_t hm hc
            refine lv_aload_n hx hb d_Acts_putInOrder_55 rfl (lv_at hl 0 rfl) ?_
            refine va_get (D := (dC, dI)) (ci := 6) (v := .ref (q0 5)) (C := "AlarmMatrix$Acts") (T := T_Acts) (N := 13) hx hb hts i_Acts hown hK hP 0 rfl rfl 5 (by decide) (hts _ k1_165) (fun _ h9 => h9) rfl d_Acts_putInOrder_56 ?_
            refine lv_iload_n hx hb d_Acts_putInOrder_59 rfl (lv_at hl 2 rfl) ?_
            refine lv_iload_n hx hb d_Acts_putInOrder_60 rfl (lv_at hl 1 rfl) ?_
            obtain ⟨h_61, hm⟩ := ck_s hm
            obtain ⟨e0_61, he, hm⟩ := lz_s hm
            refine va_iast (f := (y0_15 5)) hx hb hK hP hD hS 6 0 rfl rfl h_61 d_Acts_putInOrder_61 (fun H locs hP hD hS => ?_)
            have hP : va_P (dC, dI) vwCl (wd_Acts g h0 q0 e0_61) H := by rw [he]; exact hP
            have hD : va_D A (wd_Acts g h0 q0 e0_61) := by rw [he]; exact hD
            refine lv_aload_n hx hb d_Acts_putInOrder_62 rfl (lv_at hl 0 rfl) ?_
            refine lv_dup hx hb d_Acts_putInOrder_63 rfl ?_
            refine va_get (D := (dC, dI)) (ci := 6) (v := .int (e0_61 6 0)) (C := "AlarmMatrix$Acts") (T := T_Acts) (N := 13) hx hb hts i_Acts hown hK hP 0 rfl rfl 6 (by decide) (hts _ k1_166) (fun _ h9 => h9) rfl d_Acts_putInOrder_64 ?_
            refine lv_iconst (v := (1 : Int32)) hx hb d_Acts_putInOrder_67 (by decide) ?_
            refine lv_iadd hx hb d_Acts_putInOrder_68 ?_
            obtain ⟨e0_69, he, hm⟩ := lz_s hm
            refine va_put (D := (dC, dI)) (ci := 6) (v := .int ((e0_61 6 0) + (1 : Int32))) (ty := .int) (C := "AlarmMatrix$Acts") (T := T_Acts) (N := 13) hx hb hts i_Acts t_Acts o_Acts n_Acts hown hK hP hD hS 0 rfl rfl 6 (by decide) (hts _ k1_166) (fun _ h9 => h9) rfl (by decide +kernel) rfl rfl (Nat.le_of_ble_eq_true rfl) d_Acts_putInOrder_69 (fun H locs hP hD hS => ?_)
            have hP : va_P (dC, dI) vwCl (wd_Acts g h0 q0 e0_69) H := by rw [he]; exact hP
            have hD : va_D A (wd_Acts g h0 q0 e0_69) := by rw [he]; exact hD
            obtain rfl := Option.some.inj hm
            rw [hQ]
            exact krv hx hb hr hlocks hAe hP hK hD hS d_Acts_putInOrder_72
          · replace hm := if_f hm hc
            refine lv_aload_n hx hb d_Acts_putInOrder_35 rfl (lv_at hl 0 rfl) ?_
            refine va_get (D := (dC, dI)) (ci := 6) (v := .ref (q0 5)) (C := "AlarmMatrix$Acts") (T := T_Acts) (N := 13) hx hb hts i_Acts hown hK hP 0 rfl rfl 5 (by decide) (hts _ k1_165) (fun _ h9 => h9) rfl d_Acts_putInOrder_36 ?_
            refine lv_iload_n hx hb d_Acts_putInOrder_39 rfl (lv_at hl 2 rfl) ?_
            refine lv_aload_n hx hb d_Acts_putInOrder_40 rfl (lv_at hl 0 rfl) ?_
            refine va_get (D := (dC, dI)) (ci := 6) (v := .ref (q0 5)) (C := "AlarmMatrix$Acts") (T := T_Acts) (N := 13) hx hb hts i_Acts hown hK hP 0 rfl rfl 5 (by decide) (hts _ k1_165) (fun _ h9 => h9) rfl d_Acts_putInOrder_41 ?_
            refine lv_iload_n hx hb d_Acts_putInOrder_44 rfl (lv_at hl 2 rfl) ?_
            refine lv_iconst (v := (1 : Int32)) hx hb d_Acts_putInOrder_45 (by decide) ?_
            refine lv_isub hx hb d_Acts_putInOrder_46 ?_
            obtain ⟨h_47, hm⟩ := ck_s hm
            refine va_iald (f := (y0_15 5)) hx hb hK hP 6 0 rfl rfl h_47 d_Acts_putInOrder_47 ?_
            obtain ⟨h_48, hm⟩ := ck_s hm
            obtain ⟨e0_48, he, hm⟩ := lz_s hm
            refine va_iast (f := (y0_15 5)) hx hb hK hP hD hS 6 0 rfl rfl h_48 d_Acts_putInOrder_48 (fun H locs hP hD hS => ?_)
            have hP : va_P (dC, dI) vwCl (wd_Acts g h0 q0 e0_48) H := by rw [he]; exact hP
            have hD : va_D A (wd_Acts g h0 q0 e0_48) := by rw [he]; exact hD
            refine lv_iinc (v := (v2_15 + (-1 : Int32))) (lv' := [(2, .int (v2_15 + (-1 : Int32))), (0, .ref h0), (1, .int a1)]) hx hb d_Acts_putInOrder_49 hl (k := 2) rfl rfl (by decide) rfl (fun ls hl => ?_)
            refine lv_goto (tgt := 15) hx hb d_Acts_putInOrder_52 (by decide) ?_
            exact ih15 (v2_15 + (-1 : Int32)) e0_48 H locs ls hm hP hD hS (lv_sub hl [1, 2, 0] rfl)
    exact L15 F (x0 6 0) x0 H locs ls hm hP hD hS (lv_sub hl [1, 2, 0] rfl)
  · replace hm := if_f hm hc
    obtain rfl := Option.some.inj hm
    rw [hQ]
    exact krv hx hb hr hlocks hAe hP hK hD hS d_Acts_putInOrder_9
abbrev b_Acts_tell : ByteArray := prog_2_method_6_code
abbrev y_Acts_tell : MethodName := ⟨"AlarmMatrix$Acts", "tell", "(IIII)V"⟩
theorem d_Acts_tell_0 : decode b_Acts_tell 0 = .ok (.aload_n 0, 1) := by decide +kernel
theorem d_Acts_tell_1 : decode b_Acts_tell 1 = .ok (.getfield 9, 3) := by decide +kernel
theorem d_Acts_tell_4 : decode b_Acts_tell 4 = .ok (.iload_n 1, 1) := by decide +kernel
theorem d_Acts_tell_5 : decode b_Acts_tell 5 = .ok (.iload_n 2, 1) := by decide +kernel
theorem d_Acts_tell_6 : decode b_Acts_tell 6 = .ok (.iastore, 1) := by decide +kernel
theorem d_Acts_tell_7 : decode b_Acts_tell 7 = .ok (.aload_n 0, 1) := by decide +kernel
theorem d_Acts_tell_8 : decode b_Acts_tell 8 = .ok (.getfield 15, 3) := by decide +kernel
theorem d_Acts_tell_11 : decode b_Acts_tell 11 = .ok (.iload_n 1, 1) := by decide +kernel
theorem d_Acts_tell_12 : decode b_Acts_tell 12 = .ok (.iload_n 3, 1) := by decide +kernel
theorem d_Acts_tell_13 : decode b_Acts_tell 13 = .ok (.iastore, 1) := by decide +kernel
theorem d_Acts_tell_14 : decode b_Acts_tell 14 = .ok (.aload_n 0, 1) := by decide +kernel
theorem d_Acts_tell_15 : decode b_Acts_tell 15 = .ok (.getfield 18, 3) := by decide +kernel
theorem d_Acts_tell_18 : decode b_Acts_tell 18 = .ok (.iload_n 1, 1) := by decide +kernel
theorem d_Acts_tell_19 : decode b_Acts_tell 19 = .ok (.iload 4, 2) := by decide +kernel
theorem d_Acts_tell_21 : decode b_Acts_tell 21 = .ok (.iastore, 1) := by decide +kernel
theorem d_Acts_tell_22 : decode b_Acts_tell 22 = .ok (.aload_n 0, 1) := by decide +kernel
theorem d_Acts_tell_23 : decode b_Acts_tell 23 = .ok (.getfield 21, 3) := by decide +kernel
theorem d_Acts_tell_26 : decode b_Acts_tell 26 = .ok (.iload_n 1, 1) := by decide +kernel
theorem d_Acts_tell_27 : decode b_Acts_tell 27 = .ok (.iconst 1, 1) := by decide +kernel
theorem d_Acts_tell_28 : decode b_Acts_tell 28 = .ok (.bastore, 1) := by decide +kernel
theorem d_Acts_tell_29 : decode b_Acts_tell 29 = .ok (.aload_n 0, 1) := by decide +kernel
theorem d_Acts_tell_30 : decode b_Acts_tell 30 = .ok (.iload_n 1, 1) := by decide +kernel
theorem d_Acts_tell_31 : decode b_Acts_tell 31 = .ok (.invokevirtual 57, 3) := by decide +kernel
theorem d_Acts_tell_34 : decode b_Acts_tell 34 = .ok (.return_, 1) := by decide +kernel
def m_Acts_tell (F : Nat) (x0 : St) (a1 : Int32) (a2 : Int32) (a3 : Int32) (a4 : Int32) : Option (St) :=
  (ck a1 20 (lz (st x0 0 (upd (x0 0) a1.toNatClampNeg a2)) (fun e0_6 => (ck a1 20 (lz (st e0_6 1 (upd (e0_6 1) a1.toNatClampNeg a3)) (fun e0_13 => (ck a1 20 (lz (st e0_13 2 (upd (e0_13 2) a1.toNatClampNeg a4)) (fun e0_21 => (ck a1 20 (lz (st e0_21 3 (upd (e0_21 3) a1.toNatClampNeg (vp_nar .boolean (1 : Int32)))) (fun e0_28 => (bn1 (m_Acts_putInOrder F e0_28 a1) (fun z0_31 => (some z0_31)))))))))))))))
abbrev rm_Acts_tell : Room := { frames := 2, cells := 0, slots := 0, locals := 44 }
set_option maxHeartbeats 4000000 in
set_option maxRecDepth 100000 in
theorem c_Acts_tell {G : (Nat → Prop) → State → Prop} (hG : gok G) (hGn : gN G) (l : Launch) (dC : Nat → ClassId) (dI : Nat → Nat → Nat) (g : Nat → ClassId) (F : Nat) (sz : Nat) (h0 : Nat) (q0 : Nat → Nat) (x0 : St) (a1 : Int32) (a2 : Int32) (a3 : Int32) (a4 : Int32) {o : St} (hm : m_Acts_tell F x0 a1 a2 a3 a4 = some o) : Met l y_Acts_tell (.code y_Acts_tell b_Acts_tell 5 none :: gw) rm_Acts_tell (kq (dC, dI) vwCl (tyv g) G [.ref h0, .int a1, .int a2, .int a3, .int a4] sz (wd_Acts g h0 q0 x0)) (kqv (dC, dI) vwCl (tyv g) (wd_Acts g h0 q0 x0) (wd_Acts g h0 q0 o) sz) 0 0 (va_A (wd_Acts g h0 q0 x0) sz) := by
  unfold m_Acts_tell at hm
  refine km (Qc := fun sz => kqv (dC, dI) vwCl (tyv g) (wd_Acts g h0 q0 x0) (wd_Acts g h0 q0 o) sz) (cc := b_Acts_tell) (maxL := 5) (ret := none) (by decide) rfl (Nat.le_of_ble_eq_true rfl) ?_
  intro p e s m args below meth c Q hQ hx hb hr hts hown hlocks hml hnm H locs A hAe hA hP hK hD hS hGA ls hl
  have hl : lv_has ls 5 [(0, .ref h0), (1, .int a1), (2, .int a2), (3, .int a3), (4, .int a4)] := hl
  have hts : ∀ w ∈ gw, w.before args s = true := fun w h => hts w (List.mem_cons_of_mem _ h)
  have hown : s.vm.findClass "AlarmMatrix$Acts" = some m.cls := hown
  refine lv_aload_n hx hb d_Acts_tell_0 rfl (lv_at hl 0 rfl) ?_
  refine va_get (D := (dC, dI)) (ci := 6) (v := .ref (q0 0)) (C := "AlarmMatrix$Acts") (T := T_Acts) (N := 13) hx hb hts i_Acts hown hK hP 0 rfl rfl 0 (by decide) (hts _ k1_160) (fun _ h9 => h9) rfl d_Acts_tell_1 ?_
  refine lv_iload_n hx hb d_Acts_tell_4 rfl (lv_at hl 1 rfl) ?_
  refine lv_iload_n hx hb d_Acts_tell_5 rfl (lv_at hl 2 rfl) ?_
  obtain ⟨h_6, hm⟩ := ck_s hm
  obtain ⟨e0_6, he, hm⟩ := lz_s hm
  refine va_iast (f := (x0 0)) hx hb hK hP hD hS 1 0 rfl rfl h_6 d_Acts_tell_6 (fun H locs hP hD hS => ?_)
  have hP : va_P (dC, dI) vwCl (wd_Acts g h0 q0 e0_6) H := by rw [he]; exact hP
  have hD : va_D A (wd_Acts g h0 q0 e0_6) := by rw [he]; exact hD
  refine lv_aload_n hx hb d_Acts_tell_7 rfl (lv_at hl 0 rfl) ?_
  refine va_get (D := (dC, dI)) (ci := 6) (v := .ref (q0 1)) (C := "AlarmMatrix$Acts") (T := T_Acts) (N := 13) hx hb hts i_Acts hown hK hP 0 rfl rfl 1 (by decide) (hts _ k1_161) (fun _ h9 => h9) rfl d_Acts_tell_8 ?_
  refine lv_iload_n hx hb d_Acts_tell_11 rfl (lv_at hl 1 rfl) ?_
  refine lv_iload_n hx hb d_Acts_tell_12 rfl (lv_at hl 3 rfl) ?_
  obtain ⟨h_13, hm⟩ := ck_s hm
  obtain ⟨e0_13, he, hm⟩ := lz_s hm
  refine va_iast (f := (e0_6 1)) hx hb hK hP hD hS 2 0 rfl rfl h_13 d_Acts_tell_13 (fun H locs hP hD hS => ?_)
  have hP : va_P (dC, dI) vwCl (wd_Acts g h0 q0 e0_13) H := by rw [he]; exact hP
  have hD : va_D A (wd_Acts g h0 q0 e0_13) := by rw [he]; exact hD
  refine lv_aload_n hx hb d_Acts_tell_14 rfl (lv_at hl 0 rfl) ?_
  refine va_get (D := (dC, dI)) (ci := 6) (v := .ref (q0 2)) (C := "AlarmMatrix$Acts") (T := T_Acts) (N := 13) hx hb hts i_Acts hown hK hP 0 rfl rfl 2 (by decide) (hts _ k1_162) (fun _ h9 => h9) rfl d_Acts_tell_15 ?_
  refine lv_iload_n hx hb d_Acts_tell_18 rfl (lv_at hl 1 rfl) ?_
  refine lv_iload hx hb d_Acts_tell_19 (lv_at hl 4 rfl) ?_
  obtain ⟨h_21, hm⟩ := ck_s hm
  obtain ⟨e0_21, he, hm⟩ := lz_s hm
  refine va_iast (f := (e0_13 2)) hx hb hK hP hD hS 3 0 rfl rfl h_21 d_Acts_tell_21 (fun H locs hP hD hS => ?_)
  have hP : va_P (dC, dI) vwCl (wd_Acts g h0 q0 e0_21) H := by rw [he]; exact hP
  have hD : va_D A (wd_Acts g h0 q0 e0_21) := by rw [he]; exact hD
  refine lv_aload_n hx hb d_Acts_tell_22 rfl (lv_at hl 0 rfl) ?_
  refine va_get (D := (dC, dI)) (ci := 6) (v := .ref (q0 3)) (C := "AlarmMatrix$Acts") (T := T_Acts) (N := 13) hx hb hts i_Acts hown hK hP 0 rfl rfl 3 (by decide) (hts _ k1_163) (fun _ h9 => h9) rfl d_Acts_tell_23 ?_
  refine lv_iload_n hx hb d_Acts_tell_26 rfl (lv_at hl 1 rfl) ?_
  refine lv_iconst (v := (1 : Int32)) hx hb d_Acts_tell_27 (by decide) ?_
  obtain ⟨h_28, hm⟩ := ck_s hm
  obtain ⟨e0_28, he, hm⟩ := lz_s hm
  refine va_zast (f := (e0_21 3)) hx hb hK hP hD hS 4 1 rfl rfl h_28 d_Acts_tell_28 (fun H locs hP hD hS => ?_)
  have hP : va_P (dC, dI) vwCl (wd_Acts g h0 q0 e0_28) H := by rw [he]; exact hP
  have hD : va_D A (wd_Acts g h0 q0 e0_28) := by rw [he]; exact hD
  refine lv_aload_n hx hb d_Acts_tell_29 rfl (lv_at hl 0 rfl) ?_
  refine lv_iload_n hx hb d_Acts_tell_30 rfl (lv_at hl 1 rfl) ?_
  obtain ⟨z0_31, hcl, hm⟩ := bn1_s hm
  refine kcv (wc := wd_Acts g h0 q0 e0_28) (wr := ([] : va_W)) (w1 := wd_Acts g h0 q0 z0_31) hP hD hS hA [0, 1, 2, 3, 4, 5, 6, 7, 8, 9, 10, 11, 12] [] rfl rfl (by decide) (by decide) (va_runV (As := [.int a1]) (rest := []) ⟨hx, hb, hml, hown, hts⟩ (c_Acts_putInOrder hG hGn l dC dI g F H.size h0 q0 e0_28 a1 hcl) (cwV 1 hts (gdV k2_218 k2_220 kp_4 k1_9 k2_221) rfl rfl rfl (by decide +kernel) ⟨Nat.le_of_ble_eq_true rfl, Nat.le_of_ble_eq_true rfl⟩) (kpV hG hP hK hD hS hA hGA [0, 1, 2, 3, 4, 5, 6, 7, 8, 9, 10, 11, 12] (by decide) rfl (ci := 6) (q0 := 0) rfl rfl rfl) rfl rfl hl.1 rfl (lv_room (Nat.le_of_ble_eq_true rfl)) d_Acts_tell_31 ⟨Nat.le_of_ble_eq_true rfl, Nat.le_of_ble_eq_true rfl⟩) (fun H locs hP hD hS => ?_)
  have hP : va_P (dC, dI) vwCl (wd_Acts g h0 q0 z0_31) H := hP
  have hD : va_D A (wd_Acts g h0 q0 z0_31) := hD
  obtain rfl := Option.some.inj hm
  rw [hQ]
  exact krv hx hb hr hlocks hAe hP hK hD hS d_Acts_tell_34
abbrev b_Acts_findRanked : ByteArray := prog_2_method_9_code
abbrev y_Acts_findRanked : MethodName := ⟨"AlarmMatrix$Acts", "findRanked", "(I)I"⟩
theorem d_Acts_findRanked_0 : decode b_Acts_findRanked 0 = .ok (.iload_n 1, 1) := by decide +kernel
theorem d_Acts_findRanked_1 : decode b_Acts_findRanked 1 = .ok (.iconst 0, 1) := by decide +kernel
theorem d_Acts_findRanked_2 : decode b_Acts_findRanked 2 = .ok (.aload_n 0, 1) := by decide +kernel
theorem d_Acts_findRanked_3 : decode b_Acts_findRanked 3 = .ok (.getfield 31, 3) := by decide +kernel
theorem d_Acts_findRanked_6 : decode b_Acts_findRanked 6 = .ok (.iconst 1, 1) := by decide +kernel
theorem d_Acts_findRanked_7 : decode b_Acts_findRanked 7 = .ok (.isub, 1) := by decide +kernel
theorem d_Acts_findRanked_8 : decode b_Acts_findRanked 8 = .ok (.invokestatic 53, 3) := by decide +kernel
theorem d_Acts_findRanked_11 : decode b_Acts_findRanked 11 = .ok (.ifCond .eq 12, 3) := by decide +kernel
theorem d_Acts_findRanked_14 : decode b_Acts_findRanked 14 = .ok (.aload_n 0, 1) := by decide +kernel
theorem d_Acts_findRanked_15 : decode b_Acts_findRanked 15 = .ok (.getfield 28, 3) := by decide +kernel
theorem d_Acts_findRanked_18 : decode b_Acts_findRanked 18 = .ok (.iload_n 1, 1) := by decide +kernel
theorem d_Acts_findRanked_19 : decode b_Acts_findRanked 19 = .ok (.iaload, 1) := by decide +kernel
theorem d_Acts_findRanked_20 : decode b_Acts_findRanked 20 = .ok (.goto 4, 3) := by decide +kernel
theorem d_Acts_findRanked_23 : decode b_Acts_findRanked 23 = .ok (.iconst (-1), 1) := by decide +kernel
theorem d_Acts_findRanked_24 : decode b_Acts_findRanked 24 = .ok (.ireturn, 1) := by decide +kernel
def m_Acts_findRanked (F : Nat) (x0 : St) (a1 : Int32) : Option (Int32) :=
  (bn1 (m_AM_isWithin F a1 (0 : Int32) ((x0 6 0) - (1 : Int32))) (fun r8 => (if r8 = (0 : Int32) then (some (-1 : Int32)) else (ck a1 20 (some ((x0 5) a1.toNatClampNeg))))))
abbrev rm_Acts_findRanked : Room := { frames := 1, cells := 0, slots := 0, locals := 22 }
set_option maxHeartbeats 4000000 in
set_option maxRecDepth 100000 in
theorem c_Acts_findRanked {G : (Nat → Prop) → State → Prop} (hG : gok G) (hGn : gN G) (l : Launch) (dC : Nat → ClassId) (dI : Nat → Nat → Nat) (g : Nat → ClassId) (F : Nat) (sz : Nat) (h0 : Nat) (q0 : Nat → Nat) (x0 : St) (a1 : Int32) {o : Int32} (hm : m_Acts_findRanked F x0 a1 = some o) : Met l y_Acts_findRanked (.code y_Acts_findRanked b_Acts_findRanked 2 (some .int) :: gw) rm_Acts_findRanked (kq (dC, dI) vwCl (tyv g) G [.ref h0, .int a1] sz (wd_Acts g h0 q0 x0)) (kqi (dC, dI) vwCl (tyv g) (wd_Acts g h0 q0 x0) o (wd_Acts g h0 q0 x0) sz) 0 0 (va_A (wd_Acts g h0 q0 x0) sz) := by
  unfold m_Acts_findRanked at hm
  refine km (Qc := fun sz => kqi (dC, dI) vwCl (tyv g) (wd_Acts g h0 q0 x0) o (wd_Acts g h0 q0 x0) sz) (cc := b_Acts_findRanked) (maxL := 2) (ret := some .int) (by decide) rfl (Nat.le_of_ble_eq_true rfl) ?_
  intro p e s m args below meth c Q hQ hx hb hr hts hown hlocks hml hnm H locs A hAe hA hP hK hD hS hGA ls hl
  have hl : lv_has ls 2 [(0, .ref h0), (1, .int a1)] := hl
  have hts : ∀ w ∈ gw, w.before args s = true := fun w h => hts w (List.mem_cons_of_mem _ h)
  have hown : s.vm.findClass "AlarmMatrix$Acts" = some m.cls := hown
  refine lv_iload_n hx hb d_Acts_findRanked_0 rfl (lv_at hl 1 rfl) ?_
  refine lv_iconst (v := (0 : Int32)) hx hb d_Acts_findRanked_1 (by decide) ?_
  refine lv_aload_n hx hb d_Acts_findRanked_2 rfl (lv_at hl 0 rfl) ?_
  refine va_get (D := (dC, dI)) (ci := 6) (v := .int (x0 6 0)) (C := "AlarmMatrix$Acts") (T := T_Acts) (N := 13) hx hb hts i_Acts hown hK hP 0 rfl rfl 6 (by decide) (hts _ k1_166) (fun _ h9 => h9) rfl d_Acts_findRanked_3 ?_
  refine lv_iconst (v := (1 : Int32)) hx hb d_Acts_findRanked_6 (by decide) ?_
  refine lv_isub hx hb d_Acts_findRanked_7 ?_
  obtain ⟨r8, hcl, hm⟩ := bn1_s hm
  refine kci (wc := ([] : va_W)) (wr := wd_Acts g h0 q0 x0) (w1 := ([] : va_W)) hP hD hS hA [] [0, 1, 2, 3, 4, 5, 6, 7, 8, 9, 10, 11, 12] rfl rfl (by decide) (by decide) (va_runSN (host := "AlarmMatrix") (As := [.int a1, .int (0 : Int32), .int ((x0 6 0) - (1 : Int32))]) (rest := []) ⟨hx, hb, hml, hown, hts⟩ (c_AM_isWithin hG hGn l dC dI g F H.size a1 (0 : Int32) ((x0 6 0) - (1 : Int32)) hcl) ⟨va_cnB 3 hts (gdI k2_154) rfl rfl rfl (hGn A s hGA _ nw2_210) (hts _ k1_1) (by decide +kernel) ⟨Nat.le_of_ble_eq_true rfl, Nat.le_of_ble_eq_true rfl⟩, (hts _ k2_153), trivial⟩ (kpS hG hP hK hD hS hA hGA [] (by decide) rfl) rfl rfl hl.1 rfl (lv_room (Nat.le_of_ble_eq_true rfl)) d_Acts_findRanked_8 ⟨Nat.le_of_ble_eq_true rfl, Nat.le_of_ble_eq_true rfl⟩) (fun H locs hP hD hS => ?_)
  have hP : va_P (dC, dI) vwCl (wd_Acts g h0 q0 x0) H := hP
  have hD : va_D A (wd_Acts g h0 q0 x0) := hD
  refine lv_if_eq (tgt := 23) hx hb d_Acts_findRanked_11 (by decide) (fun hc => ?_) (fun hc => ?_)
  · replace hm := if_t hm hc
    refine lv_iconst (v := (-1 : Int32)) hx hb d_Acts_findRanked_23 (by decide) ?_
    obtain rfl := Option.some.inj hm
    rw [hQ]
    exact kri hx hb hr hlocks hAe hP hK hD hS d_Acts_findRanked_24
  · replace hm := if_f hm hc
    refine lv_aload_n hx hb d_Acts_findRanked_14 rfl (lv_at hl 0 rfl) ?_
    refine va_get (D := (dC, dI)) (ci := 6) (v := .ref (q0 5)) (C := "AlarmMatrix$Acts") (T := T_Acts) (N := 13) hx hb hts i_Acts hown hK hP 0 rfl rfl 5 (by decide) (hts _ k1_165) (fun _ h9 => h9) rfl d_Acts_findRanked_15 ?_
    refine lv_iload_n hx hb d_Acts_findRanked_18 rfl (lv_at hl 1 rfl) ?_
    obtain ⟨h_19, hm⟩ := ck_s hm
    refine va_iald (f := (x0 5)) hx hb hK hP 6 0 rfl rfl h_19 d_Acts_findRanked_19 ?_
    refine lv_goto (tgt := 24) hx hb d_Acts_findRanked_20 (by decide) ?_
    obtain rfl := Option.some.inj hm
    rw [hQ]
    exact kri hx hb hr hlocks hAe hP hK hD hS d_Acts_findRanked_24
abbrev b_Acts_forgetCalls : ByteArray := prog_2_method_10_code
abbrev y_Acts_forgetCalls : MethodName := ⟨"AlarmMatrix$Acts", "forgetCalls", "()V"⟩
theorem d_Acts_forgetCalls_0 : decode b_Acts_forgetCalls 0 = .ok (.iconst 0, 1) := by decide +kernel
theorem d_Acts_forgetCalls_1 : decode b_Acts_forgetCalls 1 = .ok (.istore_n 1, 1) := by decide +kernel
theorem d_Acts_forgetCalls_2 : decode b_Acts_forgetCalls 2 = .ok (.iload_n 1, 1) := by decide +kernel
theorem d_Acts_forgetCalls_3 : decode b_Acts_forgetCalls 3 = .ok (.bipush 20, 2) := by decide +kernel
theorem d_Acts_forgetCalls_5 : decode b_Acts_forgetCalls 5 = .ok (.if_icmp .ge 23, 3) := by decide +kernel
theorem d_Acts_forgetCalls_8 : decode b_Acts_forgetCalls 8 = .ok (.aload_n 0, 1) := by decide +kernel
theorem d_Acts_forgetCalls_9 : decode b_Acts_forgetCalls 9 = .ok (.getfield 47, 3) := by decide +kernel
theorem d_Acts_forgetCalls_12 : decode b_Acts_forgetCalls 12 = .ok (.iload_n 1, 1) := by decide +kernel
theorem d_Acts_forgetCalls_13 : decode b_Acts_forgetCalls 13 = .ok (.iconst 0, 1) := by decide +kernel
theorem d_Acts_forgetCalls_14 : decode b_Acts_forgetCalls 14 = .ok (.bastore, 1) := by decide +kernel
theorem d_Acts_forgetCalls_15 : decode b_Acts_forgetCalls 15 = .ok (.aload_n 0, 1) := by decide +kernel
theorem d_Acts_forgetCalls_16 : decode b_Acts_forgetCalls 16 = .ok (.getfield 50, 3) := by decide +kernel
theorem d_Acts_forgetCalls_19 : decode b_Acts_forgetCalls 19 = .ok (.iload_n 1, 1) := by decide +kernel
theorem d_Acts_forgetCalls_20 : decode b_Acts_forgetCalls 20 = .ok (.iconst 0, 1) := by decide +kernel
theorem d_Acts_forgetCalls_21 : decode b_Acts_forgetCalls 21 = .ok (.bastore, 1) := by decide +kernel
theorem d_Acts_forgetCalls_22 : decode b_Acts_forgetCalls 22 = .ok (.iinc 1 1, 3) := by decide +kernel
theorem d_Acts_forgetCalls_25 : decode b_Acts_forgetCalls 25 = .ok (.goto (-23), 3) := by decide +kernel
theorem d_Acts_forgetCalls_28 : decode b_Acts_forgetCalls 28 = .ok (.return_, 1) := by decide +kernel
def m_Acts_forgetCalls_B2 {R : Type} (F : Nat)  (k2_28 : Int32 → St → Option R) (rec2 : Int32 → St → Option R) (v1_2 : Int32) (y0_2 : St) : Option R :=
  (if (20 : Int32) ≤ v1_2 then (k2_28 v1_2 y0_2) else (ck v1_2 20 (lz (st y0_2 11 (upd (y0_2 11) v1_2.toNatClampNeg (vp_nar .boolean (0 : Int32)))) (fun e0_14 => (ck v1_2 20 (lz (st e0_14 12 (upd (e0_14 12) v1_2.toNatClampNeg (vp_nar .boolean (0 : Int32)))) (fun e0_21 => (rec2 (v1_2 + (1 : Int32)) e0_21))))))))
theorem m_Acts_forgetCalls_B2_h {R : Type} {F : Nat}  {k2_28 : Int32 → St → Option R} {rec2 : Int32 → St → Option R} {v1_2 : Int32} {y0_2 : St} {o : R} (h : m_Acts_forgetCalls_B2 F k2_28 rec2 v1_2 y0_2 = some o) :
  (if (20 : Int32) ≤ v1_2 then (k2_28 v1_2 y0_2) else (ck v1_2 20 (lz (st y0_2 11 (upd (y0_2 11) v1_2.toNatClampNeg (vp_nar .boolean (0 : Int32)))) (fun e0_14 => (ck v1_2 20 (lz (st e0_14 12 (upd (e0_14 12) v1_2.toNatClampNeg (vp_nar .boolean (0 : Int32)))) (fun e0_21 => (rec2 (v1_2 + (1 : Int32)) e0_21)))))))) = some o := h
def m_Acts_forgetCalls (F : Nat) (x0 : St) : Option (St) :=
  (lq2 (m_Acts_forgetCalls_B2 F  (fun v1_2 y0_2 => (some y0_2))) F (0 : Int32) x0)
abbrev rm_Acts_forgetCalls : Room := { frames := 0, cells := 0, slots := 0, locals := 0 }
set_option maxHeartbeats 4000000 in
set_option maxRecDepth 100000 in
theorem c_Acts_forgetCalls {G : (Nat → Prop) → State → Prop} (hG : gok G) (hGn : gN G) (l : Launch) (dC : Nat → ClassId) (dI : Nat → Nat → Nat) (g : Nat → ClassId) (F : Nat) (sz : Nat) (h0 : Nat) (q0 : Nat → Nat) (x0 : St) {o : St} (hm : m_Acts_forgetCalls F x0 = some o) : Met l y_Acts_forgetCalls (.code y_Acts_forgetCalls b_Acts_forgetCalls 2 none :: gw) rm_Acts_forgetCalls (kq (dC, dI) vwCl (tyv g) G [.ref h0] sz (wd_Acts g h0 q0 x0)) (kqv (dC, dI) vwCl (tyv g) (wd_Acts g h0 q0 x0) (wd_Acts g h0 q0 o) sz) 0 0 (va_A (wd_Acts g h0 q0 x0) sz) := by
  unfold m_Acts_forgetCalls at hm
  refine km (Qc := fun sz => kqv (dC, dI) vwCl (tyv g) (wd_Acts g h0 q0 x0) (wd_Acts g h0 q0 o) sz) (cc := b_Acts_forgetCalls) (maxL := 2) (ret := none) (by decide) rfl (Nat.le_of_ble_eq_true rfl) ?_
  intro p e s m args below meth c Q hQ hx hb hr hts hown hlocks hml hnm H locs A hAe hA hP hK hD hS hGA ls hl
  have hl : lv_has ls 2 [(0, .ref h0)] := hl
  have hts : ∀ w ∈ gw, w.before args s = true := fun w h => hts w (List.mem_cons_of_mem _ h)
  have hown : s.vm.findClass "AlarmMatrix$Acts" = some m.cls := hown
  refine lv_iconst (v := (0 : Int32)) hx hb d_Acts_forgetCalls_0 (by decide) ?_
  refine lv_istore_n (lv' := [(1, .int (0 : Int32)), (0, .ref h0)]) hx hb d_Acts_forgetCalls_1 rfl hl (by decide) rfl (fun ls hl => ?_)
  have L2 : ∀ (n2 : Nat) (v1_2 : Int32) (y0_2 : St) (H : Heap) (locs : List Loc) (ls : Array Slot), lq2 (m_Acts_forgetCalls_B2 F  (fun v1_2 y0_2 => (some y0_2))) n2 v1_2 y0_2 = some o → va_P (dC, dI) vwCl (wd_Acts g h0 q0 y0_2) H → va_D A (wd_Acts g h0 q0 y0_2) → va_S A s.heap H locs → lv_has ls 2 [(0, .ref h0), (1, .int v1_2)] → W p l e rm_Acts_forgetCalls s m args below meth c H locs 0 0 Q (F0 m 2 ls []) := by
    intro n2
    induction n2 with
    | zero => intro v1_2 y0_2 H locs ls hm; exact absurd hm (by intro z; cases z)
    | succ n2 ih2 =>
      intro v1_2 y0_2 H locs ls hm hP hD hS hl
      replace hm := m_Acts_forgetCalls_B2_h (lq2_h hm)
      refine lv_iload_n hx hb d_Acts_forgetCalls_2 rfl (lv_at hl 1 rfl) ?_
      refine lv_bipush (v := (20 : Int32)) hx hb d_Acts_forgetCalls_3 (by decide) ?_
      refine lv_icmp_ge (tgt := 28) hx hb d_Acts_forgetCalls_5 (by decide) (fun hc => ?_) (fun hc => ?_)
      · replace hm := if_t hm hc
        obtain rfl := Option.some.inj hm
        rw [hQ]
        exact krv hx hb hr hlocks hAe hP hK hD hS d_Acts_forgetCalls_28
      · replace hm := if_f hm hc
        refine lv_aload_n hx hb d_Acts_forgetCalls_8 rfl (lv_at hl 0 rfl) ?_
        refine va_get (D := (dC, dI)) (ci := 6) (v := .ref (q0 11)) (C := "AlarmMatrix$Acts") (T := T_Acts) (N := 13) hx hb hts i_Acts hown hK hP 0 rfl rfl 11 (by decide) (hts _ k1_171) (fun _ h9 => h9) rfl d_Acts_forgetCalls_9 ?_
        refine lv_iload_n hx hb d_Acts_forgetCalls_12 rfl (lv_at hl 1 rfl) ?_
        refine lv_iconst (v := (0 : Int32)) hx hb d_Acts_forgetCalls_13 (by decide) ?_
        obtain ⟨h_14, hm⟩ := ck_s hm
        obtain ⟨e0_14, he, hm⟩ := lz_s hm
        refine va_zast (f := (y0_2 11)) hx hb hK hP hD hS 11 1 rfl rfl h_14 d_Acts_forgetCalls_14 (fun H locs hP hD hS => ?_)
        have hP : va_P (dC, dI) vwCl (wd_Acts g h0 q0 e0_14) H := by rw [he]; exact hP
        have hD : va_D A (wd_Acts g h0 q0 e0_14) := by rw [he]; exact hD
        refine lv_aload_n hx hb d_Acts_forgetCalls_15 rfl (lv_at hl 0 rfl) ?_
        refine va_get (D := (dC, dI)) (ci := 6) (v := .ref (q0 12)) (C := "AlarmMatrix$Acts") (T := T_Acts) (N := 13) hx hb hts i_Acts hown hK hP 0 rfl rfl 12 (by decide) (hts _ k1_172) (fun _ h9 => h9) rfl d_Acts_forgetCalls_16 ?_
        refine lv_iload_n hx hb d_Acts_forgetCalls_19 rfl (lv_at hl 1 rfl) ?_
        refine lv_iconst (v := (0 : Int32)) hx hb d_Acts_forgetCalls_20 (by decide) ?_
        obtain ⟨h_21, hm⟩ := ck_s hm
        obtain ⟨e0_21, he, hm⟩ := lz_s hm
        refine va_zast (f := (e0_14 12)) hx hb hK hP hD hS 12 1 rfl rfl h_21 d_Acts_forgetCalls_21 (fun H locs hP hD hS => ?_)
        have hP : va_P (dC, dI) vwCl (wd_Acts g h0 q0 e0_21) H := by rw [he]; exact hP
        have hD : va_D A (wd_Acts g h0 q0 e0_21) := by rw [he]; exact hD
        refine lv_iinc (v := (v1_2 + (1 : Int32))) (lv' := [(1, .int (v1_2 + (1 : Int32))), (0, .ref h0)]) hx hb d_Acts_forgetCalls_22 hl (k := 1) rfl rfl (by decide) rfl (fun ls hl => ?_)
        refine lv_goto (tgt := 2) hx hb d_Acts_forgetCalls_25 (by decide) ?_
        exact ih2 (v1_2 + (1 : Int32)) e0_21 H locs ls hm hP hD hS (lv_sub hl [1, 0] rfl)
  exact L2 F (0 : Int32) x0 H locs ls hm hP hD hS (lv_sub hl [1, 0] rfl)
abbrev b_Acts_call : ByteArray := prog_2_method_11_code
abbrev y_Acts_call : MethodName := ⟨"AlarmMatrix$Acts", "call", "(IZ)V"⟩
theorem d_Acts_call_0 : decode b_Acts_call 0 = .ok (.aload_n 0, 1) := by decide +kernel
theorem d_Acts_call_1 : decode b_Acts_call 1 = .ok (.getfield 47, 3) := by decide +kernel
theorem d_Acts_call_4 : decode b_Acts_call 4 = .ok (.iload_n 1, 1) := by decide +kernel
theorem d_Acts_call_5 : decode b_Acts_call 5 = .ok (.iconst 1, 1) := by decide +kernel
theorem d_Acts_call_6 : decode b_Acts_call 6 = .ok (.bastore, 1) := by decide +kernel
theorem d_Acts_call_7 : decode b_Acts_call 7 = .ok (.aload_n 0, 1) := by decide +kernel
theorem d_Acts_call_8 : decode b_Acts_call 8 = .ok (.getfield 50, 3) := by decide +kernel
theorem d_Acts_call_11 : decode b_Acts_call 11 = .ok (.iload_n 1, 1) := by decide +kernel
theorem d_Acts_call_12 : decode b_Acts_call 12 = .ok (.aload_n 0, 1) := by decide +kernel
theorem d_Acts_call_13 : decode b_Acts_call 13 = .ok (.getfield 50, 3) := by decide +kernel
theorem d_Acts_call_16 : decode b_Acts_call 16 = .ok (.iload_n 1, 1) := by decide +kernel
theorem d_Acts_call_17 : decode b_Acts_call 17 = .ok (.baload, 1) := by decide +kernel
theorem d_Acts_call_18 : decode b_Acts_call 18 = .ok (.ifCond .ne 7, 3) := by decide +kernel
theorem d_Acts_call_21 : decode b_Acts_call 21 = .ok (.iload_n 2, 1) := by decide +kernel
theorem d_Acts_call_22 : decode b_Acts_call 22 = .ok (.ifCond .eq 7, 3) := by decide +kernel
theorem d_Acts_call_25 : decode b_Acts_call 25 = .ok (.iconst 1, 1) := by decide +kernel
theorem d_Acts_call_26 : decode b_Acts_call 26 = .ok (.goto 4, 3) := by decide +kernel
theorem d_Acts_call_29 : decode b_Acts_call 29 = .ok (.iconst 0, 1) := by decide +kernel
theorem d_Acts_call_30 : decode b_Acts_call 30 = .ok (.bastore, 1) := by decide +kernel
theorem d_Acts_call_31 : decode b_Acts_call 31 = .ok (.return_, 1) := by decide +kernel
def m_Acts_call (F : Nat) (x0 : St) (a1 : Int32) (a2 : Int32) : Option (St) :=
  (ck a1 20 (lz (st x0 11 (upd (x0 11) a1.toNatClampNeg (vp_nar .boolean (1 : Int32)))) (fun e0_6 => (ck a1 20 (if ((e0_6 12) a1.toNatClampNeg) = (0 : Int32) then (if a2 = (0 : Int32) then (ck a1 20 (lz (st e0_6 12 (upd (e0_6 12) a1.toNatClampNeg (vp_nar .boolean (0 : Int32)))) (fun e0_30 => (some e0_30)))) else (ck a1 20 (lz (st e0_6 12 (upd (e0_6 12) a1.toNatClampNeg (vp_nar .boolean (1 : Int32)))) (fun e0_30 => (some e0_30))))) else (ck a1 20 (lz (st e0_6 12 (upd (e0_6 12) a1.toNatClampNeg (vp_nar .boolean (1 : Int32)))) (fun e0_30 => (some e0_30)))))))))
abbrev rm_Acts_call : Room := { frames := 0, cells := 0, slots := 0, locals := 0 }
set_option maxHeartbeats 4000000 in
set_option maxRecDepth 100000 in
theorem c_Acts_call {G : (Nat → Prop) → State → Prop} (hG : gok G) (hGn : gN G) (l : Launch) (dC : Nat → ClassId) (dI : Nat → Nat → Nat) (g : Nat → ClassId) (F : Nat) (sz : Nat) (h0 : Nat) (q0 : Nat → Nat) (x0 : St) (a1 : Int32) (a2 : Int32) {o : St} (hm : m_Acts_call F x0 a1 a2 = some o) : Met l y_Acts_call (.code y_Acts_call b_Acts_call 3 none :: gw) rm_Acts_call (kq (dC, dI) vwCl (tyv g) G [.ref h0, .int a1, .int a2] sz (wd_Acts g h0 q0 x0)) (kqv (dC, dI) vwCl (tyv g) (wd_Acts g h0 q0 x0) (wd_Acts g h0 q0 o) sz) 0 0 (va_A (wd_Acts g h0 q0 x0) sz) := by
  unfold m_Acts_call at hm
  refine km (Qc := fun sz => kqv (dC, dI) vwCl (tyv g) (wd_Acts g h0 q0 x0) (wd_Acts g h0 q0 o) sz) (cc := b_Acts_call) (maxL := 3) (ret := none) (by decide) rfl (Nat.le_of_ble_eq_true rfl) ?_
  intro p e s m args below meth c Q hQ hx hb hr hts hown hlocks hml hnm H locs A hAe hA hP hK hD hS hGA ls hl
  have hl : lv_has ls 3 [(0, .ref h0), (1, .int a1), (2, .int a2)] := hl
  have hts : ∀ w ∈ gw, w.before args s = true := fun w h => hts w (List.mem_cons_of_mem _ h)
  have hown : s.vm.findClass "AlarmMatrix$Acts" = some m.cls := hown
  refine lv_aload_n hx hb d_Acts_call_0 rfl (lv_at hl 0 rfl) ?_
  refine va_get (D := (dC, dI)) (ci := 6) (v := .ref (q0 11)) (C := "AlarmMatrix$Acts") (T := T_Acts) (N := 13) hx hb hts i_Acts hown hK hP 0 rfl rfl 11 (by decide) (hts _ k1_171) (fun _ h9 => h9) rfl d_Acts_call_1 ?_
  refine lv_iload_n hx hb d_Acts_call_4 rfl (lv_at hl 1 rfl) ?_
  refine lv_iconst (v := (1 : Int32)) hx hb d_Acts_call_5 (by decide) ?_
  obtain ⟨h_6, hm⟩ := ck_s hm
  obtain ⟨e0_6, he, hm⟩ := lz_s hm
  refine va_zast (f := (x0 11)) hx hb hK hP hD hS 11 1 rfl rfl h_6 d_Acts_call_6 (fun H locs hP hD hS => ?_)
  have hP : va_P (dC, dI) vwCl (wd_Acts g h0 q0 e0_6) H := by rw [he]; exact hP
  have hD : va_D A (wd_Acts g h0 q0 e0_6) := by rw [he]; exact hD
  refine lv_aload_n hx hb d_Acts_call_7 rfl (lv_at hl 0 rfl) ?_
  refine va_get (D := (dC, dI)) (ci := 6) (v := .ref (q0 12)) (C := "AlarmMatrix$Acts") (T := T_Acts) (N := 13) hx hb hts i_Acts hown hK hP 0 rfl rfl 12 (by decide) (hts _ k1_172) (fun _ h9 => h9) rfl d_Acts_call_8 ?_
  refine lv_iload_n hx hb d_Acts_call_11 rfl (lv_at hl 1 rfl) ?_
  refine lv_aload_n hx hb d_Acts_call_12 rfl (lv_at hl 0 rfl) ?_
  refine va_get (D := (dC, dI)) (ci := 6) (v := .ref (q0 12)) (C := "AlarmMatrix$Acts") (T := T_Acts) (N := 13) hx hb hts i_Acts hown hK hP 0 rfl rfl 12 (by decide) (hts _ k1_172) (fun _ h9 => h9) rfl d_Acts_call_13 ?_
  refine lv_iload_n hx hb d_Acts_call_16 rfl (lv_at hl 1 rfl) ?_
  obtain ⟨h_17, hm⟩ := ck_s hm
  refine va_zald (f := (e0_6 12)) hx hb hK hP 12 1 rfl rfl h_17 d_Acts_call_17 ?_
  refine lv_if_ne (tgt := 25) hx hb d_Acts_call_18 (by decide) (fun hc => ?_) (fun hc => ?_)
  · replace hm := if_f hm hc
    refine lv_iconst (v := (1 : Int32)) hx hb d_Acts_call_25 (by decide) ?_
    refine lv_goto (tgt := 30) hx hb d_Acts_call_26 (by decide) ?_
    obtain ⟨h_30, hm⟩ := ck_s hm
    obtain ⟨e0_30, he, hm⟩ := lz_s hm
    refine va_zast (f := (e0_6 12)) hx hb hK hP hD hS 12 1 rfl rfl h_30 d_Acts_call_30 (fun H locs hP hD hS => ?_)
    have hP : va_P (dC, dI) vwCl (wd_Acts g h0 q0 e0_30) H := by rw [he]; exact hP
    have hD : va_D A (wd_Acts g h0 q0 e0_30) := by rw [he]; exact hD
    obtain rfl := Option.some.inj hm
    rw [hQ]
    exact krv hx hb hr hlocks hAe hP hK hD hS d_Acts_call_31
  · replace hm := if_t hm hc
    refine lv_iload_n hx hb d_Acts_call_21 rfl (lv_at hl 2 rfl) ?_
    refine lv_if_eq (tgt := 29) hx hb d_Acts_call_22 (by decide) (fun hc => ?_) (fun hc => ?_)
    · replace hm := if_t hm hc
      refine lv_iconst (v := (0 : Int32)) hx hb d_Acts_call_29 (by decide) ?_
      obtain ⟨h_30, hm⟩ := ck_s hm
      obtain ⟨e0_30, he, hm⟩ := lz_s hm
      refine va_zast (f := (e0_6 12)) hx hb hK hP hD hS 12 1 rfl rfl h_30 d_Acts_call_30 (fun H locs hP hD hS => ?_)
      have hP : va_P (dC, dI) vwCl (wd_Acts g h0 q0 e0_30) H := by rw [he]; exact hP
      have hD : va_D A (wd_Acts g h0 q0 e0_30) := by rw [he]; exact hD
      obtain rfl := Option.some.inj hm
      rw [hQ]
      exact krv hx hb hr hlocks hAe hP hK hD hS d_Acts_call_31
    · replace hm := if_f hm hc
      refine lv_iconst (v := (1 : Int32)) hx hb d_Acts_call_25 (by decide) ?_
      refine lv_goto (tgt := 30) hx hb d_Acts_call_26 (by decide) ?_
      obtain ⟨h_30, hm⟩ := ck_s hm
      obtain ⟨e0_30, he, hm⟩ := lz_s hm
      refine va_zast (f := (e0_6 12)) hx hb hK hP hD hS 12 1 rfl rfl h_30 d_Acts_call_30 (fun H locs hP hD hS => ?_)
      have hP : va_P (dC, dI) vwCl (wd_Acts g h0 q0 e0_30) H := by rw [he]; exact hP
      have hD : va_D A (wd_Acts g h0 q0 e0_30) := by rw [he]; exact hD
      obtain rfl := Option.some.inj hm
      rw [hQ]
      exact krv hx hb hr hlocks hAe hP hK hD hS d_Acts_call_31
abbrev b_Acts_letGo : ByteArray := prog_2_method_16_code
abbrev y_Acts_letGo : MethodName := ⟨"AlarmMatrix$Acts", "letGo", "(I)I"⟩
theorem d_Acts_letGo_0 : decode b_Acts_letGo 0 = .ok (.aload_n 0, 1) := by decide +kernel
theorem d_Acts_letGo_1 : decode b_Acts_letGo 1 = .ok (.getfield 35, 3) := by decide +kernel
theorem d_Acts_letGo_4 : decode b_Acts_letGo 4 = .ok (.iload_n 1, 1) := by decide +kernel
theorem d_Acts_letGo_5 : decode b_Acts_letGo 5 = .ok (.iaload, 1) := by decide +kernel
theorem d_Acts_letGo_6 : decode b_Acts_letGo 6 = .ok (.iconst 2, 1) := by decide +kernel
theorem d_Acts_letGo_7 : decode b_Acts_letGo 7 = .ok (.if_icmp .ne 14, 3) := by decide +kernel
theorem d_Acts_letGo_10 : decode b_Acts_letGo 10 = .ok (.aload_n 0, 1) := by decide +kernel
theorem d_Acts_letGo_11 : decode b_Acts_letGo 11 = .ok (.getfield 25, 3) := by decide +kernel
theorem d_Acts_letGo_14 : decode b_Acts_letGo 14 = .ok (.iload_n 1, 1) := by decide +kernel
theorem d_Acts_letGo_15 : decode b_Acts_letGo 15 = .ok (.baload, 1) := by decide +kernel
theorem d_Acts_letGo_16 : decode b_Acts_letGo 16 = .ok (.ifCond .eq 5, 3) := by decide +kernel
theorem d_Acts_letGo_19 : decode b_Acts_letGo 19 = .ok (.iconst (-1), 1) := by decide +kernel
theorem d_Acts_letGo_20 : decode b_Acts_letGo 20 = .ok (.ireturn, 1) := by decide +kernel
theorem d_Acts_letGo_21 : decode b_Acts_letGo 21 = .ok (.aload_n 0, 1) := by decide +kernel
theorem d_Acts_letGo_22 : decode b_Acts_letGo 22 = .ok (.getfield 35, 3) := by decide +kernel
theorem d_Acts_letGo_25 : decode b_Acts_letGo 25 = .ok (.iload_n 1, 1) := by decide +kernel
theorem d_Acts_letGo_26 : decode b_Acts_letGo 26 = .ok (.iaload, 1) := by decide +kernel
theorem d_Acts_letGo_27 : decode b_Acts_letGo 27 = .ok (.iconst 2, 1) := by decide +kernel
theorem d_Acts_letGo_28 : decode b_Acts_letGo 28 = .ok (.if_icmp .ne 7, 3) := by decide +kernel
theorem d_Acts_letGo_31 : decode b_Acts_letGo 31 = .ok (.iconst 0, 1) := by decide +kernel
theorem d_Acts_letGo_32 : decode b_Acts_letGo 32 = .ok (.goto 4, 3) := by decide +kernel
theorem d_Acts_letGo_35 : decode b_Acts_letGo 35 = .ok (.iconst (-1), 1) := by decide +kernel
theorem d_Acts_letGo_36 : decode b_Acts_letGo 36 = .ok (.istore_n 2, 1) := by decide +kernel
theorem d_Acts_letGo_37 : decode b_Acts_letGo 37 = .ok (.aload_n 0, 1) := by decide +kernel
theorem d_Acts_letGo_38 : decode b_Acts_letGo 38 = .ok (.getfield 35, 3) := by decide +kernel
theorem d_Acts_letGo_41 : decode b_Acts_letGo 41 = .ok (.iload_n 1, 1) := by decide +kernel
theorem d_Acts_letGo_42 : decode b_Acts_letGo 42 = .ok (.iconst 0, 1) := by decide +kernel
theorem d_Acts_letGo_43 : decode b_Acts_letGo 43 = .ok (.iastore, 1) := by decide +kernel
theorem d_Acts_letGo_44 : decode b_Acts_letGo 44 = .ok (.iload_n 2, 1) := by decide +kernel
theorem d_Acts_letGo_45 : decode b_Acts_letGo 45 = .ok (.ireturn, 1) := by decide +kernel
def m_Acts_letGo (F : Nat) (x0 : St) (a1 : Int32) : Option (Int32 × St) :=
  (ck a1 20 (if ((x0 7) a1.toNatClampNeg) = (2 : Int32) then (ck a1 20 (if ((x0 4) a1.toNatClampNeg) = (0 : Int32) then (ck a1 20 (if ((x0 7) a1.toNatClampNeg) = (2 : Int32) then (ck a1 20 (lz (st x0 7 (upd (x0 7) a1.toNatClampNeg (0 : Int32))) (fun e0_43 => (some ((0 : Int32), e0_43))))) else (ck a1 20 (lz (st x0 7 (upd (x0 7) a1.toNatClampNeg (0 : Int32))) (fun e0_43 => (some ((-1 : Int32), e0_43))))))) else (some ((-1 : Int32), x0)))) else (ck a1 20 (if ((x0 7) a1.toNatClampNeg) = (2 : Int32) then (ck a1 20 (lz (st x0 7 (upd (x0 7) a1.toNatClampNeg (0 : Int32))) (fun e0_43 => (some ((0 : Int32), e0_43))))) else (ck a1 20 (lz (st x0 7 (upd (x0 7) a1.toNatClampNeg (0 : Int32))) (fun e0_43 => (some ((-1 : Int32), e0_43)))))))))
abbrev rm_Acts_letGo : Room := { frames := 0, cells := 0, slots := 0, locals := 0 }
set_option maxHeartbeats 4000000 in
set_option maxRecDepth 100000 in
theorem c_Acts_letGo {G : (Nat → Prop) → State → Prop} (hG : gok G) (hGn : gN G) (l : Launch) (dC : Nat → ClassId) (dI : Nat → Nat → Nat) (g : Nat → ClassId) (F : Nat) (sz : Nat) (h0 : Nat) (q0 : Nat → Nat) (x0 : St) (a1 : Int32) {o : Int32 × St} (hm : m_Acts_letGo F x0 a1 = some o) : Met l y_Acts_letGo (.code y_Acts_letGo b_Acts_letGo 3 (some .int) :: gw) rm_Acts_letGo (kq (dC, dI) vwCl (tyv g) G [.ref h0, .int a1] sz (wd_Acts g h0 q0 x0)) (kqi (dC, dI) vwCl (tyv g) (wd_Acts g h0 q0 x0) o.1 (wd_Acts g h0 q0 (o.2)) sz) 0 0 (va_A (wd_Acts g h0 q0 x0) sz) := by
  unfold m_Acts_letGo at hm
  refine km (Qc := fun sz => kqi (dC, dI) vwCl (tyv g) (wd_Acts g h0 q0 x0) o.1 (wd_Acts g h0 q0 (o.2)) sz) (cc := b_Acts_letGo) (maxL := 3) (ret := some .int) (by decide) rfl (Nat.le_of_ble_eq_true rfl) ?_
  intro p e s m args below meth c Q hQ hx hb hr hts hown hlocks hml hnm H locs A hAe hA hP hK hD hS hGA ls hl
  have hl : lv_has ls 3 [(0, .ref h0), (1, .int a1)] := hl
  have hts : ∀ w ∈ gw, w.before args s = true := fun w h => hts w (List.mem_cons_of_mem _ h)
  have hown : s.vm.findClass "AlarmMatrix$Acts" = some m.cls := hown
  refine lv_aload_n hx hb d_Acts_letGo_0 rfl (lv_at hl 0 rfl) ?_
  refine va_get (D := (dC, dI)) (ci := 6) (v := .ref (q0 7)) (C := "AlarmMatrix$Acts") (T := T_Acts) (N := 13) hx hb hts i_Acts hown hK hP 0 rfl rfl 7 (by decide) (hts _ k1_167) (fun _ h9 => h9) rfl d_Acts_letGo_1 ?_
  refine lv_iload_n hx hb d_Acts_letGo_4 rfl (lv_at hl 1 rfl) ?_
  obtain ⟨h_5, hm⟩ := ck_s hm
  refine va_iald (f := (x0 7)) hx hb hK hP 7 0 rfl rfl h_5 d_Acts_letGo_5 ?_
  refine lv_iconst (v := (2 : Int32)) hx hb d_Acts_letGo_6 (by decide) ?_
  refine lv_icmp_ne (tgt := 21) hx hb d_Acts_letGo_7 (by decide) (fun hc => ?_) (fun hc => ?_)
  · replace hm := if_f hm hc
    refine lv_aload_n hx hb d_Acts_letGo_21 rfl (lv_at hl 0 rfl) ?_
    refine va_get (D := (dC, dI)) (ci := 6) (v := .ref (q0 7)) (C := "AlarmMatrix$Acts") (T := T_Acts) (N := 13) hx hb hts i_Acts hown hK hP 0 rfl rfl 7 (by decide) (hts _ k1_167) (fun _ h9 => h9) rfl d_Acts_letGo_22 ?_
    refine lv_iload_n hx hb d_Acts_letGo_25 rfl (lv_at hl 1 rfl) ?_
    obtain ⟨h_26, hm⟩ := ck_s hm
    refine va_iald (f := (x0 7)) hx hb hK hP 7 0 rfl rfl h_26 d_Acts_letGo_26 ?_
    refine lv_iconst (v := (2 : Int32)) hx hb d_Acts_letGo_27 (by decide) ?_
    refine lv_icmp_ne (tgt := 35) hx hb d_Acts_letGo_28 (by decide) (fun hc => ?_) (fun hc => ?_)
    · replace hm := if_f hm hc
      refine lv_iconst (v := (-1 : Int32)) hx hb d_Acts_letGo_35 (by decide) ?_
      refine lv_istore_n (lv' := [(2, .int (-1 : Int32)), (0, .ref h0), (1, .int a1)]) hx hb d_Acts_letGo_36 rfl hl (by decide) rfl (fun ls hl => ?_)
      refine lv_aload_n hx hb d_Acts_letGo_37 rfl (lv_at hl 1 rfl) ?_
      refine va_get (D := (dC, dI)) (ci := 6) (v := .ref (q0 7)) (C := "AlarmMatrix$Acts") (T := T_Acts) (N := 13) hx hb hts i_Acts hown hK hP 0 rfl rfl 7 (by decide) (hts _ k1_167) (fun _ h9 => h9) rfl d_Acts_letGo_38 ?_
      refine lv_iload_n hx hb d_Acts_letGo_41 rfl (lv_at hl 2 rfl) ?_
      refine lv_iconst (v := (0 : Int32)) hx hb d_Acts_letGo_42 (by decide) ?_
      obtain ⟨h_43, hm⟩ := ck_s hm
      obtain ⟨e0_43, he, hm⟩ := lz_s hm
      refine va_iast (f := (x0 7)) hx hb hK hP hD hS 7 0 rfl rfl h_43 d_Acts_letGo_43 (fun H locs hP hD hS => ?_)
      have hP : va_P (dC, dI) vwCl (wd_Acts g h0 q0 e0_43) H := by rw [he]; exact hP
      have hD : va_D A (wd_Acts g h0 q0 e0_43) := by rw [he]; exact hD
      refine lv_iload_n hx hb d_Acts_letGo_44 rfl (lv_at hl 0 rfl) ?_
      obtain rfl := Option.some.inj hm
      rw [hQ]
      exact kri hx hb hr hlocks hAe hP hK hD hS d_Acts_letGo_45
    · replace hm := if_t hm hc
      refine lv_iconst (v := (0 : Int32)) hx hb d_Acts_letGo_31 (by decide) ?_
      refine lv_goto (tgt := 36) hx hb d_Acts_letGo_32 (by decide) ?_
      refine lv_istore_n (lv' := [(2, .int (0 : Int32)), (0, .ref h0), (1, .int a1)]) hx hb d_Acts_letGo_36 rfl hl (by decide) rfl (fun ls hl => ?_)
      refine lv_aload_n hx hb d_Acts_letGo_37 rfl (lv_at hl 1 rfl) ?_
      refine va_get (D := (dC, dI)) (ci := 6) (v := .ref (q0 7)) (C := "AlarmMatrix$Acts") (T := T_Acts) (N := 13) hx hb hts i_Acts hown hK hP 0 rfl rfl 7 (by decide) (hts _ k1_167) (fun _ h9 => h9) rfl d_Acts_letGo_38 ?_
      refine lv_iload_n hx hb d_Acts_letGo_41 rfl (lv_at hl 2 rfl) ?_
      refine lv_iconst (v := (0 : Int32)) hx hb d_Acts_letGo_42 (by decide) ?_
      obtain ⟨h_43, hm⟩ := ck_s hm
      obtain ⟨e0_43, he, hm⟩ := lz_s hm
      refine va_iast (f := (x0 7)) hx hb hK hP hD hS 7 0 rfl rfl h_43 d_Acts_letGo_43 (fun H locs hP hD hS => ?_)
      have hP : va_P (dC, dI) vwCl (wd_Acts g h0 q0 e0_43) H := by rw [he]; exact hP
      have hD : va_D A (wd_Acts g h0 q0 e0_43) := by rw [he]; exact hD
      refine lv_iload_n hx hb d_Acts_letGo_44 rfl (lv_at hl 0 rfl) ?_
      obtain rfl := Option.some.inj hm
      rw [hQ]
      exact kri hx hb hr hlocks hAe hP hK hD hS d_Acts_letGo_45
  · replace hm := if_t hm hc
    refine lv_aload_n hx hb d_Acts_letGo_10 rfl (lv_at hl 0 rfl) ?_
    refine va_get (D := (dC, dI)) (ci := 6) (v := .ref (q0 4)) (C := "AlarmMatrix$Acts") (T := T_Acts) (N := 13) hx hb hts i_Acts hown hK hP 0 rfl rfl 4 (by decide) (hts _ k1_164) (fun _ h9 => h9) rfl d_Acts_letGo_11 ?_
    refine lv_iload_n hx hb d_Acts_letGo_14 rfl (lv_at hl 1 rfl) ?_
    obtain ⟨h_15, hm⟩ := ck_s hm
    refine va_zald (f := (x0 4)) hx hb hK hP 5 1 rfl rfl h_15 d_Acts_letGo_15 ?_
    refine lv_if_eq (tgt := 21) hx hb d_Acts_letGo_16 (by decide) (fun hc => ?_) (fun hc => ?_)
    · replace hm := if_t hm hc
      refine lv_aload_n hx hb d_Acts_letGo_21 rfl (lv_at hl 0 rfl) ?_
      refine va_get (D := (dC, dI)) (ci := 6) (v := .ref (q0 7)) (C := "AlarmMatrix$Acts") (T := T_Acts) (N := 13) hx hb hts i_Acts hown hK hP 0 rfl rfl 7 (by decide) (hts _ k1_167) (fun _ h9 => h9) rfl d_Acts_letGo_22 ?_
      refine lv_iload_n hx hb d_Acts_letGo_25 rfl (lv_at hl 1 rfl) ?_
      obtain ⟨h_26, hm⟩ := ck_s hm
      refine va_iald (f := (x0 7)) hx hb hK hP 7 0 rfl rfl h_26 d_Acts_letGo_26 ?_
      refine lv_iconst (v := (2 : Int32)) hx hb d_Acts_letGo_27 (by decide) ?_
      refine lv_icmp_ne (tgt := 35) hx hb d_Acts_letGo_28 (by decide) (fun hc => ?_) (fun hc => ?_)
      · replace hm := if_f hm hc
        refine lv_iconst (v := (-1 : Int32)) hx hb d_Acts_letGo_35 (by decide) ?_
        refine lv_istore_n (lv' := [(2, .int (-1 : Int32)), (0, .ref h0), (1, .int a1)]) hx hb d_Acts_letGo_36 rfl hl (by decide) rfl (fun ls hl => ?_)
        refine lv_aload_n hx hb d_Acts_letGo_37 rfl (lv_at hl 1 rfl) ?_
        refine va_get (D := (dC, dI)) (ci := 6) (v := .ref (q0 7)) (C := "AlarmMatrix$Acts") (T := T_Acts) (N := 13) hx hb hts i_Acts hown hK hP 0 rfl rfl 7 (by decide) (hts _ k1_167) (fun _ h9 => h9) rfl d_Acts_letGo_38 ?_
        refine lv_iload_n hx hb d_Acts_letGo_41 rfl (lv_at hl 2 rfl) ?_
        refine lv_iconst (v := (0 : Int32)) hx hb d_Acts_letGo_42 (by decide) ?_
        obtain ⟨h_43, hm⟩ := ck_s hm
        obtain ⟨e0_43, he, hm⟩ := lz_s hm
        refine va_iast (f := (x0 7)) hx hb hK hP hD hS 7 0 rfl rfl h_43 d_Acts_letGo_43 (fun H locs hP hD hS => ?_)
        have hP : va_P (dC, dI) vwCl (wd_Acts g h0 q0 e0_43) H := by rw [he]; exact hP
        have hD : va_D A (wd_Acts g h0 q0 e0_43) := by rw [he]; exact hD
        refine lv_iload_n hx hb d_Acts_letGo_44 rfl (lv_at hl 0 rfl) ?_
        obtain rfl := Option.some.inj hm
        rw [hQ]
        exact kri hx hb hr hlocks hAe hP hK hD hS d_Acts_letGo_45
      · replace hm := if_t hm hc
        refine lv_iconst (v := (0 : Int32)) hx hb d_Acts_letGo_31 (by decide) ?_
        refine lv_goto (tgt := 36) hx hb d_Acts_letGo_32 (by decide) ?_
        refine lv_istore_n (lv' := [(2, .int (0 : Int32)), (0, .ref h0), (1, .int a1)]) hx hb d_Acts_letGo_36 rfl hl (by decide) rfl (fun ls hl => ?_)
        refine lv_aload_n hx hb d_Acts_letGo_37 rfl (lv_at hl 1 rfl) ?_
        refine va_get (D := (dC, dI)) (ci := 6) (v := .ref (q0 7)) (C := "AlarmMatrix$Acts") (T := T_Acts) (N := 13) hx hb hts i_Acts hown hK hP 0 rfl rfl 7 (by decide) (hts _ k1_167) (fun _ h9 => h9) rfl d_Acts_letGo_38 ?_
        refine lv_iload_n hx hb d_Acts_letGo_41 rfl (lv_at hl 2 rfl) ?_
        refine lv_iconst (v := (0 : Int32)) hx hb d_Acts_letGo_42 (by decide) ?_
        obtain ⟨h_43, hm⟩ := ck_s hm
        obtain ⟨e0_43, he, hm⟩ := lz_s hm
        refine va_iast (f := (x0 7)) hx hb hK hP hD hS 7 0 rfl rfl h_43 d_Acts_letGo_43 (fun H locs hP hD hS => ?_)
        have hP : va_P (dC, dI) vwCl (wd_Acts g h0 q0 e0_43) H := by rw [he]; exact hP
        have hD : va_D A (wd_Acts g h0 q0 e0_43) := by rw [he]; exact hD
        refine lv_iload_n hx hb d_Acts_letGo_44 rfl (lv_at hl 0 rfl) ?_
        obtain rfl := Option.some.inj hm
        rw [hQ]
        exact kri hx hb hr hlocks hAe hP hK hD hS d_Acts_letGo_45
    · replace hm := if_f hm hc
      refine lv_iconst (v := (-1 : Int32)) hx hb d_Acts_letGo_19 (by decide) ?_
      obtain rfl := Option.some.inj hm
      rw [hQ]
      exact kri hx hb hr hlocks hAe hP hK hD hS d_Acts_letGo_20
abbrev b_Acts_isDue : ByteArray := prog_2_method_15_code
abbrev y_Acts_isDue : MethodName := ⟨"AlarmMatrix$Acts", "isDue", "(II)Z"⟩
theorem d_Acts_isDue_0 : decode b_Acts_isDue 0 = .ok (.iload_n 2, 1) := by decide +kernel
theorem d_Acts_isDue_1 : decode b_Acts_isDue 1 = .ok (.aload_n 0, 1) := by decide +kernel
theorem d_Acts_isDue_2 : decode b_Acts_isDue 2 = .ok (.getfield 38, 3) := by decide +kernel
theorem d_Acts_isDue_5 : decode b_Acts_isDue 5 = .ok (.iload_n 1, 1) := by decide +kernel
theorem d_Acts_isDue_6 : decode b_Acts_isDue 6 = .ok (.iaload, 1) := by decide +kernel
theorem d_Acts_isDue_7 : decode b_Acts_isDue 7 = .ok (.aload_n 0, 1) := by decide +kernel
theorem d_Acts_isDue_8 : decode b_Acts_isDue 8 = .ok (.getfield 18, 3) := by decide +kernel
theorem d_Acts_isDue_11 : decode b_Acts_isDue 11 = .ok (.iload_n 1, 1) := by decide +kernel
theorem d_Acts_isDue_12 : decode b_Acts_isDue 12 = .ok (.iaload, 1) := by decide +kernel
theorem d_Acts_isDue_13 : decode b_Acts_isDue 13 = .ok (.iadd, 1) := by decide +kernel
theorem d_Acts_isDue_14 : decode b_Acts_isDue 14 = .ok (.if_icmp .ge 21, 3) := by decide +kernel
theorem d_Acts_isDue_17 : decode b_Acts_isDue 17 = .ok (.aload_n 0, 1) := by decide +kernel
theorem d_Acts_isDue_18 : decode b_Acts_isDue 18 = .ok (.getfield 50, 3) := by decide +kernel
theorem d_Acts_isDue_21 : decode b_Acts_isDue 21 = .ok (.iload_n 1, 1) := by decide +kernel
theorem d_Acts_isDue_22 : decode b_Acts_isDue 22 = .ok (.baload, 1) := by decide +kernel
theorem d_Acts_isDue_23 : decode b_Acts_isDue 23 = .ok (.ifCond .ne 12, 3) := by decide +kernel
theorem d_Acts_isDue_26 : decode b_Acts_isDue 26 = .ok (.aload_n 0, 1) := by decide +kernel
theorem d_Acts_isDue_27 : decode b_Acts_isDue 27 = .ok (.getfield 44, 3) := by decide +kernel
theorem d_Acts_isDue_30 : decode b_Acts_isDue 30 = .ok (.iload_n 1, 1) := by decide +kernel
theorem d_Acts_isDue_31 : decode b_Acts_isDue 31 = .ok (.baload, 1) := by decide +kernel
theorem d_Acts_isDue_32 : decode b_Acts_isDue 32 = .ok (.ifCond .eq 7, 3) := by decide +kernel
theorem d_Acts_isDue_35 : decode b_Acts_isDue 35 = .ok (.iconst 1, 1) := by decide +kernel
theorem d_Acts_isDue_36 : decode b_Acts_isDue 36 = .ok (.goto 4, 3) := by decide +kernel
theorem d_Acts_isDue_39 : decode b_Acts_isDue 39 = .ok (.iconst 0, 1) := by decide +kernel
theorem d_Acts_isDue_40 : decode b_Acts_isDue 40 = .ok (.ireturn, 1) := by decide +kernel
def m_Acts_isDue (F : Nat) (x0 : St) (a1 : Int32) (a2 : Int32) : Option (Int32) :=
  (ck a1 20 (ck a1 20 (if (((x0 8) a1.toNatClampNeg) + ((x0 2) a1.toNatClampNeg)) ≤ a2 then (some (1 : Int32)) else (ck a1 20 (if ((x0 12) a1.toNatClampNeg) = (0 : Int32) then (ck a1 20 (if ((x0 10) a1.toNatClampNeg) = (0 : Int32) then (some (0 : Int32)) else (some (1 : Int32)))) else (some (1 : Int32)))))))
abbrev rm_Acts_isDue : Room := { frames := 0, cells := 0, slots := 0, locals := 0 }
set_option maxHeartbeats 4000000 in
set_option maxRecDepth 100000 in
theorem c_Acts_isDue {G : (Nat → Prop) → State → Prop} (hG : gok G) (hGn : gN G) (l : Launch) (dC : Nat → ClassId) (dI : Nat → Nat → Nat) (g : Nat → ClassId) (F : Nat) (sz : Nat) (h0 : Nat) (q0 : Nat → Nat) (x0 : St) (a1 : Int32) (a2 : Int32) {o : Int32} (hm : m_Acts_isDue F x0 a1 a2 = some o) : Met l y_Acts_isDue (.code y_Acts_isDue b_Acts_isDue 3 (some .boolean) :: gw) rm_Acts_isDue (kq (dC, dI) vwCl (tyv g) G [.ref h0, .int a1, .int a2] sz (wd_Acts g h0 q0 x0)) (kqi (dC, dI) vwCl (tyv g) (wd_Acts g h0 q0 x0) o (wd_Acts g h0 q0 x0) sz) 0 0 (va_A (wd_Acts g h0 q0 x0) sz) := by
  unfold m_Acts_isDue at hm
  refine km (Qc := fun sz => kqi (dC, dI) vwCl (tyv g) (wd_Acts g h0 q0 x0) o (wd_Acts g h0 q0 x0) sz) (cc := b_Acts_isDue) (maxL := 3) (ret := some .boolean) (by decide) rfl (Nat.le_of_ble_eq_true rfl) ?_
  intro p e s m args below meth c Q hQ hx hb hr hts hown hlocks hml hnm H locs A hAe hA hP hK hD hS hGA ls hl
  have hl : lv_has ls 3 [(0, .ref h0), (1, .int a1), (2, .int a2)] := hl
  have hts : ∀ w ∈ gw, w.before args s = true := fun w h => hts w (List.mem_cons_of_mem _ h)
  have hown : s.vm.findClass "AlarmMatrix$Acts" = some m.cls := hown
  refine lv_iload_n hx hb d_Acts_isDue_0 rfl (lv_at hl 2 rfl) ?_
  refine lv_aload_n hx hb d_Acts_isDue_1 rfl (lv_at hl 0 rfl) ?_
  refine va_get (D := (dC, dI)) (ci := 6) (v := .ref (q0 8)) (C := "AlarmMatrix$Acts") (T := T_Acts) (N := 13) hx hb hts i_Acts hown hK hP 0 rfl rfl 8 (by decide) (hts _ k1_168) (fun _ h9 => h9) rfl d_Acts_isDue_2 ?_
  refine lv_iload_n hx hb d_Acts_isDue_5 rfl (lv_at hl 1 rfl) ?_
  obtain ⟨h_6, hm⟩ := ck_s hm
  refine va_iald (f := (x0 8)) hx hb hK hP 8 0 rfl rfl h_6 d_Acts_isDue_6 ?_
  refine lv_aload_n hx hb d_Acts_isDue_7 rfl (lv_at hl 0 rfl) ?_
  refine va_get (D := (dC, dI)) (ci := 6) (v := .ref (q0 2)) (C := "AlarmMatrix$Acts") (T := T_Acts) (N := 13) hx hb hts i_Acts hown hK hP 0 rfl rfl 2 (by decide) (hts _ k1_162) (fun _ h9 => h9) rfl d_Acts_isDue_8 ?_
  refine lv_iload_n hx hb d_Acts_isDue_11 rfl (lv_at hl 1 rfl) ?_
  obtain ⟨h_12, hm⟩ := ck_s hm
  refine va_iald (f := (x0 2)) hx hb hK hP 3 0 rfl rfl h_12 d_Acts_isDue_12 ?_
  refine lv_iadd hx hb d_Acts_isDue_13 ?_
  refine lv_icmp_ge (tgt := 35) hx hb d_Acts_isDue_14 (by decide) (fun hc => ?_) (fun hc => ?_)
  · replace hm := if_t hm hc
    refine lv_iconst (v := (1 : Int32)) hx hb d_Acts_isDue_35 (by decide) ?_
    refine lv_goto (tgt := 40) hx hb d_Acts_isDue_36 (by decide) ?_
    obtain rfl := Option.some.inj hm
    rw [hQ]
    exact krz hx hb hr nar_1 hlocks hAe hP hK hD hS d_Acts_isDue_40
  · replace hm := if_f hm hc
    refine lv_aload_n hx hb d_Acts_isDue_17 rfl (lv_at hl 0 rfl) ?_
    refine va_get (D := (dC, dI)) (ci := 6) (v := .ref (q0 12)) (C := "AlarmMatrix$Acts") (T := T_Acts) (N := 13) hx hb hts i_Acts hown hK hP 0 rfl rfl 12 (by decide) (hts _ k1_172) (fun _ h9 => h9) rfl d_Acts_isDue_18 ?_
    refine lv_iload_n hx hb d_Acts_isDue_21 rfl (lv_at hl 1 rfl) ?_
    obtain ⟨h_22, hm⟩ := ck_s hm
    refine va_zald (f := (x0 12)) hx hb hK hP 12 1 rfl rfl h_22 d_Acts_isDue_22 ?_
    refine lv_if_ne (tgt := 35) hx hb d_Acts_isDue_23 (by decide) (fun hc => ?_) (fun hc => ?_)
    · replace hm := if_f hm hc
      refine lv_iconst (v := (1 : Int32)) hx hb d_Acts_isDue_35 (by decide) ?_
      refine lv_goto (tgt := 40) hx hb d_Acts_isDue_36 (by decide) ?_
      obtain rfl := Option.some.inj hm
      rw [hQ]
      exact krz hx hb hr nar_1 hlocks hAe hP hK hD hS d_Acts_isDue_40
    · replace hm := if_t hm hc
      refine lv_aload_n hx hb d_Acts_isDue_26 rfl (lv_at hl 0 rfl) ?_
      refine va_get (D := (dC, dI)) (ci := 6) (v := .ref (q0 10)) (C := "AlarmMatrix$Acts") (T := T_Acts) (N := 13) hx hb hts i_Acts hown hK hP 0 rfl rfl 10 (by decide) (hts _ k1_170) (fun _ h9 => h9) rfl d_Acts_isDue_27 ?_
      refine lv_iload_n hx hb d_Acts_isDue_30 rfl (lv_at hl 1 rfl) ?_
      obtain ⟨h_31, hm⟩ := ck_s hm
      refine va_zald (f := (x0 10)) hx hb hK hP 10 1 rfl rfl h_31 d_Acts_isDue_31 ?_
      refine lv_if_eq (tgt := 39) hx hb d_Acts_isDue_32 (by decide) (fun hc => ?_) (fun hc => ?_)
      · replace hm := if_t hm hc
        refine lv_iconst (v := (0 : Int32)) hx hb d_Acts_isDue_39 (by decide) ?_
        obtain rfl := Option.some.inj hm
        rw [hQ]
        exact krz hx hb hr nar_0 hlocks hAe hP hK hD hS d_Acts_isDue_40
      · replace hm := if_f hm hc
        refine lv_iconst (v := (1 : Int32)) hx hb d_Acts_isDue_35 (by decide) ?_
        refine lv_goto (tgt := 40) hx hb d_Acts_isDue_36 (by decide) ?_
        obtain rfl := Option.some.inj hm
        rw [hQ]
        exact krz hx hb hr nar_1 hlocks hAe hP hK hD hS d_Acts_isDue_40
abbrev b_Acts_beginToWait : ByteArray := prog_2_method_14_code
abbrev y_Acts_beginToWait : MethodName := ⟨"AlarmMatrix$Acts", "beginToWait", "(II)V"⟩
theorem d_Acts_beginToWait_0 : decode b_Acts_beginToWait 0 = .ok (.aload_n 0, 1) := by decide +kernel
theorem d_Acts_beginToWait_1 : decode b_Acts_beginToWait 1 = .ok (.getfield 35, 3) := by decide +kernel
theorem d_Acts_beginToWait_4 : decode b_Acts_beginToWait 4 = .ok (.iload_n 1, 1) := by decide +kernel
theorem d_Acts_beginToWait_5 : decode b_Acts_beginToWait 5 = .ok (.iconst 1, 1) := by decide +kernel
theorem d_Acts_beginToWait_6 : decode b_Acts_beginToWait 6 = .ok (.iastore, 1) := by decide +kernel
theorem d_Acts_beginToWait_7 : decode b_Acts_beginToWait 7 = .ok (.aload_n 0, 1) := by decide +kernel
theorem d_Acts_beginToWait_8 : decode b_Acts_beginToWait 8 = .ok (.getfield 38, 3) := by decide +kernel
theorem d_Acts_beginToWait_11 : decode b_Acts_beginToWait 11 = .ok (.iload_n 1, 1) := by decide +kernel
theorem d_Acts_beginToWait_12 : decode b_Acts_beginToWait 12 = .ok (.iload_n 2, 1) := by decide +kernel
theorem d_Acts_beginToWait_13 : decode b_Acts_beginToWait 13 = .ok (.iastore, 1) := by decide +kernel
theorem d_Acts_beginToWait_14 : decode b_Acts_beginToWait 14 = .ok (.aload_n 0, 1) := by decide +kernel
theorem d_Acts_beginToWait_15 : decode b_Acts_beginToWait 15 = .ok (.getfield 41, 3) := by decide +kernel
theorem d_Acts_beginToWait_18 : decode b_Acts_beginToWait 18 = .ok (.iload_n 1, 1) := by decide +kernel
theorem d_Acts_beginToWait_19 : decode b_Acts_beginToWait 19 = .ok (.iconst 0, 1) := by decide +kernel
theorem d_Acts_beginToWait_20 : decode b_Acts_beginToWait 20 = .ok (.bastore, 1) := by decide +kernel
theorem d_Acts_beginToWait_21 : decode b_Acts_beginToWait 21 = .ok (.aload_n 0, 1) := by decide +kernel
theorem d_Acts_beginToWait_22 : decode b_Acts_beginToWait 22 = .ok (.getfield 44, 3) := by decide +kernel
theorem d_Acts_beginToWait_25 : decode b_Acts_beginToWait 25 = .ok (.iload_n 1, 1) := by decide +kernel
theorem d_Acts_beginToWait_26 : decode b_Acts_beginToWait 26 = .ok (.iconst 0, 1) := by decide +kernel
theorem d_Acts_beginToWait_27 : decode b_Acts_beginToWait 27 = .ok (.bastore, 1) := by decide +kernel
theorem d_Acts_beginToWait_28 : decode b_Acts_beginToWait 28 = .ok (.return_, 1) := by decide +kernel
def m_Acts_beginToWait (F : Nat) (x0 : St) (a1 : Int32) (a2 : Int32) : Option (St) :=
  (ck a1 20 (lz (st x0 7 (upd (x0 7) a1.toNatClampNeg (1 : Int32))) (fun e0_6 => (ck a1 20 (lz (st e0_6 8 (upd (e0_6 8) a1.toNatClampNeg a2)) (fun e0_13 => (ck a1 20 (lz (st e0_13 9 (upd (e0_13 9) a1.toNatClampNeg (vp_nar .boolean (0 : Int32)))) (fun e0_20 => (ck a1 20 (lz (st e0_20 10 (upd (e0_20 10) a1.toNatClampNeg (vp_nar .boolean (0 : Int32)))) (fun e0_27 => (some e0_27)))))))))))))
abbrev rm_Acts_beginToWait : Room := { frames := 0, cells := 0, slots := 0, locals := 0 }
set_option maxHeartbeats 4000000 in
set_option maxRecDepth 100000 in
theorem c_Acts_beginToWait {G : (Nat → Prop) → State → Prop} (hG : gok G) (hGn : gN G) (l : Launch) (dC : Nat → ClassId) (dI : Nat → Nat → Nat) (g : Nat → ClassId) (F : Nat) (sz : Nat) (h0 : Nat) (q0 : Nat → Nat) (x0 : St) (a1 : Int32) (a2 : Int32) {o : St} (hm : m_Acts_beginToWait F x0 a1 a2 = some o) : Met l y_Acts_beginToWait (.code y_Acts_beginToWait b_Acts_beginToWait 3 none :: gw) rm_Acts_beginToWait (kq (dC, dI) vwCl (tyv g) G [.ref h0, .int a1, .int a2] sz (wd_Acts g h0 q0 x0)) (kqv (dC, dI) vwCl (tyv g) (wd_Acts g h0 q0 x0) (wd_Acts g h0 q0 o) sz) 0 0 (va_A (wd_Acts g h0 q0 x0) sz) := by
  unfold m_Acts_beginToWait at hm
  refine km (Qc := fun sz => kqv (dC, dI) vwCl (tyv g) (wd_Acts g h0 q0 x0) (wd_Acts g h0 q0 o) sz) (cc := b_Acts_beginToWait) (maxL := 3) (ret := none) (by decide) rfl (Nat.le_of_ble_eq_true rfl) ?_
  intro p e s m args below meth c Q hQ hx hb hr hts hown hlocks hml hnm H locs A hAe hA hP hK hD hS hGA ls hl
  have hl : lv_has ls 3 [(0, .ref h0), (1, .int a1), (2, .int a2)] := hl
  have hts : ∀ w ∈ gw, w.before args s = true := fun w h => hts w (List.mem_cons_of_mem _ h)
  have hown : s.vm.findClass "AlarmMatrix$Acts" = some m.cls := hown
  refine lv_aload_n hx hb d_Acts_beginToWait_0 rfl (lv_at hl 0 rfl) ?_
  refine va_get (D := (dC, dI)) (ci := 6) (v := .ref (q0 7)) (C := "AlarmMatrix$Acts") (T := T_Acts) (N := 13) hx hb hts i_Acts hown hK hP 0 rfl rfl 7 (by decide) (hts _ k1_167) (fun _ h9 => h9) rfl d_Acts_beginToWait_1 ?_
  refine lv_iload_n hx hb d_Acts_beginToWait_4 rfl (lv_at hl 1 rfl) ?_
  refine lv_iconst (v := (1 : Int32)) hx hb d_Acts_beginToWait_5 (by decide) ?_
  obtain ⟨h_6, hm⟩ := ck_s hm
  obtain ⟨e0_6, he, hm⟩ := lz_s hm
  refine va_iast (f := (x0 7)) hx hb hK hP hD hS 7 0 rfl rfl h_6 d_Acts_beginToWait_6 (fun H locs hP hD hS => ?_)
  have hP : va_P (dC, dI) vwCl (wd_Acts g h0 q0 e0_6) H := by rw [he]; exact hP
  have hD : va_D A (wd_Acts g h0 q0 e0_6) := by rw [he]; exact hD
  refine lv_aload_n hx hb d_Acts_beginToWait_7 rfl (lv_at hl 0 rfl) ?_
  refine va_get (D := (dC, dI)) (ci := 6) (v := .ref (q0 8)) (C := "AlarmMatrix$Acts") (T := T_Acts) (N := 13) hx hb hts i_Acts hown hK hP 0 rfl rfl 8 (by decide) (hts _ k1_168) (fun _ h9 => h9) rfl d_Acts_beginToWait_8 ?_
  refine lv_iload_n hx hb d_Acts_beginToWait_11 rfl (lv_at hl 1 rfl) ?_
  refine lv_iload_n hx hb d_Acts_beginToWait_12 rfl (lv_at hl 2 rfl) ?_
  obtain ⟨h_13, hm⟩ := ck_s hm
  obtain ⟨e0_13, he, hm⟩ := lz_s hm
  refine va_iast (f := (e0_6 8)) hx hb hK hP hD hS 8 0 rfl rfl h_13 d_Acts_beginToWait_13 (fun H locs hP hD hS => ?_)
  have hP : va_P (dC, dI) vwCl (wd_Acts g h0 q0 e0_13) H := by rw [he]; exact hP
  have hD : va_D A (wd_Acts g h0 q0 e0_13) := by rw [he]; exact hD
  refine lv_aload_n hx hb d_Acts_beginToWait_14 rfl (lv_at hl 0 rfl) ?_
  refine va_get (D := (dC, dI)) (ci := 6) (v := .ref (q0 9)) (C := "AlarmMatrix$Acts") (T := T_Acts) (N := 13) hx hb hts i_Acts hown hK hP 0 rfl rfl 9 (by decide) (hts _ k1_169) (fun _ h9 => h9) rfl d_Acts_beginToWait_15 ?_
  refine lv_iload_n hx hb d_Acts_beginToWait_18 rfl (lv_at hl 1 rfl) ?_
  refine lv_iconst (v := (0 : Int32)) hx hb d_Acts_beginToWait_19 (by decide) ?_
  obtain ⟨h_20, hm⟩ := ck_s hm
  obtain ⟨e0_20, he, hm⟩ := lz_s hm
  refine va_zast (f := (e0_13 9)) hx hb hK hP hD hS 9 1 rfl rfl h_20 d_Acts_beginToWait_20 (fun H locs hP hD hS => ?_)
  have hP : va_P (dC, dI) vwCl (wd_Acts g h0 q0 e0_20) H := by rw [he]; exact hP
  have hD : va_D A (wd_Acts g h0 q0 e0_20) := by rw [he]; exact hD
  refine lv_aload_n hx hb d_Acts_beginToWait_21 rfl (lv_at hl 0 rfl) ?_
  refine va_get (D := (dC, dI)) (ci := 6) (v := .ref (q0 10)) (C := "AlarmMatrix$Acts") (T := T_Acts) (N := 13) hx hb hts i_Acts hown hK hP 0 rfl rfl 10 (by decide) (hts _ k1_170) (fun _ h9 => h9) rfl d_Acts_beginToWait_22 ?_
  refine lv_iload_n hx hb d_Acts_beginToWait_25 rfl (lv_at hl 1 rfl) ?_
  refine lv_iconst (v := (0 : Int32)) hx hb d_Acts_beginToWait_26 (by decide) ?_
  obtain ⟨h_27, hm⟩ := ck_s hm
  obtain ⟨e0_27, he, hm⟩ := lz_s hm
  refine va_zast (f := (e0_20 10)) hx hb hK hP hD hS 10 1 rfl rfl h_27 d_Acts_beginToWait_27 (fun H locs hP hD hS => ?_)
  have hP : va_P (dC, dI) vwCl (wd_Acts g h0 q0 e0_27) H := by rw [he]; exact hP
  have hD : va_D A (wd_Acts g h0 q0 e0_27) := by rw [he]; exact hD
  obtain rfl := Option.some.inj hm
  rw [hQ]
  exact krv hx hb hr hlocks hAe hP hK hD hS d_Acts_beginToWait_28
abbrev b_Acts_heed : ByteArray := prog_2_method_13_code
abbrev y_Acts_heed : MethodName := ⟨"AlarmMatrix$Acts", "heed", "(II)I"⟩
theorem d_Acts_heed_0 : decode b_Acts_heed 0 = .ok (.aload_n 0, 1) := by decide +kernel
theorem d_Acts_heed_1 : decode b_Acts_heed 1 = .ok (.getfield 35, 3) := by decide +kernel
theorem d_Acts_heed_4 : decode b_Acts_heed 4 = .ok (.iload_n 1, 1) := by decide +kernel
theorem d_Acts_heed_5 : decode b_Acts_heed 5 = .ok (.iaload, 1) := by decide +kernel
theorem d_Acts_heed_6 : decode b_Acts_heed 6 = .ok (.ifCond .ne 9, 3) := by decide +kernel
theorem d_Acts_heed_9 : decode b_Acts_heed 9 = .ok (.aload_n 0, 1) := by decide +kernel
theorem d_Acts_heed_10 : decode b_Acts_heed 10 = .ok (.iload_n 1, 1) := by decide +kernel
theorem d_Acts_heed_11 : decode b_Acts_heed 11 = .ok (.iload_n 2, 1) := by decide +kernel
theorem d_Acts_heed_12 : decode b_Acts_heed 12 = .ok (.invokevirtual 79, 3) := by decide +kernel
theorem d_Acts_heed_15 : decode b_Acts_heed 15 = .ok (.aload_n 0, 1) := by decide +kernel
theorem d_Acts_heed_16 : decode b_Acts_heed 16 = .ok (.getfield 35, 3) := by decide +kernel
theorem d_Acts_heed_19 : decode b_Acts_heed 19 = .ok (.iload_n 1, 1) := by decide +kernel
theorem d_Acts_heed_20 : decode b_Acts_heed 20 = .ok (.iaload, 1) := by decide +kernel
theorem d_Acts_heed_21 : decode b_Acts_heed 21 = .ok (.iconst 1, 1) := by decide +kernel
theorem d_Acts_heed_22 : decode b_Acts_heed 22 = .ok (.if_icmp .ne 12, 3) := by decide +kernel
theorem d_Acts_heed_25 : decode b_Acts_heed 25 = .ok (.aload_n 0, 1) := by decide +kernel
theorem d_Acts_heed_26 : decode b_Acts_heed 26 = .ok (.iload_n 1, 1) := by decide +kernel
theorem d_Acts_heed_27 : decode b_Acts_heed 27 = .ok (.iload_n 2, 1) := by decide +kernel
theorem d_Acts_heed_28 : decode b_Acts_heed 28 = .ok (.invokevirtual 83, 3) := by decide +kernel
theorem d_Acts_heed_31 : decode b_Acts_heed 31 = .ok (.ifCond .ne 5, 3) := by decide +kernel
theorem d_Acts_heed_34 : decode b_Acts_heed 34 = .ok (.iconst (-1), 1) := by decide +kernel
theorem d_Acts_heed_35 : decode b_Acts_heed 35 = .ok (.ireturn, 1) := by decide +kernel
theorem d_Acts_heed_36 : decode b_Acts_heed 36 = .ok (.aload_n 0, 1) := by decide +kernel
theorem d_Acts_heed_37 : decode b_Acts_heed 37 = .ok (.getfield 35, 3) := by decide +kernel
theorem d_Acts_heed_40 : decode b_Acts_heed 40 = .ok (.iload_n 1, 1) := by decide +kernel
theorem d_Acts_heed_41 : decode b_Acts_heed 41 = .ok (.iconst 2, 1) := by decide +kernel
theorem d_Acts_heed_42 : decode b_Acts_heed 42 = .ok (.iastore, 1) := by decide +kernel
theorem d_Acts_heed_43 : decode b_Acts_heed 43 = .ok (.iconst 1, 1) := by decide +kernel
theorem d_Acts_heed_44 : decode b_Acts_heed 44 = .ok (.ireturn, 1) := by decide +kernel
def m_Acts_heed (F : Nat) (x0 : St) (a1 : Int32) (a2 : Int32) : Option (Int32 × St) :=
  (ck a1 20 (if ((x0 7) a1.toNatClampNeg) = (0 : Int32) then (bn1 (m_Acts_beginToWait F x0 a1 a2) (fun z0_12 => (ck a1 20 (if ((z0_12 7) a1.toNatClampNeg) = (1 : Int32) then (bn1 (m_Acts_isDue F z0_12 a1 a2) (fun r28 => (if r28 = (0 : Int32) then (some ((-1 : Int32), z0_12)) else (ck a1 20 (lz (st z0_12 7 (upd (z0_12 7) a1.toNatClampNeg (2 : Int32))) (fun e0_42 => (some ((1 : Int32), e0_42)))))))) else (some ((-1 : Int32), z0_12)))))) else (ck a1 20 (if ((x0 7) a1.toNatClampNeg) = (1 : Int32) then (bn1 (m_Acts_isDue F x0 a1 a2) (fun r28 => (if r28 = (0 : Int32) then (some ((-1 : Int32), x0)) else (ck a1 20 (lz (st x0 7 (upd (x0 7) a1.toNatClampNeg (2 : Int32))) (fun e0_42 => (some ((1 : Int32), e0_42)))))))) else (some ((-1 : Int32), x0))))))
abbrev rm_Acts_heed : Room := { frames := 1, cells := 0, slots := 0, locals := 22 }
set_option maxHeartbeats 4000000 in
set_option maxRecDepth 100000 in
theorem c_Acts_heed {G : (Nat → Prop) → State → Prop} (hG : gok G) (hGn : gN G) (l : Launch) (dC : Nat → ClassId) (dI : Nat → Nat → Nat) (g : Nat → ClassId) (F : Nat) (sz : Nat) (h0 : Nat) (q0 : Nat → Nat) (x0 : St) (a1 : Int32) (a2 : Int32) {o : Int32 × St} (hm : m_Acts_heed F x0 a1 a2 = some o) : Met l y_Acts_heed (.code y_Acts_heed b_Acts_heed 3 (some .int) :: gw) rm_Acts_heed (kq (dC, dI) vwCl (tyv g) G [.ref h0, .int a1, .int a2] sz (wd_Acts g h0 q0 x0)) (kqi (dC, dI) vwCl (tyv g) (wd_Acts g h0 q0 x0) o.1 (wd_Acts g h0 q0 (o.2)) sz) 0 0 (va_A (wd_Acts g h0 q0 x0) sz) := by
  unfold m_Acts_heed at hm
  refine km (Qc := fun sz => kqi (dC, dI) vwCl (tyv g) (wd_Acts g h0 q0 x0) o.1 (wd_Acts g h0 q0 (o.2)) sz) (cc := b_Acts_heed) (maxL := 3) (ret := some .int) (by decide) rfl (Nat.le_of_ble_eq_true rfl) ?_
  intro p e s m args below meth c Q hQ hx hb hr hts hown hlocks hml hnm H locs A hAe hA hP hK hD hS hGA ls hl
  have hl : lv_has ls 3 [(0, .ref h0), (1, .int a1), (2, .int a2)] := hl
  have hts : ∀ w ∈ gw, w.before args s = true := fun w h => hts w (List.mem_cons_of_mem _ h)
  have hown : s.vm.findClass "AlarmMatrix$Acts" = some m.cls := hown
  refine lv_aload_n hx hb d_Acts_heed_0 rfl (lv_at hl 0 rfl) ?_
  refine va_get (D := (dC, dI)) (ci := 6) (v := .ref (q0 7)) (C := "AlarmMatrix$Acts") (T := T_Acts) (N := 13) hx hb hts i_Acts hown hK hP 0 rfl rfl 7 (by decide) (hts _ k1_167) (fun _ h9 => h9) rfl d_Acts_heed_1 ?_
  refine lv_iload_n hx hb d_Acts_heed_4 rfl (lv_at hl 1 rfl) ?_
  obtain ⟨h_5, hm⟩ := ck_s hm
  refine va_iald (f := (x0 7)) hx hb hK hP 7 0 rfl rfl h_5 d_Acts_heed_5 ?_
  refine lv_if_ne (tgt := 15) hx hb d_Acts_heed_6 (by decide) (fun hc => ?_) (fun hc => ?_)
  · replace hm := if_f hm hc
    refine lv_aload_n hx hb d_Acts_heed_15 rfl (lv_at hl 0 rfl) ?_
    refine va_get (D := (dC, dI)) (ci := 6) (v := .ref (q0 7)) (C := "AlarmMatrix$Acts") (T := T_Acts) (N := 13) hx hb hts i_Acts hown hK hP 0 rfl rfl 7 (by decide) (hts _ k1_167) (fun _ h9 => h9) rfl d_Acts_heed_16 ?_
    refine lv_iload_n hx hb d_Acts_heed_19 rfl (lv_at hl 1 rfl) ?_
    obtain ⟨h_20, hm⟩ := ck_s hm
    refine va_iald (f := (x0 7)) hx hb hK hP 7 0 rfl rfl h_20 d_Acts_heed_20 ?_
    refine lv_iconst (v := (1 : Int32)) hx hb d_Acts_heed_21 (by decide) ?_
    refine lv_icmp_ne (tgt := 34) hx hb d_Acts_heed_22 (by decide) (fun hc => ?_) (fun hc => ?_)
    · replace hm := if_f hm hc
      refine lv_iconst (v := (-1 : Int32)) hx hb d_Acts_heed_34 (by decide) ?_
      obtain rfl := Option.some.inj hm
      rw [hQ]
      exact kri hx hb hr hlocks hAe hP hK hD hS d_Acts_heed_35
    · replace hm := if_t hm hc
      refine lv_aload_n hx hb d_Acts_heed_25 rfl (lv_at hl 0 rfl) ?_
      refine lv_iload_n hx hb d_Acts_heed_26 rfl (lv_at hl 1 rfl) ?_
      refine lv_iload_n hx hb d_Acts_heed_27 rfl (lv_at hl 2 rfl) ?_
      obtain ⟨r28, hcl, hm⟩ := bn1_s hm
      refine kci (wc := wd_Acts g h0 q0 x0) (wr := ([] : va_W)) (w1 := wd_Acts g h0 q0 x0) hP hD hS hA [0, 1, 2, 3, 4, 5, 6, 7, 8, 9, 10, 11, 12] [] rfl rfl (by decide) (by decide) (va_runV (As := [.int a1, .int a2]) (rest := []) ⟨hx, hb, hml, hown, hts⟩ (c_Acts_isDue hG hGn l dC dI g F H.size h0 q0 x0 a1 a2 hcl) (cwV 2 hts (gdV k4_160 k4_162 kp_18 k1_9 k4_163) rfl rfl rfl (by decide +kernel) ⟨Nat.le_of_ble_eq_true rfl, Nat.le_of_ble_eq_true rfl⟩) (kpV hG hP hK hD hS hA hGA [0, 1, 2, 3, 4, 5, 6, 7, 8, 9, 10, 11, 12] (by decide) rfl (ci := 6) (q0 := 0) rfl rfl rfl) rfl rfl hl.1 rfl (lv_room (Nat.le_of_ble_eq_true rfl)) d_Acts_heed_28 ⟨Nat.le_of_ble_eq_true rfl, Nat.le_of_ble_eq_true rfl⟩) (fun H locs hP hD hS => ?_)
      have hP : va_P (dC, dI) vwCl (wd_Acts g h0 q0 x0) H := hP
      have hD : va_D A (wd_Acts g h0 q0 x0) := hD
      refine lv_if_ne (tgt := 36) hx hb d_Acts_heed_31 (by decide) (fun hc => ?_) (fun hc => ?_)
      · replace hm := if_f hm hc
        refine lv_aload_n hx hb d_Acts_heed_36 rfl (lv_at hl 0 rfl) ?_
        refine va_get (D := (dC, dI)) (ci := 6) (v := .ref (q0 7)) (C := "AlarmMatrix$Acts") (T := T_Acts) (N := 13) hx hb hts i_Acts hown hK hP 0 rfl rfl 7 (by decide) (hts _ k1_167) (fun _ h9 => h9) rfl d_Acts_heed_37 ?_
        refine lv_iload_n hx hb d_Acts_heed_40 rfl (lv_at hl 1 rfl) ?_
        refine lv_iconst (v := (2 : Int32)) hx hb d_Acts_heed_41 (by decide) ?_
        obtain ⟨h_42, hm⟩ := ck_s hm
        obtain ⟨e0_42, he, hm⟩ := lz_s hm
        refine va_iast (f := (x0 7)) hx hb hK hP hD hS 7 0 rfl rfl h_42 d_Acts_heed_42 (fun H locs hP hD hS => ?_)
        have hP : va_P (dC, dI) vwCl (wd_Acts g h0 q0 e0_42) H := by rw [he]; exact hP
        have hD : va_D A (wd_Acts g h0 q0 e0_42) := by rw [he]; exact hD
        refine lv_iconst (v := (1 : Int32)) hx hb d_Acts_heed_43 (by decide) ?_
        obtain rfl := Option.some.inj hm
        rw [hQ]
        exact kri hx hb hr hlocks hAe hP hK hD hS d_Acts_heed_44
      · replace hm := if_t hm hc
        refine lv_iconst (v := (-1 : Int32)) hx hb d_Acts_heed_34 (by decide) ?_
        obtain rfl := Option.some.inj hm
        rw [hQ]
        exact kri hx hb hr hlocks hAe hP hK hD hS d_Acts_heed_35
  · replace hm := if_t hm hc
    refine lv_aload_n hx hb d_Acts_heed_9 rfl (lv_at hl 0 rfl) ?_
    refine lv_iload_n hx hb d_Acts_heed_10 rfl (lv_at hl 1 rfl) ?_
    refine lv_iload_n hx hb d_Acts_heed_11 rfl (lv_at hl 2 rfl) ?_
    obtain ⟨z0_12, hcl, hm⟩ := bn1_s hm
    refine kcv (wc := wd_Acts g h0 q0 x0) (wr := ([] : va_W)) (w1 := wd_Acts g h0 q0 z0_12) hP hD hS hA [0, 1, 2, 3, 4, 5, 6, 7, 8, 9, 10, 11, 12] [] rfl rfl (by decide) (by decide) (va_runV (As := [.int a1, .int a2]) (rest := []) ⟨hx, hb, hml, hown, hts⟩ (c_Acts_beginToWait hG hGn l dC dI g F H.size h0 q0 x0 a1 a2 hcl) (cwV 2 hts (gdV k4_156 k4_158 kp_17 k1_9 k4_159) rfl rfl rfl (by decide +kernel) ⟨Nat.le_of_ble_eq_true rfl, Nat.le_of_ble_eq_true rfl⟩) (kpV hG hP hK hD hS hA hGA [0, 1, 2, 3, 4, 5, 6, 7, 8, 9, 10, 11, 12] (by decide) rfl (ci := 6) (q0 := 0) rfl rfl rfl) rfl rfl hl.1 rfl (lv_room (Nat.le_of_ble_eq_true rfl)) d_Acts_heed_12 ⟨Nat.le_of_ble_eq_true rfl, Nat.le_of_ble_eq_true rfl⟩) (fun H locs hP hD hS => ?_)
    have hP : va_P (dC, dI) vwCl (wd_Acts g h0 q0 z0_12) H := hP
    have hD : va_D A (wd_Acts g h0 q0 z0_12) := hD
    refine lv_aload_n hx hb d_Acts_heed_15 rfl (lv_at hl 0 rfl) ?_
    refine va_get (D := (dC, dI)) (ci := 6) (v := .ref (q0 7)) (C := "AlarmMatrix$Acts") (T := T_Acts) (N := 13) hx hb hts i_Acts hown hK hP 0 rfl rfl 7 (by decide) (hts _ k1_167) (fun _ h9 => h9) rfl d_Acts_heed_16 ?_
    refine lv_iload_n hx hb d_Acts_heed_19 rfl (lv_at hl 1 rfl) ?_
    obtain ⟨h_20, hm⟩ := ck_s hm
    refine va_iald (f := (z0_12 7)) hx hb hK hP 7 0 rfl rfl h_20 d_Acts_heed_20 ?_
    refine lv_iconst (v := (1 : Int32)) hx hb d_Acts_heed_21 (by decide) ?_
    refine lv_icmp_ne (tgt := 34) hx hb d_Acts_heed_22 (by decide) (fun hc => ?_) (fun hc => ?_)
    · replace hm := if_f hm hc
      refine lv_iconst (v := (-1 : Int32)) hx hb d_Acts_heed_34 (by decide) ?_
      obtain rfl := Option.some.inj hm
      rw [hQ]
      exact kri hx hb hr hlocks hAe hP hK hD hS d_Acts_heed_35
    · replace hm := if_t hm hc
      refine lv_aload_n hx hb d_Acts_heed_25 rfl (lv_at hl 0 rfl) ?_
      refine lv_iload_n hx hb d_Acts_heed_26 rfl (lv_at hl 1 rfl) ?_
      refine lv_iload_n hx hb d_Acts_heed_27 rfl (lv_at hl 2 rfl) ?_
      obtain ⟨r28, hcl, hm⟩ := bn1_s hm
      refine kci (wc := wd_Acts g h0 q0 z0_12) (wr := ([] : va_W)) (w1 := wd_Acts g h0 q0 z0_12) hP hD hS hA [0, 1, 2, 3, 4, 5, 6, 7, 8, 9, 10, 11, 12] [] rfl rfl (by decide) (by decide) (va_runV (As := [.int a1, .int a2]) (rest := []) ⟨hx, hb, hml, hown, hts⟩ (c_Acts_isDue hG hGn l dC dI g F H.size h0 q0 z0_12 a1 a2 hcl) (cwV 2 hts (gdV k4_160 k4_162 kp_18 k1_9 k4_163) rfl rfl rfl (by decide +kernel) ⟨Nat.le_of_ble_eq_true rfl, Nat.le_of_ble_eq_true rfl⟩) (kpV hG hP hK hD hS hA hGA [0, 1, 2, 3, 4, 5, 6, 7, 8, 9, 10, 11, 12] (by decide) rfl (ci := 6) (q0 := 0) rfl rfl rfl) rfl rfl hl.1 rfl (lv_room (Nat.le_of_ble_eq_true rfl)) d_Acts_heed_28 ⟨Nat.le_of_ble_eq_true rfl, Nat.le_of_ble_eq_true rfl⟩) (fun H locs hP hD hS => ?_)
      have hP : va_P (dC, dI) vwCl (wd_Acts g h0 q0 z0_12) H := hP
      have hD : va_D A (wd_Acts g h0 q0 z0_12) := hD
      refine lv_if_ne (tgt := 36) hx hb d_Acts_heed_31 (by decide) (fun hc => ?_) (fun hc => ?_)
      · replace hm := if_f hm hc
        refine lv_aload_n hx hb d_Acts_heed_36 rfl (lv_at hl 0 rfl) ?_
        refine va_get (D := (dC, dI)) (ci := 6) (v := .ref (q0 7)) (C := "AlarmMatrix$Acts") (T := T_Acts) (N := 13) hx hb hts i_Acts hown hK hP 0 rfl rfl 7 (by decide) (hts _ k1_167) (fun _ h9 => h9) rfl d_Acts_heed_37 ?_
        refine lv_iload_n hx hb d_Acts_heed_40 rfl (lv_at hl 1 rfl) ?_
        refine lv_iconst (v := (2 : Int32)) hx hb d_Acts_heed_41 (by decide) ?_
        obtain ⟨h_42, hm⟩ := ck_s hm
        obtain ⟨e0_42, he, hm⟩ := lz_s hm
        refine va_iast (f := (z0_12 7)) hx hb hK hP hD hS 7 0 rfl rfl h_42 d_Acts_heed_42 (fun H locs hP hD hS => ?_)
        have hP : va_P (dC, dI) vwCl (wd_Acts g h0 q0 e0_42) H := by rw [he]; exact hP
        have hD : va_D A (wd_Acts g h0 q0 e0_42) := by rw [he]; exact hD
        refine lv_iconst (v := (1 : Int32)) hx hb d_Acts_heed_43 (by decide) ?_
        obtain rfl := Option.some.inj hm
        rw [hQ]
        exact kri hx hb hr hlocks hAe hP hK hD hS d_Acts_heed_44
      · replace hm := if_t hm hc
        refine lv_iconst (v := (-1 : Int32)) hx hb d_Acts_heed_34 (by decide) ?_
        obtain rfl := Option.some.inj hm
        rw [hQ]
        exact kri hx hb hr hlocks hAe hP hK hD hS d_Acts_heed_35
abbrev b_Acts_goOn : ByteArray := prog_2_method_12_code
abbrev y_Acts_goOn : MethodName := ⟨"AlarmMatrix$Acts", "goOn", "(ILAlarmMatrix$Events;)I"⟩
theorem d_Acts_goOn_0 : decode b_Acts_goOn 0 = .ok (.iconst 0, 1) := by decide +kernel
theorem d_Acts_goOn_1 : decode b_Acts_goOn 1 = .ok (.istore_n 3, 1) := by decide +kernel
theorem d_Acts_goOn_2 : decode b_Acts_goOn 2 = .ok (.iconst 0, 1) := by decide +kernel
theorem d_Acts_goOn_3 : decode b_Acts_goOn 3 = .ok (.istore 4, 2) := by decide +kernel
theorem d_Acts_goOn_5 : decode b_Acts_goOn 5 = .ok (.iload 4, 2) := by decide +kernel
theorem d_Acts_goOn_7 : decode b_Acts_goOn 7 = .ok (.aload_n 0, 1) := by decide +kernel
theorem d_Acts_goOn_8 : decode b_Acts_goOn 8 = .ok (.getfield 31, 3) := by decide +kernel
theorem d_Acts_goOn_11 : decode b_Acts_goOn 11 = .ok (.if_icmp .ge 64, 3) := by decide +kernel
theorem d_Acts_goOn_14 : decode b_Acts_goOn 14 = .ok (.aload_n 0, 1) := by decide +kernel
theorem d_Acts_goOn_15 : decode b_Acts_goOn 15 = .ok (.getfield 28, 3) := by decide +kernel
theorem d_Acts_goOn_18 : decode b_Acts_goOn 18 = .ok (.iload 4, 2) := by decide +kernel
theorem d_Acts_goOn_20 : decode b_Acts_goOn 20 = .ok (.iaload, 1) := by decide +kernel
theorem d_Acts_goOn_21 : decode b_Acts_goOn 21 = .ok (.istore 5, 2) := by decide +kernel
theorem d_Acts_goOn_23 : decode b_Acts_goOn 23 = .ok (.aload_n 0, 1) := by decide +kernel
theorem d_Acts_goOn_24 : decode b_Acts_goOn 24 = .ok (.getfield 47, 3) := by decide +kernel
theorem d_Acts_goOn_27 : decode b_Acts_goOn 27 = .ok (.iload 5, 2) := by decide +kernel
theorem d_Acts_goOn_29 : decode b_Acts_goOn 29 = .ok (.baload, 1) := by decide +kernel
theorem d_Acts_goOn_30 : decode b_Acts_goOn 30 = .ok (.ifCond .eq 13, 3) := by decide +kernel
theorem d_Acts_goOn_33 : decode b_Acts_goOn 33 = .ok (.aload_n 0, 1) := by decide +kernel
theorem d_Acts_goOn_34 : decode b_Acts_goOn 34 = .ok (.iload 5, 2) := by decide +kernel
theorem d_Acts_goOn_36 : decode b_Acts_goOn 36 = .ok (.iload_n 1, 1) := by decide +kernel
theorem d_Acts_goOn_37 : decode b_Acts_goOn 37 = .ok (.invokevirtual 65, 3) := by decide +kernel
theorem d_Acts_goOn_40 : decode b_Acts_goOn 40 = .ok (.goto 9, 3) := by decide +kernel
theorem d_Acts_goOn_43 : decode b_Acts_goOn 43 = .ok (.aload_n 0, 1) := by decide +kernel
theorem d_Acts_goOn_44 : decode b_Acts_goOn 44 = .ok (.iload 5, 2) := by decide +kernel
theorem d_Acts_goOn_46 : decode b_Acts_goOn 46 = .ok (.invokevirtual 69, 3) := by decide +kernel
theorem d_Acts_goOn_49 : decode b_Acts_goOn 49 = .ok (.istore 6, 2) := by decide +kernel
theorem d_Acts_goOn_51 : decode b_Acts_goOn 51 = .ok (.iload 6, 2) := by decide +kernel
theorem d_Acts_goOn_53 : decode b_Acts_goOn 53 = .ok (.iconst (-1), 1) := by decide +kernel
theorem d_Acts_goOn_54 : decode b_Acts_goOn 54 = .ok (.if_icmp .eq 15, 3) := by decide +kernel
theorem d_Acts_goOn_57 : decode b_Acts_goOn 57 = .ok (.aload_n 2, 1) := by decide +kernel
theorem d_Acts_goOn_58 : decode b_Acts_goOn 58 = .ok (.iload_n 1, 1) := by decide +kernel
theorem d_Acts_goOn_59 : decode b_Acts_goOn 59 = .ok (.iload 5, 2) := by decide +kernel
theorem d_Acts_goOn_61 : decode b_Acts_goOn 61 = .ok (.iload 6, 2) := by decide +kernel
theorem d_Acts_goOn_63 : decode b_Acts_goOn 63 = .ok (.invokevirtual 73, 3) := by decide +kernel
theorem d_Acts_goOn_66 : decode b_Acts_goOn 66 = .ok (.iinc 3 1, 3) := by decide +kernel
theorem d_Acts_goOn_69 : decode b_Acts_goOn 69 = .ok (.iinc 4 1, 3) := by decide +kernel
theorem d_Acts_goOn_72 : decode b_Acts_goOn 72 = .ok (.goto (-67), 3) := by decide +kernel
theorem d_Acts_goOn_75 : decode b_Acts_goOn 75 = .ok (.iload_n 3, 1) := by decide +kernel
theorem d_Acts_goOn_76 : decode b_Acts_goOn 76 = .ok (.ireturn, 1) := by decide +kernel
def m_Acts_goOn_B5 {R : Type} (F : Nat) (a1 : Int32) (k5_75 : Int32 → Int32 → St → St → Option R) (rec5 : Int32 → Int32 → St → St → Option R) (v3_5 : Int32) (v4_5 : Int32) (y0_5 : St) (y1_5 : St) : Option R :=
  (if (y0_5 6 0) ≤ v4_5 then (k5_75 v3_5 v4_5 y0_5 y1_5) else (ck v4_5 20 (ck ((y0_5 5) v4_5.toNatClampNeg) 20 (if ((y0_5 11) ((y0_5 5) v4_5.toNatClampNeg).toNatClampNeg) = (0 : Int32) then (bn2 (m_Acts_letGo F y0_5 ((y0_5 5) v4_5.toNatClampNeg)) (fun r46 z0_46 => (if r46 = (-1 : Int32) then (rec5 v3_5 (v4_5 + (1 : Int32)) z0_46 y1_5) else (bn1 (m_Events_add F y1_5 a1 ((y0_5 5) v4_5.toNatClampNeg) r46) (fun z1_63 => (rec5 (v3_5 + (1 : Int32)) (v4_5 + (1 : Int32)) z0_46 z1_63)))))) else (bn2 (m_Acts_heed F y0_5 ((y0_5 5) v4_5.toNatClampNeg) a1) (fun r37 z0_37 => (if r37 = (-1 : Int32) then (rec5 v3_5 (v4_5 + (1 : Int32)) z0_37 y1_5) else (bn1 (m_Events_add F y1_5 a1 ((y0_5 5) v4_5.toNatClampNeg) r37) (fun z1_63 => (rec5 (v3_5 + (1 : Int32)) (v4_5 + (1 : Int32)) z0_37 z1_63))))))))))
theorem m_Acts_goOn_B5_h {R : Type} {F : Nat} {a1 : Int32} {k5_75 : Int32 → Int32 → St → St → Option R} {rec5 : Int32 → Int32 → St → St → Option R} {v3_5 : Int32} {v4_5 : Int32} {y0_5 : St} {y1_5 : St} {o : R} (h : m_Acts_goOn_B5 F a1 k5_75 rec5 v3_5 v4_5 y0_5 y1_5 = some o) :
  (if (y0_5 6 0) ≤ v4_5 then (k5_75 v3_5 v4_5 y0_5 y1_5) else (ck v4_5 20 (ck ((y0_5 5) v4_5.toNatClampNeg) 20 (if ((y0_5 11) ((y0_5 5) v4_5.toNatClampNeg).toNatClampNeg) = (0 : Int32) then (bn2 (m_Acts_letGo F y0_5 ((y0_5 5) v4_5.toNatClampNeg)) (fun r46 z0_46 => (if r46 = (-1 : Int32) then (rec5 v3_5 (v4_5 + (1 : Int32)) z0_46 y1_5) else (bn1 (m_Events_add F y1_5 a1 ((y0_5 5) v4_5.toNatClampNeg) r46) (fun z1_63 => (rec5 (v3_5 + (1 : Int32)) (v4_5 + (1 : Int32)) z0_46 z1_63)))))) else (bn2 (m_Acts_heed F y0_5 ((y0_5 5) v4_5.toNatClampNeg) a1) (fun r37 z0_37 => (if r37 = (-1 : Int32) then (rec5 v3_5 (v4_5 + (1 : Int32)) z0_37 y1_5) else (bn1 (m_Events_add F y1_5 a1 ((y0_5 5) v4_5.toNatClampNeg) r37) (fun z1_63 => (rec5 (v3_5 + (1 : Int32)) (v4_5 + (1 : Int32)) z0_37 z1_63)))))))))) = some o := h
def m_Acts_goOn (F : Nat) (x0 : St) (x1 : St) (a1 : Int32) : Option (Int32 × St × St) :=
  (lq4 (m_Acts_goOn_B5 F a1 (fun v3_5 v4_5 y0_5 y1_5 => (some (v3_5, y0_5, y1_5)))) F (0 : Int32) (0 : Int32) x0 x1)
abbrev rm_Acts_goOn : Room := { frames := 2, cells := 0, slots := 0, locals := 44 }
set_option maxHeartbeats 4000000 in
set_option maxRecDepth 100000 in
theorem c_Acts_goOn {G : (Nat → Prop) → State → Prop} (hG : gok G) (hGn : gN G) (l : Launch) (dC : Nat → ClassId) (dI : Nat → Nat → Nat) (g : Nat → ClassId) (F : Nat) (sz : Nat) (h0 : Nat) (q0 : Nat → Nat) (x0 : St) (h1 : Nat) (q1 : Nat → Nat) (x1 : St) (a1 : Int32) {o : Int32 × St × St} (hm : m_Acts_goOn F x0 x1 a1 = some o) : Met l y_Acts_goOn (.code y_Acts_goOn b_Acts_goOn 7 (some .int) :: gw) rm_Acts_goOn (kq (dC, dI) vwCl (tyv g) G [.ref h0, .int a1, .ref h1] sz (wd_Acts g h0 q0 x0 ++ wd_Events g h1 q1 x1)) (kqi (dC, dI) vwCl (tyv g) (wd_Acts g h0 q0 x0 ++ wd_Events g h1 q1 x1) o.1 (wd_Acts g h0 q0 (o.2.1) ++ wd_Events g h1 q1 (o.2.2)) sz) 0 0 (va_A (wd_Acts g h0 q0 x0 ++ wd_Events g h1 q1 x1) sz) := by
  unfold m_Acts_goOn at hm
  refine km (Qc := fun sz => kqi (dC, dI) vwCl (tyv g) (wd_Acts g h0 q0 x0 ++ wd_Events g h1 q1 x1) o.1 (wd_Acts g h0 q0 (o.2.1) ++ wd_Events g h1 q1 (o.2.2)) sz) (cc := b_Acts_goOn) (maxL := 7) (ret := some .int) (by decide) rfl (Nat.le_of_ble_eq_true rfl) ?_
  intro p e s m args below meth c Q hQ hx hb hr hts hown hlocks hml hnm H locs A hAe hA hP hK hD hS hGA ls hl
  have hl : lv_has ls 7 [(0, .ref h0), (1, .int a1), (2, .ref h1)] := hl
  have hts : ∀ w ∈ gw, w.before args s = true := fun w h => hts w (List.mem_cons_of_mem _ h)
  have hown : s.vm.findClass "AlarmMatrix$Acts" = some m.cls := hown
  refine lv_iconst (v := (0 : Int32)) hx hb d_Acts_goOn_0 (by decide) ?_
  refine lv_istore_n (lv' := [(3, .int (0 : Int32)), (0, .ref h0), (1, .int a1), (2, .ref h1)]) hx hb d_Acts_goOn_1 rfl hl (by decide) rfl (fun ls hl => ?_)
  refine lv_iconst (v := (0 : Int32)) hx hb d_Acts_goOn_2 (by decide) ?_
  refine lv_istore (lv' := [(4, .int (0 : Int32)), (3, .int (0 : Int32)), (0, .ref h0), (1, .int a1), (2, .ref h1)]) hx hb d_Acts_goOn_3 hl (by decide) rfl (fun ls hl => ?_)
  have L5 : ∀ (n5 : Nat) (v3_5 : Int32) (v4_5 : Int32) (y0_5 : St) (y1_5 : St) (H : Heap) (locs : List Loc) (ls : Array Slot), lq4 (m_Acts_goOn_B5 F a1 (fun v3_5 v4_5 y0_5 y1_5 => (some (v3_5, y0_5, y1_5)))) n5 v3_5 v4_5 y0_5 y1_5 = some o → va_P (dC, dI) vwCl (wd_Acts g h0 q0 y0_5 ++ wd_Events g h1 q1 y1_5) H → va_D A (wd_Acts g h0 q0 y0_5 ++ wd_Events g h1 q1 y1_5) → va_S A s.heap H locs → lv_has ls 7 [(0, .ref h0), (1, .int a1), (2, .ref h1), (3, .int v3_5), (4, .int v4_5)] → W p l e rm_Acts_goOn s m args below meth c H locs 0 0 Q (F0 m 5 ls []) := by
    intro n5
    induction n5 with
    | zero => intro v3_5 v4_5 y0_5 y1_5 H locs ls hm; exact absurd hm (by intro z; cases z)
    | succ n5 ih5 =>
      intro v3_5 v4_5 y0_5 y1_5 H locs ls hm hP hD hS hl
      replace hm := m_Acts_goOn_B5_h (lq4_h hm)
      refine lv_iload hx hb d_Acts_goOn_5 (lv_at hl 4 rfl) ?_
      refine lv_aload_n hx hb d_Acts_goOn_7 rfl (lv_at hl 0 rfl) ?_
      refine va_get (D := (dC, dI)) (ci := 6) (v := .int (y0_5 6 0)) (C := "AlarmMatrix$Acts") (T := T_Acts) (N := 13) hx hb hts i_Acts hown hK hP 0 rfl rfl 6 (by decide) (hts _ k1_166) (fun _ h9 => h9) rfl d_Acts_goOn_8 ?_
      refine lv_icmp_ge (tgt := 75) hx hb d_Acts_goOn_11 (by decide) (fun hc => ?_) (fun hc => ?_)
      · replace hm := if_t hm hc
        refine lv_iload_n hx hb d_Acts_goOn_75 rfl (lv_at hl 3 rfl) ?_
        obtain rfl := Option.some.inj hm
        rw [hQ]
        exact kri hx hb hr hlocks hAe hP hK hD hS d_Acts_goOn_76
      · replace hm := if_f hm hc
        refine lv_aload_n hx hb d_Acts_goOn_14 rfl (lv_at hl 0 rfl) ?_
        refine va_get (D := (dC, dI)) (ci := 6) (v := .ref (q0 5)) (C := "AlarmMatrix$Acts") (T := T_Acts) (N := 13) hx hb hts i_Acts hown hK hP 0 rfl rfl 5 (by decide) (hts _ k1_165) (fun _ h9 => h9) rfl d_Acts_goOn_15 ?_
        refine lv_iload hx hb d_Acts_goOn_18 (lv_at hl 4 rfl) ?_
        obtain ⟨h_20, hm⟩ := ck_s hm
        refine va_iald (f := (y0_5 5)) hx hb hK hP 6 0 rfl rfl h_20 d_Acts_goOn_20 ?_
        refine lv_istore (lv' := [(5, .int ((y0_5 5) v4_5.toNatClampNeg)), (0, .ref h0), (1, .int a1), (2, .ref h1), (3, .int v3_5), (4, .int v4_5)]) hx hb d_Acts_goOn_21 hl (by decide) rfl (fun ls hl => ?_)
        refine lv_aload_n hx hb d_Acts_goOn_23 rfl (lv_at hl 1 rfl) ?_
        refine va_get (D := (dC, dI)) (ci := 6) (v := .ref (q0 11)) (C := "AlarmMatrix$Acts") (T := T_Acts) (N := 13) hx hb hts i_Acts hown hK hP 0 rfl rfl 11 (by decide) (hts _ k1_171) (fun _ h9 => h9) rfl d_Acts_goOn_24 ?_
        refine lv_iload hx hb d_Acts_goOn_27 (lv_at hl 0 rfl) ?_
        obtain ⟨h_29, hm⟩ := ck_s hm
        refine va_zald (f := (y0_5 11)) hx hb hK hP 11 1 rfl rfl h_29 d_Acts_goOn_29 ?_
        refine lv_if_eq (tgt := 43) hx hb d_Acts_goOn_30 (by decide) (fun hc => ?_) (fun hc => ?_)
        · replace hm := if_t hm hc
          refine lv_aload_n hx hb d_Acts_goOn_43 rfl (lv_at hl 1 rfl) ?_
          refine lv_iload hx hb d_Acts_goOn_44 (lv_at hl 0 rfl) ?_
          obtain ⟨r46, z0_46, hcl, hm⟩ := bn2_s hm
          refine kci (wc := wd_Acts g h0 q0 y0_5) (wr := wd_Events g h1 q1 y1_5) (w1 := wd_Acts g h0 q0 z0_46) hP hD hS hA [0, 1, 2, 3, 4, 5, 6, 7, 8, 9, 10, 11, 12] [13, 14, 15, 16] rfl rfl (by decide) (by decide) (va_runV (As := [.int ((y0_5 5) v4_5.toNatClampNeg)]) (rest := []) ⟨hx, hb, hml, hown, hts⟩ (c_Acts_letGo hG hGn l dC dI g F H.size h0 q0 y0_5 ((y0_5 5) v4_5.toNatClampNeg) hcl) (cwV 1 hts (gdV k4_164 k4_166 kp_19 k1_9 k4_167) rfl rfl rfl (by decide +kernel) ⟨Nat.le_of_ble_eq_true rfl, Nat.le_of_ble_eq_true rfl⟩) (kpV hG hP hK hD hS hA hGA [0, 1, 2, 3, 4, 5, 6, 7, 8, 9, 10, 11, 12] (by decide) rfl (ci := 6) (q0 := 0) rfl rfl rfl) rfl rfl hl.1 rfl (lv_room (Nat.le_of_ble_eq_true rfl)) d_Acts_goOn_46 ⟨Nat.le_of_ble_eq_true rfl, Nat.le_of_ble_eq_true rfl⟩) (fun H locs hP hD hS => ?_)
          have hP : va_P (dC, dI) vwCl (wd_Acts g h0 q0 z0_46 ++ wd_Events g h1 q1 y1_5) H := hP.sub (ws' := wd_Acts g h0 q0 z0_46 ++ wd_Events g h1 q1 y1_5) [4, 5, 6, 7, 8, 9, 10, 11, 12, 13, 14, 15, 16, 0, 1, 2, 3] rfl
          have hD : va_D A (wd_Acts g h0 q0 z0_46 ++ wd_Events g h1 q1 y1_5) := hD.sub (ws' := wd_Acts g h0 q0 z0_46 ++ wd_Events g h1 q1 y1_5) [4, 5, 6, 7, 8, 9, 10, 11, 12, 13, 14, 15, 16, 0, 1, 2, 3] (by decide) rfl
          refine lv_istore (lv' := [(6, .int r46), (5, .int ((y0_5 5) v4_5.toNatClampNeg)), (0, .ref h0), (1, .int a1), (2, .ref h1), (3, .int v3_5), (4, .int v4_5)]) hx hb d_Acts_goOn_49 hl (by decide) rfl (fun ls hl => ?_)
          refine lv_iload hx hb d_Acts_goOn_51 (lv_at hl 0 rfl) ?_
          refine lv_iconst (v := (-1 : Int32)) hx hb d_Acts_goOn_53 (by decide) ?_
          refine lv_icmp_eq (tgt := 69) hx hb d_Acts_goOn_54 (by decide) (fun hc => ?_) (fun hc => ?_)
          · replace hm := if_t hm hc
            refine lv_iinc (v := (v4_5 + (1 : Int32))) (lv' := [(4, .int (v4_5 + (1 : Int32))), (6, .int r46), (5, .int ((y0_5 5) v4_5.toNatClampNeg)), (0, .ref h0), (1, .int a1), (2, .ref h1), (3, .int v3_5)]) hx hb d_Acts_goOn_69 hl (k := 6) rfl rfl (by decide) rfl (fun ls hl => ?_)
            refine lv_goto (tgt := 5) hx hb d_Acts_goOn_72 (by decide) ?_
            exact ih5 v3_5 (v4_5 + (1 : Int32)) z0_46 y1_5 H locs ls hm hP hD hS (lv_sub hl [3, 4, 5, 6, 0] rfl)
          · replace hm := if_f hm hc
            refine lv_aload_n hx hb d_Acts_goOn_57 rfl (lv_at hl 4 rfl) ?_
            refine lv_iload_n hx hb d_Acts_goOn_58 rfl (lv_at hl 3 rfl) ?_
            refine lv_iload hx hb d_Acts_goOn_59 (lv_at hl 1 rfl) ?_
            refine lv_iload hx hb d_Acts_goOn_61 (lv_at hl 0 rfl) ?_
            obtain ⟨z1_63, hcl, hm⟩ := bn1_s hm
            refine kcv (wc := wd_Events g h1 q1 y1_5) (wr := wd_Acts g h0 q0 z0_46) (w1 := wd_Events g h1 q1 z1_63) hP hD hS hA [13, 14, 15, 16] [0, 1, 2, 3, 4, 5, 6, 7, 8, 9, 10, 11, 12] rfl rfl (by decide) (by decide) (va_runV (As := [.int a1, .int ((y0_5 5) v4_5.toNatClampNeg), .int r46]) (rest := []) ⟨hx, hb, hml, hown, hts⟩ (c_Events_add hG hGn l dC dI g F H.size h1 q1 y1_5 a1 ((y0_5 5) v4_5.toNatClampNeg) r46 hcl) (cwV 3 hts (gdV k3_80 k3_81 k3_82 k1_6 k3_83) rfl rfl rfl (by decide +kernel) ⟨Nat.le_of_ble_eq_true rfl, Nat.le_of_ble_eq_true rfl⟩) (kpV hG hP hK hD hS hA hGA [13, 14, 15, 16] (by decide) rfl (ci := 9) (q0 := 0) rfl rfl rfl) rfl rfl hl.1 rfl (lv_room (Nat.le_of_ble_eq_true rfl)) d_Acts_goOn_63 ⟨Nat.le_of_ble_eq_true rfl, Nat.le_of_ble_eq_true rfl⟩) (fun H locs hP hD hS => ?_)
            have hP : va_P (dC, dI) vwCl (wd_Acts g h0 q0 z0_46 ++ wd_Events g h1 q1 z1_63) H := hP
            have hD : va_D A (wd_Acts g h0 q0 z0_46 ++ wd_Events g h1 q1 z1_63) := hD
            refine lv_iinc (v := (v3_5 + (1 : Int32))) (lv' := [(3, .int (v3_5 + (1 : Int32))), (6, .int r46), (5, .int ((y0_5 5) v4_5.toNatClampNeg)), (0, .ref h0), (1, .int a1), (2, .ref h1), (4, .int v4_5)]) hx hb d_Acts_goOn_66 hl (k := 5) rfl rfl (by decide) rfl (fun ls hl => ?_)
            refine lv_iinc (v := (v4_5 + (1 : Int32))) (lv' := [(4, .int (v4_5 + (1 : Int32))), (3, .int (v3_5 + (1 : Int32))), (6, .int r46), (5, .int ((y0_5 5) v4_5.toNatClampNeg)), (0, .ref h0), (1, .int a1), (2, .ref h1)]) hx hb d_Acts_goOn_69 hl (k := 6) rfl rfl (by decide) rfl (fun ls hl => ?_)
            refine lv_goto (tgt := 5) hx hb d_Acts_goOn_72 (by decide) ?_
            exact ih5 (v3_5 + (1 : Int32)) (v4_5 + (1 : Int32)) z0_46 z1_63 H locs ls hm hP hD hS (lv_sub hl [4, 5, 6, 1, 0] rfl)
        · replace hm := if_f hm hc
          refine lv_aload_n hx hb d_Acts_goOn_33 rfl (lv_at hl 1 rfl) ?_
          refine lv_iload hx hb d_Acts_goOn_34 (lv_at hl 0 rfl) ?_
          refine lv_iload_n hx hb d_Acts_goOn_36 rfl (lv_at hl 2 rfl) ?_
          obtain ⟨r37, z0_37, hcl, hm⟩ := bn2_s hm
          refine kci (wc := wd_Acts g h0 q0 y0_5) (wr := wd_Events g h1 q1 y1_5) (w1 := wd_Acts g h0 q0 z0_37) hP hD hS hA [0, 1, 2, 3, 4, 5, 6, 7, 8, 9, 10, 11, 12] [13, 14, 15, 16] rfl rfl (by decide) (by decide) (va_runV (As := [.int ((y0_5 5) v4_5.toNatClampNeg), .int a1]) (rest := []) ⟨hx, hb, hml, hown, hts⟩ (c_Acts_heed hG hGn l dC dI g F H.size h0 q0 y0_5 ((y0_5 5) v4_5.toNatClampNeg) a1 hcl) (cwV 2 hts (gdV k4_152 k4_154 kp_16 k1_9 k4_155) rfl rfl rfl (by decide +kernel) ⟨Nat.le_of_ble_eq_true rfl, Nat.le_of_ble_eq_true rfl⟩) (kpV hG hP hK hD hS hA hGA [0, 1, 2, 3, 4, 5, 6, 7, 8, 9, 10, 11, 12] (by decide) rfl (ci := 6) (q0 := 0) rfl rfl rfl) rfl rfl hl.1 rfl (lv_room (Nat.le_of_ble_eq_true rfl)) d_Acts_goOn_37 ⟨Nat.le_of_ble_eq_true rfl, Nat.le_of_ble_eq_true rfl⟩) (fun H locs hP hD hS => ?_)
          have hP : va_P (dC, dI) vwCl (wd_Acts g h0 q0 z0_37 ++ wd_Events g h1 q1 y1_5) H := hP.sub (ws' := wd_Acts g h0 q0 z0_37 ++ wd_Events g h1 q1 y1_5) [4, 5, 6, 7, 8, 9, 10, 11, 12, 13, 14, 15, 16, 0, 1, 2, 3] rfl
          have hD : va_D A (wd_Acts g h0 q0 z0_37 ++ wd_Events g h1 q1 y1_5) := hD.sub (ws' := wd_Acts g h0 q0 z0_37 ++ wd_Events g h1 q1 y1_5) [4, 5, 6, 7, 8, 9, 10, 11, 12, 13, 14, 15, 16, 0, 1, 2, 3] (by decide) rfl
          refine lv_goto (tgt := 49) hx hb d_Acts_goOn_40 (by decide) ?_
          refine lv_istore (lv' := [(6, .int r37), (5, .int ((y0_5 5) v4_5.toNatClampNeg)), (0, .ref h0), (1, .int a1), (2, .ref h1), (3, .int v3_5), (4, .int v4_5)]) hx hb d_Acts_goOn_49 hl (by decide) rfl (fun ls hl => ?_)
          refine lv_iload hx hb d_Acts_goOn_51 (lv_at hl 0 rfl) ?_
          refine lv_iconst (v := (-1 : Int32)) hx hb d_Acts_goOn_53 (by decide) ?_
          refine lv_icmp_eq (tgt := 69) hx hb d_Acts_goOn_54 (by decide) (fun hc => ?_) (fun hc => ?_)
          · replace hm := if_t hm hc
            refine lv_iinc (v := (v4_5 + (1 : Int32))) (lv' := [(4, .int (v4_5 + (1 : Int32))), (6, .int r37), (5, .int ((y0_5 5) v4_5.toNatClampNeg)), (0, .ref h0), (1, .int a1), (2, .ref h1), (3, .int v3_5)]) hx hb d_Acts_goOn_69 hl (k := 6) rfl rfl (by decide) rfl (fun ls hl => ?_)
            refine lv_goto (tgt := 5) hx hb d_Acts_goOn_72 (by decide) ?_
            exact ih5 v3_5 (v4_5 + (1 : Int32)) z0_37 y1_5 H locs ls hm hP hD hS (lv_sub hl [3, 4, 5, 6, 0] rfl)
          · replace hm := if_f hm hc
            refine lv_aload_n hx hb d_Acts_goOn_57 rfl (lv_at hl 4 rfl) ?_
            refine lv_iload_n hx hb d_Acts_goOn_58 rfl (lv_at hl 3 rfl) ?_
            refine lv_iload hx hb d_Acts_goOn_59 (lv_at hl 1 rfl) ?_
            refine lv_iload hx hb d_Acts_goOn_61 (lv_at hl 0 rfl) ?_
            obtain ⟨z1_63, hcl, hm⟩ := bn1_s hm
            refine kcv (wc := wd_Events g h1 q1 y1_5) (wr := wd_Acts g h0 q0 z0_37) (w1 := wd_Events g h1 q1 z1_63) hP hD hS hA [13, 14, 15, 16] [0, 1, 2, 3, 4, 5, 6, 7, 8, 9, 10, 11, 12] rfl rfl (by decide) (by decide) (va_runV (As := [.int a1, .int ((y0_5 5) v4_5.toNatClampNeg), .int r37]) (rest := []) ⟨hx, hb, hml, hown, hts⟩ (c_Events_add hG hGn l dC dI g F H.size h1 q1 y1_5 a1 ((y0_5 5) v4_5.toNatClampNeg) r37 hcl) (cwV 3 hts (gdV k3_80 k3_81 k3_82 k1_6 k3_83) rfl rfl rfl (by decide +kernel) ⟨Nat.le_of_ble_eq_true rfl, Nat.le_of_ble_eq_true rfl⟩) (kpV hG hP hK hD hS hA hGA [13, 14, 15, 16] (by decide) rfl (ci := 9) (q0 := 0) rfl rfl rfl) rfl rfl hl.1 rfl (lv_room (Nat.le_of_ble_eq_true rfl)) d_Acts_goOn_63 ⟨Nat.le_of_ble_eq_true rfl, Nat.le_of_ble_eq_true rfl⟩) (fun H locs hP hD hS => ?_)
            have hP : va_P (dC, dI) vwCl (wd_Acts g h0 q0 z0_37 ++ wd_Events g h1 q1 z1_63) H := hP
            have hD : va_D A (wd_Acts g h0 q0 z0_37 ++ wd_Events g h1 q1 z1_63) := hD
            refine lv_iinc (v := (v3_5 + (1 : Int32))) (lv' := [(3, .int (v3_5 + (1 : Int32))), (6, .int r37), (5, .int ((y0_5 5) v4_5.toNatClampNeg)), (0, .ref h0), (1, .int a1), (2, .ref h1), (4, .int v4_5)]) hx hb d_Acts_goOn_66 hl (k := 5) rfl rfl (by decide) rfl (fun ls hl => ?_)
            refine lv_iinc (v := (v4_5 + (1 : Int32))) (lv' := [(4, .int (v4_5 + (1 : Int32))), (3, .int (v3_5 + (1 : Int32))), (6, .int r37), (5, .int ((y0_5 5) v4_5.toNatClampNeg)), (0, .ref h0), (1, .int a1), (2, .ref h1)]) hx hb d_Acts_goOn_69 hl (k := 6) rfl rfl (by decide) rfl (fun ls hl => ?_)
            refine lv_goto (tgt := 5) hx hb d_Acts_goOn_72 (by decide) ?_
            exact ih5 (v3_5 + (1 : Int32)) (v4_5 + (1 : Int32)) z0_37 z1_63 H locs ls hm hP hD hS (lv_sub hl [4, 5, 6, 1, 0] rfl)
  exact L5 F (0 : Int32) (0 : Int32) x0 x1 H locs ls hm hP hD hS (lv_sub hl [2, 3, 4, 1, 0] rfl)
abbrev b_Acts_waitAnew : ByteArray := prog_2_method_17_code
abbrev y_Acts_waitAnew : MethodName := ⟨"AlarmMatrix$Acts", "waitAnew", "(I)I"⟩
theorem d_Acts_waitAnew_0 : decode b_Acts_waitAnew 0 = .ok (.iconst 0, 1) := by decide +kernel
theorem d_Acts_waitAnew_1 : decode b_Acts_waitAnew 1 = .ok (.istore_n 2, 1) := by decide +kernel
theorem d_Acts_waitAnew_2 : decode b_Acts_waitAnew 2 = .ok (.iconst 0, 1) := by decide +kernel
theorem d_Acts_waitAnew_3 : decode b_Acts_waitAnew 3 = .ok (.istore_n 3, 1) := by decide +kernel
theorem d_Acts_waitAnew_4 : decode b_Acts_waitAnew 4 = .ok (.iload_n 3, 1) := by decide +kernel
theorem d_Acts_waitAnew_5 : decode b_Acts_waitAnew 5 = .ok (.bipush 20, 2) := by decide +kernel
theorem d_Acts_waitAnew_7 : decode b_Acts_waitAnew 7 = .ok (.if_icmp .ge 45, 3) := by decide +kernel
theorem d_Acts_waitAnew_10 : decode b_Acts_waitAnew 10 = .ok (.aload_n 0, 1) := by decide +kernel
theorem d_Acts_waitAnew_11 : decode b_Acts_waitAnew 11 = .ok (.getfield 35, 3) := by decide +kernel
theorem d_Acts_waitAnew_14 : decode b_Acts_waitAnew 14 = .ok (.iload_n 3, 1) := by decide +kernel
theorem d_Acts_waitAnew_15 : decode b_Acts_waitAnew 15 = .ok (.iaload, 1) := by decide +kernel
theorem d_Acts_waitAnew_16 : decode b_Acts_waitAnew 16 = .ok (.iconst 1, 1) := by decide +kernel
theorem d_Acts_waitAnew_17 : decode b_Acts_waitAnew 17 = .ok (.if_icmp .ne 29, 3) := by decide +kernel
theorem d_Acts_waitAnew_20 : decode b_Acts_waitAnew 20 = .ok (.aload_n 0, 1) := by decide +kernel
theorem d_Acts_waitAnew_21 : decode b_Acts_waitAnew 21 = .ok (.getfield 41, 3) := by decide +kernel
theorem d_Acts_waitAnew_24 : decode b_Acts_waitAnew 24 = .ok (.iload_n 3, 1) := by decide +kernel
theorem d_Acts_waitAnew_25 : decode b_Acts_waitAnew 25 = .ok (.baload, 1) := by decide +kernel
theorem d_Acts_waitAnew_26 : decode b_Acts_waitAnew 26 = .ok (.ifCond .ne 20, 3) := by decide +kernel
theorem d_Acts_waitAnew_29 : decode b_Acts_waitAnew 29 = .ok (.aload_n 0, 1) := by decide +kernel
theorem d_Acts_waitAnew_30 : decode b_Acts_waitAnew 30 = .ok (.getfield 41, 3) := by decide +kernel
theorem d_Acts_waitAnew_33 : decode b_Acts_waitAnew 33 = .ok (.iload_n 3, 1) := by decide +kernel
theorem d_Acts_waitAnew_34 : decode b_Acts_waitAnew 34 = .ok (.iconst 1, 1) := by decide +kernel
theorem d_Acts_waitAnew_35 : decode b_Acts_waitAnew 35 = .ok (.bastore, 1) := by decide +kernel
theorem d_Acts_waitAnew_36 : decode b_Acts_waitAnew 36 = .ok (.aload_n 0, 1) := by decide +kernel
theorem d_Acts_waitAnew_37 : decode b_Acts_waitAnew 37 = .ok (.getfield 38, 3) := by decide +kernel
theorem d_Acts_waitAnew_40 : decode b_Acts_waitAnew 40 = .ok (.iload_n 3, 1) := by decide +kernel
theorem d_Acts_waitAnew_41 : decode b_Acts_waitAnew 41 = .ok (.iload_n 1, 1) := by decide +kernel
theorem d_Acts_waitAnew_42 : decode b_Acts_waitAnew 42 = .ok (.iastore, 1) := by decide +kernel
theorem d_Acts_waitAnew_43 : decode b_Acts_waitAnew 43 = .ok (.iinc 2 1, 3) := by decide +kernel
theorem d_Acts_waitAnew_46 : decode b_Acts_waitAnew 46 = .ok (.iinc 3 1, 3) := by decide +kernel
theorem d_Acts_waitAnew_49 : decode b_Acts_waitAnew 49 = .ok (.goto (-45), 3) := by decide +kernel
theorem d_Acts_waitAnew_52 : decode b_Acts_waitAnew 52 = .ok (.iload_n 2, 1) := by decide +kernel
theorem d_Acts_waitAnew_53 : decode b_Acts_waitAnew 53 = .ok (.ireturn, 1) := by decide +kernel
def m_Acts_waitAnew_B4 {R : Type} (F : Nat) (a1 : Int32) (k4_52 : Int32 → Int32 → St → Option R) (rec4 : Int32 → Int32 → St → Option R) (v2_4 : Int32) (v3_4 : Int32) (y0_4 : St) : Option R :=
  (if (20 : Int32) ≤ v3_4 then (k4_52 v2_4 v3_4 y0_4) else (ck v3_4 20 (if ((y0_4 7) v3_4.toNatClampNeg) = (1 : Int32) then (ck v3_4 20 (if ((y0_4 9) v3_4.toNatClampNeg) = (0 : Int32) then (ck v3_4 20 (lz (st y0_4 9 (upd (y0_4 9) v3_4.toNatClampNeg (vp_nar .boolean (1 : Int32)))) (fun e0_35 => (ck v3_4 20 (lz (st e0_35 8 (upd (e0_35 8) v3_4.toNatClampNeg a1)) (fun e0_42 => (rec4 (v2_4 + (1 : Int32)) (v3_4 + (1 : Int32)) e0_42))))))) else (rec4 v2_4 (v3_4 + (1 : Int32)) y0_4))) else (rec4 v2_4 (v3_4 + (1 : Int32)) y0_4))))
theorem m_Acts_waitAnew_B4_h {R : Type} {F : Nat} {a1 : Int32} {k4_52 : Int32 → Int32 → St → Option R} {rec4 : Int32 → Int32 → St → Option R} {v2_4 : Int32} {v3_4 : Int32} {y0_4 : St} {o : R} (h : m_Acts_waitAnew_B4 F a1 k4_52 rec4 v2_4 v3_4 y0_4 = some o) :
  (if (20 : Int32) ≤ v3_4 then (k4_52 v2_4 v3_4 y0_4) else (ck v3_4 20 (if ((y0_4 7) v3_4.toNatClampNeg) = (1 : Int32) then (ck v3_4 20 (if ((y0_4 9) v3_4.toNatClampNeg) = (0 : Int32) then (ck v3_4 20 (lz (st y0_4 9 (upd (y0_4 9) v3_4.toNatClampNeg (vp_nar .boolean (1 : Int32)))) (fun e0_35 => (ck v3_4 20 (lz (st e0_35 8 (upd (e0_35 8) v3_4.toNatClampNeg a1)) (fun e0_42 => (rec4 (v2_4 + (1 : Int32)) (v3_4 + (1 : Int32)) e0_42))))))) else (rec4 v2_4 (v3_4 + (1 : Int32)) y0_4))) else (rec4 v2_4 (v3_4 + (1 : Int32)) y0_4)))) = some o := h
def m_Acts_waitAnew (F : Nat) (x0 : St) (a1 : Int32) : Option (Int32 × St) :=
  (lq3 (m_Acts_waitAnew_B4 F a1 (fun v2_4 v3_4 y0_4 => (some (v2_4, y0_4)))) F (0 : Int32) (0 : Int32) x0)
abbrev rm_Acts_waitAnew : Room := { frames := 0, cells := 0, slots := 0, locals := 0 }
set_option maxHeartbeats 4000000 in
set_option maxRecDepth 100000 in
theorem c_Acts_waitAnew {G : (Nat → Prop) → State → Prop} (hG : gok G) (hGn : gN G) (l : Launch) (dC : Nat → ClassId) (dI : Nat → Nat → Nat) (g : Nat → ClassId) (F : Nat) (sz : Nat) (h0 : Nat) (q0 : Nat → Nat) (x0 : St) (a1 : Int32) {o : Int32 × St} (hm : m_Acts_waitAnew F x0 a1 = some o) : Met l y_Acts_waitAnew (.code y_Acts_waitAnew b_Acts_waitAnew 4 (some .int) :: gw) rm_Acts_waitAnew (kq (dC, dI) vwCl (tyv g) G [.ref h0, .int a1] sz (wd_Acts g h0 q0 x0)) (kqi (dC, dI) vwCl (tyv g) (wd_Acts g h0 q0 x0) o.1 (wd_Acts g h0 q0 (o.2)) sz) 0 0 (va_A (wd_Acts g h0 q0 x0) sz) := by
  unfold m_Acts_waitAnew at hm
  refine km (Qc := fun sz => kqi (dC, dI) vwCl (tyv g) (wd_Acts g h0 q0 x0) o.1 (wd_Acts g h0 q0 (o.2)) sz) (cc := b_Acts_waitAnew) (maxL := 4) (ret := some .int) (by decide) rfl (Nat.le_of_ble_eq_true rfl) ?_
  intro p e s m args below meth c Q hQ hx hb hr hts hown hlocks hml hnm H locs A hAe hA hP hK hD hS hGA ls hl
  have hl : lv_has ls 4 [(0, .ref h0), (1, .int a1)] := hl
  have hts : ∀ w ∈ gw, w.before args s = true := fun w h => hts w (List.mem_cons_of_mem _ h)
  have hown : s.vm.findClass "AlarmMatrix$Acts" = some m.cls := hown
  refine lv_iconst (v := (0 : Int32)) hx hb d_Acts_waitAnew_0 (by decide) ?_
  refine lv_istore_n (lv' := [(2, .int (0 : Int32)), (0, .ref h0), (1, .int a1)]) hx hb d_Acts_waitAnew_1 rfl hl (by decide) rfl (fun ls hl => ?_)
  refine lv_iconst (v := (0 : Int32)) hx hb d_Acts_waitAnew_2 (by decide) ?_
  refine lv_istore_n (lv' := [(3, .int (0 : Int32)), (2, .int (0 : Int32)), (0, .ref h0), (1, .int a1)]) hx hb d_Acts_waitAnew_3 rfl hl (by decide) rfl (fun ls hl => ?_)
  have L4 : ∀ (n4 : Nat) (v2_4 : Int32) (v3_4 : Int32) (y0_4 : St) (H : Heap) (locs : List Loc) (ls : Array Slot), lq3 (m_Acts_waitAnew_B4 F a1 (fun v2_4 v3_4 y0_4 => (some (v2_4, y0_4)))) n4 v2_4 v3_4 y0_4 = some o → va_P (dC, dI) vwCl (wd_Acts g h0 q0 y0_4) H → va_D A (wd_Acts g h0 q0 y0_4) → va_S A s.heap H locs → lv_has ls 4 [(0, .ref h0), (1, .int a1), (2, .int v2_4), (3, .int v3_4)] → W p l e rm_Acts_waitAnew s m args below meth c H locs 0 0 Q (F0 m 4 ls []) := by
    intro n4
    induction n4 with
    | zero => intro v2_4 v3_4 y0_4 H locs ls hm; exact absurd hm (by intro z; cases z)
    | succ n4 ih4 =>
      intro v2_4 v3_4 y0_4 H locs ls hm hP hD hS hl
      replace hm := m_Acts_waitAnew_B4_h (lq3_h hm)
      refine lv_iload_n hx hb d_Acts_waitAnew_4 rfl (lv_at hl 3 rfl) ?_
      refine lv_bipush (v := (20 : Int32)) hx hb d_Acts_waitAnew_5 (by decide) ?_
      refine lv_icmp_ge (tgt := 52) hx hb d_Acts_waitAnew_7 (by decide) (fun hc => ?_) (fun hc => ?_)
      · replace hm := if_t hm hc
        refine lv_iload_n hx hb d_Acts_waitAnew_52 rfl (lv_at hl 2 rfl) ?_
        obtain rfl := Option.some.inj hm
        rw [hQ]
        exact kri hx hb hr hlocks hAe hP hK hD hS d_Acts_waitAnew_53
      · replace hm := if_f hm hc
        refine lv_aload_n hx hb d_Acts_waitAnew_10 rfl (lv_at hl 0 rfl) ?_
        refine va_get (D := (dC, dI)) (ci := 6) (v := .ref (q0 7)) (C := "AlarmMatrix$Acts") (T := T_Acts) (N := 13) hx hb hts i_Acts hown hK hP 0 rfl rfl 7 (by decide) (hts _ k1_167) (fun _ h9 => h9) rfl d_Acts_waitAnew_11 ?_
        refine lv_iload_n hx hb d_Acts_waitAnew_14 rfl (lv_at hl 3 rfl) ?_
        obtain ⟨h_15, hm⟩ := ck_s hm
        refine va_iald (f := (y0_4 7)) hx hb hK hP 7 0 rfl rfl h_15 d_Acts_waitAnew_15 ?_
        refine lv_iconst (v := (1 : Int32)) hx hb d_Acts_waitAnew_16 (by decide) ?_
        refine lv_icmp_ne (tgt := 46) hx hb d_Acts_waitAnew_17 (by decide) (fun hc => ?_) (fun hc => ?_)
        · replace hm := if_f hm hc
          refine lv_iinc (v := (v3_4 + (1 : Int32))) (lv' := [(3, .int (v3_4 + (1 : Int32))), (0, .ref h0), (1, .int a1), (2, .int v2_4)]) hx hb d_Acts_waitAnew_46 hl (k := 3) rfl rfl (by decide) rfl (fun ls hl => ?_)
          refine lv_goto (tgt := 4) hx hb d_Acts_waitAnew_49 (by decide) ?_
          exact ih4 v2_4 (v3_4 + (1 : Int32)) y0_4 H locs ls hm hP hD hS (lv_sub hl [1, 2, 3, 0] rfl)
        · replace hm := if_t hm hc
          refine lv_aload_n hx hb d_Acts_waitAnew_20 rfl (lv_at hl 0 rfl) ?_
          refine va_get (D := (dC, dI)) (ci := 6) (v := .ref (q0 9)) (C := "AlarmMatrix$Acts") (T := T_Acts) (N := 13) hx hb hts i_Acts hown hK hP 0 rfl rfl 9 (by decide) (hts _ k1_169) (fun _ h9 => h9) rfl d_Acts_waitAnew_21 ?_
          refine lv_iload_n hx hb d_Acts_waitAnew_24 rfl (lv_at hl 3 rfl) ?_
          obtain ⟨h_25, hm⟩ := ck_s hm
          refine va_zald (f := (y0_4 9)) hx hb hK hP 9 1 rfl rfl h_25 d_Acts_waitAnew_25 ?_
          refine lv_if_ne (tgt := 46) hx hb d_Acts_waitAnew_26 (by decide) (fun hc => ?_) (fun hc => ?_)
          · replace hm := if_f hm hc
            refine lv_iinc (v := (v3_4 + (1 : Int32))) (lv' := [(3, .int (v3_4 + (1 : Int32))), (0, .ref h0), (1, .int a1), (2, .int v2_4)]) hx hb d_Acts_waitAnew_46 hl (k := 3) rfl rfl (by decide) rfl (fun ls hl => ?_)
            refine lv_goto (tgt := 4) hx hb d_Acts_waitAnew_49 (by decide) ?_
            exact ih4 v2_4 (v3_4 + (1 : Int32)) y0_4 H locs ls hm hP hD hS (lv_sub hl [1, 2, 3, 0] rfl)
          · replace hm := if_t hm hc
            refine lv_aload_n hx hb d_Acts_waitAnew_29 rfl (lv_at hl 0 rfl) ?_
            refine va_get (D := (dC, dI)) (ci := 6) (v := .ref (q0 9)) (C := "AlarmMatrix$Acts") (T := T_Acts) (N := 13) hx hb hts i_Acts hown hK hP 0 rfl rfl 9 (by decide) (hts _ k1_169) (fun _ h9 => h9) rfl d_Acts_waitAnew_30 ?_
            refine lv_iload_n hx hb d_Acts_waitAnew_33 rfl (lv_at hl 3 rfl) ?_
            refine lv_iconst (v := (1 : Int32)) hx hb d_Acts_waitAnew_34 (by decide) ?_
            obtain ⟨h_35, hm⟩ := ck_s hm
            obtain ⟨e0_35, he, hm⟩ := lz_s hm
            refine va_zast (f := (y0_4 9)) hx hb hK hP hD hS 9 1 rfl rfl h_35 d_Acts_waitAnew_35 (fun H locs hP hD hS => ?_)
            have hP : va_P (dC, dI) vwCl (wd_Acts g h0 q0 e0_35) H := by rw [he]; exact hP
            have hD : va_D A (wd_Acts g h0 q0 e0_35) := by rw [he]; exact hD
            refine lv_aload_n hx hb d_Acts_waitAnew_36 rfl (lv_at hl 0 rfl) ?_
            refine va_get (D := (dC, dI)) (ci := 6) (v := .ref (q0 8)) (C := "AlarmMatrix$Acts") (T := T_Acts) (N := 13) hx hb hts i_Acts hown hK hP 0 rfl rfl 8 (by decide) (hts _ k1_168) (fun _ h9 => h9) rfl d_Acts_waitAnew_37 ?_
            refine lv_iload_n hx hb d_Acts_waitAnew_40 rfl (lv_at hl 3 rfl) ?_
            refine lv_iload_n hx hb d_Acts_waitAnew_41 rfl (lv_at hl 1 rfl) ?_
            obtain ⟨h_42, hm⟩ := ck_s hm
            obtain ⟨e0_42, he, hm⟩ := lz_s hm
            refine va_iast (f := (e0_35 8)) hx hb hK hP hD hS 8 0 rfl rfl h_42 d_Acts_waitAnew_42 (fun H locs hP hD hS => ?_)
            have hP : va_P (dC, dI) vwCl (wd_Acts g h0 q0 e0_42) H := by rw [he]; exact hP
            have hD : va_D A (wd_Acts g h0 q0 e0_42) := by rw [he]; exact hD
            refine lv_iinc (v := (v2_4 + (1 : Int32))) (lv' := [(2, .int (v2_4 + (1 : Int32))), (0, .ref h0), (1, .int a1), (3, .int v3_4)]) hx hb d_Acts_waitAnew_43 hl (k := 2) rfl rfl (by decide) rfl (fun ls hl => ?_)
            refine lv_iinc (v := (v3_4 + (1 : Int32))) (lv' := [(3, .int (v3_4 + (1 : Int32))), (2, .int (v2_4 + (1 : Int32))), (0, .ref h0), (1, .int a1)]) hx hb d_Acts_waitAnew_46 hl (k := 3) rfl rfl (by decide) rfl (fun ls hl => ?_)
            refine lv_goto (tgt := 4) hx hb d_Acts_waitAnew_49 (by decide) ?_
            exact ih4 (v2_4 + (1 : Int32)) (v3_4 + (1 : Int32)) e0_42 H locs ls hm hP hD hS (lv_sub hl [2, 3, 1, 0] rfl)
  exact L4 F (0 : Int32) (0 : Int32) x0 H locs ls hm hP hD hS (lv_sub hl [2, 3, 1, 0] rfl)
abbrev b_Acts_confirm : ByteArray := prog_2_method_18_code
abbrev y_Acts_confirm : MethodName := ⟨"AlarmMatrix$Acts", "confirm", "()I"⟩
theorem d_Acts_confirm_0 : decode b_Acts_confirm 0 = .ok (.iconst 0, 1) := by decide +kernel
theorem d_Acts_confirm_1 : decode b_Acts_confirm 1 = .ok (.istore_n 1, 1) := by decide +kernel
theorem d_Acts_confirm_2 : decode b_Acts_confirm 2 = .ok (.iconst 0, 1) := by decide +kernel
theorem d_Acts_confirm_3 : decode b_Acts_confirm 3 = .ok (.istore_n 2, 1) := by decide +kernel
theorem d_Acts_confirm_4 : decode b_Acts_confirm 4 = .ok (.iload_n 2, 1) := by decide +kernel
theorem d_Acts_confirm_5 : decode b_Acts_confirm 5 = .ok (.bipush 20, 2) := by decide +kernel
theorem d_Acts_confirm_7 : decode b_Acts_confirm 7 = .ok (.if_icmp .ge 38, 3) := by decide +kernel
theorem d_Acts_confirm_10 : decode b_Acts_confirm 10 = .ok (.aload_n 0, 1) := by decide +kernel
theorem d_Acts_confirm_11 : decode b_Acts_confirm 11 = .ok (.getfield 35, 3) := by decide +kernel
theorem d_Acts_confirm_14 : decode b_Acts_confirm 14 = .ok (.iload_n 2, 1) := by decide +kernel
theorem d_Acts_confirm_15 : decode b_Acts_confirm 15 = .ok (.iaload, 1) := by decide +kernel
theorem d_Acts_confirm_16 : decode b_Acts_confirm 16 = .ok (.iconst 1, 1) := by decide +kernel
theorem d_Acts_confirm_17 : decode b_Acts_confirm 17 = .ok (.if_icmp .ne 22, 3) := by decide +kernel
theorem d_Acts_confirm_20 : decode b_Acts_confirm 20 = .ok (.aload_n 0, 1) := by decide +kernel
theorem d_Acts_confirm_21 : decode b_Acts_confirm 21 = .ok (.getfield 44, 3) := by decide +kernel
theorem d_Acts_confirm_24 : decode b_Acts_confirm 24 = .ok (.iload_n 2, 1) := by decide +kernel
theorem d_Acts_confirm_25 : decode b_Acts_confirm 25 = .ok (.baload, 1) := by decide +kernel
theorem d_Acts_confirm_26 : decode b_Acts_confirm 26 = .ok (.ifCond .ne 13, 3) := by decide +kernel
theorem d_Acts_confirm_29 : decode b_Acts_confirm 29 = .ok (.aload_n 0, 1) := by decide +kernel
theorem d_Acts_confirm_30 : decode b_Acts_confirm 30 = .ok (.getfield 44, 3) := by decide +kernel
theorem d_Acts_confirm_33 : decode b_Acts_confirm 33 = .ok (.iload_n 2, 1) := by decide +kernel
theorem d_Acts_confirm_34 : decode b_Acts_confirm 34 = .ok (.iconst 1, 1) := by decide +kernel
theorem d_Acts_confirm_35 : decode b_Acts_confirm 35 = .ok (.bastore, 1) := by decide +kernel
theorem d_Acts_confirm_36 : decode b_Acts_confirm 36 = .ok (.iinc 1 1, 3) := by decide +kernel
theorem d_Acts_confirm_39 : decode b_Acts_confirm 39 = .ok (.iinc 2 1, 3) := by decide +kernel
theorem d_Acts_confirm_42 : decode b_Acts_confirm 42 = .ok (.goto (-38), 3) := by decide +kernel
theorem d_Acts_confirm_45 : decode b_Acts_confirm 45 = .ok (.iload_n 1, 1) := by decide +kernel
theorem d_Acts_confirm_46 : decode b_Acts_confirm 46 = .ok (.ireturn, 1) := by decide +kernel
def m_Acts_confirm_B4 {R : Type} (F : Nat)  (k4_45 : Int32 → Int32 → St → Option R) (rec4 : Int32 → Int32 → St → Option R) (v1_4 : Int32) (v2_4 : Int32) (y0_4 : St) : Option R :=
  (if (20 : Int32) ≤ v2_4 then (k4_45 v1_4 v2_4 y0_4) else (ck v2_4 20 (if ((y0_4 7) v2_4.toNatClampNeg) = (1 : Int32) then (ck v2_4 20 (if ((y0_4 10) v2_4.toNatClampNeg) = (0 : Int32) then (ck v2_4 20 (lz (st y0_4 10 (upd (y0_4 10) v2_4.toNatClampNeg (vp_nar .boolean (1 : Int32)))) (fun e0_35 => (rec4 (v1_4 + (1 : Int32)) (v2_4 + (1 : Int32)) e0_35)))) else (rec4 v1_4 (v2_4 + (1 : Int32)) y0_4))) else (rec4 v1_4 (v2_4 + (1 : Int32)) y0_4))))
theorem m_Acts_confirm_B4_h {R : Type} {F : Nat}  {k4_45 : Int32 → Int32 → St → Option R} {rec4 : Int32 → Int32 → St → Option R} {v1_4 : Int32} {v2_4 : Int32} {y0_4 : St} {o : R} (h : m_Acts_confirm_B4 F k4_45 rec4 v1_4 v2_4 y0_4 = some o) :
  (if (20 : Int32) ≤ v2_4 then (k4_45 v1_4 v2_4 y0_4) else (ck v2_4 20 (if ((y0_4 7) v2_4.toNatClampNeg) = (1 : Int32) then (ck v2_4 20 (if ((y0_4 10) v2_4.toNatClampNeg) = (0 : Int32) then (ck v2_4 20 (lz (st y0_4 10 (upd (y0_4 10) v2_4.toNatClampNeg (vp_nar .boolean (1 : Int32)))) (fun e0_35 => (rec4 (v1_4 + (1 : Int32)) (v2_4 + (1 : Int32)) e0_35)))) else (rec4 v1_4 (v2_4 + (1 : Int32)) y0_4))) else (rec4 v1_4 (v2_4 + (1 : Int32)) y0_4)))) = some o := h
def m_Acts_confirm (F : Nat) (x0 : St) : Option (Int32 × St) :=
  (lq3 (m_Acts_confirm_B4 F  (fun v1_4 v2_4 y0_4 => (some (v1_4, y0_4)))) F (0 : Int32) (0 : Int32) x0)
abbrev rm_Acts_confirm : Room := { frames := 0, cells := 0, slots := 0, locals := 0 }
set_option maxHeartbeats 4000000 in
set_option maxRecDepth 100000 in
theorem c_Acts_confirm {G : (Nat → Prop) → State → Prop} (hG : gok G) (hGn : gN G) (l : Launch) (dC : Nat → ClassId) (dI : Nat → Nat → Nat) (g : Nat → ClassId) (F : Nat) (sz : Nat) (h0 : Nat) (q0 : Nat → Nat) (x0 : St) {o : Int32 × St} (hm : m_Acts_confirm F x0 = some o) : Met l y_Acts_confirm (.code y_Acts_confirm b_Acts_confirm 3 (some .int) :: gw) rm_Acts_confirm (kq (dC, dI) vwCl (tyv g) G [.ref h0] sz (wd_Acts g h0 q0 x0)) (kqi (dC, dI) vwCl (tyv g) (wd_Acts g h0 q0 x0) o.1 (wd_Acts g h0 q0 (o.2)) sz) 0 0 (va_A (wd_Acts g h0 q0 x0) sz) := by
  unfold m_Acts_confirm at hm
  refine km (Qc := fun sz => kqi (dC, dI) vwCl (tyv g) (wd_Acts g h0 q0 x0) o.1 (wd_Acts g h0 q0 (o.2)) sz) (cc := b_Acts_confirm) (maxL := 3) (ret := some .int) (by decide) rfl (Nat.le_of_ble_eq_true rfl) ?_
  intro p e s m args below meth c Q hQ hx hb hr hts hown hlocks hml hnm H locs A hAe hA hP hK hD hS hGA ls hl
  have hl : lv_has ls 3 [(0, .ref h0)] := hl
  have hts : ∀ w ∈ gw, w.before args s = true := fun w h => hts w (List.mem_cons_of_mem _ h)
  have hown : s.vm.findClass "AlarmMatrix$Acts" = some m.cls := hown
  refine lv_iconst (v := (0 : Int32)) hx hb d_Acts_confirm_0 (by decide) ?_
  refine lv_istore_n (lv' := [(1, .int (0 : Int32)), (0, .ref h0)]) hx hb d_Acts_confirm_1 rfl hl (by decide) rfl (fun ls hl => ?_)
  refine lv_iconst (v := (0 : Int32)) hx hb d_Acts_confirm_2 (by decide) ?_
  refine lv_istore_n (lv' := [(2, .int (0 : Int32)), (1, .int (0 : Int32)), (0, .ref h0)]) hx hb d_Acts_confirm_3 rfl hl (by decide) rfl (fun ls hl => ?_)
  have L4 : ∀ (n4 : Nat) (v1_4 : Int32) (v2_4 : Int32) (y0_4 : St) (H : Heap) (locs : List Loc) (ls : Array Slot), lq3 (m_Acts_confirm_B4 F  (fun v1_4 v2_4 y0_4 => (some (v1_4, y0_4)))) n4 v1_4 v2_4 y0_4 = some o → va_P (dC, dI) vwCl (wd_Acts g h0 q0 y0_4) H → va_D A (wd_Acts g h0 q0 y0_4) → va_S A s.heap H locs → lv_has ls 3 [(0, .ref h0), (1, .int v1_4), (2, .int v2_4)] → W p l e rm_Acts_confirm s m args below meth c H locs 0 0 Q (F0 m 4 ls []) := by
    intro n4
    induction n4 with
    | zero => intro v1_4 v2_4 y0_4 H locs ls hm; exact absurd hm (by intro z; cases z)
    | succ n4 ih4 =>
      intro v1_4 v2_4 y0_4 H locs ls hm hP hD hS hl
      replace hm := m_Acts_confirm_B4_h (lq3_h hm)
      refine lv_iload_n hx hb d_Acts_confirm_4 rfl (lv_at hl 2 rfl) ?_
      refine lv_bipush (v := (20 : Int32)) hx hb d_Acts_confirm_5 (by decide) ?_
      refine lv_icmp_ge (tgt := 45) hx hb d_Acts_confirm_7 (by decide) (fun hc => ?_) (fun hc => ?_)
      · replace hm := if_t hm hc
        refine lv_iload_n hx hb d_Acts_confirm_45 rfl (lv_at hl 1 rfl) ?_
        obtain rfl := Option.some.inj hm
        rw [hQ]
        exact kri hx hb hr hlocks hAe hP hK hD hS d_Acts_confirm_46
      · replace hm := if_f hm hc
        refine lv_aload_n hx hb d_Acts_confirm_10 rfl (lv_at hl 0 rfl) ?_
        refine va_get (D := (dC, dI)) (ci := 6) (v := .ref (q0 7)) (C := "AlarmMatrix$Acts") (T := T_Acts) (N := 13) hx hb hts i_Acts hown hK hP 0 rfl rfl 7 (by decide) (hts _ k1_167) (fun _ h9 => h9) rfl d_Acts_confirm_11 ?_
        refine lv_iload_n hx hb d_Acts_confirm_14 rfl (lv_at hl 2 rfl) ?_
        obtain ⟨h_15, hm⟩ := ck_s hm
        refine va_iald (f := (y0_4 7)) hx hb hK hP 7 0 rfl rfl h_15 d_Acts_confirm_15 ?_
        refine lv_iconst (v := (1 : Int32)) hx hb d_Acts_confirm_16 (by decide) ?_
        refine lv_icmp_ne (tgt := 39) hx hb d_Acts_confirm_17 (by decide) (fun hc => ?_) (fun hc => ?_)
        · replace hm := if_f hm hc
          refine lv_iinc (v := (v2_4 + (1 : Int32))) (lv' := [(2, .int (v2_4 + (1 : Int32))), (0, .ref h0), (1, .int v1_4)]) hx hb d_Acts_confirm_39 hl (k := 2) rfl rfl (by decide) rfl (fun ls hl => ?_)
          refine lv_goto (tgt := 4) hx hb d_Acts_confirm_42 (by decide) ?_
          exact ih4 v1_4 (v2_4 + (1 : Int32)) y0_4 H locs ls hm hP hD hS (lv_sub hl [1, 2, 0] rfl)
        · replace hm := if_t hm hc
          refine lv_aload_n hx hb d_Acts_confirm_20 rfl (lv_at hl 0 rfl) ?_
          refine va_get (D := (dC, dI)) (ci := 6) (v := .ref (q0 10)) (C := "AlarmMatrix$Acts") (T := T_Acts) (N := 13) hx hb hts i_Acts hown hK hP 0 rfl rfl 10 (by decide) (hts _ k1_170) (fun _ h9 => h9) rfl d_Acts_confirm_21 ?_
          refine lv_iload_n hx hb d_Acts_confirm_24 rfl (lv_at hl 2 rfl) ?_
          obtain ⟨h_25, hm⟩ := ck_s hm
          refine va_zald (f := (y0_4 10)) hx hb hK hP 10 1 rfl rfl h_25 d_Acts_confirm_25 ?_
          refine lv_if_ne (tgt := 39) hx hb d_Acts_confirm_26 (by decide) (fun hc => ?_) (fun hc => ?_)
          · replace hm := if_f hm hc
            refine lv_iinc (v := (v2_4 + (1 : Int32))) (lv' := [(2, .int (v2_4 + (1 : Int32))), (0, .ref h0), (1, .int v1_4)]) hx hb d_Acts_confirm_39 hl (k := 2) rfl rfl (by decide) rfl (fun ls hl => ?_)
            refine lv_goto (tgt := 4) hx hb d_Acts_confirm_42 (by decide) ?_
            exact ih4 v1_4 (v2_4 + (1 : Int32)) y0_4 H locs ls hm hP hD hS (lv_sub hl [1, 2, 0] rfl)
          · replace hm := if_t hm hc
            refine lv_aload_n hx hb d_Acts_confirm_29 rfl (lv_at hl 0 rfl) ?_
            refine va_get (D := (dC, dI)) (ci := 6) (v := .ref (q0 10)) (C := "AlarmMatrix$Acts") (T := T_Acts) (N := 13) hx hb hts i_Acts hown hK hP 0 rfl rfl 10 (by decide) (hts _ k1_170) (fun _ h9 => h9) rfl d_Acts_confirm_30 ?_
            refine lv_iload_n hx hb d_Acts_confirm_33 rfl (lv_at hl 2 rfl) ?_
            refine lv_iconst (v := (1 : Int32)) hx hb d_Acts_confirm_34 (by decide) ?_
            obtain ⟨h_35, hm⟩ := ck_s hm
            obtain ⟨e0_35, he, hm⟩ := lz_s hm
            refine va_zast (f := (y0_4 10)) hx hb hK hP hD hS 10 1 rfl rfl h_35 d_Acts_confirm_35 (fun H locs hP hD hS => ?_)
            have hP : va_P (dC, dI) vwCl (wd_Acts g h0 q0 e0_35) H := by rw [he]; exact hP
            have hD : va_D A (wd_Acts g h0 q0 e0_35) := by rw [he]; exact hD
            refine lv_iinc (v := (v1_4 + (1 : Int32))) (lv' := [(1, .int (v1_4 + (1 : Int32))), (0, .ref h0), (2, .int v2_4)]) hx hb d_Acts_confirm_36 hl (k := 1) rfl rfl (by decide) rfl (fun ls hl => ?_)
            refine lv_iinc (v := (v2_4 + (1 : Int32))) (lv' := [(2, .int (v2_4 + (1 : Int32))), (1, .int (v1_4 + (1 : Int32))), (0, .ref h0)]) hx hb d_Acts_confirm_39 hl (k := 2) rfl rfl (by decide) rfl (fun ls hl => ?_)
            refine lv_goto (tgt := 4) hx hb d_Acts_confirm_42 (by decide) ?_
            exact ih4 (v1_4 + (1 : Int32)) (v2_4 + (1 : Int32)) e0_35 H locs ls hm hP hD hS (lv_sub hl [2, 1, 0] rfl)
  exact L4 F (0 : Int32) (0 : Int32) x0 H locs ls hm hP hD hS (lv_sub hl [2, 1, 0] rfl)
abbrev b_Acts_release : ByteArray := prog_2_method_19_code
abbrev y_Acts_release : MethodName := ⟨"AlarmMatrix$Acts", "release", "(ILAlarmMatrix$Events;)I"⟩
theorem d_Acts_release_0 : decode b_Acts_release 0 = .ok (.iconst 0, 1) := by decide +kernel
theorem d_Acts_release_1 : decode b_Acts_release 1 = .ok (.istore_n 3, 1) := by decide +kernel
theorem d_Acts_release_2 : decode b_Acts_release 2 = .ok (.iconst 0, 1) := by decide +kernel
theorem d_Acts_release_3 : decode b_Acts_release 3 = .ok (.istore 4, 2) := by decide +kernel
theorem d_Acts_release_5 : decode b_Acts_release 5 = .ok (.iload 4, 2) := by decide +kernel
theorem d_Acts_release_7 : decode b_Acts_release 7 = .ok (.aload_n 0, 1) := by decide +kernel
theorem d_Acts_release_8 : decode b_Acts_release 8 = .ok (.getfield 31, 3) := by decide +kernel
theorem d_Acts_release_11 : decode b_Acts_release 11 = .ok (.if_icmp .ge 68, 3) := by decide +kernel
theorem d_Acts_release_14 : decode b_Acts_release 14 = .ok (.aload_n 0, 1) := by decide +kernel
theorem d_Acts_release_15 : decode b_Acts_release 15 = .ok (.getfield 28, 3) := by decide +kernel
theorem d_Acts_release_18 : decode b_Acts_release 18 = .ok (.iload 4, 2) := by decide +kernel
theorem d_Acts_release_20 : decode b_Acts_release 20 = .ok (.iaload, 1) := by decide +kernel
theorem d_Acts_release_21 : decode b_Acts_release 21 = .ok (.istore 5, 2) := by decide +kernel
theorem d_Acts_release_23 : decode b_Acts_release 23 = .ok (.aload_n 0, 1) := by decide +kernel
theorem d_Acts_release_24 : decode b_Acts_release 24 = .ok (.getfield 25, 3) := by decide +kernel
theorem d_Acts_release_27 : decode b_Acts_release 27 = .ok (.iload 5, 2) := by decide +kernel
theorem d_Acts_release_29 : decode b_Acts_release 29 = .ok (.baload, 1) := by decide +kernel
theorem d_Acts_release_30 : decode b_Acts_release 30 = .ok (.ifCond .eq 43, 3) := by decide +kernel
theorem d_Acts_release_33 : decode b_Acts_release 33 = .ok (.aload_n 0, 1) := by decide +kernel
theorem d_Acts_release_34 : decode b_Acts_release 34 = .ok (.getfield 35, 3) := by decide +kernel
theorem d_Acts_release_37 : decode b_Acts_release 37 = .ok (.iload 5, 2) := by decide +kernel
theorem d_Acts_release_39 : decode b_Acts_release 39 = .ok (.iaload, 1) := by decide +kernel
theorem d_Acts_release_40 : decode b_Acts_release 40 = .ok (.iconst 2, 1) := by decide +kernel
theorem d_Acts_release_41 : decode b_Acts_release 41 = .ok (.if_icmp .ne 32, 3) := by decide +kernel
theorem d_Acts_release_44 : decode b_Acts_release 44 = .ok (.aload_n 0, 1) := by decide +kernel
theorem d_Acts_release_45 : decode b_Acts_release 45 = .ok (.getfield 47, 3) := by decide +kernel
theorem d_Acts_release_48 : decode b_Acts_release 48 = .ok (.iload 5, 2) := by decide +kernel
theorem d_Acts_release_50 : decode b_Acts_release 50 = .ok (.baload, 1) := by decide +kernel
theorem d_Acts_release_51 : decode b_Acts_release 51 = .ok (.ifCond .ne 22, 3) := by decide +kernel
theorem d_Acts_release_54 : decode b_Acts_release 54 = .ok (.aload_n 0, 1) := by decide +kernel
theorem d_Acts_release_55 : decode b_Acts_release 55 = .ok (.getfield 35, 3) := by decide +kernel
theorem d_Acts_release_58 : decode b_Acts_release 58 = .ok (.iload 5, 2) := by decide +kernel
theorem d_Acts_release_60 : decode b_Acts_release 60 = .ok (.iconst 0, 1) := by decide +kernel
theorem d_Acts_release_61 : decode b_Acts_release 61 = .ok (.iastore, 1) := by decide +kernel
theorem d_Acts_release_62 : decode b_Acts_release 62 = .ok (.aload_n 2, 1) := by decide +kernel
theorem d_Acts_release_63 : decode b_Acts_release 63 = .ok (.iload_n 1, 1) := by decide +kernel
theorem d_Acts_release_64 : decode b_Acts_release 64 = .ok (.iload 5, 2) := by decide +kernel
theorem d_Acts_release_66 : decode b_Acts_release 66 = .ok (.iconst 0, 1) := by decide +kernel
theorem d_Acts_release_67 : decode b_Acts_release 67 = .ok (.invokevirtual 73, 3) := by decide +kernel
theorem d_Acts_release_70 : decode b_Acts_release 70 = .ok (.iinc 3 1, 3) := by decide +kernel
theorem d_Acts_release_73 : decode b_Acts_release 73 = .ok (.iinc 4 1, 3) := by decide +kernel
theorem d_Acts_release_76 : decode b_Acts_release 76 = .ok (.goto (-71), 3) := by decide +kernel
theorem d_Acts_release_79 : decode b_Acts_release 79 = .ok (.iload_n 3, 1) := by decide +kernel
theorem d_Acts_release_80 : decode b_Acts_release 80 = .ok (.ireturn, 1) := by decide +kernel
def m_Acts_release_B5 {R : Type} (F : Nat) (a1 : Int32) (k5_79 : Int32 → Int32 → St → St → Option R) (rec5 : Int32 → Int32 → St → St → Option R) (v3_5 : Int32) (v4_5 : Int32) (y0_5 : St) (y1_5 : St) : Option R :=
  (if (y0_5 6 0) ≤ v4_5 then (k5_79 v3_5 v4_5 y0_5 y1_5) else (ck v4_5 20 (ck ((y0_5 5) v4_5.toNatClampNeg) 20 (if ((y0_5 4) ((y0_5 5) v4_5.toNatClampNeg).toNatClampNeg) = (0 : Int32) then (rec5 v3_5 (v4_5 + (1 : Int32)) y0_5 y1_5) else (ck ((y0_5 5) v4_5.toNatClampNeg) 20 (if ((y0_5 7) ((y0_5 5) v4_5.toNatClampNeg).toNatClampNeg) = (2 : Int32) then (ck ((y0_5 5) v4_5.toNatClampNeg) 20 (if ((y0_5 11) ((y0_5 5) v4_5.toNatClampNeg).toNatClampNeg) = (0 : Int32) then (ck ((y0_5 5) v4_5.toNatClampNeg) 20 (lz (st y0_5 7 (upd (y0_5 7) ((y0_5 5) v4_5.toNatClampNeg).toNatClampNeg (0 : Int32))) (fun e0_61 => (bn1 (m_Events_add F y1_5 a1 ((y0_5 5) v4_5.toNatClampNeg) (0 : Int32)) (fun z1_67 => (rec5 (v3_5 + (1 : Int32)) (v4_5 + (1 : Int32)) e0_61 z1_67)))))) else (rec5 v3_5 (v4_5 + (1 : Int32)) y0_5 y1_5))) else (rec5 v3_5 (v4_5 + (1 : Int32)) y0_5 y1_5)))))))
theorem m_Acts_release_B5_h {R : Type} {F : Nat} {a1 : Int32} {k5_79 : Int32 → Int32 → St → St → Option R} {rec5 : Int32 → Int32 → St → St → Option R} {v3_5 : Int32} {v4_5 : Int32} {y0_5 : St} {y1_5 : St} {o : R} (h : m_Acts_release_B5 F a1 k5_79 rec5 v3_5 v4_5 y0_5 y1_5 = some o) :
  (if (y0_5 6 0) ≤ v4_5 then (k5_79 v3_5 v4_5 y0_5 y1_5) else (ck v4_5 20 (ck ((y0_5 5) v4_5.toNatClampNeg) 20 (if ((y0_5 4) ((y0_5 5) v4_5.toNatClampNeg).toNatClampNeg) = (0 : Int32) then (rec5 v3_5 (v4_5 + (1 : Int32)) y0_5 y1_5) else (ck ((y0_5 5) v4_5.toNatClampNeg) 20 (if ((y0_5 7) ((y0_5 5) v4_5.toNatClampNeg).toNatClampNeg) = (2 : Int32) then (ck ((y0_5 5) v4_5.toNatClampNeg) 20 (if ((y0_5 11) ((y0_5 5) v4_5.toNatClampNeg).toNatClampNeg) = (0 : Int32) then (ck ((y0_5 5) v4_5.toNatClampNeg) 20 (lz (st y0_5 7 (upd (y0_5 7) ((y0_5 5) v4_5.toNatClampNeg).toNatClampNeg (0 : Int32))) (fun e0_61 => (bn1 (m_Events_add F y1_5 a1 ((y0_5 5) v4_5.toNatClampNeg) (0 : Int32)) (fun z1_67 => (rec5 (v3_5 + (1 : Int32)) (v4_5 + (1 : Int32)) e0_61 z1_67)))))) else (rec5 v3_5 (v4_5 + (1 : Int32)) y0_5 y1_5))) else (rec5 v3_5 (v4_5 + (1 : Int32)) y0_5 y1_5))))))) = some o := h
def m_Acts_release (F : Nat) (x0 : St) (x1 : St) (a1 : Int32) : Option (Int32 × St × St) :=
  (lq4 (m_Acts_release_B5 F a1 (fun v3_5 v4_5 y0_5 y1_5 => (some (v3_5, y0_5, y1_5)))) F (0 : Int32) (0 : Int32) x0 x1)
abbrev rm_Acts_release : Room := { frames := 2, cells := 0, slots := 0, locals := 44 }
set_option maxHeartbeats 4000000 in
set_option maxRecDepth 100000 in
theorem c_Acts_release {G : (Nat → Prop) → State → Prop} (hG : gok G) (hGn : gN G) (l : Launch) (dC : Nat → ClassId) (dI : Nat → Nat → Nat) (g : Nat → ClassId) (F : Nat) (sz : Nat) (h0 : Nat) (q0 : Nat → Nat) (x0 : St) (h1 : Nat) (q1 : Nat → Nat) (x1 : St) (a1 : Int32) {o : Int32 × St × St} (hm : m_Acts_release F x0 x1 a1 = some o) : Met l y_Acts_release (.code y_Acts_release b_Acts_release 6 (some .int) :: gw) rm_Acts_release (kq (dC, dI) vwCl (tyv g) G [.ref h0, .int a1, .ref h1] sz (wd_Acts g h0 q0 x0 ++ wd_Events g h1 q1 x1)) (kqi (dC, dI) vwCl (tyv g) (wd_Acts g h0 q0 x0 ++ wd_Events g h1 q1 x1) o.1 (wd_Acts g h0 q0 (o.2.1) ++ wd_Events g h1 q1 (o.2.2)) sz) 0 0 (va_A (wd_Acts g h0 q0 x0 ++ wd_Events g h1 q1 x1) sz) := by
  unfold m_Acts_release at hm
  refine km (Qc := fun sz => kqi (dC, dI) vwCl (tyv g) (wd_Acts g h0 q0 x0 ++ wd_Events g h1 q1 x1) o.1 (wd_Acts g h0 q0 (o.2.1) ++ wd_Events g h1 q1 (o.2.2)) sz) (cc := b_Acts_release) (maxL := 6) (ret := some .int) (by decide) rfl (Nat.le_of_ble_eq_true rfl) ?_
  intro p e s m args below meth c Q hQ hx hb hr hts hown hlocks hml hnm H locs A hAe hA hP hK hD hS hGA ls hl
  have hl : lv_has ls 6 [(0, .ref h0), (1, .int a1), (2, .ref h1)] := hl
  have hts : ∀ w ∈ gw, w.before args s = true := fun w h => hts w (List.mem_cons_of_mem _ h)
  have hown : s.vm.findClass "AlarmMatrix$Acts" = some m.cls := hown
  refine lv_iconst (v := (0 : Int32)) hx hb d_Acts_release_0 (by decide) ?_
  refine lv_istore_n (lv' := [(3, .int (0 : Int32)), (0, .ref h0), (1, .int a1), (2, .ref h1)]) hx hb d_Acts_release_1 rfl hl (by decide) rfl (fun ls hl => ?_)
  refine lv_iconst (v := (0 : Int32)) hx hb d_Acts_release_2 (by decide) ?_
  refine lv_istore (lv' := [(4, .int (0 : Int32)), (3, .int (0 : Int32)), (0, .ref h0), (1, .int a1), (2, .ref h1)]) hx hb d_Acts_release_3 hl (by decide) rfl (fun ls hl => ?_)
  have L5 : ∀ (n5 : Nat) (v3_5 : Int32) (v4_5 : Int32) (y0_5 : St) (y1_5 : St) (H : Heap) (locs : List Loc) (ls : Array Slot), lq4 (m_Acts_release_B5 F a1 (fun v3_5 v4_5 y0_5 y1_5 => (some (v3_5, y0_5, y1_5)))) n5 v3_5 v4_5 y0_5 y1_5 = some o → va_P (dC, dI) vwCl (wd_Acts g h0 q0 y0_5 ++ wd_Events g h1 q1 y1_5) H → va_D A (wd_Acts g h0 q0 y0_5 ++ wd_Events g h1 q1 y1_5) → va_S A s.heap H locs → lv_has ls 6 [(0, .ref h0), (1, .int a1), (2, .ref h1), (3, .int v3_5), (4, .int v4_5)] → W p l e rm_Acts_release s m args below meth c H locs 0 0 Q (F0 m 5 ls []) := by
    intro n5
    induction n5 with
    | zero => intro v3_5 v4_5 y0_5 y1_5 H locs ls hm; exact absurd hm (by intro z; cases z)
    | succ n5 ih5 =>
      intro v3_5 v4_5 y0_5 y1_5 H locs ls hm hP hD hS hl
      replace hm := m_Acts_release_B5_h (lq4_h hm)
      refine lv_iload hx hb d_Acts_release_5 (lv_at hl 4 rfl) ?_
      refine lv_aload_n hx hb d_Acts_release_7 rfl (lv_at hl 0 rfl) ?_
      refine va_get (D := (dC, dI)) (ci := 6) (v := .int (y0_5 6 0)) (C := "AlarmMatrix$Acts") (T := T_Acts) (N := 13) hx hb hts i_Acts hown hK hP 0 rfl rfl 6 (by decide) (hts _ k1_166) (fun _ h9 => h9) rfl d_Acts_release_8 ?_
      refine lv_icmp_ge (tgt := 79) hx hb d_Acts_release_11 (by decide) (fun hc => ?_) (fun hc => ?_)
      · replace hm := if_t hm hc
        refine lv_iload_n hx hb d_Acts_release_79 rfl (lv_at hl 3 rfl) ?_
        obtain rfl := Option.some.inj hm
        rw [hQ]
        exact kri hx hb hr hlocks hAe hP hK hD hS d_Acts_release_80
      · replace hm := if_f hm hc
        refine lv_aload_n hx hb d_Acts_release_14 rfl (lv_at hl 0 rfl) ?_
        refine va_get (D := (dC, dI)) (ci := 6) (v := .ref (q0 5)) (C := "AlarmMatrix$Acts") (T := T_Acts) (N := 13) hx hb hts i_Acts hown hK hP 0 rfl rfl 5 (by decide) (hts _ k1_165) (fun _ h9 => h9) rfl d_Acts_release_15 ?_
        refine lv_iload hx hb d_Acts_release_18 (lv_at hl 4 rfl) ?_
        obtain ⟨h_20, hm⟩ := ck_s hm
        refine va_iald (f := (y0_5 5)) hx hb hK hP 6 0 rfl rfl h_20 d_Acts_release_20 ?_
        refine lv_istore (lv' := [(5, .int ((y0_5 5) v4_5.toNatClampNeg)), (0, .ref h0), (1, .int a1), (2, .ref h1), (3, .int v3_5), (4, .int v4_5)]) hx hb d_Acts_release_21 hl (by decide) rfl (fun ls hl => ?_)
        refine lv_aload_n hx hb d_Acts_release_23 rfl (lv_at hl 1 rfl) ?_
        refine va_get (D := (dC, dI)) (ci := 6) (v := .ref (q0 4)) (C := "AlarmMatrix$Acts") (T := T_Acts) (N := 13) hx hb hts i_Acts hown hK hP 0 rfl rfl 4 (by decide) (hts _ k1_164) (fun _ h9 => h9) rfl d_Acts_release_24 ?_
        refine lv_iload hx hb d_Acts_release_27 (lv_at hl 0 rfl) ?_
        obtain ⟨h_29, hm⟩ := ck_s hm
        refine va_zald (f := (y0_5 4)) hx hb hK hP 5 1 rfl rfl h_29 d_Acts_release_29 ?_
        refine lv_if_eq (tgt := 73) hx hb d_Acts_release_30 (by decide) (fun hc => ?_) (fun hc => ?_)
        · replace hm := if_t hm hc
          refine lv_iinc (v := (v4_5 + (1 : Int32))) (lv' := [(4, .int (v4_5 + (1 : Int32))), (5, .int ((y0_5 5) v4_5.toNatClampNeg)), (0, .ref h0), (1, .int a1), (2, .ref h1), (3, .int v3_5)]) hx hb d_Acts_release_73 hl (k := 5) rfl rfl (by decide) rfl (fun ls hl => ?_)
          refine lv_goto (tgt := 5) hx hb d_Acts_release_76 (by decide) ?_
          exact ih5 v3_5 (v4_5 + (1 : Int32)) y0_5 y1_5 H locs ls hm hP hD hS (lv_sub hl [2, 3, 4, 5, 0] rfl)
        · replace hm := if_f hm hc
          refine lv_aload_n hx hb d_Acts_release_33 rfl (lv_at hl 1 rfl) ?_
          refine va_get (D := (dC, dI)) (ci := 6) (v := .ref (q0 7)) (C := "AlarmMatrix$Acts") (T := T_Acts) (N := 13) hx hb hts i_Acts hown hK hP 0 rfl rfl 7 (by decide) (hts _ k1_167) (fun _ h9 => h9) rfl d_Acts_release_34 ?_
          refine lv_iload hx hb d_Acts_release_37 (lv_at hl 0 rfl) ?_
          obtain ⟨h_39, hm⟩ := ck_s hm
          refine va_iald (f := (y0_5 7)) hx hb hK hP 7 0 rfl rfl h_39 d_Acts_release_39 ?_
          refine lv_iconst (v := (2 : Int32)) hx hb d_Acts_release_40 (by decide) ?_
          refine lv_icmp_ne (tgt := 73) hx hb d_Acts_release_41 (by decide) (fun hc => ?_) (fun hc => ?_)
          · replace hm := if_f hm hc
            refine lv_iinc (v := (v4_5 + (1 : Int32))) (lv' := [(4, .int (v4_5 + (1 : Int32))), (5, .int ((y0_5 5) v4_5.toNatClampNeg)), (0, .ref h0), (1, .int a1), (2, .ref h1), (3, .int v3_5)]) hx hb d_Acts_release_73 hl (k := 5) rfl rfl (by decide) rfl (fun ls hl => ?_)
            refine lv_goto (tgt := 5) hx hb d_Acts_release_76 (by decide) ?_
            exact ih5 v3_5 (v4_5 + (1 : Int32)) y0_5 y1_5 H locs ls hm hP hD hS (lv_sub hl [2, 3, 4, 5, 0] rfl)
          · replace hm := if_t hm hc
            refine lv_aload_n hx hb d_Acts_release_44 rfl (lv_at hl 1 rfl) ?_
            refine va_get (D := (dC, dI)) (ci := 6) (v := .ref (q0 11)) (C := "AlarmMatrix$Acts") (T := T_Acts) (N := 13) hx hb hts i_Acts hown hK hP 0 rfl rfl 11 (by decide) (hts _ k1_171) (fun _ h9 => h9) rfl d_Acts_release_45 ?_
            refine lv_iload hx hb d_Acts_release_48 (lv_at hl 0 rfl) ?_
            obtain ⟨h_50, hm⟩ := ck_s hm
            refine va_zald (f := (y0_5 11)) hx hb hK hP 11 1 rfl rfl h_50 d_Acts_release_50 ?_
            refine lv_if_ne (tgt := 73) hx hb d_Acts_release_51 (by decide) (fun hc => ?_) (fun hc => ?_)
            · replace hm := if_f hm hc
              refine lv_iinc (v := (v4_5 + (1 : Int32))) (lv' := [(4, .int (v4_5 + (1 : Int32))), (5, .int ((y0_5 5) v4_5.toNatClampNeg)), (0, .ref h0), (1, .int a1), (2, .ref h1), (3, .int v3_5)]) hx hb d_Acts_release_73 hl (k := 5) rfl rfl (by decide) rfl (fun ls hl => ?_)
              refine lv_goto (tgt := 5) hx hb d_Acts_release_76 (by decide) ?_
              exact ih5 v3_5 (v4_5 + (1 : Int32)) y0_5 y1_5 H locs ls hm hP hD hS (lv_sub hl [2, 3, 4, 5, 0] rfl)
            · replace hm := if_t hm hc
              refine lv_aload_n hx hb d_Acts_release_54 rfl (lv_at hl 1 rfl) ?_
              refine va_get (D := (dC, dI)) (ci := 6) (v := .ref (q0 7)) (C := "AlarmMatrix$Acts") (T := T_Acts) (N := 13) hx hb hts i_Acts hown hK hP 0 rfl rfl 7 (by decide) (hts _ k1_167) (fun _ h9 => h9) rfl d_Acts_release_55 ?_
              refine lv_iload hx hb d_Acts_release_58 (lv_at hl 0 rfl) ?_
              refine lv_iconst (v := (0 : Int32)) hx hb d_Acts_release_60 (by decide) ?_
              obtain ⟨h_61, hm⟩ := ck_s hm
              obtain ⟨e0_61, he, hm⟩ := lz_s hm
              refine va_iast (f := (y0_5 7)) hx hb hK hP hD hS 7 0 rfl rfl h_61 d_Acts_release_61 (fun H locs hP hD hS => ?_)
              have hP : va_P (dC, dI) vwCl (wd_Acts g h0 q0 e0_61 ++ wd_Events g h1 q1 y1_5) H := by rw [he]; exact hP
              have hD : va_D A (wd_Acts g h0 q0 e0_61 ++ wd_Events g h1 q1 y1_5) := by rw [he]; exact hD
              refine lv_aload_n hx hb d_Acts_release_62 rfl (lv_at hl 3 rfl) ?_
              refine lv_iload_n hx hb d_Acts_release_63 rfl (lv_at hl 2 rfl) ?_
              refine lv_iload hx hb d_Acts_release_64 (lv_at hl 0 rfl) ?_
              refine lv_iconst (v := (0 : Int32)) hx hb d_Acts_release_66 (by decide) ?_
              obtain ⟨z1_67, hcl, hm⟩ := bn1_s hm
              refine kcv (wc := wd_Events g h1 q1 y1_5) (wr := wd_Acts g h0 q0 e0_61) (w1 := wd_Events g h1 q1 z1_67) hP hD hS hA [13, 14, 15, 16] [0, 1, 2, 3, 4, 5, 6, 7, 8, 9, 10, 11, 12] rfl rfl (by decide) (by decide) (va_runV (As := [.int a1, .int ((y0_5 5) v4_5.toNatClampNeg), .int (0 : Int32)]) (rest := []) ⟨hx, hb, hml, hown, hts⟩ (c_Events_add hG hGn l dC dI g F H.size h1 q1 y1_5 a1 ((y0_5 5) v4_5.toNatClampNeg) (0 : Int32) hcl) (cwV 3 hts (gdV k3_80 k3_81 k3_82 k1_6 k3_83) rfl rfl rfl (by decide +kernel) ⟨Nat.le_of_ble_eq_true rfl, Nat.le_of_ble_eq_true rfl⟩) (kpV hG hP hK hD hS hA hGA [13, 14, 15, 16] (by decide) rfl (ci := 9) (q0 := 0) rfl rfl rfl) rfl rfl hl.1 rfl (lv_room (Nat.le_of_ble_eq_true rfl)) d_Acts_release_67 ⟨Nat.le_of_ble_eq_true rfl, Nat.le_of_ble_eq_true rfl⟩) (fun H locs hP hD hS => ?_)
              have hP : va_P (dC, dI) vwCl (wd_Acts g h0 q0 e0_61 ++ wd_Events g h1 q1 z1_67) H := hP
              have hD : va_D A (wd_Acts g h0 q0 e0_61 ++ wd_Events g h1 q1 z1_67) := hD
              refine lv_iinc (v := (v3_5 + (1 : Int32))) (lv' := [(3, .int (v3_5 + (1 : Int32))), (5, .int ((y0_5 5) v4_5.toNatClampNeg)), (0, .ref h0), (1, .int a1), (2, .ref h1), (4, .int v4_5)]) hx hb d_Acts_release_70 hl (k := 4) rfl rfl (by decide) rfl (fun ls hl => ?_)
              refine lv_iinc (v := (v4_5 + (1 : Int32))) (lv' := [(4, .int (v4_5 + (1 : Int32))), (3, .int (v3_5 + (1 : Int32))), (5, .int ((y0_5 5) v4_5.toNatClampNeg)), (0, .ref h0), (1, .int a1), (2, .ref h1)]) hx hb d_Acts_release_73 hl (k := 5) rfl rfl (by decide) rfl (fun ls hl => ?_)
              refine lv_goto (tgt := 5) hx hb d_Acts_release_76 (by decide) ?_
              exact ih5 (v3_5 + (1 : Int32)) (v4_5 + (1 : Int32)) e0_61 z1_67 H locs ls hm hP hD hS (lv_sub hl [3, 4, 5, 1, 0] rfl)
  exact L5 F (0 : Int32) (0 : Int32) x0 x1 H locs ls hm hP hD hS (lv_sub hl [2, 3, 4, 1, 0] rfl)
abbrev b_Acts_tellOf : ByteArray := prog_2_method_20_code
abbrev y_Acts_tellOf : MethodName := ⟨"AlarmMatrix$Acts", "tellOf", "(II)I"⟩
theorem d_Acts_tellOf_0 : decode b_Acts_tellOf 0 = .ok (.iload_n 2, 1) := by decide +kernel
theorem d_Acts_tellOf_1 : decode b_Acts_tellOf 1 = .ok (.tableswitch 84 0 4 #[35, 42, 63, 70, 77], 35) := by decide +kernel
theorem d_Acts_tellOf_36 : decode b_Acts_tellOf 36 = .ok (.aload_n 0, 1) := by decide +kernel
theorem d_Acts_tellOf_37 : decode b_Acts_tellOf 37 = .ok (.getfield 35, 3) := by decide +kernel
theorem d_Acts_tellOf_40 : decode b_Acts_tellOf 40 = .ok (.iload_n 1, 1) := by decide +kernel
theorem d_Acts_tellOf_41 : decode b_Acts_tellOf 41 = .ok (.iaload, 1) := by decide +kernel
theorem d_Acts_tellOf_42 : decode b_Acts_tellOf 42 = .ok (.ireturn, 1) := by decide +kernel
theorem d_Acts_tellOf_43 : decode b_Acts_tellOf 43 = .ok (.aload_n 0, 1) := by decide +kernel
theorem d_Acts_tellOf_44 : decode b_Acts_tellOf 44 = .ok (.getfield 35, 3) := by decide +kernel
theorem d_Acts_tellOf_47 : decode b_Acts_tellOf 47 = .ok (.iload_n 1, 1) := by decide +kernel
theorem d_Acts_tellOf_48 : decode b_Acts_tellOf 48 = .ok (.iaload, 1) := by decide +kernel
theorem d_Acts_tellOf_49 : decode b_Acts_tellOf 49 = .ok (.iconst 1, 1) := by decide +kernel
theorem d_Acts_tellOf_50 : decode b_Acts_tellOf 50 = .ok (.if_icmp .ne 12, 3) := by decide +kernel
theorem d_Acts_tellOf_53 : decode b_Acts_tellOf 53 = .ok (.aload_n 0, 1) := by decide +kernel
theorem d_Acts_tellOf_54 : decode b_Acts_tellOf 54 = .ok (.getfield 38, 3) := by decide +kernel
theorem d_Acts_tellOf_57 : decode b_Acts_tellOf 57 = .ok (.iload_n 1, 1) := by decide +kernel
theorem d_Acts_tellOf_58 : decode b_Acts_tellOf 58 = .ok (.iaload, 1) := by decide +kernel
theorem d_Acts_tellOf_59 : decode b_Acts_tellOf 59 = .ok (.goto 4, 3) := by decide +kernel
theorem d_Acts_tellOf_62 : decode b_Acts_tellOf 62 = .ok (.iconst (-1), 1) := by decide +kernel
theorem d_Acts_tellOf_63 : decode b_Acts_tellOf 63 = .ok (.ireturn, 1) := by decide +kernel
theorem d_Acts_tellOf_64 : decode b_Acts_tellOf 64 = .ok (.aload_n 0, 1) := by decide +kernel
theorem d_Acts_tellOf_65 : decode b_Acts_tellOf 65 = .ok (.getfield 9, 3) := by decide +kernel
theorem d_Acts_tellOf_68 : decode b_Acts_tellOf 68 = .ok (.iload_n 1, 1) := by decide +kernel
theorem d_Acts_tellOf_69 : decode b_Acts_tellOf 69 = .ok (.iaload, 1) := by decide +kernel
theorem d_Acts_tellOf_70 : decode b_Acts_tellOf 70 = .ok (.ireturn, 1) := by decide +kernel
theorem d_Acts_tellOf_71 : decode b_Acts_tellOf 71 = .ok (.aload_n 0, 1) := by decide +kernel
theorem d_Acts_tellOf_72 : decode b_Acts_tellOf 72 = .ok (.getfield 15, 3) := by decide +kernel
theorem d_Acts_tellOf_75 : decode b_Acts_tellOf 75 = .ok (.iload_n 1, 1) := by decide +kernel
theorem d_Acts_tellOf_76 : decode b_Acts_tellOf 76 = .ok (.iaload, 1) := by decide +kernel
theorem d_Acts_tellOf_77 : decode b_Acts_tellOf 77 = .ok (.ireturn, 1) := by decide +kernel
theorem d_Acts_tellOf_78 : decode b_Acts_tellOf 78 = .ok (.aload_n 0, 1) := by decide +kernel
theorem d_Acts_tellOf_79 : decode b_Acts_tellOf 79 = .ok (.getfield 18, 3) := by decide +kernel
theorem d_Acts_tellOf_82 : decode b_Acts_tellOf 82 = .ok (.iload_n 1, 1) := by decide +kernel
theorem d_Acts_tellOf_83 : decode b_Acts_tellOf 83 = .ok (.iaload, 1) := by decide +kernel
theorem d_Acts_tellOf_84 : decode b_Acts_tellOf 84 = .ok (.ireturn, 1) := by decide +kernel
theorem d_Acts_tellOf_85 : decode b_Acts_tellOf 85 = .ok (.aload_n 0, 1) := by decide +kernel
theorem d_Acts_tellOf_86 : decode b_Acts_tellOf 86 = .ok (.getfield 25, 3) := by decide +kernel
theorem d_Acts_tellOf_89 : decode b_Acts_tellOf 89 = .ok (.iload_n 1, 1) := by decide +kernel
theorem d_Acts_tellOf_90 : decode b_Acts_tellOf 90 = .ok (.baload, 1) := by decide +kernel
theorem d_Acts_tellOf_91 : decode b_Acts_tellOf 91 = .ok (.invokestatic 86, 3) := by decide +kernel
theorem d_Acts_tellOf_94 : decode b_Acts_tellOf 94 = .ok (.ireturn, 1) := by decide +kernel
def m_Acts_tellOf (F : Nat) (x0 : St) (a1 : Int32) (a2 : Int32) : Option (Int32) :=
  (if a2 = (0 : Int32) then (ck a1 20 (some ((x0 7) a1.toNatClampNeg))) else (if a2 = (1 : Int32) then (ck a1 20 (if ((x0 7) a1.toNatClampNeg) = (1 : Int32) then (ck a1 20 (some ((x0 8) a1.toNatClampNeg))) else (some (-1 : Int32)))) else (if a2 = (2 : Int32) then (ck a1 20 (some ((x0 0) a1.toNatClampNeg))) else (if a2 = (3 : Int32) then (ck a1 20 (some ((x0 1) a1.toNatClampNeg))) else (if a2 = (4 : Int32) then (ck a1 20 (some ((x0 2) a1.toNatClampNeg))) else (ck a1 20 (bn1 (m_AM_oneIf F ((x0 4) a1.toNatClampNeg)) (fun r91 => (some r91)))))))))
abbrev rm_Acts_tellOf : Room := { frames := 1, cells := 0, slots := 0, locals := 20 }
set_option maxHeartbeats 4000000 in
set_option maxRecDepth 100000 in
theorem c_Acts_tellOf {G : (Nat → Prop) → State → Prop} (hG : gok G) (hGn : gN G) (l : Launch) (dC : Nat → ClassId) (dI : Nat → Nat → Nat) (g : Nat → ClassId) (F : Nat) (sz : Nat) (h0 : Nat) (q0 : Nat → Nat) (x0 : St) (a1 : Int32) (a2 : Int32) {o : Int32} (hm : m_Acts_tellOf F x0 a1 a2 = some o) : Met l y_Acts_tellOf (.code y_Acts_tellOf b_Acts_tellOf 3 (some .int) :: gw) rm_Acts_tellOf (kq (dC, dI) vwCl (tyv g) G [.ref h0, .int a1, .int a2] sz (wd_Acts g h0 q0 x0)) (kqi (dC, dI) vwCl (tyv g) (wd_Acts g h0 q0 x0) o (wd_Acts g h0 q0 x0) sz) 0 0 (va_A (wd_Acts g h0 q0 x0) sz) := by
  unfold m_Acts_tellOf at hm
  refine km (Qc := fun sz => kqi (dC, dI) vwCl (tyv g) (wd_Acts g h0 q0 x0) o (wd_Acts g h0 q0 x0) sz) (cc := b_Acts_tellOf) (maxL := 3) (ret := some .int) (by decide) rfl (Nat.le_of_ble_eq_true rfl) ?_
  intro p e s m args below meth c Q hQ hx hb hr hts hown hlocks hml hnm H locs A hAe hA hP hK hD hS hGA ls hl
  have hl : lv_has ls 3 [(0, .ref h0), (1, .int a1), (2, .int a2)] := hl
  have hts : ∀ w ∈ gw, w.before args s = true := fun w h => hts w (List.mem_cons_of_mem _ h)
  have hown : s.vm.findClass "AlarmMatrix$Acts" = some m.cls := hown
  refine lv_iload_n hx hb d_Acts_tellOf_0 rfl (lv_at hl 2 rfl) ?_
  by_cases hc0 : a2 = (0 : Int32)
  · replace hm := if_t hm hc0
    refine lv_tableIn (tgt := 36) hx hb d_Acts_tellOf_1 (by rw [hc0]; decide) (by rw [hc0]; decide) (by rw [hc0]; rfl) (by decide) ?_
    refine lv_aload_n hx hb d_Acts_tellOf_36 rfl (lv_at hl 0 rfl) ?_
    refine va_get (D := (dC, dI)) (ci := 6) (v := .ref (q0 7)) (C := "AlarmMatrix$Acts") (T := T_Acts) (N := 13) hx hb hts i_Acts hown hK hP 0 rfl rfl 7 (by decide) (hts _ k1_167) (fun _ h9 => h9) rfl d_Acts_tellOf_37 ?_
    refine lv_iload_n hx hb d_Acts_tellOf_40 rfl (lv_at hl 1 rfl) ?_
    obtain ⟨h_41, hm⟩ := ck_s hm
    refine va_iald (f := (x0 7)) hx hb hK hP 7 0 rfl rfl h_41 d_Acts_tellOf_41 ?_
    obtain rfl := Option.some.inj hm
    rw [hQ]
    exact kri hx hb hr hlocks hAe hP hK hD hS d_Acts_tellOf_42
  · replace hm := if_f hm hc0
    by_cases hc1 : a2 = (1 : Int32)
    · replace hm := if_t hm hc1
      refine lv_tableIn (tgt := 43) hx hb d_Acts_tellOf_1 (by rw [hc1]; decide) (by rw [hc1]; decide) (by rw [hc1]; rfl) (by decide) ?_
      refine lv_aload_n hx hb d_Acts_tellOf_43 rfl (lv_at hl 0 rfl) ?_
      refine va_get (D := (dC, dI)) (ci := 6) (v := .ref (q0 7)) (C := "AlarmMatrix$Acts") (T := T_Acts) (N := 13) hx hb hts i_Acts hown hK hP 0 rfl rfl 7 (by decide) (hts _ k1_167) (fun _ h9 => h9) rfl d_Acts_tellOf_44 ?_
      refine lv_iload_n hx hb d_Acts_tellOf_47 rfl (lv_at hl 1 rfl) ?_
      obtain ⟨h_48, hm⟩ := ck_s hm
      refine va_iald (f := (x0 7)) hx hb hK hP 7 0 rfl rfl h_48 d_Acts_tellOf_48 ?_
      refine lv_iconst (v := (1 : Int32)) hx hb d_Acts_tellOf_49 (by decide) ?_
      refine lv_icmp_ne (tgt := 62) hx hb d_Acts_tellOf_50 (by decide) (fun hc => ?_) (fun hc => ?_)
      · replace hm := if_f hm hc
        refine lv_iconst (v := (-1 : Int32)) hx hb d_Acts_tellOf_62 (by decide) ?_
        obtain rfl := Option.some.inj hm
        rw [hQ]
        exact kri hx hb hr hlocks hAe hP hK hD hS d_Acts_tellOf_63
      · replace hm := if_t hm hc
        refine lv_aload_n hx hb d_Acts_tellOf_53 rfl (lv_at hl 0 rfl) ?_
        refine va_get (D := (dC, dI)) (ci := 6) (v := .ref (q0 8)) (C := "AlarmMatrix$Acts") (T := T_Acts) (N := 13) hx hb hts i_Acts hown hK hP 0 rfl rfl 8 (by decide) (hts _ k1_168) (fun _ h9 => h9) rfl d_Acts_tellOf_54 ?_
        refine lv_iload_n hx hb d_Acts_tellOf_57 rfl (lv_at hl 1 rfl) ?_
        obtain ⟨h_58, hm⟩ := ck_s hm
        refine va_iald (f := (x0 8)) hx hb hK hP 8 0 rfl rfl h_58 d_Acts_tellOf_58 ?_
        refine lv_goto (tgt := 63) hx hb d_Acts_tellOf_59 (by decide) ?_
        obtain rfl := Option.some.inj hm
        rw [hQ]
        exact kri hx hb hr hlocks hAe hP hK hD hS d_Acts_tellOf_63
    · replace hm := if_f hm hc1
      by_cases hc2 : a2 = (2 : Int32)
      · replace hm := if_t hm hc2
        refine lv_tableIn (tgt := 64) hx hb d_Acts_tellOf_1 (by rw [hc2]; decide) (by rw [hc2]; decide) (by rw [hc2]; rfl) (by decide) ?_
        refine lv_aload_n hx hb d_Acts_tellOf_64 rfl (lv_at hl 0 rfl) ?_
        refine va_get (D := (dC, dI)) (ci := 6) (v := .ref (q0 0)) (C := "AlarmMatrix$Acts") (T := T_Acts) (N := 13) hx hb hts i_Acts hown hK hP 0 rfl rfl 0 (by decide) (hts _ k1_160) (fun _ h9 => h9) rfl d_Acts_tellOf_65 ?_
        refine lv_iload_n hx hb d_Acts_tellOf_68 rfl (lv_at hl 1 rfl) ?_
        obtain ⟨h_69, hm⟩ := ck_s hm
        refine va_iald (f := (x0 0)) hx hb hK hP 1 0 rfl rfl h_69 d_Acts_tellOf_69 ?_
        obtain rfl := Option.some.inj hm
        rw [hQ]
        exact kri hx hb hr hlocks hAe hP hK hD hS d_Acts_tellOf_70
      · replace hm := if_f hm hc2
        by_cases hc3 : a2 = (3 : Int32)
        · replace hm := if_t hm hc3
          refine lv_tableIn (tgt := 71) hx hb d_Acts_tellOf_1 (by rw [hc3]; decide) (by rw [hc3]; decide) (by rw [hc3]; rfl) (by decide) ?_
          refine lv_aload_n hx hb d_Acts_tellOf_71 rfl (lv_at hl 0 rfl) ?_
          refine va_get (D := (dC, dI)) (ci := 6) (v := .ref (q0 1)) (C := "AlarmMatrix$Acts") (T := T_Acts) (N := 13) hx hb hts i_Acts hown hK hP 0 rfl rfl 1 (by decide) (hts _ k1_161) (fun _ h9 => h9) rfl d_Acts_tellOf_72 ?_
          refine lv_iload_n hx hb d_Acts_tellOf_75 rfl (lv_at hl 1 rfl) ?_
          obtain ⟨h_76, hm⟩ := ck_s hm
          refine va_iald (f := (x0 1)) hx hb hK hP 2 0 rfl rfl h_76 d_Acts_tellOf_76 ?_
          obtain rfl := Option.some.inj hm
          rw [hQ]
          exact kri hx hb hr hlocks hAe hP hK hD hS d_Acts_tellOf_77
        · replace hm := if_f hm hc3
          by_cases hc4 : a2 = (4 : Int32)
          · replace hm := if_t hm hc4
            refine lv_tableIn (tgt := 78) hx hb d_Acts_tellOf_1 (by rw [hc4]; decide) (by rw [hc4]; decide) (by rw [hc4]; rfl) (by decide) ?_
            refine lv_aload_n hx hb d_Acts_tellOf_78 rfl (lv_at hl 0 rfl) ?_
            refine va_get (D := (dC, dI)) (ci := 6) (v := .ref (q0 2)) (C := "AlarmMatrix$Acts") (T := T_Acts) (N := 13) hx hb hts i_Acts hown hK hP 0 rfl rfl 2 (by decide) (hts _ k1_162) (fun _ h9 => h9) rfl d_Acts_tellOf_79 ?_
            refine lv_iload_n hx hb d_Acts_tellOf_82 rfl (lv_at hl 1 rfl) ?_
            obtain ⟨h_83, hm⟩ := ck_s hm
            refine va_iald (f := (x0 2)) hx hb hK hP 3 0 rfl rfl h_83 d_Acts_tellOf_83 ?_
            obtain rfl := Option.some.inj hm
            rw [hQ]
            exact kri hx hb hr hlocks hAe hP hK hD hS d_Acts_tellOf_84
          · replace hm := if_f hm hc4
            refine lv_tableOut (tgt := 85) hx hb d_Acts_tellOf_1 (sw_out (lo := 0) (n := 5) (by decide) (fun k hk => by rcases (show k = 0 ∨ k = 1 ∨ k = 2 ∨ k = 3 ∨ k = 4 by omega) with rfl | rfl | rfl | rfl | rfl <;> assumption)) (by decide) ?_
            refine lv_aload_n hx hb d_Acts_tellOf_85 rfl (lv_at hl 0 rfl) ?_
            refine va_get (D := (dC, dI)) (ci := 6) (v := .ref (q0 4)) (C := "AlarmMatrix$Acts") (T := T_Acts) (N := 13) hx hb hts i_Acts hown hK hP 0 rfl rfl 4 (by decide) (hts _ k1_164) (fun _ h9 => h9) rfl d_Acts_tellOf_86 ?_
            refine lv_iload_n hx hb d_Acts_tellOf_89 rfl (lv_at hl 1 rfl) ?_
            obtain ⟨h_90, hm⟩ := ck_s hm
            refine va_zald (f := (x0 4)) hx hb hK hP 5 1 rfl rfl h_90 d_Acts_tellOf_90 ?_
            obtain ⟨r91, hcl, hm⟩ := bn1_s hm
            refine kci (wc := ([] : va_W)) (wr := wd_Acts g h0 q0 x0) (w1 := ([] : va_W)) hP hD hS hA [] [0, 1, 2, 3, 4, 5, 6, 7, 8, 9, 10, 11, 12] rfl rfl (by decide) (by decide) (va_runSN (host := "AlarmMatrix") (As := [.int ((x0 4) a1.toNatClampNeg)]) (rest := []) ⟨hx, hb, hml, hown, hts⟩ (c_AM_oneIf hG hGn l dC dI g F H.size ((x0 4) a1.toNatClampNeg) hcl) ⟨va_cnB 1 hts (gdI k3_50) rfl rfl rfl (hGn A s hGA _ nw4_197) (hts _ k1_1) (by decide +kernel) ⟨Nat.le_of_ble_eq_true rfl, Nat.le_of_ble_eq_true rfl⟩, (hts _ k3_49), trivial⟩ (kpS hG hP hK hD hS hA hGA [] (by decide) rfl) rfl rfl hl.1 rfl (lv_room (Nat.le_of_ble_eq_true rfl)) d_Acts_tellOf_91 ⟨Nat.le_of_ble_eq_true rfl, Nat.le_of_ble_eq_true rfl⟩) (fun H locs hP hD hS => ?_)
            have hP : va_P (dC, dI) vwCl (wd_Acts g h0 q0 x0) H := hP
            have hD : va_D A (wd_Acts g h0 q0 x0) := hD
            obtain rfl := Option.some.inj hm
            rw [hQ]
            exact kri hx hb hr hlocks hAe hP hK hD hS d_Acts_tellOf_94

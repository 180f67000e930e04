abbrev b_MD_person : ByteArray := prog_12_method_53_code
abbrev y_MD_person : MethodName := ⟨"AlarmMatrixModel", "person", "(I)I"⟩
theorem d_MD_person_0 : decode b_MD_person 0 = .ok (.aload_n 0, 1) := by decide +kernel
theorem d_MD_person_1 : decode b_MD_person 1 = .ok (.iload_n 1, 1) := by decide +kernel
theorem d_MD_person_2 : decode b_MD_person 2 = .ok (.ifCond .eq 8, 3) := by decide +kernel
theorem d_MD_person_5 : decode b_MD_person 5 = .ok (.iload_n 1, 1) := by decide +kernel
theorem d_MD_person_6 : decode b_MD_person 6 = .ok (.iconst 1, 1) := by decide +kernel
theorem d_MD_person_7 : decode b_MD_person 7 = .ok (.if_icmp .ne 7, 3) := by decide +kernel
theorem d_MD_person_10 : decode b_MD_person 10 = .ok (.iconst 1, 1) := by decide +kernel
theorem d_MD_person_11 : decode b_MD_person 11 = .ok (.goto 4, 3) := by decide +kernel
theorem d_MD_person_14 : decode b_MD_person 14 = .ok (.iconst 0, 1) := by decide +kernel
theorem d_MD_person_15 : decode b_MD_person 15 = .ok (.iconst 1, 1) := by decide +kernel
theorem d_MD_person_16 : decode b_MD_person 16 = .ok (.invokevirtual 114, 3) := by decide +kernel
theorem d_MD_person_19 : decode b_MD_person 19 = .ok (.ifCond .ne 5, 3) := by decide +kernel
theorem d_MD_person_22 : decode b_MD_person 22 = .ok (.iconst 0, 1) := by decide +kernel
theorem d_MD_person_23 : decode b_MD_person 23 = .ok (.ireturn, 1) := by decide +kernel
theorem d_MD_person_24 : decode b_MD_person 24 = .ok (.iconst 0, 1) := by decide +kernel
theorem d_MD_person_25 : decode b_MD_person 25 = .ok (.istore_n 2, 1) := by decide +kernel
theorem d_MD_person_26 : decode b_MD_person 26 = .ok (.iconst 0, 1) := by decide +kernel
theorem d_MD_person_27 : decode b_MD_person 27 = .ok (.istore_n 3, 1) := by decide +kernel
theorem d_MD_person_28 : decode b_MD_person 28 = .ok (.iload_n 3, 1) := by decide +kernel
theorem d_MD_person_29 : decode b_MD_person 29 = .ok (.bipush 20, 2) := by decide +kernel
theorem d_MD_person_31 : decode b_MD_person 31 = .ok (.if_icmp .ge 114, 3) := by decide +kernel
theorem d_MD_person_34 : decode b_MD_person 34 = .ok (.aload_n 0, 1) := by decide +kernel
theorem d_MD_person_35 : decode b_MD_person 35 = .ok (.getfield 56, 3) := by decide +kernel
theorem d_MD_person_38 : decode b_MD_person 38 = .ok (.iload_n 3, 1) := by decide +kernel
theorem d_MD_person_39 : decode b_MD_person 39 = .ok (.baload, 1) := by decide +kernel
theorem d_MD_person_40 : decode b_MD_person 40 = .ok (.ifCond .eq 42, 3) := by decide +kernel
theorem d_MD_person_43 : decode b_MD_person 43 = .ok (.aload_n 0, 1) := by decide +kernel
theorem d_MD_person_44 : decode b_MD_person 44 = .ok (.getfield 80, 3) := by decide +kernel
theorem d_MD_person_47 : decode b_MD_person 47 = .ok (.iload_n 3, 1) := by decide +kernel
theorem d_MD_person_48 : decode b_MD_person 48 = .ok (.iaload, 1) := by decide +kernel
theorem d_MD_person_49 : decode b_MD_person 49 = .ok (.iconst 1, 1) := by decide +kernel
theorem d_MD_person_50 : decode b_MD_person 50 = .ok (.if_icmp .ne 32, 3) := by decide +kernel
theorem d_MD_person_53 : decode b_MD_person 53 = .ok (.iload_n 1, 1) := by decide +kernel
theorem d_MD_person_54 : decode b_MD_person 54 = .ok (.ifCond .ne 15, 3) := by decide +kernel
theorem d_MD_person_57 : decode b_MD_person 57 = .ok (.aload_n 0, 1) := by decide +kernel
theorem d_MD_person_58 : decode b_MD_person 58 = .ok (.getfield 86, 3) := by decide +kernel
theorem d_MD_person_61 : decode b_MD_person 61 = .ok (.iload_n 3, 1) := by decide +kernel
theorem d_MD_person_62 : decode b_MD_person 62 = .ok (.baload, 1) := by decide +kernel
theorem d_MD_person_63 : decode b_MD_person 63 = .ok (.ifCond .eq 15, 3) := by decide +kernel
theorem d_MD_person_66 : decode b_MD_person 66 = .ok (.goto 16, 3) := by decide +kernel
theorem d_MD_person_69 : decode b_MD_person 69 = .ok (.aload_n 0, 1) := by decide +kernel
theorem d_MD_person_70 : decode b_MD_person 70 = .ok (.getfield 89, 3) := by decide +kernel
theorem d_MD_person_73 : decode b_MD_person 73 = .ok (.iload_n 3, 1) := by decide +kernel
theorem d_MD_person_74 : decode b_MD_person 74 = .ok (.baload, 1) := by decide +kernel
theorem d_MD_person_75 : decode b_MD_person 75 = .ok (.ifCond .ne 7, 3) := by decide +kernel
theorem d_MD_person_78 : decode b_MD_person 78 = .ok (.iconst 1, 1) := by decide +kernel
theorem d_MD_person_79 : decode b_MD_person 79 = .ok (.goto 4, 3) := by decide +kernel
theorem d_MD_person_82 : decode b_MD_person 82 = .ok (.iconst 0, 1) := by decide +kernel
theorem d_MD_person_83 : decode b_MD_person 83 = .ok (.istore 4, 2) := by decide +kernel
theorem d_MD_person_85 : decode b_MD_person 85 = .ok (.iload 4, 2) := by decide +kernel
theorem d_MD_person_87 : decode b_MD_person 87 = .ok (.ifCond .eq 27, 3) := by decide +kernel
theorem d_MD_person_90 : decode b_MD_person 90 = .ok (.iload_n 1, 1) := by decide +kernel
theorem d_MD_person_91 : decode b_MD_person 91 = .ok (.ifCond .ne 23, 3) := by decide +kernel
theorem d_MD_person_94 : decode b_MD_person 94 = .ok (.aload_n 0, 1) := by decide +kernel
theorem d_MD_person_95 : decode b_MD_person 95 = .ok (.getfield 83, 3) := by decide +kernel
theorem d_MD_person_98 : decode b_MD_person 98 = .ok (.iload_n 3, 1) := by decide +kernel
theorem d_MD_person_99 : decode b_MD_person 99 = .ok (.aload_n 0, 1) := by decide +kernel
theorem d_MD_person_100 : decode b_MD_person 100 = .ok (.getfield 236, 3) := by decide +kernel
theorem d_MD_person_103 : decode b_MD_person 103 = .ok (.iastore, 1) := by decide +kernel
theorem d_MD_person_104 : decode b_MD_person 104 = .ok (.aload_n 0, 1) := by decide +kernel
theorem d_MD_person_105 : decode b_MD_person 105 = .ok (.getfield 86, 3) := by decide +kernel
theorem d_MD_person_108 : decode b_MD_person 108 = .ok (.iload_n 3, 1) := by decide +kernel
theorem d_MD_person_109 : decode b_MD_person 109 = .ok (.iconst 1, 1) := by decide +kernel
theorem d_MD_person_110 : decode b_MD_person 110 = .ok (.bastore, 1) := by decide +kernel
theorem d_MD_person_111 : decode b_MD_person 111 = .ok (.goto 15, 3) := by decide +kernel
theorem d_MD_person_114 : decode b_MD_person 114 = .ok (.iload 4, 2) := by decide +kernel
theorem d_MD_person_116 : decode b_MD_person 116 = .ok (.ifCond .eq 10, 3) := by decide +kernel
theorem d_MD_person_119 : decode b_MD_person 119 = .ok (.aload_n 0, 1) := by decide +kernel
theorem d_MD_person_120 : decode b_MD_person 120 = .ok (.getfield 89, 3) := by decide +kernel
theorem d_MD_person_123 : decode b_MD_person 123 = .ok (.iload_n 3, 1) := by decide +kernel
theorem d_MD_person_124 : decode b_MD_person 124 = .ok (.iconst 1, 1) := by decide +kernel
theorem d_MD_person_125 : decode b_MD_person 125 = .ok (.bastore, 1) := by decide +kernel
theorem d_MD_person_126 : decode b_MD_person 126 = .ok (.iload_n 2, 1) := by decide +kernel
theorem d_MD_person_127 : decode b_MD_person 127 = .ok (.iload 4, 2) := by decide +kernel
theorem d_MD_person_129 : decode b_MD_person 129 = .ok (.ifCond .eq 7, 3) := by decide +kernel
theorem d_MD_person_132 : decode b_MD_person 132 = .ok (.iconst 1, 1) := by decide +kernel
theorem d_MD_person_133 : decode b_MD_person 133 = .ok (.goto 4, 3) := by decide +kernel
theorem d_MD_person_136 : decode b_MD_person 136 = .ok (.iconst 0, 1) := by decide +kernel
theorem d_MD_person_137 : decode b_MD_person 137 = .ok (.iadd, 1) := by decide +kernel
theorem d_MD_person_138 : decode b_MD_person 138 = .ok (.istore_n 2, 1) := by decide +kernel
theorem d_MD_person_139 : decode b_MD_person 139 = .ok (.iinc 3 1, 3) := by decide +kernel
theorem d_MD_person_142 : decode b_MD_person 142 = .ok (.goto (-114), 3) := by decide +kernel
theorem d_MD_person_145 : decode b_MD_person 145 = .ok (.iload_n 2, 1) := by decide +kernel
theorem d_MD_person_146 : decode b_MD_person 146 = .ok (.ireturn, 1) := by decide +kernel
def m_MD_person_J126 {R : Type} (F : Nat)  (k28_145 : Int32 → Int32 → St → Option R) (rec28 : Int32 → Int32 → St → Option R) (j2_126 : Int32) (j3_126 : Int32) (j4_126 : Int32) (t0_126 : St) : Option R :=
  (if j4_126 = (0 : Int32) then (rec28 (j2_126 + (0 : Int32)) (j3_126 + (1 : Int32)) t0_126) else (rec28 (j2_126 + (1 : Int32)) (j3_126 + (1 : Int32)) t0_126))
theorem m_MD_person_J126_h {R : Type} {F : Nat}  {k28_145 : Int32 → Int32 → St → Option R} {rec28 : Int32 → Int32 → St → Option R} {j2_126 : Int32} {j3_126 : Int32} {j4_126 : Int32} {t0_126 : St} {o : R} (h : m_MD_person_J126 F k28_145 rec28 j2_126 j3_126 j4_126 t0_126 = some o) :
  (if j4_126 = (0 : Int32) then (rec28 (j2_126 + (0 : Int32)) (j3_126 + (1 : Int32)) t0_126) else (rec28 (j2_126 + (1 : Int32)) (j3_126 + (1 : Int32)) t0_126)) = some o := h
def m_MD_person_J83 {R : Type} (F : Nat) (a1 : Int32) (k28_145 : Int32 → Int32 → St → Option R) (rec28 : Int32 → Int32 → St → Option R) (j2_83 : Int32) (j3_83 : Int32) (s0_83 : Int32) (t0_83 : St) : Option R :=
  (if s0_83 = (0 : Int32) then (if s0_83 = (0 : Int32) then (m_MD_person_J126 F  k28_145 rec28 j2_83 j3_83 s0_83 t0_83) else (ck j3_83 20 (lz (st t0_83 35 (upd (t0_83 35) j3_83.toNatClampNeg (vp_nar .boolean (1 : Int32)))) (fun e0_125 => (m_MD_person_J126 F  k28_145 rec28 j2_83 j3_83 s0_83 e0_125))))) else (if a1 = (0 : Int32) then (ck j3_83 20 (lz (st t0_83 33 (upd (t0_83 33) j3_83.toNatClampNeg (t0_83 2 0))) (fun e0_103 => (ck j3_83 20 (lz (st e0_103 34 (upd (e0_103 34) j3_83.toNatClampNeg (vp_nar .boolean (1 : Int32)))) (fun e0_110 => (m_MD_person_J126 F  k28_145 rec28 j2_83 j3_83 s0_83 e0_110))))))) else (if s0_83 = (0 : Int32) then (m_MD_person_J126 F  k28_145 rec28 j2_83 j3_83 s0_83 t0_83) else (ck j3_83 20 (lz (st t0_83 35 (upd (t0_83 35) j3_83.toNatClampNeg (vp_nar .boolean (1 : Int32)))) (fun e0_125 => (m_MD_person_J126 F  k28_145 rec28 j2_83 j3_83 s0_83 e0_125)))))))
theorem m_MD_person_J83_h {R : Type} {F : Nat} {a1 : Int32} {k28_145 : Int32 → Int32 → St → Option R} {rec28 : Int32 → Int32 → St → Option R} {j2_83 : Int32} {j3_83 : Int32} {s0_83 : Int32} {t0_83 : St} {o : R} (h : m_MD_person_J83 F a1 k28_145 rec28 j2_83 j3_83 s0_83 t0_83 = some o) :
  (if s0_83 = (0 : Int32) then (if s0_83 = (0 : Int32) then (m_MD_person_J126 F  k28_145 rec28 j2_83 j3_83 s0_83 t0_83) else (ck j3_83 20 (lz (st t0_83 35 (upd (t0_83 35) j3_83.toNatClampNeg (vp_nar .boolean (1 : Int32)))) (fun e0_125 => (m_MD_person_J126 F  k28_145 rec28 j2_83 j3_83 s0_83 e0_125))))) else (if a1 = (0 : Int32) then (ck j3_83 20 (lz (st t0_83 33 (upd (t0_83 33) j3_83.toNatClampNeg (t0_83 2 0))) (fun e0_103 => (ck j3_83 20 (lz (st e0_103 34 (upd (e0_103 34) j3_83.toNatClampNeg (vp_nar .boolean (1 : Int32)))) (fun e0_110 => (m_MD_person_J126 F  k28_145 rec28 j2_83 j3_83 s0_83 e0_110))))))) else (if s0_83 = (0 : Int32) then (m_MD_person_J126 F  k28_145 rec28 j2_83 j3_83 s0_83 t0_83) else (ck j3_83 20 (lz (st t0_83 35 (upd (t0_83 35) j3_83.toNatClampNeg (vp_nar .boolean (1 : Int32)))) (fun e0_125 => (m_MD_person_J126 F  k28_145 rec28 j2_83 j3_83 s0_83 e0_125))))))) = some o := h
def m_MD_person_B28 {R : Type} (F : Nat) (a1 : Int32) (k28_145 : Int32 → Int32 → St → Option R) (rec28 : Int32 → Int32 → St → Option R) (v2_28 : Int32) (v3_28 : Int32) (y0_28 : St) : Option R :=
  (if (20 : Int32) ≤ v3_28 then (k28_145 v2_28 v3_28 y0_28) else (ck v3_28 40 (if ((y0_28 22) v3_28.toNatClampNeg) = (0 : Int32) then (m_MD_person_J83 F a1 k28_145 rec28 v2_28 v3_28 (0 : Int32) y0_28) else (ck v3_28 20 (if ((y0_28 32) v3_28.toNatClampNeg) = (1 : Int32) then (if a1 = (0 : Int32) then (ck v3_28 20 (if ((y0_28 34) v3_28.toNatClampNeg) = (0 : Int32) then (m_MD_person_J83 F a1 k28_145 rec28 v2_28 v3_28 (1 : Int32) y0_28) else (m_MD_person_J83 F a1 k28_145 rec28 v2_28 v3_28 (0 : Int32) y0_28))) else (ck v3_28 20 (if ((y0_28 35) v3_28.toNatClampNeg) = (0 : Int32) then (m_MD_person_J83 F a1 k28_145 rec28 v2_28 v3_28 (1 : Int32) y0_28) else (m_MD_person_J83 F a1 k28_145 rec28 v2_28 v3_28 (0 : Int32) y0_28)))) else (m_MD_person_J83 F a1 k28_145 rec28 v2_28 v3_28 (0 : Int32) y0_28))))))
theorem m_MD_person_B28_h {R : Type} {F : Nat} {a1 : Int32} {k28_145 : Int32 → Int32 → St → Option R} {rec28 : Int32 → Int32 → St → Option R} {v2_28 : Int32} {v3_28 : Int32} {y0_28 : St} {o : R} (h : m_MD_person_B28 F a1 k28_145 rec28 v2_28 v3_28 y0_28 = some o) :
  (if (20 : Int32) ≤ v3_28 then (k28_145 v2_28 v3_28 y0_28) else (ck v3_28 40 (if ((y0_28 22) v3_28.toNatClampNeg) = (0 : Int32) then (m_MD_person_J83 F a1 k28_145 rec28 v2_28 v3_28 (0 : Int32) y0_28) else (ck v3_28 20 (if ((y0_28 32) v3_28.toNatClampNeg) = (1 : Int32) then (if a1 = (0 : Int32) then (ck v3_28 20 (if ((y0_28 34) v3_28.toNatClampNeg) = (0 : Int32) then (m_MD_person_J83 F a1 k28_145 rec28 v2_28 v3_28 (1 : Int32) y0_28) else (m_MD_person_J83 F a1 k28_145 rec28 v2_28 v3_28 (0 : Int32) y0_28))) else (ck v3_28 20 (if ((y0_28 35) v3_28.toNatClampNeg) = (0 : Int32) then (m_MD_person_J83 F a1 k28_145 rec28 v2_28 v3_28 (1 : Int32) y0_28) else (m_MD_person_J83 F a1 k28_145 rec28 v2_28 v3_28 (0 : Int32) y0_28)))) else (m_MD_person_J83 F a1 k28_145 rec28 v2_28 v3_28 (0 : Int32) y0_28)))))) = some o := h
def m_MD_person (F : Nat) (x0 : St) (a1 : Int32) : Option (Int32 × St) :=
  (if a1 = (0 : Int32) then (bn2 (m_MD_goes F x0 (1 : Int32) (1 : Int32)) (fun r16 z0_16 => (if r16 = (0 : Int32) then (some ((0 : Int32), z0_16)) else (lq3 (m_MD_person_B28 F a1 (fun v2_28 v3_28 y0_28 => (some (v2_28, y0_28)))) F (0 : Int32) (0 : Int32) z0_16)))) else (if a1 = (1 : Int32) then (bn2 (m_MD_goes F x0 (1 : Int32) (1 : Int32)) (fun r16 z0_16 => (if r16 = (0 : Int32) then (some ((0 : Int32), z0_16)) else (lq3 (m_MD_person_B28 F a1 (fun v2_28 v3_28 y0_28 => (some (v2_28, y0_28)))) F (0 : Int32) (0 : Int32) z0_16)))) else (bn2 (m_MD_goes F x0 (0 : Int32) (1 : Int32)) (fun r16 z0_16 => (if r16 = (0 : Int32) then (some ((0 : Int32), z0_16)) else (lq3 (m_MD_person_B28 F a1 (fun v2_28 v3_28 y0_28 => (some (v2_28, y0_28)))) F (0 : Int32) (0 : Int32) z0_16))))))
abbrev rm_MD_person : Room := { frames := 1, cells := 0, slots := 0, locals := 22 }
set_option maxHeartbeats 4000000 in
set_option maxRecDepth 100000 in
theorem c_MD_person {G : (Nat → Prop) → State → Prop} (hG : gok G) (hGn : gN G) (l : Launch) (dC : Nat → ClassId) (dI : Nat → Nat → Nat) (g : Nat → ClassId) (F : Nat) (sz : Nat) (h0 : Nat) (q0 : Nat → Nat) (x0 : St) (a1 : Int32) {o : Int32 × St} (hm : m_MD_person F x0 a1 = some o) : Met l y_MD_person (.code y_MD_person b_MD_person 5 (some .int) :: gw) rm_MD_person (kq (dC, dI) vwCl (tyv g) G [.ref h0, .int a1] sz (wd_MD g h0 q0 x0)) (kqi (dC, dI) vwCl (tyv g) (wd_MD g h0 q0 x0) o.1 (wd_MD g h0 q0 (o.2)) sz) 0 0 (va_A (wd_MD g h0 q0 x0) sz) := by
  unfold m_MD_person at hm
  refine km (Qc := fun sz => kqi (dC, dI) vwCl (tyv g) (wd_MD g h0 q0 x0) o.1 (wd_MD g h0 q0 (o.2)) sz) (cc := b_MD_person) (maxL := 5) (ret := some .int) (by decide) rfl (Nat.le_of_ble_eq_true rfl) ?_
  intro p e s m args below meth c Q hQ hx hb hr hts hown hlocks hml hnm H locs A hAe hA hP hK hD hS hGA ls hl
  have hl : lv_has ls 5 [(0, .ref h0), (1, .int a1)] := hl
  have hts : ∀ w ∈ gw, w.before args s = true := fun w h => hts w (List.mem_cons_of_mem _ h)
  have hown : s.vm.findClass "AlarmMatrixModel" = some m.cls := hown
  refine lv_aload_n hx hb d_MD_person_0 rfl (lv_at hl 0 rfl) ?_
  refine lv_iload_n hx hb d_MD_person_1 rfl (lv_at hl 1 rfl) ?_
  refine lv_if_eq (tgt := 10) hx hb d_MD_person_2 (by decide) (fun hc => ?_) (fun hc => ?_)
  · replace hm := if_t hm hc
    refine lv_iconst (v := (1 : Int32)) hx hb d_MD_person_10 (by decide) ?_
    refine lv_goto (tgt := 15) hx hb d_MD_person_11 (by decide) ?_
    refine lv_iconst (v := (1 : Int32)) hx hb d_MD_person_15 (by decide) ?_
    obtain ⟨r16, z0_16, hcl, hm⟩ := bn2_s hm
    refine kci (wc := wd_MD g h0 q0 x0) (wr := ([] : va_W)) (w1 := wd_MD g h0 q0 z0_16) hP hD hS hA [0, 1, 2, 3, 4, 5, 6, 7, 8, 9, 10, 11, 12, 13, 14, 15, 16, 17, 18, 19, 20, 21, 22, 23, 24, 25, 26, 27, 28, 29, 30, 31] [] rfl rfl (by decide) (by decide) (va_runV (As := [.int (1 : Int32), .int (1 : Int32)]) (rest := []) ⟨hx, hb, hml, hown, hts⟩ (c_MD_goes hG hGn l dC dI g F H.size h0 q0 x0 (1 : Int32) (1 : Int32) hcl) (cwV 2 hts (gdV k5_155 k5_157 kp_20 k1_10 k5_158) rfl rfl rfl (by decide +kernel) ⟨Nat.le_of_ble_eq_true rfl, Nat.le_of_ble_eq_true rfl⟩) (kpV hG hP hK hD hS hA hGA [0, 1, 2, 3, 4, 5, 6, 7, 8, 9, 10, 11, 12, 13, 14, 15, 16, 17, 18, 19, 20, 21, 22, 23, 24, 25, 26, 27, 28, 29, 30, 31] (by decide) rfl (ci := 10) (q0 := 0) rfl rfl rfl) rfl rfl hl.1 rfl (lv_room (Nat.le_of_ble_eq_true rfl)) d_MD_person_16 ⟨Nat.le_of_ble_eq_true rfl, Nat.le_of_ble_eq_true rfl⟩) (fun H locs hP hD hS => ?_)
    have hP : va_P (dC, dI) vwCl (wd_MD g h0 q0 z0_16) H := hP
    have hD : va_D A (wd_MD g h0 q0 z0_16) := hD
    refine lv_if_ne (tgt := 24) hx hb d_MD_person_19 (by decide) (fun hc => ?_) (fun hc => ?_)
    · replace hm := if_f hm hc
      refine lv_iconst (v := (0 : Int32)) hx hb d_MD_person_24 (by decide) ?_
      refine lv_istore_n (lv' := [(2, .int (0 : Int32)), (0, .ref h0), (1, .int a1)]) hx hb d_MD_person_25 rfl hl (by decide) rfl (fun ls hl => ?_)
      refine lv_iconst (v := (0 : Int32)) hx hb d_MD_person_26 (by decide) ?_
      refine lv_istore_n (lv' := [(3, .int (0 : Int32)), (2, .int (0 : Int32)), (0, .ref h0), (1, .int a1)]) hx hb d_MD_person_27 rfl hl (by decide) rfl (fun ls hl => ?_)
      have L28 : ∀ (n28 : Nat) (v2_28 : Int32) (v3_28 : Int32) (y0_28 : St) (H : Heap) (locs : List Loc) (ls : Array Slot), lq3 (m_MD_person_B28 F a1 (fun v2_28 v3_28 y0_28 => (some (v2_28, y0_28)))) n28 v2_28 v3_28 y0_28 = some o → va_P (dC, dI) vwCl (wd_MD g h0 q0 y0_28) H → va_D A (wd_MD g h0 q0 y0_28) → va_S A s.heap H locs → lv_has ls 5 [(0, .ref h0), (1, .int a1), (2, .int v2_28), (3, .int v3_28)] → W p l e rm_MD_person s m args below meth c H locs 0 0 Q (F0 m 28 ls []) := by
        intro n28
        induction n28 with
        | zero => intro v2_28 v3_28 y0_28 H locs ls hm; exact absurd hm (by intro z; cases z)
        | succ n28 ih28 =>
          intro v2_28 v3_28 y0_28 H locs ls hm hP hD hS hl
          replace hm := m_MD_person_B28_h (lq3_h hm)
          have J126 : ∀ (j2_126 : Int32) (j3_126 : Int32) (j4_126 : Int32) (t0_126 : St) (H : Heap) (locs : List Loc) (ls : Array Slot), m_MD_person_J126 F  (fun v2_28 v3_28 y0_28 => (some (v2_28, y0_28))) (lq3 (m_MD_person_B28 F a1 (fun v2_28 v3_28 y0_28 => (some (v2_28, y0_28)))) n28) j2_126 j3_126 j4_126 t0_126 = some o → va_P (dC, dI) vwCl (wd_MD g h0 q0 t0_126) H → va_D A (wd_MD g h0 q0 t0_126) → va_S A s.heap H locs → lv_has ls 5 [(0, .ref h0), (1, .int a1), (2, .int j2_126), (3, .int j3_126), (4, .int j4_126)] → W p l e rm_MD_person s m args below meth c H locs 0 0 Q (F0 m 126 ls []) := by
            intro j2_126 j3_126 j4_126 t0_126 H locs ls hm hP hD hS hl
            replace hm := m_MD_person_J126_h hm
            refine lv_iload_n hx hb d_MD_person_126 rfl (lv_at hl 2 rfl) ?_
            refine lv_iload hx hb d_MD_person_127 (lv_at hl 4 rfl) ?_
            refine lv_if_eq (tgt := 136) hx hb d_MD_person_129 (by decide) (fun hc => ?_) (fun hc => ?_)
            · replace hm := if_t hm hc
              refine lv_iconst (v := (0 : Int32)) hx hb d_MD_person_136 (by decide) ?_
              refine lv_iadd hx hb d_MD_person_137 ?_
              refine lv_istore_n (lv' := [(2, .int (j2_126 + (0 : Int32))), (0, .ref h0), (1, .int a1), (3, .int j3_126), (4, .int j4_126)]) hx hb d_MD_person_138 rfl hl (by decide) rfl (fun ls hl => ?_)
              refine lv_iinc (v := (j3_126 + (1 : Int32))) (lv' := [(3, .int (j3_126 + (1 : Int32))), (2, .int (j2_126 + (0 : Int32))), (0, .ref h0), (1, .int a1), (4, .int j4_126)]) hx hb d_MD_person_139 hl (k := 3) rfl rfl (by decide) rfl (fun ls hl => ?_)
              refine lv_goto (tgt := 28) hx hb d_MD_person_142 (by decide) ?_
              exact ih28 (j2_126 + (0 : Int32)) (j3_126 + (1 : Int32)) t0_126 H locs ls hm hP hD hS (lv_sub hl [2, 3, 1, 0] rfl)
            · replace hm := if_f hm hc
              refine lv_iconst (v := (1 : Int32)) hx hb d_MD_person_132 (by decide) ?_
              refine lv_goto (tgt := 137) hx hb d_MD_person_133 (by decide) ?_
              refine lv_iadd hx hb d_MD_person_137 ?_
              refine lv_istore_n (lv' := [(2, .int (j2_126 + (1 : Int32))), (0, .ref h0), (1, .int a1), (3, .int j3_126), (4, .int j4_126)]) hx hb d_MD_person_138 rfl hl (by decide) rfl (fun ls hl => ?_)
              refine lv_iinc (v := (j3_126 + (1 : Int32))) (lv' := [(3, .int (j3_126 + (1 : Int32))), (2, .int (j2_126 + (1 : Int32))), (0, .ref h0), (1, .int a1), (4, .int j4_126)]) hx hb d_MD_person_139 hl (k := 3) rfl rfl (by decide) rfl (fun ls hl => ?_)
              refine lv_goto (tgt := 28) hx hb d_MD_person_142 (by decide) ?_
              exact ih28 (j2_126 + (1 : Int32)) (j3_126 + (1 : Int32)) t0_126 H locs ls hm hP hD hS (lv_sub hl [2, 3, 1, 0] rfl)
          have J83 : ∀ (j2_83 : Int32) (j3_83 : Int32) (s0_83 : Int32) (t0_83 : St) (H : Heap) (locs : List Loc) (ls : Array Slot), m_MD_person_J83 F a1 (fun v2_28 v3_28 y0_28 => (some (v2_28, y0_28))) (lq3 (m_MD_person_B28 F a1 (fun v2_28 v3_28 y0_28 => (some (v2_28, y0_28)))) n28) j2_83 j3_83 s0_83 t0_83 = some o → va_P (dC, dI) vwCl (wd_MD g h0 q0 t0_83) H → va_D A (wd_MD g h0 q0 t0_83) → va_S A s.heap H locs → lv_has ls 5 [(0, .ref h0), (1, .int a1), (2, .int j2_83), (3, .int j3_83)] → W p l e rm_MD_person s m args below meth c H locs 0 0 Q (F0 m 83 ls [.int s0_83]) := by
            intro j2_83 j3_83 s0_83 t0_83 H locs ls hm hP hD hS hl
            replace hm := m_MD_person_J83_h hm
            refine lv_istore (lv' := [(4, .int s0_83), (0, .ref h0), (1, .int a1), (2, .int j2_83), (3, .int j3_83)]) hx hb d_MD_person_83 hl (by decide) rfl (fun ls hl => ?_)
            refine lv_iload hx hb d_MD_person_85 (lv_at hl 0 rfl) ?_
            refine lv_if_eq (tgt := 114) hx hb d_MD_person_87 (by decide) (fun hc => ?_) (fun hc => ?_)
            · replace hm := if_t hm hc
              refine lv_iload hx hb d_MD_person_114 (lv_at hl 0 rfl) ?_
              refine lv_if_eq (tgt := 126) hx hb d_MD_person_116 (by decide) (fun hc => ?_) (fun hc => ?_)
              · replace hm := if_t hm hc
                exact J126 j2_83 j3_83 s0_83 t0_83 H locs ls hm hP hD hS (lv_sub hl [1, 2, 3, 4, 0] rfl)
              · replace hm := if_f hm hc
                refine lv_aload_n hx hb d_MD_person_119 rfl (lv_at hl 1 rfl) ?_
                refine va_get (D := (dC, dI)) (ci := 10) (v := .ref (q0 35)) (C := "AlarmMatrixModel") (T := T_MD) (N := 42) hx hb hts i_MD hown hK hP 0 rfl rfl 35 (by decide) (hts _ k5_55) (fun _ h9 => h9) rfl d_MD_person_120 ?_
                refine lv_iload_n hx hb d_MD_person_123 rfl (lv_at hl 4 rfl) ?_
                refine lv_iconst (v := (1 : Int32)) hx hb d_MD_person_124 (by decide) ?_
                obtain ⟨h_125, hm⟩ := ck_s hm
                obtain ⟨e0_125, he, hm⟩ := lz_s hm
                refine va_zast (f := (t0_83 35)) hx hb hK hP hD hS 27 1 rfl rfl h_125 d_MD_person_125 (fun H locs hP hD hS => ?_)
                have hP : va_P (dC, dI) vwCl (wd_MD g h0 q0 e0_125) H := by rw [he]; exact hP
                have hD : va_D A (wd_MD g h0 q0 e0_125) := by rw [he]; exact hD
                exact J126 j2_83 j3_83 s0_83 e0_125 H locs ls hm hP hD hS (lv_sub hl [1, 2, 3, 4, 0] rfl)
            · replace hm := if_f hm hc
              refine lv_iload_n hx hb d_MD_person_90 rfl (lv_at hl 2 rfl) ?_
              refine lv_if_ne (tgt := 114) hx hb d_MD_person_91 (by decide) (fun hc => ?_) (fun hc => ?_)
              · replace hm := if_f hm hc
                refine lv_iload hx hb d_MD_person_114 (lv_at hl 0 rfl) ?_
                refine lv_if_eq (tgt := 126) hx hb d_MD_person_116 (by decide) (fun hc => ?_) (fun hc => ?_)
                · replace hm := if_t hm hc
                  exact J126 j2_83 j3_83 s0_83 t0_83 H locs ls hm hP hD hS (lv_sub hl [1, 2, 3, 4, 0] rfl)
                · replace hm := if_f hm hc
                  refine lv_aload_n hx hb d_MD_person_119 rfl (lv_at hl 1 rfl) ?_
                  refine va_get (D := (dC, dI)) (ci := 10) (v := .ref (q0 35)) (C := "AlarmMatrixModel") (T := T_MD) (N := 42) hx hb hts i_MD hown hK hP 0 rfl rfl 35 (by decide) (hts _ k5_55) (fun _ h9 => h9) rfl d_MD_person_120 ?_
                  refine lv_iload_n hx hb d_MD_person_123 rfl (lv_at hl 4 rfl) ?_
                  refine lv_iconst (v := (1 : Int32)) hx hb d_MD_person_124 (by decide) ?_
                  obtain ⟨h_125, hm⟩ := ck_s hm
                  obtain ⟨e0_125, he, hm⟩ := lz_s hm
                  refine va_zast (f := (t0_83 35)) hx hb hK hP hD hS 27 1 rfl rfl h_125 d_MD_person_125 (fun H locs hP hD hS => ?_)
                  have hP : va_P (dC, dI) vwCl (wd_MD g h0 q0 e0_125) H := by rw [he]; exact hP
                  have hD : va_D A (wd_MD g h0 q0 e0_125) := by rw [he]; exact hD
                  exact J126 j2_83 j3_83 s0_83 e0_125 H locs ls hm hP hD hS (lv_sub hl [1, 2, 3, 4, 0] rfl)
              · replace hm := if_t hm hc
                refine lv_aload_n hx hb d_MD_person_94 rfl (lv_at hl 1 rfl) ?_
                refine va_get (D := (dC, dI)) (ci := 10) (v := .ref (q0 33)) (C := "AlarmMatrixModel") (T := T_MD) (N := 42) hx hb hts i_MD hown hK hP 0 rfl rfl 33 (by decide) (hts _ k5_53) (fun _ h9 => h9) rfl d_MD_person_95 ?_
                refine lv_iload_n hx hb d_MD_person_98 rfl (lv_at hl 4 rfl) ?_
                refine lv_aload_n hx hb d_MD_person_99 rfl (lv_at hl 1 rfl) ?_
                refine va_get (D := (dC, dI)) (ci := 10) (v := .int (t0_83 2 0)) (C := "AlarmMatrixModel") (T := T_MD) (N := 42) hx hb hts i_MD hown hK hP 0 rfl rfl 2 (by decide) (hts _ k5_22) (fun _ h9 => h9) rfl d_MD_person_100 ?_
                obtain ⟨h_103, hm⟩ := ck_s hm
                obtain ⟨e0_103, he, hm⟩ := lz_s hm
                refine va_iast (f := (t0_83 33)) hx hb hK hP hD hS 25 0 rfl rfl h_103 d_MD_person_103 (fun H locs hP hD hS => ?_)
                have hP : va_P (dC, dI) vwCl (wd_MD g h0 q0 e0_103) H := by rw [he]; exact hP
                have hD : va_D A (wd_MD g h0 q0 e0_103) := by rw [he]; exact hD
                refine lv_aload_n hx hb d_MD_person_104 rfl (lv_at hl 1 rfl) ?_
                refine va_get (D := (dC, dI)) (ci := 10) (v := .ref (q0 34)) (C := "AlarmMatrixModel") (T := T_MD) (N := 42) hx hb hts i_MD hown hK hP 0 rfl rfl 34 (by decide) (hts _ k5_54) (fun _ h9 => h9) rfl d_MD_person_105 ?_
                refine lv_iload_n hx hb d_MD_person_108 rfl (lv_at hl 4 rfl) ?_
                refine lv_iconst (v := (1 : Int32)) hx hb d_MD_person_109 (by decide) ?_
                obtain ⟨h_110, hm⟩ := ck_s hm
                obtain ⟨e0_110, he, hm⟩ := lz_s hm
                refine va_zast (f := (e0_103 34)) hx hb hK hP hD hS 26 1 rfl rfl h_110 d_MD_person_110 (fun H locs hP hD hS => ?_)
                have hP : va_P (dC, dI) vwCl (wd_MD g h0 q0 e0_110) H := by rw [he]; exact hP
                have hD : va_D A (wd_MD g h0 q0 e0_110) := by rw [he]; exact hD
                refine lv_goto (tgt := 126) hx hb d_MD_person_111 (by decide) ?_
                exact J126 j2_83 j3_83 s0_83 e0_110 H locs ls hm hP hD hS (lv_sub hl [1, 2, 3, 4, 0] rfl)
          refine lv_iload_n hx hb d_MD_person_28 rfl (lv_at hl 3 rfl) ?_
          refine lv_bipush (v := (20 : Int32)) hx hb d_MD_person_29 (by decide) ?_
          refine lv_icmp_ge (tgt := 145) hx hb d_MD_person_31 (by decide) (fun hc => ?_) (fun hc => ?_)
          · replace hm := if_t hm hc
            refine lv_iload_n hx hb d_MD_person_145 rfl (lv_at hl 2 rfl) ?_
            obtain rfl := Option.some.inj hm
            rw [hQ]
            exact kri hx hb hr hlocks hAe hP hK hD hS d_MD_person_146
          · replace hm := if_f hm hc
            refine lv_aload_n hx hb d_MD_person_34 rfl (lv_at hl 0 rfl) ?_
            refine va_get (D := (dC, dI)) (ci := 10) (v := .ref (q0 22)) (C := "AlarmMatrixModel") (T := T_MD) (N := 42) hx hb hts i_MD hown hK hP 0 rfl rfl 22 (by decide) (hts _ k5_42) (fun _ h9 => h9) rfl d_MD_person_35 ?_
            refine lv_iload_n hx hb d_MD_person_38 rfl (lv_at hl 3 rfl) ?_
            obtain ⟨h_39, hm⟩ := ck_s hm
            refine va_zald (f := (y0_28 22)) hx hb hK hP 16 1 rfl rfl h_39 d_MD_person_39 ?_
            refine lv_if_eq (tgt := 82) hx hb d_MD_person_40 (by decide) (fun hc => ?_) (fun hc => ?_)
            · replace hm := if_t hm hc
              refine lv_iconst (v := (0 : Int32)) hx hb d_MD_person_82 (by decide) ?_
              exact J83 v2_28 v3_28 (0 : Int32) y0_28 H locs ls hm hP hD hS (lv_sub hl [0, 1, 2, 3] rfl)
            · replace hm := if_f hm hc
              refine lv_aload_n hx hb d_MD_person_43 rfl (lv_at hl 0 rfl) ?_
              refine va_get (D := (dC, dI)) (ci := 10) (v := .ref (q0 32)) (C := "AlarmMatrixModel") (T := T_MD) (N := 42) hx hb hts i_MD hown hK hP 0 rfl rfl 32 (by decide) (hts _ k5_52) (fun _ h9 => h9) rfl d_MD_person_44 ?_
              refine lv_iload_n hx hb d_MD_person_47 rfl (lv_at hl 3 rfl) ?_
              obtain ⟨h_48, hm⟩ := ck_s hm
              refine va_iald (f := (y0_28 32)) hx hb hK hP 24 0 rfl rfl h_48 d_MD_person_48 ?_
              refine lv_iconst (v := (1 : Int32)) hx hb d_MD_person_49 (by decide) ?_
              refine lv_icmp_ne (tgt := 82) hx hb d_MD_person_50 (by decide) (fun hc => ?_) (fun hc => ?_)
              · replace hm := if_f hm hc
                refine lv_iconst (v := (0 : Int32)) hx hb d_MD_person_82 (by decide) ?_
                exact J83 v2_28 v3_28 (0 : Int32) y0_28 H locs ls hm hP hD hS (lv_sub hl [0, 1, 2, 3] rfl)
              · replace hm := if_t hm hc
                refine lv_iload_n hx hb d_MD_person_53 rfl (lv_at hl 1 rfl) ?_
                refine lv_if_ne (tgt := 69) hx hb d_MD_person_54 (by decide) (fun hc => ?_) (fun hc => ?_)
                · replace hm := if_f hm hc
                  refine lv_aload_n hx hb d_MD_person_69 rfl (lv_at hl 0 rfl) ?_
                  refine va_get (D := (dC, dI)) (ci := 10) (v := .ref (q0 35)) (C := "AlarmMatrixModel") (T := T_MD) (N := 42) hx hb hts i_MD hown hK hP 0 rfl rfl 35 (by decide) (hts _ k5_55) (fun _ h9 => h9) rfl d_MD_person_70 ?_
                  refine lv_iload_n hx hb d_MD_person_73 rfl (lv_at hl 3 rfl) ?_
                  obtain ⟨h_74, hm⟩ := ck_s hm
                  refine va_zald (f := (y0_28 35)) hx hb hK hP 27 1 rfl rfl h_74 d_MD_person_74 ?_
                  refine lv_if_ne (tgt := 82) hx hb d_MD_person_75 (by decide) (fun hc => ?_) (fun hc => ?_)
                  · replace hm := if_f hm hc
                    refine lv_iconst (v := (0 : Int32)) hx hb d_MD_person_82 (by decide) ?_
                    exact J83 v2_28 v3_28 (0 : Int32) y0_28 H locs ls hm hP hD hS (lv_sub hl [0, 1, 2, 3] rfl)
                  · replace hm := if_t hm hc
                    refine lv_iconst (v := (1 : Int32)) hx hb d_MD_person_78 (by decide) ?_
                    refine lv_goto (tgt := 83) hx hb d_MD_person_79 (by decide) ?_
                    exact J83 v2_28 v3_28 (1 : Int32) y0_28 H locs ls hm hP hD hS (lv_sub hl [0, 1, 2, 3] rfl)
                · replace hm := if_t hm hc
                  refine lv_aload_n hx hb d_MD_person_57 rfl (lv_at hl 0 rfl) ?_
                  refine va_get (D := (dC, dI)) (ci := 10) (v := .ref (q0 34)) (C := "AlarmMatrixModel") (T := T_MD) (N := 42) hx hb hts i_MD hown hK hP 0 rfl rfl 34 (by decide) (hts _ k5_54) (fun _ h9 => h9) rfl d_MD_person_58 ?_
                  refine lv_iload_n hx hb d_MD_person_61 rfl (lv_at hl 3 rfl) ?_
                  obtain ⟨h_62, hm⟩ := ck_s hm
                  refine va_zald (f := (y0_28 34)) hx hb hK hP 26 1 rfl rfl h_62 d_MD_person_62 ?_
                  refine lv_if_eq (tgt := 78) hx hb d_MD_person_63 (by decide) (fun hc => ?_) (fun hc => ?_)
                  · replace hm := if_t hm hc
                    refine lv_iconst (v := (1 : Int32)) hx hb d_MD_person_78 (by decide) ?_
                    refine lv_goto (tgt := 83) hx hb d_MD_person_79 (by decide) ?_
                    exact J83 v2_28 v3_28 (1 : Int32) y0_28 H locs ls hm hP hD hS (lv_sub hl [0, 1, 2, 3] rfl)
                  · replace hm := if_f hm hc
                    refine lv_goto (tgt := 82) hx hb d_MD_person_66 (by decide) ?_
                    refine lv_iconst (v := (0 : Int32)) hx hb d_MD_person_82 (by decide) ?_
                    exact J83 v2_28 v3_28 (0 : Int32) y0_28 H locs ls hm hP hD hS (lv_sub hl [0, 1, 2, 3] rfl)
      exact L28 F (0 : Int32) (0 : Int32) z0_16 H locs ls hm hP hD hS (lv_sub hl [2, 3, 1, 0] rfl)
    · replace hm := if_t hm hc
      refine lv_iconst (v := (0 : Int32)) hx hb d_MD_person_22 (by decide) ?_
      obtain rfl := Option.some.inj hm
      rw [hQ]
      exact kri hx hb hr hlocks hAe hP hK hD hS d_MD_person_23
  · replace hm := if_f hm hc
    refine lv_iload_n hx hb d_MD_person_5 rfl (lv_at hl 1 rfl) ?_
    refine lv_iconst (v := (1 : Int32)) hx hb d_MD_person_6 (by decide) ?_
    refine lv_icmp_ne (tgt := 14) hx hb d_MD_person_7 (by decide) (fun hc => ?_) (fun hc => ?_)
    · replace hm := if_f hm hc
      refine lv_iconst (v := (0 : Int32)) hx hb d_MD_person_14 (by decide) ?_
      refine lv_iconst (v := (1 : Int32)) hx hb d_MD_person_15 (by decide) ?_
      obtain ⟨r16, z0_16, hcl, hm⟩ := bn2_s hm
      refine kci (wc := wd_MD g h0 q0 x0) (wr := ([] : va_W)) (w1 := wd_MD g h0 q0 z0_16) hP hD hS hA [0, 1, 2, 3, 4, 5, 6, 7, 8, 9, 10, 11, 12, 13, 14, 15, 16, 17, 18, 19, 20, 21, 22, 23, 24, 25, 26, 27, 28, 29, 30, 31] [] rfl rfl (by decide) (by decide) (va_runV (As := [.int (0 : Int32), .int (1 : Int32)]) (rest := []) ⟨hx, hb, hml, hown, hts⟩ (c_MD_goes hG hGn l dC dI g F H.size h0 q0 x0 (0 : Int32) (1 : Int32) hcl) (cwV 2 hts (gdV k5_155 k5_157 kp_20 k1_10 k5_158) rfl rfl rfl (by decide +kernel) ⟨Nat.le_of_ble_eq_true rfl, Nat.le_of_ble_eq_true rfl⟩) (kpV hG hP hK hD hS hA hGA [0, 1, 2, 3, 4, 5, 6, 7, 8, 9, 10, 11, 12, 13, 14, 15, 16, 17, 18, 19, 20, 21, 22, 23, 24, 25, 26, 27, 28, 29, 30, 31] (by decide) rfl (ci := 10) (q0 := 0) rfl rfl rfl) rfl rfl hl.1 rfl (lv_room (Nat.le_of_ble_eq_true rfl)) d_MD_person_16 ⟨Nat.le_of_ble_eq_true rfl, Nat.le_of_ble_eq_true rfl⟩) (fun H locs hP hD hS => ?_)
      have hP : va_P (dC, dI) vwCl (wd_MD g h0 q0 z0_16) H := hP
      have hD : va_D A (wd_MD g h0 q0 z0_16) := hD
      refine lv_if_ne (tgt := 24) hx hb d_MD_person_19 (by decide) (fun hc => ?_) (fun hc => ?_)
      · replace hm := if_f hm hc
        refine lv_iconst (v := (0 : Int32)) hx hb d_MD_person_24 (by decide) ?_
        refine lv_istore_n (lv' := [(2, .int (0 : Int32)), (0, .ref h0), (1, .int a1)]) hx hb d_MD_person_25 rfl hl (by decide) rfl (fun ls hl => ?_)
        refine lv_iconst (v := (0 : Int32)) hx hb d_MD_person_26 (by decide) ?_
        refine lv_istore_n (lv' := [(3, .int (0 : Int32)), (2, .int (0 : Int32)), (0, .ref h0), (1, .int a1)]) hx hb d_MD_person_27 rfl hl (by decide) rfl (fun ls hl => ?_)
        have L28 : ∀ (n28 : Nat) (v2_28 : Int32) (v3_28 : Int32) (y0_28 : St) (H : Heap) (locs : List Loc) (ls : Array Slot), lq3 (m_MD_person_B28 F a1 (fun v2_28 v3_28 y0_28 => (some (v2_28, y0_28)))) n28 v2_28 v3_28 y0_28 = some o → va_P (dC, dI) vwCl (wd_MD g h0 q0 y0_28) H → va_D A (wd_MD g h0 q0 y0_28) → va_S A s.heap H locs → lv_has ls 5 [(0, .ref h0), (1, .int a1), (2, .int v2_28), (3, .int v3_28)] → W p l e rm_MD_person s m args below meth c H locs 0 0 Q (F0 m 28 ls []) := by
          intro n28
          induction n28 with
          | zero => intro v2_28 v3_28 y0_28 H locs ls hm; exact absurd hm (by intro z; cases z)
          | succ n28 ih28 =>
            intro v2_28 v3_28 y0_28 H locs ls hm hP hD hS hl
            replace hm := m_MD_person_B28_h (lq3_h hm)
            have J126 : ∀ (j2_126 : Int32) (j3_126 : Int32) (j4_126 : Int32) (t0_126 : St) (H : Heap) (locs : List Loc) (ls : Array Slot), m_MD_person_J126 F  (fun v2_28 v3_28 y0_28 => (some (v2_28, y0_28))) (lq3 (m_MD_person_B28 F a1 (fun v2_28 v3_28 y0_28 => (some (v2_28, y0_28)))) n28) j2_126 j3_126 j4_126 t0_126 = some o → va_P (dC, dI) vwCl (wd_MD g h0 q0 t0_126) H → va_D A (wd_MD g h0 q0 t0_126) → va_S A s.heap H locs → lv_has ls 5 [(0, .ref h0), (1, .int a1), (2, .int j2_126), (3, .int j3_126), (4, .int j4_126)] → W p l e rm_MD_person s m args below meth c H locs 0 0 Q (F0 m 126 ls []) := by
              intro j2_126 j3_126 j4_126 t0_126 H locs ls hm hP hD hS hl
              replace hm := m_MD_person_J126_h hm
              refine lv_iload_n hx hb d_MD_person_126 rfl (lv_at hl 2 rfl) ?_
              refine lv_iload hx hb d_MD_person_127 (lv_at hl 4 rfl) ?_
              refine lv_if_eq (tgt := 136) hx hb d_MD_person_129 (by decide) (fun hc => ?_) (fun hc => ?_)
              · replace hm := if_t hm hc
                refine lv_iconst (v := (0 : Int32)) hx hb d_MD_person_136 (by decide) ?_
                refine lv_iadd hx hb d_MD_person_137 ?_
                refine lv_istore_n (lv' := [(2, .int (j2_126 + (0 : Int32))), (0, .ref h0), (1, .int a1), (3, .int j3_126), (4, .int j4_126)]) hx hb d_MD_person_138 rfl hl (by decide) rfl (fun ls hl => ?_)
                refine lv_iinc (v := (j3_126 + (1 : Int32))) (lv' := [(3, .int (j3_126 + (1 : Int32))), (2, .int (j2_126 + (0 : Int32))), (0, .ref h0), (1, .int a1), (4, .int j4_126)]) hx hb d_MD_person_139 hl (k := 3) rfl rfl (by decide) rfl (fun ls hl => ?_)
                refine lv_goto (tgt := 28) hx hb d_MD_person_142 (by decide) ?_
                exact ih28 (j2_126 + (0 : Int32)) (j3_126 + (1 : Int32)) t0_126 H locs ls hm hP hD hS (lv_sub hl [2, 3, 1, 0] rfl)
              · replace hm := if_f hm hc
                refine lv_iconst (v := (1 : Int32)) hx hb d_MD_person_132 (by decide) ?_
                refine lv_goto (tgt := 137) hx hb d_MD_person_133 (by decide) ?_
                refine lv_iadd hx hb d_MD_person_137 ?_
                refine lv_istore_n (lv' := [(2, .int (j2_126 + (1 : Int32))), (0, .ref h0), (1, .int a1), (3, .int j3_126), (4, .int j4_126)]) hx hb d_MD_person_138 rfl hl (by decide) rfl (fun ls hl => ?_)
                refine lv_iinc (v := (j3_126 + (1 : Int32))) (lv' := [(3, .int (j3_126 + (1 : Int32))), (2, .int (j2_126 + (1 : Int32))), (0, .ref h0), (1, .int a1), (4, .int j4_126)]) hx hb d_MD_person_139 hl (k := 3) rfl rfl (by decide) rfl (fun ls hl => ?_)
                refine lv_goto (tgt := 28) hx hb d_MD_person_142 (by decide) ?_
                exact ih28 (j2_126 + (1 : Int32)) (j3_126 + (1 : Int32)) t0_126 H locs ls hm hP hD hS (lv_sub hl [2, 3, 1, 0] rfl)
            have J83 : ∀ (j2_83 : Int32) (j3_83 : Int32) (s0_83 : Int32) (t0_83 : St) (H : Heap) (locs : List Loc) (ls : Array Slot), m_MD_person_J83 F a1 (fun v2_28 v3_28 y0_28 => (some (v2_28, y0_28))) (lq3 (m_MD_person_B28 F a1 (fun v2_28 v3_28 y0_28 => (some (v2_28, y0_28)))) n28) j2_83 j3_83 s0_83 t0_83 = some o → va_P (dC, dI) vwCl (wd_MD g h0 q0 t0_83) H → va_D A (wd_MD g h0 q0 t0_83) → va_S A s.heap H locs → lv_has ls 5 [(0, .ref h0), (1, .int a1), (2, .int j2_83), (3, .int j3_83)] → W p l e rm_MD_person s m args below meth c H locs 0 0 Q (F0 m 83 ls [.int s0_83]) := by
              intro j2_83 j3_83 s0_83 t0_83 H locs ls hm hP hD hS hl
              replace hm := m_MD_person_J83_h hm
              refine lv_istore (lv' := [(4, .int s0_83), (0, .ref h0), (1, .int a1), (2, .int j2_83), (3, .int j3_83)]) hx hb d_MD_person_83 hl (by decide) rfl (fun ls hl => ?_)
              refine lv_iload hx hb d_MD_person_85 (lv_at hl 0 rfl) ?_
              refine lv_if_eq (tgt := 114) hx hb d_MD_person_87 (by decide) (fun hc => ?_) (fun hc => ?_)
              · replace hm := if_t hm hc
                refine lv_iload hx hb d_MD_person_114 (lv_at hl 0 rfl) ?_
                refine lv_if_eq (tgt := 126) hx hb d_MD_person_116 (by decide) (fun hc => ?_) (fun hc => ?_)
                · replace hm := if_t hm hc
                  exact J126 j2_83 j3_83 s0_83 t0_83 H locs ls hm hP hD hS (lv_sub hl [1, 2, 3, 4, 0] rfl)
                · replace hm := if_f hm hc
                  refine lv_aload_n hx hb d_MD_person_119 rfl (lv_at hl 1 rfl) ?_
                  refine va_get (D := (dC, dI)) (ci := 10) (v := .ref (q0 35)) (C := "AlarmMatrixModel") (T := T_MD) (N := 42) hx hb hts i_MD hown hK hP 0 rfl rfl 35 (by decide) (hts _ k5_55) (fun _ h9 => h9) rfl d_MD_person_120 ?_
                  refine lv_iload_n hx hb d_MD_person_123 rfl (lv_at hl 4 rfl) ?_
                  refine lv_iconst (v := (1 : Int32)) hx hb d_MD_person_124 (by decide) ?_
                  obtain ⟨h_125, hm⟩ := ck_s hm
                  obtain ⟨e0_125, he, hm⟩ := lz_s hm
                  refine va_zast (f := (t0_83 35)) hx hb hK hP hD hS 27 1 rfl rfl h_125 d_MD_person_125 (fun H locs hP hD hS => ?_)
                  have hP : va_P (dC, dI) vwCl (wd_MD g h0 q0 e0_125) H := by rw [he]; exact hP
                  have hD : va_D A (wd_MD g h0 q0 e0_125) := by rw [he]; exact hD
                  exact J126 j2_83 j3_83 s0_83 e0_125 H locs ls hm hP hD hS (lv_sub hl [1, 2, 3, 4, 0] rfl)
              · replace hm := if_f hm hc
                refine lv_iload_n hx hb d_MD_person_90 rfl (lv_at hl 2 rfl) ?_
                refine lv_if_ne (tgt := 114) hx hb d_MD_person_91 (by decide) (fun hc => ?_) (fun hc => ?_)
                · replace hm := if_f hm hc
                  refine lv_iload hx hb d_MD_person_114 (lv_at hl 0 rfl) ?_
                  refine lv_if_eq (tgt := 126) hx hb d_MD_person_116 (by decide) (fun hc => ?_) (fun hc => ?_)
                  · replace hm := if_t hm hc
                    exact J126 j2_83 j3_83 s0_83 t0_83 H locs ls hm hP hD hS (lv_sub hl [1, 2, 3, 4, 0] rfl)
                  · replace hm := if_f hm hc
                    refine lv_aload_n hx hb d_MD_person_119 rfl (lv_at hl 1 rfl) ?_
                    refine va_get (D := (dC, dI)) (ci := 10) (v := .ref (q0 35)) (C := "AlarmMatrixModel") (T := T_MD) (N := 42) hx hb hts i_MD hown hK hP 0 rfl rfl 35 (by decide) (hts _ k5_55) (fun _ h9 => h9) rfl d_MD_person_120 ?_
                    refine lv_iload_n hx hb d_MD_person_123 rfl (lv_at hl 4 rfl) ?_
                    refine lv_iconst (v := (1 : Int32)) hx hb d_MD_person_124 (by decide) ?_
                    obtain ⟨h_125, hm⟩ := ck_s hm
                    obtain ⟨e0_125, he, hm⟩ := lz_s hm
                    refine va_zast (f := (t0_83 35)) hx hb hK hP hD hS 27 1 rfl rfl h_125 d_MD_person_125 (fun H locs hP hD hS => ?_)
                    have hP : va_P (dC, dI) vwCl (wd_MD g h0 q0 e0_125) H := by rw [he]; exact hP
                    have hD : va_D A (wd_MD g h0 q0 e0_125) := by rw [he]; exact hD
                    exact J126 j2_83 j3_83 s0_83 e0_125 H locs ls hm hP hD hS (lv_sub hl [1, 2, 3, 4, 0] rfl)
                · replace hm := if_t hm hc
                  refine lv_aload_n hx hb d_MD_person_94 rfl (lv_at hl 1 rfl) ?_
                  refine va_get (D := (dC, dI)) (ci := 10) (v := .ref (q0 33)) (C := "AlarmMatrixModel") (T := T_MD) (N := 42) hx hb hts i_MD hown hK hP 0 rfl rfl 33 (by decide) (hts _ k5_53) (fun _ h9 => h9) rfl d_MD_person_95 ?_
                  refine lv_iload_n hx hb d_MD_person_98 rfl (lv_at hl 4 rfl) ?_
                  refine lv_aload_n hx hb d_MD_person_99 rfl (lv_at hl 1 rfl) ?_
                  refine va_get (D := (dC, dI)) (ci := 10) (v := .int (t0_83 2 0)) (C := "AlarmMatrixModel") (T := T_MD) (N := 42) hx hb hts i_MD hown hK hP 0 rfl rfl 2 (by decide) (hts _ k5_22) (fun _ h9 => h9) rfl d_MD_person_100 ?_
                  obtain ⟨h_103, hm⟩ := ck_s hm
                  obtain ⟨e0_103, he, hm⟩ := lz_s hm
                  refine va_iast (f := (t0_83 33)) hx hb hK hP hD hS 25 0 rfl rfl h_103 d_MD_person_103 (fun H locs hP hD hS => ?_)
                  have hP : va_P (dC, dI) vwCl (wd_MD g h0 q0 e0_103) H := by rw [he]; exact hP
                  have hD : va_D A (wd_MD g h0 q0 e0_103) := by rw [he]; exact hD
                  refine lv_aload_n hx hb d_MD_person_104 rfl (lv_at hl 1 rfl) ?_
                  refine va_get (D := (dC, dI)) (ci := 10) (v := .ref (q0 34)) (C := "AlarmMatrixModel") (T := T_MD) (N := 42) hx hb hts i_MD hown hK hP 0 rfl rfl 34 (by decide) (hts _ k5_54) (fun _ h9 => h9) rfl d_MD_person_105 ?_
                  refine lv_iload_n hx hb d_MD_person_108 rfl (lv_at hl 4 rfl) ?_
                  refine lv_iconst (v := (1 : Int32)) hx hb d_MD_person_109 (by decide) ?_
                  obtain ⟨h_110, hm⟩ := ck_s hm
                  obtain ⟨e0_110, he, hm⟩ := lz_s hm
                  refine va_zast (f := (e0_103 34)) hx hb hK hP hD hS 26 1 rfl rfl h_110 d_MD_person_110 (fun H locs hP hD hS => ?_)
                  have hP : va_P (dC, dI) vwCl (wd_MD g h0 q0 e0_110) H := by rw [he]; exact hP
                  have hD : va_D A (wd_MD g h0 q0 e0_110) := by rw [he]; exact hD
                  refine lv_goto (tgt := 126) hx hb d_MD_person_111 (by decide) ?_
                  exact J126 j2_83 j3_83 s0_83 e0_110 H locs ls hm hP hD hS (lv_sub hl [1, 2, 3, 4, 0] rfl)
            refine lv_iload_n hx hb d_MD_person_28 rfl (lv_at hl 3 rfl) ?_
            refine lv_bipush (v := (20 : Int32)) hx hb d_MD_person_29 (by decide) ?_
            refine lv_icmp_ge (tgt := 145) hx hb d_MD_person_31 (by decide) (fun hc => ?_) (fun hc => ?_)
            · replace hm := if_t hm hc
              refine lv_iload_n hx hb d_MD_person_145 rfl (lv_at hl 2 rfl) ?_
              obtain rfl := Option.some.inj hm
              rw [hQ]
              exact kri hx hb hr hlocks hAe hP hK hD hS d_MD_person_146
            · replace hm := if_f hm hc
              refine lv_aload_n hx hb d_MD_person_34 rfl (lv_at hl 0 rfl) ?_
              refine va_get (D := (dC, dI)) (ci := 10) (v := .ref (q0 22)) (C := "AlarmMatrixModel") (T := T_MD) (N := 42) hx hb hts i_MD hown hK hP 0 rfl rfl 22 (by decide) (hts _ k5_42) (fun _ h9 => h9) rfl d_MD_person_35 ?_
              refine lv_iload_n hx hb d_MD_person_38 rfl (lv_at hl 3 rfl) ?_
              obtain ⟨h_39, hm⟩ := ck_s hm
              refine va_zald (f := (y0_28 22)) hx hb hK hP 16 1 rfl rfl h_39 d_MD_person_39 ?_
              refine lv_if_eq (tgt := 82) hx hb d_MD_person_40 (by decide) (fun hc => ?_) (fun hc => ?_)
              · replace hm := if_t hm hc
                refine lv_iconst (v := (0 : Int32)) hx hb d_MD_person_82 (by decide) ?_
                exact J83 v2_28 v3_28 (0 : Int32) y0_28 H locs ls hm hP hD hS (lv_sub hl [0, 1, 2, 3] rfl)
              · replace hm := if_f hm hc
                refine lv_aload_n hx hb d_MD_person_43 rfl (lv_at hl 0 rfl) ?_
                refine va_get (D := (dC, dI)) (ci := 10) (v := .ref (q0 32)) (C := "AlarmMatrixModel") (T := T_MD) (N := 42) hx hb hts i_MD hown hK hP 0 rfl rfl 32 (by decide) (hts _ k5_52) (fun _ h9 => h9) rfl d_MD_person_44 ?_
                refine lv_iload_n hx hb d_MD_person_47 rfl (lv_at hl 3 rfl) ?_
                obtain ⟨h_48, hm⟩ := ck_s hm
                refine va_iald (f := (y0_28 32)) hx hb hK hP 24 0 rfl rfl h_48 d_MD_person_48 ?_
                refine lv_iconst (v := (1 : Int32)) hx hb d_MD_person_49 (by decide) ?_
                refine lv_icmp_ne (tgt := 82) hx hb d_MD_person_50 (by decide) (fun hc => ?_) (fun hc => ?_)
                · replace hm := if_f hm hc
                  refine lv_iconst (v := (0 : Int32)) hx hb d_MD_person_82 (by decide) ?_
                  exact J83 v2_28 v3_28 (0 : Int32) y0_28 H locs ls hm hP hD hS (lv_sub hl [0, 1, 2, 3] rfl)
                · replace hm := if_t hm hc
                  refine lv_iload_n hx hb d_MD_person_53 rfl (lv_at hl 1 rfl) ?_
                  refine lv_if_ne (tgt := 69) hx hb d_MD_person_54 (by decide) (fun hc => ?_) (fun hc => ?_)
                  · replace hm := if_f hm hc
                    refine lv_aload_n hx hb d_MD_person_69 rfl (lv_at hl 0 rfl) ?_
                    refine va_get (D := (dC, dI)) (ci := 10) (v := .ref (q0 35)) (C := "AlarmMatrixModel") (T := T_MD) (N := 42) hx hb hts i_MD hown hK hP 0 rfl rfl 35 (by decide) (hts _ k5_55) (fun _ h9 => h9) rfl d_MD_person_70 ?_
                    refine lv_iload_n hx hb d_MD_person_73 rfl (lv_at hl 3 rfl) ?_
                    obtain ⟨h_74, hm⟩ := ck_s hm
                    refine va_zald (f := (y0_28 35)) hx hb hK hP 27 1 rfl rfl h_74 d_MD_person_74 ?_
                    refine lv_if_ne (tgt := 82) hx hb d_MD_person_75 (by decide) (fun hc => ?_) (fun hc => ?_)
                    · replace hm := if_f hm hc
                      refine lv_iconst (v := (0 : Int32)) hx hb d_MD_person_82 (by decide) ?_
                      exact J83 v2_28 v3_28 (0 : Int32) y0_28 H locs ls hm hP hD hS (lv_sub hl [0, 1, 2, 3] rfl)
                    · replace hm := if_t hm hc
                      refine lv_iconst (v := (1 : Int32)) hx hb d_MD_person_78 (by decide) ?_
                      refine lv_goto (tgt := 83) hx hb d_MD_person_79 (by decide) ?_
                      exact J83 v2_28 v3_28 (1 : Int32) y0_28 H locs ls hm hP hD hS (lv_sub hl [0, 1, 2, 3] rfl)
                  · replace hm := if_t hm hc
                    refine lv_aload_n hx hb d_MD_person_57 rfl (lv_at hl 0 rfl) ?_
                    refine va_get (D := (dC, dI)) (ci := 10) (v := .ref (q0 34)) (C := "AlarmMatrixModel") (T := T_MD) (N := 42) hx hb hts i_MD hown hK hP 0 rfl rfl 34 (by decide) (hts _ k5_54) (fun _ h9 => h9) rfl d_MD_person_58 ?_
                    refine lv_iload_n hx hb d_MD_person_61 rfl (lv_at hl 3 rfl) ?_
                    obtain ⟨h_62, hm⟩ := ck_s hm
                    refine va_zald (f := (y0_28 34)) hx hb hK hP 26 1 rfl rfl h_62 d_MD_person_62 ?_
                    refine lv_if_eq (tgt := 78) hx hb d_MD_person_63 (by decide) (fun hc => ?_) (fun hc => ?_)
                    · replace hm := if_t hm hc
                      refine lv_iconst (v := (1 : Int32)) hx hb d_MD_person_78 (by decide) ?_
                      refine lv_goto (tgt := 83) hx hb d_MD_person_79 (by decide) ?_
                      exact J83 v2_28 v3_28 (1 : Int32) y0_28 H locs ls hm hP hD hS (lv_sub hl [0, 1, 2, 3] rfl)
                    · replace hm := if_f hm hc
                      refine lv_goto (tgt := 82) hx hb d_MD_person_66 (by decide) ?_
                      refine lv_iconst (v := (0 : Int32)) hx hb d_MD_person_82 (by decide) ?_
                      exact J83 v2_28 v3_28 (0 : Int32) y0_28 H locs ls hm hP hD hS (lv_sub hl [0, 1, 2, 3] rfl)
        exact L28 F (0 : Int32) (0 : Int32) z0_16 H locs ls hm hP hD hS (lv_sub hl [2, 3, 1, 0] rfl)
      · replace hm := if_t hm hc
        refine lv_iconst (v := (0 : Int32)) hx hb d_MD_person_22 (by decide) ?_
        obtain rfl := Option.some.inj hm
        rw [hQ]
        exact kri hx hb hr hlocks hAe hP hK hD hS d_MD_person_23
    · replace hm := if_t hm hc
      refine lv_iconst (v := (1 : Int32)) hx hb d_MD_person_10 (by decide) ?_
      refine lv_goto (tgt := 15) hx hb d_MD_person_11 (by decide) ?_
      refine lv_iconst (v := (1 : Int32)) hx hb d_MD_person_15 (by decide) ?_
      obtain ⟨r16, z0_16, hcl, hm⟩ := bn2_s hm
      refine kci (wc := wd_MD g h0 q0 x0) (wr := ([] : va_W)) (w1 := wd_MD g h0 q0 z0_16) hP hD hS hA [0, 1, 2, 3, 4, 5, 6, 7, 8, 9, 10, 11, 12, 13, 14, 15, 16, 17, 18, 19, 20, 21, 22, 23, 24, 25, 26, 27, 28, 29, 30, 31] [] rfl rfl (by decide) (by decide) (va_runV (As := [.int (1 : Int32), .int (1 : Int32)]) (rest := []) ⟨hx, hb, hml, hown, hts⟩ (c_MD_goes hG hGn l dC dI g F H.size h0 q0 x0 (1 : Int32) (1 : Int32) hcl) (cwV 2 hts (gdV k5_155 k5_157 kp_20 k1_10 k5_158) rfl rfl rfl (by decide +kernel) ⟨Nat.le_of_ble_eq_true rfl, Nat.le_of_ble_eq_true rfl⟩) (kpV hG hP hK hD hS hA hGA [0, 1, 2, 3, 4, 5, 6, 7, 8, 9, 10, 11, 12, 13, 14, 15, 16, 17, 18, 19, 20, 21, 22, 23, 24, 25, 26, 27, 28, 29, 30, 31] (by decide) rfl (ci := 10) (q0 := 0) rfl rfl rfl) rfl rfl hl.1 rfl (lv_room (Nat.le_of_ble_eq_true rfl)) d_MD_person_16 ⟨Nat.le_of_ble_eq_true rfl, Nat.le_of_ble_eq_true rfl⟩) (fun H locs hP hD hS => ?_)
      have hP : va_P (dC, dI) vwCl (wd_MD g h0 q0 z0_16) H := hP
      have hD : va_D A (wd_MD g h0 q0 z0_16) := hD
      refine lv_if_ne (tgt := 24) hx hb d_MD_person_19 (by decide) (fun hc => ?_) (fun hc => ?_)
      · replace hm := if_f hm hc
        refine lv_iconst (v := (0 : Int32)) hx hb d_MD_person_24 (by decide) ?_
        refine lv_istore_n (lv' := [(2, .int (0 : Int32)), (0, .ref h0), (1, .int a1)]) hx hb d_MD_person_25 rfl hl (by decide) rfl (fun ls hl => ?_)
        refine lv_iconst (v := (0 : Int32)) hx hb d_MD_person_26 (by decide) ?_
        refine lv_istore_n (lv' := [(3, .int (0 : Int32)), (2, .int (0 : Int32)), (0, .ref h0), (1, .int a1)]) hx hb d_MD_person_27 rfl hl (by decide) rfl (fun ls hl => ?_)
        have L28 : ∀ (n28 : Nat) (v2_28 : Int32) (v3_28 : Int32) (y0_28 : St) (H : Heap) (locs : List Loc) (ls : Array Slot), lq3 (m_MD_person_B28 F a1 (fun v2_28 v3_28 y0_28 => (some (v2_28, y0_28)))) n28 v2_28 v3_28 y0_28 = some o → va_P (dC, dI) vwCl (wd_MD g h0 q0 y0_28) H → va_D A (wd_MD g h0 q0 y0_28) → va_S A s.heap H locs → lv_has ls 5 [(0, .ref h0), (1, .int a1), (2, .int v2_28), (3, .int v3_28)] → W p l e rm_MD_person s m args below meth c H locs 0 0 Q (F0 m 28 ls []) := by
          intro n28
          induction n28 with
          | zero => intro v2_28 v3_28 y0_28 H locs ls hm; exact absurd hm (by intro z; cases z)
          | succ n28 ih28 =>
            intro v2_28 v3_28 y0_28 H locs ls hm hP hD hS hl
            replace hm := m_MD_person_B28_h (lq3_h hm)
            have J126 : ∀ (j2_126 : Int32) (j3_126 : Int32) (j4_126 : Int32) (t0_126 : St) (H : Heap) (locs : List Loc) (ls : Array Slot), m_MD_person_J126 F  (fun v2_28 v3_28 y0_28 => (some (v2_28, y0_28))) (lq3 (m_MD_person_B28 F a1 (fun v2_28 v3_28 y0_28 => (some (v2_28, y0_28)))) n28) j2_126 j3_126 j4_126 t0_126 = some o → va_P (dC, dI) vwCl (wd_MD g h0 q0 t0_126) H → va_D A (wd_MD g h0 q0 t0_126) → va_S A s.heap H locs → lv_has ls 5 [(0, .ref h0), (1, .int a1), (2, .int j2_126), (3, .int j3_126), (4, .int j4_126)] → W p l e rm_MD_person s m args below meth c H locs 0 0 Q (F0 m 126 ls []) := by
              intro j2_126 j3_126 j4_126 t0_126 H locs ls hm hP hD hS hl
              replace hm := m_MD_person_J126_h hm
              refine lv_iload_n hx hb d_MD_person_126 rfl (lv_at hl 2 rfl) ?_
              refine lv_iload hx hb d_MD_person_127 (lv_at hl 4 rfl) ?_
              refine lv_if_eq (tgt := 136) hx hb d_MD_person_129 (by decide) (fun hc => ?_) (fun hc => ?_)
              · replace hm := if_t hm hc
                refine lv_iconst (v := (0 : Int32)) hx hb d_MD_person_136 (by decide) ?_
                refine lv_iadd hx hb d_MD_person_137 ?_
                refine lv_istore_n (lv' := [(2, .int (j2_126 + (0 : Int32))), (0, .ref h0), (1, .int a1), (3, .int j3_126), (4, .int j4_126)]) hx hb d_MD_person_138 rfl hl (by decide) rfl (fun ls hl => ?_)
                refine lv_iinc (v := (j3_126 + (1 : Int32))) (lv' := [(3, .int (j3_126 + (1 : Int32))), (2, .int (j2_126 + (0 : Int32))), (0, .ref h0), (1, .int a1), (4, .int j4_126)]) hx hb d_MD_person_139 hl (k := 3) rfl rfl (by decide) rfl (fun ls hl => ?_)
                refine lv_goto (tgt := 28) hx hb d_MD_person_142 (by decide) ?_
                exact ih28 (j2_126 + (0 : Int32)) (j3_126 + (1 : Int32)) t0_126 H locs ls hm hP hD hS (lv_sub hl [2, 3, 1, 0] rfl)
              · replace hm := if_f hm hc
                refine lv_iconst (v := (1 : Int32)) hx hb d_MD_person_132 (by decide) ?_
                refine lv_goto (tgt := 137) hx hb d_MD_person_133 (by decide) ?_
                refine lv_iadd hx hb d_MD_person_137 ?_
                refine lv_istore_n (lv' := [(2, .int (j2_126 + (1 : Int32))), (0, .ref h0), (1, .int a1), (3, .int j3_126), (4, .int j4_126)]) hx hb d_MD_person_138 rfl hl (by decide) rfl (fun ls hl => ?_)
                refine lv_iinc (v := (j3_126 + (1 : Int32))) (lv' := [(3, .int (j3_126 + (1 : Int32))), (2, .int (j2_126 + (1 : Int32))), (0, .ref h0), (1, .int a1), (4, .int j4_126)]) hx hb d_MD_person_139 hl (k := 3) rfl rfl (by decide) rfl (fun ls hl => ?_)
                refine lv_goto (tgt := 28) hx hb d_MD_person_142 (by decide) ?_
                exact ih28 (j2_126 + (1 : Int32)) (j3_126 + (1 : Int32)) t0_126 H locs ls hm hP hD hS (lv_sub hl [2, 3, 1, 0] rfl)
            have J83 : ∀ (j2_83 : Int32) (j3_83 : Int32) (s0_83 : Int32) (t0_83 : St) (H : Heap) (locs : List Loc) (ls : Array Slot), m_MD_person_J83 F a1 (fun v2_28 v3_28 y0_28 => (some (v2_28, y0_28))) (lq3 (m_MD_person_B28 F a1 (fun v2_28 v3_28 y0_28 => (some (v2_28, y0_28)))) n28) j2_83 j3_83 s0_83 t0_83 = some o → va_P (dC, dI) vwCl (wd_MD g h0 q0 t0_83) H → va_D A (wd_MD g h0 q0 t0_83) → va_S A s.heap H locs → lv_has ls 5 [(0, .ref h0), (1, .int a1), (2, .int j2_83), (3, .int j3_83)] → W p l e rm_MD_person s m args below meth c H locs 0 0 Q (F0 m 83 ls [.int s0_83]) := by
              intro j2_83 j3_83 s0_83 t0_83 H locs ls hm hP hD hS hl
              replace hm := m_MD_person_J83_h hm
              refine lv_istore (lv' := [(4, .int s0_83), (0, .ref h0), (1, .int a1), (2, .int j2_83), (3, .int j3_83)]) hx hb d_MD_person_83 hl (by decide) rfl (fun ls hl => ?_)
              refine lv_iload hx hb d_MD_person_85 (lv_at hl 0 rfl) ?_
              refine lv_if_eq (tgt := 114) hx hb d_MD_person_87 (by decide) (fun hc => ?_) (fun hc => ?_)
              · replace hm := if_t hm hc
                refine lv_iload hx hb d_MD_person_114 (lv_at hl 0 rfl) ?_
                refine lv_if_eq (tgt := 126) hx hb d_MD_person_116 (by decide) (fun hc => ?_) (fun hc => ?_)
                · replace hm := if_t hm hc
                  exact J126 j2_83 j3_83 s0_83 t0_83 H locs ls hm hP hD hS (lv_sub hl [1, 2, 3, 4, 0] rfl)
                · replace hm := if_f hm hc
                  refine lv_aload_n hx hb d_MD_person_119 rfl (lv_at hl 1 rfl) ?_
                  refine va_get (D := (dC, dI)) (ci := 10) (v := .ref (q0 35)) (C := "AlarmMatrixModel") (T := T_MD) (N := 42) hx hb hts i_MD hown hK hP 0 rfl rfl 35 (by decide) (hts _ k5_55) (fun _ h9 => h9) rfl d_MD_person_120 ?_
                  refine lv_iload_n hx hb d_MD_person_123 rfl (lv_at hl 4 rfl) ?_
                  refine lv_iconst (v := (1 : Int32)) hx hb d_MD_person_124 (by decide) ?_
                  obtain ⟨h_125, hm⟩ := ck_s hm
                  obtain ⟨e0_125, he, hm⟩ := lz_s hm
                  refine va_zast (f := (t0_83 35)) hx hb hK hP hD hS 27 1 rfl rfl h_125 d_MD_person_125 (fun H locs hP hD hS => ?_)
                  have hP : va_P (dC, dI) vwCl (wd_MD g h0 q0 e0_125) H := by rw [he]; exact hP
                  have hD : va_D A (wd_MD g h0 q0 e0_125) := by rw [he]; exact hD
                  exact J126 j2_83 j3_83 s0_83 e0_125 H locs ls hm hP hD hS (lv_sub hl [1, 2, 3, 4, 0] rfl)
              · replace hm := if_f hm hc
                refine lv_iload_n hx hb d_MD_person_90 rfl (lv_at hl 2 rfl) ?_
                refine lv_if_ne (tgt := 114) hx hb d_MD_person_91 (by decide) (fun hc => ?_) (fun hc => ?_)
                · replace hm := if_f hm hc
                  refine lv_iload hx hb d_MD_person_114 (lv_at hl 0 rfl) ?_
                  refine lv_if_eq (tgt := 126) hx hb d_MD_person_116 (by decide) (fun hc => ?_) (fun hc => ?_)
                  · replace hm := if_t hm hc
                    exact J126 j2_83 j3_83 s0_83 t0_83 H locs ls hm hP hD hS (lv_sub hl [1, 2, 3, 4, 0] rfl)
                  · replace hm := if_f hm hc
                    refine lv_aload_n hx hb d_MD_person_119 rfl (lv_at hl 1 rfl) ?_
                    refine va_get (D := (dC, dI)) (ci := 10) (v := .ref (q0 35)) (C := "AlarmMatrixModel") (T := T_MD) (N := 42) hx hb hts i_MD hown hK hP 0 rfl rfl 35 (by decide) (hts _ k5_55) (fun _ h9 => h9) rfl d_MD_person_120 ?_
                    refine lv_iload_n hx hb d_MD_person_123 rfl (lv_at hl 4 rfl) ?_
                    refine lv_iconst (v := (1 : Int32)) hx hb d_MD_person_124 (by decide) ?_
                    obtain ⟨h_125, hm⟩ := ck_s hm
                    obtain ⟨e0_125, he, hm⟩ := lz_s hm
                    refine va_zast (f := (t0_83 35)) hx hb hK hP hD hS 27 1 rfl rfl h_125 d_MD_person_125 (fun H locs hP hD hS => ?_)
                    have hP : va_P (dC, dI) vwCl (wd_MD g h0 q0 e0_125) H := by rw [he]; exact hP
                    have hD : va_D A (wd_MD g h0 q0 e0_125) := by rw [he]; exact hD
                    exact J126 j2_83 j3_83 s0_83 e0_125 H locs ls hm hP hD hS (lv_sub hl [1, 2, 3, 4, 0] rfl)
                · replace hm := if_t hm hc
                  refine lv_aload_n hx hb d_MD_person_94 rfl (lv_at hl 1 rfl) ?_
                  refine va_get (D := (dC, dI)) (ci := 10) (v := .ref (q0 33)) (C := "AlarmMatrixModel") (T := T_MD) (N := 42) hx hb hts i_MD hown hK hP 0 rfl rfl 33 (by decide) (hts _ k5_53) (fun _ h9 => h9) rfl d_MD_person_95 ?_
                  refine lv_iload_n hx hb d_MD_person_98 rfl (lv_at hl 4 rfl) ?_
                  refine lv_aload_n hx hb d_MD_person_99 rfl (lv_at hl 1 rfl) ?_
                  refine va_get (D := (dC, dI)) (ci := 10) (v := .int (t0_83 2 0)) (C := "AlarmMatrixModel") (T := T_MD) (N := 42) hx hb hts i_MD hown hK hP 0 rfl rfl 2 (by decide) (hts _ k5_22) (fun _ h9 => h9) rfl d_MD_person_100 ?_
                  obtain ⟨h_103, hm⟩ := ck_s hm
                  obtain ⟨e0_103, he, hm⟩ := lz_s hm
                  refine va_iast (f := (t0_83 33)) hx hb hK hP hD hS 25 0 rfl rfl h_103 d_MD_person_103 (fun H locs hP hD hS => ?_)
                  have hP : va_P (dC, dI) vwCl (wd_MD g h0 q0 e0_103) H := by rw [he]; exact hP
                  have hD : va_D A (wd_MD g h0 q0 e0_103) := by rw [he]; exact hD
                  refine lv_aload_n hx hb d_MD_person_104 rfl (lv_at hl 1 rfl) ?_
                  refine va_get (D := (dC, dI)) (ci := 10) (v := .ref (q0 34)) (C := "AlarmMatrixModel") (T := T_MD) (N := 42) hx hb hts i_MD hown hK hP 0 rfl rfl 34 (by decide) (hts _ k5_54) (fun _ h9 => h9) rfl d_MD_person_105 ?_
                  refine lv_iload_n hx hb d_MD_person_108 rfl (lv_at hl 4 rfl) ?_
                  refine lv_iconst (v := (1 : Int32)) hx hb d_MD_person_109 (by decide) ?_
                  obtain ⟨h_110, hm⟩ := ck_s hm
                  obtain ⟨e0_110, he, hm⟩ := lz_s hm
                  refine va_zast (f := (e0_103 34)) hx hb hK hP hD hS 26 1 rfl rfl h_110 d_MD_person_110 (fun H locs hP hD hS => ?_)
                  have hP : va_P (dC, dI) vwCl (wd_MD g h0 q0 e0_110) H := by rw [he]; exact hP
                  have hD : va_D A (wd_MD g h0 q0 e0_110) := by rw [he]; exact hD
                  refine lv_goto (tgt := 126) hx hb d_MD_person_111 (by decide) ?_
                  exact J126 j2_83 j3_83 s0_83 e0_110 H locs ls hm hP hD hS (lv_sub hl [1, 2, 3, 4, 0] rfl)
            refine lv_iload_n hx hb d_MD_person_28 rfl (lv_at hl 3 rfl) ?_
            refine lv_bipush (v := (20 : Int32)) hx hb d_MD_person_29 (by decide) ?_
            refine lv_icmp_ge (tgt := 145) hx hb d_MD_person_31 (by decide) (fun hc => ?_) (fun hc => ?_)
            · replace hm := if_t hm hc
              refine lv_iload_n hx hb d_MD_person_145 rfl (lv_at hl 2 rfl) ?_
              obtain rfl := Option.some.inj hm
              rw [hQ]
              exact kri hx hb hr hlocks hAe hP hK hD hS d_MD_person_146
            · replace hm := if_f hm hc
              refine lv_aload_n hx hb d_MD_person_34 rfl (lv_at hl 0 rfl) ?_
              refine va_get (D := (dC, dI)) (ci := 10) (v := .ref (q0 22)) (C := "AlarmMatrixModel") (T := T_MD) (N := 42) hx hb hts i_MD hown hK hP 0 rfl rfl 22 (by decide) (hts _ k5_42) (fun _ h9 => h9) rfl d_MD_person_35 ?_
              refine lv_iload_n hx hb d_MD_person_38 rfl (lv_at hl 3 rfl) ?_
              obtain ⟨h_39, hm⟩ := ck_s hm
              refine va_zald (f := (y0_28 22)) hx hb hK hP 16 1 rfl rfl h_39 d_MD_person_39 ?_
              refine lv_if_eq (tgt := 82) hx hb d_MD_person_40 (by decide) (fun hc => ?_) (fun hc => ?_)
              · replace hm := if_t hm hc
                refine lv_iconst (v := (0 : Int32)) hx hb d_MD_person_82 (by decide) ?_
                exact J83 v2_28 v3_28 (0 : Int32) y0_28 H locs ls hm hP hD hS (lv_sub hl [0, 1, 2, 3] rfl)
              · replace hm := if_f hm hc
                refine lv_aload_n hx hb d_MD_person_43 rfl (lv_at hl 0 rfl) ?_
                refine va_get (D := (dC, dI)) (ci := 10) (v := .ref (q0 32)) (C := "AlarmMatrixModel") (T := T_MD) (N := 42) hx hb hts i_MD hown hK hP 0 rfl rfl 32 (by decide) (hts _ k5_52) (fun _ h9 => h9) rfl d_MD_person_44 ?_
                refine lv_iload_n hx hb d_MD_person_47 rfl (lv_at hl 3 rfl) ?_
                obtain ⟨h_48, hm⟩ := ck_s hm
                refine va_iald (f := (y0_28 32)) hx hb hK hP 24 0 rfl rfl h_48 d_MD_person_48 ?_
                refine lv_iconst (v := (1 : Int32)) hx hb d_MD_person_49 (by decide) ?_
                refine lv_icmp_ne (tgt := 82) hx hb d_MD_person_50 (by decide) (fun hc => ?_) (fun hc => ?_)
                · replace hm := if_f hm hc
                  refine lv_iconst (v := (0 : Int32)) hx hb d_MD_person_82 (by decide) ?_
                  exact J83 v2_28 v3_28 (0 : Int32) y0_28 H locs ls hm hP hD hS (lv_sub hl [0, 1, 2, 3] rfl)
                · replace hm := if_t hm hc
                  refine lv_iload_n hx hb d_MD_person_53 rfl (lv_at hl 1 rfl) ?_
                  refine lv_if_ne (tgt := 69) hx hb d_MD_person_54 (by decide) (fun hc => ?_) (fun hc => ?_)
                  · replace hm := if_f hm hc
                    refine lv_aload_n hx hb d_MD_person_69 rfl (lv_at hl 0 rfl) ?_
                    refine va_get (D := (dC, dI)) (ci := 10) (v := .ref (q0 35)) (C := "AlarmMatrixModel") (T := T_MD) (N := 42) hx hb hts i_MD hown hK hP 0 rfl rfl 35 (by decide) (hts _ k5_55) (fun _ h9 => h9) rfl d_MD_person_70 ?_
                    refine lv_iload_n hx hb d_MD_person_73 rfl (lv_at hl 3 rfl) ?_
                    obtain ⟨h_74, hm⟩ := ck_s hm
                    refine va_zald (f := (y0_28 35)) hx hb hK hP 27 1 rfl rfl h_74 d_MD_person_74 ?_
                    refine lv_if_ne (tgt := 82) hx hb d_MD_person_75 (by decide) (fun hc => ?_) (fun hc => ?_)
                    · replace hm := if_f hm hc
                      refine lv_iconst (v := (0 : Int32)) hx hb d_MD_person_82 (by decide) ?_
                      exact J83 v2_28 v3_28 (0 : Int32) y0_28 H locs ls hm hP hD hS (lv_sub hl [0, 1, 2, 3] rfl)
                    · replace hm := if_t hm hc
                      refine lv_iconst (v := (1 : Int32)) hx hb d_MD_person_78 (by decide) ?_
                      refine lv_goto (tgt := 83) hx hb d_MD_person_79 (by decide) ?_
                      exact J83 v2_28 v3_28 (1 : Int32) y0_28 H locs ls hm hP hD hS (lv_sub hl [0, 1, 2, 3] rfl)
                  · replace hm := if_t hm hc
                    refine lv_aload_n hx hb d_MD_person_57 rfl (lv_at hl 0 rfl) ?_
                    refine va_get (D := (dC, dI)) (ci := 10) (v := .ref (q0 34)) (C := "AlarmMatrixModel") (T := T_MD) (N := 42) hx hb hts i_MD hown hK hP 0 rfl rfl 34 (by decide) (hts _ k5_54) (fun _ h9 => h9) rfl d_MD_person_58 ?_
                    refine lv_iload_n hx hb d_MD_person_61 rfl (lv_at hl 3 rfl) ?_
                    obtain ⟨h_62, hm⟩ := ck_s hm
                    refine va_zald (f := (y0_28 34)) hx hb hK hP 26 1 rfl rfl h_62 d_MD_person_62 ?_
                    refine lv_if_eq (tgt := 78) hx hb d_MD_person_63 (by decide) (fun hc => ?_) (fun hc => ?_)
                    · replace hm := if_t hm hc
                      refine lv_iconst (v := (1 : Int32)) hx hb d_MD_person_78 (by decide) ?_
                      refine lv_goto (tgt := 83) hx hb d_MD_person_79 (by decide) ?_
                      exact J83 v2_28 v3_28 (1 : Int32) y0_28 H locs ls hm hP hD hS (lv_sub hl [0, 1, 2, 3] rfl)
                    · replace hm := if_f hm hc
                      refine lv_goto (tgt := 82) hx hb d_MD_person_66 (by decide) ?_
                      refine lv_iconst (v := (0 : Int32)) hx hb d_MD_person_82 (by decide) ?_
                      exact J83 v2_28 v3_28 (0 : Int32) y0_28 H locs ls hm hP hD hS (lv_sub hl [0, 1, 2, 3] rfl)
        exact L28 F (0 : Int32) (0 : Int32) z0_16 H locs ls hm hP hD hS (lv_sub hl [2, 3, 1, 0] rfl)
      · replace hm := if_t hm hc
        refine lv_iconst (v := (0 : Int32)) hx hb d_MD_person_22 (by decide) ?_
        obtain rfl := Option.some.inj hm
        rw [hQ]
        exact kri hx hb hr hlocks hAe hP hK hD hS d_MD_person_23
abbrev b_MD_reset : ByteArray := prog_12_method_54_code
abbrev y_MD_reset : MethodName := ⟨"AlarmMatrixModel", "reset", "()I"⟩
theorem d_MD_reset_0 : decode b_MD_reset 0 = .ok (.aload_n 0, 1) := by decide +kernel
theorem d_MD_reset_1 : decode b_MD_reset 1 = .ok (.iconst 0, 1) := by decide +kernel
theorem d_MD_reset_2 : decode b_MD_reset 2 = .ok (.putfield 108, 3) := by decide +kernel
theorem d_MD_reset_5 : decode b_MD_reset 5 = .ok (.iconst 0, 1) := by decide +kernel
theorem d_MD_reset_6 : decode b_MD_reset 6 = .ok (.istore_n 1, 1) := by decide +kernel
theorem d_MD_reset_7 : decode b_MD_reset 7 = .ok (.aload_n 0, 1) := by decide +kernel
theorem d_MD_reset_8 : decode b_MD_reset 8 = .ok (.iconst 0, 1) := by decide +kernel
theorem d_MD_reset_9 : decode b_MD_reset 9 = .ok (.invokevirtual 266, 3) := by decide +kernel
theorem d_MD_reset_12 : decode b_MD_reset 12 = .ok (.istore_n 2, 1) := by decide +kernel
theorem d_MD_reset_13 : decode b_MD_reset 13 = .ok (.iconst 1, 1) := by decide +kernel
theorem d_MD_reset_14 : decode b_MD_reset 14 = .ok (.istore_n 3, 1) := by decide +kernel
theorem d_MD_reset_15 : decode b_MD_reset 15 = .ok (.iload_n 2, 1) := by decide +kernel
theorem d_MD_reset_16 : decode b_MD_reset 16 = .ok (.ifCond .lt 57, 3) := by decide +kernel
theorem d_MD_reset_19 : decode b_MD_reset 19 = .ok (.aload_n 0, 1) := by decide +kernel
theorem d_MD_reset_20 : decode b_MD_reset 20 = .ok (.getfield 68, 3) := by decide +kernel
theorem d_MD_reset_23 : decode b_MD_reset 23 = .ok (.iload_n 2, 1) := by decide +kernel
theorem d_MD_reset_24 : decode b_MD_reset 24 = .ok (.baload, 1) := by decide +kernel
theorem d_MD_reset_25 : decode b_MD_reset 25 = .ok (.ifCond .eq 36, 3) := by decide +kernel
theorem d_MD_reset_28 : decode b_MD_reset 28 = .ok (.aload_n 0, 1) := by decide +kernel
theorem d_MD_reset_29 : decode b_MD_reset 29 = .ok (.getfield 80, 3) := by decide +kernel
theorem d_MD_reset_32 : decode b_MD_reset 32 = .ok (.iload_n 2, 1) := by decide +kernel
theorem d_MD_reset_33 : decode b_MD_reset 33 = .ok (.iaload, 1) := by decide +kernel
theorem d_MD_reset_34 : decode b_MD_reset 34 = .ok (.iconst 2, 1) := by decide +kernel
theorem d_MD_reset_35 : decode b_MD_reset 35 = .ok (.if_icmp .ne 26, 3) := by decide +kernel
theorem d_MD_reset_38 : decode b_MD_reset 38 = .ok (.aload_n 0, 1) := by decide +kernel
theorem d_MD_reset_39 : decode b_MD_reset 39 = .ok (.iload_n 2, 1) := by decide +kernel
theorem d_MD_reset_40 : decode b_MD_reset 40 = .ok (.iconst 0, 1) := by decide +kernel
theorem d_MD_reset_41 : decode b_MD_reset 41 = .ok (.invokevirtual 258, 3) := by decide +kernel
theorem d_MD_reset_44 : decode b_MD_reset 44 = .ok (.ifCond .ne 17, 3) := by decide +kernel
theorem d_MD_reset_47 : decode b_MD_reset 47 = .ok (.aload_n 0, 1) := by decide +kernel
theorem d_MD_reset_48 : decode b_MD_reset 48 = .ok (.iload_n 2, 1) := by decide +kernel
theorem d_MD_reset_49 : decode b_MD_reset 49 = .ok (.invokevirtual 223, 3) := by decide +kernel
theorem d_MD_reset_52 : decode b_MD_reset 52 = .ok (.aload_n 0, 1) := by decide +kernel
theorem d_MD_reset_53 : decode b_MD_reset 53 = .ok (.iload_n 2, 1) := by decide +kernel
theorem d_MD_reset_54 : decode b_MD_reset 54 = .ok (.iconst 0, 1) := by decide +kernel
theorem d_MD_reset_55 : decode b_MD_reset 55 = .ok (.invokevirtual 262, 3) := by decide +kernel
theorem d_MD_reset_58 : decode b_MD_reset 58 = .ok (.iinc 1 1, 3) := by decide +kernel
theorem d_MD_reset_61 : decode b_MD_reset 61 = .ok (.aload_n 0, 1) := by decide +kernel
theorem d_MD_reset_62 : decode b_MD_reset 62 = .ok (.iload_n 3, 1) := by decide +kernel
theorem d_MD_reset_63 : decode b_MD_reset 63 = .ok (.invokevirtual 266, 3) := by decide +kernel
theorem d_MD_reset_66 : decode b_MD_reset 66 = .ok (.istore_n 2, 1) := by decide +kernel
theorem d_MD_reset_67 : decode b_MD_reset 67 = .ok (.iinc 3 1, 3) := by decide +kernel
theorem d_MD_reset_70 : decode b_MD_reset 70 = .ok (.goto (-55), 3) := by decide +kernel
theorem d_MD_reset_73 : decode b_MD_reset 73 = .ok (.iload_n 1, 1) := by decide +kernel
theorem d_MD_reset_74 : decode b_MD_reset 74 = .ok (.ireturn, 1) := by decide +kernel
def m_MD_reset_B15 {R : Type} (F : Nat)  (k15_73 : Int32 → Int32 → Int32 → St → Option R) (rec15 : Int32 → Int32 → Int32 → St → Option R) (v1_15 : Int32) (v2_15 : Int32) (v3_15 : Int32) (y0_15 : St) : Option R :=
  (if v2_15 < (0 : Int32) then (k15_73 v1_15 v2_15 v3_15 y0_15) else (ck v2_15 40 (if ((y0_15 26) v2_15.toNatClampNeg) = (0 : Int32) then (bn1 (m_MD_rankedOne F y0_15 v3_15) (fun r63 => (rec15 v1_15 r63 (v3_15 + (1 : Int32)) y0_15))) else (ck v2_15 20 (if ((y0_15 32) v2_15.toNatClampNeg) = (2 : Int32) then (bn1 (m_MD_isCalled F y0_15 v2_15 (0 : Int32)) (fun r41 => (if r41 = (0 : Int32) then (bn1 (m_MD_rests F y0_15 v2_15) (fun z0_49 => (bn1 (m_MD_tell F z0_49 v2_15 (0 : Int32)) (fun z0_55 => (bn1 (m_MD_rankedOne F z0_55 v3_15) (fun r63 => (rec15 (v1_15 + (1 : Int32)) r63 (v3_15 + (1 : Int32)) z0_55))))))) else (bn1 (m_MD_rankedOne F y0_15 v3_15) (fun r63 => (rec15 v1_15 r63 (v3_15 + (1 : Int32)) y0_15)))))) else (bn1 (m_MD_rankedOne F y0_15 v3_15) (fun r63 => (rec15 v1_15 r63 (v3_15 + (1 : Int32)) y0_15))))))))
theorem m_MD_reset_B15_h {R : Type} {F : Nat}  {k15_73 : Int32 → Int32 → Int32 → St → Option R} {rec15 : Int32 → Int32 → Int32 → St → Option R} {v1_15 : Int32} {v2_15 : Int32} {v3_15 : Int32} {y0_15 : St} {o : R} (h : m_MD_reset_B15 F k15_73 rec15 v1_15 v2_15 v3_15 y0_15 = some o) :
  (if v2_15 < (0 : Int32) then (k15_73 v1_15 v2_15 v3_15 y0_15) else (ck v2_15 40 (if ((y0_15 26) v2_15.toNatClampNeg) = (0 : Int32) then (bn1 (m_MD_rankedOne F y0_15 v3_15) (fun r63 => (rec15 v1_15 r63 (v3_15 + (1 : Int32)) y0_15))) else (ck v2_15 20 (if ((y0_15 32) v2_15.toNatClampNeg) = (2 : Int32) then (bn1 (m_MD_isCalled F y0_15 v2_15 (0 : Int32)) (fun r41 => (if r41 = (0 : Int32) then (bn1 (m_MD_rests F y0_15 v2_15) (fun z0_49 => (bn1 (m_MD_tell F z0_49 v2_15 (0 : Int32)) (fun z0_55 => (bn1 (m_MD_rankedOne F z0_55 v3_15) (fun r63 => (rec15 (v1_15 + (1 : Int32)) r63 (v3_15 + (1 : Int32)) z0_55))))))) else (bn1 (m_MD_rankedOne F y0_15 v3_15) (fun r63 => (rec15 v1_15 r63 (v3_15 + (1 : Int32)) y0_15)))))) else (bn1 (m_MD_rankedOne F y0_15 v3_15) (fun r63 => (rec15 v1_15 r63 (v3_15 + (1 : Int32)) y0_15)))))))) = some o := h
def m_MD_reset (F : Nat) (x0 : St) : Option (Int32 × St) :=
  (lz (sc x0 0 (0 : Int32)) (fun e0_2 => (bn1 (m_MD_rankedOne F e0_2 (0 : Int32)) (fun r9 => (lq4 (m_MD_reset_B15 F  (fun v1_15 v2_15 v3_15 y0_15 => (some (v1_15, y0_15)))) F (0 : Int32) r9 (1 : Int32) e0_2)))))
abbrev rm_MD_reset : Room := { frames := 6, cells := 0, slots := 0, locals := 139 }
set_option maxHeartbeats 4000000 in
set_option maxRecDepth 100000 in
theorem c_MD_reset {G : (Nat → Prop) → State → Prop} (hG : gok G) (hGn : gN G) (l : Launch) (dC : Nat → ClassId) (dI : Nat → Nat → Nat) (g : Nat → ClassId) (F : Nat) (sz : Nat) (h0 : Nat) (q0 : Nat → Nat) (x0 : St) {o : Int32 × St} (hm : m_MD_reset F x0 = some o) : Met l y_MD_reset (.code y_MD_reset b_MD_reset 4 (some .int) :: gw) rm_MD_reset (kq (dC, dI) vwCl (tyv g) G [.ref h0] sz (wd_MD g h0 q0 x0)) (kqi (dC, dI) vwCl (tyv g) (wd_MD g h0 q0 x0) o.1 (wd_MD g h0 q0 (o.2)) sz) 0 0 (va_A (wd_MD g h0 q0 x0) sz) := by
  unfold m_MD_reset at hm
  refine km (Qc := fun sz => kqi (dC, dI) vwCl (tyv g) (wd_MD g h0 q0 x0) o.1 (wd_MD g h0 q0 (o.2)) sz) (cc := b_MD_reset) (maxL := 4) (ret := some .int) (by decide) rfl (Nat.le_of_ble_eq_true rfl) ?_
  intro p e s m args below meth c Q hQ hx hb hr hts hown hlocks hml hnm H locs A hAe hA hP hK hD hS hGA ls hl
  have hl : lv_has ls 4 [(0, .ref h0)] := hl
  have hts : ∀ w ∈ gw, w.before args s = true := fun w h => hts w (List.mem_cons_of_mem _ h)
  have hown : s.vm.findClass "AlarmMatrixModel" = some m.cls := hown
  refine lv_aload_n hx hb d_MD_reset_0 rfl (lv_at hl 0 rfl) ?_
  refine lv_iconst (v := (0 : Int32)) hx hb d_MD_reset_1 (by decide) ?_
  obtain ⟨e0_2, he, hm⟩ := lz_s hm
  refine va_put (D := (dC, dI)) (ci := 10) (v := .int (0 : Int32)) (ty := .int) (C := "AlarmMatrixModel") (T := T_MD) (N := 42) hx hb hts i_MD t_MD o_MD n_MD hown hK hP hD hS 0 rfl rfl 0 (by decide) (hts _ k5_20) (fun _ h9 => h9) rfl (by decide +kernel) rfl rfl (Nat.le_of_ble_eq_true rfl) d_MD_reset_2 (fun H locs hP hD hS => ?_)
  have hP : va_P (dC, dI) vwCl (wd_MD g h0 q0 e0_2) H := by rw [he]; exact hP
  have hD : va_D A (wd_MD g h0 q0 e0_2) := by rw [he]; exact hD
  refine lv_iconst (v := (0 : Int32)) hx hb d_MD_reset_5 (by decide) ?_
  refine lv_istore_n (lv' := [(1, .int (0 : Int32)), (0, .ref h0)]) hx hb d_MD_reset_6 rfl hl (by decide) rfl (fun ls hl => ?_)
  refine lv_aload_n hx hb d_MD_reset_7 rfl (lv_at hl 1 rfl) ?_
  refine lv_iconst (v := (0 : Int32)) hx hb d_MD_reset_8 (by decide) ?_
  obtain ⟨r9, hcl, hm⟩ := bn1_s hm
  refine kci (wc := wd_MD g h0 q0 e0_2) (wr := ([] : va_W)) (w1 := wd_MD g h0 q0 e0_2) hP hD hS hA [0, 1, 2, 3, 4, 5, 6, 7, 8, 9, 10, 11, 12, 13, 14, 15, 16, 17, 18, 19, 20, 21, 22, 23, 24, 25, 26, 27, 28, 29, 30, 31] [] rfl rfl (by decide) (by decide) (va_runV (As := [.int (0 : Int32)]) (rest := []) ⟨hx, hb, hml, hown, hts⟩ (c_MD_rankedOne hG hGn l dC dI g F H.size h0 q0 e0_2 (0 : Int32) hcl) (cwV 1 hts (gdV k6_81 k6_83 kp_46 k1_10 k6_84) rfl rfl rfl (by decide +kernel) ⟨Nat.le_of_ble_eq_true rfl, Nat.le_of_ble_eq_true rfl⟩) (kpV hG hP hK hD hS hA hGA [0, 1, 2, 3, 4, 5, 6, 7, 8, 9, 10, 11, 12, 13, 14, 15, 16, 17, 18, 19, 20, 21, 22, 23, 24, 25, 26, 27, 28, 29, 30, 31] (by decide) rfl (ci := 10) (q0 := 0) rfl rfl rfl) rfl rfl hl.1 rfl (lv_room (Nat.le_of_ble_eq_true rfl)) d_MD_reset_9 ⟨Nat.le_of_ble_eq_true rfl, Nat.le_of_ble_eq_true rfl⟩) (fun H locs hP hD hS => ?_)
  have hP : va_P (dC, dI) vwCl (wd_MD g h0 q0 e0_2) H := hP
  have hD : va_D A (wd_MD g h0 q0 e0_2) := hD
  refine lv_istore_n (lv' := [(2, .int r9), (1, .int (0 : Int32)), (0, .ref h0)]) hx hb d_MD_reset_12 rfl hl (by decide) rfl (fun ls hl => ?_)
  refine lv_iconst (v := (1 : Int32)) hx hb d_MD_reset_13 (by decide) ?_
  refine lv_istore_n (lv' := [(3, .int (1 : Int32)), (2, .int r9), (1, .int (0 : Int32)), (0, .ref h0)]) hx hb d_MD_reset_14 rfl hl (by decide) rfl (fun ls hl => ?_)
  have L15 : ∀ (n15 : Nat) (v1_15 : Int32) (v2_15 : Int32) (v3_15 : Int32) (y0_15 : St) (H : Heap) (locs : List Loc) (ls : Array Slot), lq4 (m_MD_reset_B15 F  (fun v1_15 v2_15 v3_15 y0_15 => (some (v1_15, y0_15)))) n15 v1_15 v2_15 v3_15 y0_15 = some o → va_P (dC, dI) vwCl (wd_MD g h0 q0 y0_15) H → va_D A (wd_MD g h0 q0 y0_15) → va_S A s.heap H locs → lv_has ls 4 [(0, .ref h0), (1, .int v1_15), (2, .int v2_15), (3, .int v3_15)] → W p l e rm_MD_reset s m args below meth c H locs 0 0 Q (F0 m 15 ls []) := by
    intro n15
    induction n15 with
    | zero => intro v1_15 v2_15 v3_15 y0_15 H locs ls hm; exact absurd hm (by intro z; cases z)
    | succ n15 ih15 =>
      intro v1_15 v2_15 v3_15 y0_15 H locs ls hm hP hD hS hl
      replace hm := m_MD_reset_B15_h (lq4_h hm)
      refine lv_iload_n hx hb d_MD_reset_15 rfl (lv_at hl 2 rfl) ?_
      refine lv_if_lt (tgt := 73) hx hb d_MD_reset_16 (by decide) (fun hc => ?_) (fun hc => ?_)
      · replace hm := if_t hm hc
        refine lv_iload_n hx hb d_MD_reset_73 rfl (lv_at hl 1 rfl) ?_
        obtain rfl := Option.some.inj hm
        rw [hQ]
        exact kri hx hb hr hlocks hAe hP hK hD hS d_MD_reset_74
      · replace hm := if_f hm hc
        refine lv_aload_n hx hb d_MD_reset_19 rfl (lv_at hl 0 rfl) ?_
        refine va_get (D := (dC, dI)) (ci := 10) (v := .ref (q0 26)) (C := "AlarmMatrixModel") (T := T_MD) (N := 42) hx hb hts i_MD hown hK hP 0 rfl rfl 26 (by decide) (hts _ k5_46) (fun _ h9 => h9) rfl d_MD_reset_20 ?_
        refine lv_iload_n hx hb d_MD_reset_23 rfl (lv_at hl 2 rfl) ?_
        obtain ⟨h_24, hm⟩ := ck_s hm
        refine va_zald (f := (y0_15 26)) hx hb hK hP 20 1 rfl rfl h_24 d_MD_reset_24 ?_
        refine lv_if_eq (tgt := 61) hx hb d_MD_reset_25 (by decide) (fun hc => ?_) (fun hc => ?_)
        · replace hm := if_t hm hc
          refine lv_aload_n hx hb d_MD_reset_61 rfl (lv_at hl 0 rfl) ?_
          refine lv_iload_n hx hb d_MD_reset_62 rfl (lv_at hl 3 rfl) ?_
          obtain ⟨r63, hcl, hm⟩ := bn1_s hm
          refine kci (wc := wd_MD g h0 q0 y0_15) (wr := ([] : va_W)) (w1 := wd_MD g h0 q0 y0_15) hP hD hS hA [0, 1, 2, 3, 4, 5, 6, 7, 8, 9, 10, 11, 12, 13, 14, 15, 16, 17, 18, 19, 20, 21, 22, 23, 24, 25, 26, 27, 28, 29, 30, 31] [] rfl rfl (by decide) (by decide) (va_runV (As := [.int v3_15]) (rest := []) ⟨hx, hb, hml, hown, hts⟩ (c_MD_rankedOne hG hGn l dC dI g F H.size h0 q0 y0_15 v3_15 hcl) (cwV 1 hts (gdV k6_81 k6_83 kp_46 k1_10 k6_84) rfl rfl rfl (by decide +kernel) ⟨Nat.le_of_ble_eq_true rfl, Nat.le_of_ble_eq_true rfl⟩) (kpV hG hP hK hD hS hA hGA [0, 1, 2, 3, 4, 5, 6, 7, 8, 9, 10, 11, 12, 13, 14, 15, 16, 17, 18, 19, 20, 21, 22, 23, 24, 25, 26, 27, 28, 29, 30, 31] (by decide) rfl (ci := 10) (q0 := 0) rfl rfl rfl) rfl rfl hl.1 rfl (lv_room (Nat.le_of_ble_eq_true rfl)) d_MD_reset_63 ⟨Nat.le_of_ble_eq_true rfl, Nat.le_of_ble_eq_true rfl⟩) (fun H locs hP hD hS => ?_)
          have hP : va_P (dC, dI) vwCl (wd_MD g h0 q0 y0_15) H := hP
          have hD : va_D A (wd_MD g h0 q0 y0_15) := hD
          refine lv_istore_n (lv' := [(2, .int r63), (0, .ref h0), (1, .int v1_15), (3, .int v3_15)]) hx hb d_MD_reset_66 rfl hl (by decide) rfl (fun ls hl => ?_)
          refine lv_iinc (v := (v3_15 + (1 : Int32))) (lv' := [(3, .int (v3_15 + (1 : Int32))), (2, .int r63), (0, .ref h0), (1, .int v1_15)]) hx hb d_MD_reset_67 hl (k := 3) rfl rfl (by decide) rfl (fun ls hl => ?_)
          refine lv_goto (tgt := 15) hx hb d_MD_reset_70 (by decide) ?_
          exact ih15 v1_15 r63 (v3_15 + (1 : Int32)) y0_15 H locs ls hm hP hD hS (lv_sub hl [2, 3, 1, 0] rfl)
        · replace hm := if_f hm hc
          refine lv_aload_n hx hb d_MD_reset_28 rfl (lv_at hl 0 rfl) ?_
          refine va_get (D := (dC, dI)) (ci := 10) (v := .ref (q0 32)) (C := "AlarmMatrixModel") (T := T_MD) (N := 42) hx hb hts i_MD hown hK hP 0 rfl rfl 32 (by decide) (hts _ k5_52) (fun _ h9 => h9) rfl d_MD_reset_29 ?_
          refine lv_iload_n hx hb d_MD_reset_32 rfl (lv_at hl 2 rfl) ?_
          obtain ⟨h_33, hm⟩ := ck_s hm
          refine va_iald (f := (y0_15 32)) hx hb hK hP 24 0 rfl rfl h_33 d_MD_reset_33 ?_
          refine lv_iconst (v := (2 : Int32)) hx hb d_MD_reset_34 (by decide) ?_
          refine lv_icmp_ne (tgt := 61) hx hb d_MD_reset_35 (by decide) (fun hc => ?_) (fun hc => ?_)
          · replace hm := if_f hm hc
            refine lv_aload_n hx hb d_MD_reset_61 rfl (lv_at hl 0 rfl) ?_
            refine lv_iload_n hx hb d_MD_reset_62 rfl (lv_at hl 3 rfl) ?_
            obtain ⟨r63, hcl, hm⟩ := bn1_s hm
            refine kci (wc := wd_MD g h0 q0 y0_15) (wr := ([] : va_W)) (w1 := wd_MD g h0 q0 y0_15) hP hD hS hA [0, 1, 2, 3, 4, 5, 6, 7, 8, 9, 10, 11, 12, 13, 14, 15, 16, 17, 18, 19, 20, 21, 22, 23, 24, 25, 26, 27, 28, 29, 30, 31] [] rfl rfl (by decide) (by decide) (va_runV (As := [.int v3_15]) (rest := []) ⟨hx, hb, hml, hown, hts⟩ (c_MD_rankedOne hG hGn l dC dI g F H.size h0 q0 y0_15 v3_15 hcl) (cwV 1 hts (gdV k6_81 k6_83 kp_46 k1_10 k6_84) rfl rfl rfl (by decide +kernel) ⟨Nat.le_of_ble_eq_true rfl, Nat.le_of_ble_eq_true rfl⟩) (kpV hG hP hK hD hS hA hGA [0, 1, 2, 3, 4, 5, 6, 7, 8, 9, 10, 11, 12, 13, 14, 15, 16, 17, 18, 19, 20, 21, 22, 23, 24, 25, 26, 27, 28, 29, 30, 31] (by decide) rfl (ci := 10) (q0 := 0) rfl rfl rfl) rfl rfl hl.1 rfl (lv_room (Nat.le_of_ble_eq_true rfl)) d_MD_reset_63 ⟨Nat.le_of_ble_eq_true rfl, Nat.le_of_ble_eq_true rfl⟩) (fun H locs hP hD hS => ?_)
            have hP : va_P (dC, dI) vwCl (wd_MD g h0 q0 y0_15) H := hP
            have hD : va_D A (wd_MD g h0 q0 y0_15) := hD
            refine lv_istore_n (lv' := [(2, .int r63), (0, .ref h0), (1, .int v1_15), (3, .int v3_15)]) hx hb d_MD_reset_66 rfl hl (by decide) rfl (fun ls hl => ?_)
            refine lv_iinc (v := (v3_15 + (1 : Int32))) (lv' := [(3, .int (v3_15 + (1 : Int32))), (2, .int r63), (0, .ref h0), (1, .int v1_15)]) hx hb d_MD_reset_67 hl (k := 3) rfl rfl (by decide) rfl (fun ls hl => ?_)
            refine lv_goto (tgt := 15) hx hb d_MD_reset_70 (by decide) ?_
            exact ih15 v1_15 r63 (v3_15 + (1 : Int32)) y0_15 H locs ls hm hP hD hS (lv_sub hl [2, 3, 1, 0] rfl)
          · replace hm := if_t hm hc
            refine lv_aload_n hx hb d_MD_reset_38 rfl (lv_at hl 0 rfl) ?_
            refine lv_iload_n hx hb d_MD_reset_39 rfl (lv_at hl 2 rfl) ?_
            refine lv_iconst (v := (0 : Int32)) hx hb d_MD_reset_40 (by decide) ?_
            obtain ⟨r41, hcl, hm⟩ := bn1_s hm
            refine kci (wc := wd_MD g h0 q0 y0_15) (wr := ([] : va_W)) (w1 := wd_MD g h0 q0 y0_15) hP hD hS hA [0, 1, 2, 3, 4, 5, 6, 7, 8, 9, 10, 11, 12, 13, 14, 15, 16, 17, 18, 19, 20, 21, 22, 23, 24, 25, 26, 27, 28, 29, 30, 31] [] rfl rfl (by decide) (by decide) (va_runV (As := [.int v2_15, .int (0 : Int32)]) (rest := []) ⟨hx, hb, hml, hown, hts⟩ (c_MD_isCalled hG hGn l dC dI g F H.size h0 q0 y0_15 v2_15 (0 : Int32) hcl) (cwV 2 hts (gdV k6_89 k6_91 kp_48 k1_10 k6_92) rfl rfl rfl (by decide +kernel) ⟨Nat.le_of_ble_eq_true rfl, Nat.le_of_ble_eq_true rfl⟩) (kpV hG hP hK hD hS hA hGA [0, 1, 2, 3, 4, 5, 6, 7, 8, 9, 10, 11, 12, 13, 14, 15, 16, 17, 18, 19, 20, 21, 22, 23, 24, 25, 26, 27, 28, 29, 30, 31] (by decide) rfl (ci := 10) (q0 := 0) rfl rfl rfl) rfl rfl hl.1 rfl (lv_room (Nat.le_of_ble_eq_true rfl)) d_MD_reset_41 ⟨Nat.le_of_ble_eq_true rfl, Nat.le_of_ble_eq_true rfl⟩) (fun H locs hP hD hS => ?_)
            have hP : va_P (dC, dI) vwCl (wd_MD g h0 q0 y0_15) H := hP
            have hD : va_D A (wd_MD g h0 q0 y0_15) := hD
            refine lv_if_ne (tgt := 61) hx hb d_MD_reset_44 (by decide) (fun hc => ?_) (fun hc => ?_)
            · replace hm := if_f hm hc
              refine lv_aload_n hx hb d_MD_reset_61 rfl (lv_at hl 0 rfl) ?_
              refine lv_iload_n hx hb d_MD_reset_62 rfl (lv_at hl 3 rfl) ?_
              obtain ⟨r63, hcl, hm⟩ := bn1_s hm
              refine kci (wc := wd_MD g h0 q0 y0_15) (wr := ([] : va_W)) (w1 := wd_MD g h0 q0 y0_15) hP hD hS hA [0, 1, 2, 3, 4, 5, 6, 7, 8, 9, 10, 11, 12, 13, 14, 15, 16, 17, 18, 19, 20, 21, 22, 23, 24, 25, 26, 27, 28, 29, 30, 31] [] rfl rfl (by decide) (by decide) (va_runV (As := [.int v3_15]) (rest := []) ⟨hx, hb, hml, hown, hts⟩ (c_MD_rankedOne hG hGn l dC dI g F H.size h0 q0 y0_15 v3_15 hcl) (cwV 1 hts (gdV k6_81 k6_83 kp_46 k1_10 k6_84) rfl rfl rfl (by decide +kernel) ⟨Nat.le_of_ble_eq_true rfl, Nat.le_of_ble_eq_true rfl⟩) (kpV hG hP hK hD hS hA hGA [0, 1, 2, 3, 4, 5, 6, 7, 8, 9, 10, 11, 12, 13, 14, 15, 16, 17, 18, 19, 20, 21, 22, 23, 24, 25, 26, 27, 28, 29, 30, 31] (by decide) rfl (ci := 10) (q0 := 0) rfl rfl rfl) rfl rfl hl.1 rfl (lv_room (Nat.le_of_ble_eq_true rfl)) d_MD_reset_63 ⟨Nat.le_of_ble_eq_true rfl, Nat.le_of_ble_eq_true rfl⟩) (fun H locs hP hD hS => ?_)
              have hP : va_P (dC, dI) vwCl (wd_MD g h0 q0 y0_15) H := hP
              have hD : va_D A (wd_MD g h0 q0 y0_15) := hD
              refine lv_istore_n (lv' := [(2, .int r63), (0, .ref h0), (1, .int v1_15), (3, .int v3_15)]) hx hb d_MD_reset_66 rfl hl (by decide) rfl (fun ls hl => ?_)
              refine lv_iinc (v := (v3_15 + (1 : Int32))) (lv' := [(3, .int (v3_15 + (1 : Int32))), (2, .int r63), (0, .ref h0), (1, .int v1_15)]) hx hb d_MD_reset_67 hl (k := 3) rfl rfl (by decide) rfl (fun ls hl => ?_)
              refine lv_goto (tgt := 15) hx hb d_MD_reset_70 (by decide) ?_
              exact ih15 v1_15 r63 (v3_15 + (1 : Int32)) y0_15 H locs ls hm hP hD hS (lv_sub hl [2, 3, 1, 0] rfl)
            · replace hm := if_t hm hc
              refine lv_aload_n hx hb d_MD_reset_47 rfl (lv_at hl 0 rfl) ?_
              refine lv_iload_n hx hb d_MD_reset_48 rfl (lv_at hl 2 rfl) ?_
              obtain ⟨z0_49, hcl, hm⟩ := bn1_s hm
              refine kcv (wc := wd_MD g h0 q0 y0_15) (wr := ([] : va_W)) (w1 := wd_MD g h0 q0 z0_49) hP hD hS hA [0, 1, 2, 3, 4, 5, 6, 7, 8, 9, 10, 11, 12, 13, 14, 15, 16, 17, 18, 19, 20, 21, 22, 23, 24, 25, 26, 27, 28, 29, 30, 31] [] rfl rfl (by decide) (by decide) (va_runV (As := [.int v2_15]) (rest := []) ⟨hx, hb, hml, hown, hts⟩ (c_MD_rests hG hGn l dC dI g F H.size h0 q0 y0_15 v2_15 hcl) (cwV 1 hts (gdV k6_33 k6_35 kp_43 k1_10 k6_36) rfl rfl rfl (by decide +kernel) ⟨Nat.le_of_ble_eq_true rfl, Nat.le_of_ble_eq_true rfl⟩) (kpV hG hP hK hD hS hA hGA [0, 1, 2, 3, 4, 5, 6, 7, 8, 9, 10, 11, 12, 13, 14, 15, 16, 17, 18, 19, 20, 21, 22, 23, 24, 25, 26, 27, 28, 29, 30, 31] (by decide) rfl (ci := 10) (q0 := 0) rfl rfl rfl) rfl rfl hl.1 rfl (lv_room (Nat.le_of_ble_eq_true rfl)) d_MD_reset_49 ⟨Nat.le_of_ble_eq_true rfl, Nat.le_of_ble_eq_true rfl⟩) (fun H locs hP hD hS => ?_)
              have hP : va_P (dC, dI) vwCl (wd_MD g h0 q0 z0_49) H := hP
              have hD : va_D A (wd_MD g h0 q0 z0_49) := hD
              refine lv_aload_n hx hb d_MD_reset_52 rfl (lv_at hl 0 rfl) ?_
              refine lv_iload_n hx hb d_MD_reset_53 rfl (lv_at hl 2 rfl) ?_
              refine lv_iconst (v := (0 : Int32)) hx hb d_MD_reset_54 (by decide) ?_
              obtain ⟨z0_55, hcl, hm⟩ := bn1_s hm
              refine kcv (wc := wd_MD g h0 q0 z0_49) (wr := ([] : va_W)) (w1 := wd_MD g h0 q0 z0_55) hP hD hS hA [0, 1, 2, 3, 4, 5, 6, 7, 8, 9, 10, 11, 12, 13, 14, 15, 16, 17, 18, 19, 20, 21, 22, 23, 24, 25, 26, 27, 28, 29, 30, 31] [] rfl rfl (by decide) (by decide) (va_runV (As := [.int v2_15, .int (0 : Int32)]) (rest := []) ⟨hx, hb, hml, hown, hts⟩ (c_MD_tell hG hGn l dC dI g F H.size h0 q0 z0_49 v2_15 (0 : Int32) hcl) (cwV 2 hts (gdV k6_113 k6_115 kp_54 k1_10 k6_116) rfl rfl rfl (by decide +kernel) ⟨Nat.le_of_ble_eq_true rfl, Nat.le_of_ble_eq_true rfl⟩) (kpV hG hP hK hD hS hA hGA [0, 1, 2, 3, 4, 5, 6, 7, 8, 9, 10, 11, 12, 13, 14, 15, 16, 17, 18, 19, 20, 21, 22, 23, 24, 25, 26, 27, 28, 29, 30, 31] (by decide) rfl (ci := 10) (q0 := 0) rfl rfl rfl) rfl rfl hl.1 rfl (lv_room (Nat.le_of_ble_eq_true rfl)) d_MD_reset_55 ⟨Nat.le_of_ble_eq_true rfl, Nat.le_of_ble_eq_true rfl⟩) (fun H locs hP hD hS => ?_)
              have hP : va_P (dC, dI) vwCl (wd_MD g h0 q0 z0_55) H := hP
              have hD : va_D A (wd_MD g h0 q0 z0_55) := hD
              refine lv_iinc (v := (v1_15 + (1 : Int32))) (lv' := [(1, .int (v1_15 + (1 : Int32))), (0, .ref h0), (2, .int v2_15), (3, .int v3_15)]) hx hb d_MD_reset_58 hl (k := 1) rfl rfl (by decide) rfl (fun ls hl => ?_)
              refine lv_aload_n hx hb d_MD_reset_61 rfl (lv_at hl 1 rfl) ?_
              refine lv_iload_n hx hb d_MD_reset_62 rfl (lv_at hl 3 rfl) ?_
              obtain ⟨r63, hcl, hm⟩ := bn1_s hm
              refine kci (wc := wd_MD g h0 q0 z0_55) (wr := ([] : va_W)) (w1 := wd_MD g h0 q0 z0_55) hP hD hS hA [0, 1, 2, 3, 4, 5, 6, 7, 8, 9, 10, 11, 12, 13, 14, 15, 16, 17, 18, 19, 20, 21, 22, 23, 24, 25, 26, 27, 28, 29, 30, 31] [] rfl rfl (by decide) (by decide) (va_runV (As := [.int v3_15]) (rest := []) ⟨hx, hb, hml, hown, hts⟩ (c_MD_rankedOne hG hGn l dC dI g F H.size h0 q0 z0_55 v3_15 hcl) (cwV 1 hts (gdV k6_81 k6_83 kp_46 k1_10 k6_84) rfl rfl rfl (by decide +kernel) ⟨Nat.le_of_ble_eq_true rfl, Nat.le_of_ble_eq_true rfl⟩) (kpV hG hP hK hD hS hA hGA [0, 1, 2, 3, 4, 5, 6, 7, 8, 9, 10, 11, 12, 13, 14, 15, 16, 17, 18, 19, 20, 21, 22, 23, 24, 25, 26, 27, 28, 29, 30, 31] (by decide) rfl (ci := 10) (q0 := 0) rfl rfl rfl) rfl rfl hl.1 rfl (lv_room (Nat.le_of_ble_eq_true rfl)) d_MD_reset_63 ⟨Nat.le_of_ble_eq_true rfl, Nat.le_of_ble_eq_true rfl⟩) (fun H locs hP hD hS => ?_)
              have hP : va_P (dC, dI) vwCl (wd_MD g h0 q0 z0_55) H := hP
              have hD : va_D A (wd_MD g h0 q0 z0_55) := hD
              refine lv_istore_n (lv' := [(2, .int r63), (1, .int (v1_15 + (1 : Int32))), (0, .ref h0), (3, .int v3_15)]) hx hb d_MD_reset_66 rfl hl (by decide) rfl (fun ls hl => ?_)
              refine lv_iinc (v := (v3_15 + (1 : Int32))) (lv' := [(3, .int (v3_15 + (1 : Int32))), (2, .int r63), (1, .int (v1_15 + (1 : Int32))), (0, .ref h0)]) hx hb d_MD_reset_67 hl (k := 3) rfl rfl (by decide) rfl (fun ls hl => ?_)
              refine lv_goto (tgt := 15) hx hb d_MD_reset_70 (by decide) ?_
              exact ih15 (v1_15 + (1 : Int32)) r63 (v3_15 + (1 : Int32)) z0_55 H locs ls hm hP hD hS (lv_sub hl [3, 2, 1, 0] rfl)
  exact L15 F (0 : Int32) r9 (1 : Int32) e0_2 H locs ls hm hP hD hS (lv_sub hl [3, 2, 1, 0] rfl)
abbrev b_MD_act : ByteArray := prog_12_method_55_code
abbrev y_MD_act : MethodName := ⟨"AlarmMatrixModel", "act", "(II)I"⟩
theorem d_MD_act_0 : decode b_MD_act 0 = .ok (.aload_n 0, 1) := by decide +kernel
theorem d_MD_act_1 : decode b_MD_act 1 = .ok (.iload_n 1, 1) := by decide +kernel
theorem d_MD_act_2 : decode b_MD_act 2 = .ok (.ifCond .lt 31, 3) := by decide +kernel
theorem d_MD_act_5 : decode b_MD_act 5 = .ok (.iload_n 1, 1) := by decide +kernel
theorem d_MD_act_6 : decode b_MD_act 6 = .ok (.bipush 20, 2) := by decide +kernel
theorem d_MD_act_8 : decode b_MD_act 8 = .ok (.if_icmp .ge 25, 3) := by decide +kernel
theorem d_MD_act_11 : decode b_MD_act 11 = .ok (.aload_n 0, 1) := by decide +kernel
theorem d_MD_act_12 : decode b_MD_act 12 = .ok (.getfield 56, 3) := by decide +kernel
theorem d_MD_act_15 : decode b_MD_act 15 = .ok (.iload_n 1, 1) := by decide +kernel
theorem d_MD_act_16 : decode b_MD_act 16 = .ok (.baload, 1) := by decide +kernel
theorem d_MD_act_17 : decode b_MD_act 17 = .ok (.ifCond .eq 16, 3) := by decide +kernel
theorem d_MD_act_20 : decode b_MD_act 20 = .ok (.iload_n 2, 1) := by decide +kernel
theorem d_MD_act_21 : decode b_MD_act 21 = .ok (.ifCond .lt 12, 3) := by decide +kernel
theorem d_MD_act_24 : decode b_MD_act 24 = .ok (.iload_n 2, 1) := by decide +kernel
theorem d_MD_act_25 : decode b_MD_act 25 = .ok (.iconst 5, 1) := by decide +kernel
theorem d_MD_act_26 : decode b_MD_act 26 = .ok (.if_icmp .gt 7, 3) := by decide +kernel
theorem d_MD_act_29 : decode b_MD_act 29 = .ok (.iconst 1, 1) := by decide +kernel
theorem d_MD_act_30 : decode b_MD_act 30 = .ok (.goto 4, 3) := by decide +kernel
theorem d_MD_act_33 : decode b_MD_act 33 = .ok (.iconst 0, 1) := by decide +kernel
theorem d_MD_act_34 : decode b_MD_act 34 = .ok (.iconst 1, 1) := by decide +kernel
theorem d_MD_act_35 : decode b_MD_act 35 = .ok (.invokevirtual 114, 3) := by decide +kernel
theorem d_MD_act_38 : decode b_MD_act 38 = .ok (.ifCond .ne 5, 3) := by decide +kernel
theorem d_MD_act_41 : decode b_MD_act 41 = .ok (.iconst 0, 1) := by decide +kernel
theorem d_MD_act_42 : decode b_MD_act 42 = .ok (.ireturn, 1) := by decide +kernel
theorem d_MD_act_43 : decode b_MD_act 43 = .ok (.iload_n 2, 1) := by decide +kernel
theorem d_MD_act_44 : decode b_MD_act 44 = .ok (.ifCond .ne 12, 3) := by decide +kernel
theorem d_MD_act_47 : decode b_MD_act 47 = .ok (.aload_n 0, 1) := by decide +kernel
theorem d_MD_act_48 : decode b_MD_act 48 = .ok (.getfield 80, 3) := by decide +kernel
theorem d_MD_act_51 : decode b_MD_act 51 = .ok (.iload_n 1, 1) := by decide +kernel
theorem d_MD_act_52 : decode b_MD_act 52 = .ok (.iaload, 1) := by decide +kernel
theorem d_MD_act_53 : decode b_MD_act 53 = .ok (.goto 73, 3) := by decide +kernel
theorem d_MD_act_56 : decode b_MD_act 56 = .ok (.iload_n 2, 1) := by decide +kernel
theorem d_MD_act_57 : decode b_MD_act 57 = .ok (.iconst 1, 1) := by decide +kernel
theorem d_MD_act_58 : decode b_MD_act 58 = .ok (.if_icmp .ne 12, 3) := by decide +kernel
theorem d_MD_act_61 : decode b_MD_act 61 = .ok (.aload_n 0, 1) := by decide +kernel
theorem d_MD_act_62 : decode b_MD_act 62 = .ok (.getfield 83, 3) := by decide +kernel
theorem d_MD_act_65 : decode b_MD_act 65 = .ok (.iload_n 1, 1) := by decide +kernel
theorem d_MD_act_66 : decode b_MD_act 66 = .ok (.iaload, 1) := by decide +kernel
theorem d_MD_act_67 : decode b_MD_act 67 = .ok (.goto 59, 3) := by decide +kernel
theorem d_MD_act_70 : decode b_MD_act 70 = .ok (.iload_n 2, 1) := by decide +kernel
theorem d_MD_act_71 : decode b_MD_act 71 = .ok (.iconst 2, 1) := by decide +kernel
theorem d_MD_act_72 : decode b_MD_act 72 = .ok (.if_icmp .ne 12, 3) := by decide +kernel
theorem d_MD_act_75 : decode b_MD_act 75 = .ok (.aload_n 0, 1) := by decide +kernel
theorem d_MD_act_76 : decode b_MD_act 76 = .ok (.getfield 59, 3) := by decide +kernel
theorem d_MD_act_79 : decode b_MD_act 79 = .ok (.iload_n 1, 1) := by decide +kernel
theorem d_MD_act_80 : decode b_MD_act 80 = .ok (.iaload, 1) := by decide +kernel
theorem d_MD_act_81 : decode b_MD_act 81 = .ok (.goto 45, 3) := by decide +kernel
theorem d_MD_act_84 : decode b_MD_act 84 = .ok (.iload_n 2, 1) := by decide +kernel
theorem d_MD_act_85 : decode b_MD_act 85 = .ok (.iconst 3, 1) := by decide +kernel
theorem d_MD_act_86 : decode b_MD_act 86 = .ok (.if_icmp .ne 12, 3) := by decide +kernel
theorem d_MD_act_89 : decode b_MD_act 89 = .ok (.aload_n 0, 1) := by decide +kernel
theorem d_MD_act_90 : decode b_MD_act 90 = .ok (.getfield 62, 3) := by decide +kernel
theorem d_MD_act_93 : decode b_MD_act 93 = .ok (.iload_n 1, 1) := by decide +kernel
theorem d_MD_act_94 : decode b_MD_act 94 = .ok (.iaload, 1) := by decide +kernel
theorem d_MD_act_95 : decode b_MD_act 95 = .ok (.goto 31, 3) := by decide +kernel
theorem d_MD_act_98 : decode b_MD_act 98 = .ok (.iload_n 2, 1) := by decide +kernel
theorem d_MD_act_99 : decode b_MD_act 99 = .ok (.iconst 4, 1) := by decide +kernel
theorem d_MD_act_100 : decode b_MD_act 100 = .ok (.if_icmp .ne 12, 3) := by decide +kernel
theorem d_MD_act_103 : decode b_MD_act 103 = .ok (.aload_n 0, 1) := by decide +kernel
theorem d_MD_act_104 : decode b_MD_act 104 = .ok (.getfield 65, 3) := by decide +kernel
theorem d_MD_act_107 : decode b_MD_act 107 = .ok (.iload_n 1, 1) := by decide +kernel
theorem d_MD_act_108 : decode b_MD_act 108 = .ok (.iaload, 1) := by decide +kernel
theorem d_MD_act_109 : decode b_MD_act 109 = .ok (.goto 17, 3) := by decide +kernel
theorem d_MD_act_112 : decode b_MD_act 112 = .ok (.aload_n 0, 1) := by decide +kernel
theorem d_MD_act_113 : decode b_MD_act 113 = .ok (.getfield 68, 3) := by decide +kernel
theorem d_MD_act_116 : decode b_MD_act 116 = .ok (.iload_n 1, 1) := by decide +kernel
theorem d_MD_act_117 : decode b_MD_act 117 = .ok (.baload, 1) := by decide +kernel
theorem d_MD_act_118 : decode b_MD_act 118 = .ok (.ifCond .eq 7, 3) := by decide +kernel
theorem d_MD_act_121 : decode b_MD_act 121 = .ok (.iconst 1, 1) := by decide +kernel
theorem d_MD_act_122 : decode b_MD_act 122 = .ok (.goto 4, 3) := by decide +kernel
theorem d_MD_act_125 : decode b_MD_act 125 = .ok (.iconst 0, 1) := by decide +kernel
theorem d_MD_act_126 : decode b_MD_act 126 = .ok (.ireturn, 1) := by decide +kernel
def m_MD_act_J34 (F : Nat) (a2 : Int32) (a1 : Int32) (s0_34 : Int32) (t0_34 : St) : Option (Int32 × St) :=
  (bn2 (m_MD_goes F t0_34 s0_34 (1 : Int32)) (fun r35 z0_35 => (if r35 = (0 : Int32) then (some ((0 : Int32), z0_35)) else (if a2 = (0 : Int32) then (ck a1 20 (some (((z0_35 32) a1.toNatClampNeg), z0_35))) else (if a2 = (1 : Int32) then (ck a1 20 (some (((z0_35 33) a1.toNatClampNeg), z0_35))) else (if a2 = (2 : Int32) then (ck a1 40 (some (((z0_35 23) a1.toNatClampNeg), z0_35))) else (if a2 = (3 : Int32) then (ck a1 40 (some (((z0_35 24) a1.toNatClampNeg), z0_35))) else (if a2 = (4 : Int32) then (ck a1 40 (some (((z0_35 25) a1.toNatClampNeg), z0_35))) else (ck a1 40 (if ((z0_35 26) a1.toNatClampNeg) = (0 : Int32) then (some ((0 : Int32), z0_35)) else (some ((1 : Int32), z0_35))))))))))))
theorem m_MD_act_J34_h {F : Nat} {a2 : Int32} {a1 : Int32} {s0_34 : Int32} {t0_34 : St} {o : (Int32 × St)} (h : m_MD_act_J34 F a2 a1 s0_34 t0_34 = some o) :
  (bn2 (m_MD_goes F t0_34 s0_34 (1 : Int32)) (fun r35 z0_35 => (if r35 = (0 : Int32) then (some ((0 : Int32), z0_35)) else (if a2 = (0 : Int32) then (ck a1 20 (some (((z0_35 32) a1.toNatClampNeg), z0_35))) else (if a2 = (1 : Int32) then (ck a1 20 (some (((z0_35 33) a1.toNatClampNeg), z0_35))) else (if a2 = (2 : Int32) then (ck a1 40 (some (((z0_35 23) a1.toNatClampNeg), z0_35))) else (if a2 = (3 : Int32) then (ck a1 40 (some (((z0_35 24) a1.toNatClampNeg), z0_35))) else (if a2 = (4 : Int32) then (ck a1 40 (some (((z0_35 25) a1.toNatClampNeg), z0_35))) else (ck a1 40 (if ((z0_35 26) a1.toNatClampNeg) = (0 : Int32) then (some ((0 : Int32), z0_35)) else (some ((1 : Int32), z0_35)))))))))))) = some o := h
def m_MD_act (F : Nat) (x0 : St) (a1 : Int32) (a2 : Int32) : Option (Int32 × St) :=
  (if a1 < (0 : Int32) then (m_MD_act_J34 F a2 a1  (0 : Int32) x0) else (if (20 : Int32) ≤ a1 then (m_MD_act_J34 F a2 a1  (0 : Int32) x0) else (ck a1 40 (if ((x0 22) a1.toNatClampNeg) = (0 : Int32) then (m_MD_act_J34 F a2 a1  (0 : Int32) x0) else (if a2 < (0 : Int32) then (m_MD_act_J34 F a2 a1  (0 : Int32) x0) else (if (5 : Int32) < a2 then (m_MD_act_J34 F a2 a1  (0 : Int32) x0) else (m_MD_act_J34 F a2 a1  (1 : Int32) x0)))))))
abbrev rm_MD_act : Room := { frames := 1, cells := 0, slots := 0, locals := 22 }
set_option maxHeartbeats 4000000 in
set_option maxRecDepth 100000 in
theorem c_MD_act {G : (Nat → Prop) → State → Prop} (hG : gok G) (hGn : gN G) (l : Launch) (dC : Nat → ClassId) (dI : Nat → Nat → Nat) (g : Nat → ClassId) (F : Nat) (sz : Nat) (h0 : Nat) (q0 : Nat → Nat) (x0 : St) (a1 : Int32) (a2 : Int32) {o : Int32 × St} (hm : m_MD_act F x0 a1 a2 = some o) : Met l y_MD_act (.code y_MD_act b_MD_act 3 (some .int) :: gw) rm_MD_act (kq (dC, dI) vwCl (tyv g) G [.ref h0, .int a1, .int a2] sz (wd_MD g h0 q0 x0)) (kqi (dC, dI) vwCl (tyv g) (wd_MD g h0 q0 x0) o.1 (wd_MD g h0 q0 (o.2)) sz) 0 0 (va_A (wd_MD g h0 q0 x0) sz) := by
  unfold m_MD_act at hm
  refine km (Qc := fun sz => kqi (dC, dI) vwCl (tyv g) (wd_MD g h0 q0 x0) o.1 (wd_MD g h0 q0 (o.2)) sz) (cc := b_MD_act) (maxL := 3) (ret := some .int) (by decide) rfl (Nat.le_of_ble_eq_true rfl) ?_
  intro p e s m args below meth c Q hQ hx hb hr hts hown hlocks hml hnm H locs A hAe hA hP hK hD hS hGA ls hl
  have hl : lv_has ls 3 [(0, .ref h0), (1, .int a1), (2, .int a2)] := hl
  have hts : ∀ w ∈ gw, w.before args s = true := fun w h => hts w (List.mem_cons_of_mem _ h)
  have hown : s.vm.findClass "AlarmMatrixModel" = some m.cls := hown
  have J34 : ∀ (s0_34 : Int32) (t0_34 : St) (H : Heap) (locs : List Loc) (ls : Array Slot), m_MD_act_J34 F a2 a1  s0_34 t0_34 = some o → va_P (dC, dI) vwCl (wd_MD g h0 q0 t0_34) H → va_D A (wd_MD g h0 q0 t0_34) → va_S A s.heap H locs → lv_has ls 3 [(0, .ref h0), (1, .int a1), (2, .int a2)] → W p l e rm_MD_act s m args below meth c H locs 0 0 Q (F0 m 34 ls [.int s0_34, .ref h0]) := by
    intro s0_34 t0_34 H locs ls hm hP hD hS hl
    replace hm := m_MD_act_J34_h hm
    refine lv_iconst (v := (1 : Int32)) hx hb d_MD_act_34 (by decide) ?_
    obtain ⟨r35, z0_35, hcl, hm⟩ := bn2_s hm
    refine kci (wc := wd_MD g h0 q0 t0_34) (wr := ([] : va_W)) (w1 := wd_MD g h0 q0 z0_35) hP hD hS hA [0, 1, 2, 3, 4, 5, 6, 7, 8, 9, 10, 11, 12, 13, 14, 15, 16, 17, 18, 19, 20, 21, 22, 23, 24, 25, 26, 27, 28, 29, 30, 31] [] rfl rfl (by decide) (by decide) (va_runV (As := [.int s0_34, .int (1 : Int32)]) (rest := []) ⟨hx, hb, hml, hown, hts⟩ (c_MD_goes hG hGn l dC dI g F H.size h0 q0 t0_34 s0_34 (1 : Int32) hcl) (cwV 2 hts (gdV k5_155 k5_157 kp_20 k1_10 k5_158) rfl rfl rfl (by decide +kernel) ⟨Nat.le_of_ble_eq_true rfl, Nat.le_of_ble_eq_true rfl⟩) (kpV hG hP hK hD hS hA hGA [0, 1, 2, 3, 4, 5, 6, 7, 8, 9, 10, 11, 12, 13, 14, 15, 16, 17, 18, 19, 20, 21, 22, 23, 24, 25, 26, 27, 28, 29, 30, 31] (by decide) rfl (ci := 10) (q0 := 0) rfl rfl rfl) rfl rfl hl.1 rfl (lv_room (Nat.le_of_ble_eq_true rfl)) d_MD_act_35 ⟨Nat.le_of_ble_eq_true rfl, Nat.le_of_ble_eq_true rfl⟩) (fun H locs hP hD hS => ?_)
    have hP : va_P (dC, dI) vwCl (wd_MD g h0 q0 z0_35) H := hP
    have hD : va_D A (wd_MD g h0 q0 z0_35) := hD
    refine lv_if_ne (tgt := 43) hx hb d_MD_act_38 (by decide) (fun hc => ?_) (fun hc => ?_)
    · replace hm := if_f hm hc
      refine lv_iload_n hx hb d_MD_act_43 rfl (lv_at hl 2 rfl) ?_
      refine lv_if_ne (tgt := 56) hx hb d_MD_act_44 (by decide) (fun hc => ?_) (fun hc => ?_)
      · replace hm := if_f hm hc
        refine lv_iload_n hx hb d_MD_act_56 rfl (lv_at hl 2 rfl) ?_
        refine lv_iconst (v := (1 : Int32)) hx hb d_MD_act_57 (by decide) ?_
        refine lv_icmp_ne (tgt := 70) hx hb d_MD_act_58 (by decide) (fun hc => ?_) (fun hc => ?_)
        · replace hm := if_f hm hc
          refine lv_iload_n hx hb d_MD_act_70 rfl (lv_at hl 2 rfl) ?_
          refine lv_iconst (v := (2 : Int32)) hx hb d_MD_act_71 (by decide) ?_
          refine lv_icmp_ne (tgt := 84) hx hb d_MD_act_72 (by decide) (fun hc => ?_) (fun hc => ?_)
          · replace hm := if_f hm hc
            refine lv_iload_n hx hb d_MD_act_84 rfl (lv_at hl 2 rfl) ?_
            refine lv_iconst (v := (3 : Int32)) hx hb d_MD_act_85 (by decide) ?_
            refine lv_icmp_ne (tgt := 98) hx hb d_MD_act_86 (by decide) (fun hc => ?_) (fun hc => ?_)
            · replace hm := if_f hm hc
              refine lv_iload_n hx hb d_MD_act_98 rfl (lv_at hl 2 rfl) ?_
              refine lv_iconst (v := (4 : Int32)) hx hb d_MD_act_99 (by decide) ?_
              refine lv_icmp_ne (tgt := 112) hx hb d_MD_act_100 (by decide) (fun hc => ?_) (fun hc => ?_)
              · replace hm := if_f hm hc
                refine lv_aload_n hx hb d_MD_act_112 rfl (lv_at hl 0 rfl) ?_
                refine va_get (D := (dC, dI)) (ci := 10) (v := .ref (q0 26)) (C := "AlarmMatrixModel") (T := T_MD) (N := 42) hx hb hts i_MD hown hK hP 0 rfl rfl 26 (by decide) (hts _ k5_46) (fun _ h9 => h9) rfl d_MD_act_113 ?_
                refine lv_iload_n hx hb d_MD_act_116 rfl (lv_at hl 1 rfl) ?_
                obtain ⟨h_117, hm⟩ := ck_s hm
                refine va_zald (f := (z0_35 26)) hx hb hK hP 20 1 rfl rfl h_117 d_MD_act_117 ?_
                refine lv_if_eq (tgt := 125) hx hb d_MD_act_118 (by decide) (fun hc => ?_) (fun hc => ?_)
                · replace hm := if_t hm hc
                  refine lv_iconst (v := (0 : Int32)) hx hb d_MD_act_125 (by decide) ?_
                  obtain rfl := Option.some.inj hm
                  rw [hQ]
                  exact kri hx hb hr hlocks hAe hP hK hD hS d_MD_act_126
                · replace hm := if_f hm hc
                  refine lv_iconst (v := (1 : Int32)) hx hb d_MD_act_121 (by decide) ?_
                  refine lv_goto (tgt := 126) hx hb d_MD_act_122 (by decide) ?_
                  obtain rfl := Option.some.inj hm
                  rw [hQ]
                  exact kri hx hb hr hlocks hAe hP hK hD hS d_MD_act_126
              · replace hm := if_t hm hc
                refine lv_aload_n hx hb d_MD_act_103 rfl (lv_at hl 0 rfl) ?_
                refine va_get (D := (dC, dI)) (ci := 10) (v := .ref (q0 25)) (C := "AlarmMatrixModel") (T := T_MD) (N := 42) hx hb hts i_MD hown hK hP 0 rfl rfl 25 (by decide) (hts _ k5_45) (fun _ h9 => h9) rfl d_MD_act_104 ?_
                refine lv_iload_n hx hb d_MD_act_107 rfl (lv_at hl 1 rfl) ?_
                obtain ⟨h_108, hm⟩ := ck_s hm
                refine va_iald (f := (z0_35 25)) hx hb hK hP 19 0 rfl rfl h_108 d_MD_act_108 ?_
                refine lv_goto (tgt := 126) hx hb d_MD_act_109 (by decide) ?_
                obtain rfl := Option.some.inj hm
                rw [hQ]
                exact kri hx hb hr hlocks hAe hP hK hD hS d_MD_act_126
            · replace hm := if_t hm hc
              refine lv_aload_n hx hb d_MD_act_89 rfl (lv_at hl 0 rfl) ?_
              refine va_get (D := (dC, dI)) (ci := 10) (v := .ref (q0 24)) (C := "AlarmMatrixModel") (T := T_MD) (N := 42) hx hb hts i_MD hown hK hP 0 rfl rfl 24 (by decide) (hts _ k5_44) (fun _ h9 => h9) rfl d_MD_act_90 ?_
              refine lv_iload_n hx hb d_MD_act_93 rfl (lv_at hl 1 rfl) ?_
              obtain ⟨h_94, hm⟩ := ck_s hm
              refine va_iald (f := (z0_35 24)) hx hb hK hP 18 0 rfl rfl h_94 d_MD_act_94 ?_
              refine lv_goto (tgt := 126) hx hb d_MD_act_95 (by decide) ?_
              obtain rfl := Option.some.inj hm
              rw [hQ]
              exact kri hx hb hr hlocks hAe hP hK hD hS d_MD_act_126
          · replace hm := if_t hm hc
            refine lv_aload_n hx hb d_MD_act_75 rfl (lv_at hl 0 rfl) ?_
            refine va_get (D := (dC, dI)) (ci := 10) (v := .ref (q0 23)) (C := "AlarmMatrixModel") (T := T_MD) (N := 42) hx hb hts i_MD hown hK hP 0 rfl rfl 23 (by decide) (hts _ k5_43) (fun _ h9 => h9) rfl d_MD_act_76 ?_
            refine lv_iload_n hx hb d_MD_act_79 rfl (lv_at hl 1 rfl) ?_
            obtain ⟨h_80, hm⟩ := ck_s hm
            refine va_iald (f := (z0_35 23)) hx hb hK hP 17 0 rfl rfl h_80 d_MD_act_80 ?_
            refine lv_goto (tgt := 126) hx hb d_MD_act_81 (by decide) ?_
            obtain rfl := Option.some.inj hm
            rw [hQ]
            exact kri hx hb hr hlocks hAe hP hK hD hS d_MD_act_126
        · replace hm := if_t hm hc
          refine lv_aload_n hx hb d_MD_act_61 rfl (lv_at hl 0 rfl) ?_
          refine va_get (D := (dC, dI)) (ci := 10) (v := .ref (q0 33)) (C := "AlarmMatrixModel") (T := T_MD) (N := 42) hx hb hts i_MD hown hK hP 0 rfl rfl 33 (by decide) (hts _ k5_53) (fun _ h9 => h9) rfl d_MD_act_62 ?_
          refine lv_iload_n hx hb d_MD_act_65 rfl (lv_at hl 1 rfl) ?_
          obtain ⟨h_66, hm⟩ := ck_s hm
          refine va_iald (f := (z0_35 33)) hx hb hK hP 25 0 rfl rfl h_66 d_MD_act_66 ?_
          refine lv_goto (tgt := 126) hx hb d_MD_act_67 (by decide) ?_
          obtain rfl := Option.some.inj hm
          rw [hQ]
          exact kri hx hb hr hlocks hAe hP hK hD hS d_MD_act_126
      · replace hm := if_t hm hc
        refine lv_aload_n hx hb d_MD_act_47 rfl (lv_at hl 0 rfl) ?_
        refine va_get (D := (dC, dI)) (ci := 10) (v := .ref (q0 32)) (C := "AlarmMatrixModel") (T := T_MD) (N := 42) hx hb hts i_MD hown hK hP 0 rfl rfl 32 (by decide) (hts _ k5_52) (fun _ h9 => h9) rfl d_MD_act_48 ?_
        refine lv_iload_n hx hb d_MD_act_51 rfl (lv_at hl 1 rfl) ?_
        obtain ⟨h_52, hm⟩ := ck_s hm
        refine va_iald (f := (z0_35 32)) hx hb hK hP 24 0 rfl rfl h_52 d_MD_act_52 ?_
        refine lv_goto (tgt := 126) hx hb d_MD_act_53 (by decide) ?_
        obtain rfl := Option.some.inj hm
        rw [hQ]
        exact kri hx hb hr hlocks hAe hP hK hD hS d_MD_act_126
    · replace hm := if_t hm hc
      refine lv_iconst (v := (0 : Int32)) hx hb d_MD_act_41 (by decide) ?_
      obtain rfl := Option.some.inj hm
      rw [hQ]
      exact kri hx hb hr hlocks hAe hP hK hD hS d_MD_act_42
  refine lv_aload_n hx hb d_MD_act_0 rfl (lv_at hl 0 rfl) ?_
  refine lv_iload_n hx hb d_MD_act_1 rfl (lv_at hl 1 rfl) ?_
  refine lv_if_lt (tgt := 33) hx hb d_MD_act_2 (by decide) (fun hc => ?_) (fun hc => ?_)
  · replace hm := if_t hm hc
    refine lv_iconst (v := (0 : Int32)) hx hb d_MD_act_33 (by decide) ?_
    exact J34 (0 : Int32) x0 H locs ls hm hP hD hS (lv_sub hl [0, 1, 2] rfl)
  · replace hm := if_f hm hc
    refine lv_iload_n hx hb d_MD_act_5 rfl (lv_at hl 1 rfl) ?_
    refine lv_bipush (v := (20 : Int32)) hx hb d_MD_act_6 (by decide) ?_
    refine lv_icmp_ge (tgt := 33) hx hb d_MD_act_8 (by decide) (fun hc => ?_) (fun hc => ?_)
    · replace hm := if_t hm hc
      refine lv_iconst (v := (0 : Int32)) hx hb d_MD_act_33 (by decide) ?_
      exact J34 (0 : Int32) x0 H locs ls hm hP hD hS (lv_sub hl [0, 1, 2] rfl)
    · replace hm := if_f hm hc
      refine lv_aload_n hx hb d_MD_act_11 rfl (lv_at hl 0 rfl) ?_
      refine va_get (D := (dC, dI)) (ci := 10) (v := .ref (q0 22)) (C := "AlarmMatrixModel") (T := T_MD) (N := 42) hx hb hts i_MD hown hK hP 0 rfl rfl 22 (by decide) (hts _ k5_42) (fun _ h9 => h9) rfl d_MD_act_12 ?_
      refine lv_iload_n hx hb d_MD_act_15 rfl (lv_at hl 1 rfl) ?_
      obtain ⟨h_16, hm⟩ := ck_s hm
      refine va_zald (f := (x0 22)) hx hb hK hP 16 1 rfl rfl h_16 d_MD_act_16 ?_
      refine lv_if_eq (tgt := 33) hx hb d_MD_act_17 (by decide) (fun hc => ?_) (fun hc => ?_)
      · replace hm := if_t hm hc
        refine lv_iconst (v := (0 : Int32)) hx hb d_MD_act_33 (by decide) ?_
        exact J34 (0 : Int32) x0 H locs ls hm hP hD hS (lv_sub hl [0, 1, 2] rfl)
      · replace hm := if_f hm hc
        refine lv_iload_n hx hb d_MD_act_20 rfl (lv_at hl 2 rfl) ?_
        refine lv_if_lt (tgt := 33) hx hb d_MD_act_21 (by decide) (fun hc => ?_) (fun hc => ?_)
        · replace hm := if_t hm hc
          refine lv_iconst (v := (0 : Int32)) hx hb d_MD_act_33 (by decide) ?_
          exact J34 (0 : Int32) x0 H locs ls hm hP hD hS (lv_sub hl [0, 1, 2] rfl)
        · replace hm := if_f hm hc
          refine lv_iload_n hx hb d_MD_act_24 rfl (lv_at hl 2 rfl) ?_
          refine lv_iconst (v := (5 : Int32)) hx hb d_MD_act_25 (by decide) ?_
          refine lv_icmp_gt (tgt := 33) hx hb d_MD_act_26 (by decide) (fun hc => ?_) (fun hc => ?_)
          · replace hm := if_t hm hc
            refine lv_iconst (v := (0 : Int32)) hx hb d_MD_act_33 (by decide) ?_
            exact J34 (0 : Int32) x0 H locs ls hm hP hD hS (lv_sub hl [0, 1, 2] rfl)
          · replace hm := if_f hm hc
            refine lv_iconst (v := (1 : Int32)) hx hb d_MD_act_29 (by decide) ?_
            refine lv_goto (tgt := 34) hx hb d_MD_act_30 (by decide) ?_
            exact J34 (1 : Int32) x0 H locs ls hm hP hD hS (lv_sub hl [0, 1, 2] rfl)
abbrev b_MD_zone : ByteArray := prog_12_method_56_code
abbrev y_MD_zone : MethodName := ⟨"AlarmMatrixModel", "zone", "(II)I"⟩
theorem d_MD_zone_0 : decode b_MD_zone 0 = .ok (.aload_n 0, 1) := by decide +kernel
theorem d_MD_zone_1 : decode b_MD_zone 1 = .ok (.iload_n 1, 1) := by decide +kernel
theorem d_MD_zone_2 : decode b_MD_zone 2 = .ok (.ifCond .lt 31, 3) := by decide +kernel
theorem d_MD_zone_5 : decode b_MD_zone 5 = .ok (.iload_n 1, 1) := by decide +kernel
theorem d_MD_zone_6 : decode b_MD_zone 6 = .ok (.bipush 20, 2) := by decide +kernel
theorem d_MD_zone_8 : decode b_MD_zone 8 = .ok (.if_icmp .ge 25, 3) := by decide +kernel
theorem d_MD_zone_11 : decode b_MD_zone 11 = .ok (.aload_n 0, 1) := by decide +kernel
theorem d_MD_zone_12 : decode b_MD_zone 12 = .ok (.getfield 44, 3) := by decide +kernel
theorem d_MD_zone_15 : decode b_MD_zone 15 = .ok (.iload_n 1, 1) := by decide +kernel
theorem d_MD_zone_16 : decode b_MD_zone 16 = .ok (.baload, 1) := by decide +kernel
theorem d_MD_zone_17 : decode b_MD_zone 17 = .ok (.ifCond .eq 16, 3) := by decide +kernel
theorem d_MD_zone_20 : decode b_MD_zone 20 = .ok (.iload_n 2, 1) := by decide +kernel
theorem d_MD_zone_21 : decode b_MD_zone 21 = .ok (.ifCond .lt 12, 3) := by decide +kernel
theorem d_MD_zone_24 : decode b_MD_zone 24 = .ok (.iload_n 2, 1) := by decide +kernel
theorem d_MD_zone_25 : decode b_MD_zone 25 = .ok (.iconst 3, 1) := by decide +kernel
theorem d_MD_zone_26 : decode b_MD_zone 26 = .ok (.if_icmp .gt 7, 3) := by decide +kernel
theorem d_MD_zone_29 : decode b_MD_zone 29 = .ok (.iconst 1, 1) := by decide +kernel
theorem d_MD_zone_30 : decode b_MD_zone 30 = .ok (.goto 4, 3) := by decide +kernel
theorem d_MD_zone_33 : decode b_MD_zone 33 = .ok (.iconst 0, 1) := by decide +kernel
theorem d_MD_zone_34 : decode b_MD_zone 34 = .ok (.iconst 1, 1) := by decide +kernel
theorem d_MD_zone_35 : decode b_MD_zone 35 = .ok (.invokevirtual 114, 3) := by decide +kernel
theorem d_MD_zone_38 : decode b_MD_zone 38 = .ok (.ifCond .ne 5, 3) := by decide +kernel
theorem d_MD_zone_41 : decode b_MD_zone 41 = .ok (.iconst 0, 1) := by decide +kernel
theorem d_MD_zone_42 : decode b_MD_zone 42 = .ok (.ireturn, 1) := by decide +kernel
theorem d_MD_zone_43 : decode b_MD_zone 43 = .ok (.iload_n 2, 1) := by decide +kernel
theorem d_MD_zone_44 : decode b_MD_zone 44 = .ok (.ifCond .ne 19, 3) := by decide +kernel
theorem d_MD_zone_47 : decode b_MD_zone 47 = .ok (.aload_n 0, 1) := by decide +kernel
theorem d_MD_zone_48 : decode b_MD_zone 48 = .ok (.iload_n 1, 1) := by decide +kernel
theorem d_MD_zone_49 : decode b_MD_zone 49 = .ok (.invokevirtual 246, 3) := by decide +kernel
theorem d_MD_zone_52 : decode b_MD_zone 52 = .ok (.ifCond .eq 7, 3) := by decide +kernel
theorem d_MD_zone_55 : decode b_MD_zone 55 = .ok (.iconst 1, 1) := by decide +kernel
theorem d_MD_zone_56 : decode b_MD_zone 56 = .ok (.goto 48, 3) := by decide +kernel
theorem d_MD_zone_59 : decode b_MD_zone 59 = .ok (.iconst 0, 1) := by decide +kernel
theorem d_MD_zone_60 : decode b_MD_zone 60 = .ok (.goto 44, 3) := by decide +kernel
theorem d_MD_zone_63 : decode b_MD_zone 63 = .ok (.iload_n 2, 1) := by decide +kernel
theorem d_MD_zone_64 : decode b_MD_zone 64 = .ok (.iconst 1, 1) := by decide +kernel
theorem d_MD_zone_65 : decode b_MD_zone 65 = .ok (.if_icmp .ne 19, 3) := by decide +kernel
theorem d_MD_zone_68 : decode b_MD_zone 68 = .ok (.aload_n 0, 1) := by decide +kernel
theorem d_MD_zone_69 : decode b_MD_zone 69 = .ok (.iload_n 1, 1) := by decide +kernel
theorem d_MD_zone_70 : decode b_MD_zone 70 = .ok (.invokevirtual 252, 3) := by decide +kernel
theorem d_MD_zone_73 : decode b_MD_zone 73 = .ok (.ifCond .eq 7, 3) := by decide +kernel
theorem d_MD_zone_76 : decode b_MD_zone 76 = .ok (.iconst 1, 1) := by decide +kernel
theorem d_MD_zone_77 : decode b_MD_zone 77 = .ok (.goto 27, 3) := by decide +kernel
theorem d_MD_zone_80 : decode b_MD_zone 80 = .ok (.iconst 0, 1) := by decide +kernel
theorem d_MD_zone_81 : decode b_MD_zone 81 = .ok (.goto 23, 3) := by decide +kernel
theorem d_MD_zone_84 : decode b_MD_zone 84 = .ok (.iload_n 2, 1) := by decide +kernel
theorem d_MD_zone_85 : decode b_MD_zone 85 = .ok (.iconst 2, 1) := by decide +kernel
theorem d_MD_zone_86 : decode b_MD_zone 86 = .ok (.if_icmp .ne 12, 3) := by decide +kernel
theorem d_MD_zone_89 : decode b_MD_zone 89 = .ok (.aload_n 0, 1) := by decide +kernel
theorem d_MD_zone_90 : decode b_MD_zone 90 = .ok (.getfield 47, 3) := by decide +kernel
theorem d_MD_zone_93 : decode b_MD_zone 93 = .ok (.iload_n 1, 1) := by decide +kernel
theorem d_MD_zone_94 : decode b_MD_zone 94 = .ok (.iaload, 1) := by decide +kernel
theorem d_MD_zone_95 : decode b_MD_zone 95 = .ok (.goto 9, 3) := by decide +kernel
theorem d_MD_zone_98 : decode b_MD_zone 98 = .ok (.aload_n 0, 1) := by decide +kernel
theorem d_MD_zone_99 : decode b_MD_zone 99 = .ok (.iload_n 1, 1) := by decide +kernel
theorem d_MD_zone_100 : decode b_MD_zone 100 = .ok (.iconst 1, 1) := by decide +kernel
theorem d_MD_zone_101 : decode b_MD_zone 101 = .ok (.invokevirtual 242, 3) := by decide +kernel
theorem d_MD_zone_104 : decode b_MD_zone 104 = .ok (.ireturn, 1) := by decide +kernel
def m_MD_zone_J34 (F : Nat) (a2 : Int32) (a1 : Int32) (s0_34 : Int32) (t0_34 : St) : Option (Int32 × St) :=
  (bn2 (m_MD_goes F t0_34 s0_34 (1 : Int32)) (fun r35 z0_35 => (if r35 = (0 : Int32) then (some ((0 : Int32), z0_35)) else (if a2 = (0 : Int32) then (bn1 (m_MD_isOn F z0_35 a1) (fun r49 => (if r49 = (0 : Int32) then (some ((0 : Int32), z0_35)) else (some ((1 : Int32), z0_35))))) else (if a2 = (1 : Int32) then (bn1 (m_MD_isSure F z0_35 a1) (fun r70 => (if r70 = (0 : Int32) then (some ((0 : Int32), z0_35)) else (some ((1 : Int32), z0_35))))) else (if a2 = (2 : Int32) then (ck a1 40 (some (((z0_35 19) a1.toNatClampNeg), z0_35))) else (bn1 (m_MD_ofZone F z0_35 a1 (1 : Int32)) (fun r101 => (some (r101, z0_35))))))))))
theorem m_MD_zone_J34_h {F : Nat} {a2 : Int32} {a1 : Int32} {s0_34 : Int32} {t0_34 : St} {o : (Int32 × St)} (h : m_MD_zone_J34 F a2 a1 s0_34 t0_34 = some o) :
  (bn2 (m_MD_goes F t0_34 s0_34 (1 : Int32)) (fun r35 z0_35 => (if r35 = (0 : Int32) then (some ((0 : Int32), z0_35)) else (if a2 = (0 : Int32) then (bn1 (m_MD_isOn F z0_35 a1) (fun r49 => (if r49 = (0 : Int32) then (some ((0 : Int32), z0_35)) else (some ((1 : Int32), z0_35))))) else (if a2 = (1 : Int32) then (bn1 (m_MD_isSure F z0_35 a1) (fun r70 => (if r70 = (0 : Int32) then (some ((0 : Int32), z0_35)) else (some ((1 : Int32), z0_35))))) else (if a2 = (2 : Int32) then (ck a1 40 (some (((z0_35 19) a1.toNatClampNeg), z0_35))) else (bn1 (m_MD_ofZone F z0_35 a1 (1 : Int32)) (fun r101 => (some (r101, z0_35)))))))))) = some o := h
def m_MD_zone (F : Nat) (x0 : St) (a1 : Int32) (a2 : Int32) : Option (Int32 × St) :=
  (if a1 < (0 : Int32) then (m_MD_zone_J34 F a2 a1  (0 : Int32) x0) else (if (20 : Int32) ≤ a1 then (m_MD_zone_J34 F a2 a1  (0 : Int32) x0) else (ck a1 40 (if ((x0 18) a1.toNatClampNeg) = (0 : Int32) then (m_MD_zone_J34 F a2 a1  (0 : Int32) x0) else (if a2 < (0 : Int32) then (m_MD_zone_J34 F a2 a1  (0 : Int32) x0) else (if (3 : Int32) < a2 then (m_MD_zone_J34 F a2 a1  (0 : Int32) x0) else (m_MD_zone_J34 F a2 a1  (1 : Int32) x0)))))))
abbrev rm_MD_zone : Room := { frames := 4, cells := 0, slots := 0, locals := 93 }
set_option maxHeartbeats 4000000 in
set_option maxRecDepth 100000 in
theorem c_MD_zone {G : (Nat → Prop) → State → Prop} (hG : gok G) (hGn : gN G) (l : Launch) (dC : Nat → ClassId) (dI : Nat → Nat → Nat) (g : Nat → ClassId) (F : Nat) (sz : Nat) (h0 : Nat) (q0 : Nat → Nat) (x0 : St) (a1 : Int32) (a2 : Int32) {o : Int32 × St} (hm : m_MD_zone F x0 a1 a2 = some o) : Met l y_MD_zone (.code y_MD_zone b_MD_zone 3 (some .int) :: gw) rm_MD_zone (kq (dC, dI) vwCl (tyv g) G [.ref h0, .int a1, .int a2] sz (wd_MD g h0 q0 x0)) (kqi (dC, dI) vwCl (tyv g) (wd_MD g h0 q0 x0) o.1 (wd_MD g h0 q0 (o.2)) sz) 0 0 (va_A (wd_MD g h0 q0 x0) sz) := by
  unfold m_MD_zone at hm
  refine km (Qc := fun sz => kqi (dC, dI) vwCl (tyv g) (wd_MD g h0 q0 x0) o.1 (wd_MD g h0 q0 (o.2)) sz) (cc := b_MD_zone) (maxL := 3) (ret := some .int) (by decide) rfl (Nat.le_of_ble_eq_true rfl) ?_
  intro p e s m args below meth c Q hQ hx hb hr hts hown hlocks hml hnm H locs A hAe hA hP hK hD hS hGA ls hl
  have hl : lv_has ls 3 [(0, .ref h0), (1, .int a1), (2, .int a2)] := hl
  have hts : ∀ w ∈ gw, w.before args s = true := fun w h => hts w (List.mem_cons_of_mem _ h)
  have hown : s.vm.findClass "AlarmMatrixModel" = some m.cls := hown
  have J34 : ∀ (s0_34 : Int32) (t0_34 : St) (H : Heap) (locs : List Loc) (ls : Array Slot), m_MD_zone_J34 F a2 a1  s0_34 t0_34 = some o → va_P (dC, dI) vwCl (wd_MD g h0 q0 t0_34) H → va_D A (wd_MD g h0 q0 t0_34) → va_S A s.heap H locs → lv_has ls 3 [(0, .ref h0), (1, .int a1), (2, .int a2)] → W p l e rm_MD_zone s m args below meth c H locs 0 0 Q (F0 m 34 ls [.int s0_34, .ref h0]) := by
    intro s0_34 t0_34 H locs ls hm hP hD hS hl
    replace hm := m_MD_zone_J34_h hm
    refine lv_iconst (v := (1 : Int32)) hx hb d_MD_zone_34 (by decide) ?_
    obtain ⟨r35, z0_35, hcl, hm⟩ := bn2_s hm
    refine kci (wc := wd_MD g h0 q0 t0_34) (wr := ([] : va_W)) (w1 := wd_MD g h0 q0 z0_35) hP hD hS hA [0, 1, 2, 3, 4, 5, 6, 7, 8, 9, 10, 11, 12, 13, 14, 15, 16, 17, 18, 19, 20, 21, 22, 23, 24, 25, 26, 27, 28, 29, 30, 31] [] rfl rfl (by decide) (by decide) (va_runV (As := [.int s0_34, .int (1 : Int32)]) (rest := []) ⟨hx, hb, hml, hown, hts⟩ (c_MD_goes hG hGn l dC dI g F H.size h0 q0 t0_34 s0_34 (1 : Int32) hcl) (cwV 2 hts (gdV k5_155 k5_157 kp_20 k1_10 k5_158) rfl rfl rfl (by decide +kernel) ⟨Nat.le_of_ble_eq_true rfl, Nat.le_of_ble_eq_true rfl⟩) (kpV hG hP hK hD hS hA hGA [0, 1, 2, 3, 4, 5, 6, 7, 8, 9, 10, 11, 12, 13, 14, 15, 16, 17, 18, 19, 20, 21, 22, 23, 24, 25, 26, 27, 28, 29, 30, 31] (by decide) rfl (ci := 10) (q0 := 0) rfl rfl rfl) rfl rfl hl.1 rfl (lv_room (Nat.le_of_ble_eq_true rfl)) d_MD_zone_35 ⟨Nat.le_of_ble_eq_true rfl, Nat.le_of_ble_eq_true rfl⟩) (fun H locs hP hD hS => ?_)
    have hP : va_P (dC, dI) vwCl (wd_MD g h0 q0 z0_35) H := hP
    have hD : va_D A (wd_MD g h0 q0 z0_35) := hD
    refine lv_if_ne (tgt := 43) hx hb d_MD_zone_38 (by decide) (fun hc => ?_) (fun hc => ?_)
    · replace hm := if_f hm hc
      refine lv_iload_n hx hb d_MD_zone_43 rfl (lv_at hl 2 rfl) ?_
      refine lv_if_ne (tgt := 63) hx hb d_MD_zone_44 (by decide) (fun hc => ?_) (fun hc => ?_)
      · replace hm := if_f hm hc
        refine lv_iload_n hx hb d_MD_zone_63 rfl (lv_at hl 2 rfl) ?_
        refine lv_iconst (v := (1 : Int32)) hx hb d_MD_zone_64 (by decide) ?_
        refine lv_icmp_ne (tgt := 84) hx hb d_MD_zone_65 (by decide) (fun hc => ?_) (fun hc => ?_)
        · replace hm := if_f hm hc
          refine lv_iload_n hx hb d_MD_zone_84 rfl (lv_at hl 2 rfl) ?_
          refine lv_iconst (v := (2 : Int32)) hx hb d_MD_zone_85 (by decide) ?_
          refine lv_icmp_ne (tgt := 98) hx hb d_MD_zone_86 (by decide) (fun hc => ?_) (fun hc => ?_)
          · replace hm := if_f hm hc
            refine lv_aload_n hx hb d_MD_zone_98 rfl (lv_at hl 0 rfl) ?_
            refine lv_iload_n hx hb d_MD_zone_99 rfl (lv_at hl 1 rfl) ?_
            refine lv_iconst (v := (1 : Int32)) hx hb d_MD_zone_100 (by decide) ?_
            obtain ⟨r101, hcl, hm⟩ := bn1_s hm
            refine kci (wc := wd_MD g h0 q0 z0_35) (wr := ([] : va_W)) (w1 := wd_MD g h0 q0 z0_35) hP hD hS hA [0, 1, 2, 3, 4, 5, 6, 7, 8, 9, 10, 11, 12, 13, 14, 15, 16, 17, 18, 19, 20, 21, 22, 23, 24, 25, 26, 27, 28, 29, 30, 31] [] rfl rfl (by decide) (by decide) (va_runV (As := [.int a1, .int (1 : Int32)]) (rest := []) ⟨hx, hb, hml, hown, hts⟩ (c_MD_ofZone hG hGn l dC dI g F H.size h0 q0 z0_35 a1 (1 : Int32) hcl) (cwV 2 hts (gdV k6_101 k6_103 kp_51 k1_10 k6_104) rfl rfl rfl (by decide +kernel) ⟨Nat.le_of_ble_eq_true rfl, Nat.le_of_ble_eq_true rfl⟩) (kpV hG hP hK hD hS hA hGA [0, 1, 2, 3, 4, 5, 6, 7, 8, 9, 10, 11, 12, 13, 14, 15, 16, 17, 18, 19, 20, 21, 22, 23, 24, 25, 26, 27, 28, 29, 30, 31] (by decide) rfl (ci := 10) (q0 := 0) rfl rfl rfl) rfl rfl hl.1 rfl (lv_room (Nat.le_of_ble_eq_true rfl)) d_MD_zone_101 ⟨Nat.le_of_ble_eq_true rfl, Nat.le_of_ble_eq_true rfl⟩) (fun H locs hP hD hS => ?_)
            have hP : va_P (dC, dI) vwCl (wd_MD g h0 q0 z0_35) H := hP
            have hD : va_D A (wd_MD g h0 q0 z0_35) := hD
            obtain rfl := Option.some.inj hm
            rw [hQ]
            exact kri hx hb hr hlocks hAe hP hK hD hS d_MD_zone_104
          · replace hm := if_t hm hc
            refine lv_aload_n hx hb d_MD_zone_89 rfl (lv_at hl 0 rfl) ?_
            refine va_get (D := (dC, dI)) (ci := 10) (v := .ref (q0 19)) (C := "AlarmMatrixModel") (T := T_MD) (N := 42) hx hb hts i_MD hown hK hP 0 rfl rfl 19 (by decide) (hts _ k5_39) (fun _ h9 => h9) rfl d_MD_zone_90 ?_
            refine lv_iload_n hx hb d_MD_zone_93 rfl (lv_at hl 1 rfl) ?_
            obtain ⟨h_94, hm⟩ := ck_s hm
            refine va_iald (f := (z0_35 19)) hx hb hK hP 13 0 rfl rfl h_94 d_MD_zone_94 ?_
            refine lv_goto (tgt := 104) hx hb d_MD_zone_95 (by decide) ?_
            obtain rfl := Option.some.inj hm
            rw [hQ]
            exact kri hx hb hr hlocks hAe hP hK hD hS d_MD_zone_104
        · replace hm := if_t hm hc
          refine lv_aload_n hx hb d_MD_zone_68 rfl (lv_at hl 0 rfl) ?_
          refine lv_iload_n hx hb d_MD_zone_69 rfl (lv_at hl 1 rfl) ?_
          obtain ⟨r70, hcl, hm⟩ := bn1_s hm
          refine kci (wc := wd_MD g h0 q0 z0_35) (wr := ([] : va_W)) (w1 := wd_MD g h0 q0 z0_35) hP hD hS hA [0, 1, 2, 3, 4, 5, 6, 7, 8, 9, 10, 11, 12, 13, 14, 15, 16, 17, 18, 19, 20, 21, 22, 23, 24, 25, 26, 27, 28, 29, 30, 31] [] rfl rfl (by decide) (by decide) (va_runV (As := [.int a1]) (rest := []) ⟨hx, hb, hml, hown, hts⟩ (c_MD_isSure hG hGn l dC dI g F H.size h0 q0 z0_35 a1 hcl) (cwV 1 hts (gdV k6_109 k6_111 kp_53 k1_10 k6_112) rfl rfl rfl (by decide +kernel) ⟨Nat.le_of_ble_eq_true rfl, Nat.le_of_ble_eq_true rfl⟩) (kpV hG hP hK hD hS hA hGA [0, 1, 2, 3, 4, 5, 6, 7, 8, 9, 10, 11, 12, 13, 14, 15, 16, 17, 18, 19, 20, 21, 22, 23, 24, 25, 26, 27, 28, 29, 30, 31] (by decide) rfl (ci := 10) (q0 := 0) rfl rfl rfl) rfl rfl hl.1 rfl (lv_room (Nat.le_of_ble_eq_true rfl)) d_MD_zone_70 ⟨Nat.le_of_ble_eq_true rfl, Nat.le_of_ble_eq_true rfl⟩) (fun H locs hP hD hS => ?_)
          have hP : va_P (dC, dI) vwCl (wd_MD g h0 q0 z0_35) H := hP
          have hD : va_D A (wd_MD g h0 q0 z0_35) := hD
          refine lv_if_eq (tgt := 80) hx hb d_MD_zone_73 (by decide) (fun hc => ?_) (fun hc => ?_)
          · replace hm := if_t hm hc
            refine lv_iconst (v := (0 : Int32)) hx hb d_MD_zone_80 (by decide) ?_
            refine lv_goto (tgt := 104) hx hb d_MD_zone_81 (by decide) ?_
            obtain rfl := Option.some.inj hm
            rw [hQ]
            exact kri hx hb hr hlocks hAe hP hK hD hS d_MD_zone_104
          · replace hm := if_f hm hc
            refine lv_iconst (v := (1 : Int32)) hx hb d_MD_zone_76 (by decide) ?_
            refine lv_goto (tgt := 104) hx hb d_MD_zone_77 (by decide) ?_
            obtain rfl := Option.some.inj hm
            rw [hQ]
            exact kri hx hb hr hlocks hAe hP hK hD hS d_MD_zone_104
      · replace hm := if_t hm hc
        refine lv_aload_n hx hb d_MD_zone_47 rfl (lv_at hl 0 rfl) ?_
        refine lv_iload_n hx hb d_MD_zone_48 rfl (lv_at hl 1 rfl) ?_
        obtain ⟨r49, hcl, hm⟩ := bn1_s hm
        refine kci (wc := wd_MD g h0 q0 z0_35) (wr := ([] : va_W)) (w1 := wd_MD g h0 q0 z0_35) hP hD hS hA [0, 1, 2, 3, 4, 5, 6, 7, 8, 9, 10, 11, 12, 13, 14, 15, 16, 17, 18, 19, 20, 21, 22, 23, 24, 25, 26, 27, 28, 29, 30, 31] [] rfl rfl (by decide) (by decide) (va_runV (As := [.int a1]) (rest := []) ⟨hx, hb, hml, hown, hts⟩ (c_MD_isOn hG hGn l dC dI g F H.size h0 q0 z0_35 a1 hcl) (cwV 1 hts (gdV k6_97 k6_99 kp_50 k1_10 k6_100) rfl rfl rfl (by decide +kernel) ⟨Nat.le_of_ble_eq_true rfl, Nat.le_of_ble_eq_true rfl⟩) (kpV hG hP hK hD hS hA hGA [0, 1, 2, 3, 4, 5, 6, 7, 8, 9, 10, 11, 12, 13, 14, 15, 16, 17, 18, 19, 20, 21, 22, 23, 24, 25, 26, 27, 28, 29, 30, 31] (by decide) rfl (ci := 10) (q0 := 0) rfl rfl rfl) rfl rfl hl.1 rfl (lv_room (Nat.le_of_ble_eq_true rfl)) d_MD_zone_49 ⟨Nat.le_of_ble_eq_true rfl, Nat.le_of_ble_eq_true rfl⟩) (fun H locs hP hD hS => ?_)
        have hP : va_P (dC, dI) vwCl (wd_MD g h0 q0 z0_35) H := hP
        have hD : va_D A (wd_MD g h0 q0 z0_35) := hD
        refine lv_if_eq (tgt := 59) hx hb d_MD_zone_52 (by decide) (fun hc => ?_) (fun hc => ?_)
        · replace hm := if_t hm hc
          refine lv_iconst (v := (0 : Int32)) hx hb d_MD_zone_59 (by decide) ?_
          refine lv_goto (tgt := 104) hx hb d_MD_zone_60 (by decide) ?_
          obtain rfl := Option.some.inj hm
          rw [hQ]
          exact kri hx hb hr hlocks hAe hP hK hD hS d_MD_zone_104
        · replace hm := if_f hm hc
          refine lv_iconst (v := (1 : Int32)) hx hb d_MD_zone_55 (by decide) ?_
          refine lv_goto (tgt := 104) hx hb d_MD_zone_56 (by decide) ?_
          obtain rfl := Option.some.inj hm
          rw [hQ]
          exact kri hx hb hr hlocks hAe hP hK hD hS d_MD_zone_104
    · replace hm := if_t hm hc
      refine lv_iconst (v := (0 : Int32)) hx hb d_MD_zone_41 (by decide) ?_
      obtain rfl := Option.some.inj hm
      rw [hQ]
      exact kri hx hb hr hlocks hAe hP hK hD hS d_MD_zone_42
  refine lv_aload_n hx hb d_MD_zone_0 rfl (lv_at hl 0 rfl) ?_
  refine lv_iload_n hx hb d_MD_zone_1 rfl (lv_at hl 1 rfl) ?_
  refine lv_if_lt (tgt := 33) hx hb d_MD_zone_2 (by decide) (fun hc => ?_) (fun hc => ?_)
  · replace hm := if_t hm hc
    refine lv_iconst (v := (0 : Int32)) hx hb d_MD_zone_33 (by decide) ?_
    exact J34 (0 : Int32) x0 H locs ls hm hP hD hS (lv_sub hl [0, 1, 2] rfl)
  · replace hm := if_f hm hc
    refine lv_iload_n hx hb d_MD_zone_5 rfl (lv_at hl 1 rfl) ?_
    refine lv_bipush (v := (20 : Int32)) hx hb d_MD_zone_6 (by decide) ?_
    refine lv_icmp_ge (tgt := 33) hx hb d_MD_zone_8 (by decide) (fun hc => ?_) (fun hc => ?_)
    · replace hm := if_t hm hc
      refine lv_iconst (v := (0 : Int32)) hx hb d_MD_zone_33 (by decide) ?_
      exact J34 (0 : Int32) x0 H locs ls hm hP hD hS (lv_sub hl [0, 1, 2] rfl)
    · replace hm := if_f hm hc
      refine lv_aload_n hx hb d_MD_zone_11 rfl (lv_at hl 0 rfl) ?_
      refine va_get (D := (dC, dI)) (ci := 10) (v := .ref (q0 18)) (C := "AlarmMatrixModel") (T := T_MD) (N := 42) hx hb hts i_MD hown hK hP 0 rfl rfl 18 (by decide) (hts _ k5_38) (fun _ h9 => h9) rfl d_MD_zone_12 ?_
      refine lv_iload_n hx hb d_MD_zone_15 rfl (lv_at hl 1 rfl) ?_
      obtain ⟨h_16, hm⟩ := ck_s hm
      refine va_zald (f := (x0 18)) hx hb hK hP 12 1 rfl rfl h_16 d_MD_zone_16 ?_
      refine lv_if_eq (tgt := 33) hx hb d_MD_zone_17 (by decide) (fun hc => ?_) (fun hc => ?_)
      · replace hm := if_t hm hc
        refine lv_iconst (v := (0 : Int32)) hx hb d_MD_zone_33 (by decide) ?_
        exact J34 (0 : Int32) x0 H locs ls hm hP hD hS (lv_sub hl [0, 1, 2] rfl)
      · replace hm := if_f hm hc
        refine lv_iload_n hx hb d_MD_zone_20 rfl (lv_at hl 2 rfl) ?_
        refine lv_if_lt (tgt := 33) hx hb d_MD_zone_21 (by decide) (fun hc => ?_) (fun hc => ?_)
        · replace hm := if_t hm hc
          refine lv_iconst (v := (0 : Int32)) hx hb d_MD_zone_33 (by decide) ?_
          exact J34 (0 : Int32) x0 H locs ls hm hP hD hS (lv_sub hl [0, 1, 2] rfl)
        · replace hm := if_f hm hc
          refine lv_iload_n hx hb d_MD_zone_24 rfl (lv_at hl 2 rfl) ?_
          refine lv_iconst (v := (3 : Int32)) hx hb d_MD_zone_25 (by decide) ?_
          refine lv_icmp_gt (tgt := 33) hx hb d_MD_zone_26 (by decide) (fun hc => ?_) (fun hc => ?_)
          · replace hm := if_t hm hc
            refine lv_iconst (v := (0 : Int32)) hx hb d_MD_zone_33 (by decide) ?_
            exact J34 (0 : Int32) x0 H locs ls hm hP hD hS (lv_sub hl [0, 1, 2] rfl)
          · replace hm := if_f hm hc
            refine lv_iconst (v := (1 : Int32)) hx hb d_MD_zone_29 (by decide) ?_
            refine lv_goto (tgt := 34) hx hb d_MD_zone_30 (by decide) ?_
            exact J34 (1 : Int32) x0 H locs ls hm hP hD hS (lv_sub hl [0, 1, 2] rfl)
abbrev b_MD_row : ByteArray := prog_12_method_57_code
abbrev y_MD_row : MethodName := ⟨"AlarmMatrixModel", "row", "(II)I"⟩
theorem d_MD_row_0 : decode b_MD_row 0 = .ok (.aload_n 0, 1) := by decide +kernel
theorem d_MD_row_1 : decode b_MD_row 1 = .ok (.iload_n 1, 1) := by decide +kernel
theorem d_MD_row_2 : decode b_MD_row 2 = .ok (.ifCond .lt 24, 3) := by decide +kernel
theorem d_MD_row_5 : decode b_MD_row 5 = .ok (.iload_n 1, 1) := by decide +kernel
theorem d_MD_row_6 : decode b_MD_row 6 = .ok (.aload_n 0, 1) := by decide +kernel
theorem d_MD_row_7 : decode b_MD_row 7 = .ok (.getfield 220, 3) := by decide +kernel
theorem d_MD_row_10 : decode b_MD_row 10 = .ok (.if_icmp .ge 16, 3) := by decide +kernel
theorem d_MD_row_13 : decode b_MD_row 13 = .ok (.iload_n 2, 1) := by decide +kernel
theorem d_MD_row_14 : decode b_MD_row 14 = .ok (.ifCond .lt 12, 3) := by decide +kernel
theorem d_MD_row_17 : decode b_MD_row 17 = .ok (.iload_n 2, 1) := by decide +kernel
theorem d_MD_row_18 : decode b_MD_row 18 = .ok (.iconst 3, 1) := by decide +kernel
theorem d_MD_row_19 : decode b_MD_row 19 = .ok (.if_icmp .gt 7, 3) := by decide +kernel
theorem d_MD_row_22 : decode b_MD_row 22 = .ok (.iconst 1, 1) := by decide +kernel
theorem d_MD_row_23 : decode b_MD_row 23 = .ok (.goto 4, 3) := by decide +kernel
theorem d_MD_row_26 : decode b_MD_row 26 = .ok (.iconst 0, 1) := by decide +kernel
theorem d_MD_row_27 : decode b_MD_row 27 = .ok (.iconst 1, 1) := by decide +kernel
theorem d_MD_row_28 : decode b_MD_row 28 = .ok (.invokevirtual 114, 3) := by decide +kernel
theorem d_MD_row_31 : decode b_MD_row 31 = .ok (.ifCond .ne 5, 3) := by decide +kernel
theorem d_MD_row_34 : decode b_MD_row 34 = .ok (.iconst 0, 1) := by decide +kernel
theorem d_MD_row_35 : decode b_MD_row 35 = .ok (.ireturn, 1) := by decide +kernel
theorem d_MD_row_36 : decode b_MD_row 36 = .ok (.iload_n 2, 1) := by decide +kernel
theorem d_MD_row_37 : decode b_MD_row 37 = .ok (.ifCond .ne 12, 3) := by decide +kernel
theorem d_MD_row_40 : decode b_MD_row 40 = .ok (.aload_n 0, 1) := by decide +kernel
theorem d_MD_row_41 : decode b_MD_row 41 = .ok (.getfield 71, 3) := by decide +kernel
theorem d_MD_row_44 : decode b_MD_row 44 = .ok (.iload_n 1, 1) := by decide +kernel
theorem d_MD_row_45 : decode b_MD_row 45 = .ok (.iaload, 1) := by decide +kernel
theorem d_MD_row_46 : decode b_MD_row 46 = .ok (.goto 44, 3) := by decide +kernel
theorem d_MD_row_49 : decode b_MD_row 49 = .ok (.iload_n 2, 1) := by decide +kernel
theorem d_MD_row_50 : decode b_MD_row 50 = .ok (.iconst 1, 1) := by decide +kernel
theorem d_MD_row_51 : decode b_MD_row 51 = .ok (.if_icmp .ne 12, 3) := by decide +kernel
theorem d_MD_row_54 : decode b_MD_row 54 = .ok (.aload_n 0, 1) := by decide +kernel
theorem d_MD_row_55 : decode b_MD_row 55 = .ok (.getfield 74, 3) := by decide +kernel
theorem d_MD_row_58 : decode b_MD_row 58 = .ok (.iload_n 1, 1) := by decide +kernel
theorem d_MD_row_59 : decode b_MD_row 59 = .ok (.iaload, 1) := by decide +kernel
theorem d_MD_row_60 : decode b_MD_row 60 = .ok (.goto 30, 3) := by decide +kernel
theorem d_MD_row_63 : decode b_MD_row 63 = .ok (.iload_n 2, 1) := by decide +kernel
theorem d_MD_row_64 : decode b_MD_row 64 = .ok (.iconst 2, 1) := by decide +kernel
theorem d_MD_row_65 : decode b_MD_row 65 = .ok (.if_icmp .ne 12, 3) := by decide +kernel
theorem d_MD_row_68 : decode b_MD_row 68 = .ok (.aload_n 0, 1) := by decide +kernel
theorem d_MD_row_69 : decode b_MD_row 69 = .ok (.getfield 77, 3) := by decide +kernel
theorem d_MD_row_72 : decode b_MD_row 72 = .ok (.iload_n 1, 1) := by decide +kernel
theorem d_MD_row_73 : decode b_MD_row 73 = .ok (.iaload, 1) := by decide +kernel
theorem d_MD_row_74 : decode b_MD_row 74 = .ok (.goto 16, 3) := by decide +kernel
theorem d_MD_row_77 : decode b_MD_row 77 = .ok (.aload_n 0, 1) := by decide +kernel
theorem d_MD_row_78 : decode b_MD_row 78 = .ok (.iload_n 1, 1) := by decide +kernel
theorem d_MD_row_79 : decode b_MD_row 79 = .ok (.invokevirtual 249, 3) := by decide +kernel
theorem d_MD_row_82 : decode b_MD_row 82 = .ok (.ifCond .eq 7, 3) := by decide +kernel
theorem d_MD_row_85 : decode b_MD_row 85 = .ok (.iconst 1, 1) := by decide +kernel
theorem d_MD_row_86 : decode b_MD_row 86 = .ok (.goto 4, 3) := by decide +kernel
theorem d_MD_row_89 : decode b_MD_row 89 = .ok (.iconst 0, 1) := by decide +kernel
theorem d_MD_row_90 : decode b_MD_row 90 = .ok (.ireturn, 1) := by decide +kernel
def m_MD_row_J27 (F : Nat) (a2 : Int32) (a1 : Int32) (s0_27 : Int32) (t0_27 : St) : Option (Int32 × St) :=
  (bn2 (m_MD_goes F t0_27 s0_27 (1 : Int32)) (fun r28 z0_28 => (if r28 = (0 : Int32) then (some ((0 : Int32), z0_28)) else (if a2 = (0 : Int32) then (ck a1 100 (some (((z0_28 29) a1.toNatClampNeg), z0_28))) else (if a2 = (1 : Int32) then (ck a1 100 (some (((z0_28 30) a1.toNatClampNeg), z0_28))) else (if a2 = (2 : Int32) then (ck a1 100 (some (((z0_28 31) a1.toNatClampNeg), z0_28))) else (bn1 (m_MD_isMet F z0_28 a1) (fun r79 => (if r79 = (0 : Int32) then (some ((0 : Int32), z0_28)) else (some ((1 : Int32), z0_28)))))))))))
theorem m_MD_row_J27_h {F : Nat} {a2 : Int32} {a1 : Int32} {s0_27 : Int32} {t0_27 : St} {o : (Int32 × St)} (h : m_MD_row_J27 F a2 a1 s0_27 t0_27 = some o) :
  (bn2 (m_MD_goes F t0_27 s0_27 (1 : Int32)) (fun r28 z0_28 => (if r28 = (0 : Int32) then (some ((0 : Int32), z0_28)) else (if a2 = (0 : Int32) then (ck a1 100 (some (((z0_28 29) a1.toNatClampNeg), z0_28))) else (if a2 = (1 : Int32) then (ck a1 100 (some (((z0_28 30) a1.toNatClampNeg), z0_28))) else (if a2 = (2 : Int32) then (ck a1 100 (some (((z0_28 31) a1.toNatClampNeg), z0_28))) else (bn1 (m_MD_isMet F z0_28 a1) (fun r79 => (if r79 = (0 : Int32) then (some ((0 : Int32), z0_28)) else (some ((1 : Int32), z0_28))))))))))) = some o := h
def m_MD_row (F : Nat) (x0 : St) (a1 : Int32) (a2 : Int32) : Option (Int32 × St) :=
  (if a1 < (0 : Int32) then (m_MD_row_J27 F a2 a1  (0 : Int32) x0) else (if (x0 27 0) ≤ a1 then (m_MD_row_J27 F a2 a1  (0 : Int32) x0) else (if a2 < (0 : Int32) then (m_MD_row_J27 F a2 a1  (0 : Int32) x0) else (if (3 : Int32) < a2 then (m_MD_row_J27 F a2 a1  (0 : Int32) x0) else (m_MD_row_J27 F a2 a1  (1 : Int32) x0)))))
abbrev rm_MD_row : Room := { frames := 5, cells := 0, slots := 0, locals := 113 }
set_option maxHeartbeats 4000000 in
set_option maxRecDepth 100000 in
theorem c_MD_row {G : (Nat → Prop) → State → Prop} (hG : gok G) (hGn : gN G) (l : Launch) (dC : Nat → ClassId) (dI : Nat → Nat → Nat) (g : Nat → ClassId) (F : Nat) (sz : Nat) (h0 : Nat) (q0 : Nat → Nat) (x0 : St) (a1 : Int32) (a2 : Int32) {o : Int32 × St} (hm : m_MD_row F x0 a1 a2 = some o) : Met l y_MD_row (.code y_MD_row b_MD_row 3 (some .int) :: gw) rm_MD_row (kq (dC, dI) vwCl (tyv g) G [.ref h0, .int a1, .int a2] sz (wd_MD g h0 q0 x0)) (kqi (dC, dI) vwCl (tyv g) (wd_MD g h0 q0 x0) o.1 (wd_MD g h0 q0 (o.2)) sz) 0 0 (va_A (wd_MD g h0 q0 x0) sz) := by
  unfold m_MD_row at hm
  refine km (Qc := fun sz => kqi (dC, dI) vwCl (tyv g) (wd_MD g h0 q0 x0) o.1 (wd_MD g h0 q0 (o.2)) sz) (cc := b_MD_row) (maxL := 3) (ret := some .int) (by decide) rfl (Nat.le_of_ble_eq_true rfl) ?_
  intro p e s m args below meth c Q hQ hx hb hr hts hown hlocks hml hnm H locs A hAe hA hP hK hD hS hGA ls hl
  have hl : lv_has ls 3 [(0, .ref h0), (1, .int a1), (2, .int a2)] := hl
  have hts : ∀ w ∈ gw, w.before args s = true := fun w h => hts w (List.mem_cons_of_mem _ h)
  have hown : s.vm.findClass "AlarmMatrixModel" = some m.cls := hown
  have J27 : ∀ (s0_27 : Int32) (t0_27 : St) (H : Heap) (locs : List Loc) (ls : Array Slot), m_MD_row_J27 F a2 a1  s0_27 t0_27 = some o → va_P (dC, dI) vwCl (wd_MD g h0 q0 t0_27) H → va_D A (wd_MD g h0 q0 t0_27) → va_S A s.heap H locs → lv_has ls 3 [(0, .ref h0), (1, .int a1), (2, .int a2)] → W p l e rm_MD_row s m args below meth c H locs 0 0 Q (F0 m 27 ls [.int s0_27, .ref h0]) := by
    intro s0_27 t0_27 H locs ls hm hP hD hS hl
    replace hm := m_MD_row_J27_h hm
    refine lv_iconst (v := (1 : Int32)) hx hb d_MD_row_27 (by decide) ?_
    obtain ⟨r28, z0_28, hcl, hm⟩ := bn2_s hm
    refine kci (wc := wd_MD g h0 q0 t0_27) (wr := ([] : va_W)) (w1 := wd_MD g h0 q0 z0_28) hP hD hS hA [0, 1, 2, 3, 4, 5, 6, 7, 8, 9, 10, 11, 12, 13, 14, 15, 16, 17, 18, 19, 20, 21, 22, 23, 24, 25, 26, 27, 28, 29, 30, 31] [] rfl rfl (by decide) (by decide) (va_runV (As := [.int s0_27, .int (1 : Int32)]) (rest := []) ⟨hx, hb, hml, hown, hts⟩ (c_MD_goes hG hGn l dC dI g F H.size h0 q0 t0_27 s0_27 (1 : Int32) hcl) (cwV 2 hts (gdV k5_155 k5_157 kp_20 k1_10 k5_158) rfl rfl rfl (by decide +kernel) ⟨Nat.le_of_ble_eq_true rfl, Nat.le_of_ble_eq_true rfl⟩) (kpV hG hP hK hD hS hA hGA [0, 1, 2, 3, 4, 5, 6, 7, 8, 9, 10, 11, 12, 13, 14, 15, 16, 17, 18, 19, 20, 21, 22, 23, 24, 25, 26, 27, 28, 29, 30, 31] (by decide) rfl (ci := 10) (q0 := 0) rfl rfl rfl) rfl rfl hl.1 rfl (lv_room (Nat.le_of_ble_eq_true rfl)) d_MD_row_28 ⟨Nat.le_of_ble_eq_true rfl, Nat.le_of_ble_eq_true rfl⟩) (fun H locs hP hD hS => ?_)
    have hP : va_P (dC, dI) vwCl (wd_MD g h0 q0 z0_28) H := hP
    have hD : va_D A (wd_MD g h0 q0 z0_28) := hD
    refine lv_if_ne (tgt := 36) hx hb d_MD_row_31 (by decide) (fun hc => ?_) (fun hc => ?_)
    · replace hm := if_f hm hc
      refine lv_iload_n hx hb d_MD_row_36 rfl (lv_at hl 2 rfl) ?_
      refine lv_if_ne (tgt := 49) hx hb d_MD_row_37 (by decide) (fun hc => ?_) (fun hc => ?_)
      · replace hm := if_f hm hc
        refine lv_iload_n hx hb d_MD_row_49 rfl (lv_at hl 2 rfl) ?_
        refine lv_iconst (v := (1 : Int32)) hx hb d_MD_row_50 (by decide) ?_
        refine lv_icmp_ne (tgt := 63) hx hb d_MD_row_51 (by decide) (fun hc => ?_) (fun hc => ?_)
        · replace hm := if_f hm hc
          refine lv_iload_n hx hb d_MD_row_63 rfl (lv_at hl 2 rfl) ?_
          refine lv_iconst (v := (2 : Int32)) hx hb d_MD_row_64 (by decide) ?_
          refine lv_icmp_ne (tgt := 77) hx hb d_MD_row_65 (by decide) (fun hc => ?_) (fun hc => ?_)
          · replace hm := if_f hm hc
            refine lv_aload_n hx hb d_MD_row_77 rfl (lv_at hl 0 rfl) ?_
            refine lv_iload_n hx hb d_MD_row_78 rfl (lv_at hl 1 rfl) ?_
            obtain ⟨r79, hcl, hm⟩ := bn1_s hm
            refine kci (wc := wd_MD g h0 q0 z0_28) (wr := ([] : va_W)) (w1 := wd_MD g h0 q0 z0_28) hP hD hS hA [0, 1, 2, 3, 4, 5, 6, 7, 8, 9, 10, 11, 12, 13, 14, 15, 16, 17, 18, 19, 20, 21, 22, 23, 24, 25, 26, 27, 28, 29, 30, 31] [] rfl rfl (by decide) (by decide) (va_runV (As := [.int a1]) (rest := []) ⟨hx, hb, hml, hown, hts⟩ (c_MD_isMet hG hGn l dC dI g F H.size h0 q0 z0_28 a1 hcl) (cwV 1 hts (gdV k6_93 k6_95 kp_49 k1_10 k6_96) rfl rfl rfl (by decide +kernel) ⟨Nat.le_of_ble_eq_true rfl, Nat.le_of_ble_eq_true rfl⟩) (kpV hG hP hK hD hS hA hGA [0, 1, 2, 3, 4, 5, 6, 7, 8, 9, 10, 11, 12, 13, 14, 15, 16, 17, 18, 19, 20, 21, 22, 23, 24, 25, 26, 27, 28, 29, 30, 31] (by decide) rfl (ci := 10) (q0 := 0) rfl rfl rfl) rfl rfl hl.1 rfl (lv_room (Nat.le_of_ble_eq_true rfl)) d_MD_row_79 ⟨Nat.le_of_ble_eq_true rfl, Nat.le_of_ble_eq_true rfl⟩) (fun H locs hP hD hS => ?_)
            have hP : va_P (dC, dI) vwCl (wd_MD g h0 q0 z0_28) H := hP
            have hD : va_D A (wd_MD g h0 q0 z0_28) := hD
            refine lv_if_eq (tgt := 89) hx hb d_MD_row_82 (by decide) (fun hc => ?_) (fun hc => ?_)
            · replace hm := if_t hm hc
              refine lv_iconst (v := (0 : Int32)) hx hb d_MD_row_89 (by decide) ?_
              obtain rfl := Option.some.inj hm
              rw [hQ]
              exact kri hx hb hr hlocks hAe hP hK hD hS d_MD_row_90
            · replace hm := if_f hm hc
              refine lv_iconst (v := (1 : Int32)) hx hb d_MD_row_85 (by decide) ?_
              refine lv_goto (tgt := 90) hx hb d_MD_row_86 (by decide) ?_
              obtain rfl := Option.some.inj hm
              rw [hQ]
              exact kri hx hb hr hlocks hAe hP hK hD hS d_MD_row_90
          · replace hm := if_t hm hc
            refine lv_aload_n hx hb d_MD_row_68 rfl (lv_at hl 0 rfl) ?_
            refine va_get (D := (dC, dI)) (ci := 10) (v := .ref (q0 31)) (C := "AlarmMatrixModel") (T := T_MD) (N := 42) hx hb hts i_MD hown hK hP 0 rfl rfl 31 (by decide) (hts _ k5_51) (fun _ h9 => h9) rfl d_MD_row_69 ?_
            refine lv_iload_n hx hb d_MD_row_72 rfl (lv_at hl 1 rfl) ?_
            obtain ⟨h_73, hm⟩ := ck_s hm
            refine va_iald (f := (z0_28 31)) hx hb hK hP 23 0 rfl rfl h_73 d_MD_row_73 ?_
            refine lv_goto (tgt := 90) hx hb d_MD_row_74 (by decide) ?_
            obtain rfl := Option.some.inj hm
            rw [hQ]
            exact kri hx hb hr hlocks hAe hP hK hD hS d_MD_row_90
        · replace hm := if_t hm hc
          refine lv_aload_n hx hb d_MD_row_54 rfl (lv_at hl 0 rfl) ?_
          refine va_get (D := (dC, dI)) (ci := 10) (v := .ref (q0 30)) (C := "AlarmMatrixModel") (T := T_MD) (N := 42) hx hb hts i_MD hown hK hP 0 rfl rfl 30 (by decide) (hts _ k5_50) (fun _ h9 => h9) rfl d_MD_row_55 ?_
          refine lv_iload_n hx hb d_MD_row_58 rfl (lv_at hl 1 rfl) ?_
          obtain ⟨h_59, hm⟩ := ck_s hm
          refine va_iald (f := (z0_28 30)) hx hb hK hP 22 0 rfl rfl h_59 d_MD_row_59 ?_
          refine lv_goto (tgt := 90) hx hb d_MD_row_60 (by decide) ?_
          obtain rfl := Option.some.inj hm
          rw [hQ]
          exact kri hx hb hr hlocks hAe hP hK hD hS d_MD_row_90
      · replace hm := if_t hm hc
        refine lv_aload_n hx hb d_MD_row_40 rfl (lv_at hl 0 rfl) ?_
        refine va_get (D := (dC, dI)) (ci := 10) (v := .ref (q0 29)) (C := "AlarmMatrixModel") (T := T_MD) (N := 42) hx hb hts i_MD hown hK hP 0 rfl rfl 29 (by decide) (hts _ k5_49) (fun _ h9 => h9) rfl d_MD_row_41 ?_
        refine lv_iload_n hx hb d_MD_row_44 rfl (lv_at hl 1 rfl) ?_
        obtain ⟨h_45, hm⟩ := ck_s hm
        refine va_iald (f := (z0_28 29)) hx hb hK hP 21 0 rfl rfl h_45 d_MD_row_45 ?_
        refine lv_goto (tgt := 90) hx hb d_MD_row_46 (by decide) ?_
        obtain rfl := Option.some.inj hm
        rw [hQ]
        exact kri hx hb hr hlocks hAe hP hK hD hS d_MD_row_90
    · replace hm := if_t hm hc
      refine lv_iconst (v := (0 : Int32)) hx hb d_MD_row_34 (by decide) ?_
      obtain rfl := Option.some.inj hm
      rw [hQ]
      exact kri hx hb hr hlocks hAe hP hK hD hS d_MD_row_35
  refine lv_aload_n hx hb d_MD_row_0 rfl (lv_at hl 0 rfl) ?_
  refine lv_iload_n hx hb d_MD_row_1 rfl (lv_at hl 1 rfl) ?_
  refine lv_if_lt (tgt := 26) hx hb d_MD_row_2 (by decide) (fun hc => ?_) (fun hc => ?_)
  · replace hm := if_t hm hc
    refine lv_iconst (v := (0 : Int32)) hx hb d_MD_row_26 (by decide) ?_
    exact J27 (0 : Int32) x0 H locs ls hm hP hD hS (lv_sub hl [0, 1, 2] rfl)
  · replace hm := if_f hm hc
    refine lv_iload_n hx hb d_MD_row_5 rfl (lv_at hl 1 rfl) ?_
    refine lv_aload_n hx hb d_MD_row_6 rfl (lv_at hl 0 rfl) ?_
    refine va_get (D := (dC, dI)) (ci := 10) (v := .int (x0 27 0)) (C := "AlarmMatrixModel") (T := T_MD) (N := 42) hx hb hts i_MD hown hK hP 0 rfl rfl 27 (by decide) (hts _ k5_47) (fun _ h9 => h9) rfl d_MD_row_7 ?_
    refine lv_icmp_ge (tgt := 26) hx hb d_MD_row_10 (by decide) (fun hc => ?_) (fun hc => ?_)
    · replace hm := if_t hm hc
      refine lv_iconst (v := (0 : Int32)) hx hb d_MD_row_26 (by decide) ?_
      exact J27 (0 : Int32) x0 H locs ls hm hP hD hS (lv_sub hl [0, 1, 2] rfl)
    · replace hm := if_f hm hc
      refine lv_iload_n hx hb d_MD_row_13 rfl (lv_at hl 2 rfl) ?_
      refine lv_if_lt (tgt := 26) hx hb d_MD_row_14 (by decide) (fun hc => ?_) (fun hc => ?_)
      · replace hm := if_t hm hc
        refine lv_iconst (v := (0 : Int32)) hx hb d_MD_row_26 (by decide) ?_
        exact J27 (0 : Int32) x0 H locs ls hm hP hD hS (lv_sub hl [0, 1, 2] rfl)
      · replace hm := if_f hm hc
        refine lv_iload_n hx hb d_MD_row_17 rfl (lv_at hl 2 rfl) ?_
        refine lv_iconst (v := (3 : Int32)) hx hb d_MD_row_18 (by decide) ?_
        refine lv_icmp_gt (tgt := 26) hx hb d_MD_row_19 (by decide) (fun hc => ?_) (fun hc => ?_)
        · replace hm := if_t hm hc
          refine lv_iconst (v := (0 : Int32)) hx hb d_MD_row_26 (by decide) ?_
          exact J27 (0 : Int32) x0 H locs ls hm hP hD hS (lv_sub hl [0, 1, 2] rfl)
        · replace hm := if_f hm hc
          refine lv_iconst (v := (1 : Int32)) hx hb d_MD_row_22 (by decide) ?_
          refine lv_goto (tgt := 27) hx hb d_MD_row_23 (by decide) ?_
          exact J27 (1 : Int32) x0 H locs ls hm hP hD hS (lv_sub hl [0, 1, 2] rfl)
abbrev b_MD_event : ByteArray := prog_12_method_58_code
abbrev y_MD_event : MethodName := ⟨"AlarmMatrixModel", "event", "(II)I"⟩
theorem d_MD_event_0 : decode b_MD_event 0 = .ok (.aload_n 0, 1) := by decide +kernel
theorem d_MD_event_1 : decode b_MD_event 1 = .ok (.iload_n 1, 1) := by decide +kernel
theorem d_MD_event_2 : decode b_MD_event 2 = .ok (.ifCond .lt 24, 3) := by decide +kernel
theorem d_MD_event_5 : decode b_MD_event 5 = .ok (.iload_n 1, 1) := by decide +kernel
theorem d_MD_event_6 : decode b_MD_event 6 = .ok (.aload_n 0, 1) := by decide +kernel
theorem d_MD_event_7 : decode b_MD_event 7 = .ok (.getfield 255, 3) := by decide +kernel
theorem d_MD_event_10 : decode b_MD_event 10 = .ok (.if_icmp .ge 16, 3) := by decide +kernel
theorem d_MD_event_13 : decode b_MD_event 13 = .ok (.iload_n 2, 1) := by decide +kernel
theorem d_MD_event_14 : decode b_MD_event 14 = .ok (.ifCond .lt 12, 3) := by decide +kernel
theorem d_MD_event_17 : decode b_MD_event 17 = .ok (.iload_n 2, 1) := by decide +kernel
theorem d_MD_event_18 : decode b_MD_event 18 = .ok (.iconst 2, 1) := by decide +kernel
theorem d_MD_event_19 : decode b_MD_event 19 = .ok (.if_icmp .gt 7, 3) := by decide +kernel
theorem d_MD_event_22 : decode b_MD_event 22 = .ok (.iconst 1, 1) := by decide +kernel
theorem d_MD_event_23 : decode b_MD_event 23 = .ok (.goto 4, 3) := by decide +kernel
theorem d_MD_event_26 : decode b_MD_event 26 = .ok (.iconst 0, 1) := by decide +kernel
theorem d_MD_event_27 : decode b_MD_event 27 = .ok (.iconst 1, 1) := by decide +kernel
theorem d_MD_event_28 : decode b_MD_event 28 = .ok (.invokevirtual 114, 3) := by decide +kernel
theorem d_MD_event_31 : decode b_MD_event 31 = .ok (.ifCond .ne 5, 3) := by decide +kernel
theorem d_MD_event_34 : decode b_MD_event 34 = .ok (.iconst 0, 1) := by decide +kernel
theorem d_MD_event_35 : decode b_MD_event 35 = .ok (.ireturn, 1) := by decide +kernel
theorem d_MD_event_36 : decode b_MD_event 36 = .ok (.aload_n 0, 1) := by decide +kernel
theorem d_MD_event_37 : decode b_MD_event 37 = .ok (.getfield 255, 3) := by decide +kernel
theorem d_MD_event_40 : decode b_MD_event 40 = .ok (.iconst 1, 1) := by decide +kernel
theorem d_MD_event_41 : decode b_MD_event 41 = .ok (.isub, 1) := by decide +kernel
theorem d_MD_event_42 : decode b_MD_event 42 = .ok (.iload_n 1, 1) := by decide +kernel
theorem d_MD_event_43 : decode b_MD_event 43 = .ok (.isub, 1) := by decide +kernel
theorem d_MD_event_44 : decode b_MD_event 44 = .ok (.istore_n 3, 1) := by decide +kernel
theorem d_MD_event_45 : decode b_MD_event 45 = .ok (.iload_n 2, 1) := by decide +kernel
theorem d_MD_event_46 : decode b_MD_event 46 = .ok (.ifCond .ne 12, 3) := by decide +kernel
theorem d_MD_event_49 : decode b_MD_event 49 = .ok (.aload_n 0, 1) := by decide +kernel
theorem d_MD_event_50 : decode b_MD_event 50 = .ok (.getfield 92, 3) := by decide +kernel
theorem d_MD_event_53 : decode b_MD_event 53 = .ok (.iload_n 3, 1) := by decide +kernel
theorem d_MD_event_54 : decode b_MD_event 54 = .ok (.iaload, 1) := by decide +kernel
theorem d_MD_event_55 : decode b_MD_event 55 = .ok (.goto 23, 3) := by decide +kernel
theorem d_MD_event_58 : decode b_MD_event 58 = .ok (.iload_n 2, 1) := by decide +kernel
theorem d_MD_event_59 : decode b_MD_event 59 = .ok (.iconst 1, 1) := by decide +kernel
theorem d_MD_event_60 : decode b_MD_event 60 = .ok (.if_icmp .ne 12, 3) := by decide +kernel
theorem d_MD_event_63 : decode b_MD_event 63 = .ok (.aload_n 0, 1) := by decide +kernel
theorem d_MD_event_64 : decode b_MD_event 64 = .ok (.getfield 95, 3) := by decide +kernel
theorem d_MD_event_67 : decode b_MD_event 67 = .ok (.iload_n 3, 1) := by decide +kernel
theorem d_MD_event_68 : decode b_MD_event 68 = .ok (.iaload, 1) := by decide +kernel
theorem d_MD_event_69 : decode b_MD_event 69 = .ok (.goto 9, 3) := by decide +kernel
theorem d_MD_event_72 : decode b_MD_event 72 = .ok (.aload_n 0, 1) := by decide +kernel
theorem d_MD_event_73 : decode b_MD_event 73 = .ok (.getfield 98, 3) := by decide +kernel
theorem d_MD_event_76 : decode b_MD_event 76 = .ok (.iload_n 3, 1) := by decide +kernel
theorem d_MD_event_77 : decode b_MD_event 77 = .ok (.iaload, 1) := by decide +kernel
theorem d_MD_event_78 : decode b_MD_event 78 = .ok (.ireturn, 1) := by decide +kernel
def m_MD_event_J27 (F : Nat) (a2 : Int32) (a1 : Int32) (s0_27 : Int32) (t0_27 : St) : Option (Int32 × St) :=
  (bn2 (m_MD_goes F t0_27 s0_27 (1 : Int32)) (fun r28 z0_28 => (if r28 = (0 : Int32) then (some ((0 : Int32), z0_28)) else (if a2 = (0 : Int32) then (ck (((z0_28 36 0) - (1 : Int32)) - a1) 60 (some (((z0_28 37) (((z0_28 36 0) - (1 : Int32)) - a1).toNatClampNeg), z0_28))) else (if a2 = (1 : Int32) then (ck (((z0_28 36 0) - (1 : Int32)) - a1) 60 (some (((z0_28 38) (((z0_28 36 0) - (1 : Int32)) - a1).toNatClampNeg), z0_28))) else (ck (((z0_28 36 0) - (1 : Int32)) - a1) 60 (some (((z0_28 39) (((z0_28 36 0) - (1 : Int32)) - a1).toNatClampNeg), z0_28))))))))
theorem m_MD_event_J27_h {F : Nat} {a2 : Int32} {a1 : Int32} {s0_27 : Int32} {t0_27 : St} {o : (Int32 × St)} (h : m_MD_event_J27 F a2 a1 s0_27 t0_27 = some o) :
  (bn2 (m_MD_goes F t0_27 s0_27 (1 : Int32)) (fun r28 z0_28 => (if r28 = (0 : Int32) then (some ((0 : Int32), z0_28)) else (if a2 = (0 : Int32) then (ck (((z0_28 36 0) - (1 : Int32)) - a1) 60 (some (((z0_28 37) (((z0_28 36 0) - (1 : Int32)) - a1).toNatClampNeg), z0_28))) else (if a2 = (1 : Int32) then (ck (((z0_28 36 0) - (1 : Int32)) - a1) 60 (some (((z0_28 38) (((z0_28 36 0) - (1 : Int32)) - a1).toNatClampNeg), z0_28))) else (ck (((z0_28 36 0) - (1 : Int32)) - a1) 60 (some (((z0_28 39) (((z0_28 36 0) - (1 : Int32)) - a1).toNatClampNeg), z0_28)))))))) = some o := h
def m_MD_event (F : Nat) (x0 : St) (a1 : Int32) (a2 : Int32) : Option (Int32 × St) :=
  (if a1 < (0 : Int32) then (m_MD_event_J27 F a2 a1  (0 : Int32) x0) else (if (x0 36 0) ≤ a1 then (m_MD_event_J27 F a2 a1  (0 : Int32) x0) else (if a2 < (0 : Int32) then (m_MD_event_J27 F a2 a1  (0 : Int32) x0) else (if (2 : Int32) < a2 then (m_MD_event_J27 F a2 a1  (0 : Int32) x0) else (m_MD_event_J27 F a2 a1  (1 : Int32) x0)))))
abbrev rm_MD_event : Room := { frames := 1, cells := 0, slots := 0, locals := 22 }
set_option maxHeartbeats 4000000 in
set_option maxRecDepth 100000 in
theorem c_MD_event {G : (Nat → Prop) → State → Prop} (hG : gok G) (hGn : gN G) (l : Launch) (dC : Nat → ClassId) (dI : Nat → Nat → Nat) (g : Nat → ClassId) (F : Nat) (sz : Nat) (h0 : Nat) (q0 : Nat → Nat) (x0 : St) (a1 : Int32) (a2 : Int32) {o : Int32 × St} (hm : m_MD_event F x0 a1 a2 = some o) : Met l y_MD_event (.code y_MD_event b_MD_event 4 (some .int) :: gw) rm_MD_event (kq (dC, dI) vwCl (tyv g) G [.ref h0, .int a1, .int a2] sz (wd_MD g h0 q0 x0)) (kqi (dC, dI) vwCl (tyv g) (wd_MD g h0 q0 x0) o.1 (wd_MD g h0 q0 (o.2)) sz) 0 0 (va_A (wd_MD g h0 q0 x0) sz) := by
  unfold m_MD_event at hm
  refine km (Qc := fun sz => kqi (dC, dI) vwCl (tyv g) (wd_MD g h0 q0 x0) o.1 (wd_MD g h0 q0 (o.2)) sz) (cc := b_MD_event) (maxL := 4) (ret := some .int) (by decide) rfl (Nat.le_of_ble_eq_true rfl) ?_
  intro p e s m args below meth c Q hQ hx hb hr hts hown hlocks hml hnm H locs A hAe hA hP hK hD hS hGA ls hl
  have hl : lv_has ls 4 [(0, .ref h0), (1, .int a1), (2, .int a2)] := hl
  have hts : ∀ w ∈ gw, w.before args s = true := fun w h => hts w (List.mem_cons_of_mem _ h)
  have hown : s.vm.findClass "AlarmMatrixModel" = some m.cls := hown
  have J27 : ∀ (s0_27 : Int32) (t0_27 : St) (H : Heap) (locs : List Loc) (ls : Array Slot), m_MD_event_J27 F a2 a1  s0_27 t0_27 = some o → va_P (dC, dI) vwCl (wd_MD g h0 q0 t0_27) H → va_D A (wd_MD g h0 q0 t0_27) → va_S A s.heap H locs → lv_has ls 4 [(0, .ref h0), (1, .int a1), (2, .int a2)] → W p l e rm_MD_event s m args below meth c H locs 0 0 Q (F0 m 27 ls [.int s0_27, .ref h0]) := by
    intro s0_27 t0_27 H locs ls hm hP hD hS hl
    replace hm := m_MD_event_J27_h hm
    refine lv_iconst (v := (1 : Int32)) hx hb d_MD_event_27 (by decide) ?_
    obtain ⟨r28, z0_28, hcl, hm⟩ := bn2_s hm
    refine kci (wc := wd_MD g h0 q0 t0_27) (wr := ([] : va_W)) (w1 := wd_MD g h0 q0 z0_28) hP hD hS hA [0, 1, 2, 3, 4, 5, 6, 7, 8, 9, 10, 11, 12, 13, 14, 15, 16, 17, 18, 19, 20, 21, 22, 23, 24, 25, 26, 27, 28, 29, 30, 31] [] rfl rfl (by decide) (by decide) (va_runV (As := [.int s0_27, .int (1 : Int32)]) (rest := []) ⟨hx, hb, hml, hown, hts⟩ (c_MD_goes hG hGn l dC dI g F H.size h0 q0 t0_27 s0_27 (1 : Int32) hcl) (cwV 2 hts (gdV k5_155 k5_157 kp_20 k1_10 k5_158) rfl rfl rfl (by decide +kernel) ⟨Nat.le_of_ble_eq_true rfl, Nat.le_of_ble_eq_true rfl⟩) (kpV hG hP hK hD hS hA hGA [0, 1, 2, 3, 4, 5, 6, 7, 8, 9, 10, 11, 12, 13, 14, 15, 16, 17, 18, 19, 20, 21, 22, 23, 24, 25, 26, 27, 28, 29, 30, 31] (by decide) rfl (ci := 10) (q0 := 0) rfl rfl rfl) rfl rfl hl.1 rfl (lv_room (Nat.le_of_ble_eq_true rfl)) d_MD_event_28 ⟨Nat.le_of_ble_eq_true rfl, Nat.le_of_ble_eq_true rfl⟩) (fun H locs hP hD hS => ?_)
    have hP : va_P (dC, dI) vwCl (wd_MD g h0 q0 z0_28) H := hP
    have hD : va_D A (wd_MD g h0 q0 z0_28) := hD
    refine lv_if_ne (tgt := 36) hx hb d_MD_event_31 (by decide) (fun hc => ?_) (fun hc => ?_)
    · replace hm := if_f hm hc
      refine lv_aload_n hx hb d_MD_event_36 rfl (lv_at hl 0 rfl) ?_
      refine va_get (D := (dC, dI)) (ci := 10) (v := .int (z0_28 36 0)) (C := "AlarmMatrixModel") (T := T_MD) (N := 42) hx hb hts i_MD hown hK hP 0 rfl rfl 36 (by decide) (hts _ k5_56) (fun _ h9 => h9) rfl d_MD_event_37 ?_
      refine lv_iconst (v := (1 : Int32)) hx hb d_MD_event_40 (by decide) ?_
      refine lv_isub hx hb d_MD_event_41 ?_
      refine lv_iload_n hx hb d_MD_event_42 rfl (lv_at hl 1 rfl) ?_
      refine lv_isub hx hb d_MD_event_43 ?_
      refine lv_istore_n (lv' := [(3, .int (((z0_28 36 0) - (1 : Int32)) - a1)), (0, .ref h0), (1, .int a1), (2, .int a2)]) hx hb d_MD_event_44 rfl hl (by decide) rfl (fun ls hl => ?_)
      refine lv_iload_n hx hb d_MD_event_45 rfl (lv_at hl 3 rfl) ?_
      refine lv_if_ne (tgt := 58) hx hb d_MD_event_46 (by decide) (fun hc => ?_) (fun hc => ?_)
      · replace hm := if_f hm hc
        refine lv_iload_n hx hb d_MD_event_58 rfl (lv_at hl 3 rfl) ?_
        refine lv_iconst (v := (1 : Int32)) hx hb d_MD_event_59 (by decide) ?_
        refine lv_icmp_ne (tgt := 72) hx hb d_MD_event_60 (by decide) (fun hc => ?_) (fun hc => ?_)
        · replace hm := if_f hm hc
          refine lv_aload_n hx hb d_MD_event_72 rfl (lv_at hl 1 rfl) ?_
          refine va_get (D := (dC, dI)) (ci := 10) (v := .ref (q0 39)) (C := "AlarmMatrixModel") (T := T_MD) (N := 42) hx hb hts i_MD hown hK hP 0 rfl rfl 39 (by decide) (hts _ k5_59) (fun _ h9 => h9) rfl d_MD_event_73 ?_
          refine lv_iload_n hx hb d_MD_event_76 rfl (lv_at hl 0 rfl) ?_
          obtain ⟨h_77, hm⟩ := ck_s hm
          refine va_iald (f := (z0_28 39)) hx hb hK hP 30 0 rfl rfl h_77 d_MD_event_77 ?_
          obtain rfl := Option.some.inj hm
          rw [hQ]
          exact kri hx hb hr hlocks hAe hP hK hD hS d_MD_event_78
        · replace hm := if_t hm hc
          refine lv_aload_n hx hb d_MD_event_63 rfl (lv_at hl 1 rfl) ?_
          refine va_get (D := (dC, dI)) (ci := 10) (v := .ref (q0 38)) (C := "AlarmMatrixModel") (T := T_MD) (N := 42) hx hb hts i_MD hown hK hP 0 rfl rfl 38 (by decide) (hts _ k5_58) (fun _ h9 => h9) rfl d_MD_event_64 ?_
          refine lv_iload_n hx hb d_MD_event_67 rfl (lv_at hl 0 rfl) ?_
          obtain ⟨h_68, hm⟩ := ck_s hm
          refine va_iald (f := (z0_28 38)) hx hb hK hP 29 0 rfl rfl h_68 d_MD_event_68 ?_
          refine lv_goto (tgt := 78) hx hb d_MD_event_69 (by decide) ?_
          obtain rfl := Option.some.inj hm
          rw [hQ]
          exact kri hx hb hr hlocks hAe hP hK hD hS d_MD_event_78
      · replace hm := if_t hm hc
        refine lv_aload_n hx hb d_MD_event_49 rfl (lv_at hl 1 rfl) ?_
        refine va_get (D := (dC, dI)) (ci := 10) (v := .ref (q0 37)) (C := "AlarmMatrixModel") (T := T_MD) (N := 42) hx hb hts i_MD hown hK hP 0 rfl rfl 37 (by decide) (hts _ k5_57) (fun _ h9 => h9) rfl d_MD_event_50 ?_
        refine lv_iload_n hx hb d_MD_event_53 rfl (lv_at hl 0 rfl) ?_
        obtain ⟨h_54, hm⟩ := ck_s hm
        refine va_iald (f := (z0_28 37)) hx hb hK hP 28 0 rfl rfl h_54 d_MD_event_54 ?_
        refine lv_goto (tgt := 78) hx hb d_MD_event_55 (by decide) ?_
        obtain rfl := Option.some.inj hm
        rw [hQ]
        exact kri hx hb hr hlocks hAe hP hK hD hS d_MD_event_78
    · replace hm := if_t hm hc
      refine lv_iconst (v := (0 : Int32)) hx hb d_MD_event_34 (by decide) ?_
      obtain rfl := Option.some.inj hm
      rw [hQ]
      exact kri hx hb hr hlocks hAe hP hK hD hS d_MD_event_35
  refine lv_aload_n hx hb d_MD_event_0 rfl (lv_at hl 0 rfl) ?_
  refine lv_iload_n hx hb d_MD_event_1 rfl (lv_at hl 1 rfl) ?_
  refine lv_if_lt (tgt := 26) hx hb d_MD_event_2 (by decide) (fun hc => ?_) (fun hc => ?_)
  · replace hm := if_t hm hc
    refine lv_iconst (v := (0 : Int32)) hx hb d_MD_event_26 (by decide) ?_
    exact J27 (0 : Int32) x0 H locs ls hm hP hD hS (lv_sub hl [0, 1, 2] rfl)
  · replace hm := if_f hm hc
    refine lv_iload_n hx hb d_MD_event_5 rfl (lv_at hl 1 rfl) ?_
    refine lv_aload_n hx hb d_MD_event_6 rfl (lv_at hl 0 rfl) ?_
    refine va_get (D := (dC, dI)) (ci := 10) (v := .int (x0 36 0)) (C := "AlarmMatrixModel") (T := T_MD) (N := 42) hx hb hts i_MD hown hK hP 0 rfl rfl 36 (by decide) (hts _ k5_56) (fun _ h9 => h9) rfl d_MD_event_7 ?_
    refine lv_icmp_ge (tgt := 26) hx hb d_MD_event_10 (by decide) (fun hc => ?_) (fun hc => ?_)
    · replace hm := if_t hm hc
      refine lv_iconst (v := (0 : Int32)) hx hb d_MD_event_26 (by decide) ?_
      exact J27 (0 : Int32) x0 H locs ls hm hP hD hS (lv_sub hl [0, 1, 2] rfl)
    · replace hm := if_f hm hc
      refine lv_iload_n hx hb d_MD_event_13 rfl (lv_at hl 2 rfl) ?_
      refine lv_if_lt (tgt := 26) hx hb d_MD_event_14 (by decide) (fun hc => ?_) (fun hc => ?_)
      · replace hm := if_t hm hc
        refine lv_iconst (v := (0 : Int32)) hx hb d_MD_event_26 (by decide) ?_
        exact J27 (0 : Int32) x0 H locs ls hm hP hD hS (lv_sub hl [0, 1, 2] rfl)
      · replace hm := if_f hm hc
        refine lv_iload_n hx hb d_MD_event_17 rfl (lv_at hl 2 rfl) ?_
        refine lv_iconst (v := (2 : Int32)) hx hb d_MD_event_18 (by decide) ?_
        refine lv_icmp_gt (tgt := 26) hx hb d_MD_event_19 (by decide) (fun hc => ?_) (fun hc => ?_)
        · replace hm := if_t hm hc
          refine lv_iconst (v := (0 : Int32)) hx hb d_MD_event_26 (by decide) ?_
          exact J27 (0 : Int32) x0 H locs ls hm hP hD hS (lv_sub hl [0, 1, 2] rfl)
        · replace hm := if_f hm hc
          refine lv_iconst (v := (1 : Int32)) hx hb d_MD_event_22 (by decide) ?_
          refine lv_goto (tgt := 27) hx hb d_MD_event_23 (by decide) ?_
          exact J27 (1 : Int32) x0 H locs ls hm hP hD hS (lv_sub hl [0, 1, 2] rfl)
abbrev b_MD_ranked : ByteArray := prog_12_method_59_code
abbrev y_MD_ranked : MethodName := ⟨"AlarmMatrixModel", "ranked", "(I)I"⟩
theorem d_MD_ranked_0 : decode b_MD_ranked 0 = .ok (.aload_n 0, 1) := by decide +kernel
theorem d_MD_ranked_1 : decode b_MD_ranked 1 = .ok (.iload_n 1, 1) := by decide +kernel
theorem d_MD_ranked_2 : decode b_MD_ranked 2 = .ok (.ifCond .lt 7, 3) := by decide +kernel
theorem d_MD_ranked_5 : decode b_MD_ranked 5 = .ok (.iconst 1, 1) := by decide +kernel
theorem d_MD_ranked_6 : decode b_MD_ranked 6 = .ok (.goto 4, 3) := by decide +kernel
theorem d_MD_ranked_9 : decode b_MD_ranked 9 = .ok (.iconst 0, 1) := by decide +kernel
theorem d_MD_ranked_10 : decode b_MD_ranked 10 = .ok (.iconst 1, 1) := by decide +kernel
theorem d_MD_ranked_11 : decode b_MD_ranked 11 = .ok (.invokevirtual 114, 3) := by decide +kernel
theorem d_MD_ranked_14 : decode b_MD_ranked 14 = .ok (.ifCond .eq 11, 3) := by decide +kernel
theorem d_MD_ranked_17 : decode b_MD_ranked 17 = .ok (.aload_n 0, 1) := by decide +kernel
theorem d_MD_ranked_18 : decode b_MD_ranked 18 = .ok (.iload_n 1, 1) := by decide +kernel
theorem d_MD_ranked_19 : decode b_MD_ranked 19 = .ok (.invokevirtual 266, 3) := by decide +kernel
theorem d_MD_ranked_22 : decode b_MD_ranked 22 = .ok (.goto 4, 3) := by decide +kernel
theorem d_MD_ranked_25 : decode b_MD_ranked 25 = .ok (.iconst 0, 1) := by decide +kernel
theorem d_MD_ranked_26 : decode b_MD_ranked 26 = .ok (.ireturn, 1) := by decide +kernel
def m_MD_ranked (F : Nat) (x0 : St) (a1 : Int32) : Option (Int32 × St) :=
  (if a1 < (0 : Int32) then (bn2 (m_MD_goes F x0 (0 : Int32) (1 : Int32)) (fun r11 z0_11 => (if r11 = (0 : Int32) then (some ((0 : Int32), z0_11)) else (bn1 (m_MD_rankedOne F z0_11 a1) (fun r19 => (some (r19, z0_11))))))) else (bn2 (m_MD_goes F x0 (1 : Int32) (1 : Int32)) (fun r11 z0_11 => (if r11 = (0 : Int32) then (some ((0 : Int32), z0_11)) else (bn1 (m_MD_rankedOne F z0_11 a1) (fun r19 => (some (r19, z0_11))))))))
abbrev rm_MD_ranked : Room := { frames := 1, cells := 0, slots := 0, locals := 25 }
set_option maxHeartbeats 4000000 in
set_option maxRecDepth 100000 in
theorem c_MD_ranked {G : (Nat → Prop) → State → Prop} (hG : gok G) (hGn : gN G) (l : Launch) (dC : Nat → ClassId) (dI : Nat → Nat → Nat) (g : Nat → ClassId) (F : Nat) (sz : Nat) (h0 : Nat) (q0 : Nat → Nat) (x0 : St) (a1 : Int32) {o : Int32 × St} (hm : m_MD_ranked F x0 a1 = some o) : Met l y_MD_ranked (.code y_MD_ranked b_MD_ranked 2 (some .int) :: gw) rm_MD_ranked (kq (dC, dI) vwCl (tyv g) G [.ref h0, .int a1] sz (wd_MD g h0 q0 x0)) (kqi (dC, dI) vwCl (tyv g) (wd_MD g h0 q0 x0) o.1 (wd_MD g h0 q0 (o.2)) sz) 0 0 (va_A (wd_MD g h0 q0 x0) sz) := by
  unfold m_MD_ranked at hm
  refine km (Qc := fun sz => kqi (dC, dI) vwCl (tyv g) (wd_MD g h0 q0 x0) o.1 (wd_MD g h0 q0 (o.2)) sz) (cc := b_MD_ranked) (maxL := 2) (ret := some .int) (by decide) rfl (Nat.le_of_ble_eq_true rfl) ?_
  intro p e s m args below meth c Q hQ hx hb hr hts hown hlocks hml hnm H locs A hAe hA hP hK hD hS hGA ls hl
  have hl : lv_has ls 2 [(0, .ref h0), (1, .int a1)] := hl
  have hts : ∀ w ∈ gw, w.before args s = true := fun w h => hts w (List.mem_cons_of_mem _ h)
  have hown : s.vm.findClass "AlarmMatrixModel" = some m.cls := hown
  refine lv_aload_n hx hb d_MD_ranked_0 rfl (lv_at hl 0 rfl) ?_
  refine lv_iload_n hx hb d_MD_ranked_1 rfl (lv_at hl 1 rfl) ?_
  refine lv_if_lt (tgt := 9) hx hb d_MD_ranked_2 (by decide) (fun hc => ?_) (fun hc => ?_)
  · replace hm := if_t hm hc
    refine lv_iconst (v := (0 : Int32)) hx hb d_MD_ranked_9 (by decide) ?_
    refine lv_iconst (v := (1 : Int32)) hx hb d_MD_ranked_10 (by decide) ?_
    obtain ⟨r11, z0_11, hcl, hm⟩ := bn2_s hm
    refine kci (wc := wd_MD g h0 q0 x0) (wr := ([] : va_W)) (w1 := wd_MD g h0 q0 z0_11) hP hD hS hA [0, 1, 2, 3, 4, 5, 6, 7, 8, 9, 10, 11, 12, 13, 14, 15, 16, 17, 18, 19, 20, 21, 22, 23, 24, 25, 26, 27, 28, 29, 30, 31] [] rfl rfl (by decide) (by decide) (va_runV (As := [.int (0 : Int32), .int (1 : Int32)]) (rest := []) ⟨hx, hb, hml, hown, hts⟩ (c_MD_goes hG hGn l dC dI g F H.size h0 q0 x0 (0 : Int32) (1 : Int32) hcl) (cwV 2 hts (gdV k5_155 k5_157 kp_20 k1_10 k5_158) rfl rfl rfl (by decide +kernel) ⟨Nat.le_of_ble_eq_true rfl, Nat.le_of_ble_eq_true rfl⟩) (kpV hG hP hK hD hS hA hGA [0, 1, 2, 3, 4, 5, 6, 7, 8, 9, 10, 11, 12, 13, 14, 15, 16, 17, 18, 19, 20, 21, 22, 23, 24, 25, 26, 27, 28, 29, 30, 31] (by decide) rfl (ci := 10) (q0 := 0) rfl rfl rfl) rfl rfl hl.1 rfl (lv_room (Nat.le_of_ble_eq_true rfl)) d_MD_ranked_11 ⟨Nat.le_of_ble_eq_true rfl, Nat.le_of_ble_eq_true rfl⟩) (fun H locs hP hD hS => ?_)
    have hP : va_P (dC, dI) vwCl (wd_MD g h0 q0 z0_11) H := hP
    have hD : va_D A (wd_MD g h0 q0 z0_11) := hD
    refine lv_if_eq (tgt := 25) hx hb d_MD_ranked_14 (by decide) (fun hc => ?_) (fun hc => ?_)
    · replace hm := if_t hm hc
      refine lv_iconst (v := (0 : Int32)) hx hb d_MD_ranked_25 (by decide) ?_
      obtain rfl := Option.some.inj hm
      rw [hQ]
      exact kri hx hb hr hlocks hAe hP hK hD hS d_MD_ranked_26
    · replace hm := if_f hm hc
      refine lv_aload_n hx hb d_MD_ranked_17 rfl (lv_at hl 0 rfl) ?_
      refine lv_iload_n hx hb d_MD_ranked_18 rfl (lv_at hl 1 rfl) ?_
      obtain ⟨r19, hcl, hm⟩ := bn1_s hm
      refine kci (wc := wd_MD g h0 q0 z0_11) (wr := ([] : va_W)) (w1 := wd_MD g h0 q0 z0_11) hP hD hS hA [0, 1, 2, 3, 4, 5, 6, 7, 8, 9, 10, 11, 12, 13, 14, 15, 16, 17, 18, 19, 20, 21, 22, 23, 24, 25, 26, 27, 28, 29, 30, 31] [] rfl rfl (by decide) (by decide) (va_runV (As := [.int a1]) (rest := []) ⟨hx, hb, hml, hown, hts⟩ (c_MD_rankedOne hG hGn l dC dI g F H.size h0 q0 z0_11 a1 hcl) (cwV 1 hts (gdV k6_81 k6_83 kp_46 k1_10 k6_84) rfl rfl rfl (by decide +kernel) ⟨Nat.le_of_ble_eq_true rfl, Nat.le_of_ble_eq_true rfl⟩) (kpV hG hP hK hD hS hA hGA [0, 1, 2, 3, 4, 5, 6, 7, 8, 9, 10, 11, 12, 13, 14, 15, 16, 17, 18, 19, 20, 21, 22, 23, 24, 25, 26, 27, 28, 29, 30, 31] (by decide) rfl (ci := 10) (q0 := 0) rfl rfl rfl) rfl rfl hl.1 rfl (lv_room (Nat.le_of_ble_eq_true rfl)) d_MD_ranked_19 ⟨Nat.le_of_ble_eq_true rfl, Nat.le_of_ble_eq_true rfl⟩) (fun H locs hP hD hS => ?_)
      have hP : va_P (dC, dI) vwCl (wd_MD g h0 q0 z0_11) H := hP
      have hD : va_D A (wd_MD g h0 q0 z0_11) := hD
      refine lv_goto (tgt := 26) hx hb d_MD_ranked_22 (by decide) ?_
      obtain rfl := Option.some.inj hm
      rw [hQ]
      exact kri hx hb hr hlocks hAe hP hK hD hS d_MD_ranked_26
  · replace hm := if_f hm hc
    refine lv_iconst (v := (1 : Int32)) hx hb d_MD_ranked_5 (by decide) ?_
    refine lv_goto (tgt := 10) hx hb d_MD_ranked_6 (by decide) ?_
    refine lv_iconst (v := (1 : Int32)) hx hb d_MD_ranked_10 (by decide) ?_
    obtain ⟨r11, z0_11, hcl, hm⟩ := bn2_s hm
    refine kci (wc := wd_MD g h0 q0 x0) (wr := ([] : va_W)) (w1 := wd_MD g h0 q0 z0_11) hP hD hS hA [0, 1, 2, 3, 4, 5, 6, 7, 8, 9, 10, 11, 12, 13, 14, 15, 16, 17, 18, 19, 20, 21, 22, 23, 24, 25, 26, 27, 28, 29, 30, 31] [] rfl rfl (by decide) (by decide) (va_runV (As := [.int (1 : Int32), .int (1 : Int32)]) (rest := []) ⟨hx, hb, hml, hown, hts⟩ (c_MD_goes hG hGn l dC dI g F H.size h0 q0 x0 (1 : Int32) (1 : Int32) hcl) (cwV 2 hts (gdV k5_155 k5_157 kp_20 k1_10 k5_158) rfl rfl rfl (by decide +kernel) ⟨Nat.le_of_ble_eq_true rfl, Nat.le_of_ble_eq_true rfl⟩) (kpV hG hP hK hD hS hA hGA [0, 1, 2, 3, 4, 5, 6, 7, 8, 9, 10, 11, 12, 13, 14, 15, 16, 17, 18, 19, 20, 21, 22, 23, 24, 25, 26, 27, 28, 29, 30, 31] (by decide) rfl (ci := 10) (q0 := 0) rfl rfl rfl) rfl rfl hl.1 rfl (lv_room (Nat.le_of_ble_eq_true rfl)) d_MD_ranked_11 ⟨Nat.le_of_ble_eq_true rfl, Nat.le_of_ble_eq_true rfl⟩) (fun H locs hP hD hS => ?_)
    have hP : va_P (dC, dI) vwCl (wd_MD g h0 q0 z0_11) H := hP
    have hD : va_D A (wd_MD g h0 q0 z0_11) := hD
    refine lv_if_eq (tgt := 25) hx hb d_MD_ranked_14 (by decide) (fun hc => ?_) (fun hc => ?_)
    · replace hm := if_t hm hc
      refine lv_iconst (v := (0 : Int32)) hx hb d_MD_ranked_25 (by decide) ?_
      obtain rfl := Option.some.inj hm
      rw [hQ]
      exact kri hx hb hr hlocks hAe hP hK hD hS d_MD_ranked_26
    · replace hm := if_f hm hc
      refine lv_aload_n hx hb d_MD_ranked_17 rfl (lv_at hl 0 rfl) ?_
      refine lv_iload_n hx hb d_MD_ranked_18 rfl (lv_at hl 1 rfl) ?_
      obtain ⟨r19, hcl, hm⟩ := bn1_s hm
      refine kci (wc := wd_MD g h0 q0 z0_11) (wr := ([] : va_W)) (w1 := wd_MD g h0 q0 z0_11) hP hD hS hA [0, 1, 2, 3, 4, 5, 6, 7, 8, 9, 10, 11, 12, 13, 14, 15, 16, 17, 18, 19, 20, 21, 22, 23, 24, 25, 26, 27, 28, 29, 30, 31] [] rfl rfl (by decide) (by decide) (va_runV (As := [.int a1]) (rest := []) ⟨hx, hb, hml, hown, hts⟩ (c_MD_rankedOne hG hGn l dC dI g F H.size h0 q0 z0_11 a1 hcl) (cwV 1 hts (gdV k6_81 k6_83 kp_46 k1_10 k6_84) rfl rfl rfl (by decide +kernel) ⟨Nat.le_of_ble_eq_true rfl, Nat.le_of_ble_eq_true rfl⟩) (kpV hG hP hK hD hS hA hGA [0, 1, 2, 3, 4, 5, 6, 7, 8, 9, 10, 11, 12, 13, 14, 15, 16, 17, 18, 19, 20, 21, 22, 23, 24, 25, 26, 27, 28, 29, 30, 31] (by decide) rfl (ci := 10) (q0 := 0) rfl rfl rfl) rfl rfl hl.1 rfl (lv_room (Nat.le_of_ble_eq_true rfl)) d_MD_ranked_19 ⟨Nat.le_of_ble_eq_true rfl, Nat.le_of_ble_eq_true rfl⟩) (fun H locs hP hD hS => ?_)
      have hP : va_P (dC, dI) vwCl (wd_MD g h0 q0 z0_11) H := hP
      have hD : va_D A (wd_MD g h0 q0 z0_11) := hD
      refine lv_goto (tgt := 26) hx hb d_MD_ranked_22 (by decide) ?_
      obtain rfl := Option.some.inj hm
      rw [hQ]
      exact kri hx hb hr hlocks hAe hP hK hD hS d_MD_ranked_26
abbrev b_MD_time : ByteArray := prog_12_method_60_code
abbrev y_MD_time : MethodName := ⟨"AlarmMatrixModel", "time", "()I"⟩
theorem d_MD_time_0 : decode b_MD_time 0 = .ok (.aload_n 0, 1) := by decide +kernel
theorem d_MD_time_1 : decode b_MD_time 1 = .ok (.iconst 0, 1) := by decide +kernel
theorem d_MD_time_2 : decode b_MD_time 2 = .ok (.putfield 108, 3) := by decide +kernel
theorem d_MD_time_5 : decode b_MD_time 5 = .ok (.aload_n 0, 1) := by decide +kernel
theorem d_MD_time_6 : decode b_MD_time 6 = .ok (.getfield 236, 3) := by decide +kernel
theorem d_MD_time_9 : decode b_MD_time 9 = .ok (.ireturn, 1) := by decide +kernel
def m_MD_time (F : Nat) (x0 : St) : Option (Int32 × St) :=
  (lz (sc x0 0 (0 : Int32)) (fun e0_2 => (some ((e0_2 2 0), e0_2))))
abbrev rm_MD_time : Room := { frames := 0, cells := 0, slots := 0, locals := 0 }
set_option maxHeartbeats 4000000 in
set_option maxRecDepth 100000 in
theorem c_MD_time {G : (Nat → Prop) → State → Prop} (hG : gok G) (hGn : gN G) (l : Launch) (dC : Nat → ClassId) (dI : Nat → Nat → Nat) (g : Nat → ClassId) (F : Nat) (sz : Nat) (h0 : Nat) (q0 : Nat → Nat) (x0 : St) {o : Int32 × St} (hm : m_MD_time F x0 = some o) : Met l y_MD_time (.code y_MD_time b_MD_time 1 (some .int) :: gw) rm_MD_time (kq (dC, dI) vwCl (tyv g) G [.ref h0] sz (wd_MD g h0 q0 x0)) (kqi (dC, dI) vwCl (tyv g) (wd_MD g h0 q0 x0) o.1 (wd_MD g h0 q0 (o.2)) sz) 0 0 (va_A (wd_MD g h0 q0 x0) sz) := by
  unfold m_MD_time at hm
  refine km (Qc := fun sz => kqi (dC, dI) vwCl (tyv g) (wd_MD g h0 q0 x0) o.1 (wd_MD g h0 q0 (o.2)) sz) (cc := b_MD_time) (maxL := 1) (ret := some .int) (by decide) rfl (Nat.le_of_ble_eq_true rfl) ?_
  intro p e s m args below meth c Q hQ hx hb hr hts hown hlocks hml hnm H locs A hAe hA hP hK hD hS hGA ls hl
  have hl : lv_has ls 1 [(0, .ref h0)] := hl
  have hts : ∀ w ∈ gw, w.before args s = true := fun w h => hts w (List.mem_cons_of_mem _ h)
  have hown : s.vm.findClass "AlarmMatrixModel" = some m.cls := hown
  refine lv_aload_n hx hb d_MD_time_0 rfl (lv_at hl 0 rfl) ?_
  refine lv_iconst (v := (0 : Int32)) hx hb d_MD_time_1 (by decide) ?_
  obtain ⟨e0_2, he, hm⟩ := lz_s hm
  refine va_put (D := (dC, dI)) (ci := 10) (v := .int (0 : Int32)) (ty := .int) (C := "AlarmMatrixModel") (T := T_MD) (N := 42) hx hb hts i_MD t_MD o_MD n_MD hown hK hP hD hS 0 rfl rfl 0 (by decide) (hts _ k5_20) (fun _ h9 => h9) rfl (by decide +kernel) rfl rfl (Nat.le_of_ble_eq_true rfl) d_MD_time_2 (fun H locs hP hD hS => ?_)
  have hP : va_P (dC, dI) vwCl (wd_MD g h0 q0 e0_2) H := by rw [he]; exact hP
  have hD : va_D A (wd_MD g h0 q0 e0_2) := by rw [he]; exact hD
  refine lv_aload_n hx hb d_MD_time_5 rfl (lv_at hl 0 rfl) ?_
  refine va_get (D := (dC, dI)) (ci := 10) (v := .int (e0_2 2 0)) (C := "AlarmMatrixModel") (T := T_MD) (N := 42) hx hb hts i_MD hown hK hP 0 rfl rfl 2 (by decide) (hts _ k5_22) (fun _ h9 => h9) rfl d_MD_time_6 ?_
  obtain rfl := Option.some.inj hm
  rw [hQ]
  exact kri hx hb hr hlocks hAe hP hK hD hS d_MD_time_9

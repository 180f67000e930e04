set_option maxHeartbeats 40000000 in
set_option maxRecDepth 100000 in
theorem law_unit {p : Program} {l : Launch} {e : Env} {s : State} {m : MethodId} {below : List Frame} {meth : Method} {c : Code} {dC : Nat → ClassId} {dI : Nat → Nat → Nat} {g : Nat → ClassId} {G : (Nat → Prop) → State → Prop} (hG : gok G) (hGn : gN G) {adK adV : Nat → Nat} (hGs : gSt adK adV G) (hGt : gTh G) (hGc : gNC G) (hst : l.stackTraces = false) {b L : Nat} {xs : Nat → Int32} (C0 : lw_At p s m meth c b L xs) (hGA : G (fun q => s.heap.size ≤ q) s) (hK : va_K (dC, dI) vwCl (tyv g) s) (F : Nat) {Rl : (Nat → St) → Nat → St → Prop} (hsim : sim_unit F Rl) {n h hm ho : Nat} {f : Nat → Int64} {u : Nat → Nat → Nat} {x : Nat → St} {qm : Nat → Nat} {y : St} {H : Heap} {locs : List Loc} {ls : Array Slot} {cells slots : Nat} {i : Int32} (hi1 : vp_in (i + 1) L) (hi2 : vp_in (i + 2) L) (hi3 : vp_in (i + 3) L) (hi4 : vp_in (i + 4) L) (hi5 : vp_in (i + 5) L) (hR : Rl x n y) (hP : va_P (dC, dI) vwCl ((wd_O g ho f ++ wd_C g h u x n) ++ wd_MD g hm qm y) H) (hD : va_D (fun q : Nat => s.heap.size ≤ q) ((wd_O g ho f ++ wd_C g h u x n) ++ wd_MD g hm qm y)) (hS : va_S (fun q : Nat => s.heap.size ≤ q) s.heap H locs) (hl : lv_has ls 7 [(0, .ref b), (1, .ref h), (2, .ref hm), (3, .ref ho), (4, .int i)]) (hc : cells + 2 ≤ 601024) (hs : slots + 7 ≤ 7293000)
    (kk : ∀ (f : Nat → Int64) (u : Nat → Nat → Nat) (x : Nat → St) (y : St) (H : Heap) (locs : List Loc) (ls : Array Slot), Rl x n y → va_P (dC, dI) vwCl ((wd_O g ho f ++ wd_C g h u x n) ++ wd_MD g hm qm y) H → va_D (fun q : Nat => s.heap.size ≤ q) ((wd_O g ho f ++ wd_C g h u x n) ++ wd_MD g hm qm y) → va_S (fun q : Nat => s.heap.size ≤ q) s.heap H locs → lv_has ls 7 [(0, .ref b), (1, .ref h), (2, .ref hm), (3, .ref ho), (4, .int i)] → W p l e room_1 s m #[Value.ref b] below meth c H locs (cells + 2) (slots + 7) (lw_Z below #[Value.ref b] s) (F0 m 1349 ls [])) :
    W p l e room_1 s m #[Value.ref b] below meth c H locs cells slots (lw_Z below #[Value.ref b] s) (F0 m 144 ls []) := by
  obtain ⟨hx, hb, hr, hml, hown, hts, hX, hbl, hlocks, hgv⟩ := C0
  have hA : ∀ q : Nat, s.heap.size ≤ q → (fun q : Nat => s.heap.size ≤ q) q := fun _ h => h
  have hbA : ¬ (fun q : Nat => s.heap.size ≤ q) b := Nat.not_le.mpr hbl
  have hts : ∀ w ∈ gw, w.before #[Value.ref b] s = true := fun w h => hts w (List.mem_filter.mp h).1
  have hml : c.maxLocals = 7 := hml
  have hown : s.vm.findClass "AlarmMatrixLaw" = some m.cls := hown
  obtain ⟨o1, o2, hm1, hm2, hk1, hcode, heq, hR2⟩ := hsim x n y (xs (i + 1).toNatClampNeg) hR
  refine lv_aload_n hx hb d_law_144 rfl (lv_at hl 1 rfl) ?_
  refine lv_aload_n hx hb d_law_145 rfl (lv_at hl 0 rfl) ?_
  refine lv_iload hx hb d_law_146 (lv_at hl 4 rfl) ?_
  refine lv_iconst (v := (1 : Int32)) hx hb d_law_148 (by decide) ?_
  refine lv_iadd hx hb d_law_149 ?_
  refine va_sld hx hb hX hbl hbA hS hi1 d_law_150 ?_
  refine lv_aload_n hx hb d_law_151 rfl (lv_at hl 3 rfl) ?_
  refine kciP (wc := wd_O g ho f ++ wd_C g h u x n) (wr := wd_MD g hm qm y) (w1 := wd_O g ho (ot o1.1 o1.2.1 f) ++ wd_C g h u (up x 1 (o1.2.2)) n) hP hD hS hA (krunSW (As := [.ref h, .int (xs (i + 1).toNatClampNeg), .ref ho]) (rest := []) ⟨hx, hb, hml, hown, hts⟩ (c_LW_unit hG hGn hGs hGt hGc l hst dC dI g F H.size h u x n ho f (xs (i + 1).toNatClampNeg) hm1 hk1) (kcwS 3 hts (gdSW k3_92 k3_93 k1_0 k3_94) rfl rfl rfl (by decide +kernel) ⟨Nat.le_of_ble_eq_true rfl, Nat.le_of_ble_eq_true rfl⟩) (kpSP hG hP hK hD hS hA hGA) rfl rfl hl.1 rfl (lv_room (Nat.le_of_ble_eq_true rfl)) d_law_152 ⟨(by show cells + 1 ≤ 601024; omega), (by show slots + 6 ≤ 7293000; omega)⟩) (fun H locs hP hD hS => ?_)
  refine lv_istore (lv' := [(5, .int (nI o1.1)), (0, .ref b), (1, .ref h), (2, .ref hm), (3, .ref ho), (4, .int i)]) hx hb d_law_155 hl (by decide) rfl (fun ls hl => ?_)
  refine lv_aload_n hx hb d_law_157 rfl (lv_at hl 3 rfl) ?_
  refine lv_aload_n hx hb d_law_158 rfl (lv_at hl 1 rfl) ?_
  refine lv_iload hx hb d_law_159 (lv_at hl 5 rfl) ?_
  refine lv_iconst (v := (1 : Int32)) hx hb d_law_161 (by decide) ?_
  refine lv_iadd hx hb d_law_162 ?_
  refine va_sld hx hb hX hbl hbA hS hi1 d_law_163 ?_
  have hP := hP.perm (List.perm_append_comm (l₁ := wd_O g ho (ot o1.1 o1.2.1 f) ++ wd_C g h u (up x 1 (o1.2.2)) n) (l₂ := wd_MD g hm qm y))
  have hD := hD.perm (List.perm_append_comm (l₁ := wd_O g ho (ot o1.1 o1.2.1 f) ++ wd_C g h u (up x 1 (o1.2.2)) n) (l₂ := wd_MD g hm qm y))
  refine kciP (wc := wd_MD g hm qm y) (wr := wd_O g ho (ot o1.1 o1.2.1 f) ++ wd_C g h u (up x 1 (o1.2.2)) n) (w1 := wd_MD g hm qm o2.2) hP hD hS hA (va_runV (As := [.int (xs (i + 1).toNatClampNeg)]) (rest := []) ⟨hx, hb, hml, hown, hts⟩ (c_MD_unit hG hGn l dC dI g F H.size hm qm y (xs (i + 1).toNatClampNeg) hm2) (cwV 1 hts (gdV k5_151 k5_152 k5_153 k1_10 k5_154) rfl rfl rfl (by decide +kernel) ⟨Nat.le_of_ble_eq_true rfl, Nat.le_of_ble_eq_true rfl⟩) (kpVP hG hP hK hD hS hA hGA (ci := 10) (q0 := 0) rfl rfl rfl) rfl rfl hl.1 rfl (lv_room (Nat.le_of_ble_eq_true rfl)) d_law_164 ⟨(by show _ + 0 ≤ 601024; omega), (by show _ + 0 ≤ 7293000; omega)⟩) (fun H locs hP hD hS => ?_)
  refine lv_istore (lv' := [(6, .int o2.1), (5, .int (nI o1.1)), (0, .ref b), (1, .ref h), (2, .ref hm), (3, .ref ho), (4, .int i)]) hx hb d_law_167 hl (by decide) rfl (fun ls hl => ?_)
  refine lv_aload_n hx hb d_law_169 rfl (lv_at hl 4 rfl) ?_
  refine kciP (wc := wd_MD g hm qm o2.2) (wr := wd_O g ho (ot o1.1 o1.2.1 f) ++ wd_C g h u (up x 1 (o1.2.2)) n) (w1 := wd_MD g hm qm o2.2) hP hD hS hA (va_runV (As := []) (rest := []) ⟨hx, hb, hml, hown, hts⟩ (c_MD_thrown hG hGn l dC dI g F H.size hm qm o2.2 rfl) (cwV 0 hts (gdV k5_147 k5_148 k5_149 k1_10 k5_150) rfl rfl rfl (by decide +kernel) ⟨Nat.le_of_ble_eq_true rfl, Nat.le_of_ble_eq_true rfl⟩) (kpVP hG hP hK hD hS hA hGA (ci := 10) (q0 := 0) rfl rfl rfl) rfl rfl hl.1 rfl (lv_room (Nat.le_of_ble_eq_true rfl)) d_law_170 ⟨(by show _ + 0 ≤ 601024; omega), (by show _ + 0 ≤ 7293000; omega)⟩) (fun H locs hP hD hS => ?_)
  have hP := hP.perm (List.perm_append_comm (l₁ := wd_MD g hm qm o2.2) (l₂ := wd_O g ho (ot o1.1 o1.2.1 f) ++ wd_C g h u (up x 1 (o1.2.2)) n))
  have hD := hD.perm (List.perm_append_comm (l₁ := wd_MD g hm qm o2.2) (l₂ := wd_O g ho (ot o1.1 o1.2.1 f) ++ wd_C g h u (up x 1 (o1.2.2)) n))
  refine lv_iload hx hb d_law_173 (lv_at hl 1 rfl) ?_
  refine lv_icmp_eq (tgt := 180) hx hb d_law_175 (by decide) (fun _ => ?_) (fun h9 => absurd hcode h9)
  refine lv_iload hx hb d_law_180 (lv_at hl 1 rfl) ?_
  refine lv_if_ne (tgt := 197) hx hb d_law_182 (by decide) (fun _ => ?_) (fun h9 => ?_)
  · refine lv_goto (tgt := 1349) hx hb d_law_197 (by decide) ?_
    exact W.widen (by omega) (by omega) (kk _ _ _ _ H locs ls hR2 hP hD hS (lv_sub hl [2, 3, 4, 5, 6] rfl))
  · have h0 : o1.1 = 0 := by rcases hk1 with hk1 | hk1 | hk1 <;> (rw [hk1] at h9 ⊢) <;> revert h9 <;> decide
    have h8 := heq h0
    refine lv_aload_n hx hb d_law_185 rfl (lv_at hl 5 rfl) ?_
    refine lv_iconst (v := (0 : Int32)) hx hb d_law_186 (by decide) ?_
    refine va_lald hx hb hK hP 0 4 rfl rfl (by unfold vp_in; decide) d_law_187 ?_
    refine lv_iload hx hb d_law_188 (lv_at hl 0 rfl) ?_
    have e9 : (ot o1.1 o1.2.1 f) (0 : Int32).toNatClampNeg = (o2.1).toInt64 := by rw [h0, h8]; unfold ot; simp [vp_updL]
    refine lv_i2l (v := (o2.1).toInt64) hx hb d_law_190 rfl ?_
    rw [e9]
    refine W.lcmp hx hb d_law_191 ?_
    refine lv_if_eq (tgt := 197) hx hb d_law_192 (by decide) (fun _ => ?_) (fun h7 => absurd (by unfold lg_cmp; simp) h7)
    refine lv_goto (tgt := 1349) hx hb d_law_197 (by decide) ?_
    exact W.widen (by omega) (by omega) (kk _ _ _ _ H locs ls hR2 hP hD hS (lv_sub hl [2, 3, 4, 5, 6] rfl))
set_option maxHeartbeats 40000000 in
set_option maxRecDepth 100000 in
theorem law_say {p : Program} {l : Launch} {e : Env} {s : State} {m : MethodId} {below : List Frame} {meth : Method} {c : Code} {dC : Nat → ClassId} {dI : Nat → Nat → Nat} {g : Nat → ClassId} {G : (Nat → Prop) → State → Prop} (hG : gok G) (hGn : gN G) {adK adV : Nat → Nat} (hGs : gSt adK adV G) (hGt : gTh G) (hGc : gNC G) (hst : l.stackTraces = false) {b L : Nat} {xs : Nat → Int32} (C0 : lw_At p s m meth c b L xs) (hGA : G (fun q => s.heap.size ≤ q) s) (hK : va_K (dC, dI) vwCl (tyv g) s) (F : Nat) {Rl : (Nat → St) → Nat → St → Prop} (hsim : sim_say F Rl) {n h hm ho : Nat} {f : Nat → Int64} {u : Nat → Nat → Nat} {x : Nat → St} {qm : Nat → Nat} {y : St} {H : Heap} {locs : List Loc} {ls : Array Slot} {cells slots : Nat} {i : Int32} (hi1 : vp_in (i + 1) L) (hi2 : vp_in (i + 2) L) (hi3 : vp_in (i + 3) L) (hi4 : vp_in (i + 4) L) (hi5 : vp_in (i + 5) L) (hR : Rl x n y) (hP : va_P (dC, dI) vwCl ((wd_O g ho f ++ wd_C g h u x n) ++ wd_MD g hm qm y) H) (hD : va_D (fun q : Nat => s.heap.size ≤ q) ((wd_O g ho f ++ wd_C g h u x n) ++ wd_MD g hm qm y)) (hS : va_S (fun q : Nat => s.heap.size ≤ q) s.heap H locs) (hl : lv_has ls 7 [(0, .ref b), (1, .ref h), (2, .ref hm), (3, .ref ho), (4, .int i)]) (hc : cells + 2 ≤ 601024) (hs : slots + 7 ≤ 7293000)
    (kk : ∀ (f : Nat → Int64) (u : Nat → Nat → Nat) (x : Nat → St) (y : St) (H : Heap) (locs : List Loc) (ls : Array Slot), Rl x n y → va_P (dC, dI) vwCl ((wd_O g ho f ++ wd_C g h u x n) ++ wd_MD g hm qm y) H → va_D (fun q : Nat => s.heap.size ≤ q) ((wd_O g ho f ++ wd_C g h u x n) ++ wd_MD g hm qm y) → va_S (fun q : Nat => s.heap.size ≤ q) s.heap H locs → lv_has ls 7 [(0, .ref b), (1, .ref h), (2, .ref hm), (3, .ref ho), (4, .int i)] → W p l e room_1 s m #[Value.ref b] below meth c H locs (cells + 2) (slots + 7) (lw_Z below #[Value.ref b] s) (F0 m 1349 ls [])) :
    W p l e room_1 s m #[Value.ref b] below meth c H locs cells slots (lw_Z below #[Value.ref b] s) (F0 m 200 ls []) := by
  obtain ⟨hx, hb, hr, hml, hown, hts, hX, hbl, hlocks, hgv⟩ := C0
  have hA : ∀ q : Nat, s.heap.size ≤ q → (fun q : Nat => s.heap.size ≤ q) q := fun _ h => h
  have hbA : ¬ (fun q : Nat => s.heap.size ≤ q) b := Nat.not_le.mpr hbl
  have hts : ∀ w ∈ gw, w.before #[Value.ref b] s = true := fun w h => hts w (List.mem_filter.mp h).1
  have hml : c.maxLocals = 7 := hml
  have hown : s.vm.findClass "AlarmMatrixLaw" = some m.cls := hown
  obtain ⟨o1, o2, hm1, hm2, hk1, hcode, heq, hR2⟩ := hsim x n y (xs (i + 1).toNatClampNeg) (xs (i + 2).toNatClampNeg) (xs (i + 3).toNatClampNeg) (xs (i + 4).toNatClampNeg) (xs (i + 5).toNatClampNeg) hR
  refine lv_aload_n hx hb d_law_200 rfl (lv_at hl 1 rfl) ?_
  refine lv_aload_n hx hb d_law_201 rfl (lv_at hl 0 rfl) ?_
  refine lv_iload hx hb d_law_202 (lv_at hl 4 rfl) ?_
  refine lv_iconst (v := (1 : Int32)) hx hb d_law_204 (by decide) ?_
  refine lv_iadd hx hb d_law_205 ?_
  refine va_sld hx hb hX hbl hbA hS hi1 d_law_206 ?_
  refine lv_aload_n hx hb d_law_207 rfl (lv_at hl 0 rfl) ?_
  refine lv_iload hx hb d_law_208 (lv_at hl 4 rfl) ?_
  refine lv_iconst (v := (2 : Int32)) hx hb d_law_210 (by decide) ?_
  refine lv_iadd hx hb d_law_211 ?_
  refine va_sld hx hb hX hbl hbA hS hi2 d_law_212 ?_
  refine lv_aload_n hx hb d_law_213 rfl (lv_at hl 0 rfl) ?_
  refine lv_iload hx hb d_law_214 (lv_at hl 4 rfl) ?_
  refine lv_iconst (v := (3 : Int32)) hx hb d_law_216 (by decide) ?_
  refine lv_iadd hx hb d_law_217 ?_
  refine va_sld hx hb hX hbl hbA hS hi3 d_law_218 ?_
  refine lv_aload_n hx hb d_law_219 rfl (lv_at hl 0 rfl) ?_
  refine lv_iload hx hb d_law_220 (lv_at hl 4 rfl) ?_
  refine lv_iconst (v := (4 : Int32)) hx hb d_law_222 (by decide) ?_
  refine lv_iadd hx hb d_law_223 ?_
  refine va_sld hx hb hX hbl hbA hS hi4 d_law_224 ?_
  refine lv_aload_n hx hb d_law_225 rfl (lv_at hl 0 rfl) ?_
  refine lv_iload hx hb d_law_226 (lv_at hl 4 rfl) ?_
  refine lv_iconst (v := (5 : Int32)) hx hb d_law_228 (by decide) ?_
  refine lv_iadd hx hb d_law_229 ?_
  refine va_sld hx hb hX hbl hbA hS hi5 d_law_230 ?_
  refine lv_aload_n hx hb d_law_231 rfl (lv_at hl 3 rfl) ?_
  refine kciP (wc := wd_O g ho f ++ wd_C g h u x n) (wr := wd_MD g hm qm y) (w1 := wd_O g ho (ot o1.1 o1.2.1 f) ++ wd_C g h u (up x 1 (o1.2.2)) n) hP hD hS hA (krunSW (As := [.ref h, .int (xs (i + 1).toNatClampNeg), .int (xs (i + 2).toNatClampNeg), .int (xs (i + 3).toNatClampNeg), .int (xs (i + 4).toNatClampNeg), .int (xs (i + 5).toNatClampNeg), .ref ho]) (rest := []) ⟨hx, hb, hml, hown, hts⟩ (c_LW_say hG hGn hGs hGt hGc l hst dC dI g F H.size h u x n ho f (xs (i + 1).toNatClampNeg) (xs (i + 2).toNatClampNeg) (xs (i + 3).toNatClampNeg) (xs (i + 4).toNatClampNeg) (xs (i + 5).toNatClampNeg) hm1 hk1) (kcwS 7 hts (gdSW k3_189 k3_190 k1_0 k3_191) rfl rfl rfl (by decide +kernel) ⟨Nat.le_of_ble_eq_true rfl, Nat.le_of_ble_eq_true rfl⟩) (kpSP hG hP hK hD hS hA hGA) rfl rfl hl.1 rfl (lv_room (Nat.le_of_ble_eq_true rfl)) d_law_232 ⟨(by show cells + 1 ≤ 601024; omega), (by show slots + 6 ≤ 7293000; omega)⟩) (fun H locs hP hD hS => ?_)
  refine lv_istore (lv' := [(5, .int (nI o1.1)), (0, .ref b), (1, .ref h), (2, .ref hm), (3, .ref ho), (4, .int i)]) hx hb d_law_235 hl (by decide) rfl (fun ls hl => ?_)
  refine lv_aload_n hx hb d_law_237 rfl (lv_at hl 3 rfl) ?_
  refine lv_aload_n hx hb d_law_238 rfl (lv_at hl 1 rfl) ?_
  refine lv_iload hx hb d_law_239 (lv_at hl 5 rfl) ?_
  refine lv_iconst (v := (1 : Int32)) hx hb d_law_241 (by decide) ?_
  refine lv_iadd hx hb d_law_242 ?_
  refine va_sld hx hb hX hbl hbA hS hi1 d_law_243 ?_
  refine lv_aload_n hx hb d_law_244 rfl (lv_at hl 1 rfl) ?_
  refine lv_iload hx hb d_law_245 (lv_at hl 5 rfl) ?_
  refine lv_iconst (v := (2 : Int32)) hx hb d_law_247 (by decide) ?_
  refine lv_iadd hx hb d_law_248 ?_
  refine va_sld hx hb hX hbl hbA hS hi2 d_law_249 ?_
  refine lv_aload_n hx hb d_law_250 rfl (lv_at hl 1 rfl) ?_
  refine lv_iload hx hb d_law_251 (lv_at hl 5 rfl) ?_
  refine lv_iconst (v := (3 : Int32)) hx hb d_law_253 (by decide) ?_
  refine lv_iadd hx hb d_law_254 ?_
  refine va_sld hx hb hX hbl hbA hS hi3 d_law_255 ?_
  refine lv_aload_n hx hb d_law_256 rfl (lv_at hl 1 rfl) ?_
  refine lv_iload hx hb d_law_257 (lv_at hl 5 rfl) ?_
  refine lv_iconst (v := (4 : Int32)) hx hb d_law_259 (by decide) ?_
  refine lv_iadd hx hb d_law_260 ?_
  refine va_sld hx hb hX hbl hbA hS hi4 d_law_261 ?_
  refine lv_aload_n hx hb d_law_262 rfl (lv_at hl 1 rfl) ?_
  refine lv_iload hx hb d_law_263 (lv_at hl 5 rfl) ?_
  refine lv_iconst (v := (5 : Int32)) hx hb d_law_265 (by decide) ?_
  refine lv_iadd hx hb d_law_266 ?_
  refine va_sld hx hb hX hbl hbA hS hi5 d_law_267 ?_
  have hP := hP.perm (List.perm_append_comm (l₁ := wd_O g ho (ot o1.1 o1.2.1 f) ++ wd_C g h u (up x 1 (o1.2.2)) n) (l₂ := wd_MD g hm qm y))
  have hD := hD.perm (List.perm_append_comm (l₁ := wd_O g ho (ot o1.1 o1.2.1 f) ++ wd_C g h u (up x 1 (o1.2.2)) n) (l₂ := wd_MD g hm qm y))
  refine kciP (wc := wd_MD g hm qm y) (wr := wd_O g ho (ot o1.1 o1.2.1 f) ++ wd_C g h u (up x 1 (o1.2.2)) n) (w1 := wd_MD g hm qm o2.2) hP hD hS hA (va_runV (As := [.int (xs (i + 1).toNatClampNeg), .int (xs (i + 2).toNatClampNeg), .int (xs (i + 3).toNatClampNeg), .int (xs (i + 4).toNatClampNeg), .int (xs (i + 5).toNatClampNeg)]) (rest := []) ⟨hx, hb, hml, hown, hts⟩ (c_MD_say hG hGn l dC dI g F H.size hm qm y (xs (i + 1).toNatClampNeg) (xs (i + 2).toNatClampNeg) (xs (i + 3).toNatClampNeg) (xs (i + 4).toNatClampNeg) (xs (i + 5).toNatClampNeg) hm2) (cwV 5 hts (gdV k5_163 k5_164 k5_165 k1_10 k5_166) rfl rfl rfl (by decide +kernel) ⟨Nat.le_of_ble_eq_true rfl, Nat.le_of_ble_eq_true rfl⟩) (kpVP hG hP hK hD hS hA hGA (ci := 10) (q0 := 0) rfl rfl rfl) rfl rfl hl.1 rfl (lv_room (Nat.le_of_ble_eq_true rfl)) d_law_268 ⟨(by show _ + 0 ≤ 601024; omega), (by show _ + 0 ≤ 7293000; omega)⟩) (fun H locs hP hD hS => ?_)
  refine lv_istore (lv' := [(6, .int o2.1), (5, .int (nI o1.1)), (0, .ref b), (1, .ref h), (2, .ref hm), (3, .ref ho), (4, .int i)]) hx hb d_law_271 hl (by decide) rfl (fun ls hl => ?_)
  refine lv_aload_n hx hb d_law_273 rfl (lv_at hl 4 rfl) ?_
  refine kciP (wc := wd_MD g hm qm o2.2) (wr := wd_O g ho (ot o1.1 o1.2.1 f) ++ wd_C g h u (up x 1 (o1.2.2)) n) (w1 := wd_MD g hm qm o2.2) hP hD hS hA (va_runV (As := []) (rest := []) ⟨hx, hb, hml, hown, hts⟩ (c_MD_thrown hG hGn l dC dI g F H.size hm qm o2.2 rfl) (cwV 0 hts (gdV k5_147 k5_148 k5_149 k1_10 k5_150) rfl rfl rfl (by decide +kernel) ⟨Nat.le_of_ble_eq_true rfl, Nat.le_of_ble_eq_true rfl⟩) (kpVP hG hP hK hD hS hA hGA (ci := 10) (q0 := 0) rfl rfl rfl) rfl rfl hl.1 rfl (lv_room (Nat.le_of_ble_eq_true rfl)) d_law_274 ⟨(by show _ + 0 ≤ 601024; omega), (by show _ + 0 ≤ 7293000; omega)⟩) (fun H locs hP hD hS => ?_)
  have hP := hP.perm (List.perm_append_comm (l₁ := wd_MD g hm qm o2.2) (l₂ := wd_O g ho (ot o1.1 o1.2.1 f) ++ wd_C g h u (up x 1 (o1.2.2)) n))
  have hD := hD.perm (List.perm_append_comm (l₁ := wd_MD g hm qm o2.2) (l₂ := wd_O g ho (ot o1.1 o1.2.1 f) ++ wd_C g h u (up x 1 (o1.2.2)) n))
  refine lv_iload hx hb d_law_277 (lv_at hl 1 rfl) ?_
  refine lv_icmp_eq (tgt := 284) hx hb d_law_279 (by decide) (fun _ => ?_) (fun h9 => absurd hcode h9)
  refine lv_iload hx hb d_law_284 (lv_at hl 1 rfl) ?_
  refine lv_if_ne (tgt := 301) hx hb d_law_286 (by decide) (fun _ => ?_) (fun h9 => ?_)
  · refine lv_goto (tgt := 1349) hx hb d_law_301 (by decide) ?_
    exact W.widen (by omega) (by omega) (kk _ _ _ _ H locs ls hR2 hP hD hS (lv_sub hl [2, 3, 4, 5, 6] rfl))
  · have h0 : o1.1 = 0 := by rcases hk1 with hk1 | hk1 | hk1 <;> (rw [hk1] at h9 ⊢) <;> revert h9 <;> decide
    have h8 := heq h0
    refine lv_aload_n hx hb d_law_289 rfl (lv_at hl 5 rfl) ?_
    refine lv_iconst (v := (0 : Int32)) hx hb d_law_290 (by decide) ?_
    refine va_lald hx hb hK hP 0 4 rfl rfl (by unfold vp_in; decide) d_law_291 ?_
    refine lv_iload hx hb d_law_292 (lv_at hl 0 rfl) ?_
    have e9 : (ot o1.1 o1.2.1 f) (0 : Int32).toNatClampNeg = (o2.1).toInt64 := by rw [h0, h8]; unfold ot; simp [vp_updL]
    refine lv_i2l (v := (o2.1).toInt64) hx hb d_law_294 rfl ?_
    rw [e9]
    refine W.lcmp hx hb d_law_295 ?_
    refine lv_if_eq (tgt := 301) hx hb d_law_296 (by decide) (fun _ => ?_) (fun h7 => absurd (by unfold lg_cmp; simp) h7)
    refine lv_goto (tgt := 1349) hx hb d_law_301 (by decide) ?_
    exact W.widen (by omega) (by omega) (kk _ _ _ _ H locs ls hR2 hP hD hS (lv_sub hl [2, 3, 4, 5, 6] rfl))
set_option maxHeartbeats 40000000 in
set_option maxRecDepth 100000 in
theorem law_cutText {p : Program} {l : Launch} {e : Env} {s : State} {m : MethodId} {below : List Frame} {meth : Method} {c : Code} {dC : Nat → ClassId} {dI : Nat → Nat → Nat} {g : Nat → ClassId} {G : (Nat → Prop) → State → Prop} (hG : gok G) (hGn : gN G) {adK adV : Nat → Nat} (hGs : gSt adK adV G) (hGt : gTh G) (hGc : gNC G) (hst : l.stackTraces = false) {b L : Nat} {xs : Nat → Int32} (C0 : lw_At p s m meth c b L xs) (hGA : G (fun q => s.heap.size ≤ q) s) (hK : va_K (dC, dI) vwCl (tyv g) s) (F : Nat) {Rl : (Nat → St) → Nat → St → Prop} (hsim : sim_cutText F Rl) {n h hm ho : Nat} {f : Nat → Int64} {u : Nat → Nat → Nat} {x : Nat → St} {qm : Nat → Nat} {y : St} {H : Heap} {locs : List Loc} {ls : Array Slot} {cells slots : Nat} {i : Int32} (hi1 : vp_in (i + 1) L) (hi2 : vp_in (i + 2) L) (hi3 : vp_in (i + 3) L) (hi4 : vp_in (i + 4) L) (hi5 : vp_in (i + 5) L) (hR : Rl x n y) (hP : va_P (dC, dI) vwCl ((wd_O g ho f ++ wd_C g h u x n) ++ wd_MD g hm qm y) H) (hD : va_D (fun q : Nat => s.heap.size ≤ q) ((wd_O g ho f ++ wd_C g h u x n) ++ wd_MD g hm qm y)) (hS : va_S (fun q : Nat => s.heap.size ≤ q) s.heap H locs) (hl : lv_has ls 7 [(0, .ref b), (1, .ref h), (2, .ref hm), (3, .ref ho), (4, .int i)]) (hc : cells + 2 ≤ 601024) (hs : slots + 7 ≤ 7293000)
    (kk : ∀ (f : Nat → Int64) (u : Nat → Nat → Nat) (x : Nat → St) (y : St) (H : Heap) (locs : List Loc) (ls : Array Slot), Rl x n y → va_P (dC, dI) vwCl ((wd_O g ho f ++ wd_C g h u x n) ++ wd_MD g hm qm y) H → va_D (fun q : Nat => s.heap.size ≤ q) ((wd_O g ho f ++ wd_C g h u x n) ++ wd_MD g hm qm y) → va_S (fun q : Nat => s.heap.size ≤ q) s.heap H locs → lv_has ls 7 [(0, .ref b), (1, .ref h), (2, .ref hm), (3, .ref ho), (4, .int i)] → W p l e room_1 s m #[Value.ref b] below meth c H locs (cells + 2) (slots + 7) (lw_Z below #[Value.ref b] s) (F0 m 1349 ls [])) :
    W p l e room_1 s m #[Value.ref b] below meth c H locs cells slots (lw_Z below #[Value.ref b] s) (F0 m 304 ls []) := by
  obtain ⟨hx, hb, hr, hml, hown, hts, hX, hbl, hlocks, hgv⟩ := C0
  have hA : ∀ q : Nat, s.heap.size ≤ q → (fun q : Nat => s.heap.size ≤ q) q := fun _ h => h
  have hbA : ¬ (fun q : Nat => s.heap.size ≤ q) b := Nat.not_le.mpr hbl
  have hts : ∀ w ∈ gw, w.before #[Value.ref b] s = true := fun w h => hts w (List.mem_filter.mp h).1
  have hml : c.maxLocals = 7 := hml
  have hown : s.vm.findClass "AlarmMatrixLaw" = some m.cls := hown
  obtain ⟨o1, o2, hm1, hm2, hk1, hcode, heq, hR2⟩ := hsim x n y (xs (i + 1).toNatClampNeg) hR
  refine lv_aload_n hx hb d_law_304 rfl (lv_at hl 1 rfl) ?_
  refine lv_aload_n hx hb d_law_305 rfl (lv_at hl 0 rfl) ?_
  refine lv_iload hx hb d_law_306 (lv_at hl 4 rfl) ?_
  refine lv_iconst (v := (1 : Int32)) hx hb d_law_308 (by decide) ?_
  refine lv_iadd hx hb d_law_309 ?_
  refine va_sld hx hb hX hbl hbA hS hi1 d_law_310 ?_
  refine lv_aload_n hx hb d_law_311 rfl (lv_at hl 3 rfl) ?_
  refine kciP (wc := wd_O g ho f ++ wd_C g h u x n) (wr := wd_MD g hm qm y) (w1 := wd_O g ho (ot o1.1 o1.2.1 f) ++ wd_C g h u (up x 1 (o1.2.2)) n) hP hD hS hA (krunSW (As := [.ref h, .int (xs (i + 1).toNatClampNeg), .ref ho]) (rest := []) ⟨hx, hb, hml, hown, hts⟩ (c_LW_cutText hG hGn hGs hGt hGc l hst dC dI g F H.size h u x n ho f (xs (i + 1).toNatClampNeg) hm1 hk1) (kcwS 3 hts (gdSW k4_1 k4_2 k1_0 k4_3) rfl rfl rfl (by decide +kernel) ⟨Nat.le_of_ble_eq_true rfl, Nat.le_of_ble_eq_true rfl⟩) (kpSP hG hP hK hD hS hA hGA) rfl rfl hl.1 rfl (lv_room (Nat.le_of_ble_eq_true rfl)) d_law_312 ⟨(by show cells + 1 ≤ 601024; omega), (by show slots + 6 ≤ 7293000; omega)⟩) (fun H locs hP hD hS => ?_)
  refine lv_istore (lv' := [(5, .int (nI o1.1)), (0, .ref b), (1, .ref h), (2, .ref hm), (3, .ref ho), (4, .int i)]) hx hb d_law_315 hl (by decide) rfl (fun ls hl => ?_)
  refine lv_aload_n hx hb d_law_317 rfl (lv_at hl 3 rfl) ?_
  refine lv_aload_n hx hb d_law_318 rfl (lv_at hl 1 rfl) ?_
  refine lv_iload hx hb d_law_319 (lv_at hl 5 rfl) ?_
  refine lv_iconst (v := (1 : Int32)) hx hb d_law_321 (by decide) ?_
  refine lv_iadd hx hb d_law_322 ?_
  refine va_sld hx hb hX hbl hbA hS hi1 d_law_323 ?_
  have hP := hP.perm (List.perm_append_comm (l₁ := wd_O g ho (ot o1.1 o1.2.1 f) ++ wd_C g h u (up x 1 (o1.2.2)) n) (l₂ := wd_MD g hm qm y))
  have hD := hD.perm (List.perm_append_comm (l₁ := wd_O g ho (ot o1.1 o1.2.1 f) ++ wd_C g h u (up x 1 (o1.2.2)) n) (l₂ := wd_MD g hm qm y))
  refine kciP (wc := wd_MD g hm qm y) (wr := wd_O g ho (ot o1.1 o1.2.1 f) ++ wd_C g h u (up x 1 (o1.2.2)) n) (w1 := wd_MD g hm qm o2.2) hP hD hS hA (va_runV (As := [.int (xs (i + 1).toNatClampNeg)]) (rest := []) ⟨hx, hb, hml, hown, hts⟩ (c_MD_cutText hG hGn l dC dI g F H.size hm qm y (xs (i + 1).toNatClampNeg) hm2) (cwV 1 hts (gdV k5_198 k5_199 k5_200 k1_10 k5_201) rfl rfl rfl (by decide +kernel) ⟨Nat.le_of_ble_eq_true rfl, Nat.le_of_ble_eq_true rfl⟩) (kpVP hG hP hK hD hS hA hGA (ci := 10) (q0 := 0) rfl rfl rfl) rfl rfl hl.1 rfl (lv_room (Nat.le_of_ble_eq_true rfl)) d_law_324 ⟨(by show _ + 0 ≤ 601024; omega), (by show _ + 0 ≤ 7293000; omega)⟩) (fun H locs hP hD hS => ?_)
  refine lv_istore (lv' := [(6, .int o2.1), (5, .int (nI o1.1)), (0, .ref b), (1, .ref h), (2, .ref hm), (3, .ref ho), (4, .int i)]) hx hb d_law_327 hl (by decide) rfl (fun ls hl => ?_)
  refine lv_aload_n hx hb d_law_329 rfl (lv_at hl 4 rfl) ?_
  refine kciP (wc := wd_MD g hm qm o2.2) (wr := wd_O g ho (ot o1.1 o1.2.1 f) ++ wd_C g h u (up x 1 (o1.2.2)) n) (w1 := wd_MD g hm qm o2.2) hP hD hS hA (va_runV (As := []) (rest := []) ⟨hx, hb, hml, hown, hts⟩ (c_MD_thrown hG hGn l dC dI g F H.size hm qm o2.2 rfl) (cwV 0 hts (gdV k5_147 k5_148 k5_149 k1_10 k5_150) rfl rfl rfl (by decide +kernel) ⟨Nat.le_of_ble_eq_true rfl, Nat.le_of_ble_eq_true rfl⟩) (kpVP hG hP hK hD hS hA hGA (ci := 10) (q0 := 0) rfl rfl rfl) rfl rfl hl.1 rfl (lv_room (Nat.le_of_ble_eq_true rfl)) d_law_330 ⟨(by show _ + 0 ≤ 601024; omega), (by show _ + 0 ≤ 7293000; omega)⟩) (fun H locs hP hD hS => ?_)
  have hP := hP.perm (List.perm_append_comm (l₁ := wd_MD g hm qm o2.2) (l₂ := wd_O g ho (ot o1.1 o1.2.1 f) ++ wd_C g h u (up x 1 (o1.2.2)) n))
  have hD := hD.perm (List.perm_append_comm (l₁ := wd_MD g hm qm o2.2) (l₂ := wd_O g ho (ot o1.1 o1.2.1 f) ++ wd_C g h u (up x 1 (o1.2.2)) n))
  refine lv_iload hx hb d_law_333 (lv_at hl 1 rfl) ?_
  refine lv_icmp_eq (tgt := 340) hx hb d_law_335 (by decide) (fun _ => ?_) (fun h9 => absurd hcode h9)
  refine lv_iload hx hb d_law_340 (lv_at hl 1 rfl) ?_
  refine lv_if_ne (tgt := 357) hx hb d_law_342 (by decide) (fun _ => ?_) (fun h9 => ?_)
  · refine lv_goto (tgt := 1349) hx hb d_law_357 (by decide) ?_
    exact W.widen (by omega) (by omega) (kk _ _ _ _ H locs ls hR2 hP hD hS (lv_sub hl [2, 3, 4, 5, 6] rfl))
  · have h0 : o1.1 = 0 := by rcases hk1 with hk1 | hk1 <;> (rw [hk1] at h9 ⊢) <;> revert h9 <;> decide
    have h8 := heq h0
    refine lv_aload_n hx hb d_law_345 rfl (lv_at hl 5 rfl) ?_
    refine lv_iconst (v := (0 : Int32)) hx hb d_law_346 (by decide) ?_
    refine va_lald hx hb hK hP 0 4 rfl rfl (by unfold vp_in; decide) d_law_347 ?_
    refine lv_iload hx hb d_law_348 (lv_at hl 0 rfl) ?_
    have e9 : (ot o1.1 o1.2.1 f) (0 : Int32).toNatClampNeg = (o2.1).toInt64 := by rw [h0, h8]; unfold ot; simp [vp_updL]
    refine lv_i2l (v := (o2.1).toInt64) hx hb d_law_350 rfl ?_
    rw [e9]
    refine W.lcmp hx hb d_law_351 ?_
    refine lv_if_eq (tgt := 357) hx hb d_law_352 (by decide) (fun _ => ?_) (fun h7 => absurd (by unfold lg_cmp; simp) h7)
    refine lv_goto (tgt := 1349) hx hb d_law_357 (by decide) ?_
    exact W.widen (by omega) (by omega) (kk _ _ _ _ H locs ls hR2 hP hD hS (lv_sub hl [2, 3, 4, 5, 6] rfl))
set_option maxHeartbeats 40000000 in
set_option maxRecDepth 100000 in
theorem law_signal {p : Program} {l : Launch} {e : Env} {s : State} {m : MethodId} {below : List Frame} {meth : Method} {c : Code} {dC : Nat → ClassId} {dI : Nat → Nat → Nat} {g : Nat → ClassId} {G : (Nat → Prop) → State → Prop} (hG : gok G) (hGn : gN G) {adK adV : Nat → Nat} (hGs : gSt adK adV G) (hGt : gTh G) (hGc : gNC G) (hst : l.stackTraces = false) {b L : Nat} {xs : Nat → Int32} (C0 : lw_At p s m meth c b L xs) (hGA : G (fun q => s.heap.size ≤ q) s) (hK : va_K (dC, dI) vwCl (tyv g) s) (F : Nat) {Rl : (Nat → St) → Nat → St → Prop} (hsim : sim_signal F Rl) {n h hm ho : Nat} {f : Nat → Int64} {u : Nat → Nat → Nat} {x : Nat → St} {qm : Nat → Nat} {y : St} {H : Heap} {locs : List Loc} {ls : Array Slot} {cells slots : Nat} {i : Int32} (hi1 : vp_in (i + 1) L) (hi2 : vp_in (i + 2) L) (hi3 : vp_in (i + 3) L) (hi4 : vp_in (i + 4) L) (hi5 : vp_in (i + 5) L) (hR : Rl x n y) (hP : va_P (dC, dI) vwCl ((wd_O g ho f ++ wd_C g h u x n) ++ wd_MD g hm qm y) H) (hD : va_D (fun q : Nat => s.heap.size ≤ q) ((wd_O g ho f ++ wd_C g h u x n) ++ wd_MD g hm qm y)) (hS : va_S (fun q : Nat => s.heap.size ≤ q) s.heap H locs) (hl : lv_has ls 7 [(0, .ref b), (1, .ref h), (2, .ref hm), (3, .ref ho), (4, .int i)]) (hc : cells + 2 ≤ 601024) (hs : slots + 7 ≤ 7293000)
    (kk : ∀ (f : Nat → Int64) (u : Nat → Nat → Nat) (x : Nat → St) (y : St) (H : Heap) (locs : List Loc) (ls : Array Slot), Rl x n y → va_P (dC, dI) vwCl ((wd_O g ho f ++ wd_C g h u x n) ++ wd_MD g hm qm y) H → va_D (fun q : Nat => s.heap.size ≤ q) ((wd_O g ho f ++ wd_C g h u x n) ++ wd_MD g hm qm y) → va_S (fun q : Nat => s.heap.size ≤ q) s.heap H locs → lv_has ls 7 [(0, .ref b), (1, .ref h), (2, .ref hm), (3, .ref ho), (4, .int i)] → W p l e room_1 s m #[Value.ref b] below meth c H locs (cells + 2) (slots + 7) (lw_Z below #[Value.ref b] s) (F0 m 1349 ls [])) :
    W p l e room_1 s m #[Value.ref b] below meth c H locs cells slots (lw_Z below #[Value.ref b] s) (F0 m 373 ls []) := by
  obtain ⟨hx, hb, hr, hml, hown, hts, hX, hbl, hlocks, hgv⟩ := C0
  have hA : ∀ q : Nat, s.heap.size ≤ q → (fun q : Nat => s.heap.size ≤ q) q := fun _ h => h
  have hbA : ¬ (fun q : Nat => s.heap.size ≤ q) b := Nat.not_le.mpr hbl
  have hts : ∀ w ∈ gw, w.before #[Value.ref b] s = true := fun w h => hts w (List.mem_filter.mp h).1
  have hml : c.maxLocals = 7 := hml
  have hown : s.vm.findClass "AlarmMatrixLaw" = some m.cls := hown
  obtain ⟨o1, o2, hm1, hm2, hk1, hcode, heq, hR2⟩ := hsim x n y (xs (i + 1).toNatClampNeg) (xs (i + 2).toNatClampNeg) hR
  refine lv_aload_n hx hb d_law_373 rfl (lv_at hl 1 rfl) ?_
  refine lv_aload_n hx hb d_law_374 rfl (lv_at hl 0 rfl) ?_
  refine lv_iload hx hb d_law_375 (lv_at hl 4 rfl) ?_
  refine lv_iconst (v := (1 : Int32)) hx hb d_law_377 (by decide) ?_
  refine lv_iadd hx hb d_law_378 ?_
  refine va_sld hx hb hX hbl hbA hS hi1 d_law_379 ?_
  refine lv_aload_n hx hb d_law_380 rfl (lv_at hl 0 rfl) ?_
  refine lv_iload hx hb d_law_381 (lv_at hl 4 rfl) ?_
  refine lv_iconst (v := (2 : Int32)) hx hb d_law_383 (by decide) ?_
  refine lv_iadd hx hb d_law_384 ?_
  refine va_sld hx hb hX hbl hbA hS hi2 d_law_385 ?_
  refine lv_aload_n hx hb d_law_386 rfl (lv_at hl 3 rfl) ?_
  refine kciP (wc := wd_O g ho f ++ wd_C g h u x n) (wr := wd_MD g hm qm y) (w1 := wd_O g ho (ot o1.1 o1.2.1 f) ++ wd_C g h u (up x 2 (o1.2.2)) n) hP hD hS hA (krunSW (As := [.ref h, .int (xs (i + 1).toNatClampNeg), .int (xs (i + 2).toNatClampNeg), .ref ho]) (rest := []) ⟨hx, hb, hml, hown, hts⟩ (c_LW_signal hG hGn hGs hGt hGc l hst dC dI g F H.size h u x n ho f (xs (i + 1).toNatClampNeg) (xs (i + 2).toNatClampNeg) hm1 hk1) (kcwS 4 hts (gdSW k4_9 k4_10 k1_0 k4_11) rfl rfl rfl (by decide +kernel) ⟨Nat.le_of_ble_eq_true rfl, Nat.le_of_ble_eq_true rfl⟩) (kpSP hG hP hK hD hS hA hGA) rfl rfl hl.1 rfl (lv_room (Nat.le_of_ble_eq_true rfl)) d_law_387 ⟨(by show cells + 1 ≤ 601024; omega), (by show slots + 6 ≤ 7293000; omega)⟩) (fun H locs hP hD hS => ?_)
  refine lv_istore (lv' := [(5, .int (nI o1.1)), (0, .ref b), (1, .ref h), (2, .ref hm), (3, .ref ho), (4, .int i)]) hx hb d_law_390 hl (by decide) rfl (fun ls hl => ?_)
  refine lv_aload_n hx hb d_law_392 rfl (lv_at hl 3 rfl) ?_
  refine lv_aload_n hx hb d_law_393 rfl (lv_at hl 1 rfl) ?_
  refine lv_iload hx hb d_law_394 (lv_at hl 5 rfl) ?_
  refine lv_iconst (v := (1 : Int32)) hx hb d_law_396 (by decide) ?_
  refine lv_iadd hx hb d_law_397 ?_
  refine va_sld hx hb hX hbl hbA hS hi1 d_law_398 ?_
  refine lv_aload_n hx hb d_law_399 rfl (lv_at hl 1 rfl) ?_
  refine lv_iload hx hb d_law_400 (lv_at hl 5 rfl) ?_
  refine lv_iconst (v := (2 : Int32)) hx hb d_law_402 (by decide) ?_
  refine lv_iadd hx hb d_law_403 ?_
  refine va_sld hx hb hX hbl hbA hS hi2 d_law_404 ?_
  have hP := hP.perm (List.perm_append_comm (l₁ := wd_O g ho (ot o1.1 o1.2.1 f) ++ wd_C g h u (up x 2 (o1.2.2)) n) (l₂ := wd_MD g hm qm y))
  have hD := hD.perm (List.perm_append_comm (l₁ := wd_O g ho (ot o1.1 o1.2.1 f) ++ wd_C g h u (up x 2 (o1.2.2)) n) (l₂ := wd_MD g hm qm y))
  refine kciP (wc := wd_MD g hm qm y) (wr := wd_O g ho (ot o1.1 o1.2.1 f) ++ wd_C g h u (up x 2 (o1.2.2)) n) (w1 := wd_MD g hm qm o2.2) hP hD hS hA (va_runV (As := [.int (xs (i + 1).toNatClampNeg), .int (xs (i + 2).toNatClampNeg)]) (rest := []) ⟨hx, hb, hml, hown, hts⟩ (c_MD_signal hG hGn l dC dI g F H.size hm qm y (xs (i + 1).toNatClampNeg) (xs (i + 2).toNatClampNeg) hm2) (cwV 2 hts (gdV k6_37 k6_38 k6_39 k1_10 k6_40) rfl rfl rfl (by decide +kernel) ⟨Nat.le_of_ble_eq_true rfl, Nat.le_of_ble_eq_true rfl⟩) (kpVP hG hP hK hD hS hA hGA (ci := 10) (q0 := 0) rfl rfl rfl) rfl rfl hl.1 rfl (lv_room (Nat.le_of_ble_eq_true rfl)) d_law_405 ⟨(by show _ + 0 ≤ 601024; omega), (by show _ + 0 ≤ 7293000; omega)⟩) (fun H locs hP hD hS => ?_)
  refine lv_istore (lv' := [(6, .int o2.1), (5, .int (nI o1.1)), (0, .ref b), (1, .ref h), (2, .ref hm), (3, .ref ho), (4, .int i)]) hx hb d_law_408 hl (by decide) rfl (fun ls hl => ?_)
  refine lv_aload_n hx hb d_law_410 rfl (lv_at hl 4 rfl) ?_
  refine kciP (wc := wd_MD g hm qm o2.2) (wr := wd_O g ho (ot o1.1 o1.2.1 f) ++ wd_C g h u (up x 2 (o1.2.2)) n) (w1 := wd_MD g hm qm o2.2) hP hD hS hA (va_runV (As := []) (rest := []) ⟨hx, hb, hml, hown, hts⟩ (c_MD_thrown hG hGn l dC dI g F H.size hm qm o2.2 rfl) (cwV 0 hts (gdV k5_147 k5_148 k5_149 k1_10 k5_150) rfl rfl rfl (by decide +kernel) ⟨Nat.le_of_ble_eq_true rfl, Nat.le_of_ble_eq_true rfl⟩) (kpVP hG hP hK hD hS hA hGA (ci := 10) (q0 := 0) rfl rfl rfl) rfl rfl hl.1 rfl (lv_room (Nat.le_of_ble_eq_true rfl)) d_law_411 ⟨(by show _ + 0 ≤ 601024; omega), (by show _ + 0 ≤ 7293000; omega)⟩) (fun H locs hP hD hS => ?_)
  have hP := hP.perm (List.perm_append_comm (l₁ := wd_MD g hm qm o2.2) (l₂ := wd_O g ho (ot o1.1 o1.2.1 f) ++ wd_C g h u (up x 2 (o1.2.2)) n))
  have hD := hD.perm (List.perm_append_comm (l₁ := wd_MD g hm qm o2.2) (l₂ := wd_O g ho (ot o1.1 o1.2.1 f) ++ wd_C g h u (up x 2 (o1.2.2)) n))
  refine lv_iload hx hb d_law_414 (lv_at hl 1 rfl) ?_
  refine lv_icmp_eq (tgt := 421) hx hb d_law_416 (by decide) (fun _ => ?_) (fun h9 => absurd hcode h9)
  refine lv_iload hx hb d_law_421 (lv_at hl 1 rfl) ?_
  refine lv_if_ne (tgt := 438) hx hb d_law_423 (by decide) (fun _ => ?_) (fun h9 => ?_)
  · refine lv_goto (tgt := 1349) hx hb d_law_438 (by decide) ?_
    exact W.widen (by omega) (by omega) (kk _ _ _ _ H locs ls hR2 hP hD hS (lv_sub hl [2, 3, 4, 5, 6] rfl))
  · have h0 : o1.1 = 0 := by rcases hk1 with hk1 | hk1 <;> (rw [hk1] at h9 ⊢) <;> revert h9 <;> decide
    have h8 := heq h0
    refine lv_aload_n hx hb d_law_426 rfl (lv_at hl 5 rfl) ?_
    refine lv_iconst (v := (0 : Int32)) hx hb d_law_427 (by decide) ?_
    refine va_lald hx hb hK hP 0 4 rfl rfl (by unfold vp_in; decide) d_law_428 ?_
    refine lv_iload hx hb d_law_429 (lv_at hl 0 rfl) ?_
    have e9 : (ot o1.1 o1.2.1 f) (0 : Int32).toNatClampNeg = (o2.1).toInt64 := by rw [h0, h8]; unfold ot; simp [vp_updL]
    refine lv_i2l (v := (o2.1).toInt64) hx hb d_law_431 rfl ?_
    rw [e9]
    refine W.lcmp hx hb d_law_432 ?_
    refine lv_if_eq (tgt := 438) hx hb d_law_433 (by decide) (fun _ => ?_) (fun h7 => absurd (by unfold lg_cmp; simp) h7)
    refine lv_goto (tgt := 1349) hx hb d_law_438 (by decide) ?_
    exact W.widen (by omega) (by omega) (kk _ _ _ _ H locs ls hR2 hP hD hS (lv_sub hl [2, 3, 4, 5, 6] rfl))
set_option maxHeartbeats 40000000 in
set_option maxRecDepth 100000 in
theorem law_fault {p : Program} {l : Launch} {e : Env} {s : State} {m : MethodId} {below : List Frame} {meth : Method} {c : Code} {dC : Nat → ClassId} {dI : Nat → Nat → Nat} {g : Nat → ClassId} {G : (Nat → Prop) → State → Prop} (hG : gok G) (hGn : gN G) {adK adV : Nat → Nat} (hGs : gSt adK adV G) (hGt : gTh G) (hGc : gNC G) (hst : l.stackTraces = false) {b L : Nat} {xs : Nat → Int32} (C0 : lw_At p s m meth c b L xs) (hGA : G (fun q => s.heap.size ≤ q) s) (hK : va_K (dC, dI) vwCl (tyv g) s) (F : Nat) {Rl : (Nat → St) → Nat → St → Prop} (hsim : sim_fault F Rl) {n h hm ho : Nat} {f : Nat → Int64} {u : Nat → Nat → Nat} {x : Nat → St} {qm : Nat → Nat} {y : St} {H : Heap} {locs : List Loc} {ls : Array Slot} {cells slots : Nat} {i : Int32} (hi1 : vp_in (i + 1) L) (hi2 : vp_in (i + 2) L) (hi3 : vp_in (i + 3) L) (hi4 : vp_in (i + 4) L) (hi5 : vp_in (i + 5) L) (hR : Rl x n y) (hP : va_P (dC, dI) vwCl ((wd_O g ho f ++ wd_C g h u x n) ++ wd_MD g hm qm y) H) (hD : va_D (fun q : Nat => s.heap.size ≤ q) ((wd_O g ho f ++ wd_C g h u x n) ++ wd_MD g hm qm y)) (hS : va_S (fun q : Nat => s.heap.size ≤ q) s.heap H locs) (hl : lv_has ls 7 [(0, .ref b), (1, .ref h), (2, .ref hm), (3, .ref ho), (4, .int i)]) (hc : cells + 2 ≤ 601024) (hs : slots + 7 ≤ 7293000)
    (kk : ∀ (f : Nat → Int64) (u : Nat → Nat → Nat) (x : Nat → St) (y : St) (H : Heap) (locs : List Loc) (ls : Array Slot), Rl x n y → va_P (dC, dI) vwCl ((wd_O g ho f ++ wd_C g h u x n) ++ wd_MD g hm qm y) H → va_D (fun q : Nat => s.heap.size ≤ q) ((wd_O g ho f ++ wd_C g h u x n) ++ wd_MD g hm qm y) → va_S (fun q : Nat => s.heap.size ≤ q) s.heap H locs → lv_has ls 7 [(0, .ref b), (1, .ref h), (2, .ref hm), (3, .ref ho), (4, .int i)] → W p l e room_1 s m #[Value.ref b] below meth c H locs (cells + 2) (slots + 7) (lw_Z below #[Value.ref b] s) (F0 m 1349 ls [])) :
    W p l e room_1 s m #[Value.ref b] below meth c H locs cells slots (lw_Z below #[Value.ref b] s) (F0 m 441 ls []) := by
  obtain ⟨hx, hb, hr, hml, hown, hts, hX, hbl, hlocks, hgv⟩ := C0
  have hA : ∀ q : Nat, s.heap.size ≤ q → (fun q : Nat => s.heap.size ≤ q) q := fun _ h => h
  have hbA : ¬ (fun q : Nat => s.heap.size ≤ q) b := Nat.not_le.mpr hbl
  have hts : ∀ w ∈ gw, w.before #[Value.ref b] s = true := fun w h => hts w (List.mem_filter.mp h).1
  have hml : c.maxLocals = 7 := hml
  have hown : s.vm.findClass "AlarmMatrixLaw" = some m.cls := hown
  obtain ⟨o1, o2, hm1, hm2, hk1, hcode, heq, hR2⟩ := hsim x n y (xs (i + 1).toNatClampNeg) (if (xs (i + 2).toNatClampNeg) = 0 then (0 : Int32) else 1) hR
  by_cases hz : (xs (i + 2).toNatClampNeg) = 0
  · rw [if_pos hz] at hm2
    rw [if_pos hz] at hm1
    refine lv_aload_n hx hb d_law_441 rfl (lv_at hl 1 rfl) ?_
    refine lv_aload_n hx hb d_law_442 rfl (lv_at hl 0 rfl) ?_
    refine lv_iload hx hb d_law_443 (lv_at hl 4 rfl) ?_
    refine lv_iconst (v := (1 : Int32)) hx hb d_law_445 (by decide) ?_
    refine lv_iadd hx hb d_law_446 ?_
    refine va_sld hx hb hX hbl hbA hS hi1 d_law_447 ?_
    refine lv_aload_n hx hb d_law_448 rfl (lv_at hl 0 rfl) ?_
    refine lv_iload hx hb d_law_449 (lv_at hl 4 rfl) ?_
    refine lv_iconst (v := (2 : Int32)) hx hb d_law_451 (by decide) ?_
    refine lv_iadd hx hb d_law_452 ?_
    refine va_sld hx hb hX hbl hbA hS hi2 d_law_453 ?_
    refine lv_if_eq (tgt := 461) hx hb d_law_454 (by decide) (fun _ => ?_) (fun hz9 => absurd hz hz9)
    refine lv_iconst (v := (0 : Int32)) hx hb d_law_461 (by decide) ?_
    refine lv_aload_n hx hb d_law_462 rfl (lv_at hl 3 rfl) ?_
    refine kciP (wc := wd_O g ho f ++ wd_C g h u x n) (wr := wd_MD g hm qm y) (w1 := wd_O g ho (oz o1.1 o1.2.1 f) ++ wd_C g h u (up x 2 (o1.2.2)) n) hP hD hS hA (krunSW (As := [.ref h, .int (xs (i + 1).toNatClampNeg), .int (0 : Int32), .ref ho]) (rest := []) ⟨hx, hb, hml, hown, hts⟩ (c_LW_fault hG hGn hGs hGt hGc l hst dC dI g F H.size h u x n ho f (xs (i + 1).toNatClampNeg) (0 : Int32) hm1 hk1) (kcwS 4 hts (gdSW k4_26 k4_27 k1_0 k4_28) rfl rfl rfl (by decide +kernel) ⟨Nat.le_of_ble_eq_true rfl, Nat.le_of_ble_eq_true rfl⟩) (kpSP hG hP hK hD hS hA hGA) rfl rfl hl.1 rfl (lv_room (Nat.le_of_ble_eq_true rfl)) d_law_463 ⟨(by show cells + 1 ≤ 601024; omega), (by show slots + 6 ≤ 7293000; omega)⟩) (fun H locs hP hD hS => ?_)
    refine lv_istore (lv' := [(5, .int (nI o1.1)), (0, .ref b), (1, .ref h), (2, .ref hm), (3, .ref ho), (4, .int i)]) hx hb d_law_466 hl (by decide) rfl (fun ls hl => ?_)
    refine lv_aload_n hx hb d_law_468 rfl (lv_at hl 3 rfl) ?_
    refine lv_aload_n hx hb d_law_469 rfl (lv_at hl 1 rfl) ?_
    refine lv_iload hx hb d_law_470 (lv_at hl 5 rfl) ?_
    refine lv_iconst (v := (1 : Int32)) hx hb d_law_472 (by decide) ?_
    refine lv_iadd hx hb d_law_473 ?_
    refine va_sld hx hb hX hbl hbA hS hi1 d_law_474 ?_
    refine lv_aload_n hx hb d_law_475 rfl (lv_at hl 1 rfl) ?_
    refine lv_iload hx hb d_law_476 (lv_at hl 5 rfl) ?_
    refine lv_iconst (v := (2 : Int32)) hx hb d_law_478 (by decide) ?_
    refine lv_iadd hx hb d_law_479 ?_
    refine va_sld hx hb hX hbl hbA hS hi2 d_law_480 ?_
    refine lv_if_eq (tgt := 488) hx hb d_law_481 (by decide) (fun _ => ?_) (fun hz9 => absurd hz hz9)
    refine lv_iconst (v := (0 : Int32)) hx hb d_law_488 (by decide) ?_
    have hP := hP.perm (List.perm_append_comm (l₁ := wd_O g ho (oz o1.1 o1.2.1 f) ++ wd_C g h u (up x 2 (o1.2.2)) n) (l₂ := wd_MD g hm qm y))
    have hD := hD.perm (List.perm_append_comm (l₁ := wd_O g ho (oz o1.1 o1.2.1 f) ++ wd_C g h u (up x 2 (o1.2.2)) n) (l₂ := wd_MD g hm qm y))
    refine kciP (wc := wd_MD g hm qm y) (wr := wd_O g ho (oz o1.1 o1.2.1 f) ++ wd_C g h u (up x 2 (o1.2.2)) n) (w1 := wd_MD g hm qm o2.2) hP hD hS hA (va_runV (As := [.int (xs (i + 1).toNatClampNeg), .int (0 : Int32)]) (rest := []) ⟨hx, hb, hml, hown, hts⟩ (c_MD_fault hG hGn l dC dI g F H.size hm qm y (xs (i + 1).toNatClampNeg) (0 : Int32) hm2) (cwV 2 hts (gdV k6_45 k6_46 k6_47 k1_10 k6_48) rfl rfl rfl (by decide +kernel) ⟨Nat.le_of_ble_eq_true rfl, Nat.le_of_ble_eq_true rfl⟩) (kpVP hG hP hK hD hS hA hGA (ci := 10) (q0 := 0) rfl rfl rfl) rfl rfl hl.1 rfl (lv_room (Nat.le_of_ble_eq_true rfl)) d_law_489 ⟨(by show _ + 0 ≤ 601024; omega), (by show _ + 0 ≤ 7293000; omega)⟩) (fun H locs hP hD hS => ?_)
    refine lv_istore (lv' := [(6, .int o2.1), (5, .int (nI o1.1)), (0, .ref b), (1, .ref h), (2, .ref hm), (3, .ref ho), (4, .int i)]) hx hb d_law_492 hl (by decide) rfl (fun ls hl => ?_)
    refine lv_aload_n hx hb d_law_494 rfl (lv_at hl 4 rfl) ?_
    refine kciP (wc := wd_MD g hm qm o2.2) (wr := wd_O g ho (oz o1.1 o1.2.1 f) ++ wd_C g h u (up x 2 (o1.2.2)) n) (w1 := wd_MD g hm qm o2.2) hP hD hS hA (va_runV (As := []) (rest := []) ⟨hx, hb, hml, hown, hts⟩ (c_MD_thrown hG hGn l dC dI g F H.size hm qm o2.2 rfl) (cwV 0 hts (gdV k5_147 k5_148 k5_149 k1_10 k5_150) rfl rfl rfl (by decide +kernel) ⟨Nat.le_of_ble_eq_true rfl, Nat.le_of_ble_eq_true rfl⟩) (kpVP hG hP hK hD hS hA hGA (ci := 10) (q0 := 0) rfl rfl rfl) rfl rfl hl.1 rfl (lv_room (Nat.le_of_ble_eq_true rfl)) d_law_495 ⟨(by show _ + 0 ≤ 601024; omega), (by show _ + 0 ≤ 7293000; omega)⟩) (fun H locs hP hD hS => ?_)
    have hP := hP.perm (List.perm_append_comm (l₁ := wd_MD g hm qm o2.2) (l₂ := wd_O g ho (oz o1.1 o1.2.1 f) ++ wd_C g h u (up x 2 (o1.2.2)) n))
    have hD := hD.perm (List.perm_append_comm (l₁ := wd_MD g hm qm o2.2) (l₂ := wd_O g ho (oz o1.1 o1.2.1 f) ++ wd_C g h u (up x 2 (o1.2.2)) n))
    refine lv_iload hx hb d_law_498 (lv_at hl 1 rfl) ?_
    refine lv_icmp_eq (tgt := 505) hx hb d_law_500 (by decide) (fun _ => ?_) (fun h9 => absurd hcode h9)
    refine lv_iload hx hb d_law_505 (lv_at hl 1 rfl) ?_
    refine lv_if_ne (tgt := 529) hx hb d_law_507 (by decide) (fun _ => ?_) (fun h9 => ?_)
    · refine lv_goto (tgt := 1349) hx hb d_law_529 (by decide) ?_
      exact W.widen (by omega) (by omega) (kk _ _ _ _ H locs ls hR2 hP hD hS (lv_sub hl [2, 3, 4, 5, 6] rfl))
    · have h0 : o1.1 = 0 := by rcases hk1 with hk1 | hk1 <;> (rw [hk1] at h9 ⊢) <;> revert h9 <;> decide
      have h8 := heq h0
      refine lv_aload_n hx hb d_law_510 rfl (lv_at hl 5 rfl) ?_
      refine lv_iconst (v := (0 : Int32)) hx hb d_law_511 (by decide) ?_
      refine va_lald hx hb hK hP 0 4 rfl rfl (by unfold vp_in; decide) d_law_512 ?_
      refine lv_iload hx hb d_law_513 (lv_at hl 0 rfl) ?_
      have e9 : (oz o1.1 o1.2.1 f) (0 : Int32).toNatClampNeg = (if o2.1 = 0 then 0 else 1) := by rw [h0, h8]; unfold oz; simp [vp_updL]
      rw [e9]
      refine lv_if_eq (tgt := 522) hx hb d_law_515 (by decide) (fun h7 => ?_) (fun h7 => ?_)
      · refine lv_lconst (v := (0 : Int64)) hx hb d_law_522 (by decide) ?_
        rw [if_pos h7]
        refine W.lcmp hx hb d_law_523 ?_
        refine lv_if_eq (tgt := 529) hx hb d_law_524 (by decide) (fun _ => ?_) (fun h7 => absurd (by unfold lg_cmp; simp) h7)
        refine lv_goto (tgt := 1349) hx hb d_law_529 (by decide) ?_
        exact W.widen (by omega) (by omega) (kk _ _ _ _ H locs ls hR2 hP hD hS (lv_sub hl [2, 3, 4, 5, 6] rfl))
      · refine lv_lconst (v := (1 : Int64)) hx hb d_law_518 (by decide) ?_
        refine lv_goto (tgt := 523) hx hb d_law_519 (by decide) ?_
        rw [if_neg h7]
        refine W.lcmp hx hb d_law_523 ?_
        refine lv_if_eq (tgt := 529) hx hb d_law_524 (by decide) (fun _ => ?_) (fun h7 => absurd (by unfold lg_cmp; simp) h7)
        refine lv_goto (tgt := 1349) hx hb d_law_529 (by decide) ?_
        exact W.widen (by omega) (by omega) (kk _ _ _ _ H locs ls hR2 hP hD hS (lv_sub hl [2, 3, 4, 5, 6] rfl))
  · rw [if_neg hz] at hm2
    rw [if_neg hz] at hm1
    refine lv_aload_n hx hb d_law_441 rfl (lv_at hl 1 rfl) ?_
    refine lv_aload_n hx hb d_law_442 rfl (lv_at hl 0 rfl) ?_
    refine lv_iload hx hb d_law_443 (lv_at hl 4 rfl) ?_
    refine lv_iconst (v := (1 : Int32)) hx hb d_law_445 (by decide) ?_
    refine lv_iadd hx hb d_law_446 ?_
    refine va_sld hx hb hX hbl hbA hS hi1 d_law_447 ?_
    refine lv_aload_n hx hb d_law_448 rfl (lv_at hl 0 rfl) ?_
    refine lv_iload hx hb d_law_449 (lv_at hl 4 rfl) ?_
    refine lv_iconst (v := (2 : Int32)) hx hb d_law_451 (by decide) ?_
    refine lv_iadd hx hb d_law_452 ?_
    refine va_sld hx hb hX hbl hbA hS hi2 d_law_453 ?_
    refine lv_if_eq (tgt := 461) hx hb d_law_454 (by decide) (fun hz9 => absurd hz9 hz) (fun _ => ?_)
    refine lv_iconst (v := (1 : Int32)) hx hb d_law_457 (by decide) ?_
    refine lv_goto (tgt := 462) hx hb d_law_458 (by decide) ?_
    refine lv_aload_n hx hb d_law_462 rfl (lv_at hl 3 rfl) ?_
    refine kciP (wc := wd_O g ho f ++ wd_C g h u x n) (wr := wd_MD g hm qm y) (w1 := wd_O g ho (oz o1.1 o1.2.1 f) ++ wd_C g h u (up x 2 (o1.2.2)) n) hP hD hS hA (krunSW (As := [.ref h, .int (xs (i + 1).toNatClampNeg), .int (1 : Int32), .ref ho]) (rest := []) ⟨hx, hb, hml, hown, hts⟩ (c_LW_fault hG hGn hGs hGt hGc l hst dC dI g F H.size h u x n ho f (xs (i + 1).toNatClampNeg) (1 : Int32) hm1 hk1) (kcwS 4 hts (gdSW k4_26 k4_27 k1_0 k4_28) rfl rfl rfl (by decide +kernel) ⟨Nat.le_of_ble_eq_true rfl, Nat.le_of_ble_eq_true rfl⟩) (kpSP hG hP hK hD hS hA hGA) rfl rfl hl.1 rfl (lv_room (Nat.le_of_ble_eq_true rfl)) d_law_463 ⟨(by show cells + 1 ≤ 601024; omega), (by show slots + 6 ≤ 7293000; omega)⟩) (fun H locs hP hD hS => ?_)
    refine lv_istore (lv' := [(5, .int (nI o1.1)), (0, .ref b), (1, .ref h), (2, .ref hm), (3, .ref ho), (4, .int i)]) hx hb d_law_466 hl (by decide) rfl (fun ls hl => ?_)
    refine lv_aload_n hx hb d_law_468 rfl (lv_at hl 3 rfl) ?_
    refine lv_aload_n hx hb d_law_469 rfl (lv_at hl 1 rfl) ?_
    refine lv_iload hx hb d_law_470 (lv_at hl 5 rfl) ?_
    refine lv_iconst (v := (1 : Int32)) hx hb d_law_472 (by decide) ?_
    refine lv_iadd hx hb d_law_473 ?_
    refine va_sld hx hb hX hbl hbA hS hi1 d_law_474 ?_
    refine lv_aload_n hx hb d_law_475 rfl (lv_at hl 1 rfl) ?_
    refine lv_iload hx hb d_law_476 (lv_at hl 5 rfl) ?_
    refine lv_iconst (v := (2 : Int32)) hx hb d_law_478 (by decide) ?_
    refine lv_iadd hx hb d_law_479 ?_
    refine va_sld hx hb hX hbl hbA hS hi2 d_law_480 ?_
    refine lv_if_eq (tgt := 488) hx hb d_law_481 (by decide) (fun hz9 => absurd hz9 hz) (fun _ => ?_)
    refine lv_iconst (v := (1 : Int32)) hx hb d_law_484 (by decide) ?_
    refine lv_goto (tgt := 489) hx hb d_law_485 (by decide) ?_
    have hP := hP.perm (List.perm_append_comm (l₁ := wd_O g ho (oz o1.1 o1.2.1 f) ++ wd_C g h u (up x 2 (o1.2.2)) n) (l₂ := wd_MD g hm qm y))
    have hD := hD.perm (List.perm_append_comm (l₁ := wd_O g ho (oz o1.1 o1.2.1 f) ++ wd_C g h u (up x 2 (o1.2.2)) n) (l₂ := wd_MD g hm qm y))
    refine kciP (wc := wd_MD g hm qm y) (wr := wd_O g ho (oz o1.1 o1.2.1 f) ++ wd_C g h u (up x 2 (o1.2.2)) n) (w1 := wd_MD g hm qm o2.2) hP hD hS hA (va_runV (As := [.int (xs (i + 1).toNatClampNeg), .int (1 : Int32)]) (rest := []) ⟨hx, hb, hml, hown, hts⟩ (c_MD_fault hG hGn l dC dI g F H.size hm qm y (xs (i + 1).toNatClampNeg) (1 : Int32) hm2) (cwV 2 hts (gdV k6_45 k6_46 k6_47 k1_10 k6_48) rfl rfl rfl (by decide +kernel) ⟨Nat.le_of_ble_eq_true rfl, Nat.le_of_ble_eq_true rfl⟩) (kpVP hG hP hK hD hS hA hGA (ci := 10) (q0 := 0) rfl rfl rfl) rfl rfl hl.1 rfl (lv_room (Nat.le_of_ble_eq_true rfl)) d_law_489 ⟨(by show _ + 0 ≤ 601024; omega), (by show _ + 0 ≤ 7293000; omega)⟩) (fun H locs hP hD hS => ?_)
    refine lv_istore (lv' := [(6, .int o2.1), (5, .int (nI o1.1)), (0, .ref b), (1, .ref h), (2, .ref hm), (3, .ref ho), (4, .int i)]) hx hb d_law_492 hl (by decide) rfl (fun ls hl => ?_)
    refine lv_aload_n hx hb d_law_494 rfl (lv_at hl 4 rfl) ?_
    refine kciP (wc := wd_MD g hm qm o2.2) (wr := wd_O g ho (oz o1.1 o1.2.1 f) ++ wd_C g h u (up x 2 (o1.2.2)) n) (w1 := wd_MD g hm qm o2.2) hP hD hS hA (va_runV (As := []) (rest := []) ⟨hx, hb, hml, hown, hts⟩ (c_MD_thrown hG hGn l dC dI g F H.size hm qm o2.2 rfl) (cwV 0 hts (gdV k5_147 k5_148 k5_149 k1_10 k5_150) rfl rfl rfl (by decide +kernel) ⟨Nat.le_of_ble_eq_true rfl, Nat.le_of_ble_eq_true rfl⟩) (kpVP hG hP hK hD hS hA hGA (ci := 10) (q0 := 0) rfl rfl rfl) rfl rfl hl.1 rfl (lv_room (Nat.le_of_ble_eq_true rfl)) d_law_495 ⟨(by show _ + 0 ≤ 601024; omega), (by show _ + 0 ≤ 7293000; omega)⟩) (fun H locs hP hD hS => ?_)
    have hP := hP.perm (List.perm_append_comm (l₁ := wd_MD g hm qm o2.2) (l₂ := wd_O g ho (oz o1.1 o1.2.1 f) ++ wd_C g h u (up x 2 (o1.2.2)) n))
    have hD := hD.perm (List.perm_append_comm (l₁ := wd_MD g hm qm o2.2) (l₂ := wd_O g ho (oz o1.1 o1.2.1 f) ++ wd_C g h u (up x 2 (o1.2.2)) n))
    refine lv_iload hx hb d_law_498 (lv_at hl 1 rfl) ?_
    refine lv_icmp_eq (tgt := 505) hx hb d_law_500 (by decide) (fun _ => ?_) (fun h9 => absurd hcode h9)
    refine lv_iload hx hb d_law_505 (lv_at hl 1 rfl) ?_
    refine lv_if_ne (tgt := 529) hx hb d_law_507 (by decide) (fun _ => ?_) (fun h9 => ?_)
    · refine lv_goto (tgt := 1349) hx hb d_law_529 (by decide) ?_
      exact W.widen (by omega) (by omega) (kk _ _ _ _ H locs ls hR2 hP hD hS (lv_sub hl [2, 3, 4, 5, 6] rfl))
    · have h0 : o1.1 = 0 := by rcases hk1 with hk1 | hk1 <;> (rw [hk1] at h9 ⊢) <;> revert h9 <;> decide
      have h8 := heq h0
      refine lv_aload_n hx hb d_law_510 rfl (lv_at hl 5 rfl) ?_
      refine lv_iconst (v := (0 : Int32)) hx hb d_law_511 (by decide) ?_
      refine va_lald hx hb hK hP 0 4 rfl rfl (by unfold vp_in; decide) d_law_512 ?_
      refine lv_iload hx hb d_law_513 (lv_at hl 0 rfl) ?_
      have e9 : (oz o1.1 o1.2.1 f) (0 : Int32).toNatClampNeg = (if o2.1 = 0 then 0 else 1) := by rw [h0, h8]; unfold oz; simp [vp_updL]
      rw [e9]
      refine lv_if_eq (tgt := 522) hx hb d_law_515 (by decide) (fun h7 => ?_) (fun h7 => ?_)
      · refine lv_lconst (v := (0 : Int64)) hx hb d_law_522 (by decide) ?_
        rw [if_pos h7]
        refine W.lcmp hx hb d_law_523 ?_
        refine lv_if_eq (tgt := 529) hx hb d_law_524 (by decide) (fun _ => ?_) (fun h7 => absurd (by unfold lg_cmp; simp) h7)
        refine lv_goto (tgt := 1349) hx hb d_law_529 (by decide) ?_
        exact W.widen (by omega) (by omega) (kk _ _ _ _ H locs ls hR2 hP hD hS (lv_sub hl [2, 3, 4, 5, 6] rfl))
      · refine lv_lconst (v := (1 : Int64)) hx hb d_law_518 (by decide) ?_
        refine lv_goto (tgt := 523) hx hb d_law_519 (by decide) ?_
        rw [if_neg h7]
        refine W.lcmp hx hb d_law_523 ?_
        refine lv_if_eq (tgt := 529) hx hb d_law_524 (by decide) (fun _ => ?_) (fun h7 => absurd (by unfold lg_cmp; simp) h7)
        refine lv_goto (tgt := 1349) hx hb d_law_529 (by decide) ?_
        exact W.widen (by omega) (by omega) (kk _ _ _ _ H locs ls hR2 hP hD hS (lv_sub hl [2, 3, 4, 5, 6] rfl))
set_option maxHeartbeats 40000000 in
set_option maxRecDepth 100000 in
theorem law_disable {p : Program} {l : Launch} {e : Env} {s : State} {m : MethodId} {below : List Frame} {meth : Method} {c : Code} {dC : Nat → ClassId} {dI : Nat → Nat → Nat} {g : Nat → ClassId} {G : (Nat → Prop) → State → Prop} (hG : gok G) (hGn : gN G) {adK adV : Nat → Nat} (hGs : gSt adK adV G) (hGt : gTh G) (hGc : gNC G) (hst : l.stackTraces = false) {b L : Nat} {xs : Nat → Int32} (C0 : lw_At p s m meth c b L xs) (hGA : G (fun q => s.heap.size ≤ q) s) (hK : va_K (dC, dI) vwCl (tyv g) s) (F : Nat) {Rl : (Nat → St) → Nat → St → Prop} (hsim : sim_disable F Rl) {n h hm ho : Nat} {f : Nat → Int64} {u : Nat → Nat → Nat} {x : Nat → St} {qm : Nat → Nat} {y : St} {H : Heap} {locs : List Loc} {ls : Array Slot} {cells slots : Nat} {i : Int32} (hi1 : vp_in (i + 1) L) (hi2 : vp_in (i + 2) L) (hi3 : vp_in (i + 3) L) (hi4 : vp_in (i + 4) L) (hi5 : vp_in (i + 5) L) (hR : Rl x n y) (hP : va_P (dC, dI) vwCl ((wd_O g ho f ++ wd_C g h u x n) ++ wd_MD g hm qm y) H) (hD : va_D (fun q : Nat => s.heap.size ≤ q) ((wd_O g ho f ++ wd_C g h u x n) ++ wd_MD g hm qm y)) (hS : va_S (fun q : Nat => s.heap.size ≤ q) s.heap H locs) (hl : lv_has ls 7 [(0, .ref b), (1, .ref h), (2, .ref hm), (3, .ref ho), (4, .int i)]) (hc : cells + 2 ≤ 601024) (hs : slots + 7 ≤ 7293000)
    (kk : ∀ (f : Nat → Int64) (u : Nat → Nat → Nat) (x : Nat → St) (y : St) (H : Heap) (locs : List Loc) (ls : Array Slot), Rl x n y → va_P (dC, dI) vwCl ((wd_O g ho f ++ wd_C g h u x n) ++ wd_MD g hm qm y) H → va_D (fun q : Nat => s.heap.size ≤ q) ((wd_O g ho f ++ wd_C g h u x n) ++ wd_MD g hm qm y) → va_S (fun q : Nat => s.heap.size ≤ q) s.heap H locs → lv_has ls 7 [(0, .ref b), (1, .ref h), (2, .ref hm), (3, .ref ho), (4, .int i)] → W p l e room_1 s m #[Value.ref b] below meth c H locs (cells + 2) (slots + 7) (lw_Z below #[Value.ref b] s) (F0 m 1349 ls [])) :
    W p l e room_1 s m #[Value.ref b] below meth c H locs cells slots (lw_Z below #[Value.ref b] s) (F0 m 532 ls []) := by
  obtain ⟨hx, hb, hr, hml, hown, hts, hX, hbl, hlocks, hgv⟩ := C0
  have hA : ∀ q : Nat, s.heap.size ≤ q → (fun q : Nat => s.heap.size ≤ q) q := fun _ h => h
  have hbA : ¬ (fun q : Nat => s.heap.size ≤ q) b := Nat.not_le.mpr hbl
  have hts : ∀ w ∈ gw, w.before #[Value.ref b] s = true := fun w h => hts w (List.mem_filter.mp h).1
  have hml : c.maxLocals = 7 := hml
  have hown : s.vm.findClass "AlarmMatrixLaw" = some m.cls := hown
  obtain ⟨o1, o2, hm1, hm2, hk1, hcode, heq, hR2⟩ := hsim x n y (xs (i + 1).toNatClampNeg) (xs (i + 2).toNatClampNeg) hR
  refine lv_aload_n hx hb d_law_532 rfl (lv_at hl 1 rfl) ?_
  refine lv_aload_n hx hb d_law_533 rfl (lv_at hl 0 rfl) ?_
  refine lv_iload hx hb d_law_534 (lv_at hl 4 rfl) ?_
  refine lv_iconst (v := (1 : Int32)) hx hb d_law_536 (by decide) ?_
  refine lv_iadd hx hb d_law_537 ?_
  refine va_sld hx hb hX hbl hbA hS hi1 d_law_538 ?_
  refine lv_aload_n hx hb d_law_539 rfl (lv_at hl 0 rfl) ?_
  refine lv_iload hx hb d_law_540 (lv_at hl 4 rfl) ?_
  refine lv_iconst (v := (2 : Int32)) hx hb d_law_542 (by decide) ?_
  refine lv_iadd hx hb d_law_543 ?_
  refine va_sld hx hb hX hbl hbA hS hi2 d_law_544 ?_
  refine lv_aload_n hx hb d_law_545 rfl (lv_at hl 3 rfl) ?_
  refine kciP (wc := wd_O g ho f ++ wd_C g h u x n) (wr := wd_MD g hm qm y) (w1 := wd_O g ho (ot o1.1 o1.2.1 f) ++ wd_C g h u (up x 2 (o1.2.2)) n) hP hD hS hA (krunSW (As := [.ref h, .int (xs (i + 1).toNatClampNeg), .int (xs (i + 2).toNatClampNeg), .ref ho]) (rest := []) ⟨hx, hb, hml, hown, hts⟩ (c_LW_disable hG hGn hGs hGt hGc l hst dC dI g F H.size h u x n ho f (xs (i + 1).toNatClampNeg) (xs (i + 2).toNatClampNeg) hm1 hk1) (kcwS 4 hts (gdSW k4_38 k4_39 k1_0 k4_40) rfl rfl rfl (by decide +kernel) ⟨Nat.le_of_ble_eq_true rfl, Nat.le_of_ble_eq_true rfl⟩) (kpSP hG hP hK hD hS hA hGA) rfl rfl hl.1 rfl (lv_room (Nat.le_of_ble_eq_true rfl)) d_law_546 ⟨(by show cells + 1 ≤ 601024; omega), (by show slots + 6 ≤ 7293000; omega)⟩) (fun H locs hP hD hS => ?_)
  refine lv_istore (lv' := [(5, .int (nI o1.1)), (0, .ref b), (1, .ref h), (2, .ref hm), (3, .ref ho), (4, .int i)]) hx hb d_law_549 hl (by decide) rfl (fun ls hl => ?_)
  refine lv_aload_n hx hb d_law_551 rfl (lv_at hl 3 rfl) ?_
  refine lv_aload_n hx hb d_law_552 rfl (lv_at hl 1 rfl) ?_
  refine lv_iload hx hb d_law_553 (lv_at hl 5 rfl) ?_
  refine lv_iconst (v := (1 : Int32)) hx hb d_law_555 (by decide) ?_
  refine lv_iadd hx hb d_law_556 ?_
  refine va_sld hx hb hX hbl hbA hS hi1 d_law_557 ?_
  refine lv_aload_n hx hb d_law_558 rfl (lv_at hl 1 rfl) ?_
  refine lv_iload hx hb d_law_559 (lv_at hl 5 rfl) ?_
  refine lv_iconst (v := (2 : Int32)) hx hb d_law_561 (by decide) ?_
  refine lv_iadd hx hb d_law_562 ?_
  refine va_sld hx hb hX hbl hbA hS hi2 d_law_563 ?_
  have hP := hP.perm (List.perm_append_comm (l₁ := wd_O g ho (ot o1.1 o1.2.1 f) ++ wd_C g h u (up x 2 (o1.2.2)) n) (l₂ := wd_MD g hm qm y))
  have hD := hD.perm (List.perm_append_comm (l₁ := wd_O g ho (ot o1.1 o1.2.1 f) ++ wd_C g h u (up x 2 (o1.2.2)) n) (l₂ := wd_MD g hm qm y))
  refine kciP (wc := wd_MD g hm qm y) (wr := wd_O g ho (ot o1.1 o1.2.1 f) ++ wd_C g h u (up x 2 (o1.2.2)) n) (w1 := wd_MD g hm qm o2.2) hP hD hS hA (va_runV (As := [.int (xs (i + 1).toNatClampNeg), .int (xs (i + 2).toNatClampNeg)]) (rest := []) ⟨hx, hb, hml, hown, hts⟩ (c_MD_disable hG hGn l dC dI g F H.size hm qm y (xs (i + 1).toNatClampNeg) (xs (i + 2).toNatClampNeg) hm2) (cwV 2 hts (gdV k6_49 k6_50 k6_51 k1_10 k6_52) rfl rfl rfl (by decide +kernel) ⟨Nat.le_of_ble_eq_true rfl, Nat.le_of_ble_eq_true rfl⟩) (kpVP hG hP hK hD hS hA hGA (ci := 10) (q0 := 0) rfl rfl rfl) rfl rfl hl.1 rfl (lv_room (Nat.le_of_ble_eq_true rfl)) d_law_564 ⟨(by show _ + 0 ≤ 601024; omega), (by show _ + 0 ≤ 7293000; omega)⟩) (fun H locs hP hD hS => ?_)
  refine lv_istore (lv' := [(6, .int o2.1), (5, .int (nI o1.1)), (0, .ref b), (1, .ref h), (2, .ref hm), (3, .ref ho), (4, .int i)]) hx hb d_law_567 hl (by decide) rfl (fun ls hl => ?_)
  refine lv_aload_n hx hb d_law_569 rfl (lv_at hl 4 rfl) ?_
  refine kciP (wc := wd_MD g hm qm o2.2) (wr := wd_O g ho (ot o1.1 o1.2.1 f) ++ wd_C g h u (up x 2 (o1.2.2)) n) (w1 := wd_MD g hm qm o2.2) hP hD hS hA (va_runV (As := []) (rest := []) ⟨hx, hb, hml, hown, hts⟩ (c_MD_thrown hG hGn l dC dI g F H.size hm qm o2.2 rfl) (cwV 0 hts (gdV k5_147 k5_148 k5_149 k1_10 k5_150) rfl rfl rfl (by decide +kernel) ⟨Nat.le_of_ble_eq_true rfl, Nat.le_of_ble_eq_true rfl⟩) (kpVP hG hP hK hD hS hA hGA (ci := 10) (q0 := 0) rfl rfl rfl) rfl rfl hl.1 rfl (lv_room (Nat.le_of_ble_eq_true rfl)) d_law_570 ⟨(by show _ + 0 ≤ 601024; omega), (by show _ + 0 ≤ 7293000; omega)⟩) (fun H locs hP hD hS => ?_)
  have hP := hP.perm (List.perm_append_comm (l₁ := wd_MD g hm qm o2.2) (l₂ := wd_O g ho (ot o1.1 o1.2.1 f) ++ wd_C g h u (up x 2 (o1.2.2)) n))
  have hD := hD.perm (List.perm_append_comm (l₁ := wd_MD g hm qm o2.2) (l₂ := wd_O g ho (ot o1.1 o1.2.1 f) ++ wd_C g h u (up x 2 (o1.2.2)) n))
  refine lv_iload hx hb d_law_573 (lv_at hl 1 rfl) ?_
  refine lv_icmp_eq (tgt := 580) hx hb d_law_575 (by decide) (fun _ => ?_) (fun h9 => absurd hcode h9)
  refine lv_iload hx hb d_law_580 (lv_at hl 1 rfl) ?_
  refine lv_if_ne (tgt := 597) hx hb d_law_582 (by decide) (fun _ => ?_) (fun h9 => ?_)
  · refine lv_goto (tgt := 1349) hx hb d_law_597 (by decide) ?_
    exact W.widen (by omega) (by omega) (kk _ _ _ _ H locs ls hR2 hP hD hS (lv_sub hl [2, 3, 4, 5, 6] rfl))
  · have h0 : o1.1 = 0 := by rcases hk1 with hk1 | hk1 <;> (rw [hk1] at h9 ⊢) <;> revert h9 <;> decide
    have h8 := heq h0
    refine lv_aload_n hx hb d_law_585 rfl (lv_at hl 5 rfl) ?_
    refine lv_iconst (v := (0 : Int32)) hx hb d_law_586 (by decide) ?_
    refine va_lald hx hb hK hP 0 4 rfl rfl (by unfold vp_in; decide) d_law_587 ?_
    refine lv_iload hx hb d_law_588 (lv_at hl 0 rfl) ?_
    have e9 : (ot o1.1 o1.2.1 f) (0 : Int32).toNatClampNeg = (o2.1).toInt64 := by rw [h0, h8]; unfold ot; simp [vp_updL]
    refine lv_i2l (v := (o2.1).toInt64) hx hb d_law_590 rfl ?_
    rw [e9]
    refine W.lcmp hx hb d_law_591 ?_
    refine lv_if_eq (tgt := 597) hx hb d_law_592 (by decide) (fun _ => ?_) (fun h7 => absurd (by unfold lg_cmp; simp) h7)
    refine lv_goto (tgt := 1349) hx hb d_law_597 (by decide) ?_
    exact W.widen (by omega) (by omega) (kk _ _ _ _ H locs ls hR2 hP hD hS (lv_sub hl [2, 3, 4, 5, 6] rfl))
set_option maxHeartbeats 40000000 in
set_option maxRecDepth 100000 in
theorem law_loop {p : Program} {l : Launch} {e : Env} {s : State} {m : MethodId} {below : List Frame} {meth : Method} {c : Code} {dC : Nat → ClassId} {dI : Nat → Nat → Nat} {g : Nat → ClassId} {G : (Nat → Prop) → State → Prop} (hG : gok G) (hGn : gN G) {adK adV : Nat → Nat} (hGs : gSt adK adV G) (hGt : gTh G) (hGc : gNC G) (hst : l.stackTraces = false) {b L : Nat} {xs : Nat → Int32} (C0 : lw_At p s m meth c b L xs) (hGA : G (fun q => s.heap.size ≤ q) s) (hK : va_K (dC, dI) vwCl (tyv g) s) (F : Nat) {Rl : (Nat → St) → Nat → St → Prop} (hsim : sim_loop F Rl) {n h hm ho : Nat} {f : Nat → Int64} {u : Nat → Nat → Nat} {x : Nat → St} {qm : Nat → Nat} {y : St} {H : Heap} {locs : List Loc} {ls : Array Slot} {cells slots : Nat} {i : Int32} (hi1 : vp_in (i + 1) L) (hi2 : vp_in (i + 2) L) (hi3 : vp_in (i + 3) L) (hi4 : vp_in (i + 4) L) (hi5 : vp_in (i + 5) L) (hR : Rl x n y) (hP : va_P (dC, dI) vwCl ((wd_O g ho f ++ wd_C g h u x n) ++ wd_MD g hm qm y) H) (hD : va_D (fun q : Nat => s.heap.size ≤ q) ((wd_O g ho f ++ wd_C g h u x n) ++ wd_MD g hm qm y)) (hS : va_S (fun q : Nat => s.heap.size ≤ q) s.heap H locs) (hl : lv_has ls 7 [(0, .ref b), (1, .ref h), (2, .ref hm), (3, .ref ho), (4, .int i)]) (hc : cells + 2 ≤ 601024) (hs : slots + 7 ≤ 7293000)
    (kk : ∀ (f : Nat → Int64) (u : Nat → Nat → Nat) (x : Nat → St) (y : St) (H : Heap) (locs : List Loc) (ls : Array Slot), Rl x n y → va_P (dC, dI) vwCl ((wd_O g ho f ++ wd_C g h u x n) ++ wd_MD g hm qm y) H → va_D (fun q : Nat => s.heap.size ≤ q) ((wd_O g ho f ++ wd_C g h u x n) ++ wd_MD g hm qm y) → va_S (fun q : Nat => s.heap.size ≤ q) s.heap H locs → lv_has ls 7 [(0, .ref b), (1, .ref h), (2, .ref hm), (3, .ref ho), (4, .int i)] → W p l e room_1 s m #[Value.ref b] below meth c H locs (cells + 2) (slots + 7) (lw_Z below #[Value.ref b] s) (F0 m 1349 ls [])) :
    W p l e room_1 s m #[Value.ref b] below meth c H locs cells slots (lw_Z below #[Value.ref b] s) (F0 m 600 ls []) := by
  obtain ⟨hx, hb, hr, hml, hown, hts, hX, hbl, hlocks, hgv⟩ := C0
  have hA : ∀ q : Nat, s.heap.size ≤ q → (fun q : Nat => s.heap.size ≤ q) q := fun _ h => h
  have hbA : ¬ (fun q : Nat => s.heap.size ≤ q) b := Nat.not_le.mpr hbl
  have hts : ∀ w ∈ gw, w.before #[Value.ref b] s = true := fun w h => hts w (List.mem_filter.mp h).1
  have hml : c.maxLocals = 7 := hml
  have hown : s.vm.findClass "AlarmMatrixLaw" = some m.cls := hown
  rcases hsim x n y (xs (i + 1).toNatClampNeg) (xs (i + 2).toNatClampNeg) hR with ⟨j, o1, o2, hj, ej, hm1, hm2, hk1, hcode, heq, hR2⟩ | ⟨o1, o2, hm1, hm2, hk1, hcode, heq, hR2⟩
  · rw [ej] at hm2
    refine lv_aload_n hx hb d_law_600 rfl (lv_at hl 1 rfl) ?_
    refine lv_aload_n hx hb d_law_601 rfl (lv_at hl 0 rfl) ?_
    refine lv_iload hx hb d_law_602 (lv_at hl 4 rfl) ?_
    refine lv_iconst (v := (1 : Int32)) hx hb d_law_604 (by decide) ?_
    refine lv_iadd hx hb d_law_605 ?_
    refine va_sld hx hb hX hbl hbA hS hi1 d_law_606 ?_
    refine lv_aload_n hx hb d_law_607 rfl (lv_at hl 0 rfl) ?_
    refine lv_iload hx hb d_law_608 (lv_at hl 4 rfl) ?_
    refine lv_iconst (v := (2 : Int32)) hx hb d_law_610 (by decide) ?_
    refine lv_iadd hx hb d_law_611 ?_
    refine va_sld hx hb hX hbl hbA hS hi2 d_law_612 ?_
    refine lv_aload_n hx hb d_law_613 rfl (lv_at hl 3 rfl) ?_
    rw [ej]
    refine kciP (wc := wd_O g ho f ++ wd_C g h u x n) (wr := wd_MD g hm qm y) (w1 := wd_O g ho (ot o1.1 o1.2.1 f) ++ wd_C g h u (up (up x 2 (o1.2.2.2)) (10 + j) (o1.2.2.1)) n) hP hD hS hA (krunSW (As := [.ref h, .int (nI j), .int (xs (i + 2).toNatClampNeg), .ref ho]) (rest := []) ⟨hx, hb, hml, hown, hts⟩ (c_LW_loop hG hGn hGs hGt hGc l hst dC dI g F H.size h u x n ho f j hj (xs (i + 2).toNatClampNeg) hm1 hk1) (kcwS 4 hts (gdSW k4_51 k4_52 k1_0 k4_53) rfl rfl rfl (by decide +kernel) ⟨Nat.le_of_ble_eq_true rfl, Nat.le_of_ble_eq_true rfl⟩) (kpSP hG hP hK hD hS hA hGA) rfl rfl hl.1 rfl (lv_room (Nat.le_of_ble_eq_true rfl)) d_law_614 ⟨(by show cells + 1 ≤ 601024; omega), (by show slots + 6 ≤ 7293000; omega)⟩) (fun H locs hP hD hS => ?_)
    refine lv_istore (lv' := [(5, .int (nI o1.1)), (0, .ref b), (1, .ref h), (2, .ref hm), (3, .ref ho), (4, .int i)]) hx hb d_law_617 hl (by decide) rfl (fun ls hl => ?_)
    refine lv_aload_n hx hb d_law_619 rfl (lv_at hl 3 rfl) ?_
    refine lv_aload_n hx hb d_law_620 rfl (lv_at hl 1 rfl) ?_
    refine lv_iload hx hb d_law_621 (lv_at hl 5 rfl) ?_
    refine lv_iconst (v := (1 : Int32)) hx hb d_law_623 (by decide) ?_
    refine lv_iadd hx hb d_law_624 ?_
    refine va_sld hx hb hX hbl hbA hS hi1 d_law_625 ?_
    refine lv_aload_n hx hb d_law_626 rfl (lv_at hl 1 rfl) ?_
    refine lv_iload hx hb d_law_627 (lv_at hl 5 rfl) ?_
    refine lv_iconst (v := (2 : Int32)) hx hb d_law_629 (by decide) ?_
    refine lv_iadd hx hb d_law_630 ?_
    refine va_sld hx hb hX hbl hbA hS hi2 d_law_631 ?_
    have hP := hP.perm (List.perm_append_comm (l₁ := wd_O g ho (ot o1.1 o1.2.1 f) ++ wd_C g h u (up (up x 2 (o1.2.2.2)) (10 + j) (o1.2.2.1)) n) (l₂ := wd_MD g hm qm y))
    have hD := hD.perm (List.perm_append_comm (l₁ := wd_O g ho (ot o1.1 o1.2.1 f) ++ wd_C g h u (up (up x 2 (o1.2.2.2)) (10 + j) (o1.2.2.1)) n) (l₂ := wd_MD g hm qm y))
    rw [ej]
    refine kciP (wc := wd_MD g hm qm y) (wr := wd_O g ho (ot o1.1 o1.2.1 f) ++ wd_C g h u (up (up x 2 (o1.2.2.2)) (10 + j) (o1.2.2.1)) n) (w1 := wd_MD g hm qm o2.2) hP hD hS hA (va_runV (As := [.int (nI j), .int (xs (i + 2).toNatClampNeg)]) (rest := []) ⟨hx, hb, hml, hown, hts⟩ (c_MD_loop hG hGn l dC dI g F H.size hm qm y (nI j) (xs (i + 2).toNatClampNeg) hm2) (cwV 2 hts (gdV k6_54 k6_55 k6_56 k1_10 k6_57) rfl rfl rfl (by decide +kernel) ⟨Nat.le_of_ble_eq_true rfl, Nat.le_of_ble_eq_true rfl⟩) (kpVP hG hP hK hD hS hA hGA (ci := 10) (q0 := 0) rfl rfl rfl) rfl rfl hl.1 rfl (lv_room (Nat.le_of_ble_eq_true rfl)) d_law_632 ⟨(by show _ + 0 ≤ 601024; omega), (by show _ + 0 ≤ 7293000; omega)⟩) (fun H locs hP hD hS => ?_)
    refine lv_istore (lv' := [(6, .int o2.1), (5, .int (nI o1.1)), (0, .ref b), (1, .ref h), (2, .ref hm), (3, .ref ho), (4, .int i)]) hx hb d_law_635 hl (by decide) rfl (fun ls hl => ?_)
    refine lv_aload_n hx hb d_law_637 rfl (lv_at hl 4 rfl) ?_
    refine kciP (wc := wd_MD g hm qm o2.2) (wr := wd_O g ho (ot o1.1 o1.2.1 f) ++ wd_C g h u (up (up x 2 (o1.2.2.2)) (10 + j) (o1.2.2.1)) n) (w1 := wd_MD g hm qm o2.2) hP hD hS hA (va_runV (As := []) (rest := []) ⟨hx, hb, hml, hown, hts⟩ (c_MD_thrown hG hGn l dC dI g F H.size hm qm o2.2 rfl) (cwV 0 hts (gdV k5_147 k5_148 k5_149 k1_10 k5_150) rfl rfl rfl (by decide +kernel) ⟨Nat.le_of_ble_eq_true rfl, Nat.le_of_ble_eq_true rfl⟩) (kpVP hG hP hK hD hS hA hGA (ci := 10) (q0 := 0) rfl rfl rfl) rfl rfl hl.1 rfl (lv_room (Nat.le_of_ble_eq_true rfl)) d_law_638 ⟨(by show _ + 0 ≤ 601024; omega), (by show _ + 0 ≤ 7293000; omega)⟩) (fun H locs hP hD hS => ?_)
    have hP := hP.perm (List.perm_append_comm (l₁ := wd_MD g hm qm o2.2) (l₂ := wd_O g ho (ot o1.1 o1.2.1 f) ++ wd_C g h u (up (up x 2 (o1.2.2.2)) (10 + j) (o1.2.2.1)) n))
    have hD := hD.perm (List.perm_append_comm (l₁ := wd_MD g hm qm o2.2) (l₂ := wd_O g ho (ot o1.1 o1.2.1 f) ++ wd_C g h u (up (up x 2 (o1.2.2.2)) (10 + j) (o1.2.2.1)) n))
    refine lv_iload hx hb d_law_641 (lv_at hl 1 rfl) ?_
    refine lv_icmp_eq (tgt := 648) hx hb d_law_643 (by decide) (fun _ => ?_) (fun h9 => absurd hcode h9)
    refine lv_iload hx hb d_law_648 (lv_at hl 1 rfl) ?_
    refine lv_if_ne (tgt := 665) hx hb d_law_650 (by decide) (fun _ => ?_) (fun h9 => ?_)
    · refine lv_goto (tgt := 1349) hx hb d_law_665 (by decide) ?_
      exact W.widen (by omega) (by omega) (kk _ _ _ _ H locs ls hR2 hP hD hS (lv_sub hl [2, 3, 4, 5, 6] rfl))
    · have h0 : o1.1 = 0 := by rcases hk1 with hk1 | hk1 | hk1 <;> (rw [hk1] at h9 ⊢) <;> revert h9 <;> decide
      have h8 := heq h0
      refine lv_aload_n hx hb d_law_653 rfl (lv_at hl 5 rfl) ?_
      refine lv_iconst (v := (0 : Int32)) hx hb d_law_654 (by decide) ?_
      refine va_lald hx hb hK hP 0 4 rfl rfl (by unfold vp_in; decide) d_law_655 ?_
      refine lv_iload hx hb d_law_656 (lv_at hl 0 rfl) ?_
      have e9 : (ot o1.1 o1.2.1 f) (0 : Int32).toNatClampNeg = (o2.1).toInt64 := by rw [h0, h8]; unfold ot; simp [vp_updL]
      refine lv_i2l (v := (o2.1).toInt64) hx hb d_law_658 rfl ?_
      rw [e9]
      refine W.lcmp hx hb d_law_659 ?_
      refine lv_if_eq (tgt := 665) hx hb d_law_660 (by decide) (fun _ => ?_) (fun h7 => absurd (by unfold lg_cmp; simp) h7)
      refine lv_goto (tgt := 1349) hx hb d_law_665 (by decide) ?_
      exact W.widen (by omega) (by omega) (kk _ _ _ _ H locs ls hR2 hP hD hS (lv_sub hl [2, 3, 4, 5, 6] rfl))
  · refine lv_aload_n hx hb d_law_600 rfl (lv_at hl 1 rfl) ?_
    refine lv_aload_n hx hb d_law_601 rfl (lv_at hl 0 rfl) ?_
    refine lv_iload hx hb d_law_602 (lv_at hl 4 rfl) ?_
    refine lv_iconst (v := (1 : Int32)) hx hb d_law_604 (by decide) ?_
    refine lv_iadd hx hb d_law_605 ?_
    refine va_sld hx hb hX hbl hbA hS hi1 d_law_606 ?_
    refine lv_aload_n hx hb d_law_607 rfl (lv_at hl 0 rfl) ?_
    refine lv_iload hx hb d_law_608 (lv_at hl 4 rfl) ?_
    refine lv_iconst (v := (2 : Int32)) hx hb d_law_610 (by decide) ?_
    refine lv_iadd hx hb d_law_611 ?_
    refine va_sld hx hb hX hbl hbA hS hi2 d_law_612 ?_
    refine lv_aload_n hx hb d_law_613 rfl (lv_at hl 3 rfl) ?_
    refine kciP (wc := wd_O g ho f ++ wd_C g h u x n) (wr := wd_MD g hm qm y) (w1 := wd_O g ho (ot o1.1 o1.2 f) ++ wd_C g h u x n) hP hD hS hA (krunSW (As := [.ref h, .int (xs (i + 1).toNatClampNeg), .int (xs (i + 2).toNatClampNeg), .ref ho]) (rest := []) ⟨hx, hb, hml, hown, hts⟩ (c_LW_loop_x hG hGn hGs hGt hGc l hst dC dI g F H.size h u x n ho f (xs (i + 1).toNatClampNeg) (xs (i + 2).toNatClampNeg) hm1 hk1) (kcwS 4 hts (gdSW k4_51 k4_52 k1_0 k4_53) rfl rfl rfl (by decide +kernel) ⟨Nat.le_of_ble_eq_true rfl, Nat.le_of_ble_eq_true rfl⟩) (kpSP hG hP hK hD hS hA hGA) rfl rfl hl.1 rfl (lv_room (Nat.le_of_ble_eq_true rfl)) d_law_614 ⟨(by show cells + 1 ≤ 601024; omega), (by show slots + 6 ≤ 7293000; omega)⟩) (fun H locs hP hD hS => ?_)
    refine lv_istore (lv' := [(5, .int (nI o1.1)), (0, .ref b), (1, .ref h), (2, .ref hm), (3, .ref ho), (4, .int i)]) hx hb d_law_617 hl (by decide) rfl (fun ls hl => ?_)
    refine lv_aload_n hx hb d_law_619 rfl (lv_at hl 3 rfl) ?_
    refine lv_aload_n hx hb d_law_620 rfl (lv_at hl 1 rfl) ?_
    refine lv_iload hx hb d_law_621 (lv_at hl 5 rfl) ?_
    refine lv_iconst (v := (1 : Int32)) hx hb d_law_623 (by decide) ?_
    refine lv_iadd hx hb d_law_624 ?_
    refine va_sld hx hb hX hbl hbA hS hi1 d_law_625 ?_
    refine lv_aload_n hx hb d_law_626 rfl (lv_at hl 1 rfl) ?_
    refine lv_iload hx hb d_law_627 (lv_at hl 5 rfl) ?_
    refine lv_iconst (v := (2 : Int32)) hx hb d_law_629 (by decide) ?_
    refine lv_iadd hx hb d_law_630 ?_
    refine va_sld hx hb hX hbl hbA hS hi2 d_law_631 ?_
    have hP := hP.perm (List.perm_append_comm (l₁ := wd_O g ho (ot o1.1 o1.2 f) ++ wd_C g h u x n) (l₂ := wd_MD g hm qm y))
    have hD := hD.perm (List.perm_append_comm (l₁ := wd_O g ho (ot o1.1 o1.2 f) ++ wd_C g h u x n) (l₂ := wd_MD g hm qm y))
    refine kciP (wc := wd_MD g hm qm y) (wr := wd_O g ho (ot o1.1 o1.2 f) ++ wd_C g h u x n) (w1 := wd_MD g hm qm o2.2) hP hD hS hA (va_runV (As := [.int (xs (i + 1).toNatClampNeg), .int (xs (i + 2).toNatClampNeg)]) (rest := []) ⟨hx, hb, hml, hown, hts⟩ (c_MD_loop hG hGn l dC dI g F H.size hm qm y (xs (i + 1).toNatClampNeg) (xs (i + 2).toNatClampNeg) hm2) (cwV 2 hts (gdV k6_54 k6_55 k6_56 k1_10 k6_57) rfl rfl rfl (by decide +kernel) ⟨Nat.le_of_ble_eq_true rfl, Nat.le_of_ble_eq_true rfl⟩) (kpVP hG hP hK hD hS hA hGA (ci := 10) (q0 := 0) rfl rfl rfl) rfl rfl hl.1 rfl (lv_room (Nat.le_of_ble_eq_true rfl)) d_law_632 ⟨(by show _ + 0 ≤ 601024; omega), (by show _ + 0 ≤ 7293000; omega)⟩) (fun H locs hP hD hS => ?_)
    refine lv_istore (lv' := [(6, .int o2.1), (5, .int (nI o1.1)), (0, .ref b), (1, .ref h), (2, .ref hm), (3, .ref ho), (4, .int i)]) hx hb d_law_635 hl (by decide) rfl (fun ls hl => ?_)
    refine lv_aload_n hx hb d_law_637 rfl (lv_at hl 4 rfl) ?_
    refine kciP (wc := wd_MD g hm qm o2.2) (wr := wd_O g ho (ot o1.1 o1.2 f) ++ wd_C g h u x n) (w1 := wd_MD g hm qm o2.2) hP hD hS hA (va_runV (As := []) (rest := []) ⟨hx, hb, hml, hown, hts⟩ (c_MD_thrown hG hGn l dC dI g F H.size hm qm o2.2 rfl) (cwV 0 hts (gdV k5_147 k5_148 k5_149 k1_10 k5_150) rfl rfl rfl (by decide +kernel) ⟨Nat.le_of_ble_eq_true rfl, Nat.le_of_ble_eq_true rfl⟩) (kpVP hG hP hK hD hS hA hGA (ci := 10) (q0 := 0) rfl rfl rfl) rfl rfl hl.1 rfl (lv_room (Nat.le_of_ble_eq_true rfl)) d_law_638 ⟨(by show _ + 0 ≤ 601024; omega), (by show _ + 0 ≤ 7293000; omega)⟩) (fun H locs hP hD hS => ?_)
    have hP := hP.perm (List.perm_append_comm (l₁ := wd_MD g hm qm o2.2) (l₂ := wd_O g ho (ot o1.1 o1.2 f) ++ wd_C g h u x n))
    have hD := hD.perm (List.perm_append_comm (l₁ := wd_MD g hm qm o2.2) (l₂ := wd_O g ho (ot o1.1 o1.2 f) ++ wd_C g h u x n))
    refine lv_iload hx hb d_law_641 (lv_at hl 1 rfl) ?_
    refine lv_icmp_eq (tgt := 648) hx hb d_law_643 (by decide) (fun _ => ?_) (fun h9 => absurd hcode h9)
    refine lv_iload hx hb d_law_648 (lv_at hl 1 rfl) ?_
    refine lv_if_ne (tgt := 665) hx hb d_law_650 (by decide) (fun _ => ?_) (fun h9 => ?_)
    · refine lv_goto (tgt := 1349) hx hb d_law_665 (by decide) ?_
      exact W.widen (by omega) (by omega) (kk _ _ _ _ H locs ls hR2 hP hD hS (lv_sub hl [2, 3, 4, 5, 6] rfl))
    · have h0 : o1.1 = 0 := by rcases hk1 with hk1 | hk1 | hk1 <;> (rw [hk1] at h9 ⊢) <;> revert h9 <;> decide
      have h8 := heq h0
      refine lv_aload_n hx hb d_law_653 rfl (lv_at hl 5 rfl) ?_
      refine lv_iconst (v := (0 : Int32)) hx hb d_law_654 (by decide) ?_
      refine va_lald hx hb hK hP 0 4 rfl rfl (by unfold vp_in; decide) d_law_655 ?_
      refine lv_iload hx hb d_law_656 (lv_at hl 0 rfl) ?_
      have e9 : (ot o1.1 o1.2 f) (0 : Int32).toNatClampNeg = (o2.1).toInt64 := by rw [h0, h8]; unfold ot; simp [vp_updL]
      refine lv_i2l (v := (o2.1).toInt64) hx hb d_law_658 rfl ?_
      rw [e9]
      refine W.lcmp hx hb d_law_659 ?_
      refine lv_if_eq (tgt := 665) hx hb d_law_660 (by decide) (fun _ => ?_) (fun h7 => absurd (by unfold lg_cmp; simp) h7)
      refine lv_goto (tgt := 1349) hx hb d_law_665 (by decide) ?_
      exact W.widen (by omega) (by omega) (kk _ _ _ _ H locs ls hR2 hP hD hS (lv_sub hl [2, 3, 4, 5, 6] rfl))
set_option maxHeartbeats 40000000 in
set_option maxRecDepth 100000 in
theorem law_cut {p : Program} {l : Launch} {e : Env} {s : State} {m : MethodId} {below : List Frame} {meth : Method} {c : Code} {dC : Nat → ClassId} {dI : Nat → Nat → Nat} {g : Nat → ClassId} {G : (Nat → Prop) → State → Prop} (hG : gok G) (hGn : gN G) {adK adV : Nat → Nat} (hGs : gSt adK adV G) (hGt : gTh G) (hGc : gNC G) (hst : l.stackTraces = false) {b L : Nat} {xs : Nat → Int32} (C0 : lw_At p s m meth c b L xs) (hGA : G (fun q => s.heap.size ≤ q) s) (hK : va_K (dC, dI) vwCl (tyv g) s) (F : Nat) {Rl : (Nat → St) → Nat → St → Prop} (hsim : sim_cut F Rl) {n h hm ho : Nat} {f : Nat → Int64} {u : Nat → Nat → Nat} {x : Nat → St} {qm : Nat → Nat} {y : St} {H : Heap} {locs : List Loc} {ls : Array Slot} {cells slots : Nat} {i : Int32} (hi1 : vp_in (i + 1) L) (hi2 : vp_in (i + 2) L) (hi3 : vp_in (i + 3) L) (hi4 : vp_in (i + 4) L) (hi5 : vp_in (i + 5) L) (hR : Rl x n y) (hP : va_P (dC, dI) vwCl ((wd_O g ho f ++ wd_C g h u x n) ++ wd_MD g hm qm y) H) (hD : va_D (fun q : Nat => s.heap.size ≤ q) ((wd_O g ho f ++ wd_C g h u x n) ++ wd_MD g hm qm y)) (hS : va_S (fun q : Nat => s.heap.size ≤ q) s.heap H locs) (hl : lv_has ls 7 [(0, .ref b), (1, .ref h), (2, .ref hm), (3, .ref ho), (4, .int i)]) (hc : cells + 2 ≤ 601024) (hs : slots + 7 ≤ 7293000)
    (kk : ∀ (f : Nat → Int64) (u : Nat → Nat → Nat) (x : Nat → St) (y : St) (H : Heap) (locs : List Loc) (ls : Array Slot), Rl x n y → va_P (dC, dI) vwCl ((wd_O g ho f ++ wd_C g h u x n) ++ wd_MD g hm qm y) H → va_D (fun q : Nat => s.heap.size ≤ q) ((wd_O g ho f ++ wd_C g h u x n) ++ wd_MD g hm qm y) → va_S (fun q : Nat => s.heap.size ≤ q) s.heap H locs → lv_has ls 7 [(0, .ref b), (1, .ref h), (2, .ref hm), (3, .ref ho), (4, .int i)] → W p l e room_1 s m #[Value.ref b] below meth c H locs (cells + 2) (slots + 7) (lw_Z below #[Value.ref b] s) (F0 m 1349 ls [])) :
    W p l e room_1 s m #[Value.ref b] below meth c H locs cells slots (lw_Z below #[Value.ref b] s) (F0 m 668 ls []) := by
  obtain ⟨hx, hb, hr, hml, hown, hts, hX, hbl, hlocks, hgv⟩ := C0
  have hA : ∀ q : Nat, s.heap.size ≤ q → (fun q : Nat => s.heap.size ≤ q) q := fun _ h => h
  have hbA : ¬ (fun q : Nat => s.heap.size ≤ q) b := Nat.not_le.mpr hbl
  have hts : ∀ w ∈ gw, w.before #[Value.ref b] s = true := fun w h => hts w (List.mem_filter.mp h).1
  have hml : c.maxLocals = 7 := hml
  have hown : s.vm.findClass "AlarmMatrixLaw" = some m.cls := hown
  rcases hsim x n y (xs (i + 1).toNatClampNeg) (xs (i + 2).toNatClampNeg) (if (xs (i + 3).toNatClampNeg) = 0 then (0 : Int32) else 1) hR with ⟨j, o1, o2, hj, ej, hm1, hm2, hk1, hcode, heq, hR2⟩ | ⟨o1, o2, hm1, hm2, hk1, hcode, heq, hR2⟩
  · rw [ej] at hm2
    by_cases hz : (xs (i + 3).toNatClampNeg) = 0
    · rw [if_pos hz] at hm2
      rw [if_pos hz] at hm1
      refine lv_aload_n hx hb d_law_668 rfl (lv_at hl 1 rfl) ?_
      refine lv_aload_n hx hb d_law_669 rfl (lv_at hl 0 rfl) ?_
      refine lv_iload hx hb d_law_670 (lv_at hl 4 rfl) ?_
      refine lv_iconst (v := (1 : Int32)) hx hb d_law_672 (by decide) ?_
      refine lv_iadd hx hb d_law_673 ?_
      refine va_sld hx hb hX hbl hbA hS hi1 d_law_674 ?_
      refine lv_aload_n hx hb d_law_675 rfl (lv_at hl 0 rfl) ?_
      refine lv_iload hx hb d_law_676 (lv_at hl 4 rfl) ?_
      refine lv_iconst (v := (2 : Int32)) hx hb d_law_678 (by decide) ?_
      refine lv_iadd hx hb d_law_679 ?_
      refine va_sld hx hb hX hbl hbA hS hi2 d_law_680 ?_
      refine lv_aload_n hx hb d_law_681 rfl (lv_at hl 0 rfl) ?_
      refine lv_iload hx hb d_law_682 (lv_at hl 4 rfl) ?_
      refine lv_iconst (v := (3 : Int32)) hx hb d_law_684 (by decide) ?_
      refine lv_iadd hx hb d_law_685 ?_
      refine va_sld hx hb hX hbl hbA hS hi3 d_law_686 ?_
      refine lv_if_eq (tgt := 694) hx hb d_law_687 (by decide) (fun _ => ?_) (fun hz9 => absurd hz hz9)
      refine lv_iconst (v := (0 : Int32)) hx hb d_law_694 (by decide) ?_
      refine lv_aload_n hx hb d_law_695 rfl (lv_at hl 3 rfl) ?_
      rw [ej]
      refine kciP (wc := wd_O g ho f ++ wd_C g h u x n) (wr := wd_MD g hm qm y) (w1 := wd_O g ho (oz o1.1 o1.2.1 f) ++ wd_C g h u (up (up x 2 (o1.2.2.2)) (10 + j) (o1.2.2.1)) n) hP hD hS hA (krunSW (As := [.ref h, .int (nI j), .int (xs (i + 2).toNatClampNeg), .int (0 : Int32), .ref ho]) (rest := []) ⟨hx, hb, hml, hown, hts⟩ (c_LW_cut hG hGn hGs hGt hGc l hst dC dI g F H.size h u x n ho f j hj (xs (i + 2).toNatClampNeg) (0 : Int32) hm1 hk1) (kcwS 5 hts (gdSW k4_83 k4_84 k1_0 k4_85) rfl rfl rfl (by decide +kernel) ⟨Nat.le_of_ble_eq_true rfl, Nat.le_of_ble_eq_true rfl⟩) (kpSP hG hP hK hD hS hA hGA) rfl rfl hl.1 rfl (lv_room (Nat.le_of_ble_eq_true rfl)) d_law_696 ⟨(by show cells + 1 ≤ 601024; omega), (by show slots + 6 ≤ 7293000; omega)⟩) (fun H locs hP hD hS => ?_)
      refine lv_istore (lv' := [(5, .int (nI o1.1)), (0, .ref b), (1, .ref h), (2, .ref hm), (3, .ref ho), (4, .int i)]) hx hb d_law_699 hl (by decide) rfl (fun ls hl => ?_)
      refine lv_aload_n hx hb d_law_701 rfl (lv_at hl 3 rfl) ?_
      refine lv_aload_n hx hb d_law_702 rfl (lv_at hl 1 rfl) ?_
      refine lv_iload hx hb d_law_703 (lv_at hl 5 rfl) ?_
      refine lv_iconst (v := (1 : Int32)) hx hb d_law_705 (by decide) ?_
      refine lv_iadd hx hb d_law_706 ?_
      refine va_sld hx hb hX hbl hbA hS hi1 d_law_707 ?_
      refine lv_aload_n hx hb d_law_708 rfl (lv_at hl 1 rfl) ?_
      refine lv_iload hx hb d_law_709 (lv_at hl 5 rfl) ?_
      refine lv_iconst (v := (2 : Int32)) hx hb d_law_711 (by decide) ?_
      refine lv_iadd hx hb d_law_712 ?_
      refine va_sld hx hb hX hbl hbA hS hi2 d_law_713 ?_
      refine lv_aload_n hx hb d_law_714 rfl (lv_at hl 1 rfl) ?_
      refine lv_iload hx hb d_law_715 (lv_at hl 5 rfl) ?_
      refine lv_iconst (v := (3 : Int32)) hx hb d_law_717 (by decide) ?_
      refine lv_iadd hx hb d_law_718 ?_
      refine va_sld hx hb hX hbl hbA hS hi3 d_law_719 ?_
      refine lv_if_eq (tgt := 727) hx hb d_law_720 (by decide) (fun _ => ?_) (fun hz9 => absurd hz hz9)
      refine lv_iconst (v := (0 : Int32)) hx hb d_law_727 (by decide) ?_
      have hP := hP.perm (List.perm_append_comm (l₁ := wd_O g ho (oz o1.1 o1.2.1 f) ++ wd_C g h u (up (up x 2 (o1.2.2.2)) (10 + j) (o1.2.2.1)) n) (l₂ := wd_MD g hm qm y))
      have hD := hD.perm (List.perm_append_comm (l₁ := wd_O g ho (oz o1.1 o1.2.1 f) ++ wd_C g h u (up (up x 2 (o1.2.2.2)) (10 + j) (o1.2.2.1)) n) (l₂ := wd_MD g hm qm y))
      rw [ej]
      refine kciP (wc := wd_MD g hm qm y) (wr := wd_O g ho (oz o1.1 o1.2.1 f) ++ wd_C g h u (up (up x 2 (o1.2.2.2)) (10 + j) (o1.2.2.1)) n) (w1 := wd_MD g hm qm o2.2) hP hD hS hA (va_runV (As := [.int (nI j), .int (xs (i + 2).toNatClampNeg), .int (0 : Int32)]) (rest := []) ⟨hx, hb, hml, hown, hts⟩ (c_MD_cut hG hGn l dC dI g F H.size hm qm y (nI j) (xs (i + 2).toNatClampNeg) (0 : Int32) hm2) (cwV 3 hts (gdV k6_61 k6_62 k6_63 k1_10 k6_64) rfl rfl rfl (by decide +kernel) ⟨Nat.le_of_ble_eq_true rfl, Nat.le_of_ble_eq_true rfl⟩) (kpVP hG hP hK hD hS hA hGA (ci := 10) (q0 := 0) rfl rfl rfl) rfl rfl hl.1 rfl (lv_room (Nat.le_of_ble_eq_true rfl)) d_law_728 ⟨(by show _ + 0 ≤ 601024; omega), (by show _ + 0 ≤ 7293000; omega)⟩) (fun H locs hP hD hS => ?_)
      refine lv_istore (lv' := [(6, .int o2.1), (5, .int (nI o1.1)), (0, .ref b), (1, .ref h), (2, .ref hm), (3, .ref ho), (4, .int i)]) hx hb d_law_731 hl (by decide) rfl (fun ls hl => ?_)
      refine lv_aload_n hx hb d_law_733 rfl (lv_at hl 4 rfl) ?_
      refine kciP (wc := wd_MD g hm qm o2.2) (wr := wd_O g ho (oz o1.1 o1.2.1 f) ++ wd_C g h u (up (up x 2 (o1.2.2.2)) (10 + j) (o1.2.2.1)) n) (w1 := wd_MD g hm qm o2.2) hP hD hS hA (va_runV (As := []) (rest := []) ⟨hx, hb, hml, hown, hts⟩ (c_MD_thrown hG hGn l dC dI g F H.size hm qm o2.2 rfl) (cwV 0 hts (gdV k5_147 k5_148 k5_149 k1_10 k5_150) rfl rfl rfl (by decide +kernel) ⟨Nat.le_of_ble_eq_true rfl, Nat.le_of_ble_eq_true rfl⟩) (kpVP hG hP hK hD hS hA hGA (ci := 10) (q0 := 0) rfl rfl rfl) rfl rfl hl.1 rfl (lv_room (Nat.le_of_ble_eq_true rfl)) d_law_734 ⟨(by show _ + 0 ≤ 601024; omega), (by show _ + 0 ≤ 7293000; omega)⟩) (fun H locs hP hD hS => ?_)
      have hP := hP.perm (List.perm_append_comm (l₁ := wd_MD g hm qm o2.2) (l₂ := wd_O g ho (oz o1.1 o1.2.1 f) ++ wd_C g h u (up (up x 2 (o1.2.2.2)) (10 + j) (o1.2.2.1)) n))
      have hD := hD.perm (List.perm_append_comm (l₁ := wd_MD g hm qm o2.2) (l₂ := wd_O g ho (oz o1.1 o1.2.1 f) ++ wd_C g h u (up (up x 2 (o1.2.2.2)) (10 + j) (o1.2.2.1)) n))
      refine lv_iload hx hb d_law_737 (lv_at hl 1 rfl) ?_
      refine lv_icmp_eq (tgt := 744) hx hb d_law_739 (by decide) (fun _ => ?_) (fun h9 => absurd hcode h9)
      refine lv_iload hx hb d_law_744 (lv_at hl 1 rfl) ?_
      refine lv_if_ne (tgt := 768) hx hb d_law_746 (by decide) (fun _ => ?_) (fun h9 => ?_)
      · refine lv_goto (tgt := 1349) hx hb d_law_768 (by decide) ?_
        exact W.widen (by omega) (by omega) (kk _ _ _ _ H locs ls hR2 hP hD hS (lv_sub hl [2, 3, 4, 5, 6] rfl))
      · have h0 : o1.1 = 0 := by rcases hk1 with hk1 | hk1 <;> (rw [hk1] at h9 ⊢) <;> revert h9 <;> decide
        have h8 := heq h0
        refine lv_aload_n hx hb d_law_749 rfl (lv_at hl 5 rfl) ?_
        refine lv_iconst (v := (0 : Int32)) hx hb d_law_750 (by decide) ?_
        refine va_lald hx hb hK hP 0 4 rfl rfl (by unfold vp_in; decide) d_law_751 ?_
        refine lv_iload hx hb d_law_752 (lv_at hl 0 rfl) ?_
        have e9 : (oz o1.1 o1.2.1 f) (0 : Int32).toNatClampNeg = (if o2.1 = 0 then 0 else 1) := by rw [h0, h8]; unfold oz; simp [vp_updL]
        rw [e9]
        refine lv_if_eq (tgt := 761) hx hb d_law_754 (by decide) (fun h7 => ?_) (fun h7 => ?_)
        · refine lv_lconst (v := (0 : Int64)) hx hb d_law_761 (by decide) ?_
          rw [if_pos h7]
          refine W.lcmp hx hb d_law_762 ?_
          refine lv_if_eq (tgt := 768) hx hb d_law_763 (by decide) (fun _ => ?_) (fun h7 => absurd (by unfold lg_cmp; simp) h7)
          refine lv_goto (tgt := 1349) hx hb d_law_768 (by decide) ?_
          exact W.widen (by omega) (by omega) (kk _ _ _ _ H locs ls hR2 hP hD hS (lv_sub hl [2, 3, 4, 5, 6] rfl))
        · refine lv_lconst (v := (1 : Int64)) hx hb d_law_757 (by decide) ?_
          refine lv_goto (tgt := 762) hx hb d_law_758 (by decide) ?_
          rw [if_neg h7]
          refine W.lcmp hx hb d_law_762 ?_
          refine lv_if_eq (tgt := 768) hx hb d_law_763 (by decide) (fun _ => ?_) (fun h7 => absurd (by unfold lg_cmp; simp) h7)
          refine lv_goto (tgt := 1349) hx hb d_law_768 (by decide) ?_
          exact W.widen (by omega) (by omega) (kk _ _ _ _ H locs ls hR2 hP hD hS (lv_sub hl [2, 3, 4, 5, 6] rfl))
    · rw [if_neg hz] at hm2
      rw [if_neg hz] at hm1
      refine lv_aload_n hx hb d_law_668 rfl (lv_at hl 1 rfl) ?_
      refine lv_aload_n hx hb d_law_669 rfl (lv_at hl 0 rfl) ?_
      refine lv_iload hx hb d_law_670 (lv_at hl 4 rfl) ?_
      refine lv_iconst (v := (1 : Int32)) hx hb d_law_672 (by decide) ?_
      refine lv_iadd hx hb d_law_673 ?_
      refine va_sld hx hb hX hbl hbA hS hi1 d_law_674 ?_
      refine lv_aload_n hx hb d_law_675 rfl (lv_at hl 0 rfl) ?_
      refine lv_iload hx hb d_law_676 (lv_at hl 4 rfl) ?_
      refine lv_iconst (v := (2 : Int32)) hx hb d_law_678 (by decide) ?_
      refine lv_iadd hx hb d_law_679 ?_
      refine va_sld hx hb hX hbl hbA hS hi2 d_law_680 ?_
      refine lv_aload_n hx hb d_law_681 rfl (lv_at hl 0 rfl) ?_
      refine lv_iload hx hb d_law_682 (lv_at hl 4 rfl) ?_
      refine lv_iconst (v := (3 : Int32)) hx hb d_law_684 (by decide) ?_
      refine lv_iadd hx hb d_law_685 ?_
      refine va_sld hx hb hX hbl hbA hS hi3 d_law_686 ?_
      refine lv_if_eq (tgt := 694) hx hb d_law_687 (by decide) (fun hz9 => absurd hz9 hz) (fun _ => ?_)
      refine lv_iconst (v := (1 : Int32)) hx hb d_law_690 (by decide) ?_
      refine lv_goto (tgt := 695) hx hb d_law_691 (by decide) ?_
      refine lv_aload_n hx hb d_law_695 rfl (lv_at hl 3 rfl) ?_
      rw [ej]
      refine kciP (wc := wd_O g ho f ++ wd_C g h u x n) (wr := wd_MD g hm qm y) (w1 := wd_O g ho (oz o1.1 o1.2.1 f) ++ wd_C g h u (up (up x 2 (o1.2.2.2)) (10 + j) (o1.2.2.1)) n) hP hD hS hA (krunSW (As := [.ref h, .int (nI j), .int (xs (i + 2).toNatClampNeg), .int (1 : Int32), .ref ho]) (rest := []) ⟨hx, hb, hml, hown, hts⟩ (c_LW_cut hG hGn hGs hGt hGc l hst dC dI g F H.size h u x n ho f j hj (xs (i + 2).toNatClampNeg) (1 : Int32) hm1 hk1) (kcwS 5 hts (gdSW k4_83 k4_84 k1_0 k4_85) rfl rfl rfl (by decide +kernel) ⟨Nat.le_of_ble_eq_true rfl, Nat.le_of_ble_eq_true rfl⟩) (kpSP hG hP hK hD hS hA hGA) rfl rfl hl.1 rfl (lv_room (Nat.le_of_ble_eq_true rfl)) d_law_696 ⟨(by show cells + 1 ≤ 601024; omega), (by show slots + 6 ≤ 7293000; omega)⟩) (fun H locs hP hD hS => ?_)
      refine lv_istore (lv' := [(5, .int (nI o1.1)), (0, .ref b), (1, .ref h), (2, .ref hm), (3, .ref ho), (4, .int i)]) hx hb d_law_699 hl (by decide) rfl (fun ls hl => ?_)
      refine lv_aload_n hx hb d_law_701 rfl (lv_at hl 3 rfl) ?_
      refine lv_aload_n hx hb d_law_702 rfl (lv_at hl 1 rfl) ?_
      refine lv_iload hx hb d_law_703 (lv_at hl 5 rfl) ?_
      refine lv_iconst (v := (1 : Int32)) hx hb d_law_705 (by decide) ?_
      refine lv_iadd hx hb d_law_706 ?_
      refine va_sld hx hb hX hbl hbA hS hi1 d_law_707 ?_
      refine lv_aload_n hx hb d_law_708 rfl (lv_at hl 1 rfl) ?_
      refine lv_iload hx hb d_law_709 (lv_at hl 5 rfl) ?_
      refine lv_iconst (v := (2 : Int32)) hx hb d_law_711 (by decide) ?_
      refine lv_iadd hx hb d_law_712 ?_
      refine va_sld hx hb hX hbl hbA hS hi2 d_law_713 ?_
      refine lv_aload_n hx hb d_law_714 rfl (lv_at hl 1 rfl) ?_
      refine lv_iload hx hb d_law_715 (lv_at hl 5 rfl) ?_
      refine lv_iconst (v := (3 : Int32)) hx hb d_law_717 (by decide) ?_
      refine lv_iadd hx hb d_law_718 ?_
      refine va_sld hx hb hX hbl hbA hS hi3 d_law_719 ?_
      refine lv_if_eq (tgt := 727) hx hb d_law_720 (by decide) (fun hz9 => absurd hz9 hz) (fun _ => ?_)
      refine lv_iconst (v := (1 : Int32)) hx hb d_law_723 (by decide) ?_
      refine lv_goto (tgt := 728) hx hb d_law_724 (by decide) ?_
      have hP := hP.perm (List.perm_append_comm (l₁ := wd_O g ho (oz o1.1 o1.2.1 f) ++ wd_C g h u (up (up x 2 (o1.2.2.2)) (10 + j) (o1.2.2.1)) n) (l₂ := wd_MD g hm qm y))
      have hD := hD.perm (List.perm_append_comm (l₁ := wd_O g ho (oz o1.1 o1.2.1 f) ++ wd_C g h u (up (up x 2 (o1.2.2.2)) (10 + j) (o1.2.2.1)) n) (l₂ := wd_MD g hm qm y))
      rw [ej]
      refine kciP (wc := wd_MD g hm qm y) (wr := wd_O g ho (oz o1.1 o1.2.1 f) ++ wd_C g h u (up (up x 2 (o1.2.2.2)) (10 + j) (o1.2.2.1)) n) (w1 := wd_MD g hm qm o2.2) hP hD hS hA (va_runV (As := [.int (nI j), .int (xs (i + 2).toNatClampNeg), .int (1 : Int32)]) (rest := []) ⟨hx, hb, hml, hown, hts⟩ (c_MD_cut hG hGn l dC dI g F H.size hm qm y (nI j) (xs (i + 2).toNatClampNeg) (1 : Int32) hm2) (cwV 3 hts (gdV k6_61 k6_62 k6_63 k1_10 k6_64) rfl rfl rfl (by decide +kernel) ⟨Nat.le_of_ble_eq_true rfl, Nat.le_of_ble_eq_true rfl⟩) (kpVP hG hP hK hD hS hA hGA (ci := 10) (q0 := 0) rfl rfl rfl) rfl rfl hl.1 rfl (lv_room (Nat.le_of_ble_eq_true rfl)) d_law_728 ⟨(by show _ + 0 ≤ 601024; omega), (by show _ + 0 ≤ 7293000; omega)⟩) (fun H locs hP hD hS => ?_)
      refine lv_istore (lv' := [(6, .int o2.1), (5, .int (nI o1.1)), (0, .ref b), (1, .ref h), (2, .ref hm), (3, .ref ho), (4, .int i)]) hx hb d_law_731 hl (by decide) rfl (fun ls hl => ?_)
      refine lv_aload_n hx hb d_law_733 rfl (lv_at hl 4 rfl) ?_
      refine kciP (wc := wd_MD g hm qm o2.2) (wr := wd_O g ho (oz o1.1 o1.2.1 f) ++ wd_C g h u (up (up x 2 (o1.2.2.2)) (10 + j) (o1.2.2.1)) n) (w1 := wd_MD g hm qm o2.2) hP hD hS hA (va_runV (As := []) (rest := []) ⟨hx, hb, hml, hown, hts⟩ (c_MD_thrown hG hGn l dC dI g F H.size hm qm o2.2 rfl) (cwV 0 hts (gdV k5_147 k5_148 k5_149 k1_10 k5_150) rfl rfl rfl (by decide +kernel) ⟨Nat.le_of_ble_eq_true rfl, Nat.le_of_ble_eq_true rfl⟩) (kpVP hG hP hK hD hS hA hGA (ci := 10) (q0 := 0) rfl rfl rfl) rfl rfl hl.1 rfl (lv_room (Nat.le_of_ble_eq_true rfl)) d_law_734 ⟨(by show _ + 0 ≤ 601024; omega), (by show _ + 0 ≤ 7293000; omega)⟩) (fun H locs hP hD hS => ?_)
      have hP := hP.perm (List.perm_append_comm (l₁ := wd_MD g hm qm o2.2) (l₂ := wd_O g ho (oz o1.1 o1.2.1 f) ++ wd_C g h u (up (up x 2 (o1.2.2.2)) (10 + j) (o1.2.2.1)) n))
      have hD := hD.perm (List.perm_append_comm (l₁ := wd_MD g hm qm o2.2) (l₂ := wd_O g ho (oz o1.1 o1.2.1 f) ++ wd_C g h u (up (up x 2 (o1.2.2.2)) (10 + j) (o1.2.2.1)) n))
      refine lv_iload hx hb d_law_737 (lv_at hl 1 rfl) ?_
      refine lv_icmp_eq (tgt := 744) hx hb d_law_739 (by decide) (fun _ => ?_) (fun h9 => absurd hcode h9)
      refine lv_iload hx hb d_law_744 (lv_at hl 1 rfl) ?_
      refine lv_if_ne (tgt := 768) hx hb d_law_746 (by decide) (fun _ => ?_) (fun h9 => ?_)
      · refine lv_goto (tgt := 1349) hx hb d_law_768 (by decide) ?_
        exact W.widen (by omega) (by omega) (kk _ _ _ _ H locs ls hR2 hP hD hS (lv_sub hl [2, 3, 4, 5, 6] rfl))
      · have h0 : o1.1 = 0 := by rcases hk1 with hk1 | hk1 <;> (rw [hk1] at h9 ⊢) <;> revert h9 <;> decide
        have h8 := heq h0
        refine lv_aload_n hx hb d_law_749 rfl (lv_at hl 5 rfl) ?_
        refine lv_iconst (v := (0 : Int32)) hx hb d_law_750 (by decide) ?_
        refine va_lald hx hb hK hP 0 4 rfl rfl (by unfold vp_in; decide) d_law_751 ?_
        refine lv_iload hx hb d_law_752 (lv_at hl 0 rfl) ?_
        have e9 : (oz o1.1 o1.2.1 f) (0 : Int32).toNatClampNeg = (if o2.1 = 0 then 0 else 1) := by rw [h0, h8]; unfold oz; simp [vp_updL]
        rw [e9]
        refine lv_if_eq (tgt := 761) hx hb d_law_754 (by decide) (fun h7 => ?_) (fun h7 => ?_)
        · refine lv_lconst (v := (0 : Int64)) hx hb d_law_761 (by decide) ?_
          rw [if_pos h7]
          refine W.lcmp hx hb d_law_762 ?_
          refine lv_if_eq (tgt := 768) hx hb d_law_763 (by decide) (fun _ => ?_) (fun h7 => absurd (by unfold lg_cmp; simp) h7)
          refine lv_goto (tgt := 1349) hx hb d_law_768 (by decide) ?_
          exact W.widen (by omega) (by omega) (kk _ _ _ _ H locs ls hR2 hP hD hS (lv_sub hl [2, 3, 4, 5, 6] rfl))
        · refine lv_lconst (v := (1 : Int64)) hx hb d_law_757 (by decide) ?_
          refine lv_goto (tgt := 762) hx hb d_law_758 (by decide) ?_
          rw [if_neg h7]
          refine W.lcmp hx hb d_law_762 ?_
          refine lv_if_eq (tgt := 768) hx hb d_law_763 (by decide) (fun _ => ?_) (fun h7 => absurd (by unfold lg_cmp; simp) h7)
          refine lv_goto (tgt := 1349) hx hb d_law_768 (by decide) ?_
          exact W.widen (by omega) (by omega) (kk _ _ _ _ H locs ls hR2 hP hD hS (lv_sub hl [2, 3, 4, 5, 6] rfl))
  · by_cases hz : (xs (i + 3).toNatClampNeg) = 0
    · rw [if_pos hz] at hm2
      rw [if_pos hz] at hm1
      refine lv_aload_n hx hb d_law_668 rfl (lv_at hl 1 rfl) ?_
      refine lv_aload_n hx hb d_law_669 rfl (lv_at hl 0 rfl) ?_
      refine lv_iload hx hb d_law_670 (lv_at hl 4 rfl) ?_
      refine lv_iconst (v := (1 : Int32)) hx hb d_law_672 (by decide) ?_
      refine lv_iadd hx hb d_law_673 ?_
      refine va_sld hx hb hX hbl hbA hS hi1 d_law_674 ?_
      refine lv_aload_n hx hb d_law_675 rfl (lv_at hl 0 rfl) ?_
      refine lv_iload hx hb d_law_676 (lv_at hl 4 rfl) ?_
      refine lv_iconst (v := (2 : Int32)) hx hb d_law_678 (by decide) ?_
      refine lv_iadd hx hb d_law_679 ?_
      refine va_sld hx hb hX hbl hbA hS hi2 d_law_680 ?_
      refine lv_aload_n hx hb d_law_681 rfl (lv_at hl 0 rfl) ?_
      refine lv_iload hx hb d_law_682 (lv_at hl 4 rfl) ?_
      refine lv_iconst (v := (3 : Int32)) hx hb d_law_684 (by decide) ?_
      refine lv_iadd hx hb d_law_685 ?_
      refine va_sld hx hb hX hbl hbA hS hi3 d_law_686 ?_
      refine lv_if_eq (tgt := 694) hx hb d_law_687 (by decide) (fun _ => ?_) (fun hz9 => absurd hz hz9)
      refine lv_iconst (v := (0 : Int32)) hx hb d_law_694 (by decide) ?_
      refine lv_aload_n hx hb d_law_695 rfl (lv_at hl 3 rfl) ?_
      refine kciP (wc := wd_O g ho f ++ wd_C g h u x n) (wr := wd_MD g hm qm y) (w1 := wd_O g ho (oz o1.1 o1.2 f) ++ wd_C g h u x n) hP hD hS hA (krunSW (As := [.ref h, .int (xs (i + 1).toNatClampNeg), .int (xs (i + 2).toNatClampNeg), .int (0 : Int32), .ref ho]) (rest := []) ⟨hx, hb, hml, hown, hts⟩ (c_LW_cut_x hG hGn hGs hGt hGc l hst dC dI g F H.size h u x n ho f (xs (i + 1).toNatClampNeg) (xs (i + 2).toNatClampNeg) (0 : Int32) hm1 hk1) (kcwS 5 hts (gdSW k4_83 k4_84 k1_0 k4_85) rfl rfl rfl (by decide +kernel) ⟨Nat.le_of_ble_eq_true rfl, Nat.le_of_ble_eq_true rfl⟩) (kpSP hG hP hK hD hS hA hGA) rfl rfl hl.1 rfl (lv_room (Nat.le_of_ble_eq_true rfl)) d_law_696 ⟨(by show cells + 1 ≤ 601024; omega), (by show slots + 6 ≤ 7293000; omega)⟩) (fun H locs hP hD hS => ?_)
      refine lv_istore (lv' := [(5, .int (nI o1.1)), (0, .ref b), (1, .ref h), (2, .ref hm), (3, .ref ho), (4, .int i)]) hx hb d_law_699 hl (by decide) rfl (fun ls hl => ?_)
      refine lv_aload_n hx hb d_law_701 rfl (lv_at hl 3 rfl) ?_
      refine lv_aload_n hx hb d_law_702 rfl (lv_at hl 1 rfl) ?_
      refine lv_iload hx hb d_law_703 (lv_at hl 5 rfl) ?_
      refine lv_iconst (v := (1 : Int32)) hx hb d_law_705 (by decide) ?_
      refine lv_iadd hx hb d_law_706 ?_
      refine va_sld hx hb hX hbl hbA hS hi1 d_law_707 ?_
      refine lv_aload_n hx hb d_law_708 rfl (lv_at hl 1 rfl) ?_
      refine lv_iload hx hb d_law_709 (lv_at hl 5 rfl) ?_
      refine lv_iconst (v := (2 : Int32)) hx hb d_law_711 (by decide) ?_
      refine lv_iadd hx hb d_law_712 ?_
      refine va_sld hx hb hX hbl hbA hS hi2 d_law_713 ?_
      refine lv_aload_n hx hb d_law_714 rfl (lv_at hl 1 rfl) ?_
      refine lv_iload hx hb d_law_715 (lv_at hl 5 rfl) ?_
      refine lv_iconst (v := (3 : Int32)) hx hb d_law_717 (by decide) ?_
      refine lv_iadd hx hb d_law_718 ?_
      refine va_sld hx hb hX hbl hbA hS hi3 d_law_719 ?_
      refine lv_if_eq (tgt := 727) hx hb d_law_720 (by decide) (fun _ => ?_) (fun hz9 => absurd hz hz9)
      refine lv_iconst (v := (0 : Int32)) hx hb d_law_727 (by decide) ?_
      have hP := hP.perm (List.perm_append_comm (l₁ := wd_O g ho (oz o1.1 o1.2 f) ++ wd_C g h u x n) (l₂ := wd_MD g hm qm y))
      have hD := hD.perm (List.perm_append_comm (l₁ := wd_O g ho (oz o1.1 o1.2 f) ++ wd_C g h u x n) (l₂ := wd_MD g hm qm y))
      refine kciP (wc := wd_MD g hm qm y) (wr := wd_O g ho (oz o1.1 o1.2 f) ++ wd_C g h u x n) (w1 := wd_MD g hm qm o2.2) hP hD hS hA (va_runV (As := [.int (xs (i + 1).toNatClampNeg), .int (xs (i + 2).toNatClampNeg), .int (0 : Int32)]) (rest := []) ⟨hx, hb, hml, hown, hts⟩ (c_MD_cut hG hGn l dC dI g F H.size hm qm y (xs (i + 1).toNatClampNeg) (xs (i + 2).toNatClampNeg) (0 : Int32) hm2) (cwV 3 hts (gdV k6_61 k6_62 k6_63 k1_10 k6_64) rfl rfl rfl (by decide +kernel) ⟨Nat.le_of_ble_eq_true rfl, Nat.le_of_ble_eq_true rfl⟩) (kpVP hG hP hK hD hS hA hGA (ci := 10) (q0 := 0) rfl rfl rfl) rfl rfl hl.1 rfl (lv_room (Nat.le_of_ble_eq_true rfl)) d_law_728 ⟨(by show _ + 0 ≤ 601024; omega), (by show _ + 0 ≤ 7293000; omega)⟩) (fun H locs hP hD hS => ?_)
      refine lv_istore (lv' := [(6, .int o2.1), (5, .int (nI o1.1)), (0, .ref b), (1, .ref h), (2, .ref hm), (3, .ref ho), (4, .int i)]) hx hb d_law_731 hl (by decide) rfl (fun ls hl => ?_)
      refine lv_aload_n hx hb d_law_733 rfl (lv_at hl 4 rfl) ?_
      refine kciP (wc := wd_MD g hm qm o2.2) (wr := wd_O g ho (oz o1.1 o1.2 f) ++ wd_C g h u x n) (w1 := wd_MD g hm qm o2.2) hP hD hS hA (va_runV (As := []) (rest := []) ⟨hx, hb, hml, hown, hts⟩ (c_MD_thrown hG hGn l dC dI g F H.size hm qm o2.2 rfl) (cwV 0 hts (gdV k5_147 k5_148 k5_149 k1_10 k5_150) rfl rfl rfl (by decide +kernel) ⟨Nat.le_of_ble_eq_true rfl, Nat.le_of_ble_eq_true rfl⟩) (kpVP hG hP hK hD hS hA hGA (ci := 10) (q0 := 0) rfl rfl rfl) rfl rfl hl.1 rfl (lv_room (Nat.le_of_ble_eq_true rfl)) d_law_734 ⟨(by show _ + 0 ≤ 601024; omega), (by show _ + 0 ≤ 7293000; omega)⟩) (fun H locs hP hD hS => ?_)
      have hP := hP.perm (List.perm_append_comm (l₁ := wd_MD g hm qm o2.2) (l₂ := wd_O g ho (oz o1.1 o1.2 f) ++ wd_C g h u x n))
      have hD := hD.perm (List.perm_append_comm (l₁ := wd_MD g hm qm o2.2) (l₂ := wd_O g ho (oz o1.1 o1.2 f) ++ wd_C g h u x n))
      refine lv_iload hx hb d_law_737 (lv_at hl 1 rfl) ?_
      refine lv_icmp_eq (tgt := 744) hx hb d_law_739 (by decide) (fun _ => ?_) (fun h9 => absurd hcode h9)
      refine lv_iload hx hb d_law_744 (lv_at hl 1 rfl) ?_
      refine lv_if_ne (tgt := 768) hx hb d_law_746 (by decide) (fun _ => ?_) (fun h9 => ?_)
      · refine lv_goto (tgt := 1349) hx hb d_law_768 (by decide) ?_
        exact W.widen (by omega) (by omega) (kk _ _ _ _ H locs ls hR2 hP hD hS (lv_sub hl [2, 3, 4, 5, 6] rfl))
      · have h0 : o1.1 = 0 := by rcases hk1 with hk1 | hk1 <;> (rw [hk1] at h9 ⊢) <;> revert h9 <;> decide
        have h8 := heq h0
        refine lv_aload_n hx hb d_law_749 rfl (lv_at hl 5 rfl) ?_
        refine lv_iconst (v := (0 : Int32)) hx hb d_law_750 (by decide) ?_
        refine va_lald hx hb hK hP 0 4 rfl rfl (by unfold vp_in; decide) d_law_751 ?_
        refine lv_iload hx hb d_law_752 (lv_at hl 0 rfl) ?_
        have e9 : (oz o1.1 o1.2 f) (0 : Int32).toNatClampNeg = (if o2.1 = 0 then 0 else 1) := by rw [h0, h8]; unfold oz; simp [vp_updL]
        rw [e9]
        refine lv_if_eq (tgt := 761) hx hb d_law_754 (by decide) (fun h7 => ?_) (fun h7 => ?_)
        · refine lv_lconst (v := (0 : Int64)) hx hb d_law_761 (by decide) ?_
          rw [if_pos h7]
          refine W.lcmp hx hb d_law_762 ?_
          refine lv_if_eq (tgt := 768) hx hb d_law_763 (by decide) (fun _ => ?_) (fun h7 => absurd (by unfold lg_cmp; simp) h7)
          refine lv_goto (tgt := 1349) hx hb d_law_768 (by decide) ?_
          exact W.widen (by omega) (by omega) (kk _ _ _ _ H locs ls hR2 hP hD hS (lv_sub hl [2, 3, 4, 5, 6] rfl))
        · refine lv_lconst (v := (1 : Int64)) hx hb d_law_757 (by decide) ?_
          refine lv_goto (tgt := 762) hx hb d_law_758 (by decide) ?_
          rw [if_neg h7]
          refine W.lcmp hx hb d_law_762 ?_
          refine lv_if_eq (tgt := 768) hx hb d_law_763 (by decide) (fun _ => ?_) (fun h7 => absurd (by unfold lg_cmp; simp) h7)
          refine lv_goto (tgt := 1349) hx hb d_law_768 (by decide) ?_
          exact W.widen (by omega) (by omega) (kk _ _ _ _ H locs ls hR2 hP hD hS (lv_sub hl [2, 3, 4, 5, 6] rfl))
    · rw [if_neg hz] at hm2
      rw [if_neg hz] at hm1
      refine lv_aload_n hx hb d_law_668 rfl (lv_at hl 1 rfl) ?_
      refine lv_aload_n hx hb d_law_669 rfl (lv_at hl 0 rfl) ?_
      refine lv_iload hx hb d_law_670 (lv_at hl 4 rfl) ?_
      refine lv_iconst (v := (1 : Int32)) hx hb d_law_672 (by decide) ?_
      refine lv_iadd hx hb d_law_673 ?_
      refine va_sld hx hb hX hbl hbA hS hi1 d_law_674 ?_
      refine lv_aload_n hx hb d_law_675 rfl (lv_at hl 0 rfl) ?_
      refine lv_iload hx hb d_law_676 (lv_at hl 4 rfl) ?_
      refine lv_iconst (v := (2 : Int32)) hx hb d_law_678 (by decide) ?_
      refine lv_iadd hx hb d_law_679 ?_
      refine va_sld hx hb hX hbl hbA hS hi2 d_law_680 ?_
      refine lv_aload_n hx hb d_law_681 rfl (lv_at hl 0 rfl) ?_
      refine lv_iload hx hb d_law_682 (lv_at hl 4 rfl) ?_
      refine lv_iconst (v := (3 : Int32)) hx hb d_law_684 (by decide) ?_
      refine lv_iadd hx hb d_law_685 ?_
      refine va_sld hx hb hX hbl hbA hS hi3 d_law_686 ?_
      refine lv_if_eq (tgt := 694) hx hb d_law_687 (by decide) (fun hz9 => absurd hz9 hz) (fun _ => ?_)
      refine lv_iconst (v := (1 : Int32)) hx hb d_law_690 (by decide) ?_
      refine lv_goto (tgt := 695) hx hb d_law_691 (by decide) ?_
      refine lv_aload_n hx hb d_law_695 rfl (lv_at hl 3 rfl) ?_
      refine kciP (wc := wd_O g ho f ++ wd_C g h u x n) (wr := wd_MD g hm qm y) (w1 := wd_O g ho (oz o1.1 o1.2 f) ++ wd_C g h u x n) hP hD hS hA (krunSW (As := [.ref h, .int (xs (i + 1).toNatClampNeg), .int (xs (i + 2).toNatClampNeg), .int (1 : Int32), .ref ho]) (rest := []) ⟨hx, hb, hml, hown, hts⟩ (c_LW_cut_x hG hGn hGs hGt hGc l hst dC dI g F H.size h u x n ho f (xs (i + 1).toNatClampNeg) (xs (i + 2).toNatClampNeg) (1 : Int32) hm1 hk1) (kcwS 5 hts (gdSW k4_83 k4_84 k1_0 k4_85) rfl rfl rfl (by decide +kernel) ⟨Nat.le_of_ble_eq_true rfl, Nat.le_of_ble_eq_true rfl⟩) (kpSP hG hP hK hD hS hA hGA) rfl rfl hl.1 rfl (lv_room (Nat.le_of_ble_eq_true rfl)) d_law_696 ⟨(by show cells + 1 ≤ 601024; omega), (by show slots + 6 ≤ 7293000; omega)⟩) (fun H locs hP hD hS => ?_)
      refine lv_istore (lv' := [(5, .int (nI o1.1)), (0, .ref b), (1, .ref h), (2, .ref hm), (3, .ref ho), (4, .int i)]) hx hb d_law_699 hl (by decide) rfl (fun ls hl => ?_)
      refine lv_aload_n hx hb d_law_701 rfl (lv_at hl 3 rfl) ?_
      refine lv_aload_n hx hb d_law_702 rfl (lv_at hl 1 rfl) ?_
      refine lv_iload hx hb d_law_703 (lv_at hl 5 rfl) ?_
      refine lv_iconst (v := (1 : Int32)) hx hb d_law_705 (by decide) ?_
      refine lv_iadd hx hb d_law_706 ?_
      refine va_sld hx hb hX hbl hbA hS hi1 d_law_707 ?_
      refine lv_aload_n hx hb d_law_708 rfl (lv_at hl 1 rfl) ?_
      refine lv_iload hx hb d_law_709 (lv_at hl 5 rfl) ?_
      refine lv_iconst (v := (2 : Int32)) hx hb d_law_711 (by decide) ?_
      refine lv_iadd hx hb d_law_712 ?_
      refine va_sld hx hb hX hbl hbA hS hi2 d_law_713 ?_
      refine lv_aload_n hx hb d_law_714 rfl (lv_at hl 1 rfl) ?_
      refine lv_iload hx hb d_law_715 (lv_at hl 5 rfl) ?_
      refine lv_iconst (v := (3 : Int32)) hx hb d_law_717 (by decide) ?_
      refine lv_iadd hx hb d_law_718 ?_
      refine va_sld hx hb hX hbl hbA hS hi3 d_law_719 ?_
      refine lv_if_eq (tgt := 727) hx hb d_law_720 (by decide) (fun hz9 => absurd hz9 hz) (fun _ => ?_)
      refine lv_iconst (v := (1 : Int32)) hx hb d_law_723 (by decide) ?_
      refine lv_goto (tgt := 728) hx hb d_law_724 (by decide) ?_
      have hP := hP.perm (List.perm_append_comm (l₁ := wd_O g ho (oz o1.1 o1.2 f) ++ wd_C g h u x n) (l₂ := wd_MD g hm qm y))
      have hD := hD.perm (List.perm_append_comm (l₁ := wd_O g ho (oz o1.1 o1.2 f) ++ wd_C g h u x n) (l₂ := wd_MD g hm qm y))
      refine kciP (wc := wd_MD g hm qm y) (wr := wd_O g ho (oz o1.1 o1.2 f) ++ wd_C g h u x n) (w1 := wd_MD g hm qm o2.2) hP hD hS hA (va_runV (As := [.int (xs (i + 1).toNatClampNeg), .int (xs (i + 2).toNatClampNeg), .int (1 : Int32)]) (rest := []) ⟨hx, hb, hml, hown, hts⟩ (c_MD_cut hG hGn l dC dI g F H.size hm qm y (xs (i + 1).toNatClampNeg) (xs (i + 2).toNatClampNeg) (1 : Int32) hm2) (cwV 3 hts (gdV k6_61 k6_62 k6_63 k1_10 k6_64) rfl rfl rfl (by decide +kernel) ⟨Nat.le_of_ble_eq_true rfl, Nat.le_of_ble_eq_true rfl⟩) (kpVP hG hP hK hD hS hA hGA (ci := 10) (q0 := 0) rfl rfl rfl) rfl rfl hl.1 rfl (lv_room (Nat.le_of_ble_eq_true rfl)) d_law_728 ⟨(by show _ + 0 ≤ 601024; omega), (by show _ + 0 ≤ 7293000; omega)⟩) (fun H locs hP hD hS => ?_)
      refine lv_istore (lv' := [(6, .int o2.1), (5, .int (nI o1.1)), (0, .ref b), (1, .ref h), (2, .ref hm), (3, .ref ho), (4, .int i)]) hx hb d_law_731 hl (by decide) rfl (fun ls hl => ?_)
      refine lv_aload_n hx hb d_law_733 rfl (lv_at hl 4 rfl) ?_
      refine kciP (wc := wd_MD g hm qm o2.2) (wr := wd_O g ho (oz o1.1 o1.2 f) ++ wd_C g h u x n) (w1 := wd_MD g hm qm o2.2) hP hD hS hA (va_runV (As := []) (rest := []) ⟨hx, hb, hml, hown, hts⟩ (c_MD_thrown hG hGn l dC dI g F H.size hm qm o2.2 rfl) (cwV 0 hts (gdV k5_147 k5_148 k5_149 k1_10 k5_150) rfl rfl rfl (by decide +kernel) ⟨Nat.le_of_ble_eq_true rfl, Nat.le_of_ble_eq_true rfl⟩) (kpVP hG hP hK hD hS hA hGA (ci := 10) (q0 := 0) rfl rfl rfl) rfl rfl hl.1 rfl (lv_room (Nat.le_of_ble_eq_true rfl)) d_law_734 ⟨(by show _ + 0 ≤ 601024; omega), (by show _ + 0 ≤ 7293000; omega)⟩) (fun H locs hP hD hS => ?_)
      have hP := hP.perm (List.perm_append_comm (l₁ := wd_MD g hm qm o2.2) (l₂ := wd_O g ho (oz o1.1 o1.2 f) ++ wd_C g h u x n))
      have hD := hD.perm (List.perm_append_comm (l₁ := wd_MD g hm qm o2.2) (l₂ := wd_O g ho (oz o1.1 o1.2 f) ++ wd_C g h u x n))
      refine lv_iload hx hb d_law_737 (lv_at hl 1 rfl) ?_
      refine lv_icmp_eq (tgt := 744) hx hb d_law_739 (by decide) (fun _ => ?_) (fun h9 => absurd hcode h9)
      refine lv_iload hx hb d_law_744 (lv_at hl 1 rfl) ?_
      refine lv_if_ne (tgt := 768) hx hb d_law_746 (by decide) (fun _ => ?_) (fun h9 => ?_)
      · refine lv_goto (tgt := 1349) hx hb d_law_768 (by decide) ?_
        exact W.widen (by omega) (by omega) (kk _ _ _ _ H locs ls hR2 hP hD hS (lv_sub hl [2, 3, 4, 5, 6] rfl))
      · have h0 : o1.1 = 0 := by rcases hk1 with hk1 | hk1 <;> (rw [hk1] at h9 ⊢) <;> revert h9 <;> decide
        have h8 := heq h0
        refine lv_aload_n hx hb d_law_749 rfl (lv_at hl 5 rfl) ?_
        refine lv_iconst (v := (0 : Int32)) hx hb d_law_750 (by decide) ?_
        refine va_lald hx hb hK hP 0 4 rfl rfl (by unfold vp_in; decide) d_law_751 ?_
        refine lv_iload hx hb d_law_752 (lv_at hl 0 rfl) ?_
        have e9 : (oz o1.1 o1.2 f) (0 : Int32).toNatClampNeg = (if o2.1 = 0 then 0 else 1) := by rw [h0, h8]; unfold oz; simp [vp_updL]
        rw [e9]
        refine lv_if_eq (tgt := 761) hx hb d_law_754 (by decide) (fun h7 => ?_) (fun h7 => ?_)
        · refine lv_lconst (v := (0 : Int64)) hx hb d_law_761 (by decide) ?_
          rw [if_pos h7]
          refine W.lcmp hx hb d_law_762 ?_
          refine lv_if_eq (tgt := 768) hx hb d_law_763 (by decide) (fun _ => ?_) (fun h7 => absurd (by unfold lg_cmp; simp) h7)
          refine lv_goto (tgt := 1349) hx hb d_law_768 (by decide) ?_
          exact W.widen (by omega) (by omega) (kk _ _ _ _ H locs ls hR2 hP hD hS (lv_sub hl [2, 3, 4, 5, 6] rfl))
        · refine lv_lconst (v := (1 : Int64)) hx hb d_law_757 (by decide) ?_
          refine lv_goto (tgt := 762) hx hb d_law_758 (by decide) ?_
          rw [if_neg h7]
          refine W.lcmp hx hb d_law_762 ?_
          refine lv_if_eq (tgt := 768) hx hb d_law_763 (by decide) (fun _ => ?_) (fun h7 => absurd (by unfold lg_cmp; simp) h7)
          refine lv_goto (tgt := 1349) hx hb d_law_768 (by decide) ?_
          exact W.widen (by omega) (by omega) (kk _ _ _ _ H locs ls hR2 hP hD hS (lv_sub hl [2, 3, 4, 5, 6] rfl))
set_option maxHeartbeats 40000000 in
set_option maxRecDepth 100000 in
theorem law_heard {p : Program} {l : Launch} {e : Env} {s : State} {m : MethodId} {below : List Frame} {meth : Method} {c : Code} {dC : Nat → ClassId} {dI : Nat → Nat → Nat} {g : Nat → ClassId} {G : (Nat → Prop) → State → Prop} (hG : gok G) (hGn : gN G) {adK adV : Nat → Nat} (hGs : gSt adK adV G) (hGt : gTh G) (hGc : gNC G) (hst : l.stackTraces = false) {b L : Nat} {xs : Nat → Int32} (C0 : lw_At p s m meth c b L xs) (hGA : G (fun q => s.heap.size ≤ q) s) (hK : va_K (dC, dI) vwCl (tyv g) s) (F : Nat) {Rl : (Nat → St) → Nat → St → Prop} (hsim : sim_heard F Rl) {n h hm ho : Nat} {f : Nat → Int64} {u : Nat → Nat → Nat} {x : Nat → St} {qm : Nat → Nat} {y : St} {H : Heap} {locs : List Loc} {ls : Array Slot} {cells slots : Nat} {i : Int32} (hi1 : vp_in (i + 1) L) (hi2 : vp_in (i + 2) L) (hi3 : vp_in (i + 3) L) (hi4 : vp_in (i + 4) L) (hi5 : vp_in (i + 5) L) (hR : Rl x n y) (hP : va_P (dC, dI) vwCl ((wd_O g ho f ++ wd_C g h u x n) ++ wd_MD g hm qm y) H) (hD : va_D (fun q : Nat => s.heap.size ≤ q) ((wd_O g ho f ++ wd_C g h u x n) ++ wd_MD g hm qm y)) (hS : va_S (fun q : Nat => s.heap.size ≤ q) s.heap H locs) (hl : lv_has ls 7 [(0, .ref b), (1, .ref h), (2, .ref hm), (3, .ref ho), (4, .int i)]) (hc : cells + 2 ≤ 601024) (hs : slots + 7 ≤ 7293000)
    (kk : ∀ (f : Nat → Int64) (u : Nat → Nat → Nat) (x : Nat → St) (y : St) (H : Heap) (locs : List Loc) (ls : Array Slot), Rl x n y → va_P (dC, dI) vwCl ((wd_O g ho f ++ wd_C g h u x n) ++ wd_MD g hm qm y) H → va_D (fun q : Nat => s.heap.size ≤ q) ((wd_O g ho f ++ wd_C g h u x n) ++ wd_MD g hm qm y) → va_S (fun q : Nat => s.heap.size ≤ q) s.heap H locs → lv_has ls 7 [(0, .ref b), (1, .ref h), (2, .ref hm), (3, .ref ho), (4, .int i)] → W p l e room_1 s m #[Value.ref b] below meth c H locs (cells + 2) (slots + 7) (lw_Z below #[Value.ref b] s) (F0 m 1349 ls [])) :
    W p l e room_1 s m #[Value.ref b] below meth c H locs cells slots (lw_Z below #[Value.ref b] s) (F0 m 771 ls []) := by
  obtain ⟨hx, hb, hr, hml, hown, hts, hX, hbl, hlocks, hgv⟩ := C0
  have hA : ∀ q : Nat, s.heap.size ≤ q → (fun q : Nat => s.heap.size ≤ q) q := fun _ h => h
  have hbA : ¬ (fun q : Nat => s.heap.size ≤ q) b := Nat.not_le.mpr hbl
  have hts : ∀ w ∈ gw, w.before #[Value.ref b] s = true := fun w h => hts w (List.mem_filter.mp h).1
  have hml : c.maxLocals = 7 := hml
  have hown : s.vm.findClass "AlarmMatrixLaw" = some m.cls := hown
  rcases hsim x n y (xs (i + 1).toNatClampNeg) hR with ⟨j, o1, o2, hj, ej, hm1, hm2, hk1, hcode, heq, hR2⟩ | ⟨o1, o2, hm1, hm2, hk1, hcode, heq, hR2⟩
  · rw [ej] at hm2
    refine lv_aload_n hx hb d_law_771 rfl (lv_at hl 1 rfl) ?_
    refine lv_aload_n hx hb d_law_772 rfl (lv_at hl 0 rfl) ?_
    refine lv_iload hx hb d_law_773 (lv_at hl 4 rfl) ?_
    refine lv_iconst (v := (1 : Int32)) hx hb d_law_775 (by decide) ?_
    refine lv_iadd hx hb d_law_776 ?_
    refine va_sld hx hb hX hbl hbA hS hi1 d_law_777 ?_
    refine lv_aload_n hx hb d_law_778 rfl (lv_at hl 3 rfl) ?_
    rw [ej]
    refine kciP (wc := wd_O g ho f ++ wd_C g h u x n) (wr := wd_MD g hm qm y) (w1 := wd_O g ho (ot o1.1 o1.2 f) ++ wd_C g h u (up (up x 2 (x 2)) (10 + j) (x (10 + j))) n) hP hD hS hA (krunSW (As := [.ref h, .int (nI j), .ref ho]) (rest := []) ⟨hx, hb, hml, hown, hts⟩ (c_LW_heard hG hGn hGs hGt hGc l hst dC dI g F H.size h u x n ho f j hj hm1 hk1) (kcwS 3 hts (gdSW k4_113 k4_114 k1_0 k4_115) rfl rfl rfl (by decide +kernel) ⟨Nat.le_of_ble_eq_true rfl, Nat.le_of_ble_eq_true rfl⟩) (kpSP hG hP hK hD hS hA hGA) rfl rfl hl.1 rfl (lv_room (Nat.le_of_ble_eq_true rfl)) d_law_779 ⟨(by show cells + 1 ≤ 601024; omega), (by show slots + 6 ≤ 7293000; omega)⟩) (fun H locs hP hD hS => ?_)
    refine lv_istore (lv' := [(5, .int (nI o1.1)), (0, .ref b), (1, .ref h), (2, .ref hm), (3, .ref ho), (4, .int i)]) hx hb d_law_782 hl (by decide) rfl (fun ls hl => ?_)
    refine lv_aload_n hx hb d_law_784 rfl (lv_at hl 3 rfl) ?_
    refine lv_aload_n hx hb d_law_785 rfl (lv_at hl 1 rfl) ?_
    refine lv_iload hx hb d_law_786 (lv_at hl 5 rfl) ?_
    refine lv_iconst (v := (1 : Int32)) hx hb d_law_788 (by decide) ?_
    refine lv_iadd hx hb d_law_789 ?_
    refine va_sld hx hb hX hbl hbA hS hi1 d_law_790 ?_
    have hP := hP.perm (List.perm_append_comm (l₁ := wd_O g ho (ot o1.1 o1.2 f) ++ wd_C g h u (up (up x 2 (x 2)) (10 + j) (x (10 + j))) n) (l₂ := wd_MD g hm qm y))
    have hD := hD.perm (List.perm_append_comm (l₁ := wd_O g ho (ot o1.1 o1.2 f) ++ wd_C g h u (up (up x 2 (x 2)) (10 + j) (x (10 + j))) n) (l₂ := wd_MD g hm qm y))
    rw [ej]
    refine kciP (wc := wd_MD g hm qm y) (wr := wd_O g ho (ot o1.1 o1.2 f) ++ wd_C g h u (up (up x 2 (x 2)) (10 + j) (x (10 + j))) n) (w1 := wd_MD g hm qm o2.2) hP hD hS hA (va_runV (As := [.int (nI j)]) (rest := []) ⟨hx, hb, hml, hown, hts⟩ (c_MD_heard hG hGn l dC dI g F H.size hm qm y (nI j) hm2) (cwV 1 hts (gdV k6_65 k6_66 k6_67 k1_10 k6_68) rfl rfl rfl (by decide +kernel) ⟨Nat.le_of_ble_eq_true rfl, Nat.le_of_ble_eq_true rfl⟩) (kpVP hG hP hK hD hS hA hGA (ci := 10) (q0 := 0) rfl rfl rfl) rfl rfl hl.1 rfl (lv_room (Nat.le_of_ble_eq_true rfl)) d_law_791 ⟨(by show _ + 0 ≤ 601024; omega), (by show _ + 0 ≤ 7293000; omega)⟩) (fun H locs hP hD hS => ?_)
    refine lv_istore (lv' := [(6, .int o2.1), (5, .int (nI o1.1)), (0, .ref b), (1, .ref h), (2, .ref hm), (3, .ref ho), (4, .int i)]) hx hb d_law_794 hl (by decide) rfl (fun ls hl => ?_)
    refine lv_aload_n hx hb d_law_796 rfl (lv_at hl 4 rfl) ?_
    refine kciP (wc := wd_MD g hm qm o2.2) (wr := wd_O g ho (ot o1.1 o1.2 f) ++ wd_C g h u (up (up x 2 (x 2)) (10 + j) (x (10 + j))) n) (w1 := wd_MD g hm qm o2.2) hP hD hS hA (va_runV (As := []) (rest := []) ⟨hx, hb, hml, hown, hts⟩ (c_MD_thrown hG hGn l dC dI g F H.size hm qm o2.2 rfl) (cwV 0 hts (gdV k5_147 k5_148 k5_149 k1_10 k5_150) rfl rfl rfl (by decide +kernel) ⟨Nat.le_of_ble_eq_true rfl, Nat.le_of_ble_eq_true rfl⟩) (kpVP hG hP hK hD hS hA hGA (ci := 10) (q0 := 0) rfl rfl rfl) rfl rfl hl.1 rfl (lv_room (Nat.le_of_ble_eq_true rfl)) d_law_797 ⟨(by show _ + 0 ≤ 601024; omega), (by show _ + 0 ≤ 7293000; omega)⟩) (fun H locs hP hD hS => ?_)
    have hP := hP.perm (List.perm_append_comm (l₁ := wd_MD g hm qm o2.2) (l₂ := wd_O g ho (ot o1.1 o1.2 f) ++ wd_C g h u (up (up x 2 (x 2)) (10 + j) (x (10 + j))) n))
    have hD := hD.perm (List.perm_append_comm (l₁ := wd_MD g hm qm o2.2) (l₂ := wd_O g ho (ot o1.1 o1.2 f) ++ wd_C g h u (up (up x 2 (x 2)) (10 + j) (x (10 + j))) n))
    refine lv_iload hx hb d_law_800 (lv_at hl 1 rfl) ?_
    refine lv_icmp_eq (tgt := 807) hx hb d_law_802 (by decide) (fun _ => ?_) (fun h9 => absurd hcode h9)
    refine lv_iload hx hb d_law_807 (lv_at hl 1 rfl) ?_
    refine lv_if_ne (tgt := 824) hx hb d_law_809 (by decide) (fun _ => ?_) (fun h9 => ?_)
    · refine lv_goto (tgt := 1349) hx hb d_law_824 (by decide) ?_
      exact W.widen (by omega) (by omega) (kk _ _ _ _ H locs ls hR2 hP hD hS (lv_sub hl [2, 3, 4, 5, 6] rfl))
    · have h0 : o1.1 = 0 := by rcases hk1 with hk1 | hk1 <;> (rw [hk1] at h9 ⊢) <;> revert h9 <;> decide
      have h8 := heq h0
      refine lv_aload_n hx hb d_law_812 rfl (lv_at hl 5 rfl) ?_
      refine lv_iconst (v := (0 : Int32)) hx hb d_law_813 (by decide) ?_
      refine va_lald hx hb hK hP 0 4 rfl rfl (by unfold vp_in; decide) d_law_814 ?_
      refine lv_iload hx hb d_law_815 (lv_at hl 0 rfl) ?_
      have e9 : (ot o1.1 o1.2 f) (0 : Int32).toNatClampNeg = (o2.1).toInt64 := by rw [h0, h8]; unfold ot; simp [vp_updL]
      refine lv_i2l (v := (o2.1).toInt64) hx hb d_law_817 rfl ?_
      rw [e9]
      refine W.lcmp hx hb d_law_818 ?_
      refine lv_if_eq (tgt := 824) hx hb d_law_819 (by decide) (fun _ => ?_) (fun h7 => absurd (by unfold lg_cmp; simp) h7)
      refine lv_goto (tgt := 1349) hx hb d_law_824 (by decide) ?_
      exact W.widen (by omega) (by omega) (kk _ _ _ _ H locs ls hR2 hP hD hS (lv_sub hl [2, 3, 4, 5, 6] rfl))
  · refine lv_aload_n hx hb d_law_771 rfl (lv_at hl 1 rfl) ?_
    refine lv_aload_n hx hb d_law_772 rfl (lv_at hl 0 rfl) ?_
    refine lv_iload hx hb d_law_773 (lv_at hl 4 rfl) ?_
    refine lv_iconst (v := (1 : Int32)) hx hb d_law_775 (by decide) ?_
    refine lv_iadd hx hb d_law_776 ?_
    refine va_sld hx hb hX hbl hbA hS hi1 d_law_777 ?_
    refine lv_aload_n hx hb d_law_778 rfl (lv_at hl 3 rfl) ?_
    refine kciP (wc := wd_O g ho f ++ wd_C g h u x n) (wr := wd_MD g hm qm y) (w1 := wd_O g ho (ot o1.1 o1.2 f) ++ wd_C g h u x n) hP hD hS hA (krunSW (As := [.ref h, .int (xs (i + 1).toNatClampNeg), .ref ho]) (rest := []) ⟨hx, hb, hml, hown, hts⟩ (c_LW_heard_x hG hGn hGs hGt hGc l hst dC dI g F H.size h u x n ho f (xs (i + 1).toNatClampNeg) hm1 hk1) (kcwS 3 hts (gdSW k4_113 k4_114 k1_0 k4_115) rfl rfl rfl (by decide +kernel) ⟨Nat.le_of_ble_eq_true rfl, Nat.le_of_ble_eq_true rfl⟩) (kpSP hG hP hK hD hS hA hGA) rfl rfl hl.1 rfl (lv_room (Nat.le_of_ble_eq_true rfl)) d_law_779 ⟨(by show cells + 1 ≤ 601024; omega), (by show slots + 6 ≤ 7293000; omega)⟩) (fun H locs hP hD hS => ?_)
    refine lv_istore (lv' := [(5, .int (nI o1.1)), (0, .ref b), (1, .ref h), (2, .ref hm), (3, .ref ho), (4, .int i)]) hx hb d_law_782 hl (by decide) rfl (fun ls hl => ?_)
    refine lv_aload_n hx hb d_law_784 rfl (lv_at hl 3 rfl) ?_
    refine lv_aload_n hx hb d_law_785 rfl (lv_at hl 1 rfl) ?_
    refine lv_iload hx hb d_law_786 (lv_at hl 5 rfl) ?_
    refine lv_iconst (v := (1 : Int32)) hx hb d_law_788 (by decide) ?_
    refine lv_iadd hx hb d_law_789 ?_
    refine va_sld hx hb hX hbl hbA hS hi1 d_law_790 ?_
    have hP := hP.perm (List.perm_append_comm (l₁ := wd_O g ho (ot o1.1 o1.2 f) ++ wd_C g h u x n) (l₂ := wd_MD g hm qm y))
    have hD := hD.perm (List.perm_append_comm (l₁ := wd_O g ho (ot o1.1 o1.2 f) ++ wd_C g h u x n) (l₂ := wd_MD g hm qm y))
    refine kciP (wc := wd_MD g hm qm y) (wr := wd_O g ho (ot o1.1 o1.2 f) ++ wd_C g h u x n) (w1 := wd_MD g hm qm o2.2) hP hD hS hA (va_runV (As := [.int (xs (i + 1).toNatClampNeg)]) (rest := []) ⟨hx, hb, hml, hown, hts⟩ (c_MD_heard hG hGn l dC dI g F H.size hm qm y (xs (i + 1).toNatClampNeg) hm2) (cwV 1 hts (gdV k6_65 k6_66 k6_67 k1_10 k6_68) rfl rfl rfl (by decide +kernel) ⟨Nat.le_of_ble_eq_true rfl, Nat.le_of_ble_eq_true rfl⟩) (kpVP hG hP hK hD hS hA hGA (ci := 10) (q0 := 0) rfl rfl rfl) rfl rfl hl.1 rfl (lv_room (Nat.le_of_ble_eq_true rfl)) d_law_791 ⟨(by show _ + 0 ≤ 601024; omega), (by show _ + 0 ≤ 7293000; omega)⟩) (fun H locs hP hD hS => ?_)
    refine lv_istore (lv' := [(6, .int o2.1), (5, .int (nI o1.1)), (0, .ref b), (1, .ref h), (2, .ref hm), (3, .ref ho), (4, .int i)]) hx hb d_law_794 hl (by decide) rfl (fun ls hl => ?_)
    refine lv_aload_n hx hb d_law_796 rfl (lv_at hl 4 rfl) ?_
    refine kciP (wc := wd_MD g hm qm o2.2) (wr := wd_O g ho (ot o1.1 o1.2 f) ++ wd_C g h u x n) (w1 := wd_MD g hm qm o2.2) hP hD hS hA (va_runV (As := []) (rest := []) ⟨hx, hb, hml, hown, hts⟩ (c_MD_thrown hG hGn l dC dI g F H.size hm qm o2.2 rfl) (cwV 0 hts (gdV k5_147 k5_148 k5_149 k1_10 k5_150) rfl rfl rfl (by decide +kernel) ⟨Nat.le_of_ble_eq_true rfl, Nat.le_of_ble_eq_true rfl⟩) (kpVP hG hP hK hD hS hA hGA (ci := 10) (q0 := 0) rfl rfl rfl) rfl rfl hl.1 rfl (lv_room (Nat.le_of_ble_eq_true rfl)) d_law_797 ⟨(by show _ + 0 ≤ 601024; omega), (by show _ + 0 ≤ 7293000; omega)⟩) (fun H locs hP hD hS => ?_)
    have hP := hP.perm (List.perm_append_comm (l₁ := wd_MD g hm qm o2.2) (l₂ := wd_O g ho (ot o1.1 o1.2 f) ++ wd_C g h u x n))
    have hD := hD.perm (List.perm_append_comm (l₁ := wd_MD g hm qm o2.2) (l₂ := wd_O g ho (ot o1.1 o1.2 f) ++ wd_C g h u x n))
    refine lv_iload hx hb d_law_800 (lv_at hl 1 rfl) ?_
    refine lv_icmp_eq (tgt := 807) hx hb d_law_802 (by decide) (fun _ => ?_) (fun h9 => absurd hcode h9)
    refine lv_iload hx hb d_law_807 (lv_at hl 1 rfl) ?_
    refine lv_if_ne (tgt := 824) hx hb d_law_809 (by decide) (fun _ => ?_) (fun h9 => ?_)
    · refine lv_goto (tgt := 1349) hx hb d_law_824 (by decide) ?_
      exact W.widen (by omega) (by omega) (kk _ _ _ _ H locs ls hR2 hP hD hS (lv_sub hl [2, 3, 4, 5, 6] rfl))
    · have h0 : o1.1 = 0 := by rcases hk1 with hk1 | hk1 <;> (rw [hk1] at h9 ⊢) <;> revert h9 <;> decide
      have h8 := heq h0
      refine lv_aload_n hx hb d_law_812 rfl (lv_at hl 5 rfl) ?_
      refine lv_iconst (v := (0 : Int32)) hx hb d_law_813 (by decide) ?_
      refine va_lald hx hb hK hP 0 4 rfl rfl (by unfold vp_in; decide) d_law_814 ?_
      refine lv_iload hx hb d_law_815 (lv_at hl 0 rfl) ?_
      have e9 : (ot o1.1 o1.2 f) (0 : Int32).toNatClampNeg = (o2.1).toInt64 := by rw [h0, h8]; unfold ot; simp [vp_updL]
      refine lv_i2l (v := (o2.1).toInt64) hx hb d_law_817 rfl ?_
      rw [e9]
      refine W.lcmp hx hb d_law_818 ?_
      refine lv_if_eq (tgt := 824) hx hb d_law_819 (by decide) (fun _ => ?_) (fun h7 => absurd (by unfold lg_cmp; simp) h7)
      refine lv_goto (tgt := 1349) hx hb d_law_824 (by decide) ?_
      exact W.widen (by omega) (by omega) (kk _ _ _ _ H locs ls hR2 hP hD hS (lv_sub hl [2, 3, 4, 5, 6] rfl))
set_option maxHeartbeats 40000000 in
set_option maxRecDepth 100000 in
theorem law_unreachable {p : Program} {l : Launch} {e : Env} {s : State} {m : MethodId} {below : List Frame} {meth : Method} {c : Code} {dC : Nat → ClassId} {dI : Nat → Nat → Nat} {g : Nat → ClassId} {G : (Nat → Prop) → State → Prop} (hG : gok G) (hGn : gN G) {adK adV : Nat → Nat} (hGs : gSt adK adV G) (hGt : gTh G) (hGc : gNC G) (hst : l.stackTraces = false) {b L : Nat} {xs : Nat → Int32} (C0 : lw_At p s m meth c b L xs) (hGA : G (fun q => s.heap.size ≤ q) s) (hK : va_K (dC, dI) vwCl (tyv g) s) (F : Nat) {Rl : (Nat → St) → Nat → St → Prop} (hsim : sim_unreachable F Rl) {n h hm ho : Nat} {f : Nat → Int64} {u : Nat → Nat → Nat} {x : Nat → St} {qm : Nat → Nat} {y : St} {H : Heap} {locs : List Loc} {ls : Array Slot} {cells slots : Nat} {i : Int32} (hi1 : vp_in (i + 1) L) (hi2 : vp_in (i + 2) L) (hi3 : vp_in (i + 3) L) (hi4 : vp_in (i + 4) L) (hi5 : vp_in (i + 5) L) (hR : Rl x n y) (hP : va_P (dC, dI) vwCl ((wd_O g ho f ++ wd_C g h u x n) ++ wd_MD g hm qm y) H) (hD : va_D (fun q : Nat => s.heap.size ≤ q) ((wd_O g ho f ++ wd_C g h u x n) ++ wd_MD g hm qm y)) (hS : va_S (fun q : Nat => s.heap.size ≤ q) s.heap H locs) (hl : lv_has ls 7 [(0, .ref b), (1, .ref h), (2, .ref hm), (3, .ref ho), (4, .int i)]) (hc : cells + 2 ≤ 601024) (hs : slots + 7 ≤ 7293000)
    (kk : ∀ (f : Nat → Int64) (u : Nat → Nat → Nat) (x : Nat → St) (y : St) (H : Heap) (locs : List Loc) (ls : Array Slot), Rl x n y → va_P (dC, dI) vwCl ((wd_O g ho f ++ wd_C g h u x n) ++ wd_MD g hm qm y) H → va_D (fun q : Nat => s.heap.size ≤ q) ((wd_O g ho f ++ wd_C g h u x n) ++ wd_MD g hm qm y) → va_S (fun q : Nat => s.heap.size ≤ q) s.heap H locs → lv_has ls 7 [(0, .ref b), (1, .ref h), (2, .ref hm), (3, .ref ho), (4, .int i)] → W p l e room_1 s m #[Value.ref b] below meth c H locs (cells + 2) (slots + 7) (lw_Z below #[Value.ref b] s) (F0 m 1349 ls [])) :
    W p l e room_1 s m #[Value.ref b] below meth c H locs cells slots (lw_Z below #[Value.ref b] s) (F0 m 827 ls []) := by
  obtain ⟨hx, hb, hr, hml, hown, hts, hX, hbl, hlocks, hgv⟩ := C0
  have hA : ∀ q : Nat, s.heap.size ≤ q → (fun q : Nat => s.heap.size ≤ q) q := fun _ h => h
  have hbA : ¬ (fun q : Nat => s.heap.size ≤ q) b := Nat.not_le.mpr hbl
  have hts : ∀ w ∈ gw, w.before #[Value.ref b] s = true := fun w h => hts w (List.mem_filter.mp h).1
  have hml : c.maxLocals = 7 := hml
  have hown : s.vm.findClass "AlarmMatrixLaw" = some m.cls := hown
  obtain ⟨o1, o2, hm1, hm2, hk1, hcode, heq, hR2⟩ := hsim x n y (xs (i + 1).toNatClampNeg) hR
  refine lv_aload_n hx hb d_law_827 rfl (lv_at hl 1 rfl) ?_
  refine lv_aload_n hx hb d_law_828 rfl (lv_at hl 0 rfl) ?_
  refine lv_iload hx hb d_law_829 (lv_at hl 4 rfl) ?_
  refine lv_iconst (v := (1 : Int32)) hx hb d_law_831 (by decide) ?_
  refine lv_iadd hx hb d_law_832 ?_
  refine va_sld hx hb hX hbl hbA hS hi1 d_law_833 ?_
  refine lv_aload_n hx hb d_law_834 rfl (lv_at hl 3 rfl) ?_
  refine kciP (wc := wd_O g ho f ++ wd_C g h u x n) (wr := wd_MD g hm qm y) (w1 := wd_O g ho (ot o1.1 o1.2 f) ++ wd_C g h u x n) hP hD hS hA (krunSW (As := [.ref h, .int (xs (i + 1).toNatClampNeg), .ref ho]) (rest := []) ⟨hx, hb, hml, hown, hts⟩ (c_LW_unreachable hG hGn hGs hGt hGc l hst dC dI g F H.size h u x n ho f (xs (i + 1).toNatClampNeg) hm1 hk1) (kcwS 3 hts (gdSW k4_127 k4_128 k1_0 k4_129) rfl rfl rfl (by decide +kernel) ⟨Nat.le_of_ble_eq_true rfl, Nat.le_of_ble_eq_true rfl⟩) (kpSP hG hP hK hD hS hA hGA) rfl rfl hl.1 rfl (lv_room (Nat.le_of_ble_eq_true rfl)) d_law_835 ⟨(by show cells + 1 ≤ 601024; omega), (by show slots + 6 ≤ 7293000; omega)⟩) (fun H locs hP hD hS => ?_)
  refine lv_istore (lv' := [(5, .int (nI o1.1)), (0, .ref b), (1, .ref h), (2, .ref hm), (3, .ref ho), (4, .int i)]) hx hb d_law_838 hl (by decide) rfl (fun ls hl => ?_)
  refine lv_aload_n hx hb d_law_840 rfl (lv_at hl 3 rfl) ?_
  refine lv_aload_n hx hb d_law_841 rfl (lv_at hl 1 rfl) ?_
  refine lv_iload hx hb d_law_842 (lv_at hl 5 rfl) ?_
  refine lv_iconst (v := (1 : Int32)) hx hb d_law_844 (by decide) ?_
  refine lv_iadd hx hb d_law_845 ?_
  refine va_sld hx hb hX hbl hbA hS hi1 d_law_846 ?_
  have hP := hP.perm (List.perm_append_comm (l₁ := wd_O g ho (ot o1.1 o1.2 f) ++ wd_C g h u x n) (l₂ := wd_MD g hm qm y))
  have hD := hD.perm (List.perm_append_comm (l₁ := wd_O g ho (ot o1.1 o1.2 f) ++ wd_C g h u x n) (l₂ := wd_MD g hm qm y))
  refine kciP (wc := wd_MD g hm qm y) (wr := wd_O g ho (ot o1.1 o1.2 f) ++ wd_C g h u x n) (w1 := wd_MD g hm qm o2.2) hP hD hS hA (va_runV (As := [.int (xs (i + 1).toNatClampNeg)]) (rest := []) ⟨hx, hb, hml, hown, hts⟩ (c_MD_unreachable hG hGn l dC dI g F H.size hm qm y (xs (i + 1).toNatClampNeg) hm2) (cwV 1 hts (gdV k6_73 k6_74 k6_75 k1_10 k6_76) rfl rfl rfl (by decide +kernel) ⟨Nat.le_of_ble_eq_true rfl, Nat.le_of_ble_eq_true rfl⟩) (kpVP hG hP hK hD hS hA hGA (ci := 10) (q0 := 0) rfl rfl rfl) rfl rfl hl.1 rfl (lv_room (Nat.le_of_ble_eq_true rfl)) d_law_847 ⟨(by show _ + 0 ≤ 601024; omega), (by show _ + 0 ≤ 7293000; omega)⟩) (fun H locs hP hD hS => ?_)
  refine lv_istore (lv' := [(6, .int o2.1), (5, .int (nI o1.1)), (0, .ref b), (1, .ref h), (2, .ref hm), (3, .ref ho), (4, .int i)]) hx hb d_law_850 hl (by decide) rfl (fun ls hl => ?_)
  refine lv_aload_n hx hb d_law_852 rfl (lv_at hl 4 rfl) ?_
  refine kciP (wc := wd_MD g hm qm o2.2) (wr := wd_O g ho (ot o1.1 o1.2 f) ++ wd_C g h u x n) (w1 := wd_MD g hm qm o2.2) hP hD hS hA (va_runV (As := []) (rest := []) ⟨hx, hb, hml, hown, hts⟩ (c_MD_thrown hG hGn l dC dI g F H.size hm qm o2.2 rfl) (cwV 0 hts (gdV k5_147 k5_148 k5_149 k1_10 k5_150) rfl rfl rfl (by decide +kernel) ⟨Nat.le_of_ble_eq_true rfl, Nat.le_of_ble_eq_true rfl⟩) (kpVP hG hP hK hD hS hA hGA (ci := 10) (q0 := 0) rfl rfl rfl) rfl rfl hl.1 rfl (lv_room (Nat.le_of_ble_eq_true rfl)) d_law_853 ⟨(by show _ + 0 ≤ 601024; omega), (by show _ + 0 ≤ 7293000; omega)⟩) (fun H locs hP hD hS => ?_)
  have hP := hP.perm (List.perm_append_comm (l₁ := wd_MD g hm qm o2.2) (l₂ := wd_O g ho (ot o1.1 o1.2 f) ++ wd_C g h u x n))
  have hD := hD.perm (List.perm_append_comm (l₁ := wd_MD g hm qm o2.2) (l₂ := wd_O g ho (ot o1.1 o1.2 f) ++ wd_C g h u x n))
  refine lv_iload hx hb d_law_856 (lv_at hl 1 rfl) ?_
  refine lv_icmp_eq (tgt := 863) hx hb d_law_858 (by decide) (fun _ => ?_) (fun h9 => absurd hcode h9)
  refine lv_iload hx hb d_law_863 (lv_at hl 1 rfl) ?_
  refine lv_if_ne (tgt := 880) hx hb d_law_865 (by decide) (fun _ => ?_) (fun h9 => ?_)
  · refine lv_goto (tgt := 1349) hx hb d_law_880 (by decide) ?_
    exact W.widen (by omega) (by omega) (kk _ _ _ _ H locs ls hR2 hP hD hS (lv_sub hl [2, 3, 4, 5, 6] rfl))
  · have h0 : o1.1 = 0 := by rcases hk1 with hk1 | hk1 <;> (rw [hk1] at h9 ⊢) <;> revert h9 <;> decide
    have h8 := heq h0
    refine lv_aload_n hx hb d_law_868 rfl (lv_at hl 5 rfl) ?_
    refine lv_iconst (v := (0 : Int32)) hx hb d_law_869 (by decide) ?_
    refine va_lald hx hb hK hP 0 4 rfl rfl (by unfold vp_in; decide) d_law_870 ?_
    refine lv_iload hx hb d_law_871 (lv_at hl 0 rfl) ?_
    have e9 : (ot o1.1 o1.2 f) (0 : Int32).toNatClampNeg = (o2.1).toInt64 := by rw [h0, h8]; unfold ot; simp [vp_updL]
    refine lv_i2l (v := (o2.1).toInt64) hx hb d_law_873 rfl ?_
    rw [e9]
    refine W.lcmp hx hb d_law_874 ?_
    refine lv_if_eq (tgt := 880) hx hb d_law_875 (by decide) (fun _ => ?_) (fun h7 => absurd (by unfold lg_cmp; simp) h7)
    refine lv_goto (tgt := 1349) hx hb d_law_880 (by decide) ?_
    exact W.widen (by omega) (by omega) (kk _ _ _ _ H locs ls hR2 hP hD hS (lv_sub hl [2, 3, 4, 5, 6] rfl))
set_option maxHeartbeats 40000000 in
set_option maxRecDepth 100000 in
theorem law_ticks {p : Program} {l : Launch} {e : Env} {s : State} {m : MethodId} {below : List Frame} {meth : Method} {c : Code} {dC : Nat → ClassId} {dI : Nat → Nat → Nat} {g : Nat → ClassId} {G : (Nat → Prop) → State → Prop} (hG : gok G) (hGn : gN G) {adK adV : Nat → Nat} (hGs : gSt adK adV G) (hGt : gTh G) (hGc : gNC G) (hst : l.stackTraces = false) {b L : Nat} {xs : Nat → Int32} (C0 : lw_At p s m meth c b L xs) (hGA : G (fun q => s.heap.size ≤ q) s) (hK : va_K (dC, dI) vwCl (tyv g) s) (F : Nat) {Rl : (Nat → St) → Nat → St → Prop} (hsim : sim_ticks F Rl) {n h hm ho : Nat} {f : Nat → Int64} {u : Nat → Nat → Nat} {x : Nat → St} {qm : Nat → Nat} {y : St} {H : Heap} {locs : List Loc} {ls : Array Slot} {cells slots : Nat} {i : Int32} (hi1 : vp_in (i + 1) L) (hi2 : vp_in (i + 2) L) (hi3 : vp_in (i + 3) L) (hi4 : vp_in (i + 4) L) (hi5 : vp_in (i + 5) L) (hR : Rl x n y) (hP : va_P (dC, dI) vwCl ((wd_O g ho f ++ wd_C g h u x n) ++ wd_MD g hm qm y) H) (hD : va_D (fun q : Nat => s.heap.size ≤ q) ((wd_O g ho f ++ wd_C g h u x n) ++ wd_MD g hm qm y)) (hS : va_S (fun q : Nat => s.heap.size ≤ q) s.heap H locs) (hl : lv_has ls 7 [(0, .ref b), (1, .ref h), (2, .ref hm), (3, .ref ho), (4, .int i)]) (hc : cells + 2 ≤ 601024) (hs : slots + 7 ≤ 7293000)
    (kk : ∀ (f : Nat → Int64) (u : Nat → Nat → Nat) (x : Nat → St) (y : St) (H : Heap) (locs : List Loc) (ls : Array Slot), Rl x n y → va_P (dC, dI) vwCl ((wd_O g ho f ++ wd_C g h u x n) ++ wd_MD g hm qm y) H → va_D (fun q : Nat => s.heap.size ≤ q) ((wd_O g ho f ++ wd_C g h u x n) ++ wd_MD g hm qm y) → va_S (fun q : Nat => s.heap.size ≤ q) s.heap H locs → lv_has ls 7 [(0, .ref b), (1, .ref h), (2, .ref hm), (3, .ref ho), (4, .int i)] → W p l e room_1 s m #[Value.ref b] below meth c H locs (cells + 2) (slots + 7) (lw_Z below #[Value.ref b] s) (F0 m 1349 ls [])) :
    W p l e room_1 s m #[Value.ref b] below meth c H locs cells slots (lw_Z below #[Value.ref b] s) (F0 m 883 ls []) := by
  obtain ⟨hx, hb, hr, hml, hown, hts, hX, hbl, hlocks, hgv⟩ := C0
  have hA : ∀ q : Nat, s.heap.size ≤ q → (fun q : Nat => s.heap.size ≤ q) q := fun _ h => h
  have hbA : ¬ (fun q : Nat => s.heap.size ≤ q) b := Nat.not_le.mpr hbl
  have hts : ∀ w ∈ gw, w.before #[Value.ref b] s = true := fun w h => hts w (List.mem_filter.mp h).1
  have hml : c.maxLocals = 7 := hml
  have hown : s.vm.findClass "AlarmMatrixLaw" = some m.cls := hown
  obtain ⟨o1, o2, hm1, hm2, hk1, hcode, heq, hR2⟩ := hsim x n y (xs (i + 1).toNatClampNeg) hR
  refine lv_aload_n hx hb d_law_883 rfl (lv_at hl 1 rfl) ?_
  refine lv_aload_n hx hb d_law_884 rfl (lv_at hl 0 rfl) ?_
  refine lv_iload hx hb d_law_885 (lv_at hl 4 rfl) ?_
  refine lv_iconst (v := (1 : Int32)) hx hb d_law_887 (by decide) ?_
  refine lv_iadd hx hb d_law_888 ?_
  refine va_sld hx hb hX hbl hbA hS hi1 d_law_889 ?_
  refine lv_aload_n hx hb d_law_890 rfl (lv_at hl 3 rfl) ?_
  refine kciP (wc := wd_O g ho f ++ wd_C g h u x n) (wr := wd_MD g hm qm y) (w1 := wd_O g ho (ot o1.1 o1.2.1 f) ++ wd_C g h u (up (up (up (up x 0 (o1.2.2.1)) 4 (o1.2.2.2.1)) 7 (o1.2.2.2.2.1)) 6 (o1.2.2.2.2.2)) n) hP hD hS hA (krunSW (As := [.ref h, .int (xs (i + 1).toNatClampNeg), .ref ho]) (rest := []) ⟨hx, hb, hml, hown, hts⟩ (c_LW_ticks hG hGn hGs hGt hGc l hst dC dI g F H.size h u x n ho f (xs (i + 1).toNatClampNeg) hm1 hk1) (kcwS 3 hts (gdSW k4_139 k4_140 k1_0 k4_141) rfl rfl rfl (by decide +kernel) ⟨Nat.le_of_ble_eq_true rfl, Nat.le_of_ble_eq_true rfl⟩) (kpSP hG hP hK hD hS hA hGA) rfl rfl hl.1 rfl (lv_room (Nat.le_of_ble_eq_true rfl)) d_law_891 ⟨(by show cells + 1 ≤ 601024; omega), (by show slots + 6 ≤ 7293000; omega)⟩) (fun H locs hP hD hS => ?_)
  refine lv_istore (lv' := [(5, .int (nI o1.1)), (0, .ref b), (1, .ref h), (2, .ref hm), (3, .ref ho), (4, .int i)]) hx hb d_law_894 hl (by decide) rfl (fun ls hl => ?_)
  refine lv_aload_n hx hb d_law_896 rfl (lv_at hl 3 rfl) ?_
  refine lv_aload_n hx hb d_law_897 rfl (lv_at hl 1 rfl) ?_
  refine lv_iload hx hb d_law_898 (lv_at hl 5 rfl) ?_
  refine lv_iconst (v := (1 : Int32)) hx hb d_law_900 (by decide) ?_
  refine lv_iadd hx hb d_law_901 ?_
  refine va_sld hx hb hX hbl hbA hS hi1 d_law_902 ?_
  have hP := hP.perm (List.perm_append_comm (l₁ := wd_O g ho (ot o1.1 o1.2.1 f) ++ wd_C g h u (up (up (up (up x 0 (o1.2.2.1)) 4 (o1.2.2.2.1)) 7 (o1.2.2.2.2.1)) 6 (o1.2.2.2.2.2)) n) (l₂ := wd_MD g hm qm y))
  have hD := hD.perm (List.perm_append_comm (l₁ := wd_O g ho (ot o1.1 o1.2.1 f) ++ wd_C g h u (up (up (up (up x 0 (o1.2.2.1)) 4 (o1.2.2.2.1)) 7 (o1.2.2.2.2.1)) 6 (o1.2.2.2.2.2)) n) (l₂ := wd_MD g hm qm y))
  refine kciP (wc := wd_MD g hm qm y) (wr := wd_O g ho (ot o1.1 o1.2.1 f) ++ wd_C g h u (up (up (up (up x 0 (o1.2.2.1)) 4 (o1.2.2.2.1)) 7 (o1.2.2.2.2.1)) 6 (o1.2.2.2.2.2)) n) (w1 := wd_MD g hm qm o2.2) hP hD hS hA (va_runV (As := [.int (xs (i + 1).toNatClampNeg)]) (rest := []) ⟨hx, hb, hml, hown, hts⟩ (c_MD_ticks hG hGn l dC dI g F H.size hm qm y (xs (i + 1).toNatClampNeg) hm2) (cwV 1 hts (gdV k6_77 k6_78 k6_79 k1_10 k6_80) rfl rfl rfl (by decide +kernel) ⟨Nat.le_of_ble_eq_true rfl, Nat.le_of_ble_eq_true rfl⟩) (kpVP hG hP hK hD hS hA hGA (ci := 10) (q0 := 0) rfl rfl rfl) rfl rfl hl.1 rfl (lv_room (Nat.le_of_ble_eq_true rfl)) d_law_903 ⟨(by show _ + 0 ≤ 601024; omega), (by show _ + 0 ≤ 7293000; omega)⟩) (fun H locs hP hD hS => ?_)
  refine lv_istore (lv' := [(6, .int o2.1), (5, .int (nI o1.1)), (0, .ref b), (1, .ref h), (2, .ref hm), (3, .ref ho), (4, .int i)]) hx hb d_law_906 hl (by decide) rfl (fun ls hl => ?_)
  refine lv_aload_n hx hb d_law_908 rfl (lv_at hl 4 rfl) ?_
  refine kciP (wc := wd_MD g hm qm o2.2) (wr := wd_O g ho (ot o1.1 o1.2.1 f) ++ wd_C g h u (up (up (up (up x 0 (o1.2.2.1)) 4 (o1.2.2.2.1)) 7 (o1.2.2.2.2.1)) 6 (o1.2.2.2.2.2)) n) (w1 := wd_MD g hm qm o2.2) hP hD hS hA (va_runV (As := []) (rest := []) ⟨hx, hb, hml, hown, hts⟩ (c_MD_thrown hG hGn l dC dI g F H.size hm qm o2.2 rfl) (cwV 0 hts (gdV k5_147 k5_148 k5_149 k1_10 k5_150) rfl rfl rfl (by decide +kernel) ⟨Nat.le_of_ble_eq_true rfl, Nat.le_of_ble_eq_true rfl⟩) (kpVP hG hP hK hD hS hA hGA (ci := 10) (q0 := 0) rfl rfl rfl) rfl rfl hl.1 rfl (lv_room (Nat.le_of_ble_eq_true rfl)) d_law_909 ⟨(by show _ + 0 ≤ 601024; omega), (by show _ + 0 ≤ 7293000; omega)⟩) (fun H locs hP hD hS => ?_)
  have hP := hP.perm (List.perm_append_comm (l₁ := wd_MD g hm qm o2.2) (l₂ := wd_O g ho (ot o1.1 o1.2.1 f) ++ wd_C g h u (up (up (up (up x 0 (o1.2.2.1)) 4 (o1.2.2.2.1)) 7 (o1.2.2.2.2.1)) 6 (o1.2.2.2.2.2)) n))
  have hD := hD.perm (List.perm_append_comm (l₁ := wd_MD g hm qm o2.2) (l₂ := wd_O g ho (ot o1.1 o1.2.1 f) ++ wd_C g h u (up (up (up (up x 0 (o1.2.2.1)) 4 (o1.2.2.2.1)) 7 (o1.2.2.2.2.1)) 6 (o1.2.2.2.2.2)) n))
  refine lv_iload hx hb d_law_912 (lv_at hl 1 rfl) ?_
  refine lv_icmp_eq (tgt := 919) hx hb d_law_914 (by decide) (fun _ => ?_) (fun h9 => absurd hcode h9)
  refine lv_iload hx hb d_law_919 (lv_at hl 1 rfl) ?_
  refine lv_if_ne (tgt := 936) hx hb d_law_921 (by decide) (fun _ => ?_) (fun h9 => ?_)
  · refine lv_goto (tgt := 1349) hx hb d_law_936 (by decide) ?_
    exact W.widen (by omega) (by omega) (kk _ _ _ _ H locs ls hR2 hP hD hS (lv_sub hl [2, 3, 4, 5, 6] rfl))
  · have h0 : o1.1 = 0 := by rcases hk1 with hk1 | hk1 | hk1 <;> (rw [hk1] at h9 ⊢) <;> revert h9 <;> decide
    have h8 := heq h0
    refine lv_aload_n hx hb d_law_924 rfl (lv_at hl 5 rfl) ?_
    refine lv_iconst (v := (0 : Int32)) hx hb d_law_925 (by decide) ?_
    refine va_lald hx hb hK hP 0 4 rfl rfl (by unfold vp_in; decide) d_law_926 ?_
    refine lv_iload hx hb d_law_927 (lv_at hl 0 rfl) ?_
    have e9 : (ot o1.1 o1.2.1 f) (0 : Int32).toNatClampNeg = (o2.1).toInt64 := by rw [h0, h8]; unfold ot; simp [vp_updL]
    refine lv_i2l (v := (o2.1).toInt64) hx hb d_law_929 rfl ?_
    rw [e9]
    refine W.lcmp hx hb d_law_930 ?_
    refine lv_if_eq (tgt := 936) hx hb d_law_931 (by decide) (fun _ => ?_) (fun h7 => absurd (by unfold lg_cmp; simp) h7)
    refine lv_goto (tgt := 1349) hx hb d_law_936 (by decide) ?_
    exact W.widen (by omega) (by omega) (kk _ _ _ _ H locs ls hR2 hP hD hS (lv_sub hl [2, 3, 4, 5, 6] rfl))
set_option maxHeartbeats 40000000 in
set_option maxRecDepth 100000 in
theorem law_person {p : Program} {l : Launch} {e : Env} {s : State} {m : MethodId} {below : List Frame} {meth : Method} {c : Code} {dC : Nat → ClassId} {dI : Nat → Nat → Nat} {g : Nat → ClassId} {G : (Nat → Prop) → State → Prop} (hG : gok G) (hGn : gN G) {adK adV : Nat → Nat} (hGs : gSt adK adV G) (hGt : gTh G) (hGc : gNC G) (hst : l.stackTraces = false) {b L : Nat} {xs : Nat → Int32} (C0 : lw_At p s m meth c b L xs) (hGA : G (fun q => s.heap.size ≤ q) s) (hK : va_K (dC, dI) vwCl (tyv g) s) (F : Nat) {Rl : (Nat → St) → Nat → St → Prop} (hsim : sim_person F Rl) {n h hm ho : Nat} {f : Nat → Int64} {u : Nat → Nat → Nat} {x : Nat → St} {qm : Nat → Nat} {y : St} {H : Heap} {locs : List Loc} {ls : Array Slot} {cells slots : Nat} {i : Int32} (hi1 : vp_in (i + 1) L) (hi2 : vp_in (i + 2) L) (hi3 : vp_in (i + 3) L) (hi4 : vp_in (i + 4) L) (hi5 : vp_in (i + 5) L) (hR : Rl x n y) (hP : va_P (dC, dI) vwCl ((wd_O g ho f ++ wd_C g h u x n) ++ wd_MD g hm qm y) H) (hD : va_D (fun q : Nat => s.heap.size ≤ q) ((wd_O g ho f ++ wd_C g h u x n) ++ wd_MD g hm qm y)) (hS : va_S (fun q : Nat => s.heap.size ≤ q) s.heap H locs) (hl : lv_has ls 7 [(0, .ref b), (1, .ref h), (2, .ref hm), (3, .ref ho), (4, .int i)]) (hc : cells + 2 ≤ 601024) (hs : slots + 7 ≤ 7293000)
    (kk : ∀ (f : Nat → Int64) (u : Nat → Nat → Nat) (x : Nat → St) (y : St) (H : Heap) (locs : List Loc) (ls : Array Slot), Rl x n y → va_P (dC, dI) vwCl ((wd_O g ho f ++ wd_C g h u x n) ++ wd_MD g hm qm y) H → va_D (fun q : Nat => s.heap.size ≤ q) ((wd_O g ho f ++ wd_C g h u x n) ++ wd_MD g hm qm y) → va_S (fun q : Nat => s.heap.size ≤ q) s.heap H locs → lv_has ls 7 [(0, .ref b), (1, .ref h), (2, .ref hm), (3, .ref ho), (4, .int i)] → W p l e room_1 s m #[Value.ref b] below meth c H locs (cells + 2) (slots + 7) (lw_Z below #[Value.ref b] s) (F0 m 1349 ls [])) :
    W p l e room_1 s m #[Value.ref b] below meth c H locs cells slots (lw_Z below #[Value.ref b] s) (F0 m 939 ls []) := by
  obtain ⟨hx, hb, hr, hml, hown, hts, hX, hbl, hlocks, hgv⟩ := C0
  have hA : ∀ q : Nat, s.heap.size ≤ q → (fun q : Nat => s.heap.size ≤ q) q := fun _ h => h
  have hbA : ¬ (fun q : Nat => s.heap.size ≤ q) b := Nat.not_le.mpr hbl
  have hts : ∀ w ∈ gw, w.before #[Value.ref b] s = true := fun w h => hts w (List.mem_filter.mp h).1
  have hml : c.maxLocals = 7 := hml
  have hown : s.vm.findClass "AlarmMatrixLaw" = some m.cls := hown
  obtain ⟨o1, o2, hm1, hm2, hk1, hcode, heq, hR2⟩ := hsim x n y (xs (i + 1).toNatClampNeg) hR
  refine lv_aload_n hx hb d_law_939 rfl (lv_at hl 1 rfl) ?_
  refine lv_aload_n hx hb d_law_940 rfl (lv_at hl 0 rfl) ?_
  refine lv_iload hx hb d_law_941 (lv_at hl 4 rfl) ?_
  refine lv_iconst (v := (1 : Int32)) hx hb d_law_943 (by decide) ?_
  refine lv_iadd hx hb d_law_944 ?_
  refine va_sld hx hb hX hbl hbA hS hi1 d_law_945 ?_
  refine lv_aload_n hx hb d_law_946 rfl (lv_at hl 3 rfl) ?_
  refine kciP (wc := wd_O g ho f ++ wd_C g h u x n) (wr := wd_MD g hm qm y) (w1 := wd_O g ho (ot o1.1 o1.2.1 f) ++ wd_C g h u (up x 7 (o1.2.2)) n) hP hD hS hA (krunSW (As := [.ref h, .int (xs (i + 1).toNatClampNeg), .ref ho]) (rest := []) ⟨hx, hb, hml, hown, hts⟩ (c_LW_person hG hGn hGs hGt hGc l hst dC dI g F H.size h u x n ho f (xs (i + 1).toNatClampNeg) hm1 hk1) (kcwS 3 hts (gdSW k4_168 k4_169 k1_0 k4_170) rfl rfl rfl (by decide +kernel) ⟨Nat.le_of_ble_eq_true rfl, Nat.le_of_ble_eq_true rfl⟩) (kpSP hG hP hK hD hS hA hGA) rfl rfl hl.1 rfl (lv_room (Nat.le_of_ble_eq_true rfl)) d_law_947 ⟨(by show cells + 1 ≤ 601024; omega), (by show slots + 6 ≤ 7293000; omega)⟩) (fun H locs hP hD hS => ?_)
  refine lv_istore (lv' := [(5, .int (nI o1.1)), (0, .ref b), (1, .ref h), (2, .ref hm), (3, .ref ho), (4, .int i)]) hx hb d_law_950 hl (by decide) rfl (fun ls hl => ?_)
  refine lv_aload_n hx hb d_law_952 rfl (lv_at hl 3 rfl) ?_
  refine lv_aload_n hx hb d_law_953 rfl (lv_at hl 1 rfl) ?_
  refine lv_iload hx hb d_law_954 (lv_at hl 5 rfl) ?_
  refine lv_iconst (v := (1 : Int32)) hx hb d_law_956 (by decide) ?_
  refine lv_iadd hx hb d_law_957 ?_
  refine va_sld hx hb hX hbl hbA hS hi1 d_law_958 ?_
  have hP := hP.perm (List.perm_append_comm (l₁ := wd_O g ho (ot o1.1 o1.2.1 f) ++ wd_C g h u (up x 7 (o1.2.2)) n) (l₂ := wd_MD g hm qm y))
  have hD := hD.perm (List.perm_append_comm (l₁ := wd_O g ho (ot o1.1 o1.2.1 f) ++ wd_C g h u (up x 7 (o1.2.2)) n) (l₂ := wd_MD g hm qm y))
  refine kciP (wc := wd_MD g hm qm y) (wr := wd_O g ho (ot o1.1 o1.2.1 f) ++ wd_C g h u (up x 7 (o1.2.2)) n) (w1 := wd_MD g hm qm o2.2) hP hD hS hA (va_runV (As := [.int (xs (i + 1).toNatClampNeg)]) (rest := []) ⟨hx, hb, hml, hown, hts⟩ (c_MD_person hG hGn l dC dI g F H.size hm qm y (xs (i + 1).toNatClampNeg) hm2) (cwV 1 hts (gdV k6_117 k6_118 k6_119 k1_10 k6_120) rfl rfl rfl (by decide +kernel) ⟨Nat.le_of_ble_eq_true rfl, Nat.le_of_ble_eq_true rfl⟩) (kpVP hG hP hK hD hS hA hGA (ci := 10) (q0 := 0) rfl rfl rfl) rfl rfl hl.1 rfl (lv_room (Nat.le_of_ble_eq_true rfl)) d_law_959 ⟨(by show _ + 0 ≤ 601024; omega), (by show _ + 0 ≤ 7293000; omega)⟩) (fun H locs hP hD hS => ?_)
  refine lv_istore (lv' := [(6, .int o2.1), (5, .int (nI o1.1)), (0, .ref b), (1, .ref h), (2, .ref hm), (3, .ref ho), (4, .int i)]) hx hb d_law_962 hl (by decide) rfl (fun ls hl => ?_)
  refine lv_aload_n hx hb d_law_964 rfl (lv_at hl 4 rfl) ?_
  refine kciP (wc := wd_MD g hm qm o2.2) (wr := wd_O g ho (ot o1.1 o1.2.1 f) ++ wd_C g h u (up x 7 (o1.2.2)) n) (w1 := wd_MD g hm qm o2.2) hP hD hS hA (va_runV (As := []) (rest := []) ⟨hx, hb, hml, hown, hts⟩ (c_MD_thrown hG hGn l dC dI g F H.size hm qm o2.2 rfl) (cwV 0 hts (gdV k5_147 k5_148 k5_149 k1_10 k5_150) rfl rfl rfl (by decide +kernel) ⟨Nat.le_of_ble_eq_true rfl, Nat.le_of_ble_eq_true rfl⟩) (kpVP hG hP hK hD hS hA hGA (ci := 10) (q0 := 0) rfl rfl rfl) rfl rfl hl.1 rfl (lv_room (Nat.le_of_ble_eq_true rfl)) d_law_965 ⟨(by show _ + 0 ≤ 601024; omega), (by show _ + 0 ≤ 7293000; omega)⟩) (fun H locs hP hD hS => ?_)
  have hP := hP.perm (List.perm_append_comm (l₁ := wd_MD g hm qm o2.2) (l₂ := wd_O g ho (ot o1.1 o1.2.1 f) ++ wd_C g h u (up x 7 (o1.2.2)) n))
  have hD := hD.perm (List.perm_append_comm (l₁ := wd_MD g hm qm o2.2) (l₂ := wd_O g ho (ot o1.1 o1.2.1 f) ++ wd_C g h u (up x 7 (o1.2.2)) n))
  refine lv_iload hx hb d_law_968 (lv_at hl 1 rfl) ?_
  refine lv_icmp_eq (tgt := 975) hx hb d_law_970 (by decide) (fun _ => ?_) (fun h9 => absurd hcode h9)
  refine lv_iload hx hb d_law_975 (lv_at hl 1 rfl) ?_
  refine lv_if_ne (tgt := 992) hx hb d_law_977 (by decide) (fun _ => ?_) (fun h9 => ?_)
  · refine lv_goto (tgt := 1349) hx hb d_law_992 (by decide) ?_
    exact W.widen (by omega) (by omega) (kk _ _ _ _ H locs ls hR2 hP hD hS (lv_sub hl [2, 3, 4, 5, 6] rfl))
  · have h0 : o1.1 = 0 := by rcases hk1 with hk1 | hk1 <;> (rw [hk1] at h9 ⊢) <;> revert h9 <;> decide
    have h8 := heq h0
    refine lv_aload_n hx hb d_law_980 rfl (lv_at hl 5 rfl) ?_
    refine lv_iconst (v := (0 : Int32)) hx hb d_law_981 (by decide) ?_
    refine va_lald hx hb hK hP 0 4 rfl rfl (by unfold vp_in; decide) d_law_982 ?_
    refine lv_iload hx hb d_law_983 (lv_at hl 0 rfl) ?_
    have e9 : (ot o1.1 o1.2.1 f) (0 : Int32).toNatClampNeg = (o2.1).toInt64 := by rw [h0, h8]; unfold ot; simp [vp_updL]
    refine lv_i2l (v := (o2.1).toInt64) hx hb d_law_985 rfl ?_
    rw [e9]
    refine W.lcmp hx hb d_law_986 ?_
    refine lv_if_eq (tgt := 992) hx hb d_law_987 (by decide) (fun _ => ?_) (fun h7 => absurd (by unfold lg_cmp; simp) h7)
    refine lv_goto (tgt := 1349) hx hb d_law_992 (by decide) ?_
    exact W.widen (by omega) (by omega) (kk _ _ _ _ H locs ls hR2 hP hD hS (lv_sub hl [2, 3, 4, 5, 6] rfl))
set_option maxHeartbeats 40000000 in
set_option maxRecDepth 100000 in
theorem law_act {p : Program} {l : Launch} {e : Env} {s : State} {m : MethodId} {below : List Frame} {meth : Method} {c : Code} {dC : Nat → ClassId} {dI : Nat → Nat → Nat} {g : Nat → ClassId} {G : (Nat → Prop) → State → Prop} (hG : gok G) (hGn : gN G) {adK adV : Nat → Nat} (hGs : gSt adK adV G) (hGt : gTh G) (hGc : gNC G) (hst : l.stackTraces = false) {b L : Nat} {xs : Nat → Int32} (C0 : lw_At p s m meth c b L xs) (hGA : G (fun q => s.heap.size ≤ q) s) (hK : va_K (dC, dI) vwCl (tyv g) s) (F : Nat) {Rl : (Nat → St) → Nat → St → Prop} (hsim : sim_act F Rl) {n h hm ho : Nat} {f : Nat → Int64} {u : Nat → Nat → Nat} {x : Nat → St} {qm : Nat → Nat} {y : St} {H : Heap} {locs : List Loc} {ls : Array Slot} {cells slots : Nat} {i : Int32} (hi1 : vp_in (i + 1) L) (hi2 : vp_in (i + 2) L) (hi3 : vp_in (i + 3) L) (hi4 : vp_in (i + 4) L) (hi5 : vp_in (i + 5) L) (hR : Rl x n y) (hP : va_P (dC, dI) vwCl ((wd_O g ho f ++ wd_C g h u x n) ++ wd_MD g hm qm y) H) (hD : va_D (fun q : Nat => s.heap.size ≤ q) ((wd_O g ho f ++ wd_C g h u x n) ++ wd_MD g hm qm y)) (hS : va_S (fun q : Nat => s.heap.size ≤ q) s.heap H locs) (hl : lv_has ls 7 [(0, .ref b), (1, .ref h), (2, .ref hm), (3, .ref ho), (4, .int i)]) (hc : cells + 2 ≤ 601024) (hs : slots + 7 ≤ 7293000)
    (kk : ∀ (f : Nat → Int64) (u : Nat → Nat → Nat) (x : Nat → St) (y : St) (H : Heap) (locs : List Loc) (ls : Array Slot), Rl x n y → va_P (dC, dI) vwCl ((wd_O g ho f ++ wd_C g h u x n) ++ wd_MD g hm qm y) H → va_D (fun q : Nat => s.heap.size ≤ q) ((wd_O g ho f ++ wd_C g h u x n) ++ wd_MD g hm qm y) → va_S (fun q : Nat => s.heap.size ≤ q) s.heap H locs → lv_has ls 7 [(0, .ref b), (1, .ref h), (2, .ref hm), (3, .ref ho), (4, .int i)] → W p l e room_1 s m #[Value.ref b] below meth c H locs (cells + 2) (slots + 7) (lw_Z below #[Value.ref b] s) (F0 m 1349 ls [])) :
    W p l e room_1 s m #[Value.ref b] below meth c H locs cells slots (lw_Z below #[Value.ref b] s) (F0 m 1008 ls []) := by
  obtain ⟨hx, hb, hr, hml, hown, hts, hX, hbl, hlocks, hgv⟩ := C0
  have hA : ∀ q : Nat, s.heap.size ≤ q → (fun q : Nat => s.heap.size ≤ q) q := fun _ h => h
  have hbA : ¬ (fun q : Nat => s.heap.size ≤ q) b := Nat.not_le.mpr hbl
  have hts : ∀ w ∈ gw, w.before #[Value.ref b] s = true := fun w h => hts w (List.mem_filter.mp h).1
  have hml : c.maxLocals = 7 := hml
  have hown : s.vm.findClass "AlarmMatrixLaw" = some m.cls := hown
  obtain ⟨o1, o2, hm1, hm2, hk1, hcode, heq, hR2⟩ := hsim x n y (xs (i + 1).toNatClampNeg) (xs (i + 2).toNatClampNeg) hR
  refine lv_aload_n hx hb d_law_1008 rfl (lv_at hl 1 rfl) ?_
  refine lv_aload_n hx hb d_law_1009 rfl (lv_at hl 0 rfl) ?_
  refine lv_iload hx hb d_law_1010 (lv_at hl 4 rfl) ?_
  refine lv_iconst (v := (1 : Int32)) hx hb d_law_1012 (by decide) ?_
  refine lv_iadd hx hb d_law_1013 ?_
  refine va_sld hx hb hX hbl hbA hS hi1 d_law_1014 ?_
  refine lv_aload_n hx hb d_law_1015 rfl (lv_at hl 0 rfl) ?_
  refine lv_iload hx hb d_law_1016 (lv_at hl 4 rfl) ?_
  refine lv_iconst (v := (2 : Int32)) hx hb d_law_1018 (by decide) ?_
  refine lv_iadd hx hb d_law_1019 ?_
  refine va_sld hx hb hX hbl hbA hS hi2 d_law_1020 ?_
  refine lv_aload_n hx hb d_law_1021 rfl (lv_at hl 3 rfl) ?_
  refine kciP (wc := wd_O g ho f ++ wd_C g h u x n) (wr := wd_MD g hm qm y) (w1 := wd_O g ho (ot o1.1 o1.2 f) ++ wd_C g h u x n) hP hD hS hA (krunSW (As := [.ref h, .int (xs (i + 1).toNatClampNeg), .int (xs (i + 2).toNatClampNeg), .ref ho]) (rest := []) ⟨hx, hb, hml, hown, hts⟩ (c_LW_act hG hGn hGs hGt hGc l hst dC dI g F H.size h u x n ho f (xs (i + 1).toNatClampNeg) (xs (i + 2).toNatClampNeg) hm1 hk1) (kcwS 4 hts (gdSW k4_184 k4_185 k1_0 k4_186) rfl rfl rfl (by decide +kernel) ⟨Nat.le_of_ble_eq_true rfl, Nat.le_of_ble_eq_true rfl⟩) (kpSP hG hP hK hD hS hA hGA) rfl rfl hl.1 rfl (lv_room (Nat.le_of_ble_eq_true rfl)) d_law_1022 ⟨(by show cells + 1 ≤ 601024; omega), (by show slots + 6 ≤ 7293000; omega)⟩) (fun H locs hP hD hS => ?_)
  refine lv_istore (lv' := [(5, .int (nI o1.1)), (0, .ref b), (1, .ref h), (2, .ref hm), (3, .ref ho), (4, .int i)]) hx hb d_law_1025 hl (by decide) rfl (fun ls hl => ?_)
  refine lv_aload_n hx hb d_law_1027 rfl (lv_at hl 3 rfl) ?_
  refine lv_aload_n hx hb d_law_1028 rfl (lv_at hl 1 rfl) ?_
  refine lv_iload hx hb d_law_1029 (lv_at hl 5 rfl) ?_
  refine lv_iconst (v := (1 : Int32)) hx hb d_law_1031 (by decide) ?_
  refine lv_iadd hx hb d_law_1032 ?_
  refine va_sld hx hb hX hbl hbA hS hi1 d_law_1033 ?_
  refine lv_aload_n hx hb d_law_1034 rfl (lv_at hl 1 rfl) ?_
  refine lv_iload hx hb d_law_1035 (lv_at hl 5 rfl) ?_
  refine lv_iconst (v := (2 : Int32)) hx hb d_law_1037 (by decide) ?_
  refine lv_iadd hx hb d_law_1038 ?_
  refine va_sld hx hb hX hbl hbA hS hi2 d_law_1039 ?_
  have hP := hP.perm (List.perm_append_comm (l₁ := wd_O g ho (ot o1.1 o1.2 f) ++ wd_C g h u x n) (l₂ := wd_MD g hm qm y))
  have hD := hD.perm (List.perm_append_comm (l₁ := wd_O g ho (ot o1.1 o1.2 f) ++ wd_C g h u x n) (l₂ := wd_MD g hm qm y))
  refine kciP (wc := wd_MD g hm qm y) (wr := wd_O g ho (ot o1.1 o1.2 f) ++ wd_C g h u x n) (w1 := wd_MD g hm qm o2.2) hP hD hS hA (va_runV (As := [.int (xs (i + 1).toNatClampNeg), .int (xs (i + 2).toNatClampNeg)]) (rest := []) ⟨hx, hb, hml, hown, hts⟩ (c_MD_act hG hGn l dC dI g F H.size hm qm y (xs (i + 1).toNatClampNeg) (xs (i + 2).toNatClampNeg) hm2) (cwV 2 hts (gdV k6_125 k6_126 k6_127 k1_10 k6_128) rfl rfl rfl (by decide +kernel) ⟨Nat.le_of_ble_eq_true rfl, Nat.le_of_ble_eq_true rfl⟩) (kpVP hG hP hK hD hS hA hGA (ci := 10) (q0 := 0) rfl rfl rfl) rfl rfl hl.1 rfl (lv_room (Nat.le_of_ble_eq_true rfl)) d_law_1040 ⟨(by show _ + 0 ≤ 601024; omega), (by show _ + 0 ≤ 7293000; omega)⟩) (fun H locs hP hD hS => ?_)
  refine lv_istore (lv' := [(6, .int o2.1), (5, .int (nI o1.1)), (0, .ref b), (1, .ref h), (2, .ref hm), (3, .ref ho), (4, .int i)]) hx hb d_law_1043 hl (by decide) rfl (fun ls hl => ?_)
  refine lv_aload_n hx hb d_law_1045 rfl (lv_at hl 4 rfl) ?_
  refine kciP (wc := wd_MD g hm qm o2.2) (wr := wd_O g ho (ot o1.1 o1.2 f) ++ wd_C g h u x n) (w1 := wd_MD g hm qm o2.2) hP hD hS hA (va_runV (As := []) (rest := []) ⟨hx, hb, hml, hown, hts⟩ (c_MD_thrown hG hGn l dC dI g F H.size hm qm o2.2 rfl) (cwV 0 hts (gdV k5_147 k5_148 k5_149 k1_10 k5_150) rfl rfl rfl (by decide +kernel) ⟨Nat.le_of_ble_eq_true rfl, Nat.le_of_ble_eq_true rfl⟩) (kpVP hG hP hK hD hS hA hGA (ci := 10) (q0 := 0) rfl rfl rfl) rfl rfl hl.1 rfl (lv_room (Nat.le_of_ble_eq_true rfl)) d_law_1046 ⟨(by show _ + 0 ≤ 601024; omega), (by show _ + 0 ≤ 7293000; omega)⟩) (fun H locs hP hD hS => ?_)
  have hP := hP.perm (List.perm_append_comm (l₁ := wd_MD g hm qm o2.2) (l₂ := wd_O g ho (ot o1.1 o1.2 f) ++ wd_C g h u x n))
  have hD := hD.perm (List.perm_append_comm (l₁ := wd_MD g hm qm o2.2) (l₂ := wd_O g ho (ot o1.1 o1.2 f) ++ wd_C g h u x n))
  refine lv_iload hx hb d_law_1049 (lv_at hl 1 rfl) ?_
  refine lv_icmp_eq (tgt := 1056) hx hb d_law_1051 (by decide) (fun _ => ?_) (fun h9 => absurd hcode h9)
  refine lv_iload hx hb d_law_1056 (lv_at hl 1 rfl) ?_
  refine lv_if_ne (tgt := 1073) hx hb d_law_1058 (by decide) (fun _ => ?_) (fun h9 => ?_)
  · refine lv_goto (tgt := 1349) hx hb d_law_1073 (by decide) ?_
    exact W.widen (by omega) (by omega) (kk _ _ _ _ H locs ls hR2 hP hD hS (lv_sub hl [2, 3, 4, 5, 6] rfl))
  · have h0 : o1.1 = 0 := by rcases hk1 with hk1 | hk1 <;> (rw [hk1] at h9 ⊢) <;> revert h9 <;> decide
    have h8 := heq h0
    refine lv_aload_n hx hb d_law_1061 rfl (lv_at hl 5 rfl) ?_
    refine lv_iconst (v := (0 : Int32)) hx hb d_law_1062 (by decide) ?_
    refine va_lald hx hb hK hP 0 4 rfl rfl (by unfold vp_in; decide) d_law_1063 ?_
    refine lv_iload hx hb d_law_1064 (lv_at hl 0 rfl) ?_
    have e9 : (ot o1.1 o1.2 f) (0 : Int32).toNatClampNeg = (o2.1).toInt64 := by rw [h0, h8]; unfold ot; simp [vp_updL]
    refine lv_i2l (v := (o2.1).toInt64) hx hb d_law_1066 rfl ?_
    rw [e9]
    refine W.lcmp hx hb d_law_1067 ?_
    refine lv_if_eq (tgt := 1073) hx hb d_law_1068 (by decide) (fun _ => ?_) (fun h7 => absurd (by unfold lg_cmp; simp) h7)
    refine lv_goto (tgt := 1349) hx hb d_law_1073 (by decide) ?_
    exact W.widen (by omega) (by omega) (kk _ _ _ _ H locs ls hR2 hP hD hS (lv_sub hl [2, 3, 4, 5, 6] rfl))
set_option maxHeartbeats 40000000 in
set_option maxRecDepth 100000 in
theorem law_zone {p : Program} {l : Launch} {e : Env} {s : State} {m : MethodId} {below : List Frame} {meth : Method} {c : Code} {dC : Nat → ClassId} {dI : Nat → Nat → Nat} {g : Nat → ClassId} {G : (Nat → Prop) → State → Prop} (hG : gok G) (hGn : gN G) {adK adV : Nat → Nat} (hGs : gSt adK adV G) (hGt : gTh G) (hGc : gNC G) (hst : l.stackTraces = false) {b L : Nat} {xs : Nat → Int32} (C0 : lw_At p s m meth c b L xs) (hGA : G (fun q => s.heap.size ≤ q) s) (hK : va_K (dC, dI) vwCl (tyv g) s) (F : Nat) {Rl : (Nat → St) → Nat → St → Prop} (hsim : sim_zone F Rl) {n h hm ho : Nat} {f : Nat → Int64} {u : Nat → Nat → Nat} {x : Nat → St} {qm : Nat → Nat} {y : St} {H : Heap} {locs : List Loc} {ls : Array Slot} {cells slots : Nat} {i : Int32} (hi1 : vp_in (i + 1) L) (hi2 : vp_in (i + 2) L) (hi3 : vp_in (i + 3) L) (hi4 : vp_in (i + 4) L) (hi5 : vp_in (i + 5) L) (hR : Rl x n y) (hP : va_P (dC, dI) vwCl ((wd_O g ho f ++ wd_C g h u x n) ++ wd_MD g hm qm y) H) (hD : va_D (fun q : Nat => s.heap.size ≤ q) ((wd_O g ho f ++ wd_C g h u x n) ++ wd_MD g hm qm y)) (hS : va_S (fun q : Nat => s.heap.size ≤ q) s.heap H locs) (hl : lv_has ls 7 [(0, .ref b), (1, .ref h), (2, .ref hm), (3, .ref ho), (4, .int i)]) (hc : cells + 2 ≤ 601024) (hs : slots + 7 ≤ 7293000)
    (kk : ∀ (f : Nat → Int64) (u : Nat → Nat → Nat) (x : Nat → St) (y : St) (H : Heap) (locs : List Loc) (ls : Array Slot), Rl x n y → va_P (dC, dI) vwCl ((wd_O g ho f ++ wd_C g h u x n) ++ wd_MD g hm qm y) H → va_D (fun q : Nat => s.heap.size ≤ q) ((wd_O g ho f ++ wd_C g h u x n) ++ wd_MD g hm qm y) → va_S (fun q : Nat => s.heap.size ≤ q) s.heap H locs → lv_has ls 7 [(0, .ref b), (1, .ref h), (2, .ref hm), (3, .ref ho), (4, .int i)] → W p l e room_1 s m #[Value.ref b] below meth c H locs (cells + 2) (slots + 7) (lw_Z below #[Value.ref b] s) (F0 m 1349 ls [])) :
    W p l e room_1 s m #[Value.ref b] below meth c H locs cells slots (lw_Z below #[Value.ref b] s) (F0 m 1076 ls []) := by
  obtain ⟨hx, hb, hr, hml, hown, hts, hX, hbl, hlocks, hgv⟩ := C0
  have hA : ∀ q : Nat, s.heap.size ≤ q → (fun q : Nat => s.heap.size ≤ q) q := fun _ h => h
  have hbA : ¬ (fun q : Nat => s.heap.size ≤ q) b := Nat.not_le.mpr hbl
  have hts : ∀ w ∈ gw, w.before #[Value.ref b] s = true := fun w h => hts w (List.mem_filter.mp h).1
  have hml : c.maxLocals = 7 := hml
  have hown : s.vm.findClass "AlarmMatrixLaw" = some m.cls := hown
  obtain ⟨o1, o2, hm1, hm2, hk1, hcode, heq, hR2⟩ := hsim x n y (xs (i + 1).toNatClampNeg) (xs (i + 2).toNatClampNeg) hR
  refine lv_aload_n hx hb d_law_1076 rfl (lv_at hl 1 rfl) ?_
  refine lv_aload_n hx hb d_law_1077 rfl (lv_at hl 0 rfl) ?_
  refine lv_iload hx hb d_law_1078 (lv_at hl 4 rfl) ?_
  refine lv_iconst (v := (1 : Int32)) hx hb d_law_1080 (by decide) ?_
  refine lv_iadd hx hb d_law_1081 ?_
  refine va_sld hx hb hX hbl hbA hS hi1 d_law_1082 ?_
  refine lv_aload_n hx hb d_law_1083 rfl (lv_at hl 0 rfl) ?_
  refine lv_iload hx hb d_law_1084 (lv_at hl 4 rfl) ?_
  refine lv_iconst (v := (2 : Int32)) hx hb d_law_1086 (by decide) ?_
  refine lv_iadd hx hb d_law_1087 ?_
  refine va_sld hx hb hX hbl hbA hS hi2 d_law_1088 ?_
  refine lv_aload_n hx hb d_law_1089 rfl (lv_at hl 3 rfl) ?_
  refine kciP (wc := wd_O g ho f ++ wd_C g h u x n) (wr := wd_MD g hm qm y) (w1 := wd_O g ho (ot o1.1 o1.2.1 f) ++ wd_C g h u (up (up x 7 (o1.2.2.1)) 6 (o1.2.2.2)) n) hP hD hS hA (krunSW (As := [.ref h, .int (xs (i + 1).toNatClampNeg), .int (xs (i + 2).toNatClampNeg), .ref ho]) (rest := []) ⟨hx, hb, hml, hown, hts⟩ (c_LW_zone hG hGn hGs hGt hGc l hst dC dI g F H.size h u x n ho f (xs (i + 1).toNatClampNeg) (xs (i + 2).toNatClampNeg) hm1 hk1) (kcwS 4 hts (gdSW k4_198 k4_199 k1_0 k4_200) rfl rfl rfl (by decide +kernel) ⟨Nat.le_of_ble_eq_true rfl, Nat.le_of_ble_eq_true rfl⟩) (kpSP hG hP hK hD hS hA hGA) rfl rfl hl.1 rfl (lv_room (Nat.le_of_ble_eq_true rfl)) d_law_1090 ⟨(by show cells + 1 ≤ 601024; omega), (by show slots + 6 ≤ 7293000; omega)⟩) (fun H locs hP hD hS => ?_)
  refine lv_istore (lv' := [(5, .int (nI o1.1)), (0, .ref b), (1, .ref h), (2, .ref hm), (3, .ref ho), (4, .int i)]) hx hb d_law_1093 hl (by decide) rfl (fun ls hl => ?_)
  refine lv_aload_n hx hb d_law_1095 rfl (lv_at hl 3 rfl) ?_
  refine lv_aload_n hx hb d_law_1096 rfl (lv_at hl 1 rfl) ?_
  refine lv_iload hx hb d_law_1097 (lv_at hl 5 rfl) ?_
  refine lv_iconst (v := (1 : Int32)) hx hb d_law_1099 (by decide) ?_
  refine lv_iadd hx hb d_law_1100 ?_
  refine va_sld hx hb hX hbl hbA hS hi1 d_law_1101 ?_
  refine lv_aload_n hx hb d_law_1102 rfl (lv_at hl 1 rfl) ?_
  refine lv_iload hx hb d_law_1103 (lv_at hl 5 rfl) ?_
  refine lv_iconst (v := (2 : Int32)) hx hb d_law_1105 (by decide) ?_
  refine lv_iadd hx hb d_law_1106 ?_
  refine va_sld hx hb hX hbl hbA hS hi2 d_law_1107 ?_
  have hP := hP.perm (List.perm_append_comm (l₁ := wd_O g ho (ot o1.1 o1.2.1 f) ++ wd_C g h u (up (up x 7 (o1.2.2.1)) 6 (o1.2.2.2)) n) (l₂ := wd_MD g hm qm y))
  have hD := hD.perm (List.perm_append_comm (l₁ := wd_O g ho (ot o1.1 o1.2.1 f) ++ wd_C g h u (up (up x 7 (o1.2.2.1)) 6 (o1.2.2.2)) n) (l₂ := wd_MD g hm qm y))
  refine kciP (wc := wd_MD g hm qm y) (wr := wd_O g ho (ot o1.1 o1.2.1 f) ++ wd_C g h u (up (up x 7 (o1.2.2.1)) 6 (o1.2.2.2)) n) (w1 := wd_MD g hm qm o2.2) hP hD hS hA (va_runV (As := [.int (xs (i + 1).toNatClampNeg), .int (xs (i + 2).toNatClampNeg)]) (rest := []) ⟨hx, hb, hml, hown, hts⟩ (c_MD_zone hG hGn l dC dI g F H.size hm qm y (xs (i + 1).toNatClampNeg) (xs (i + 2).toNatClampNeg) hm2) (cwV 2 hts (gdV k6_129 k6_130 k6_131 k1_10 k6_132) rfl rfl rfl (by decide +kernel) ⟨Nat.le_of_ble_eq_true rfl, Nat.le_of_ble_eq_true rfl⟩) (kpVP hG hP hK hD hS hA hGA (ci := 10) (q0 := 0) rfl rfl rfl) rfl rfl hl.1 rfl (lv_room (Nat.le_of_ble_eq_true rfl)) d_law_1108 ⟨(by show _ + 0 ≤ 601024; omega), (by show _ + 0 ≤ 7293000; omega)⟩) (fun H locs hP hD hS => ?_)
  refine lv_istore (lv' := [(6, .int o2.1), (5, .int (nI o1.1)), (0, .ref b), (1, .ref h), (2, .ref hm), (3, .ref ho), (4, .int i)]) hx hb d_law_1111 hl (by decide) rfl (fun ls hl => ?_)
  refine lv_aload_n hx hb d_law_1113 rfl (lv_at hl 4 rfl) ?_
  refine kciP (wc := wd_MD g hm qm o2.2) (wr := wd_O g ho (ot o1.1 o1.2.1 f) ++ wd_C g h u (up (up x 7 (o1.2.2.1)) 6 (o1.2.2.2)) n) (w1 := wd_MD g hm qm o2.2) hP hD hS hA (va_runV (As := []) (rest := []) ⟨hx, hb, hml, hown, hts⟩ (c_MD_thrown hG hGn l dC dI g F H.size hm qm o2.2 rfl) (cwV 0 hts (gdV k5_147 k5_148 k5_149 k1_10 k5_150) rfl rfl rfl (by decide +kernel) ⟨Nat.le_of_ble_eq_true rfl, Nat.le_of_ble_eq_true rfl⟩) (kpVP hG hP hK hD hS hA hGA (ci := 10) (q0 := 0) rfl rfl rfl) rfl rfl hl.1 rfl (lv_room (Nat.le_of_ble_eq_true rfl)) d_law_1114 ⟨(by show _ + 0 ≤ 601024; omega), (by show _ + 0 ≤ 7293000; omega)⟩) (fun H locs hP hD hS => ?_)
  have hP := hP.perm (List.perm_append_comm (l₁ := wd_MD g hm qm o2.2) (l₂ := wd_O g ho (ot o1.1 o1.2.1 f) ++ wd_C g h u (up (up x 7 (o1.2.2.1)) 6 (o1.2.2.2)) n))
  have hD := hD.perm (List.perm_append_comm (l₁ := wd_MD g hm qm o2.2) (l₂ := wd_O g ho (ot o1.1 o1.2.1 f) ++ wd_C g h u (up (up x 7 (o1.2.2.1)) 6 (o1.2.2.2)) n))
  refine lv_iload hx hb d_law_1117 (lv_at hl 1 rfl) ?_
  refine lv_icmp_eq (tgt := 1124) hx hb d_law_1119 (by decide) (fun _ => ?_) (fun h9 => absurd hcode h9)
  refine lv_iload hx hb d_law_1124 (lv_at hl 1 rfl) ?_
  refine lv_if_ne (tgt := 1141) hx hb d_law_1126 (by decide) (fun _ => ?_) (fun h9 => ?_)
  · refine lv_goto (tgt := 1349) hx hb d_law_1141 (by decide) ?_
    exact W.widen (by omega) (by omega) (kk _ _ _ _ H locs ls hR2 hP hD hS (lv_sub hl [2, 3, 4, 5, 6] rfl))
  · have h0 : o1.1 = 0 := by rcases hk1 with hk1 | hk1 <;> (rw [hk1] at h9 ⊢) <;> revert h9 <;> decide
    have h8 := heq h0
    refine lv_aload_n hx hb d_law_1129 rfl (lv_at hl 5 rfl) ?_
    refine lv_iconst (v := (0 : Int32)) hx hb d_law_1130 (by decide) ?_
    refine va_lald hx hb hK hP 0 4 rfl rfl (by unfold vp_in; decide) d_law_1131 ?_
    refine lv_iload hx hb d_law_1132 (lv_at hl 0 rfl) ?_
    have e9 : (ot o1.1 o1.2.1 f) (0 : Int32).toNatClampNeg = (o2.1).toInt64 := by rw [h0, h8]; unfold ot; simp [vp_updL]
    refine lv_i2l (v := (o2.1).toInt64) hx hb d_law_1134 rfl ?_
    rw [e9]
    refine W.lcmp hx hb d_law_1135 ?_
    refine lv_if_eq (tgt := 1141) hx hb d_law_1136 (by decide) (fun _ => ?_) (fun h7 => absurd (by unfold lg_cmp; simp) h7)
    refine lv_goto (tgt := 1349) hx hb d_law_1141 (by decide) ?_
    exact W.widen (by omega) (by omega) (kk _ _ _ _ H locs ls hR2 hP hD hS (lv_sub hl [2, 3, 4, 5, 6] rfl))
set_option maxHeartbeats 40000000 in
set_option maxRecDepth 100000 in
theorem law_row {p : Program} {l : Launch} {e : Env} {s : State} {m : MethodId} {below : List Frame} {meth : Method} {c : Code} {dC : Nat → ClassId} {dI : Nat → Nat → Nat} {g : Nat → ClassId} {G : (Nat → Prop) → State → Prop} (hG : gok G) (hGn : gN G) {adK adV : Nat → Nat} (hGs : gSt adK adV G) (hGt : gTh G) (hGc : gNC G) (hst : l.stackTraces = false) {b L : Nat} {xs : Nat → Int32} (C0 : lw_At p s m meth c b L xs) (hGA : G (fun q => s.heap.size ≤ q) s) (hK : va_K (dC, dI) vwCl (tyv g) s) (F : Nat) {Rl : (Nat → St) → Nat → St → Prop} (hsim : sim_row F Rl) {n h hm ho : Nat} {f : Nat → Int64} {u : Nat → Nat → Nat} {x : Nat → St} {qm : Nat → Nat} {y : St} {H : Heap} {locs : List Loc} {ls : Array Slot} {cells slots : Nat} {i : Int32} (hi1 : vp_in (i + 1) L) (hi2 : vp_in (i + 2) L) (hi3 : vp_in (i + 3) L) (hi4 : vp_in (i + 4) L) (hi5 : vp_in (i + 5) L) (hR : Rl x n y) (hP : va_P (dC, dI) vwCl ((wd_O g ho f ++ wd_C g h u x n) ++ wd_MD g hm qm y) H) (hD : va_D (fun q : Nat => s.heap.size ≤ q) ((wd_O g ho f ++ wd_C g h u x n) ++ wd_MD g hm qm y)) (hS : va_S (fun q : Nat => s.heap.size ≤ q) s.heap H locs) (hl : lv_has ls 7 [(0, .ref b), (1, .ref h), (2, .ref hm), (3, .ref ho), (4, .int i)]) (hc : cells + 2 ≤ 601024) (hs : slots + 7 ≤ 7293000)
    (kk : ∀ (f : Nat → Int64) (u : Nat → Nat → Nat) (x : Nat → St) (y : St) (H : Heap) (locs : List Loc) (ls : Array Slot), Rl x n y → va_P (dC, dI) vwCl ((wd_O g ho f ++ wd_C g h u x n) ++ wd_MD g hm qm y) H → va_D (fun q : Nat => s.heap.size ≤ q) ((wd_O g ho f ++ wd_C g h u x n) ++ wd_MD g hm qm y) → va_S (fun q : Nat => s.heap.size ≤ q) s.heap H locs → lv_has ls 7 [(0, .ref b), (1, .ref h), (2, .ref hm), (3, .ref ho), (4, .int i)] → W p l e room_1 s m #[Value.ref b] below meth c H locs (cells + 2) (slots + 7) (lw_Z below #[Value.ref b] s) (F0 m 1349 ls [])) :
    W p l e room_1 s m #[Value.ref b] below meth c H locs cells slots (lw_Z below #[Value.ref b] s) (F0 m 1144 ls []) := by
  obtain ⟨hx, hb, hr, hml, hown, hts, hX, hbl, hlocks, hgv⟩ := C0
  have hA : ∀ q : Nat, s.heap.size ≤ q → (fun q : Nat => s.heap.size ≤ q) q := fun _ h => h
  have hbA : ¬ (fun q : Nat => s.heap.size ≤ q) b := Nat.not_le.mpr hbl
  have hts : ∀ w ∈ gw, w.before #[Value.ref b] s = true := fun w h => hts w (List.mem_filter.mp h).1
  have hml : c.maxLocals = 7 := hml
  have hown : s.vm.findClass "AlarmMatrixLaw" = some m.cls := hown
  obtain ⟨o1, o2, hm1, hm2, hk1, hcode, heq, hR2⟩ := hsim x n y (xs (i + 1).toNatClampNeg) (xs (i + 2).toNatClampNeg) hR
  refine lv_aload_n hx hb d_law_1144 rfl (lv_at hl 1 rfl) ?_
  refine lv_aload_n hx hb d_law_1145 rfl (lv_at hl 0 rfl) ?_
  refine lv_iload hx hb d_law_1146 (lv_at hl 4 rfl) ?_
  refine lv_iconst (v := (1 : Int32)) hx hb d_law_1148 (by decide) ?_
  refine lv_iadd hx hb d_law_1149 ?_
  refine va_sld hx hb hX hbl hbA hS hi1 d_law_1150 ?_
  refine lv_aload_n hx hb d_law_1151 rfl (lv_at hl 0 rfl) ?_
  refine lv_iload hx hb d_law_1152 (lv_at hl 4 rfl) ?_
  refine lv_iconst (v := (2 : Int32)) hx hb d_law_1154 (by decide) ?_
  refine lv_iadd hx hb d_law_1155 ?_
  refine va_sld hx hb hX hbl hbA hS hi2 d_law_1156 ?_
  refine lv_aload_n hx hb d_law_1157 rfl (lv_at hl 3 rfl) ?_
  refine kciP (wc := wd_O g ho f ++ wd_C g h u x n) (wr := wd_MD g hm qm y) (w1 := wd_O g ho (ot o1.1 o1.2.1 f) ++ wd_C g h u (up (up x 7 (o1.2.2.1)) 6 (o1.2.2.2)) n) hP hD hS hA (krunSW (As := [.ref h, .int (xs (i + 1).toNatClampNeg), .int (xs (i + 2).toNatClampNeg), .ref ho]) (rest := []) ⟨hx, hb, hml, hown, hts⟩ (c_LW_row hG hGn hGs hGt hGc l hst dC dI g F H.size h u x n ho f (xs (i + 1).toNatClampNeg) (xs (i + 2).toNatClampNeg) hm1 hk1) (kcwS 4 hts (gdSW k4_214 k4_215 k1_0 k4_216) rfl rfl rfl (by decide +kernel) ⟨Nat.le_of_ble_eq_true rfl, Nat.le_of_ble_eq_true rfl⟩) (kpSP hG hP hK hD hS hA hGA) rfl rfl hl.1 rfl (lv_room (Nat.le_of_ble_eq_true rfl)) d_law_1158 ⟨(by show cells + 1 ≤ 601024; omega), (by show slots + 6 ≤ 7293000; omega)⟩) (fun H locs hP hD hS => ?_)
  refine lv_istore (lv' := [(5, .int (nI o1.1)), (0, .ref b), (1, .ref h), (2, .ref hm), (3, .ref ho), (4, .int i)]) hx hb d_law_1161 hl (by decide) rfl (fun ls hl => ?_)
  refine lv_aload_n hx hb d_law_1163 rfl (lv_at hl 3 rfl) ?_
  refine lv_aload_n hx hb d_law_1164 rfl (lv_at hl 1 rfl) ?_
  refine lv_iload hx hb d_law_1165 (lv_at hl 5 rfl) ?_
  refine lv_iconst (v := (1 : Int32)) hx hb d_law_1167 (by decide) ?_
  refine lv_iadd hx hb d_law_1168 ?_
  refine va_sld hx hb hX hbl hbA hS hi1 d_law_1169 ?_
  refine lv_aload_n hx hb d_law_1170 rfl (lv_at hl 1 rfl) ?_
  refine lv_iload hx hb d_law_1171 (lv_at hl 5 rfl) ?_
  refine lv_iconst (v := (2 : Int32)) hx hb d_law_1173 (by decide) ?_
  refine lv_iadd hx hb d_law_1174 ?_
  refine va_sld hx hb hX hbl hbA hS hi2 d_law_1175 ?_
  have hP := hP.perm (List.perm_append_comm (l₁ := wd_O g ho (ot o1.1 o1.2.1 f) ++ wd_C g h u (up (up x 7 (o1.2.2.1)) 6 (o1.2.2.2)) n) (l₂ := wd_MD g hm qm y))
  have hD := hD.perm (List.perm_append_comm (l₁ := wd_O g ho (ot o1.1 o1.2.1 f) ++ wd_C g h u (up (up x 7 (o1.2.2.1)) 6 (o1.2.2.2)) n) (l₂ := wd_MD g hm qm y))
  refine kciP (wc := wd_MD g hm qm y) (wr := wd_O g ho (ot o1.1 o1.2.1 f) ++ wd_C g h u (up (up x 7 (o1.2.2.1)) 6 (o1.2.2.2)) n) (w1 := wd_MD g hm qm o2.2) hP hD hS hA (va_runV (As := [.int (xs (i + 1).toNatClampNeg), .int (xs (i + 2).toNatClampNeg)]) (rest := []) ⟨hx, hb, hml, hown, hts⟩ (c_MD_row hG hGn l dC dI g F H.size hm qm y (xs (i + 1).toNatClampNeg) (xs (i + 2).toNatClampNeg) hm2) (cwV 2 hts (gdV k6_133 k6_134 k6_135 k1_10 k6_136) rfl rfl rfl (by decide +kernel) ⟨Nat.le_of_ble_eq_true rfl, Nat.le_of_ble_eq_true rfl⟩) (kpVP hG hP hK hD hS hA hGA (ci := 10) (q0 := 0) rfl rfl rfl) rfl rfl hl.1 rfl (lv_room (Nat.le_of_ble_eq_true rfl)) d_law_1176 ⟨(by show _ + 0 ≤ 601024; omega), (by show _ + 0 ≤ 7293000; omega)⟩) (fun H locs hP hD hS => ?_)
  refine lv_istore (lv' := [(6, .int o2.1), (5, .int (nI o1.1)), (0, .ref b), (1, .ref h), (2, .ref hm), (3, .ref ho), (4, .int i)]) hx hb d_law_1179 hl (by decide) rfl (fun ls hl => ?_)
  refine lv_aload_n hx hb d_law_1181 rfl (lv_at hl 4 rfl) ?_
  refine kciP (wc := wd_MD g hm qm o2.2) (wr := wd_O g ho (ot o1.1 o1.2.1 f) ++ wd_C g h u (up (up x 7 (o1.2.2.1)) 6 (o1.2.2.2)) n) (w1 := wd_MD g hm qm o2.2) hP hD hS hA (va_runV (As := []) (rest := []) ⟨hx, hb, hml, hown, hts⟩ (c_MD_thrown hG hGn l dC dI g F H.size hm qm o2.2 rfl) (cwV 0 hts (gdV k5_147 k5_148 k5_149 k1_10 k5_150) rfl rfl rfl (by decide +kernel) ⟨Nat.le_of_ble_eq_true rfl, Nat.le_of_ble_eq_true rfl⟩) (kpVP hG hP hK hD hS hA hGA (ci := 10) (q0 := 0) rfl rfl rfl) rfl rfl hl.1 rfl (lv_room (Nat.le_of_ble_eq_true rfl)) d_law_1182 ⟨(by show _ + 0 ≤ 601024; omega), (by show _ + 0 ≤ 7293000; omega)⟩) (fun H locs hP hD hS => ?_)
  have hP := hP.perm (List.perm_append_comm (l₁ := wd_MD g hm qm o2.2) (l₂ := wd_O g ho (ot o1.1 o1.2.1 f) ++ wd_C g h u (up (up x 7 (o1.2.2.1)) 6 (o1.2.2.2)) n))
  have hD := hD.perm (List.perm_append_comm (l₁ := wd_MD g hm qm o2.2) (l₂ := wd_O g ho (ot o1.1 o1.2.1 f) ++ wd_C g h u (up (up x 7 (o1.2.2.1)) 6 (o1.2.2.2)) n))
  refine lv_iload hx hb d_law_1185 (lv_at hl 1 rfl) ?_
  refine lv_icmp_eq (tgt := 1192) hx hb d_law_1187 (by decide) (fun _ => ?_) (fun h9 => absurd hcode h9)
  refine lv_iload hx hb d_law_1192 (lv_at hl 1 rfl) ?_
  refine lv_if_ne (tgt := 1209) hx hb d_law_1194 (by decide) (fun _ => ?_) (fun h9 => ?_)
  · refine lv_goto (tgt := 1349) hx hb d_law_1209 (by decide) ?_
    exact W.widen (by omega) (by omega) (kk _ _ _ _ H locs ls hR2 hP hD hS (lv_sub hl [2, 3, 4, 5, 6] rfl))
  · have h0 : o1.1 = 0 := by rcases hk1 with hk1 | hk1 <;> (rw [hk1] at h9 ⊢) <;> revert h9 <;> decide
    have h8 := heq h0
    refine lv_aload_n hx hb d_law_1197 rfl (lv_at hl 5 rfl) ?_
    refine lv_iconst (v := (0 : Int32)) hx hb d_law_1198 (by decide) ?_
    refine va_lald hx hb hK hP 0 4 rfl rfl (by unfold vp_in; decide) d_law_1199 ?_
    refine lv_iload hx hb d_law_1200 (lv_at hl 0 rfl) ?_
    have e9 : (ot o1.1 o1.2.1 f) (0 : Int32).toNatClampNeg = (o2.1).toInt64 := by rw [h0, h8]; unfold ot; simp [vp_updL]
    refine lv_i2l (v := (o2.1).toInt64) hx hb d_law_1202 rfl ?_
    rw [e9]
    refine W.lcmp hx hb d_law_1203 ?_
    refine lv_if_eq (tgt := 1209) hx hb d_law_1204 (by decide) (fun _ => ?_) (fun h7 => absurd (by unfold lg_cmp; simp) h7)
    refine lv_goto (tgt := 1349) hx hb d_law_1209 (by decide) ?_
    exact W.widen (by omega) (by omega) (kk _ _ _ _ H locs ls hR2 hP hD hS (lv_sub hl [2, 3, 4, 5, 6] rfl))
set_option maxHeartbeats 40000000 in
set_option maxRecDepth 100000 in
theorem law_event {p : Program} {l : Launch} {e : Env} {s : State} {m : MethodId} {below : List Frame} {meth : Method} {c : Code} {dC : Nat → ClassId} {dI : Nat → Nat → Nat} {g : Nat → ClassId} {G : (Nat → Prop) → State → Prop} (hG : gok G) (hGn : gN G) {adK adV : Nat → Nat} (hGs : gSt adK adV G) (hGt : gTh G) (hGc : gNC G) (hst : l.stackTraces = false) {b L : Nat} {xs : Nat → Int32} (C0 : lw_At p s m meth c b L xs) (hGA : G (fun q => s.heap.size ≤ q) s) (hK : va_K (dC, dI) vwCl (tyv g) s) (F : Nat) {Rl : (Nat → St) → Nat → St → Prop} (hsim : sim_event F Rl) {n h hm ho : Nat} {f : Nat → Int64} {u : Nat → Nat → Nat} {x : Nat → St} {qm : Nat → Nat} {y : St} {H : Heap} {locs : List Loc} {ls : Array Slot} {cells slots : Nat} {i : Int32} (hi1 : vp_in (i + 1) L) (hi2 : vp_in (i + 2) L) (hi3 : vp_in (i + 3) L) (hi4 : vp_in (i + 4) L) (hi5 : vp_in (i + 5) L) (hR : Rl x n y) (hP : va_P (dC, dI) vwCl ((wd_O g ho f ++ wd_C g h u x n) ++ wd_MD g hm qm y) H) (hD : va_D (fun q : Nat => s.heap.size ≤ q) ((wd_O g ho f ++ wd_C g h u x n) ++ wd_MD g hm qm y)) (hS : va_S (fun q : Nat => s.heap.size ≤ q) s.heap H locs) (hl : lv_has ls 7 [(0, .ref b), (1, .ref h), (2, .ref hm), (3, .ref ho), (4, .int i)]) (hc : cells + 2 ≤ 601024) (hs : slots + 7 ≤ 7293000)
    (kk : ∀ (f : Nat → Int64) (u : Nat → Nat → Nat) (x : Nat → St) (y : St) (H : Heap) (locs : List Loc) (ls : Array Slot), Rl x n y → va_P (dC, dI) vwCl ((wd_O g ho f ++ wd_C g h u x n) ++ wd_MD g hm qm y) H → va_D (fun q : Nat => s.heap.size ≤ q) ((wd_O g ho f ++ wd_C g h u x n) ++ wd_MD g hm qm y) → va_S (fun q : Nat => s.heap.size ≤ q) s.heap H locs → lv_has ls 7 [(0, .ref b), (1, .ref h), (2, .ref hm), (3, .ref ho), (4, .int i)] → W p l e room_1 s m #[Value.ref b] below meth c H locs (cells + 2) (slots + 7) (lw_Z below #[Value.ref b] s) (F0 m 1349 ls [])) :
    W p l e room_1 s m #[Value.ref b] below meth c H locs cells slots (lw_Z below #[Value.ref b] s) (F0 m 1212 ls []) := by
  obtain ⟨hx, hb, hr, hml, hown, hts, hX, hbl, hlocks, hgv⟩ := C0
  have hA : ∀ q : Nat, s.heap.size ≤ q → (fun q : Nat => s.heap.size ≤ q) q := fun _ h => h
  have hbA : ¬ (fun q : Nat => s.heap.size ≤ q) b := Nat.not_le.mpr hbl
  have hts : ∀ w ∈ gw, w.before #[Value.ref b] s = true := fun w h => hts w (List.mem_filter.mp h).1
  have hml : c.maxLocals = 7 := hml
  have hown : s.vm.findClass "AlarmMatrixLaw" = some m.cls := hown
  obtain ⟨o1, o2, hm1, hm2, hk1, hcode, heq, hR2⟩ := hsim x n y (xs (i + 1).toNatClampNeg) (xs (i + 2).toNatClampNeg) hR
  refine lv_aload_n hx hb d_law_1212 rfl (lv_at hl 1 rfl) ?_
  refine lv_aload_n hx hb d_law_1213 rfl (lv_at hl 0 rfl) ?_
  refine lv_iload hx hb d_law_1214 (lv_at hl 4 rfl) ?_
  refine lv_iconst (v := (1 : Int32)) hx hb d_law_1216 (by decide) ?_
  refine lv_iadd hx hb d_law_1217 ?_
  refine va_sld hx hb hX hbl hbA hS hi1 d_law_1218 ?_
  refine lv_aload_n hx hb d_law_1219 rfl (lv_at hl 0 rfl) ?_
  refine lv_iload hx hb d_law_1220 (lv_at hl 4 rfl) ?_
  refine lv_iconst (v := (2 : Int32)) hx hb d_law_1222 (by decide) ?_
  refine lv_iadd hx hb d_law_1223 ?_
  refine va_sld hx hb hX hbl hbA hS hi2 d_law_1224 ?_
  refine lv_aload_n hx hb d_law_1225 rfl (lv_at hl 3 rfl) ?_
  refine kciP (wc := wd_O g ho f ++ wd_C g h u x n) (wr := wd_MD g hm qm y) (w1 := wd_O g ho (ot o1.1 o1.2 f) ++ wd_C g h u x n) hP hD hS hA (krunSW (As := [.ref h, .int (xs (i + 1).toNatClampNeg), .int (xs (i + 2).toNatClampNeg), .ref ho]) (rest := []) ⟨hx, hb, hml, hown, hts⟩ (c_LW_event hG hGn hGs hGt hGc l hst dC dI g F H.size h u x n ho f (xs (i + 1).toNatClampNeg) (xs (i + 2).toNatClampNeg) hm1 hk1) (kcwS 4 hts (gdSW k4_227 k4_228 k1_0 k4_229) rfl rfl rfl (by decide +kernel) ⟨Nat.le_of_ble_eq_true rfl, Nat.le_of_ble_eq_true rfl⟩) (kpSP hG hP hK hD hS hA hGA) rfl rfl hl.1 rfl (lv_room (Nat.le_of_ble_eq_true rfl)) d_law_1226 ⟨(by show cells + 1 ≤ 601024; omega), (by show slots + 6 ≤ 7293000; omega)⟩) (fun H locs hP hD hS => ?_)
  refine lv_istore (lv' := [(5, .int (nI o1.1)), (0, .ref b), (1, .ref h), (2, .ref hm), (3, .ref ho), (4, .int i)]) hx hb d_law_1229 hl (by decide) rfl (fun ls hl => ?_)
  refine lv_aload_n hx hb d_law_1231 rfl (lv_at hl 3 rfl) ?_
  refine lv_aload_n hx hb d_law_1232 rfl (lv_at hl 1 rfl) ?_
  refine lv_iload hx hb d_law_1233 (lv_at hl 5 rfl) ?_
  refine lv_iconst (v := (1 : Int32)) hx hb d_law_1235 (by decide) ?_
  refine lv_iadd hx hb d_law_1236 ?_
  refine va_sld hx hb hX hbl hbA hS hi1 d_law_1237 ?_
  refine lv_aload_n hx hb d_law_1238 rfl (lv_at hl 1 rfl) ?_
  refine lv_iload hx hb d_law_1239 (lv_at hl 5 rfl) ?_
  refine lv_iconst (v := (2 : Int32)) hx hb d_law_1241 (by decide) ?_
  refine lv_iadd hx hb d_law_1242 ?_
  refine va_sld hx hb hX hbl hbA hS hi2 d_law_1243 ?_
  have hP := hP.perm (List.perm_append_comm (l₁ := wd_O g ho (ot o1.1 o1.2 f) ++ wd_C g h u x n) (l₂ := wd_MD g hm qm y))
  have hD := hD.perm (List.perm_append_comm (l₁ := wd_O g ho (ot o1.1 o1.2 f) ++ wd_C g h u x n) (l₂ := wd_MD g hm qm y))
  refine kciP (wc := wd_MD g hm qm y) (wr := wd_O g ho (ot o1.1 o1.2 f) ++ wd_C g h u x n) (w1 := wd_MD g hm qm o2.2) hP hD hS hA (va_runV (As := [.int (xs (i + 1).toNatClampNeg), .int (xs (i + 2).toNatClampNeg)]) (rest := []) ⟨hx, hb, hml, hown, hts⟩ (c_MD_event hG hGn l dC dI g F H.size hm qm y (xs (i + 1).toNatClampNeg) (xs (i + 2).toNatClampNeg) hm2) (cwV 2 hts (gdV k6_137 k6_138 k6_139 k1_10 k6_140) rfl rfl rfl (by decide +kernel) ⟨Nat.le_of_ble_eq_true rfl, Nat.le_of_ble_eq_true rfl⟩) (kpVP hG hP hK hD hS hA hGA (ci := 10) (q0 := 0) rfl rfl rfl) rfl rfl hl.1 rfl (lv_room (Nat.le_of_ble_eq_true rfl)) d_law_1244 ⟨(by show _ + 0 ≤ 601024; omega), (by show _ + 0 ≤ 7293000; omega)⟩) (fun H locs hP hD hS => ?_)
  refine lv_istore (lv' := [(6, .int o2.1), (5, .int (nI o1.1)), (0, .ref b), (1, .ref h), (2, .ref hm), (3, .ref ho), (4, .int i)]) hx hb d_law_1247 hl (by decide) rfl (fun ls hl => ?_)
  refine lv_aload_n hx hb d_law_1249 rfl (lv_at hl 4 rfl) ?_
  refine kciP (wc := wd_MD g hm qm o2.2) (wr := wd_O g ho (ot o1.1 o1.2 f) ++ wd_C g h u x n) (w1 := wd_MD g hm qm o2.2) hP hD hS hA (va_runV (As := []) (rest := []) ⟨hx, hb, hml, hown, hts⟩ (c_MD_thrown hG hGn l dC dI g F H.size hm qm o2.2 rfl) (cwV 0 hts (gdV k5_147 k5_148 k5_149 k1_10 k5_150) rfl rfl rfl (by decide +kernel) ⟨Nat.le_of_ble_eq_true rfl, Nat.le_of_ble_eq_true rfl⟩) (kpVP hG hP hK hD hS hA hGA (ci := 10) (q0 := 0) rfl rfl rfl) rfl rfl hl.1 rfl (lv_room (Nat.le_of_ble_eq_true rfl)) d_law_1250 ⟨(by show _ + 0 ≤ 601024; omega), (by show _ + 0 ≤ 7293000; omega)⟩) (fun H locs hP hD hS => ?_)
  have hP := hP.perm (List.perm_append_comm (l₁ := wd_MD g hm qm o2.2) (l₂ := wd_O g ho (ot o1.1 o1.2 f) ++ wd_C g h u x n))
  have hD := hD.perm (List.perm_append_comm (l₁ := wd_MD g hm qm o2.2) (l₂ := wd_O g ho (ot o1.1 o1.2 f) ++ wd_C g h u x n))
  refine lv_iload hx hb d_law_1253 (lv_at hl 1 rfl) ?_
  refine lv_icmp_eq (tgt := 1260) hx hb d_law_1255 (by decide) (fun _ => ?_) (fun h9 => absurd hcode h9)
  refine lv_iload hx hb d_law_1260 (lv_at hl 1 rfl) ?_
  refine lv_if_ne (tgt := 1277) hx hb d_law_1262 (by decide) (fun _ => ?_) (fun h9 => ?_)
  · refine lv_goto (tgt := 1349) hx hb d_law_1277 (by decide) ?_
    exact W.widen (by omega) (by omega) (kk _ _ _ _ H locs ls hR2 hP hD hS (lv_sub hl [2, 3, 4, 5, 6] rfl))
  · have h0 : o1.1 = 0 := by rcases hk1 with hk1 | hk1 <;> (rw [hk1] at h9 ⊢) <;> revert h9 <;> decide
    have h8 := heq h0
    refine lv_aload_n hx hb d_law_1265 rfl (lv_at hl 5 rfl) ?_
    refine lv_iconst (v := (0 : Int32)) hx hb d_law_1266 (by decide) ?_
    refine va_lald hx hb hK hP 0 4 rfl rfl (by unfold vp_in; decide) d_law_1267 ?_
    refine lv_iload hx hb d_law_1268 (lv_at hl 0 rfl) ?_
    have e9 : (ot o1.1 o1.2 f) (0 : Int32).toNatClampNeg = (o2.1).toInt64 := by rw [h0, h8]; unfold ot; simp [vp_updL]
    refine lv_i2l (v := (o2.1).toInt64) hx hb d_law_1270 rfl ?_
    rw [e9]
    refine W.lcmp hx hb d_law_1271 ?_
    refine lv_if_eq (tgt := 1277) hx hb d_law_1272 (by decide) (fun _ => ?_) (fun h7 => absurd (by unfold lg_cmp; simp) h7)
    refine lv_goto (tgt := 1349) hx hb d_law_1277 (by decide) ?_
    exact W.widen (by omega) (by omega) (kk _ _ _ _ H locs ls hR2 hP hD hS (lv_sub hl [2, 3, 4, 5, 6] rfl))
set_option maxHeartbeats 40000000 in
set_option maxRecDepth 100000 in
theorem law_ranked {p : Program} {l : Launch} {e : Env} {s : State} {m : MethodId} {below : List Frame} {meth : Method} {c : Code} {dC : Nat → ClassId} {dI : Nat → Nat → Nat} {g : Nat → ClassId} {G : (Nat → Prop) → State → Prop} (hG : gok G) (hGn : gN G) {adK adV : Nat → Nat} (hGs : gSt adK adV G) (hGt : gTh G) (hGc : gNC G) (hst : l.stackTraces = false) {b L : Nat} {xs : Nat → Int32} (C0 : lw_At p s m meth c b L xs) (hGA : G (fun q => s.heap.size ≤ q) s) (hK : va_K (dC, dI) vwCl (tyv g) s) (F : Nat) {Rl : (Nat → St) → Nat → St → Prop} (hsim : sim_ranked F Rl) {n h hm ho : Nat} {f : Nat → Int64} {u : Nat → Nat → Nat} {x : Nat → St} {qm : Nat → Nat} {y : St} {H : Heap} {locs : List Loc} {ls : Array Slot} {cells slots : Nat} {i : Int32} (hi1 : vp_in (i + 1) L) (hi2 : vp_in (i + 2) L) (hi3 : vp_in (i + 3) L) (hi4 : vp_in (i + 4) L) (hi5 : vp_in (i + 5) L) (hR : Rl x n y) (hP : va_P (dC, dI) vwCl ((wd_O g ho f ++ wd_C g h u x n) ++ wd_MD g hm qm y) H) (hD : va_D (fun q : Nat => s.heap.size ≤ q) ((wd_O g ho f ++ wd_C g h u x n) ++ wd_MD g hm qm y)) (hS : va_S (fun q : Nat => s.heap.size ≤ q) s.heap H locs) (hl : lv_has ls 7 [(0, .ref b), (1, .ref h), (2, .ref hm), (3, .ref ho), (4, .int i)]) (hc : cells + 2 ≤ 601024) (hs : slots + 7 ≤ 7293000)
    (kk : ∀ (f : Nat → Int64) (u : Nat → Nat → Nat) (x : Nat → St) (y : St) (H : Heap) (locs : List Loc) (ls : Array Slot), Rl x n y → va_P (dC, dI) vwCl ((wd_O g ho f ++ wd_C g h u x n) ++ wd_MD g hm qm y) H → va_D (fun q : Nat => s.heap.size ≤ q) ((wd_O g ho f ++ wd_C g h u x n) ++ wd_MD g hm qm y) → va_S (fun q : Nat => s.heap.size ≤ q) s.heap H locs → lv_has ls 7 [(0, .ref b), (1, .ref h), (2, .ref hm), (3, .ref ho), (4, .int i)] → W p l e room_1 s m #[Value.ref b] below meth c H locs (cells + 2) (slots + 7) (lw_Z below #[Value.ref b] s) (F0 m 1349 ls [])) :
    W p l e room_1 s m #[Value.ref b] below meth c H locs cells slots (lw_Z below #[Value.ref b] s) (F0 m 1280 ls []) := by
  obtain ⟨hx, hb, hr, hml, hown, hts, hX, hbl, hlocks, hgv⟩ := C0
  have hA : ∀ q : Nat, s.heap.size ≤ q → (fun q : Nat => s.heap.size ≤ q) q := fun _ h => h
  have hbA : ¬ (fun q : Nat => s.heap.size ≤ q) b := Nat.not_le.mpr hbl
  have hts : ∀ w ∈ gw, w.before #[Value.ref b] s = true := fun w h => hts w (List.mem_filter.mp h).1
  have hml : c.maxLocals = 7 := hml
  have hown : s.vm.findClass "AlarmMatrixLaw" = some m.cls := hown
  obtain ⟨o1, o2, hm1, hm2, hk1, hcode, heq, hR2⟩ := hsim x n y (xs (i + 1).toNatClampNeg) hR
  refine lv_aload_n hx hb d_law_1280 rfl (lv_at hl 1 rfl) ?_
  refine lv_aload_n hx hb d_law_1281 rfl (lv_at hl 0 rfl) ?_
  refine lv_iload hx hb d_law_1282 (lv_at hl 4 rfl) ?_
  refine lv_iconst (v := (1 : Int32)) hx hb d_law_1284 (by decide) ?_
  refine lv_iadd hx hb d_law_1285 ?_
  refine va_sld hx hb hX hbl hbA hS hi1 d_law_1286 ?_
  refine lv_aload_n hx hb d_law_1287 rfl (lv_at hl 3 rfl) ?_
  refine kciP (wc := wd_O g ho f ++ wd_C g h u x n) (wr := wd_MD g hm qm y) (w1 := wd_O g ho (ot o1.1 o1.2 f) ++ wd_C g h u x n) hP hD hS hA (krunSW (As := [.ref h, .int (xs (i + 1).toNatClampNeg), .ref ho]) (rest := []) ⟨hx, hb, hml, hown, hts⟩ (c_LW_ranked hG hGn hGs hGt hGc l hst dC dI g F H.size h u x n ho f (xs (i + 1).toNatClampNeg) hm1 hk1) (kcwS 3 hts (gdSW k5_3 k5_4 k1_0 k5_5) rfl rfl rfl (by decide +kernel) ⟨Nat.le_of_ble_eq_true rfl, Nat.le_of_ble_eq_true rfl⟩) (kpSP hG hP hK hD hS hA hGA) rfl rfl hl.1 rfl (lv_room (Nat.le_of_ble_eq_true rfl)) d_law_1288 ⟨(by show cells + 1 ≤ 601024; omega), (by show slots + 6 ≤ 7293000; omega)⟩) (fun H locs hP hD hS => ?_)
  refine lv_istore (lv' := [(5, .int (nI o1.1)), (0, .ref b), (1, .ref h), (2, .ref hm), (3, .ref ho), (4, .int i)]) hx hb d_law_1291 hl (by decide) rfl (fun ls hl => ?_)
  refine lv_aload_n hx hb d_law_1293 rfl (lv_at hl 3 rfl) ?_
  refine lv_aload_n hx hb d_law_1294 rfl (lv_at hl 1 rfl) ?_
  refine lv_iload hx hb d_law_1295 (lv_at hl 5 rfl) ?_
  refine lv_iconst (v := (1 : Int32)) hx hb d_law_1297 (by decide) ?_
  refine lv_iadd hx hb d_law_1298 ?_
  refine va_sld hx hb hX hbl hbA hS hi1 d_law_1299 ?_
  have hP := hP.perm (List.perm_append_comm (l₁ := wd_O g ho (ot o1.1 o1.2 f) ++ wd_C g h u x n) (l₂ := wd_MD g hm qm y))
  have hD := hD.perm (List.perm_append_comm (l₁ := wd_O g ho (ot o1.1 o1.2 f) ++ wd_C g h u x n) (l₂ := wd_MD g hm qm y))
  refine kciP (wc := wd_MD g hm qm y) (wr := wd_O g ho (ot o1.1 o1.2 f) ++ wd_C g h u x n) (w1 := wd_MD g hm qm o2.2) hP hD hS hA (va_runV (As := [.int (xs (i + 1).toNatClampNeg)]) (rest := []) ⟨hx, hb, hml, hown, hts⟩ (c_MD_ranked hG hGn l dC dI g F H.size hm qm y (xs (i + 1).toNatClampNeg) hm2) (cwV 1 hts (gdV k6_141 k6_142 k6_143 k1_10 k6_144) rfl rfl rfl (by decide +kernel) ⟨Nat.le_of_ble_eq_true rfl, Nat.le_of_ble_eq_true rfl⟩) (kpVP hG hP hK hD hS hA hGA (ci := 10) (q0 := 0) rfl rfl rfl) rfl rfl hl.1 rfl (lv_room (Nat.le_of_ble_eq_true rfl)) d_law_1300 ⟨(by show _ + 0 ≤ 601024; omega), (by show _ + 0 ≤ 7293000; omega)⟩) (fun H locs hP hD hS => ?_)
  refine lv_istore (lv' := [(6, .int o2.1), (5, .int (nI o1.1)), (0, .ref b), (1, .ref h), (2, .ref hm), (3, .ref ho), (4, .int i)]) hx hb d_law_1303 hl (by decide) rfl (fun ls hl => ?_)
  refine lv_aload_n hx hb d_law_1305 rfl (lv_at hl 4 rfl) ?_
  refine kciP (wc := wd_MD g hm qm o2.2) (wr := wd_O g ho (ot o1.1 o1.2 f) ++ wd_C g h u x n) (w1 := wd_MD g hm qm o2.2) hP hD hS hA (va_runV (As := []) (rest := []) ⟨hx, hb, hml, hown, hts⟩ (c_MD_thrown hG hGn l dC dI g F H.size hm qm o2.2 rfl) (cwV 0 hts (gdV k5_147 k5_148 k5_149 k1_10 k5_150) rfl rfl rfl (by decide +kernel) ⟨Nat.le_of_ble_eq_true rfl, Nat.le_of_ble_eq_true rfl⟩) (kpVP hG hP hK hD hS hA hGA (ci := 10) (q0 := 0) rfl rfl rfl) rfl rfl hl.1 rfl (lv_room (Nat.le_of_ble_eq_true rfl)) d_law_1306 ⟨(by show _ + 0 ≤ 601024; omega), (by show _ + 0 ≤ 7293000; omega)⟩) (fun H locs hP hD hS => ?_)
  have hP := hP.perm (List.perm_append_comm (l₁ := wd_MD g hm qm o2.2) (l₂ := wd_O g ho (ot o1.1 o1.2 f) ++ wd_C g h u x n))
  have hD := hD.perm (List.perm_append_comm (l₁ := wd_MD g hm qm o2.2) (l₂ := wd_O g ho (ot o1.1 o1.2 f) ++ wd_C g h u x n))
  refine lv_iload hx hb d_law_1309 (lv_at hl 1 rfl) ?_
  refine lv_icmp_eq (tgt := 1316) hx hb d_law_1311 (by decide) (fun _ => ?_) (fun h9 => absurd hcode h9)
  refine lv_iload hx hb d_law_1316 (lv_at hl 1 rfl) ?_
  refine lv_if_ne (tgt := 1333) hx hb d_law_1318 (by decide) (fun _ => ?_) (fun h9 => ?_)
  · refine lv_goto (tgt := 1349) hx hb d_law_1333 (by decide) ?_
    exact W.widen (by omega) (by omega) (kk _ _ _ _ H locs ls hR2 hP hD hS (lv_sub hl [2, 3, 4, 5, 6] rfl))
  · have h0 : o1.1 = 0 := by rcases hk1 with hk1 | hk1 <;> (rw [hk1] at h9 ⊢) <;> revert h9 <;> decide
    have h8 := heq h0
    refine lv_aload_n hx hb d_law_1321 rfl (lv_at hl 5 rfl) ?_
    refine lv_iconst (v := (0 : Int32)) hx hb d_law_1322 (by decide) ?_
    refine va_lald hx hb hK hP 0 4 rfl rfl (by unfold vp_in; decide) d_law_1323 ?_
    refine lv_iload hx hb d_law_1324 (lv_at hl 0 rfl) ?_
    have e9 : (ot o1.1 o1.2 f) (0 : Int32).toNatClampNeg = (o2.1).toInt64 := by rw [h0, h8]; unfold ot; simp [vp_updL]
    refine lv_i2l (v := (o2.1).toInt64) hx hb d_law_1326 rfl ?_
    rw [e9]
    refine W.lcmp hx hb d_law_1327 ?_
    refine lv_if_eq (tgt := 1333) hx hb d_law_1328 (by decide) (fun _ => ?_) (fun h7 => absurd (by unfold lg_cmp; simp) h7)
    refine lv_goto (tgt := 1349) hx hb d_law_1333 (by decide) ?_
    exact W.widen (by omega) (by omega) (kk _ _ _ _ H locs ls hR2 hP hD hS (lv_sub hl [2, 3, 4, 5, 6] rfl))

def xr (b : Nat) (x : Nat → St) (p z a : St) : Nat → St := bif Nat.beq b 0 then up (up (up x 8 p) 9 z) 18 a else up (up (up (up (up (up x 5 p) 6 z) 7 a) 8 (x 5)) 9 (x 6)) 18 (x 7)
def ur (b : Nat) (u : Nat → Nat → Nat) : Nat → Nat → Nat := bif Nat.beq b 0 then u else fun k => bif Nat.beq k 0 then swq 1 (u 0) else bif Nat.beq k 5 then u 8 else bif Nat.beq k 6 then u 9 else bif Nat.beq k 7 then u 18 else bif Nat.beq k 8 then u 5 else bif Nat.beq k 9 then u 6 else bif Nat.beq k 18 then u 7 else u k
def sim_read (F : Nat) (Rl : (Nat → St) → Nat → St → Prop) : Prop := ∀ (x : Nat → St) (n : Nat) (y : St), Rl x n y → ∃ (o1 : Int32 × Nat × St × St × St) (o2 : Int32 × St), m_AM_read F (x 1) (x 2) n (x 8) (x 9) (x 18) = some o1 ∧ m_MD_read F y = some o2 ∧ o1.1 = o2.1 ∧ (o1.2.1 = 0 ∨ o1.2.1 = 1) ∧ Rl (xr o1.2.1 x o1.2.2.1 o1.2.2.2.1 o1.2.2.2.2) n o2.2
def sim_reset (F : Nat) (Rl : (Nat → St) → Nat → St → Prop) : Prop := ∀ (x : Nat → St) (n : Nat) (y : St), Rl x n y → ∃ (o1 : Int32 × St × St × St) (o2 : Int32 × St), m_AM_reset F (x 0) (x 4) (x 5) (x 2) n (x 7) (x 6) = some o1 ∧ m_MD_reset F y = some o2 ∧ o1.1 = o2.1 ∧ Rl (up (up (up x 4 o1.2.1) 7 o1.2.2.1) 6 o1.2.2.2) n o2.2
def sim_time (F : Nat) (Rl : (Nat → St) → Nat → St → Prop) : Prop := ∀ (x : Nat → St) (n : Nat) (y : St), Rl x n y → ∃ (o1 : Int32) (o2 : Int32 × St), m_AM_time F (x 0) = some o1 ∧ m_MD_time F y = some o2 ∧ o1 = o2.1 ∧ Rl x n o2.2
theorem pm_law_read {α : Type} (B0 B1 B2 B3 B4 B5 B6 B7 B8 B9 B10 B11 B12 B13 : List α) : ((B0 ++ (B1 ++ B2 ++ B3 ++ B4 ++ B5 ++ B6 ++ B7 ++ B8 ++ B9 ++ B10 ++ B11 ++ B12)) ++ B13).Perm ((B1 ++ B2 ++ B3 ++ B10 ++ B11 ++ B12) ++ (B0 ++ B4 ++ B5 ++ B6 ++ B7 ++ B8 ++ B9 ++ B13)) := by
  classical
  refine List.perm_iff_count.mpr (fun a => ?_)
  simp only [List.count_append]
  omega
theorem pm_law_readS {α : Type} (B0 B1 B2 B3 B4 B5 B6 B7 B8 B9 B10 B11 B12 B13 : List α) : ((B0 ++ B1 ++ B2 ++ B3 ++ B4 ++ B5) ++ (B6 ++ B7 ++ B8 ++ B9 ++ B10 ++ B11 ++ B12 ++ B13)).Perm ((B6 ++ (B0 ++ B1 ++ B2 ++ B7 ++ B8 ++ B9 ++ B3 ++ B4 ++ B5 ++ B10 ++ B11 ++ B12)) ++ B13) := by
  classical
  refine List.perm_iff_count.mpr (fun a => ?_)
  simp only [List.count_append]
  omega
set_option maxHeartbeats 40000000 in
set_option maxRecDepth 100000 in
theorem law_read {p : Program} {l : Launch} {e : Env} {s : State} {m : MethodId} {below : List Frame} {meth : Method} {c : Code} {dC : Nat → ClassId} {dI : Nat → Nat → Nat} {g : Nat → ClassId} {G : (Nat → Prop) → State → Prop} (hG : gok G) (hGn : gN G) {adK adV : Nat → Nat} (hGs : gSt adK adV G) (hGt : gTh G) (hGc : gNC G) (hst : l.stackTraces = false) {b L : Nat} {xs : Nat → Int32} (C0 : lw_At p s m meth c b L xs) (hGA : G (fun q => s.heap.size ≤ q) s) (hK : va_K (dC, dI) vwCl (tyv g) s) (F : Nat) {Rl : (Nat → St) → Nat → St → Prop} (hsim : sim_read F Rl) {n h hm ho : Nat} {f : Nat → Int64} {u : Nat → Nat → Nat} {x : Nat → St} {qm : Nat → Nat} {y : St} {H : Heap} {locs : List Loc} {ls : Array Slot} {cells slots : Nat} {i : Int32} (hi1 : vp_in (i + 1) L) (hi2 : vp_in (i + 2) L) (hi3 : vp_in (i + 3) L) (hi4 : vp_in (i + 4) L) (hi5 : vp_in (i + 5) L) (hR : Rl x n y) (hP : va_P (dC, dI) vwCl ((wd_O g ho f ++ wd_C g h u x n) ++ wd_MD g hm qm y) H) (hD : va_D (fun q : Nat => s.heap.size ≤ q) ((wd_O g ho f ++ wd_C g h u x n) ++ wd_MD g hm qm y)) (hS : va_S (fun q : Nat => s.heap.size ≤ q) s.heap H locs) (hl : lv_has ls 7 [(0, .ref b), (1, .ref h), (2, .ref hm), (3, .ref ho), (4, .int i)]) (hc : cells + 2 ≤ 601024) (hs : slots + 7 ≤ 7293000)
    (kk : ∀ (f : Nat → Int64) (u : Nat → Nat → Nat) (x : Nat → St) (y : St) (H : Heap) (locs : List Loc) (ls : Array Slot), Rl x n y → va_P (dC, dI) vwCl ((wd_O g ho f ++ wd_C g h u x n) ++ wd_MD g hm qm y) H → va_D (fun q : Nat => s.heap.size ≤ q) ((wd_O g ho f ++ wd_C g h u x n) ++ wd_MD g hm qm y) → va_S (fun q : Nat => s.heap.size ≤ q) s.heap H locs → lv_has ls 7 [(0, .ref b), (1, .ref h), (2, .ref hm), (3, .ref ho), (4, .int i)] → W p l e room_1 s m #[Value.ref b] below meth c H locs (cells + 2) (slots + 7) (lw_Z below #[Value.ref b] s) (F0 m 1349 ls [])) :
    W p l e room_1 s m #[Value.ref b] below meth c H locs cells slots (lw_Z below #[Value.ref b] s) (F0 m 360 ls []) := by
  obtain ⟨hx, hb, hr, hml, hown, hts, hX, hbl, hlocks, hgv⟩ := C0
  have hA : ∀ q : Nat, s.heap.size ≤ q → (fun q : Nat => s.heap.size ≤ q) q := fun _ h => h
  have hbA : ¬ (fun q : Nat => s.heap.size ≤ q) b := Nat.not_le.mpr hbl
  have hts : ∀ w ∈ gw, w.before #[Value.ref b] s = true := fun w h => hts w (List.mem_filter.mp h).1
  have hml : c.maxLocals = 7 := hml
  have hown : s.vm.findClass "AlarmMatrixLaw" = some m.cls := hown
  obtain ⟨o1, o2, hm1, hm2, heq, hb2, hR2⟩ := hsim x n y hR
  refine lv_aload_n hx hb d_law_360 rfl (lv_at hl 1 rfl) ?_
  have hP : va_P (dC, dI) vwCl ((wd_AM g h (u 0) (x 0) ++ wd_Text g ((u 0) 0) (u 1) (x 1) ++ wd_Points g ((u 0) 1) (u 2) (x 2) n ++ wd_Plan g ((u 0) 5) (u 8) (x 8) ++ wd_Zones g ((u 8) 0) (u 9) (x 9) ++ wd_Acts g ((u 8) 1) (u 18) (x 18)) ++ (wd_O g ho f ++ wd_LA g ((u 0) 2) (u 3) ++ wd_LS g (u 3) (fun j => u (10 + j)) (fun j => x (10 + j)) ++ wd_Events g ((u 0) 3) (u 4) (x 4) ++ wd_Plan g ((u 0) 4) (u 5) (x 5) ++ wd_Zones g ((u 5) 0) (u 6) (x 6) ++ wd_Acts g ((u 5) 1) (u 7) (x 7) ++ wd_MD g hm qm y)) H := hP.perm (pm_law_read _ _ _ _ _ _ _ _ _ _ _ _ _ _)
  have hD : va_D (fun q : Nat => s.heap.size ≤ q) ((wd_AM g h (u 0) (x 0) ++ wd_Text g ((u 0) 0) (u 1) (x 1) ++ wd_Points g ((u 0) 1) (u 2) (x 2) n ++ wd_Plan g ((u 0) 5) (u 8) (x 8) ++ wd_Zones g ((u 8) 0) (u 9) (x 9) ++ wd_Acts g ((u 8) 1) (u 18) (x 18)) ++ (wd_O g ho f ++ wd_LA g ((u 0) 2) (u 3) ++ wd_LS g (u 3) (fun j => u (10 + j)) (fun j => x (10 + j)) ++ wd_Events g ((u 0) 3) (u 4) (x 4) ++ wd_Plan g ((u 0) 4) (u 5) (x 5) ++ wd_Zones g ((u 5) 0) (u 6) (x 6) ++ wd_Acts g ((u 5) 1) (u 7) (x 7) ++ wd_MD g hm qm y)) := hD.perm (pm_law_read _ _ _ _ _ _ _ _ _ _ _ _ _ _)
  refine kciP (wc := wd_AM g h (u 0) (x 0) ++ wd_Text g ((u 0) 0) (u 1) (x 1) ++ wd_Points g ((u 0) 1) (u 2) (x 2) n ++ wd_Plan g ((u 0) 5) (u 8) (x 8) ++ wd_Zones g ((u 8) 0) (u 9) (x 9) ++ wd_Acts g ((u 8) 1) (u 18) (x 18)) (wr := wd_O g ho f ++ wd_LA g ((u 0) 2) (u 3) ++ wd_LS g (u 3) (fun j => u (10 + j)) (fun j => x (10 + j)) ++ wd_Events g ((u 0) 3) (u 4) (x 4) ++ wd_Plan g ((u 0) 4) (u 5) (x 5) ++ wd_Zones g ((u 5) 0) (u 6) (x 6) ++ wd_Acts g ((u 5) 1) (u 7) (x 7) ++ wd_MD g hm qm y) (w1 := wd_AM g h (swq (o1.2.1) (u 0)) (x 0) ++ wd_Text g ((u 0) 0) (u 1) (x 1) ++ wd_Points g ((u 0) 1) (u 2) (x 2) n ++ wd_Plan g ((u 0) 5) (u 8) (o1.2.2.1) ++ wd_Zones g ((u 8) 0) (u 9) (o1.2.2.2.1) ++ wd_Acts g ((u 8) 1) (u 18) (o1.2.2.2.2)) hP hD hS hA (va_runV (As := []) (rest := []) ⟨hx, hb, hml, hown, hts⟩ (c_AM_read hG hGn hGs l dC dI g F H.size h (u 0) (x 0) (u 1) (x 1) (u 2) (x 2) n (u 8) (x 8) (u 9) (x 9) (u 18) (x 18) hm1) (cwV 0 hts (gdV k2_1 k2_2 k2_3 k1_1 k2_4) rfl rfl rfl (by decide +kernel) ⟨Nat.le_of_ble_eq_true rfl, Nat.le_of_ble_eq_true rfl⟩) (kpVP hG hP hK hD hS hA hGA (ci := 0) (q0 := 0) rfl rfl rfl) rfl rfl hl.1 rfl (lv_room (Nat.le_of_ble_eq_true rfl)) d_law_361 ⟨(by show cells + 2 ≤ 601024; omega), (by show slots + 7 ≤ 7293000; omega)⟩) (fun H locs hP hD hS => ?_)
  obtain ⟨hP, hD⟩ : va_P (dC, dI) vwCl ((wd_O g ho f ++ wd_C g h (ur o1.2.1 u) (xr o1.2.1 x o1.2.2.1 o1.2.2.2.1 o1.2.2.2.2) n) ++ wd_MD g hm qm y) H ∧ va_D (fun q : Nat => s.heap.size ≤ q) ((wd_O g ho f ++ wd_C g h (ur o1.2.1 u) (xr o1.2.1 x o1.2.2.1 o1.2.2.2.1 o1.2.2.2.2) n) ++ wd_MD g hm qm y) := by
    rcases hb2 with hb2 | hb2
    · rw [hb2] at hP hD ⊢
      exact ⟨hP.perm (pm_law_read (wd_O g ho f) (wd_AM g h (u 0) (x 0)) (wd_Text g ((u 0) 0) (u 1) (x 1)) (wd_Points g ((u 0) 1) (u 2) (x 2) n) (wd_LA g ((u 0) 2) (u 3)) (wd_LS g (u 3) (fun j => u (10 + j)) (fun j => x (10 + j))) (wd_Events g ((u 0) 3) (u 4) (x 4)) (wd_Plan g ((u 0) 4) (u 5) (x 5)) (wd_Zones g ((u 5) 0) (u 6) (x 6)) (wd_Acts g ((u 5) 1) (u 7) (x 7)) (wd_Plan g ((u 0) 5) (u 8) (o1.2.2.1)) (wd_Zones g ((u 8) 0) (u 9) (o1.2.2.2.1)) (wd_Acts g ((u 8) 1) (u 18) (o1.2.2.2.2)) (wd_MD g hm qm y)).symm, hD.perm (pm_law_read (wd_O g ho f) (wd_AM g h (u 0) (x 0)) (wd_Text g ((u 0) 0) (u 1) (x 1)) (wd_Points g ((u 0) 1) (u 2) (x 2) n) (wd_LA g ((u 0) 2) (u 3)) (wd_LS g (u 3) (fun j => u (10 + j)) (fun j => x (10 + j))) (wd_Events g ((u 0) 3) (u 4) (x 4)) (wd_Plan g ((u 0) 4) (u 5) (x 5)) (wd_Zones g ((u 5) 0) (u 6) (x 6)) (wd_Acts g ((u 5) 1) (u 7) (x 7)) (wd_Plan g ((u 0) 5) (u 8) (o1.2.2.1)) (wd_Zones g ((u 8) 0) (u 9) (o1.2.2.2.1)) (wd_Acts g ((u 8) 1) (u 18) (o1.2.2.2.2)) (wd_MD g hm qm y)).symm⟩
    · rw [hb2] at hP hD ⊢
      exact ⟨hP.perm (pm_law_readS _ _ _ _ _ _ _ _ _ _ _ _ _ _), hD.perm (pm_law_readS _ _ _ _ _ _ _ _ _ _ _ _ _ _)⟩
  have hP := hP.perm (List.perm_append_comm (l₁ := wd_O g ho f ++ wd_C g h (ur o1.2.1 u) (xr o1.2.1 x o1.2.2.1 o1.2.2.2.1 o1.2.2.2.2) n) (l₂ := wd_MD g hm qm y))
  have hD := hD.perm (List.perm_append_comm (l₁ := wd_O g ho f ++ wd_C g h (ur o1.2.1 u) (xr o1.2.1 x o1.2.2.1 o1.2.2.2.1 o1.2.2.2.2) n) (l₂ := wd_MD g hm qm y))
  refine lv_aload_n hx hb d_law_364 rfl (lv_at hl 2 rfl) ?_
  refine kciP (wc := wd_MD g hm qm y) (wr := wd_O g ho f ++ wd_C g h (ur o1.2.1 u) (xr o1.2.1 x o1.2.2.1 o1.2.2.2.1 o1.2.2.2.2) n) (w1 := wd_MD g hm qm o2.2) hP hD hS hA (va_runV (As := []) (rest := [.int o1.1]) ⟨hx, hb, hml, hown, hts⟩ (c_MD_read hG hGn l dC dI g F H.size hm qm y hm2) (cwV 0 hts (gdV k5_202 k5_203 k5_204 k1_10 k5_205) rfl rfl rfl (by decide +kernel) ⟨Nat.le_of_ble_eq_true rfl, Nat.le_of_ble_eq_true rfl⟩) (kpVP hG hP hK hD hS hA hGA (ci := 10) (q0 := 0) rfl rfl rfl) rfl rfl hl.1 rfl (lv_room (Nat.le_of_ble_eq_true rfl)) d_law_365 ⟨(by show _ + 0 ≤ 601024; omega), (by show _ + 0 ≤ 7293000; omega)⟩) (fun H locs hP hD hS => ?_)
  have hP := hP.perm (List.perm_append_comm (l₁ := wd_MD g hm qm o2.2) (l₂ := wd_O g ho f ++ wd_C g h (ur o1.2.1 u) (xr o1.2.1 x o1.2.2.1 o1.2.2.2.1 o1.2.2.2.2) n))
  have hD := hD.perm (List.perm_append_comm (l₁ := wd_MD g hm qm o2.2) (l₂ := wd_O g ho f ++ wd_C g h (ur o1.2.1 u) (xr o1.2.1 x o1.2.2.1 o1.2.2.2.1 o1.2.2.2.2) n))
  refine lv_icmp_eq (tgt := 1349) hx hb d_law_368 (by decide) (fun _ => ?_) (fun h9 => absurd heq h9)
  exact W.widen (by omega) (by omega) (kk _ _ _ _ H locs ls hR2 hP hD hS hl)
theorem pm_law_reset {α : Type} (B0 B1 B2 B3 B4 B5 B6 B7 B8 B9 B10 B11 B12 B13 : List α) : ((B0 ++ (B1 ++ B2 ++ B3 ++ B4 ++ B5 ++ B6 ++ B7 ++ B8 ++ B9 ++ B10 ++ B11 ++ B12)) ++ B13).Perm ((B1 ++ B6 ++ B7 ++ B3 ++ B9 ++ B8) ++ (B0 ++ B2 ++ B4 ++ B5 ++ B10 ++ B11 ++ B12 ++ B13)) := by
  classical
  refine List.perm_iff_count.mpr (fun a => ?_)
  simp only [List.count_append]
  omega
set_option maxHeartbeats 40000000 in
set_option maxRecDepth 100000 in
theorem law_reset {p : Program} {l : Launch} {e : Env} {s : State} {m : MethodId} {below : List Frame} {meth : Method} {c : Code} {dC : Nat → ClassId} {dI : Nat → Nat → Nat} {g : Nat → ClassId} {G : (Nat → Prop) → State → Prop} (hG : gok G) (hGn : gN G) {adK adV : Nat → Nat} (hGs : gSt adK adV G) (hGt : gTh G) (hGc : gNC G) (hst : l.stackTraces = false) {b L : Nat} {xs : Nat → Int32} (C0 : lw_At p s m meth c b L xs) (hGA : G (fun q => s.heap.size ≤ q) s) (hK : va_K (dC, dI) vwCl (tyv g) s) (F : Nat) {Rl : (Nat → St) → Nat → St → Prop} (hsim : sim_reset F Rl) {n h hm ho : Nat} {f : Nat → Int64} {u : Nat → Nat → Nat} {x : Nat → St} {qm : Nat → Nat} {y : St} {H : Heap} {locs : List Loc} {ls : Array Slot} {cells slots : Nat} {i : Int32} (hi1 : vp_in (i + 1) L) (hi2 : vp_in (i + 2) L) (hi3 : vp_in (i + 3) L) (hi4 : vp_in (i + 4) L) (hi5 : vp_in (i + 5) L) (hR : Rl x n y) (hP : va_P (dC, dI) vwCl ((wd_O g ho f ++ wd_C g h u x n) ++ wd_MD g hm qm y) H) (hD : va_D (fun q : Nat => s.heap.size ≤ q) ((wd_O g ho f ++ wd_C g h u x n) ++ wd_MD g hm qm y)) (hS : va_S (fun q : Nat => s.heap.size ≤ q) s.heap H locs) (hl : lv_has ls 7 [(0, .ref b), (1, .ref h), (2, .ref hm), (3, .ref ho), (4, .int i)]) (hc : cells + 2 ≤ 601024) (hs : slots + 7 ≤ 7293000)
    (kk : ∀ (f : Nat → Int64) (u : Nat → Nat → Nat) (x : Nat → St) (y : St) (H : Heap) (locs : List Loc) (ls : Array Slot), Rl x n y → va_P (dC, dI) vwCl ((wd_O g ho f ++ wd_C g h u x n) ++ wd_MD g hm qm y) H → va_D (fun q : Nat => s.heap.size ≤ q) ((wd_O g ho f ++ wd_C g h u x n) ++ wd_MD g hm qm y) → va_S (fun q : Nat => s.heap.size ≤ q) s.heap H locs → lv_has ls 7 [(0, .ref b), (1, .ref h), (2, .ref hm), (3, .ref ho), (4, .int i)] → W p l e room_1 s m #[Value.ref b] below meth c H locs (cells + 2) (slots + 7) (lw_Z below #[Value.ref b] s) (F0 m 1349 ls [])) :
    W p l e room_1 s m #[Value.ref b] below meth c H locs cells slots (lw_Z below #[Value.ref b] s) (F0 m 995 ls []) := by
  obtain ⟨hx, hb, hr, hml, hown, hts, hX, hbl, hlocks, hgv⟩ := C0
  have hA : ∀ q : Nat, s.heap.size ≤ q → (fun q : Nat => s.heap.size ≤ q) q := fun _ h => h
  have hbA : ¬ (fun q : Nat => s.heap.size ≤ q) b := Nat.not_le.mpr hbl
  have hts : ∀ w ∈ gw, w.before #[Value.ref b] s = true := fun w h => hts w (List.mem_filter.mp h).1
  have hml : c.maxLocals = 7 := hml
  have hown : s.vm.findClass "AlarmMatrixLaw" = some m.cls := hown
  obtain ⟨o1, o2, hm1, hm2, heq, hR2⟩ := hsim x n y hR
  refine lv_aload_n hx hb d_law_995 rfl (lv_at hl 1 rfl) ?_
  have hP : va_P (dC, dI) vwCl ((wd_AM g h (u 0) (x 0) ++ wd_Events g ((u 0) 3) (u 4) (x 4) ++ wd_Plan g ((u 0) 4) (u 5) (x 5) ++ wd_Points g ((u 0) 1) (u 2) (x 2) n ++ wd_Acts g ((u 5) 1) (u 7) (x 7) ++ wd_Zones g ((u 5) 0) (u 6) (x 6)) ++ (wd_O g ho f ++ wd_Text g ((u 0) 0) (u 1) (x 1) ++ wd_LA g ((u 0) 2) (u 3) ++ wd_LS g (u 3) (fun j => u (10 + j)) (fun j => x (10 + j)) ++ wd_Plan g ((u 0) 5) (u 8) (x 8) ++ wd_Zones g ((u 8) 0) (u 9) (x 9) ++ wd_Acts g ((u 8) 1) (u 18) (x 18) ++ wd_MD g hm qm y)) H := hP.perm (pm_law_reset _ _ _ _ _ _ _ _ _ _ _ _ _ _)
  have hD : va_D (fun q : Nat => s.heap.size ≤ q) ((wd_AM g h (u 0) (x 0) ++ wd_Events g ((u 0) 3) (u 4) (x 4) ++ wd_Plan g ((u 0) 4) (u 5) (x 5) ++ wd_Points g ((u 0) 1) (u 2) (x 2) n ++ wd_Acts g ((u 5) 1) (u 7) (x 7) ++ wd_Zones g ((u 5) 0) (u 6) (x 6)) ++ (wd_O g ho f ++ wd_Text g ((u 0) 0) (u 1) (x 1) ++ wd_LA g ((u 0) 2) (u 3) ++ wd_LS g (u 3) (fun j => u (10 + j)) (fun j => x (10 + j)) ++ wd_Plan g ((u 0) 5) (u 8) (x 8) ++ wd_Zones g ((u 8) 0) (u 9) (x 9) ++ wd_Acts g ((u 8) 1) (u 18) (x 18) ++ wd_MD g hm qm y)) := hD.perm (pm_law_reset _ _ _ _ _ _ _ _ _ _ _ _ _ _)
  refine kciP (wc := wd_AM g h (u 0) (x 0) ++ wd_Events g ((u 0) 3) (u 4) (x 4) ++ wd_Plan g ((u 0) 4) (u 5) (x 5) ++ wd_Points g ((u 0) 1) (u 2) (x 2) n ++ wd_Acts g ((u 5) 1) (u 7) (x 7) ++ wd_Zones g ((u 5) 0) (u 6) (x 6)) (wr := wd_O g ho f ++ wd_Text g ((u 0) 0) (u 1) (x 1) ++ wd_LA g ((u 0) 2) (u 3) ++ wd_LS g (u 3) (fun j => u (10 + j)) (fun j => x (10 + j)) ++ wd_Plan g ((u 0) 5) (u 8) (x 8) ++ wd_Zones g ((u 8) 0) (u 9) (x 9) ++ wd_Acts g ((u 8) 1) (u 18) (x 18) ++ wd_MD g hm qm y) (w1 := wd_AM g h (u 0) (x 0) ++ wd_Events g ((u 0) 3) (u 4) o1.2.1 ++ wd_Plan g ((u 0) 4) (u 5) (x 5) ++ wd_Points g ((u 0) 1) (u 2) (x 2) n ++ wd_Acts g ((u 5) 1) (u 7) o1.2.2.1 ++ wd_Zones g ((u 5) 0) (u 6) o1.2.2.2) hP hD hS hA (va_runV (As := []) (rest := []) ⟨hx, hb, hml, hown, hts⟩ (c_AM_reset hG hGn l dC dI g F H.size h (u 0) (x 0) (u 4) (x 4) (u 5) (x 5) (u 2) (x 2) n (u 7) (x 7) (u 6) (x 6) hm1) (cwV 0 hts (gdV k3_24 k3_25 k3_26 k1_1 k3_27) rfl rfl rfl (by decide +kernel) ⟨Nat.le_of_ble_eq_true rfl, Nat.le_of_ble_eq_true rfl⟩) (kpVP hG hP hK hD hS hA hGA (ci := 0) (q0 := 0) rfl rfl rfl) rfl rfl hl.1 rfl (lv_room (Nat.le_of_ble_eq_true rfl)) d_law_996 ⟨(by show cells + 0 ≤ 601024; omega), (by show slots + 0 ≤ 7293000; omega)⟩) (fun H locs hP hD hS => ?_)
  have hP : va_P (dC, dI) vwCl ((wd_O g ho f ++ wd_C g h u (up (up (up x 4 o1.2.1) 7 o1.2.2.1) 6 o1.2.2.2) n) ++ wd_MD g hm qm y) H := hP.perm (pm_law_reset (wd_O g ho f) (wd_AM g h (u 0) (x 0)) (wd_Text g ((u 0) 0) (u 1) (x 1)) (wd_Points g ((u 0) 1) (u 2) (x 2) n) (wd_LA g ((u 0) 2) (u 3)) (wd_LS g (u 3) (fun j => u (10 + j)) (fun j => x (10 + j))) (wd_Events g ((u 0) 3) (u 4) o1.2.1) (wd_Plan g ((u 0) 4) (u 5) (x 5)) (wd_Zones g ((u 5) 0) (u 6) o1.2.2.2) (wd_Acts g ((u 5) 1) (u 7) o1.2.2.1) (wd_Plan g ((u 0) 5) (u 8) (x 8)) (wd_Zones g ((u 8) 0) (u 9) (x 9)) (wd_Acts g ((u 8) 1) (u 18) (x 18)) (wd_MD g hm qm y)).symm
  have hD : va_D (fun q : Nat => s.heap.size ≤ q) ((wd_O g ho f ++ wd_C g h u (up (up (up x 4 o1.2.1) 7 o1.2.2.1) 6 o1.2.2.2) n) ++ wd_MD g hm qm y) := hD.perm (pm_law_reset (wd_O g ho f) (wd_AM g h (u 0) (x 0)) (wd_Text g ((u 0) 0) (u 1) (x 1)) (wd_Points g ((u 0) 1) (u 2) (x 2) n) (wd_LA g ((u 0) 2) (u 3)) (wd_LS g (u 3) (fun j => u (10 + j)) (fun j => x (10 + j))) (wd_Events g ((u 0) 3) (u 4) o1.2.1) (wd_Plan g ((u 0) 4) (u 5) (x 5)) (wd_Zones g ((u 5) 0) (u 6) o1.2.2.2) (wd_Acts g ((u 5) 1) (u 7) o1.2.2.1) (wd_Plan g ((u 0) 5) (u 8) (x 8)) (wd_Zones g ((u 8) 0) (u 9) (x 9)) (wd_Acts g ((u 8) 1) (u 18) (x 18)) (wd_MD g hm qm y)).symm
  have hP := hP.perm (List.perm_append_comm (l₁ := wd_O g ho f ++ wd_C g h u (up (up (up x 4 o1.2.1) 7 o1.2.2.1) 6 o1.2.2.2) n) (l₂ := wd_MD g hm qm y))
  have hD := hD.perm (List.perm_append_comm (l₁ := wd_O g ho f ++ wd_C g h u (up (up (up x 4 o1.2.1) 7 o1.2.2.1) 6 o1.2.2.2) n) (l₂ := wd_MD g hm qm y))
  refine lv_aload_n hx hb d_law_999 rfl (lv_at hl 2 rfl) ?_
  refine kciP (wc := wd_MD g hm qm y) (wr := wd_O g ho f ++ wd_C g h u (up (up (up x 4 o1.2.1) 7 o1.2.2.1) 6 o1.2.2.2) n) (w1 := wd_MD g hm qm o2.2) hP hD hS hA (va_runV (As := []) (rest := [.int o1.1]) ⟨hx, hb, hml, hown, hts⟩ (c_MD_reset hG hGn l dC dI g F H.size hm qm y hm2) (cwV 0 hts (gdV k6_121 k6_122 k6_123 k1_10 k6_124) rfl rfl rfl (by decide +kernel) ⟨Nat.le_of_ble_eq_true rfl, Nat.le_of_ble_eq_true rfl⟩) (kpVP hG hP hK hD hS hA hGA (ci := 10) (q0 := 0) rfl rfl rfl) rfl rfl hl.1 rfl (lv_room (Nat.le_of_ble_eq_true rfl)) d_law_1000 ⟨(by show _ + 0 ≤ 601024; omega), (by show _ + 0 ≤ 7293000; omega)⟩) (fun H locs hP hD hS => ?_)
  have hP := hP.perm (List.perm_append_comm (l₁ := wd_MD g hm qm o2.2) (l₂ := wd_O g ho f ++ wd_C g h u (up (up (up x 4 o1.2.1) 7 o1.2.2.1) 6 o1.2.2.2) n))
  have hD := hD.perm (List.perm_append_comm (l₁ := wd_MD g hm qm o2.2) (l₂ := wd_O g ho f ++ wd_C g h u (up (up (up x 4 o1.2.1) 7 o1.2.2.1) 6 o1.2.2.2) n))
  refine lv_icmp_eq (tgt := 1349) hx hb d_law_1003 (by decide) (fun _ => ?_) (fun h9 => absurd heq h9)
  exact W.widen (by omega) (by omega) (kk _ _ _ _ H locs ls hR2 hP hD hS hl)
theorem pm_law_time {α : Type} (B0 B1 B2 B3 B4 B5 B6 B7 B8 B9 B10 B11 B12 B13 : List α) : ((B0 ++ (B1 ++ B2 ++ B3 ++ B4 ++ B5 ++ B6 ++ B7 ++ B8 ++ B9 ++ B10 ++ B11 ++ B12)) ++ B13).Perm ((B1) ++ (B0 ++ B2 ++ B3 ++ B4 ++ B5 ++ B6 ++ B7 ++ B8 ++ B9 ++ B10 ++ B11 ++ B12 ++ B13)) := by
  classical
  refine List.perm_iff_count.mpr (fun a => ?_)
  simp only [List.count_append]
  omega
set_option maxHeartbeats 40000000 in
set_option maxRecDepth 100000 in
theorem law_time {p : Program} {l : Launch} {e : Env} {s : State} {m : MethodId} {below : List Frame} {meth : Method} {c : Code} {dC : Nat → ClassId} {dI : Nat → Nat → Nat} {g : Nat → ClassId} {G : (Nat → Prop) → State → Prop} (hG : gok G) (hGn : gN G) {adK adV : Nat → Nat} (hGs : gSt adK adV G) (hGt : gTh G) (hGc : gNC G) (hst : l.stackTraces = false) {b L : Nat} {xs : Nat → Int32} (C0 : lw_At p s m meth c b L xs) (hGA : G (fun q => s.heap.size ≤ q) s) (hK : va_K (dC, dI) vwCl (tyv g) s) (F : Nat) {Rl : (Nat → St) → Nat → St → Prop} (hsim : sim_time F Rl) {n h hm ho : Nat} {f : Nat → Int64} {u : Nat → Nat → Nat} {x : Nat → St} {qm : Nat → Nat} {y : St} {H : Heap} {locs : List Loc} {ls : Array Slot} {cells slots : Nat} {i : Int32} (hi1 : vp_in (i + 1) L) (hi2 : vp_in (i + 2) L) (hi3 : vp_in (i + 3) L) (hi4 : vp_in (i + 4) L) (hi5 : vp_in (i + 5) L) (hR : Rl x n y) (hP : va_P (dC, dI) vwCl ((wd_O g ho f ++ wd_C g h u x n) ++ wd_MD g hm qm y) H) (hD : va_D (fun q : Nat => s.heap.size ≤ q) ((wd_O g ho f ++ wd_C g h u x n) ++ wd_MD g hm qm y)) (hS : va_S (fun q : Nat => s.heap.size ≤ q) s.heap H locs) (hl : lv_has ls 7 [(0, .ref b), (1, .ref h), (2, .ref hm), (3, .ref ho), (4, .int i)]) (hc : cells + 2 ≤ 601024) (hs : slots + 7 ≤ 7293000)
    (kk : ∀ (f : Nat → Int64) (u : Nat → Nat → Nat) (x : Nat → St) (y : St) (H : Heap) (locs : List Loc) (ls : Array Slot), Rl x n y → va_P (dC, dI) vwCl ((wd_O g ho f ++ wd_C g h u x n) ++ wd_MD g hm qm y) H → va_D (fun q : Nat => s.heap.size ≤ q) ((wd_O g ho f ++ wd_C g h u x n) ++ wd_MD g hm qm y) → va_S (fun q : Nat => s.heap.size ≤ q) s.heap H locs → lv_has ls 7 [(0, .ref b), (1, .ref h), (2, .ref hm), (3, .ref ho), (4, .int i)] → W p l e room_1 s m #[Value.ref b] below meth c H locs (cells + 2) (slots + 7) (lw_Z below #[Value.ref b] s) (F0 m 1349 ls [])) :
    W p l e room_1 s m #[Value.ref b] below meth c H locs cells slots (lw_Z below #[Value.ref b] s) (F0 m 1336 ls []) := by
  obtain ⟨hx, hb, hr, hml, hown, hts, hX, hbl, hlocks, hgv⟩ := C0
  have hA : ∀ q : Nat, s.heap.size ≤ q → (fun q : Nat => s.heap.size ≤ q) q := fun _ h => h
  have hbA : ¬ (fun q : Nat => s.heap.size ≤ q) b := Nat.not_le.mpr hbl
  have hts : ∀ w ∈ gw, w.before #[Value.ref b] s = true := fun w h => hts w (List.mem_filter.mp h).1
  have hml : c.maxLocals = 7 := hml
  have hown : s.vm.findClass "AlarmMatrixLaw" = some m.cls := hown
  obtain ⟨o1, o2, hm1, hm2, heq, hR2⟩ := hsim x n y hR
  refine lv_aload_n hx hb d_law_1336 rfl (lv_at hl 1 rfl) ?_
  have hP : va_P (dC, dI) vwCl ((wd_AM g h (u 0) (x 0)) ++ (wd_O g ho f ++ wd_Text g ((u 0) 0) (u 1) (x 1) ++ wd_Points g ((u 0) 1) (u 2) (x 2) n ++ wd_LA g ((u 0) 2) (u 3) ++ wd_LS g (u 3) (fun j => u (10 + j)) (fun j => x (10 + j)) ++ wd_Events g ((u 0) 3) (u 4) (x 4) ++ wd_Plan g ((u 0) 4) (u 5) (x 5) ++ wd_Zones g ((u 5) 0) (u 6) (x 6) ++ wd_Acts g ((u 5) 1) (u 7) (x 7) ++ wd_Plan g ((u 0) 5) (u 8) (x 8) ++ wd_Zones g ((u 8) 0) (u 9) (x 9) ++ wd_Acts g ((u 8) 1) (u 18) (x 18) ++ wd_MD g hm qm y)) H := hP.perm (pm_law_time _ _ _ _ _ _ _ _ _ _ _ _ _ _)
  have hD : va_D (fun q : Nat => s.heap.size ≤ q) ((wd_AM g h (u 0) (x 0)) ++ (wd_O g ho f ++ wd_Text g ((u 0) 0) (u 1) (x 1) ++ wd_Points g ((u 0) 1) (u 2) (x 2) n ++ wd_LA g ((u 0) 2) (u 3) ++ wd_LS g (u 3) (fun j => u (10 + j)) (fun j => x (10 + j)) ++ wd_Events g ((u 0) 3) (u 4) (x 4) ++ wd_Plan g ((u 0) 4) (u 5) (x 5) ++ wd_Zones g ((u 5) 0) (u 6) (x 6) ++ wd_Acts g ((u 5) 1) (u 7) (x 7) ++ wd_Plan g ((u 0) 5) (u 8) (x 8) ++ wd_Zones g ((u 8) 0) (u 9) (x 9) ++ wd_Acts g ((u 8) 1) (u 18) (x 18) ++ wd_MD g hm qm y)) := hD.perm (pm_law_time _ _ _ _ _ _ _ _ _ _ _ _ _ _)
  refine kciP (wc := wd_AM g h (u 0) (x 0)) (wr := wd_O g ho f ++ wd_Text g ((u 0) 0) (u 1) (x 1) ++ wd_Points g ((u 0) 1) (u 2) (x 2) n ++ wd_LA g ((u 0) 2) (u 3) ++ wd_LS g (u 3) (fun j => u (10 + j)) (fun j => x (10 + j)) ++ wd_Events g ((u 0) 3) (u 4) (x 4) ++ wd_Plan g ((u 0) 4) (u 5) (x 5) ++ wd_Zones g ((u 5) 0) (u 6) (x 6) ++ wd_Acts g ((u 5) 1) (u 7) (x 7) ++ wd_Plan g ((u 0) 5) (u 8) (x 8) ++ wd_Zones g ((u 8) 0) (u 9) (x 9) ++ wd_Acts g ((u 8) 1) (u 18) (x 18) ++ wd_MD g hm qm y) (w1 := wd_AM g h (u 0) (x 0)) hP hD hS hA (va_runV (As := []) (rest := []) ⟨hx, hb, hml, hown, hts⟩ (c_AM_time hG hGn l dC dI g F H.size h (u 0) (x 0) hm1) (cwV 0 hts (gdV k3_85 k3_86 k3_87 k1_1 k3_88) rfl rfl rfl (by decide +kernel) ⟨Nat.le_of_ble_eq_true rfl, Nat.le_of_ble_eq_true rfl⟩) (kpVP hG hP hK hD hS hA hGA (ci := 0) (q0 := 0) rfl rfl rfl) rfl rfl hl.1 rfl (lv_room (Nat.le_of_ble_eq_true rfl)) d_law_1337 ⟨(by show cells + 0 ≤ 601024; omega), (by show slots + 0 ≤ 7293000; omega)⟩) (fun H locs hP hD hS => ?_)
  have hP : va_P (dC, dI) vwCl ((wd_O g ho f ++ wd_C g h u x n) ++ wd_MD g hm qm y) H := hP.perm (pm_law_time (wd_O g ho f) (wd_AM g h (u 0) (x 0)) (wd_Text g ((u 0) 0) (u 1) (x 1)) (wd_Points g ((u 0) 1) (u 2) (x 2) n) (wd_LA g ((u 0) 2) (u 3)) (wd_LS g (u 3) (fun j => u (10 + j)) (fun j => x (10 + j))) (wd_Events g ((u 0) 3) (u 4) (x 4)) (wd_Plan g ((u 0) 4) (u 5) (x 5)) (wd_Zones g ((u 5) 0) (u 6) (x 6)) (wd_Acts g ((u 5) 1) (u 7) (x 7)) (wd_Plan g ((u 0) 5) (u 8) (x 8)) (wd_Zones g ((u 8) 0) (u 9) (x 9)) (wd_Acts g ((u 8) 1) (u 18) (x 18)) (wd_MD g hm qm y)).symm
  have hD : va_D (fun q : Nat => s.heap.size ≤ q) ((wd_O g ho f ++ wd_C g h u x n) ++ wd_MD g hm qm y) := hD.perm (pm_law_time (wd_O g ho f) (wd_AM g h (u 0) (x 0)) (wd_Text g ((u 0) 0) (u 1) (x 1)) (wd_Points g ((u 0) 1) (u 2) (x 2) n) (wd_LA g ((u 0) 2) (u 3)) (wd_LS g (u 3) (fun j => u (10 + j)) (fun j => x (10 + j))) (wd_Events g ((u 0) 3) (u 4) (x 4)) (wd_Plan g ((u 0) 4) (u 5) (x 5)) (wd_Zones g ((u 5) 0) (u 6) (x 6)) (wd_Acts g ((u 5) 1) (u 7) (x 7)) (wd_Plan g ((u 0) 5) (u 8) (x 8)) (wd_Zones g ((u 8) 0) (u 9) (x 9)) (wd_Acts g ((u 8) 1) (u 18) (x 18)) (wd_MD g hm qm y)).symm
  have hP := hP.perm (List.perm_append_comm (l₁ := wd_O g ho f ++ wd_C g h u x n) (l₂ := wd_MD g hm qm y))
  have hD := hD.perm (List.perm_append_comm (l₁ := wd_O g ho f ++ wd_C g h u x n) (l₂ := wd_MD g hm qm y))
  refine lv_aload_n hx hb d_law_1340 rfl (lv_at hl 2 rfl) ?_
  refine kciP (wc := wd_MD g hm qm y) (wr := wd_O g ho f ++ wd_C g h u x n) (w1 := wd_MD g hm qm o2.2) hP hD hS hA (va_runV (As := []) (rest := [.int o1]) ⟨hx, hb, hml, hown, hts⟩ (c_MD_time hG hGn l dC dI g F H.size hm qm y hm2) (cwV 0 hts (gdV k6_145 k6_146 k6_147 k1_10 k6_148) rfl rfl rfl (by decide +kernel) ⟨Nat.le_of_ble_eq_true rfl, Nat.le_of_ble_eq_true rfl⟩) (kpVP hG hP hK hD hS hA hGA (ci := 10) (q0 := 0) rfl rfl rfl) rfl rfl hl.1 rfl (lv_room (Nat.le_of_ble_eq_true rfl)) d_law_1341 ⟨(by show _ + 0 ≤ 601024; omega), (by show _ + 0 ≤ 7293000; omega)⟩) (fun H locs hP hD hS => ?_)
  have hP := hP.perm (List.perm_append_comm (l₁ := wd_MD g hm qm o2.2) (l₂ := wd_O g ho f ++ wd_C g h u x n))
  have hD := hD.perm (List.perm_append_comm (l₁ := wd_MD g hm qm o2.2) (l₂ := wd_O g ho f ++ wd_C g h u x n))
  refine lv_icmp_eq (tgt := 1349) hx hb d_law_1344 (by decide) (fun _ => ?_) (fun h9 => absurd heq h9)
  exact W.widen (by omega) (by omega) (kk _ _ _ _ H locs ls hR2 hP hD hS hl)
theorem nI_subL {L k : Nat} (h : L < k + 6) (hk : k < 5000) : nI L - 6 < nI k := by
  rw [Int32.lt_iff_toInt_lt, Int32.toInt_sub, nI_toInt (by omega), nI_toInt (by omega), show (6 : Int32).toInt = 6 by decide, Int.bmod_eq_of_le (by omega) (by omega)]
  omega
def sims (F : Nat) (Rl : (Nat → St) → Nat → St → Prop) : Prop := sim_unit F Rl ∧ sim_say F Rl ∧ sim_cutText F Rl ∧ sim_read F Rl ∧ sim_signal F Rl ∧ sim_fault F Rl ∧ sim_disable F Rl ∧ sim_loop F Rl ∧ sim_cut F Rl ∧ sim_heard F Rl ∧ sim_unreachable F Rl ∧ sim_ticks F Rl ∧ sim_person F Rl ∧ sim_reset F Rl ∧ sim_act F Rl ∧ sim_zone F Rl ∧ sim_row F Rl ∧ sim_event F Rl ∧ sim_ranked F Rl ∧ sim_time F Rl
set_option maxHeartbeats 40000000 in
set_option maxRecDepth 100000 in
theorem law_main {p : Program} {l : Launch} {e : Env} {s : State} {m : MethodId} {below : List Frame} {meth : Method} {c : Code} {dC : Nat → ClassId} {dI : Nat → Nat → Nat} {g : Nat → ClassId} {G : (Nat → Prop) → State → Prop} (hG : gok G) (hGn : gN G) {adK adV : Nat → Nat} (hGs : gSt adK adV G) (hGt : gTh G) (hGc : gNC G) (hst : l.stackTraces = false) {b L : Nat} {xs : Nat → Int32} (C0 : lw_At p s m meth c b L xs) (hGA : G (fun q => s.heap.size ≤ q) s) (hK : va_K (dC, dI) vwCl (tyv g) s) (F : Nat) {Rl : (Nat → St) → Nat → St → Prop} (hsim : sims F Rl) {n h hm ho : Nat} {qm : Nat → Nat} (hL : L ≤ 3073) (c0 s0 : Nat) (hc0 : c0 + 2000 ≤ 601024) (hs0 : s0 + 5000 ≤ 7293000) :
    ∀ (dd k : Nat), k + dd = 513 → ∀ (f : Nat → Int64) (u : Nat → Nat → Nat) (x : Nat → St) (y : St) (H : Heap) (locs : List Loc) (ls : Array Slot), Rl x n y → va_P (dC, dI) vwCl ((wd_O g ho f ++ wd_C g h u x n) ++ wd_MD g hm qm y) H → va_D (fun q : Nat => s.heap.size ≤ q) ((wd_O g ho f ++ wd_C g h u x n) ++ wd_MD g hm qm y) → va_S (fun q : Nat => s.heap.size ≤ q) s.heap H locs → lv_has ls 7 [(0, .ref b), (1, .ref h), (2, .ref hm), (3, .ref ho), (4, .int (nI (1 + 6 * k)))] → W p l e room_1 s m #[Value.ref b] below meth c H locs (c0 + 2 * k) (s0 + 7 * k) (lw_Z below #[Value.ref b] s) (F0 m 33 ls []) := by
  obtain ⟨s_unit, s_say, s_cutText, s_read, s_signal, s_fault, s_disable, s_loop, s_cut, s_heard, s_unreachable, s_ticks, s_person, s_reset, s_act, s_zone, s_row, s_event, s_ranked, s_time⟩ := hsim
  have C1 := C0
  obtain ⟨hx, hb, hr, hml, hown, hts, hX, hbl, hlocks, hgv⟩ := C0
  have hA : ∀ q : Nat, s.heap.size ≤ q → (fun q : Nat => s.heap.size ≤ q) q := fun _ h => h
  have hbA : ¬ (fun q : Nat => s.heap.size ≤ q) b := Nat.not_le.mpr hbl
  have hts : ∀ w ∈ gw, w.before #[Value.ref b] s = true := fun w h => hts w (List.mem_filter.mp h).1
  have hml : c.maxLocals = 7 := hml
  have hown : s.vm.findClass "AlarmMatrixLaw" = some m.cls := hown
  intro dd
  induction dd with
  | zero =>
    intro k hk f u x y H locs ls hR hP hD hS hl
    refine lv_iload hx hb d_law_33 (lv_at hl 4 rfl) ?_
    refine lv_aload_n hx hb d_law_35 rfl (lv_at hl 0 rfl) ?_
    refine va_slen hx hb hX hbl hbA hS d_law_36 ?_
    refine lv_bipush (v := (6 : Int32)) hx hb d_law_37 (by decide) ?_
    refine lv_isub hx hb d_law_39 ?_
    refine lv_icmp_gt (tgt := 1355) hx hb d_law_40 (by decide) (fun hc => ?_) (fun hc => ?_)
    · refine lv_iconst (v := 1) hx hb d_law_1355 (by decide) ?_
      refine va_forget (fun q hq => hS.2.2 q hq) ?_
      refine W.widen (k := 601024) (n := 7293000) (by omega) (by omega) ?_
      exact lw_ret hx hb hr hlocks d_law_1356
    · exact absurd (nI_subL (by omega : L < 1 + 6 * k + 6) (by omega)) hc
  | succ dd ih =>
    intro k hk f u x y H locs ls hR hP hD hS hl
    refine lv_iload hx hb d_law_33 (lv_at hl 4 rfl) ?_
    refine lv_aload_n hx hb d_law_35 rfl (lv_at hl 0 rfl) ?_
    refine va_slen hx hb hX hbl hbA hS d_law_36 ?_
    refine lv_bipush (v := (6 : Int32)) hx hb d_law_37 (by decide) ?_
    refine lv_isub hx hb d_law_39 ?_
    refine lv_icmp_gt (tgt := 1355) hx hb d_law_40 (by decide) (fun hc => ?_) (fun hc => ?_)
    · refine lv_iconst (v := 1) hx hb d_law_1355 (by decide) ?_
      refine va_forget (fun q hq => hS.2.2 q hq) ?_
      refine W.widen (k := 601024) (n := 7293000) (by omega) (by omega) ?_
      exact lw_ret hx hb hr hlocks d_law_1356
    · have hle : 1 + 6 * k + 6 ≤ L := by
        rcases Nat.lt_or_ge L (1 + 6 * k + 6) with q | q
        · exact absurd (nI_subL q (by omega)) hc
        · exact q
      have hin : ∀ j : Nat, j ≤ 5 → vp_in (nI (1 + 6 * k + j)) L := fun j hj => vp_in_nI (by omega) (by omega)
      have hi1 : vp_in (nI (1 + 6 * k) + 1) L := by rw [show nI (1 + 6 * k) + 1 = nI (1 + 6 * k + 1) from nI_add _ 1]; exact hin 1 (by omega)
      have hi2 : vp_in (nI (1 + 6 * k) + 2) L := by rw [show nI (1 + 6 * k) + 2 = nI (1 + 6 * k + 2) from nI_add _ 2]; exact hin 2 (by omega)
      have hi3 : vp_in (nI (1 + 6 * k) + 3) L := by rw [show nI (1 + 6 * k) + 3 = nI (1 + 6 * k + 3) from nI_add _ 3]; exact hin 3 (by omega)
      have hi4 : vp_in (nI (1 + 6 * k) + 4) L := by rw [show nI (1 + 6 * k) + 4 = nI (1 + 6 * k + 4) from nI_add _ 4]; exact hin 4 (by omega)
      have hi5 : vp_in (nI (1 + 6 * k) + 5) L := by rw [show nI (1 + 6 * k) + 5 = nI (1 + 6 * k + 5) from nI_add _ 5]; exact hin 5 (by omega)
      have kk : ∀ (f : Nat → Int64) (u : Nat → Nat → Nat) (x : Nat → St) (y : St) (H : Heap) (locs : List Loc) (ls : Array Slot), Rl x n y → va_P (dC, dI) vwCl ((wd_O g ho f ++ wd_C g h u x n) ++ wd_MD g hm qm y) H → va_D (fun q : Nat => s.heap.size ≤ q) ((wd_O g ho f ++ wd_C g h u x n) ++ wd_MD g hm qm y) → va_S (fun q : Nat => s.heap.size ≤ q) s.heap H locs → lv_has ls 7 [(0, .ref b), (1, .ref h), (2, .ref hm), (3, .ref ho), (4, .int (nI (1 + 6 * k)))] → W p l e room_1 s m #[Value.ref b] below meth c H locs (c0 + 2 * k + 2) (s0 + 7 * k + 7) (lw_Z below #[Value.ref b] s) (F0 m 1349 ls []) := by
        intro f u x y H locs ls hR hP hD hS hl
        refine lv_iinc (v := nI (1 + 6 * (k + 1))) (lv' := [(4, .int (nI (1 + 6 * (k + 1)))), (0, .ref b), (1, .ref h), (2, .ref hm), (3, .ref ho)]) hx hb d_law_1349 hl (k := 4) rfl (by rw [show 1 + 6 * (k + 1) = 1 + 6 * k + 6 by omega]; exact nI_add _ 6) (by decide) rfl (fun ls hl => ?_)
        refine lv_goto (tgt := 33) hx hb d_law_1352 (by decide) ?_
        refine W.widen (k := c0 + 2 * (k + 1)) (n := s0 + 7 * (k + 1)) (by omega) (by omega) ?_
        exact ih (k + 1) (by omega) f u x y H locs ls hR hP hD hS (lv_sub hl [1, 2, 3, 4, 0] rfl)
      refine lv_aload_n hx hb d_law_43 rfl (lv_at hl 0 rfl) ?_
      refine lv_iload hx hb d_law_44 (lv_at hl 4 rfl) ?_
      refine va_sld hx hb hX hbl hbA hS (hin 0 (by omega)) d_law_46 ?_
      refine lv_bipush (v := (31 : Int32)) hx hb d_law_47 (by decide) ?_
      refine lv_iand hx hb d_law_49 ?_
      refine lv_topi (fun v hv => ?_)
      by_cases hc0 : v = (0 : Int32)
      · refine lv_tableIn (tgt := 144) hx hb d_law_50 (by rw [hc0]; decide) (by rw [hc0]; decide) (by rw [hc0]; rfl) (by decide) ?_
        exact law_unit hG hGn hGs hGt hGc hst C1 hGA hK F s_unit hi1 hi2 hi3 hi4 hi5 hR hP hD hS hl (by omega) (by omega) kk
      by_cases hc1 : v = (1 : Int32)
      · refine lv_tableIn (tgt := 200) hx hb d_law_50 (by rw [hc1]; decide) (by rw [hc1]; decide) (by rw [hc1]; rfl) (by decide) ?_
        exact law_say hG hGn hGs hGt hGc hst C1 hGA hK F s_say hi1 hi2 hi3 hi4 hi5 hR hP hD hS hl (by omega) (by omega) kk
      by_cases hc2 : v = (2 : Int32)
      · refine lv_tableIn (tgt := 304) hx hb d_law_50 (by rw [hc2]; decide) (by rw [hc2]; decide) (by rw [hc2]; rfl) (by decide) ?_
        exact law_cutText hG hGn hGs hGt hGc hst C1 hGA hK F s_cutText hi1 hi2 hi3 hi4 hi5 hR hP hD hS hl (by omega) (by omega) kk
      by_cases hc3 : v = (3 : Int32)
      · refine lv_tableIn (tgt := 360) hx hb d_law_50 (by rw [hc3]; decide) (by rw [hc3]; decide) (by rw [hc3]; rfl) (by decide) ?_
        exact law_read hG hGn hGs hGt hGc hst C1 hGA hK F s_read hi1 hi2 hi3 hi4 hi5 hR hP hD hS hl (by omega) (by omega) kk
      by_cases hc4 : v = (4 : Int32)
      · refine lv_tableIn (tgt := 373) hx hb d_law_50 (by rw [hc4]; decide) (by rw [hc4]; decide) (by rw [hc4]; rfl) (by decide) ?_
        exact law_signal hG hGn hGs hGt hGc hst C1 hGA hK F s_signal hi1 hi2 hi3 hi4 hi5 hR hP hD hS hl (by omega) (by omega) kk
      by_cases hc5 : v = (5 : Int32)
      · refine lv_tableIn (tgt := 441) hx hb d_law_50 (by rw [hc5]; decide) (by rw [hc5]; decide) (by rw [hc5]; rfl) (by decide) ?_
        exact law_fault hG hGn hGs hGt hGc hst C1 hGA hK F s_fault hi1 hi2 hi3 hi4 hi5 hR hP hD hS hl (by omega) (by omega) kk
      by_cases hc6 : v = (6 : Int32)
      · refine lv_tableIn (tgt := 532) hx hb d_law_50 (by rw [hc6]; decide) (by rw [hc6]; decide) (by rw [hc6]; rfl) (by decide) ?_
        exact law_disable hG hGn hGs hGt hGc hst C1 hGA hK F s_disable hi1 hi2 hi3 hi4 hi5 hR hP hD hS hl (by omega) (by omega) kk
      by_cases hc7 : v = (7 : Int32)
      · refine lv_tableIn (tgt := 600) hx hb d_law_50 (by rw [hc7]; decide) (by rw [hc7]; decide) (by rw [hc7]; rfl) (by decide) ?_
        exact law_loop hG hGn hGs hGt hGc hst C1 hGA hK F s_loop hi1 hi2 hi3 hi4 hi5 hR hP hD hS hl (by omega) (by omega) kk
      by_cases hc8 : v = (8 : Int32)
      · refine lv_tableIn (tgt := 668) hx hb d_law_50 (by rw [hc8]; decide) (by rw [hc8]; decide) (by rw [hc8]; rfl) (by decide) ?_
        exact law_cut hG hGn hGs hGt hGc hst C1 hGA hK F s_cut hi1 hi2 hi3 hi4 hi5 hR hP hD hS hl (by omega) (by omega) kk
      by_cases hc9 : v = (9 : Int32)
      · refine lv_tableIn (tgt := 771) hx hb d_law_50 (by rw [hc9]; decide) (by rw [hc9]; decide) (by rw [hc9]; rfl) (by decide) ?_
        exact law_heard hG hGn hGs hGt hGc hst C1 hGA hK F s_heard hi1 hi2 hi3 hi4 hi5 hR hP hD hS hl (by omega) (by omega) kk
      by_cases hc10 : v = (10 : Int32)
      · refine lv_tableIn (tgt := 827) hx hb d_law_50 (by rw [hc10]; decide) (by rw [hc10]; decide) (by rw [hc10]; rfl) (by decide) ?_
        exact law_unreachable hG hGn hGs hGt hGc hst C1 hGA hK F s_unreachable hi1 hi2 hi3 hi4 hi5 hR hP hD hS hl (by omega) (by omega) kk
      by_cases hc11 : v = (11 : Int32)
      · refine lv_tableIn (tgt := 883) hx hb d_law_50 (by rw [hc11]; decide) (by rw [hc11]; decide) (by rw [hc11]; rfl) (by decide) ?_
        exact law_ticks hG hGn hGs hGt hGc hst C1 hGA hK F s_ticks hi1 hi2 hi3 hi4 hi5 hR hP hD hS hl (by omega) (by omega) kk
      by_cases hc12 : v = (12 : Int32)
      · refine lv_tableIn (tgt := 939) hx hb d_law_50 (by rw [hc12]; decide) (by rw [hc12]; decide) (by rw [hc12]; rfl) (by decide) ?_
        exact law_person hG hGn hGs hGt hGc hst C1 hGA hK F s_person hi1 hi2 hi3 hi4 hi5 hR hP hD hS hl (by omega) (by omega) kk
      by_cases hc13 : v = (13 : Int32)
      · refine lv_tableIn (tgt := 995) hx hb d_law_50 (by rw [hc13]; decide) (by rw [hc13]; decide) (by rw [hc13]; rfl) (by decide) ?_
        exact law_reset hG hGn hGs hGt hGc hst C1 hGA hK F s_reset hi1 hi2 hi3 hi4 hi5 hR hP hD hS hl (by omega) (by omega) kk
      by_cases hc14 : v = (14 : Int32)
      · refine lv_tableIn (tgt := 1008) hx hb d_law_50 (by rw [hc14]; decide) (by rw [hc14]; decide) (by rw [hc14]; rfl) (by decide) ?_
        exact law_act hG hGn hGs hGt hGc hst C1 hGA hK F s_act hi1 hi2 hi3 hi4 hi5 hR hP hD hS hl (by omega) (by omega) kk
      by_cases hc15 : v = (15 : Int32)
      · refine lv_tableIn (tgt := 1076) hx hb d_law_50 (by rw [hc15]; decide) (by rw [hc15]; decide) (by rw [hc15]; rfl) (by decide) ?_
        exact law_zone hG hGn hGs hGt hGc hst C1 hGA hK F s_zone hi1 hi2 hi3 hi4 hi5 hR hP hD hS hl (by omega) (by omega) kk
      by_cases hc16 : v = (16 : Int32)
      · refine lv_tableIn (tgt := 1144) hx hb d_law_50 (by rw [hc16]; decide) (by rw [hc16]; decide) (by rw [hc16]; rfl) (by decide) ?_
        exact law_row hG hGn hGs hGt hGc hst C1 hGA hK F s_row hi1 hi2 hi3 hi4 hi5 hR hP hD hS hl (by omega) (by omega) kk
      by_cases hc17 : v = (17 : Int32)
      · refine lv_tableIn (tgt := 1212) hx hb d_law_50 (by rw [hc17]; decide) (by rw [hc17]; decide) (by rw [hc17]; rfl) (by decide) ?_
        exact law_event hG hGn hGs hGt hGc hst C1 hGA hK F s_event hi1 hi2 hi3 hi4 hi5 hR hP hD hS hl (by omega) (by omega) kk
      by_cases hc18 : v = (18 : Int32)
      · refine lv_tableIn (tgt := 1280) hx hb d_law_50 (by rw [hc18]; decide) (by rw [hc18]; decide) (by rw [hc18]; rfl) (by decide) ?_
        exact law_ranked hG hGn hGs hGt hGc hst C1 hGA hK F s_ranked hi1 hi2 hi3 hi4 hi5 hR hP hD hS hl (by omega) (by omega) kk
      by_cases hc19 : v = (19 : Int32)
      · refine lv_tableIn (tgt := 1336) hx hb d_law_50 (by rw [hc19]; decide) (by rw [hc19]; decide) (by rw [hc19]; rfl) (by decide) ?_
        exact law_time hG hGn hGs hGt hGc hst C1 hGA hK F s_time hi1 hi2 hi3 hi4 hi5 hR hP hD hS hl (by omega) (by omega) kk
      refine lv_tableOut (tgt := 1349) hx hb d_law_50 (sw_out (lo := 0) (n := 20) (by decide) (fun j hj => by rcases (show j = 0 ∨ j = 1 ∨ j = 2 ∨ j = 3 ∨ j = 4 ∨ j = 5 ∨ j = 6 ∨ j = 7 ∨ j = 8 ∨ j = 9 ∨ j = 10 ∨ j = 11 ∨ j = 12 ∨ j = 13 ∨ j = 14 ∨ j = 15 ∨ j = 16 ∨ j = 17 ∨ j = 18 ∨ j = 19 by omega) with rfl | rfl | rfl | rfl | rfl | rfl | rfl | rfl | rfl | rfl | rfl | rfl | rfl | rfl | rfl | rfl | rfl | rfl | rfl | rfl <;> assumption)) (by decide) ?_
      exact W.widen (by omega) (by omega) (kk _ _ _ _ H locs ls hR hP hD hS hl)

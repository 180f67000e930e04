def m_AM_loop_x (F : Nat) (a1 : Int32) (a2 : Int32) : Option (Nat × Int32) :=
  (bn1 (m_AM_isLoop F a1) (fun r1 => (if r1 = (0 : Int32) then (some (1, (0 : Int32))) else (none))))
abbrev rm_AM_loop_x : Room := { frames := 6, cells := 1, slots := 6, locals := 90 }
set_option maxHeartbeats 4000000 in
set_option maxRecDepth 100000 in
theorem c_AM_loop_x {G : (Nat → Prop) → State → Prop} (hG : gok G) (hGn : gN G) {adK adV : Nat → Nat} (hGs : gSt adK adV G) (hGt : gTh G) (l : Launch) (hst : l.stackTraces = false) (dC : Nat → ClassId) (dI : Nat → Nat → Nat) (g : Nat → ClassId) (F : Nat) (sz : Nat) (h9 : Nat) (a1 : Int32) (a2 : Int32) {o : Nat × Int32} (hm : m_AM_loop_x F a1 a2 = some o) : kT l y_AM_loop (.code y_AM_loop b_AM_loop 3 (some .int) :: gw) rm_AM_loop_x (dC, dI) vwCl (tyv g) G [.ref h9, .int a1, .int a2] (([] : va_W)) o.1 o.2 (([] : va_W)) 1 6 sz := by
  unfold m_AM_loop_x at hm
  refine kmT (cc := b_AM_loop) (maxL := 3) (ret := (some .int)) (by decide) rfl (Nat.le_of_ble_eq_true rfl) ?_
  intro p e s m args below meth c Q hQ hx hb hr hts hown hlocks hml htab H locs A hAe hA hP hK hD hS hGA ls hl
  have hl : lv_has ls 3 [(0, .ref h9), (1, .int a1), (2, .int a2)] := hl
  have hts : ∀ w ∈ gw, w.before args s = true := fun w h => hts w (List.mem_cons_of_mem _ h)
  have hown : s.vm.findClass "AlarmMatrix" = some m.cls := hown
  refine lv_iload_n hx hb d_AM_loop_0 rfl (lv_at hl 1 rfl) ?_
  obtain ⟨r1, hcl, hm⟩ := bn1_s hm
  refine kci (wc := ([] : va_W)) (wr := ([] : va_W)) (w1 := ([] : va_W)) hP hD hS hA [] [] rfl rfl (by decide) (by decide) (va_runS (As := [.int a1]) (rest := []) ⟨hx, hb, hml, hown, hts⟩ (c_AM_isLoop hG hGn l dC dI g F H.size a1 hcl) (cwS 1 hts (gdS k4_58 k4_59 k1_1 k4_60) rfl rfl rfl (by decide +kernel) ⟨Nat.le_of_ble_eq_true rfl, Nat.le_of_ble_eq_true rfl⟩) (kpS hG hP hK hD hS hA hGA [] (by decide) rfl) rfl rfl hl.1 rfl (lv_room (Nat.le_of_ble_eq_true rfl)) d_AM_loop_1 ⟨Nat.le_of_ble_eq_true rfl, Nat.le_of_ble_eq_true rfl⟩) (fun H locs hP hD hS => ?_)
  have hP : va_P (dC, dI) vwCl (([] : va_W)) H := hP
  have hD : va_D A (([] : va_W)) := hD
  refine lv_if_eq (tgt := 18) hx hb d_AM_loop_4 (by decide) (fun hc => ?_) (fun hc => ?_)
  · replace hm := if_t hm hc
    obtain rfl := Option.some.inj hm
    rw [hQ]
    exact kThrow (rest := []) hx hb hst hts (hGt A s hGA) (Or.inl ⟨rfl, rfl⟩) fit_IAE hown own_IAE k3_102 k1_14 k3_103 ((hGs A s hGA).2.2.2 32 (by decide)) htab (hl.1.trans hml.symm) hlocks hAe hP hK hD hS (Nat.le_of_ble_eq_true rfl) (Nat.le_of_ble_eq_true rfl) (Nat.le_of_ble_eq_true rfl) (Nat.le_of_ble_eq_true rfl) (Nat.le_of_ble_eq_true rfl) (Nat.le_of_ble_eq_true rfl) d_AM_loop_18 d_AM_loop_21 d_AM_loop_22 d_AM_loop_24 d_AM_loop_27
  · replace hm := if_f hm hc
    cases hm
def m_AM_cut_x (F : Nat) (a1 : Int32) (a2 : Int32) (a3 : Int32) : Option (Nat × Int32) :=
  (bn1 (m_AM_isLoop F a1) (fun r1 => (if r1 = (0 : Int32) then (some (1, (0 : Int32))) else (none))))
abbrev rm_AM_cut_x : Room := { frames := 6, cells := 1, slots := 6, locals := 90 }
set_option maxHeartbeats 4000000 in
set_option maxRecDepth 100000 in
theorem c_AM_cut_x {G : (Nat → Prop) → State → Prop} (hG : gok G) (hGn : gN G) {adK adV : Nat → Nat} (hGs : gSt adK adV G) (hGt : gTh G) (l : Launch) (hst : l.stackTraces = false) (dC : Nat → ClassId) (dI : Nat → Nat → Nat) (g : Nat → ClassId) (F : Nat) (sz : Nat) (h9 : Nat) (a1 : Int32) (a2 : Int32) (a3 : Int32) {o : Nat × Int32} (hm : m_AM_cut_x F a1 a2 a3 = some o) : kT l y_AM_cut (.code y_AM_cut b_AM_cut 5 (some .boolean) :: gw) rm_AM_cut_x (dC, dI) vwCl (tyv g) G [.ref h9, .int a1, .int a2, .int a3] (([] : va_W)) o.1 o.2 (([] : va_W)) 1 6 sz := by
  unfold m_AM_cut_x at hm
  refine kmT (cc := b_AM_cut) (maxL := 5) (ret := (some .boolean)) (by decide) rfl (Nat.le_of_ble_eq_true rfl) ?_
  intro p e s m args below meth c Q hQ hx hb hr hts hown hlocks hml htab H locs A hAe hA hP hK hD hS hGA ls hl
  have hl : lv_has ls 5 [(0, .ref h9), (1, .int a1), (2, .int a2), (3, .int a3)] := hl
  have hts : ∀ w ∈ gw, w.before args s = true := fun w h => hts w (List.mem_cons_of_mem _ h)
  have hown : s.vm.findClass "AlarmMatrix" = some m.cls := hown
  refine lv_iload_n hx hb d_AM_cut_0 rfl (lv_at hl 1 rfl) ?_
  obtain ⟨r1, hcl, hm⟩ := bn1_s hm
  refine kci (wc := ([] : va_W)) (wr := ([] : va_W)) (w1 := ([] : va_W)) hP hD hS hA [] [] rfl rfl (by decide) (by decide) (va_runS (As := [.int a1]) (rest := []) ⟨hx, hb, hml, hown, hts⟩ (c_AM_isLoop hG hGn l dC dI g F H.size a1 hcl) (cwS 1 hts (gdS k4_58 k4_59 k1_1 k4_60) rfl rfl rfl (by decide +kernel) ⟨Nat.le_of_ble_eq_true rfl, Nat.le_of_ble_eq_true rfl⟩) (kpS hG hP hK hD hS hA hGA [] (by decide) rfl) rfl rfl hl.1 rfl (lv_room (Nat.le_of_ble_eq_true rfl)) d_AM_cut_1 ⟨Nat.le_of_ble_eq_true rfl, Nat.le_of_ble_eq_true rfl⟩) (fun H locs hP hD hS => ?_)
  have hP : va_P (dC, dI) vwCl (([] : va_W)) H := hP
  have hD : va_D A (([] : va_W)) := hD
  refine lv_if_eq (tgt := 24) hx hb d_AM_cut_4 (by decide) (fun hc => ?_) (fun hc => ?_)
  · replace hm := if_t hm hc
    obtain rfl := Option.some.inj hm
    rw [hQ]
    exact kThrow (rest := []) hx hb hst hts (hGt A s hGA) (Or.inl ⟨rfl, rfl⟩) fit_IAE hown own_IAE k3_102 k1_14 k3_103 ((hGs A s hGA).2.2.2 34 (by decide)) htab (hl.1.trans hml.symm) hlocks hAe hP hK hD hS (Nat.le_of_ble_eq_true rfl) (Nat.le_of_ble_eq_true rfl) (Nat.le_of_ble_eq_true rfl) (Nat.le_of_ble_eq_true rfl) (Nat.le_of_ble_eq_true rfl) (Nat.le_of_ble_eq_true rfl) d_AM_cut_24 d_AM_cut_27 d_AM_cut_28 d_AM_cut_30 d_AM_cut_33
  · replace hm := if_f hm hc
    cases hm
def m_AM_heard_x (F : Nat) (a1 : Int32) : Option (Nat × Int32) :=
  (bn1 (m_AM_isLoop F a1) (fun r1 => (if r1 = (0 : Int32) then (some (1, (0 : Int32))) else (none))))
abbrev rm_AM_heard_x : Room := { frames := 6, cells := 1, slots := 6, locals := 90 }
set_option maxHeartbeats 4000000 in
set_option maxRecDepth 100000 in
theorem c_AM_heard_x {G : (Nat → Prop) → State → Prop} (hG : gok G) (hGn : gN G) {adK adV : Nat → Nat} (hGs : gSt adK adV G) (hGt : gTh G) (l : Launch) (hst : l.stackTraces = false) (dC : Nat → ClassId) (dI : Nat → Nat → Nat) (g : Nat → ClassId) (F : Nat) (sz : Nat) (h9 : Nat) (a1 : Int32) {o : Nat × Int32} (hm : m_AM_heard_x F a1 = some o) : kT l y_AM_heard (.code y_AM_heard b_AM_heard 2 (some .int) :: gw) rm_AM_heard_x (dC, dI) vwCl (tyv g) G [.ref h9, .int a1] (([] : va_W)) o.1 o.2 (([] : va_W)) 1 6 sz := by
  unfold m_AM_heard_x at hm
  refine kmT (cc := b_AM_heard) (maxL := 2) (ret := (some .int)) (by decide) rfl (Nat.le_of_ble_eq_true rfl) ?_
  intro p e s m args below meth c Q hQ hx hb hr hts hown hlocks hml htab H locs A hAe hA hP hK hD hS hGA ls hl
  have hl : lv_has ls 2 [(0, .ref h9), (1, .int a1)] := hl
  have hts : ∀ w ∈ gw, w.before args s = true := fun w h => hts w (List.mem_cons_of_mem _ h)
  have hown : s.vm.findClass "AlarmMatrix" = some m.cls := hown
  refine lv_iload_n hx hb d_AM_heard_0 rfl (lv_at hl 1 rfl) ?_
  obtain ⟨r1, hcl, hm⟩ := bn1_s hm
  refine kci (wc := ([] : va_W)) (wr := ([] : va_W)) (w1 := ([] : va_W)) hP hD hS hA [] [] rfl rfl (by decide) (by decide) (va_runS (As := [.int a1]) (rest := []) ⟨hx, hb, hml, hown, hts⟩ (c_AM_isLoop hG hGn l dC dI g F H.size a1 hcl) (cwS 1 hts (gdS k4_58 k4_59 k1_1 k4_60) rfl rfl rfl (by decide +kernel) ⟨Nat.le_of_ble_eq_true rfl, Nat.le_of_ble_eq_true rfl⟩) (kpS hG hP hK hD hS hA hGA [] (by decide) rfl) rfl rfl hl.1 rfl (lv_room (Nat.le_of_ble_eq_true rfl)) d_AM_heard_1 ⟨Nat.le_of_ble_eq_true rfl, Nat.le_of_ble_eq_true rfl⟩) (fun H locs hP hD hS => ?_)
  have hP : va_P (dC, dI) vwCl (([] : va_W)) H := hP
  have hD : va_D A (([] : va_W)) := hD
  refine lv_if_ne (tgt := 17) hx hb d_AM_heard_4 (by decide) (fun hc => ?_) (fun hc => ?_)
  · replace hm := if_f hm hc
    cases hm
  · replace hm := if_t hm hc
    obtain rfl := Option.some.inj hm
    rw [hQ]
    exact kThrow (rest := []) hx hb hst hts (hGt A s hGA) (Or.inl ⟨rfl, rfl⟩) fit_IAE hown own_IAE k3_102 k1_14 k3_103 ((hGs A s hGA).2.2.2 35 (by decide)) htab (hl.1.trans hml.symm) hlocks hAe hP hK hD hS (Nat.le_of_ble_eq_true rfl) (Nat.le_of_ble_eq_true rfl) (Nat.le_of_ble_eq_true rfl) (Nat.le_of_ble_eq_true rfl) (Nat.le_of_ble_eq_true rfl) (Nat.le_of_ble_eq_true rfl) d_AM_heard_7 d_AM_heard_10 d_AM_heard_11 d_AM_heard_13 d_AM_heard_16

-- WHAT WAS READ IS TAKEN
def TS (y z : St) (i m : Nat) : Prop := (∀ f : Nat, (f < 18 ∨ 26 < f) → (f < 32 ∨ 35 < f) → z f = y f) ∧ (∀ k : Nat, 20 ≤ k → z 18 k = y 18 k ∧ z 19 k = y 19 k ∧ z 20 k = y 20 k ∧ z 22 k = y 22 k ∧ z 23 k = y 23 k ∧ z 24 k = y 24 k ∧ z 25 k = y 25 k ∧ z 26 k = y 26 k) ∧ (∀ q : Nat, 240 ≤ q → z 21 q = y 21 q) ∧ (∀ q : Nat, q < m → z 21 q = y 21 (240 + q)) ∧ (∀ k : Nat, k < i → z 18 k = vp_nar .boolean (y 18 (k + 20)) ∧ z 19 k = y 19 (k + 20) ∧ z 20 k = y 20 (k + 20) ∧ z 22 k = vp_nar .boolean (y 22 (k + 20)) ∧ z 23 k = y 23 (k + 20) ∧ z 24 k = y 24 (k + 20) ∧ z 25 k = y 25 (k + 20) ∧ z 26 k = vp_nar .boolean (y 26 (k + 20)) ∧ z 32 k = 0 ∧ z 33 k = -1 ∧ z 34 k = 0 ∧ z 35 k = 0)
theorem q_rows {F r : Nat} {z : St} (hF : 100000 ≤ F) (h28 : z 28 0 = nI r) (hr : r ≤ 50) : rT (lz (sc z 27 (z 28 0)) (fun e0_184 => (lq2 (m_MD_take_1_B189 F (fun v1_189 y0_189 => (some y0_189))) F (0 : Int32) e0_184))) (fun u => (∀ f : Nat, f ≠ 27 → f ≠ 29 → f ≠ 30 → f ≠ 31 → u f = z f) ∧ u 27 0 = z 28 0 ∧ (∀ k : Nat, k < r → u 29 k = z 29 (k + 50) ∧ u 30 k = z 30 (k + 50) ∧ u 31 k = z 31 (k + 50))) := by
  refine rT_lz ?_
  refine rT_lq2 r (fun i v u => v = nI i ∧ (∀ f : Nat, f ≠ 27 → f ≠ 29 → f ≠ 30 → f ≠ 31 → u f = z f) ∧ u 27 0 = z 28 0 ∧ (∀ k : Nat, k < i → u 29 k = z 29 (k + 50) ∧ u 30 k = z 30 (k + 50) ∧ u 31 k = z 31 (k + 50)) ∧ (∀ k : Nat, 50 ≤ k → u 29 k = z 29 k ∧ u 30 k = z 30 k ∧ u 31 k = z 31 k)) ?_ F 0 0 _ (by omega) (by omega) ⟨rfl, fun f h _ _ _ => sc_n h, rfl, fun k hk => by omega, fun k _ => ⟨rfl, rfl, rfl⟩⟩
  intro i q v u hi hI hrec
  obtain ⟨ev, hf, h27, hlo, hhi⟩ := hI
  subst ev
  unfold m_MD_take_1_B189
  have ht : u 27 0 = nI r := h27.trans h28
  rw [ht, show (nI i + 1 : Int32) = nI (i + 1) from nI_add i 1, a50 i, nI_clamp (show i + 50 < 2 ^ 31 by omega), nI_clamp (show i < 2 ^ 31 by omega)]
  refine rT_if (fun g => rT_some ⟨hf, h27, ?_⟩) (fun g => ?_)
  · have := (nI_leI (by omega) (by omega)).mp g
    rw [show r = i by omega]; exact hlo
  have hi' : i < r := Nat.lt_of_not_le (fun p => g ((nI_leI (by omega) (by omega)).mpr p))
  obtain ⟨p1, p2, p3⟩ := hhi (i + 50) (by omega)
  refine rT_ck (vin (by omega)) (rT_ck (vin (by omega)) (rT_lz (rT_ck (vin (by omega)) (rT_ck (vin (by omega)) (rT_lz (rT_ck (vin (by omega)) (rT_ck (vin (by omega)) (rT_lz (hrec _ _ hi' ⟨rfl, fun f f1 f2 f3 f4 => ?_, h27, fun k hk => ?_, fun k hk => ?_⟩)))))))))
  · rw [st_n f4, st_n f3, st_n f2]; exact hf f f1 f2 f3 f4
  · show upd (u 29) i (u 29 (i + 50)) k = _ ∧ upd (u 30) i (u 30 (i + 50)) k = _ ∧ upd (u 31) i (u 31 (i + 50)) k = _
    by_cases e : k = i
    · subst e
      rw [upd_e, upd_e, upd_e]
      exact ⟨p1, p2, p3⟩
    · rw [upd_n e, upd_n e, upd_n e]
      exact hlo k (by omega)
  · show upd (u 29) i (u 29 (i + 50)) k = _ ∧ upd (u 30) i (u 30 (i + 50)) k = _ ∧ upd (u 31) i (u 31 (i + 50)) k = _
    rw [upd_n (by omega), upd_n (by omega), upd_n (by omega)]
    exact hhi k hk
set_option maxHeartbeats 4000000 in
theorem q_take1 {F r : Nat} {y : St} (hF : 100000 ≤ F) (h28 : y 28 0 = nI r) (hr : r ≤ 50) : rT (m_MD_take_1 F y) (fun u => ∃ z : St, TS y z 20 240 ∧ (∀ f : Nat, f ≠ 27 → f ≠ 29 → f ≠ 30 → f ≠ 31 → u f = z f) ∧ u 27 0 = z 28 0 ∧ (∀ k : Nat, k < r → u 29 k = z 29 (k + 50) ∧ u 30 k = z 30 (k + 50) ∧ u 31 k = z 31 (k + 50))) := by
  unfold m_MD_take_1
  refine rT_lq2 20 (fun i v z => v = nI i ∧ TS y z i (12 * i)) ?_ F 0 0 y (by omega) (by omega) ⟨rfl, fun _ _ _ => rfl, fun k _ => ⟨rfl, rfl, rfl, rfl, rfl, rfl, rfl, rfl⟩, fun _ _ => rfl, fun q hq => by omega, fun k hk => by omega⟩
  intro i rec v z hi hI hrec
  obtain ⟨ev, t1, t2, t3, t4, t5⟩ := hI
  subst ev
  unfold m_MD_take_1_B2
  refine rT_if (fun g => ?_) (fun g => ?_)
  · have := (nI_leI (a := 20) (by omega) (by omega)).mp g
    have ei : i = 20 := by omega
    subst ei
    have h28' : z 28 0 = nI r := by rw [t1 28 (by omega) (by omega)]; exact h28
    exact rT_mono (q_rows hF h28' hr) (fun u hu => ⟨z, ⟨t1, t2, t3, t4, t5⟩, hu⟩)
  have hi' : i < 20 := Nat.lt_of_not_le (fun q => g ((nI_leI (a := 20) (by omega) (by omega)).mpr q))
  have e1 : (nI i + 1 : Int32) = nI (i + 1) := nI_add i 1
  rw [(a20 i).1, nI_clamp (show i + 20 < 2 ^ 31 by omega), nI_clamp (show i < 2 ^ 31 by omega), e1]
  obtain ⟨n18, n19, n20, n22, n23, n24, n25, n26⟩ := t2 (i + 20) (by omega)
  refine rT_ck (vin (by omega)) (rT_ck (vin (by omega)) (rT_lz (rT_ck (vin (by omega)) (rT_ck (vin (by omega)) (rT_lz (rT_ck (vin (by omega)) (rT_ck (vin (by omega)) (rT_lz ?_))))))))
  generalize hz3 : st (st (st z 18 (upd (z 18) i (vp_nar .boolean (z 18 (i + 20))))) 19 (upd ((st z 18 (upd (z 18) i (vp_nar .boolean (z 18 (i + 20))))) 19) i ((st z 18 (upd (z 18) i (vp_nar .boolean (z 18 (i + 20))))) 19 (i + 20)))) 20 (upd ((st (st z 18 (upd (z 18) i (vp_nar .boolean (z 18 (i + 20))))) 19 (upd ((st z 18 (upd (z 18) i (vp_nar .boolean (z 18 (i + 20))))) 19) i ((st z 18 (upd (z 18) i (vp_nar .boolean (z 18 (i + 20))))) 19 (i + 20)))) 20) i ((st (st z 18 (upd (z 18) i (vp_nar .boolean (z 18 (i + 20))))) 19 (upd ((st z 18 (upd (z 18) i (vp_nar .boolean (z 18 (i + 20))))) 19) i ((st z 18 (upd (z 18) i (vp_nar .boolean (z 18 (i + 20))))) 19 (i + 20)))) 20 (i + 20))) = z3
  have z18 : z3 18 = upd (z 18) i (vp_nar .boolean (z 18 (i + 20))) := by rw [← hz3]; rfl
  have z19 : z3 19 = upd (z 19) i (z 19 (i + 20)) := by rw [← hz3]; rfl
  have z20 : z3 20 = upd (z 20) i (z 20 (i + 20)) := by rw [← hz3]; rfl
  have zo : ∀ f : Nat, f ≠ 18 → f ≠ 19 → f ≠ 20 → z3 f = z f := by
    intro f f1 f2 f3
    rw [← hz3, st_n f3, st_n f2, st_n f1]
  -- the points
  refine rT_lq2 12 (fun j w u => w = nI j ∧ (∀ f : Nat, f ≠ 21 → u f = z3 f) ∧ (∀ q : Nat, 240 ≤ q → u 21 q = y 21 q) ∧ (∀ q : Nat, q < 12 * i + j → u 21 q = y 21 (240 + q))) ?_ F 0 0 z3 (by omega) (by omega) ⟨rfl, fun _ _ => rfl, fun q hq => by rw [zo 21 (by omega) (by omega) (by omega)]; exact t3 q hq, fun q hq => by rw [zo 21 (by omega) (by omega) (by omega)]; exact t4 q (by omega)⟩
  intro j rec2 w u hj hI hrec2
  obtain ⟨ew, uo, u240, ulo⟩ := hI
  subst ew
  unfold m_MD_take_1_B55
  refine rT_if (fun g2 => ?_) (fun g2 => ?_)
  · have := (nI_leI (a := 12) (by omega) (by omega)).mp g2
    have ej : j = 12 := by omega
    subst ej
    refine rT_ck (vin (by omega)) (rT_ck (vin (by omega)) (rT_lz (rT_ck (vin (by omega)) (rT_ck (vin (by omega)) (rT_lz (rT_ck (vin (by omega)) (rT_ck (vin (by omega)) (rT_lz (rT_ck (vin (by omega)) (rT_ck (vin (by omega)) (rT_lz (rT_ck (vin (by omega)) (rT_ck (vin (by omega)) (rT_lz (rT_e1 (e_rests hi') (hrec _ _ hi' ⟨rfl, fun f f1 f2 => ?_, fun k hk => ?_, fun q hq => ?_, fun q hq => ?_, fun k hk => ?_⟩))))))))))))))))
    · unfold rs4
      rw [st_n (by omega), st_n (by omega), st_n (by omega), st_n (by omega), st_n (by omega), st_n (by omega), st_n (by omega), st_n (by omega), st_n (by omega), uo f (by omega), zo f (by omega) (by omega) (by omega)]
      exact t1 f f1 f2
    · show u 18 k = y 18 k ∧ u 19 k = y 19 k ∧ u 20 k = y 20 k ∧ upd (u 22) i (vp_nar .boolean (u 22 (i + 20))) k = y 22 k ∧ upd (u 23) i (u 23 (i + 20)) k = y 23 k ∧ upd (u 24) i (u 24 (i + 20)) k = y 24 k ∧ upd (u 25) i (u 25 (i + 20)) k = y 25 k ∧ upd (u 26) i (vp_nar .boolean (u 26 (i + 20))) k = y 26 k
      rw [uo 18 (by omega), uo 19 (by omega), uo 20 (by omega), uo 22 (by omega), uo 23 (by omega), uo 24 (by omega), uo 25 (by omega), uo 26 (by omega), z18, z19, z20, zo 22 (by omega) (by omega) (by omega), zo 23 (by omega) (by omega) (by omega), zo 24 (by omega) (by omega) (by omega), zo 25 (by omega) (by omega) (by omega), zo 26 (by omega) (by omega) (by omega)]
      have ek : k ≠ i := by omega
      rw [upd_n ek, upd_n ek, upd_n ek, upd_n ek, upd_n ek, upd_n ek, upd_n ek, upd_n ek]
      exact t2 k hk
    · exact u240 q hq
    · exact ulo q (by omega)
    · show u 18 k = vp_nar .boolean (y 18 (k + 20)) ∧ u 19 k = y 19 (k + 20) ∧ u 20 k = y 20 (k + 20) ∧ upd (u 22) i (vp_nar .boolean (u 22 (i + 20))) k = vp_nar .boolean (y 22 (k + 20)) ∧ upd (u 23) i (u 23 (i + 20)) k = y 23 (k + 20) ∧ upd (u 24) i (u 24 (i + 20)) k = y 24 (k + 20) ∧ upd (u 25) i (u 25 (i + 20)) k = y 25 (k + 20) ∧ upd (u 26) i (vp_nar .boolean (u 26 (i + 20))) k = vp_nar .boolean (y 26 (k + 20)) ∧ upd (u 32) i 0 k = 0 ∧ upd (u 33) i (-1) k = -1 ∧ upd (u 34) i 0 k = 0 ∧ upd (u 35) i 0 k = 0
      rw [uo 18 (by omega), uo 19 (by omega), uo 20 (by omega), uo 22 (by omega), uo 23 (by omega), uo 24 (by omega), uo 25 (by omega), uo 26 (by omega), uo 32 (by omega), uo 33 (by omega), uo 34 (by omega), uo 35 (by omega), z18, z19, z20, zo 22 (by omega) (by omega) (by omega), zo 23 (by omega) (by omega) (by omega), zo 24 (by omega) (by omega) (by omega), zo 25 (by omega) (by omega) (by omega), zo 26 (by omega) (by omega) (by omega), zo 32 (by omega) (by omega) (by omega), zo 33 (by omega) (by omega) (by omega), zo 34 (by omega) (by omega) (by omega), zo 35 (by omega) (by omega) (by omega)]
      by_cases ek : k = i
      · subst ek
        rw [upd_e, upd_e, upd_e, upd_e, upd_e, upd_e, upd_e, upd_e, upd_e, upd_e, upd_e, upd_e, n18, n19, n20, n22, n23, n24, n25, n26]
        exact ⟨rfl, rfl, rfl, rfl, rfl, rfl, rfl, rfl, rfl, rfl, rfl, rfl⟩
      · rw [upd_n ek, upd_n ek, upd_n ek, upd_n ek, upd_n ek, upd_n ek, upd_n ek, upd_n ek, upd_n ek, upd_n ek, upd_n ek, upd_n ek]
        exact t5 k (by omega)
  have hj' : j < 12 := Nat.lt_of_not_le (fun q => g2 ((nI_leI (a := 12) (by omega) (by omega)).mpr q))
  have ia : (((240 : Int32) + ((12 : Int32) * nI i)) + nI j) = nI (240 + 12 * i + j) := by
    rw [show (12 : Int32) = nI 12 from rfl, pk_mul, show (240 : Int32) = nI 240 from rfl, nI_add, nI_add]
  have ib : (((12 : Int32) * nI i) + nI j) = nI (12 * i + j) := by
    rw [show (12 : Int32) = nI 12 from rfl, pk_mul, nI_add]
  rw [ia, ib, nI_clamp (show 240 + 12 * i + j < 2 ^ 31 by omega), nI_clamp (show 12 * i + j < 2 ^ 31 by omega), show (nI j + 1 : Int32) = nI (j + 1) from nI_add j 1]
  refine rT_ck (vin (by omega)) (rT_ck (vin (by omega)) (rT_lz (hrec2 _ _ hj' ⟨rfl, fun f hf => ?_, fun q hq => ?_, fun q hq => ?_⟩)))
  · rw [st_n hf]; exact uo f hf
  · show upd (u 21) (12 * i + j) (u 21 (240 + 12 * i + j)) q = y 21 q
    rw [upd_n (by omega)]; exact u240 q hq
  · show upd (u 21) (12 * i + j) (u 21 (240 + 12 * i + j)) q = y 21 (240 + q)
    by_cases e : q = 12 * i + j
    · subst e
      rw [upd_e, u240 _ (by omega), Nat.add_assoc]
    · rw [upd_n e]; exact ulo q (by omega)

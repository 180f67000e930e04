-- HOW THE CLASS AND THE REFERENCE STAND TO EACH OTHER
def Hd (y : St) (p : Nat) : Prop := y 6 p < 0 ∨ (∀ k : Nat, k ≤ (y 7 p).toNatClampNeg → y 10 (41 * (y 6 p).toNatClampNeg + k) = 0) ∨ (∀ k : Nat, (y 7 p).toNatClampNeg < k → k < 41 → y 10 (41 * (y 6 p).toNatClampNeg + k) = 0)
def rTx (t y : St) : Prop := ∃ L : Nat, L ≤ 2000 ∧ t 2 0 = nI L ∧ y 12 0 = nI L ∧ ∀ i : Nat, i < L → t 0 i = y 11 i ∧ ∃ c : Nat, c ≤ 127 ∧ y 11 i = nI c
def rPt (n : Nat) (p y : St) : Prop := (1 ≤ n ∧ n ≤ 200) ∧ p 0 0 = nI n ∧ y 1 0 = nI n ∧ ∀ i : Nat, i < n → p 1 i = y 3 i ∧ p 2 i = y 5 i ∧ p 3 i = y 4 i ∧ (y 4 i = 0 ∨ y 4 i = 1) ∧ p 4 i = tf (¬ y 6 i < 0) ∧ p 5 i = tf (¬ Hd y i)
def rL1 (n j : Nat) (q y : St) : Prop := ∃ s : Nat, s ≤ 40 ∧ q 2 0 = nI s ∧ y 8 j = nI s ∧ (∀ k : Nat, k < s → ∃ p : Nat, p < n ∧ y 9 (40 * j + k) = nI p ∧ q 0 k = nI p ∧ y 6 p = nI j ∧ y 7 p = nI k) ∧ (∀ k : Nat, k < 41 → q 1 k = y 10 (41 * j + k) ∧ (y 10 (41 * j + k) = 0 ∨ y 10 (41 * j + k) = 1)) ∧ (∀ k : Nat, s < k → k < 41 → y 10 (41 * j + k) = 0) ∧ (∀ k : Nat, k < 41 → (nI k < q 3 0 ↔ ∀ i : Nat, i ≤ k → y 10 (41 * j + i) = 0)) ∧ (∀ k : Nat, k < 41 → (q 4 0 ≤ nI k ↔ ∀ i : Nat, k < i → i < 41 → y 10 (41 * j + i) = 0))
def rLp (n : Nat) (q : Nat → St) (y : St) : Prop := (∀ j : Nat, j < 8 → rL1 n j (q j) y) ∧ ∀ p : Nat, p < n → ¬ y 6 p < 0 → ∃ j k s : Nat, j < 8 ∧ y 6 p = nI j ∧ y 7 p = nI k ∧ y 8 j = nI s ∧ k < s ∧ s ≤ 40 ∧ y 9 (40 * j + k) = nI p
def rEv (e y : St) : Prop := ∃ c nx : Nat, c ≤ 60 ∧ nx < 60 ∧ y 36 0 = nI c ∧ e 4 0 = nI c ∧ e 3 0 = nI nx ∧ ∀ k : Nat, k < c → e 0 ((nx + 59 - k) % 60) = y 37 (c - 1 - k) ∧ e 1 ((nx + 59 - k) % 60) = y 38 (c - 1 - k) ∧ e 2 ((nx + 59 - k) % 60) = y 39 (c - 1 - k)
def rZn (n o : Nat) (z y : St) : Prop := ∀ i : Nat, i < 20 → (y 18 (i + o) = 0 ∧ z 0 i = 0 ∧ z 1 i = 0) ∨ (y 18 (i + o) = 1 ∧ ∃ nd sz : Nat, 1 ≤ nd ∧ nd ≤ 12 ∧ sz ≤ 12 ∧ y 19 (i + o) = nI nd ∧ z 0 i = nI nd ∧ y 20 (i + o) = nI sz ∧ z 1 i = nI sz ∧ ∀ k : Nat, k < sz → ∃ p : Nat, p < n ∧ y 21 (12 * (i + o) + k) = nI p ∧ z 2 (12 * i + k) = nI p)
def rAs (o : Nat) (a y : St) : Prop := ∀ i : Nat, i < 20 → (y 22 (i + o) = 0 ∧ a 3 i = 0) ∨ (y 22 (i + o) = 1 ∧ a 3 i = 1 ∧ a 4 i = y 26 (i + o) ∧ (y 26 (i + o) = 0 ∨ y 26 (i + o) = 1) ∧ a 0 i = y 23 (i + o) ∧ a 1 i = y 24 (i + o) ∧ a 2 i = y 25 (i + o))
def rAd (a y : St) : Prop := ∀ i : Nat, i < 20 → (y 22 i = 0 → a 7 i = 0) ∧ (y 22 i = 1 → a 7 i = y 32 i ∧ ((y 32 i = 1 ∧ a 8 i = y 33 i ∧ a 9 i = y 34 i ∧ a 10 i = y 35 i) ∨ ((y 32 i = 0 ∨ y 32 i = 2) ∧ y 33 i = -1 ∧ y 34 i = 0 ∧ y 35 i = 0)))
def so (y : St) (o b a : Nat) : Prop := y 24 (a + o) < y 24 (b + o) ∨ (y 24 (b + o) = y 24 (a + o) ∧ b < a)
def rOr (o : Nat) (a y : St) : Prop := ∃ (c : Nat) (g : Nat → Nat), c ≤ 20 ∧ a 6 0 = nI c ∧ (∀ k : Nat, k < c → g k < 20 ∧ a 5 k = nI (g k) ∧ y 22 (g k + o) = 1) ∧ (∀ r s : Nat, r < s → s < c → so y o (g r) (g s)) ∧ (∀ b : Nat, b < 20 → y 22 (b + o) = 1 → ∃ k : Nat, k < c ∧ g k = b)
def rRw (f o z : Nat) (pl y : St) : Prop := ∃ r : Nat, r ≤ 50 ∧ pl 5 0 = nI r ∧ y f 0 = nI r ∧ ∀ k : Nat, k < r → ∃ u b : Nat, u < 20 ∧ b < 20 ∧ y 29 (k + o) = nI u ∧ pl 2 k = nI u ∧ y 18 (u + z) = 1 ∧ y 31 (k + o) = nI b ∧ pl 4 k = nI b ∧ ((y 30 (k + o) = -1 ∧ pl 3 k = -1) ∨ ∃ v : Nat, v < 20 ∧ y 30 (k + o) = nI v ∧ pl 3 k = nI v ∧ y 18 (v + z) = 1)
def rNw (w y : St) : Prop := ∃ t : Nat, t ≤ 20000 ∧ w 6 0 = nI t ∧ y 2 0 = nI t
def Rel (x : Nat → St) (n : Nat) (y : St) : Prop := rTx (x 1) y ∧ rPt n (x 2) y ∧ rLp n (fun j => x (10 + j)) y ∧ rEv (x 4) y ∧ rZn n 0 (x 6) y ∧ rAs 0 (x 7) y ∧ rAd (x 7) y ∧ rOr 0 (x 7) y ∧ rRw 27 0 0 (x 5) y ∧ rNw (x 0) y
theorem Rel_code {x : Nat → St} {n : Nat} {y : St} {v : Int32} (h : Rel x n y) : Rel x n (sc y 0 v) := h
theorem Rel_ref {x : Nat → St} {n : Nat} {y : St} {v : Int32} (k : Nat) (h : Rel x n y) : Rel (up x k (x k)) n (sc y 0 v) := by
  rw [up_self]; exact h
theorem Lp_up {x : Nat → St} {n k : Nat} {y z : St} (h : rLp n (fun j => x (10 + j)) y) (hk : k < 10 ∨ 17 < k) : rLp n (fun j => up x k z (10 + j)) y := by
  obtain ⟨h1, h2⟩ := h
  refine ⟨fun j hj => ?_, h2⟩
  show rL1 n j (up x k z (10 + j)) y
  rw [up_n (by omega)]; exact h1 j hj
theorem Rel_mk2 {x : Nat → St} {n j : Nat} {y p q : St} (hT : rTx (x 1) y) (hP : rPt n p y) (hL : rLp n (fun i => up (up x 2 p) (10 + j) q (10 + i)) y) (hE : rEv (x 4) y) (hZ : rZn n 0 (x 6) y) (hA : rAs 0 (x 7) y) (hB : rAd (x 7) y) (hO : rOr 0 (x 7) y) (hW : rRw 27 0 0 (x 5) y) (hN : rNw (x 0) y) : Rel (up (up x 2 p) (10 + j) q) n y := by
  unfold Rel
  rw [up_n (show 1 ≠ 10 + j by omega), up_n (show 1 ≠ 2 by omega), up_n (show 2 ≠ 10 + j by omega), up_e, up_n (show 4 ≠ 10 + j by omega), up_n (show 4 ≠ 2 by omega), up_n (show 6 ≠ 10 + j by omega), up_n (show 6 ≠ 2 by omega), up_n (show 7 ≠ 10 + j by omega), up_n (show 7 ≠ 2 by omega), up_n (show 5 ≠ 10 + j by omega), up_n (show 5 ≠ 2 by omega), up_n (show 0 ≠ 10 + j by omega), up_n (show 0 ≠ 2 by omega)]
  exact ⟨hT, hP, hL, hE, hZ, hA, hB, hO, hW, hN⟩
theorem flI_lt {f : Nat → Int32} {n i : Nat} {v : Int32} (h : i < n) : flI f n v i = v := by
  unfold flI
  rw [show Nat.blt i n = true from by rw [Nat.blt_eq]; exact h]; rfl
theorem upd_c {f g : Nat → Int32} {i k : Nat} {v : Int32} (h : f k = g k) : upd f i v k = upd g i v k := by
  by_cases e : k = i
  · subst e; rw [upd_e, upd_e]
  · rw [upd_n e, upd_n e]; exact h
-- the beginning
theorem Rel_init (n : Nat) (h1 : 1 ≤ n) (h2 : n ≤ 200) : Rel (xI n) n (yI (nI n)) := by
  have h6 : ∀ i : Nat, i < 200 → (yI (nI n)) 6 i < 0 := by
    intro i hi
    have e : (yI (nI n)) 6 i = -1 := flI_lt (f := fun _ => 0) hi
    rw [e]; decide
  refine ⟨⟨0, by omega, rfl, rfl, fun i hi => by omega⟩, ⟨⟨h1, h2⟩, rfl, rfl, fun i hi => ⟨rfl, rfl, rfl, Or.inl rfl, ?_, ?_⟩⟩, ⟨fun j hj => ?_, fun p hp hc => absurd (h6 p (by omega)) hc⟩, ⟨0, 0, by omega, by omega, rfl, rfl, rfl, fun k hk => by omega⟩, fun i hi => Or.inl ⟨rfl, rfl, rfl⟩, fun i hi => Or.inl ⟨rfl, rfl⟩, fun i hi => ⟨fun _ => rfl, fun h => absurd h.symm n10⟩, ⟨0, fun _ => 0, by omega, rfl, fun k hk => by omega, fun r s _ hs => by omega, fun b hb h => absurd h.symm n10⟩, ⟨0, by omega, rfl, rfl, fun k hk => by omega⟩, ⟨0, by omega, rfl, rfl⟩⟩
  · exact (tf_n (fun z => z (h6 i (by omega)))).symm
  · exact (tf_n (fun z => z (Or.inl (h6 i (by omega))))).symm
  · have e : xI n (10 + j) = sc (sc z0 3 41) 4 (-1) := by
      rcases (show j = 0 ∨ j = 1 ∨ j = 2 ∨ j = 3 ∨ j = 4 ∨ j = 5 ∨ j = 6 ∨ j = 7 by omega) with e | e | e | e | e | e | e | e <;> subst e <;> rfl
    show rL1 n j (xI n (10 + j)) (yI (nI n))
    rw [e]
    refine ⟨0, by omega, rfl, rfl, fun k hk => by omega, fun k hk => ⟨rfl, Or.inl rfl⟩, fun k _ _ => rfl, fun k hk => ⟨fun _ _ _ => rfl, fun _ => ?_⟩, fun k hk => ⟨fun _ _ _ _ => rfl, fun _ => ?_⟩⟩
    · exact (nI_ltI (b := 41) (by omega) (by omega)).mpr hk
    · exact (nm_6 (n := k) (by omega)).mpr trivial
-- points
abbrev isP (n : Nat) (a : Int32) : Prop := ∃ i : Nat, i < n ∧ a = nI i
theorem p_isPoint {n : Nat} {p y : St} (hP : rPt n p y) (F : Nat) (a : Int32) : rT (m_Points_isPoint F p n a) (fun r => r = tf (isP n a)) := by
  obtain ⟨⟨h1, h2⟩, h3, h4, h5⟩ := hP
  unfold m_Points_isPoint
  rw [h3, show (nI n - 1 : Int32) = nI (n - 1) from pk_sub (b := 1) h1]
  refine rT_bn1 (p_withinN F a (n - 1) (by omega)) (fun r e => ?_)
  subst e
  refine rT_ckb (tf_b _) (rT_some (tf_c ⟨?_, ?_⟩))
  · rintro ⟨i, hi, e⟩; exact ⟨i, by omega, e⟩
  · rintro ⟨i, hi, e⟩; exact ⟨i, by omega, e⟩
theorem q_isPoint {n : Nat} {p y : St} (hP : rPt n p y) (F : Nat) (a : Int32) : rT (m_MD_isPoint F y a) (fun r => r = tf (isP n a)) := by
  obtain ⟨⟨h1, h2⟩, h3, h4, h5⟩ := hP
  have hr := rg (a := a) (m := n) (by omega)
  unfold m_MD_isPoint
  rw [h4]
  refine rT_if (fun c => rT_some (tf_n (fun z => (hr.mp z).1 c)).symm) (fun c => rT_if (fun d => rT_some (tf_n (fun z => (hr.mp z).2 d)).symm) (fun d => rT_some (tf_p (hr.mpr ⟨c, d⟩)).symm))
theorem e_swapValue {F n i : Nat} {p : St} {v : Int32} (hi : i < n) (hn : n ≤ 200) : m_Points_swapValue F p n (nI i) v = some (p 1 i, st p 1 (upd (p 1) i v)) := by
  unfold m_Points_swapValue
  rw [ck_in (vin hi), ck_in (vin hi), nI_clamp (by omega)]; rfl
theorem e_swapUntil {F n i : Nat} {p : St} {v : Int32} (hi : i < n) (hn : n ≤ 200) : m_Points_swapUntil F p n (nI i) v = some (p 2 i, st p 2 (upd (p 2) i v)) := by
  unfold m_Points_swapUntil
  rw [ck_in (vin hi), ck_in (vin hi), nI_clamp (by omega)]; rfl
theorem e_swapFaulty {F n i : Nat} {p : St} {v : Int32} (hi : i < n) (hn : n ≤ 200) (hb : p 3 i = 0 ∨ p 3 i = 1) : m_Points_swapFaulty F p n (nI i) v = some (p 3 i, st p 3 (upd (p 3) i (vp_nar .boolean v))) := by
  refine rT_get ?_
  unfold m_Points_swapFaulty
  rw [nI_clamp (by omega)]
  exact rT_ck (vin hi) (rT_ck (vin hi) (rT_lz (rT_ckb hb (rT_some rfl))))
theorem s_signal (F : Nat) : sim_signal F Rel := by
  intro x n y a1 a2 hR
  have hR0 := hR
  obtain ⟨hT, hP, hL, hE, hZ, hA, hB, hO, hW, hN⟩ := hR
  have hP0 := hP
  obtain ⟨⟨hn1, hn2⟩, hp0, hy1, hpt⟩ := hP
  refine r2_l ?_
  unfold m_AM_signal m_MD_signal
  refine bz (p_isPoint hP0 F a1) (fun hc => rT_some ?_) (fun hc => ?_)
  · refine bz (q_isPoint hP0 F a1) (fun hd => ?_) (fun hd => absurd hd hc)
    exact go0 (rT_i0 (rT_some ⟨Or.inr rfl, rfl, fun h => absurd h (Nat.succ_ne_zero _), Rel_ref 2 hR0⟩))
  obtain ⟨i, hi, rfl⟩ := hc
  refine bz (p_within F a2 0 100) (fun hv => rT_some ?_) (fun hv => ?_)
  · refine bz (q_isPoint hP0 F (nI i)) (fun hd => absurd ⟨i, hi, rfl⟩ hd) (fun hd => ?_)
    refine rT_if (fun c => ?_) (fun c => rT_if (fun d => ?_) (fun d => absurd ⟨c, d⟩ hv))
    · exact go0 (rT_i0 (rT_some ⟨Or.inr rfl, rfl, fun h => absurd h (Nat.succ_ne_zero _), Rel_ref 2 hR0⟩))
    · exact go0 (rT_i0 (rT_some ⟨Or.inr rfl, rfl, fun h => absurd h (Nat.succ_ne_zero _), Rel_ref 2 hR0⟩))
  refine rT_e2 (e_swapValue hi hn2) (rT_some ?_)
  refine bz (q_isPoint hP0 F (nI i)) (fun hd => absurd ⟨i, hi, rfl⟩ hd) (fun hd => ?_)
  refine rT_in hv.1 (rT_in hv.2 (go1 (rT_i1 (rT_ck (vin (by omega)) (rT_ck (vin (by omega)) (rT_lz (rT_some ?_)))))))
  rw [nI_clamp (by omega)]
  refine ⟨Or.inl rfl, rfl, fun _ => (hpt i hi).1, hT, ⟨⟨hn1, hn2⟩, hp0, hy1, fun k hk => ?_⟩, Lp_up hL (by omega), hE, hZ, hA, hB, hO, hW, hN⟩
  obtain ⟨g1, g2, g3, g4, g5, g6⟩ := hpt k hk
  exact ⟨upd_c g1, g2, g3, g4, g5, g6⟩
theorem s_disable (F : Nat) : sim_disable F Rel := by
  intro x n y a1 a2 hR
  have hR0 := hR
  obtain ⟨hT, hP, hL, hE, hZ, hA, hB, hO, hW, hN⟩ := hR
  have hP0 := hP
  obtain ⟨⟨hn1, hn2⟩, hp0, hy1, hpt⟩ := hP
  refine r2_l ?_
  unfold m_AM_disable m_MD_disable
  refine bz (p_isPoint hP0 F a1) (fun hc => rT_some ?_) (fun hc => ?_)
  · refine bz (q_isPoint hP0 F a1) (fun hd => ?_) (fun hd => absurd hd hc)
    exact go0 (rT_i0 (rT_some ⟨Or.inr rfl, rfl, fun h => absurd h (Nat.succ_ne_zero _), Rel_ref 2 hR0⟩))
  obtain ⟨i, hi, rfl⟩ := hc
  refine bz (p_within F a2 0 1000000) (fun hv => rT_some ?_) (fun hv => ?_)
  · refine bz (q_isPoint hP0 F (nI i)) (fun hd => absurd ⟨i, hi, rfl⟩ hd) (fun hd => ?_)
    refine rT_if (fun c => ?_) (fun c => rT_if (fun d => ?_) (fun d => absurd ⟨c, d⟩ hv))
    · exact go0 (rT_i0 (rT_some ⟨Or.inr rfl, rfl, fun h => absurd h (Nat.succ_ne_zero _), Rel_ref 2 hR0⟩))
    · exact go0 (rT_i0 (rT_some ⟨Or.inr rfl, rfl, fun h => absurd h (Nat.succ_ne_zero _), Rel_ref 2 hR0⟩))
  refine rT_e2 (e_swapUntil hi hn2) (rT_some ?_)
  refine bz (q_isPoint hP0 F (nI i)) (fun hd => absurd ⟨i, hi, rfl⟩ hd) (fun hd => ?_)
  refine rT_in hv.1 (rT_in hv.2 (go1 (rT_i1 (rT_ck (vin (by omega)) (rT_ck (vin (by omega)) (rT_lz (rT_some ?_)))))))
  rw [nI_clamp (by omega)]
  refine ⟨Or.inl rfl, rfl, fun _ => (hpt i hi).2.1, hT, ⟨⟨hn1, hn2⟩, hp0, hy1, fun k hk => ?_⟩, Lp_up hL (by omega), hE, hZ, hA, hB, hO, hW, hN⟩
  obtain ⟨g1, g2, g3, g4, g5, g6⟩ := hpt k hk
  exact ⟨g1, upd_c g2, g3, g4, g5, g6⟩
theorem s_fault (F : Nat) : sim_fault F Rel := by
  intro x n y a1 a2 hR
  have hR0 := hR
  obtain ⟨hT, hP, hL, hE, hZ, hA, hB, hO, hW, hN⟩ := hR
  have hP0 := hP
  obtain ⟨⟨hn1, hn2⟩, hp0, hy1, hpt⟩ := hP
  refine r2_l ?_
  unfold m_AM_fault m_MD_fault
  refine bz (p_isPoint hP0 F a1) (fun hc => rT_some ?_) (fun hc => ?_)
  · refine bt (q_isPoint hP0 F a1) (fun hd => ?_) (fun hd => absurd hd hc)
    exact go0 (rT_i0 (rT_some ⟨Or.inr rfl, rfl, fun h => absurd h (Nat.succ_ne_zero _), Rel_ref 2 hR0⟩))
  obtain ⟨i, hi, rfl⟩ := hc
  have hb : x 2 3 i = 0 ∨ x 2 3 i = 1 := by rw [(hpt i hi).2.2.1]; exact (hpt i hi).2.2.2.1
  refine rT_e2 (e_swapFaulty hi hn2 hb) (rT_ckb hb (rT_some ?_))
  refine bt (q_isPoint hP0 F (nI i)) (fun hd => absurd ⟨i, hi, rfl⟩ hd) (fun hd => ?_)
  refine go1 (rT_i1 (rT_ck (vin (by omega)) (rT_ck (vin (by omega)) (rT_lz (rT_ckb ?_ (rT_some ?_))))))
  · rw [nI_clamp (by omega)]; exact (hpt i hi).2.2.2.1
  rw [nI_clamp (by omega)]
  refine ⟨Or.inl rfl, rfl, fun _ => (hpt i hi).2.2.1, hT, ⟨⟨hn1, hn2⟩, hp0, hy1, fun k hk => ?_⟩, Lp_up hL (by omega), hE, hZ, hA, hB, hO, hW, hN⟩
  obtain ⟨g1, g2, g3, g4, g5, g6⟩ := hpt k hk
  refine ⟨g1, g2, upd_c g3, ?_, g5, g6⟩
  show upd (y 4) i (vp_nar .boolean a2) k = 0 ∨ upd (y 4) i (vp_nar .boolean a2) k = 1
  by_cases e : k = i
  · subst e; rw [upd_e]; exact vbo a2
  · rw [upd_n e]; exact g4
theorem s_time (F : Nat) : sim_time F Rel := by
  intro x n y hR
  have hR0 := hR
  obtain ⟨hT, hP, hL, hE, hZ, hA, hB, hO, hW, t, ht, h1, h2⟩ := hR
  exact ⟨_, _, rfl, rfl, h1.trans h2.symm, hR0⟩
-- the text
theorem vch {q : Nat} (h : q < 65536) : vp_nar .char (nI q) = nI q := by
  unfold vp_nar; rw [(pk_charN h).1]
theorem e_put {F L c : Nat} {t : St} (h2 : t 2 0 = nI L) (hL : L < 2000) (hc : c < 65536) : m_Text_put F t (nI c) = some (sc (st t 0 (upd (t 0) L (nI c))) 2 (nI (L + 1))) := by
  unfold m_Text_put
  rw [h2, if_neg (fun z => by have := (nI_leI (a := 2000) (by omega) (by omega)).mp z; omega), ck_in (vin hL), nI_clamp (by omega), vch hc]
  show some (sc (st t 0 (upd (t 0) L (nI c))) 2 (t 2 0 + 1)) = _
  rw [h2]
  exact congrArg (fun v => some (sc (st t 0 (upd (t 0) L (nI c))) 2 v)) (nI_add L 1)
theorem e_putF {F L : Nat} {t : St} {v : Int32} (h2 : t 2 0 = nI L) (hL : 2000 ≤ L) (hL2 : L < 2 ^ 31) : m_Text_put F t v = some (sc t 2 (nI (L + 1))) := by
  unfold m_Text_put
  rw [h2, if_pos (show (2000 : Int32) ≤ _ from (nI_leI (a := 2000) (by omega) (by omega)).mpr hL)]
  exact congrArg (fun v => some (sc t 2 v)) (nI_add L 1)
theorem e_write {F L : Nat} {y : St} {v : Int32} (h2 : y 12 0 = nI L) (hL : L < 2000) : m_MD_write F y v = some (sc (st y 11 (upd (y 11) L v)) 12 (nI (L + 1))) := by
  unfold m_MD_write
  rw [h2, ck_in (vin hL), nI_clamp (by omega)]
  show some (sc (st y 11 (upd (y 11) L v)) 12 (y 12 0 + 1)) = _
  rw [h2]
  exact congrArg (fun w => some (sc (st y 11 (upd (y 11) L v)) 12 w)) (nI_add L 1)
theorem chr {c : Nat} (h : c ≤ 127) : ((nI c).toUInt32 % 65536).toInt32 = nI c := by
  rw [pk_char, pk_tn (by omega), Nat.mod_eq_of_lt (by omega)]
theorem s_unit (F : Nat) : sim_unit F Rel := by
  intro x n y a1 hR
  have hR0 := hR
  obtain ⟨⟨L, hL0, hx2, hy2, hch⟩, hP, hL, hE, hZ, hA, hB, hO, hW, hN⟩ := hR
  refine r2_l ?_
  unfold m_AM_unit m_MD_unit
  refine bz (p_withinN F a1 127 (by omega)) (fun hc => rT_some ?_) (fun hc => ?_)
  · have hz : rT (m_MD_unit_J16 F a1 0 y) (fun b => ((1 : Nat) = 0 ∨ (1 : Nat) = 1 ∨ (1 : Nat) = 2) ∧ b.2 0 0 = nI 1 ∧ ((1 : Nat) = 0 → (0 : Int32) = b.1) ∧ Rel (up x 1 (x 1)) n b.2) := by
      unfold m_MD_unit_J16
      refine rT_if (fun _ => ?_) (fun _ => ?_)
      · exact go0 (rT_i0 (rT_some ⟨Or.inr (Or.inl rfl), rfl, fun h => absurd h (Nat.succ_ne_zero _), Rel_ref 1 hR0⟩))
      · exact go0 (rT_i0 (rT_some ⟨Or.inr (Or.inl rfl), rfl, fun h => absurd h (Nat.succ_ne_zero _), Rel_ref 1 hR0⟩))
    refine rT_if (fun _ => hz) (fun c => rT_if (fun _ => hz) (fun d => ?_))
    refine absurd ?_ hc
    obtain ⟨j, hj, rfl⟩ := nI_of c
    exact ⟨j, Nat.le_of_not_lt (fun q => d ((nI_ltI (a := 127) (by omega) hj).mpr q)), rfl⟩
  obtain ⟨c, hc, rfl⟩ := hc
  have n1 : ¬ nI c < (0 : Int32) := fun q => Nat.not_lt_zero _ ((nI_ltI (b := 0) (by omega) (by omega)).mp q)
  have n2 : ¬ (127 : Int32) < nI c := fun q => by have := (nI_ltI (a := 127) (by omega) (by omega)).mp q; omega
  refine rT_e1 (a := nI L) (show m_Text_size F (x 1) = some (nI L) from congrArg some hx2) ?_
  refine rT_if (fun d => ?_) (fun d => rT_some (rT_in n1 (rT_in n2 ?_)))
  · have hl : L < 2000 := (nI_ltI (b := 2000) (by omega) (by omega)).mp d
    rw [chr hc]
    refine rT_e1 (e_put hx2 hl (by omega)) (rT_e1 rfl (rT_some (rT_in n1 (rT_in n2 ?_))))
    unfold m_MD_unit_J16
    rw [hy2]
    refine rT_in (fun z => by have := (nI_leI (a := 2000) (by omega) (by omega)).mp z; omega) (go1 (rT_i1 ?_))
    refine rT_e1 (e_write (y := sc y 0 0) hy2 hl) (rT_some ⟨Or.inl rfl, rfl, fun _ => rfl, ⟨L + 1, by omega, rfl, rfl, fun i hi => ?_⟩, hP, Lp_up hL (by omega), hE, hZ, hA, hB, hO, hW, hN⟩)
    show upd (x 1 0) L (nI c) i = upd (y 11) L (nI c) i ∧ ∃ c' : Nat, c' ≤ 127 ∧ upd (y 11) L (nI c) i = nI c'
    by_cases e : i = L
    · subst e; rw [upd_e, upd_e]; exact ⟨rfl, c, hc, rfl⟩
    · rw [upd_n e, upd_n e]; exact hch i (by omega)
  · unfold m_MD_unit_J16
    rw [hy2]
    refine rT_ip ((nI_leI (a := 2000) (by omega) (by omega)).mpr (Nat.le_of_not_lt (fun q => d ((nI_ltI (b := 2000) (by omega) (by omega)).mpr q)))) ?_
    exact go2 (rT_i0 (rT_some ⟨Or.inr (Or.inr rfl), rfl, fun h => absurd h (Nat.succ_ne_zero _), Rel_ref 1 hR0⟩))
theorem s_cutText (F : Nat) : sim_cutText F Rel := by
  intro x n y a1 hR
  have hR0 := hR
  obtain ⟨⟨L, hL0, hx2, hy2, hch⟩, hP, hL, hE, hZ, hA, hB, hO, hW, hN⟩ := hR
  refine r2_l ?_
  unfold m_AM_cutText m_MD_cutText
  refine rT_e1 (a := nI L) (show m_Text_size F (x 1) = some (nI L) from congrArg some hx2) ?_
  rw [hy2]
  refine bz (p_withinN F a1 L (by omega)) (fun hc => rT_some ?_) (fun hc => ?_)
  · refine rT_if (fun _ => ?_) (fun c => rT_if (fun _ => ?_) (fun d => absurd ?_ hc))
    · exact go0 (rT_i0 (rT_some ⟨Or.inr rfl, rfl, fun h => absurd h (Nat.succ_ne_zero _), Rel_ref 1 hR0⟩))
    · exact go0 (rT_i0 (rT_some ⟨Or.inr rfl, rfl, fun h => absurd h (Nat.succ_ne_zero _), Rel_ref 1 hR0⟩))
    · obtain ⟨j, hj, rfl⟩ := nI_of c
      exact ⟨j, Nat.le_of_not_lt (fun q => d ((nI_ltI (by omega) hj).mpr q)), rfl⟩
  obtain ⟨c, hc, rfl⟩ := hc
  have n1 : ¬ nI c < (0 : Int32) := fun q => Nat.not_lt_zero _ ((nI_ltI (b := 0) (by omega) (by omega)).mp q)
  have n2 : ¬ nI L < nI c := fun q => by have := (nI_ltI (by omega) (by omega)).mp q; omega
  refine rT_e1 (a := nI L) (show m_Text_size F (x 1) = some (nI L) from congrArg some hx2) ?_
  rw [pk_sub hc]
  refine rT_e1 rfl (rT_e1 rfl (rT_some (rT_in n1 (rT_in n2 (go1 (rT_i1 (rT_lz (rT_some ?_))))))))
  have e9 : (sc y 0 (0 : Int32)) 12 0 - nI c = nI (L - c) := by rw [show (sc y 0 (0 : Int32)) 12 0 = nI L from hy2, pk_sub hc]
  rw [e9]
  refine ⟨Or.inl rfl, rfl, fun _ => rfl, ⟨L - c, by omega, rfl, rfl, fun i hi => hch i (by omega)⟩, hP, Lp_up hL (by omega), hE, hZ, hA, hB, hO, hW, hN⟩

-- LOOPS, CUTS, WHO IS HEARD
theorem tf_nz {P : Prop} {v : Int32} (e : v = tf P) (g : ¬ v = 0) : P := by
  by_cases h : P
  · exact h
  · rw [tf_n h] at e; exact absurd e g
theorem tf_zz {P : Prop} {v : Int32} (e : v = tf P) (g : v = 0) : ¬ P := by
  rw [e] at g; exact tf_0.mp g
theorem p_isLoop (F : Nat) (a : Int32) : rT (m_AM_isLoop F a) (fun r => r = tf (isP 8 a)) := by
  unfold m_AM_isLoop
  refine rT_bn1 (p_withinN F a 7 (by omega)) (fun r e => ?_)
  subst e
  refine rT_ckb (tf_b _) (rT_some (tf_c ⟨?_, ?_⟩))
  · rintro ⟨i, hi, e⟩; exact ⟨i, by omega, e⟩
  · rintro ⟨i, hi, e⟩; exact ⟨i, by omega, e⟩
theorem q_isLoop (F : Nat) (a : Int32) : rT (m_MD_isLoop F a) (fun r => r = tf (isP 8 a)) := by
  have hr := rg (a := a) (m := 8) (by omega)
  unfold m_MD_isLoop
  refine rT_if (fun c => rT_some (tf_n (fun z => (hr.mp z).1 c)).symm) (fun c => rT_if (fun d => rT_some (tf_n (fun z => (hr.mp z).2 d)).symm) (fun d => rT_some (tf_p (hr.mpr ⟨c, d⟩)).symm))
theorem n0 {j : Nat} (h : j < 2 ^ 31) : ¬ nI j < (0 : Int32) := fun q => Nat.not_lt_zero _ ((nI_ltI (b := 0) h (by omega)).mp q)
theorem Hd_at {y : St} {p j k : Nat} (hj : j < 8) (hk : k < 41) (e6 : y 6 p = nI j) (e7 : y 7 p = nI k) : Hd y p ↔ (∀ m : Nat, m ≤ k → y 10 (41 * j + m) = 0) ∨ (∀ m : Nat, k < m → m < 41 → y 10 (41 * j + m) = 0) := by
  unfold Hd
  rw [e6, e7, nI_clamp (by omega), nI_clamp (by omega)]
  exact ⟨fun z => z.elim (fun q => absurd q (n0 (by omega))) id, Or.inr⟩
theorem q_isHeard {F n p : Nat} {y : St} {q : Nat → St} (hF : 100000 ≤ F) (hn : n ≤ 200) (hp : p < n) (hL : rLp n q y) : rT (m_MD_isHeard F y (nI p)) (fun r => r = tf (Hd y p)) := by
  have hp31 : p < 2 ^ 31 := by omega
  unfold m_MD_isHeard
  rw [nI_clamp hp31]
  refine rT_ck (vin (by omega)) (rT_if (fun c => ?_) (fun c => rT_some (tf_p (Or.inl (Int32.not_le.mp c))).symm))
  obtain ⟨j, k, s, hj, e6, e7, e8, hk, hs, e9⟩ := hL.2 p hp (Int32.not_lt.mpr c)
  have hH := Hd_at (y := y) (p := p) hj (show k < 41 by omega) e6 e7
  refine rT_lq3 41 (fun i v2 v3 v4 => v4 = nI i ∧ v2 = tf (∃ m : Nat, m < i ∧ m ≤ k ∧ ¬ y 10 (41 * j + m) = 0) ∧ v3 = tf (∃ m : Nat, m < i ∧ k < m ∧ ¬ y 10 (41 * j + m) = 0)) ?_ F 0 0 0 0 (by omega) (by omega) ⟨rfl, (tf_n (by rintro ⟨m, hm, _⟩; omega)).symm, (tf_n (by rintro ⟨m, hm, _⟩; omega)).symm⟩
  intro i r v2 v3 v4 hi hI hrec
  obtain ⟨e4, e2, e3⟩ := hI
  subst e4
  unfold m_MD_isHeard_B18
  refine rT_if (fun d => ?_) (fun d => ?_)
  · have h41 : i = 41 := by have := (nI_ltI (a := 40) (by omega) (by omega)).mp d; omega
    subst h41
    refine rT_if (fun g => rT_some (tf_p (hH.mpr (Or.inl (fun m hm => ?_)))).symm) (fun g => rT_if (fun g' => rT_some (tf_p (hH.mpr (Or.inr (fun m hm hm' => ?_)))).symm) (fun g' => rT_some (tf_n (fun z => ?_)).symm))
    · by_cases c0 : y 10 (41 * j + m) = 0
      · exact c0
      · exact absurd ⟨m, by omega, hm, c0⟩ (tf_zz e2 g)
    · by_cases c0 : y 10 (41 * j + m) = 0
      · exact c0
      · exact absurd ⟨m, by omega, hm, c0⟩ (tf_zz e3 g')
    · obtain ⟨m1, h1, h2, h3⟩ := tf_nz e2 g
      obtain ⟨m2, g1, g2, g3⟩ := tf_nz e3 g'
      rcases hH.mp z with z | z
      · exact h3 (z m1 h2)
      · exact g3 (z m2 g2 g1)
  have hi' : i < 41 := by
    rcases Nat.lt_or_ge i 41 with q | q
    · exact q
    · exact absurd ((nI_ltI (a := 40) (by omega) (by omega)).mpr q) d
  have ei : ((41 : Int32) * nI j + nI i) = nI (41 * j + i) := by
    rw [show (41 : Int32) = nI 41 from rfl, pk_mul, nI_add]
  have e1 : (nI i + 1 : Int32) = nI (i + 1) := nI_add i 1
  rw [nI_clamp hp31, e6, e7, ei, nI_clamp (by omega)]
  have hJ : ∀ (K : Int32 → Int32 → Int32 → Option Int32) (s0 : Int32), s0 = tf (∃ m : Nat, m < i + 1 ∧ m ≤ k ∧ ¬ y 10 (41 * j + m) = 0) → rT (m_MD_isHeard_J69 F (nI p) y K r v2 v3 (nI i) (y 10 (41 * j + i)) s0) (fun r => r = tf (Hd y p)) := by
    intro K s0 es
    unfold m_MD_isHeard_J69
    rw [nI_clamp hp31, e7, e1]
    refine rT_if (fun g => rT_if (fun g' => hrec _ _ _ hi' ⟨rfl, es, ?_⟩) (fun g' => rT_ck (vin (by omega)) (rT_if (fun g2 => hrec _ _ _ hi' ⟨rfl, es, ?_⟩) (fun g2 => hrec _ _ _ hi' ⟨rfl, es, ?_⟩)))) (fun g => hrec _ _ _ hi' ⟨rfl, es, ?_⟩)
    · refine (tf_n ?_).symm
      rintro ⟨m, hm, hk', hc⟩
      by_cases e : m = i
      · subst e; exact hc g'
      · exact tf_zz e3 g ⟨m, by omega, hk', hc⟩
    · refine (tf_n ?_).symm
      have := (nI_leI (by omega) (by omega)).mp g2
      rintro ⟨m, hm, hk', hc⟩
      exact tf_zz e3 g ⟨m, by omega, hk', hc⟩
    · refine (tf_p ⟨i, by omega, ?_, g'⟩).symm
      exact Nat.lt_of_not_le (fun q => g2 ((nI_leI (by omega) (by omega)).mpr q))
    · obtain ⟨m, hm, hk', hc⟩ := tf_nz e3 g
      exact (tf_p ⟨m, by omega, hk', hc⟩).symm
  refine rT_ck (vin (by omega)) (rT_ck (vin (by omega)) (rT_if (fun g => rT_if (fun g' => hJ _ _ ?_) (fun g' => rT_ck (vin (by omega)) (rT_if (fun g2 => hJ _ _ ?_) (fun g2 => hJ _ _ ?_)))) (fun g => hJ _ _ ?_)))
  · refine (tf_n ?_).symm
    rintro ⟨m, hm, hk', hc⟩
    by_cases e : m = i
    · subst e; exact hc g'
    · exact tf_zz e2 g ⟨m, by omega, hk', hc⟩
  · refine (tf_n ?_).symm
    have := (nI_ltI (by omega) (by omega)).mp g2
    rintro ⟨m, hm, hk', hc⟩
    exact tf_zz e2 g ⟨m, by omega, hk', hc⟩
  · refine (tf_p ⟨i, by omega, ?_, g'⟩).symm
    exact Nat.le_of_not_lt (fun q => g2 ((nI_ltI (by omega) (by omega)).mpr q))
  · obtain ⟨m, hm, hk', hc⟩ := tf_nz e2 g
    exact (tf_p ⟨m, by omega, hk', hc⟩).symm
theorem p_hears {F n j k p : Nat} {q y : St} (hj : j < 8) (h : rL1 n j q y) (hk : k < 41) (e6 : y 6 p = nI j) (e7 : y 7 p = nI k) : rT (m_Loop_hears F q (nI k)) (fun r => r = tf (Hd y p)) := by
  obtain ⟨s, hs, h2, h8, hm, hc, hz, ha, hb⟩ := h
  have hH := Hd_at (y := y) (p := p) hj hk e6 e7
  unfold m_Loop_hears
  refine rT_if (fun g => rT_some (tf_p (hH.mpr (Or.inl ((ha k hk).mp g)))).symm) (fun g => rT_if (fun g' => rT_some (tf_n (fun z => ?_)).symm) (fun g' => rT_some (tf_p (hH.mpr (Or.inr ((hb k hk).mp (Int32.not_lt.mp g'))))).symm))
  rcases hH.mp z with z | z
  · exact g ((ha k hk).mpr z)
  · exact Int32.not_lt.mpr ((hb k hk).mpr z) g'
theorem p_oneIf (F : Nat) (P : Prop) : m_AM_oneIf F (tf P) = some (tf P) := by
  unfold m_AM_oneIf
  by_cases h : P
  · rw [tf_p h, if_neg n10]
  · rw [tf_n h, if_pos rfl]
theorem bI_add {P : Prop} {p : Nat → Prop} {i : Nat} (h : P ↔ p i) : nI (cn p i) + tf P = nI (cn p (i + 1)) := by
  by_cases c : P
  · rw [tf_p c, cn_p (h.mp c)]; exact nI_add _ 1
  · rw [tf_n c, cn_n (fun z => c (h.mpr z))]; exact nI_add _ 0
theorem p_countHeard {F n j : Nat} {q y : St} (hF : 100000 ≤ F) (hn : n ≤ 200) (hj : j < 8) (h : rL1 n j q y) : ∃ s : Nat, y 8 j = nI s ∧ s ≤ 40 ∧ rT (m_Loop_countHeard F q) (fun r => r = nI (cn (fun k => Hd y (y 9 (40 * j + k)).toNatClampNeg) s)) := by
  have h0 := h
  obtain ⟨s, hs, h2, h8, hm, hc, hz, ha, hb⟩ := h
  refine ⟨s, h8, hs, ?_⟩
  unfold m_Loop_countHeard
  refine rT_lq2 s (fun i v1 v2 => v2 = nI i ∧ v1 = nI (cn (fun k => Hd y (y 9 (40 * j + k)).toNatClampNeg) i)) ?_ F 0 0 0 (by omega) (by omega) ⟨rfl, rfl⟩
  intro i r v1 v2 hi hI hrec
  obtain ⟨e2, e1⟩ := hI
  subst e2 e1
  unfold m_Loop_countHeard_B4
  rw [h2]
  refine rT_if (fun g => rT_some ?_) (fun g => ?_)
  · have := (nI_leI (by omega) (by omega)).mp g
    rw [show i = s by omega]
  have hi' : i < s := Nat.lt_of_not_le (fun q => g ((nI_leI (by omega) (by omega)).mpr q))
  obtain ⟨p, hp, e9, eq, e6, e7⟩ := hm i hi'
  refine rT_bn1 (p_hears hj h0 (by omega) e6 e7) (fun r1 er => ?_)
  subst er
  refine rT_e1 (p_oneIf F _) (hrec _ _ hi' ⟨nI_add i 1, bI_add ?_⟩)
  rw [e9, nI_clamp (by omega)]

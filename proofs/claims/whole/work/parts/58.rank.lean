-- RANKS
theorem so_as {y : St} {o a b : Nat} (h : so y o a b) : ¬ so y o b a := by
  intro k
  unfold so at h k
  rw [Int32.lt_iff_toInt_lt] at h k
  rcases h with h | ⟨h1, h2⟩ <;> rcases k with k | ⟨k1, k2⟩
  · omega
  · rw [k1] at h; omega
  · rw [h1] at k; omega
  · omega
theorem so_tot {y : St} {o a b : Nat} (h : a ≠ b) : so y o a b ∨ so y o b a := by
  unfold so
  rcases Int.lt_trichotomy (y 24 (a + o)).toInt (y 24 (b + o)).toInt with q | q | q
  · exact Or.inr (Or.inl (Int32.lt_iff_toInt_lt.mpr q))
  · have e : y 24 (a + o) = y 24 (b + o) := Int32.toInt_inj.mp q
    rcases Nat.lt_or_gt_of_ne h with p | p
    · exact Or.inl (Or.inr ⟨e, p⟩)
    · exact Or.inr (Or.inr ⟨e.symm, p⟩)
  · exact Or.inl (Or.inl (Int32.lt_iff_toInt_lt.mpr q))
theorem so_tr {y : St} {o a b c : Nat} (h : so y o a b) (k : so y o b c) : so y o a c := by
  unfold so at h k ⊢
  rw [Int32.lt_iff_toInt_lt] at h k ⊢
  rcases h with h | ⟨h1, h2⟩ <;> rcases k with k | ⟨k1, k2⟩
  · left; omega
  · left; rw [← k1]; exact h
  · left; rw [h1]; exact k
  · right; exact ⟨h1.trans k1, by omega⟩
noncomputable def Bf (y : St) (a : Nat) : Nat := cn (fun b => ¬ y 22 b = 0 ∧ so y 0 b a) 20
theorem Bf_g {y : St} {c : Nat} {g : Nat → Nat} (hg : ∀ k : Nat, k < c → g k < 20 ∧ y 22 (g k) = 1) (hs : ∀ r s : Nat, r < s → s < c → so y 0 (g r) (g s)) (hall : ∀ b : Nat, b < 20 → ¬ y 22 b = 0 → ∃ k : Nat, k < c ∧ g k = b) {k : Nat} (hk : k < c) : Bf y (g k) = k := by
  have h1 := cn_img (g := g) (n := 20) k (fun r hr => (hg r (by omega)).1) (fun r s hr hs' e => by
    have := hs s r hs' (by omega)
    rw [e] at this
    exact so_as this this)
  unfold Bf
  refine Eq.trans (cn_c (fun d hd => ⟨fun z => ?_, fun z => ?_⟩)) h1
  · obtain ⟨q, hq, e⟩ := hall d hd z.1
    rcases Nat.lt_trichotomy q k with p | p | p
    · exact ⟨q, p, e.symm⟩
    · subst p; rw [e] at z; exact absurd z.2 (so_as z.2)
    · have := hs k q p hq
      rw [e] at this
      exact absurd z.2 (so_as this)
  · obtain ⟨r, hr, e⟩ := z
    subst e
    exact ⟨fun z => n10 ((hg r (by omega)).2.symm.trans z), hs r k hr hk⟩
theorem q_before {R : Type} {F i : Nat} {y : St} {K : Int32 → Int32 → Option R} {P : R → Prop} (hF : 100000 ≤ F) (hi : i < 20) (hK : rT (K (nI (Bf y i)) (nI 20)) P) : rT (lq2 (m_MD_rankedOne_B13 F (nI i) y K) F 0 0) P := by
  refine rT_lq2 20 (fun b v3 v4 => v4 = nI b ∧ v3 = nI (cn (fun b => ¬ y 22 b = 0 ∧ so y 0 b i) b)) ?_ F 0 0 0 (by omega) (by omega) ⟨rfl, rfl⟩
  intro b r v3 v4 hb hI hrec
  obtain ⟨e4, e3⟩ := hI
  subst e4 e3
  unfold m_MD_rankedOne_B13
  refine rT_if (fun g => ?_) (fun g => ?_)
  · have := (nI_leI (a := 20) (by omega) (by omega)).mp g
    have eb : b = 20 := by omega
    subst eb
    exact hK
  have hb' : b < 20 := Nat.lt_of_not_le (fun q => g ((nI_leI (a := 20) (by omega) (by omega)).mpr q))
  have e1 : (nI b + 1 : Int32) = nI (b + 1) := nI_add b 1
  have hJ : ∀ (s0 : Int32), s0 = tf (so y 0 b i) → rT (m_MD_rankedOne_J63 F y K r (nI (cn (fun b => ¬ y 22 b = 0 ∧ so y 0 b i) b)) (nI b) s0) P := by
    intro s0 es
    unfold m_MD_rankedOne_J63
    rw [nI_clamp (by omega), e1]
    refine rT_ck (vin (by omega)) (rT_if (fun c => hrec _ _ hb' ⟨rfl, ?_⟩) (fun c => rT_if (fun d => hrec _ _ hb' ⟨rfl, ?_⟩) (fun d => hrec _ _ hb' ⟨rfl, ?_⟩)))
    · rw [cn_n (fun z => z.1 c)]; exact nI_add _ 0
    · rw [cn_n (fun z => tf_zz es d z.2)]; exact nI_add _ 0
    · rw [cn_p ⟨c, tf_nz es d⟩]; exact nI_add _ 1
  rw [nI_clamp (by omega), nI_clamp (by omega)]
  refine rT_ck (vin (by omega)) (rT_ck (vin (by omega)) (rT_if (fun c => hJ 1 (tf_p (Or.inl c)).symm) (fun c => rT_ck (vin (by omega)) (rT_ck (vin (by omega)) (rT_if (fun d => rT_if (fun e => hJ 0 (tf_n (fun z => ?_)).symm) (fun e => hJ 1 (tf_p (Or.inr ⟨d, ?_⟩)).symm)) (fun d => hJ 0 (tf_n (fun z => ?_)).symm))))))
  · have := (nI_leI (by omega) (by omega)).mp e
    rcases z with z | z
    · exact c z
    · have := z.2; omega
  · rcases z with z | z
    · exact c z
    · exact d z.1
  · exact Nat.lt_of_not_le (fun q => e ((nI_leI (by omega) (by omega)).mpr q))
theorem q_ranked {F p c : Nat} {y : St} {g : Nat → Nat} (hF : 100000 ≤ F) (hp : p < 2 ^ 31) (hg : ∀ k : Nat, k < c → g k < 20 ∧ y 22 (g k) = 1) (hs : ∀ r s : Nat, r < s → s < c → so y 0 (g r) (g s)) (hall : ∀ b : Nat, b < 20 → ¬ y 22 b = 0 → ∃ k : Nat, k < c ∧ g k = b) : rT (m_MD_rankedOne F y (nI p)) (fun r => (p < c ∧ r = nI (g p)) ∨ (c ≤ p ∧ r = -1)) := by
  unfold m_MD_rankedOne
  refine rT_lq1 20 (fun i v => v = nI i ∧ ∀ b : Nat, b < i → ¬ (¬ y 22 b = 0 ∧ Bf y b = p)) ?_ F 0 0 (by omega) (by omega) ⟨rfl, fun b hb => by omega⟩
  intro i r v hi hI hrec
  obtain ⟨ev, hno⟩ := hI
  subst ev
  unfold m_MD_rankedOne_B2
  refine rT_if (fun q => rT_some (Or.inr ⟨?_, rfl⟩)) (fun q => ?_)
  · have := (nI_leI (a := 20) (by omega) (by omega)).mp q
    refine Nat.le_of_not_lt (fun z => ?_)
    have h2 := hg p z
    exact hno (g p) (by omega) ⟨fun w => n10 (h2.2.symm.trans w), Bf_g hg hs hall z⟩
  have hi' : i < 20 := Nat.lt_of_not_le (fun z => q ((nI_leI (a := 20) (by omega) (by omega)).mpr z))
  have hbf : Bf y i ≤ 20 := cn_le _ _
  refine q_before hF hi' ?_
  rw [nI_clamp (by omega)]
  refine rT_ck (vin (by omega)) (rT_if (fun c0 => hrec _ hi' ⟨nI_add i 1, fun b hb => ?_⟩) (fun c0 => rT_if (fun d => rT_some (Or.inl ?_)) (fun d => hrec _ hi' ⟨nI_add i 1, fun b hb => ?_⟩)))
  · by_cases e : b = i
    · subst e; exact fun z => z.1 c0
    · exact hno b (by omega)
  · obtain ⟨k, hk, e⟩ := hall i hi' c0
    have h3 := Bf_g hg hs hall hk
    rw [e] at h3
    have h4 := (nI_eq (by omega) hp).mp d
    have ek : k = p := by omega
    subst ek
    exact ⟨hk, by rw [e]⟩
  · by_cases e : b = i
    · subst e
      intro z
      exact d (by rw [z.2])
    · exact hno b (by omega)
theorem or_hyps {a y : St} (hA : rAs 0 a y) (hO : rOr 0 a y) : ∃ (c : Nat) (g : Nat → Nat), c ≤ 20 ∧ a 6 0 = nI c ∧ (∀ k : Nat, k < c → a 5 k = nI (g k)) ∧ (∀ k : Nat, k < c → g k < 20 ∧ y 22 (g k) = 1) ∧ (∀ r s : Nat, r < s → s < c → so y 0 (g r) (g s)) ∧ (∀ b : Nat, b < 20 → ¬ y 22 b = 0 → ∃ k : Nat, k < c ∧ g k = b) := by
  obtain ⟨c, g, h1, h2, h3, h4, h5⟩ := hO
  refine ⟨c, g, h1, h2, fun k hk => (h3 k hk).2.1, fun k hk => ⟨(h3 k hk).1, (h3 k hk).2.2⟩, h4, fun b hb hn => ?_⟩
  rcases hA b hb with ⟨e, _⟩ | ⟨e, _⟩
  · exact absurd e hn
  · exact h5 b hb e
theorem s_ranked (F : Nat) (hF : 100000 ≤ F) : sim_ranked F Rel := by
  intro x n y a1 hR
  have hR0 := hR
  obtain ⟨hT, hP, hL, hE, hZ, hA, hB, hO, hW, hN⟩ := hR
  obtain ⟨c, g, hc20, a6, a5, hg, hs, hall⟩ := or_hyps hA hO
  refine r2_l ?_
  unfold m_AM_ranked m_MD_ranked
  refine rT_if (fun q => ?_) (fun q => rT_some (rT_ip (Int32.not_le.mp q) (go0 (rT_i0 (rT_some ⟨Or.inr rfl, rfl, fun h => absurd h (Nat.succ_ne_zero _), Rel_code hR0⟩)))))
  have q0 := Int32.not_lt.mpr q
  obtain ⟨p, hp, rfl⟩ := nI_of q0
  have hq : rT (m_MD_rankedOne F (sc y 0 0) (nI p)) (fun r => (p < c ∧ r = nI (g p)) ∨ (c ≤ p ∧ r = -1)) := q_ranked hF hp hg hs hall
  have hcl : rT (m_Acts_findRanked F (x 7) (nI p)) (fun r => (p < c ∧ r = nI (g p)) ∨ (c ≤ p ∧ r = -1)) := by
    unfold m_Acts_findRanked
    rw [a6]
    refine bz (p_withinP F (nI p) c (by omega)) (fun d => rT_some (Or.inr ⟨?_, rfl⟩)) (fun d => ?_)
    · exact Nat.le_of_not_lt (fun z => d ⟨p, z, rfl⟩)
    · obtain ⟨i, hi, e⟩ := d
      have ei : p = i := (nI_eq hp (by omega)).mp e
      subst ei
      rw [nI_clamp hp, a5 p hi]
      exact rT_ck (vin (by omega)) (rT_some (Or.inl ⟨hi, rfl⟩))
  refine rT_bn1 hcl (fun r hr => rT_some (rT_in q0 (go1 (rT_i1 (rT_bn1 hq (fun r' hr' => rT_some ⟨Or.inl rfl, rfl, fun _ => ?_, Rel_code hR0⟩))))))
  show r = r'
  rcases hr with ⟨h1, e1⟩ | ⟨h1, e1⟩ <;> rcases hr' with ⟨h2, e2⟩ | ⟨h2, e2⟩
  · rw [e1, e2]
  · omega
  · omega
  · rw [e1, e2]

theorem pair_e {F w : Nat} {t t1 t2 : St} {v : Int32} (h1 : m_Text_putWord F t w = some t1) (h2 : m_Text_putNumber F t1 v = some t2) : m_Text_putPair F t w v = some t2 := by
  refine rT_get ?_
  unfold m_Text_putPair
  exact rT_e1 h1 (rT_e1 h2 (rT_some rfl))
theorem stop_e {F : Nat} {y y1 y2 : St} (h1 : m_MD_letter F y (nI 59) = some y1) (h2 : m_MD_letter F y1 32 = some y2) : m_MD_stop F y = some y2 := by
  refine rT_get ?_
  unfold m_MD_stop
  exact rT_e1 h1 (rT_e1 h2 (rT_some rfl))
abbrev Sd (a : Int32) : Prop := ∃ i : Nat, i ≤ 9999 ∧ a = nI i
def okS (a1 a2 a3 a4 a5 : Int32) : Prop := (a1 = 0 ∧ Sd a2 ∧ Sd a3 ∧ Sd a4 ∧ ¬ a5 < 1 ∧ ¬ 12 < a5) ∨ (a1 = 1 ∧ Sd a2 ∧ Sd a3 ∧ Sd a4 ∧ Sd a5) ∨ (a1 = 2 ∧ Sd a2 ∧ Sd a3) ∨ (a1 = 3 ∧ Sd a2 ∧ Sd a3 ∧ Sd a4) ∨ (a1 = 4 ∧ Sd a2)
theorem ln26 : lnS 26 = 1 := by decide +kernel
theorem ch26 : chS 26 0 = nI 59 := by decide +kernel
theorem ln24 : lnS 24 = 1 := by decide +kernel
theorem ch24 : chS 24 0 = nI 38 := by decide +kernel
theorem sb_sent {F L0 : Nat} {t0 y0 t y x0 : St} {a1 a2 a3 a4 a5 : Int32} (hF : 100000 ≤ F) (ok : okS a1 a2 a3 a4 a5) (h : SB L0 0 t0 y0 t y) (hL : L0 ≤ 2000) : ∃ (t' y' : St) (k : Nat), k ≤ 150 ∧ m_AM_putSentence F x0 t a1 a2 a3 a4 a5 = some t' ∧ m_MD_sentence F y a1 a2 a3 a4 a5 = some y' ∧ SB L0 k t0 y0 t' y' := by
  rcases ok with ⟨e1, ⟨a, ha, rfl⟩, ⟨b, hb, rfl⟩, ⟨c, hc, rfl⟩, hd1, hd2⟩ | ⟨e1, ⟨a, ha, rfl⟩, ⟨b, hb, rfl⟩, ⟨c, hc, rfl⟩, ⟨d, hd, rfl⟩⟩ | ⟨e1, ⟨a, ha, rfl⟩, ⟨b, hb, rfl⟩⟩ | ⟨e1, ⟨a, ha, rfl⟩, ⟨b, hb, rfl⟩, ⟨c, hc, rfl⟩⟩ | ⟨e1, ⟨a, ha, rfl⟩⟩
  · subst e1
    have h0 : ¬ a5 < 0 := by
      intro z
      apply hd1
      rw [Int32.lt_iff_toInt_lt] at z ⊢
      have e0 : (0 : Int32).toInt = 0 := by decide
      have e1 : (1 : Int32).toInt = 1 := by decide
      omega
    obtain ⟨d, hd, rfl⟩ := nI_of h0
    have hd12 : d ≤ 12 := Nat.le_of_not_lt (fun z => hd2 ((nI_ltI (a := 12) (by omega) hd).mpr z))
    obtain ⟨t1, y1, k1, p1, q1, r1, s1⟩ := sb_word (F := F) hF w15 (by omega) h hL (by omega)
    obtain ⟨t2, y2, k2, p2, q2, r2', s2⟩ := sb_num (F := F) (v := a) hF (by omega) s1 hL (by omega)
    obtain ⟨t3, y3, k3, p3, q3, r3, s3⟩ := sb_word (F := F) hF w16 (by omega) s2 hL (by omega)
    obtain ⟨t4, y4, k4, p4, q4, r4, s4⟩ := sb_num (F := F) (v := b) hF (by omega) s3 hL (by omega)
    obtain ⟨t5, y5, k5, p5, q5, r5, s5⟩ := sb_word (F := F) hF w17 (by omega) s4 hL (by omega)
    have hJ : r2 (lq2 (m_AM_putSentence_B64 F (nI d) (nI c) (fun v6_64 y1_64 => (bn1 (m_Text_putWord F y1_64 26) (fun z1_221 => (some z1_221))))) F (0 : Int32) t5) (lq2 (m_MD_sentence_B66 F (nI d) (nI c) (fun v6_66 y0_66 => (bn1 (m_MD_stop F y0_66) (fun z0_188 => (some z0_188))))) F (0 : Int32) y5) (fun t' y' => ∃ k : Nat, k ≤ 150 ∧ SB L0 k t0 y0 t' y') := by
      refine rT_J (A := Int32 × St) (B := Int32 × St) (r := fun k A => lq2 (m_AM_putSentence_B64 F (nI d) (nI c) (fun v6_64 y1_64 => (bn1 (m_Text_putWord F y1_64 26) (fun z1_221 => (some z1_221))))) k A.1 A.2) (s := fun k B => lq2 (m_MD_sentence_B66 F (nI d) (nI c) (fun v6_66 y0_66 => (bn1 (m_MD_stop F y0_66) (fun z0_188 => (some z0_188))))) k B.1 B.2) d (fun i A B => A.1 = nI i ∧ B.1 = nI i ∧ ∃ m : Nat, m ≤ 30 + 6 * i ∧ SB L0 m t0 y0 A.2 B.2) ?_ F F 0 (0, t5) (0, y5) (by omega) (by omega) (by omega) ⟨rfl, rfl, _, by omega, s5⟩
      intro i m1 m2 A B hi hI hrec
      obtain ⟨v, z⟩ := A
      obtain ⟨u, w⟩ := B
      dsimp only at hI
      obtain ⟨i1, i2, m, hm, hs⟩ := hI
      have i1 : v = nI i := i1
      have i2 : u = nI i := i2
      have hs : SB L0 m t0 y0 z w := hs
      subst i1 i2
      show r2 (m_AM_putSentence_B64 F (nI d) (nI c) _ (lq2 _ m1) (nI i) z) (m_MD_sentence_B66 F (nI d) (nI c) _ (lq2 _ m2) (nI i) w) _
      rw [m_AM_putSentence_B64, m_MD_sentence_B66]
      by_cases hid : i < d
      · have hn : ¬ nI d ≤ nI i := fun q => by have := (nI_leI (by omega) (by omega)).mp q; omega
        obtain ⟨t6, y6, k6, p6, q6, r6, s6⟩ := sb_num (F := F) (v := c + i) hF (by omega) hs hL (by omega)
        rw [nI_add, show (nI i + 1 : Int32) = nI (i + 1) from nI_add i 1]
        refine r2_l (rT_in hn (rT_e1 q6 (r2_tl (r2_r (rT_in hn (rT_e1 r6 ?_))))))
        exact r2_tr (hrec (nI (i + 1), t6) (nI (i + 1), y6) hid ⟨rfl, rfl, _, by omega, s6⟩)
      · have hn : nI d ≤ nI i := (nI_leI (by omega) (by omega)).mpr (by omega)
        obtain ⟨t6, y6, y7, q6, r6, r7, s6⟩ := sb_one (F := F) hF ln26 ch26 (by omega) hs hL (by omega)
        exact r2_l (rT_ip hn (rT_e1 q6 (rT_some (rT_ip hn (rT_e1 (stop_e r6 r7) (rT_some ⟨_, by omega, s6⟩))))))
    obtain ⟨t6, y6, q6, r6, k, hk, s6⟩ := hJ
    refine ⟨t6, y6, k, hk, rT_get ?_, rT_get ?_, s6⟩
    · unfold m_AM_putSentence
      exact rT_i0 (rT_e1 (pair_e q1 q2) (rT_e1 (pair_e q3 q4) (rT_e1 q5 (rT_eq q6 rfl))))
    · unfold m_MD_sentence m_MD_sentence_J33
      exact rT_i0 (rT_e1 r1 (rT_e1 r2' (rT_i0 (rT_e1 r3 (rT_e1 r4 (rT_e1 r5 (rT_eq r6 rfl)))))))
  · subst e1
    obtain ⟨t1, y1, k1, p1, q1, r1, s1⟩ := sb_word (F := F) hF w18 (by omega) h hL (by omega)
    obtain ⟨t2, y2, k2, p2, q2, r2', s2⟩ := sb_num (F := F) (v := a) hF (by omega) s1 hL (by omega)
    obtain ⟨t3, y3, k3, p3, q3, r3, s3⟩ := sb_word (F := F) hF w19 (by omega) s2 hL (by omega)
    obtain ⟨t4, y4, k4, p4, q4, r4, s4⟩ := sb_num (F := F) (v := b) hF (by omega) s3 hL (by omega)
    obtain ⟨t5, y5, k5, p5, q5, r5, s5⟩ := sb_word (F := F) hF w20 (by omega) s4 hL (by omega)
    obtain ⟨t6, y6, k6, p6, q6, r6, s6⟩ := sb_num (F := F) (v := c) hF (by omega) s5 hL (by omega)
    obtain ⟨t7, y7, k7, p7, q7, r7, s7⟩ := sb_word (F := F) hF w21 (by omega) s6 hL (by omega)
    obtain ⟨t8, y8, k8, p8, q8, r8, s8⟩ := sb_num (F := F) (v := d) hF (by omega) s7 hL (by omega)
    obtain ⟨t9, y9, y10, q9, r9, r10, s9⟩ := sb_one (F := F) hF ln26 ch26 (by omega) s8 hL (by omega)
    refine ⟨t9, y10, _, by omega, rT_get ?_, rT_get ?_, s9⟩
    · unfold m_AM_putSentence
      exact rT_i1 (rT_ip rfl (rT_e1 (pair_e q1 q2) (rT_e1 (pair_e q3 q4) (rT_e1 (pair_e q5 q6) (rT_e1 (pair_e q7 q8) (rT_e1 q9 (rT_some rfl)))))))
    · unfold m_MD_sentence m_MD_sentence_J33
      exact rT_i1 (rT_ip rfl (rT_e1 r1 (rT_e1 r2' (rT_i1 (rT_ip rfl (rT_e1 r3 (rT_e1 r4 (rT_e1 r5 (rT_e1 r6 (rT_e1 r7 (rT_e1 r8 (rT_e1 (stop_e r9 r10) (rT_some rfl)))))))))))))
  · subst e1
    obtain ⟨t1, y1, k1, p1, q1, r1, s1⟩ := sb_word (F := F) hF w22 (by omega) h hL (by omega)
    obtain ⟨t2, y2, k2, p2, q2, r2', s2⟩ := sb_num (F := F) (v := a) hF (by omega) s1 hL (by omega)
    obtain ⟨t3, y3, k3, p3, q3, r3, s3⟩ := sb_word (F := F) hF w23 (by omega) s2 hL (by omega)
    obtain ⟨t4, y4, k4, p4, q4, r4, s4⟩ := sb_num (F := F) (v := b) hF (by omega) s3 hL (by omega)
    obtain ⟨t9, y9, y10, q9, r9, r10, s9⟩ := sb_one (F := F) hF ln26 ch26 (by omega) s4 hL (by omega)
    refine ⟨t9, y10, _, by omega, rT_get ?_, rT_get ?_, s9⟩
    · unfold m_AM_putSentence
      exact rT_in n20 (rT_in n21 (rT_ip rfl (rT_e1 (pair_e q1 q2) (rT_e1 (pair_e q3 q4) (rT_e1 q9 (rT_some rfl))))))
    · unfold m_MD_sentence m_MD_sentence_J33
      exact rT_in n20 (rT_in n21 (rT_in (by decide) (rT_e1 r1 (rT_e1 r2' (rT_in n20 (rT_in n21 (rT_ip rfl (rT_in (by decide) (rT_e1 r3 (rT_ip rfl (rT_e1 r4 (rT_e1 (stop_e r9 r10) (rT_some rfl)))))))))))))
  · subst e1
    obtain ⟨t1, y1, k1, p1, q1, r1, s1⟩ := sb_word (F := F) hF w22 (by omega) h hL (by omega)
    obtain ⟨t2, y2, k2, p2, q2, r2', s2⟩ := sb_num (F := F) (v := a) hF (by omega) s1 hL (by omega)
    obtain ⟨t3, y3, y3', q3, r3, r3', s3⟩ := sb_one (F := F) hF ln24 ch24 (by omega) s2 hL (by omega)
    obtain ⟨t4, y4, k4, p4, q4, r4, s4⟩ := sb_num (F := F) (v := b) hF (by omega) s3 hL (by omega)
    obtain ⟨t5, y5, k5, p5, q5, r5, s5⟩ := sb_word (F := F) hF w23 (by omega) s4 hL (by omega)
    obtain ⟨t6, y6, k6, p6, q6, r6, s6⟩ := sb_num (F := F) (v := c) hF (by omega) s5 hL (by omega)
    obtain ⟨t9, y9, y10, q9, r9, r10, s9⟩ := sb_one (F := F) hF ln26 ch26 (by omega) s6 hL (by omega)
    refine ⟨t9, y10, _, by omega, rT_get ?_, rT_get ?_, s9⟩
    · unfold m_AM_putSentence
      exact rT_in (by decide) (rT_in (by decide) (rT_in (by decide) (rT_ip rfl (rT_e1 (pair_e q1 q2) (rT_e1 (pair_e q3 q4) (rT_e1 (pair_e q5 q6) (rT_e1 q9 (rT_some rfl))))))))
    · unfold m_MD_sentence m_MD_sentence_J33
      exact rT_in (by decide) (rT_in (by decide) (rT_in (by decide) (rT_e1 r1 (rT_e1 r2' (rT_in (by decide) (rT_in (by decide) (rT_in (by decide) (rT_ip rfl (rT_ip rfl (rT_e1 r3 (rT_e1 r3' (rT_e1 r4 (rT_e1 r5 (rT_in (by decide) (rT_e1 r6 (rT_e1 (stop_e r9 r10) (rT_some rfl)))))))))))))))))
  · subst e1
    obtain ⟨t1, y1, k1, p1, q1, r1, s1⟩ := sb_word (F := F) hF w25 (by omega) h hL (by omega)
    obtain ⟨t2, y2, k2, p2, q2, r2', s2⟩ := sb_num (F := F) (v := a) hF (by omega) s1 hL (by omega)
    obtain ⟨t9, y9, y10, q9, r9, r10, s9⟩ := sb_one (F := F) hF ln26 ch26 (by omega) s2 hL (by omega)
    refine ⟨t9, y10, _, by omega, rT_get ?_, rT_get ?_, s9⟩
    · unfold m_AM_putSentence
      exact rT_in (by decide) (rT_in (by decide) (rT_in (by decide) (rT_in (by decide) (rT_e1 (pair_e q1 q2) (rT_e1 q9 (rT_some rfl))))))
    · unfold m_MD_sentence m_MD_sentence_J33
      exact rT_in (by decide) (rT_in (by decide) (rT_ip rfl (rT_e1 r1 (rT_e1 r2' (rT_in (by decide) (rT_in (by decide) (rT_in (by decide) (rT_in (by decide) (rT_e1 (stop_e r9 r10) (rT_some rfl))))))))))
theorem p_sayable (F : Nat) (a : Int32) : rT (m_AM_isSayable F a) (fun r => r = tf (Sd a)) := by
  unfold m_AM_isSayable
  refine rT_bn1 (p_withinN F a 9999 (by omega)) (fun r e => ?_)
  subst e
  exact rT_ckb (tf_b _) (rT_some rfl)
theorem q_isSaid (F : Nat) (a : Int32) : rT (m_MD_isSaid F a) (fun r => r = tf (Sd a)) := by
  have h := p_withinN F a 9999 (by omega)
  unfold m_AM_isWithin at h
  unfold m_MD_isSaid
  exact h
theorem okS_lit {a1 a2 a3 a4 a5 : Int32} : (a1 = 0 → (okS a1 a2 a3 a4 a5 ↔ Sd a2 ∧ Sd a3 ∧ Sd a4 ∧ ¬ a5 < 1 ∧ ¬ 12 < a5)) ∧ (a1 = 1 → (okS a1 a2 a3 a4 a5 ↔ Sd a2 ∧ Sd a3 ∧ Sd a4 ∧ Sd a5)) ∧ (a1 = 2 → (okS a1 a2 a3 a4 a5 ↔ Sd a2 ∧ Sd a3)) ∧ (a1 = 3 → (okS a1 a2 a3 a4 a5 ↔ Sd a2 ∧ Sd a3 ∧ Sd a4)) ∧ (a1 = 4 → (okS a1 a2 a3 a4 a5 ↔ Sd a2)) ∧ (¬ a1 = 0 → ¬ a1 = 1 → ¬ a1 = 2 → ¬ a1 = 3 → ¬ a1 = 4 → ¬ okS a1 a2 a3 a4 a5) := by
  unfold okS
  refine ⟨?_, ?_, ?_, ?_, ?_, ?_⟩
  · intro e
    subst e
    refine ⟨?_, fun z => Or.inl ⟨rfl, z⟩⟩
    rintro (z | z | z | z | z)
    · exact z.2
    · exact absurd z.1 (by decide)
    · exact absurd z.1 (by decide)
    · exact absurd z.1 (by decide)
    · exact absurd z.1 (by decide)
  · intro e
    subst e
    refine ⟨?_, fun z => Or.inr (Or.inl ⟨rfl, z⟩)⟩
    rintro (z | z | z | z | z)
    · exact absurd z.1 (by decide)
    · exact z.2
    · exact absurd z.1 (by decide)
    · exact absurd z.1 (by decide)
    · exact absurd z.1 (by decide)
  · intro e
    subst e
    refine ⟨?_, fun z => Or.inr (Or.inr (Or.inl ⟨rfl, z⟩))⟩
    rintro (z | z | z | z | z)
    · exact absurd z.1 (by decide)
    · exact absurd z.1 (by decide)
    · exact z.2
    · exact absurd z.1 (by decide)
    · exact absurd z.1 (by decide)
  · intro e
    subst e
    refine ⟨?_, fun z => Or.inr (Or.inr (Or.inr (Or.inl ⟨rfl, z⟩)))⟩
    rintro (z | z | z | z | z)
    · exact absurd z.1 (by decide)
    · exact absurd z.1 (by decide)
    · exact absurd z.1 (by decide)
    · exact z.2
    · exact absurd z.1 (by decide)
  · intro e
    subst e
    refine ⟨?_, fun z => Or.inr (Or.inr (Or.inr (Or.inr ⟨rfl, z⟩)))⟩
    rintro (z | z | z | z | z)
    · exact absurd z.1 (by decide)
    · exact absurd z.1 (by decide)
    · exact absurd z.1 (by decide)
    · exact absurd z.1 (by decide)
    · exact z.2
  · intro h0 h1 h2 h3 h4
    rintro (z | z | z | z | z)
    · exact h0 z.1
    · exact h1 z.1
    · exact h2 z.1
    · exact h3 z.1
    · exact h4 z.1
theorem p_canBeSaid (F : Nat) (a1 a2 a3 a4 a5 : Int32) : rT (m_AM_canBeSaid F a1 a2 a3 a4 a5) (fun r => r = tf (okS a1 a2 a3 a4 a5)) := by
  obtain ⟨l0, l1, l2, l3, l4, l5⟩ := okS_lit (a1 := a1) (a2 := a2) (a3 := a3) (a4 := a4) (a5 := a5)
  unfold m_AM_canBeSaid
  refine rT_if (fun e => ?_) (fun e0 => rT_if (fun e => ?_) (fun e1 => rT_if (fun e => ?_) (fun e2 => rT_if (fun e => ?_) (fun e3 => rT_if (fun e => ?_) (fun e4 => rT_some (tf_n (l5 e0 e1 e2 e3 e4)).symm)))))
  · rw [tf_c (l0 e)]
    refine bz (p_sayable F a2) (fun h => rT_some (tf_n (fun z => h z.1)).symm) (fun h2 => bz (p_sayable F a3) (fun h => rT_some (tf_n (fun z => h z.2.1)).symm) (fun h3 => bz (p_sayable F a4) (fun h => rT_some (tf_n (fun z => h z.2.2.1)).symm) (fun h4 => bz (p_within F a5 1 12) (fun h => rT_some (tf_n (fun z => h z.2.2.2)).symm) (fun h5 => rT_some (tf_p ⟨h2, h3, h4, h5⟩).symm))))
  · rw [tf_c (l1 e)]
    refine bz (p_sayable F a2) (fun h => rT_some (tf_n (fun z => h z.1)).symm) (fun h2 => bz (p_sayable F a3) (fun h => rT_some (tf_n (fun z => h z.2.1)).symm) (fun h3 => bz (p_sayable F a4) (fun h => rT_some (tf_n (fun z => h z.2.2.1)).symm) (fun h4 => bz (p_sayable F a5) (fun h => rT_some (tf_n (fun z => h z.2.2.2)).symm) (fun h5 => rT_some (tf_p ⟨h2, h3, h4, h5⟩).symm))))
  · rw [tf_c (l2 e)]
    refine bz (p_sayable F a2) (fun h => rT_some (tf_n (fun z => h z.1)).symm) (fun h2 => bz (p_sayable F a3) (fun h => rT_some (tf_n (fun z => h z.2)).symm) (fun h3 => rT_some (tf_p ⟨h2, h3⟩).symm))
  · rw [tf_c (l3 e)]
    refine bz (p_sayable F a2) (fun h => rT_some (tf_n (fun z => h z.1)).symm) (fun h2 => bz (p_sayable F a3) (fun h => rT_some (tf_n (fun z => h z.2.1)).symm) (fun h3 => bz (p_sayable F a4) (fun h => rT_some (tf_n (fun z => h z.2.2)).symm) (fun h4 => rT_some (tf_p ⟨h2, h3, h4⟩).symm)))
  · rw [tf_c (l4 e)]
    refine rT_bn1 (p_sayable F a2) (fun r er => ?_)
    subst er
    exact rT_ckb (tf_b _) (rT_some rfl)
theorem say_R {F : Nat} {y : St} {a1 a2 a3 a4 a5 : Int32} {P : Int32 × St → Prop} (h : ∀ j6 : Int32, rT (m_MD_say_J109 F a1 a2 a3 a4 a5 j6 (tf (okS a1 a2 a3 a4 a5)) y) P) : rT (m_MD_say F y a1 a2 a3 a4 a5) P := by
  obtain ⟨l0, l1, l2, l3, l4, l5⟩ := okS_lit (a1 := a1) (a2 := a2) (a3 := a3) (a4 := a4) (a5 := a5)
  have k0 : ¬ okS a1 a2 a3 a4 a5 → ∀ j : Int32, rT (m_MD_say_J109 F a1 a2 a3 a4 a5 j 0 y) P := fun hn j => by
    have := h j
    rw [tf_n hn] at this; exact this
  have k1 : okS a1 a2 a3 a4 a5 → ∀ j : Int32, rT (m_MD_say_J109 F a1 a2 a3 a4 a5 j 1 y) P := fun hn j => by
    have := h j
    rw [tf_p hn] at this; exact this
  have z63 : ¬ okS a1 a2 a3 a4 a5 → rT (m_MD_say_J63 F a1 a2 a3 a4 a5 0 0 y) P := fun hn => by
    unfold m_MD_say_J63
    exact rT_i0 (k0 hn 0)
  have z63' : ∀ s : Int32, ¬ okS a1 a2 a3 a4 a5 → rT (m_MD_say_J63 F a1 a2 a3 a4 a5 s 0 y) P := fun s hn => by
    unfold m_MD_say_J63
    exact rT_i0 (k0 hn 0)
  have z21 : ¬ okS a1 a2 a3 a4 a5 → rT (m_MD_say_J21 F a1 a2 a3 a4 a5 0 y) P := fun hn => by
    unfold m_MD_say_J21
    exact rT_i0 (z63 hn)
  unfold m_MD_say
  by_cases hr : ∃ i : Nat, i < 5 ∧ a1 = nI i
  · have hd := (rg (m := 5) (by omega)).mp hr
    obtain ⟨i, hi, e⟩ := hr
    have hd2 : ¬ (4 : Int32) < a1 := by
      rw [e]
      exact fun z => by have := (nI_ltI (a := 4) (by omega) (by omega)).mp z; omega
    refine rT_in hd.1 (rT_in hd2 ?_)
    rcases (show i = 0 ∨ i = 1 ∨ i = 2 ∨ i = 3 ∨ i = 4 by omega) with ei | ei | ei | ei | ei
    · have e : a1 = 0 := by rw [e, ei]; rfl
      have l := l0 e
      refine bz (q_isSaid F a2) (fun q => z21 (fun z => q (l.mp z).1)) (fun h2 => ?_)
      unfold m_MD_say_J21
      refine rT_i1 (rT_in (by rw [e]; decide) (bz (q_isSaid F a3) (fun q => z63' _ (fun z => q (l.mp z).2.1)) (fun h3 => rT_in (by rw [e]; decide) (rT_in (by rw [e]; decide) (bz (q_isSaid F a4) (fun q => z63' _ (fun z => q (l.mp z).2.2.1)) (fun h4 => ?_))))))
      unfold m_MD_say_J63
      exact rT_i1 (rT_in (by rw [e]; decide) (rT_in (by rw [e]; decide) (rT_if (fun c => k0 (fun z => (l.mp z).2.2.2.1 c) _) (fun c => rT_if (fun d => k0 (fun z => (l.mp z).2.2.2.2 d) _) (fun d => k1 (l.mpr ⟨h2, h3, h4, c, d⟩) _)))))
    · have e : a1 = 1 := by rw [e, ei]; rfl
      have l := l1 e
      refine bz (q_isSaid F a2) (fun q => z21 (fun z => q (l.mp z).1)) (fun h2 => ?_)
      unfold m_MD_say_J21
      refine rT_i1 (rT_in (by rw [e]; decide) (bz (q_isSaid F a3) (fun q => z63' _ (fun z => q (l.mp z).2.1)) (fun h3 => rT_in (by rw [e]; decide) (rT_in (by rw [e]; decide) (bz (q_isSaid F a4) (fun q => z63' _ (fun z => q (l.mp z).2.2.1)) (fun h4 => ?_))))))
      unfold m_MD_say_J63
      exact rT_i1 (rT_in (by rw [e]; decide) (rT_ip e (bz (q_isSaid F a5) (fun q => k0 (fun z => q (l.mp z).2.2.2) _) (fun h5 => k1 (l.mpr ⟨h2, h3, h4, h5⟩) _))))
    · have e : a1 = 2 := by rw [e, ei]; rfl
      have l := l2 e
      refine bz (q_isSaid F a2) (fun q => z21 (fun z => q (l.mp z).1)) (fun h2 => ?_)
      unfold m_MD_say_J21
      refine rT_i1 (rT_in (by rw [e]; decide) (bz (q_isSaid F a3) (fun q => z63' _ (fun z => q (l.mp z).2)) (fun h3 => rT_ip e ?_)))
      unfold m_MD_say_J63
      exact rT_i1 (rT_ip (by rw [e]; decide) (k1 (l.mpr ⟨h2, h3⟩) _))
    · have e : a1 = 3 := by rw [e, ei]; rfl
      have l := l3 e
      refine bz (q_isSaid F a2) (fun q => z21 (fun z => q (l.mp z).1)) (fun h2 => ?_)
      unfold m_MD_say_J21
      refine rT_i1 (rT_in (by rw [e]; decide) (bz (q_isSaid F a3) (fun q => z63' _ (fun z => q (l.mp z).2.1)) (fun h3 => rT_in (by rw [e]; decide) (rT_in (by rw [e]; decide) (bz (q_isSaid F a4) (fun q => z63' _ (fun z => q (l.mp z).2.2)) (fun h4 => ?_))))))
      unfold m_MD_say_J63
      exact rT_i1 (rT_ip (by rw [e]; decide) (k1 (l.mpr ⟨h2, h3, h4⟩) _))
    · have e : a1 = 4 := by rw [e, ei]; rfl
      have l := l4 e
      refine bz (q_isSaid F a2) (fun q => z21 (fun z => q (l.mp z))) (fun h2 => ?_)
      unfold m_MD_say_J21
      refine rT_i1 (rT_ip e (rT_in (by rw [e]; decide) (rT_ip e ?_)))
      unfold m_MD_say_J63
      exact rT_i1 (rT_ip (by rw [e]; decide) (k1 (l.mpr h2) _))
  · have hno : ¬ okS a1 a2 a3 a4 a5 := l5 (fun e => hr ⟨0, by omega, e⟩) (fun e => hr ⟨1, by omega, e⟩) (fun e => hr ⟨2, by omega, e⟩) (fun e => hr ⟨3, by omega, e⟩) (fun e => hr ⟨4, by omega, e⟩)
    refine rT_if (fun _ => z21 hno) (fun c => rT_if (fun _ => z21 hno) (fun d => absurd ?_ hr))
    obtain ⟨j, hj, rfl⟩ := nI_of c
    exact ⟨j, by
      have : j ≤ 4 := Nat.le_of_not_lt (fun q => d ((nI_ltI (a := 4) (by omega) hj).mpr q))
      omega, rfl⟩
theorem Rel_tx {x : Nat → St} {n : Nat} {y y' t' : St} (hR : Rel x n y) (hT' : rTx t' y') (zs : ∀ f : Nat, f ≠ 0 → f ≠ 11 → f ≠ 12 → f ≠ 40 → f ≠ 41 → y' f = y f) : Rel (up x 1 t') n y' := by
  obtain ⟨hT, hP, hL, hE, hZ, hA, hB, hO, hW, hN⟩ := hR
  have kP : rPt n (x 2) y' := by
    unfold rPt Hd at hP ⊢
    rw [zs 1 (by omega) (by omega) (by omega) (by omega) (by omega), zs 3 (by omega) (by omega) (by omega) (by omega) (by omega), zs 4 (by omega) (by omega) (by omega) (by omega) (by omega), zs 5 (by omega) (by omega) (by omega) (by omega) (by omega), zs 6 (by omega) (by omega) (by omega) (by omega) (by omega), zs 7 (by omega) (by omega) (by omega) (by omega) (by omega), zs 10 (by omega) (by omega) (by omega) (by omega) (by omega)]; exact hP
  have kL : rLp n (fun j => x (10 + j)) y' := by
    unfold rLp rL1 at hL ⊢
    rw [zs 6 (by omega) (by omega) (by omega) (by omega) (by omega), zs 7 (by omega) (by omega) (by omega) (by omega) (by omega), zs 8 (by omega) (by omega) (by omega) (by omega) (by omega), zs 9 (by omega) (by omega) (by omega) (by omega) (by omega), zs 10 (by omega) (by omega) (by omega) (by omega) (by omega)]; exact hL
  have kE : rEv (x 4) y' := by
    unfold rEv at hE ⊢
    rw [zs 36 (by omega) (by omega) (by omega) (by omega) (by omega), zs 37 (by omega) (by omega) (by omega) (by omega) (by omega), zs 38 (by omega) (by omega) (by omega) (by omega) (by omega), zs 39 (by omega) (by omega) (by omega) (by omega) (by omega)]; exact hE
  have kZ : rZn n 0 (x 6) y' := by
    unfold rZn at hZ ⊢
    rw [zs 18 (by omega) (by omega) (by omega) (by omega) (by omega), zs 19 (by omega) (by omega) (by omega) (by omega) (by omega), zs 20 (by omega) (by omega) (by omega) (by omega) (by omega), zs 21 (by omega) (by omega) (by omega) (by omega) (by omega)]; exact hZ
  have kA : rAs 0 (x 7) y' := by
    unfold rAs at hA ⊢
    rw [zs 22 (by omega) (by omega) (by omega) (by omega) (by omega), zs 23 (by omega) (by omega) (by omega) (by omega) (by omega), zs 24 (by omega) (by omega) (by omega) (by omega) (by omega), zs 25 (by omega) (by omega) (by omega) (by omega) (by omega), zs 26 (by omega) (by omega) (by omega) (by omega) (by omega)]; exact hA
  have kB : rAd (x 7) y' := by
    unfold rAd at hB ⊢
    rw [zs 22 (by omega) (by omega) (by omega) (by omega) (by omega), zs 32 (by omega) (by omega) (by omega) (by omega) (by omega), zs 33 (by omega) (by omega) (by omega) (by omega) (by omega), zs 34 (by omega) (by omega) (by omega) (by omega) (by omega), zs 35 (by omega) (by omega) (by omega) (by omega) (by omega)]; exact hB
  have kO : rOr 0 (x 7) y' := by
    unfold rOr so at hO ⊢
    rw [zs 22 (by omega) (by omega) (by omega) (by omega) (by omega), zs 24 (by omega) (by omega) (by omega) (by omega) (by omega)]; exact hO
  have kW : rRw 27 0 0 (x 5) y' := by
    unfold rRw at hW ⊢
    rw [zs 18 (by omega) (by omega) (by omega) (by omega) (by omega), zs 27 (by omega) (by omega) (by omega) (by omega) (by omega), zs 29 (by omega) (by omega) (by omega) (by omega) (by omega), zs 30 (by omega) (by omega) (by omega) (by omega) (by omega), zs 31 (by omega) (by omega) (by omega) (by omega) (by omega)]; exact hW
  have kN : rNw (x 0) y' := by
    unfold rNw at hN ⊢
    rw [zs 2 (by omega) (by omega) (by omega) (by omega) (by omega)]; exact hN
  exact ⟨hT', kP, Lp_up kL (by omega), kE, kZ, kA, kB, kO, kW, kN⟩
theorem s_say (F : Nat) (hF : 100000 ≤ F) : sim_say F Rel := by
  intro x n y a1 a2 a3 a4 a5 hR
  have hR0 := hR
  obtain ⟨⟨L, hL0, hx2, hy2, hch⟩, hP, hL, hE, hZ, hA, hB, hO, hW, hN⟩ := hR
  refine r2_l ?_
  unfold m_AM_say
  refine bz (p_canBeSaid F a1 a2 a3 a4 a5) (fun hc => rT_some (say_R (fun j6 => ?_))) (fun hc => ?_)
  · rw [tf_n hc]
    unfold m_MD_say_J109
    have hrel : Rel (up x 1 (x 1)) n (sc (sc y 41 0) 0 1) := Rel_ref (y := sc y 41 0) 1 hR0
    refine rT_lz (rT_i0 (rT_if (fun _ => ?_) (fun _ => ?_)))
    · exact go0 (rT_i0 (rT_some ⟨Or.inr (Or.inl rfl), rfl, fun h => absurd h (Nat.succ_ne_zero _), hrel⟩))
    · exact go0 (rT_i0 (rT_some ⟨Or.inr (Or.inl rfl), rfl, fun h => absurd h (Nat.succ_ne_zero _), hrel⟩))
  have hsb0 : SB L 0 (x 1) (sc y 41 0) (x 1) (sc y 41 0) := ⟨hx2, rfl, fun _ _ => rfl, fun i hi => by omega, fun _ _ _ => rfl⟩
  obtain ⟨t', y', k, hk, q1, q2, s1, s2, s3, s4, s5⟩ := sb_sent (F := F) (x0 := x 0) hF hc hsb0 hL0
  refine rT_e1 (a := nI L) (show m_Text_size F (x 1) = some (nI L) from congrArg some hx2) (rT_e1 q1 ?_)
  refine rT_e1 (a := nI (L + k)) (show m_Text_size F t' = some (nI (L + k)) from congrArg some s1) ?_
  have e12 : y' 12 0 = nI L := by rw [s5 12 (by omega) (by omega)]; exact hy2
  refine rT_if (fun c => ?_) (fun c => ?_)
  · have hLk : L + k ≤ 2000 := (nI_leI (b := 2000) (by omega) (by omega)).mp c
    refine rT_e1 (a := nI (L + k)) (show m_Text_size F t' = some (nI (L + k)) from congrArg some s1) (rT_some (say_R (fun j6 => ?_)))
    rw [tf_p hc]
    unfold m_MD_say_J109
    refine rT_lz (rT_i1 (rT_e1 q2 ?_))
    rw [e12, s2, nI_add]
    refine rT_in (fun z => by have := (nI_ltI (a := 2000) (by omega) (by omega)).mp z; omega) (go1 (rT_i1 ?_))
    refine rT_lq2 k (fun i v z => v = nI i ∧ z 12 0 = nI (L + i) ∧ (∀ j : Nat, j < L → z 11 j = y 11 j) ∧ (∀ j : Nat, j < i → z 11 (L + j) = y' 40 j) ∧ ∀ f : Nat, f ≠ 11 → f ≠ 12 → z f = (sc y' 0 0) f) ?_ F 0 0 (sc y' 0 0) (by omega) (by omega) ⟨rfl, e12, fun j hj => ?_, fun j hj => by omega, fun _ _ _ => rfl⟩
    · intro i r v z hi hI hrec
      obtain ⟨ev, z12, zlo, zhi, zf⟩ := hI
      subst ev
      unfold m_MD_say_B166
      have z41 : z 41 0 = nI k := by rw [zf 41 (by omega) (by omega)]; exact s2
      rw [z41, show (nI i + 1 : Int32) = nI (i + 1) from nI_add i 1]
      refine rT_if (fun g => rT_some ?_) (fun g => ?_)
      · have := (nI_leI (by omega) (by omega)).mp g
        have ei : i = k := by omega
        subst ei
        have zs : ∀ f : Nat, f ≠ 0 → f ≠ 11 → f ≠ 12 → f ≠ 40 → f ≠ 41 → z f = y f := by
          intro f h0 h1 h2 h3 h4
          rw [zf f h1 h2, sc_n h0, s5 f h3 h4, sc_n h4]
        refine ⟨Or.inl rfl, ?_, fun _ => z12.symm, Rel_tx hR0 ⟨L + i, hLk, s1, z12, fun j hj => ?_⟩ zs⟩
        · show z 0 0 = nI 0
          rw [zf 0 (by omega) (by omega)]; rfl
        · show t' 0 j = z 11 j ∧ ∃ c' : Nat, c' ≤ 127 ∧ z 11 j = nI c'
          by_cases e : j < L
          · rw [s3 j e, zlo j e]; exact hch j e
          · have h1 := s4 (j - L) (by omega)
            have h2 := zhi (j - L) (by omega)
            rw [show L + (j - L) = j by omega] at h1 h2
            rw [h1.1 (by omega), h2]
            exact ⟨rfl, h1.2⟩
      have hi' : i < k := Nat.lt_of_not_le (fun q => g ((nI_leI (by omega) (by omega)).mpr q))
      have z40 : z 40 = y' 40 := by rw [zf 40 (by omega) (by omega)]; rfl
      rw [nI_clamp (by omega), z40]
      refine rT_ck (vin (by omega)) (rT_e1 (e_write z12 (by omega)) (hrec _ _ hi' ⟨rfl, rfl, fun j hj => ?_, fun j hj => ?_, fun f h1 h2 => ?_⟩))
      · show upd (z 11) (L + i) (y' 40 i) j = y 11 j
        rw [upd_n (by omega)]; exact zlo j hj
      · show upd (z 11) (L + i) (y' 40 i) (L + j) = y' 40 j
        by_cases e : j = i
        · subst e; rw [upd_e]
        · rw [upd_n (by omega)]; exact zhi j (by omega)
      · rw [sc_n h2, st_n h1]; exact zf f h1 h2
    · show y' 11 j = y 11 j
      rw [s5 11 (by omega) (by omega)]; rfl
  · have hLk : 2000 < L + k := Nat.lt_of_not_le (fun q => c ((nI_leI (b := 2000) (by omega) (by omega)).mpr q))
    refine rT_e1 rfl (rT_some (say_R (fun j6 => ?_)))
    rw [tf_p hc]
    unfold m_MD_say_J109
    refine rT_lz (rT_i1 (rT_e1 q2 ?_))
    rw [e12, s2, nI_add]
    refine rT_ip ((nI_ltI (a := 2000) (by omega) (by omega)).mpr hLk) (go2 (rT_i0 (rT_some ?_)))
    refine ⟨Or.inr (Or.inr rfl), rfl, fun h => absurd h (Nat.succ_ne_zero _), Rel_tx hR0 ⟨L, hL0, rfl, e12, fun j hj => ?_⟩ (fun f h0 h1 h2 h3 h4 => ?_)⟩
    · show t' 0 j = y' 11 j ∧ ∃ c' : Nat, c' ≤ 127 ∧ y' 11 j = nI c'
      rw [s3 j hj, s5 11 (by omega) (by omega)]; exact hch j hj
    · show (sc y' 0 2) f = y f
      rw [sc_n h0, s5 f h3 h4, sc_n h4]

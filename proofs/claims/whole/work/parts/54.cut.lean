theorem p_swapCut {F k : Nat} {q : St} {v : Int32} (hF : 100000 ≤ F) (hk : k < 41) (hb : q 1 k = 0 ∨ q 1 k = 1) : rT (m_Loop_swapCut F q (nI k) v) (fun o => o.1 = q 1 k ∧ o.2 0 = q 0 ∧ o.2 1 = upd (q 1) k (vp_nar .boolean v) ∧ o.2 2 = q 2 ∧ (∀ m : Nat, m < 41 → (nI m < o.2 3 0 ↔ ∀ i : Nat, i ≤ m → upd (q 1) k (vp_nar .boolean v) i = 0)) ∧ (∀ m : Nat, m < 41 → (o.2 4 0 ≤ nI m ↔ ∀ i : Nat, m < i → i < 41 → upd (q 1) k (vp_nar .boolean v) i = 0))) := by
  unfold m_Loop_swapCut
  rw [nI_clamp (by omega)]
  refine rT_ck (vin hk) (rT_ck (vin hk) (rT_lz (rT_bn1 (p_findEnds hF) (fun z hz => rT_ckb hb (rT_some ⟨rfl, hz⟩)))))
theorem p_hearThrough {F n j : Nat} {p q y : St} (hF : 100000 ≤ F) (hn : n ≤ 200) (hj : j < 8) (h : rL1 n j q y) (hb : ∀ m : Nat, m < n → y 6 m = nI j → ∃ k s : Nat, y 7 m = nI k ∧ y 8 j = nI s ∧ k < s ∧ s ≤ 40 ∧ y 9 (40 * j + k) = nI m) : rT (m_Points_hearThrough F p n q) (fun z => (∀ f : Nat, f ≠ 5 → z f = p f) ∧ ∀ m : Nat, m < n → (y 6 m = nI j → z 5 m = tf (¬ Hd y m)) ∧ (¬ y 6 m = nI j → z 5 m = p 5 m)) := by
  have h0 := h
  obtain ⟨s, hs, h2, h8, hm, hc, hz, ha, hbb⟩ := h
  unfold m_Points_hearThrough
  refine rT_lq2 s (fun i v z => v = nI i ∧ (∀ f : Nat, f ≠ 5 → z f = p f) ∧ ∀ m : Nat, m < n → (∀ k : Nat, y 6 m = nI j → y 7 m = nI k → k < i → z 5 m = tf (¬ Hd y m)) ∧ (¬ y 6 m = nI j → z 5 m = p 5 m)) ?_ F 0 0 p (by omega) (by omega) ⟨rfl, fun _ _ => rfl, fun m _ => ⟨fun k _ _ hk => by omega, fun _ => rfl⟩⟩
  intro i r v z hi hI hrec
  obtain ⟨ev, hfr, hI⟩ := hI
  subst ev
  unfold m_Points_hearThrough_B2
  refine rT_e1 (a := nI s) (show m_Loop_size F q = some (nI s) from congrArg some h2) ?_
  rw [show (nI i + 1 : Int32) = nI (i + 1) from nI_add i 1]
  refine rT_if (fun g => rT_some ⟨hfr, fun m hm' => ⟨fun e6 => ?_, (hI m hm').2⟩⟩) (fun g => ?_)
  · have := (nI_leI (by omega) (by omega)).mp g
    obtain ⟨k, s', f7, f8, fk, fs, f9⟩ := hb m hm' e6
    have es : s' = s := (nI_eq (by omega) (by omega)).mp (f8.symm.trans h8)
    exact (hI m hm').1 k e6 f7 (by omega)
  have hi' : i < s := Nat.lt_of_not_le (fun q => g ((nI_leI (by omega) (by omega)).mpr q))
  obtain ⟨p0, hp0, e9, eq, e6, e7⟩ := hm i hi'
  have hpa : m_Loop_pointAt F q (nI i) = some (nI p0) := by
    unfold m_Loop_pointAt
    rw [ck_in (vin (by omega)), nI_clamp (by omega), eq]
  refine rT_e1 hpa ?_
  have hst : ∀ w : Int32, w = tf (¬ Hd y p0) → ((∀ f : Nat, f ≠ 5 → (st z 5 (upd (z 5) p0 w)) f = p f) ∧ ∀ m : Nat, m < n → (∀ k : Nat, y 6 m = nI j → y 7 m = nI k → k < i + 1 → (st z 5 (upd (z 5) p0 w)) 5 m = tf (¬ Hd y m)) ∧ (¬ y 6 m = nI j → (st z 5 (upd (z 5) p0 w)) 5 m = p 5 m)) := by
    intro w hw
    refine ⟨fun f hf => by rw [st_n hf]; exact hfr f hf, fun m hm' => ?_⟩
    show (∀ k : Nat, y 6 m = nI j → y 7 m = nI k → k < i + 1 → upd (z 5) p0 w m = tf (¬ Hd y m)) ∧ (¬ y 6 m = nI j → upd (z 5) p0 w m = p 5 m)
    by_cases e : m = p0
    · subst e
      rw [upd_e]
      exact ⟨fun _ _ _ _ => hw, fun c => absurd e6 c⟩
    · rw [upd_n e]
      refine ⟨fun k g6 g7 gk => ?_, (hI m hm').2⟩
      by_cases ek : k = i
      · subst ek
        obtain ⟨k', s', f7, f8, fk, fs, f9⟩ := hb m hm' g6
        have ekk : k' = k := (nI_eq (by omega) (by omega)).mp (f7.symm.trans g7)
        subst ekk
        exact absurd ((nI_eq (by omega) (by omega)).mp (f9.symm.trans e9)) e
      · exact (hI m hm').1 k g6 g7 (by omega)
  refine bz (p_hears (p := p0) hj h0 (by omega) e6 e7) (fun c => ?_) (fun c => ?_)
  · rw [nI_clamp (by omega), vb1]
    exact rT_ck (vin hp0) (rT_lz (hrec _ _ hi' ⟨rfl, hst 1 (tf_p c).symm⟩))
  · rw [nI_clamp (by omega), vb0]
    exact rT_ck (vin hp0) (rT_lz (hrec _ _ hi' ⟨rfl, hst 0 (tf_n (fun z => z c)).symm⟩))
theorem s_cut (F : Nat) (hF : 100000 ≤ F) : sim_cut F Rel := by
  intro x n y a1 a2 a3 hR
  have hR0 := hR
  obtain ⟨hT, hP, hL, hE, hZ, hA, hB, hO, hW, hN⟩ := hR
  have hP0 := hP
  obtain ⟨⟨hn1, hn2⟩, hp0, hy1, hpt⟩ := hP
  by_cases hc : isP 8 a1
  · left
    obtain ⟨j, hj, rfl⟩ := hc
    have hL1 : rL1 n j (x (10 + j)) y := hL.1 j hj
    obtain ⟨s, hs, h2, h8, hm, hcc, hz, ha, hb⟩ := hL1
    have hself : ∀ v : Int32, Rel (up (up x 2 (x 2)) (10 + j) (x (10 + j))) n (sc y 0 v) := by
      intro v
      have e0 : up (up x 2 (x 2)) (10 + j) (x (10 + j)) = x := by rw [up_self, up_self]
      rw [e0]; exact Rel_code hR0
    have hH : r2 (m_AM_cut F (x 0) (x (10 + j)) (x 2) n j a2 a3) (m_MD_cut F y (nI j) a2 a3) (fun o1 o2 => (o1.1 = 0 ∨ o1.1 = 1) ∧ o2.2 0 0 = nI o1.1 ∧ (o1.1 = 0 → o1.2.1 = o2.1) ∧ Rel (up (up x 2 (o1.2.2.2)) (10 + j) (o1.2.2.1)) n o2.2) := by
      refine r2_l ?_
      unfold m_AM_cut m_MD_cut
      refine bz (p_isLoop F (nI j)) (fun hd => absurd ⟨j, hj, rfl⟩ hd) (fun _ => ?_)
      refine rT_ck (vin hj) (rT_e1 (a := nI s) (show m_Loop_size F (x (10 + j)) = some (nI s) from congrArg some h2) ?_)
      refine bz (p_withinN F a2 s (by omega)) (fun hc => rT_some ?_) (fun hc => ?_)
      · refine bz (q_isLoop F (nI j)) (fun hd => absurd ⟨j, hj, rfl⟩ hd) (fun _ => ?_)
        rw [nI_clamp (show j < 2 ^ 31 by omega), h8]
        have hJ : rT (m_MD_cut_J27 F (nI j) a2 a3 0 y) (fun b => ((1 : Nat) = 0 ∨ (1 : Nat) = 1) ∧ b.2 0 0 = nI 1 ∧ ((1 : Nat) = 0 → (0 : Int32) = b.1) ∧ Rel (up (up x 2 (x 2)) (10 + j) (x (10 + j))) n b.2) := by
          unfold m_MD_cut_J27
          exact go0 (rT_i0 (rT_some ⟨Or.inr rfl, rfl, fun h => absurd h (Nat.succ_ne_zero _), hself 1⟩))
        refine rT_if (fun _ => hJ) (fun c => rT_ck (vin hj) (rT_if (fun _ => hJ) (fun d => absurd ?_ hc)))
        obtain ⟨k, hk, rfl⟩ := nI_of c
        exact ⟨k, Nat.le_of_not_lt (fun q => d ((nI_ltI (by omega) hk).mpr q)), rfl⟩
      obtain ⟨k, hk, rfl⟩ := hc
      have hk41 : k < 41 := by omega
      have hbk : x (10 + j) 1 k = 0 ∨ x (10 + j) 1 k = 1 := by rw [(hcc k hk41).1]; exact (hcc k hk41).2
      refine rT_ck (vin hj) (rT_bn2 (p_swapCut hF hk41 hbk) (fun r42 z2 hz2 => ?_))
      dsimp only at hz2
      obtain ⟨e42, f0, f1, f2, f3, f4⟩ := hz2
      have e42 : r42 = x (10 + j) 1 k := e42
      have f0 : z2 0 = x (10 + j) 0 := f0
      have f1 : z2 1 = upd (x (10 + j) 1) k (vp_nar .boolean a3) := f1
      have f2 : z2 2 = x (10 + j) 2 := f2
      subst e42
      have f3 : ∀ m : Nat, m < 41 → (nI m < z2 3 0 ↔ ∀ i : Nat, i ≤ m → upd (x (10 + j) 1) k (vp_nar .boolean a3) i = 0) := f3
      have f4 : ∀ m : Nat, m < 41 → (z2 4 0 ≤ nI m ↔ ∀ i : Nat, m < i → i < 41 → upd (x (10 + j) 1) k (vp_nar .boolean a3) i = 0) := f4
      have hcut : ∀ m : Nat, m < 41 → upd (x (10 + j) 1) k (vp_nar .boolean a3) m = upd (y 10) (41 * j + k) (vp_nar .boolean a3) (41 * j + m) := by
        intro m hm'
        by_cases e : m = k
        · subst e; rw [upd_e, upd_e]
        · rw [upd_n e, upd_n (by omega)]; exact (hcc m hm').1
      have hoth : ∀ j' m : Nat, j' ≠ j → m < 41 → upd (y 10) (41 * j + k) (vp_nar .boolean a3) (41 * j' + m) = y 10 (41 * j' + m) := by
        intro j' m hj' hm'
        exact upd_n (by omega)
      have hbo : ∀ m : Nat, m < 41 → (upd (y 10) (41 * j + k) (vp_nar .boolean a3) (41 * j + m) = 0 ∨ upd (y 10) (41 * j + k) (vp_nar .boolean a3) (41 * j + m) = 1) := by
        intro m hm'
        by_cases e : m = k
        · subst e; rw [upd_e]; exact vbo a3
        · rw [upd_n (by omega)]; exact (hcc m hm').2
      have hL1' : rL1 n j z2 (st (sc y 0 0) 10 (upd (y 10) (41 * j + k) (vp_nar .boolean a3))) := by
        refine ⟨s, hs, by rw [f2]; exact h2, h8, fun i hi => ?_, fun i hi => ⟨?_, hbo i hi⟩, fun i hi hi' => ?_, fun i hi => ?_, fun i hi => ?_⟩
        · obtain ⟨p, g1, g2, g3, g4, g5⟩ := hm i hi
          exact ⟨p, g1, g2, by rw [f0]; exact g3, g4, g5⟩
        · rw [f1]; exact hcut i hi
        · show upd (y 10) (41 * j + k) (vp_nar .boolean a3) (41 * j + i) = 0
          rw [upd_n (by omega)]; exact hz i hi hi'
        · rw [f3 i hi]
          exact ⟨fun z m hm' => (hcut m (by omega)).symm.trans (z m hm'), fun z m hm' => (hcut m (by omega)).trans (z m hm')⟩
        · rw [f4 i hi]
          exact ⟨fun z m hm' hm2 => (hcut m (by omega)).symm.trans (z m hm' hm2), fun z m hm' hm2 => (hcut m (by omega)).trans (z m hm' hm2)⟩
      refine rT_ck (vin hj) (rT_bn1 (p_hearThrough (p := x 2) hF hn2 hj hL1' ?_) (fun z3 hz3 => rT_ckb hbk (rT_some ?_)))
      · intro m hm' e6
        have e6 : y 6 m = nI j := e6
        obtain ⟨j', k', s', g1, g2, g3, g4, g5, g6, g7⟩ := hL.2 m hm' (by rw [e6]; exact n0 (by omega))
        have ej : j' = j := (nI_eq (by omega) (by omega)).mp (g2.symm.trans e6)
        subst ej
        exact ⟨k', s', g3, g4, g5, g6, g7⟩
      obtain ⟨hfr, h5⟩ := hz3
      refine bz (q_isLoop F (nI j)) (fun hd => absurd ⟨j, hj, rfl⟩ hd) (fun _ => ?_)
      rw [nI_clamp (show j < 2 ^ 31 by omega), h8]
      refine rT_in (n0 (by omega)) (rT_ck (vin hj) (rT_in (fun z => by have := (nI_ltI (by omega) (by omega)).mp z; omega) ?_))
      unfold m_MD_cut_J27
      have ei : ((41 : Int32) * nI j + nI k) = nI (41 * j + k) := by
        rw [show (41 : Int32) = nI 41 from rfl, pk_mul, nI_add]
      rw [ei, nI_clamp (by omega)]
      have hyk : y 10 (41 * j + k) = 0 ∨ y 10 (41 * j + k) = 1 := (hcc k hk41).2
      refine go1 (rT_i1 (rT_ck (vin (by omega)) (rT_ck (vin (by omega)) (rT_lz (rT_ckb hyk (rT_some ?_))))))
      refine ⟨Or.inl rfl, rfl, fun _ => (hcc k hk41).1, Rel_mk2 hT ⟨⟨hn1, hn2⟩, ?_, hy1, fun m hm' => ?_⟩ ⟨fun j' hj' => ?_, fun m hm' h6 => hL.2 m hm' h6⟩ hE hZ hA hB hO hW hN⟩
      · show z3 0 0 = nI n
        rw [hfr 0 (by omega)]; exact hp0
      · obtain ⟨g1, g2, g3, g4, g5, g6⟩ := hpt m hm'
        show z3 1 m = y 3 m ∧ z3 2 m = y 5 m ∧ z3 3 m = y 4 m ∧ (y 4 m = 0 ∨ y 4 m = 1) ∧ z3 4 m = tf (¬ y 6 m < 0) ∧ z3 5 m = tf (¬ Hd (st (sc y 0 0) 10 (upd (y 10) (41 * j + k) (vp_nar .boolean a3))) m)
        rw [hfr 1 (by omega), hfr 2 (by omega), hfr 3 (by omega), hfr 4 (by omega)]
        refine ⟨g1, g2, g3, g4, g5, ?_⟩
        by_cases e6 : y 6 m = nI j
        · exact (h5 m hm').1 e6
        · rw [(h5 m hm').2 e6, g6]
          refine tf_c (not_congr ?_)
          by_cases hneg : y 6 m < 0
          · exact ⟨fun _ => Or.inl hneg, fun _ => Or.inl hneg⟩
          · obtain ⟨j', k', s', q1, q2, q3, q4, q5, q6, q7⟩ := hL.2 m hm' hneg
            have nej : j' ≠ j := fun e => e6 (by rw [q2, e])
            have a1' := Hd_at (y := y) (p := m) q1 (show k' < 41 by omega) q2 q3
            have a2' := Hd_at (y := st (sc y 0 0) 10 (upd (y 10) (41 * j + k) (vp_nar .boolean a3))) (p := m) q1 (show k' < 41 by omega) q2 q3
            refine a1'.trans (Iff.trans ?_ a2'.symm)
            show _ ↔ (∀ i : Nat, i ≤ k' → upd (y 10) (41 * j + k) (vp_nar .boolean a3) (41 * j' + i) = 0) ∨ (∀ i : Nat, k' < i → i < 41 → upd (y 10) (41 * j + k) (vp_nar .boolean a3) (41 * j' + i) = 0)
            constructor
            · rintro (z | z)
              · exact Or.inl (fun i hi => (hoth j' i nej (by omega)).trans (z i hi))
              · exact Or.inr (fun i hi hi' => (hoth j' i nej (by omega)).trans (z i hi hi'))
            · rintro (z | z)
              · exact Or.inl (fun i hi => (hoth j' i nej (by omega)).symm.trans (z i hi))
              · exact Or.inr (fun i hi hi' => (hoth j' i nej (by omega)).symm.trans (z i hi hi'))
      · show rL1 n j' (up (up x 2 z3) (10 + j) z2 (10 + j')) _
        by_cases ej : j' = j
        · subst ej; rw [up_e]; exact hL1'
        · rw [up_n (by omega), up_n (by omega)]
          obtain ⟨s', hs', k2, k8, km, kcc, kz, ka, kb⟩ := hL.1 j' hj'
          refine ⟨s', hs', k2, k8, km, fun i hi => ?_, fun i hi hi' => ?_, fun i hi => ?_, fun i hi => ?_⟩
          · show x (10 + j') 1 i = upd (y 10) (41 * j + k) (vp_nar .boolean a3) (41 * j' + i) ∧ (upd (y 10) (41 * j + k) (vp_nar .boolean a3) (41 * j' + i) = 0 ∨ upd (y 10) (41 * j + k) (vp_nar .boolean a3) (41 * j' + i) = 1)
            rw [hoth j' i ej hi]; exact kcc i hi
          · show upd (y 10) (41 * j + k) (vp_nar .boolean a3) (41 * j' + i) = 0
            rw [hoth j' i ej hi']; exact kz i hi hi'
          · refine (ka i hi).trans ⟨fun z m hm' => (hoth j' m ej (by omega)).trans (z m hm'), fun z m hm' => (hoth j' m ej (by omega)).symm.trans (z m hm')⟩
          · refine (kb i hi).trans ⟨fun z m hm' hm2 => (hoth j' m ej (by omega)).trans (z m hm' hm2), fun z m hm' hm2 => (hoth j' m ej (by omega)).symm.trans (z m hm' hm2)⟩
    obtain ⟨o1, o2, g1, g2, g3⟩ := hH
    exact ⟨j, o1, o2, hj, rfl, g1, g2, g3⟩
  · right
    refine r2_l ?_
    unfold m_AM_cut_x m_MD_cut
    refine bz (p_isLoop F a1) (fun _ => rT_some ?_) (fun hd => absurd hd hc)
    refine bz (q_isLoop F a1) (fun _ => ?_) (fun hd => absurd hd hc)
    unfold m_MD_cut_J27
    exact go0 (rT_i0 (rT_some ⟨Or.inr rfl, rfl, fun h => absurd h (Nat.succ_ne_zero _), Rel_code hR0⟩))

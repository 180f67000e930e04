theorem s_heard (F : Nat) (hF : 100000 ≤ F) : sim_heard F Rel := by
  intro x n y a1 hR
  have hR0 := hR
  obtain ⟨hT, hP, hL, hE, hZ, hA, hB, hO, hW, hN⟩ := hR
  have hn2 : n ≤ 200 := hP.1.2
  by_cases hc : isP 8 a1
  · left
    obtain ⟨j, hj, rfl⟩ := hc
    have hL1 : rL1 n j (x (10 + j)) y := hL.1 j hj
    obtain ⟨s, h8, hs, hcl⟩ := p_countHeard (F := F) hF hn2 hj hL1
    obtain ⟨s', hs', h2', h8', hm, hcc, hz, ha, hb⟩ := hL1
    have es : s' = s := (nI_eq (by omega) (by omega)).mp (h8'.symm.trans h8)
    subst es
    have hH : r2 (m_AM_heard F (x 0) (x (10 + j)) j) (m_MD_heard F y (nI j)) (fun o1 o2 => (o1.1 = 0 ∨ o1.1 = 1) ∧ o2.2 0 0 = nI o1.1 ∧ (o1.1 = 0 → o1.2 = o2.1) ∧ Rel (up (up x 2 (x 2)) (10 + j) (x (10 + j))) n o2.2) := by
      refine r2_l ?_
      unfold m_AM_heard m_MD_heard
      refine bz (p_isLoop F (nI j)) (fun hd => absurd ⟨j, hj, rfl⟩ hd) (fun _ => ?_)
      refine rT_ck (vin hj) (rT_bn1 hcl (fun r er => ?_))
      subst er
      refine rT_some (bt (q_isLoop F (nI j)) (fun hd => absurd ⟨j, hj, rfl⟩ hd) (fun _ => go1 (rT_i1 ?_)))
      refine rT_lq2 s' (fun i v2 v3 => v3 = nI i ∧ v2 = nI (cn (fun k => Hd y (y 9 (40 * j + k)).toNatClampNeg) i)) ?_ F 0 0 0 (by omega) (by omega) ⟨rfl, rfl⟩
      intro i r v2 v3 hi hI hrec
      obtain ⟨e3, e2⟩ := hI
      subst e3 e2
      unfold m_MD_heard_B18
      rw [nI_clamp (show j < 2 ^ 31 by omega), show (sc y 0 (0 : Int32)) 8 j = nI s' from h8]
      refine rT_ck (vin hj) (rT_if (fun g => rT_some ?_) (fun g => ?_))
      · have := (nI_leI (by omega) (by omega)).mp g
        have ei : i = s' := by omega
        subst ei
        refine ⟨Or.inl rfl, rfl, fun _ => rfl, ?_⟩
        have e0 : up (up x 2 (x 2)) (10 + j) (x (10 + j)) = x := by rw [up_self, up_self]
        rw [e0]; exact Rel_code hR0
      have hi' : i < s' := Nat.lt_of_not_le (fun q => g ((nI_leI (by omega) (by omega)).mpr q))
      obtain ⟨p, hp, e9, eq, e6, e7⟩ := hm i hi'
      have ei : ((40 : Int32) * nI j + nI i) = nI (40 * j + i) := by
        rw [show (40 : Int32) = nI 40 from rfl, pk_mul, nI_add]
      rw [ei, nI_clamp (by omega), show (sc y 0 (0 : Int32)) 9 (40 * j + i) = nI p from e9]
      have hL' : rLp n (fun j => x (10 + j)) (sc y 0 (0 : Int32)) := hL
      refine rT_ck (vin (by omega)) (bt (q_isHeard hF hn2 hp hL') (fun c => rT_i0 (hrec _ _ hi' ⟨nI_add i 1, ?_⟩)) (fun c => rT_i1 (hrec _ _ hi' ⟨nI_add i 1, ?_⟩)))
      · rw [cn_n (by rw [e9, nI_clamp (by omega)]; exact c)]; exact nI_add _ 0
      · rw [cn_p (by rw [e9, nI_clamp (by omega)]; exact c)]; exact nI_add _ 1
    obtain ⟨o1, o2, g1, g2, g3⟩ := hH
    exact ⟨j, o1, o2, hj, rfl, g1, g2, g3⟩
  · right
    refine r2_l ?_
    unfold m_AM_heard_x m_MD_heard
    refine bz (p_isLoop F a1) (fun _ => rT_some ?_) (fun hd => absurd hd hc)
    refine bt (q_isLoop F a1) (fun _ => ?_) (fun hd => absurd hd hc)
    exact go0 (rT_i0 (rT_some ⟨Or.inr rfl, rfl, fun h => absurd h (Nat.succ_ne_zero _), Rel_code hR0⟩))
theorem s_unreachable (F : Nat) (hF : 100000 ≤ F) : sim_unreachable F Rel := by
  intro x n y a1 hR
  have hR0 := hR
  obtain ⟨hT, hP, hL, hE, hZ, hA, hB, hO, hW, hN⟩ := hR
  obtain ⟨⟨hn1, hn2⟩, hp0, hy1, hpt⟩ := hP
  refine r2_l ?_
  unfold m_AM_unreachable m_MD_unreachable
  refine rT_if (fun c => ?_) (fun c => rT_some (rT_ip (Int32.not_le.mp c) (go0 (rT_i0 (rT_some ⟨Or.inr rfl, rfl, fun h => absurd h (Nat.succ_ne_zero _), Rel_code hR0⟩)))))
  have hL' : rLp n (fun j => x (10 + j)) (sc y 0 (0 : Int32)) := hL
  have hh : r2 (m_Points_findUnheard F (x 2) n a1) (lq2 (m_MD_unreachable_B23 F (sc y 0 0) a1 (fun v2_23 v3_23 => (some (v3_23, (sc y 0 0)))) (fun v2_23 v3_23 => (some ((-1 : Int32), (sc y 0 0))))) F (0 : Int32) (0 : Int32)) (fun a b => b = (a, sc y 0 0)) := by
    unfold m_Points_findUnheard
    refine rT_J (A := Int32 × Int32) (B := Int32 × Int32) (r := fun m a => lq2 (m_Points_findUnheard_B4 F (x 2) n a1 (fun v2_4 v3_4 => (some v3_4)) (fun v2_4 v3_4 => (some (-1 : Int32)))) m a.1 a.2) (s := fun m a => lq2 (m_MD_unreachable_B23 F (sc y 0 0) a1 (fun v2_23 v3_23 => (some (v3_23, (sc y 0 0)))) (fun v2_23 v3_23 => (some ((-1 : Int32), (sc y 0 0))))) m a.1 a.2) n (fun i a b => a.2 = nI i ∧ b = a) ?_ F F 0 (0, 0) (0, 0) (by omega) (by omega) (by omega) ⟨rfl, rfl⟩
    intro i k m a b hi hI hrec
    obtain ⟨a, a'⟩ := a
    obtain ⟨e1, e2⟩ := hI
    subst e2
    have e1 : a' = nI i := e1
    subst e1
    have hrec : ∀ v : Int32, i < n → r2 (lq2 (m_Points_findUnheard_B4 F (x 2) n a1 (fun v2_4 v3_4 => (some v3_4)) (fun v2_4 v3_4 => (some (-1 : Int32)))) k v (nI (i + 1))) (lq2 (m_MD_unreachable_B23 F (sc y 0 0) a1 (fun v2_23 v3_23 => (some (v3_23, (sc y 0 0)))) (fun v2_23 v3_23 => (some ((-1 : Int32), (sc y 0 0))))) m v (nI (i + 1))) (fun a b => b = (a, sc y 0 0)) := fun v hv => hrec (v, nI (i + 1)) (v, nI (i + 1)) hv ⟨rfl, rfl⟩
    show r2 (m_Points_findUnheard_B4 F (x 2) n a1 _ _ (lq2 _ k) a (nI i)) (m_MD_unreachable_B23 F (sc y 0 0) a1 _ _ (lq2 _ m) a (nI i)) _
    rw [m_Points_findUnheard_B4, m_MD_unreachable_B23]
    rw [hp0, show (sc y 0 (0 : Int32)) 1 0 = nI n from hy1, show (nI i + 1 : Int32) = nI (i + 1) from nI_add i 1]
    refine r2_l (rT_if (fun g => rT_some (rT_ip g (rT_some rfl))) (fun g => ?_))
    have hi' : i < n := Nat.lt_of_not_le (fun q => g ((nI_leI (by omega) (by omega)).mpr q))
    rw [nI_clamp (by omega), (hpt i hi').2.2.2.2.2]
    have hq := q_isHeard (y := sc y 0 0) hF hn2 hi' hL'
    refine rT_ck (vin hi') (rT_if (fun g1 => ?_) (fun g1 => rT_if (fun g2 => rT_some (rT_in g (bt hq (fun c => rT_i0 (rT_ip g2 (rT_some rfl))) (fun c => absurd c (tf_nz rfl g1))))) (fun g2 => ?_)))
    · refine r2_tl (r2_r (rT_in g (bt hq (fun c => absurd c (tf_zz rfl g1)) (fun c => rT_i1 (r2_tr (hrec a hi'))))))
    · refine r2_tl (r2_r (rT_in g (bt hq (fun c => rT_i0 (rT_in g2 (r2_tr (hrec (a + 1) hi')))) (fun c => absurd c (tf_nz rfl g1)))))
  obtain ⟨o1, o2, g1, g2, g3⟩ := hh
  refine rT_e1 g1 (rT_some (rT_in (Int32.not_lt.mpr c) (go1 (rT_i1 (rT_eq g2 ?_)))))
  rw [g3]
  exact ⟨Or.inl rfl, rfl, fun _ => rfl, Rel_code hR0⟩
-- a point comes into a loop
theorem e_addL {F s : Nat} {q : St} {v : Int32} (h2 : q 2 0 = nI s) (hs : s < 40) : m_Loop_add F q v = some (sc (st q 0 (upd (q 0) s v)) 2 (nI (s + 1))) := by
  unfold m_Loop_add
  rw [h2, if_neg (fun z => by have := (nI_leI (a := 40) (by omega) (by omega)).mp z; omega), ck_in (vin hs), nI_clamp (by omega)]
  show some (sc (st q 0 (upd (q 0) s v)) 2 (q 2 0 + 1)) = _
  rw [h2]
  exact congrArg (fun w => some (sc (st q 0 (upd (q 0) s v)) 2 w)) (nI_add s 1)
theorem e_putInLoop {F n i : Nat} {p : St} (hi : i < n) (hn : n ≤ 200) : m_Points_putInLoop F p n (nI i) = some (st p 4 (upd (p 4) i 1)) := by
  unfold m_Points_putInLoop
  rw [ck_in (vin hi), nI_clamp (by omega), vb1]; rfl
theorem e_isInLoop {F n i : Nat} {p y : St} (hP : rPt n p y) (hi : i < n) : rT (m_Points_isInLoop F p n (nI i)) (fun r => r = tf (¬ y 6 i < 0)) := by
  have h4 := (hP.2.2.2 i hi).2.2.2.2.1
  have hn := hP.1.2
  unfold m_Points_isInLoop
  rw [nI_clamp (by omega), h4]
  exact rT_ck (vin hi) (rT_ckb (tf_b _) (rT_some rfl))
theorem s_loop (F : Nat) : sim_loop F Rel := by
  intro x n y a1 a2 hR
  have hR0 := hR
  obtain ⟨hT, hP, hL, hE, hZ, hA, hB, hO, hW, hN⟩ := hR
  have hP0 := hP
  obtain ⟨⟨hn1, hn2⟩, hp0, hy1, hpt⟩ := hP
  by_cases hc : isP 8 a1
  · left
    obtain ⟨j, hj, rfl⟩ := hc
    have hL1 : rL1 n j (x (10 + j)) y := hL.1 j hj
    obtain ⟨s, hs, h2, h8, hm, hcc, hz, ha, hb⟩ := hL1
    have hself : ∀ v : Int32, Rel (up (up x 2 (x 2)) (10 + j) (x (10 + j))) n (sc y 0 v) := by
      intro v
      have e0 : up (up x 2 (x 2)) (10 + j) (x (10 + j)) = x := by rw [up_self, up_self]
      rw [e0]; exact Rel_code hR0
    have hH : r2 (m_AM_loop F (x 0) (x (10 + j)) (x 2) n j a2) (m_MD_loop F y (nI j) a2) (fun o1 o2 => (o1.1 = 0 ∨ o1.1 = 1 ∨ o1.1 = 2) ∧ o2.2 0 0 = nI o1.1 ∧ (o1.1 = 0 → o1.2.1 = o2.1) ∧ Rel (up (up x 2 (o1.2.2.2)) (10 + j) (o1.2.2.1)) n o2.2) := by
      refine r2_l ?_
      unfold m_AM_loop m_MD_loop
      refine bz (p_isLoop F (nI j)) (fun hd => absurd ⟨j, hj, rfl⟩ hd) (fun _ => ?_)
      refine bz (p_isPoint hP0 F a2) (fun hc => rT_some ?_) (fun hc => ?_)
      · refine bz (q_isLoop F (nI j)) (fun hd => absurd ⟨j, hj, rfl⟩ hd) (fun _ => bz (q_isPoint hP0 F a2) (fun hd => rT_i0 ?_) (fun hd => absurd hd hc))
        unfold m_MD_loop_J52
        exact go0 (rT_i0 (rT_some ⟨Or.inr (Or.inl rfl), rfl, fun h => absurd h (Nat.succ_ne_zero _), hself 1⟩))
      obtain ⟨p, hp, rfl⟩ := hc
      refine bz (e_isInLoop hP0 hp) (fun hc => ?_) (fun hc => rT_some ?_)
      · have hc : y 6 p < 0 := Classical.byContradiction hc
        rw [show m_Loop_isFull F (x (10 + j)) = (if nI s < (40 : Int32) then some 0 else some 1) from by unfold m_Loop_isFull; rw [h2]]
        by_cases hs40 : s < 40
        · rw [if_pos (show _ < (40 : Int32) from (nI_ltI (b := 40) (by omega) (by omega)).mpr hs40)]
          refine rT_ck (vin hj) (rT_e1 rfl (rT_i0 (rT_ck (vin hj) (rT_e1 (e_addL h2 hs40) (rT_e1 (e_putInLoop hp hn2) (rT_ck (vin hj) (rT_e1 rfl (rT_some ?_))))))))
          refine bz (q_isLoop F (nI j)) (fun hd => absurd ⟨j, hj, rfl⟩ hd) (fun _ => bz (q_isPoint hP0 F (nI p)) (fun hd => absurd ⟨p, hp, rfl⟩ hd) (fun hd => rT_i1 ?_))
          rw [nI_clamp (show p < 2 ^ 31 by omega), nI_clamp (show j < 2 ^ 31 by omega), h8]
          refine rT_ck (vin (by omega)) (rT_in (Int32.not_le.mpr hc) (rT_ck (vin hj) (rT_in (fun z => by have := (nI_leI (a := 40) (by omega) (by omega)).mp z; omega) ?_)))
          unfold m_MD_loop_J52
          have ei : ((40 : Int32) * nI j + nI s) = nI (40 * j + s) := by
            rw [show (40 : Int32) = nI 40 from rfl, pk_mul, nI_add]
          refine go1 (rT_i1 ?_)
          rw [nI_clamp (show p < 2 ^ 31 by omega), nI_clamp (show j < 2 ^ 31 by omega)]
          refine rT_ck (vin (by omega)) (rT_lz (rT_ck (vin hj) (rT_ck (vin (by omega)) (rT_lz (rT_ck (vin hj) ?_)))))
          show rT (ck ((40 : Int32) * nI j + y 8 j) 320 (lz (st (st (st (sc y 0 0) 6 (upd (y 6) p (nI j))) 7 (upd (y 7) p (y 8 j))) 9 (upd (y 9) ((40 : Int32) * nI j + y 8 j).toNatClampNeg (nI p))) _)) _
          rw [h8, ei, nI_clamp (by omega)]
          refine rT_ck (vin (by omega)) (rT_lz (rT_ck (vin hj) (rT_ck (vin hj) (rT_lz (rT_ck (vin hj) (rT_some ?_))))))
          have e8 : (st (st (st (sc y 0 (0 : Int32)) 6 (upd (y 6) p (nI j))) 7 (upd (y 7) p (nI s))) 9 (upd (y 9) (40 * j + s) (nI p))) 8 j + 1 = nI (s + 1) := by
            show y 8 j + 1 = nI (s + 1)
            rw [h8]; exact nI_add s 1
          rw [e8]
          refine ⟨Or.inl rfl, rfl, fun _ => ?_, Rel_mk2 hT ⟨⟨hn1, hn2⟩, hp0, hy1, fun k hk => ?_⟩ ⟨fun j' hj' => ?_, fun k hk hk6 => ?_⟩ hE hZ hA hB hO hW hN⟩
          · show nI (s + 1) = upd (y 8) j (nI (s + 1)) j
            rw [upd_e]
          · obtain ⟨g1, g2, g3, g4, g5, g6⟩ := hpt k hk
            refine ⟨g1, g2, g3, g4, ?_, ?_⟩
            · show upd (x 2 4) p 1 k = tf (¬ upd (y 6) p (nI j) k < 0)
              by_cases e : k = p
              · subst e; rw [upd_e, upd_e]; exact (tf_p (n0 (by omega))).symm
              · rw [upd_n e, upd_n e]; exact g5
            · show x 2 5 k = _
              rw [g6]
              refine tf_c (not_congr ?_)
              by_cases e : k = p
              · subst e
                refine ⟨fun _ => Or.inr (Or.inr ?_), fun _ => Or.inl hc⟩
                show ∀ m : Nat, (upd (y 7) k (nI s) k).toNatClampNeg < m → m < 41 → y 10 (41 * (upd (y 6) k (nI j) k).toNatClampNeg + m) = 0
                rw [upd_e, upd_e, nI_clamp (by omega), nI_clamp (by omega)]
                exact hz
              · show Hd y k ↔ (upd (y 6) p (nI j) k < 0 ∨ (∀ m : Nat, m ≤ (upd (y 7) p (nI s) k).toNatClampNeg → y 10 (41 * (upd (y 6) p (nI j) k).toNatClampNeg + m) = 0) ∨ (∀ m : Nat, (upd (y 7) p (nI s) k).toNatClampNeg < m → m < 41 → y 10 (41 * (upd (y 6) p (nI j) k).toNatClampNeg + m) = 0))
                rw [upd_n e, upd_n e]; exact Iff.rfl
          · show rL1 n j' (up (up x 2 (st (x 2) 4 (upd (x 2 4) p 1))) (10 + j) (sc (st (x (10 + j)) 0 (upd (x (10 + j) 0) s (nI p))) 2 (nI (s + 1))) (10 + j')) _
            by_cases ej : j' = j
            · subst ej
              rw [up_e]
              refine ⟨s + 1, by omega, rfl, ?_, fun k hk => ?_, hcc, fun k hk hk' => hz k (by omega) hk', ha, hb⟩
              · show upd (y 8) j' (nI (s + 1)) j' = nI (s + 1)
                rw [upd_e]
              · show ∃ p' : Nat, p' < n ∧ upd (y 9) (40 * j' + s) (nI p) (40 * j' + k) = nI p' ∧ upd (x (10 + j') 0) s (nI p) k = nI p' ∧ upd (y 6) p (nI j') p' = nI j' ∧ upd (y 7) p (nI s) p' = nI k
                by_cases ek : k = s
                · subst ek
                  exact ⟨p, hp, by rw [upd_e], by rw [upd_e], by rw [upd_e], by rw [upd_e]⟩
                · obtain ⟨p', hp', f1, f2, f3, f4⟩ := hm k (by omega)
                  have ne : p' ≠ p := by
                    intro e; subst e; rw [f3] at hc; exact n0 (by omega) hc
                  exact ⟨p', hp', by rw [upd_n (by omega)]; exact f1, by rw [upd_n ek]; exact f2, by rw [upd_n ne]; exact f3, by rw [upd_n ne]; exact f4⟩
            · rw [up_n (by omega), up_n (by omega)]
              obtain ⟨s', hs', k2, k8, km, kcc, kz, ka, kb⟩ := hL.1 j' hj'
              refine ⟨s', hs', k2, ?_, fun k hk => ?_, kcc, kz, ka, kb⟩
              · show upd (y 8) j (nI (s + 1)) j' = nI s'
                rw [upd_n ej]; exact k8
              · show ∃ p' : Nat, p' < n ∧ upd (y 9) (40 * j + s) (nI p) (40 * j' + k) = nI p' ∧ x (10 + j') 0 k = nI p' ∧ upd (y 6) p (nI j) p' = nI j' ∧ upd (y 7) p (nI s) p' = nI k
                obtain ⟨p', hp', f1, f2, f3, f4⟩ := km k hk
                have ne : p' ≠ p := by
                  intro e; subst e; rw [f3] at hc; exact n0 (by omega) hc
                exact ⟨p', hp', by rw [upd_n (by omega)]; exact f1, f2, by rw [upd_n ne]; exact f3, by rw [upd_n ne]; exact f4⟩
          · have hk6 : ¬ upd (y 6) p (nI j) k < 0 := hk6
            show ∃ j' k' s' : Nat, j' < 8 ∧ upd (y 6) p (nI j) k = nI j' ∧ upd (y 7) p (nI s) k = nI k' ∧ upd (y 8) j (nI (s + 1)) j' = nI s' ∧ k' < s' ∧ s' ≤ 40 ∧ upd (y 9) (40 * j + s) (nI p) (40 * j' + k') = nI k
            by_cases e : k = p
            · subst e
              exact ⟨j, s, s + 1, hj, by rw [upd_e], by rw [upd_e], by rw [upd_e], by omega, by omega, by rw [upd_e]⟩
            · rw [upd_n e] at hk6
              obtain ⟨j', k', s', f1, f2, f3, f4, f5, f6, f7⟩ := hL.2 k hk hk6
              by_cases ej : j' = j
              · subst ej
                have es : s' = s := (nI_eq (by omega) (by omega)).mp (f4.symm.trans h8)
                subst es
                exact ⟨j', k', s' + 1, f1, by rw [upd_n e]; exact f2, by rw [upd_n e]; exact f3, by rw [upd_e], by omega, by omega, by rw [upd_n (by omega)]; exact f7⟩
              · exact ⟨j', k', s', f1, by rw [upd_n e]; exact f2, by rw [upd_n e]; exact f3, by rw [upd_n ej]; exact f4, f5, f6, by rw [upd_n (by omega)]; exact f7⟩
        · rw [if_neg (show ¬ nI s < (40 : Int32) from fun z => hs40 ((nI_ltI (b := 40) (by omega) (by omega)).mp z))]
          refine rT_ck (vin hj) (rT_e1 rfl (rT_i1 (rT_some ?_)))
          refine bz (q_isLoop F (nI j)) (fun hd => absurd ⟨j, hj, rfl⟩ hd) (fun _ => bz (q_isPoint hP0 F (nI p)) (fun hd => absurd ⟨p, hp, rfl⟩ hd) (fun hd => rT_i1 ?_))
          rw [nI_clamp (show p < 2 ^ 31 by omega), nI_clamp (show j < 2 ^ 31 by omega), h8]
          refine rT_ck (vin (by omega)) (rT_in (Int32.not_le.mpr hc) (rT_ck (vin hj) (rT_ip ((nI_leI (a := 40) (by omega) (by omega)).mpr (by omega)) ?_)))
          unfold m_MD_loop_J52
          exact go2 (rT_i0 (rT_some ⟨Or.inr (Or.inr rfl), rfl, fun h => absurd h (Nat.succ_ne_zero _), hself 2⟩))
      · refine bz (q_isLoop F (nI j)) (fun hd => absurd ⟨j, hj, rfl⟩ hd) (fun _ => bz (q_isPoint hP0 F (nI p)) (fun hd => absurd ⟨p, hp, rfl⟩ hd) (fun hd => rT_i1 ?_))
        rw [nI_clamp (show p < 2 ^ 31 by omega)]
        refine rT_ck (vin (by omega)) (rT_ip (Int32.not_lt.mp hc) ?_)
        unfold m_MD_loop_J52
        exact go2 (rT_i0 (rT_some ⟨Or.inr (Or.inr rfl), rfl, fun h => absurd h (Nat.succ_ne_zero _), hself 2⟩))
    obtain ⟨o1, o2, g1, g2, g3⟩ := hH
    exact ⟨j, o1, o2, hj, rfl, g1, g2, g3⟩
  · right
    refine r2_l ?_
    unfold m_AM_loop_x m_MD_loop
    refine bz (p_isLoop F a1) (fun _ => rT_some ?_) (fun hd => absurd hd hc)
    refine bz (q_isLoop F a1) (fun _ => rT_i0 ?_) (fun hd => absurd hd hc)
    unfold m_MD_loop_J52
    exact go0 (rT_i0 (rT_some ⟨Or.inr (Or.inl rfl), rfl, fun h => absurd h (Nat.succ_ne_zero _), Rel_code hR0⟩))
-- a cut
theorem p_findEnds {F : Nat} {q : St} (hF : 100000 ≤ F) : rT (m_Loop_findEnds F q) (fun z => z 0 = q 0 ∧ z 1 = q 1 ∧ z 2 = q 2 ∧ (∀ k : Nat, k < 41 → (nI k < z 3 0 ↔ ∀ i : Nat, i ≤ k → q 1 i = 0)) ∧ (∀ k : Nat, k < 41 → (z 4 0 ≤ nI k ↔ ∀ i : Nat, k < i → i < 41 → q 1 i = 0))) := by
  unfold m_Loop_findEnds
  refine rT_lz (rT_lz ?_)
  refine rT_lq2 41 (fun i v z => v = nI i ∧ z 0 = q 0 ∧ z 1 = q 1 ∧ z 2 = q 2 ∧ ((z 3 0 = nI 41 ∧ z 4 0 = -nI 1 ∧ ∀ m : Nat, m < i → q 1 m = 0) ∨ ∃ a b : Nat, a ≤ b ∧ b < i ∧ z 3 0 = nI a ∧ z 4 0 = nI b ∧ ¬ q 1 a = 0 ∧ ¬ q 1 b = 0 ∧ (∀ m : Nat, m < a → q 1 m = 0) ∧ (∀ m : Nat, b < m → m < i → q 1 m = 0))) ?_ F 0 0 _ (by omega) (by omega) ⟨rfl, rfl, rfl, rfl, Or.inl ⟨rfl, rfl, fun m hm => by omega⟩⟩
  intro i r v z hi hI hrec
  obtain ⟨ev, z0', z1', z2', hI⟩ := hI
  subst ev
  unfold m_Loop_findEnds_B16
  rw [nI_clamp (by omega), show (nI i + 1 : Int32) = nI (i + 1) from nI_add i 1]
  refine rT_if (fun g => rT_some ⟨z0', z1', z2', ?_, ?_⟩) (fun g => ?_)
  · have : i = 41 := by have := (nI_leI (a := 41) (by omega) (by omega)).mp g; omega
    subst this
    intro k hk
    rcases hI with ⟨h3, h4, h0⟩ | ⟨a, b, hab, hb, h3, h4, ha0, hb0, hlo, hhi⟩
    · rw [h3, nI_ltI (by omega) (by omega)]
      exact ⟨fun _ m hm => h0 m (by omega), fun _ => hk⟩
    · rw [h3, nI_ltI (by omega) (by omega)]
      refine ⟨fun hka m hm => hlo m (by omega), fun hz => ?_⟩
      exact Nat.lt_of_not_le (fun q => ha0 (hz a q))
  · have : i = 41 := by have := (nI_leI (a := 41) (by omega) (by omega)).mp g; omega
    subst this
    intro k hk
    rcases hI with ⟨h3, h4, h0⟩ | ⟨a, b, hab, hb, h3, h4, ha0, hb0, hlo, hhi⟩
    · rw [h4]
      exact ⟨fun _ m _ hm => h0 m (by omega), fun _ => (nm_6 (by omega)).mpr trivial⟩
    · rw [h4, nI_leI (by omega) (by omega)]
      refine ⟨fun hbk m hm hm' => hhi m (by omega) hm', fun hz => ?_⟩
      exact Nat.le_of_not_lt (fun q => hb0 (hz b q (by omega)))
  have hi' : i < 41 := Nat.lt_of_not_le (fun q => g ((nI_leI (a := 41) (by omega) (by omega)).mpr q))
  rw [z1']
  refine rT_ck (vin hi') (rT_if (fun c => hrec _ _ hi' ⟨rfl, z0', z1', z2', ?_⟩) (fun c => rT_lz (rT_lz (hrec _ _ hi' ⟨rfl, z0', z1', z2', Or.inr ?_⟩))))
  · rcases hI with ⟨h3, h4, h0⟩ | ⟨a, b, hab, hb, h3, h4, ha0, hb0, hlo, hhi⟩
    · refine Or.inl ⟨h3, h4, fun m hm => ?_⟩
      by_cases e : m = i
      · subst e; exact c
      · exact h0 m (by omega)
    · refine Or.inr ⟨a, b, hab, by omega, h3, h4, ha0, hb0, hlo, fun m hm hm' => ?_⟩
      by_cases e : m = i
      · subst e; exact c
      · exact hhi m hm (by omega)
  · rcases hI with ⟨h3, h4, h0⟩ | ⟨a, b, hab, hb, h3, h4, ha0, hb0, hlo, hhi⟩
    · refine ⟨i, i, by omega, by omega, ?_, rfl, c, c, h0, fun m hm hm' => by omega⟩
      show (if nI i < z 3 0 then nI i else z 3 0) = nI i
      rw [h3, if_pos ((nI_ltI (by omega) (by omega)).mpr hi')]
    · refine ⟨a, i, by omega, by omega, ?_, rfl, ha0, c, hlo, fun m hm hm' => by omega⟩
      show (if nI i < z 3 0 then nI i else z 3 0) = nI a
      rw [h3, if_neg (fun q => by have := (nI_ltI (by omega) (by omega)).mp q; omega)]

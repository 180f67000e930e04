-- RESET, AND A PERSON
theorem release_J {F n rr c : Nat} {q : Nat → St} {y0 a0 : St} {g : Nat → Nat} {now : Int32} (hF : 100000 ≤ F) (hcx : Cx n rr q y0) (hA : rAs 0 a0 y0) (hnow : y0 2 0 = now) (hc20 : c ≤ 20) (a6 : a0 6 0 = nI c) (a5 : ∀ k : Nat, k < c → a0 5 k = nI (g k)) (hg : ∀ k : Nat, k < c → g k < 20 ∧ y0 22 (g k) = 1) (hs : ∀ r s : Nat, r < s → s < c → so y0 0 (g r) (g s)) (hall : ∀ b : Nat, b < 20 → ¬ y0 22 b = 0 → ∃ k : Nat, k < c ∧ g k = b) (hcal : ∀ b : Nat, b < 20 → a0 11 b = tf (Cal y0 0 b) ∧ a0 12 b = tf (Cal y0 1 b))
    (e0 : St) (r64 : Int32) (hB : rAd a0 y0) (hE : rEv e0 y0) (hr : (0 < c ∧ r64 = nI (g 0)) ∨ (c ≤ 0 ∧ r64 = -1)) : r2 (m_Acts_release F a0 e0 now) (lq4 (m_MD_reset_B15 F (fun v1_15 v2_15 v3_15 y0_15 => (some (v1_15, y0_15)))) F (0 : Int32) r64 (1 : Int32) y0) (fun o1 o2 => o1.1 = o2.1 ∧ Fdy y0 o2.2 ∧ Fa a0 o1.2.1 ∧ rAd o1.2.1 o2.2 ∧ rEv o1.2.2 o2.2) := by
  unfold m_Acts_release
  refine rT_J (A := Int32 × Int32 × St × St) (B := Int32 × Int32 × Int32 × St) (r := fun m A => lq4 (m_Acts_release_B5 F now (fun v3_5 v4_5 y0_5 y1_5 => (some (v3_5, y0_5, y1_5)))) m A.1 A.2.1 A.2.2.1 A.2.2.2) (s := fun m B => lq4 (m_MD_reset_B15 F (fun v1_15 v2_15 v3_15 y0_15 => (some (v1_15, y0_15)))) m B.1 B.2.1 B.2.2.1 B.2.2.2) c (fun i A B => A.2.1 = nI i ∧ B.2.2.1 = nI (i + 1) ∧ B.1 = A.1 ∧ ((i < c ∧ B.2.1 = nI (g i)) ∨ (c ≤ i ∧ B.2.1 = -1)) ∧ Fdy y0 B.2.2.2 ∧ Fa a0 A.2.2.1 ∧ rAd A.2.2.1 B.2.2.2 ∧ rEv A.2.2.2 B.2.2.2) ?_ F F 0 (0, 0, a0, e0) (0, r64, 1, y0) (by omega) (by omega) (by omega) ⟨rfl, rfl, rfl, hr, fun _ _ => rfl, fun _ _ _ _ _ => rfl, hB, hE⟩
  intro i m1 m2 A B hi hI hrec
  obtain ⟨v3, v4, a, e⟩ := A
  obtain ⟨w2, w4, w5, y⟩ := B
  dsimp only at hI
  obtain ⟨i1, i2, i3, i4, hfd, hfa, hB1, hE1⟩ := hI
  have i1 : v4 = nI i := i1
  have i2 : w5 = nI (i + 1) := i2
  have i3 : w2 = v3 := i3
  have i4 : (i < c ∧ w4 = nI (g i)) ∨ (c ≤ i ∧ w4 = -1) := i4
  have hfd : Fdy y0 y := hfd
  have hfa : Fa a0 a := hfa
  have hB1 : rAd a y := hB1
  have hE1 : rEv e y := hE1
  subst i1 i2 i3
  show r2 (m_Acts_release_B5 F now _ (lq4 _ m1) w2 (nI i) a e) (m_MD_reset_B15 F _ (lq4 _ m2) w2 w4 (nI (i + 1)) y) _
  have f6 : a 6 0 = nI c := by rw [hfa 6 (by omega) (by omega) (by omega) (by omega)]; exact a6
  rw [m_Acts_release_B5, m_MD_reset_B15]
  rw [f6]
  rcases i4 with ⟨hic, e4⟩ | ⟨hic, e4⟩
  · subst e4
    obtain ⟨hb, ht0⟩ := hg i hic
    have f5 : a 5 i = nI (g i) := by rw [hfa 5 (by omega) (by omega) (by omega) (by omega)]; exact a5 i hic
    have ht : y 22 (g i) = 1 := by rw [hfd 22 (by omega)]; exact ht0
    have hy2 : y 2 0 = now := by rw [hfd 2 (by omega)]; exact hnow
    have f11 : a 11 (g i) = tf (Cal y0 0 (g i)) := by rw [hfa 11 (by omega) (by omega) (by omega) (by omega)]; exact (hcal _ hb).1
    have f4 : a 4 (g i) = y 26 (g i) := by
      rw [hfa 4 (by omega) (by omega) (by omega) (by omega), hfd 26 (by omega)]
      rcases hA (g i) hb with ⟨h1, _⟩ | ⟨_, h2⟩
      · exact absurd (ht0.symm.trans h1) n10
      · exact h2.2.1
    obtain ⟨f7, hst⟩ := (hB1 (g i) hb).2 ht
    have e1 : (nI (i + 1) + 1 : Int32) = nI (i + 1 + 1) := nI_add (i + 1) 1
    have hnext : ∀ (v : Int32) (a' e' y' : St), Fdy y0 y' → Fa a0 a' → rAd a' y' → rEv e' y' → rT (bn1 (m_MD_rankedOne F y' (nI (i + 1))) (fun r63 => (lq4 (m_MD_reset_B15 F (fun v1_15 v2_15 v3_15 y0_15 => (some (v1_15, y0_15)))) m2 v r63 (nI (i + 1 + 1)) y'))) (fun b => rT (lq4 (m_Acts_release_B5 F now (fun v3_5 v4_5 y0_5 y1_5 => (some (v3_5, y0_5, y1_5)))) m1 v (nI (i + 1)) a' e') (fun x => x.1 = b.1 ∧ Fdy y0 b.2 ∧ Fa a0 x.2.1 ∧ rAd x.2.1 b.2 ∧ rEv x.2.2 b.2)) := by
      intro v a' e' y' h1 h2 h3 h4
      refine rT_bn1 (ranked_fd (F := F) (p := i + 1) hF (by omega) h1 hg hs hall) (fun r89 h89 => ?_)
      exact r2_tr (hrec (v, nI (i + 1), a', e') (v, r89, nI (i + 1 + 1), y') hic ⟨rfl, rfl, rfl, h89, h1, h2, h3, h4⟩)
    have hq0 := q_called (b := g i) hF hcx hfd 0
    rw [nI_clamp (by omega), f5, nI_clamp (by omega), f4, f7, f11, show (nI i + 1 : Int32) = nI (i + 1) from nI_add i 1, e1]
    refine r2_l (rT_in (fun z => by have := (nI_leI (by omega) (by omega)).mp z; omega) (rT_ck (vin (by omega)) (rT_ck (vin hb) ?_)))
    refine rT_if (fun h26 => ?_) (fun h26 => rT_ck (vin hb) (rT_if (fun h32 => rT_ck (vin hb) (rT_if (fun hc => ?_) (fun hc => ?_))) (fun h32 => ?_)))
    · exact r2_tl (r2_r (rT_in (n0 (by omega)) (rT_ck (vin (by omega)) (rT_ip h26 (hnext w2 a e y hfd hfa hB1 hE1)))))
    · obtain ⟨e', y', t1, t2, t3, t4⟩ := q_tell (y := rs4 y (g i)) (e := e) hF hE1 (nI (g i)) 0
      have t1 : m_Events_add F e now (nI (g i)) 0 = some e' := by rw [← hy2]; exact t1
      refine rT_ck (vin hb) (rT_lz (rT_e1 t1 ?_))
      refine r2_tl (r2_r (rT_in (n0 (by omega)) (rT_ck (vin (by omega)) (rT_in h26 (rT_ck (vin hb) (rT_ip h32 (bz hq0 (fun d => rT_e1 (e_rests hb) (rT_e1 t2 (hnext (w2 + 1) (st a 7 (upd (a 7) (g i) 0)) e' y' ?_ ?_ ?_ t3))) (fun d => absurd d (tf_0.mp hc)))))))))
      · intro f hf
        rw [t4 f (by omega)]
        unfold rs4
        rw [st_n (by omega), st_n (by omega), st_n (by omega), st_n (by omega)]
        exact hfd f hf
      · intro f g7 g8 g9 g10
        rw [st_n g7]; exact hfa f g7 g8 g9 g10
      · refine Ad_up (b := g i) hB1 (fun j hj => ?_) ?_ ht ?_
        · rw [t4 32 (by omega), t4 33 (by omega), t4 34 (by omega), t4 35 (by omega)]
          show upd (a 7) (g i) 0 j = a 7 j ∧ a 8 j = a 8 j ∧ a 9 j = a 9 j ∧ a 10 j = a 10 j ∧ upd (y 32) (g i) 0 j = y 32 j ∧ upd (y 33) (g i) (-1) j = y 33 j ∧ upd (y 34) (g i) 0 j = y 34 j ∧ upd (y 35) (g i) 0 j = y 35 j
          rw [upd_n hj, upd_n hj, upd_n hj, upd_n hj, upd_n hj]
          exact ⟨rfl, rfl, rfl, rfl, rfl, rfl, rfl, rfl⟩
        · rw [t4 22 (by omega)]; rfl
        · rw [t4 32 (by omega), t4 33 (by omega), t4 34 (by omega), t4 35 (by omega)]
          show upd (a 7) (g i) 0 (g i) = upd (y 32) (g i) 0 (g i) ∧ ((upd (y 32) (g i) 0 (g i) = 1 ∧ a 8 (g i) = upd (y 33) (g i) (-1) (g i) ∧ a 9 (g i) = upd (y 34) (g i) 0 (g i) ∧ a 10 (g i) = upd (y 35) (g i) 0 (g i)) ∨ ((upd (y 32) (g i) 0 (g i) = 0 ∨ upd (y 32) (g i) 0 (g i) = 2) ∧ upd (y 33) (g i) (-1) (g i) = -1 ∧ upd (y 34) (g i) 0 (g i) = 0 ∧ upd (y 35) (g i) 0 (g i) = 0))
          rw [upd_e, upd_e, upd_e, upd_e, upd_e]
          exact ⟨rfl, Or.inr ⟨Or.inl rfl, rfl, rfl, rfl⟩⟩
    · exact r2_tl (r2_r (rT_in (n0 (by omega)) (rT_ck (vin (by omega)) (rT_in h26 (rT_ck (vin hb) (rT_ip h32 (bz hq0 (fun d => absurd (tf_n d) hc) (fun d => hnext w2 a e y hfd hfa hB1 hE1))))))))
    · exact r2_tl (r2_r (rT_in (n0 (by omega)) (rT_ck (vin (by omega)) (rT_in h26 (rT_ck (vin hb) (rT_in h32 (hnext w2 a e y hfd hfa hB1 hE1)))))))
  · subst e4
    exact r2_l (rT_ip ((nI_leI (by omega) (by omega)).mpr hic) (rT_some (rT_ip m1neg (rT_some ⟨rfl, hfd, hfa, hB1, hE1⟩))))
theorem s_reset (F : Nat) (hF : 100000 ≤ F) : sim_reset F Rel := by
  intro x n y hR
  have hR0 := hR
  obtain ⟨hT, hP, hL, hE, hZ, hA, hB, hO, hW, hN⟩ := hR
  have hN0 := hN
  obtain ⟨t, ht, ht1, ht2⟩ := hN
  have e62 : x 0 6 0 = y 2 0 := ht1.trans ht2.symm
  have hn2 : n ≤ 200 := hP.1.2
  have hW0 := hW
  obtain ⟨rr, hrr, p5, e27, hrow⟩ := hW
  have hcx : Cx n rr (fun j => x (10 + j)) (sc y 0 0) := ⟨hn2, hL, e27, hrr, fun k hk => rw1_of (y := sc y 0 0) hZ (hrow k hk)⟩
  refine r2_l ?_
  unfold m_AM_reset m_MD_reset
  rw [e62]
  refine rT_bn2 (p_planlook (y := sc y 0 0) hF hP hZ hW0) (fun a1 z1 hl => ?_)
  obtain ⟨fa, ca, fz, cz⟩ := hl
  have kA : rAs 0 a1 (sc y 0 0) := As_fr (y := sc y 0 0) hA fa
  have kB : rAd a1 (sc y 0 0) := Ad_fr (y := sc y 0 0) hB fa
  have kO : rOr 0 a1 (sc y 0 0) := Or_fr (y := sc y 0 0) hO fa
  have kZ : rZn n 0 z1 (sc y 0 0) := Zn_fr (y := sc y 0 0) hZ fz
  obtain ⟨c, g, hc20, a6, a5, hg, hs, hall⟩ := or_hyps kA kO
  have hrk : rT (m_MD_rankedOne F (sc y 0 0) 0) (fun r => (0 < c ∧ r = nI (g 0)) ∨ (c ≤ 0 ∧ r = -1)) := q_ranked (F := F) (p := 0) (y := sc y 0 0) hF (by omega) hg hs hall
  obtain ⟨r64, hr1, hr2⟩ := hrk
  obtain ⟨o1, o2, q1, q2, q3, q4, q5, q6, q7⟩ := release_J (n := n) (rr := rr) (q := fun j => x (10 + j)) (y0 := sc y 0 0) (a0 := a1) (g := g) (now := y 2 0) hF hcx kA rfl hc20 a6 a5 hg hs hall ca (x 4) r64 kB hE hr2
  obtain ⟨v, a, e⟩ := o1
  refine rT_e3 q1 (rT_some (rT_lz (rT_e1 hr1 (rT_eq q2 ⟨q3, ?_⟩))))
  have q4 : Fdy (sc y 0 0) o2.2 := q4
  have q5 : Fa a1 a := q5
  exact ⟨Tx_fd (y0 := sc y 0 0) hT q4, Pt_fd (y0 := sc y 0 0) hP q4, Lp_up (Lp_up (Lp_up (Lp_fd (y0 := sc y 0 0) hL q4) (by omega)) (by omega)) (by omega), q7, Zn_fd kZ q4, As_fd kA q4 q5, q6, Or_fd kO q4 q5, Rw_fd (y0 := sc y 0 0) hW0 q4, Nw_fd (y0 := sc y 0 0) hN0 q4⟩
theorem Rel_fd {x : Nat → St} {n : Nat} {y y' a' : St} (hR : Rel x n y) (hfd : Fdy (sc y 0 0) y') (hfa : Fa (x 7) a') (hB' : rAd a' y') (hE' : rEv (x 4) y') : Rel (up x 7 a') n y' := by
  obtain ⟨hT, hP, hL, hE, hZ, hA, hB, hO, hW, hN⟩ := hR
  exact ⟨Tx_fd (y0 := sc y 0 0) hT hfd, Pt_fd (y0 := sc y 0 0) hP hfd, Lp_up (Lp_fd (y0 := sc y 0 0) hL hfd) (by omega), hE', Zn_fd (y0 := sc y 0 0) hZ hfd, As_fd (y0 := sc y 0 0) hA hfd hfa, hB', Or_fd (y0 := sc y 0 0) hO hfd hfa, Rw_fd (y0 := sc y 0 0) hW hfd, Nw_fd (y0 := sc y 0 0) hN hfd⟩
def Fp (y0 y : St) : Prop := ∀ f : Nat, f < 33 ∨ 35 < f → y f = y0 f
theorem Fp_d {y0 y : St} (h : Fp y0 y) : Fdy y0 y := fun f hf => h f (by omega)
theorem Ev_fp {e y0 y : St} (h : rEv e y0) (f : Fp y0 y) : rEv e y := by
  unfold rEv at h ⊢
  rw [f 36 (by omega), f 37 (by omega), f 38 (by omega), f 39 (by omega)]
  exact h
theorem q_J126 {R : Type} {F i : Nat} {K r : Int32 → Int32 → St → Option R} {v : Int32} {t : St} : m_MD_person_J126 F K r v (nI i) 0 t = r v (nI (i + 1)) t ∧ m_MD_person_J126 F K r v (nI i) 1 t = r (v + 1) (nI (i + 1)) t := by
  unfold m_MD_person_J126
  rw [show (nI i + 1 : Int32) = nI (i + 1) from nI_add i 1, if_pos rfl, if_neg n10, Int32.add_zero]
  exact ⟨rfl, rfl⟩
theorem pers0 {F : Nat} {y0 a0 : St} {now : Int32} (hF : 100000 ≤ F) (hA : rAs 0 a0 y0) (hB : rAd a0 y0) (hnow : y0 2 0 = now) : r2 (m_Acts_waitAnew F a0 now) (lq3 (m_MD_person_B28 F 0 (fun v2_28 v3_28 y0_28 => (some (v2_28, y0_28)))) F (0 : Int32) (0 : Int32) y0) (fun o1 o2 => o1.1 = o2.1 ∧ Fp y0 o2.2 ∧ Fa a0 o1.2 ∧ rAd o1.2 o2.2) := by
  unfold m_Acts_waitAnew
  refine rT_J (A := Int32 × Int32 × St) (B := Int32 × Int32 × St) (r := fun m A => lq3 (m_Acts_waitAnew_B4 F now (fun v2_4 v3_4 y0_4 => (some (v2_4, y0_4)))) m A.1 A.2.1 A.2.2) (s := fun m B => lq3 (m_MD_person_B28 F 0 (fun v2_28 v3_28 y0_28 => (some (v2_28, y0_28)))) m B.1 B.2.1 B.2.2) 20 (fun i A B => A.2.1 = nI i ∧ B.2.1 = nI i ∧ B.1 = A.1 ∧ Fp y0 B.2.2 ∧ Fa a0 A.2.2 ∧ rAd A.2.2 B.2.2) ?_ F F 0 (0, 0, a0) (0, 0, y0) (by omega) (by omega) (by omega) ⟨rfl, rfl, rfl, fun _ _ => rfl, fun _ _ _ _ _ => rfl, hB⟩
  intro i m1 m2 A B hi hI hrec
  obtain ⟨v2, v3, a⟩ := A
  obtain ⟨w2, w3, y⟩ := B
  dsimp only at hI
  obtain ⟨i1, i2, i3, hfp, hfa, hB1⟩ := hI
  have i1 : v3 = nI i := i1
  have i2 : w3 = nI i := i2
  have i3 : w2 = v2 := i3
  have hfp : Fp y0 y := hfp
  have hfa : Fa a0 a := hfa
  have hB1 : rAd a y := hB1
  subst i1 i2 i3
  show r2 (m_Acts_waitAnew_B4 F now _ (lq3 _ m1) w2 (nI i) a) (m_MD_person_B28 F 0 _ (lq3 _ m2) w2 (nI i) y) _
  have hgo : ∀ (v : Int32) (a' y' : St), i < 20 → Fp y0 y' → Fa a0 a' → rAd a' y' → r2 (lq3 (m_Acts_waitAnew_B4 F now (fun v2_4 v3_4 y0_4 => (some (v2_4, y0_4)))) m1 v (nI (i + 1)) a') (lq3 (m_MD_person_B28 F 0 (fun v2_28 v3_28 y0_28 => (some (v2_28, y0_28)))) m2 v (nI (i + 1)) y') (fun o1 o2 => o1.1 = o2.1 ∧ Fp y0 o2.2 ∧ Fa a0 o1.2 ∧ rAd o1.2 o2.2) := fun v a' y' hi' h1 h2 h3 => hrec (v, nI (i + 1), a') (v, nI (i + 1), y') hi' ⟨rfl, rfl, rfl, h1, h2, h3⟩
  rw [m_Acts_waitAnew_B4, m_MD_person_B28]
  by_cases hi20 : 20 ≤ i
  · have hle : (20 : Int32) ≤ nI i := (nI_leI (a := 20) (by omega) (by omega)).mpr hi20
    exact r2_l (rT_ip hle (rT_some (rT_ip hle (rT_some ⟨rfl, hfp, hfa, hB1⟩))))
  have hi' : i < 20 := by omega
  have hnle : ¬ (20 : Int32) ≤ nI i := fun z => hi20 ((nI_leI (a := 20) (by omega) (by omega)).mp z)
  have h22 : y 22 i = y0 22 i := by rw [hfp 22 (by omega)]
  rw [nI_clamp (by omega), show (nI i + 1 : Int32) = nI (i + 1) from nI_add i 1, vb1]
  have hsame : rT (lq3 (m_MD_person_B28 F 0 (fun v2_28 v3_28 y0_28 => (some (v2_28, y0_28)))) m2 w2 (nI (i + 1)) y) (fun b => rT (lq3 (m_Acts_waitAnew_B4 F now (fun v2_4 v3_4 y0_4 => (some (v2_4, y0_4)))) m1 w2 (nI (i + 1)) a) (fun o1 => o1.1 = b.1 ∧ Fp y0 b.2 ∧ Fa a0 o1.2 ∧ rAd o1.2 b.2)) := r2_tr (hgo w2 a y hi' hfp hfa hB1)
  have hJ0 : rT (m_MD_person_J83 F 0 (fun v2_28 v3_28 y0_28 => (some (v2_28, y0_28))) (lq3 (m_MD_person_B28 F 0 (fun v2_28 v3_28 y0_28 => (some (v2_28, y0_28)))) m2) w2 (nI i) 0 y) (fun b => rT (lq3 (m_Acts_waitAnew_B4 F now (fun v2_4 v3_4 y0_4 => (some (v2_4, y0_4)))) m1 w2 (nI (i + 1)) a) (fun o1 => o1.1 = b.1 ∧ Fp y0 b.2 ∧ Fa a0 o1.2 ∧ rAd o1.2 b.2)) := by
    unfold m_MD_person_J83
    rw [q_J126.1]
    exact rT_i0 (rT_i0 hsame)
  refine r2_l (rT_in hnle (rT_ck (vin hi') ?_))
  rcases hA i hi' with ⟨e22, _⟩ | ⟨e22, _⟩
  · have ez : y 22 i = 0 := h22.trans e22
    have a7 : a 7 i = 0 := (hB1 i hi').1 ez
    refine rT_in (by rw [a7]; exact n01) (r2_tl (r2_r (rT_in hnle (rT_ck (vin (by omega)) (rT_ip ez hJ0)))))
  · have e1 : y 22 i = 1 := h22.trans e22
    have en : ¬ y 22 i = 0 := by rw [e1]; exact n10
    obtain ⟨f7, hst⟩ := (hB1 i hi').2 e1
    rw [f7]
    refine rT_if (fun c => rT_ck (vin hi') ?_) (fun c => r2_tl (r2_r (rT_in hnle (rT_ck (vin (by omega)) (rT_in en (rT_ck (vin hi') (rT_in c hJ0)))))))
    rcases hst with ⟨s1, s2, s3, s4⟩ | ⟨s1, s2, s3, s4⟩
    · rw [s3]
      refine rT_if (fun d => ?_) (fun d => r2_tl (r2_r (rT_in hnle (rT_ck (vin (by omega)) (rT_in en (rT_ck (vin hi') (rT_ip c (rT_i0 (rT_ck (vin hi') (rT_in d hJ0))))))))))
      refine rT_ck (vin hi') (rT_lz (rT_ck (vin hi') (rT_lz ?_)))
      refine r2_tl (r2_r (rT_in hnle (rT_ck (vin (by omega)) (rT_in en (rT_ck (vin hi') (rT_ip c (rT_i0 (rT_ck (vin hi') (rT_ip d ?_)))))))))
      unfold m_MD_person_J83
      rw [nI_clamp (by omega), vb1]
      refine rT_i1 (rT_i0 (rT_ck (vin hi') (rT_lz (rT_ck (vin hi') (rT_lz ?_)))))
      rw [q_J126.2]
      refine r2_tr (hgo (w2 + 1) (st (st a 9 (upd (a 9) i 1)) 8 (upd (a 8) i now)) (st (st y 33 (upd (y 33) i (y 2 0))) 34 (upd (y 34) i 1)) hi' ?_ ?_ ?_)
      · intro f hf
        rw [st_n (by omega), st_n (by omega)]; exact hfp f hf
      · intro f g7 g8 g9 g10
        rw [st_n g8, st_n g9]; exact hfa f g7 g8 g9 g10
      · refine Ad_up (b := i) hB1 (fun j hj => ?_) rfl e1 ?_
        · show a 7 j = a 7 j ∧ upd (a 8) i now j = a 8 j ∧ upd (a 9) i 1 j = a 9 j ∧ a 10 j = a 10 j ∧ y 32 j = y 32 j ∧ upd (y 33) i (y 2 0) j = y 33 j ∧ upd (y 34) i 1 j = y 34 j ∧ y 35 j = y 35 j
          rw [upd_n hj, upd_n hj, upd_n hj, upd_n hj]
          exact ⟨rfl, rfl, rfl, rfl, rfl, rfl, rfl, rfl⟩
        · show a 7 i = y 32 i ∧ ((y 32 i = 1 ∧ upd (a 8) i now i = upd (y 33) i (y 2 0) i ∧ upd (a 9) i 1 i = upd (y 34) i 1 i ∧ a 10 i = y 35 i) ∨ _)
          rw [upd_e, upd_e, upd_e, upd_e, hfp 2 (by omega), hnow]
          exact ⟨f7, Or.inl ⟨s1, rfl, rfl, s4⟩⟩
    · rcases s1 with s1 | s1
      · rw [s1] at c; exact absurd c n01
      · rw [s1] at c; exact absurd c n21
theorem pers1 {F : Nat} {y0 a0 : St} (hF : 100000 ≤ F) (hA : rAs 0 a0 y0) (hB : rAd a0 y0) : r2 (m_Acts_confirm F a0) (lq3 (m_MD_person_B28 F 1 (fun v2_28 v3_28 y0_28 => (some (v2_28, y0_28)))) F (0 : Int32) (0 : Int32) y0) (fun o1 o2 => o1.1 = o2.1 ∧ Fp y0 o2.2 ∧ Fa a0 o1.2 ∧ rAd o1.2 o2.2) := by
  unfold m_Acts_confirm
  refine rT_J (A := Int32 × Int32 × St) (B := Int32 × Int32 × St) (r := fun m A => lq3 (m_Acts_confirm_B4 F (fun v1_4 v2_4 y0_4 => (some (v1_4, y0_4)))) m A.1 A.2.1 A.2.2) (s := fun m B => lq3 (m_MD_person_B28 F 1 (fun v2_28 v3_28 y0_28 => (some (v2_28, y0_28)))) m B.1 B.2.1 B.2.2) 20 (fun i A B => A.2.1 = nI i ∧ B.2.1 = nI i ∧ B.1 = A.1 ∧ Fp y0 B.2.2 ∧ Fa a0 A.2.2 ∧ rAd A.2.2 B.2.2) ?_ F F 0 (0, 0, a0) (0, 0, y0) (by omega) (by omega) (by omega) ⟨rfl, rfl, rfl, fun _ _ => rfl, fun _ _ _ _ _ => rfl, hB⟩
  intro i m1 m2 A B hi hI hrec
  obtain ⟨v2, v3, a⟩ := A
  obtain ⟨w2, w3, y⟩ := B
  dsimp only at hI
  obtain ⟨i1, i2, i3, hfp, hfa, hB1⟩ := hI
  have i1 : v3 = nI i := i1
  have i2 : w3 = nI i := i2
  have i3 : w2 = v2 := i3
  have hfp : Fp y0 y := hfp
  have hfa : Fa a0 a := hfa
  have hB1 : rAd a y := hB1
  subst i1 i2 i3
  show r2 (m_Acts_confirm_B4 F _ (lq3 _ m1) w2 (nI i) a) (m_MD_person_B28 F 1 _ (lq3 _ m2) w2 (nI i) y) _
  have hgo : ∀ (v : Int32) (a' y' : St), i < 20 → Fp y0 y' → Fa a0 a' → rAd a' y' → r2 (lq3 (m_Acts_confirm_B4 F (fun v1_4 v2_4 y0_4 => (some (v1_4, y0_4)))) m1 v (nI (i + 1)) a') (lq3 (m_MD_person_B28 F 1 (fun v2_28 v3_28 y0_28 => (some (v2_28, y0_28)))) m2 v (nI (i + 1)) y') (fun o1 o2 => o1.1 = o2.1 ∧ Fp y0 o2.2 ∧ Fa a0 o1.2 ∧ rAd o1.2 o2.2) := fun v a' y' hi' h1 h2 h3 => hrec (v, nI (i + 1), a') (v, nI (i + 1), y') hi' ⟨rfl, rfl, rfl, h1, h2, h3⟩
  rw [m_Acts_confirm_B4, m_MD_person_B28]
  by_cases hi20 : 20 ≤ i
  · have hle : (20 : Int32) ≤ nI i := (nI_leI (a := 20) (by omega) (by omega)).mpr hi20
    exact r2_l (rT_ip hle (rT_some (rT_ip hle (rT_some ⟨rfl, hfp, hfa, hB1⟩))))
  have hi' : i < 20 := by omega
  have hnle : ¬ (20 : Int32) ≤ nI i := fun z => hi20 ((nI_leI (a := 20) (by omega) (by omega)).mp z)
  have h22 : y 22 i = y0 22 i := by rw [hfp 22 (by omega)]
  rw [nI_clamp (by omega), show (nI i + 1 : Int32) = nI (i + 1) from nI_add i 1, vb1]
  have hsame : rT (lq3 (m_MD_person_B28 F 1 (fun v2_28 v3_28 y0_28 => (some (v2_28, y0_28)))) m2 w2 (nI (i + 1)) y) (fun b => rT (lq3 (m_Acts_confirm_B4 F (fun v1_4 v2_4 y0_4 => (some (v1_4, y0_4)))) m1 w2 (nI (i + 1)) a) (fun o1 => o1.1 = b.1 ∧ Fp y0 b.2 ∧ Fa a0 o1.2 ∧ rAd o1.2 b.2)) := r2_tr (hgo w2 a y hi' hfp hfa hB1)
  have hJ0 : rT (m_MD_person_J83 F 1 (fun v2_28 v3_28 y0_28 => (some (v2_28, y0_28))) (lq3 (m_MD_person_B28 F 1 (fun v2_28 v3_28 y0_28 => (some (v2_28, y0_28)))) m2) w2 (nI i) 0 y) (fun b => rT (lq3 (m_Acts_confirm_B4 F (fun v1_4 v2_4 y0_4 => (some (v1_4, y0_4)))) m1 w2 (nI (i + 1)) a) (fun o1 => o1.1 = b.1 ∧ Fp y0 b.2 ∧ Fa a0 o1.2 ∧ rAd o1.2 b.2)) := by
    unfold m_MD_person_J83
    rw [q_J126.1]
    exact rT_i0 (rT_i0 hsame)
  refine r2_l (rT_in hnle (rT_ck (vin hi') ?_))
  rcases hA i hi' with ⟨e22, _⟩ | ⟨e22, _⟩
  · have ez : y 22 i = 0 := h22.trans e22
    have a7 : a 7 i = 0 := (hB1 i hi').1 ez
    refine rT_in (by rw [a7]; exact n01) (r2_tl (r2_r (rT_in hnle (rT_ck (vin (by omega)) (rT_ip ez hJ0)))))
  · have e1 : y 22 i = 1 := h22.trans e22
    have en : ¬ y 22 i = 0 := by rw [e1]; exact n10
    obtain ⟨f7, hst⟩ := (hB1 i hi').2 e1
    rw [f7]
    refine rT_if (fun c => rT_ck (vin hi') ?_) (fun c => r2_tl (r2_r (rT_in hnle (rT_ck (vin (by omega)) (rT_in en (rT_ck (vin hi') (rT_in c hJ0)))))))
    rcases hst with ⟨s1, s2, s3, s4⟩ | ⟨s1, s2, s3, s4⟩
    · rw [s4]
      refine rT_if (fun d => ?_) (fun d => r2_tl (r2_r (rT_in hnle (rT_ck (vin (by omega)) (rT_in en (rT_ck (vin hi') (rT_ip c (rT_i1 (rT_ck (vin hi') (rT_in d hJ0))))))))))
      refine rT_ck (vin hi') (rT_lz ?_)
      refine r2_tl (r2_r (rT_in hnle (rT_ck (vin (by omega)) (rT_in en (rT_ck (vin hi') (rT_ip c (rT_i1 (rT_ck (vin hi') (rT_ip d ?_)))))))))
      unfold m_MD_person_J83
      rw [nI_clamp (by omega), vb1]
      refine rT_i1 (rT_i1 (rT_i1 (rT_ck (vin hi') (rT_lz ?_))))
      rw [q_J126.2]
      refine r2_tr (hgo (w2 + 1) (st a 10 (upd (a 10) i 1)) (st y 35 (upd (y 35) i 1)) hi' ?_ ?_ ?_)
      · intro f hf
        rw [st_n (by omega)]; exact hfp f hf
      · intro f g7 g8 g9 g10
        rw [st_n g10]; exact hfa f g7 g8 g9 g10
      · refine Ad_up (b := i) hB1 (fun j hj => ?_) rfl e1 ?_
        · show a 7 j = a 7 j ∧ a 8 j = a 8 j ∧ a 9 j = a 9 j ∧ upd (a 10) i 1 j = a 10 j ∧ y 32 j = y 32 j ∧ y 33 j = y 33 j ∧ y 34 j = y 34 j ∧ upd (y 35) i 1 j = y 35 j
          rw [upd_n hj, upd_n hj]
          exact ⟨rfl, rfl, rfl, rfl, rfl, rfl, rfl, rfl⟩
        · show a 7 i = y 32 i ∧ ((y 32 i = 1 ∧ a 8 i = y 33 i ∧ a 9 i = y 34 i ∧ upd (a 10) i 1 i = upd (y 35) i 1 i) ∨ _)
          rw [upd_e, upd_e]
          exact ⟨f7, Or.inl ⟨s1, s2, s3, rfl⟩⟩
    · rcases s1 with s1 | s1
      · rw [s1] at c; exact absurd c n01
      · rw [s1] at c; exact absurd c n21
theorem s_person (F : Nat) (hF : 100000 ≤ F) : sim_person F Rel := by
  intro x n y a1 hR
  have hR0 := hR
  obtain ⟨hT, hP, hL, hE, hZ, hA, hB, hO, hW, hN⟩ := hR
  obtain ⟨t, ht, ht1, ht2⟩ := hN
  have e62 : x 0 6 0 = y 2 0 := ht1.trans ht2.symm
  refine r2_l ?_
  unfold m_AM_person m_MD_person
  refine bz (p_withinN F a1 1 (by omega)) (fun hc => rT_some ?_) (fun hc => ?_)
  · refine rT_in (fun e => hc ⟨0, by omega, e⟩) (rT_in (fun e => hc ⟨1, by omega, e⟩) ?_)
    exact go0 (rT_i0 (rT_some ⟨Or.inr rfl, rfl, fun h => absurd h (Nat.succ_ne_zero _), Rel_ref 7 hR0⟩))
  obtain ⟨i, hi, rfl⟩ := hc
  rcases (show i = 0 ∨ i = 1 by omega) with e | e
  · subst e
    obtain ⟨o1, o2, q1, q2, q3, q4, q5, q6⟩ := pers0 (F := F) (y0 := sc y 0 0) (a0 := x 7) (now := x 0 6 0) hF hA hB e62.symm
    obtain ⟨v, a⟩ := o1
    refine rT_ip rfl (rT_e2 q1 (rT_some (rT_ip rfl (go1 (rT_i1 (rT_eq q2 ?_))))))
    exact ⟨Or.inl rfl, by rw [q4 0 (by omega)]; rfl, fun _ => q3, Rel_fd hR0 (Fp_d q4) q5 q6 (Ev_fp (y0 := sc y 0 0) hE q4)⟩
  · subst e
    obtain ⟨o1, o2, q1, q2, q3, q4, q5, q6⟩ := pers1 (F := F) (y0 := sc y 0 0) (a0 := x 7) hF hA hB
    obtain ⟨v, a⟩ := o1
    refine rT_in n10 (rT_e2 q1 (rT_some (rT_in n10 (rT_ip rfl (go1 (rT_i1 (rT_eq q2 ?_)))))))
    exact ⟨Or.inl rfl, by rw [q4 0 (by omega)]; rfl, fun _ => q3, Rel_fd hR0 (Fp_d q4) q5 q6 (Ev_fp (y0 := sc y 0 0) hE q4)⟩

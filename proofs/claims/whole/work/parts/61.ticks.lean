-- TICKS
theorem Tx_fd {t y0 y : St} (h : rTx t y0) (f : Fdy y0 y) : rTx t y := by
  unfold rTx at h ⊢
  rw [f 11 (by omega), f 12 (by omega)]
  exact h
theorem Pt_fd {n : Nat} {p y0 y : St} (h : rPt n p y0) (f : Fdy y0 y) : rPt n p y := by
  unfold rPt Hd at h ⊢
  rw [f 1 (by omega), f 3 (by omega), f 4 (by omega), f 5 (by omega), f 6 (by omega), f 7 (by omega), f 10 (by omega)]
  exact h
theorem Zn_fd {n : Nat} {z y0 y : St} (h : rZn n 0 z y0) (f : Fdy y0 y) : rZn n 0 z y := by
  unfold rZn at h ⊢
  rw [f 18 (by omega), f 19 (by omega), f 20 (by omega), f 21 (by omega)]
  exact h
theorem As_fd {a0 a y0 y : St} (h : rAs 0 a0 y0) (f : Fdy y0 y) (fa : Fa a0 a) : rAs 0 a y := by
  unfold rAs at h ⊢
  rw [f 22 (by omega), f 23 (by omega), f 24 (by omega), f 25 (by omega), f 26 (by omega), fa 0 (by omega) (by omega) (by omega) (by omega), fa 1 (by omega) (by omega) (by omega) (by omega), fa 2 (by omega) (by omega) (by omega) (by omega), fa 3 (by omega) (by omega) (by omega) (by omega), fa 4 (by omega) (by omega) (by omega) (by omega)]
  exact h
theorem Or_fd {a0 a y0 y : St} (h : rOr 0 a0 y0) (f : Fdy y0 y) (fa : Fa a0 a) : rOr 0 a y := by
  unfold rOr so at h ⊢
  rw [f 22 (by omega), f 24 (by omega), fa 5 (by omega) (by omega) (by omega) (by omega), fa 6 (by omega) (by omega) (by omega) (by omega)]
  exact h
theorem Rw_fd {pl y0 y : St} (h : rRw 27 0 0 pl y0) (f : Fdy y0 y) : rRw 27 0 0 pl y := by
  unfold rRw at h ⊢
  rw [f 18 (by omega), f 27 (by omega), f 29 (by omega), f 30 (by omega), f 31 (by omega)]
  exact h
theorem Nw_fd {w y0 y : St} (h : rNw w y0) (f : Fdy y0 y) : rNw w y := by
  unfold rNw at h ⊢
  rw [f 2 (by omega)]
  exact h
theorem Lp_dn {x : Nat → St} {n k : Nat} {y z : St} (h : rLp n (fun j => up x k z (10 + j)) y) (hk : k < 10 ∨ 17 < k) : rLp n (fun j => x (10 + j)) y := by
  obtain ⟨h1, h2⟩ := h
  refine ⟨fun j hj => ?_, h2⟩
  have h3 : rL1 n j (up x k z (10 + j)) y := h1 j hj
  rw [up_n (by omega)] at h3
  exact h3
theorem ranked_fd {F p c : Nat} {y0 y : St} {g : Nat → Nat} (hF : 100000 ≤ F) (hp : p < 2 ^ 31) (f : Fdy y0 y) (hg : ∀ k : Nat, k < c → g k < 20 ∧ y0 22 (g k) = 1) (hs : ∀ r s : Nat, r < s → s < c → so y0 0 (g r) (g s)) (hall : ∀ b : Nat, b < 20 → ¬ y0 22 b = 0 → ∃ k : Nat, k < c ∧ g k = b) : rT (m_MD_rankedOne F y (nI p)) (fun r => (p < c ∧ r = nI (g p)) ∨ (c ≤ p ∧ r = -1)) := by
  refine q_ranked hF hp (fun k hk => ?_) (fun r s h1 h2 => ?_) (fun b hb hn => ?_)
  · rw [f 22 (by omega)]; exact hg k hk
  · have := hs r s h1 h2
    unfold so at this ⊢
    rw [f 24 (by omega)]; exact this
  · rw [f 22 (by omega)] at hn; exact hall b hb hn
theorem goOn_J {F n rr c : Nat} {q : Nat → St} {y0 a0 : St} {g : Nat → Nat} {now w0 : Int32} {R : Type} {K : Int32 → Int32 → Int32 → St → Option R} {P : Int32 × St × St → R → Prop} (hF : 100000 ≤ F) (hcx : Cx n rr q y0) (hA : rAs 0 a0 y0) (hnow : y0 2 0 = now) (hc20 : c ≤ 20) (a6 : a0 6 0 = nI c) (a5 : ∀ k : Nat, k < c → a0 5 k = nI (g k)) (hg : ∀ k : Nat, k < c → g k < 20 ∧ y0 22 (g k) = 1) (hs : ∀ r s : Nat, r < s → s < c → so y0 0 (g r) (g s)) (hall : ∀ b : Nat, b < 20 → ¬ y0 22 b = 0 → ∃ k : Nat, k < c ∧ g k = b) (hcal : ∀ b : Nat, b < 20 → a0 11 b = tf (Cal y0 0 b) ∧ a0 12 b = tf (Cal y0 1 b))
    (hK : ∀ (v w4 w5 : Int32) (a e y : St), Fdy y0 y → Fa a0 a → rAd a y → rEv e y → rT (K (w0 + v) w4 w5 y) (fun b => P (v, a, e) b))
    (e0 : St) (r64 : Int32) (hB : rAd a0 y0) (hE : rEv e0 y0) (hr : (0 < c ∧ r64 = nI (g 0)) ∨ (c ≤ 0 ∧ r64 = -1)) : r2 (m_Acts_goOn F a0 e0 now) (lq4 (m_MD_ticks_B72 F K) F w0 r64 1 y0) P := by
  unfold m_Acts_goOn
  refine rT_J (A := Int32 × Int32 × St × St) (B := Int32 × Int32 × Int32 × St) (r := fun m A => lq4 (m_Acts_goOn_B5 F now (fun v3_5 v4_5 y0_5 y1_5 => (some (v3_5, y0_5, y1_5)))) m A.1 A.2.1 A.2.2.1 A.2.2.2) (s := fun m B => lq4 (m_MD_ticks_B72 F K) m B.1 B.2.1 B.2.2.1 B.2.2.2) c (fun i A B => A.2.1 = nI i ∧ B.2.2.1 = nI (i + 1) ∧ B.1 = w0 + A.1 ∧ ((i < c ∧ B.2.1 = nI (g i)) ∨ (c ≤ i ∧ B.2.1 = -1)) ∧ Fdy y0 B.2.2.2 ∧ Fa a0 A.2.2.1 ∧ rAd A.2.2.1 B.2.2.2 ∧ rEv A.2.2.2 B.2.2.2) ?_ F F 0 (0, 0, a0, e0) (w0, r64, 1, y0) (by omega) (by omega) (by omega) ⟨rfl, rfl, (Int32.add_zero w0).symm, hr, fun _ _ => rfl, fun _ _ _ _ _ => rfl, hB, hE⟩
  intro i m1 m2 A B hi hI hrec
  obtain ⟨v3, v4, a, e⟩ := A
  obtain ⟨w2, w4, w5, y⟩ := B
  dsimp only at hI
  obtain ⟨i1, i2, i3, i4, hfd, hfa, hB1, hE1⟩ := hI
  have i1 : v4 = nI i := i1
  have i2 : w5 = nI (i + 1) := i2
  have i3 : w2 = w0 + v3 := i3
  have i4 : (i < c ∧ w4 = nI (g i)) ∨ (c ≤ i ∧ w4 = -1) := i4
  have hfd : Fdy y0 y := hfd
  have hfa : Fa a0 a := hfa
  have hB1 : rAd a y := hB1
  have hE1 : rEv e y := hE1
  subst i1 i2 i3
  show r2 (m_Acts_goOn_B5 F now _ (lq4 _ m1) v3 (nI i) a e) (m_MD_ticks_B72 F K (lq4 _ m2) (w0 + v3) w4 (nI (i + 1)) y) P
  have f6 : a 6 0 = nI c := by rw [hfa 6 (by omega) (by omega) (by omega) (by omega)]; exact a6
  rw [m_Acts_goOn_B5, m_MD_ticks_B72]
  rw [f6]
  rcases i4 with ⟨hic, e4⟩ | ⟨hic, e4⟩
  · subst e4
    obtain ⟨hb, ht⟩ := hg i hic
    have f5 : a 5 i = nI (g i) := by rw [hfa 5 (by omega) (by omega) (by omega) (by omega)]; exact a5 i hic
    obtain ⟨d, a', e', y', g1, g2, g3, g4, g5, g6⟩ := st_go hF hcx hfd hfa hA hB1 hE1 hb ht hnow (hcal _ hb).1 (hcal _ hb).2
    have hrk := ranked_fd (F := F) (p := i + 1) hF (by omega) g2 hg hs hall
    have href : ∀ (v : Int32), w0 + v3 + d = w0 + v → rT (if nI (g i) < (0 : Int32) then K (w0 + v3) (nI (g i)) (nI (i + 1)) y else (bn2 (m_MD_go F y (nI (g i))) (fun r81 z0_81 => (bn1 (m_MD_rankedOne F z0_81 (nI (i + 1))) (fun r89 => (lq4 (m_MD_ticks_B72 F K) m2 (w0 + v3 + r81) r89 (nI (i + 1) + (1 : Int32)) z0_81)))))) (fun b => rT (lq4 (m_Acts_goOn_B5 F now (fun v3_5 v4_5 y0_5 y1_5 => (some (v3_5, y0_5, y1_5)))) m1 v (nI (i + 1)) a' e') (fun x => P x b)) := by
      intro v hv
      refine rT_in (n0 (by omega)) (rT_e2 g1 (rT_bn1 hrk (fun r89 h89 => ?_)))
      rw [hv, show (nI (i + 1) + 1 : Int32) = nI (i + 1 + 1) from nI_add (i + 1) 1]
      exact r2_tr (hrec (v, nI (i + 1), a', e') (w0 + v, r89, nI (i + 1 + 1), y') hic ⟨rfl, rfl, rfl, h89, g2, g3, g4, g5⟩)
    rw [nI_clamp (by omega), f5, nI_clamp (by omega), show (nI i + 1 : Int32) = nI (i + 1) from nI_add i 1]
    refine r2_l (rT_in (fun z => by have := (nI_leI (by omega) (by omega)).mp z; omega) (rT_ck (vin (by omega)) (rT_ck (vin hb) ?_)))
    rcases g6 with ⟨ed, ee, g7⟩ | ⟨ed, k, hk1, hadd, g7⟩
    · subst ed ee
      have hfin := r2_tl (r2_r (href v3 (Int32.add_zero _)))
      rcases g7 with ⟨h11, hl⟩ | ⟨h11, hl⟩
      · exact rT_ip h11 (rT_e2 hl (rT_ip rfl hfin))
      · exact rT_in h11 (rT_e2 hl (rT_ip rfl hfin))
    · subst ed
      have hfin := r2_tl (r2_r (href (v3 + 1) (Int32.add_assoc _ _ _)))
      rcases g7 with ⟨h11, hl⟩ | ⟨h11, hl⟩
      · exact rT_ip h11 (rT_e2 hl (rT_in hk1 (rT_e1 hadd hfin)))
      · exact rT_in h11 (rT_e2 hl (rT_in hk1 (rT_e1 hadd hfin)))
  · subst e4
    exact r2_l (rT_ip ((nI_leI (by omega) (by omega)).mpr hic) (rT_some (rT_ip m1neg (hK v3 _ _ a e y hfd hfa hB1 hE1))))
theorem s_ticks (F : Nat) (hF : 100000 ≤ F) : sim_ticks F Rel := by
  intro x n y a1 hR
  have hR0 := hR
  obtain ⟨hT, hP, hL, hE, hZ, hA, hB, hO, hW, hN⟩ := hR
  obtain ⟨t, ht, ht1, ht2⟩ := hN
  have hself : ∀ v : Int32, Rel (up (up (up (up x 0 (x 0)) 4 (x 4)) 7 (x 7)) 6 (x 6)) n (sc y 0 v) := by
    intro v
    have e0 : up (up (up (up x 0 (x 0)) 4 (x 4)) 7 (x 7)) 6 (x 6) = x := by rw [up_self, up_self, up_self, up_self]
    rw [e0]; exact Rel_code hR0
  refine r2_l ?_
  unfold m_AM_ticks m_MD_ticks
  refine bz (p_within F a1 1 200) (fun hv => rT_some ?_) (fun hv => ?_)
  · refine rT_if (fun c => rT_if (fun _ => ?_) (fun _ => ?_)) (fun c => rT_if (fun d => rT_if (fun _ => ?_) (fun _ => ?_)) (fun d => absurd ⟨c, d⟩ hv))
    · exact go0 (rT_i0 (rT_some ⟨Or.inr (Or.inl rfl), rfl, fun h => absurd h (Nat.succ_ne_zero _), hself 1⟩))
    · exact go0 (rT_i0 (rT_some ⟨Or.inr (Or.inl rfl), rfl, fun h => absurd h (Nat.succ_ne_zero _), hself 1⟩))
    · exact go0 (rT_i0 (rT_some ⟨Or.inr (Or.inl rfl), rfl, fun h => absurd h (Nat.succ_ne_zero _), hself 1⟩))
    · exact go0 (rT_i0 (rT_some ⟨Or.inr (Or.inl rfl), rfl, fun h => absurd h (Nat.succ_ne_zero _), hself 1⟩))
  have h0 : ¬ a1 < 0 := by
    intro z
    apply hv.1
    rw [Int32.lt_iff_toInt_lt] at z ⊢
    have e0 : (0 : Int32).toInt = 0 := by decide
    have e1 : (1 : Int32).toInt = 1 := by decide
    omega
  obtain ⟨k, hk, rfl⟩ := nI_of h0
  have hk2 : k ≤ 200 := Nat.le_of_not_lt (fun z => hv.2 ((nI_ltI (a := 200) (by omega) hk).mpr z))
  rw [ht1, ht2, nI_add]
  refine rT_if (fun c => ?_) (fun c => rT_some (rT_in hv.1 (rT_in hv.2 (rT_ip (Int32.not_le.mp c) ?_))))
  · have hkt : t + k ≤ 20000 := (nI_leI (b := 20000) (by omega) (by omega)).mp c
    have hJ : r2 (lq6 (m_AM_ticks_B47 F (nI k) (x 5) (x 2) n (fun v2_47 v3_47 y0_47 y1_47 y4_47 y5_47 => (some (0, v2_47, y0_47, y1_47, y4_47, y5_47)))) F (0 : Int32) (0 : Int32) (x 0) (x 4) (x 7) (x 6)) (lq3 (m_MD_ticks_B47 F (nI k) (fun v2_47 v3_47 y0_47 => (some (v2_47, y0_47)))) F (0 : Int32) (0 : Int32) (sc y 0 0)) (fun o1 o2 => (o1.1 = 0 ∨ o1.1 = 1 ∨ o1.1 = 2) ∧ o2.2 0 0 = nI o1.1 ∧ (o1.1 = 0 → o1.2.1 = o2.1) ∧ Rel (up (up (up (up x 0 (o1.2.2.1)) 4 (o1.2.2.2.1)) 7 (o1.2.2.2.2.1)) 6 (o1.2.2.2.2.2)) n o2.2) := by
      refine rT_J (A := Int32 × Int32 × St × St × St × St) (B := Int32 × Int32 × St) (r := fun m A => lq6 (m_AM_ticks_B47 F (nI k) (x 5) (x 2) n (fun v2_47 v3_47 y0_47 y1_47 y4_47 y5_47 => (some (0, v2_47, y0_47, y1_47, y4_47, y5_47)))) m A.1 A.2.1 A.2.2.1 A.2.2.2.1 A.2.2.2.2.1 A.2.2.2.2.2) (s := fun m B => lq3 (m_MD_ticks_B47 F (nI k) (fun v2_47 v3_47 y0_47 => (some (v2_47, y0_47)))) m B.1 B.2.1 B.2.2) k (fun i A B => A.2.1 = nI i ∧ B.2.1 = nI i ∧ A.1 = B.1 ∧ Rel (up (up (up (up x 0 A.2.2.1) 4 A.2.2.2.1) 7 A.2.2.2.2.1) 6 A.2.2.2.2.2) n B.2.2 ∧ B.2.2 2 0 = nI (t + i) ∧ B.2.2 0 0 = 0) ?_ F F 0 (0, 0, x 0, x 4, x 7, x 6) (0, 0, sc y 0 0) (by omega) (by omega) (by omega) ⟨rfl, rfl, rfl, hself 0, ht2, rfl⟩
      intro i m1 m2 A B hi hI hrec
      obtain ⟨v2, v3, am, ev, ac, zn⟩ := A
      obtain ⟨w2, w3, y'⟩ := B
      dsimp only at hI
      obtain ⟨i1, i2, i3, hR1, i5, i6⟩ := hI
      have i1 : v3 = nI i := i1
      have i2 : w3 = nI i := i2
      have i3 : v2 = w2 := i3
      have hR1 : Rel (up (up (up (up x 0 am) 4 ev) 7 ac) 6 zn) n y' := hR1
      have i5 : y' 2 0 = nI (t + i) := i5
      have i6 : y' 0 0 = 0 := i6
      subst i1 i2 i3
      show r2 (m_AM_ticks_B47 F (nI k) (x 5) (x 2) n _ (lq6 _ m1) v2 (nI i) am ev ac zn) (m_MD_ticks_B47 F (nI k) _ (lq3 _ m2) v2 (nI i) y') _
      rw [m_AM_ticks_B47, m_MD_ticks_B47]
      by_cases hik : k ≤ i
      · refine r2_l (rT_ip ((nI_leI (by omega) (by omega)).mpr hik) (rT_some (rT_ip ((nI_leI (by omega) (by omega)).mpr hik) (rT_some ?_))))
        exact ⟨Or.inl rfl, i6, fun _ => rfl, hR1⟩
      have hik' : i < k := by omega
      have hni : ¬ nI k ≤ nI i := fun z => hik ((nI_leI (by omega) (by omega)).mp z)
      obtain ⟨jT, jP, jL, jE, jZ, jA, jB, jO, jW, jN⟩ := hR1
      have jT : rTx (x 1) y' := jT
      have jP : rPt n (x 2) y' := jP
      have jL : rLp n (fun j => x (10 + j)) y' := Lp_dn (Lp_dn (Lp_dn (Lp_dn jL (by omega)) (by omega)) (by omega)) (by omega)
      have jE : rEv ev y' := jE
      have jZ : rZn n 0 zn y' := jZ
      have jA : rAs 0 ac y' := jA
      have jB : rAd ac y' := jB
      have jO : rOr 0 ac y' := jO
      have jW : rRw 27 0 0 (x 5) y' := jW
      obtain ⟨t', ht', n1, n2⟩ := jN
      have n1 : am 6 0 = nI t' := n1
      have et : am 6 0 + 1 = nI (t + i + 1) := by
        rw [n1, ← n2, i5]; exact nI_add (t + i) 1
      have ey : y' 2 0 + 1 = nI (t + i + 1) := by rw [i5]; exact nI_add (t + i) 1
      have hn2 : n ≤ 200 := jP.1.2
      have jW0 := jW
      obtain ⟨rr, hrr, p5, e27, hrow⟩ := jW
      have hcx : Cx n rr (fun j => x (10 + j)) (sc y' 2 (nI (t + i + 1))) := ⟨hn2, jL, e27, hrr, fun k hk => rw1_of (y := sc y' 2 (nI (t + i + 1))) jZ (hrow k hk)⟩
      rw [ey]
      refine r2_l (rT_in hni (rT_lz ?_))
      show rT (bn2 (m_Plan_look F (x 5) ac zn (x 2) n (am 6 0 + 1)) (fun z4_74 z5_74 => (bn3 (m_Acts_goOn F z4_74 ev (am 6 0 + 1)) (fun r93 z4_93 z1_93 => (lq6 _ m1 (v2 + r93) (nI i + (1 : Int32)) (sc am 6 (am 6 0 + 1)) z1_93 z4_93 z5_74))))) _
      rw [et]
      refine rT_bn2 (p_planlook (y := sc y' 2 (nI (t + i + 1))) hF jP jZ jW0) (fun a1 z1 hl => ?_)
      obtain ⟨fa, ca, fz, cz⟩ := hl
      have kA : rAs 0 a1 (sc y' 2 (nI (t + i + 1))) := As_fr (y := sc y' 2 (nI (t + i + 1))) jA fa
      have kB : rAd a1 (sc y' 2 (nI (t + i + 1))) := Ad_fr (y := sc y' 2 (nI (t + i + 1))) jB fa
      have kO : rOr 0 a1 (sc y' 2 (nI (t + i + 1))) := Or_fr (y := sc y' 2 (nI (t + i + 1))) jO fa
      have kZ : rZn n 0 z1 (sc y' 2 (nI (t + i + 1))) := Zn_fr (y := sc y' 2 (nI (t + i + 1))) jZ fz
      obtain ⟨c, g, hc20, a6, a5, hg, hs, hall⟩ := or_hyps kA kO
      have hrk := q_ranked (F := F) (p := 0) (y := sc y' 2 (nI (t + i + 1))) hF (by omega) hg hs hall
      have hJJ := goOn_J (n := n) (rr := rr) (q := fun j => x (10 + j)) (y0 := sc y' 2 (nI (t + i + 1))) (a0 := a1) (g := g) (now := nI (t + i + 1)) (w0 := v2) (K := fun v2_72 v4_72 v5_72 y0_72 => (lq3 (m_MD_ticks_B47 F (nI k) (fun v2_47 v3_47 y0_47 => (some (v2_47, y0_47)))) m2 v2_72 (nI i + (1 : Int32)) y0_72)) (P := fun o1 b => rT (lq6 (m_AM_ticks_B47 F (nI k) (x 5) (x 2) n (fun v2_47 v3_47 y0_47 y1_47 y4_47 y5_47 => (some (0, v2_47, y0_47, y1_47, y4_47, y5_47)))) m1 (v2 + o1.1) (nI i + (1 : Int32)) (sc am 6 (nI (t + i + 1))) o1.2.2 o1.2.1 z1) (fun o1 => (o1.1 = 0 ∨ o1.1 = 1 ∨ o1.1 = 2) ∧ b.2 0 0 = nI o1.1 ∧ (o1.1 = 0 → o1.2.1 = b.1) ∧ Rel (up (up (up (up x 0 (o1.2.2.1)) 4 (o1.2.2.2.1)) 7 (o1.2.2.2.2.1)) 6 (o1.2.2.2.2.2)) n b.2)) hF hcx kA rfl hc20 a6 a5 hg hs hall ca ?_ ev
      · have hrk : rT (m_MD_rankedOne F (sc y' 2 (nI (t + i + 1))) 0) (fun r => (0 < c ∧ r = nI (g 0)) ∨ (c ≤ 0 ∧ r = -1)) := hrk
        obtain ⟨r64, hr1, hr2⟩ := hrk
        obtain ⟨o1, b, q1, q2, q3⟩ := hJJ r64 kB jE hr2
        refine rT_eq (a := ?_) ?_ ?_
        · exact (Classical.choose q3)
        · rw [q1]; exact (Classical.choose_spec q3).1
        · refine rT_in hni (rT_lz (rT_e1 hr1 (rT_eq q2 ?_)))
          exact (Classical.choose_spec q3).2
      · intro v w4 w5 a e y2 hfd hfa hB2 hE2
        rw [show (nI i + 1 : Int32) = nI (i + 1) from nI_add i 1]
        refine r2_tr (hrec (v2 + v, nI (i + 1), sc am 6 (nI (t + i + 1)), e, a, z1) (v2 + v, nI (i + 1), y2) hik' ⟨rfl, rfl, rfl, ?_, ?_, ?_⟩)
        · refine ⟨Tx_fd (y0 := sc y' 2 (nI (t + i + 1))) jT hfd, Pt_fd (y0 := sc y' 2 (nI (t + i + 1))) jP hfd, Lp_up (Lp_up (Lp_up (Lp_up (Lp_fd (y0 := sc y' 2 (nI (t + i + 1))) jL hfd) (by omega)) (by omega)) (by omega)) (by omega), hE2, Zn_fd kZ hfd, As_fd kA hfd hfa, hB2, Or_fd kO hfd hfa, Rw_fd (y0 := sc y' 2 (nI (t + i + 1))) jW0 hfd, ⟨t + i + 1, by omega, rfl, ?_⟩⟩
          show y2 2 0 = nI (t + i + 1)
          rw [hfd 2 (by omega)]; rfl
        · show y2 2 0 = nI (t + (i + 1))
          rw [hfd 2 (by omega)]; rfl
        · show y2 0 0 = 0
          rw [hfd 0 (by omega)]; exact i6
    obtain ⟨o1, o2, q1, q2, q3⟩ := hJ
    exact rT_eq q1 (rT_in hv.1 (rT_in hv.2 (rT_in (Int32.not_lt.mpr c) (go1 (rT_i1 (rT_eq q2 q3))))))
  · exact go2 (rT_i0 (rT_some ⟨Or.inr (Or.inr rfl), rfl, fun h => absurd h (Nat.succ_ne_zero _), hself 2⟩))

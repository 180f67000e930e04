-- READ
theorem rT_e5 {A B C D E R : Type} {o : Option (A × B × C × D × E)} {k : A → B → C → D → E → Option R} {a : A} {b : B} {c : C} {d : D} {e : E} {P : R → Prop} (h : o = some (a, b, c, d, e)) (g : rT (k a b c d e) P) : rT (bn5 o k) P := by
  subst h; exact g
theorem p_clearA {F : Nat} {a : St} (hF : 100000 ≤ F) : rT (m_Acts_clear F a) (fun a' => a' 6 0 = 0 ∧ ∀ i : Nat, i < 20 → a' 3 i = 0 ∧ a' 4 i = 0 ∧ a' 7 i = 0) := by
  unfold m_Acts_clear
  refine rT_lz ?_
  refine rT_lq2 20 (fun i v a' => v = nI i ∧ a' 6 0 = 0 ∧ ∀ j : Nat, j < i → a' 3 j = 0 ∧ a' 4 j = 0 ∧ a' 7 j = 0) ?_ F 0 0 _ (by omega) (by omega) ⟨rfl, rfl, fun j hj => by omega⟩
  intro i r v a' hi hI hrec
  obtain ⟨ev, h6, hc⟩ := hI
  subst ev
  unfold m_Acts_clear_B7
  refine rT_if (fun g => rT_some ⟨h6, ?_⟩) (fun g => ?_)
  · have := (nI_leI (a := 20) (by omega) (by omega)).mp g
    rw [show (20 : Nat) = i by omega]; exact hc
  have hi' : i < 20 := Nat.lt_of_not_le (fun q => g ((nI_leI (a := 20) (by omega) (by omega)).mpr q))
  rw [nI_clamp (by omega), vb0]
  refine rT_ck (vin hi') (rT_lz (rT_ck (vin hi') (rT_lz (rT_ck (vin hi') (rT_lz (hrec _ _ hi' ⟨nI_add i 1, h6, fun j hj => ?_⟩))))))
  show upd (a' 3) i 0 j = 0 ∧ upd (a' 4) i 0 j = 0 ∧ upd (a' 7) i 0 j = 0
  by_cases e : j = i
  · subst e; rw [upd_e, upd_e, upd_e]; exact ⟨rfl, rfl, rfl⟩
  · rw [upd_n e, upd_n e, upd_n e]; exact hc j (by omega)
theorem p_clear {F : Nat} {pl a z : St} (hF : 100000 ≤ F) : rT (m_Plan_clear F pl a z) (fun o => o.1 5 0 = 0 ∧ (o.2.1 6 0 = 0 ∧ ∀ i : Nat, i < 20 → o.2.1 3 i = 0 ∧ o.2.1 4 i = 0 ∧ o.2.1 7 i = 0) ∧ ∀ i : Nat, i < 20 → o.2.2 0 i = 0 ∧ o.2.2 1 i = 0) := by
  unfold m_Plan_clear
  have hz : m_Zones_clear F z = some (st (st z 0 (flI (z 0) 20 0)) 1 (flI (z 1) 20 0)) := rfl
  refine rT_e1 hz (rT_bn1 (p_clearA hF) (fun a' ha => rT_lz (rT_some ⟨rfl, ha, fun i hi => ⟨?_, ?_⟩⟩)))
  · show flI (z 0) 20 0 i = 0
    exact flI_lt hi
  · show flI (z 1) 20 0 i = 0
    exact flI_lt hi
theorem rd_loop {F L W n : Nat} {c B E : Nat → Nat} {x0 t y0 : St} {R : Type} {K : St → Option R} {P : Int32 × St × St × St × St → R → Prop} (hF : 100000 ≤ F) (hT : TK L W c B E) (hX : TX L c t) (hn1 : 1 ≤ n) (hn2 : n ≤ 200) (hx0 : x0 2 0 = nI n)
    (hKb : ∀ (w : Nat) (pl z ac zn y' : St), WR L W c B E y0 w y' → rT (K y') (fun b => P (nI w, pl, z, ac, zn) b))
    (hKg : ∀ (m : Nat) (pl z ac zn y' : St), NW L W c B E y0 m y' → UP n pl zn ac y' → rT (K y') (fun b => P (-1, pl, z, ac, zn) b))
    (pl w ac zn y : St) (hw : wb E w 0) (hN : NW L W c B E y0 0 y) (hy1 : y 1 0 = nI n) (hU : UP n pl zn ac y) : r2 (lq5 (m_Reader_findWrongWord_B9 F t x0 (fun v1_9 y1_9 y2_9 y3_9 y4_9 => (some ((-1 : Int32), y1_9, y2_9, y3_9, y4_9))) (fun v1_9 y1_9 y2_9 y3_9 y4_9 u2_9_45 => (some (u2_9_45, y1_9, y2_9, y3_9, y4_9))) (fun v1_9 y1_9 y2_9 y3_9 y4_9 => (some ((-1 : Int32), y1_9, y2_9, y3_9, y4_9)))) F (0 : Int32) pl w ac zn) (lq1 (m_MD_read_B53 F K) F y) P := by
  have hW2 : W ≤ 2000 := Nat.le_trans hT.2.1 hT.1
  refine rT_J2 (A := Int32 × St × St × St × St) (B := St) (r := fun m A => lq5 (m_Reader_findWrongWord_B9 F t x0 (fun v1_9 y1_9 y2_9 y3_9 y4_9 => (some ((-1 : Int32), y1_9, y2_9, y3_9, y4_9))) (fun v1_9 y1_9 y2_9 y3_9 y4_9 u2_9_45 => (some (u2_9_45, y1_9, y2_9, y3_9, y4_9))) (fun v1_9 y1_9 y2_9 y3_9 y4_9 => (some ((-1 : Int32), y1_9, y2_9, y3_9, y4_9)))) m A.1 A.2.1 A.2.2.1 A.2.2.2.1 A.2.2.2.2) (s := fun m D => lq1 (m_MD_read_B53 F K) m D) (W + 1) (fun i A D => i ≤ W ∧ A.1 = nI i ∧ D 1 0 = nI n ∧ ∃ m : Nat, i ≤ m ∧ m ≤ W ∧ wb E A.2.2.1 m ∧ NW L W c B E y0 m D ∧ UP n A.2.1 A.2.2.2.2 A.2.2.2.1 D) ?_ F F 0 (0, pl, w, ac, zn) y (by omega) (by omega) (by omega) ⟨by omega, rfl, hy1, 0, by omega, by omega, hw, hN, hU⟩
  intro i f1 f2 A y hi hf1 hf2 hI hrec
  obtain ⟨v, pl, w, ac, zn⟩ := A
  dsimp only at hI
  obtain ⟨hiW, i1, hy1, m, him, hmW, hw, hN, hU⟩ := hI
  subst i1
  obtain ⟨g2, rfl⟩ : ∃ g, f2 = g + 1 := ⟨f2 - 1, by omega⟩
  show r2 (m_Reader_findWrongWord_B9 F t x0 _ _ _ (lq5 _ f1) (nI i) pl w ac zn) (m_MD_read_B53 F K (lq1 _ (g2 + 1)) y) P
  rw [m_Reader_findWrongWord_B9, m_MD_read_B53]
  rw [hN.2.2.2.1.1, hN.2.1, hN.1]
  refine r2_l (rT_in (fun q => by have := (nI_ltI (a := 2000) (by omega) (by omega)).mp q; omega) (rT_bn1 (p_step hF hT hX hmW hw) (fun z hz => ?_)))
  have hbl : m_Words_isBehindLast F z t = (if nI (Bx L W B m) < nI L then some 0 else some 1) := by
    have h1 := hz.1
    have h2 := hX.1
    unfold m_Words_isBehindLast
    rw [h1]
    show (if nI (Bx L W B m) < t 2 0 then some 0 else some 1) = _
    rw [h2]
  have hBL := (Bx_le (k := m) hT).1
  have hBL2 := (Bx_le (k := m) hT).2
  rw [hbl]
  rcases Nat.lt_or_ge m W with hlt | hge
  · obtain ⟨u1, u2, u3, u4⟩ := Bx_lt hT hlt
    rw [if_pos ((nI_ltI (by have := hT.1; omega) (by have := hT.1; omega)).mpr (by omega))]
    have hnW : ¬ nI W ≤ nI m := fun q => by have := (nI_leI (by omega) (by omega)).mp q; omega
    obtain ⟨o, y', q1, q2, q3⟩ := rd_sent (F := F) (x0 := x0) (pl := pl) (z := z) (ac := ac) (zn := zn) (n := n) hF hT hX hn1 hn2 hx0 hy1 hU hlt hz hN
    obtain ⟨o1, o2, o3, o4, o5⟩ := o
    refine rT_e1 rfl (rT_i0 (rT_e5 q1 ?_))
    rcases q3 with ⟨w', g1, g3⟩ | ⟨g1, m', g3, g4, g5, g6, g7⟩
    · have g1 : o1 = nI w' := g1
      subst g1
      have hw2 := g3.2.1
      refine rT_in (m1eq (by omega)) (rT_some (rT_in hnW (rT_in n0m (rT_e1 q2 ?_))))
      show rT (m_MD_read_B53 F K (lq1 _ g2) y') _
      rw [m_MD_read_B53, g3.1]
      exact rT_if (fun _ => hKb w' _ _ _ _ y' g3) (fun _ => rT_ip (le0 (by omega)) (hKb w' _ _ _ _ y' g3))
    · have g1 : o1 = -1 := g1
      subst g1
      rw [show (nI i + 1 : Int32) = nI (i + 1) from nI_add i 1]
      refine rT_ip rfl (r2_tl (r2_r (rT_in hnW (rT_in n0m (rT_e1 q2 (r2_tr (hrec (nI (i + 1), o2, o3, o4, o5) y' (by omega) ⟨by have := g5.2.2.1; omega, rfl, g6, m', by omega, g5.2.2.1, g4, g5, g7⟩)))))))
  · have em : m = W := by omega
    have hBW : Bx L W B m = L := by unfold Bx; rw [if_neg (by omega)]
    rw [hBW, if_neg (fun q => by have := (nI_ltI (by have := hT.1; omega) (by have := hT.1; omega)).mp q; omega)]
    exact rT_e1 rfl (rT_i1 (rT_some (rT_ip ((nI_leI (by omega) (by omega)).mpr hge) (hKg m _ _ _ _ y hN hU))))
-- the two ends of read
theorem Rel_good {x : Nat → St} {n : Nat} {y u pl zn ac : St} (hR : Rel x n y) (hf : ∀ f : Nat, f ≠ 0 → (f < 13 ∨ 35 < f) → u f = y f) (kZ : rZn n 0 zn u) (kA : rAs 0 ac u) (kB : rAd ac u) (kO : rOr 0 ac u) (kW : rRw 27 0 0 pl u) : Rel (xr 1 x pl zn ac) n u := by
  obtain ⟨hT, hP, hL, hE, hZ, hA, hB, hO, hW, hN⟩ := hR
  have kT : rTx (x 1) u := by
    unfold rTx at hT ⊢
    rw [hf 11 (by omega) (by omega), hf 12 (by omega) (by omega)]; exact hT
  have kP : rPt n (x 2) u := by
    unfold rPt Hd at hP ⊢
    rw [hf 1 (by omega) (by omega), hf 3 (by omega) (by omega), hf 4 (by omega) (by omega), hf 5 (by omega) (by omega), hf 6 (by omega) (by omega), hf 7 (by omega) (by omega), hf 10 (by omega) (by omega)]; exact hP
  have kL : rLp n (fun j => x (10 + j)) u := by
    unfold rLp rL1 at hL ⊢
    rw [hf 6 (by omega) (by omega), hf 7 (by omega) (by omega), hf 8 (by omega) (by omega), hf 9 (by omega) (by omega), hf 10 (by omega) (by omega)]; exact hL
  have kE : rEv (x 4) u := by
    unfold rEv at hE ⊢
    rw [hf 36 (by omega) (by omega), hf 37 (by omega) (by omega), hf 38 (by omega) (by omega), hf 39 (by omega) (by omega)]; exact hE
  have kN : rNw (x 0) u := by
    unfold rNw at hN ⊢
    rw [hf 2 (by omega) (by omega)]; exact hN
  exact ⟨kT, kP, Lp_up (Lp_up (Lp_up (Lp_up (Lp_up (Lp_up kL (by omega)) (by omega)) (by omega)) (by omega)) (by omega)) (by omega), kE, kZ, kA, kB, kO, kW, kN⟩
theorem Rel_bad {x : Nat → St} {n : Nat} {y u pl zn ac : St} (hR : Rel x n y) (hf : ∀ f : Nat, f ≠ 0 → (f < 13 ∨ 31 < f) → u f = y f) (h27 : u 27 = y 27) (hl : ∀ f i : Nat, 18 ≤ f → f ≤ 26 → f ≠ 21 → i < 20 → u f i = y f i) (h21 : ∀ q : Nat, q < 240 → u 21 q = y 21 q) (hr : ∀ f i : Nat, 29 ≤ f → f ≤ 31 → i < 50 → u f i = y f i) : Rel (xr 0 x pl zn ac) n u := by
  obtain ⟨hT, hP, hL, hE, hZ, hA, hB, hO, hW, hN⟩ := hR
  have kT : rTx (x 1) u := by
    unfold rTx at hT ⊢
    rw [hf 11 (by omega) (by omega), hf 12 (by omega) (by omega)]; exact hT
  have kP : rPt n (x 2) u := by
    unfold rPt Hd at hP ⊢
    rw [hf 1 (by omega) (by omega), hf 3 (by omega) (by omega), hf 4 (by omega) (by omega), hf 5 (by omega) (by omega), hf 6 (by omega) (by omega), hf 7 (by omega) (by omega), hf 10 (by omega) (by omega)]; exact hP
  have kL : rLp n (fun j => x (10 + j)) u := by
    unfold rLp rL1 at hL ⊢
    rw [hf 6 (by omega) (by omega), hf 7 (by omega) (by omega), hf 8 (by omega) (by omega), hf 9 (by omega) (by omega), hf 10 (by omega) (by omega)]; exact hL
  have kE : rEv (x 4) u := by
    unfold rEv at hE ⊢
    rw [hf 36 (by omega) (by omega), hf 37 (by omega) (by omega), hf 38 (by omega) (by omega), hf 39 (by omega) (by omega)]; exact hE
  have kN : rNw (x 0) u := by
    unfold rNw at hN ⊢
    rw [hf 2 (by omega) (by omega)]; exact hN
  have kZ : rZn n 0 (x 6) u := by
    intro i hi
    show (u 18 i = 0 ∧ _) ∨ (u 18 i = 1 ∧ ∃ nd sz : Nat, 1 ≤ nd ∧ nd ≤ 12 ∧ sz ≤ 12 ∧ u 19 i = nI nd ∧ x 6 0 i = nI nd ∧ u 20 i = nI sz ∧ x 6 1 i = nI sz ∧ ∀ k : Nat, k < sz → ∃ p : Nat, p < n ∧ u 21 (12 * i + k) = nI p ∧ x 6 2 (12 * i + k) = nI p)
    rw [hl 18 i (by omega) (by omega) (by omega) hi, hl 19 i (by omega) (by omega) (by omega) hi, hl 20 i (by omega) (by omega) (by omega) hi]
    rcases hZ i hi with h | ⟨a1, nd, sz, a2, a3, a4, a5, a6, a7, a8, a9⟩
    · exact Or.inl h
    · refine Or.inr ⟨a1, nd, sz, a2, a3, a4, a5, a6, a7, a8, fun k hk => ?_⟩
      obtain ⟨p, b1, b2, b3⟩ := a9 k hk
      exact ⟨p, b1, by rw [h21 _ (by omega)]; exact b2, b3⟩
  have kA : rAs 0 (x 7) u := by
    intro i hi
    show (u 22 i = 0 ∧ x 7 3 i = 0) ∨ (u 22 i = 1 ∧ x 7 3 i = 1 ∧ x 7 4 i = u 26 i ∧ (u 26 i = 0 ∨ u 26 i = 1) ∧ x 7 0 i = u 23 i ∧ x 7 1 i = u 24 i ∧ x 7 2 i = u 25 i)
    rw [hl 22 i (by omega) (by omega) (by omega) hi, hl 23 i (by omega) (by omega) (by omega) hi, hl 24 i (by omega) (by omega) (by omega) hi, hl 25 i (by omega) (by omega) (by omega) hi, hl 26 i (by omega) (by omega) (by omega) hi]
    exact hA i hi
  have kB : rAd (x 7) u := by
    intro i hi
    rw [hl 22 i (by omega) (by omega) (by omega) hi, hf 32 (by omega) (by omega), hf 33 (by omega) (by omega), hf 34 (by omega) (by omega), hf 35 (by omega) (by omega)]
    exact hB i hi
  have kO : rOr 0 (x 7) u := by
    obtain ⟨c, g, q1, q2, q3, q4, q5⟩ := hO
    refine ⟨c, g, q1, q2, fun k hk => ⟨(q3 k hk).1, (q3 k hk).2.1, ?_⟩, fun r s h1 h2 => ?_, fun b hb h => q5 b hb ?_⟩
    · show u 22 (g k) = 1
      rw [hl 22 _ (by omega) (by omega) (by omega) (q3 k hk).1]; exact (q3 k hk).2.2
    · have := q4 r s h1 h2
      unfold so at this ⊢
      show u 24 (g s) < u 24 (g r) ∨ (u 24 (g r) = u 24 (g s) ∧ g r < g s)
      rw [hl 24 _ (by omega) (by omega) (by omega) (q3 r (by omega)).1, hl 24 _ (by omega) (by omega) (by omega) (q3 s h2).1]
      exact this
    · show y 22 b = 1
      rw [← hl 22 b (by omega) (by omega) (by omega) hb]; exact h
  have kW : rRw 27 0 0 (x 5) u := by
    obtain ⟨r, q1, q2, q3, q4⟩ := hW
    refine ⟨r, q1, q2, by rw [h27]; exact q3, fun k hk => ?_⟩
    obtain ⟨a, b, p1, p2, p3, p4, p5, p6, p7, p8⟩ := q4 k hk
    show ∃ a b : Nat, a < 20 ∧ b < 20 ∧ u 29 k = nI a ∧ x 5 2 k = nI a ∧ u 18 a = 1 ∧ u 31 k = nI b ∧ x 5 4 k = nI b ∧ ((u 30 k = -1 ∧ x 5 3 k = -1) ∨ ∃ v : Nat, v < 20 ∧ u 30 k = nI v ∧ x 5 3 k = nI v ∧ u 18 v = 1)
    rw [hr 29 k (by omega) (by omega) (by omega), hr 30 k (by omega) (by omega) (by omega), hr 31 k (by omega) (by omega) (by omega)]
    refine ⟨a, b, p1, p2, p3, p4, by rw [hl 18 a (by omega) (by omega) (by omega) p1]; exact p5, p6, p7, ?_⟩
    rcases p8 with p8 | ⟨v, v1, v2, v3, v4⟩
    · exact Or.inl p8
    · exact Or.inr ⟨v, v1, v2, v3, by rw [hl 18 v (by omega) (by omega) (by omega) v1]; exact v4⟩
  exact ⟨kT, kP, Lp_up (Lp_up (Lp_up kL (by omega)) (by omega)) (by omega), kE, kZ, kA, kB, kO, kW, kN⟩
theorem UP_take {n r : Nat} {pl zn ac y z u : St} (hU : UP n pl zn ac y) (h28 : y 28 0 = nI r) (hr : r ≤ 50) (hT : TS y z 20 240) (hf : ∀ f : Nat, f ≠ 27 → f ≠ 29 → f ≠ 30 → f ≠ 31 → u f = z f) (h27 : u 27 0 = z 28 0) (hrow : ∀ k : Nat, k < r → u 29 k = z 29 (k + 50) ∧ u 30 k = z 30 (k + 50) ∧ u 31 k = z 31 (k + 50)) : rZn n 0 zn u ∧ rAs 0 ac u ∧ rAd ac u ∧ rOr 0 ac u ∧ rRw 27 0 0 pl u := by
  obtain ⟨uZ, uA, uO, uR, u4, u7⟩ := hU
  obtain ⟨t1, t2, t3, t4, t5⟩ := hT
  have b01 : ∀ v : Int32, v = 0 ∨ v = 1 → vp_nar .boolean v = v := by
    rintro v (e | e)
    · rw [e, vb0]
    · rw [e, vb1]
  have f18 : ∀ i : Nat, i < 20 → u 18 i = y 18 (i + 20) := by
    intro i hi
    rw [hf 18 (by omega) (by omega) (by omega) (by omega), (t5 i hi).1]
    refine b01 _ ?_
    rcases uZ i hi with h | h
    · exact Or.inl h.1
    · exact Or.inr h.1
  have f22 : ∀ i : Nat, i < 20 → u 22 i = y 22 (i + 20) := by
    intro i hi
    rw [hf 22 (by omega) (by omega) (by omega) (by omega), (t5 i hi).2.2.2.1]
    refine b01 _ ?_
    rcases uA i hi with h | h
    · exact Or.inl h.1
    · exact Or.inr h.1
  have f24 : ∀ i : Nat, i < 20 → u 24 i = y 24 (i + 20) := by
    intro i hi
    rw [hf 24 (by omega) (by omega) (by omega) (by omega)]; exact (t5 i hi).2.2.2.2.2.1
  refine ⟨fun i hi => ?_, fun i hi => ?_, fun i hi => ⟨fun _ => u7 i hi, fun _ => ?_⟩, ?_, ?_⟩
  · show (u 18 i = 0 ∧ zn 0 i = 0 ∧ zn 1 i = 0) ∨ (u 18 i = 1 ∧ ∃ nd sz : Nat, 1 ≤ nd ∧ nd ≤ 12 ∧ sz ≤ 12 ∧ u 19 i = nI nd ∧ zn 0 i = nI nd ∧ u 20 i = nI sz ∧ zn 1 i = nI sz ∧ ∀ k : Nat, k < sz → ∃ p : Nat, p < n ∧ u 21 (12 * i + k) = nI p ∧ zn 2 (12 * i + k) = nI p)
    rw [f18 i hi, hf 19 (by omega) (by omega) (by omega) (by omega), (t5 i hi).2.1, hf 20 (by omega) (by omega) (by omega) (by omega), (t5 i hi).2.2.1]
    rcases uZ i hi with h | ⟨a1, nd, sz, a2, a3, a4, a5, a6, a7, a8, a9⟩
    · exact Or.inl h
    · refine Or.inr ⟨a1, nd, sz, a2, a3, a4, a5, a6, a7, a8, fun k hk => ?_⟩
      obtain ⟨p, b1, b2, b3⟩ := a9 k hk
      refine ⟨p, b1, ?_, b3⟩
      rw [hf 21 (by omega) (by omega) (by omega) (by omega), t4 _ (by omega), show 240 + (12 * i + k) = 12 * (i + 20) + k by omega]
      exact b2
  · show (u 22 i = 0 ∧ ac 3 i = 0) ∨ (u 22 i = 1 ∧ ac 3 i = 1 ∧ ac 4 i = u 26 i ∧ (u 26 i = 0 ∨ u 26 i = 1) ∧ ac 0 i = u 23 i ∧ ac 1 i = u 24 i ∧ ac 2 i = u 25 i)
    rw [f22 i hi, f24 i hi, hf 26 (by omega) (by omega) (by omega) (by omega), hf 23 (by omega) (by omega) (by omega) (by omega), hf 25 (by omega) (by omega) (by omega) (by omega), (t5 i hi).2.2.2.2.2.2.2.1, (t5 i hi).2.2.2.2.1, (t5 i hi).2.2.2.2.2.2.1]
    rcases uA i hi with h | ⟨a1, a2, a3, a4, a5, a6, a7⟩
    · exact Or.inl h
    · rw [b01 _ a4]
      exact Or.inr ⟨a1, a2, a3, a4, a5, a6, a7⟩
  · rw [hf 32 (by omega) (by omega) (by omega) (by omega), hf 33 (by omega) (by omega) (by omega) (by omega), hf 34 (by omega) (by omega) (by omega) (by omega), hf 35 (by omega) (by omega) (by omega) (by omega)]
    obtain ⟨s1, s2, s3, s4⟩ := (t5 i hi).2.2.2.2.2.2.2.2
    rw [s1, s2, s3, s4]
    exact ⟨u7 i hi, Or.inr ⟨Or.inl rfl, rfl, rfl, rfl⟩⟩
  · obtain ⟨c, g, q1, q2, q3, q4, q5⟩ := uO
    refine ⟨c, g, q1, q2, fun k hk => ⟨(q3 k hk).1, (q3 k hk).2.1, ?_⟩, fun r s h1 h2 => ?_, fun b hb h => q5 b hb ?_⟩
    · show u 22 (g k) = 1
      rw [f22 _ (q3 k hk).1]; exact (q3 k hk).2.2
    · have := q4 r s h1 h2
      unfold so at this ⊢
      show u 24 (g s) < u 24 (g r) ∨ (u 24 (g r) = u 24 (g s) ∧ g r < g s)
      rw [f24 _ (q3 r (by omega)).1, f24 _ (q3 s h2).1]
      exact this
    · rw [← f22 b hb]; exact h
  · obtain ⟨r', q1, q2, q3, q4⟩ := uR
    have er : r' = r := (nI_eq (by omega) (by omega)).mp (q3.symm.trans h28)
    subst er
    refine ⟨r', q1, q2, ?_, fun k hk => ?_⟩
    · rw [h27, t1 28 (by omega) (by omega)]; exact q3
    · obtain ⟨a, b, p1, p2, p3, p4, p5, p6, p7, p8⟩ := q4 k hk
      obtain ⟨w1, w2, w3⟩ := hrow k hk
      show ∃ a b : Nat, a < 20 ∧ b < 20 ∧ u 29 k = nI a ∧ pl 2 k = nI a ∧ u 18 a = 1 ∧ u 31 k = nI b ∧ pl 4 k = nI b ∧ ((u 30 k = -1 ∧ pl 3 k = -1) ∨ ∃ v : Nat, v < 20 ∧ u 30 k = nI v ∧ pl 3 k = nI v ∧ u 18 v = 1)
      rw [w1, w2, w3, t1 29 (by omega) (by omega), t1 30 (by omega) (by omega), t1 31 (by omega) (by omega)]
      refine ⟨a, b, p1, p2, p3, p4, by rw [f18 a p1]; exact p5, p6, p7, ?_⟩
      rcases p8 with p8 | ⟨v, v1, v2, v3, v4⟩
      · exact Or.inl p8
      · exact Or.inr ⟨v, v1, v2, v3, by rw [f18 v v1]; exact v4⟩
set_option maxHeartbeats 4000000 in
theorem s_read (F : Nat) (hF : 100000 ≤ F) : sim_read F Rel := by
  intro x n y hR
  have hR0 := hR
  obtain ⟨⟨L, hL0, hx2, hy2, hch⟩, hP, hL, hE, hZ, hA, hB, hO, hW, hN⟩ := hR
  obtain ⟨⟨hn1, hn2⟩, hp0, hy1, hpt⟩ := hP
  have hc : ∀ i : Nat, i < L → y 11 i = nI ((y 11 i).toNatClampNeg) ∧ (y 11 i).toNatClampNeg ≤ 127 := by
    intro i hi
    obtain ⟨_, c, h1, h2⟩ := hch i hi
    rw [h2, nI_clamp (by omega)]
    exact ⟨rfl, h1⟩
  have hX : TX L (fun i => (y 11 i).toNatClampNeg) (x 1) := ⟨hx2, fun i hi => (hch i hi).1.trans (hc i hi).1⟩
  refine r2_r ?_
  unfold m_MD_read
  refine rT_lz (rT_bn1 (q_list (c := fun i => (y 11 i).toNatClampNeg) (y := sc y 0 0) hF hL0 hy2 hc) (fun yl hl => ?_))
  obtain ⟨W, B, E, hTK, hTF, hyl⟩ := hl
  have hW2 : W ≤ 2000 := Nat.le_trans hTK.2.1 hTK.1
  refine rT_lz (rT_lz (rT_lz ?_))
  generalize hy0 : sc (sc (sc yl 16 0) 17 (-1)) 28 0 = y0
  have hf0 : ∀ f : Nat, f ≠ 0 → f ≠ 13 → f ≠ 14 → f ≠ 15 → f ≠ 16 → f ≠ 17 → f ≠ 28 → y0 f = y f := by
    intro f a1 a2 a3 a4 a5 a6 a7
    rw [← hy0, sc_n a7, sc_n a6, sc_n a5, hyl f a2 a3 a4, sc_n a1]
  have hTF0 : TF L W (fun i => (y 11 i).toNatClampNeg) B E y0 := by rw [← hy0]; exact hTF
  have h16 : y0 16 0 = nI 0 := by rw [← hy0]; rfl
  have h17 : y0 17 0 = -1 := by rw [← hy0]; rfl
  have h28 : y0 28 0 = nI 0 := by rw [← hy0]; rfl
  refine rT_lq2 20 (fun i v z => v = nI (i + 20) ∧ (∀ f : Nat, f ≠ 18 → f ≠ 22 → z f = y0 f) ∧ (∀ k : Nat, k < 20 → z 18 k = y0 18 k ∧ z 22 k = y0 22 k) ∧ (∀ k : Nat, k < i → z 18 (k + 20) = 0 ∧ z 22 (k + 20) = 0)) ?_ F 0 _ y0 (by omega) (by omega) ⟨rfl, fun _ _ _ => rfl, fun _ _ => ⟨rfl, rfl⟩, fun k hk => by omega⟩
  intro i rec v y2 hi hI hrec
  obtain ⟨ev, z1, z2, z3⟩ := hI
  subst ev
  unfold m_MD_read_B27
  refine rT_if (fun g => ?_) (fun g => ?_)
  rotate_left
  · have hi' : i < 20 := by
      rcases Nat.lt_or_ge i 20 with q | q
      · exact q
      · exact absurd ((nI_leI (a := 40) (by omega) (by omega)).mpr (by omega)) g
    rw [nI_clamp (by omega), vb0, show (nI (i + 20) + 1 : Int32) = nI (i + 1 + 20) from by rw [show i + 1 + 20 = i + 20 + 1 by omega]; exact nI_add (i + 20) 1]
    refine rT_ck (vin (by omega)) (rT_lz (rT_ck (vin (by omega)) (rT_lz (hrec _ _ hi' ⟨rfl, fun f f1 f2 => ?_, fun k hk => ?_, fun k hk => ?_⟩))))
    · rw [st_n f2, st_n f1]; exact z1 f f1 f2
    · show upd (y2 18) (i + 20) 0 k = _ ∧ upd (y2 22) (i + 20) 0 k = _
      rw [upd_n (by omega), upd_n (by omega)]; exact z2 k hk
    · show upd (y2 18) (i + 20) 0 (k + 20) = 0 ∧ upd (y2 22) (i + 20) 0 (k + 20) = 0
      by_cases e : k = i
      · subst e; rw [upd_e, upd_e]; exact ⟨rfl, rfl⟩
      · rw [upd_n (by omega), upd_n (by omega)]; exact z3 k (by omega)
  have ei : i = 20 := by have := (nI_leI (a := 40) (by omega) (by omega)).mp g; omega
  subst ei
  -- both read on
  have hFr : Fr y0 y2 := by
    refine ⟨fun f _ _ f3 f4 => z1 f (by omega) (by omega), fun f k f1 f2 f3 hk => ?_, fun q _ => by rw [z1 21 (by omega) (by omega)], fun f k f1 f2 _ => by rw [z1 f (by omega) (by omega)]⟩
    by_cases e : f = 18
    · subst e; exact (z2 k hk).1
    · by_cases e2 : f = 22
      · subst e2; exact (z2 k hk).2
      · rw [z1 f e e2]
  have hNW : NW L W (fun i => (y 11 i).toNatClampNeg) B E y0 0 y2 := by
    refine ⟨by rw [z1 17 (by omega) (by omega)]; exact h17, by rw [z1 16 (by omega) (by omega)]; exact h16, by omega, ?_, hFr⟩
    unfold TF at hTF0 ⊢
    rw [z1 13 (by omega) (by omega), z1 11 (by omega) (by omega), z1 14 (by omega) (by omega), z1 15 (by omega) (by omega)]
    exact hTF0
  have hy21 : y2 1 0 = nI n := by
    rw [z1 1 (by omega) (by omega), hf0 1 (by omega) (by omega) (by omega) (by omega) (by omega) (by omega) (by omega)]; exact hy1
  obtain ⟨⟨pl1, ac1, zn1⟩, hcl, c1, ⟨c2, c3⟩, c4⟩ := p_clear (F := F) (pl := x 8) (a := x 18) (z := x 9) hF
  have c1 : pl1 5 0 = 0 := c1
  have c2 : ac1 6 0 = 0 := c2
  have c3 : ∀ i : Nat, i < 20 → ac1 3 i = 0 ∧ ac1 4 i = 0 ∧ ac1 7 i = 0 := c3
  have c4 : ∀ i : Nat, i < 20 → zn1 0 i = 0 ∧ zn1 1 i = 0 := c4
  have hUP : UP n pl1 zn1 ac1 y2 := by
    refine ⟨fun i hi => Or.inl ⟨(z3 i hi).1, (c4 i hi).1, (c4 i hi).2⟩, fun i hi => Or.inl ⟨(z3 i hi).2, (c3 i hi).1⟩, ⟨0, fun _ => 0, by omega, c2, fun k hk => by omega, fun r s _ hs => by omega, fun b hb h => absurd (h.symm.trans (z3 b hb).2) n10⟩, ⟨0, by omega, c1, by rw [z1 28 (by omega) (by omega)]; exact h28, fun k hk => by omega⟩, fun i hi _ => (c3 i hi).2.1, fun i hi => (c3 i hi).2.2⟩
  have hlow : ∀ (u : St), Fr y0 u → (∀ f : Nat, f ≠ 0 → (f < 13 ∨ 31 < f) → u f = y f) ∧ u 27 = y 27 ∧ (∀ f i : Nat, 18 ≤ f → f ≤ 26 → f ≠ 21 → i < 20 → u f i = y f i) ∧ (∀ q : Nat, q < 240 → u 21 q = y 21 q) ∧ (∀ f i : Nat, 29 ≤ f → f ≤ 31 → i < 50 → u f i = y f i) := by
    intro u hu
    obtain ⟨p1, p2, p3, p4⟩ := hu
    refine ⟨fun f f1 f2 => ?_, ?_, fun f i f1 f2 f3 hi => ?_, fun q hq => ?_, fun f i f1 f2 hi => ?_⟩
    · rw [p1 f (by omega) (by omega) (by omega) (by omega)]; exact hf0 f f1 (by omega) (by omega) (by omega) (by omega) (by omega) (by omega)
    · rw [p1 27 (by omega) (by omega) (by omega) (by omega)]; exact hf0 27 (by omega) (by omega) (by omega) (by omega) (by omega) (by omega) (by omega)
    · rw [p2 f i f1 f2 f3 hi, hf0 f (by omega) (by omega) (by omega) (by omega) (by omega) (by omega) (by omega)]
    · rw [p3 q hq, hf0 21 (by omega) (by omega) (by omega) (by omega) (by omega) (by omega) (by omega)]
    · rw [p4 f i f1 f2 hi, hf0 f (by omega) (by omega) (by omega) (by omega) (by omega) (by omega) (by omega)]
  have hJ := rd_loop (F := F) (n := n) (x0 := sc z0 2 (nI n)) (t := x 1) (y0 := y0) (K := fun y0_53 => (if (y0_53 17 0) < (0 : Int32) then (bn1 (m_MD_take_1 F y0_53) (fun z0_93 => (some ((z0_93 27 0), z0_93)))) else (some (((-1 : Int32) - (y0_53 17 0)), y0_53)))) (P := fun o b => (o.1 = -1 ∧ o.2.1 5 0 = b.1 ∧ Rel (xr 1 x o.2.1 o.2.2.2.2 o.2.2.2.1) n b.2) ∨ (∃ w : Nat, w ≤ 2000 ∧ o.1 = nI w ∧ b.1 = -1 - nI w ∧ Rel (xr 0 x o.2.1 o.2.2.2.2 o.2.2.2.1) n b.2)) hF hTK hX hn1 hn2 rfl ?_ ?_ pl1 (sc z0 3 (-1)) ac1 zn1 y2 ⟨rfl, rfl⟩ hNW hy21 hUP
  · obtain ⟨o, b, j1, j2, j3⟩ := hJ
    refine rT_eq j2 ?_
    obtain ⟨o1, o2, o3, o4, o5⟩ := o
    have hfw : m_Reader_findWrongWord F (sc z0 2 (nI n)) (x 8) (sc z0 3 (-1)) (x 18) (x 9) (x 1) = some (o1, o2, o3, o4, o5) := by
      refine rT_get ?_
      unfold m_Reader_findWrongWord
      exact rT_e3 hcl (rT_eq j1 rfl)
    unfold m_AM_read
    refine rT_e1 (a := nI n) (show m_Points_count F (x 2) n = some (nI n) from congrArg some hp0) (rT_e5 hfw ?_)
    rcases j3 with ⟨k1, k2, k3⟩ | ⟨w, k0, k1, k2, k3⟩
    · have k1 : o1 = -1 := k1
      subst k1
      exact rT_ip rfl (rT_e1 rfl (rT_some ⟨k2, Or.inr rfl, k3⟩))
    · have k1 : o1 = nI w := k1
      subst k1
      exact rT_in (m1eq (by omega)) (rT_some ⟨k2.symm, Or.inl rfl, k3⟩)
  · intro w pl z ac zn y' hWR
    have h17' : y' 17 0 = nI w := hWR.1
    have hw2 := hWR.2.1
    obtain ⟨l1, l2, l3, l4, l5⟩ := hlow y' hWR.2.2.2.2
    show rT (if (y' 17 0) < (0 : Int32) then _ else some (((-1 : Int32) - (y' 17 0)), y')) _
    rw [h17']
    refine rT_in (n0 (by omega)) (rT_some (Or.inr ⟨w, hw2, rfl, rfl, Rel_bad hR0 l1 l2 l3 l4 l5⟩))
  · intro m pl z ac zn y' hN' hU'
    obtain ⟨r, hr50, p5, e28, hrow⟩ := hU'.2.2.2.1
    obtain ⟨l1, l2, l3, l4, l5⟩ := hlow y' hN'.2.2.2.2
    show rT (if (y' 17 0) < (0 : Int32) then (bn1 (m_MD_take_1 F y') (fun z0_93 => (some ((z0_93 27 0), z0_93)))) else _) _
    rw [hN'.1]
    refine rT_ip m1neg (rT_bn1 (q_take1 hF e28 hr50) (fun u hu => rT_some (Or.inl ⟨rfl, ?_, ?_⟩)))
    · obtain ⟨z9, ⟨t1, t2, t3, t4, t5⟩, q1, q2, q3⟩ := hu
      show pl 5 0 = u 27 0
      rw [q2, t1 28 (by omega) (by omega), e28]; exact p5
    · obtain ⟨z9, hTS, q1, q2, q3⟩ := hu
      obtain ⟨kZ, kA, kB, kO, kW⟩ := UP_take hU' e28 hr50 hTS q1 q2 q3
      refine Rel_good hR0 (fun f f1 f2 => ?_) kZ kA kB kO kW
      show u f = y f
      rw [q1 f (by omega) (by omega) (by omega) (by omega), hTS.1 f (by omega) (by omega)]
      exact l1 f f1 (by omega)

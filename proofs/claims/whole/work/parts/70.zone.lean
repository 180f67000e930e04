-- THE SENTENCE OF A ZONE
theorem rT_J2 {A B R S : Type} {r : Nat → A → Option R} {s : Nat → B → Option S} {P : R → S → Prop} (N : Nat) (I : Nat → A → B → Prop) (h : ∀ (i n m : Nat) (a : A) (b : B), i ≤ N → N ≤ n + i → N ≤ m + i → I i a b → (∀ a' b', i < N → I (i + 1) a' b' → r2 (r n a') (s m b') P) → r2 (r (n + 1) a) (s (m + 1) b) P) : ∀ (n m i : Nat) (a : A) (b : B), i ≤ N → N < n + i → N < m + i → I i a b → r2 (r n a) (s m b) P := by
  intro n
  induction n with
  | zero => intro m i a b hi hn _ _; omega
  | succ n ih =>
    intro m i a b hi hn hm hI
    obtain ⟨m, rfl⟩ : ∃ m', m = m' + 1 := ⟨m - 1, by omega⟩
    exact h i n m a b hi (by omega) (by omega) hI (fun a' b' hl hI' => ih m (i + 1) a' b' hl (by omega) (by omega) hI')
theorem upd_upd {f : Nat → Int32} {k : Nat} {a b : Int32} : upd (upd f k a) k b = upd f k b := by
  funext j
  by_cases e : j = k
  · subst e; rw [upd_e, upd_e]
  · rw [upd_n e, upd_n e, upd_n e]
theorem p_hasPoint {F z s p : Nat} {zn : St} (hF : 100000 ≤ F) (hz : z < 20) (hs : s ≤ 12) (h1 : zn 1 z = nI s) : rT (m_Zones_hasPoint F zn (nI z) (nI p)) (fun r => r = tf (∃ j : Nat, j < s ∧ zn 2 (12 * z + j) = nI p)) := by
  have ei : ∀ k : Nat, (nI z * (12 : Int32) + nI k) = nI (12 * z + k) := fun k => by
    rw [show (12 : Int32) = nI 12 from rfl, pk_mul, nI_add, Nat.mul_comm]
  unfold m_Zones_hasPoint
  refine rT_lq1 s (fun i v => v = nI i ∧ ∀ j : Nat, j < i → ¬ zn 2 (12 * z + j) = nI p) ?_ F 0 0 (by omega) (by omega) ⟨rfl, fun j hj => by omega⟩
  intro i r v hi hI hrec
  obtain ⟨ev, hI⟩ := hI
  subst ev
  unfold m_Zones_hasPoint_B8
  rw [nI_clamp (show z < 2 ^ 31 by omega), h1, ei i]
  refine rT_ck (vin hz) (rT_if (fun g => rT_some (tf_n (fun q => ?_)).symm) (fun g => ?_))
  · have := (nI_leI (by omega) (by omega)).mp g
    obtain ⟨j, hj, e⟩ := q
    exact hI j (by omega) e
  have hi' : i < s := Nat.lt_of_not_le (fun q => g ((nI_leI (by omega) (by omega)).mpr q))
  rw [nI_clamp (by omega)]
  refine rT_ck (vin (by omega)) (rT_if (fun g1 => rT_some (tf_p ⟨i, hi', g1⟩).symm) (fun g1 => hrec _ hi' ⟨nI_add i 1, fun j hj => ?_⟩))
  by_cases e : j = i
  · subst e; exact g1
  · exact hI j (by omega)
theorem q_has {F z s p : Nat} {y : St} (hF : 100000 ≤ F) (hz : z < 40) (hs : s ≤ 12) (h1 : y 20 z = nI s) : rT (m_MD_has F y (nI z) (nI p)) (fun r => r = tf (∃ j : Nat, j < s ∧ y 21 (12 * z + j) = nI p)) := by
  have ei : ∀ k : Nat, ((12 : Int32) * nI z + nI k) = nI (12 * z + k) := fun k => by
    rw [show (12 : Int32) = nI 12 from rfl, pk_mul, nI_add]
  unfold m_MD_has
  refine rT_lq2 s (fun i v3 v4 => v4 = nI i ∧ v3 = tf (∃ j : Nat, j < i ∧ y 21 (12 * z + j) = nI p)) ?_ F 0 0 0 (by omega) (by omega) ⟨rfl, (tf_n (by rintro ⟨m, hm, _⟩; omega)).symm⟩
  intro i r v3 v4 hi hI hrec
  obtain ⟨e4, e3⟩ := hI
  subst e4
  unfold m_MD_has_B5
  rw [nI_clamp (show z < 2 ^ 31 by omega), h1, ei i, show (nI i + 1 : Int32) = nI (i + 1) from nI_add i 1]
  refine rT_ck (vin hz) (rT_if (fun g => rT_ckb (by rw [e3]; exact tf_b _) (rT_some ?_)) (fun g => ?_))
  · have := (nI_leI (by omega) (by omega)).mp g
    rw [show s = i by omega]; exact e3
  have hi' : i < s := Nat.lt_of_not_le (fun q => g ((nI_leI (by omega) (by omega)).mpr q))
  rw [nI_clamp (by omega)]
  refine rT_if (fun g1 => rT_ck (vin (by omega)) (rT_if (fun g2 => hrec _ _ hi' ⟨rfl, (tf_p ⟨i, by omega, g2⟩).symm⟩) (fun g2 => hrec _ _ hi' ⟨rfl, (tf_n ?_).symm⟩))) (fun g1 => hrec _ _ hi' ⟨rfl, ?_⟩)
  · rintro ⟨j, hj, e⟩
    by_cases ej : j = i
    · subst ej; exact g2 e
    · exact tf_zz e3 g1 ⟨j, by omega, e⟩
  · obtain ⟨j, hj, e⟩ := tf_nz e3 g1
    exact (tf_p ⟨j, by omega, e⟩).symm
theorem e_addPoint {F z s : Nat} {zn : St} {v : Int32} (hz : z < 20) (hs : s < 12) (h1 : zn 1 z = nI s) : m_Zones_addPoint F zn (nI z) v = some (st (st zn 2 (upd (zn 2) (12 * z + s) v)) 1 (upd (zn 1) z (nI (s + 1)))) := by
  have ei : (nI z * (12 : Int32) + nI s) = nI (12 * z + s) := by
    rw [show (12 : Int32) = nI 12 from rfl, pk_mul, nI_add, Nat.mul_comm]
  refine rT_get ?_
  unfold m_Zones_addPoint
  rw [nI_clamp (show z < 2 ^ 31 by omega), h1, ei, nI_clamp (by omega)]
  refine rT_ck (vin hz) (rT_in (fun q => by have := (nI_leI (a := 12) (by omega) (by omega)).mp q; omega) (rT_ck (vin hz) (rT_ck (vin (by omega)) (rT_lz (rT_ck (vin hz) (rT_ck (vin hz) (rT_lz (rT_some ?_))))))))
  show st (st zn 2 (upd (zn 2) (12 * z + s) v)) 1 (upd (zn 1) z (zn 1 z + 1)) = _
  rw [h1, show (nI s + 1 : Int32) = nI (s + 1) from nI_add s 1]
def ZP (n z i : Nat) (zn y zn' y' : St) : Prop := zn' 1 = upd (zn 1) z (nI i) ∧ y' 20 = upd (y 20) (z + 20) (nI i) ∧ (∀ f : Nat, f ≠ 1 → f ≠ 2 → zn' f = zn f) ∧ (∀ f : Nat, f ≠ 16 → f ≠ 17 → f ≠ 20 → f ≠ 21 → y' f = y f) ∧ (∀ q : Nat, (q < 12 * z ∨ 12 * z + 12 ≤ q) → zn' 2 q = zn 2 q) ∧ (∀ q : Nat, (q < 12 * (z + 20) ∨ 12 * (z + 20) + 12 ≤ q) → y' 21 q = y 21 q) ∧ ∀ j : Nat, j < i → ∃ p : Nat, p < n ∧ y' 21 (12 * (z + 20) + j) = nI p ∧ zn' 2 (12 * z + j) = nI p
set_option maxHeartbeats 4000000 in
theorem pts_J {F L W n z m0 : Nat} {c B E : Nat → Nat} {x0 t y0 y zn x1 : St} {R : Type} {K : Int32 → St → Option R} {P : Int32 × St × St → R → Prop} (hF : 100000 ≤ F) (hT : TK L W c B E) (hX : TX L c t) (hn1 : 1 ≤ n) (hn2 : n ≤ 200) (hz : z < 20) (hx0 : x0 2 0 = nI n) (hy1 : y 1 0 = nI n)
    (hKb : ∀ (z' zn' : St) (w : Nat) (v : Int32) (y' : St), wa L W B E z' w → WR L W c B E y0 w y' → rT (K v y') (fun b => P (0, z', zn') b))
    (hKg : ∀ (z' zn' : St) (m s : Nat) (v : Int32) (y' : St), m0 ≤ m → m < W → wa L W B E z' m → NW L W c B E y0 m y' → 1 ≤ s → s ≤ 12 → ZP n z s zn y zn' y' → rT (K v y') (fun b => P (1, z', zn') b))
    (w0 : St) (hw0 : wb E w0 m0) (zn1 y1 : St) (hm0 : m0 ≤ W) (hN : NW L W c B E y0 m0 y1) (hZP : ZP n z 0 zn y zn1 y1) : r2 (m_Reader_readPoints F x0 x1 w0 zn1 t (nI z)) (lq2 (m_MD_readZone_B86 F (nI z) K) F (1 : Int32) y1) P := by
  have hW2 : W ≤ 2000 := Nat.le_trans hT.2.1 hT.1
  unfold m_Reader_readPoints
  refine rT_J2 (A := Int32 × St × St) (B := Int32 × St) (r := fun m A => lq3 (m_Reader_readPoints_B10 F t x0 (nI z) (fun v3_10 y2_10 y3_10 => (some ((1 : Int32), y2_10, y3_10))) (fun v3_10 y2_10 y3_10 => (some ((0 : Int32), y2_10, y3_10))) (fun v3_10 y2_10 y3_10 => (bn2 (m_Words_stepTo F y2_10 t 3) (fun r94 z2_94 => (ckb r94 (some (r94, z2_94, y3_10))))))) m A.1 A.2.1 A.2.2) (s := fun m B => lq2 (m_MD_readZone_B86 F (nI z) K) m B.1 B.2) 13 (fun i A D => i ≤ 12 ∧ A.1 = nI i ∧ D.1 = 1 ∧ wb E A.2.1 (m0 + i) ∧ m0 + i ≤ W ∧ NW L W c B E y0 (m0 + i) D.2 ∧ ZP n z i zn y A.2.2 D.2 ∧ (i = 0 ∨ ¬ isw L W c B E (m0 + i) 3)) ?_ F F 0 (0, w0, zn1) (1, y1) (by omega) (by omega) (by omega) ⟨by omega, rfl, rfl, hw0, hm0, hN, hZP, Or.inl rfl⟩
  intro i f1 f2 A D hi hf1 hf2 hI hrec
  obtain ⟨v3, w, zn2⟩ := A
  obtain ⟨v4, y2⟩ := D
  dsimp only at hI
  obtain ⟨hi12, i1, i2, hwb, hmi, hN, hZP, hsg⟩ := hI
  have i1 : v3 = nI i := i1
  have i2 : v4 = 1 := i2
  have hwb : wb E w (m0 + i) := hwb
  have hN : NW L W c B E y0 (m0 + i) y2 := hN
  have hZP : ZP n z i zn y zn2 y2 := hZP
  subst i1 i2
  obtain ⟨g1, rfl⟩ : ∃ g, f1 = g + 1 := ⟨f1 - 1, by omega⟩
  obtain ⟨g2, rfl⟩ : ∃ g, f2 = g + 1 := ⟨f2 - 1, by omega⟩
  show r2 (m_Reader_readPoints_B10 F t x0 (nI z) _ _ _ (lq3 _ (g1 + 1)) (nI i) w zn2) (m_MD_readZone_B86 F (nI z) K (lq2 _ (g2 + 1)) 1 y2) P
  -- once wrong, the reference's loop ends
  have hwr : ∀ (u : Int32) (w' : Nat) (z' zn' y' : St), wa L W B E z' w' → WR L W c B E y0 w' y' → rT (lq2 (m_MD_readZone_B86 F (nI z) K) (g2 + 1) u y') (fun b => P (0, z', zn') b) := by
    intro u w' z' zn' y' hwa hW
    show rT (m_MD_readZone_B86 F (nI z) K (lq2 _ g2) u y') _
    rw [m_MD_readZone_B86]
    rw [hW.1]
    exact rT_if (fun _ => hKb z' zn' w' _ y' hwa hW) (fun _ => rT_ip (le0 (by have := hW.2.1; omega)) (hKb z' zn' w' _ y' hwa hW))
  have hwrS : ∀ (w' : Nat) (z' zn' y' : St), wa L W B E z' w' → WR L W c B E y0 w' y' → rT (bn1 (m_MD_isSign F y' (59 : Int32)) (fun r192 => (if r192 = (0 : Int32) then (lq2 (m_MD_readZone_B86 F (nI z) K) (g2 + 1) (1 : Int32) y') else (lq2 (m_MD_readZone_B86 F (nI z) K) (g2 + 1) (0 : Int32) y')))) (fun b => P (0, z', zn') b) := by
    intro w' z' zn' y' hwa hW
    obtain ⟨q1, q2, ⟨k', q3, q4⟩, q5, q6⟩ := id hW
    exact bz (q_sign (F := F) (w := 3) (s := 59) hT q5 q3 q4 ln3 ch3 (by decide)) (fun _ => hwr _ _ _ _ _ hwa hW) (fun _ => hwr _ _ _ _ _ hwa hW)
  have hy1' : y2 1 0 - 1 = nI (n - 1) := by
    rw [hZP.2.2.2.1 1 (by omega) (by omega) (by omega) (by omega), hy1]
    exact pk_sub (b := 1) hn1
  have hx0' : x0 2 0 - 1 = nI (n - 1) := by rw [hx0]; exact pk_sub (b := 1) hn1
  have e20 : y2 20 (z + 20) = nI i := by rw [hZP.2.1, upd_e]
  have e1 : zn2 1 z = nI i := by rw [hZP.1, upd_e]
  -- the reference at a token that is no good point
  have hrefbad : ¬ (vl L W c B E (m0 + i) 0 (n - 1) ∧ i < 12 ∧ ¬ ∃ j : Nat, j < i ∧ y2 21 (12 * (z + 20) + j) = nI (nv c (B (m0 + i)) (E (m0 + i) - B (m0 + i)))) → ∀ (z' zn' : St), wa L W B E z' (m0 + i) → rT (m_MD_readZone_B86 F (nI z) K (lq2 (m_MD_readZone_B86 F (nI z) K) (g2 + 1)) 1 y2) (fun b => P (0, z', zn') b) := by
    intro hno z' zn' hwa
    rw [m_MD_readZone_B86]
    rw [hN.1, hy1', (a20 z).2]
    refine rT_in n10 (rT_in n0m ?_)
    by_cases hv : vl L W c B E (m0 + i) 0 (n - 1)
    · have hvn := hv.2.2.2.2
      refine rT_e2 (look_Y (F := F) (lo := 0) (hi := n - 1) hF hT (by omega) (by omega) hN hv) ?_
      rw [hN.1, nI_clamp (show z + 20 < 2 ^ 31 by omega), e20]
      have hbad : rT (m_MD_readZone_J145 F (nI z) K (lq2 (m_MD_readZone_B86 F (nI z) K) (g2 + 1)) 1 (nI (nv c (B (m0 + i)) (E (m0 + i) - B (m0 + i)))) 0 y2) (fun b => P (0, z', zn') b) := by
        unfold m_MD_readZone_J145
        exact rT_e2 (w_0 hN.1 (by omega) hN.2.1) (rT_i0 (hwrS _ _ _ _ hwa (WR_of hN hW2)))
      refine rT_in n0m (rT_ck (vin (by omega)) (rT_if (fun _ => hbad) (fun c0 => bz (q_has hF (by omega) hi12 e20) (fun hh => absurd ⟨hv, ?_, hh⟩ hno) (fun _ => hbad))))
      exact Nat.lt_of_not_le (fun q => c0 ((nI_leI (a := 12) (by omega) (by omega)).mpr q))
    · refine rT_bn2 (look_X (F := F) (lo := 0) (hi := n - 1) hF hT (by omega) (by omega) hN hv) (fun r4 z4 h4 => ?_)
      have h4 : WR L W c B E y0 (m0 + i) z4 := h4
      have h41 : z4 17 0 = nI (m0 + i) := h4.1
      rw [h41]
      exact rT_ip (le0 (by omega)) (hwrS _ _ _ _ hwa h4)
  refine r2_l ?_
  rcases Nat.lt_or_ge i 12 with hlt | hge
  rotate_left
  · -- twelve points are read, and no stop follows
    have hi0 : i = 12 := by omega
    have hns : ¬ isw L W c B E (m0 + i) 3 := hsg.resolve_left (by omega)
    rw [m_Reader_readPoints_B10]
    refine rT_ip ((nI_leI (a := 12) (by omega) (by omega)).mpr hge) (rT_bn2 (p_stepTo (w := 3) hF (by decide +kernel) hT hX hmi hwb) (fun r2 z2 h2 => ?_))
    obtain ⟨e2, hz2⟩ := h2
    have e2 : r2 = tf (isw L W c B E (m0 + i) 3) := e2
    rw [tf_n hns] at e2
    subst e2
    exact rT_ckb (Or.inl rfl) (rT_some (hrefbad (fun q => by omega) _ _ hz2))
  have hbody : ∀ z2 : St, wa L W B E z2 (m0 + i) → rT (bn1 (m_Words_valueWithin F z2 t (0 : Int32) ((x0 2 0) - (1 : Int32))) (fun r52 => (if r52 = (-1 : Int32) then (some ((0 : Int32), z2, zn2)) else (bn1 (m_Zones_hasPoint F zn2 (nI z) r52) (fun r67 => (if r67 = (0 : Int32) then (bn1 (m_Zones_addPoint F zn2 (nI z) r52) (fun z3_79 => (lq3 (m_Reader_readPoints_B10 F t x0 (nI z) (fun v3_10 y2_10 y3_10 => (some ((1 : Int32), y2_10, y3_10))) (fun v3_10 y2_10 y3_10 => (some ((0 : Int32), y2_10, y3_10))) (fun v3_10 y2_10 y3_10 => (bn2 (m_Words_stepTo F y2_10 t 3) (fun r94 z2_94 => (ckb r94 (some (r94, z2_94, y3_10))))))) (g1 + 1) (nI i + (1 : Int32)) z2 z3_79))) else (some ((0 : Int32), z2, zn2)))))))) (fun o => rT (m_MD_readZone_B86 F (nI z) K (lq2 (m_MD_readZone_B86 F (nI z) K) (g2 + 1)) 1 y2) (fun b => P o b)) := by
    intro z2 hz2
    rw [hx0']
    refine rT_bn1 (p_val (lo := 0) (hi := n - 1) hF hT hX (by omega) (by omega) hz2) (fun r hr => ?_)
    rcases hr with ⟨hv, er⟩ | ⟨hv, er⟩
    rotate_left
    · subst er
      exact rT_ip rfl (rT_some (hrefbad (fun q => hv q.1) _ _ hz2))
    subst er
    have hvn := hv.2.2.2.2
    have hkW : m0 + i < W := hv.1
    have heq : (∃ j : Nat, j < i ∧ y2 21 (12 * (z + 20) + j) = nI (nv c (B (m0 + i)) (E (m0 + i) - B (m0 + i)))) ↔ (∃ j : Nat, j < i ∧ zn2 2 (12 * z + j) = nI (nv c (B (m0 + i)) (E (m0 + i) - B (m0 + i)))) := by
      constructor
      · rintro ⟨j, hj, e⟩
        obtain ⟨p, _, q1, q2⟩ := hZP.2.2.2.2.2.2 j hj
        exact ⟨j, hj, by rw [q2, ← q1]; exact e⟩
      · rintro ⟨j, hj, e⟩
        obtain ⟨p, _, q1, q2⟩ := hZP.2.2.2.2.2.2 j hj
        exact ⟨j, hj, by rw [q1, ← q2]; exact e⟩
    refine rT_in (m1eq (by omega)) (bz (p_hasPoint hF hz hi12 e1) (fun hh => ?_) (fun hh => rT_some (hrefbad (fun q => q.2.2 (heq.mpr hh)) _ _ hz2)))
    refine rT_e1 (e_addPoint hz hlt e1) ?_
    rw [show (nI i + 1 : Int32) = nI (i + 1) from nI_add i 1]
    have hlk := look_Y (F := F) (lo := 0) (hi := n - 1) hF hT (by omega) (by omega) hN hv
    generalize nv c (B (m0 + i)) (E (m0 + i) - B (m0 + i)) = v at *
    have hhr : ¬ ∃ j : Nat, j < i ∧ y2 21 (12 * (z + 20) + j) = nI v := fun q => hh (heq.mp q)
    have eix : ((12 : Int32) * nI (z + 20) + nI i) = nI (12 * (z + 20) + i) := by
      rw [show (12 : Int32) = nI 12 from rfl, pk_mul, nI_add]
    -- what the reference has then
    have hN3 : NW L W c B E y0 (m0 + i + 1) (sc (st (st y2 21 (upd (y2 21) (12 * (z + 20) + i) (nI v))) 20 (upd (y2 20) (z + 20) (nI (i + 1)))) 16 (nI (m0 + i + 1))) := by
      obtain ⟨q1, q2, q3, q4, q5⟩ := hN
      exact ⟨q1, rfl, hkW, q4, Fr_sc (Fr_up (g := 20) (Fr_21 q5 (by omega)) (by omega) (by omega) (by omega)) (by omega)⟩
    have hZP3 : ZP n z (i + 1) zn y (st (st zn2 2 (upd (zn2 2) (12 * z + i) (nI v))) 1 (upd (zn2 1) z (nI (i + 1)))) (sc (st (st y2 21 (upd (y2 21) (12 * (z + 20) + i) (nI v))) 20 (upd (y2 20) (z + 20) (nI (i + 1)))) 16 (nI (m0 + i + 1))) := by
      obtain ⟨q1, q2, q3, q4, q5, q6, q7⟩ := hZP
      refine ⟨?_, ?_, fun f h1 h2 => ?_, fun f h1 h2 h3 h4 => ?_, fun q hq => ?_, fun q hq => ?_, fun j hj => ?_⟩
      · show upd (zn2 1) z (nI (i + 1)) = _
        rw [q1, upd_upd]
      · show upd (y2 20) (z + 20) (nI (i + 1)) = _
        rw [q2, upd_upd]
      · rw [st_n h1, st_n h2]; exact q3 f h1 h2
      · rw [sc_n h1, st_n h3, st_n h4]; exact q4 f h1 h2 h3 h4
      · show upd (zn2 2) (12 * z + i) (nI v) q = zn 2 q
        rw [upd_n (by omega)]; exact q5 q hq
      · show upd (y2 21) (12 * (z + 20) + i) (nI v) q = y 21 q
        rw [upd_n (by omega)]; exact q6 q hq
      · show ∃ p : Nat, p < n ∧ upd (y2 21) (12 * (z + 20) + i) (nI v) (12 * (z + 20) + j) = nI p ∧ upd (zn2 2) (12 * z + i) (nI v) (12 * z + j) = nI p
        by_cases e : j = i
        · subst e
          rw [upd_e, upd_e]
          exact ⟨v, by omega, rfl, rfl⟩
        · rw [upd_n (by omega), upd_n (by omega)]
          exact q7 j (by omega)
    have href : ∀ (Q : R → Prop), rT (bn1 (m_MD_isSign F (sc (st (st y2 21 (upd (y2 21) (12 * (z + 20) + i) (nI v))) 20 (upd (y2 20) (z + 20) (nI (i + 1)))) 16 (nI (m0 + i + 1))) (59 : Int32)) (fun r192 => (if r192 = (0 : Int32) then (lq2 (m_MD_readZone_B86 F (nI z) K) (g2 + 1) (1 : Int32) (sc (st (st y2 21 (upd (y2 21) (12 * (z + 20) + i) (nI v))) 20 (upd (y2 20) (z + 20) (nI (i + 1)))) 16 (nI (m0 + i + 1)))) else (lq2 (m_MD_readZone_B86 F (nI z) K) (g2 + 1) (0 : Int32) (sc (st (st y2 21 (upd (y2 21) (12 * (z + 20) + i) (nI v))) 20 (upd (y2 20) (z + 20) (nI (i + 1)))) 16 (nI (m0 + i + 1))))))) Q → rT (m_MD_readZone_B86 F (nI z) K (lq2 (m_MD_readZone_B86 F (nI z) K) (g2 + 1)) 1 y2) Q := by
      intro Q hQ
      rw [m_MD_readZone_B86]
      rw [hN.1, hy1', (a20 z).2]
      refine rT_in n10 (rT_in n0m (rT_e2 hlk ?_))
      rw [hN.1, nI_clamp (show z + 20 < 2 ^ 31 by omega), e20]
      refine rT_in n0m (rT_ck (vin (by omega)) (rT_in (fun q => by have := (nI_leI (a := 12) (by omega) (by omega)).mp q; omega) (bz (q_has hF (by omega) hi12 e20) (fun _ => ?_) (fun q => absurd q hhr))))
      unfold m_MD_readZone_J145
      rw [(a20 z).2, nI_clamp (show z + 20 < 2 ^ 31 by omega)]
      refine rT_e2 (w_1 hN.1) (rT_i1 ?_)
      rw [e20, eix, nI_clamp (by omega)]
      refine rT_ck (vin (by omega)) (rT_ck (vin (by omega)) (rT_lz (rT_ck (vin (by omega)) (rT_ck (vin (by omega)) (rT_lz (rT_lz ?_))))))
      have es : (sc (st (st y2 21 (upd (y2 21) (12 * (z + 20) + i) (nI v))) 20 (upd (y2 20) (z + 20) (y2 20 (z + 20) + 1))) 16 (y2 16 0 + 1)) = (sc (st (st y2 21 (upd (y2 21) (12 * (z + 20) + i) (nI v))) 20 (upd (y2 20) (z + 20) (nI (i + 1)))) 16 (nI (m0 + i + 1))) := by
        rw [e20, hN.2.1, show (nI i + 1 : Int32) = nI (i + 1) from nI_add i 1, show (nI (m0 + i) + 1 : Int32) = nI (m0 + i + 1) from nI_add (m0 + i) 1]
      rw [← es] at hQ
      exact hQ
    have hwb3 : wb E z2 (m0 + i + 1) := wb_of hz2 hkW
    have hsign := q_sign (F := F) (w := 3) (s := 59) hT hN3.2.2.2.1 hN3.2.2.1 hN3.2.1 ln3 ch3 (by decide)
    by_cases hst : isw L W c B E (m0 + i + 1) 3
    · -- a stop follows: both end
      have hend : m0 + i + 1 < W := isw_lt (by decide +kernel) hst
      have hcl : rT (lq3 (m_Reader_readPoints_B10 F t x0 (nI z) (fun v3_10 y2_10 y3_10 => (some ((1 : Int32), y2_10, y3_10))) (fun v3_10 y2_10 y3_10 => (some ((0 : Int32), y2_10, y3_10))) (fun v3_10 y2_10 y3_10 => (bn2 (m_Words_stepTo F y2_10 t 3) (fun r94 z2_94 => (ckb r94 (some (r94, z2_94, y3_10))))))) (g1 + 1) (nI (i + 1)) z2 (st (st zn2 2 (upd (zn2 2) (12 * z + i) (nI v))) 1 (upd (zn2 1) z (nI (i + 1))))) (fun o => o.1 = 1 ∧ wa L W B E o.2.1 (m0 + i + 1) ∧ o.2.2 = (st (st zn2 2 (upd (zn2 2) (12 * z + i) (nI v))) 1 (upd (zn2 1) z (nI (i + 1))))) := by
        show rT (m_Reader_readPoints_B10 F t x0 (nI z) _ _ _ (lq3 _ g1) (nI (i + 1)) z2 _) _
        rw [m_Reader_readPoints_B10]
        refine rT_if (fun g => ?_) (fun g => ?_)
        · refine rT_bn2 (p_stepTo (w := 3) hF (by decide +kernel) hT hX (by omega) hwb3) (fun r2 z3 h3 => ?_)
          obtain ⟨e2, hz3⟩ := h3
          have e2 : r2 = tf (isw L W c B E (m0 + i + 1) 3) := e2
          rw [tf_p hst] at e2
          subst e2
          exact rT_ckb (Or.inr rfl) (rT_some ⟨rfl, hz3, rfl⟩)
        · refine rT_bn1 (p_step hF hT hX (by omega) hwb3) (fun z3 hz3 => rT_in (fun q => by have := (nI_leI (b := 0) (by omega) (by omega)).mp q; omega) ?_)
          exact bz (p_is (w := 3) hF (by decide +kernel) hT hX hz3) (fun q => absurd hst q) (fun _ => rT_some ⟨rfl, hz3, rfl⟩)
      refine rT_mono hcl (fun o ho => href _ ?_)
      obtain ⟨o1, o2, o3⟩ := o
      obtain ⟨q1, q2, q3⟩ := ho
      have q1 : o1 = 1 := q1
      have q2 : wa L W B E o2 (m0 + i + 1) := q2
      have q3 : o3 = (st (st zn2 2 (upd (zn2 2) (12 * z + i) (nI v))) 1 (upd (zn2 1) z (nI (i + 1)))) := q3
      subst q1 q3
      refine bz hsign (fun q => absurd hst q) (fun _ => ?_)
      show rT (m_MD_readZone_B86 F (nI z) K (lq2 _ g2) 0 _) _
      rw [m_MD_readZone_B86]
      exact rT_i0 (hKg o2 _ (m0 + i + 1) (i + 1) _ _ (by omega) hend q2 hN3 (by omega) (by omega) hZP3)
    · have hstep := hrec (nI (i + 1), z2, st (st zn2 2 (upd (zn2 2) (12 * z + i) (nI v))) 1 (upd (zn2 1) z (nI (i + 1)))) (1, sc (st (st y2 21 (upd (y2 21) (12 * (z + 20) + i) (nI v))) 20 (upd (y2 20) (z + 20) (nI (i + 1)))) 16 (nI (m0 + i + 1))) (by omega) ⟨by omega, rfl, rfl, hwb3, by omega, hN3, hZP3, Or.inr hst⟩
      exact r2_tl (r2_r (href _ (bz hsign (fun _ => r2_tr hstep) (fun q => absurd q hst))))
  rw [m_Reader_readPoints_B10]
  refine rT_in (fun q => by have := (nI_leI (a := 12) (by omega) (by omega)).mp q; omega) (rT_bn1 (p_step hF hT hX hmi hwb) (fun z2 hz2 => rT_if (fun _ => hbody z2 hz2) (fun g => ?_)))
  have hns : ¬ isw L W c B E (m0 + i) 3 := hsg.resolve_left (fun e => g (by rw [e]; decide))
  exact bz (p_is (w := 3) hF (by decide +kernel) hT hX hz2) (fun _ => hbody z2 hz2) (fun q => absurd q hns)

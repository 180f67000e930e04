theorem q_zW {F L W w v : Nat} {c B E : Nat → Nat} {y0 y' : St} {rn wd : Int32} (hF : 100000 ≤ F) (h : WR L W c B E y0 w y') : rT (lq2 (m_MD_readZone_B86 F (nI v) (fun v4_86 y0_86 => (if (0 : Int32) ≤ (y0_86 17 0) then (some y0_86) else (lz (sc y0_86 16 ((y0_86 16 0) + (1 : Int32))) (fun e0_222 => (ck (nI (v + 20)) 40 (if rn ≤ ((e0_222 20) (v + 20)) then (lz (sc e0_222 17 (-1 : Int32)) (fun e0_241 => (ck (nI (v + 20)) 40 (lz (st e0_241 19 (upd (e0_241 19) (v + 20) rn)) (fun e0_250 => (ck (nI (v + 20)) 40 (lz (st e0_250 18 (upd (e0_250 18) (v + 20) 1)) (fun e0_257 => (some e0_257))))))))) else (lz (sc e0_222 17 wd) (fun e0_241 => (ck (nI (v + 20)) 40 (lz (st e0_241 19 (upd (e0_241 19) (v + 20) rn)) (fun e0_250 => (ck (nI (v + 20)) 40 (lz (st e0_250 18 (upd (e0_250 18) (v + 20) 1)) (fun e0_257 => (some e0_257)))))))))))))))) F (1 : Int32) y') (fun z => WR L W c B E y0 w z) := by
  refine rT_lq2 0 (fun _ _ b => b = y') ?_ F 0 1 y' (by omega) (by omega) rfl
  intro i r a b hi hI hrec
  subst hI
  unfold m_MD_readZone_B86
  rw [h.1]
  have h0 : (0 : Int32) ≤ nI w := le0 (by have := h.2.1; omega)
  have hK : rT (if (0 : Int32) ≤ (b 17 0) then (some b) else none) (fun z => WR L W c B E y0 w z) := by
    rw [h.1]; exact rT_ip h0 (rT_some h)
  have h1 : (0 : Int32) ≤ b 17 0 := by rw [h.1]; exact h0
  exact rT_if (fun _ => rT_ip h1 (rT_some h)) (fun _ => rT_ip h0 (rT_ip h1 (rT_some h)))
set_option maxHeartbeats 4000000 in
theorem rd_zone {F L W k n : Nat} {c B E : Nat → Nat} {x0 x1 z zn t y0 y : St} (hF : 100000 ≤ F) (hT : TK L W c B E) (hX : TX L c t) (hn1 : 1 ≤ n) (hn2 : n ≤ 200) (hx0 : x0 2 0 = nI n) (hy1 : y 1 0 = nI n) (hZ : rZn n 20 zn y) (hk : k < W) (hz : wa L W B E z k) (hN : NW L W c B E y0 (k + 1) y) : r2 (m_Reader_readZone F x0 x1 z zn t) (m_MD_readZone F y) (fun o y' => (∃ w : Nat, o.1 = nI w ∧ WR L W c B E y0 w y') ∨ (o.1 = -1 ∧ (∃ m : Nat, k < m ∧ wb E o.2.1 m ∧ NW L W c B E y0 m y') ∧ (∀ f : Nat, f ≠ 16 → f ≠ 17 → (f < 18 ∨ 21 < f) → y' f = y f) ∧ rZn n 20 o.2.2 y' ∧ (∀ i : Nat, y 18 i = 1 → y' 18 i = 1))) := by
  have hW2 : W ≤ 2000 := Nat.le_trans hT.2.1 hT.1
  refine r2_l ?_
  unfold m_Reader_readZone
  refine rT_bn2 (p_stepVal (lo := 0) (hi := 19) hF hT hX (by omega) (by omega) (by omega) (wb_of hz hk)) (fun r1 z1 h1 => ?_)
  obtain ⟨hz1, h1⟩ := h1
  have hz1 : wa L W B E z1 (k + 1) := hz1
  have hnum : m_Words_number F z1 = some (nI (k + 1)) := congrArg some hz1.2.2
  rcases h1 with ⟨hv, e1⟩ | ⟨hv, e1⟩
  rotate_left
  · have e1 : r1 = -1 := e1
    subst e1
    refine rT_ip rfl (rT_e1 hnum (rT_some ?_))
    unfold m_MD_readZone
    refine rT_bn2 (look_X (F := F) (lo := 0) (hi := 19) hF hT (by omega) (by omega) hN hv) (fun r4 z4 h4 => ?_)
    have h4 : WR L W c B E y0 (k + 1) z4 := h4
    rw [h4.1]
    exact rT_ip (le0 (by omega)) (rT_some (Or.inl ⟨_, rfl, h4⟩))
  have e1 : r1 = nI (nv c (B (k + 1)) (E (k + 1) - B (k + 1))) := e1
  subst e1
  have h19 := hv.2.2.2.2
  have hkW : k + 1 < W := hv.1
  have hlk := look_Y (F := F) (lo := 0) (hi := 19) hF hT (by omega) (by omega) hN hv
  generalize nv c (B (k + 1)) (E (k + 1) - B (k + 1)) = v at *
  refine rT_in (m1eq (by omega)) (bz (p_zToldO hZ F (nI v)) (fun ht => ?_) (fun ht => rT_e1 hnum (rT_some ?_)))
  rotate_left
  · have ht1 : y 18 (v + 20) = 1 := by
      obtain ⟨m, hm, em, ht⟩ := ht
      have := (nI_eq (by omega) (by omega)).mp em
      rw [this]; exact ht
    unfold m_MD_readZone
    refine rT_e2 hlk ?_
    rw [hN.1, (a20 v).2, nI_clamp (by omega)]
    exact rT_in n0m (rT_ck (vin (by omega)) (rT_in (by rw [ht1]; exact n10) (rT_e2 (w_0 hN.1 (by omega) hN.2.1) (rT_i0 (rT_some (Or.inl ⟨_, rfl, WR_of hN hW2⟩))))))
  obtain ⟨ht0, z0z, z1z⟩ : y 18 (v + 20) = 0 ∧ zn 0 v = 0 ∧ zn 1 v = 0 := by
    rcases hZ v (by omega) with h1 | ⟨h1, _⟩
    · exact h1
    · exact absurd ⟨v, by omega, rfl, h1⟩ ht
  have hN0 := hN
  have hN := NW_next hN hkW
  have hbeg : ∀ (Q : St → Prop), rT (bn1 (m_MD_take_0 F (sc y 16 (nI (k + 1 + 1))) (20059310 : Int32)) (fun z0_53 => (bn2 (m_MD_takeNumber F z0_53 (1 : Int32) (12 : Int32)) (fun r65 z0_65 => (bn1 (m_MD_take_0 F z0_65 (207 : Int32)) (fun z0_73 => (ck (nI (v + 20)) 40 (lz (st z0_73 20 (upd (z0_73 20) (v + 20) (0 : Int32))) (fun e0_82 => (lq2 (m_MD_readZone_B86 F (nI v) (fun v4_86 y0_86 => (if (0 : Int32) ≤ (y0_86 17 0) then (some y0_86) else (lz (sc y0_86 16 ((y0_86 16 0) + (1 : Int32))) (fun e0_222 => (ck (nI (v + 20)) 40 (if r65 ≤ ((e0_222 20) (v + 20)) then (lz (sc e0_222 17 (-1 : Int32)) (fun e0_241 => (ck (nI (v + 20)) 40 (lz (st e0_241 19 (upd (e0_241 19) (v + 20) r65)) (fun e0_250 => (ck (nI (v + 20)) 40 (lz (st e0_250 18 (upd (e0_250 18) (v + 20) 1)) (fun e0_257 => (some e0_257))))))))) else (lz (sc e0_222 17 (z0_53 16 0)) (fun e0_241 => (ck (nI (v + 20)) 40 (lz (st e0_241 19 (upd (e0_241 19) (v + 20) r65)) (fun e0_250 => (ck (nI (v + 20)) 40 (lz (st e0_250 18 (upd (e0_250 18) (v + 20) 1)) (fun e0_257 => (some e0_257)))))))))))))))) F (1 : Int32) e0_82)))))))))) Q → rT (m_MD_readZone F y) Q := by
    intro Q hQ
    unfold m_MD_readZone
    refine rT_e2 hlk ?_
    rw [hN0.1, (a20 v).2, nI_clamp (by omega), vb1]
    refine rT_in n0m (rT_ck (vin (by omega)) (rT_ip ht0 (rT_e2 (w_1 hN0.1) (rT_i1 (rT_lz ?_)))))
    rw [hN0.2.1, show (nI (k + 1) + 1 : Int32) = nI (k + 1 + 1) from nI_add (k + 1) 1]
    exact hQ
  refine rT_bn2 (p_stepTo (w := 1) hF (by decide +kernel) hT hX (by omega) (wb_of hz1 hkW)) (fun q0 z2 g0 => ?_)
  obtain ⟨e0, hz2⟩ := g0
  have e0 : q0 = tf (isw L W c B E (k + 1 + 1) 1) := e0
  have hz2 : wa L W B E z2 (k + 1 + 1) := hz2
  subst e0
  by_cases h0 : isw L W c B E (k + 1 + 1) 1
  rotate_left
  · refine rT_ip (tf_n h0) (rT_e1 (show m_Words_number F z2 = some (nI (k + 1 + 1)) from congrArg some hz2.2.2) (rT_some (hbeg _ ?_)))
    refine rT_bn1 (take_X (F := F) hF hT v1 hN h0) (fun y4 hW => rT_bn2 (q_numW (F := F) (lo := 1) (hi := 12) hF hT (by omega) (by omega) hW) (fun rr y5 hW => rT_bn1 (q_takeW (F := F) hF hT hW) (fun y6 hW => rT_ck (vin (by omega)) (rT_lz ?_))))
    exact rT_mono (q_zW hF (WR_up (g := 20) (i := v) hW (by omega) (by omega) (by omega))) (fun y7 h => Or.inl ⟨_, rfl, h⟩)
  have hk2 : k + 1 + 1 < W := isw_lt (by decide +kernel) h0
  refine rT_in (by rw [tf_p h0]; exact n10) ?_
  refine rT_bn2 (p_stepVal (lo := 1) (hi := 12) hF hT hX (by omega) (by omega) (by omega) (wb_of hz2 hk2)) (fun q1 z3 g1 => ?_)
  obtain ⟨hz3, g1⟩ := g1
  have hz3 : wa L W B E z3 (k + 1 + 1 + 1) := hz3
  have hnum3 : m_Words_number F z3 = some (nI (k + 1 + 1 + 1)) := congrArg some hz3.2.2
  have hN2 := NW_next hN hk2
  refine rT_e1 hnum3 ?_
  rcases g1 with ⟨h1, e1⟩ | ⟨hx, e1⟩
  rotate_left
  · have e1 : q1 = -1 := e1
    subst e1
    refine rT_ip rfl (rT_e1 hnum3 (rT_some (hbeg _ ?_)))
    refine rT_e1 (take_Y (F := F) hF hT v1 hN h0) (rT_bn2 (num_X (F := F) (lo := 1) (hi := 12) hF hT (by omega) (by omega) hN2 hx) (fun rr y5 hW => rT_bn1 (q_takeW (F := F) hF hT hW) (fun y6 hW => rT_ck (vin (by omega)) (rT_lz ?_))))
    exact rT_mono (q_zW hF (WR_up (g := 20) (i := v) hW (by omega) (by omega) (by omega))) (fun y7 h => Or.inl ⟨_, rfl, h⟩)
  have e1 : q1 = nI (nv c (B (k + 1 + 1 + 1)) (E (k + 1 + 1 + 1) - B (k + 1 + 1 + 1))) := e1
  subst e1
  have hk3 : k + 1 + 1 + 1 < W := h1.1
  have hnlo := h1.2.2.2.1
  have hnhi := h1.2.2.2.2
  have hnY := num_Y (F := F) (lo := 1) (hi := 12) hF hT (by omega) (by omega) hN2 h1
  generalize nv c (B (k + 1 + 1 + 1)) (E (k + 1 + 1 + 1) - B (k + 1 + 1 + 1)) = nn at *
  have hN3 := NW_next hN2 hk3
  refine rT_in (m1eq (by omega)) ?_
  refine rT_bn2 (p_stepTo (w := 2) hF (by decide +kernel) hT hX (by omega) (wb_of hz3 hk3)) (fun q2 z4 g2 => ?_)
  obtain ⟨e2, hz4⟩ := g2
  have e2 : q2 = tf (isw L W c B E (k + 1 + 1 + 1 + 1) 2) := e2
  have hz4 : wa L W B E z4 (k + 1 + 1 + 1 + 1) := hz4
  subst e2
  by_cases h2 : isw L W c B E (k + 1 + 1 + 1 + 1) 2
  rotate_left
  · refine rT_ip (tf_n h2) (rT_e1 (show m_Words_number F z4 = some (nI (k + 1 + 1 + 1 + 1)) from congrArg some hz4.2.2) (rT_some (hbeg _ ?_)))
    refine rT_e1 (take_Y (F := F) hF hT v1 hN h0) (rT_e2 hnY (rT_bn1 (take_X (F := F) hF hT v2 hN3 h2) (fun y6 hW => rT_ck (vin (by omega)) (rT_lz ?_))))
    exact rT_mono (q_zW hF (WR_up (g := 20) (i := v) hW (by omega) (by omega) (by omega))) (fun y7 h => Or.inl ⟨_, rfl, h⟩)
  have hk4 : k + 1 + 1 + 1 + 1 < W := isw_lt (by decide +kernel) h2
  refine rT_in (by rw [tf_p h2]; exact n10) ?_
  have hN4 := NW_up (g := 20) (i := v) (v := 0) (NW_next hN3 hk4) (by omega) (by omega) (by omega)
  have hZP0 : ZP n v 0 zn y zn (st (sc (sc (sc (sc y 16 (nI (k + 1 + 1))) 16 (nI (k + 1 + 1 + 1))) 16 (nI (k + 1 + 1 + 1 + 1))) 16 (nI (k + 1 + 1 + 1 + 1 + 1))) 20 (upd (y 20) (v + 20) 0)) := by
    refine ⟨?_, rfl, fun _ _ _ => rfl, fun f f1 f2 f3 f4 => ?_, fun _ _ => rfl, fun _ _ => rfl, fun j hj => by omega⟩
    · funext j
      by_cases e : j = v
      · rw [e, upd_e]; exact z1z
      · rw [upd_n e]
    · rw [st_n f3, sc_n f1, sc_n f1, sc_n f1, sc_n f1]
  have hJ := pts_J (F := F) (n := n) (z := v) (m0 := k + 1 + 1 + 1 + 1 + 1) (x0 := x0) (x1 := x1) (y := y) (zn := zn) (K := (fun v4_86 y0_86 => (if (0 : Int32) ≤ (y0_86 17 0) then (some y0_86) else (lz (sc y0_86 16 ((y0_86 16 0) + (1 : Int32))) (fun e0_222 => (ck (nI (v + 20)) 40 (if (nI nn) ≤ ((e0_222 20) (v + 20)) then (lz (sc e0_222 17 (-1 : Int32)) (fun e0_241 => (ck (nI (v + 20)) 40 (lz (st e0_241 19 (upd (e0_241 19) (v + 20) (nI nn))) (fun e0_250 => (ck (nI (v + 20)) 40 (lz (st e0_250 18 (upd (e0_250 18) (v + 20) 1)) (fun e0_257 => (some e0_257))))))))) else (lz (sc e0_222 17 (nI (k + 1 + 1 + 1))) (fun e0_241 => (ck (nI (v + 20)) 40 (lz (st e0_241 19 (upd (e0_241 19) (v + 20) (nI nn))) (fun e0_250 => (ck (nI (v + 20)) 40 (lz (st e0_250 18 (upd (e0_250 18) (v + 20) 1)) (fun e0_257 => (some e0_257)))))))))))))))) (P := fun o b => rT ((fun r88 z2_88 z3_88 => (if r88 = (0 : Int32) then (bn1 (m_Words_number F z2_88) (fun r98 => (some (r98, z2_88, z3_88)))) else (bn1 (m_Zones_sizeOf F z3_88 (nI v)) (fun r111 => (if nI nn ≤ r111 then (bn1 (m_Zones_tell F z3_88 (nI v) (nI nn)) (fun z3_128 => (some ((-1 : Int32), z2_88, z3_128)))) else (some (nI (k + 1 + 1 + 1), z2_88, z3_88))))))) o.1 o.2.1 o.2.2) (fun A => (fun o y' => (∃ w : Nat, o.1 = nI w ∧ WR L W c B E y0 w y') ∨ (o.1 = -1 ∧ (∃ m : Nat, k < m ∧ wb E o.2.1 m ∧ NW L W c B E y0 m y') ∧ (∀ f : Nat, f ≠ 16 → f ≠ 17 → (f < 18 ∨ 21 < f) → y' f = y f) ∧ rZn n 20 o.2.2 y' ∧ (∀ i : Nat, y 18 i = 1 → y' 18 i = 1))) A b)) hF hT hX hn1 hn2 (by omega) hx0 hy1 ?_ ?_ z4 (wb_of hz4 hk4) zn (st (sc (sc (sc (sc y 16 (nI (k + 1 + 1))) 16 (nI (k + 1 + 1 + 1))) 16 (nI (k + 1 + 1 + 1 + 1))) 16 (nI (k + 1 + 1 + 1 + 1 + 1))) 20 (upd (y 20) (v + 20) 0)) (by omega) hN4 hZP0
  · obtain ⟨o, b, j1, j2, j3⟩ := hJ
    obtain ⟨o1, o2, o3⟩ := o
    refine rT_e3 j1 (rT_mono j3 (fun A hA => hbeg _ ?_))
    refine rT_e1 (take_Y (F := F) hF hT v1 hN h0) (rT_e2 hnY (rT_e1 (take_Y (F := F) hF hT v2 hN3 h2) (rT_ck (vin (by omega)) (rT_lz (rT_eq j2 hA)))))
  · intro z' zn' w u y' hwa hWR
    rw [hWR.1]
    refine rT_ip (le0 (by have := hWR.2.1; omega)) (rT_some ?_)
    exact rT_i0 (rT_e1 (show m_Words_number F z' = some (nI w) from congrArg some hwa.2.2) (rT_some (Or.inl ⟨_, rfl, hWR⟩)))
  · intro z' zn' m s u y' hm0 hmW hwa hNW hs1 hs12 hZP
    have e20 : y' 20 (v + 20) = nI s := by rw [hZP.2.1, upd_e]
    have e1z : zn' 1 v = nI s := by rw [hZP.1, upd_e]
    have hsz : m_Zones_sizeOf F zn' (nI v) = some (nI s) := by
      refine rT_get ?_
      unfold m_Zones_sizeOf
      rw [nI_clamp (by omega), e1z]
      exact rT_ck (vin (by omega)) (rT_some rfl)
    have hNn := NW_next hNW hmW
    rw [hNW.1, hNW.2.1, show (nI m + 1 : Int32) = nI (m + 1) from nI_add m 1]
    refine rT_in n0m (rT_lz (rT_ck (vin (by omega)) ?_))
    show rT (if nI nn ≤ y' 20 (v + 20) then _ else _) _
    rw [e20]
    by_cases hle : nn ≤ s
    · refine rT_ip ((nI_leI (by omega) (by omega)).mpr hle) (rT_lz (rT_ck (vin (by omega)) (rT_lz (rT_ck (vin (by omega)) (rT_lz (rT_some ?_))))))
      have htl : m_Zones_tell F zn' (nI v) (nI nn) = some (st zn' 0 (upd (zn' 0) v (nI nn))) := by
        refine rT_get ?_
        unfold m_Zones_tell
        rw [nI_clamp (by omega)]
        exact rT_ck (vin (by omega)) (rT_lz (rT_some rfl))
      refine rT_i1 (rT_e1 hsz (rT_ip ((nI_leI (by omega) (by omega)).mpr hle) (rT_e1 htl (rT_some (Or.inr ⟨rfl, ⟨m + 1, by omega, wb_of hwa hmW, ?_⟩, fun f f1 f2 f3 => ?_, fun i hi => ?_, fun i hi => ?_⟩)))))
      · obtain ⟨q1, q2, q3, q4, q5⟩ := hNn
        exact ⟨rfl, q2, q3, q4, Fr_up (g := 18) (Fr_up (g := 19) (Fr_sc (k := 17) q5 (by omega)) (by omega) (by omega) (by omega)) (by omega) (by omega) (by omega)⟩
      · rw [st_n (by omega), st_n (by omega), sc_n f2, sc_n f1]
        exact hZP.2.2.2.1 f f1 f2 (by omega) (by omega)
      · obtain ⟨p1, p2, p3, p4, p5, p6, p7⟩ := hZP
        show (upd (y' 18) (v + 20) 1 (i + 20) = 0 ∧ upd (zn' 0) v (nI nn) i = 0 ∧ zn' 1 i = 0) ∨ (upd (y' 18) (v + 20) 1 (i + 20) = 1 ∧ ∃ nd sz : Nat, 1 ≤ nd ∧ nd ≤ 12 ∧ sz ≤ 12 ∧ upd (y' 19) (v + 20) (nI nn) (i + 20) = nI nd ∧ upd (zn' 0) v (nI nn) i = nI nd ∧ y' 20 (i + 20) = nI sz ∧ zn' 1 i = nI sz ∧ ∀ j : Nat, j < sz → ∃ p : Nat, p < n ∧ y' 21 (12 * (i + 20) + j) = nI p ∧ zn' 2 (12 * i + j) = nI p)
        by_cases e : i = v
        · subst e
          rw [upd_e, upd_e, upd_e]
          exact Or.inr ⟨rfl, nn, s, hnlo, hnhi, hs12, rfl, rfl, e20, e1z, p7⟩
        · have e' : i + 20 ≠ v + 20 := by omega
          rw [upd_n e', upd_n e', upd_n e, p3 0 (by omega) (by omega), p4 18 (by omega) (by omega) (by omega) (by omega), p4 19 (by omega) (by omega) (by omega) (by omega), p1, p2, upd_n e, upd_n e']
          rcases hZ i hi with h | ⟨a1, nd, sz, a2, a3, a4, a5, a6, a7, a8, a9⟩
          · exact Or.inl h
          · refine Or.inr ⟨a1, nd, sz, a2, a3, a4, a5, a6, a7, a8, fun j hj => ?_⟩
            obtain ⟨p, b1, b2, b3⟩ := a9 j hj
            exact ⟨p, b1, by rw [p6 _ (by omega)]; exact b2, by rw [p5 _ (by omega)]; exact b3⟩
      · show upd (y' 18) (v + 20) 1 i = 1
        by_cases e : i = v + 20
        · rw [e, upd_e]
        · rw [upd_n e, hZP.2.2.2.1 18 (by omega) (by omega) (by omega) (by omega)]; exact hi
    · refine rT_in (fun q => hle ((nI_leI (by omega) (by omega)).mp q)) (rT_lz (rT_ck (vin (by omega)) (rT_lz (rT_ck (vin (by omega)) (rT_lz (rT_some ?_))))))
      refine rT_i1 (rT_e1 hsz (rT_in (fun q => hle ((nI_leI (by omega) (by omega)).mp q)) (rT_some (Or.inl ⟨k + 1 + 1 + 1, rfl, ?_⟩))))
      obtain ⟨q1, q2, q3, q4, q5⟩ := hNn
      exact ⟨rfl, by omega, ⟨_, q3, q2⟩, q4, Fr_up (g := 18) (Fr_up (g := 19) (Fr_sc (k := 17) q5 (by omega)) (by omega) (by omega) (by omega)) (by omega) (by omega) (by omega)⟩

-- THE SENTENCE OF A ROW
theorem e_addRow {F r : Nat} {pl : St} {a b c : Int32} (h5 : pl 5 0 = nI r) (hr : r < 50) : m_Plan_addRow F pl a b c = some (sc (st (st (st pl 2 (upd (pl 2) r a)) 3 (upd (pl 3) r b)) 4 (upd (pl 4) r c)) 5 (nI (r + 1))) := by
  have hv : vp_in (pl 5 0) 50 := by rw [h5]; exact vin hr
  have hc : (pl 5 0).toNatClampNeg = r := by rw [h5, nI_clamp (by omega)]
  have h1 : pl 5 0 + 1 = nI (r + 1) := by rw [h5]; exact nI_add r 1
  refine rT_get ?_
  unfold m_Plan_addRow
  refine rT_in (by rw [h5]; exact fun z => by have := (nI_leI (a := 50) (by omega) (by omega)).mp z; omega) (rT_ck hv (rT_lz (rT_ck hv (rT_lz (rT_ck hv (rT_lz (rT_lz (rT_some ?_))))))))
  show sc (st (st (st pl 2 (upd (pl 2) (pl 5 0).toNatClampNeg a)) 3 (upd (pl 3) (pl 5 0).toNatClampNeg b)) 4 (upd (pl 4) (pl 5 0).toNatClampNeg c)) 5 (pl 5 0 + 1) = _
  rw [hc, h1]
theorem q_takeZone {F L W k n : Nat} {c B E : Nat → Nat} {y0 y zn : St} {oth : Int32} (hF : 100000 ≤ F) (hT : TK L W c B E) (hZ : rZn n 20 zn y) (h : NW L W c B E y0 k y) : rT (m_MD_takeZone F y oth) (fun o => (vl L W c B E k 0 19 ∧ y 18 (nv c (B k) (E k - B k) + 20) = 1 ∧ ¬ nI (nv c (B k) (E k - B k)) = oth ∧ o = (nI (nv c (B k) (E k - B k)), sc y 16 (nI (k + 1)))) ∨ (¬ (vl L W c B E k 0 19 ∧ y 18 (nv c (B k) (E k - B k) + 20) = 1 ∧ ¬ nI (nv c (B k) (E k - B k)) = oth) ∧ WR L W c B E y0 k o.2)) := by
  have hW2 : W ≤ 2000 := Nat.le_trans hT.2.1 hT.1
  unfold m_MD_takeZone
  by_cases hv : vl L W c B E k 0 19
  · have h19 := hv.2.2.2.2
    refine rT_e2 (look_Y (F := F) (lo := 0) (hi := 19) hF hT (by omega) (by omega) h hv) ?_
    rw [h.1, (a20 _).1, nI_clamp (by omega)]
    have hbad : rT (bn2 (m_MD_want F y (0 : Int32)) (fun r38 z0_38 => (if r38 = (0 : Int32) then (some (nI (nv c (B k) (E k - B k)), z0_38)) else (lz (sc z0_38 16 ((z0_38 16 0) + (1 : Int32))) (fun e0_51 => (some (nI (nv c (B k) (E k - B k)), e0_51))))))) (fun o => WR L W c B E y0 k o.2) := rT_e2 (w_0 h.1 (by have := h.2.2.1; omega) h.2.1) (rT_i0 (rT_some (WR_of h hW2)))
    refine rT_in n0m (rT_ck (vin (by omega)) (rT_if (fun c0 => rT_mono hbad (fun o ho => Or.inr ⟨fun q => n10 (q.2.1.symm.trans c0), ho⟩)) (fun c0 => rT_if (fun c1 => rT_mono hbad (fun o ho => Or.inr ⟨fun q => q.2.2 c1, ho⟩)) (fun c1 => ?_))))
    have h1 : y 18 (nv c (B k) (E k - B k) + 20) = 1 := by
      rcases hZ _ (show nv c (B k) (E k - B k) < 20 by omega) with ⟨h1, _⟩ | ⟨h1, _⟩
      · exact absurd h1 c0
      · exact h1
    refine rT_e2 (w_1 h.1) (rT_i1 (rT_lz (rT_some (Or.inl ⟨hv, h1, c1, ?_⟩))))
    rw [h.2.1, show (nI k + 1 : Int32) = nI (k + 1) from nI_add k 1]
  · refine rT_bn2 (look_X (F := F) (lo := 0) (hi := 19) hF hT (by omega) (by omega) h hv) (fun r4 z4 h4 => ?_)
    have h4 : WR L W c B E y0 k z4 := h4
    rw [h4.1]
    exact rT_ip (le0 (by have := h4.2.1; omega)) (rT_some (Or.inr ⟨fun q => hv q.1, h4⟩))
theorem q_J64W {F L W w : Nat} {c B E : Nat → Nat} {y0 t : St} {j1 j2 s0 : Int32} (hT : TK L W c B E) (h : WR L W c B E y0 w t) : rT (m_MD_readRow_J64 F j1 j2 s0 t) (fun y' => WR L W c B E y0 w y') := by
  unfold m_MD_readRow_J64
  rw [h.1]
  refine rT_ip (le0 (by have := h.2.1; omega)) (rT_bn1 (q_stopW hT h) (fun z hz => ?_))
  rw [hz.1]
  exact rT_ip (le0 (by have := hz.2.1; omega)) (rT_some hz)
theorem q_doesW {F L W w : Nat} {c B E : Nat → Nat} {y0 t : St} {j1 j2 : Int32} (hF : 100000 ≤ F) (hT : TK L W c B E) (h : WR L W c B E y0 w t) : rT (bn1 (m_MD_take_0 F t (628196 : Int32)) (fun z0_43 => (if (0 : Int32) ≤ (z0_43 17 0) then (m_MD_readRow_J64 F j1 j2 (-1 : Int32) z0_43) else (bn2 (m_MD_look F z0_43 (0 : Int32) (19 : Int32)) (fun r57 z0_57 => (m_MD_readRow_J64 F j1 j2 r57 z0_57)))))) (fun y' => WR L W c B E y0 w y') := by
  refine rT_bn1 (q_takeW hF hT h) (fun z hz => ?_)
  rw [hz.1]
  exact rT_ip (le0 (by have := hz.2.1; omega)) (q_J64W hT hz)
theorem a50 (a : Nat) : ((50 : Int32) + nI a) = nI (a + 50) := by
  rw [Nat.add_comm]; exact nI_add 50 a
theorem row_tail {F L W m r u : Nat} {c B E : Nat → Nat} {x0 x1 pl z a t y0 y : St} {j : Int32} (hF : 100000 ≤ F) (hT : TK L W c B E) (hX : TX L c t) (hA : rAs 20 a y) (hR : rRw 28 50 20 pl y) (hr : y 28 0 = nI r) (hr50 : r < 50) (hu : u < 20) (htu : y 18 (u + 20) = 1) (hj : j = -1 ∨ ∃ v : Nat, v < 20 ∧ j = nI v ∧ y 18 (v + 20) = 1) (hz : wa L W B E z m) (hN : NW L W c B E y0 m y) :
    r2 (bn1 (m_Words_is F z t 10) (fun r95 => (if r95 = (0 : Int32) then (bn1 (m_Words_number F z) (fun r105 => (some (r105, pl, z)))) else (bn2 (m_Reader_stepToToldAct F x0 x1 z a t) (fun r110 z2_110 => (if r110 = (-1 : Int32) then (bn1 (m_Words_number F z2_110) (fun r135 => (some (r135, pl, z2_110)))) else (bn2 (m_Words_stepTo F z2_110 t 3) (fun r125 z2_125 => (if r125 = (0 : Int32) then (bn1 (m_Words_number F z2_125) (fun r135 => (some (r135, pl, z2_125)))) else (bn1 (m_Plan_addRow F pl (nI u) j r110) (fun z1_146 => (some ((-1 : Int32), z1_146, z2_125)))))))))))))
      (bn1 (m_MD_take_0 F y (628196 : Int32)) (fun z0_43 => (if (0 : Int32) ≤ (z0_43 17 0) then (m_MD_readRow_J64 F (nI u) j (-1 : Int32) z0_43) else (bn2 (m_MD_look F z0_43 (0 : Int32) (19 : Int32)) (fun r57 z0_57 => (m_MD_readRow_J64 F (nI u) j r57 z0_57))))))
      (fun o y' => (∃ w : Nat, o.1 = nI w ∧ WR L W c B E y0 w y') ∨ (o.1 = -1 ∧ (∃ mm : Nat, m < mm ∧ wb E o.2.2 mm ∧ NW L W c B E y0 mm y') ∧ (∀ f : Nat, f ≠ 16 → (f < 28 ∨ 31 < f) → y' f = y f) ∧ rRw 28 50 20 o.2.1 y')) := by
  have hW2 : W ≤ 2000 := Nat.le_trans hT.2.1 hT.1
  refine r2_l ?_
  refine bz (p_is (w := 10) hF (by decide +kernel) hT hX hz) (fun hx => rT_e1 (show m_Words_number F z = some (nI m) from congrArg some hz.2.2) (rT_some ?_)) (fun h1 => ?_)
  · refine rT_bn1 (take_X (F := F) hF hT v10 hN hx) (fun z4 h4 => ?_)
    rw [h4.1]
    exact rT_ip (le0 (by have := h4.2.1; omega)) (rT_mono (q_J64W hT h4) (fun y' h => Or.inl ⟨_, rfl, h⟩))
  have hmW : m < W := isw_lt (by decide +kernel) h1
  have hN1 := NW_next hN hmW
  have htk := take_Y (F := F) hF hT v10 hN h1
  refine rT_bn2 (p_toldAct hF hT hX hA (by omega) (wb_of hz hmW)) (fun r1 z1 h2 => ?_)
  obtain ⟨hz1, h2⟩ := h2
  have hz1 : wa L W B E z1 (m + 1) := hz1
  rcases h2 with ⟨hv, ht, e1⟩ | ⟨hv, e1⟩
  rotate_left
  · have e1 : r1 = -1 := e1
    subst e1
    refine rT_ip rfl (rT_e1 (show m_Words_number F z1 = some (nI (m + 1)) from congrArg some hz1.2.2) (rT_some (rT_e1 htk ?_)))
    rw [hN1.1]
    refine rT_in n0m ?_
    by_cases hv2 : vl L W c B E (m + 1) 0 19
    · have h19 := hv2.2.2.2.2
      refine rT_e2 (look_Y (F := F) (lo := 0) (hi := 19) hF hT (by omega) (by omega) hN1 hv2) ?_
      unfold m_MD_readRow_J64
      have ht0 : (sc y 16 (nI (m + 1))) 22 (nv c (B (m + 1)) (E (m + 1) - B (m + 1)) + 20) = 0 := by
        rcases hA _ (show nv c (B (m + 1)) (E (m + 1) - B (m + 1)) < 20 by omega) with ⟨h1, _⟩ | ⟨h1, _⟩
        · exact h1
        · exact absurd ⟨hv2, h1⟩ hv
      rw [hN1.1, (a20 _).1, nI_clamp (by omega), ht0]
      refine rT_in n0m (rT_ck (vin (by omega)) (rT_e2 (w_0 hN1.1 (by omega) hN1.2.1) (rT_i0 (rT_bn1 (q_stopW hT (WR_of hN1 hW2)) (fun z5 h5 => ?_)))))
      rw [h5.1]
      exact rT_ip (le0 (by have := h5.2.1; omega)) (rT_some (Or.inl ⟨_, rfl, h5⟩))
    · refine rT_bn2 (look_X (F := F) (lo := 0) (hi := 19) hF hT (by omega) (by omega) hN1 hv2) (fun r4 z4 h4 => ?_)
      exact rT_mono (q_J64W hT h4) (fun y' h => Or.inl ⟨_, rfl, h⟩)
  have e1 : r1 = nI (nv c (B (m + 1)) (E (m + 1) - B (m + 1))) := e1
  subst e1
  have h19 := hv.2.2.2.2
  have hlk := look_Y (F := F) (lo := 0) (hi := 19) hF hT (by omega) (by omega) hN1 hv
  generalize nv c (B (m + 1)) (E (m + 1) - B (m + 1)) = v at *
  have hN2 := NW_next hN1 hv.1
  refine rT_in (m1eq (by omega)) (rT_bn2 (p_stepTo (w := 3) hF (by decide +kernel) hT hX (by have := hv.1; omega) (wb_of hz1 hv.1)) (fun r2 z2 h3 => ?_))
  obtain ⟨e2, hz2⟩ := h3
  have e2 : r2 = tf (isw L W c B E (m + 1 + 1) 3) := e2
  have hz2 : wa L W B E z2 (m + 1 + 1) := hz2
  subst e2
  have href : ∀ (P : St → Prop), rT (bn1 (m_MD_takeStop F (sc (sc y 16 (nI (m + 1))) 16 (nI (m + 1 + 1)))) (fun z0_99 => (if (0 : Int32) ≤ (z0_99 17 0) then (some z0_99) else (ck ((50 : Int32) + (z0_99 28 0)) 100 (lz (st z0_99 29 (upd (z0_99 29) ((50 : Int32) + (z0_99 28 0)).toNatClampNeg (nI u))) (fun e0_121 => (ck ((50 : Int32) + (e0_121 28 0)) 100 (lz (st e0_121 30 (upd (e0_121 30) ((50 : Int32) + (e0_121 28 0)).toNatClampNeg j)) (fun e0_134 => (ck ((50 : Int32) + (e0_134 28 0)) 100 (lz (st e0_134 31 (upd (e0_134 31) ((50 : Int32) + (e0_134 28 0)).toNatClampNeg (nI v))) (fun e0_147 => (lz (sc e0_147 28 ((e0_147 28 0) + (1 : Int32))) (fun e0_155 => (some e0_155))))))))))))))) P → rT (bn1 (m_MD_take_0 F y (628196 : Int32)) (fun z0_43 => (if (0 : Int32) ≤ (z0_43 17 0) then (m_MD_readRow_J64 F (nI u) j (-1 : Int32) z0_43) else (bn2 (m_MD_look F z0_43 (0 : Int32) (19 : Int32)) (fun r57 z0_57 => (m_MD_readRow_J64 F (nI u) j r57 z0_57)))))) P := by
    intro P hP
    refine rT_e1 htk ?_
    rw [hN1.1]
    refine rT_in n0m (rT_e2 hlk ?_)
    unfold m_MD_readRow_J64
    have ht' : (sc y 16 (nI (m + 1))) 22 (v + 20) = 1 := ht
    rw [hN1.1, (a20 v).1, nI_clamp (by omega), ht']
    refine rT_in n0m (rT_ck (vin (by omega)) (rT_e2 (w_1 hN1.1) (rT_i1 (rT_lz ?_))))
    rw [hN1.2.1, show (nI (m + 1) + 1 : Int32) = nI (m + 1 + 1) from nI_add (m + 1) 1]
    exact hP
  by_cases h3 : isw L W c B E (m + 1 + 1) 3
  · have hend : m + 1 + 1 < W := isw_lt (by decide +kernel) h3
    obtain ⟨r', hr', p5, e28, hrow⟩ := hR
    have er : r' = r := (nI_eq (by omega) (by omega)).mp (e28.symm.trans hr)
    subst er
    refine rT_in (by rw [tf_p h3]; exact n10) (rT_e1 (e_addRow p5 hr50) (rT_some (href _ (rT_e1 (stop_Y (F := F) hT hN2 h3) ?_))))
    have hN3 := NW_next hN2 hend
    have hv28 : vp_in ((50 : Int32) + y 28 0) 100 := by rw [hr, a50]; exact vin (by omega)
    have hc28 : ((50 : Int32) + y 28 0).toNatClampNeg = r' + 50 := by rw [hr, a50, nI_clamp (by omega)]
    rw [hN3.1]
    refine rT_in n0m (rT_ck hv28 (rT_lz (rT_ck hv28 (rT_lz (rT_ck hv28 (rT_lz (rT_lz (rT_some ?_))))))))
    show (∃ w : Nat, (-1 : Int32) = nI w ∧ _) ∨ ((-1 : Int32) = -1 ∧ (∃ mm : Nat, m < mm ∧ wb E z2 mm ∧ NW L W c B E y0 mm (sc (st (st (st (sc (sc (sc y 16 (nI (m + 1))) 16 (nI (m + 1 + 1))) 16 (nI (m + 1 + 1 + 1))) 29 (upd (y 29) ((50 : Int32) + y 28 0).toNatClampNeg (nI u))) 30 (upd (y 30) ((50 : Int32) + y 28 0).toNatClampNeg j)) 31 (upd (y 31) ((50 : Int32) + y 28 0).toNatClampNeg (nI v))) 28 (y 28 0 + 1))) ∧ (∀ f : Nat, f ≠ 16 → (f < 28 ∨ 31 < f) → (sc (st (st (st (sc (sc (sc y 16 (nI (m + 1))) 16 (nI (m + 1 + 1))) 16 (nI (m + 1 + 1 + 1))) 29 (upd (y 29) ((50 : Int32) + y 28 0).toNatClampNeg (nI u))) 30 (upd (y 30) ((50 : Int32) + y 28 0).toNatClampNeg j)) 31 (upd (y 31) ((50 : Int32) + y 28 0).toNatClampNeg (nI v))) 28 (y 28 0 + 1)) f = y f) ∧ rRw 28 50 20 (sc (st (st (st pl 2 (upd (pl 2) r' (nI u))) 3 (upd (pl 3) r' j)) 4 (upd (pl 4) r' (nI v))) 5 (nI (r' + 1))) (sc (st (st (st (sc (sc (sc y 16 (nI (m + 1))) 16 (nI (m + 1 + 1))) 16 (nI (m + 1 + 1 + 1))) 29 (upd (y 29) ((50 : Int32) + y 28 0).toNatClampNeg (nI u))) 30 (upd (y 30) ((50 : Int32) + y 28 0).toNatClampNeg j)) 31 (upd (y 31) ((50 : Int32) + y 28 0).toNatClampNeg (nI v))) 28 (y 28 0 + 1)))
    rw [hc28]
    refine Or.inr ⟨rfl, ⟨m + 1 + 1 + 1, by omega, wb_of hz2 hend, ?_⟩, fun f h1 h2 => ?_, ?_⟩
    · obtain ⟨g1, g2, g3, g4, g5⟩ := hN3
      exact ⟨g1, g2, g3, g4, Fr_sc (Fr_rw (g := 31) (Fr_rw (g := 30) (Fr_rw (g := 29) g5 (by omega) (by omega)) (by omega) (by omega)) (by omega) (by omega)) (by omega)⟩
    · rw [sc_n (by omega), st_n (by omega), st_n (by omega), st_n (by omega), sc_n h1, sc_n h1, sc_n h1]
    · refine ⟨r' + 1, by omega, rfl, ?_, fun i hi => ?_⟩
      · show y 28 0 + 1 = nI (r' + 1)
        rw [hr]; exact nI_add r' 1
      · show ∃ u' b' : Nat, u' < 20 ∧ b' < 20 ∧ upd (y 29) (r' + 50) (nI u) (i + 50) = nI u' ∧ upd (pl 2) r' (nI u) i = nI u' ∧ y 18 (u' + 20) = 1 ∧ upd (y 31) (r' + 50) (nI v) (i + 50) = nI b' ∧ upd (pl 4) r' (nI v) i = nI b' ∧ ((upd (y 30) (r' + 50) j (i + 50) = -1 ∧ upd (pl 3) r' j i = -1) ∨ ∃ v' : Nat, v' < 20 ∧ upd (y 30) (r' + 50) j (i + 50) = nI v' ∧ upd (pl 3) r' j i = nI v' ∧ y 18 (v' + 20) = 1)
        by_cases e : i = r'
        · subst e
          rw [upd_e, upd_e, upd_e, upd_e, upd_e, upd_e]
          refine ⟨u, v, hu, by omega, rfl, rfl, htu, rfl, rfl, ?_⟩
          rcases hj with hj | ⟨v', g1, g2, g3⟩
          · exact Or.inl ⟨hj, hj⟩
          · exact Or.inr ⟨v', g1, g2, g2, g3⟩
        · rw [upd_n (by omega), upd_n e, upd_n (by omega), upd_n e, upd_n (by omega), upd_n e]
          exact hrow i (by omega)
  · refine rT_ip (tf_n h3) (rT_e1 (show m_Words_number F z2 = some (nI (m + 1 + 1)) from congrArg some hz2.2.2) (rT_some (href _ (rT_bn1 (stop_X (F := F) hT hN2 h3) (fun z5 h5 => ?_)))))
    rw [h5.1]
    exact rT_ip (le0 (by have := h5.2.1; omega)) (rT_some (Or.inl ⟨_, rfl, h5⟩))
theorem rd_row {F L W k n r : Nat} {c B E : Nat → Nat} {x0 pl z a zn t y0 y : St} (hF : 100000 ≤ F) (hT : TK L W c B E) (hX : TX L c t) (hA : rAs 20 a y) (hZ : rZn n 20 zn y) (hR : rRw 28 50 20 pl y) (hr : y 28 0 = nI r) (hr50 : r < 50) (hk : k < W) (hz : wa L W B E z k) (hN : NW L W c B E y0 (k + 1) y) : r2 (m_Reader_readRow F x0 pl z a zn t) (m_MD_readRow F y) (fun o y' => (∃ w : Nat, o.1 = nI w ∧ WR L W c B E y0 w y') ∨ (o.1 = -1 ∧ (∃ mm : Nat, k < mm ∧ wb E o.2.2 mm ∧ NW L W c B E y0 mm y') ∧ (∀ f : Nat, f ≠ 16 → (f < 28 ∨ 31 < f) → y' f = y f) ∧ rRw 28 50 20 o.2.1 y')) := by
  have hW2 : W ≤ 2000 := Nat.le_trans hT.2.1 hT.1
  obtain ⟨r', hr', p5, e28, hrow⟩ := id hR
  have er : r' = r := (nI_eq (by omega) (by omega)).mp (e28.symm.trans hr)
  subst er
  refine r2_l ?_
  unfold m_Reader_readRow m_MD_readRow
  refine rT_e1 (a := nI r') (show m_Plan_rowCount F pl = some (nI r') from congrArg some p5) (rT_ip ((nI_ltI (b := 50) (by omega) (by omega)).mpr hr50) ?_)
  refine rT_bn2 (p_toldZone hF hT hX hZ (by omega) (wb_of hz hk)) (fun r1 z1 h2 => ?_)
  obtain ⟨hz1, h2⟩ := h2
  have hz1 : wa L W B E z1 (k + 1) := hz1
  have hq := q_takeZone (F := F) (oth := -1) hF hT hZ hN
  rcases h2 with ⟨hv, ht, e1⟩ | ⟨hv, e1⟩
  rotate_left
  · have e1 : r1 = -1 := e1
    subst e1
    refine rT_ip rfl (rT_e1 (show m_Words_number F z1 = some (nI (k + 1)) from congrArg some hz1.2.2) (rT_some (rT_bn2 hq (fun r2 y2 h3 => ?_))))
    rcases h3 with ⟨g1, g2, _⟩ | ⟨_, h3⟩
    · exact absurd ⟨g1, g2⟩ hv
    · have h3 : WR L W c B E y0 (k + 1) y2 := h3
      rw [h3.1]
      exact rT_ip (le0 (by omega)) (rT_mono (q_doesW hF hT h3) (fun y' h => Or.inl ⟨_, rfl, h⟩))
  have e1 : r1 = nI (nv c (B (k + 1)) (E (k + 1) - B (k + 1))) := e1
  subst e1
  have h19 := hv.2.2.2.2
  have hqe : m_MD_takeZone F y (-1) = some (nI (nv c (B (k + 1)) (E (k + 1) - B (k + 1))), sc y 16 (nI (k + 1 + 1))) := rT_get (rT_mono hq (fun o h => h.elim (fun q => q.2.2.2) (fun q => absurd ⟨hv, ht, m1eq (by omega)⟩ q.1)))
  generalize nv c (B (k + 1)) (E (k + 1) - B (k + 1)) = u at *
  have hN1 := NW_next hN hv.1
  have hA1 : rAs 20 a (sc y 16 (nI (k + 1 + 1))) := hA
  have hZ1 : rZn n 20 zn (sc y 16 (nI (k + 1 + 1))) := hZ
  have hR1 : rRw 28 50 20 pl (sc y 16 (nI (k + 1 + 1))) := hR
  refine rT_in (m1eq (by omega)) (rT_bn1 (p_step hF hT hX (by have := hv.1; omega) (wb_of hz1 hv.1)) (fun z2 hz2 => ?_))
  have hsg := q_sign (F := F) (w := 9) (s := 38) hT hN1.2.2.2.1 hN1.2.2.1 hN1.2.1 ln9 ch9 (by decide)
  refine bz (p_is (w := 9) hF (by decide +kernel) hT hX hz2) (fun hx => ?_) (fun hy => ?_)
  · have ht := r2_tl (row_tail (x0 := x0) (x1 := pl) (j := -1) hF hT hX hA1 hR1 hr hr50 (by omega) ht (Or.inl rfl) hz2 hN1)
    refine rT_mono ht (fun o ho => rT_e2 hqe ?_)
    rw [hN1.1]
    refine rT_in n0m (bz hsg (fun _ => rT_mono ho (fun y' h => ?_)) (fun q => absurd q hx))
    rcases h with h | ⟨h1, ⟨mm, h2, h3⟩, h4, h5⟩
    · exact Or.inl h
    · exact Or.inr ⟨h1, ⟨mm, by omega, h3⟩, fun f f1 f2 => (h4 f f1 f2).trans (sc_n f1 ▸ rfl), h5⟩
  · have hk2 : k + 1 + 1 < W := isw_lt (by decide +kernel) hy
    have hN2 := NW_next hN1 hk2
    refine rT_bn2 (p_toldZone hF hT hX hZ1 (by omega) (wb_of hz2 hk2)) (fun r3 z3 h3 => ?_)
    obtain ⟨hz3, h3⟩ := h3
    have hz3 : wa L W B E z3 (k + 1 + 1 + 1) := hz3
    have hq2 := q_takeZone (F := F) (oth := nI u) (zn := zn) (n := n) (y := sc (sc y 16 (nI (k + 1 + 1))) 16 (nI (k + 1 + 1 + 1))) hF hT hZ1 hN2
    have hbad : (∀ P : Int32 × St → Prop, rT (m_MD_takeZone F (sc (sc y 16 (nI (k + 1 + 1))) 16 (nI (k + 1 + 1 + 1))) (nI u)) (fun o => WR L W c B E y0 (k + 1 + 1 + 1) o.2) → True) := fun _ _ => trivial
    have hrun : rT (m_MD_takeZone F (sc (sc y 16 (nI (k + 1 + 1))) 16 (nI (k + 1 + 1 + 1))) (nI u)) (fun o => WR L W c B E y0 (k + 1 + 1 + 1) o.2) → rT (bn2 (m_MD_takeZone F y (-1 : Int32)) (fun r2 z0_2 => (if (0 : Int32) ≤ (z0_2 17 0) then (bn1 (m_MD_take_0 F z0_2 (628196 : Int32)) (fun z0_43 => (if (0 : Int32) ≤ (z0_43 17 0) then (m_MD_readRow_J64 F r2 (-1 : Int32) (-1 : Int32) z0_43) else (bn2 (m_MD_look F z0_43 (0 : Int32) (19 : Int32)) (fun r57 z0_57 => (m_MD_readRow_J64 F r2 (-1 : Int32) r57 z0_57)))))) else (bn1 (m_MD_isSign F z0_2 (38 : Int32)) (fun r18 => (if r18 = (0 : Int32) then (bn1 (m_MD_take_0 F z0_2 (628196 : Int32)) (fun z0_43 => (if (0 : Int32) ≤ (z0_43 17 0) then (m_MD_readRow_J64 F r2 (-1 : Int32) (-1 : Int32) z0_43) else (bn2 (m_MD_look F z0_43 (0 : Int32) (19 : Int32)) (fun r57 z0_57 => (m_MD_readRow_J64 F r2 (-1 : Int32) r57 z0_57)))))) else (lz (sc z0_2 16 ((z0_2 16 0) + (1 : Int32))) (fun e0_31 => (bn2 (m_MD_takeZone F e0_31 r2) (fun r36 z0_36 => (bn1 (m_MD_take_0 F z0_36 (628196 : Int32)) (fun z0_43 => (if (0 : Int32) ≤ (z0_43 17 0) then (m_MD_readRow_J64 F r2 r36 (-1 : Int32) z0_43) else (bn2 (m_MD_look F z0_43 (0 : Int32) (19 : Int32)) (fun r57 z0_57 => (m_MD_readRow_J64 F r2 r36 r57 z0_57)))))))))))))))) (fun y' => WR L W c B E y0 (k + 1 + 1 + 1) y') := by
      intro hh
      refine rT_e2 hqe ?_
      rw [hN1.1, hN1.2.1, show (nI (k + 1 + 1) + 1 : Int32) = nI (k + 1 + 1 + 1) from nI_add (k + 1 + 1) 1]
      refine rT_in n0m (bz hsg (fun q => absurd hy q) (fun _ => rT_lz (rT_bn2 hh (fun r5 y5 h5 => ?_))))
      exact q_doesW hF hT h5
    rcases h3 with ⟨hv3, ht3, e3⟩ | ⟨hv3, e3⟩
    rotate_left
    · have e3 : r3 = -1 := e3
      subst e3
      refine rT_ip rfl (rT_e1 (show m_Words_number F z3 = some (nI (k + 1 + 1 + 1)) from congrArg some hz3.2.2) (rT_some ?_))
      exact rT_mono (hrun (rT_mono hq2 (fun o h => h.elim (fun q => absurd ⟨q.1, q.2.1⟩ hv3) (fun q => q.2)))) (fun y' h => Or.inl ⟨_, rfl, h⟩)
    have e3 : r3 = nI (nv c (B (k + 1 + 1 + 1)) (E (k + 1 + 1 + 1) - B (k + 1 + 1 + 1))) := e3
    subst e3
    have h193 := hv3.2.2.2.2
    refine rT_in (m1eq (by omega)) ?_
    by_cases hsame : nI (nv c (B (k + 1 + 1 + 1)) (E (k + 1 + 1 + 1) - B (k + 1 + 1 + 1))) = nI u
    · refine rT_ip hsame (rT_e1 (show m_Words_number F z3 = some (nI (k + 1 + 1 + 1)) from congrArg some hz3.2.2) (rT_some ?_))
      exact rT_mono (hrun (rT_mono hq2 (fun o h => h.elim (fun q => absurd hsame q.2.2.1) (fun q => q.2)))) (fun y' h => Or.inl ⟨_, rfl, h⟩)
    have hqe2 : m_MD_takeZone F (sc (sc y 16 (nI (k + 1 + 1))) 16 (nI (k + 1 + 1 + 1))) (nI u) = some (nI (nv c (B (k + 1 + 1 + 1)) (E (k + 1 + 1 + 1) - B (k + 1 + 1 + 1))), sc (sc (sc y 16 (nI (k + 1 + 1))) 16 (nI (k + 1 + 1 + 1))) 16 (nI (k + 1 + 1 + 1 + 1))) := rT_get (rT_mono hq2 (fun o h => h.elim (fun q => q.2.2.2) (fun q => absurd ⟨hv3, ht3, hsame⟩ q.1)))
    have hN3 := NW_next hN2 hv3.1
    refine rT_in hsame (rT_bn1 (p_step hF hT hX (by have := hv3.1; omega) (wb_of hz3 hv3.1)) (fun z4 hz4 => ?_))
    have ht := r2_tl (row_tail (x0 := x0) (x1 := pl) (y := sc (sc (sc y 16 (nI (k + 1 + 1))) 16 (nI (k + 1 + 1 + 1))) 16 (nI (k + 1 + 1 + 1 + 1))) (j := nI (nv c (B (k + 1 + 1 + 1)) (E (k + 1 + 1 + 1) - B (k + 1 + 1 + 1)))) hF hT hX hA hR hr hr50 (show u < 20 by omega) ht (Or.inr ⟨_, by omega, rfl, ht3⟩) hz4 hN3)
    refine rT_mono ht (fun o ho => rT_e2 hqe ?_)
    rw [hN1.1, hN1.2.1, show (nI (k + 1 + 1) + 1 : Int32) = nI (k + 1 + 1 + 1) from nI_add (k + 1 + 1) 1]
    refine rT_in n0m (bz hsg (fun q => absurd hy q) (fun _ => rT_lz (rT_e2 hqe2 (rT_mono ho (fun y' h => ?_)))))
    rcases h with h | ⟨h1, ⟨mm, h2, h3⟩, h4, h5⟩
    · exact Or.inl h
    · refine Or.inr ⟨h1, ⟨mm, by omega, h3⟩, fun f f1 f2 => (h4 f f1 f2).trans ?_, h5⟩
      rw [sc_n f1, sc_n f1, sc_n f1]

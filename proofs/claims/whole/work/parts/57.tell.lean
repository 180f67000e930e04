-- WHAT IS TOLD
theorem p_zTold {n : Nat} {z y : St} (hZ : rZn n 0 z y) (F : Nat) (a : Int32) : rT (m_Zones_isTold F z a) (fun r => r = tf (∃ m : Nat, m < 20 ∧ a = nI m ∧ y 18 m = 1)) := by
  unfold m_Zones_isTold
  refine bz (p_withinN F a 19 (by omega)) (fun c => rT_some (tf_n (fun z => c ?_)).symm) (fun c => ?_)
  · obtain ⟨m, hm, e, _⟩ := z; exact ⟨m, by omega, e⟩
  obtain ⟨m, hm, rfl⟩ := c
  rw [nI_clamp (by omega)]
  rcases hZ m (by omega) with ⟨h1, h2, h3⟩ | ⟨h0, nd, sz, h1, h2, h3, h4, h5, h6, h7, h8⟩
  · rw [h2]
    refine rT_ck (vin (by omega)) (rT_ip (by decide) (rT_some (tf_n (fun z => ?_)).symm))
    obtain ⟨m', hm', e, ht⟩ := z
    have em : m = m' := (nI_eq (by omega) (by omega)).mp e
    subst em
    exact n10 (ht.symm.trans h1)
  · rw [h5]
    refine rT_ck (vin (by omega)) (rT_in (fun z => ?_) (rT_some (tf_p ⟨m, by omega, rfl, h0⟩).symm))
    have := (nI_leI (b := 0) (by omega) (by omega)).mp z
    omega
theorem p_aTold {y a : St} (hA : rAs 0 a y) (F : Nat) (v : Int32) : rT (m_Acts_isTold F a v) (fun r => r = tf (∃ m : Nat, m < 20 ∧ v = nI m ∧ y 22 m = 1)) := by
  unfold m_Acts_isTold
  refine bz (p_withinN F v 19 (by omega)) (fun c => rT_some (tf_n (fun z => c ?_)).symm) (fun c => ?_)
  · obtain ⟨m, hm, e, _⟩ := z; exact ⟨m, by omega, e⟩
  obtain ⟨m, hm, rfl⟩ := c
  rw [nI_clamp (by omega)]
  rcases hA m (by omega) with ⟨h1, h2⟩ | ⟨h0, h1, _⟩
  · rw [h2]
    refine rT_ck (vin (by omega)) (rT_ip rfl (rT_some (tf_n (fun z => ?_)).symm))
    obtain ⟨m', hm', e, ht⟩ := z
    have em : m = m' := (nI_eq (by omega) (by omega)).mp e
    subst em
    exact n10 (ht.symm.trans h1)
  · rw [h1]
    exact rT_ck (vin (by omega)) (rT_in n10 (rT_some (tf_p ⟨m, by omega, rfl, h0⟩).symm))
noncomputable def vz (y : St) (m : Nat) (a : Int32) : Int32 := if a = 0 then tf (On y m) else if a = 1 then tf (Su y m) else if a = 2 then y 19 m else nI (onN y m)
theorem p_zTell {F n m : Nat} {z z' y : St} (a2 : Int32) (hZ : rZn n 0 z y) (hf : ∀ f : Nat, f ≠ 3 → f ≠ 4 → z' f = z f) (hc : ∀ m : Nat, m < 20 → y 18 m = 1 → z' 3 m = nI (onN y m) ∧ z' 4 m = nI (abN y m)) (hm : m < 20) (ht : y 18 m = 1) : rT (m_Zones_tellOf F z' (nI m) a2) (fun r => r = vz y m a2) := by
  have e0 : z' 0 m = y 19 m := by
    rw [hf 0 (by omega) (by omega)]
    rcases hZ m hm with ⟨h1, _⟩ | ⟨_, nd, sz, h1, h2, h3, h4, h5, h6, h7, h8⟩
    · exact absurd (ht.symm.trans h1) n10
    · exact h5.trans h4.symm
  unfold m_Zones_tellOf vz
  refine rT_if (fun c => ?_) (fun c => rT_if (fun d => ?_) (fun d => rT_if (fun e => ?_) (fun e => ?_)))
  · rw [if_pos c]
    refine rT_bn1 (p_isOn hZ hf hc hm ht) (fun r er => ?_)
    subst er
    exact rT_e1 (p_oneIf F _) (rT_some rfl)
  · rw [if_neg c, if_pos d]
    refine rT_bn1 (p_isSure hZ hc hm ht) (fun r er => ?_)
    subst er
    exact rT_e1 (p_oneIf F _) (rT_some rfl)
  · rw [if_neg c, if_neg d, if_pos e, nI_clamp (by omega), e0]
    exact rT_ck (vin hm) (rT_some rfl)
  · rw [if_neg c, if_neg d, if_neg e, nI_clamp (by omega), (hc m hm ht).1]
    exact rT_ck (vin hm) (rT_some rfl)
theorem ri_tf {α : Type} {P : Prop} {y : α} : (if tf P = (0 : Int32) then some ((0 : Int32), y) else some ((1 : Int32), y)) = some (tf P, y) := by
  by_cases h : P
  · rw [tf_p h, if_neg n10]
  · rw [tf_n h, if_pos rfl]
theorem s_zone (F : Nat) (hF : 100000 ≤ F) : sim_zone F Rel := by
  intro x n y a1 a2 hR
  have hR0 := hR
  obtain ⟨hT, hP, hL, hE, hZ, hA, hB, hO, hW, hN⟩ := hR
  have hn2 : n ≤ 200 := hP.1.2
  obtain ⟨t, ht, ht1, ht2⟩ := hN
  have e62 : x 0 6 0 = y 2 0 := ht1.trans ht2.symm
  have hself : Rel (up (up x 7 (x 7)) 6 (x 6)) n (sc y 0 1) := by
    have e0 : up (up x 7 (x 7)) 6 (x 6) = x := by rw [up_self, up_self]
    rw [e0]; exact Rel_code hR0
  have hJ0 : rT (m_MD_zone_J34 F a2 a1 0 y) (fun b => ((1 : Nat) = 0 ∨ (1 : Nat) = 1) ∧ b.2 0 0 = nI 1 ∧ ((1 : Nat) = 0 → (0 : Int32) = b.1) ∧ Rel (up (up x 7 (x 7)) 6 (x 6)) n b.2) := by
    unfold m_MD_zone_J34
    exact go0 (rT_i0 (rT_some ⟨Or.inr rfl, rfl, fun h => absurd h (Nat.succ_ne_zero _), hself⟩))
  refine r2_l ?_
  unfold m_AM_zone m_MD_zone
  refine bz (p_zTold hZ F a1) (fun hc => rT_some ?_) (fun hc => ?_)
  · refine rT_if (fun _ => hJ0) (fun c => rT_if (fun _ => hJ0) (fun d => ?_))
    obtain ⟨m, hm, rfl⟩ := (rg (a := a1) (m := 20) (by omega)).mpr ⟨c, d⟩
    rw [nI_clamp (by omega)]
    refine rT_ck (vin (by omega)) (rT_ip ?_ hJ0)
    rcases hZ m hm with ⟨h1, _⟩ | ⟨h1, _⟩
    · exact h1
    · exact absurd ⟨m, hm, rfl, h1⟩ hc
  obtain ⟨m, hm, rfl, htold⟩ := hc
  have hd := (rg (a := nI m) (m := 20) (by omega)).mp ⟨m, hm, rfl⟩
  refine bz (p_within F a2 0 3) (fun hv => rT_some ?_) (fun hv => ?_)
  · refine rT_in hd.1 (rT_in hd.2 ?_)
    rw [nI_clamp (by omega)]
    refine rT_ck (vin (by omega)) (rT_in (fun z => n10 (htold.symm.trans z)) (rT_if (fun _ => hJ0) (fun c => rT_if (fun _ => hJ0) (fun d => absurd ⟨c, d⟩ hv))))
  rw [e62]
  refine rT_bn2 (p_planlook hF hP hZ hW) (fun a' z' hl => ?_)
  obtain ⟨fa, ca, fz, cz⟩ := hl
  refine rT_bn1 (p_zTell a2 hZ fz cz hm htold) (fun r er => rT_some ?_)
  subst er
  refine rT_in hd.1 (rT_in hd.2 ?_)
  rw [nI_clamp (by omega)]
  refine rT_ck (vin (by omega)) (rT_in (fun z => n10 (htold.symm.trans z)) (rT_in hv.1 (rT_in hv.2 ?_)))
  unfold m_MD_zone_J34
  have hL' : rLp n (fun j => x (10 + j)) (sc y 0 (0 : Int32)) := hL
  have hz' : tz n (sc y 0 (0 : Int32)) m := tz_of hZ hm htold
  have hfin : Rel (up (up x 7 a') 6 z') n (sc y 0 0) := Rel_look hR0 fa fz
  refine go1 (rT_i1 ?_)
  refine rT_if (fun c => ?_) (fun c => rT_if (fun d => ?_) (fun d => rT_if (fun e => ?_) (fun e => ?_)))
  · refine rT_bn1 (q_isOn hF hn2 hL' hz') (fun r er => ?_)
    subst er
    rw [ri_tf]
    refine rT_some ⟨Or.inl rfl, rfl, fun _ => ?_, hfin⟩
    show vz y m a2 = tf (On y m)
    unfold vz; rw [if_pos c]
  · refine rT_bn1 (q_isSure hF hn2 hL' hz') (fun r er => ?_)
    subst er
    rw [ri_tf]
    refine rT_some ⟨Or.inl rfl, rfl, fun _ => ?_, hfin⟩
    show vz y m a2 = tf (Su y m)
    unfold vz; rw [if_neg c, if_pos d]
  · rw [nI_clamp (by omega)]
    refine rT_ck (vin (by omega)) (rT_some ⟨Or.inl rfl, rfl, fun _ => ?_, hfin⟩)
    show vz y m a2 = y 19 m
    unfold vz; rw [if_neg c, if_neg d, if_pos e]
  · refine rT_bn1 (q_ofZone hF hn2 hL' hz').1 (fun r er => ?_)
    subst er
    refine rT_some ⟨Or.inl rfl, rfl, fun _ => ?_, hfin⟩
    show vz y m a2 = nI (onN y m)
    unfold vz; rw [if_neg c, if_neg d, if_neg e]
theorem s_row (F : Nat) (hF : 100000 ≤ F) : sim_row F Rel := by
  intro x n y a1 a2 hR
  have hR0 := hR
  obtain ⟨hT, hP, hL, hE, hZ, hA, hB, hO, hW, hN⟩ := hR
  have hn2 : n ≤ 200 := hP.1.2
  have hW0 := hW
  obtain ⟨rr, hrr, p5, e27, hrow⟩ := hW
  have hrow : ∀ k : Nat, k < rr → rwT (x 5) y k := hrow
  obtain ⟨t, ht, ht1, ht2⟩ := hN
  have e62 : x 0 6 0 = y 2 0 := ht1.trans ht2.symm
  have hself : Rel (up (up x 7 (x 7)) 6 (x 6)) n (sc y 0 1) := by
    have e0 : up (up x 7 (x 7)) 6 (x 6) = x := by rw [up_self, up_self]
    rw [e0]; exact Rel_code hR0
  have hJ0 : rT (m_MD_row_J27 F a2 a1 0 y) (fun b => ((1 : Nat) = 0 ∨ (1 : Nat) = 1) ∧ b.2 0 0 = nI 1 ∧ ((1 : Nat) = 0 → (0 : Int32) = b.1) ∧ Rel (up (up x 7 (x 7)) 6 (x 6)) n b.2) := by
    unfold m_MD_row_J27
    exact go0 (rT_i0 (rT_some ⟨Or.inr rfl, rfl, fun h => absurd h (Nat.succ_ne_zero _), hself⟩))
  refine r2_l ?_
  unfold m_AM_row m_MD_row
  refine rT_e1 (a := nI rr) (show m_Plan_rowCount F (x 5) = some (nI rr) from congrArg some p5) ?_
  rw [e27]
  refine bz (p_withinP F a1 rr (by omega)) (fun hc => rT_some ?_) (fun hc => ?_)
  · refine rT_if (fun _ => hJ0) (fun c => rT_if (fun _ => hJ0) (fun d => absurd ((rg (a := a1) (m := rr) (by omega)).mpr ⟨c, d⟩) hc))
  have hd := (rg (a := a1) (m := rr) (by omega)).mp hc
  obtain ⟨k, hk, rfl⟩ := hc
  refine bz (p_within F a2 0 3) (fun hv => rT_some ?_) (fun hv => ?_)
  · exact rT_in hd.1 (rT_in hd.2 (rT_if (fun _ => hJ0) (fun c => rT_if (fun _ => hJ0) (fun d => absurd ⟨c, d⟩ hv))))
  rw [e62]
  refine rT_bn2 (p_planlook hF hP hZ hW0) (fun a' z' hl => ?_)
  obtain ⟨fa, ca, fz, cz⟩ := hl
  have hfin : Rel (up (up x 7 a') 6 z') n (sc y 0 0) := Rel_look hR0 fa fz
  have hri := hrow k hk
  have hmet := p_isMet (F := F) hZ fz cz (show k < 50 by omega) hri
  have hL' : rLp n (fun j => x (10 + j)) (sc y 0 (0 : Int32)) := hL
  have hqm : rT (m_MD_isMet F (sc y 0 0) (nI k)) (fun r => r = tf (Mt y k)) := q_isMet (y := sc y 0 0) hF hn2 hL' (show k < 100 by omega) (rw1_of hZ hri)
  obtain ⟨u, b0, hu, hb0, e29, p2, tu, e31, p4, h30⟩ := hri
  have e3 : x 5 3 k = y 30 k := by
    rcases h30 with ⟨q1, q2⟩ | ⟨v, q1, q2, q3, q4⟩
    · rw [q1, q2]
    · rw [q2, q3]
  have hp : rT (m_Plan_tellOfRow F (x 5) z' (nI k) a2) (fun r => r = (if a2 = 0 then y 29 k else if a2 = 1 then y 30 k else if a2 = 2 then y 31 k else tf (Mt y k))) := by
    unfold m_Plan_tellOfRow
    rw [nI_clamp (by omega), p2, p4, e3]
    refine rT_if (fun c => ?_) (fun c => rT_if (fun d => ?_) (fun d => rT_if (fun e => ?_) (fun e => ?_)))
    · rw [if_pos c]; exact rT_ck (vin (by omega)) (rT_some e29.symm)
    · rw [if_neg c, if_pos d]; exact rT_ck (vin (by omega)) (rT_some rfl)
    · rw [if_neg c, if_neg d, if_pos e]; exact rT_ck (vin (by omega)) (rT_some e31.symm)
    · rw [if_neg c, if_neg d, if_neg e]
      refine rT_bn1 hmet (fun r er => ?_)
      subst er
      exact rT_e1 (p_oneIf F _) (rT_some rfl)
  refine rT_bn1 hp (fun r er => rT_some (rT_in hd.1 (rT_in hd.2 (rT_in hv.1 (rT_in hv.2 ?_)))))
  subst er
  unfold m_MD_row_J27
  rw [nI_clamp (by omega)]
  refine go1 (rT_i1 ?_)
  refine rT_if (fun c => ?_) (fun c => rT_if (fun d => ?_) (fun d => rT_if (fun e => ?_) (fun e => ?_)))
  · exact rT_ck (vin (by omega)) (rT_some ⟨Or.inl rfl, rfl, fun _ => by rw [if_pos c]; rfl, hfin⟩)
  · exact rT_ck (vin (by omega)) (rT_some ⟨Or.inl rfl, rfl, fun _ => by rw [if_neg c, if_pos d]; rfl, hfin⟩)
  · exact rT_ck (vin (by omega)) (rT_some ⟨Or.inl rfl, rfl, fun _ => by rw [if_neg c, if_neg d, if_pos e]; rfl, hfin⟩)
  · refine rT_bn1 hqm (fun r er => ?_)
    subst er
    rw [ri_tf]
    exact rT_some ⟨Or.inl rfl, rfl, fun _ => by rw [if_neg c, if_neg d, if_neg e], hfin⟩
theorem s_act (F : Nat) : sim_act F Rel := by
  intro x n y a1 a2 hR
  have hR0 := hR
  obtain ⟨hT, hP, hL, hE, hZ, hA, hB, hO, hW, hN⟩ := hR
  have hJ0 : rT (m_MD_act_J34 F a2 a1 0 y) (fun b => ((1 : Nat) = 0 ∨ (1 : Nat) = 1) ∧ b.2 0 0 = nI 1 ∧ ((1 : Nat) = 0 → (0 : Int32) = b.1) ∧ Rel x n b.2) := by
    unfold m_MD_act_J34
    exact go0 (rT_i0 (rT_some ⟨Or.inr rfl, rfl, fun h => absurd h (Nat.succ_ne_zero _), Rel_code hR0⟩))
  refine r2_l ?_
  unfold m_AM_act m_MD_act
  refine bz (p_aTold hA F a1) (fun hc => rT_some ?_) (fun hc => ?_)
  · refine rT_if (fun _ => hJ0) (fun c => rT_if (fun _ => hJ0) (fun d => ?_))
    obtain ⟨m, hm, rfl⟩ := (rg (a := a1) (m := 20) (by omega)).mpr ⟨c, d⟩
    rw [nI_clamp (by omega)]
    refine rT_ck (vin (by omega)) (rT_ip ?_ hJ0)
    rcases hA m hm with ⟨h1, _⟩ | ⟨h1, _⟩
    · exact h1
    · exact absurd ⟨m, hm, rfl, h1⟩ hc
  obtain ⟨m, hm, rfl, htold⟩ := hc
  have hd := (rg (a := nI m) (m := 20) (by omega)).mp ⟨m, hm, rfl⟩
  refine bz (p_within F a2 0 5) (fun hv => rT_some ?_) (fun hv => ?_)
  · refine rT_in hd.1 (rT_in hd.2 ?_)
    rw [nI_clamp (by omega)]
    exact rT_ck (vin (by omega)) (rT_in (fun z => n10 (htold.symm.trans z)) (rT_if (fun _ => hJ0) (fun c => rT_if (fun _ => hJ0) (fun d => absurd ⟨c, d⟩ hv))))
  obtain ⟨f3, f4, f26, f0, f1, f2⟩ : x 7 3 m = 1 ∧ x 7 4 m = y 26 m ∧ (y 26 m = 0 ∨ y 26 m = 1) ∧ x 7 0 m = y 23 m ∧ x 7 1 m = y 24 m ∧ x 7 2 m = y 25 m := by
    rcases hA m hm with ⟨h1, _⟩ | ⟨_, h2⟩
    · exact absurd (htold.symm.trans h1) n10
    · exact h2
  obtain ⟨f7, hst⟩ := (hB m hm).2 htold
  have hp : rT (m_Acts_tellOf F (x 7) (nI m) a2) (fun r => r = (if a2 = 0 then y 32 m else if a2 = 1 then y 33 m else if a2 = 2 then y 23 m else if a2 = 3 then y 24 m else if a2 = 4 then y 25 m else (if y 26 m = 0 then 0 else 1))) := by
    unfold m_Acts_tellOf
    rw [nI_clamp (by omega), f7, f4, f0, f1, f2]
    refine rT_if (fun c => ?_) (fun c => rT_if (fun d => ?_) (fun d => rT_if (fun e => ?_) (fun e => rT_if (fun f => ?_) (fun f => rT_if (fun g => ?_) (fun g => ?_)))))
    · rw [if_pos c]; exact rT_ck (vin hm) (rT_some rfl)
    · rw [if_neg c, if_pos d]
      rcases hst with ⟨s1, s2, s3, s4⟩ | ⟨s1, s2, s3, s4⟩
      · rw [s1, s2]
        exact rT_ck (vin hm) (rT_ip rfl (rT_ck (vin hm) (rT_some rfl)))
      · refine rT_ck (vin hm) (rT_in ?_ (rT_some s2.symm))
        rcases s1 with s1 | s1
        · rw [s1]; decide
        · rw [s1]; decide
    · rw [if_neg c, if_neg d, if_pos e]; exact rT_ck (vin hm) (rT_some rfl)
    · rw [if_neg c, if_neg d, if_neg e, if_pos f]; exact rT_ck (vin hm) (rT_some rfl)
    · rw [if_neg c, if_neg d, if_neg e, if_neg f, if_pos g]; exact rT_ck (vin hm) (rT_some rfl)
    · rw [if_neg c, if_neg d, if_neg e, if_neg f, if_neg g]
      refine rT_ck (vin hm) ?_
      unfold m_AM_oneIf
      by_cases h0 : y 26 m = 0
      · rw [if_pos h0, if_pos h0]; exact rT_e1 rfl (rT_some rfl)
      · rw [if_neg h0, if_neg h0]; exact rT_e1 rfl (rT_some rfl)
  refine rT_bn1 hp (fun r er => rT_some (rT_in hd.1 (rT_in hd.2 ?_)))
  subst er
  rw [nI_clamp (by omega)]
  refine rT_ck (vin (by omega)) (rT_in (fun z => n10 (htold.symm.trans z)) (rT_in hv.1 (rT_in hv.2 ?_)))
  unfold m_MD_act_J34
  rw [nI_clamp (by omega)]
  have hfin : Rel x n (sc y 0 0) := Rel_code hR0
  refine go1 (rT_i1 ?_)
  refine rT_if (fun c => ?_) (fun c => rT_if (fun d => ?_) (fun d => rT_if (fun e => ?_) (fun e => rT_if (fun f => ?_) (fun f => rT_if (fun g => ?_) (fun g => ?_)))))
  · exact rT_ck (vin hm) (rT_some ⟨Or.inl rfl, rfl, fun _ => by rw [if_pos c]; rfl, hfin⟩)
  · exact rT_ck (vin hm) (rT_some ⟨Or.inl rfl, rfl, fun _ => by rw [if_neg c, if_pos d]; rfl, hfin⟩)
  · exact rT_ck (vin (by omega)) (rT_some ⟨Or.inl rfl, rfl, fun _ => by rw [if_neg c, if_neg d, if_pos e]; rfl, hfin⟩)
  · exact rT_ck (vin (by omega)) (rT_some ⟨Or.inl rfl, rfl, fun _ => by rw [if_neg c, if_neg d, if_neg e, if_pos f]; rfl, hfin⟩)
  · exact rT_ck (vin (by omega)) (rT_some ⟨Or.inl rfl, rfl, fun _ => by rw [if_neg c, if_neg d, if_neg e, if_neg f, if_pos g]; rfl, hfin⟩)
  · refine rT_ck (vin (by omega)) (rT_if (fun h0 => rT_some ⟨Or.inl rfl, rfl, fun _ => ?_, hfin⟩) (fun h0 => rT_some ⟨Or.inl rfl, rfl, fun _ => ?_, hfin⟩))
    · have h0 : y 26 m = 0 := h0
      rw [if_neg c, if_neg d, if_neg e, if_neg f, if_neg g, if_pos h0]
    · have h0 : ¬ y 26 m = 0 := h0
      rw [if_neg c, if_neg d, if_neg e, if_neg f, if_neg g, if_neg h0]
theorem ev_ix : ∀ nx : Nat, nx < 60 → ∀ k : Nat, k < 60 → (if (0 : Int32) ≤ nI nx - 1 - nI k then nI nx - 1 - nI k else nI nx - 1 - nI k + 60) = nI ((nx + 59 - k) % 60) := by decide +kernel
theorem s_event (F : Nat) : sim_event F Rel := by
  intro x n y a1 a2 hR
  have hR0 := hR
  obtain ⟨hT, hP, hL, hE, hZ, hA, hB, hO, hW, hN⟩ := hR
  obtain ⟨c, nx, hc60, hnx, e36, x4, x3, hev⟩ := hE
  have hJ0 : rT (m_MD_event_J27 F a2 a1 0 y) (fun b => ((1 : Nat) = 0 ∨ (1 : Nat) = 1) ∧ b.2 0 0 = nI 1 ∧ ((1 : Nat) = 0 → (0 : Int32) = b.1) ∧ Rel x n b.2) := by
    unfold m_MD_event_J27
    exact go0 (rT_i0 (rT_some ⟨Or.inr rfl, rfl, fun h => absurd h (Nat.succ_ne_zero _), Rel_code hR0⟩))
  refine r2_l ?_
  unfold m_AM_event m_MD_event
  refine rT_e1 (a := nI c) (show m_Events_count F (x 4) = some (nI c) from congrArg some x4) ?_
  rw [e36]
  refine bz (p_withinP F a1 c (by omega)) (fun hc => rT_some ?_) (fun hc => ?_)
  · exact rT_if (fun _ => hJ0) (fun d => rT_if (fun _ => hJ0) (fun e => absurd ((rg (a := a1) (m := c) (by omega)).mpr ⟨d, e⟩) hc))
  have hd := (rg (a := a1) (m := c) (by omega)).mp hc
  obtain ⟨k, hk, rfl⟩ := hc
  refine bz (p_within F a2 0 2) (fun hv => rT_some ?_) (fun hv => ?_)
  · exact rT_in hd.1 (rT_in hd.2 (rT_if (fun _ => hJ0) (fun c => rT_if (fun _ => hJ0) (fun d => absurd ⟨c, d⟩ hv))))
  obtain ⟨g0, g1, g2⟩ := hev k hk
  have hmod : (nx + 59 - k) % 60 < 60 := Nat.mod_lt _ (by omega)
  have hix := ev_ix nx hnx k (by omega)
  have hp : rT (m_Events_tellOf F (x 4) (nI k) a2) (fun r => r = (if a2 = 0 then y 37 (c - 1 - k) else if a2 = 1 then y 38 (c - 1 - k) else y 39 (c - 1 - k))) := by
    unfold m_Events_tellOf
    rw [x3]
    refine rT_if (fun p => ?_) (fun p => ?_)
    · rw [if_pos p] at hix
      rw [hix, nI_clamp (by omega)]
      refine rT_if (fun c => ?_) (fun c => rT_if (fun d => ?_) (fun d => ?_))
      · rw [if_pos c]; exact rT_ck (vin hmod) (rT_some g0)
      · rw [if_neg c, if_pos d]; exact rT_ck (vin hmod) (rT_some g1)
      · rw [if_neg c, if_neg d]; exact rT_ck (vin hmod) (rT_some g2)
    · rw [if_neg p] at hix
      rw [hix, nI_clamp (by omega)]
      refine rT_if (fun c => ?_) (fun c => rT_if (fun d => ?_) (fun d => ?_))
      · rw [if_pos c]; exact rT_ck (vin hmod) (rT_some g0)
      · rw [if_neg c, if_pos d]; exact rT_ck (vin hmod) (rT_some g1)
      · rw [if_neg c, if_neg d]; exact rT_ck (vin hmod) (rT_some g2)
  refine rT_bn1 hp (fun r er => rT_some (rT_in hd.1 (rT_in hd.2 (rT_in hv.1 (rT_in hv.2 ?_)))))
  subst er
  unfold m_MD_event_J27
  have hfin : Rel x n (sc y 0 0) := Rel_code hR0
  refine go1 (rT_i1 ?_)
  have ee : (sc y 0 (0 : Int32)) 36 0 - 1 - nI k = nI (c - 1 - k) := by
    show y 36 0 - 1 - nI k = nI (c - 1 - k)
    rw [e36, show (nI c - 1 : Int32) = nI (c - 1) from pk_sub (b := 1) (by omega), pk_sub (by omega)]
  rw [ee, nI_clamp (by omega)]
  refine rT_if (fun c => ?_) (fun c => rT_if (fun d => ?_) (fun d => ?_))
  · exact rT_ck (vin (by omega)) (rT_some ⟨Or.inl rfl, rfl, fun _ => by rw [if_pos c]; rfl, hfin⟩)
  · exact rT_ck (vin (by omega)) (rT_some ⟨Or.inl rfl, rfl, fun _ => by rw [if_neg c, if_pos d]; rfl, hfin⟩)
  · exact rT_ck (vin (by omega)) (rT_some ⟨Or.inl rfl, rfl, fun _ => by rw [if_neg c, if_neg d]; rfl, hfin⟩)

-- THE CLASS LOOKS
theorem p_isAble {F n p : Nat} {w y : St} (hP : rPt n w y) (hp : p < n) : rT (m_Points_isAble F w n (nI p) (y 2 0)) (fun r => r = tf (Ct y p)) := by
  obtain ⟨⟨hn1, hn2⟩, hp0, hy1, hpt⟩ := hP
  obtain ⟨g1, g2, g3, g4, g5, g6⟩ := hpt p hp
  unfold m_Points_isAble
  rw [nI_clamp (by omega), g2, g3, g6]
  refine rT_ck (vin hp) (rT_if (fun c => rT_ck (vin hp) (rT_if (fun d => rT_ck (vin hp) (rT_if (fun e => rT_some (tf_n (fun z => z.2.2 e)).symm) (fun e => rT_some (tf_p ⟨c, ?_, e⟩).symm))) (fun d => rT_some (tf_n (fun z => ?_)).symm))) (fun c => rT_some (tf_n (fun z => c z.1)).symm))
  · exact d (tf_n (fun q => q z.2.1))
  · exact Classical.byContradiction (tf_0.mp d)
theorem p_isHigh {F n p : Nat} {w y : St} (hP : rPt n w y) (hp : p < n) : rT (m_Points_isHigh F w n (nI p)) (fun r => r = tf (¬ y 3 p < 50)) := by
  obtain ⟨⟨hn1, hn2⟩, hp0, hy1, hpt⟩ := hP
  unfold m_Points_isHigh
  rw [nI_clamp (by omega), (hpt p hp).1]
  exact rT_ck (vin hp) (rT_if (fun c => rT_some (tf_n (fun z => z c)).symm) (fun c => rT_some (tf_p c).symm))
theorem p_lookAt {F n i : Nat} {w z y : St} (hF : 100000 ≤ F) (hP : rPt n w y) (hZ : rZn n 0 z y) (hi : i < 20) : rT (m_Zones_lookAt F z w n (nI i) (y 2 0)) (fun z' => (∀ f : Nat, f ≠ 3 → f ≠ 4 → z' f = z f) ∧ (∀ m : Nat, m ≠ i → z' 3 m = z 3 m ∧ z' 4 m = z 4 m) ∧ (y 18 i = 1 → z' 3 i = nI (onN y i) ∧ z' 4 i = nI (abN y i))) := by
  have hn2 := hP.1.2
  have hsz : ∃ sz : Nat, sz ≤ 12 ∧ z 1 i = nI sz ∧ (y 18 i = 1 → zs y i = sz) ∧ ∀ k : Nat, k < sz → ∃ p : Nat, p < n ∧ z 2 (12 * i + k) = nI p ∧ zp y i k = p := by
    rcases hZ i hi with ⟨h1, h2, h3⟩ | ⟨h0, nd, sz, h1, h2, h3, h4, h5, h6, h7, h8⟩
    · exact ⟨0, by omega, h3, fun e => absurd (e.symm.trans h1) n10, fun k hk => by omega⟩
    · refine ⟨sz, h3, h7, fun _ => ?_, fun k hk => ?_⟩
      · unfold zs
        have h6 : y 20 i = nI sz := h6
        rw [h6, nI_clamp (by omega)]
      · obtain ⟨p, g1, g2, g3⟩ := h8 k hk
        refine ⟨p, g1, g3, ?_⟩
        have g2 : y 21 (12 * i + k) = nI p := g2
        unfold zp; rw [g2, nI_clamp (by omega)]
  obtain ⟨sz, hs, e1, ezs, hpt⟩ := hsz
  have ei : ∀ k : Nat, (nI i * (12 : Int32) + nI k) = nI (12 * i + k) := fun k => by
    rw [show (12 : Int32) = nI 12 from rfl, pk_mul, nI_add, Nat.mul_comm]
  unfold m_Zones_lookAt
  refine rT_lq3 sz (fun k v5 v6 v7 => v7 = nI k ∧ v5 = nI (cn (fun k => Ct y (zp y i k) ∧ ¬ y 3 (zp y i k) < 50) k) ∧ v6 = nI (cn (fun k => Ct y (zp y i k)) k)) ?_ F 0 0 0 0 (by omega) (by omega) ⟨rfl, rfl, rfl⟩
  intro k r v5 v6 v7 hk hI hrec
  obtain ⟨e7, e5, e6⟩ := hI
  subst e7 e5 e6
  unfold m_Zones_lookAt_B15
  rw [nI_clamp (show i < 2 ^ 31 by omega), e1, ei k]
  refine rT_ck (vin hi) (rT_if (fun g => rT_ck (vin hi) (rT_lz (rT_ck (vin hi) (rT_lz (rT_some ⟨fun f h3 h4 => ?_, fun m hm => ?_, fun ht => ?_⟩))))) (fun g => ?_))
  · rw [st_n h4, st_n h3]
  · show upd (z 3) i _ m = z 3 m ∧ upd (z 4) i _ m = z 4 m
    exact ⟨upd_n hm, upd_n hm⟩
  · have := (nI_leI (by omega) (by omega)).mp g
    show upd (z 3) i _ i = nI (onN y i) ∧ upd (z 4) i _ i = nI (abN y i)
    rw [upd_e, upd_e]
    unfold onN abN
    rw [ezs ht, show k = sz by omega]
    exact ⟨rfl, rfl⟩
  have hk' : k < sz := Nat.lt_of_not_le (fun q => g ((nI_leI (by omega) (by omega)).mpr q))
  obtain ⟨p, hp, e2, ep⟩ := hpt k hk'
  rw [nI_clamp (by omega), e2]
  refine rT_ck (vin (by omega)) (bz (p_isAble hP hp) (fun c => hrec _ _ _ hk' ⟨nI_add k 1, ?_, ?_⟩) (fun c => ?_))
  · rw [cn_n (by rw [ep]; exact fun z => c z.1)]
  · rw [cn_n (by rw [ep]; exact c)]
  refine rT_bn1 (p_isHigh hP hp) (fun r1 er => ?_)
  subst er
  refine rT_e1 (p_oneIf F _) (hrec _ _ _ hk' ⟨nI_add k 1, bI_add ?_, ?_⟩)
  · rw [ep]; exact ⟨fun z => ⟨c, z⟩, fun z => z.2⟩
  · rw [cn_p (by rw [ep]; exact c)]; exact nI_add _ 1
theorem Zn_fr {n o : Nat} {z z' y : St} (h : rZn n o z y) (f : ∀ k : Nat, k ≠ 3 → k ≠ 4 → z' k = z k) : rZn n o z' y := by
  unfold rZn
  rw [f 0 (by omega) (by omega), f 1 (by omega) (by omega), f 2 (by omega) (by omega)]
  exact h
theorem p_look {F n : Nat} {w z y : St} (hF : 100000 ≤ F) (hP : rPt n w y) (hZ : rZn n 0 z y) : rT (m_Zones_look F z w n (y 2 0)) (fun z' => (∀ f : Nat, f ≠ 3 → f ≠ 4 → z' f = z f) ∧ (∀ m : Nat, m < 20 → y 18 m = 1 → z' 3 m = nI (onN y m) ∧ z' 4 m = nI (abN y m))) := by
  unfold m_Zones_look
  refine rT_lq2 20 (fun i v z' => v = nI i ∧ (∀ f : Nat, f ≠ 3 → f ≠ 4 → z' f = z f) ∧ (∀ m : Nat, m < i → y 18 m = 1 → z' 3 m = nI (onN y m) ∧ z' 4 m = nI (abN y m))) ?_ F 0 0 z (by omega) (by omega) ⟨rfl, fun _ _ _ => rfl, fun m hm => by omega⟩
  intro i r v z' hi hI hrec
  obtain ⟨ev, hf, hc⟩ := hI
  subst ev
  unfold m_Zones_look_B2
  refine rT_if (fun g => rT_some ⟨hf, ?_⟩) (fun g => ?_)
  · have := (nI_leI (a := 20) (by omega) (by omega)).mp g
    rw [show (20 : Nat) = i by omega]; exact hc
  have hi' : i < 20 := Nat.lt_of_not_le (fun q => g ((nI_leI (a := 20) (by omega) (by omega)).mpr q))
  refine rT_bn1 (p_lookAt hF hP (Zn_fr hZ hf) hi') (fun z2 h2 => hrec _ _ hi' ⟨nI_add i 1, fun f h3 h4 => (h2.1 f h3 h4).trans (hf f h3 h4), fun m hm ht => ?_⟩)
  by_cases e : m = i
  · subst e; exact h2.2.2 ht
  · rw [(h2.2.1 m e).1, (h2.2.1 m e).2]; exact hc m (by omega) ht
theorem p_isOn {F n m : Nat} {z z' y : St} (hZ : rZn n 0 z y) (hf : ∀ f : Nat, f ≠ 3 → f ≠ 4 → z' f = z f) (hc : ∀ m : Nat, m < 20 → y 18 m = 1 → z' 3 m = nI (onN y m) ∧ z' 4 m = nI (abN y m)) (hm : m < 20) (ht : y 18 m = 1) : rT (m_Zones_isOn F z' (nI m)) (fun r => r = tf (On y m)) := by
  have e0 : z' 0 m = y 19 m := by
    rw [hf 0 (by omega) (by omega)]
    rcases hZ m hm with ⟨h1, _⟩ | ⟨_, nd, sz, h1, h2, h3, h4, h5, h6, h7, h8⟩
    · exact absurd (ht.symm.trans h1) n10
    · exact h5.trans h4.symm
  unfold m_Zones_isOn
  rw [nI_clamp (by omega), (hc m hm ht).1, e0]
  exact rT_ck (vin hm) (rT_ck (vin hm) (rT_if (fun c => rT_some (tf_n (fun z => z c)).symm) (fun c => rT_some (tf_p c).symm)))
theorem p_isSure {F n m : Nat} {z z' y : St} (hZ : rZn n 0 z y) (hc : ∀ m : Nat, m < 20 → y 18 m = 1 → z' 3 m = nI (onN y m) ∧ z' 4 m = nI (abN y m)) (hm : m < 20) (ht : y 18 m = 1) : rT (m_Zones_isSure F z' (nI m)) (fun r => r = tf (Su y m)) := by
  have hb := abN_le (tz_of hZ hm ht)
  unfold m_Zones_isSure
  rw [nI_clamp (by omega), (hc m hm ht).1, (hc m hm ht).2]
  refine rT_ck (vin hm) (rT_if (fun c => rT_some (tf_n (fun z => ?_)).symm) (fun c => rT_ck (vin hm) (rT_ck (vin hm) (rT_if (fun d => rT_some (tf_p ⟨?_, (nI_eq (by omega) (by omega)).mp d⟩).symm) (fun d => rT_some (tf_n (fun z => d (by rw [z.2]))).symm)))))
  · have := (nI_leI (b := 0) (by omega) (by omega)).mp c
    have := z.1
    omega
  · exact Nat.lt_of_not_le (fun q => c ((nI_leI (b := 0) (by omega) (by omega)).mpr q))
def rwT (pl y : St) (k : Nat) : Prop := ∃ u b : Nat, u < 20 ∧ b < 20 ∧ y 29 k = nI u ∧ pl 2 k = nI u ∧ y 18 u = 1 ∧ y 31 k = nI b ∧ pl 4 k = nI b ∧ ((y 30 k = -1 ∧ pl 3 k = -1) ∨ ∃ v : Nat, v < 20 ∧ y 30 k = nI v ∧ pl 3 k = nI v ∧ y 18 v = 1)
theorem rw1_of {n k : Nat} {pl z y : St} (hZ : rZn n 0 z y) (h : rwT pl y k) : rw1 n y k := by
  obtain ⟨u, b, h1, h2, h3, h4, h5, h6, h7, h8⟩ := h
  refine ⟨u, h3, tz_of hZ h1 h5, ?_⟩
  rcases h8 with e | ⟨v, g1, g2, g3, g4⟩
  · exact Or.inl e.1
  · exact Or.inr ⟨v, g2, tz_of hZ g1 g4⟩
theorem m1eq {n : Nat} (h : n < 2 ^ 31) : ¬ nI n = (-1 : Int32) := fun e => (nm_1 h).mp e
theorem p_isMet {F n k : Nat} {pl z z' y : St} (hZ : rZn n 0 z y) (hf : ∀ f : Nat, f ≠ 3 → f ≠ 4 → z' f = z f) (hc : ∀ m : Nat, m < 20 → y 18 m = 1 → z' 3 m = nI (onN y m) ∧ z' 4 m = nI (abN y m)) (hk : k < 50) (hr : rwT pl y k) : rT (m_Plan_isMet F pl z' (nI k)) (fun r => r = tf (Mt y k)) := by
  obtain ⟨u, b, hu, hb, e29, p2, tu, e31, p4, h30⟩ := hr
  have eM : Mt y k ↔ On y u ∧ (y 30 k < 0 ∨ On y (y 30 k).toNatClampNeg) := by
    unfold Mt; rw [e29, nI_clamp (by omega)]
  unfold m_Plan_isMet
  rw [nI_clamp (by omega), p2]
  refine rT_ck (vin hk) (rT_ck (vin hk) (bz (p_isOn hZ hf hc hu tu) (fun c => rT_some (tf_n (fun z => c (eM.mp z).1)).symm) (fun c => ?_)))
  rcases h30 with ⟨e30, p3⟩ | ⟨v, hv, e30, p3, tv⟩
  · rw [p3]
    exact rT_ip rfl (rT_some (tf_p (eM.mpr ⟨c, Or.inl (by rw [e30]; exact m1neg)⟩)).symm)
  · rw [p3]
    refine rT_in (m1eq (by omega)) (bz (p_isOn hZ hf hc hv tv) (fun d => rT_some (tf_n (fun z => ?_)).symm) (fun d => rT_some (tf_p (eM.mpr ⟨c, Or.inr ?_⟩)).symm))
    · rcases (eM.mp z).2 with w | w
      · rw [e30] at w; exact n0 (by omega) w
      · rw [e30, nI_clamp (by omega)] at w; exact d w
    · rw [e30, nI_clamp (by omega)]; exact d
theorem p_hasSure {F n k : Nat} {pl z z' y : St} (hZ : rZn n 0 z y) (hc : ∀ m : Nat, m < 20 → y 18 m = 1 → z' 3 m = nI (onN y m) ∧ z' 4 m = nI (abN y m)) (hk : k < 50) (hr : rwT pl y k) : rT (m_Plan_hasSureZone F pl z' (nI k)) (fun r => r = tf (Sf y k)) := by
  obtain ⟨u, b, hu, hb, e29, p2, tu, e31, p4, h30⟩ := hr
  have eS : Sf y k ↔ Su y u ∨ (¬ y 30 k < 0 ∧ Su y (y 30 k).toNatClampNeg) := by
    unfold Sf; rw [e29, nI_clamp (by omega)]
  unfold m_Plan_hasSureZone
  rw [nI_clamp (by omega), p2]
  refine rT_ck (vin hk) (rT_ck (vin hk) (bz (p_isSure hZ hc hu tu) (fun c => ?_) (fun c => rT_some (tf_p (eS.mpr (Or.inl c))).symm)))
  rcases h30 with ⟨e30, p3⟩ | ⟨v, hv, e30, p3, tv⟩
  · rw [p3]
    refine rT_ip rfl (rT_some (tf_n (fun z => ?_)).symm)
    rcases eS.mp z with w | w
    · exact c w
    · exact w.1 (by rw [e30]; exact m1neg)
  · rw [p3]
    refine rT_in (m1eq (by omega)) (bz (p_isSure hZ hc hv tv) (fun d => rT_some (tf_n (fun z => ?_)).symm) (fun d => rT_some (tf_p (eS.mpr (Or.inr ⟨?_, ?_⟩))).symm))
    · rcases eS.mp z with w | w
      · exact c w
      · rw [e30, nI_clamp (by omega)] at w; exact d w.2
    · rw [e30]; exact n0 (by omega)
    · rw [e30, nI_clamp (by omega)]; exact d
theorem p_forget {F : Nat} {a : St} (hF : 100000 ≤ F) : rT (m_Acts_forgetCalls F a) (fun a' => (∀ f : Nat, f ≠ 11 → f ≠ 12 → a' f = a f) ∧ ∀ b : Nat, b < 20 → a' 11 b = 0 ∧ a' 12 b = 0) := by
  unfold m_Acts_forgetCalls
  refine rT_lq2 20 (fun i v a' => v = nI i ∧ (∀ f : Nat, f ≠ 11 → f ≠ 12 → a' f = a f) ∧ ∀ b : Nat, b < i → a' 11 b = 0 ∧ a' 12 b = 0) ?_ F 0 0 a (by omega) (by omega) ⟨rfl, fun _ _ _ => rfl, fun m hm => by omega⟩
  intro i r v a' hi hI hrec
  obtain ⟨ev, hf, hc⟩ := hI
  subst ev
  unfold m_Acts_forgetCalls_B2
  refine rT_if (fun g => rT_some ⟨hf, ?_⟩) (fun g => ?_)
  · have := (nI_leI (a := 20) (by omega) (by omega)).mp g
    rw [show (20 : Nat) = i by omega]; exact hc
  have hi' : i < 20 := Nat.lt_of_not_le (fun q => g ((nI_leI (a := 20) (by omega) (by omega)).mpr q))
  rw [nI_clamp (by omega), vb0]
  refine rT_ck (vin hi') (rT_lz (rT_ck (vin hi') (rT_lz (hrec _ _ hi' ⟨nI_add i 1, fun f h3 h4 => ?_, fun b hb => ?_⟩))))
  · rw [st_n h4, st_n h3]; exact hf f h3 h4
  · show upd (a' 11) i 0 b = 0 ∧ upd (a' 12) i 0 b = 0
    by_cases e : b = i
    · subst e; rw [upd_e, upd_e]; exact ⟨rfl, rfl⟩
    · rw [upd_n e, upd_n e]; exact hc b (by omega)
theorem e_call {F b : Nat} {a : St} {Q S : Prop} (hb : b < 20) (h12 : a 12 b = tf Q) : m_Acts_call F a (nI b) (tf S) = some (st (st a 11 (upd (a 11) b 1)) 12 (upd (a 12) b (tf (Q ∨ S)))) := by
  have h : rT (m_Acts_call F a (nI b) (tf S)) (fun z => z = st (st a 11 (upd (a 11) b 1)) 12 (upd (a 12) b (tf (Q ∨ S)))) := by
    unfold m_Acts_call
    rw [nI_clamp (by omega), vb1, vb0]
    refine rT_ck (vin hb) (rT_lz (rT_ck (vin hb) (rT_if (fun c => rT_if (fun d => rT_ck (vin hb) (rT_lz (rT_some ?_))) (fun d => rT_ck (vin hb) (rT_lz (rT_some ?_)))) (fun c => rT_ck (vin hb) (rT_lz (rT_some ?_))))))
    · have c : a 12 b = 0 := c
      rw [tf_n (fun z => z.elim (tf_zz h12 c) (tf_0.mp d))]; rfl
    · rw [tf_p (Or.inr (tf_nz rfl d))]; rfl
    · have c : ¬ a 12 b = 0 := c
      rw [tf_p (Or.inl (tf_nz h12 c))]; rfl
  obtain ⟨z, h1, rfl⟩ := h
  exact h1
theorem p_planlook {F n : Nat} {pl a z w y : St} (hF : 100000 ≤ F) (hP : rPt n w y) (hZ : rZn n 0 z y) (hW : rRw 27 0 0 pl y) : rT (m_Plan_look F pl a z w n (y 2 0)) (fun o => (∀ f : Nat, f ≠ 11 → f ≠ 12 → o.1 f = a f) ∧ (∀ b : Nat, b < 20 → o.1 11 b = tf (Cal y 0 b) ∧ o.1 12 b = tf (Cal y 1 b)) ∧ (∀ f : Nat, f ≠ 3 → f ≠ 4 → o.2 f = z f) ∧ (∀ m : Nat, m < 20 → y 18 m = 1 → o.2 3 m = nI (onN y m) ∧ o.2 4 m = nI (abN y m))) := by
  obtain ⟨rr, hrr, p5, e27, hrow⟩ := hW
  have hrow : ∀ k : Nat, k < rr → rwT pl y k := hrow
  have eC : ∀ (s : Int32) (b : Nat), Cal y s b = Calk y s b rr := fun s b => by
    unfold Cal; rw [e27, nI_clamp (by omega)]
  unfold m_Plan_look
  refine rT_bn1 (p_look hF hP hZ) (fun z' hz' => rT_bn1 (p_forget hF) (fun a' ha' => ?_))
  obtain ⟨zf, zc⟩ := hz'
  refine rT_lq2 rr (fun i v b' => v = nI i ∧ (∀ f : Nat, f ≠ 11 → f ≠ 12 → b' f = a f) ∧ ∀ b : Nat, b < 20 → b' 11 b = tf (Calk y 0 b i) ∧ b' 12 b = tf (Calk y 1 b i)) ?_ F 0 0 a' (by omega) (by omega) ⟨rfl, ha'.1, fun b hb => ⟨?_, ?_⟩⟩
  · intro i r v b' hi hI hrec
    obtain ⟨ev, hf, hc⟩ := hI
    subst ev
    unfold m_Plan_look_B18
    rw [p5]
    refine rT_if (fun g => rT_some ⟨hf, fun b hb => ?_, zf, zc⟩) (fun g => ?_)
    · have := (nI_leI (by omega) (by omega)).mp g
      rw [eC, eC, show rr = i by omega]; exact hc b hb
    have hi' : i < rr := Nat.lt_of_not_le (fun q => g ((nI_leI (by omega) (by omega)).mpr q))
    have hri := hrow i hi'
    refine bz (p_isMet hZ zf zc (by omega) hri) (fun c => hrec _ _ hi' ⟨nI_add i 1, hf, fun b hb => ?_⟩) (fun c => ?_)
    · have hno : ∀ s : Int32, tf (Calk y s b i) = tf (Calk y s b (i + 1)) := by
        intro s
        refine tf_c ⟨?_, ?_⟩
        · rintro ⟨m, hm, hq⟩; exact ⟨m, by omega, hq⟩
        · rintro ⟨m, hm, hq⟩
          by_cases e : m = i
          · subst e; exact absurd hq.2.1 c
          · exact ⟨m, by omega, hq⟩
      rw [← hno 0, ← hno 1]; exact hc b hb
    have hs := p_hasSure (F := F) hZ zc (show i < 50 by omega) hri
    obtain ⟨u, b0, hu, hb0, e29, p2, tu, e31, p4, h30⟩ := hri
    rw [nI_clamp (by omega), p4]
    refine rT_ck (vin (by omega)) (rT_bn1 hs (fun r1 er => ?_))
    subst er
    refine rT_e1 (e_call hb0 (hc b0 hb0).2) (hrec _ _ hi' ⟨nI_add i 1, fun f h1 h2 => ?_, fun b hb => ?_⟩)
    · rw [st_n h2, st_n h1]; exact hf f h1 h2
    · show upd (b' 11) b0 1 b = _ ∧ upd (b' 12) b0 (tf (Calk y 1 b0 i ∨ Sf y i)) b = _
      by_cases e : b = b0
      · subst e
        rw [upd_e, upd_e]
        refine ⟨(tf_p ⟨i, by omega, e31, c, Or.inl rfl⟩).symm, tf_c ⟨?_, ?_⟩⟩
        · rintro (⟨m, hm, hq⟩ | z)
          · exact ⟨m, by omega, hq⟩
          · exact ⟨i, by omega, e31, c, Or.inr z⟩
        · rintro ⟨m, hm, hq⟩
          by_cases e : m = i
          · subst e; exact Or.inr (hq.2.2.resolve_left n10)
          · exact Or.inl ⟨m, by omega, hq⟩
      · rw [upd_n e, upd_n e]
        have hno : ∀ s : Int32, tf (Calk y s b i) = tf (Calk y s b (i + 1)) := by
          intro s
          refine tf_c ⟨?_, ?_⟩
          · rintro ⟨m, hm, hq⟩; exact ⟨m, by omega, hq⟩
          · rintro ⟨m, hm, hq⟩
            by_cases e' : m = i
            · subst e'
              exact absurd ((nI_eq (by omega) (by omega)).mp (hq.1.symm.trans e31)) e
            · exact ⟨m, by omega, hq⟩
        rw [← hno 0, ← hno 1]; exact hc b hb
  · rw [(ha'.2 b hb).1]; exact (tf_n (by rintro ⟨m, hm, _⟩; omega)).symm
  · rw [(ha'.2 b hb).2]; exact (tf_n (by rintro ⟨m, hm, _⟩; omega)).symm
theorem As_fr {o : Nat} {a a' y : St} (h : rAs o a y) (f : ∀ k : Nat, k ≠ 11 → k ≠ 12 → a' k = a k) : rAs o a' y := by
  unfold rAs
  rw [f 0 (by omega) (by omega), f 1 (by omega) (by omega), f 2 (by omega) (by omega), f 3 (by omega) (by omega), f 4 (by omega) (by omega)]
  exact h
theorem Ad_fr {a a' y : St} (h : rAd a y) (f : ∀ k : Nat, k ≠ 11 → k ≠ 12 → a' k = a k) : rAd a' y := by
  unfold rAd
  rw [f 7 (by omega) (by omega), f 8 (by omega) (by omega), f 9 (by omega) (by omega), f 10 (by omega) (by omega)]
  exact h
theorem Or_fr {o : Nat} {a a' y : St} (h : rOr o a y) (f : ∀ k : Nat, k ≠ 11 → k ≠ 12 → a' k = a k) : rOr o a' y := by
  unfold rOr
  rw [f 5 (by omega) (by omega), f 6 (by omega) (by omega)]
  exact h
theorem Rel_look {x : Nat → St} {n : Nat} {y a' z' : St} {v : Int32} (hR : Rel x n y) (fa : ∀ k : Nat, k ≠ 11 → k ≠ 12 → a' k = x 7 k) (fz : ∀ k : Nat, k ≠ 3 → k ≠ 4 → z' k = x 6 k) : Rel (up (up x 7 a') 6 z') n (sc y 0 v) := by
  obtain ⟨hT, hP, hL, hE, hZ, hA, hB, hO, hW, hN⟩ := hR
  exact ⟨hT, hP, Lp_up (x := up x 7 a') (Lp_up hL (by omega)) (by omega), hE, Zn_fr hZ fz, As_fr hA fa, Ad_fr hB fa, Or_fr hO fa, hW, hN⟩
theorem p_withinP (F : Nat) (a : Int32) (r : Nat) (hr : r < 2 ^ 31) : rT (m_AM_isWithin F a 0 (nI r - 1)) (fun v => v = tf (isP r a)) := by
  rcases Nat.eq_zero_or_pos r with e | e
  · subst e
    refine rT_mono (p_within F a 0 (nI 0 - 1)) (fun v ev => ?_)
    rw [ev]
    refine tf_c ⟨fun z => ?_, fun z => ?_⟩
    · obtain ⟨j, hj, rfl⟩ := nI_of z.1
      refine absurd ?_ z.2
      rw [show (nI 0 - 1 : Int32) = -nI 1 from by decide +kernel]
      exact (nm_5 hj).mpr trivial
    · obtain ⟨i, hi, _⟩ := z; omega
  · rw [show (nI r - 1 : Int32) = nI (r - 1) from pk_sub (b := 1) e]
    refine rT_mono (p_withinN F a (r - 1) (by omega)) (fun v ev => ?_)
    rw [ev]
    refine tf_c ⟨?_, ?_⟩
    · rintro ⟨i, hi, e⟩; exact ⟨i, by omega, e⟩
    · rintro ⟨i, hi, e⟩; exact ⟨i, by omega, e⟩

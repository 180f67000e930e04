-- ZONES AND ROWS
def Ct (y : St) (p : Nat) : Prop := y 4 p = 0 ∧ Hd y p ∧ ¬ y 2 0 < y 5 p
def zp (y : St) (z k : Nat) : Nat := (y 21 (12 * z + k)).toNatClampNeg
def zs (y : St) (z : Nat) : Nat := (y 20 z).toNatClampNeg
noncomputable def onN (y : St) (z : Nat) : Nat := cn (fun k => Ct y (zp y z k) ∧ ¬ y 3 (zp y z k) < 50) (zs y z)
noncomputable def abN (y : St) (z : Nat) : Nat := cn (fun k => Ct y (zp y z k)) (zs y z)
def On (y : St) (z : Nat) : Prop := ¬ nI (onN y z) < y 19 z
def Su (y : St) (z : Nat) : Prop := 0 < abN y z ∧ onN y z = abN y z
def Mt (y : St) (r : Nat) : Prop := On y (y 29 r).toNatClampNeg ∧ (y 30 r < 0 ∨ On y (y 30 r).toNatClampNeg)
def Sf (y : St) (r : Nat) : Prop := Su y (y 29 r).toNatClampNeg ∨ (¬ y 30 r < 0 ∧ Su y (y 30 r).toNatClampNeg)
def Calk (y : St) (s : Int32) (a k : Nat) : Prop := ∃ r : Nat, r < k ∧ y 31 r = nI a ∧ Mt y r ∧ (s = 0 ∨ Sf y r)
def Cal (y : St) (s : Int32) (a : Nat) : Prop := Calk y s a (y 27 0).toNatClampNeg
def tz (n : Nat) (y : St) (m : Nat) : Prop := m < 20 ∧ ∃ sz : Nat, sz ≤ 12 ∧ y 20 m = nI sz ∧ ∀ k : Nat, k < sz → ∃ p : Nat, p < n ∧ y 21 (12 * m + k) = nI p
theorem tz_of {n m : Nat} {z y : St} (h : rZn n 0 z y) (hm : m < 20) (ht : y 18 m = 1) : tz n y m := by
  rcases h m hm with ⟨h1, _⟩ | ⟨_, nd, sz, h1, h2, h3, h4, h5, h6, h7, h8⟩
  · exact absurd (ht.symm.trans h1) n10
  · refine ⟨hm, sz, h3, h6, fun k hk => ?_⟩
    obtain ⟨p, g1, g2, g3⟩ := h8 k hk
    exact ⟨p, g1, g2⟩
theorem q_counts {F n p : Nat} {y : St} {q : Nat → St} (hF : 100000 ≤ F) (hn : n ≤ 200) (hp : p < n) (hL : rLp n q y) : rT (m_MD_counts F y (nI p)) (fun r => r = tf (Ct y p)) := by
  unfold m_MD_counts
  rw [nI_clamp (by omega)]
  refine rT_ck (vin (by omega)) (rT_if (fun c => ?_) (fun c => rT_some (tf_n (fun z => c z.1)).symm))
  refine bz (q_isHeard hF hn hp hL) (fun h => rT_some (tf_n (fun z => h z.2.1)).symm) (fun h => rT_ck (vin (by omega)) ?_)
  exact rT_if (fun d => rT_some (tf_n (fun z => z.2.2 d)).symm) (fun d => rT_some (tf_p ⟨c, h, d⟩).symm)
theorem q_ofZone {F n m : Nat} {y : St} {q : Nat → St} (hF : 100000 ≤ F) (hn : n ≤ 200) (hL : rLp n q y) (hz : tz n y m) : rT (m_MD_ofZone F y (nI m) 1) (fun r => r = nI (onN y m)) ∧ rT (m_MD_ofZone F y (nI m) 0) (fun r => r = nI (abN y m)) := by
  obtain ⟨hm, sz, hs, e20, hpt⟩ := hz
  have ezs : zs y m = sz := by unfold zs; rw [e20, nI_clamp (by omega)]
  have ei : ∀ i : Nat, ((12 : Int32) * nI m + nI i) = nI (12 * m + i) := fun i => by
    rw [show (12 : Int32) = nI 12 from rfl, pk_mul, nI_add]
  have ez : ∀ i p : Nat, p < n → y 21 (12 * m + i) = nI p → zp y m i = p := fun i p hp e => by
    unfold zp; rw [e, nI_clamp (by omega)]
  constructor
  · unfold m_MD_ofZone
    refine rT_lq2 sz (fun i v3 v4 => v4 = nI i ∧ v3 = nI (cn (fun k => Ct y (zp y m k) ∧ ¬ y 3 (zp y m k) < 50) i)) ?_ F 0 0 0 (by omega) (by omega) ⟨rfl, rfl⟩
    intro i r v3 v4 hi hI hrec
    obtain ⟨e4, e3⟩ := hI
    subst e4 e3
    unfold m_MD_ofZone_B5
    rw [nI_clamp (show m < 2 ^ 31 by omega), e20, ei i]
    refine rT_ck (vin (by omega)) (rT_if (fun g => rT_some ?_) (fun g => ?_))
    · have := (nI_leI (by omega) (by omega)).mp g
      unfold onN
      rw [ezs, show i = sz by omega]
    have hi' : i < sz := Nat.lt_of_not_le (fun q => g ((nI_leI (by omega) (by omega)).mpr q))
    obtain ⟨p, hp, e21⟩ := hpt i hi'
    have ep := ez i p hp e21
    rw [nI_clamp (by omega), e21, nI_clamp (by omega)]
    refine rT_ck (vin (by omega)) (bz (q_counts hF hn hp hL) (fun c => hrec _ _ hi' ⟨nI_add i 1, ?_⟩) (fun c => rT_i1 (rT_ck (vin (by omega)) (rT_if (fun d => hrec _ _ hi' ⟨nI_add i 1, ?_⟩) (fun d => hrec _ _ hi' ⟨nI_add i 1, ?_⟩)))))
    · rw [cn_n (by rw [ep]; exact fun z => c z.1)]; exact nI_add _ 0
    · rw [cn_n (by rw [ep]; exact fun z => z.2 d)]; exact nI_add _ 0
    · rw [cn_p (by rw [ep]; exact ⟨c, d⟩)]; exact nI_add _ 1
  · unfold m_MD_ofZone
    refine rT_lq2 sz (fun i v3 v4 => v4 = nI i ∧ v3 = nI (cn (fun k => Ct y (zp y m k)) i)) ?_ F 0 0 0 (by omega) (by omega) ⟨rfl, rfl⟩
    intro i r v3 v4 hi hI hrec
    obtain ⟨e4, e3⟩ := hI
    subst e4 e3
    unfold m_MD_ofZone_B5
    rw [nI_clamp (show m < 2 ^ 31 by omega), e20, ei i]
    refine rT_ck (vin (by omega)) (rT_if (fun g => rT_some ?_) (fun g => ?_))
    · have := (nI_leI (by omega) (by omega)).mp g
      unfold abN
      rw [ezs, show i = sz by omega]
    have hi' : i < sz := Nat.lt_of_not_le (fun q => g ((nI_leI (by omega) (by omega)).mpr q))
    obtain ⟨p, hp, e21⟩ := hpt i hi'
    have ep := ez i p hp e21
    rw [nI_clamp (by omega), e21]
    refine rT_ck (vin (by omega)) (bz (q_counts hF hn hp hL) (fun c => hrec _ _ hi' ⟨nI_add i 1, ?_⟩) (fun c => rT_i0 (hrec _ _ hi' ⟨nI_add i 1, ?_⟩)))
    · rw [cn_n (by rw [ep]; exact c)]; exact nI_add _ 0
    · rw [cn_p (by rw [ep]; exact c)]; exact nI_add _ 1
theorem q_isOn {F n m : Nat} {y : St} {q : Nat → St} (hF : 100000 ≤ F) (hn : n ≤ 200) (hL : rLp n q y) (hz : tz n y m) : rT (m_MD_isOn F y (nI m)) (fun r => r = tf (On y m)) := by
  have hm := hz.1
  unfold m_MD_isOn
  refine rT_bn1 (q_ofZone hF hn hL hz).1 (fun r er => ?_)
  subst er
  rw [nI_clamp (by omega)]
  exact rT_ck (vin (by omega)) (rT_if (fun c => rT_some (tf_n (fun z => z c)).symm) (fun c => rT_some (tf_p c).symm))
theorem abN_le {n m : Nat} {y : St} (hz : tz n y m) : abN y m ≤ 12 ∧ onN y m ≤ 12 := by
  obtain ⟨hm, sz, hs, e20, hpt⟩ := hz
  have ezs : zs y m = sz := by unfold zs; rw [e20, nI_clamp (by omega)]
  unfold abN onN
  rw [ezs]
  exact ⟨Nat.le_trans (cn_le _ _) hs, Nat.le_trans (cn_le _ _) hs⟩
theorem q_isSure {F n m : Nat} {y : St} {q : Nat → St} (hF : 100000 ≤ F) (hn : n ≤ 200) (hL : rLp n q y) (hz : tz n y m) : rT (m_MD_isSure F y (nI m)) (fun r => r = tf (Su y m)) := by
  have hb := abN_le hz
  unfold m_MD_isSure
  refine rT_bn1 (q_ofZone hF hn hL hz).2 (fun r er => ?_)
  subst er
  refine rT_if (fun c => rT_some (tf_n (fun z => ?_)).symm) (fun c => ?_)
  · have := (nI_leI (b := 0) (by omega) (by omega)).mp c
    have := z.1
    omega
  refine rT_bn1 (q_ofZone hF hn hL hz).1 (fun r er => ?_)
  subst er
  refine rT_if (fun d => rT_some (tf_p ⟨?_, (nI_eq (by omega) (by omega)).mp d⟩).symm) (fun d => rT_some (tf_n (fun z => d (by rw [z.2]))).symm)
  exact Nat.lt_of_not_le (fun q => c ((nI_leI (b := 0) (by omega) (by omega)).mpr q))
def rw1 (n : Nat) (y : St) (k : Nat) : Prop := ∃ u : Nat, y 29 k = nI u ∧ tz n y u ∧ (y 30 k = -1 ∨ ∃ v : Nat, y 30 k = nI v ∧ tz n y v)
theorem m1neg : (-1 : Int32) < 0 := by decide
theorem q_isMet {F n k : Nat} {y : St} {q : Nat → St} (hF : 100000 ≤ F) (hn : n ≤ 200) (hL : rLp n q y) (hk : k < 100) (hr : rw1 n y k) : rT (m_MD_isMet F y (nI k)) (fun r => r = tf (Mt y k)) := by
  obtain ⟨u, e29, hu, h30⟩ := hr
  have hu20 := hu.1
  have eM : Mt y k ↔ On y u ∧ (y 30 k < 0 ∨ On y (y 30 k).toNatClampNeg) := by
    unfold Mt; rw [e29, nI_clamp (by omega)]
  unfold m_MD_isMet
  rw [nI_clamp (by omega), e29]
  refine rT_ck (vin hk) (bz (q_isOn hF hn hL hu) (fun c => rT_some (tf_n (fun z => c (eM.mp z).1)).symm) (fun c => rT_ck (vin hk) ?_))
  rcases h30 with e30 | ⟨v, e30, hv⟩
  · rw [e30]
    exact rT_ip m1neg (rT_some (tf_p (eM.mpr ⟨c, Or.inl (by rw [e30]; exact m1neg)⟩)).symm)
  · have hv20 := hv.1
    rw [e30]
    refine rT_in (n0 (by omega)) (rT_ck (vin hk) (bz (q_isOn hF hn hL hv) (fun d => rT_some (tf_n (fun z => ?_)).symm) (fun d => rT_some (tf_p (eM.mpr ⟨c, Or.inr ?_⟩)).symm)))
    · rcases (eM.mp z).2 with w | w
      · rw [e30] at w; exact n0 (by omega) w
      · rw [e30, nI_clamp (by omega)] at w; exact d w
    · rw [e30, nI_clamp (by omega)]; exact d
theorem q_isCalled {F n a rr : Nat} {y : St} {q : Nat → St} {s : Int32} (hF : 100000 ≤ F) (hn : n ≤ 200) (hL : rLp n q y) (h27 : y 27 0 = nI rr) (hrr : rr ≤ 50) (hr : ∀ k : Nat, k < rr → rw1 n y k) : rT (m_MD_isCalled F y (nI a) s) (fun r => r = tf (Cal y s a)) := by
  have eC : Cal y s a = Calk y s a rr := by unfold Cal; rw [h27, nI_clamp (by omega)]
  rw [eC]
  unfold m_MD_isCalled
  refine rT_lq2 rr (fun i v3 v4 => v4 = nI i ∧ v3 = tf (Calk y s a i)) ?_ F 0 0 0 (by omega) (by omega) ⟨rfl, (tf_n (by rintro ⟨m, hm, _⟩; omega)).symm⟩
  intro i r v3 v4 hi hI hrec
  obtain ⟨e4, e3⟩ := hI
  subst e4
  unfold m_MD_isCalled_B5
  rw [h27]
  refine rT_if (fun g => ?_) (fun g => ?_)
  · have := (nI_leI (by omega) (by omega)).mp g
    rw [show rr = i by omega]
    exact rT_ckb (by rw [e3]; exact tf_b _) (rT_some e3)
  have hi' : i < rr := Nat.lt_of_not_le (fun q => g ((nI_leI (by omega) (by omega)).mpr q))
  have e1 : (nI i + 1 : Int32) = nI (i + 1) := nI_add i 1
  rw [nI_clamp (by omega)]
  have hri := hr i hi'
  have hJ89 : ∀ (K : Int32 → Int32 → Option Int32) (j5 s0 : Int32) (M S : Prop), j5 = tf M → s0 = tf S → (((s = 0 ∧ M) ∨ (¬ s = 0 ∧ S)) ↔ (y 31 i = nI a ∧ Mt y i ∧ (s = 0 ∨ Sf y i))) → rT (m_MD_isCalled_J89 F s K r v3 (nI i) j5 s0) (fun r => r = tf (Calk y s a rr)) := by
    intro K j5 s0 M S ej es hq
    unfold m_MD_isCalled_J89
    rw [e1]
    have hup : ∀ w : Int32, w = tf (Calk y s a (i + 1)) → rT (r w (nI (i + 1))) (fun r => r = tf (Calk y s a rr)) := fun w hw => hrec _ _ hi' ⟨rfl, hw⟩
    refine rT_if (fun g => rT_if (fun g1 => rT_if (fun g2 => hup _ ?_) (fun g2 => hup _ ?_)) (fun g1 => rT_if (fun g2 => hup _ ?_) (fun g2 => hup _ ?_))) (fun g => hup _ ?_)
    · refine (tf_n ?_).symm
      rintro ⟨m, hm, hq'⟩
      by_cases e : m = i
      · subst e
        rcases hq.mpr hq' with z | z
        · exact tf_zz ej g2 z.2
        · exact z.1 g1
      · exact tf_zz e3 g ⟨m, by omega, hq'⟩
    · exact (tf_p ⟨i, by omega, hq.mp (Or.inl ⟨g1, tf_nz ej g2⟩)⟩).symm
    · refine (tf_n ?_).symm
      rintro ⟨m, hm, hq'⟩
      by_cases e : m = i
      · subst e
        rcases hq.mpr hq' with z | z
        · exact g1 z.1
        · exact tf_zz es g2 z.2
      · exact tf_zz e3 g ⟨m, by omega, hq'⟩
    · exact (tf_p ⟨i, by omega, hq.mp (Or.inr ⟨g1, tf_nz es g2⟩)⟩).symm
    · obtain ⟨m, hm, hq'⟩ := tf_nz e3 g
      exact (tf_p ⟨m, by omega, hq'⟩).symm
  have hJ0 : ∀ (K : Int32 → Int32 → Option Int32), ¬ (y 31 i = nI a ∧ Mt y i) → rT (m_MD_isCalled_J39 F s y K r v3 (nI i) 0) (fun r => r = tf (Calk y s a rr)) := by
    intro K hno
    unfold m_MD_isCalled_J39
    refine rT_i0 (hJ89 K 0 0 False False (tf_n id).symm (tf_n id).symm ⟨?_, ?_⟩)
    · rintro (z | z)
      · exact z.2.elim
      · exact z.2.elim
    · exact fun z => (hno ⟨z.1, z.2.1⟩).elim
  refine rT_ck (vin (by omega)) (rT_if (fun c => ?_) (fun c => hJ0 _ (fun z => c z.1)))
  refine bz (q_isMet hF hn hL (by omega) hri) (fun d => hJ0 _ (fun z => d z.2)) (fun d => ?_)
  unfold m_MD_isCalled_J39
  obtain ⟨u, e29, hu, h30⟩ := hri
  have hu20 := hu.1
  have eS : Sf y i ↔ Su y u ∨ (¬ y 30 i < 0 ∧ Su y (y 30 i).toNatClampNeg) := by
    unfold Sf; rw [e29, nI_clamp (by omega)]
  have hfin : ∀ (S : Prop), (S ↔ Sf y i) → (((s = 0 ∧ True) ∨ (¬ s = 0 ∧ S)) ↔ (y 31 i = nI a ∧ Mt y i ∧ (s = 0 ∨ Sf y i))) := by
    intro S hS
    constructor
    · rintro (z | z)
      · exact ⟨c, d, Or.inl z.1⟩
      · exact ⟨c, d, Or.inr (hS.mp z.2)⟩
    · rintro ⟨_, _, z⟩
      by_cases hs : s = 0
      · exact Or.inl ⟨hs, trivial⟩
      · exact Or.inr ⟨hs, hS.mpr (z.resolve_left hs)⟩
  rw [nI_clamp (by omega), e29]
  refine rT_i1 (rT_ck (vin (by omega)) (bz (q_isSure hF hn hL hu) (fun f => rT_ck (vin (by omega)) ?_) (fun f => hJ89 _ 1 1 True True (tf_p trivial).symm (tf_p trivial).symm (hfin True ⟨fun _ => eS.mpr (Or.inl f), fun _ => trivial⟩))))
  rcases h30 with e30 | ⟨v, e30, hv⟩
  · rw [e30]
    refine rT_ip m1neg (hJ89 _ 1 0 True False (tf_p trivial).symm (tf_n id).symm (hfin False ⟨False.elim, fun z => ?_⟩))
    rcases eS.mp z with w | w
    · exact f w
    · exact w.1 (by rw [e30]; exact m1neg)
  · have hv20 := hv.1
    rw [e30]
    refine rT_in (n0 (by omega)) (rT_ck (vin (by omega)) (bz (q_isSure hF hn hL hv) (fun h => hJ89 _ 1 0 True False (tf_p trivial).symm (tf_n id).symm (hfin False ⟨False.elim, fun z => ?_⟩)) (fun h => hJ89 _ 1 1 True True (tf_p trivial).symm (tf_p trivial).symm (hfin True ⟨fun _ => eS.mpr (Or.inr ⟨?_, ?_⟩), fun _ => trivial⟩))))
    · rcases eS.mp z with w | w
      · exact f w
      · rw [e30, nI_clamp (by omega)] at w; exact h w.2
    · rw [e30]; exact n0 (by omega)
    · rw [e30, nI_clamp (by omega)]; exact h

-- SENTENCE BY SENTENCE
def Fr (y0 y : St) : Prop := (∀ f : Nat, f ≠ 16 → f ≠ 17 → (f < 18 ∨ 26 < f) → (f < 28 ∨ 31 < f) → y f = y0 f) ∧ (∀ f i : Nat, 18 ≤ f → f ≤ 26 → f ≠ 21 → i < 20 → y f i = y0 f i) ∧ (∀ i : Nat, i < 240 → y 21 i = y0 21 i) ∧ (∀ f i : Nat, 29 ≤ f → f ≤ 31 → i < 50 → y f i = y0 f i)
theorem Fr_sc {y0 y : St} {k : Nat} {v : Int32} (h : Fr y0 y) (hk : k = 16 ∨ k = 17 ∨ k = 28) : Fr y0 (sc y k v) := by
  obtain ⟨h1, h2, h3, h4⟩ := h
  refine ⟨fun f f1 f2 f3 f4 => ?_, fun f i f1 f2 f3 hi => ?_, fun i hi => ?_, fun f i f1 f2 hi => ?_⟩
  · rw [sc_n (by omega)]; exact h1 f f1 f2 f3 f4
  · rw [sc_n (by omega)]; exact h2 f i f1 f2 f3 hi
  · rw [sc_n (by omega)]; exact h3 i hi
  · rw [sc_n (by omega)]; exact h4 f i f1 f2 hi
theorem Fr_up {y0 y : St} {g i : Nat} {v : Int32} (h : Fr y0 y) (g1 : 18 ≤ g) (g2 : g ≤ 26) (g3 : g ≠ 21) : Fr y0 (st y g (upd (y g) (i + 20) v)) := by
  obtain ⟨h1, h2, h3, h4⟩ := h
  refine ⟨fun f f1 f2 f3 f4 => ?_, fun f j f1 f2 f3 hi => ?_, fun j hi => ?_, fun f j f1 f2 hi => ?_⟩
  · rw [st_n (by omega)]; exact h1 f f1 f2 f3 f4
  · by_cases e : f = g
    · subst e; rw [st_e, upd_n (by omega)]; exact h2 f j f1 f2 f3 hi
    · rw [st_n e]; exact h2 f j f1 f2 f3 hi
  · rw [st_n (by omega)]; exact h3 j hi
  · rw [st_n (by omega)]; exact h4 f j f1 f2 hi
theorem Fr_21 {y0 y : St} {i : Nat} {v : Int32} (h : Fr y0 y) (hi : 240 ≤ i) : Fr y0 (st y 21 (upd (y 21) i v)) := by
  obtain ⟨h1, h2, h3, h4⟩ := h
  refine ⟨fun f f1 f2 f3 f4 => ?_, fun f j f1 f2 f3 hj => ?_, fun j hj => ?_, fun f j f1 f2 hj => ?_⟩
  · rw [st_n (by omega)]; exact h1 f f1 f2 f3 f4
  · rw [st_n f3]; exact h2 f j f1 f2 f3 hj
  · rw [st_e, upd_n (by omega)]; exact h3 j hj
  · rw [st_n (by omega)]; exact h4 f j f1 f2 hj
theorem Fr_rw {y0 y : St} {g i : Nat} {v : Int32} (h : Fr y0 y) (g1 : 29 ≤ g) (g2 : g ≤ 31) : Fr y0 (st y g (upd (y g) (i + 50) v)) := by
  obtain ⟨h1, h2, h3, h4⟩ := h
  refine ⟨fun f f1 f2 f3 f4 => ?_, fun f j f1 f2 f3 hi => ?_, fun j hi => ?_, fun f j f1 f2 hi => ?_⟩
  · rw [st_n (by omega)]; exact h1 f f1 f2 f3 f4
  · rw [st_n (by omega)]; exact h2 f j f1 f2 f3 hi
  · rw [st_n (by omega)]; exact h3 j hi
  · by_cases e : f = g
    · subst e; rw [st_e, upd_n (by omega)]; exact h4 f j f1 f2 hi
    · rw [st_n e]; exact h4 f j f1 f2 hi
def WR (L W : Nat) (c B E : Nat → Nat) (y0 : St) (w : Nat) (y : St) : Prop := y 17 0 = nI w ∧ w ≤ 2000 ∧ (∃ k : Nat, k ≤ W ∧ y 16 0 = nI k) ∧ TF L W c B E y ∧ Fr y0 y
def NW (L W : Nat) (c B E : Nat → Nat) (y0 : St) (k : Nat) (y : St) : Prop := y 17 0 = -1 ∧ y 16 0 = nI k ∧ k ≤ W ∧ TF L W c B E y ∧ Fr y0 y
theorem NW_next {L W k : Nat} {c B E : Nat → Nat} {y0 y : St} (h : NW L W c B E y0 k y) (hk : k < W) : NW L W c B E y0 (k + 1) (sc y 16 (nI (k + 1))) := by
  obtain ⟨h1, h2, h3, h4, h5⟩ := h
  exact ⟨h1, rfl, hk, h4, Fr_sc h5 (by omega)⟩
theorem WR_of {L W k : Nat} {c B E : Nat → Nat} {y0 y : St} (h : NW L W c B E y0 k y) (hW : W ≤ 2000) : WR L W c B E y0 k (sc y 17 (nI k)) := by
  obtain ⟨h1, h2, h3, h4, h5⟩ := h
  exact ⟨rfl, by omega, ⟨k, h3, h2⟩, h4, Fr_sc h5 (by omega)⟩
theorem WR_up {L W w g i : Nat} {c B E : Nat → Nat} {y0 y : St} {v : Int32} (h : WR L W c B E y0 w y) (g1 : 18 ≤ g) (g2 : g ≤ 26) (g3 : g ≠ 21) : WR L W c B E y0 w (st y g (upd (y g) (i + 20) v)) := by
  obtain ⟨h1, h2, ⟨k, h3, h4⟩, ⟨h5, h6, h7⟩, h8⟩ := h
  refine ⟨?_, h2, ⟨k, h3, ?_⟩, ⟨?_, fun i hi => ?_, fun i hi => ?_⟩, Fr_up h8 g1 g2 g3⟩
  · rw [st_n (by omega)]; exact h1
  · rw [st_n (by omega)]; exact h4
  · rw [st_n (by omega)]; exact h5
  · rw [st_n (by omega)]; exact h6 i hi
  · rw [st_n (by omega), st_n (by omega)]; exact h7 i hi
theorem n0m : ¬ (0 : Int32) ≤ -1 := by decide
theorem le0 {w : Nat} (h : w < 2 ^ 31) : (0 : Int32) ≤ nI w := (nI_leI (a := 0) (by omega) h).mpr (by omega)
section Ops
variable {F L W : Nat} {c B E : Nat → Nat} {y0 y : St}
theorem q_takeW {w : Nat} {v : Int32} (hF : 100000 ≤ F) (hT : TK L W c B E) (h : WR L W c B E y0 w y) : rT (m_MD_take_0 F y v) (fun y' => WR L W c B E y0 w y') := by
  have h0 := h
  obtain ⟨h1, h2, ⟨k, h3, h4⟩, h5, h6⟩ := h
  unfold m_MD_take_0
  refine rT_bn1 (q_letters hF hT h5 h3 h4) (fun r _ => rT_if (fun _ => rT_e2 (w_w h1 (by omega)) (rT_i0 (rT_some h0))) (fun _ => rT_e2 (w_w h1 (by omega)) (rT_i0 (rT_some h0))))
theorem q_takeN {w code k : Nat} (hF : 100000 ≤ F) (hT : TK L W c B E) (hw : Wl w code) (h : NW L W c B E y0 k y) : rT (m_MD_take_0 F y (nI code)) (fun y' => (isw L W c B E k w ∧ y' = sc y 16 (nI (k + 1))) ∨ (¬ isw L W c B E k w ∧ WR L W c B E y0 k y')) := by
  have h0 := h
  have hW : W ≤ 2000 := Nat.le_trans hT.2.1 hT.1
  obtain ⟨h1, h2, h3, h4, h5⟩ := h
  unfold m_MD_take_0
  refine rT_bn1 (q_letters hF hT h4 h3 h2) (fun r hr => rT_if (fun e => rT_e2 (w_1 h1) (rT_i1 (rT_lz (rT_some (Or.inl ⟨(hr w code hw).mp e, ?_⟩))))) (fun e => rT_e2 (w_0 h1 (by omega) h2) (rT_i0 (rT_some (Or.inr ⟨fun z => e ((hr w code hw).mpr z), WR_of h0 hW⟩)))))
  rw [h2, show (nI k + 1 : Int32) = nI (k + 1) from nI_add k 1]
theorem q_stopW {w : Nat} (hT : TK L W c B E) (h : WR L W c B E y0 w y) : rT (m_MD_takeStop F y) (fun y' => WR L W c B E y0 w y') := by
  have h0 := h
  obtain ⟨h1, h2, ⟨k, h3, h4⟩, h5, h6⟩ := h
  unfold m_MD_takeStop
  exact rT_bn1 (q_sign hT h5 h3 h4 ln3 ch3 (by decide)) (fun r _ => rT_e2 (w_w h1 (by omega)) (rT_i0 (rT_some h0)))
theorem q_stopN {k : Nat} (hT : TK L W c B E) (h : NW L W c B E y0 k y) : rT (m_MD_takeStop F y) (fun y' => (isw L W c B E k 3 ∧ y' = sc y 16 (nI (k + 1))) ∨ (¬ isw L W c B E k 3 ∧ WR L W c B E y0 k y')) := by
  have h0 := h
  have hW : W ≤ 2000 := Nat.le_trans hT.2.1 hT.1
  obtain ⟨h1, h2, h3, h4, h5⟩ := h
  unfold m_MD_takeStop
  refine bt (q_sign hT h4 h3 h2 ln3 ch3 (by decide)) (fun e => rT_e2 (w_0 h1 (by omega) h2) (rT_i0 (rT_some (Or.inr ⟨e, WR_of h0 hW⟩)))) (fun e => rT_e2 (w_1 h1) (rT_i1 (rT_lz (rT_some (Or.inl ⟨e, ?_⟩)))))
  rw [h2, show (nI k + 1 : Int32) = nI (k + 1) from nI_add k 1]
theorem q_lookW {w lo hi : Nat} (hF : 100000 ≤ F) (hT : TK L W c B E) (hlo : lo < 2 ^ 31) (hhi : hi < 2 ^ 31) (h : WR L W c B E y0 w y) : rT (m_MD_look F y (nI lo) (nI hi)) (fun o => WR L W c B E y0 w o.2) := by
  have h0 := h
  obtain ⟨h1, h2, ⟨k, h3, h4⟩, h5, h6⟩ := h
  exact q_look hF hT h5 h3 h4 hlo hhi (fun _ v => rT_e2 (w_w h1 (by omega)) (rT_i0 (rT_some h0))) (fun _ => rT_e2 (w_w h1 (by omega)) (rT_i0 (rT_some h0)))
theorem q_lookN {k lo hi : Nat} (hF : 100000 ≤ F) (hT : TK L W c B E) (hlo : lo < 2 ^ 31) (hhi : hi < 2 ^ 31) (h : NW L W c B E y0 k y) : rT (m_MD_look F y (nI lo) (nI hi)) (fun o => (vl L W c B E k lo hi ∧ o = (nI (nv c (B k) (E k - B k)), y)) ∨ (¬ vl L W c B E k lo hi ∧ WR L W c B E y0 k o.2)) := by
  have h0 := h
  have hW : W ≤ 2000 := Nat.le_trans hT.2.1 hT.1
  obtain ⟨h1, h2, h3, h4, h5⟩ := h
  exact q_look hF hT h4 h3 h2 hlo hhi (fun hn v => rT_e2 (w_0 h1 (by omega) h2) (rT_i0 (rT_some (Or.inr ⟨hn, WR_of h0 hW⟩)))) (fun hv => rT_e2 (w_1 h1) (rT_i1 (rT_some (Or.inl ⟨hv, rfl⟩))))
theorem q_numW {w lo hi : Nat} (hF : 100000 ≤ F) (hT : TK L W c B E) (hlo : lo < 2 ^ 31) (hhi : hi < 2 ^ 31) (h : WR L W c B E y0 w y) : rT (m_MD_takeNumber F y (nI lo) (nI hi)) (fun o => WR L W c B E y0 w o.2) := by
  unfold m_MD_takeNumber
  refine rT_bn2 (q_lookW hF hT hlo hhi h) (fun r z hz => ?_)
  have hz : WR L W c B E y0 w z := hz
  obtain ⟨h1, h2, ⟨k, h3, h4⟩, h5, h6⟩ := hz
  rw [h1]
  refine rT_ip (le0 (by omega)) (rT_lz (rT_some ⟨h1, h2, ⟨k, h3, ?_⟩, h5, Fr_sc h6 (by omega)⟩))
  show z 16 0 + 0 = nI k
  rw [Int32.add_zero]; exact h4
theorem q_numN {k lo hi : Nat} (hF : 100000 ≤ F) (hT : TK L W c B E) (hlo : lo < 2 ^ 31) (hhi : hi < 2 ^ 31) (h : NW L W c B E y0 k y) : rT (m_MD_takeNumber F y (nI lo) (nI hi)) (fun o => (vl L W c B E k lo hi ∧ o = (nI (nv c (B k) (E k - B k)), sc y 16 (nI (k + 1)))) ∨ (¬ vl L W c B E k lo hi ∧ WR L W c B E y0 k o.2)) := by
  unfold m_MD_takeNumber
  refine rT_bn2 (q_lookN hF hT hlo hhi h) (fun r z hz => ?_)
  rcases hz with ⟨hv, e⟩ | ⟨hv, hz⟩
  · obtain ⟨e1, e2⟩ := Prod.mk.inj e
    have e2 := e2.symm
    subst e1 e2
    obtain ⟨h1, h2, h3, h4, h5⟩ := h
    rw [h1, h2, show (nI k + 1 : Int32) = nI (k + 1) from nI_add k 1]
    exact rT_in n0m (rT_lz (rT_some (Or.inl ⟨hv, rfl⟩)))
  · have hz : WR L W c B E y0 k z := hz
    obtain ⟨h1, h2, ⟨k', h3, h4⟩, h5, h6⟩ := hz
    rw [h1]
    refine rT_ip (le0 (by omega)) (rT_lz (rT_some (Or.inr ⟨hv, h1, h2, ⟨k', h3, ?_⟩, h5, Fr_sc h6 (by omega)⟩)))
    show z 16 0 + 0 = nI k'
    rw [Int32.add_zero]; exact h4
end Ops
theorem p_zToldO {n o : Nat} {z y : St} (hZ : rZn n o z y) (F : Nat) (a : Int32) : rT (m_Zones_isTold F z a) (fun r => r = tf (∃ m : Nat, m < 20 ∧ a = nI m ∧ y 18 (m + o) = 1)) := by
  unfold m_Zones_isTold
  refine bz (p_withinN F a 19 (by omega)) (fun c => rT_some (tf_n (fun z => c ?_)).symm) (fun c => ?_)
  · obtain ⟨m, hm, e, _⟩ := z; exact ⟨m, by omega, e⟩
  obtain ⟨m, hm, rfl⟩ := c
  rw [nI_clamp (by omega)]
  rcases hZ m (by omega) with ⟨h1, h2, h3⟩ | ⟨h0, nd, sz, h1, h2, h3, h4, h5, h6, h7, h8⟩
  · rw [h2]
    refine rT_ck (vin (by omega)) (rT_ip (by decide) (rT_some (tf_n (fun z => ?_)).symm))
    obtain ⟨m', hm', e, ht⟩ := z
    have em : m = m' := (nI_eq (by omega) (by omega)).mp e
    subst em
    exact n10 (ht.symm.trans h1)
  · rw [h5]
    refine rT_ck (vin (by omega)) (rT_in (fun z => ?_) (rT_some (tf_p ⟨m, by omega, rfl, h0⟩).symm))
    have := (nI_leI (b := 0) (by omega) (by omega)).mp z
    omega
theorem p_aToldO {o : Nat} {y a : St} (hA : rAs o a y) (F : Nat) (v : Int32) : rT (m_Acts_isTold F a v) (fun r => r = tf (∃ m : Nat, m < 20 ∧ v = nI m ∧ y 22 (m + o) = 1)) := by
  unfold m_Acts_isTold
  refine bz (p_withinN F v 19 (by omega)) (fun c => rT_some (tf_n (fun z => c ?_)).symm) (fun c => ?_)
  · obtain ⟨m, hm, e, _⟩ := z; exact ⟨m, by omega, e⟩
  obtain ⟨m, hm, rfl⟩ := c
  rw [nI_clamp (by omega)]
  rcases hA m (by omega) with ⟨h1, h2⟩ | ⟨h0, h1, _⟩
  · rw [h2]
    refine rT_ck (vin (by omega)) (rT_ip rfl (rT_some (tf_n (fun z => ?_)).symm))
    obtain ⟨m', hm', e, ht⟩ := z
    have em : m = m' := (nI_eq (by omega) (by omega)).mp e
    subst em
    exact n10 (ht.symm.trans h1)
  · rw [h1]
    exact rT_ck (vin (by omega)) (rT_in n10 (rT_some (tf_p ⟨m, by omega, rfl, h0⟩).symm))
theorem p_toldAct {F L W k : Nat} {c B E : Nat → Nat} {x0 x1 z a t y : St} (hF : 100000 ≤ F) (hT : TK L W c B E) (hX : TX L c t) (hA : rAs 20 a y) (hk : k ≤ W) (h : wb E z k) : rT (m_Reader_stepToToldAct F x0 x1 z a t) (fun o => wa L W B E o.2 k ∧ ((vl L W c B E k 0 19 ∧ y 22 (nv c (B k) (E k - B k) + 20) = 1 ∧ o.1 = nI (nv c (B k) (E k - B k))) ∨ (¬ (vl L W c B E k 0 19 ∧ y 22 (nv c (B k) (E k - B k) + 20) = 1) ∧ o.1 = -1))) := by
  unfold m_Reader_stepToToldAct
  refine rT_bn1 (p_step hF hT hX hk h) (fun z' hz' => rT_bn1 (p_val (lo := 0) (hi := 19) hF hT hX (by omega) (by omega) hz') (fun r hr => ?_))
  rcases hr with ⟨hv, er⟩ | ⟨hv, er⟩
  · subst er
    have h19 := hv.2.2.2.2
    refine bz (p_aToldO hA F _) (fun e => rT_some ⟨hz', Or.inr ⟨fun q => e ⟨_, by omega, rfl, q.2⟩, rfl⟩⟩) (fun e => rT_some ⟨hz', Or.inl ⟨hv, ?_, rfl⟩⟩)
    obtain ⟨m, hm, em, ht⟩ := e
    have := (nI_eq (by omega) (by omega)).mp em
    rw [this]; exact ht
  · subst er
    refine bz (p_aToldO hA F _) (fun e => rT_some ⟨hz', Or.inr ⟨fun q => hv q.1, rfl⟩⟩) (fun e => ?_)
    obtain ⟨m, hm, em, ht⟩ := e
    exact absurd em.symm (m1eq (by omega))
theorem p_toldZone {F L W k n : Nat} {c B E : Nat → Nat} {x0 x1 z zn t y : St} (hF : 100000 ≤ F) (hT : TK L W c B E) (hX : TX L c t) (hA : rZn n 20 zn y) (hk : k ≤ W) (h : wb E z k) : rT (m_Reader_stepToToldZone F x0 x1 z zn t) (fun o => wa L W B E o.2 k ∧ ((vl L W c B E k 0 19 ∧ y 18 (nv c (B k) (E k - B k) + 20) = 1 ∧ o.1 = nI (nv c (B k) (E k - B k))) ∨ (¬ (vl L W c B E k 0 19 ∧ y 18 (nv c (B k) (E k - B k) + 20) = 1) ∧ o.1 = -1))) := by
  unfold m_Reader_stepToToldZone
  refine rT_bn1 (p_step hF hT hX hk h) (fun z' hz' => rT_bn1 (p_val (lo := 0) (hi := 19) hF hT hX (by omega) (by omega) hz') (fun r hr => ?_))
  rcases hr with ⟨hv, er⟩ | ⟨hv, er⟩
  · subst er
    have h19 := hv.2.2.2.2
    refine bz (p_zToldO hA F _) (fun e => rT_some ⟨hz', Or.inr ⟨fun q => e ⟨_, by omega, rfl, q.2⟩, rfl⟩⟩) (fun e => rT_some ⟨hz', Or.inl ⟨hv, ?_, rfl⟩⟩)
    obtain ⟨m, hm, em, ht⟩ := e
    have := (nI_eq (by omega) (by omega)).mp em
    rw [this]; exact ht
  · subst er
    refine bz (p_zToldO hA F _) (fun e => rT_some ⟨hz', Or.inr ⟨fun q => hv q.1, rfl⟩⟩) (fun e => ?_)
    obtain ⟨m, hm, em, ht⟩ := e
    exact absurd em.symm (m1eq (by omega))
theorem a20 (a : Nat) : ((20 : Int32) + nI a) = nI (a + 20) ∧ (nI a + (20 : Int32)) = nI (a + 20) := by
  refine ⟨?_, nI_add a 20⟩
  rw [Nat.add_comm]
  exact nI_add 20 a
theorem rd_hold {F L W k : Nat} {c B E : Nat → Nat} {x0 x1 z a t y0 y : St} (hF : 100000 ≤ F) (hT : TK L W c B E) (hX : TX L c t) (hA : rAs 20 a y) (hk : k < W) (hz : wa L W B E z k) (hN : NW L W c B E y0 (k + 1) y) : r2 (m_Reader_readHold F x0 x1 z a t) (m_MD_readHold F y) (fun o y' => (∃ w : Nat, o.1 = nI w ∧ WR L W c B E y0 w y') ∨ (o.1 = -1 ∧ (∃ m : Nat, k < m ∧ wb E o.2.1 m ∧ NW L W c B E y0 m y') ∧ (∀ f : Nat, f ≠ 16 → f ≠ 26 → y' f = y f) ∧ rAs 20 o.2.2 y' ∧ (∀ f : Nat, f ≠ 4 → o.2.2 f = a f) ∧ (∀ i : Nat, i < 20 → y 22 (i + 20) = 0 → o.2.2 4 i = a 4 i))) := by
  have hW : W ≤ 2000 := Nat.le_trans hT.2.1 hT.1
  have hwrJ : ∀ (r4 : Int32) (w : Nat) (t' : St), WR L W c B E y0 w t' → rT (m_MD_readHold_J61 F r4 t') (fun y' => WR L W c B E y0 w y') := by
    intro r4 w t' h
    unfold m_MD_readHold_J61
    refine rT_bn1 (q_stopW hT h) (fun z' hz' => ?_)
    have hz0 := hz'
    obtain ⟨h1, h2, _⟩ := hz'
    rw [h1]
    exact rT_ip (le0 (by omega)) (rT_some hz0)
  refine r2_l ?_
  unfold m_Reader_readHold
  refine rT_bn2 (p_toldAct hF hT hX hA (by omega) (wb_of hz hk)) (fun r1 z1 h1 => ?_)
  obtain ⟨hz1, h1⟩ := h1
  have hz1 : wa L W B E z1 (k + 1) := hz1
  have hnum : m_Words_number F z1 = some (nI (k + 1)) := congrArg some hz1.2.2
  have hbad : ∀ (o : Int32 × St), o = (nI (k + 1), z1) → True := fun _ _ => trivial
  have hq := q_lookN (F := F) (lo := 0) (hi := 19) hF hT (by omega) (by omega) hN
  rcases h1 with ⟨hv, ht, e1⟩ | ⟨hv, e1⟩
  · have e1 : r1 = nI (nv c (B (k + 1)) (E (k + 1) - B (k + 1))) := e1
    subst e1
    have h19 := hv.2.2.2.2
    have hkW : k + 1 < W := hv.1
    generalize hvv : nv c (B (k + 1)) (E (k + 1) - B (k + 1)) = v at *
    obtain ⟨f3, f4, f26, _⟩ : a 3 v = 1 ∧ a 4 v = y 26 (v + 20) ∧ (y 26 (v + 20) = 0 ∨ y 26 (v + 20) = 1) ∧ True := by
      rcases hA v (by omega) with ⟨h1, _⟩ | ⟨_, h2⟩
      · exact absurd (ht.symm.trans h1) n10
      · exact ⟨h2.1, h2.2.1, h2.2.2.1, trivial⟩
    have hheld : m_Acts_isHeld F a (nI v) = some (y 26 (v + 20)) := by
      refine rT_get ?_
      unfold m_Acts_isHeld
      rw [nI_clamp (by omega), f4]
      exact rT_ck (vin (by omega)) (rT_ckb f26 (rT_some rfl))
    refine rT_in (m1eq (by omega)) (rT_e1 hheld (rT_if (fun c0 => ?_) (fun c0 => rT_e1 hnum (rT_some ?_))))
    · -- not held
      refine rT_bn2 (p_stepTo (w := 3) hF (by rw [ln3]; omega) hT hX (by omega) (wb_of hz1 hkW)) (fun r2 z2 h2 => ?_)
      obtain ⟨e2, hz2⟩ := h2
      have e2 : r2 = tf (isw L W c B E (k + 1 + 1) 3) := e2
      have hz2 : wa L W B E z2 (k + 1 + 1) := hz2
      subst e2
      have href : ∀ (P : St → Prop), rT (m_MD_readHold_J61 F (nI v) (sc y 16 (nI (k + 1 + 1)))) P → rT (m_MD_readHold F y) P := by
        intro P hP
        unfold m_MD_readHold
        refine rT_bn2 hq (fun r4 z4 h4 => ?_)
        rcases h4 with ⟨_, e⟩ | ⟨hn, _⟩
        · obtain ⟨e1, e2⟩ := Prod.mk.inj e
          have e2 := e2.symm
          subst e1 e2
          rw [hN.1, (a20 v).1, nI_clamp (by omega)]
          refine rT_in n0m (rT_ck (vin (by omega)) (rT_in (by rw [ht]; exact n10) (rT_ck (vin (by omega)) (rT_ip c0 (rT_e2 (w_1 hN.1) (rT_i1 (rT_lz ?_)))))))
          rw [hN.2.1, show (nI (k + 1) + 1 : Int32) = nI (k + 1 + 1) from nI_add (k + 1) 1]
          exact hP
        · exact absurd hv hn
      have hN2 := NW_next hN hkW
      refine rT_if (fun c1 => rT_e1 (show m_Words_number F z2 = some (nI (k + 1 + 1)) from congrArg some hz2.2.2) (rT_some (href _ ?_))) (fun c1 => ?_)
      · have hno := tf_0.mp c1
        unfold m_MD_readHold_J61
        refine rT_bn1 (q_stopN hT hN2) (fun y3 h3 => ?_)
        rcases h3 with ⟨hy, _⟩ | ⟨_, h3⟩
        · exact absurd hy hno
        · have h30 := h3
          obtain ⟨h4, h5, _⟩ := h3
          rw [h4]
          exact rT_ip (le0 (by omega)) (rT_some (Or.inl ⟨_, rfl, h30⟩))
      · have hyes := tf_nz rfl c1
        have hk2 : k + 1 + 1 < W := isw_lt (by rw [ln3]; omega) hyes
        have hhold : m_Acts_hold F a (nI v) = some (st a 4 (upd (a 4) v 1)) := by
          refine rT_get ?_
          unfold m_Acts_hold
          rw [nI_clamp (by omega), vb1]
          exact rT_ck (vin (by omega)) (rT_lz (rT_some rfl))
        refine rT_e1 hhold (rT_some (href _ ?_))
        unfold m_MD_readHold_J61
        refine rT_bn1 (q_stopN hT hN2) (fun y3 h3 => ?_)
        rcases h3 with ⟨_, e3⟩ | ⟨hn, _⟩
        · have hN3 := NW_next hN2 hk2
          subst e3
          rw [hN3.1, (a20 v).1, nI_clamp (by omega), vb1]
          refine rT_in n0m (rT_ck (vin (by omega)) (rT_lz (rT_some (Or.inr ⟨rfl, ⟨k + 1 + 1 + 1, by omega, wb_of hz2 hk2, ?_⟩, ?_, ?_, ?_, ?_⟩))))
          · obtain ⟨g1, g2, g3, g4, g5⟩ := hN3
            exact ⟨g1, g2, g3, g4, Fr_up g5 (by omega) (by omega) (by omega)⟩
          · intro f h16 h26
            rw [st_n h26, sc_n h16, sc_n h16]
          · intro i hi
            show (y 22 (i + 20) = 0 ∧ a 3 i = 0) ∨ (y 22 (i + 20) = 1 ∧ a 3 i = 1 ∧ upd (a 4) v 1 i = upd (y 26) (v + 20) 1 (i + 20) ∧ (upd (y 26) (v + 20) 1 (i + 20) = 0 ∨ upd (y 26) (v + 20) 1 (i + 20) = 1) ∧ a 0 i = y 23 (i + 20) ∧ a 1 i = y 24 (i + 20) ∧ a 2 i = y 25 (i + 20))
            by_cases e : i = v
            · subst e
              rw [upd_e, upd_e]
              rcases hA i hi with h | ⟨g1, g2, g3, g4, g5⟩
              · exact Or.inl h
              · exact Or.inr ⟨g1, g2, rfl, Or.inr rfl, g5⟩
            · rw [upd_n e, upd_n (by omega)]
              exact hA i hi
          · intro f hf
            exact st_n hf
          · intro i hi hi0
            show upd (a 4) v 1 i = a 4 i
            refine upd_n (fun e => ?_)
            rw [e] at hi0
            exact n10 (ht.symm.trans hi0)
        · exact absurd hyes hn
    · -- held
      unfold m_MD_readHold
      refine rT_bn2 hq (fun r4 z4 h4 => ?_)
      rcases h4 with ⟨_, e⟩ | ⟨hn, _⟩
      · obtain ⟨e1, e2⟩ := Prod.mk.inj e
        have e2 := e2.symm
        subst e1 e2
        rw [hN.1, (a20 v).1, nI_clamp (by omega)]
        refine rT_in n0m (rT_ck (vin (by omega)) (rT_in (by rw [ht]; exact n10) (rT_ck (vin (by omega)) (rT_in c0 (rT_e2 (w_0 hN.1 (by omega) hN.2.1) (rT_i0 ?_))))))
        exact rT_mono (hwrJ _ _ _ (WR_of hN hW)) (fun y' h => Or.inl ⟨_, rfl, h⟩)
      · exact absurd hv hn
  · have e1 : r1 = -1 := e1
    subst e1
    refine rT_ip rfl (rT_e1 hnum (rT_some ?_))
    unfold m_MD_readHold
    refine rT_bn2 hq (fun r4 z4 h4 => ?_)
    rcases h4 with ⟨hv2, e⟩ | ⟨hn, h4⟩
    · obtain ⟨e1, e2⟩ := Prod.mk.inj e
      have e2 := e2.symm
      subst e1 e2
      have h19 := hv2.2.2.2.2
      have htn : ¬ y 22 (nv c (B (k + 1)) (E (k + 1) - B (k + 1)) + 20) = 1 := fun q => hv ⟨hv2, q⟩
      have ht0 : y 22 (nv c (B (k + 1)) (E (k + 1) - B (k + 1)) + 20) = 0 := by
        rcases hA _ (show nv c (B (k + 1)) (E (k + 1) - B (k + 1)) < 20 by omega) with ⟨h1, _⟩ | ⟨h1, _⟩
        · exact h1
        · exact absurd h1 htn
      rw [hN.1, (a20 _).1, nI_clamp (by omega)]
      refine rT_in n0m (rT_ck (vin (by omega)) (rT_ip ht0 (rT_e2 (w_0 hN.1 (by omega) hN.2.1) (rT_i0 ?_))))
      exact rT_mono (hwrJ _ _ _ (WR_of hN hW)) (fun y' h => Or.inl ⟨_, rfl, h⟩)
    · have h4 : WR L W c B E y0 (k + 1) z4 := h4
      have h40 := h4
      obtain ⟨g1, g2, _⟩ := h4
      rw [g1]
      exact rT_ip (le0 (by omega)) (rT_mono (hwrJ _ _ _ h40) (fun y' h => Or.inl ⟨_, rfl, h⟩))

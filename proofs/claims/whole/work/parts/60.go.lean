-- AN ACT GOES ON
def Fdy (y0 y : St) : Prop := ∀ f : Nat, f < 32 ∨ 39 < f → y f = y0 f
def Fa (a0 a : St) : Prop := ∀ f : Nat, f ≠ 7 → f ≠ 8 → f ≠ 9 → f ≠ 10 → a f = a0 f
theorem Lp_fd {n : Nat} {q : Nat → St} {y0 y : St} (h : rLp n q y0) (f : Fdy y0 y) : rLp n q y := by
  unfold rLp rL1 at h ⊢
  rw [f 6 (by omega), f 7 (by omega), f 8 (by omega), f 9 (by omega), f 10 (by omega)]
  exact h
theorem Cal_fd {y0 y : St} (f : Fdy y0 y) (s : Int32) (b : Nat) : Cal y s b = Cal y0 s b := by
  unfold Cal Calk Mt Sf On Su onN abN Ct Hd zp zs
  rw [f 2 (by omega), f 3 (by omega), f 4 (by omega), f 5 (by omega), f 6 (by omega), f 7 (by omega), f 10 (by omega), f 19 (by omega), f 20 (by omega), f 21 (by omega), f 27 (by omega), f 29 (by omega), f 30 (by omega), f 31 (by omega)]
theorem rw1_fd {n k : Nat} {y0 y : St} (h : rw1 n y0 k) (f : Fdy y0 y) : rw1 n y k := by
  unfold rw1 tz at h ⊢
  rw [f 20 (by omega), f 21 (by omega), f 29 (by omega), f 30 (by omega)]
  exact h
def Cx (n rr : Nat) (q : Nat → St) (y0 : St) : Prop := n ≤ 200 ∧ rLp n q y0 ∧ y0 27 0 = nI rr ∧ rr ≤ 50 ∧ ∀ k : Nat, k < rr → rw1 n y0 k
theorem q_called {F n rr b : Nat} {q : Nat → St} {y0 y : St} (hF : 100000 ≤ F) (h : Cx n rr q y0) (f : Fdy y0 y) (s : Int32) : rT (m_MD_isCalled F y (nI b) s) (fun r => r = tf (Cal y0 s b)) := by
  obtain ⟨hn, hL, h27, hrr, hr⟩ := h
  rw [← Cal_fd f s b]
  exact q_isCalled hF hn (Lp_fd hL f) (by rw [f 27 (by omega)]; exact h27) hrr (fun k hk => rw1_fd (hr k hk) f)
def rs4 (y : St) (b : Nat) : St := st (st (st (st y 32 (upd (y 32) b 0)) 33 (upd (y 33) b (-1))) 34 (upd (y 34) b 0)) 35 (upd (y 35) b 0)
theorem e_rests {F b : Nat} {y : St} (hb : b < 20) : m_MD_rests F y (nI b) = some (rs4 y b) := by
  refine rT_get ?_
  unfold m_MD_rests
  rw [nI_clamp (by omega), vb0]
  exact rT_ck (vin hb) (rT_lz (rT_ck (vin hb) (rT_lz (rT_ck (vin hb) (rT_lz (rT_ck (vin hb) (rT_lz (rT_some rfl))))))))
theorem lg1 {F b : Nat} {a : St} (hb : b < 20) (h7 : a 7 b = 2) (h4 : a 4 b = 0) : m_Acts_letGo F a (nI b) = some (0, st a 7 (upd (a 7) b 0)) := by
  refine rT_get ?_
  unfold m_Acts_letGo
  rw [nI_clamp (by omega)]
  exact rT_ck (vin hb) (rT_ip h7 (rT_ck (vin hb) (rT_ip h4 (rT_ck (vin hb) (rT_ip h7 (rT_ck (vin hb) (rT_lz (rT_some rfl))))))))
theorem lg2 {F b : Nat} {a : St} (hb : b < 20) (h7 : a 7 b = 2) (h4 : ¬ a 4 b = 0) : m_Acts_letGo F a (nI b) = some (-1, a) := by
  refine rT_get ?_
  unfold m_Acts_letGo
  rw [nI_clamp (by omega)]
  exact rT_ck (vin hb) (rT_ip h7 (rT_ck (vin hb) (rT_in h4 (rT_some rfl))))
theorem lg3 {F b : Nat} {a : St} (hb : b < 20) (h7 : ¬ a 7 b = 2) : m_Acts_letGo F a (nI b) = some (-1, st a 7 (upd (a 7) b 0)) := by
  refine rT_get ?_
  unfold m_Acts_letGo
  rw [nI_clamp (by omega)]
  exact rT_ck (vin hb) (rT_in h7 (rT_ck (vin hb) (rT_in h7 (rT_ck (vin hb) (rT_lz (rT_some rfl))))))
def due (a : St) (b : Nat) (now : Int32) : Prop := a 8 b + a 2 b ≤ now ∨ ¬ a 12 b = 0 ∨ ¬ a 10 b = 0
theorem p_isDue {F b : Nat} {a : St} {now : Int32} (hb : b < 20) : rT (m_Acts_isDue F a (nI b) now) (fun r => r = tf (due a b now)) := by
  unfold m_Acts_isDue
  rw [nI_clamp (by omega)]
  refine rT_ck (vin hb) (rT_ck (vin hb) (rT_if (fun c => rT_some (tf_p (Or.inl c)).symm) (fun c => rT_ck (vin hb) (rT_if (fun d => rT_ck (vin hb) (rT_if (fun e => rT_some (tf_n (fun z => ?_)).symm) (fun e => rT_some (tf_p (Or.inr (Or.inr e))).symm))) (fun d => rT_some (tf_p (Or.inr (Or.inl d))).symm)))))
  rcases z with z | z | z
  · exact c z
  · exact z d
  · exact z e
def bw (a : St) (b : Nat) (now : Int32) : St := st (st (st (st a 7 (upd (a 7) b 1)) 8 (upd (a 8) b now)) 9 (upd (a 9) b 0)) 10 (upd (a 10) b 0)
theorem e_begin {F b : Nat} {a : St} {now : Int32} (hb : b < 20) : m_Acts_beginToWait F a (nI b) now = some (bw a b now) := by
  refine rT_get ?_
  unfold m_Acts_beginToWait
  rw [nI_clamp (by omega), vb0]
  exact rT_ck (vin hb) (rT_lz (rT_ck (vin hb) (rT_lz (rT_ck (vin hb) (rT_lz (rT_ck (vin hb) (rT_lz (rT_some rfl))))))))
theorem n21 : ¬ (2 : Int32) = 1 := by decide
theorem n20 : ¬ (2 : Int32) = 0 := by decide
theorem n01 : ¬ (0 : Int32) = 1 := by decide
theorem n02 : ¬ (0 : Int32) = 2 := by decide
theorem n12 : ¬ (1 : Int32) = 2 := by decide
theorem hd2 {F b : Nat} {a : St} {now : Int32} (hb : b < 20) (h7 : a 7 b = 2) : m_Acts_heed F a (nI b) now = some (-1, a) := by
  refine rT_get ?_
  unfold m_Acts_heed
  rw [nI_clamp (by omega)]
  exact rT_ck (vin hb) (rT_in (by rw [h7]; exact n20) (rT_ck (vin hb) (rT_in (by rw [h7]; exact n21) (rT_some rfl))))
theorem hd1 {F b : Nat} {a : St} {now : Int32} (hb : b < 20) (h7 : a 7 b = 1) : (due a b now → m_Acts_heed F a (nI b) now = some (1, st a 7 (upd (a 7) b 2))) ∧ (¬ due a b now → m_Acts_heed F a (nI b) now = some (-1, a)) := by
  constructor
  · intro hd
    refine rT_get ?_
    unfold m_Acts_heed
    rw [nI_clamp (by omega)]
    exact rT_ck (vin hb) (rT_in (by rw [h7]; exact n10) (rT_ck (vin hb) (rT_ip h7 (bz (p_isDue hb) (fun c => absurd hd c) (fun c => rT_ck (vin hb) (rT_lz (rT_some rfl)))))))
  · intro hd
    refine rT_get ?_
    unfold m_Acts_heed
    rw [nI_clamp (by omega)]
    exact rT_ck (vin hb) (rT_in (by rw [h7]; exact n10) (rT_ck (vin hb) (rT_ip h7 (bz (p_isDue hb) (fun c => rT_some rfl) (fun c => absurd c hd)))))
theorem hd0 {F b : Nat} {a : St} {now : Int32} (hb : b < 20) (h7 : a 7 b = 0) : (due (bw a b now) b now → m_Acts_heed F a (nI b) now = some (1, st (bw a b now) 7 (upd ((bw a b now) 7) b 2))) ∧ (¬ due (bw a b now) b now → m_Acts_heed F a (nI b) now = some (-1, bw a b now)) := by
  have h71 : (bw a b now) 7 b = 1 := by show upd (a 7) b 1 b = 1; rw [upd_e]
  constructor
  · intro hd
    refine rT_get ?_
    unfold m_Acts_heed
    rw [nI_clamp (by omega)]
    exact rT_ck (vin hb) (rT_ip h7 (rT_e1 (e_begin hb) (rT_ck (vin hb) (rT_ip h71 (bz (p_isDue hb) (fun c => absurd hd c) (fun c => rT_ck (vin hb) (rT_lz (rT_some rfl))))))))
  · intro hd
    refine rT_get ?_
    unfold m_Acts_heed
    rw [nI_clamp (by omega)]
    exact rT_ck (vin hb) (rT_ip h7 (rT_e1 (e_begin hb) (rT_ck (vin hb) (rT_ip h71 (bz (p_isDue hb) (fun c => rT_some rfl) (fun c => absurd c hd))))))
theorem q_J111 {F n rr b : Nat} {q : Nat → St} {y0 t : St} (hF : 100000 ≤ F) (hcx : Cx n rr q y0) (hfd : Fdy y0 t) (hb : b < 20) : ((t 33 b + t 25 b ≤ t 2 0 ∨ Cal y0 1 b ∨ ¬ t 35 b = 0) → ∀ y' : St, m_MD_tell F (st (rs4 t b) 32 (upd ((rs4 t b) 32) b 2)) (nI b) 1 = some y' → m_MD_go_J111 F (nI b) t = some (1, y')) ∧ (¬ (t 33 b + t 25 b ≤ t 2 0 ∨ Cal y0 1 b ∨ ¬ t 35 b = 0) → m_MD_go_J111 F (nI b) t = some (0, t)) := by
  have hq := q_called (b := b) hF hcx hfd 1
  constructor
  · intro hd y' hy'
    have hdone : rT (bn1 (m_MD_rests F t (nI b)) (fun z0_153 => (ck (nI b) 20 (lz (st z0_153 32 (upd (z0_153 32) b (2 : Int32))) (fun e0_162 => (bn1 (m_MD_tell F e0_162 (nI b) (1 : Int32)) (fun z0_166 => (some ((1 : Int32), z0_166))))))))) (fun z => z = ((1 : Int32), y')) :=
      rT_e1 (e_rests hb) (rT_ck (vin hb) (rT_lz (rT_e1 hy' (rT_some rfl))))
    refine rT_get ?_
    unfold m_MD_go_J111
    rw [nI_clamp (by omega)]
    refine rT_ck (vin hb) (rT_ck (vin (by omega)) (rT_if (fun c => hdone) (fun c => rT_ck (vin hb) (rT_if (fun d => bz hq (fun e => absurd hd (fun z => z.elim c (fun z => z.elim e (fun z => z d)))) (fun e => hdone)) (fun d => hdone)))))
  · intro hd
    refine rT_get ?_
    unfold m_MD_go_J111
    rw [nI_clamp (by omega)]
    refine rT_ck (vin hb) (rT_ck (vin (by omega)) (rT_in (fun c => hd (Or.inl c)) (rT_ck (vin hb) (rT_if (fun d => bz hq (fun e => rT_some rfl) (fun e => absurd (Or.inr (Or.inl e)) hd)) (fun d => absurd (Or.inr (Or.inr d)) hd)))))
theorem Ad_up {a a' y y' : St} {b : Nat} (h : rAd a y) (hoth : ∀ i : Nat, i ≠ b → a' 7 i = a 7 i ∧ a' 8 i = a 8 i ∧ a' 9 i = a 9 i ∧ a' 10 i = a 10 i ∧ y' 32 i = y 32 i ∧ y' 33 i = y 33 i ∧ y' 34 i = y 34 i ∧ y' 35 i = y 35 i) (h22 : y' 22 = y 22) (told : y 22 b = 1) (hb : a' 7 b = y' 32 b ∧ ((y' 32 b = 1 ∧ a' 8 b = y' 33 b ∧ a' 9 b = y' 34 b ∧ a' 10 b = y' 35 b) ∨ ((y' 32 b = 0 ∨ y' 32 b = 2) ∧ y' 33 b = -1 ∧ y' 34 b = 0 ∧ y' 35 b = 0))) : rAd a' y' := by
  intro i hi
  rw [h22]
  by_cases e : i = b
  · subst e
    exact ⟨fun z => absurd (told.symm.trans z) n10, fun _ => hb⟩
  · obtain ⟨h1, h2, h3, h4, h5, h6, h7, h8⟩ := hoth i e
    rw [h1, h2, h3, h4, h5, h6, h7, h8]
    exact h i hi
-- one act, once it is known whether it is called
theorem st_go {F n rr b : Nat} {q : Nat → St} {y0 y a0 a e : St} {now : Int32} (hF : 100000 ≤ F) (hcx : Cx n rr q y0) (hfd : Fdy y0 y) (hfa : Fa a0 a) (hA : rAs 0 a0 y0) (hB : rAd a y) (hE : rEv e y) (hb : b < 20) (told : y0 22 b = 1) (hnow : y0 2 0 = now) (h11 : a0 11 b = tf (Cal y0 0 b)) (h12 : a0 12 b = tf (Cal y0 1 b)) :
    ∃ (d : Int32) (a' e' y' : St), m_MD_go F y (nI b) = some (d, y') ∧ Fdy y0 y' ∧ Fa a0 a' ∧ rAd a' y' ∧ rEv e' y' ∧ ((d = 0 ∧ e' = e ∧ ((a 11 b = 0 ∧ m_Acts_letGo F a (nI b) = some (-1, a')) ∨ (¬ a 11 b = 0 ∧ m_Acts_heed F a (nI b) now = some (-1, a')))) ∨ (d = 1 ∧ ∃ k : Int32, ¬ k = -1 ∧ m_Events_add F e now (nI b) k = some e' ∧ ((a 11 b = 0 ∧ m_Acts_letGo F a (nI b) = some (k, a')) ∨ (¬ a 11 b = 0 ∧ m_Acts_heed F a (nI b) now = some (k, a'))))) := by
  have ht : y 22 b = 1 := by rw [hfd 22 (by omega)]; exact told
  have hy2 : y 2 0 = now := by rw [hfd 2 (by omega)]; exact hnow
  have f11 : a 11 b = tf (Cal y0 0 b) := by rw [hfa 11 (by omega) (by omega) (by omega) (by omega)]; exact h11
  have f12 : a 12 b = tf (Cal y0 1 b) := by rw [hfa 12 (by omega) (by omega) (by omega) (by omega)]; exact h12
  obtain ⟨f4, f2⟩ : a 4 b = y 26 b ∧ a 2 b = y 25 b := by
    rw [hfa 4 (by omega) (by omega) (by omega) (by omega), hfa 2 (by omega) (by omega) (by omega) (by omega), hfd 26 (by omega), hfd 25 (by omega)]
    rcases hA b hb with ⟨h1, _⟩ | ⟨_, h2⟩
    · exact absurd (told.symm.trans h1) n10
    · exact ⟨h2.2.1, h2.2.2.2.2.2⟩
  obtain ⟨f7, hst⟩ := (hB b hb).2 ht
  have hq0 := q_called (b := b) hF hcx hfd 0
  by_cases hcal : Cal y0 0 b
  · have hn11 : ¬ a 11 b = 0 := by rw [f11, tf_p hcal]; exact n10
    rcases hst with ⟨s1, s2, s3, s4⟩ | ⟨s1, s2, s3, s4⟩
    · -- it waits
      have h71 : a 7 b = 1 := f7.trans s1
      have hgo : ∀ v : Int32 × St, m_MD_go_J111 F (nI b) y = some v → m_MD_go F y (nI b) = some v := by
        intro v hv
        refine rT_get ?_
        unfold m_MD_go
        rw [nI_clamp (by omega)]
        exact bz hq0 (fun z => absurd hcal z) (fun _ => rT_ck (vin hb) (rT_in (by rw [s1]; exact n12) (rT_ck (vin hb) (rT_in (by rw [s1]; exact n10) (rT_eq hv rfl)))))
      by_cases hd : due a b now
      · obtain ⟨e', y', t1, t2, t3, t4⟩ := q_tell (y := st (rs4 y b) 32 (upd ((rs4 y b) 32) b 2)) (e := e) hF hE (nI b) 1
        have t1 : m_Events_add F e now (nI b) 1 = some e' := by rw [← hy2]; exact t1
        have hdd : y 33 b + y 25 b ≤ y 2 0 ∨ Cal y0 1 b ∨ ¬ y 35 b = 0 := by
          unfold due at hd
          rw [s2, f2, f12, s4, ← hy2] at hd
          rcases hd with z | z | z
          · exact Or.inl z
          · exact Or.inr (Or.inl (tf_nz rfl z))
          · exact Or.inr (Or.inr z)
        refine ⟨1, st a 7 (upd (a 7) b 2), e', y', ?_, ?_, ?_, ?_, t3, Or.inr ⟨rfl, 1, by decide, t1, Or.inr ⟨hn11, (hd1 hb h71).1 hd⟩⟩⟩
        · exact hgo _ ((q_J111 hF hcx hfd hb).1 hdd y' t2)
        · intro f hf
          rw [t4 f (by omega), st_n (by omega)]
          unfold rs4
          rw [st_n (by omega), st_n (by omega), st_n (by omega), st_n (by omega)]
          exact hfd f hf
        · intro f g7 g8 g9 g10
          rw [st_n g7]; exact hfa f g7 g8 g9 g10
        · refine Ad_up (b := b) hB (fun i hi => ?_) ?_ ht ?_
          · rw [t4 32 (by omega), t4 33 (by omega), t4 34 (by omega), t4 35 (by omega)]
            show upd (a 7) b 2 i = a 7 i ∧ a 8 i = a 8 i ∧ a 9 i = a 9 i ∧ a 10 i = a 10 i ∧ upd (upd (y 32) b 0) b 2 i = y 32 i ∧ upd (y 33) b (-1) i = y 33 i ∧ upd (y 34) b 0 i = y 34 i ∧ upd (y 35) b 0 i = y 35 i
            rw [upd_n hi, upd_n hi, upd_n hi, upd_n hi, upd_n hi, upd_n hi]
            exact ⟨rfl, rfl, rfl, rfl, rfl, rfl, rfl, rfl⟩
          · rw [t4 22 (by omega)]; rfl
          · rw [t4 32 (by omega), t4 33 (by omega), t4 34 (by omega), t4 35 (by omega)]
            show upd (a 7) b 2 b = upd (upd (y 32) b 0) b 2 b ∧ ((upd (upd (y 32) b 0) b 2 b = 1 ∧ a 8 b = upd (y 33) b (-1) b ∧ a 9 b = upd (y 34) b 0 b ∧ a 10 b = upd (y 35) b 0 b) ∨ ((upd (upd (y 32) b 0) b 2 b = 0 ∨ upd (upd (y 32) b 0) b 2 b = 2) ∧ upd (y 33) b (-1) b = -1 ∧ upd (y 34) b 0 b = 0 ∧ upd (y 35) b 0 b = 0))
            rw [upd_e, upd_e, upd_e, upd_e, upd_e]
            exact ⟨rfl, Or.inr ⟨Or.inr rfl, rfl, rfl, rfl⟩⟩
      · have hdd : ¬ (y 33 b + y 25 b ≤ y 2 0 ∨ Cal y0 1 b ∨ ¬ y 35 b = 0) := by
          intro z
          refine hd ?_
          unfold due
          rw [s2, f2, f12, s4, ← hy2]
          rcases z with z | z | z
          · exact Or.inl z
          · exact Or.inr (Or.inl (by rw [tf_p z]; exact n10))
          · exact Or.inr (Or.inr z)
        exact ⟨0, a, e, y, by exact hgo _ ((q_J111 hF hcx hfd hb).2 hdd), hfd, hfa, hB, hE, Or.inl ⟨rfl, rfl, Or.inr ⟨hn11, (hd1 hb h71).2 hd⟩⟩⟩
    · rcases s1 with s1 | s1
      · -- it rests, and begins to wait
        have h70 : a 7 b = 0 := f7.trans s1
        have hgo : ∀ v : Int32 × St, m_MD_go_J111 F (nI b) (st (st y 32 (upd (y 32) b 1)) 33 (upd (y 33) b (y 2 0))) = some v → m_MD_go F y (nI b) = some v := by
          intro v hv
          refine rT_get ?_
          unfold m_MD_go
          rw [nI_clamp (by omega)]
          exact bz hq0 (fun z => absurd hcal z) (fun _ => rT_ck (vin hb) (rT_in (by rw [s1]; exact n02) (rT_ck (vin hb) (rT_ip s1 (rT_ck (vin hb) (rT_lz (rT_ck (vin hb) (rT_lz (rT_eq hv rfl)))))))))
        have hfd1 : Fdy y0 (st (st y 32 (upd (y 32) b 1)) 33 (upd (y 33) b (y 2 0))) := by
          intro f hf
          rw [st_n (by omega), st_n (by omega)]
          exact hfd f hf
        have hE1 : rEv e (st (st y 32 (upd (y 32) b 1)) 33 (upd (y 33) b (y 2 0))) := hE
        have eqd : due (bw a b now) b now ↔ ((st (st y 32 (upd (y 32) b 1)) 33 (upd (y 33) b (y 2 0))) 33 b + (st (st y 32 (upd (y 32) b 1)) 33 (upd (y 33) b (y 2 0))) 25 b ≤ (st (st y 32 (upd (y 32) b 1)) 33 (upd (y 33) b (y 2 0))) 2 0 ∨ Cal y0 1 b ∨ ¬ (st (st y 32 (upd (y 32) b 1)) 33 (upd (y 33) b (y 2 0))) 35 b = 0) := by
          show (upd (a 8) b now b + a 2 b ≤ now ∨ ¬ a 12 b = 0 ∨ ¬ upd (a 10) b 0 b = 0) ↔ (upd (y 33) b (y 2 0) b + y 25 b ≤ y 2 0 ∨ Cal y0 1 b ∨ ¬ y 35 b = 0)
          rw [upd_e, upd_e, upd_e, f2, f12, s4, hy2]
          constructor
          · rintro (z | z | z)
            · exact Or.inl z
            · exact Or.inr (Or.inl (tf_nz rfl z))
            · exact absurd rfl z
          · rintro (z | z | z)
            · exact Or.inl z
            · exact Or.inr (Or.inl (by rw [tf_p z]; exact n10))
            · exact absurd rfl z
        have hfa1 : Fa a0 (bw a b now) := by
          intro f g7 g8 g9 g10
          unfold bw
          rw [st_n g10, st_n g9, st_n g8, st_n g7]
          exact hfa f g7 g8 g9 g10
        by_cases hd : due (bw a b now) b now
        · obtain ⟨e', y', t1, t2, t3, t4⟩ := q_tell (y := st (rs4 (st (st y 32 (upd (y 32) b 1)) 33 (upd (y 33) b (y 2 0))) b) 32 (upd ((rs4 (st (st y 32 (upd (y 32) b 1)) 33 (upd (y 33) b (y 2 0))) b) 32) b 2)) (e := e) hF hE (nI b) 1
          have t1 : m_Events_add F e now (nI b) 1 = some e' := by rw [← hy2]; exact t1
          refine ⟨1, st (bw a b now) 7 (upd ((bw a b now) 7) b 2), e', y', ?_, ?_, ?_, ?_, t3, Or.inr ⟨rfl, 1, by decide, t1, Or.inr ⟨hn11, (hd0 hb h70).1 hd⟩⟩⟩
          · exact hgo _ ((q_J111 hF hcx hfd1 hb).1 (eqd.mp hd) y' t2)
          · intro f hf
            rw [t4 f (by omega), st_n (by omega)]
            unfold rs4
            rw [st_n (by omega), st_n (by omega), st_n (by omega), st_n (by omega)]
            exact hfd1 f hf
          · intro f g7 g8 g9 g10
            rw [st_n g7]; exact hfa1 f g7 g8 g9 g10
          · refine Ad_up (b := b) hB (fun i hi => ?_) ?_ ht ?_
            · rw [t4 32 (by omega), t4 33 (by omega), t4 34 (by omega), t4 35 (by omega)]
              show upd (upd (a 7) b 1) b 2 i = a 7 i ∧ upd (a 8) b now i = a 8 i ∧ upd (a 9) b 0 i = a 9 i ∧ upd (a 10) b 0 i = a 10 i ∧ upd (upd (upd (y 32) b 1) b 0) b 2 i = y 32 i ∧ upd (upd (y 33) b (y 2 0)) b (-1) i = y 33 i ∧ upd (y 34) b 0 i = y 34 i ∧ upd (y 35) b 0 i = y 35 i
              rw [upd_n hi, upd_n hi, upd_n hi, upd_n hi, upd_n hi, upd_n hi, upd_n hi, upd_n hi, upd_n hi, upd_n hi, upd_n hi, upd_n hi]
              exact ⟨rfl, rfl, rfl, rfl, rfl, rfl, rfl, rfl⟩
            · rw [t4 22 (by omega)]; rfl
            · rw [t4 32 (by omega), t4 33 (by omega), t4 34 (by omega), t4 35 (by omega)]
              show upd (upd (a 7) b 1) b 2 b = upd (upd (upd (y 32) b 1) b 0) b 2 b ∧ ((upd (upd (upd (y 32) b 1) b 0) b 2 b = 1 ∧ _ ∧ _ ∧ _) ∨ ((upd (upd (upd (y 32) b 1) b 0) b 2 b = 0 ∨ upd (upd (upd (y 32) b 1) b 0) b 2 b = 2) ∧ upd (upd (y 33) b (y 2 0)) b (-1) b = -1 ∧ upd (y 34) b 0 b = 0 ∧ upd (y 35) b 0 b = 0))
              rw [upd_e, upd_e, upd_e, upd_e, upd_e]
              exact ⟨rfl, Or.inr ⟨Or.inr rfl, rfl, rfl, rfl⟩⟩
        · refine ⟨0, bw a b now, e, _, by exact hgo _ ((q_J111 hF hcx hfd1 hb).2 (fun z => hd (eqd.mpr z))), hfd1, hfa1, ?_, hE1, Or.inl ⟨rfl, rfl, Or.inr ⟨hn11, (hd0 hb h70).2 hd⟩⟩⟩
          refine Ad_up (b := b) hB (fun i hi => ?_) rfl ht ?_
          · show upd (a 7) b 1 i = a 7 i ∧ upd (a 8) b now i = a 8 i ∧ upd (a 9) b 0 i = a 9 i ∧ upd (a 10) b 0 i = a 10 i ∧ upd (y 32) b 1 i = y 32 i ∧ upd (y 33) b (y 2 0) i = y 33 i ∧ y 34 i = y 34 i ∧ y 35 i = y 35 i
            rw [upd_n hi, upd_n hi, upd_n hi, upd_n hi, upd_n hi, upd_n hi]
            exact ⟨rfl, rfl, rfl, rfl, rfl, rfl, rfl, rfl⟩
          · show upd (a 7) b 1 b = upd (y 32) b 1 b ∧ ((upd (y 32) b 1 b = 1 ∧ upd (a 8) b now b = upd (y 33) b (y 2 0) b ∧ upd (a 9) b 0 b = y 34 b ∧ upd (a 10) b 0 b = y 35 b) ∨ _)
            rw [upd_e, upd_e, upd_e, upd_e, upd_e, upd_e, s3, s4, hy2]
            exact ⟨rfl, Or.inl ⟨rfl, rfl, rfl, rfl⟩⟩
      · -- it is done
        have h72 : a 7 b = 2 := f7.trans s1
        have hgo : m_MD_go F y (nI b) = some (0, y) := by
          refine rT_get ?_
          unfold m_MD_go
          rw [nI_clamp (by omega)]
          exact bz hq0 (fun z => absurd hcal z) (fun _ => rT_ck (vin hb) (rT_ip s1 (rT_some rfl)))
        exact ⟨0, a, e, y, hgo, hfd, hfa, hB, hE, Or.inl ⟨rfl, rfl, Or.inr ⟨hn11, hd2 hb h72⟩⟩⟩
  · have h11z : a 11 b = 0 := by rw [f11, tf_n hcal]
    have hgo0 : ∀ v : Int32 × St, rT (ck (nI b) 20 (if y 32 b = 2 then (ck (nI b) 40 (if y 26 b = (0 : Int32) then (if (1 : Int32) = (0 : Int32) then (m_MD_go_J44 F (nI b) (1 : Int32) y) else (bn1 (m_MD_tell F y (nI b) (0 : Int32)) (fun z0_41 => (m_MD_go_J44 F (nI b) (1 : Int32) z0_41)))) else (if (0 : Int32) = (0 : Int32) then (m_MD_go_J44 F (nI b) (0 : Int32) y) else (bn1 (m_MD_tell F y (nI b) (0 : Int32)) (fun z0_41 => (m_MD_go_J44 F (nI b) (0 : Int32) z0_41)))))) else (if (0 : Int32) = (0 : Int32) then (m_MD_go_J44 F (nI b) (0 : Int32) y) else (bn1 (m_MD_tell F y (nI b) (0 : Int32)) (fun z0_41 => (m_MD_go_J44 F (nI b) (0 : Int32) z0_41)))))) (fun z => z = v) → m_MD_go F y (nI b) = some v := by
      intro v hz
      refine rT_get ?_
      unfold m_MD_go
      rw [nI_clamp (by omega)]
      exact bz hq0 (fun _ => hz) (fun z => absurd z hcal)
    have hJ0 : ¬ y 32 b = 1 → m_MD_go_J44 F (nI b) 0 y = some (0, y) := by
      intro h1
      refine rT_get ?_
      unfold m_MD_go_J44
      rw [nI_clamp (by omega)]
      exact rT_i0 (rT_ck (vin hb) (rT_in h1 (rT_i0 (rT_some rfl))))
    rcases hst with ⟨s1, s2, s3, s4⟩ | ⟨s1, s2, s3, s4⟩
    · -- it waited, and rests
      have h71 : ¬ a 7 b = 2 := by rw [f7, s1]; exact n12
      refine ⟨0, st a 7 (upd (a 7) b 0), e, rs4 y b, hgo0 _ ?_, ?_, ?_, ?_, hE, Or.inl ⟨rfl, rfl, Or.inl ⟨h11z, lg3 hb h71⟩⟩⟩
      · refine rT_ck (vin hb) (rT_in (by rw [s1]; exact n12) (rT_i0 ?_))
        unfold m_MD_go_J44
        rw [nI_clamp (by omega)]
        exact rT_i0 (rT_ck (vin hb) (rT_ip s1 (rT_e1 (e_rests hb) (rT_i0 (rT_some rfl)))))
      · intro f hf
        unfold rs4
        rw [st_n (by omega), st_n (by omega), st_n (by omega), st_n (by omega)]
        exact hfd f hf
      · intro f g7 g8 g9 g10
        rw [st_n g7]; exact hfa f g7 g8 g9 g10
      · refine Ad_up (b := b) hB (fun i hi => ?_) rfl ht ?_
        · show upd (a 7) b 0 i = a 7 i ∧ a 8 i = a 8 i ∧ a 9 i = a 9 i ∧ a 10 i = a 10 i ∧ upd (y 32) b 0 i = y 32 i ∧ upd (y 33) b (-1) i = y 33 i ∧ upd (y 34) b 0 i = y 34 i ∧ upd (y 35) b 0 i = y 35 i
          rw [upd_n hi, upd_n hi, upd_n hi, upd_n hi, upd_n hi]
          exact ⟨rfl, rfl, rfl, rfl, rfl, rfl, rfl, rfl⟩
        · show upd (a 7) b 0 b = upd (y 32) b 0 b ∧ ((upd (y 32) b 0 b = 1 ∧ a 8 b = upd (y 33) b (-1) b ∧ a 9 b = upd (y 34) b 0 b ∧ a 10 b = upd (y 35) b 0 b) ∨ ((upd (y 32) b 0 b = 0 ∨ upd (y 32) b 0 b = 2) ∧ upd (y 33) b (-1) b = -1 ∧ upd (y 34) b 0 b = 0 ∧ upd (y 35) b 0 b = 0))
          rw [upd_e, upd_e, upd_e, upd_e, upd_e]
          exact ⟨rfl, Or.inr ⟨Or.inl rfl, rfl, rfl, rfl⟩⟩
    · rcases s1 with s1 | s1
      · -- it rested
        have h70 : ¬ a 7 b = 2 := by rw [f7, s1]; exact n02
        refine ⟨0, st a 7 (upd (a 7) b 0), e, y, hgo0 _ ?_, hfd, ?_, ?_, hE, Or.inl ⟨rfl, rfl, Or.inl ⟨h11z, lg3 hb h70⟩⟩⟩
        · exact rT_ck (vin hb) (rT_in (by rw [s1]; exact n02) (rT_i0 (rT_eq (hJ0 (by rw [s1]; exact n01)) rfl)))
        · intro f g7 g8 g9 g10
          rw [st_n g7]; exact hfa f g7 g8 g9 g10
        · refine Ad_up (b := b) hB (fun i hi => ?_) rfl ht ?_
          · show upd (a 7) b 0 i = a 7 i ∧ a 8 i = a 8 i ∧ a 9 i = a 9 i ∧ a 10 i = a 10 i ∧ y 32 i = y 32 i ∧ y 33 i = y 33 i ∧ y 34 i = y 34 i ∧ y 35 i = y 35 i
            rw [upd_n hi]
            exact ⟨rfl, rfl, rfl, rfl, rfl, rfl, rfl, rfl⟩
          · show upd (a 7) b 0 b = y 32 b ∧ _
            rw [upd_e, s1]
            exact ⟨rfl, Or.inr ⟨Or.inl rfl, s2, s3, s4⟩⟩
      · have h72 : a 7 b = 2 := f7.trans s1
        by_cases h26 : y 26 b = 0
        · -- it was done, and is over
          obtain ⟨e', y1, t1, t2, t3, t4⟩ := q_tell (y := y) (e := e) hF hE (nI b) 0
          have t1 : m_Events_add F e now (nI b) 0 = some e' := by rw [← hy2]; exact t1
          refine ⟨1, st a 7 (upd (a 7) b 0), e', rs4 y1 b, hgo0 _ ?_, ?_, ?_, ?_, t3, Or.inr ⟨rfl, 0, by decide, t1, Or.inl ⟨h11z, lg1 hb h72 (f4.trans h26)⟩⟩⟩
          · refine rT_ck (vin hb) (rT_ip s1 (rT_ck (vin (by omega)) (rT_ip h26 (rT_i1 (rT_e1 t2 ?_)))))
            unfold m_MD_go_J44
            exact rT_i1 (rT_e1 (e_rests hb) (rT_i1 (rT_some rfl)))
          · intro f hf
            unfold rs4
            rw [st_n (by omega), st_n (by omega), st_n (by omega), st_n (by omega), t4 f (by omega)]
            exact hfd f hf
          · intro f g7 g8 g9 g10
            rw [st_n g7]; exact hfa f g7 g8 g9 g10
          · refine Ad_up (b := b) hB (fun i hi => ?_) (t4 22 (by omega)) ht ?_
            · show upd (a 7) b 0 i = a 7 i ∧ a 8 i = a 8 i ∧ a 9 i = a 9 i ∧ a 10 i = a 10 i ∧ upd (y1 32) b 0 i = y 32 i ∧ upd (y1 33) b (-1) i = y 33 i ∧ upd (y1 34) b 0 i = y 34 i ∧ upd (y1 35) b 0 i = y 35 i
              rw [upd_n hi, upd_n hi, upd_n hi, upd_n hi, upd_n hi, t4 32 (by omega), t4 33 (by omega), t4 34 (by omega), t4 35 (by omega)]
              exact ⟨rfl, rfl, rfl, rfl, rfl, rfl, rfl, rfl⟩
            · show upd (a 7) b 0 b = upd (y1 32) b 0 b ∧ ((upd (y1 32) b 0 b = 1 ∧ a 8 b = upd (y1 33) b (-1) b ∧ a 9 b = upd (y1 34) b 0 b ∧ a 10 b = upd (y1 35) b 0 b) ∨ ((upd (y1 32) b 0 b = 0 ∨ upd (y1 32) b 0 b = 2) ∧ upd (y1 33) b (-1) b = -1 ∧ upd (y1 34) b 0 b = 0 ∧ upd (y1 35) b 0 b = 0))
              rw [upd_e, upd_e, upd_e, upd_e, upd_e]
              exact ⟨rfl, Or.inr ⟨Or.inl rfl, rfl, rfl, rfl⟩⟩
        · -- it is held
          refine ⟨0, a, e, y, hgo0 _ ?_, hfd, hfa, hB, hE, Or.inl ⟨rfl, rfl, Or.inl ⟨h11z, lg2 hb h72 (by rw [f4]; exact h26)⟩⟩⟩
          exact rT_ck (vin hb) (rT_ip s1 (rT_ck (vin (by omega)) (rT_in h26 (rT_i0 (rT_eq (hJ0 (by rw [s1]; exact n21)) rfl)))))

-- WORDS OF A TEXT
def kd (c : Nat) : Nat := if c = 32 ∨ c = 10 then 0 else if 97 ≤ c ∧ c ≤ 122 then 1 else if 48 ≤ c ∧ c ≤ 57 then 2 else 3
theorem kd_c : ∀ c : Nat, c < 128 → m_Words_kindOf 0 (nI c) = some (nI (kd c)) := by decide +kernel
theorem kd_r : ∀ c : Nat, c < 128 → m_MD_sort 0 (nI c) = some (nI (kd c)) := by decide +kernel
theorem kd_3 (c : Nat) : kd c ≤ 3 := by
  unfold kd
  split
  · omega
  · split
    · omega
    · split <;> omega
theorem kd_1 {c : Nat} (h : kd c = 1) : 97 ≤ c ∧ c ≤ 122 := by
  unfold kd at h
  split at h
  · omega
  · split at h
    · assumption
    · split at h <;> omega
theorem kd_2 {c : Nat} (h : kd c = 2) : 48 ≤ c ∧ c ≤ 57 := by
  unfold kd at h
  split at h
  · omega
  · split at h
    · omega
    · split at h
      · assumption
      · omega
theorem kd_l {c : Nat} (h : 97 ≤ c ∧ c ≤ 122) : kd c = 1 := by
  unfold kd
  rw [if_neg (by omega), if_pos h]
def Tk (L : Nat) (c : Nat → Nat) (b e : Nat) : Prop := b < e ∧ e ≤ L ∧ ¬ kd (c b) = 0 ∧ (kd (c b) = 3 → e = b + 1) ∧ (¬ kd (c b) = 3 → (∀ j : Nat, b ≤ j → j < e → kd (c j) = kd (c b)) ∧ (e = L ∨ ¬ kd (c e) = kd (c b)))
def pe (E : Nat → Nat) : Nat → Nat
  | 0 => 0
  | i + 1 => E i
def TK (L W : Nat) (c B E : Nat → Nat) : Prop := L ≤ 2000 ∧ W ≤ L ∧ (∀ i : Nat, i < L → c i ≤ 127) ∧ (∀ i : Nat, i < W → pe E i ≤ B i ∧ (∀ j : Nat, pe E i ≤ j → j < B i → kd (c j) = 0) ∧ Tk L c (B i) (E i)) ∧ pe E W ≤ L ∧ (∀ j : Nat, pe E W ≤ j → j < L → kd (c j) = 0)
def TX (L : Nat) (c : Nat → Nat) (t : St) : Prop := t 2 0 = nI L ∧ ∀ i : Nat, i < L → t 0 i = nI (c i)
def Bx (L W : Nat) (B : Nat → Nat) (k : Nat) : Nat := if k < W then B k else L
def wa (L W : Nat) (B E : Nat → Nat) (z : St) (k : Nat) : Prop := z 1 0 = nI (Bx L W B k) ∧ z 2 0 = nI (Bx L W E k) ∧ z 3 0 = nI k
def wb (E : Nat → Nat) (z : St) (k : Nat) : Prop := z 2 0 = nI (pe E k) ∧ z 3 0 + 1 = nI k
theorem wb_of {L W k : Nat} {B E : Nat → Nat} {z : St} (h : wa L W B E z k) (hk : k < W) : wb E z (k + 1) := by
  obtain ⟨h1, h2, h3⟩ := h
  refine ⟨?_, by rw [h3]; exact nI_add k 1⟩
  rw [h2]
  unfold Bx
  rw [if_pos hk]; rfl
theorem Bx_lt {L W k : Nat} {c B E : Nat → Nat} (hT : TK L W c B E) (hk : k < W) : Bx L W B k = B k ∧ Bx L W E k = E k ∧ B k < E k ∧ E k ≤ L := by
  obtain ⟨h1, h2, h3, h4, h5, h6⟩ := hT
  obtain ⟨g1, g2, g3⟩ := h4 k hk
  unfold Bx
  rw [if_pos hk, if_pos hk]
  exact ⟨rfl, rfl, g3.1, g3.2.1⟩
theorem Bx_le {L W k : Nat} {c B E : Nat → Nat} (hT : TK L W c B E) : Bx L W B k ≤ Bx L W E k ∧ Bx L W E k ≤ L := by
  by_cases hk : k < W
  · obtain ⟨h1, h2, h3, h4⟩ := Bx_lt hT hk
    rw [h1, h2]; omega
  · unfold Bx
    rw [if_neg hk, if_neg hk]; omega
theorem p_at {F L i : Nat} {c : Nat → Nat} {t : St} (hX : TX L c t) (hL : L ≤ 2000) (hi : i < L) (hc : c i ≤ 127) : m_Text_at F t (nI i) = some (nI (c i)) := by
  refine rT_get ?_
  unfold m_Text_at
  rw [nI_clamp (by omega), hX.2 i hi]
  refine rT_in (n0 (by omega)) (rT_in (fun z => by have := (nI_leI (a := 2000) (by omega) (by omega)).mp z; omega) (rT_ck (vin (by omega)) (rT_ckc ?_ (rT_some rfl))))
  rintro (z | z)
  · exact n0 (by omega) z
  · have := (nI_ltI (a := 65535) (by omega) (by omega)).mp z; omega
theorem p_step {F L W k : Nat} {c B E : Nat → Nat} {z t : St} (hF : 100000 ≤ F) (hT : TK L W c B E) (hX : TX L c t) (hk : k ≤ W) (h : wb E z k) : rT (m_Words_step F z t) (fun z' => wa L W B E z' k) := by
  have hT0 := hT
  obtain ⟨hL, hWL, hc, htok, hpe, hgap⟩ := hT
  obtain ⟨h2, h3⟩ := h
  have hB : pe E k ≤ Bx L W B k ∧ Bx L W B k ≤ L ∧ (∀ j : Nat, pe E k ≤ j → j < Bx L W B k → kd (c j) = 0) ∧ (Bx L W B k < L → ¬ kd (c (Bx L W B k)) = 0) := by
    unfold Bx
    by_cases hkW : k < W
    · rw [if_pos hkW]
      obtain ⟨g1, g2, g3⟩ := htok k hkW
      exact ⟨g1, by have := g3.1; have := g3.2.1; omega, g2, fun _ => g3.2.2.1⟩
    · have ek : k = W := by omega
      subst ek
      rw [if_neg hkW]
      exact ⟨hpe, Nat.le_refl _, hgap, fun z => by omega⟩
  obtain ⟨b1, b2, b3, b4⟩ := hB
  have hend : ∀ (q : Nat), q = Bx L W E k → wa L W B E (sc (sc (sc z 1 (nI (Bx L W B k))) 2 (nI q)) 3 (z 3 0 + 1)) k := by
    intro q hq
    subst hq
    exact ⟨rfl, rfl, h3⟩
  unfold m_Words_step
  refine rT_e1 (a := nI L) (show m_Text_size F t = some (nI L) from congrArg some hX.1) ?_
  rw [h2]
  refine rT_lq1 L (fun i v => v = nI i ∧ pe E k ≤ i ∧ i ≤ Bx L W B k) ?_ F (pe E k) _ (by omega) (by omega) ⟨rfl, Nat.le_refl _, b1⟩
  intro i r v hi hI hrec
  obtain ⟨ev, i1, i2⟩ := hI
  subst ev
  unfold m_Words_step_B13
  have hgo : i = Bx L W B k → rT (lz (sc z 1 (nI i)) (fun e0_40 => (if nI L ≤ nI i then (lz (sc e0_40 2 (nI i)) (fun e0_96 => (lz (sc e0_96 3 ((e0_96 3 0) + (1 : Int32))) (fun e0_106 => (some e0_106))))) else (bn1 (m_Text_at F t (nI i)) (fun r53 => (bn1 (m_Words_kindOf F r53) (fun r56 => (lq1 (m_Words_step_B63 F (nI L) r56 t (fun v2_63 => (lz (sc e0_40 2 v2_63) (fun e0_96 => (lz (sc e0_96 3 ((e0_96 3 0) + (1 : Int32))) (fun e0_106 => (some e0_106))))))) F (nI i + (1 : Int32)))))))))) (fun z' => wa L W B E z' k) := by
    intro e
    refine rT_lz ?_
    by_cases hiL : L ≤ i
    · refine rT_ip ((nI_leI (by omega) (by omega)).mpr hiL) (rT_lz (rT_lz (rT_some ?_)))
      have hkW : ¬ k < W := by
        intro q
        obtain ⟨u1, u2, u3, u4⟩ := Bx_lt hT0 q
        omega
      rw [e]
      refine hend _ ?_
      unfold Bx
      rw [if_neg hkW, if_neg hkW]
    · have hiL' : i < L := by omega
      have hkW : k < W := by
        rcases Nat.lt_or_ge k W with q | q
        · exact q
        · exfalso
          unfold Bx at e
          rw [if_neg (by omega)] at e
          omega
      obtain ⟨u1, u2, u3, u4⟩ := Bx_lt hT0 hkW
      have hci := hc i hiL'
      refine rT_in (fun q => hiL ((nI_leI (by omega) (by omega)).mp q)) (rT_e1 (p_at hX hL hiL' hci) (rT_e1 (show m_Words_kindOf F (nI (c i)) = some (nI (kd (c i))) from kd_c (c i) (by omega)) ?_))
      have hk3 := kd_3 (c i)
      obtain ⟨t1, t2, t3, t4, t5⟩ := (htok k hkW).2.2
      rw [← u1, ← e] at t3 t4 t5
      rw [show (nI i + 1 : Int32) = nI (i + 1) from nI_add i 1]
      refine rT_lq1 L (fun j v => v = nI j ∧ i < j ∧ j ≤ E k) ?_ F (i + 1) _ (by omega) (by omega) ⟨rfl, by omega, by omega⟩
      intro j r v hj hI hrec
      obtain ⟨ev, j1, j2⟩ := hI
      subst ev
      unfold m_Words_step_B63
      have hfin : j = E k → rT (lz (sc (sc z 1 (nI i)) 2 (nI j)) (fun e0_96 => (lz (sc e0_96 3 ((e0_96 3 0) + (1 : Int32))) (fun e0_106 => (some e0_106))))) (fun z' => wa L W B E z' k) := by
        intro ej
        refine rT_lz (rT_lz (rT_some ?_))
        rw [e]
        exact hend j (by rw [u2]; exact ej)
      refine rT_if (fun g => hfin ?_) (fun g => rT_if (fun g1 => hfin ?_) (fun g1 => ?_))
      · have := (nI_leI (by omega) (by omega)).mp g; omega
      · have := (nI_eq (b := 3) (by omega) (by omega)).mp g1
        have := t4 this; omega
      have hjL : j < L := Nat.lt_of_not_le (fun q => g ((nI_leI (by omega) (by omega)).mpr q))
      have h3' : ¬ kd (c i) = 3 := fun q => g1 (by rw [q]; rfl)
      obtain ⟨t6, t7⟩ := t5 h3'
      have hkj := kd_3 (c j)
      refine rT_e1 (p_at hX hL hjL (hc j hjL)) (rT_e1 (show m_Words_kindOf F (nI (c j)) = some (nI (kd (c j))) from kd_c (c j) (by have := hc j hjL; omega)) (rT_if (fun g2 => ?_) (fun g2 => hfin ?_)))
      · have e2 := (nI_eq (by omega) (by omega)).mp g2
        refine hrec _ hjL ⟨nI_add j 1, by omega, ?_⟩
        rcases Nat.lt_or_ge j (E k) with q | q
        · omega
        · exfalso
          have ej : j = E k := by omega
          rcases t7 with t7 | t7
          · omega
          · rw [← ej] at t7; exact t7 e2
      · rcases Nat.lt_or_ge j (E k) with q | q
        · exact absurd (by rw [t6 j (by omega) q]) g2
        · omega
  refine rT_if (fun g => hgo ?_) (fun g => ?_)
  · have := (nI_leI (by omega) (by omega)).mp g; omega
  have hiL : i < L := Nat.lt_of_not_le (fun q => g ((nI_leI (by omega) (by omega)).mpr q))
  have hk3 := kd_3 (c i)
  refine rT_e1 (p_at hX hL hiL (hc i hiL)) (rT_e1 (show m_Words_kindOf F (nI (c i)) = some (nI (kd (c i))) from kd_c (c i) (by have := hc i hiL; omega)) (rT_if (fun g1 => ?_) (fun g1 => hgo ?_)))
  · have e1 := (nI_eq (b := 0) (by omega) (by omega)).mp g1
    refine hrec _ hiL ⟨nI_add i 1, by omega, ?_⟩
    rcases Nat.lt_or_ge i (Bx L W B k) with q | q
    · omega
    · exfalso
      have ei : i = Bx L W B k := by omega
      rw [ei] at e1 hiL
      exact b4 hiL e1
  · rcases Nat.lt_or_ge i (Bx L W B k) with q | q
    · exact absurd (by rw [b3 i i1 q]; rfl) g1
    · omega
def isw (L W : Nat) (c B E : Nat → Nat) (k w : Nat) : Prop := Bx L W E k - Bx L W B k = lnS w ∧ ∀ j : Nat, j < lnS w → nI (c (Bx L W B k + j)) = chS w j
theorem p_is {F L W k w : Nat} {c B E : Nat → Nat} {z t : St} (hF : 100000 ≤ F) (hw : lnS w ≤ 5) (hT : TK L W c B E) (hX : TX L c t) (h : wa L W B E z k) : rT (m_Words_is F z t w) (fun r => r = tf (isw L W c B E k w)) := by
  have hle := Bx_le (k := k) hT
  obtain ⟨hL, hWL, hc, htok, hpe, hgap⟩ := hT
  obtain ⟨h1, h2, h3⟩ := h
  unfold m_Words_is
  rw [h1, h2, pk_sub hle.1]
  refine rT_if (fun g => ?_) (fun g => rT_some (tf_n (fun z => g (by rw [z.1]))).symm)
  have hlen := (nI_eq (by omega) (by omega)).mp g
  refine rT_lq1 (lnS w) (fun i v => v = nI i ∧ ∀ j : Nat, j < i → nI (c (Bx L W B k + j)) = chS w j) ?_ F 0 0 (by omega) (by omega) ⟨rfl, fun j hj => by omega⟩
  intro i r v hi hI hrec
  obtain ⟨ev, hI⟩ := hI
  subst ev
  unfold m_Words_is_B20
  rw [h1]
  refine rT_if (fun g1 => ?_) (fun g1 => ?_)
  · have := (nI_leI (by omega) (by omega)).mp g1
    exact rT_some (tf_p ⟨hlen, by rw [show lnS w = i by omega]; exact hI⟩).symm
  have hi' : i < lnS w := Nat.lt_of_not_le (fun q => g1 ((nI_leI (by omega) (by omega)).mpr q))
  rw [nI_add, nI_clamp (by omega)]
  have hiL : Bx L W B k + i < L := by omega
  refine rT_e1 (p_at hX hL hiL (hc _ hiL)) (rT_ck (vin hi') (rT_if (fun g2 => hrec _ hi' ⟨nI_add i 1, fun j hj => ?_⟩) (fun g2 => rT_some (tf_n (fun z => g2 (z.2 i hi'))).symm)))
  by_cases e : j = i
  · subst e; exact g2
  · exact hI j (by omega)
theorem p_stepTo {F L W k w : Nat} {c B E : Nat → Nat} {z t : St} (hF : 100000 ≤ F) (hw : lnS w ≤ 5) (hT : TK L W c B E) (hX : TX L c t) (hk : k ≤ W) (h : wb E z k) : rT (m_Words_stepTo F z t w) (fun o => o.1 = tf (isw L W c B E k w) ∧ wa L W B E o.2 k) := by
  unfold m_Words_stepTo
  refine rT_bn1 (p_step hF hT hX hk h) (fun z' hz' => rT_bn1 (p_is hF hw hT hX hz') (fun r er => ?_))
  subst er
  exact rT_ckb (tf_b _) (rT_some ⟨rfl, hz'⟩)
theorem isw_lt {L W k w : Nat} {c B E : Nat → Nat} (hw : 0 < lnS w) (h : isw L W c B E k w) : k < W := by
  rcases Nat.lt_or_ge k W with q | q
  · exact q
  · exfalso
    have := h.1
    unfold Bx at this
    rw [if_neg (by omega), if_neg (by omega)] at this
    omega
def nv (c : Nat → Nat) (b : Nat) : Nat → Nat
  | 0 => 0
  | n + 1 => nv c b n * 10 + (c (b + n) - 48)
theorem nv_lt {c : Nat → Nat} {b : Nat} : ∀ n : Nat, (∀ j : Nat, j < n → 48 ≤ c (b + j) ∧ c (b + j) ≤ 57) → nv c b n < 10 ^ n := by
  intro n
  induction n with
  | zero => intro _; exact Nat.one_pos
  | succ n ih =>
    intro h
    have h1 := ih (fun j hj => h j (by omega))
    have h2 := h n (by omega)
    show nv c b n * 10 + (c (b + n) - 48) < 10 ^ (n + 1)
    rw [Nat.pow_succ]
    omega
def vl (L W : Nat) (c B E : Nat → Nat) (k lo hi : Nat) : Prop := k < W ∧ kd (c (B k)) = 2 ∧ E k - B k ≤ 6 ∧ lo ≤ nv c (B k) (E k - B k) ∧ nv c (B k) (E k - B k) ≤ hi
theorem tok_2 {L W k : Nat} {c B E : Nat → Nat} (hT : TK L W c B E) (hk : k < W) (h2 : kd (c (B k)) = 2) : ∀ j : Nat, j < E k - B k → 48 ≤ c (B k + j) ∧ c (B k + j) ≤ 57 := by
  intro j hj
  obtain ⟨t1, t2, t3, t4, t5⟩ := (hT.2.2.2.1 k hk).2.2
  have := (t5 (by omega)).1 (B k + j) (by omega) (by omega)
  exact kd_2 (this.trans h2)
theorem nv_6 {L W k : Nat} {c B E : Nat → Nat} (hT : TK L W c B E) (hk : k < W) (h2 : kd (c (B k)) = 2) {n : Nat} (hn : n ≤ E k - B k) (h6 : E k - B k ≤ 6) : nv c (B k) n < 1000000 := by
  have h := nv_lt (c := c) (b := B k) n (fun j hj => tok_2 hT hk h2 j (by omega))
  have h3 : 10 ^ n ≤ 10 ^ 6 := Nat.pow_le_pow_right (by omega) (by omega)
  omega
theorem p_val {F L W k lo hi : Nat} {c B E : Nat → Nat} {z t : St} (hF : 100000 ≤ F) (hT : TK L W c B E) (hX : TX L c t) (hlo : lo < 2 ^ 31) (hhi : hi < 2 ^ 31) (h : wa L W B E z k) : rT (m_Words_valueWithin F z t (nI lo) (nI hi)) (fun r => (vl L W c B E k lo hi ∧ r = nI (nv c (B k) (E k - B k))) ∨ (¬ vl L W c B E k lo hi ∧ r = -1)) := by
  have hT0 := hT
  have hle := Bx_le (k := k) hT
  obtain ⟨hL, hWL, hc, htok, hpe, hgap⟩ := hT
  obtain ⟨h1, h2, h3⟩ := h
  unfold m_Words_valueWithin
  rw [h1, h2, pk_sub hle.1]
  refine rT_if (fun g => rT_some (Or.inr ⟨fun q => ?_, rfl⟩)) (fun g => ?_)
  · have := (nI_ltI (b := 1) (by omega) (by omega)).mp g
    obtain ⟨u1, u2, u3, u4⟩ := Bx_lt hT0 q.1
    omega
  have hkW : k < W := by
    rcases Nat.lt_or_ge k W with q | q
    · exact q
    · exfalso
      apply g
      refine (nI_ltI (b := 1) (by omega) (by omega)).mpr ?_
      unfold Bx
      rw [if_neg (by omega), if_neg (by omega)]; omega
  obtain ⟨u1, u2, u3, u4⟩ := Bx_lt hT0 hkW
  rw [u1] at h1
  rw [u2] at h2
  rw [u1, u2]
  have hcb := hc (B k) (by omega)
  have hk3 := kd_3 (c (B k))
  refine rT_if (fun g1 => rT_some (Or.inr ⟨fun q => ?_, rfl⟩)) (fun g1 => ?_)
  · have := (nI_ltI (a := 6) (by omega) (by omega)).mp g1
    have := q.2.2.1
    omega
  have h6 : E k - B k ≤ 6 := Nat.le_of_not_lt (fun q => g1 ((nI_ltI (a := 6) (by omega) (by omega)).mpr q))
  refine rT_e1 (p_at hX hL (by omega) hcb) (rT_e1 (show m_Words_kindOf F (nI (c (B k))) = some (nI (kd (c (B k)))) from kd_c _ (by omega)) (rT_if (fun g2 => ?_) (fun g2 => rT_some (Or.inr ⟨fun q => g2 (by rw [q.2.1]; rfl), rfl⟩))))
  have hk2 := (nI_eq (b := 2) (by omega) (by omega)).mp g2
  refine rT_lq2 (E k - B k) (fun i v4 v5 => v5 = nI (B k + i) ∧ v4 = nI (nv c (B k) i)) ?_ F 0 0 _ (by omega) (by omega) ⟨rfl, rfl⟩
  intro i r v4 v5 hi' hI hrec
  obtain ⟨e5, e4⟩ := hI
  subst e5 e4
  unfold m_Words_valueWithin_B50
  rw [h2]
  have hn6 := nv_6 hT0 hkW hk2 hi' h6
  refine rT_if (fun g3 => ?_) (fun g3 => ?_)
  · have := (nI_leI (by omega) (by omega)).mp g3
    have ei : i = E k - B k := by omega
    refine rT_bn1 (p_within F _ (nI lo) (nI hi)) (fun r1 er => ?_)
    subst er
    refine rT_if (fun g4 => rT_some (Or.inr ⟨fun q => ?_, rfl⟩)) (fun g4 => rT_some (Or.inl ⟨⟨hkW, hk2, h6, ?_, ?_⟩, by rw [ei]⟩))
    · refine tf_0.mp g4 ⟨fun p => ?_, fun p => ?_⟩
      · have := (nI_ltI (by omega) hlo).mp p
        have := q.2.2.2.1
        rw [ei] at *; omega
      · have := (nI_ltI hhi (by omega)).mp p
        have := q.2.2.2.2
        rw [ei] at *; omega
    · have := (tf_nz rfl g4).1
      rw [← ei]
      exact Nat.le_of_not_lt (fun q => this ((nI_ltI (by omega) hlo).mpr q))
    · have := (tf_nz rfl g4).2
      rw [← ei]
      exact Nat.le_of_not_lt (fun q => this ((nI_ltI hhi (by omega)).mpr q))
  have hi2 : i < E k - B k := by
    rcases Nat.lt_or_ge i (E k - B k) with q | q
    · exact q
    · exact absurd ((nI_leI (by omega) (by omega)).mpr (by omega)) g3
  have hd := tok_2 hT0 hkW hk2 i hi2
  refine rT_e1 (p_at hX hL (by omega) (hc _ (by omega))) (hrec _ _ hi2 ⟨nI_add (B k + i) 1, ?_⟩)
  rw [show (10 : Int32) = nI 10 from rfl, pk_mul, show (48 : Int32) = nI 48 from rfl, pk_sub hd.1, nI_add]
  rfl
theorem p_stepVal {F L W k lo hi : Nat} {c B E : Nat → Nat} {z t : St} (hF : 100000 ≤ F) (hT : TK L W c B E) (hX : TX L c t) (hlo : lo < 2 ^ 31) (hhi : hi < 2 ^ 31) (hk : k ≤ W) (h : wb E z k) : rT (m_Words_stepToValue F z t (nI lo) (nI hi)) (fun o => wa L W B E o.2 k ∧ ((vl L W c B E k lo hi ∧ o.1 = nI (nv c (B k) (E k - B k))) ∨ (¬ vl L W c B E k lo hi ∧ o.1 = -1))) := by
  unfold m_Words_stepToValue
  refine rT_bn1 (p_step hF hT hX hk h) (fun z' hz' => rT_bn1 (p_val hF hT hX hlo hhi hz') (fun r er => rT_some ⟨hz', er⟩))

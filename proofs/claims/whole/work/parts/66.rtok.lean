-- THE REFERENCE READS WORDS
def TF (L W : Nat) (c B E : Nat → Nat) (y : St) : Prop := y 13 0 = nI W ∧ (∀ i : Nat, i < L → y 11 i = nI (c i)) ∧ ∀ i : Nat, i < W → y 14 i = nI (B i) ∧ y 15 i = nI (E i)
def lw (c : Nat → Nat) : Nat → Nat → Nat
  | 0, _ => 0
  | n + 1, b => 32 * lw c n (b + 1) + (c b - 96)
theorem lw_lt {c : Nat → Nat} : ∀ (n b : Nat), (∀ j : Nat, j < n → 97 ≤ c (b + j) ∧ c (b + j) ≤ 122) → lw c n b < 32 ^ n := by
  intro n
  induction n with
  | zero => intro b _; exact Nat.one_pos
  | succ n ih =>
    intro b h
    have h1 := ih (b + 1) (fun j hj => by have := h (j + 1) (by omega); rw [show b + 1 + j = b + (j + 1) by omega]; exact this)
    have h2 : 97 ≤ c b ∧ c b ≤ 122 := h 0 (by omega)
    show 32 * lw c n (b + 1) + (c b - 96) < 32 ^ (n + 1)
    rw [Nat.pow_succ]
    omega
theorem lw_A {c : Nat → Nat} : ∀ (n b code : Nat), (∀ j : Nat, j < n → 97 ≤ c (b + j) ∧ c (b + j) ≤ 122) → (lw c n b = code ↔ (∀ j : Nat, j < n → c (b + j) = 96 + code / 32 ^ j % 32) ∧ code / 32 ^ n = 0) := by
  intro n
  induction n with
  | zero =>
    intro b code _
    rw [Nat.pow_zero, Nat.div_one]
    show 0 = code ↔ _
    exact ⟨fun e => ⟨fun j hj => by omega, e.symm⟩, fun e => e.2.symm⟩
  | succ n ih =>
    intro b code h
    have h2 : 97 ≤ c b ∧ c b ≤ 122 := h 0 (by omega)
    have h1 := ih (b + 1) (code / 32) (fun j hj => by have := h (j + 1) (by omega); rw [show b + 1 + j = b + (j + 1) by omega]; exact this)
    show 32 * lw c n (b + 1) + (c b - 96) = code ↔ _
    constructor
    · intro e
      have e1 : lw c n (b + 1) = code / 32 := by omega
      obtain ⟨g1, g2⟩ := h1.mp e1
      refine ⟨fun j hj => ?_, ?_⟩
      · rcases Nat.eq_zero_or_pos j with q | q
        · subst q
          rw [Nat.pow_zero, Nat.div_one]
          show c b = _
          omega
        · obtain ⟨i, rfl⟩ : ∃ i, j = i + 1 := ⟨j - 1, by omega⟩
          have := g1 i (by omega)
          rw [show b + (i + 1) = b + 1 + i by omega, this, Nat.div_div_eq_div_mul, Nat.pow_succ, Nat.mul_comm 32]
      · rw [Nat.pow_succ, Nat.mul_comm, ← Nat.div_div_eq_div_mul]; exact g2
    · rintro ⟨g1, g2⟩
      have e0 : c b = 96 + code % 32 := by
        have := g1 0 (by omega)
        rw [Nat.pow_zero, Nat.div_one] at this
        exact this
      have e1 : lw c n (b + 1) = code / 32 := by
        refine h1.mpr ⟨fun j hj => ?_, ?_⟩
        · have := g1 (j + 1) (by omega)
          rw [show b + (j + 1) = b + 1 + j by omega, Nat.pow_succ, Nat.mul_comm, ← Nat.div_div_eq_div_mul] at this
          exact this
        · rw [Nat.pow_succ, Nat.mul_comm, ← Nat.div_div_eq_div_mul] at g2; exact g2
      omega
abbrev Wl (w code : Nat) : Prop := Wd w code ∧ 0 < lnS w ∧ code < 2 ^ 31 ∧ ∀ j : Nat, j < lnS w → 1 ≤ code / 32 ^ j % 32 ∧ code / 32 ^ j % 32 ≤ 26
theorem v0 : Wl 0 178682 := by decide +kernel
theorem v1 : Wl 1 20059310 := by decide +kernel
theorem v2 : Wl 2 207 := by decide +kernel
theorem v4 : Wl 4 20577 := by decide +kernel
theorem v5 : Wl 5 145707 := by decide +kernel
theorem v6 : Wl 6 374834 := by decide +kernel
theorem v7 : Wl 7 26259620 := by decide +kernel
theorem v8 : Wl 8 464151 := by decide +kernel
theorem v10 : Wl 10 628196 := by decide +kernel
theorem v11 : Wl 11 143848 := by decide +kernel
theorem ln3 : lnS 3 = 1 := by decide +kernel
theorem ch3 : chS 3 0 = nI 59 := by decide +kernel
theorem ln9 : lnS 9 = 1 := by decide +kernel
theorem ch9 : chS 9 0 = nI 38 := by decide +kernel
theorem q_letters {F L W k : Nat} {c B E : Nat → Nat} {y : St} (hF : 100000 ≤ F) (hT : TK L W c B E) (hY : TF L W c B E y) (hk : k ≤ W) (h16 : y 16 0 = nI k) : rT (m_MD_letters F y) (fun r => ∀ w code : Nat, Wl w code → (r = nI code ↔ isw L W c B E k w)) := by
  have hT0 := hT
  obtain ⟨hL, hWL, hc, htok, hpe, hgap⟩ := hT
  obtain ⟨h13, h11, h14⟩ := hY
  have hneg : (∀ w code : Nat, Wl w code → ¬ isw L W c B E k w) → ∀ w code : Nat, Wl w code → ((-1 : Int32) = nI code ↔ isw L W c B E k w) := fun h w code hw => ⟨fun e => absurd e.symm (m1eq hw.2.2.1), fun z => absurd z (h w code hw)⟩
  unfold m_MD_letters
  rw [h13, h16]
  refine rT_if (fun g => rT_some (hneg (fun w code hw z => ?_))) (fun g => ?_)
  · have := (nI_leI (by omega) (by omega)).mp g
    have := isw_lt hw.2.1 z
    omega
  have hkW : k < W := Nat.lt_of_not_le (fun q => g ((nI_leI (by omega) (by omega)).mpr q))
  obtain ⟨u1, u2, u3, u4⟩ := Bx_lt hT0 hkW
  obtain ⟨t1, t2, t3, t4, t5⟩ := (htok k hkW).2.2
  have hcb := hc (B k) (by omega)
  have hk3 := kd_3 (c (B k))
  rw [nI_clamp (show k < 2 ^ 31 by omega), (h14 k hkW).1, (h14 k hkW).2, nI_clamp (show B k < 2 ^ 31 by omega), h11 (B k) (by omega), pk_sub (by omega)]
  refine rT_ck (vin (by omega)) (rT_ck (vin (by omega)) (rT_e1 (show m_MD_sort F (nI (c (B k))) = some (nI (kd (c (B k)))) from kd_r _ (by omega)) (rT_if (fun g1 => rT_ck (vin (by omega)) (rT_ck (vin (by omega)) (rT_if (fun g2 => rT_ck (vin (by omega)) ?_) (fun g2 => rT_some (hneg (fun w code hw z => ?_)))))) (fun g1 => rT_some (hneg (fun w code hw z => ?_))))))
  · have hk1 := (nI_eq (b := 1) (by omega) (by omega)).mp g1
    have h5 := (nI_leI (b := 5) (by omega) (by omega)).mp g2
    have hlet : ∀ j : Nat, B k ≤ j → j < E k → 97 ≤ c j ∧ c j ≤ 122 := fun j h1 h2 => kd_1 (((t5 (by omega)).1 j h1 h2).trans hk1)
    have hlw : ∀ i : Nat, i ≤ E k - B k → lw c i (E k - i) < 33554432 := by
      intro i hi
      have h := lw_lt (c := c) i (E k - i) (fun j hj => hlet _ (by omega) (by omega))
      have h3 : 32 ^ i ≤ 32 ^ 5 := Nat.pow_le_pow_right (by omega) (by omega)
      omega
    refine rT_lq2 (E k - B k) (fun i w1 w2 => w1 = nI (lw c i (E k - i)) ∧ w2 = nI (E k - i) - 1) ?_ F 0 0 _ (by omega) (by omega) ⟨rfl, rfl⟩
    intro i r w1 w2 hi hI hrec
    obtain ⟨e1, e2⟩ := hI
    subst e1 e2
    unfold m_MD_letters_B71
    rw [h16, nI_clamp (show k < 2 ^ 31 by omega), (h14 k hkW).1]
    refine rT_ck (vin (by omega)) ?_
    rcases Nat.lt_or_ge i (E k - B k) with q | q
    · rw [show (nI (E k - i) - 1 : Int32) = nI (E k - i - 1) from pk_sub (b := 1) (by omega), nI_clamp (by omega), h11 (E k - i - 1) (by omega)]
      have hl := hlet (E k - i - 1) (by omega) (by omega)
      refine rT_in (fun z => by have := (nI_ltI (by omega) (by omega)).mp z; omega) (rT_ck (vin (by omega)) (hrec _ _ q ⟨?_, ?_⟩))
      · rw [show (32 : Int32) = nI 32 from rfl, pk_mul, nI_add, show (96 : Int32) = nI 96 from rfl, pk_sub (by omega)]
        have e9 : lw c (i + 1) (E k - (i + 1)) = 32 * lw c i (E k - i) + c (E k - i - 1) - 96 := by
          show 32 * lw c i (E k - (i + 1) + 1) + (c (E k - (i + 1)) - 96) = _
          rw [show E k - (i + 1) + 1 = E k - i by omega, show E k - (i + 1) = E k - i - 1 by omega]
          omega
        rw [e9]
      · rw [show (nI (E k - (i + 1)) - 1 : Int32) = nI (E k - i - 1) - nI 1 from by rw [show E k - (i + 1) = E k - i - 1 by omega]; rfl]
        rw [show (-1 : Int32) = -nI 1 from rfl, Int32.sub_eq_add_neg]
    · have ei : i = E k - B k := by omega
      have hlt : nI (E k - i) - 1 < nI (B k) := by
        rw [show E k - i = B k by omega]
        rcases Nat.eq_zero_or_pos (B k) with p | p
        · rw [p]; decide +kernel
        · rw [show (nI (B k) - 1 : Int32) = nI (B k - 1) from pk_sub (b := 1) p]
          exact (nI_ltI (by omega) (by omega)).mpr (by omega)
      refine rT_ip hlt (rT_some (fun w code hw => ?_))
      have hl2 := hlw i (by omega)
      rw [nI_eq (by omega) hw.2.2.1]
      rw [show E k - i = B k by omega, ei]
      have hA := lw_A (c := c) (E k - B k) (B k) code (fun j hj => hlet _ (by omega) (by omega))
      rw [hA]
      obtain ⟨⟨w5, wch, wz⟩, wpos, w31, wdig⟩ := hw
      unfold isw
      rw [u1, u2]
      constructor
      · rintro ⟨g1, g2⟩
        have hle : lnS w ≤ E k - B k := by
          refine Nat.le_of_not_lt (fun q => ?_)
          have := (wch _ q).1
          omega
        have hge : E k - B k ≤ lnS w := by
          refine Nat.le_of_not_lt (fun q => ?_)
          have h1 := g1 _ q
          have h2 := hlet (B k + lnS w) (by omega) (by omega)
          rw [wz] at h1
          omega
        refine ⟨by omega, fun j hj => ?_⟩
        rw [(wch j hj).2, g1 j (by omega)]
      · rintro ⟨g1, g2⟩
        refine ⟨fun j hj => ?_, by rw [g1]; exact wz⟩
        have h1 := g2 j (by omega)
        rw [(wch j (by omega)).2] at h1
        have h2 := hlet (B k + j) (by omega) (by omega)
        have h3 : code / 32 ^ j % 32 < 32 := Nat.mod_lt _ (by omega)
        exact (nI_eq (by omega) (by omega)).mp h1
  · have h1 := z.1
    rw [u1, u2] at h1
    have h2 := hw.1.1
    exact g2 ((nI_leI (b := 5) (by omega) (by omega)).mpr (by omega))
  · have h1 := z.2 0 hw.2.1
    rw [u1, (hw.1.2.1 0 hw.2.1).2, Nat.add_zero] at h1
    have h2 := hw.2.2.2 0 hw.2.1
    have h3 := (nI_eq (by omega) (by omega)).mp h1
    have h4 : kd (c (B k)) = 1 := kd_l (by rw [h3]; omega)
    exact g1 (by rw [h4]; rfl)
theorem q_sign {F L W k w s : Nat} {c B E : Nat → Nat} {y : St} (hT : TK L W c B E) (hY : TF L W c B E y) (hk : k ≤ W) (h16 : y 16 0 = nI k) (hw : lnS w = 1) (hs : chS w 0 = nI s) (hs2 : s < 2 ^ 31) : rT (m_MD_isSign F y (nI s)) (fun r => r = tf (isw L W c B E k w)) := by
  have hT0 := hT
  obtain ⟨hL, hWL, hc, htok, hpe, hgap⟩ := hT
  obtain ⟨h13, h11, h14⟩ := hY
  unfold m_MD_isSign
  rw [h13, h16]
  refine rT_if (fun g => rT_some (tf_n (fun z => ?_)).symm) (fun g => ?_)
  · have := (nI_leI (by omega) (by omega)).mp g
    have := isw_lt (by omega) z
    omega
  have hkW : k < W := Nat.lt_of_not_le (fun q => g ((nI_leI (by omega) (by omega)).mpr q))
  obtain ⟨u1, u2, u3, u4⟩ := Bx_lt hT0 hkW
  have hcb := hc (B k) (by omega)
  rw [nI_clamp (show k < 2 ^ 31 by omega), (h14 k hkW).1, (h14 k hkW).2, nI_clamp (show B k < 2 ^ 31 by omega), h11 (B k) (by omega), pk_sub (by omega)]
  refine rT_ck (vin (by omega)) (rT_ck (vin (by omega)) (rT_if (fun g1 => rT_ck (vin (by omega)) (rT_ck (vin (by omega)) (rT_if (fun g2 => rT_some (tf_p ⟨?_, fun j hj => ?_⟩).symm) (fun g2 => rT_some (tf_n (fun z => ?_)).symm)))) (fun g1 => rT_some (tf_n (fun z => ?_)).symm)))
  · have := z.2 0 (by omega)
    rw [u1, hs] at this
    exact g2 this
  · have := z.1
    rw [u1, u2, hw] at this
    exact g1 (by rw [this]; rfl)
  · rw [u1, u2, hw]; exact (nI_eq (b := 1) (by omega) (by omega)).mp g1
  · have ej : j = 0 := by omega
    subst ej
    rw [u1, hs]; exact g2
theorem w_1 {F : Nat} {y : St} (h : y 17 0 = -1) : m_MD_want F y 1 = some (1, y) := by
  refine rT_get ?_
  unfold m_MD_want
  rw [h]
  exact rT_i1 (rT_in (by decide) (rT_some rfl))
theorem w_0 {F k : Nat} {y : St} (h : y 17 0 = -1) (hk : k < 2 ^ 31) (h16 : y 16 0 = nI k) : m_MD_want F y 0 = some (0, sc y 17 (nI k)) := by
  refine rT_get ?_
  unfold m_MD_want
  rw [h, h16]
  exact rT_i0 (rT_in (by decide) (rT_lz (rT_ip (show (0 : Int32) ≤ nI k from (nI_leI (a := 0) (by omega) hk).mpr (by omega)) (rT_some rfl))))
theorem w_w {F w : Nat} {y : St} {v : Int32} (h : y 17 0 = nI w) (hw : w < 2 ^ 31) : m_MD_want F y v = some (0, y) := by
  have h0 : (0 : Int32) ≤ nI w := (nI_leI (a := 0) (by omega) hw).mpr (by omega)
  refine rT_get ?_
  unfold m_MD_want
  rw [h]
  exact rT_if (fun _ => rT_ip h0 (rT_ip h0 (rT_some rfl))) (fun _ => rT_ip h0 (rT_some rfl))
theorem q_look {F L W k lo hi : Nat} {c B E : Nat → Nat} {y : St} {P : Int32 × St → Prop} (hF : 100000 ≤ F) (hT : TK L W c B E) (hY : TF L W c B E y) (hk : k ≤ W) (h16 : y 16 0 = nI k) (hlo : lo < 2 ^ 31) (hhi : hi < 2 ^ 31) (h0 : ¬ vl L W c B E k lo hi → ∀ v : Int32, rT (bn2 (m_MD_want F y (0 : Int32)) (fun r148 z0_148 => (if r148 = (0 : Int32) then (some ((-1 : Int32), z0_148)) else (some (v, z0_148))))) P) (h1 : vl L W c B E k lo hi → rT (bn2 (m_MD_want F y (1 : Int32)) (fun r148 z0_148 => (if r148 = (0 : Int32) then (some ((-1 : Int32), z0_148)) else (some (nI (nv c (B k) (E k - B k)), z0_148))))) P) : rT (m_MD_look F y (nI lo) (nI hi)) P := by
  have hT0 := hT
  obtain ⟨hL, hWL, hc, htok, hpe, hgap⟩ := hT
  obtain ⟨h13, h11, h14⟩ := hY
  have hJ0 : ¬ vl L W c B E k lo hi → rT (m_MD_look_J61 F (nI lo) (nI hi) 0 y) P := by
    intro hn
    unfold m_MD_look_J61
    refine rT_i0 (rT_lq2 0 (fun _ _ _ => True) ?_ F 0 0 0 (by omega) (by omega) trivial)
    intro i r v4 v5 hi hI hrec
    unfold m_MD_look_B84
    exact rT_i0 (rT_i0 (h0 hn v4))
  unfold m_MD_look
  rw [h13, h16]
  refine rT_if (fun g => hJ0 (fun z => ?_)) (fun g => ?_)
  · have := (nI_leI (by omega) (by omega)).mp g
    have := z.1
    omega
  have hkW : k < W := Nat.lt_of_not_le (fun q => g ((nI_leI (by omega) (by omega)).mpr q))
  obtain ⟨u1, u2, u3, u4⟩ := Bx_lt hT0 hkW
  have hcb := hc (B k) (by omega)
  have hk3 := kd_3 (c (B k))
  rw [nI_clamp (show k < 2 ^ 31 by omega), (h14 k hkW).1, (h14 k hkW).2, nI_clamp (show B k < 2 ^ 31 by omega), h11 (B k) (by omega), pk_sub (by omega)]
  refine rT_ck (vin (by omega)) (rT_ck (vin (by omega)) (rT_e1 (show m_MD_sort F (nI (c (B k))) = some (nI (kd (c (B k)))) from kd_r _ (by omega)) (rT_if (fun g1 => rT_ck (vin (by omega)) (rT_ck (vin (by omega)) (rT_if (fun g2 => hJ0 (fun z => ?_)) (fun g2 => ?_)))) (fun g1 => hJ0 (fun z => g1 (by rw [z.2.1]; rfl))))))
  · have := (nI_ltI (a := 6) (by omega) (by omega)).mp g2
    have := z.2.2.1
    omega
  have hk2 := (nI_eq (b := 2) (by omega) (by omega)).mp g1
  have h6 : E k - B k ≤ 6 := Nat.le_of_not_lt (fun q => g2 ((nI_ltI (a := 6) (by omega) (by omega)).mpr q))
  unfold m_MD_look_J61
  rw [h16, nI_clamp (show k < 2 ^ 31 by omega), (h14 k hkW).1]
  refine rT_i1 (rT_ck (vin (by omega)) ?_)
  refine rT_lq2 (E k - B k) (fun i v4 v5 => v5 = nI (B k + i) ∧ v4 = nI (nv c (B k) i)) ?_ F 0 0 _ (by omega) (by omega) ⟨rfl, rfl⟩
  intro i r v4 v5 hi' hI hrec
  obtain ⟨e5, e4⟩ := hI
  subst e5 e4
  unfold m_MD_look_B84
  rw [h16, nI_clamp (show k < 2 ^ 31 by omega), (h14 k hkW).2]
  have hn6 := nv_6 hT0 hkW hk2 hi' h6
  refine rT_i1 (rT_ck (vin (by omega)) (rT_if (fun g3 => rT_i1 ?_) (fun g3 => ?_)))
  · have := (nI_leI (by omega) (by omega)).mp g3
    have ei : i = E k - B k := by omega
    refine rT_if (fun g4 => h0 (fun z => ?_) _) (fun g4 => rT_if (fun g5 => h0 (fun z => ?_) _) (fun g5 => ?_))
    · have := (nI_ltI (by omega) hlo).mp g4
      have := z.2.2.2.1
      rw [ei] at *; omega
    · have := (nI_ltI hhi (by omega)).mp g5
      have := z.2.2.2.2
      rw [ei] at *; omega
    · rw [ei]
      refine h1 ⟨hkW, hk2, h6, ?_, ?_⟩
      · rw [← ei]
        exact Nat.le_of_not_lt (fun q => g4 ((nI_ltI (by omega) hlo).mpr q))
      · rw [← ei]
        exact Nat.le_of_not_lt (fun q => g5 ((nI_ltI hhi (by omega)).mpr q))
  have hi2 : i < E k - B k := by
    rcases Nat.lt_or_ge i (E k - B k) with q | q
    · exact q
    · exact absurd ((nI_leI (by omega) (by omega)).mpr (by omega)) g3
  have hd := tok_2 hT0 hkW hk2 i hi2
  rw [nI_clamp (by omega), h11 (B k + i) (by omega)]
  refine rT_ck (vin (by omega)) (hrec _ _ hi2 ⟨nI_add (B k + i) 1, ?_⟩)
  rw [show (10 : Int32) = nI 10 from rfl, pk_mul, nI_add, show (48 : Int32) = nI 48 from rfl, pk_sub (by omega)]
  have e9 : nv c (B k) (i + 1) = 10 * nv c (B k) i + c (B k + i) - 48 := by
    show nv c (B k) i * 10 + (c (B k + i) - 48) = _
    omega
  rw [e9]

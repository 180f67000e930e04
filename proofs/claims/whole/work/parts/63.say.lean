-- A SENTENCE IS SAID
def SB (L0 m : Nat) (t0 y0 t y : St) : Prop := t 2 0 = nI (L0 + m) ∧ y 41 0 = nI m ∧ (∀ i : Nat, i < L0 → t 0 i = t0 0 i) ∧ (∀ i : Nat, i < m → (L0 + i < 2000 → t 0 (L0 + i) = y 40 i) ∧ ∃ c : Nat, c ≤ 127 ∧ y 40 i = nI c) ∧ ∀ f : Nat, f ≠ 40 → f ≠ 41 → y f = y0 f
theorem e_letter {F m : Nat} {y : St} {v : Int32} (h : y 41 0 = nI m) (hm : m < 200) : m_MD_letter F y v = some (sc (st y 40 (upd (y 40) m v)) 41 (nI (m + 1))) := by
  unfold m_MD_letter
  rw [h, ck_in (vin hm), nI_clamp (by omega)]
  show some (sc (st y 40 (upd (y 40) m v)) 41 (y 41 0 + 1)) = _
  rw [h]
  exact congrArg (fun w => some (sc (st y 40 (upd (y 40) m v)) 41 w)) (nI_add m 1)
theorem sb_put {F L0 m c : Nat} {t0 y0 t y : St} (h : SB L0 m t0 y0 t y) (hL : L0 ≤ 2000) (hm : m < 200) (hc : c ≤ 127) : ∃ t' y' : St, m_Text_put F t (nI c) = some t' ∧ m_MD_letter F y (nI c) = some y' ∧ SB L0 (m + 1) t0 y0 t' y' ∧ t' 1 = t 1 := by
  obtain ⟨h2, h41, hlo, hhi, hfr⟩ := h
  have hl := e_letter (F := F) (v := nI c) h41 hm
  have hy : (∀ f : Nat, f ≠ 40 → f ≠ 41 → (sc (st y 40 (upd (y 40) m (nI c))) 41 (nI (m + 1))) f = y0 f) := by
    intro f h1 h2
    rw [sc_n h2, st_n h1]; exact hfr f h1 h2
  by_cases hb : L0 + m < 2000
  · refine ⟨_, _, e_put h2 hb (by omega), hl, ⟨?_, rfl, fun i hi => ?_, fun i hi => ?_, hy⟩, rfl⟩
    · show nI (L0 + m + 1) = nI (L0 + (m + 1))
      rfl
    · show upd (t 0) (L0 + m) (nI c) i = t0 0 i
      rw [upd_n (by omega)]; exact hlo i hi
    · show (L0 + i < 2000 → upd (t 0) (L0 + m) (nI c) (L0 + i) = upd (y 40) m (nI c) i) ∧ ∃ c' : Nat, c' ≤ 127 ∧ upd (y 40) m (nI c) i = nI c'
      by_cases e : i = m
      · subst e
        rw [upd_e, upd_e]
        exact ⟨fun _ => rfl, c, hc, rfl⟩
      · rw [upd_n e, upd_n (by omega)]
        exact hhi i (by omega)
  · refine ⟨_, _, e_putF h2 (by omega) (by omega), hl, ⟨?_, rfl, hlo, fun i hi => ?_, hy⟩, rfl⟩
    · show nI (L0 + m + 1) = nI (L0 + (m + 1))
      rfl
    · show (L0 + i < 2000 → t 0 (L0 + i) = upd (y 40) m (nI c) i) ∧ ∃ c' : Nat, c' ≤ 127 ∧ upd (y 40) m (nI c) i = nI c'
      by_cases e : i = m
      · subst e
        rw [upd_e]
        exact ⟨fun z => absurd z hb, c, hc, rfl⟩
      · rw [upd_n e]
        exact hhi i (by omega)
abbrev Wd (w code : Nat) : Prop := lnS w ≤ 5 ∧ (∀ i : Nat, i < lnS w → 0 < code / 32 ^ i ∧ chS w i = nI (96 + code / 32 ^ i % 32)) ∧ code / 32 ^ lnS w = 0
theorem w15 : Wd 15 178682 := by decide +kernel
theorem w16 : Wd 16 20059310 := by decide +kernel
theorem w17 : Wd 17 207 := by decide +kernel
theorem w18 : Wd 18 20577 := by decide +kernel
theorem w19 : Wd 19 145707 := by decide +kernel
theorem w20 : Wd 20 374834 := by decide +kernel
theorem w21 : Wd 21 26259620 := by decide +kernel
theorem w22 : Wd 22 464151 := by decide +kernel
theorem w23 : Wd 23 628196 := by decide +kernel
theorem w25 : Wd 25 143848 := by decide +kernel
theorem sb_word {F L0 m w code : Nat} {t0 y0 t y : St} (hF : 100000 ≤ F) (hw : Wd w code) (hcode : code < 2 ^ 31) (h : SB L0 m t0 y0 t y) (hL : L0 ≤ 2000) (hm : m + 10 < 200) : ∃ (t' y' : St) (k : Nat), k ≤ 6 ∧ m_Text_putWord F t w = some t' ∧ m_MD_word F y (nI code) = some y' ∧ SB L0 (m + k) t0 y0 t' y' := by
  obtain ⟨hl5, hch, hz⟩ := hw
  have hJ : r2 (m_Text_putWord F t w) (m_MD_word F y (nI code)) (fun t' y' => SB L0 (m + (lnS w + 1)) t0 y0 t' y') := by
    unfold m_Text_putWord m_MD_word
    refine rT_J (A := Int32 × St) (B := Int32 × St) (r := fun k A => lq2 (m_Text_putWord_B2 F w (fun v2_2 y0_2 => (bn1 (m_Text_put F y0_2 (32 : Int32)) (fun z0_28 => (some z0_28))))) k A.1 A.2) (s := fun k B => lq2 (m_MD_word_B2 F (fun v2_2 y0_2 => (bn1 (m_MD_letter F y0_2 (32 : Int32)) (fun z0_28 => (some z0_28))))) k B.1 B.2) (lnS w) (fun i A B => A.1 = nI i ∧ B.1 = nI (code / 32 ^ i) ∧ SB L0 (m + i) t0 y0 A.2 B.2) ?_ F F 0 (0, t) (nI code, y) (by omega) (by omega) (by omega) ⟨rfl, by rw [Nat.pow_zero, Nat.div_one], h⟩
    intro i m1 m2 A B hi hI hrec
    obtain ⟨v, t1⟩ := A
    obtain ⟨u, y1⟩ := B
    dsimp only at hI
    obtain ⟨i1, i2, i3⟩ := hI
    have i1 : v = nI i := i1
    have i2 : u = nI (code / 32 ^ i) := i2
    have i3 : SB L0 (m + i) t0 y0 t1 y1 := i3
    subst i1 i2
    have hdc : code / 32 ^ i < 2 ^ 31 := Nat.lt_of_le_of_lt (Nat.div_le_self _ _) hcode
    show r2 (m_Text_putWord_B2 F w _ (lq2 _ m1) (nI i) t1) (m_MD_word_B2 F _ (lq2 _ m2) (nI (code / 32 ^ i)) y1) _
    rw [m_Text_putWord_B2, m_MD_word_B2]
    by_cases hil : i < lnS w
    · obtain ⟨hpos, hc⟩ := hch i hil
      have hmod : code / 32 ^ i % 32 < 32 := Nat.mod_lt _ (by omega)
      obtain ⟨t2, y2, q1, q2, q3, _⟩ := sb_put (F := F) (c := 96 + code / 32 ^ i % 32) i3 hL (by omega) (by omega)
      have e1 : ((96 : Int32) + (nI (code / 32 ^ i) - nI (code / 32 ^ i) / (32 : Int32) * (32 : Int32))) = nI (96 + code / 32 ^ i % 32) := by
        rw [show (32 : Int32) = nI 32 from rfl, pk_rem hdc (by omega) (by omega), show (96 : Int32) = nI 96 from rfl, nI_add]
      have e2 : (nI (code / 32 ^ i) / (32 : Int32)) = nI (code / 32 ^ (i + 1)) := by
        rw [show (32 : Int32) = nI 32 from rfl, pk_div hdc (by omega) (by omega), Nat.div_div_eq_div_mul, Nat.pow_succ]
      rw [nI_clamp (by omega), hc, e1, e2, show (nI i + 1 : Int32) = nI (i + 1) from nI_add i 1]
      refine r2_l (rT_in (fun z => by have := (nI_leI (by omega) (by omega)).mp z; omega) (rT_ck (vin hil) (rT_e1 q1 ?_)))
      refine r2_tl (r2_r (rT_in (fun z => by have := (nI_leI (b := 0) hdc (by omega)).mp z; omega) (rT_e1 q2 ?_)))
      exact r2_tr (hrec (nI (i + 1), t2) (nI (code / 32 ^ (i + 1)), y2) hil ⟨rfl, rfl, q3⟩)
    · have ei : i = lnS w := by omega
      obtain ⟨t2, y2, q1, q2, q3, _⟩ := sb_put (F := F) (c := 32) i3 hL (by omega) (by omega)
      have q1 : m_Text_put F t1 32 = some t2 := q1
      have q2 : m_MD_letter F y1 32 = some y2 := q2
      refine r2_l (rT_ip ((nI_leI (by omega) (by omega)).mpr (by omega)) (rT_e1 q1 (rT_some (rT_ip ?_ (rT_e1 q2 (rT_some ?_))))))
      · rw [ei, hz]; exact (nI_leI (a := 0) (b := 0) (by omega) (by omega)).mpr (by omega)
      · rw [← ei]; exact q3
  obtain ⟨t', y', q1, q2, q3⟩ := hJ
  exact ⟨t', y', lnS w + 1, by omega, q1, q2, q3⟩
theorem cw1 {F w c : Nat} {t t1 t2 : St} (hF : 100000 ≤ F) (hw : lnS w = 1) (hc : chS w 0 = nI c) (h1 : m_Text_put F t (nI c) = some t1) (h2 : m_Text_put F t1 32 = some t2) : m_Text_putWord F t w = some t2 := by
  refine rT_get ?_
  unfold m_Text_putWord
  refine rT_lq2 1 (fun i v t' => v = nI i ∧ ((i = 0 ∧ t' = t) ∨ (i = 1 ∧ t' = t1))) ?_ F 0 0 t (by omega) (by omega) ⟨rfl, Or.inl ⟨rfl, rfl⟩⟩
  intro i r v t' hi hI hrec
  obtain ⟨ev, hI⟩ := hI
  subst ev
  unfold m_Text_putWord_B2
  rw [hw]
  rcases hI with ⟨e0, et⟩ | ⟨e0, et⟩
  · subst e0 et
    refine rT_in (by decide) (rT_ck (vin (by omega)) ?_)
    rw [nI_clamp (by omega), hc]
    exact rT_e1 h1 (hrec _ _ (by omega) ⟨nI_add 0 1, Or.inr ⟨rfl, rfl⟩⟩)
  · subst e0 et
    exact rT_ip (by decide) (rT_e1 h2 (rT_some rfl))
theorem sb_one {F L0 m w c : Nat} {t0 y0 t y : St} (hF : 100000 ≤ F) (hw : lnS w = 1) (hc : chS w 0 = nI c) (hc2 : c ≤ 127) (h : SB L0 m t0 y0 t y) (hL : L0 ≤ 2000) (hm : m + 10 < 200) : ∃ t' y1 y' : St, m_Text_putWord F t w = some t' ∧ m_MD_letter F y (nI c) = some y1 ∧ m_MD_letter F y1 32 = some y' ∧ SB L0 (m + 2) t0 y0 t' y' := by
  obtain ⟨t1, y1, q1, q2, q3, _⟩ := sb_put (F := F) (c := c) h hL (by omega) hc2
  obtain ⟨t2, y2, p1, p2, p3, _⟩ := sb_put (F := F) (c := 32) q3 hL (by omega) (by omega)
  exact ⟨t2, y1, y2, cw1 hF hw hc q1 p1, q2, p2, p3⟩
-- numbers
def lsR (F : Nat) : Nat → (Nat → Nat) → St → Option St
  | 0, _, y => some y
  | k + 1, f, y => bn1 (m_MD_letter F y (nI (f 0))) (fun z => lsR F k (fun i => f (i + 1)) z)
theorem put_run {F L0 : Nat} {t0 y0 : St} {K : Int32 → St → Option St} (hL : L0 ≤ 2000) : ∀ (k s m n : Nat) (t y : St) (f : Nat → Nat), s + k = 10 → (∀ j : Nat, j < k → t 1 (s + j) = nI (f j) ∧ f j ≤ 127) → SB L0 m t0 y0 t y → m + k < 200 → k < n → ∃ t' y' : St, lq2 (m_Text_putNumber_B38 F K) n (nI s) t = K (nI 10) t' ∧ lsR F k f y = some y' ∧ SB L0 (m + k) t0 y0 t' y' := by
  intro k
  induction k with
  | zero =>
    intro s m n t y f hs hd h hm hn
    obtain ⟨n, rfl⟩ : ∃ n', n = n' + 1 := ⟨n - 1, by omega⟩
    have es : s = 10 := by omega
    subst es
    refine ⟨t, y, ?_, rfl, h⟩
    show m_Text_putNumber_B38 F K (lq2 _ n) (nI 10) t = _
    rw [m_Text_putNumber_B38]
    rw [if_pos (by decide)]
  | succ k ih =>
    intro s m n t y f hs hd h hm hn
    obtain ⟨n, rfl⟩ : ∃ n', n = n' + 1 := ⟨n - 1, by omega⟩
    obtain ⟨hd0, hd1⟩ := hd 0 (by omega)
    have hd0 : t 1 s = nI (f 0) := hd0
    obtain ⟨t1, y1, q1, q2, q3, q4⟩ := sb_put (F := F) h hL (by omega) hd1
    obtain ⟨t2, y2, p1, p2, p3⟩ := ih (s + 1) (m + 1) n t1 y1 (fun i => f (i + 1)) (by omega) (fun j hj => by
      rw [q4]
      have := hd (j + 1) (by omega)
      rw [show s + 1 + j = s + (j + 1) by omega]
      exact this) q3 (by omega) (by omega)
    refine ⟨t2, y2, ?_, ?_, by rw [show m + (k + 1) = m + 1 + k by omega]; exact p3⟩
    · show m_Text_putNumber_B38 F K (lq2 _ n) (nI s) t = _
      rw [m_Text_putNumber_B38]
      rw [if_neg (fun z => by have := (nI_leI (a := 10) (by omega) (by omega)).mp z; omega), ck_in (vin (by omega)), nI_clamp (by omega), hd0, q1, show (nI s + 1 : Int32) = nI (s + 1) from nI_add s 1]
      exact p1
    · show bn1 (m_MD_letter F y (nI (f 0))) _ = _
      rw [q2]; exact p2
def nd (v : Nat) : Nat := if v < 10 then 1 else if v < 100 then 2 else if v < 1000 then 3 else if v < 10000 then 4 else 5
theorem lsR_s {F k : Nat} {f : Nat → Nat} {y z : St} (h : lsR F (k + 1) f y = some z) : ∃ y1 : St, m_MD_letter F y (nI (f 0)) = some y1 ∧ lsR F k (fun i => f (i + 1)) y1 = some z := by
  rw [lsR] at h
  exact bn1_s h
theorem lsR_0 {F : Nat} {f : Nat → Nat} {y z : St} (h : lsR F 0 f y = some z) : y = z := by
  rw [lsR] at h
  exact Option.some.inj h
theorem num_R {F v : Nat} {y z z' : St} (hv : v < 100000) (h1 : lsR F (nd v) (fun j => 48 + v / 10 ^ (nd v - 1 - j) % 10) y = some z) (h2 : m_MD_letter F z 32 = some z') : m_MD_number F y (nI v) = some z' := by
  have hle : ∀ k : Nat, k < 2 ^ 31 → ((nI v ≤ nI k) ↔ v ≤ k) := fun k hk => nI_leI (by omega) hk
  have d1 : (nI v / (10 : Int32)) = nI (v / 10) := pk_div (d := 10) (by omega) (by omega) (by omega)
  have d2 : (nI v / (100 : Int32)) = nI (v / 100) := pk_div (d := 100) (by omega) (by omega) (by omega)
  have d3 : (nI v / (1000 : Int32)) = nI (v / 1000) := pk_div (d := 1000) (by omega) (by omega) (by omega)
  have d4 : (nI v / (10000 : Int32)) = nI (v / 10000) := pk_div (d := 10000) (by omega) (by omega) (by omega)
  have c0 : (48 : Int32) + (nI v - nI v / (10 : Int32) * (10 : Int32)) = nI (48 + v % 10) := by
    rw [show (10 : Int32) = nI 10 from rfl, pk_rem (by omega) (by omega) (by omega), show (48 : Int32) = nI 48 from rfl, nI_add]
  have c1 : (48 : Int32) + (nI (v / 10) - nI (v / 10) / (10 : Int32) * (10 : Int32)) = nI (48 + v / 10 % 10) := by
    rw [show (10 : Int32) = nI 10 from rfl, pk_rem (by omega) (by omega) (by omega), show (48 : Int32) = nI 48 from rfl, nI_add]
  have c2 : (48 : Int32) + (nI (v / 100) - nI (v / 100) / (10 : Int32) * (10 : Int32)) = nI (48 + v / 100 % 10) := by
    rw [show (10 : Int32) = nI 10 from rfl, pk_rem (by omega) (by omega) (by omega), show (48 : Int32) = nI 48 from rfl, nI_add]
  have c3 : (48 : Int32) + (nI (v / 1000) - nI (v / 1000) / (10 : Int32) * (10 : Int32)) = nI (48 + v / 1000 % 10) := by
    rw [show (10 : Int32) = nI 10 from rfl, pk_rem (by omega) (by omega) (by omega), show (48 : Int32) = nI 48 from rfl, nI_add]
  have c4 : (48 : Int32) + nI (v / 10000) = nI (48 + v / 10000 % 10) := by
    rw [show (48 : Int32) = nI 48 from rfl, nI_add, show v / 10000 % 10 = v / 10000 by omega]
  have n9 : (nI v ≤ (9 : Int32)) ↔ v ≤ 9 := hle 9 (by omega)
  have n99 : (nI v ≤ (99 : Int32)) ↔ v ≤ 99 := hle 99 (by omega)
  have n999 : (nI v ≤ (999 : Int32)) ↔ v ≤ 999 := hle 999 (by omega)
  have n9999 : (nI v ≤ (9999 : Int32)) ↔ v ≤ 9999 := hle 9999 (by omega)
  have e0 : v / 1 % 10 = v % 10 := by rw [Nat.div_one]
  refine rT_get ?_
  unfold m_MD_number m_MD_number_J41
  rw [c0, d1, c1, d2, c2, d3, c3, d4, c4, ← e0]
  by_cases g1 : v < 10
  · have e : nd v = 1 := by unfold nd; rw [if_pos (show v < 10 by omega)]
    rw [e] at h1
    obtain ⟨y1, a1, h1⟩ := lsR_s h1
    have a1 : m_MD_letter F y (nI (48 + v / 1 % 10)) = some y1 := a1
    have hz : y1 = z := lsR_0 h1
    subst hz
    exact rT_ip (n9999.mpr (by omega)) (rT_ip (n999.mpr (by omega)) (rT_ip (n99.mpr (by omega)) (rT_ip (n9.mpr (by omega)) (rT_e1 a1 (rT_e1 h2 (rT_some rfl))))))
  by_cases g2 : v < 100
  · have e : nd v = 2 := by unfold nd; rw [if_neg (show ¬ v < 10 by omega), if_pos (show v < 100 by omega)]
    rw [e] at h1
    obtain ⟨y1, a1, h1⟩ := lsR_s h1
    have a1 : m_MD_letter F y (nI (48 + v / 10 % 10)) = some y1 := a1
    obtain ⟨y2, a2, h1⟩ := lsR_s h1
    have a2 : m_MD_letter F y1 (nI (48 + v / 1 % 10)) = some y2 := a2
    have hz : y2 = z := lsR_0 h1
    subst hz
    exact rT_ip (n9999.mpr (by omega)) (rT_ip (n999.mpr (by omega)) (rT_ip (n99.mpr (by omega)) (rT_in (fun q => by have := n9.mp q; omega) (rT_e1 a1 (rT_e1 a2 (rT_e1 h2 (rT_some rfl)))))))
  by_cases g3 : v < 1000
  · have e : nd v = 3 := by unfold nd; rw [if_neg (show ¬ v < 10 by omega), if_neg (show ¬ v < 100 by omega), if_pos (show v < 1000 by omega)]
    rw [e] at h1
    obtain ⟨y1, a1, h1⟩ := lsR_s h1
    have a1 : m_MD_letter F y (nI (48 + v / 100 % 10)) = some y1 := a1
    obtain ⟨y2, a2, h1⟩ := lsR_s h1
    have a2 : m_MD_letter F y1 (nI (48 + v / 10 % 10)) = some y2 := a2
    obtain ⟨y3, a3, h1⟩ := lsR_s h1
    have a3 : m_MD_letter F y2 (nI (48 + v / 1 % 10)) = some y3 := a3
    have hz : y3 = z := lsR_0 h1
    subst hz
    exact rT_ip (n9999.mpr (by omega)) (rT_ip (n999.mpr (by omega)) (rT_in (fun q => by have := n99.mp q; omega) (rT_e1 a1 (rT_in (fun q => by have := n9.mp q; omega) (rT_e1 a2 (rT_e1 a3 (rT_e1 h2 (rT_some rfl))))))))
  by_cases g4 : v < 10000
  · have e : nd v = 4 := by unfold nd; rw [if_neg (show ¬ v < 10 by omega), if_neg (show ¬ v < 100 by omega), if_neg (show ¬ v < 1000 by omega), if_pos (show v < 10000 by omega)]
    rw [e] at h1
    obtain ⟨y1, a1, h1⟩ := lsR_s h1
    have a1 : m_MD_letter F y (nI (48 + v / 1000 % 10)) = some y1 := a1
    obtain ⟨y2, a2, h1⟩ := lsR_s h1
    have a2 : m_MD_letter F y1 (nI (48 + v / 100 % 10)) = some y2 := a2
    obtain ⟨y3, a3, h1⟩ := lsR_s h1
    have a3 : m_MD_letter F y2 (nI (48 + v / 10 % 10)) = some y3 := a3
    obtain ⟨y4, a4, h1⟩ := lsR_s h1
    have a4 : m_MD_letter F y3 (nI (48 + v / 1 % 10)) = some y4 := a4
    have hz : y4 = z := lsR_0 h1
    subst hz
    exact rT_ip (n9999.mpr (by omega)) (rT_in (fun q => by have := n999.mp q; omega) (rT_e1 a1 (rT_in (fun q => by have := n99.mp q; omega) (rT_e1 a2 (rT_in (fun q => by have := n9.mp q; omega) (rT_e1 a3 (rT_e1 a4 (rT_e1 h2 (rT_some rfl)))))))))
  have e : nd v = 5 := by unfold nd; rw [if_neg (show ¬ v < 10 by omega), if_neg (show ¬ v < 100 by omega), if_neg (show ¬ v < 1000 by omega), if_neg (show ¬ v < 10000 by omega)]
  rw [e] at h1
  obtain ⟨y1, a1, h1⟩ := lsR_s h1
  have a1 : m_MD_letter F y (nI (48 + v / 10000 % 10)) = some y1 := a1
  obtain ⟨y2, a2, h1⟩ := lsR_s h1
  have a2 : m_MD_letter F y1 (nI (48 + v / 1000 % 10)) = some y2 := a2
  obtain ⟨y3, a3, h1⟩ := lsR_s h1
  have a3 : m_MD_letter F y2 (nI (48 + v / 100 % 10)) = some y3 := a3
  obtain ⟨y4, a4, h1⟩ := lsR_s h1
  have a4 : m_MD_letter F y3 (nI (48 + v / 10 % 10)) = some y4 := a4
  obtain ⟨y5, a5, h1⟩ := lsR_s h1
  have a5 : m_MD_letter F y4 (nI (48 + v / 1 % 10)) = some y5 := a5
  have hz : y5 = z := lsR_0 h1
  subst hz
  exact rT_in (fun q => by have := n9999.mp q; omega) (rT_e1 a1 (rT_in (fun q => by have := n999.mp q; omega) (rT_e1 a2 (rT_in (fun q => by have := n99.mp q; omega) (rT_e1 a3 (rT_in (fun q => by have := n9.mp q; omega) (rT_e1 a4 (rT_e1 a5 (rT_e1 h2 (rT_some rfl))))))))))
theorem ndg_of {v d : Nat} (hd : d ≤ 4) (hlo : d = 0 ∨ 0 < v / 10 ^ d) (hz : v / 10 ^ (d + 1) = 0) : nd v = d + 1 := by
  unfold nd
  rcases (show d = 0 ∨ d = 1 ∨ d = 2 ∨ d = 3 ∨ d = 4 by omega) with e | e | e | e | e
  · subst e
    have : v / 10 = 0 := hz
    rw [if_pos (by omega)]
  · subst e
    have h1 : v / 100 = 0 := hz
    have h2 : 0 < v / 10 := hlo.resolve_left (by omega)
    rw [if_neg (by omega), if_pos (by omega)]
  · subst e
    have h1 : v / 1000 = 0 := hz
    have h2 : 0 < v / 100 := hlo.resolve_left (by omega)
    rw [if_neg (by omega), if_neg (by omega), if_pos (by omega)]
  · subst e
    have h1 : v / 10000 = 0 := hz
    have h2 : 0 < v / 1000 := hlo.resolve_left (by omega)
    rw [if_neg (by omega), if_neg (by omega), if_neg (by omega), if_pos (by omega)]
  · subst e
    have h2 : 0 < v / 10000 := hlo.resolve_left (by omega)
    rw [if_neg (by omega), if_neg (by omega), if_neg (by omega), if_neg (by omega)]
theorem ndg_le (v : Nat) : 1 ≤ nd v ∧ nd v ≤ 5 := by
  unfold nd
  split
  · omega
  · split
    · omega
    · split
      · omega
      · split <;> omega
theorem sb_num {F L0 m v : Nat} {t0 y0 t y : St} (hF : 100000 ≤ F) (hv : v < 100000) (h : SB L0 m t0 y0 t y) (hL : L0 ≤ 2000) (hm : m + 10 < 200) : ∃ (t' y' : St) (k : Nat), k ≤ 6 ∧ m_Text_putNumber F t (nI v) = some t' ∧ m_MD_number F y (nI v) = some y' ∧ SB L0 (m + k) t0 y0 t' y' := by
  have hnd := ndg_le v
  have hJ : rT (m_Text_putNumber F t (nI v)) (fun t' => rT (m_MD_number F y (nI v)) (fun y' => SB L0 (m + (nd v + 1)) t0 y0 t' y')) := by
    unfold m_Text_putNumber
    refine rT_lq3 4 (fun i v2 v3 z => v2 = nI (v / 10 ^ i) ∧ v3 = nI (10 - i) ∧ z 0 = t 0 ∧ z 2 = t 2 ∧ (i = 0 ∨ 0 < v / 10 ^ i) ∧ ∀ j : Nat, j < i → z 1 (9 - j) = nI (48 + v / 10 ^ j % 10)) ?_ F 0 (nI v) 10 t (by omega) (by omega) ⟨by rw [Nat.pow_zero, Nat.div_one], rfl, rfl, rfl, Or.inl rfl, fun j hj => by omega⟩
    intro i r v2 v3 z hi hI hrec
    obtain ⟨i1, i2, i3, i4, i5, i6⟩ := hI
    subst i1 i2
    have hdv : v / 10 ^ i < 2 ^ 31 := Nat.lt_of_le_of_lt (Nat.div_le_self _ _) (by omega)
    have hmod : v / 10 ^ i % 10 < 10 := Nat.mod_lt _ (by omega)
    have em : (nI (10 - i) + (-1 : Int32)) = nI (9 - i) := by
      have := nm_8 (n := 10 - i) (by omega)
      rw [show 10 - i - 1 = 9 - i by omega] at this
      exact this
    have ed : (nI (v / 10 ^ i) / (10 : Int32)) = nI (v / 10 ^ (i + 1)) := by
      rw [show (10 : Int32) = nI 10 from rfl, pk_div hdv (by omega) (by omega), Nat.div_div_eq_div_mul, Nat.pow_succ]
    have ec : (((48 : Int32) + (nI (v / 10 ^ i) - nI (v / 10 ^ i) / (10 : Int32) * (10 : Int32))).toUInt32 % 65536).toInt32 = nI (48 + v / 10 ^ i % 10) := by
      rw [show (10 : Int32) = nI 10 from rfl, pk_rem hdv (by omega) (by omega), show (48 : Int32) = nI 48 from rfl, nI_add]
      exact chr (by omega)
    unfold m_Text_putNumber_B5
    rw [ec, ed, em, vch (by omega), nI_clamp (by omega)]
    refine rT_ck (vin (by omega)) (rT_lz ?_)
    have hdig : ∀ j : Nat, j < i + 1 → (st z 1 (upd (z 1) (9 - i) (nI (48 + v / 10 ^ i % 10)))) 1 (9 - j) = nI (48 + v / 10 ^ j % 10) := by
      intro j hj
      show upd (z 1) (9 - i) (nI (48 + v / 10 ^ i % 10)) (9 - j) = _
      by_cases e : j = i
      · subst e; rw [upd_e]
      · rw [upd_n (by omega)]; exact i6 j (by omega)
    have hexit : v / 10 ^ (i + 1) = 0 → rT (lq2 (m_Text_putNumber_B38 F (fun v4_38 y0_38 => (bn1 (m_Text_put F y0_38 (32 : Int32)) (fun z0_65 => (some z0_65))))) F (nI (9 - i)) (st z 1 (upd (z 1) (9 - i) (nI (48 + v / 10 ^ i % 10))))) (fun t' => rT (m_MD_number F y (nI v)) (fun y' => SB L0 (m + (nd v + 1)) t0 y0 t' y')) := by
      intro hz
      have end1 := ndg_of hi i5 hz
      have hsb : SB L0 m t0 y0 (st z 1 (upd (z 1) (9 - i) (nI (48 + v / 10 ^ i % 10)))) y := by
        obtain ⟨s1, s2, s3, s4, s5⟩ := h
        refine ⟨?_, s2, ?_, ?_, s5⟩
        · show z 2 0 = _
          rw [i4]; exact s1
        · show ∀ k : Nat, k < L0 → z 0 k = t0 0 k
          rw [i3]; exact s3
        · show ∀ k : Nat, k < m → (L0 + k < 2000 → z 0 (L0 + k) = y 40 k) ∧ _
          rw [i3]; exact s4
      obtain ⟨t2, y2, p1, p2, p3⟩ := put_run (F := F) (K := fun v4_38 y0_38 => (bn1 (m_Text_put F y0_38 (32 : Int32)) (fun z0_65 => (some z0_65)))) hL (i + 1) (9 - i) m F _ y (fun j => 48 + v / 10 ^ (nd v - 1 - j) % 10) (by omega) (fun j hj => by
        have := hdig (i - j) (by omega)
        rw [show 9 - (i - j) = 9 - i + j by omega] at this
        refine ⟨?_, by have : v / 10 ^ (nd v - 1 - j) % 10 < 10 := Nat.mod_lt _ (by omega); omega⟩
        rw [this, end1, show i + 1 - 1 - j = i - j by omega]) hsb (by omega) (by omega)
      obtain ⟨t3, y3, q1, q2, q3, _⟩ := sb_put (F := F) (c := 32) p3 hL (by omega) (by omega)
      have q1 : m_Text_put F t2 32 = some t3 := q1
      have q2 : m_MD_letter F y2 32 = some y3 := q2
      rw [p1]
      refine rT_e1 q1 (rT_some ?_)
      refine rT_eq (num_R hv (by rw [end1] at p2 ⊢; exact p2) q2) ?_
      rw [end1, show m + (i + 1 + 1) = m + (i + 1) + 1 by omega]
      exact q3
    have hdv2 : v / 10 ^ (i + 1) < 2 ^ 31 := Nat.lt_of_le_of_lt (Nat.div_le_self _ _) (by omega)
    refine rT_if (fun c => hexit ?_) (fun c => ?_)
    · exact Nat.le_zero.mp ((nI_leI (b := 0) hdv2 (by omega)).mp c)
    · have hpos : 0 < v / 10 ^ (i + 1) := Nat.lt_of_not_le (fun q => c ((nI_leI (b := 0) hdv2 (by omega)).mpr q))
      have hi4 : i < 4 := by
        rcases Nat.lt_or_ge i 4 with q | q
        · exact q
        · have e4 : i = 4 := by omega
          subst e4
          have : v / 100000 = 0 := by omega
          have hpos : 0 < v / 100000 := hpos
          omega
      refine rT_ip ((nI_ltI (a := 0) (by omega) (by omega)).mpr (by omega)) (hrec _ _ _ hi4 ⟨rfl, by rw [show 10 - (i + 1) = 9 - i by omega], i3, i4, Or.inr hpos, hdig⟩)
  obtain ⟨t', h1, y', h2, h3⟩ := hJ
  exact ⟨t', y', nd v + 1, by omega, h1, h2, h3⟩

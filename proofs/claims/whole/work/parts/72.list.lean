-- THE REFERENCE LISTS THE WORDS
def ufn (f : Nat → Nat) (k v : Nat) : Nat → Nat := fun j => if j = k then v else f j
theorem ufn_e {f : Nat → Nat} {k v : Nat} : ufn f k v k = v := by unfold ufn; rw [if_pos rfl]
theorem ufn_n {f : Nat → Nat} {k v j : Nat} (h : j ≠ k) : ufn f k v j = f j := by unfold ufn; rw [if_neg h]
theorem pe_ufn {E : Nat → Nat} {w e : Nat} : ∀ j : Nat, j ≤ w → pe (ufn E w e) j = pe E j := by
  intro j hj
  cases j with
  | zero => rfl
  | succ j => exact ufn_n (by omega)
def cl (L : Nat) (c B E : Nat → Nat) (w : Nat) : Prop := ∀ j : Nat, j < w → pe E j ≤ B j ∧ (∀ i : Nat, pe E j ≤ i → i < B j → kd (c i) = 0) ∧ Tk L c (B j) (E j)
theorem cl_u {L w b e : Nat} {c B E : Nat → Nat} (h : cl L c B E w) : cl L c (ufn B w b) (ufn E w e) w := by
  intro j hj
  rw [pe_ufn j (by omega), ufn_n (show j ≠ w by omega), ufn_n (show j ≠ w by omega)]
  exact h j hj
def LC (L : Nat) (c : Nat → Nat) (i w : Nat) (B E : Nat → Nat) : Prop := cl L c B E w ∧ pe E w ≤ i ∧ ∀ j : Nat, pe E w ≤ j → j < i → kd (c j) = 0
def LO (L : Nat) (c : Nat → Nat) (i w l : Nat) (B E : Nat → Nat) : Prop := ∃ w' : Nat, w = w' + 1 ∧ cl L c B E w' ∧ pe E w' ≤ B w' ∧ (∀ j : Nat, pe E w' ≤ j → j < B w' → kd (c j) = 0) ∧ B w' < i ∧ E w' = i ∧ ∀ j : Nat, B w' ≤ j → j < i → kd (c j) = l
theorem lo_close {L i w l : Nat} {c B E : Nat → Nat} (h : LO L c i w l B E) (hl : l = 1 ∨ l = 2) (hi : i ≤ L) (hn : i = L ∨ ¬ kd (c i) = l) : LC L c i w B E := by
  obtain ⟨w', rfl, h1, h2, h3, h4, h5, h6⟩ := h
  have hb : kd (c (B w')) = l := h6 (B w') (Nat.le_refl _) h4
  refine ⟨fun j hj => ?_, by show E w' ≤ i; omega, fun j h1 h2 => ?_⟩
  · by_cases e : j = w'
    · subst e
      refine ⟨h2, h3, by omega, by omega, by omega, fun z => by omega, fun _ => ⟨fun q q1 q2 => ?_, ?_⟩⟩
      · rw [h6 q q1 (by omega), hb]
      · rw [h5, hb]; exact hn
    · exact h1 j (by omega)
  · have : E w' ≤ j := h1
    omega
theorem lc_new {L i w s : Nat} {c B E : Nat → Nat} (h : LC L c i w B E) (hi : i < L) (hs : kd (c i) = s) (h0 : s ≠ 0) : (s = 3 → LC L c (i + 1) (w + 1) (ufn B w i) (ufn E w (i + 1))) ∧ (¬ s = 3 → LO L c (i + 1) (w + 1) s (ufn B w i) (ufn E w (i + 1))) := by
  obtain ⟨h1, h2, h3⟩ := h
  constructor
  · intro e3
    refine ⟨fun j hj => ?_, ?_, fun j q1 q2 => ?_⟩
    · by_cases e : j = w
      · subst e
        rw [pe_ufn j (Nat.le_refl _), ufn_e, ufn_e]
        exact ⟨h2, h3, by omega, by omega, by omega, fun _ => rfl, fun z => absurd (hs.trans e3) z⟩
      · exact cl_u h1 j (by omega)
    · show ufn E w (i + 1) w ≤ i + 1
      rw [ufn_e]
      exact Nat.le_refl _
    · have q1 : ufn E w (i + 1) w ≤ j := q1
      rw [ufn_e] at q1
      omega
  · intro e3
    refine ⟨w, rfl, cl_u h1, ?_, fun j q1 q2 => ?_, ?_, ufn_e, fun j q1 q2 => ?_⟩
    · rw [pe_ufn w (Nat.le_refl _), ufn_e]; exact h2
    · rw [pe_ufn w (Nat.le_refl _)] at q1
      rw [ufn_e] at q2
      exact h3 j q1 q2
    · rw [ufn_e]; omega
    · rw [ufn_e] at q1
      have : j = i := by omega
      rw [this]; exact hs
theorem q_list {F L : Nat} {c : Nat → Nat} {y : St} (hF : 100000 ≤ F) (hL : L ≤ 2000) (h12 : y 12 0 = nI L) (h11 : ∀ i : Nat, i < L → y 11 i = nI (c i) ∧ c i ≤ 127) : rT (m_MD_list F y) (fun y' => ∃ (W : Nat) (B E : Nat → Nat), TK L W c B E ∧ TF L W c B E y' ∧ ∀ f : Nat, f ≠ 13 → f ≠ 14 → f ≠ 15 → y' f = y f) := by
  unfold m_MD_list
  refine rT_lz ?_
  refine rT_lq3 L (fun i v1 v2 z => v2 = nI i ∧ (∀ f : Nat, f ≠ 13 → f ≠ 14 → f ≠ 15 → z f = y f) ∧ ∃ (w l : Nat) (B E : Nat → Nat), v1 = nI l ∧ l ≤ 3 ∧ z 13 0 = nI w ∧ w ≤ i ∧ (∀ j : Nat, j < w → z 14 j = nI (B j) ∧ z 15 j = nI (E j)) ∧ (((l = 0 ∨ l = 3) ∧ LC L c i w B E) ∨ ((l = 1 ∨ l = 2) ∧ LO L c i w l B E))) ?_ F 0 0 0 _ (by omega) (by omega) ⟨rfl, fun f h1 _ _ => sc_n h1, 0, 0, fun _ => 0, fun _ => 0, rfl, by omega, rfl, by omega, fun j hj => by omega, Or.inl ⟨Or.inl rfl, fun j hj => by omega, Nat.le_refl _, fun j _ hj => by omega⟩⟩
  intro i r v1 v2 z hi hI hrec
  obtain ⟨e2, hfr, w, l, B, E, e1, hl3, h13, hwi, hBE, hst⟩ := hI
  subst e2 e1
  have hz12 : z 12 0 = nI L := by rw [hfr 12 (by omega) (by omega) (by omega)]; exact h12
  have e1 : (nI i + 1 : Int32) = nI (i + 1) := nI_add i 1
  unfold m_MD_list_B9
  rw [hz12]
  refine rT_if (fun g => rT_some ?_) (fun g => ?_)
  · have := (nI_leI (by omega) (by omega)).mp g
    have ei : i = L := by omega
    have hLC : LC L c i w B E := by
      rcases hst with ⟨_, h⟩ | ⟨hl, h⟩
      · exact h
      · exact lo_close h hl hi (Or.inl ei)
    subst ei
    exact ⟨w, B, E, ⟨hL, hwi, fun j hj => (h11 j hj).2, hLC.1, hLC.2.1, hLC.2.2⟩, ⟨h13, fun j hj => by rw [hfr 11 (by omega) (by omega) (by omega)]; exact (h11 j hj).1, hBE⟩, hfr⟩
  have hiL : i < L := Nat.lt_of_not_le (fun q => g ((nI_leI (by omega) (by omega)).mpr q))
  have hc := h11 i hiL
  have hk3 := kd_3 (c i)
  rw [nI_clamp (by omega), hfr 11 (by omega) (by omega) (by omega), hc.1]
  refine rT_ck (vin (by omega)) (rT_e1 (show m_MD_sort F (nI (c i)) = some (nI (kd (c i))) from kd_r (c i) (by omega)) ?_)
  generalize hs : kd (c i) = s at *
  -- the word that begins here
  have hnew : s ≠ 0 → LC L c i w B E → ∀ K : Int32 → Int32 → St → Option St, rT (ck (z 13 0) 2000 (lz (st z 14 (upd (z 14) (z 13 0).toNatClampNeg (nI i))) (fun e0_50 => (lz (sc e0_50 13 ((e0_50 13 0) + (1 : Int32))) (fun e0_58 => (m_MD_list_J61 F K r (nI l) (nI i) (nI s) e0_58)))))) (fun y' => ∃ (W : Nat) (B E : Nat → Nat), TK L W c B E ∧ TF L W c B E y' ∧ ∀ f : Nat, f ≠ 13 → f ≠ 14 → f ≠ 15 → y' f = y f) := by
    intro hs0 hLC K
    rw [h13, nI_clamp (by omega)]
    refine rT_ck (vin (by omega)) (rT_lz (rT_lz ?_))
    show rT (m_MD_list_J61 F K r (nI l) (nI i) (nI s) (sc (st z 14 (upd (z 14) w (nI i))) 13 (z 13 0 + 1))) _
    rw [h13, show (nI w + 1 : Int32) = nI (w + 1) from nI_add w 1]
    unfold m_MD_list_J61
    have em : (sc (st z 14 (upd (z 14) w (nI i))) 13 (nI (w + 1))) 13 0 - 1 = nI w := by
      show nI (w + 1) - 1 = nI w
      exact pk_sub (b := 1) (by omega)
    rw [em, nI_clamp (show w < 2 ^ 31 by omega), e1]
    refine rT_in (fun q => by have := (nI_leI (b := 0) (by omega) (by omega)).mp q; omega) (rT_ck (vin (by omega)) (rT_lz (hrec _ _ _ hiL ⟨rfl, fun f f1 f2 f3 => ?_, w + 1, s, ufn B w i, ufn E w (i + 1), rfl, hk3, rfl, by omega, fun j hj => ?_, ?_⟩)))
    · rw [st_n f3, sc_n f1, st_n f2]; exact hfr f f1 f2 f3
    · show upd (z 14) w (nI i) j = nI (ufn B w i j) ∧ upd (z 15) w (nI (i + 1)) j = nI (ufn E w (i + 1) j)
      by_cases e : j = w
      · subst e; rw [upd_e, upd_e, ufn_e, ufn_e]; exact ⟨rfl, rfl⟩
      · rw [upd_n e, upd_n e, ufn_n e, ufn_n e]; exact hBE j (by omega)
    · obtain ⟨n1, n2⟩ := lc_new hLC hiL hs hs0
      by_cases e3 : s = 3
      · exact Or.inl ⟨Or.inr e3, n1 e3⟩
      · exact Or.inr ⟨by omega, n2 e3⟩
  refine rT_if (fun g1 => ?_) (fun g1 => ?_)
  · -- a gap
    have hs0 : s = 0 := by have := (nI_leI (b := 0) (by omega) (by omega)).mp g1; omega
    unfold m_MD_list_J61
    rw [e1]
    have hLC : LC L c i w B E := by
      rcases hst with ⟨_, h⟩ | ⟨hl, h⟩
      · exact h
      · exact lo_close h hl hi (Or.inr (by omega))
    refine rT_ip g1 (hrec _ _ _ hiL ⟨rfl, hfr, w, s, B, E, rfl, hk3, h13, by omega, hBE, Or.inl ⟨Or.inl hs0, hLC.1, by have := hLC.2.1; omega, fun j q1 q2 => ?_⟩⟩)
    by_cases e : j = i
    · rw [e, hs]; exact hs0
    · exact hLC.2.2 j q1 (by omega)
  have hs0 : s ≠ 0 := fun q => g1 (by rw [q]; decide)
  have hcls : (l = 0 ∨ l = 3) ∨ ¬ s = l → LC L c i w B E := by
    intro hh
    rcases hst with ⟨_, h⟩ | ⟨hl, h⟩
    · exact h
    · exact lo_close h hl hi (Or.inr (by rcases hh with hh | hh <;> omega))
  refine rT_if (fun g2 => ?_) (fun g2 => rT_if (fun g3 => ?_) (fun g3 => ?_))
  · have h3 := (nI_eq (b := 3) (by omega) (by omega)).mp g2
    refine hnew hs0 ?_ _
    rcases hst with ⟨_, h⟩ | ⟨hl, h⟩
    · exact h
    · exact lo_close h hl hi (Or.inr (by omega))
  · -- the word goes on
    have hsl := (nI_eq (by omega) (by omega)).mp g3
    have hs3 : ¬ s = 3 := fun q => g2 (by rw [q]; rfl)
    rcases hst with ⟨hl, _⟩ | ⟨hl, w', rfl, q1, q2, q3, q4, q5, q6⟩
    · omega
    unfold m_MD_list_J61
    have em : z 13 0 - 1 = nI w' := by
      rw [h13]; exact pk_sub (b := 1) (by omega)
    rw [em, nI_clamp (show w' < 2 ^ 31 by omega), e1]
    refine rT_in g1 (rT_ck (vin (by omega)) (rT_lz (hrec _ _ _ hiL ⟨rfl, fun f f1 f2 f3 => ?_, w' + 1, s, B, ufn E w' (i + 1), rfl, hk3, h13, by omega, fun j hj => ?_, Or.inr ⟨by omega, w', rfl, ?_, ?_, ?_, by omega, ufn_e, fun j p1 p2 => ?_⟩⟩)))
    · rw [st_n f3]; exact hfr f f1 f2 f3
    · show z 14 j = nI (B j) ∧ upd (z 15) w' (nI (i + 1)) j = nI (ufn E w' (i + 1) j)
      by_cases e : j = w'
      · subst e; rw [upd_e, ufn_e]; exact ⟨(hBE j hj).1, rfl⟩
      · rw [upd_n e, ufn_n e]; exact hBE j hj
    · intro j hj
      rw [pe_ufn j (by omega), ufn_n (show j ≠ w' by omega)]
      exact q1 j hj
    · rw [pe_ufn w' (Nat.le_refl _)]; exact q2
    · rw [pe_ufn w' (Nat.le_refl _)]; exact q3
    · by_cases e : j = i
      · rw [e, hs]
      · rw [q6 j p1 (by omega)]; exact hsl.symm
  · refine hnew hs0 (hcls (Or.inr (fun q => g3 (by rw [q])))) _

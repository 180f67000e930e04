-- A SENTENCE, WHATEVER IT IS
def UP (n : Nat) (pl zn ac y : St) : Prop := rZn n 20 zn y ∧ rAs 20 ac y ∧ rOr 20 ac y ∧ rRw 28 50 20 pl y ∧ (∀ i : Nat, i < 20 → y 22 (i + 20) = 0 → ac 4 i = 0) ∧ (∀ i : Nat, i < 20 → ac 7 i = 0)
theorem As_t {a y y' : St} (h : rAs 20 a y) (h2 : y' 22 = y 22) (h3 : y' 23 = y 23) (h4 : y' 24 = y 24) (h5 : y' 25 = y 25) (h6 : y' 26 = y 26) : rAs 20 a y' := by
  unfold rAs at h ⊢
  rw [h2, h3, h4, h5, h6]; exact h
theorem Or_t {a a' y y' : St} (h : rOr 20 a y) (h2 : y' 22 = y 22) (h4 : y' 24 = y 24) (f5 : a' 5 = a 5) (f6 : a' 6 = a 6) : rOr 20 a' y' := by
  unfold rOr so at h ⊢
  rw [h2, h4, f5, f6]; exact h
theorem Zn_t {n : Nat} {z y y' : St} (h : rZn n 20 z y) (h1 : y' 18 = y 18) (h2 : y' 19 = y 19) (h3 : y' 20 = y 20) (h4 : y' 21 = y 21) : rZn n 20 z y' := by
  unfold rZn at h ⊢
  rw [h1, h2, h3, h4]; exact h
theorem Rw_t {pl y y' : St} (h : rRw 28 50 20 pl y) (h1 : ∀ i : Nat, y 18 i = 1 → y' 18 i = 1) (h2 : y' 28 = y 28) (h3 : y' 29 = y 29) (h4 : y' 30 = y 30) (h5 : y' 31 = y 31) : rRw 28 50 20 pl y' := by
  obtain ⟨r, q1, q2, q3, q4⟩ := h
  refine ⟨r, q1, q2, by rw [h2]; exact q3, fun k hk => ?_⟩
  rw [h3, h4, h5]
  obtain ⟨u, b, p1, p2, p3, p4, p5, p6, p7, p8⟩ := q4 k hk
  refine ⟨u, b, p1, p2, p3, p4, h1 _ p5, p6, p7, ?_⟩
  rcases p8 with p8 | ⟨v, v1, v2, v3, v4⟩
  · exact Or.inl p8
  · exact Or.inr ⟨v, v1, v2, v3, h1 _ v4⟩
set_option maxHeartbeats 4000000 in
theorem rd_sent {F L W k n : Nat} {c B E : Nat → Nat} {x0 pl z ac zn t y0 y : St} (hF : 100000 ≤ F) (hT : TK L W c B E) (hX : TX L c t) (hn1 : 1 ≤ n) (hn2 : n ≤ 200) (hx0 : x0 2 0 = nI n) (hy1 : y 1 0 = nI n) (hU : UP n pl zn ac y) (hk : k < W) (hz : wa L W B E z k) (hN : NW L W c B E y0 k y) : r2 (m_Reader_readSentence F x0 pl z ac zn t) (m_MD_readSentence F y) (fun o y' => (∃ w : Nat, o.1 = nI w ∧ WR L W c B E y0 w y') ∨ (o.1 = -1 ∧ ∃ m : Nat, k < m ∧ wb E o.2.2.1 m ∧ NW L W c B E y0 m y' ∧ y' 1 0 = nI n ∧ UP n o.2.1 o.2.2.2.2 o.2.2.2.1 y')) := by
  have hW2 : W ≤ 2000 := Nat.le_trans hT.2.1 hT.1
  obtain ⟨uZ, uA, uO, uR, u4, u7⟩ := hU
  have hN1 := NW_next hN hk
  have hnum : m_Words_number F z = some (nI k) := congrArg some hz.2.2
  obtain ⟨r1, hr1, hr⟩ := q_letters (F := F) hF hT hN.2.2.2.1 hN.2.2.1 hN.2.1
  have e16 : y 16 0 + 1 = nI (k + 1) := by rw [hN.2.1]; exact nI_add k 1
  refine r2_l ?_
  unfold m_Reader_readSentence m_MD_readSentence
  refine bz (p_is (w := 0) hF (by decide +kernel) hT hX hz) (fun h0 => ?_) (fun h0 => ?_)
  rotate_left
  · -- a zone
    have hJ := rd_zone (F := F) (x0 := x0) (x1 := pl) (zn := zn) (y := sc y 16 (nI (k + 1))) hF hT hX hn1 hn2 hx0 hy1 uZ hk hz hN1
    obtain ⟨o, y', q1, q2, q3⟩ := hJ
    obtain ⟨o1, o2, o3⟩ := o
    refine rT_e3 q1 (rT_some (rT_e1 hr1 (rT_ip ((hr 0 178682 v0).mpr h0) (rT_lz ?_))))
    rw [e16]
    refine rT_e1 q2 (rT_some ?_)
    rcases q3 with ⟨w, g1, g2⟩ | ⟨g1, ⟨m, g2, g3, g4⟩, g5, g6, g7⟩
    · exact Or.inl ⟨w, g1, g2⟩
    · refine Or.inr ⟨g1, m, g2, g3, g4, ?_, g6, As_t (y := sc y 16 (nI (k + 1))) uA (g5 22 (by omega) (by omega) (by omega)) (g5 23 (by omega) (by omega) (by omega)) (g5 24 (by omega) (by omega) (by omega)) (g5 25 (by omega) (by omega) (by omega)) (g5 26 (by omega) (by omega) (by omega)), Or_t (y := sc y 16 (nI (k + 1))) uO (g5 22 (by omega) (by omega) (by omega)) (g5 24 (by omega) (by omega) (by omega)) rfl rfl, Rw_t (y := sc y 16 (nI (k + 1))) uR g7 (g5 28 (by omega) (by omega) (by omega)) (g5 29 (by omega) (by omega) (by omega)) (g5 30 (by omega) (by omega) (by omega)) (g5 31 (by omega) (by omega) (by omega)), fun i hi h => u4 i hi ?_, u7⟩
      · rw [g5 1 (by omega) (by omega) (by omega)]; exact hy1
      · rw [g5 22 (by omega) (by omega) (by omega)] at h; exact h
  refine bz (p_is (w := 4) hF (by decide +kernel) hT hX hz) (fun h4 => ?_) (fun h4 => ?_)
  rotate_left
  · -- an act
    have hJ := rd_act (F := F) (x0 := x0) (x1 := pl) (a := ac) (y := sc y 16 (nI (k + 1))) hF hT hX uA uO u4 hk hz hN1
    obtain ⟨o, y', q1, q2, q3⟩ := hJ
    obtain ⟨o1, o2, o3⟩ := o
    refine rT_e3 q1 (rT_some (rT_e1 hr1 (rT_in (fun e => h0 ((hr 0 178682 v0).mp e)) (rT_ip ((hr 4 20577 v4).mpr h4) (rT_lz ?_)))))
    rw [e16]
    refine rT_e1 q2 (rT_some ?_)
    rcases q3 with ⟨w, g1, g2⟩ | ⟨g1, ⟨m, g2, g3, g4⟩, g5, g6, g7, g8, g9, g10⟩
    · exact Or.inl ⟨w, g1, g2⟩
    · refine Or.inr ⟨g1, m, g2, g3, g4, ?_, Zn_t (y := sc y 16 (nI (k + 1))) uZ (g5 18 (by omega) (by omega)) (g5 19 (by omega) (by omega)) (g5 20 (by omega) (by omega)) (g5 21 (by omega) (by omega)), g6, g7, Rw_t (y := sc y 16 (nI (k + 1))) uR (fun i h => ?_) (g5 28 (by omega) (by omega)) (g5 29 (by omega) (by omega)) (g5 30 (by omega) (by omega)) (g5 31 (by omega) (by omega)), fun i hi h => ?_, fun i hi => ?_⟩
      · rw [g5 1 (by omega) (by omega)]; exact hy1
      · rw [g5 18 (by omega) (by omega)]; exact h
      · have g8 : o3 4 = ac 4 := g8
        show o3 4 i = 0
        rw [g8]; exact u4 i hi (g10 _ h)
      · have g9 : o3 7 = ac 7 := g9
        show o3 7 i = 0
        rw [g9]; exact u7 i hi
  refine bz (p_is (w := 8) hF (by decide +kernel) hT hX hz) (fun h8 => ?_) (fun h8 => ?_)
  rotate_left
  · -- a row
    obtain ⟨r, hr50, p5, e28, hrow⟩ := id uR
    by_cases hlt : r < 50
    · have hJ := rd_row (F := F) (x0 := x0) (pl := pl) (a := ac) (zn := zn) (n := n) (y := sc y 16 (nI (k + 1))) hF hT hX uA uZ uR e28 hlt hk hz hN1
      obtain ⟨o, y', q1, q2, q3⟩ := hJ
      obtain ⟨o1, o2, o3⟩ := o
      refine rT_e3 q1 (rT_some (rT_e1 hr1 (rT_in (fun e => h0 ((hr 0 178682 v0).mp e)) (rT_in (fun e => h4 ((hr 4 20577 v4).mp e)) (rT_ip ((hr 8 464151 v8).mpr h8) ?_)))))
      rw [e28]
      refine rT_in (fun q => by have := (nI_leI (a := 50) (by omega) (by omega)).mp q; omega) (rT_e2 (w_1 hN.1) (rT_i1 (rT_lz ?_)))
      rw [e16]
      refine rT_e1 q2 (rT_some ?_)
      rcases q3 with ⟨w, g1, g2⟩ | ⟨g1, ⟨m, g2, g3, g4⟩, g5, g6⟩
      · exact Or.inl ⟨w, g1, g2⟩
      · refine Or.inr ⟨g1, m, g2, g3, g4, ?_, Zn_t (y := sc y 16 (nI (k + 1))) uZ (g5 18 (by omega) (by omega)) (g5 19 (by omega) (by omega)) (g5 20 (by omega) (by omega)) (g5 21 (by omega) (by omega)), As_t (y := sc y 16 (nI (k + 1))) uA (g5 22 (by omega) (by omega)) (g5 23 (by omega) (by omega)) (g5 24 (by omega) (by omega)) (g5 25 (by omega) (by omega)) (g5 26 (by omega) (by omega)), Or_t (y := sc y 16 (nI (k + 1))) uO (g5 22 (by omega) (by omega)) (g5 24 (by omega) (by omega)) rfl rfl, g6, fun i hi h => u4 i hi ?_, u7⟩
        · rw [g5 1 (by omega) (by omega)]; exact hy1
        · rw [g5 22 (by omega) (by omega)] at h; exact h
    · have hcl : m_Reader_readRow F x0 pl z ac zn t = some (nI k, pl, z) := by
        refine rT_get ?_
        unfold m_Reader_readRow
        refine rT_e1 (a := nI r) (show m_Plan_rowCount F pl = some (nI r) from congrArg some p5) (rT_in (fun q => hlt ((nI_ltI (b := 50) (by omega) (by omega)).mp q)) (rT_e1 hnum (rT_some rfl)))
      refine rT_e3 hcl (rT_some (rT_e1 hr1 (rT_in (fun e => h0 ((hr 0 178682 v0).mp e)) (rT_in (fun e => h4 ((hr 4 20577 v4).mp e)) (rT_ip ((hr 8 464151 v8).mpr h8) ?_)))))
      rw [e28]
      exact rT_ip ((nI_leI (a := 50) (by omega) (by omega)).mpr (by omega)) (rT_e2 (w_0 hN.1 (by omega) hN.2.1) (rT_i0 (rT_some (Or.inl ⟨k, rfl, WR_of hN hW2⟩))))
  refine bz (p_is (w := 11) hF (by decide +kernel) hT hX hz) (fun h11 => rT_e1 hnum (rT_some ?_)) (fun h11 => ?_)
  · refine rT_e1 hr1 (rT_in (fun e => h0 ((hr 0 178682 v0).mp e)) (rT_in (fun e => h4 ((hr 4 20577 v4).mp e)) (rT_in (fun e => h8 ((hr 8 464151 v8).mp e)) (rT_bn1 (take_X (F := F) hF hT v11 hN h11) (fun y5 h5 => ?_)))))
    rw [h5.1]
    exact rT_ip (le0 (by have := h5.2.1; omega)) (rT_some (Or.inl ⟨k, rfl, h5⟩))
  · -- held
    have hJ := rd_hold (F := F) (x0 := x0) (x1 := pl) (a := ac) (y := sc y 16 (nI (k + 1))) hF hT hX uA hk hz hN1
    obtain ⟨o, y', q1, q2, q3⟩ := hJ
    obtain ⟨o1, o2, o3⟩ := o
    refine rT_e3 q1 (rT_some (rT_e1 hr1 (rT_in (fun e => h0 ((hr 0 178682 v0).mp e)) (rT_in (fun e => h4 ((hr 4 20577 v4).mp e)) (rT_in (fun e => h8 ((hr 8 464151 v8).mp e)) (rT_e1 (take_Y (F := F) hF hT v11 hN h11) ?_))))))
    rw [hN1.1]
    refine rT_in n0m (rT_e1 q2 (rT_some ?_))
    rcases q3 with ⟨w, g1, g2⟩ | ⟨g1, ⟨m, g2, g3, g4⟩, g5, g6, g7, g8⟩
    · exact Or.inl ⟨w, g1, g2⟩
    · refine Or.inr ⟨g1, m, g2, g3, g4, ?_, Zn_t (y := sc y 16 (nI (k + 1))) uZ (g5 18 (by omega) (by omega)) (g5 19 (by omega) (by omega)) (g5 20 (by omega) (by omega)) (g5 21 (by omega) (by omega)), g6, Or_t (y := sc y 16 (nI (k + 1))) uO (g5 22 (by omega) (by omega)) (g5 24 (by omega) (by omega)) (g7 5 (by omega)) (g7 6 (by omega)), Rw_t (y := sc y 16 (nI (k + 1))) uR (fun i h => ?_) (g5 28 (by omega) (by omega)) (g5 29 (by omega) (by omega)) (g5 30 (by omega) (by omega)) (g5 31 (by omega) (by omega)), fun i hi h => ?_, fun i hi => ?_⟩
      · rw [g5 1 (by omega) (by omega)]; exact hy1
      · rw [g5 18 (by omega) (by omega)]; exact h
      · rw [g5 22 (by omega) (by omega)] at h
        show o3 4 i = 0
        rw [show o3 4 i = ac 4 i from g8 i hi h]; exact u4 i hi h
      · have g7' : o3 7 = ac 7 := g7 7 (by omega)
        show o3 7 i = 0
        rw [g7']; exact u7 i hi

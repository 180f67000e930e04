-- THE SENTENCE OF AN ACT
theorem p_goesBefore {F b d : Nat} {a : St} (hb : b < 20) (hd : d < 20) : rT (m_Acts_goesBefore F a (nI b) (nI d)) (fun r => r = tf (so (fun _ => a 1) 0 b d)) := by
  unfold m_Acts_goesBefore
  rw [nI_clamp (show b < 2 ^ 31 by omega), nI_clamp (show d < 2 ^ 31 by omega)]
  refine rT_ck (vin hb) (rT_ck (vin hd) (rT_if (fun c => rT_some (tf_p (Or.inl c)).symm) (fun c => rT_ck (vin hb) (rT_ck (vin hd) (rT_if (fun e => rT_if (fun g => rT_some (tf_n (fun z => ?_)).symm) (fun g => rT_some (tf_p (Or.inr ⟨e, ?_⟩)).symm)) (fun e => rT_some (tf_n (fun z => ?_)).symm))))))
  · have := (nI_leI (by omega) (by omega)).mp g
    rcases z with z | z
    · exact c z
    · have := z.2; omega
  · rcases z with z | z
    · exact c z
    · exact e z.1
  · exact Nat.lt_of_not_le (fun q => g ((nI_leI (by omega) (by omega)).mpr q))
theorem p_putInOrder {F b c : Nat} {a : St} {g : Nat → Nat} (hF : 100000 ≤ F) (hc : c < 20) (hb : b < 20) (h6 : a 6 0 = nI c) (h5 : ∀ k : Nat, k < c → g k < 20 ∧ a 5 k = nI (g k)) (hs : ∀ r s : Nat, r < s → s < c → so (fun _ => a 1) 0 (g r) (g s)) (hn : ∀ k : Nat, k < c → g k ≠ b) : rT (m_Acts_putInOrder F a (nI b)) (fun a' => (∀ f : Nat, f ≠ 5 → f ≠ 6 → a' f = a f) ∧ ∃ g' : Nat → Nat, a' 6 0 = nI (c + 1) ∧ (∀ k : Nat, k < c + 1 → g' k < 20 ∧ a' 5 k = nI (g' k)) ∧ (∀ r s : Nat, r < s → s < c + 1 → so (fun _ => a 1) 0 (g' r) (g' s)) ∧ (∀ k : Nat, k < c → ∃ q : Nat, q < c + 1 ∧ g' q = g k) ∧ (∃ q : Nat, q < c + 1 ∧ g' q = b) ∧ (∀ q : Nat, q < c + 1 → g' q = b ∨ ∃ k : Nat, k < c ∧ g' q = g k)) := by
  unfold m_Acts_putInOrder
  rw [h6]
  refine rT_ip ((nI_ltI (b := 20) (by omega) (by omega)).mpr hc) ?_
  refine rT_lq2 c (fun i v z => v = nI (c - i) ∧ (∀ f : Nat, f ≠ 5 → z f = a f) ∧ (∀ q : Nat, q < c - i → z 5 q = nI (g q)) ∧ (∀ q : Nat, c - i ≤ q → q < c → z 5 (q + 1) = nI (g q) ∧ so (fun _ => a 1) 0 b (g q))) ?_ F 0 _ a (by omega) (by omega) ⟨rfl, fun _ _ => rfl, fun q hq => (h5 q (by omega)).2, fun q h1 h2 => by omega⟩
  intro i r v z hi hI hrec
  obtain ⟨ev, zf, zlo, zhi⟩ := hI
  subst ev
  unfold m_Acts_putInOrder_B15
  have hexit : (c - i = 0 ∨ so (fun _ => a 1) 0 (g (c - i - 1)) b) → rT (ck (nI (c - i)) 20 (lz (st z 5 (upd (z 5) (nI (c - i)).toNatClampNeg (nI b))) (fun e0_61 => (lz (sc e0_61 6 ((e0_61 6 0) + (1 : Int32))) (fun e0_69 => (some e0_69)))))) (fun a' => (∀ f : Nat, f ≠ 5 → f ≠ 6 → a' f = a f) ∧ ∃ g' : Nat → Nat, a' 6 0 = nI (c + 1) ∧ (∀ k : Nat, k < c + 1 → g' k < 20 ∧ a' 5 k = nI (g' k)) ∧ (∀ r s : Nat, r < s → s < c + 1 → so (fun _ => a 1) 0 (g' r) (g' s)) ∧ (∀ k : Nat, k < c → ∃ q : Nat, q < c + 1 ∧ g' q = g k) ∧ (∃ q : Nat, q < c + 1 ∧ g' q = b) ∧ (∀ q : Nat, q < c + 1 → g' q = b ∨ ∃ k : Nat, k < c ∧ g' q = g k)) := by
    intro hp
    rw [nI_clamp (by omega)]
    refine rT_ck (vin (by omega)) (rT_lz (rT_lz (rT_some ⟨fun f f5 f6 => ?_, fun q => if q < c - i then g q else if q = c - i then b else g (q - 1), ?_, fun k hk => ?_, fun r s hr hs' => ?_, fun k hk => ?_, ⟨c - i, by omega, ?_⟩, fun q hq => ?_⟩)))
    · rw [sc_n f6, st_n f5]; exact zf f f5
    · show z 6 0 + 1 = nI (c + 1)
      rw [zf 6 (by omega), h6]; exact nI_add c 1
    · show (if k < c - i then g k else if k = c - i then b else g (k - 1)) < 20 ∧ upd (z 5) (c - i) (nI b) k = nI (if k < c - i then g k else if k = c - i then b else g (k - 1))
      by_cases e1 : k < c - i
      · rw [if_pos e1, upd_n (by omega)]
        exact ⟨(h5 k (by omega)).1, zlo k e1⟩
      · rw [if_neg e1]
        by_cases e2 : k = c - i
        · rw [if_pos e2, e2, upd_e]; exact ⟨hb, rfl⟩
        · rw [if_neg e2, upd_n e2]
          have := (zhi (k - 1) (by omega) (by omega)).1
          rw [show k - 1 + 1 = k by omega] at this
          exact ⟨(h5 (k - 1) (by omega)).1, this⟩
    · show so (fun _ => a 1) 0 (if r < c - i then g r else if r = c - i then b else g (r - 1)) (if s < c - i then g s else if s = c - i then b else g (s - 1))
      by_cases s1 : s < c - i
      · rw [if_pos s1, if_pos (by omega)]; exact hs r s hr (by omega)
      · rw [if_neg s1]
        by_cases s2 : s = c - i
        · rw [if_pos s2, if_pos (by omega)]
          have hpp := hp.resolve_left (by omega)
          by_cases r1 : r = c - i - 1
          · rw [r1]; exact hpp
          · exact so_tr (hs r (c - i - 1) (by omega) (by omega)) hpp
        · rw [if_neg s2]
          by_cases r1 : r < c - i
          · rw [if_pos r1]; exact hs r (s - 1) (by omega) (by omega)
          · rw [if_neg r1]
            by_cases r2 : r = c - i
            · rw [if_pos r2]; exact (zhi (s - 1) (by omega) (by omega)).2
            · rw [if_neg r2]; exact hs (r - 1) (s - 1) (by omega) (by omega)
    · by_cases e1 : k < c - i
      · refine ⟨k, by omega, ?_⟩
        show (if k < c - i then g k else if k = c - i then b else g (k - 1)) = g k
        rw [if_pos e1]
      · refine ⟨k + 1, by omega, ?_⟩
        show (if k + 1 < c - i then g (k + 1) else if k + 1 = c - i then b else g (k + 1 - 1)) = g k
        rw [if_neg (by omega), if_neg (by omega)]; rfl
    · show (if c - i < c - i then g (c - i) else if c - i = c - i then b else g (c - i - 1)) = b
      rw [if_neg (by omega), if_pos rfl]
    · show (if q < c - i then g q else if q = c - i then b else g (q - 1)) = b ∨ ∃ k : Nat, k < c ∧ (if q < c - i then g q else if q = c - i then b else g (q - 1)) = g k
      by_cases e1 : q < c - i
      · rw [if_pos e1]; exact Or.inr ⟨q, by omega, rfl⟩
      · rw [if_neg e1]
        by_cases e2 : q = c - i
        · rw [if_pos e2]; exact Or.inl rfl
        · rw [if_neg e2]; exact Or.inr ⟨q - 1, by omega, rfl⟩
  refine rT_if (fun q => hexit (Or.inl ?_)) (fun q => ?_)
  · have := (nI_leI (b := 0) (by omega) (by omega)).mp q; omega
  have hci : 0 < c - i := Nat.lt_of_not_le (fun p => q ((nI_leI (b := 0) (by omega) (by omega)).mpr p))
  have z5 := zlo (c - i - 1) (by omega)
  have hg := (h5 (c - i - 1) (by omega)).1
  rw [show (nI (c - i) - 1 : Int32) = nI (c - i - 1) from pk_sub (b := 1) hci, nI_clamp (show c - i - 1 < 2 ^ 31 by omega), z5]
  have hz1 : (fun _ => z 1 : St) = (fun _ => a 1) := by rw [zf 1 (by omega)]
  have hgb := p_goesBefore (F := F) (a := z) hb hg
  rw [hz1] at hgb
  refine rT_ck (vin (by omega)) (bz hgb (fun e => hexit (Or.inr ?_)) (fun e => ?_))
  · rcases so_tot (y := fun _ => a 1) (o := 0) (hn (c - i - 1) (by omega)) with p | p
    · exact p
    · exact absurd p e
  · rw [nI_clamp (show c - i < 2 ^ 31 by omega), show (nI (c - i) + (-1 : Int32)) = nI (c - (i + 1)) from by rw [show c - (i + 1) = c - i - 1 by omega]; exact nm_8 hci]
    refine rT_ck (vin (by omega)) (rT_ck (vin (by omega)) (rT_lz (hrec _ _ (by omega) ⟨rfl, fun f hf => ?_, fun p hp => ?_, fun p h1 h2 => ?_⟩)))
    · rw [st_n hf]; exact zf f hf
    · show upd (z 5) (c - i) (nI (g (c - i - 1))) p = nI (g p)
      rw [upd_n (by omega)]; exact zlo p (by omega)
    · show upd (z 5) (c - i) (nI (g (c - i - 1))) (p + 1) = nI (g p) ∧ _
      by_cases e1 : p = c - i - 1
      · subst e1
        rw [show c - i - 1 + 1 = c - i by omega, upd_e]
        exact ⟨rfl, e⟩
      · rw [upd_n (by omega)]; exact zhi p (by omega) h2
section Ops2
variable {F L W : Nat} {c B E : Nat → Nat} {y0 y : St}
theorem take_Y {w code k : Nat} (hF : 100000 ≤ F) (hT : TK L W c B E) (hw : Wl w code) (h : NW L W c B E y0 k y) (hi : isw L W c B E k w) : m_MD_take_0 F y (nI code) = some (sc y 16 (nI (k + 1))) :=
  rT_get (rT_mono (q_takeN hF hT hw h) (fun _ z => z.elim (fun q => q.2) (fun q => absurd hi q.1)))
theorem take_X {w code k : Nat} (hF : 100000 ≤ F) (hT : TK L W c B E) (hw : Wl w code) (h : NW L W c B E y0 k y) (hi : ¬ isw L W c B E k w) : rT (m_MD_take_0 F y (nI code)) (fun y' => WR L W c B E y0 k y') :=
  rT_mono (q_takeN hF hT hw h) (fun _ z => z.elim (fun q => absurd q.1 hi) (fun q => q.2))
theorem stop_Y {k : Nat} (hT : TK L W c B E) (h : NW L W c B E y0 k y) (hi : isw L W c B E k 3) : m_MD_takeStop F y = some (sc y 16 (nI (k + 1))) :=
  rT_get (rT_mono (q_stopN hT h) (fun _ z => z.elim (fun q => q.2) (fun q => absurd hi q.1)))
theorem stop_X {k : Nat} (hT : TK L W c B E) (h : NW L W c B E y0 k y) (hi : ¬ isw L W c B E k 3) : rT (m_MD_takeStop F y) (fun y' => WR L W c B E y0 k y') :=
  rT_mono (q_stopN hT h) (fun _ z => z.elim (fun q => absurd q.1 hi) (fun q => q.2))
theorem num_Y {k lo hi : Nat} (hF : 100000 ≤ F) (hT : TK L W c B E) (hlo : lo < 2 ^ 31) (hhi : hi < 2 ^ 31) (h : NW L W c B E y0 k y) (hv : vl L W c B E k lo hi) : m_MD_takeNumber F y (nI lo) (nI hi) = some (nI (nv c (B k) (E k - B k)), sc y 16 (nI (k + 1))) :=
  rT_get (rT_mono (q_numN hF hT hlo hhi h) (fun _ z => z.elim (fun q => q.2) (fun q => absurd hv q.1)))
theorem num_X {k lo hi : Nat} (hF : 100000 ≤ F) (hT : TK L W c B E) (hlo : lo < 2 ^ 31) (hhi : hi < 2 ^ 31) (h : NW L W c B E y0 k y) (hv : ¬ vl L W c B E k lo hi) : rT (m_MD_takeNumber F y (nI lo) (nI hi)) (fun o => WR L W c B E y0 k o.2) :=
  rT_mono (q_numN hF hT hlo hhi h) (fun _ z => z.elim (fun q => absurd q.1 hv) (fun q => q.2))
theorem look_Y {k lo hi : Nat} (hF : 100000 ≤ F) (hT : TK L W c B E) (hlo : lo < 2 ^ 31) (hhi : hi < 2 ^ 31) (h : NW L W c B E y0 k y) (hv : vl L W c B E k lo hi) : m_MD_look F y (nI lo) (nI hi) = some (nI (nv c (B k) (E k - B k)), y) :=
  rT_get (rT_mono (q_lookN hF hT hlo hhi h) (fun _ z => z.elim (fun q => q.2) (fun q => absurd hv q.1)))
theorem look_X {k lo hi : Nat} (hF : 100000 ≤ F) (hT : TK L W c B E) (hlo : lo < 2 ^ 31) (hhi : hi < 2 ^ 31) (h : NW L W c B E y0 k y) (hv : ¬ vl L W c B E k lo hi) : rT (m_MD_look F y (nI lo) (nI hi)) (fun o => WR L W c B E y0 k o.2) :=
  rT_mono (q_lookN hF hT hlo hhi h) (fun _ z => z.elim (fun q => absurd q.1 hv) (fun q => q.2))
theorem NW_up {k g i : Nat} {v : Int32} (h : NW L W c B E y0 k y) (g1 : 18 ≤ g) (g2 : g ≤ 26) (g3 : g ≠ 21) : NW L W c B E y0 k (st y g (upd (y g) (i + 20) v)) := by
  obtain ⟨h1, h4, h3, ⟨h5, h6, h7⟩, h8⟩ := h
  refine ⟨?_, ?_, h3, ⟨?_, fun i hi => ?_, fun i hi => ?_⟩, Fr_up h8 g1 g2 g3⟩
  · rw [st_n (by omega)]; exact h1
  · rw [st_n (by omega)]; exact h4
  · rw [st_n (by omega)]; exact h5
  · rw [st_n (by omega)]; exact h6 i hi
  · rw [st_n (by omega), st_n (by omega)]; exact h7 i hi
end Ops2
theorem tell_or {F b : Nat} {a y y' : St} {k1 k2 k3 : Int32} (hF : 100000 ≤ F) (hb : b < 20) (hA : rAs 20 a y) (hO : rOr 20 a y) (ht : y 22 (b + 20) = 0) (hz : a 4 b = 0) (e22 : y' 22 = upd (y 22) (b + 20) 1) (e23 : y' 23 = upd (y 23) (b + 20) k1) (e24 : y' 24 = upd (y 24) (b + 20) k2) (e25 : y' 25 = upd (y 25) (b + 20) k3) (e26 : y' 26 = upd (y 26) (b + 20) 0) : rT (m_Acts_tell F a (nI b) k1 k2 k3) (fun a' => rAs 20 a' y' ∧ rOr 20 a' y' ∧ a' 4 = a 4 ∧ a' 7 = a 7) := by
  obtain ⟨c, g, hc20, h6, h5, hs, hall⟩ := hO
  have hnb : ∀ k : Nat, k < c → g k ≠ b := by
    intro k hk e
    have := (h5 k hk).2.2
    rw [e] at this
    exact n10 (this.symm.trans ht)
  have hinj : ∀ r s : Nat, r < c → s < r → g s ≠ g r := by
    intro r s hr hs' e
    have := hs s r hs' hr
    rw [e] at this
    exact so_as this this
  have hc : c < 20 := by
    have h1 := cn_img (g := g) (n := 20) c (fun r hr => (h5 r hr).1) hinj
    have h2 := cn_ins (p := fun d => ∃ r, r < c ∧ d = g r) (n := 20) (a := b) hb (fun z => by obtain ⟨r, hr, e⟩ := z; exact hnb r hr e.symm)
    have h3 := cn_le (fun d => (∃ r, r < c ∧ d = g r) ∨ d = b) 20
    omega
  have hrk : ∀ k : Nat, k < c → upd (a 1) b k2 (g k) = y 24 (g k + 20) := by
    intro k hk
    rw [upd_n (hnb k hk)]
    rcases hA (g k) (h5 k hk).1 with ⟨h1, _⟩ | ⟨_, h2⟩
    · exact absurd ((h5 k hk).2.2.symm.trans h1) n10
    · exact h2.2.2.2.2.1
  unfold m_Acts_tell
  rw [nI_clamp (by omega), vb1]
  refine rT_ck (vin hb) (rT_lz (rT_ck (vin hb) (rT_lz (rT_ck (vin hb) (rT_lz (rT_ck (vin hb) (rT_lz ?_)))))))
  have hso : ∀ r s : Nat, r < s → s < c → so (fun _ => upd (a 1) b k2) 0 (g r) (g s) := by
    intro r s hr hs'
    have := hs r s hr hs'
    unfold so at this ⊢
    show upd (a 1) b k2 (g s) < upd (a 1) b k2 (g r) ∨ (upd (a 1) b k2 (g r) = upd (a 1) b k2 (g s) ∧ g r < g s)
    rw [hrk r (by omega), hrk s hs']; exact this
  refine rT_bn1 (p_putInOrder (g := g) (c := c) hF hc hb h6 (fun k hk => ⟨(h5 k hk).1, (h5 k hk).2.1⟩) hso hnb) (fun a' ha' => rT_some ?_)
  obtain ⟨hf, g', q6, q5, qs, qold, ⟨qb, hqb, eqb⟩, qall⟩ := ha'
  have f0 : a' 0 = upd (a 0) b k1 := hf 0 (by omega) (by omega)
  have f1 : a' 1 = upd (a 1) b k2 := hf 1 (by omega) (by omega)
  have f2 : a' 2 = upd (a 2) b k3 := hf 2 (by omega) (by omega)
  have f3 : a' 3 = upd (a 3) b 1 := hf 3 (by omega) (by omega)
  have f4 : a' 4 = a 4 := hf 4 (by omega) (by omega)
  have f7 : a' 7 = a 7 := hf 7 (by omega) (by omega)
  refine ⟨fun i hi => ?_, ⟨c + 1, g', by omega, q6, fun k hk => ⟨(q5 k hk).1, (q5 k hk).2, ?_⟩, fun r s hr hs' => ?_, fun d hd hdt => ?_⟩, f4, f7⟩
  · rw [e22, e23, e24, e25, e26, f0, f1, f2, f3, f4]
    by_cases e : i = b
    · subst e
      rw [upd_e, upd_e, upd_e, upd_e, upd_e, upd_e, upd_e, upd_e, upd_e, hz]
      exact Or.inr ⟨rfl, rfl, rfl, Or.inl rfl, rfl, rfl, rfl⟩
    · have e' : i + 20 ≠ b + 20 := by omega
      rw [upd_n e', upd_n e', upd_n e', upd_n e', upd_n e', upd_n e, upd_n e, upd_n e, upd_n e]
      exact hA i hi
  · rw [e22]
    rcases qall k hk with e | ⟨j, hj, e⟩
    · rw [e, upd_e]
    · rw [e, upd_n (by have := hnb j hj; omega)]
      exact (h5 j hj).2.2
  · have := qs r s hr hs'
    have hR : ∀ q : Nat, q < c + 1 → upd (a 1) b k2 (g' q) = upd (y 24) (b + 20) k2 (g' q + 20) := by
      intro q hq
      rcases qall q hq with e | ⟨j, hj, e⟩
      · rw [e, upd_e, upd_e]
      · rw [e, upd_n (k := b + 20) (by have := hnb j hj; omega)]
        exact hrk j hj
    unfold so at this ⊢
    have this : upd (a 1) b k2 (g' s) < upd (a 1) b k2 (g' r) ∨ (upd (a 1) b k2 (g' r) = upd (a 1) b k2 (g' s) ∧ g' r < g' s) := this
    rw [hR r (by omega), hR s hs'] at this
    rw [e24]; exact this
  · rw [e22] at hdt
    by_cases e : d = b
    · exact ⟨qb, hqb, by rw [eqb, e]⟩
    · rw [upd_n (by omega)] at hdt
      obtain ⟨k, hk, ek⟩ := hall d hd hdt
      obtain ⟨q, hq, eq⟩ := qold k hk
      exact ⟨q, hq, by rw [eq, ek]⟩
set_option maxHeartbeats 4000000 in
theorem rd_act {F L W k : Nat} {c B E : Nat → Nat} {x0 x1 z a t y0 y : St} (hF : 100000 ≤ F) (hT : TK L W c B E) (hX : TX L c t) (hA : rAs 20 a y) (hO : rOr 20 a y) (hh4 : ∀ i : Nat, i < 20 → y 22 (i + 20) = 0 → a 4 i = 0) (hk : k < W) (hz : wa L W B E z k) (hN : NW L W c B E y0 (k + 1) y) : r2 (m_Reader_readAct F x0 x1 z a t) (m_MD_readAct F y) (fun o y' => (∃ w : Nat, o.1 = nI w ∧ WR L W c B E y0 w y') ∨ (o.1 = -1 ∧ (∃ m : Nat, k < m ∧ wb E o.2.1 m ∧ NW L W c B E y0 m y') ∧ (∀ f : Nat, f ≠ 16 → (f < 22 ∨ 26 < f) → y' f = y f) ∧ rAs 20 o.2.2 y' ∧ rOr 20 o.2.2 y' ∧ o.2.2 4 = a 4 ∧ o.2.2 7 = a 7 ∧ (∀ i : Nat, y' 22 i = 0 → y 22 i = 0))) := by
  have hW2 : W ≤ 2000 := Nat.le_trans hT.2.1 hT.1
  refine r2_l ?_
  unfold m_Reader_readAct
  refine rT_bn2 (p_stepVal (lo := 0) (hi := 19) hF hT hX (by omega) (by omega) (by omega) (wb_of hz hk)) (fun r1 z1 h1 => ?_)
  obtain ⟨hz1, h1⟩ := h1
  have hz1 : wa L W B E z1 (k + 1) := hz1
  have hnum : m_Words_number F z1 = some (nI (k + 1)) := congrArg some hz1.2.2
  rcases h1 with ⟨hv, e1⟩ | ⟨hv, e1⟩
  rotate_left
  · have e1 : r1 = -1 := e1
    subst e1
    refine rT_ip rfl (rT_e1 hnum (rT_some ?_))
    unfold m_MD_readAct
    refine rT_bn2 (look_X (F := F) (lo := 0) (hi := 19) hF hT (by omega) (by omega) hN hv) (fun r4 z4 h4 => ?_)
    have h4 : WR L W c B E y0 (k + 1) z4 := h4
    rw [h4.1]
    exact rT_ip (le0 (by omega)) (rT_some (Or.inl ⟨_, rfl, h4⟩))
  have e1 : r1 = nI (nv c (B (k + 1)) (E (k + 1) - B (k + 1))) := e1
  subst e1
  have h19 := hv.2.2.2.2
  have hkW : k + 1 < W := hv.1
  have hlk := look_Y (F := F) (lo := 0) (hi := 19) hF hT (by omega) (by omega) hN hv
  generalize nv c (B (k + 1)) (E (k + 1) - B (k + 1)) = v at *
  refine rT_in (m1eq (by omega)) (bz (p_aToldO hA F (nI v)) (fun ht => ?_) (fun ht => rT_e1 hnum (rT_some ?_)))
  rotate_left
  · have ht1 : y 22 (v + 20) = 1 := by
      obtain ⟨m, hm, em, ht⟩ := ht
      have := (nI_eq (by omega) (by omega)).mp em
      rw [this]; exact ht
    unfold m_MD_readAct
    refine rT_e2 hlk ?_
    rw [hN.1, (a20 v).2, nI_clamp (by omega)]
    exact rT_in n0m (rT_ck (vin (by omega)) (rT_in (by rw [ht1]; exact n10) (rT_e2 (w_0 hN.1 (by omega) hN.2.1) (rT_i0 (rT_some (Or.inl ⟨_, rfl, WR_of hN hW2⟩))))))
  have ht0 : y 22 (v + 20) = 0 := by
    rcases hA v (by omega) with ⟨h1, _⟩ | ⟨h1, _⟩
    · exact h1
    · exact absurd ⟨v, by omega, rfl, h1⟩ ht
  have hN0 := hN
  have hN := NW_next hN hkW
  refine rT_bn2 (p_stepTo (w := 5) hF (by decide +kernel) hT hX (by have := hkW; omega) (wb_of hz1 hkW)) (fun q0 z2 g0 => ?_)
  obtain ⟨e0, hz2⟩ := g0
  have e0 : q0 = tf (isw L W c B E (k + 1 + 1) 5) := e0
  have hz2 : wa L W B E z2 (k + 1 + 1) := hz2
  subst e0
  by_cases h0 : isw L W c B E (k + 1 + 1) 5
  rotate_left
  · have hx := h0
    refine rT_ip (tf_n hx) (rT_e1 (show m_Words_number F z2 = some (nI (k + 1 + 1)) from congrArg some hz2.2.2) (rT_some ?_))
    unfold m_MD_readAct
    refine rT_e2 hlk ?_
    rw [hN0.1, (a20 v).2, nI_clamp (by omega), vb1, vb0]
    refine rT_in n0m (rT_ck (vin (by omega)) (rT_ip ht0 (rT_e2 (w_1 hN0.1) (rT_i1 (rT_lz ?_)))))
    rw [hN0.2.1, show (nI (k + 1) + 1 : Int32) = nI (k + 1 + 1) from nI_add (k + 1) 1]
    refine rT_bn1 (take_X (F := F) hF hT v5 hN hx) (fun y hW => ?_)
    refine rT_bn2 (q_numW (F := F) (lo := 0) (hi := 5) hF hT (by omega) (by omega) hW) (fun rr y hW => ?_)
    refine rT_ck (vin (by omega)) (rT_lz ?_)
    have hW := WR_up (g := 23) (i := v) (v := rr) hW (by omega) (by omega) (by omega)
    refine rT_bn1 (q_takeW (F := F) hF hT hW) (fun y hW => ?_)
    refine rT_bn2 (q_numW (F := F) (lo := 0) (hi := 99) hF hT (by omega) (by omega) hW) (fun rr y hW => ?_)
    refine rT_ck (vin (by omega)) (rT_lz ?_)
    have hW := WR_up (g := 24) (i := v) (v := rr) hW (by omega) (by omega) (by omega)
    refine rT_bn1 (q_takeW (F := F) hF hT hW) (fun y hW => ?_)
    refine rT_bn2 (q_numW (F := F) (lo := 0) (hi := 600) hF hT (by omega) (by omega) hW) (fun rr y hW => ?_)
    refine rT_ck (vin (by omega)) (rT_lz ?_)
    have hW := WR_up (g := 25) (i := v) (v := rr) hW (by omega) (by omega) (by omega)
    refine rT_bn1 (q_stopW (F := F) hT hW) (fun y hW => ?_)
    exact rT_ck (vin (by omega)) (rT_lz (rT_ck (vin (by omega)) (rT_lz (rT_some (Or.inl ⟨_, rfl, WR_up (g := 26) (WR_up (g := 22) hW (by omega) (by omega) (by omega)) (by omega) (by omega) (by omega)⟩)))))
  refine rT_in (by rw [tf_p h0]; exact n10) ?_
  refine rT_bn2 (p_stepVal (lo := 0) (hi := 5) hF hT hX (by omega) (by omega) (by have := (isw_lt (by decide +kernel) h0); omega) (wb_of hz2 (isw_lt (by decide +kernel) h0))) (fun q1 z3 g1 => ?_)
  obtain ⟨hz3, g1⟩ := g1
  have hz3 : wa L W B E z3 (k + 1 + 1 + 1) := hz3
  rcases g1 with ⟨h1, e1⟩ | ⟨hx, e1⟩
  rotate_left
  · have e1 : q1 = -1 := e1
    subst e1
    refine rT_ip rfl (rT_e1 (show m_Words_number F z3 = some (nI (k + 1 + 1 + 1)) from congrArg some hz3.2.2) (rT_some ?_))
    unfold m_MD_readAct
    refine rT_e2 hlk ?_
    rw [hN0.1, (a20 v).2, nI_clamp (by omega), vb1, vb0]
    refine rT_in n0m (rT_ck (vin (by omega)) (rT_ip ht0 (rT_e2 (w_1 hN0.1) (rT_i1 (rT_lz ?_)))))
    rw [hN0.2.1, show (nI (k + 1) + 1 : Int32) = nI (k + 1 + 1) from nI_add (k + 1) 1]
    refine rT_e1 (take_Y (F := F) hF hT v5 hN h0) ?_
    have hN := NW_next hN (isw_lt (by decide +kernel) h0)
    refine rT_bn2 (num_X (F := F) (lo := 0) (hi := 5) hF hT (by omega) (by omega) hN hx) (fun rr y hW => ?_)
    refine rT_ck (vin (by omega)) (rT_lz ?_)
    have hW := WR_up (g := 23) (i := v) (v := rr) hW (by omega) (by omega) (by omega)
    refine rT_bn1 (q_takeW (F := F) hF hT hW) (fun y hW => ?_)
    refine rT_bn2 (q_numW (F := F) (lo := 0) (hi := 99) hF hT (by omega) (by omega) hW) (fun rr y hW => ?_)
    refine rT_ck (vin (by omega)) (rT_lz ?_)
    have hW := WR_up (g := 24) (i := v) (v := rr) hW (by omega) (by omega) (by omega)
    refine rT_bn1 (q_takeW (F := F) hF hT hW) (fun y hW => ?_)
    refine rT_bn2 (q_numW (F := F) (lo := 0) (hi := 600) hF hT (by omega) (by omega) hW) (fun rr y hW => ?_)
    refine rT_ck (vin (by omega)) (rT_lz ?_)
    have hW := WR_up (g := 25) (i := v) (v := rr) hW (by omega) (by omega) (by omega)
    refine rT_bn1 (q_stopW (F := F) hT hW) (fun y hW => ?_)
    exact rT_ck (vin (by omega)) (rT_lz (rT_ck (vin (by omega)) (rT_lz (rT_some (Or.inl ⟨_, rfl, WR_up (g := 26) (WR_up (g := 22) hW (by omega) (by omega) (by omega)) (by omega) (by omega) (by omega)⟩)))))
  have e1 : q1 = nI (nv c (B (k + 1 + 1 + 1)) (E (k + 1 + 1 + 1) - B (k + 1 + 1 + 1))) := e1
  subst e1
  have hb1 := nv_6 hT h1.1 h1.2.1 (Nat.le_refl _) h1.2.2.1
  refine rT_in (m1eq (by omega)) ?_
  refine rT_bn2 (p_stepTo (w := 6) hF (by decide +kernel) hT hX (by have := h1.1; omega) (wb_of hz3 h1.1)) (fun q2 z4 g2 => ?_)
  obtain ⟨e2, hz4⟩ := g2
  have e2 : q2 = tf (isw L W c B E (k + 1 + 1 + 1 + 1) 6) := e2
  have hz4 : wa L W B E z4 (k + 1 + 1 + 1 + 1) := hz4
  subst e2
  by_cases h2 : isw L W c B E (k + 1 + 1 + 1 + 1) 6
  rotate_left
  · have hx := h2
    refine rT_ip (tf_n hx) (rT_e1 (show m_Words_number F z4 = some (nI (k + 1 + 1 + 1 + 1)) from congrArg some hz4.2.2) (rT_some ?_))
    unfold m_MD_readAct
    refine rT_e2 hlk ?_
    rw [hN0.1, (a20 v).2, nI_clamp (by omega), vb1, vb0]
    refine rT_in n0m (rT_ck (vin (by omega)) (rT_ip ht0 (rT_e2 (w_1 hN0.1) (rT_i1 (rT_lz ?_)))))
    rw [hN0.2.1, show (nI (k + 1) + 1 : Int32) = nI (k + 1 + 1) from nI_add (k + 1) 1]
    refine rT_e1 (take_Y (F := F) hF hT v5 hN h0) ?_
    have hN := NW_next hN (isw_lt (by decide +kernel) h0)
    refine rT_e2 (num_Y (F := F) (lo := 0) (hi := 5) hF hT (by omega) (by omega) hN h1) ?_
    refine rT_ck (vin (by omega)) (rT_lz ?_)
    have hN := NW_up (g := 23) (i := v) (v := nI (nv c (B (k + 1 + 1 + 1)) (E (k + 1 + 1 + 1) - B (k + 1 + 1 + 1)))) (NW_next hN h1.1) (by omega) (by omega) (by omega)
    refine rT_bn1 (take_X (F := F) hF hT v6 hN hx) (fun y hW => ?_)
    refine rT_bn2 (q_numW (F := F) (lo := 0) (hi := 99) hF hT (by omega) (by omega) hW) (fun rr y hW => ?_)
    refine rT_ck (vin (by omega)) (rT_lz ?_)
    have hW := WR_up (g := 24) (i := v) (v := rr) hW (by omega) (by omega) (by omega)
    refine rT_bn1 (q_takeW (F := F) hF hT hW) (fun y hW => ?_)
    refine rT_bn2 (q_numW (F := F) (lo := 0) (hi := 600) hF hT (by omega) (by omega) hW) (fun rr y hW => ?_)
    refine rT_ck (vin (by omega)) (rT_lz ?_)
    have hW := WR_up (g := 25) (i := v) (v := rr) hW (by omega) (by omega) (by omega)
    refine rT_bn1 (q_stopW (F := F) hT hW) (fun y hW => ?_)
    exact rT_ck (vin (by omega)) (rT_lz (rT_ck (vin (by omega)) (rT_lz (rT_some (Or.inl ⟨_, rfl, WR_up (g := 26) (WR_up (g := 22) hW (by omega) (by omega) (by omega)) (by omega) (by omega) (by omega)⟩)))))
  refine rT_in (by rw [tf_p h2]; exact n10) ?_
  refine rT_bn2 (p_stepVal (lo := 0) (hi := 99) hF hT hX (by omega) (by omega) (by have := (isw_lt (by decide +kernel) h2); omega) (wb_of hz4 (isw_lt (by decide +kernel) h2))) (fun q3 z5 g3 => ?_)
  obtain ⟨hz5, g3⟩ := g3
  have hz5 : wa L W B E z5 (k + 1 + 1 + 1 + 1 + 1) := hz5
  rcases g3 with ⟨h3, e3⟩ | ⟨hx, e3⟩
  rotate_left
  · have e3 : q3 = -1 := e3
    subst e3
    refine rT_ip rfl (rT_e1 (show m_Words_number F z5 = some (nI (k + 1 + 1 + 1 + 1 + 1)) from congrArg some hz5.2.2) (rT_some ?_))
    unfold m_MD_readAct
    refine rT_e2 hlk ?_
    rw [hN0.1, (a20 v).2, nI_clamp (by omega), vb1, vb0]
    refine rT_in n0m (rT_ck (vin (by omega)) (rT_ip ht0 (rT_e2 (w_1 hN0.1) (rT_i1 (rT_lz ?_)))))
    rw [hN0.2.1, show (nI (k + 1) + 1 : Int32) = nI (k + 1 + 1) from nI_add (k + 1) 1]
    refine rT_e1 (take_Y (F := F) hF hT v5 hN h0) ?_
    have hN := NW_next hN (isw_lt (by decide +kernel) h0)
    refine rT_e2 (num_Y (F := F) (lo := 0) (hi := 5) hF hT (by omega) (by omega) hN h1) ?_
    refine rT_ck (vin (by omega)) (rT_lz ?_)
    have hN := NW_up (g := 23) (i := v) (v := nI (nv c (B (k + 1 + 1 + 1)) (E (k + 1 + 1 + 1) - B (k + 1 + 1 + 1)))) (NW_next hN h1.1) (by omega) (by omega) (by omega)
    refine rT_e1 (take_Y (F := F) hF hT v6 hN h2) ?_
    have hN := NW_next hN (isw_lt (by decide +kernel) h2)
    refine rT_bn2 (num_X (F := F) (lo := 0) (hi := 99) hF hT (by omega) (by omega) hN hx) (fun rr y hW => ?_)
    refine rT_ck (vin (by omega)) (rT_lz ?_)
    have hW := WR_up (g := 24) (i := v) (v := rr) hW (by omega) (by omega) (by omega)
    refine rT_bn1 (q_takeW (F := F) hF hT hW) (fun y hW => ?_)
    refine rT_bn2 (q_numW (F := F) (lo := 0) (hi := 600) hF hT (by omega) (by omega) hW) (fun rr y hW => ?_)
    refine rT_ck (vin (by omega)) (rT_lz ?_)
    have hW := WR_up (g := 25) (i := v) (v := rr) hW (by omega) (by omega) (by omega)
    refine rT_bn1 (q_stopW (F := F) hT hW) (fun y hW => ?_)
    exact rT_ck (vin (by omega)) (rT_lz (rT_ck (vin (by omega)) (rT_lz (rT_some (Or.inl ⟨_, rfl, WR_up (g := 26) (WR_up (g := 22) hW (by omega) (by omega) (by omega)) (by omega) (by omega) (by omega)⟩)))))
  have e3 : q3 = nI (nv c (B (k + 1 + 1 + 1 + 1 + 1)) (E (k + 1 + 1 + 1 + 1 + 1) - B (k + 1 + 1 + 1 + 1 + 1))) := e3
  subst e3
  have hb3 := nv_6 hT h3.1 h3.2.1 (Nat.le_refl _) h3.2.2.1
  refine rT_in (m1eq (by omega)) ?_
  refine rT_bn2 (p_stepTo (w := 7) hF (by decide +kernel) hT hX (by have := h3.1; omega) (wb_of hz5 h3.1)) (fun q4 z6 g4 => ?_)
  obtain ⟨e4, hz6⟩ := g4
  have e4 : q4 = tf (isw L W c B E (k + 1 + 1 + 1 + 1 + 1 + 1) 7) := e4
  have hz6 : wa L W B E z6 (k + 1 + 1 + 1 + 1 + 1 + 1) := hz6
  subst e4
  by_cases h4 : isw L W c B E (k + 1 + 1 + 1 + 1 + 1 + 1) 7
  rotate_left
  · have hx := h4
    refine rT_ip (tf_n hx) (rT_e1 (show m_Words_number F z6 = some (nI (k + 1 + 1 + 1 + 1 + 1 + 1)) from congrArg some hz6.2.2) (rT_some ?_))
    unfold m_MD_readAct
    refine rT_e2 hlk ?_
    rw [hN0.1, (a20 v).2, nI_clamp (by omega), vb1, vb0]
    refine rT_in n0m (rT_ck (vin (by omega)) (rT_ip ht0 (rT_e2 (w_1 hN0.1) (rT_i1 (rT_lz ?_)))))
    rw [hN0.2.1, show (nI (k + 1) + 1 : Int32) = nI (k + 1 + 1) from nI_add (k + 1) 1]
    refine rT_e1 (take_Y (F := F) hF hT v5 hN h0) ?_
    have hN := NW_next hN (isw_lt (by decide +kernel) h0)
    refine rT_e2 (num_Y (F := F) (lo := 0) (hi := 5) hF hT (by omega) (by omega) hN h1) ?_
    refine rT_ck (vin (by omega)) (rT_lz ?_)
    have hN := NW_up (g := 23) (i := v) (v := nI (nv c (B (k + 1 + 1 + 1)) (E (k + 1 + 1 + 1) - B (k + 1 + 1 + 1)))) (NW_next hN h1.1) (by omega) (by omega) (by omega)
    refine rT_e1 (take_Y (F := F) hF hT v6 hN h2) ?_
    have hN := NW_next hN (isw_lt (by decide +kernel) h2)
    refine rT_e2 (num_Y (F := F) (lo := 0) (hi := 99) hF hT (by omega) (by omega) hN h3) ?_
    refine rT_ck (vin (by omega)) (rT_lz ?_)
    have hN := NW_up (g := 24) (i := v) (v := nI (nv c (B (k + 1 + 1 + 1 + 1 + 1)) (E (k + 1 + 1 + 1 + 1 + 1) - B (k + 1 + 1 + 1 + 1 + 1)))) (NW_next hN h3.1) (by omega) (by omega) (by omega)
    refine rT_bn1 (take_X (F := F) hF hT v7 hN hx) (fun y hW => ?_)
    refine rT_bn2 (q_numW (F := F) (lo := 0) (hi := 600) hF hT (by omega) (by omega) hW) (fun rr y hW => ?_)
    refine rT_ck (vin (by omega)) (rT_lz ?_)
    have hW := WR_up (g := 25) (i := v) (v := rr) hW (by omega) (by omega) (by omega)
    refine rT_bn1 (q_stopW (F := F) hT hW) (fun y hW => ?_)
    exact rT_ck (vin (by omega)) (rT_lz (rT_ck (vin (by omega)) (rT_lz (rT_some (Or.inl ⟨_, rfl, WR_up (g := 26) (WR_up (g := 22) hW (by omega) (by omega) (by omega)) (by omega) (by omega) (by omega)⟩)))))
  refine rT_in (by rw [tf_p h4]; exact n10) ?_
  refine rT_bn2 (p_stepVal (lo := 0) (hi := 600) hF hT hX (by omega) (by omega) (by have := (isw_lt (by decide +kernel) h4); omega) (wb_of hz6 (isw_lt (by decide +kernel) h4))) (fun q5 z7 g5 => ?_)
  obtain ⟨hz7, g5⟩ := g5
  have hz7 : wa L W B E z7 (k + 1 + 1 + 1 + 1 + 1 + 1 + 1) := hz7
  rcases g5 with ⟨h5, e5⟩ | ⟨hx, e5⟩
  rotate_left
  · have e5 : q5 = -1 := e5
    subst e5
    refine rT_ip rfl (rT_e1 (show m_Words_number F z7 = some (nI (k + 1 + 1 + 1 + 1 + 1 + 1 + 1)) from congrArg some hz7.2.2) (rT_some ?_))
    unfold m_MD_readAct
    refine rT_e2 hlk ?_
    rw [hN0.1, (a20 v).2, nI_clamp (by omega), vb1, vb0]
    refine rT_in n0m (rT_ck (vin (by omega)) (rT_ip ht0 (rT_e2 (w_1 hN0.1) (rT_i1 (rT_lz ?_)))))
    rw [hN0.2.1, show (nI (k + 1) + 1 : Int32) = nI (k + 1 + 1) from nI_add (k + 1) 1]
    refine rT_e1 (take_Y (F := F) hF hT v5 hN h0) ?_
    have hN := NW_next hN (isw_lt (by decide +kernel) h0)
    refine rT_e2 (num_Y (F := F) (lo := 0) (hi := 5) hF hT (by omega) (by omega) hN h1) ?_
    refine rT_ck (vin (by omega)) (rT_lz ?_)
    have hN := NW_up (g := 23) (i := v) (v := nI (nv c (B (k + 1 + 1 + 1)) (E (k + 1 + 1 + 1) - B (k + 1 + 1 + 1)))) (NW_next hN h1.1) (by omega) (by omega) (by omega)
    refine rT_e1 (take_Y (F := F) hF hT v6 hN h2) ?_
    have hN := NW_next hN (isw_lt (by decide +kernel) h2)
    refine rT_e2 (num_Y (F := F) (lo := 0) (hi := 99) hF hT (by omega) (by omega) hN h3) ?_
    refine rT_ck (vin (by omega)) (rT_lz ?_)
    have hN := NW_up (g := 24) (i := v) (v := nI (nv c (B (k + 1 + 1 + 1 + 1 + 1)) (E (k + 1 + 1 + 1 + 1 + 1) - B (k + 1 + 1 + 1 + 1 + 1)))) (NW_next hN h3.1) (by omega) (by omega) (by omega)
    refine rT_e1 (take_Y (F := F) hF hT v7 hN h4) ?_
    have hN := NW_next hN (isw_lt (by decide +kernel) h4)
    refine rT_bn2 (num_X (F := F) (lo := 0) (hi := 600) hF hT (by omega) (by omega) hN hx) (fun rr y hW => ?_)
    refine rT_ck (vin (by omega)) (rT_lz ?_)
    have hW := WR_up (g := 25) (i := v) (v := rr) hW (by omega) (by omega) (by omega)
    refine rT_bn1 (q_stopW (F := F) hT hW) (fun y hW => ?_)
    exact rT_ck (vin (by omega)) (rT_lz (rT_ck (vin (by omega)) (rT_lz (rT_some (Or.inl ⟨_, rfl, WR_up (g := 26) (WR_up (g := 22) hW (by omega) (by omega) (by omega)) (by omega) (by omega) (by omega)⟩)))))
  have e5 : q5 = nI (nv c (B (k + 1 + 1 + 1 + 1 + 1 + 1 + 1)) (E (k + 1 + 1 + 1 + 1 + 1 + 1 + 1) - B (k + 1 + 1 + 1 + 1 + 1 + 1 + 1))) := e5
  subst e5
  have hb5 := nv_6 hT h5.1 h5.2.1 (Nat.le_refl _) h5.2.2.1
  refine rT_in (m1eq (by omega)) ?_
  refine rT_bn2 (p_stepTo (w := 3) hF (by decide +kernel) hT hX (by have := h5.1; omega) (wb_of hz7 h5.1)) (fun q6 z8 g6 => ?_)
  obtain ⟨e6, hz8⟩ := g6
  have e6 : q6 = tf (isw L W c B E (k + 1 + 1 + 1 + 1 + 1 + 1 + 1 + 1) 3) := e6
  have hz8 : wa L W B E z8 (k + 1 + 1 + 1 + 1 + 1 + 1 + 1 + 1) := hz8
  subst e6
  by_cases h6 : isw L W c B E (k + 1 + 1 + 1 + 1 + 1 + 1 + 1 + 1) 3
  rotate_left
  · have hx := h6
    refine rT_ip (tf_n hx) (rT_e1 (show m_Words_number F z8 = some (nI (k + 1 + 1 + 1 + 1 + 1 + 1 + 1 + 1)) from congrArg some hz8.2.2) (rT_some ?_))
    unfold m_MD_readAct
    refine rT_e2 hlk ?_
    rw [hN0.1, (a20 v).2, nI_clamp (by omega), vb1, vb0]
    refine rT_in n0m (rT_ck (vin (by omega)) (rT_ip ht0 (rT_e2 (w_1 hN0.1) (rT_i1 (rT_lz ?_)))))
    rw [hN0.2.1, show (nI (k + 1) + 1 : Int32) = nI (k + 1 + 1) from nI_add (k + 1) 1]
    refine rT_e1 (take_Y (F := F) hF hT v5 hN h0) ?_
    have hN := NW_next hN (isw_lt (by decide +kernel) h0)
    refine rT_e2 (num_Y (F := F) (lo := 0) (hi := 5) hF hT (by omega) (by omega) hN h1) ?_
    refine rT_ck (vin (by omega)) (rT_lz ?_)
    have hN := NW_up (g := 23) (i := v) (v := nI (nv c (B (k + 1 + 1 + 1)) (E (k + 1 + 1 + 1) - B (k + 1 + 1 + 1)))) (NW_next hN h1.1) (by omega) (by omega) (by omega)
    refine rT_e1 (take_Y (F := F) hF hT v6 hN h2) ?_
    have hN := NW_next hN (isw_lt (by decide +kernel) h2)
    refine rT_e2 (num_Y (F := F) (lo := 0) (hi := 99) hF hT (by omega) (by omega) hN h3) ?_
    refine rT_ck (vin (by omega)) (rT_lz ?_)
    have hN := NW_up (g := 24) (i := v) (v := nI (nv c (B (k + 1 + 1 + 1 + 1 + 1)) (E (k + 1 + 1 + 1 + 1 + 1) - B (k + 1 + 1 + 1 + 1 + 1)))) (NW_next hN h3.1) (by omega) (by omega) (by omega)
    refine rT_e1 (take_Y (F := F) hF hT v7 hN h4) ?_
    have hN := NW_next hN (isw_lt (by decide +kernel) h4)
    refine rT_e2 (num_Y (F := F) (lo := 0) (hi := 600) hF hT (by omega) (by omega) hN h5) ?_
    refine rT_ck (vin (by omega)) (rT_lz ?_)
    have hN := NW_up (g := 25) (i := v) (v := nI (nv c (B (k + 1 + 1 + 1 + 1 + 1 + 1 + 1)) (E (k + 1 + 1 + 1 + 1 + 1 + 1 + 1) - B (k + 1 + 1 + 1 + 1 + 1 + 1 + 1)))) (NW_next hN h5.1) (by omega) (by omega) (by omega)
    refine rT_bn1 (stop_X (F := F) hT hN hx) (fun y hW => ?_)
    exact rT_ck (vin (by omega)) (rT_lz (rT_ck (vin (by omega)) (rT_lz (rT_some (Or.inl ⟨_, rfl, WR_up (g := 26) (WR_up (g := 22) hW (by omega) (by omega) (by omega)) (by omega) (by omega) (by omega)⟩)))))
  refine rT_in (by rw [tf_p h6]; exact n10) ?_
  have hend : k + 1 + 1 + 1 + 1 + 1 + 1 + 1 + 1 < W := isw_lt (by decide +kernel) h6
  refine rT_bn1 (tell_or (y' := st (st (sc (st (sc (sc (st (sc (sc (st (sc (sc (sc y 16 (nI (k + 1 + 1))) 16 (nI (k + 1 + 1 + 1))) 16 (nI (k + 1 + 1 + 1 + 1))) 23 (upd (y 23) (v + 20) (nI (nv c (B (k + 1 + 1 + 1)) (E (k + 1 + 1 + 1) - B (k + 1 + 1 + 1)))))) 16 (nI (k + 1 + 1 + 1 + 1 + 1))) 16 (nI (k + 1 + 1 + 1 + 1 + 1 + 1))) 24 (upd (y 24) (v + 20) (nI (nv c (B (k + 1 + 1 + 1 + 1 + 1)) (E (k + 1 + 1 + 1 + 1 + 1) - B (k + 1 + 1 + 1 + 1 + 1)))))) 16 (nI (k + 1 + 1 + 1 + 1 + 1 + 1 + 1))) 16 (nI (k + 1 + 1 + 1 + 1 + 1 + 1 + 1 + 1))) 25 (upd (y 25) (v + 20) (nI (nv c (B (k + 1 + 1 + 1 + 1 + 1 + 1 + 1)) (E (k + 1 + 1 + 1 + 1 + 1 + 1 + 1) - B (k + 1 + 1 + 1 + 1 + 1 + 1 + 1)))))) 16 (nI (k + 1 + 1 + 1 + 1 + 1 + 1 + 1 + 1 + 1))) 22 (upd (y 22) (v + 20) 1)) 26 (upd (y 26) (v + 20) 0)) (k1 := nI (nv c (B (k + 1 + 1 + 1)) (E (k + 1 + 1 + 1) - B (k + 1 + 1 + 1)))) (k2 := nI (nv c (B (k + 1 + 1 + 1 + 1 + 1)) (E (k + 1 + 1 + 1 + 1 + 1) - B (k + 1 + 1 + 1 + 1 + 1)))) (k3 := nI (nv c (B (k + 1 + 1 + 1 + 1 + 1 + 1 + 1)) (E (k + 1 + 1 + 1 + 1 + 1 + 1 + 1) - B (k + 1 + 1 + 1 + 1 + 1 + 1 + 1)))) hF (by omega) hA hO ht0 (hh4 v (by omega) ht0) rfl rfl rfl rfl rfl) (fun a' ha' => rT_some ?_)
  unfold m_MD_readAct
  refine rT_e2 hlk ?_
  rw [hN0.1, (a20 v).2, nI_clamp (by omega), vb1, vb0]
  refine rT_in n0m (rT_ck (vin (by omega)) (rT_ip ht0 (rT_e2 (w_1 hN0.1) (rT_i1 (rT_lz ?_)))))
  rw [hN0.2.1, show (nI (k + 1) + 1 : Int32) = nI (k + 1 + 1) from nI_add (k + 1) 1]
  refine rT_e1 (take_Y (F := F) hF hT v5 hN h0) ?_
  have hN := NW_next hN (isw_lt (by decide +kernel) h0)
  refine rT_e2 (num_Y (F := F) (lo := 0) (hi := 5) hF hT (by omega) (by omega) hN h1) ?_
  refine rT_ck (vin (by omega)) (rT_lz ?_)
  have hN := NW_up (g := 23) (i := v) (v := nI (nv c (B (k + 1 + 1 + 1)) (E (k + 1 + 1 + 1) - B (k + 1 + 1 + 1)))) (NW_next hN h1.1) (by omega) (by omega) (by omega)
  refine rT_e1 (take_Y (F := F) hF hT v6 hN h2) ?_
  have hN := NW_next hN (isw_lt (by decide +kernel) h2)
  refine rT_e2 (num_Y (F := F) (lo := 0) (hi := 99) hF hT (by omega) (by omega) hN h3) ?_
  refine rT_ck (vin (by omega)) (rT_lz ?_)
  have hN := NW_up (g := 24) (i := v) (v := nI (nv c (B (k + 1 + 1 + 1 + 1 + 1)) (E (k + 1 + 1 + 1 + 1 + 1) - B (k + 1 + 1 + 1 + 1 + 1)))) (NW_next hN h3.1) (by omega) (by omega) (by omega)
  refine rT_e1 (take_Y (F := F) hF hT v7 hN h4) ?_
  have hN := NW_next hN (isw_lt (by decide +kernel) h4)
  refine rT_e2 (num_Y (F := F) (lo := 0) (hi := 600) hF hT (by omega) (by omega) hN h5) ?_
  refine rT_ck (vin (by omega)) (rT_lz ?_)
  have hN := NW_up (g := 25) (i := v) (v := nI (nv c (B (k + 1 + 1 + 1 + 1 + 1 + 1 + 1)) (E (k + 1 + 1 + 1 + 1 + 1 + 1 + 1) - B (k + 1 + 1 + 1 + 1 + 1 + 1 + 1)))) (NW_next hN h5.1) (by omega) (by omega) (by omega)
  refine rT_e1 (stop_Y (F := F) hT hN h6) ?_
  have hN := NW_next hN (isw_lt (by decide +kernel) h6)
  refine rT_ck (vin (by omega)) (rT_lz (rT_ck (vin (by omega)) (rT_lz (rT_some (Or.inr ⟨rfl, ⟨k + 1 + 1 + 1 + 1 + 1 + 1 + 1 + 1 + 1, by omega, wb_of hz8 hend, NW_up (g := 26) (NW_up (g := 22) hN (by omega) (by omega) (by omega)) (by omega) (by omega) (by omega)⟩, fun f h1 h2 => ?_, ha'.1, ha'.2.1, ha'.2.2.1, ha'.2.2.2, fun i hi => ?_⟩)))))
  rotate_left
  · have hi : upd (y 22) (v + 20) 1 i = 0 := hi
    by_cases e : i = v + 20
    · rw [e, upd_e] at hi; exact absurd hi n10
    · rw [upd_n e] at hi; exact hi
  rw [st_n (by omega), st_n (by omega), sc_n h1, st_n (by omega), sc_n h1, sc_n h1, st_n (by omega), sc_n h1, sc_n h1, st_n (by omega), sc_n h1, sc_n h1, sc_n h1]

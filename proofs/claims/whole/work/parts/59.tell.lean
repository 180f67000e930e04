-- AN EVENT IS TOLD
theorem ev_add {F c nx : Nat} {e : St} {v1 v2 v3 : Int32} (hc : c ≤ 60) (hn : nx < 60) (e4 : e 4 0 = nI c) (e3 : e 3 0 = nI nx) : m_Events_add F e v1 v2 v3 = some (sc (sc (st (st (st e 0 (upd (e 0) nx v1)) 1 (upd (e 1) nx v2)) 2 (upd (e 2) nx v3)) 3 (nI (if nx + 1 < 60 then nx + 1 else 0))) 4 (nI (if c < 60 then c + 1 else 60))) := by
  have hv : vp_in (e 3 0) 60 := by rw [e3]; exact vin hn
  have h4 : (if (60 : Int32) < e 4 0 + 1 then (60 : Int32) else e 4 0 + 1) = nI (if c < 60 then c + 1 else 60) := by
    rw [e4, show (nI c + 1 : Int32) = nI (c + 1) from nI_add c 1]
    by_cases q : c < 60
    · rw [if_neg (fun z => by have := (nI_ltI (a := 60) (by omega) (by omega)).mp z; omega), if_pos q]
    · rw [if_pos (show (60 : Int32) < _ from (nI_ltI (a := 60) (by omega) (by omega)).mpr (by omega)), if_neg q]; rfl
  have h3 : (e 3 0).toNatClampNeg = nx := by rw [e3, nI_clamp (by omega)]
  have e1 : e 3 0 + 1 = nI (nx + 1) := by rw [e3]; exact nI_add nx 1
  refine rT_get ?_
  unfold m_Events_add
  refine rT_ck hv (rT_lz (rT_ck hv (rT_lz (rT_ck hv (rT_lz (rT_if (fun q => rT_lz (rT_lz (rT_some ?_))) (fun q => rT_lz (rT_lz (rT_some ?_)))))))))
  · have q : (60 : Int32) ≤ e 3 0 + 1 := q
    show sc (sc (st (st (st e 0 (upd (e 0) (e 3 0).toNatClampNeg v1)) 1 (upd (e 1) (e 3 0).toNatClampNeg v2)) 2 (upd (e 2) (e 3 0).toNatClampNeg v3)) 3 0) 4 (if (60 : Int32) < e 4 0 + 1 then (60 : Int32) else e 4 0 + 1) = _
    rw [h4, h3]
    rw [e1] at q
    have := (nI_leI (a := 60) (by omega) (by omega)).mp q
    rw [if_neg (show ¬ nx + 1 < 60 by omega)]; rfl
  · have q : ¬ (60 : Int32) ≤ e 3 0 + 1 := q
    show sc (sc (st (st (st e 0 (upd (e 0) (e 3 0).toNatClampNeg v1)) 1 (upd (e 1) (e 3 0).toNatClampNeg v2)) 2 (upd (e 2) (e 3 0).toNatClampNeg v3)) 3 (e 3 0 + 1)) 4 (if (60 : Int32) < e 4 0 + 1 then (60 : Int32) else e 4 0 + 1) = _
    rw [h4, h3, e1]
    rw [e1] at q
    rw [if_pos (show nx + 1 < 60 from Nat.lt_of_not_le (fun z => q ((nI_leI (a := 60) (by omega) (by omega)).mpr z)))]
def Ev (y y' : St) : Prop := ∀ f : Nat, f < 36 ∨ 39 < f → y' f = y f
theorem ev_rel {c nx : Nat} {e y y' : St} {v1 v2 v3 : Int32} (hc : c ≤ 60) (hn : nx < 60) (hev : ∀ k : Nat, k < c → e 0 ((nx + 59 - k) % 60) = y 37 (c - 1 - k) ∧ e 1 ((nx + 59 - k) % 60) = y 38 (c - 1 - k) ∧ e 2 ((nx + 59 - k) % 60) = y 39 (c - 1 - k)) (h36 : y' 36 0 = nI (if c < 60 then c + 1 else 60)) (hnew : y' 37 (if c < 60 then c else 59) = v1 ∧ y' 38 (if c < 60 then c else 59) = v2 ∧ y' 39 (if c < 60 then c else 59) = v3) (hold : ∀ j : Nat, j < (if c < 60 then c else 59) → y' 37 j = y 37 (if c < 60 then j else j + 1) ∧ y' 38 j = y 38 (if c < 60 then j else j + 1) ∧ y' 39 j = y 39 (if c < 60 then j else j + 1)) : rEv (sc (sc (st (st (st e 0 (upd (e 0) nx v1)) 1 (upd (e 1) nx v2)) 2 (upd (e 2) nx v3)) 3 (nI (if nx + 1 < 60 then nx + 1 else 0))) 4 (nI (if c < 60 then c + 1 else 60))) y' := by
  refine ⟨if c < 60 then c + 1 else 60, if nx + 1 < 60 then nx + 1 else 0, by split <;> omega, by split <;> omega, h36, rfl, rfl, fun k hk => ?_⟩
  show upd (e 0) nx v1 (((if nx + 1 < 60 then nx + 1 else 0) + 59 - k) % 60) = _ ∧ upd (e 1) nx v2 (((if nx + 1 < 60 then nx + 1 else 0) + 59 - k) % 60) = _ ∧ upd (e 2) nx v3 (((if nx + 1 < 60 then nx + 1 else 0) + 59 - k) % 60) = _
  by_cases e0 : k = 0
  · subst e0
    have i1 : ((if nx + 1 < 60 then nx + 1 else 0) + 59 - 0) % 60 = nx := by split <;> omega
    have i2 : (if c < 60 then c + 1 else 60) - 1 - 0 = (if c < 60 then c else 59) := by split <;> omega
    rw [i1, i2, upd_e, upd_e, upd_e]
    exact ⟨hnew.1.symm, hnew.2.1.symm, hnew.2.2.symm⟩
  · have hk60 : k < 60 ∧ k - 1 < c := by
      split at hk <;> omega
    have i1 : ((if nx + 1 < 60 then nx + 1 else 0) + 59 - k) % 60 = (nx + 59 - (k - 1)) % 60 := by split <;> omega
    have i3 : (nx + 59 - (k - 1)) % 60 ≠ nx := by omega
    have i2 : (if c < 60 then c + 1 else 60) - 1 - k < (if c < 60 then c else 59) := by split <;> omega
    have i4 : (if c < 60 then (if c < 60 then c + 1 else 60) - 1 - k else (if c < 60 then c + 1 else 60) - 1 - k + 1) = c - 1 - (k - 1) := by split <;> omega
    obtain ⟨o1, o2, o3⟩ := hold _ i2
    obtain ⟨p1, p2, p3⟩ := hev (k - 1) hk60.2
    rw [i1, upd_n i3, upd_n i3, upd_n i3, o1, o2, o3, i4]
    exact ⟨p1, p2, p3⟩
theorem q_tell {F : Nat} {e y : St} (hF : 100000 ≤ F) (hE : rEv e y) (v d : Int32) : ∃ e' y' : St, m_Events_add F e (y 2 0) v d = some e' ∧ m_MD_tell F y v d = some y' ∧ rEv e' y' ∧ Ev y y' := by
  obtain ⟨c, nx, hc60, hnx, e36, x4, x3, hev⟩ := hE
  have hcl := ev_add (F := F) (v1 := y 2 0) (v2 := v) (v3 := d) hc60 hnx x4 x3
  have hq : rT (m_MD_tell F y v d) (fun y' => y' 36 0 = nI (if c < 60 then c + 1 else 60) ∧ (y' 37 (if c < 60 then c else 59) = y 2 0 ∧ y' 38 (if c < 60 then c else 59) = v ∧ y' 39 (if c < 60 then c else 59) = d) ∧ (∀ j : Nat, j < (if c < 60 then c else 59) → y' 37 j = y 37 (if c < 60 then j else j + 1) ∧ y' 38 j = y 38 (if c < 60 then j else j + 1) ∧ y' 39 j = y 39 (if c < 60 then j else j + 1)) ∧ Ev y y') := by
    unfold m_MD_tell
    rw [e36]
    refine rT_if (fun q => ?_) (fun q => ?_)
    · have ec : c = 60 := (nI_eq (b := 60) (by omega) (by omega)).mp q
      subst ec
      refine rT_lq2 59 (fun i u z => u = nI (i + 1) ∧ Ev y z ∧ z 36 0 = nI 60 ∧ (∀ j : Nat, j < i → z 37 j = y 37 (j + 1) ∧ z 38 j = y 38 (j + 1) ∧ z 39 j = y 39 (j + 1)) ∧ (∀ j : Nat, i ≤ j → z 37 j = y 37 j ∧ z 38 j = y 38 j ∧ z 39 j = y 39 j)) ?_ F 0 1 y (by omega) (by omega) ⟨rfl, fun _ _ => rfl, e36, fun j hj => by omega, fun j _ => ⟨rfl, rfl, rfl⟩⟩
      intro i r u z hi hI hrec
      obtain ⟨eu, hfr, h36, hlo, hhi⟩ := hI
      subst eu
      unfold m_MD_tell_B11
      refine rT_if (fun g => ?_) (fun g => ?_)
      · have := (nI_leI (a := 60) (by omega) (by omega)).mp g
        have ei : i = 59 := by omega
        subst ei
        refine rT_lz ?_
        have e59 : z 36 0 - 1 = nI 59 := by rw [h36]; decide
        rw [e59]
        refine rT_ck (vin (by decide)) (rT_lz (rT_ck (vin (by decide)) (rT_lz (rT_ck (vin (by decide)) (rT_lz (rT_lz (rT_some ?_)))))))
        refine ⟨?_, ⟨?_, ?_, ?_⟩, fun j hj => ?_, fun f hf => ?_⟩
        · show nI 59 + 1 = nI 60
          exact nI_add 59 1
        · show upd (z 37) (nI 59).toNatClampNeg (z 2 0) 59 = y 2 0
          rw [nI_clamp (by omega), upd_e, hfr 2 (by omega)]
        · show upd (z 38) (nI 59).toNatClampNeg v 59 = v
          rw [nI_clamp (by omega), upd_e]
        · show upd (z 39) (nI 59).toNatClampNeg d 59 = d
          rw [nI_clamp (by omega), upd_e]
        · have hj : j < 59 := hj
          show upd (z 37) (nI 59).toNatClampNeg (z 2 0) j = y 37 (j + 1) ∧ upd (z 38) (nI 59).toNatClampNeg v j = y 38 (j + 1) ∧ upd (z 39) (nI 59).toNatClampNeg d j = y 39 (j + 1)
          rw [nI_clamp (by omega), upd_n (by omega), upd_n (by omega), upd_n (by omega)]
          exact hlo j hj
        · rw [sc_n (by omega), st_n (by omega), st_n (by omega), st_n (by omega), sc_n (by omega)]
          exact hfr f hf
      have hi' : i < 59 := Nat.lt_of_not_le (fun q => g ((nI_leI (a := 60) (by omega) (by omega)).mpr (by omega)))
      have em : (nI (i + 1) - 1 : Int32) = nI i := pk_sub (b := 1) (by omega)
      rw [em, nI_clamp (by omega), nI_clamp (by omega), show (nI (i + 1) + 1 : Int32) = nI (i + 1 + 1) from nI_add (i + 1) 1]
      refine rT_ck (vin (by omega)) (rT_ck (vin (by omega)) (rT_lz (rT_ck (vin (by omega)) (rT_ck (vin (by omega)) (rT_lz (rT_ck (vin (by omega)) (rT_ck (vin (by omega)) (rT_lz (hrec _ _ hi' ⟨rfl, fun f hf => ?_, h36, fun j hj => ?_, fun j hj => ?_⟩)))))))))
      · rw [st_n (by omega), st_n (by omega), st_n (by omega)]
        exact hfr f hf
      · show upd (z 37) i (z 37 (i + 1)) j = y 37 (j + 1) ∧ upd (z 38) i (z 38 (i + 1)) j = y 38 (j + 1) ∧ upd (z 39) i (z 39 (i + 1)) j = y 39 (j + 1)
        by_cases e : j = i
        · subst e
          rw [upd_e, upd_e, upd_e]
          exact hhi (j + 1) (by omega)
        · rw [upd_n e, upd_n e, upd_n e]
          exact hlo j (by omega)
      · show upd (z 37) i (z 37 (i + 1)) j = y 37 j ∧ upd (z 38) i (z 38 (i + 1)) j = y 38 j ∧ upd (z 39) i (z 39 (i + 1)) j = y 39 j
        rw [upd_n (by omega), upd_n (by omega), upd_n (by omega)]
        exact hhi j (by omega)
    · have hc : c < 60 := by
        rcases Nat.lt_or_ge c 60 with p | p
        · exact p
        · exact absurd (show nI c = 60 by rw [show c = 60 by omega]; rfl) q
      rw [if_pos hc, if_pos hc]
      refine rT_ck (vin hc) (rT_lz ?_)
      show rT (ck (y 36 0) 60 _) _
      rw [e36]
      refine rT_ck (vin hc) (rT_lz ?_)
      show rT (ck (y 36 0) 60 _) _
      rw [e36]
      refine rT_ck (vin hc) (rT_lz (rT_lz (rT_some ?_)))
      refine ⟨?_, ⟨?_, ?_, ?_⟩, fun j hj => ?_, fun f hf => ?_⟩
      · show y 36 0 + 1 = nI (c + 1)
        rw [e36]; exact nI_add c 1
      · show upd (y 37) (nI c).toNatClampNeg (y 2 0) c = y 2 0
        rw [nI_clamp (by omega), upd_e]
      · show upd (y 38) (y 36 0).toNatClampNeg v c = v
        rw [e36, nI_clamp (by omega), upd_e]
      · show upd (y 39) (y 36 0).toNatClampNeg d c = d
        rw [e36, nI_clamp (by omega), upd_e]
      · simp only [if_pos hc]
        show upd (y 37) (nI c).toNatClampNeg (y 2 0) j = y 37 j ∧ upd (y 38) (y 36 0).toNatClampNeg v j = y 38 j ∧ upd (y 39) (y 36 0).toNatClampNeg d j = y 39 j
        rw [e36, nI_clamp (by omega), upd_n (by omega), upd_n (by omega), upd_n (by omega)]
        exact ⟨rfl, rfl, rfl⟩
      · rw [sc_n (by omega), st_n (by omega), st_n (by omega), st_n (by omega)]
  obtain ⟨y', hy', h1, h2, h3, h4⟩ := hq
  exact ⟨_, y', hcl, hy', ev_rel hc60 hnx hev h1 h2 h3, h4⟩

-- THE PURE SIDE: a calculus for 'the model comes to an end with an answer that has P'
def rT {α : Type} (o : Option α) (P : α → Prop) : Prop := ∃ a, o = some a ∧ P a
abbrev r2 {α β : Type} (o : Option α) (q : Option β) (P : α → β → Prop) : Prop := ∃ (a : α) (b : β), o = some a ∧ q = some b ∧ P a b
theorem r2_l {α β : Type} {o : Option α} {q : Option β} {P : α → β → Prop} (h : rT o (fun a => rT q (fun b => P a b))) : r2 o q P := by
  obtain ⟨a, h1, b, h2, h3⟩ := h
  exact ⟨a, b, h1, h2, h3⟩
theorem r2_r {α β : Type} {o : Option α} {q : Option β} {P : α → β → Prop} (h : rT q (fun b => rT o (fun a => P a b))) : r2 o q P := by
  obtain ⟨b, h1, a, h2, h3⟩ := h
  exact ⟨a, b, h2, h1, h3⟩
theorem r2_tl {α β : Type} {o : Option α} {q : Option β} {P : α → β → Prop} (h : r2 o q P) : rT o (fun a => rT q (fun b => P a b)) := by
  obtain ⟨a, b, h1, h2, h3⟩ := h
  exact ⟨a, h1, b, h2, h3⟩
theorem r2_tr {α β : Type} {o : Option α} {q : Option β} {P : α → β → Prop} (h : r2 o q P) : rT q (fun b => rT o (fun a => P a b)) := by
  obtain ⟨a, b, h1, h2, h3⟩ := h
  exact ⟨b, h2, a, h1, h3⟩
theorem rT_some {α : Type} {a : α} {P : α → Prop} (h : P a) : rT (some a) P := ⟨a, rfl, h⟩
theorem rT_eq {α : Type} {o : Option α} {a : α} {P : α → Prop} (e : o = some a) (h : P a) : rT o P := ⟨a, e, h⟩
theorem rT_mono {α : Type} {o : Option α} {P Q : α → Prop} (h : rT o P) (k : ∀ a, P a → Q a) : rT o Q := by
  obtain ⟨a, h1, h2⟩ := h
  exact ⟨a, h1, k a h2⟩
theorem rT_get {α : Type} {o : Option α} {a : α} (h : rT o (fun z => z = a)) : o = some a := by
  obtain ⟨b, h1, rfl⟩ := h
  exact h1
theorem rT_lz {A R : Type} {a : A} {k : A → Option R} {P : R → Prop} (h : rT (k a) P) : rT (lz a k) P := h
theorem rT_ck {α : Type} {i : Int32} {n : Nat} {r : Option α} {P : α → Prop} (h : vp_in i n) (k : rT r P) : rT (ck i n r) P := by
  rw [ck_in h]; exact k
theorem ckb_e {α : Type} {v : Int32} {r : Option α} (h : v = 0 ∨ v = 1) : ckb v r = r := by unfold ckb; rw [if_pos h]
theorem ckc_e {α : Type} {v : Int32} {r : Option α} (h : ¬ (v < 0 ∨ 65535 < v)) : ckc v r = r := by unfold ckc; rw [if_neg h]
theorem rT_ckb {α : Type} {v : Int32} {r : Option α} {P : α → Prop} (h : v = 0 ∨ v = 1) (k : rT r P) : rT (ckb v r) P := by
  rw [ckb_e h]; exact k
theorem rT_ckc {α : Type} {v : Int32} {r : Option α} {P : α → Prop} (h : ¬ (v < 0 ∨ 65535 < v)) (k : rT r P) : rT (ckc v r) P := by
  rw [ckc_e h]; exact k
theorem rT_if {α : Type} {c : Prop} [Decidable c] {a b : Option α} {P : α → Prop} (h1 : c → rT a P) (h2 : ¬ c → rT b P) : rT (if c then a else b) P := by
  by_cases hc : c
  · rw [if_pos hc]; exact h1 hc
  · rw [if_neg hc]; exact h2 hc
theorem rT_ip {α : Type} {c : Prop} [Decidable c] {a b : Option α} {P : α → Prop} (hc : c) (h : rT a P) : rT (if c then a else b) P := by
  rw [if_pos hc]; exact h
theorem rT_in {α : Type} {c : Prop} [Decidable c] {a b : Option α} {P : α → Prop} (hc : ¬ c) (h : rT b P) : rT (if c then a else b) P := by
  rw [if_neg hc]; exact h
theorem n10 : ¬ (1 : Int32) = 0 := by decide
theorem rT_i0 {α : Type} {a b : Option α} {P : α → Prop} (h : rT a P) : rT (if (0 : Int32) = (0 : Int32) then a else b) P := by
  rw [if_pos rfl]; exact h
theorem rT_i1 {α : Type} {a b : Option α} {P : α → Prop} (h : rT b P) : rT (if (1 : Int32) = (0 : Int32) then a else b) P := by
  rw [if_neg n10]; exact h
theorem rT_bn1 {A R : Type} {o : Option A} {k : A → Option R} {Q : A → Prop} {P : R → Prop} (h : rT o Q) (g : ∀ a, Q a → rT (k a) P) : rT (bn1 o k) P := by
  obtain ⟨a, rfl, h⟩ := h
  exact g a h
theorem rT_bn2 {A B R : Type} {o : Option (A × B)} {k : A → B → Option R} {Q : A × B → Prop} {P : R → Prop} (h : rT o Q) (g : ∀ a b, Q (a, b) → rT (k a b) P) : rT (bn2 o k) P := by
  obtain ⟨⟨a, b⟩, rfl, h⟩ := h
  exact g a b h
theorem rT_bn3 {A B C R : Type} {o : Option (A × B × C)} {k : A → B → C → Option R} {Q : A × B × C → Prop} {P : R → Prop} (h : rT o Q) (g : ∀ a b c, Q (a, b, c) → rT (k a b c) P) : rT (bn3 o k) P := by
  obtain ⟨⟨a, b, c⟩, rfl, h⟩ := h
  exact g a b c h
theorem rT_bn4 {A B C D R : Type} {o : Option (A × B × C × D)} {k : A → B → C → D → Option R} {Q : A × B × C × D → Prop} {P : R → Prop} (h : rT o Q) (g : ∀ a b c d, Q (a, b, c, d) → rT (k a b c d) P) : rT (bn4 o k) P := by
  obtain ⟨⟨a, b, c, d⟩, rfl, h⟩ := h
  exact g a b c d h
theorem rT_bn5 {A B C D E R : Type} {o : Option (A × B × C × D × E)} {k : A → B → C → D → E → Option R} {Q : A × B × C × D × E → Prop} {P : R → Prop} (h : rT o Q) (g : ∀ a b c d e, Q (a, b, c, d, e) → rT (k a b c d e) P) : rT (bn5 o k) P := by
  obtain ⟨⟨a, b, c, d, e⟩, rfl, h⟩ := h
  exact g a b c d e h
theorem rT_e1 {A R : Type} {o : Option A} {k : A → Option R} {a : A} {P : R → Prop} (h : o = some a) (g : rT (k a) P) : rT (bn1 o k) P := by
  subst h; exact g
theorem rT_e2 {A B R : Type} {o : Option (A × B)} {k : A → B → Option R} {a : A} {b : B} {P : R → Prop} (h : o = some (a, b)) (g : rT (k a b) P) : rT (bn2 o k) P := by
  subst h; exact g
theorem rT_e3 {A B C R : Type} {o : Option (A × B × C)} {k : A → B → C → Option R} {a : A} {b : B} {c : C} {P : R → Prop} (h : o = some (a, b, c)) (g : rT (k a b c) P) : rT (bn3 o k) P := by
  subst h; exact g
-- truth values
noncomputable def tf (P : Prop) : Int32 := @ite Int32 P (Classical.propDecidable P) 1 0
theorem tf_p {P : Prop} (h : P) : tf P = 1 := by unfold tf; exact if_pos h
theorem tf_n {P : Prop} (h : ¬ P) : tf P = 0 := by unfold tf; exact if_neg h
theorem tf_0 {P : Prop} : tf P = 0 ↔ ¬ P := by
  by_cases h : P
  · rw [tf_p h]; exact ⟨fun e => absurd e n10, fun e => absurd h e⟩
  · rw [tf_n h]; exact ⟨fun _ => h, fun _ => rfl⟩
theorem tf_1 {P : Prop} : tf P = 1 ↔ P := by
  by_cases h : P
  · rw [tf_p h]; exact ⟨fun _ => h, fun _ => rfl⟩
  · rw [tf_n h]; exact ⟨fun e => absurd e.symm n10, fun e => absurd e h⟩
theorem tf_b (P : Prop) : tf P = 0 ∨ tf P = 1 := by
  by_cases h : P
  · exact Or.inr (tf_p h)
  · exact Or.inl (tf_n h)
theorem tf_c {P Q : Prop} (h : P ↔ Q) : tf P = tf Q := by rw [show P = Q from propext h]
theorem bt {R : Type} {P : Prop} {o : Option Int32} {k : Int32 → Option R} {Q : R → Prop} (h : rT o (fun r => r = tf P)) (g0 : ¬ P → rT (k 0) Q) (g1 : P → rT (k 1) Q) : rT (bn1 o k) Q := by
  obtain ⟨a, rfl, h⟩ := h
  by_cases hp : P
  · rw [tf_p hp] at h; subst h; exact g1 hp
  · rw [tf_n hp] at h; subst h; exact g0 hp
theorem bz {R : Type} {P : Prop} {o : Option Int32} {A B : Int32 → Option R} {Q : R → Prop} (h : rT o (fun r => r = tf P)) (g0 : ¬ P → rT (A 0) Q) (g1 : P → rT (B 1) Q) : rT (bn1 o (fun r => if r = (0 : Int32) then A r else B r)) Q :=
  bt h (fun hp => rT_i0 (g0 hp)) (fun hp => rT_i1 (g1 hp))
-- loops
theorem rT_lq1 {A R : Type} {f : (A → Option R) → A → Option R} {P : R → Prop} (N : Nat) (I : Nat → A → Prop) (h : ∀ (i : Nat) (r : A → Option R) (a : A), i ≤ N → I i a → (∀ a', i < N → I (i + 1) a' → rT (r a') P) → rT (f r a) P) : ∀ (n i : Nat) (a : A), i ≤ N → N < n + i → I i a → rT (lq1 f n a) P := by
  intro n
  induction n with
  | zero => intro i a hi hn _; omega
  | succ n ih => intro i a hi hn hI; exact h i (lq1 f n) a hi hI (fun a' hl hI' => ih (i + 1) a' hl (by omega) hI')
theorem rT_lq2 {A B R : Type} {f : (A → B → Option R) → A → B → Option R} {P : R → Prop} (N : Nat) (I : Nat → A → B → Prop) (h : ∀ (i : Nat) (r : A → B → Option R) (a : A) (b : B), i ≤ N → I i a b → (∀ a' b', i < N → I (i + 1) a' b' → rT (r a' b') P) → rT (f r a b) P) : ∀ (n i : Nat) (a : A) (b : B), i ≤ N → N < n + i → I i a b → rT (lq2 f n a b) P := by
  intro n
  induction n with
  | zero => intro i a b hi hn _; omega
  | succ n ih => intro i a b hi hn hI; exact h i (lq2 f n) a b hi hI (fun a' b' hl hI' => ih (i + 1) a' b' hl (by omega) hI')
theorem rT_lq3 {A B C R : Type} {f : (A → B → C → Option R) → A → B → C → Option R} {P : R → Prop} (N : Nat) (I : Nat → A → B → C → Prop) (h : ∀ (i : Nat) (r : A → B → C → Option R) (a : A) (b : B) (c : C), i ≤ N → I i a b c → (∀ a' b' c', i < N → I (i + 1) a' b' c' → rT (r a' b' c') P) → rT (f r a b c) P) : ∀ (n i : Nat) (a : A) (b : B) (c : C), i ≤ N → N < n + i → I i a b c → rT (lq3 f n a b c) P := by
  intro n
  induction n with
  | zero => intro i a b c hi hn _; omega
  | succ n ih => intro i a b c hi hn hI; exact h i (lq3 f n) a b c hi hI (fun a' b' c' hl hI' => ih (i + 1) a' b' c' hl (by omega) hI')
theorem rT_lq4 {A B C D R : Type} {f : (A → B → C → D → Option R) → A → B → C → D → Option R} {P : R → Prop} (N : Nat) (I : Nat → A → B → C → D → Prop) (h : ∀ (i : Nat) (r : A → B → C → D → Option R) (a : A) (b : B) (c : C) (d : D), i ≤ N → I i a b c d → (∀ a' b' c' d', i < N → I (i + 1) a' b' c' d' → rT (r a' b' c' d') P) → rT (f r a b c d) P) : ∀ (n i : Nat) (a : A) (b : B) (c : C) (d : D), i ≤ N → N < n + i → I i a b c d → rT (lq4 f n a b c d) P := by
  intro n
  induction n with
  | zero => intro i a b c d hi hn _; omega
  | succ n ih => intro i a b c d hi hn hI; exact h i (lq4 f n) a b c d hi hI (fun a' b' c' d' hl hI' => ih (i + 1) a' b' c' d' hl (by omega) hI')
theorem rT_J {A B R S : Type} {r : Nat → A → Option R} {s : Nat → B → Option S} {P : R → S → Prop} (N : Nat) (I : Nat → A → B → Prop) (h : ∀ (i n m : Nat) (a : A) (b : B), i ≤ N → I i a b → (∀ a' b', i < N → I (i + 1) a' b' → r2 (r n a') (s m b') P) → r2 (r (n + 1) a) (s (m + 1) b) P) : ∀ (n m i : Nat) (a : A) (b : B), i ≤ N → N < n + i → N < m + i → I i a b → r2 (r n a) (s m b) P := by
  intro n
  induction n with
  | zero => intro m i a b hi hn _ _; omega
  | succ n ih =>
    intro m i a b hi hn hm hI
    obtain ⟨m, rfl⟩ : ∃ m', m = m' + 1 := ⟨m - 1, by omega⟩
    exact h i n m a b hi hI (fun a' b' hl hI' => ih m (i + 1) a' b' hl (by omega) (by omega) hI')
-- numbers
theorem l_0 : (0 : Int32) = nI 0 := rfl
theorem l_1 : (1 : Int32) = nI 1 := rfl
theorem l_2 : (2 : Int32) = nI 2 := rfl
theorem l_3 : (3 : Int32) = nI 3 := rfl
theorem l_4 : (4 : Int32) = nI 4 := rfl
theorem l_5 : (5 : Int32) = nI 5 := rfl
theorem l_6 : (6 : Int32) = nI 6 := rfl
theorem l_7 : (7 : Int32) = nI 7 := rfl
theorem l_8 : (8 : Int32) = nI 8 := rfl
theorem l_9 : (9 : Int32) = nI 9 := rfl
theorem l_10 : (10 : Int32) = nI 10 := rfl
theorem l_12 : (12 : Int32) = nI 12 := rfl
theorem l_19 : (19 : Int32) = nI 19 := rfl
theorem l_20 : (20 : Int32) = nI 20 := rfl
theorem l_32 : (32 : Int32) = nI 32 := rfl
theorem l_38 : (38 : Int32) = nI 38 := rfl
theorem l_40 : (40 : Int32) = nI 40 := rfl
theorem l_41 : (41 : Int32) = nI 41 := rfl
theorem l_47 : (47 : Int32) = nI 47 := rfl
theorem l_48 : (48 : Int32) = nI 48 := rfl
theorem l_50 : (50 : Int32) = nI 50 := rfl
theorem l_57 : (57 : Int32) = nI 57 := rfl
theorem l_58 : (58 : Int32) = nI 58 := rfl
theorem l_59 : (59 : Int32) = nI 59 := rfl
theorem l_60 : (60 : Int32) = nI 60 := rfl
theorem l_96 : (96 : Int32) = nI 96 := rfl
theorem l_97 : (97 : Int32) = nI 97 := rfl
theorem l_99 : (99 : Int32) = nI 99 := rfl
theorem l_100 : (100 : Int32) = nI 100 := rfl
theorem l_122 : (122 : Int32) = nI 122 := rfl
theorem l_123 : (123 : Int32) = nI 123 := rfl
theorem l_127 : (127 : Int32) = nI 127 := rfl
theorem l_200 : (200 : Int32) = nI 200 := rfl
theorem l_207 : (207 : Int32) = nI 207 := rfl
theorem l_240 : (240 : Int32) = nI 240 := rfl
theorem l_600 : (600 : Int32) = nI 600 := rfl
theorem l_999 : (999 : Int32) = nI 999 := rfl
theorem l_1000 : (1000 : Int32) = nI 1000 := rfl
theorem l_2000 : (2000 : Int32) = nI 2000 := rfl
theorem l_9999 : (9999 : Int32) = nI 9999 := rfl
theorem l_10000 : (10000 : Int32) = nI 10000 := rfl
theorem l_20000 : (20000 : Int32) = nI 20000 := rfl
theorem l_20577 : (20577 : Int32) = nI 20577 := rfl
theorem l_143848 : (143848 : Int32) = nI 143848 := rfl
theorem l_145707 : (145707 : Int32) = nI 145707 := rfl
theorem l_178682 : (178682 : Int32) = nI 178682 := rfl
theorem l_374834 : (374834 : Int32) = nI 374834 := rfl
theorem l_464151 : (464151 : Int32) = nI 464151 := rfl
theorem l_628196 : (628196 : Int32) = nI 628196 := rfl
theorem l_1000000 : (1000000 : Int32) = nI 1000000 := rfl
theorem l_20059310 : (20059310 : Int32) = nI 20059310 := rfl
theorem l_26259620 : (26259620 : Int32) = nI 26259620 := rfl
theorem nm_1 {n : Nat} (h : n < 2 ^ 31) : (nI n = -nI 1) ↔ False := by
  refine ⟨fun e => ?_, False.elim⟩
  have e1 := congrArg Int32.toInt e
  rw [nI_toInt h, show (-nI 1 : Int32).toInt = -1 from by decide +kernel] at e1
  omega
theorem nm_2 {n : Nat} (h : n < 2 ^ 31) : (nI n < -nI 1) ↔ False := by
  refine ⟨fun e => ?_, False.elim⟩
  rw [Int32.lt_iff_toInt_lt, nI_toInt h, show (-nI 1 : Int32).toInt = -1 from by decide +kernel] at e
  omega
theorem nm_3 {n : Nat} (h : n < 2 ^ 31) : (nI n ≤ -nI 1) ↔ False := by
  refine ⟨fun e => ?_, False.elim⟩
  rw [Int32.le_iff_toInt_le, nI_toInt h, show (-nI 1 : Int32).toInt = -1 from by decide +kernel] at e
  omega
theorem nm_4 {n : Nat} (h : n < 2 ^ 31) : (-nI 1 = nI n) ↔ False := by
  refine ⟨fun e => ?_, False.elim⟩
  exact (nm_1 h).mp e.symm
theorem nm_5 {n : Nat} (h : n < 2 ^ 31) : (-nI 1 < nI n) ↔ True := by
  refine ⟨fun _ => trivial, fun _ => ?_⟩
  rw [Int32.lt_iff_toInt_lt, nI_toInt h, show (-nI 1 : Int32).toInt = -1 from by decide +kernel]
  omega
theorem nm_6 {n : Nat} (h : n < 2 ^ 31) : (-nI 1 ≤ nI n) ↔ True := by
  refine ⟨fun _ => trivial, fun _ => ?_⟩
  rw [Int32.le_iff_toInt_le, nI_toInt h, show (-nI 1 : Int32).toInt = -1 from by decide +kernel]
  omega
theorem nm_7 : (-nI 1 = -nI 1) ↔ True := ⟨fun _ => trivial, fun _ => rfl⟩
theorem nm_8 {n : Nat} (h : 0 < n) : nI n + -nI 1 = nI (n - 1) := by
  obtain ⟨k, rfl⟩ : ∃ k, n = k + 1 := ⟨n - 1, by omega⟩
  rw [← nI_add, Int32.add_assoc, show (nI 1 + -nI 1 : Int32) = 0 from by decide +kernel, Int32.add_zero, Nat.add_sub_cancel]
theorem nm1 : (-1 : Int32) = -nI 1 := rfl
theorem vin {n N : Nat} (h : n < N) (hN : N < 2 ^ 31 := by omega) : vp_in (nI n) N := vp_in_nI h hN
theorem vb1 : vp_nar .boolean (1 : Int32) = 1 := by decide +kernel
theorem vb0 : vp_nar .boolean (0 : Int32) = 0 := by decide +kernel
theorem vbo (v : Int32) : vp_nar .boolean v = 0 ∨ vp_nar .boolean v = 1 := by
  have e : vp_nar .boolean v = v &&& 1 := rfl
  rw [e, pk_and v 1 (by decide)]
  have h : v.toBitVec.toNat % 2 ^ 1 < 2 := Nat.mod_lt _ (by decide)
  rcases (show v.toBitVec.toNat % 2 ^ 1 = 0 ∨ v.toBitVec.toNat % 2 ^ 1 = 1 by omega) with q | q
  · left; rw [q]; rfl
  · right; rw [q]; rfl
-- cells
theorem nb {j k : Nat} (h : j ≠ k) : Nat.beq j k = false := by
  cases e : Nat.beq j k with
  | false => rfl
  | true => exact absurd (Nat.eq_of_beq_eq_true e) h
theorem upd_e {f : Nat → Int32} {k : Nat} {v : Int32} : upd f k v k = v := by unfold upd; rw [if_pos rfl]
theorem upd_n {f : Nat → Int32} {k j : Nat} {v : Int32} (h : j ≠ k) : upd f k v j = f j := by unfold upd; rw [if_neg h]
theorem st_e {x : St} {k : Nat} {f : Nat → Int32} : st x k f k = f := by unfold st; rw [Nat.beq_refl]; rfl
theorem st_n {x : St} {k j : Nat} {f : Nat → Int32} (h : j ≠ k) : st x k f j = x j := by
  unfold st; rw [nb h]; rfl
theorem sc_e {x : St} {k i : Nat} {v : Int32} : sc x k v k i = v := by unfold sc; rw [Nat.beq_refl]; rfl
theorem sc_n {x : St} {k j : Nat} {v : Int32} (h : j ≠ k) : sc x k v j = x j := by
  unfold sc; rw [nb h]; rfl
theorem up_e {x : Nat → St} {k : Nat} {z : St} : up x k z k = z := by unfold up; rw [Nat.beq_refl]; rfl
theorem up_n {x : Nat → St} {k j : Nat} {z : St} (h : j ≠ k) : up x k z j = x j := by
  unfold up; rw [nb h]; rfl
theorem up_self {x : Nat → St} {k : Nat} : up x k (x k) = x := by
  funext j
  by_cases h : j = k
  · subst h; exact up_e
  · exact up_n h
-- counting
noncomputable def cn (p : Nat → Prop) : Nat → Nat
  | 0 => 0
  | i + 1 => cn p i + @ite Nat (p i) (Classical.propDecidable (p i)) 1 0
theorem cn_p {p : Nat → Prop} {i : Nat} (h : p i) : cn p (i + 1) = cn p i + 1 := by
  show cn p i + @ite Nat (p i) (Classical.propDecidable (p i)) 1 0 = _
  rw [if_pos h]
theorem cn_n {p : Nat → Prop} {i : Nat} (h : ¬ p i) : cn p (i + 1) = cn p i := by
  show cn p i + @ite Nat (p i) (Classical.propDecidable (p i)) 1 0 = _
  rw [if_neg h]; rfl
theorem cn_le (p : Nat → Prop) (i : Nat) : cn p i ≤ i := by
  induction i with
  | zero => exact Nat.le_refl 0
  | succ i ih =>
    by_cases h : p i
    · rw [cn_p h]; omega
    · rw [cn_n h]; omega
theorem cn_c {p q : Nat → Prop} {n : Nat} (h : ∀ i, i < n → (p i ↔ q i)) : cn p n = cn q n := by
  induction n with
  | zero => rfl
  | succ n ih =>
    have e := ih (fun i hi => h i (by omega))
    by_cases hp : p n
    · rw [cn_p hp, cn_p ((h n (by omega)).mp hp), e]
    · rw [cn_n hp, cn_n (fun z => hp ((h n (by omega)).mpr z)), e]
theorem cn_mono {p q : Nat → Prop} {n : Nat} (h : ∀ i, i < n → p i → q i) : cn p n ≤ cn q n := by
  induction n with
  | zero => exact Nat.le_refl 0
  | succ n ih =>
    have e := ih (fun i hi => h i (by omega))
    by_cases hp : p n
    · rw [cn_p hp, cn_p (h n (by omega) hp)]; omega
    · rw [cn_n hp]
      by_cases hq : q n
      · rw [cn_p hq]; omega
      · rw [cn_n hq]; exact e
theorem cn_z {p : Nat → Prop} {n : Nat} (h : ∀ i, i < n → ¬ p i) : cn p n = 0 := by
  induction n with
  | zero => rfl
  | succ n ih => rw [cn_n (h n (by omega))]; exact ih (fun i hi => h i (by omega))
theorem cn_ins {p : Nat → Prop} {n a : Nat} (ha : a < n) (hp : ¬ p a) : cn (fun d => p d ∨ d = a) n = cn p n + 1 := by
  induction n with
  | zero => omega
  | succ n ih =>
    by_cases e : a = n
    · subst e
      rw [cn_p (p := fun d => p d ∨ d = a) (Or.inr rfl), cn_n hp, cn_c (q := p) (fun i hi => ⟨fun z => z.elim id (fun e => by omega), Or.inl⟩)]
    · have e1 := ih (by omega)
      by_cases hq : p n
      · rw [cn_p (p := fun d => p d ∨ d = a) (Or.inl hq), cn_p hq, e1]
      · rw [cn_n (p := fun d => p d ∨ d = a) (fun z => z.elim hq (fun e2 => e e2.symm)), cn_n hq, e1]
theorem cn_img {g : Nat → Nat} {n : Nat} : ∀ (q : Nat), (∀ r, r < q → g r < n) → (∀ r s, r < q → s < r → g s ≠ g r) → cn (fun d => ∃ r, r < q ∧ d = g r) n = q := by
  intro q
  induction q with
  | zero => intro _ _; exact cn_z (fun i _ z => by obtain ⟨r, hr, _⟩ := z; omega)
  | succ q ih =>
    intro h1 h2
    have e := ih (fun r hr => h1 r (by omega)) (fun r s hr hs => h2 r s (by omega) hs)
    have e2 := cn_ins (p := fun d => ∃ r, r < q ∧ d = g r) (n := n) (a := g q) (h1 q (by omega)) (fun z => by obtain ⟨r, hr, er⟩ := z; exact h2 q r (by omega) hr er.symm)
    rw [e] at e2
    rw [← e2]
    refine cn_c (fun i _ => ⟨fun z => ?_, fun z => ?_⟩)
    · obtain ⟨r, hr, er⟩ := z
      by_cases c : r = q
      · exact Or.inr (by rw [er, c])
      · exact Or.inl ⟨r, by omega, er⟩
    · rcases z with ⟨r, hr, er⟩ | er
      · exact ⟨r, by omega, er⟩
      · exact ⟨q, by omega, er⟩
-- the way every call of the reference begins
theorem go0 {R : Type} {F : Nat} {y : St} {t : Int32} {k : Int32 → St → Option R} {P : R → Prop} (h : rT (k 0 (sc y 0 1)) P) : rT (bn2 (m_MD_goes F y 0 t) k) P := by
  refine rT_e2 (a := 0) (b := sc y 0 1) ?_ h
  unfold m_MD_goes lz
  rw [if_pos rfl]
  exact if_neg (show ¬ (sc y 0 (1 : Int32)) 0 0 = 0 from n10)
theorem go2 {R : Type} {F : Nat} {y : St} {k : Int32 → St → Option R} {P : R → Prop} (h : rT (k 0 (sc y 0 2)) P) : rT (bn2 (m_MD_goes F y 1 0) k) P := by
  refine rT_e2 (a := 0) (b := sc y 0 2) ?_ h
  unfold m_MD_goes lz
  rw [if_neg n10, if_pos rfl]
  exact if_neg (show ¬ (sc y 0 (2 : Int32)) 0 0 = 0 from (by decide : ¬ (2 : Int32) = 0))
theorem go1 {R : Type} {F : Nat} {y : St} {k : Int32 → St → Option R} {P : R → Prop} (h : rT (k 1 (sc y 0 0)) P) : rT (bn2 (m_MD_goes F y 1 1) k) P := by
  refine rT_e2 (a := 1) (b := sc y 0 0) ?_ h
  unfold m_MD_goes lz
  rw [if_neg n10, if_neg n10]
  exact if_pos (show (sc y 0 (0 : Int32)) 0 0 = 0 from rfl)
theorem p_within (F : Nat) (a lo hi : Int32) : rT (m_AM_isWithin F a lo hi) (fun r => r = tf (¬ a < lo ∧ ¬ hi < a)) := by
  unfold m_AM_isWithin
  refine rT_if (fun c => rT_some ?_) (fun c => rT_if (fun d => rT_some ?_) (fun d => rT_some ?_))
  · exact (tf_n (fun z => z.1 c)).symm
  · exact (tf_n (fun z => z.2 d)).symm
  · exact (tf_p ⟨c, d⟩).symm
theorem p_withinN (F : Nat) (a : Int32) (m : Nat) (hm : m < 2 ^ 31) : rT (m_AM_isWithin F a 0 (nI m)) (fun r => r = tf (∃ i : Nat, i ≤ m ∧ a = nI i)) := by
  refine rT_mono (p_within F a 0 (nI m)) (fun r e => ?_)
  rw [e]
  refine tf_c ⟨fun z => ?_, fun z => ?_⟩
  · obtain ⟨j, hj, rfl⟩ := nI_of z.1
    exact ⟨j, Nat.le_of_not_lt (fun q => z.2 ((nI_ltI hm hj).mpr q)), rfl⟩
  · obtain ⟨i, hi, rfl⟩ := z
    refine ⟨fun q => ?_, fun q => ?_⟩
    · exact Nat.not_lt_zero _ ((nI_ltI (b := 0) (by omega) (by omega)).mp q)
    · have := (nI_ltI hm (by omega)).mp q; omega
theorem lt0 {a : Int32} {m : Nat} (hm : m < 2 ^ 31) (hc : ¬ ∃ i : Nat, i < m ∧ a = nI i) (h0 : ¬ a < 0) : nI m ≤ a := by
  obtain ⟨j, hj, rfl⟩ := nI_of h0
  refine (nI_leI hm hj).mpr (Nat.le_of_not_lt (fun q => hc ⟨j, q, rfl⟩))
theorem rg {a : Int32} {m : Nat} (hm : m < 2 ^ 31) : (∃ i : Nat, i < m ∧ a = nI i) ↔ (¬ a < 0 ∧ ¬ nI m ≤ a) := by
  refine ⟨fun z => ?_, fun z => ?_⟩
  · obtain ⟨i, hi, rfl⟩ := z
    refine ⟨fun q => ?_, fun q => ?_⟩
    · exact Nat.not_lt_zero _ ((nI_ltI (b := 0) (by omega) (by omega)).mp q)
    · have := (nI_leI hm (by omega)).mp q; omega
  · obtain ⟨j, hj, rfl⟩ := nI_of z.1
    exact ⟨j, Nat.lt_of_not_le (fun q => z.2 ((nI_leI hm hj).mpr q)), rfl⟩

-- MY OWN TOOLS: states of objects, checks, binds; a method's entry, its calls, its ends
abbrev St : Type := Nat → Nat → Int32
def st (x : St) (k : Nat) (f : Nat → Int32) : St := fun j => bif Nat.beq j k then f else x j
def sc (x : St) (k : Nat) (v : Int32) : St := fun j => bif Nat.beq j k then (fun _ => v) else x j
def ck {α : Type} (i : Int32) (n : Nat) (r : Option α) : Option α := if i < 0 ∨ n ≤ i.toNatClampNeg then none else r
theorem ck_s {α : Type} {i : Int32} {n : Nat} {r : Option α} {o : α} (h : ck i n r = some o) : vp_in i n ∧ r = some o := by
  unfold ck at h
  by_cases hc : i < 0 ∨ n ≤ i.toNatClampNeg
  · rw [if_pos hc] at h; cases h
  · rw [if_neg hc] at h; exact ⟨hc, h⟩
theorem ck_in {α : Type} {i : Int32} {n : Nat} {r : Option α} (h : vp_in i n) : ck i n r = r := if_neg h
def ckb {α : Type} (v : Int32) (r : Option α) : Option α := if v = 0 ∨ v = 1 then r else none
theorem ckb_s {α : Type} {v : Int32} {r : Option α} {o : α} (h : ckb v r = some o) : narrow .boolean (.int v) = .int v ∧ r = some o := by
  unfold ckb at h
  by_cases hc : v = 0 ∨ v = 1
  · rw [if_pos hc] at h
    refine ⟨?_, h⟩
    rcases hc with rfl | rfl <;> decide +kernel
  · rw [if_neg hc] at h; cases h
def ckc {α : Type} (v : Int32) (r : Option α) : Option α := if v < 0 ∨ 65535 < v then none else r
theorem ckc_s {α : Type} {v : Int32} {r : Option α} {o : α} (h : ckc v r = some o) : narrow .char (.int v) = .int v ∧ r = some o := by
  unfold ckc at h
  by_cases hc : v < 0 ∨ 65535 < v
  · rw [if_pos hc] at h; cases h
  · rw [if_neg hc] at h
    refine ⟨?_, h⟩
    obtain ⟨j, hj, rfl⟩ := nI_of (x := v) (fun z => hc (Or.inl z))
    have hj2 : j < 65536 := by
      rcases Nat.lt_or_ge j 65536 with q | q
      · exact q
      · exact absurd (Or.inr (nI_lt (a := 65535) (b := j) (by omega) hj)) hc
    exact (pk_charN hj2).1
theorem if_t {α : Type} {c : Prop} [Decidable c] {a b : Option α} {o : α} (h : (if c then a else b) = some o) (hc : c) : a = some o := by rw [if_pos hc] at h; exact h
theorem if_f {α : Type} {c : Prop} [Decidable c] {a b : Option α} {o : α} (h : (if c then a else b) = some o) (hc : ¬ c) : b = some o := by rw [if_neg hc] at h; exact h
def lq1 {A R : Type} (f : (A → Option R) → A → Option R) : Nat → A → Option R
  | 0 => fun _ => none
  | n + 1 => f (lq1 f n)
def lq2 {A B R : Type} (f : (A → B → Option R) → A → B → Option R) : Nat → A → B → Option R
  | 0 => fun _ _ => none
  | n + 1 => f (lq2 f n)
def lq3 {A B C R : Type} (f : (A → B → C → Option R) → A → B → C → Option R) : Nat → A → B → C → Option R
  | 0 => fun _ _ _ => none
  | n + 1 => f (lq3 f n)
def lq4 {A B C D R : Type} (f : (A → B → C → D → Option R) → A → B → C → D → Option R) : Nat → A → B → C → D → Option R
  | 0 => fun _ _ _ _ => none
  | n + 1 => f (lq4 f n)
def lq5 {A B C D E R : Type} (f : (A → B → C → D → E → Option R) → A → B → C → D → E → Option R) : Nat → A → B → C → D → E → Option R
  | 0 => fun _ _ _ _ _ => none
  | n + 1 => f (lq5 f n)
theorem lq1_h {A R : Type} {f : (A → Option R) → A → Option R} {n : Nat} {a : A} {o : R} (h : lq1 f (n + 1) a = some o) : f (lq1 f n) a = some o := h
theorem lq2_h {A B R : Type} {f : (A → B → Option R) → A → B → Option R} {n : Nat} {a : A} {b : B} {o : R} (h : lq2 f (n + 1) a b = some o) : f (lq2 f n) a b = some o := h
theorem lq3_h {A B C R : Type} {f : (A → B → C → Option R) → A → B → C → Option R} {n : Nat} {a : A} {b : B} {c : C} {o : R} (h : lq3 f (n + 1) a b c = some o) : f (lq3 f n) a b c = some o := h
theorem lq4_h {A B C D R : Type} {f : (A → B → C → D → Option R) → A → B → C → D → Option R} {n : Nat} {a : A} {b : B} {c : C} {d : D} {o : R} (h : lq4 f (n + 1) a b c d = some o) : f (lq4 f n) a b c d = some o := h
theorem lq5_h {A B C D E R : Type} {f : (A → B → C → D → E → Option R) → A → B → C → D → E → Option R} {n : Nat} {a : A} {b : B} {c : C} {d : D} {e : E} {o : R} (h : lq5 f (n + 1) a b c d e = some o) : f (lq5 f n) a b c d e = some o := h
theorem sw_out {x : Int32} {lo : Int} {n : Nat} (hn : -2147483648 ≤ lo ∧ lo + n ≤ 2147483648) (h : ∀ k : Nat, k < n → ¬ x = Int32.ofInt (lo + k)) : x.toInt < lo ∨ lo + n - 1 < x.toInt := by
  rcases Int.lt_or_le x.toInt lo with q | q
  · exact Or.inl q
  · rcases Int.lt_or_le (lo + n - 1) x.toInt with q2 | q2
    · exact Or.inr q2
    · refine absurd ?_ (h (x.toInt - lo).toNat (by omega))
      have : lo + ((x.toInt - lo).toNat : Int) = x.toInt := by omega
      rw [this, Int32.ofInt_toInt]
def lz {A R : Type} (a : A) (k : A → Option R) : Option R := k a
theorem lz_s {A R : Type} {a : A} {k : A → Option R} {o : R} (h : lz a k = some o) : ∃ z, z = a ∧ k z = some o := ⟨a, rfl, h⟩
def bn1 {A R : Type} (o : Option A) (k : A → Option R) : Option R := match o with
  | none => none
  | some a => k a
def bn2 {A B R : Type} (o : Option (A × B)) (k : A → B → Option R) : Option R := match o with
  | none => none
  | some (a, b) => k a b
def bn3 {A B C R : Type} (o : Option (A × B × C)) (k : A → B → C → Option R) : Option R := match o with
  | none => none
  | some (a, b, c) => k a b c
def bn4 {A B C D R : Type} (o : Option (A × B × C × D)) (k : A → B → C → D → Option R) : Option R := match o with
  | none => none
  | some (a, b, c, d) => k a b c d
def bn5 {A B C D E R : Type} (o : Option (A × B × C × D × E)) (k : A → B → C → D → E → Option R) : Option R := match o with
  | none => none
  | some (a, b, c, d, e) => k a b c d e
theorem bn1_s {A R : Type} {o : Option A} {k : A → Option R} {y : R} (h : bn1 o k = some y) : ∃ a, o = some a ∧ k a = some y := by
  cases o with
  | none => cases h
  | some a => exact ⟨a, rfl, h⟩
theorem bn2_s {A B R : Type} {o : Option (A × B)} {k : A → B → Option R} {y : R} (h : bn2 o k = some y) : ∃ a b, o = some (a, b) ∧ k a b = some y := by
  cases o with
  | none => cases h
  | some a => exact ⟨a.1, a.2, rfl, h⟩
theorem bn3_s {A B C R : Type} {o : Option (A × B × C)} {k : A → B → C → Option R} {y : R} (h : bn3 o k = some y) : ∃ a b c, o = some (a, b, c) ∧ k a b c = some y := by
  cases o with
  | none => cases h
  | some a => exact ⟨a.1, a.2.1, a.2.2, rfl, h⟩
theorem bn4_s {A B C D R : Type} {o : Option (A × B × C × D)} {k : A → B → C → D → Option R} {y : R} (h : bn4 o k = some y) : ∃ a b c d, o = some (a, b, c, d) ∧ k a b c d = some y := by
  cases o with
  | none => cases h
  | some a => exact ⟨a.1, a.2.1, a.2.2.1, a.2.2.2, rfl, h⟩
theorem bn5_s {A B C D E R : Type} {o : Option (A × B × C × D × E)} {k : A → B → C → D → E → Option R} {y : R} (h : bn5 o k = some y) : ∃ a b c d e, o = some (a, b, c, d, e) ∧ k a b c d e = some y := by
  cases o with
  | none => cases h
  | some a => exact ⟨a.1, a.2.1, a.2.2.1, a.2.2.2.1, a.2.2.2.2, rfl, h⟩
/-- a method's start: its arguments, the heap holds the cells w -/
def kq (D : va_G) (cl : List vw_C) (ty : List (ClassId × FieldType)) (G : (Nat → Prop) → State → Prop) (av : List Value) (sz : Nat) (w : va_W) : Array Value → State → Prop :=
  va_Pc av (fun U => U.heap.size = sz ∧ va_P D cl w U.heap ∧ va_K D cl ty U ∧ va_D (fun _ => True) w ∧ G (va_A w sz) U)
/-- the world behind a method -/
def kw (D : va_G) (cl : List vw_C) (ty : List (ClassId × FieldType)) (w : va_W) (sz : Nat) (w1 : va_W) (t : State) : Prop :=
  va_P D cl w1 t.heap ∧ va_K D cl ty t ∧ va_D (va_A w sz) w1
def kqi (D : va_G) (cl : List vw_C) (ty : List (ClassId × FieldType)) (w : va_W) (r : Int32) (w1 : va_W) (sz : Nat) : Array Value → State → Outcome → State → Prop :=
  va_Qi (fun x (_ : Unit) => x = r) (fun _ t => kw D cl ty w sz w1 t) (va_A w sz)
def kqv (D : va_G) (cl : List vw_C) (ty : List (ClassId × FieldType)) (w : va_W) (w1 : va_W) (sz : Nat) : Array Value → State → Outcome → State → Prop :=
  va_Qv (fun (_ : Unit) => True) (fun _ t => kw D cl ty w sz w1 t) (va_A w sz)
def kqr (D : va_G) (cl : List vw_C) (ty : List (ClassId × FieldType)) (w : va_W) (r : Nat) (w1 : va_W) (sz : Nat) : Array Value → State → Outcome → State → Prop :=
  va_Qr (fun (_ : Unit) => True) (fun _ a t => a = r ∧ kw D cl ty w sz w1 t) (va_A w sz)
/-- nothing more is said of the start -/
def g0 : (Nat → Prop) → State → Prop := fun _ _ => True
/-- what is said of the start beside the cells moves with the machine, and holds of fewer cells -/
def gok (G : (Nat → Prop) → State → Prop) : Prop := (∀ (A : Nat → Prop) (u U : State), u.vm = U.vm → u.heap = U.heap → G A u → G A U) ∧ (∀ (A B : Nat → Prop) (u : State), (∀ q, B q → A q) → G A u → G B u) ∧ ∀ (A : Nat → Prop) (u U : State), u.WarmedH U.vm → (∀ q : Nat, q < u.heap.size → ¬ A q → U.heap[q]? = u.heap[q]?) → G A u → G A U
theorem g0_ok : gok g0 := ⟨fun _ _ _ _ _ _ => trivial, fun _ _ _ _ _ => trivial, fun _ _ _ _ _ _ => trivial⟩
theorem kq_blind {D : va_G} {cl : List vw_C} {ty : List (ClassId × FieldType)} {G : (Nat → Prop) → State → Prop} (hG : gok G) {av : List Value} {sz : Nat} {w : va_W} : FrameBlind (kq D cl ty G av sz w) := by
  intro a U g mk q
  obtain ⟨q0, q1, qP, qK, qD, qG⟩ := q
  exact ⟨q0, q1, qP, va_K.moved (u := U) (U := U.calling g mk a) (Vm.Alike.refl U.vm) qK, qD, hG.1 _ U (U.calling g mk a) rfl rfl qG⟩
section MyEntry
variable {l : Launch} {y : MethodName} {ws ws' : List Cond} {rm : Room} {D : va_G} {cl : List vw_C} {ty : List (ClassId × FieldType)} {G : (Nat → Prop) → State → Prop} {av : List Value} {sz : Nat} {w : va_W} {Qc : Nat → Array Value → State → Outcome → State → Prop} {mc ms : Nat} {cc : ByteArray} {maxL : Nat} {ret : Option FieldType}
theorem km (hy : plainName y.cls = true) (hw : ws = Cond.code y cc maxL ret :: ws') (hle : (lg_sl av).length ≤ maxL)
    (body : ∀ (p : Program) (e : Env) (s : State) (m : MethodId) (args : Array Value) (below : List Frame) (meth : Method) (c : Code) (Q : State → Prop), Q = MQ below (Qc s.heap.size) args s mc ms (va_A w s.heap.size) → p.tables.exec = Jvm.exec → c.code = cc → meth.sig.returnType = ret → (∀ w ∈ ws, w.before args s = true) → s.vm.findClass y.cls = some m.cls → meth.locks = false → c.maxLocals = maxL → meth.name = y.name → ∀ (H : Heap) (locs : List Loc) (A : Nat → Prop), A = va_A w s.heap.size → (∀ q : Nat, s.heap.size ≤ q → A q) → va_P D cl w H → va_K D cl ty s → va_D A w → va_S A s.heap H locs → G A s → ∀ ls : Array Slot, lv_has ls maxL (lv_args 0 av) →
      W p l e rm s m args below meth c H locs 0 0 Q (F0 m 0 ls [])) : Met l y ws rm (kq D cl ty G av sz w) (Qc sz) mc ms (va_A w sz) := by
  refine Met.ofW (cc := cc) (maxL := maxL) (ret := ret) hy hw ?_
  intro p e s m args below meth c s₁ B hml hv
  obtain ⟨rfl, hsz, hP, hK, hD0, hG⟩ := hv
  subst hsz
  have hl := lv_entry av (n := maxL) hle
  rw [lg_entry_eq]
  exact body p e s m _ below meth c _ rfl B.exec B.bytes B.returns (atoms_spec (ws := ws) B.pre) (findClass_of_methodNamed B.named) B.notSynchronized hml (name_of_methodNamed B.named B.method).1 s.heap [] _ rfl (fun q h => Or.inr h) hP hK (hD0.self (sz := s.heap.size)) va_S.rf hG _ hl
end MyEntry
section MyRows
variable {p : Program} {l : Launch} {e : Env} {R : Room} {s : State} {m : MethodId} {args : Array Value} {below : List Frame} {meth : Method} {c : Code} {H : Heap} {locs : List Loc} {cells slots : Nat} {Q : State → Prop} {cc : ByteArray} {pc : Nat} {ls : Array Slot} {st0 rest : List Value} {D : va_G} {cl : List vw_C} {A : Nat → Prop} {ty : List (ClassId × FieldType)} {G : (Nat → Prop) → State → Prop} {ws wc wr w1 w : va_W} {mc ms : Nat} {a : Array Value} {H0 : Heap}
/-- a call's start, on an object -/
theorem kpV {C : String} {b : Nat} {As : List Value} {q : vw_C} {q0 ci : Nat} {fs : List Value} (hG : gok G) (hP : va_P D cl ws H) (hK : va_K D cl ty s) (hD : va_D A ws) (hS : va_S A s.heap H locs) (hA : ∀ q, s.heap.size ≤ q → A q) (hGA : G A s) (isC : List Nat) (hn : va_nd isC = true) (hC : isC.map (fun i => ws[i]?) = wc.map some) (hc : cl[ci]? = some q) (he : wc[q0]? = some (b, .inr (ci, fs))) (hq : q.1 = C) :
    PreV s H C b (kq D cl ty G (.ref b :: As) H.size wc) As := by
  have hDc := hD.sub (ws' := wc) isC hn hC
  have hPc : va_P D cl wc H := by
    refine hP.sub isC ?_
    have : ∀ (is : List Nat) (wc : va_W), is.map (fun i => ws[i]?) = wc.map some → is.filterMap (fun i => ws[i]?) = wc := by
      intro is
      induction is with
      | nil => intro wc h; cases wc with
        | nil => rfl
        | cons a b => cases h
      | cons i is ih => intro wc h; cases wc with
        | nil => cases h
        | cons a b =>
          rw [List.map_cons, List.map_cons, List.cons.injEq] at h
          rw [List.filterMap_cons, h.1]
          show a :: _ = a :: b
          rw [ih b h.2]
    exact this isC wc hC
  have hF := va_free (wc := wc) hD hS hA isC hC
  subst hq
  exact ⟨kq_blind hG, va_recv hK hPc hc he, fun U hU hW => ⟨rfl, by rw [hU], by rw [hU]; exact hPc, va_K.moved hW.alike hK, hDc.weaken (fun _ _ _ _ => trivial), hG.2.1 _ _ _ hF (hG.2.2 A s U hW (fun q h1 h2 => by rw [hU]; exact hS.2.1 q h1 h2) hGA)⟩⟩
theorem kpS {As : List Value} (hG : gok G) (hP : va_P D cl ws H) (hK : va_K D cl ty s) (hD : va_D A ws) (hS : va_S A s.heap H locs) (hA : ∀ q, s.heap.size ≤ q → A q) (hGA : G A s) (isC : List Nat) (hn : va_nd isC = true) (hC : isC.map (fun i => ws[i]?) = wc.map some) :
    PreS s H (kq D cl ty G As H.size wc) As := by
  have hDc := hD.sub (ws' := wc) isC hn hC
  have hPc : va_P D cl wc H := by
    refine hP.sub isC ?_
    have : ∀ (is : List Nat) (wc : va_W), is.map (fun i => ws[i]?) = wc.map some → is.filterMap (fun i => ws[i]?) = wc := by
      intro is
      induction is with
      | nil => intro wc h; cases wc with
        | nil => rfl
        | cons a b => cases h
      | cons i is ih => intro wc h; cases wc with
        | nil => cases h
        | cons a b =>
          rw [List.map_cons, List.map_cons, List.cons.injEq] at h
          rw [List.filterMap_cons, h.1]
          show a :: _ = a :: b
          rw [ih b h.2]
    exact this isC wc hC
  have hF := va_free (wc := wc) hD hS hA isC hC
  exact ⟨kq_blind hG, fun U hU hW => ⟨rfl, by rw [hU], by rw [hU]; exact hPc, va_K.moved hW.alike hK, hDc.weaken (fun _ _ _ _ => trivial), hG.2.1 _ _ _ hF (hG.2.2 A s U hW (fun q h1 h2 => by rw [hU]; exact hS.2.1 q h1 h2) hGA)⟩⟩
/-- behind a call that answers an int -/
theorem kci {r : Int32} (hP : va_P D cl ws H) (hD : va_D A ws) (hS : va_S A s.heap H locs) (hA : ∀ q, s.heap.size ≤ q → A q) (isC isR : List Nat) (hC : isC.map (fun i => ws[i]?) = wc.map some) (hR : isR.map (fun i => ws[i]?) = wr.map some) (hn : va_nd isR = true) (hdis : ∀ i ∈ isR, i ∉ isC)
    (hr : va_Run p l e R s m args below meth c H locs cells slots mc ms (F0 m pc ls st0) rest (kqi D cl ty wc r w1 H.size a) (va_A wc H.size))
    (kk : ∀ (H1 : Heap) (locs1 : List Loc), va_P D cl (wr ++ w1) H1 → va_D A (wr ++ w1) → va_S A s.heap H1 locs1 → W p l e R s m args below meth c H1 locs1 (cells + mc) (slots + ms) Q (F0 m (pc + 3) ls (.int r :: rest))) : W p l e R s m args below meth c H locs cells slots Q (F0 m pc ls st0) := by
  have hF := va_free (wc := wc) hD hS hA isC hC
  refine va_calli hr hS (fun q _ h => hF q h) hF (fun r1 u t H1 locs1 ht hvm hw hB hz1 hk1 hS1 => ?_)
  obtain ⟨hP1, -, hD1⟩ := hB
  rw [ht] at hP1
  obtain ⟨hP2, hD2⟩ := va_join (wr := wr) (w1 := w1) hP hD isC isR hC hR hn hdis hk1 hF hP1 hD1
  subst hw
  exact kk H1 locs1 hP2 hD2 hS1
theorem kcv (hP : va_P D cl ws H) (hD : va_D A ws) (hS : va_S A s.heap H locs) (hA : ∀ q, s.heap.size ≤ q → A q) (isC isR : List Nat) (hC : isC.map (fun i => ws[i]?) = wc.map some) (hR : isR.map (fun i => ws[i]?) = wr.map some) (hn : va_nd isR = true) (hdis : ∀ i ∈ isR, i ∉ isC)
    (hr : va_Run p l e R s m args below meth c H locs cells slots mc ms (F0 m pc ls st0) rest (kqv D cl ty wc w1 H.size a) (va_A wc H.size))
    (kk : ∀ (H1 : Heap) (locs1 : List Loc), va_P D cl (wr ++ w1) H1 → va_D A (wr ++ w1) → va_S A s.heap H1 locs1 → W p l e R s m args below meth c H1 locs1 (cells + mc) (slots + ms) Q (F0 m (pc + 3) ls rest)) : W p l e R s m args below meth c H locs cells slots Q (F0 m pc ls st0) := by
  have hF := va_free (wc := wc) hD hS hA isC hC
  refine va_callv hr hS (fun q _ h => hF q h) hF (fun u t H1 locs1 ht hvm hw hB hz1 hk1 hS1 => ?_)
  obtain ⟨hP1, -, hD1⟩ := hB
  rw [ht] at hP1
  obtain ⟨hP2, hD2⟩ := va_join (wr := wr) (w1 := w1) hP hD isC isR hC hR hn hdis hk1 hF hP1 hD1
  exact kk H1 locs1 hP2 hD2 hS1
theorem kcr {r : Nat} (hP : va_P D cl ws H) (hD : va_D A ws) (hS : va_S A s.heap H locs) (hA : ∀ q, s.heap.size ≤ q → A q) (isC isR : List Nat) (hC : isC.map (fun i => ws[i]?) = wc.map some) (hR : isR.map (fun i => ws[i]?) = wr.map some) (hn : va_nd isR = true) (hdis : ∀ i ∈ isR, i ∉ isC)
    (hr : va_Run p l e R s m args below meth c H locs cells slots mc ms (F0 m pc ls st0) rest (kqr D cl ty wc r w1 H.size a) (va_A wc H.size))
    (kk : ∀ (H1 : Heap) (locs1 : List Loc), va_P D cl (wr ++ w1) H1 → va_D A (wr ++ w1) → va_S A s.heap H1 locs1 → W p l e R s m args below meth c H1 locs1 (cells + mc) (slots + ms) Q (F0 m (pc + 3) ls (.ref r :: rest))) : W p l e R s m args below meth c H locs cells slots Q (F0 m pc ls st0) := by
  have hF := va_free (wc := wc) hD hS hA isC hC
  refine va_callr hr hS (fun q _ h => hF q h) hF (fun u ra t H1 locs1 ht hvm hw hB hz1 hk1 hS1 => ?_)
  obtain ⟨rfl, hP1, -, hD1⟩ := hB
  rw [ht] at hP1
  obtain ⟨hP2, hD2⟩ := va_join (wr := wr) (w1 := w1) hP hD isC isR hC hR hn hdis hk1 hF hP1 hD1
  exact kk H1 locs1 hP2 hD2 hS1
/-- the ends -/
theorem kri {v : Int32} (hx : p.tables.exec = Jvm.exec) (hb : c.code = cc) (hr : meth.sig.returnType = some .int) (hlocks : meth.locks = false) (hAe : A = va_A w s.heap.size) (hP : va_P D cl w1 H) (hK : va_K D cl ty s) (hD : va_D A w1) (hS : va_S A s.heap H locs) (hdg : decode cc pc = .ok (.ireturn, 1)) :
    W p l e R s m args below meth c H locs cells slots (MQ below (kqi D cl ty w v w1 s.heap.size) args s cells slots (va_A w s.heap.size)) (F0 m pc ls [.int v]) := by
  subst hAe
  exact W.iret (v := v) hx hb hr (fun t ht hW => ⟨⟨v, (), rfl, rfl, by rw [ht]; exact hP, va_K.moved hW.alike hK, hD⟩, hS.F ht⟩) hS.2.2 hdg hlocks
theorem krz {v : Int32} {rt : FieldType} (hx : p.tables.exec = Jvm.exec) (hb : c.code = cc) (hr : meth.sig.returnType = some rt) (hn : narrow rt (.int v) = .int v) (hlocks : meth.locks = false) (hAe : A = va_A w s.heap.size) (hP : va_P D cl w1 H) (hK : va_K D cl ty s) (hD : va_D A w1) (hS : va_S A s.heap H locs) (hdg : decode cc pc = .ok (.ireturn, 1)) :
    W p l e R s m args below meth c H locs cells slots (MQ below (kqi D cl ty w v w1 s.heap.size) args s cells slots (va_A w s.heap.size)) (F0 m pc ls [.int v]) := by
  subst hAe
  exact W.zret (v := v) hx hb hr hn (fun t ht hW => ⟨⟨v, (), rfl, rfl, by rw [ht]; exact hP, va_K.moved hW.alike hK, hD⟩, hS.F ht⟩) hS.2.2 hdg hlocks
theorem krv (hx : p.tables.exec = Jvm.exec) (hb : c.code = cc) (hr : meth.sig.returnType = none) (hlocks : meth.locks = false) (hAe : A = va_A w s.heap.size) (hP : va_P D cl w1 H) (hK : va_K D cl ty s) (hD : va_D A w1) (hS : va_S A s.heap H locs) (hdg : decode cc pc = .ok (.return_, 1)) :
    W p l e R s m args below meth c H locs cells slots (MQ below (kqv D cl ty w w1 s.heap.size) args s cells slots (va_A w s.heap.size)) (F0 m pc ls []) := by
  subst hAe
  exact W.vret hx hb hr (fun t ht hW => ⟨⟨(), rfl, trivial, by rw [ht]; exact hP, va_K.moved hW.alike hK, hD⟩, hS.F ht⟩) hS.2.2 hdg hlocks
theorem krr {v : Nat} {rt : FieldType} (hx : p.tables.exec = Jvm.exec) (hb : c.code = cc) (hr : meth.sig.returnType = some rt) (hrt : (∃ n, rt = .object n) ∨ ∃ t, rt = .array t) (hlocks : meth.locks = false) (hAe : A = va_A w s.heap.size) (hP : va_P D cl w1 H) (hK : va_K D cl ty s) (hD : va_D A w1) (hS : va_S A s.heap H locs) (hdg : decode cc pc = .ok (.areturn, 1)) :
    W p l e R s m args below meth c H locs cells slots (MQ below (kqr D cl ty w v w1 s.heap.size) args s cells slots (va_A w s.heap.size)) (F0 m pc ls [.ref v]) := by
  subst hAe
  exact W.aret (v := .ref v) hx hb hr hrt (Or.inr ⟨v, rfl⟩) (fun t ht hW => ⟨⟨(), v, rfl, trivial, rfl, by rw [ht]; exact hP, va_K.moved hW.alike hK, hD⟩, hS.F ht⟩) hS.2.2 hdg hlocks
end MyRows
section MyRows2
variable {p : Program} {l : Launch} {e : Env} {R : Room} {s : State} {m : MethodId} {args : Array Value} {below : List Frame} {meth : Method} {c : Code} {H : Heap} {locs : List Loc} {cells slots : Nat} {Q : State → Prop} {cc : ByteArray} {pc : Nat} {ls : Array Slot} {st0 rest : List Value} {D : va_G} {cl : List vw_C} {A : Nat → Prop} {ty : List (ClassId × FieldType)} {ws wc wr w : va_W} {mc ms : Nat} {a : Array Value}
/-- a constructor's end: the cells that it made are somewhere -/
def kqc (D : va_G) (cl : List vw_C) (ty : List (ClassId × FieldType)) (w : va_W) (w1 : (Nat → Nat → Nat) → va_W) (sz : Nat) : Array Value → State → Outcome → State → Prop :=
  va_Qv (fun (_ : Nat → Nat → Nat) => True) (fun u t => kw D cl ty w sz (w1 u) t) (va_A w sz)
theorem kcc {w1 : (Nat → Nat → Nat) → va_W} (hP : va_P D cl ws H) (hD : va_D A ws) (hS : va_S A s.heap H locs) (hA : ∀ q, s.heap.size ≤ q → A q) (isC isR : List Nat) (hC : isC.map (fun i => ws[i]?) = wc.map some) (hR : isR.map (fun i => ws[i]?) = wr.map some) (hn : va_nd isR = true) (hdis : ∀ i ∈ isR, i ∉ isC)
    (hr : va_Run p l e R s m args below meth c H locs cells slots mc ms (F0 m pc ls st0) rest (kqc D cl ty wc w1 H.size a) (va_A wc H.size))
    (kk : ∀ (u : Nat → Nat → Nat) (H1 : Heap) (locs1 : List Loc), va_P D cl (wr ++ w1 u) H1 → va_D A (wr ++ w1 u) → va_S A s.heap H1 locs1 → W p l e R s m args below meth c H1 locs1 (cells + mc) (slots + ms) Q (F0 m (pc + 3) ls rest)) : W p l e R s m args below meth c H locs cells slots Q (F0 m pc ls st0) := by
  have hF := va_free (wc := wc) hD hS hA isC hC
  refine va_callv hr hS (fun q _ h => hF q h) hF (fun u t H1 locs1 ht hvm hw hB hz1 hk1 hS1 => ?_)
  obtain ⟨hP1, -, hD1⟩ := hB
  rw [ht] at hP1
  obtain ⟨hP2, hD2⟩ := va_join (wr := wr) (w1 := w1 u) hP hD isC isR hC hR hn hdis hk1 hF hP1 hD1
  exact kk u H1 locs1 hP2 hD2 hS1
theorem krc {w1 : (Nat → Nat → Nat) → va_W} (u : Nat → Nat → Nat) (hx : p.tables.exec = Jvm.exec) (hb : c.code = cc) (hr : meth.sig.returnType = none) (hlocks : meth.locks = false) (hAe : A = va_A w s.heap.size) (hP : va_P D cl (w1 u) H) (hK : va_K D cl ty s) (hD : va_D A (w1 u)) (hS : va_S A s.heap H locs) (hdg : decode cc pc = .ok (.return_, 1)) :
    W p l e R s m args below meth c H locs cells slots (MQ below (kqc D cl ty w w1 s.heap.size) args s cells slots (va_A w s.heap.size)) (F0 m pc ls []) := by
  subst hAe
  exact W.vret hx hb hr (fun t ht hW => ⟨⟨u, rfl, trivial, by rw [ht]; exact hP, va_K.moved hW.alike hK, hD⟩, hS.F ht⟩) hS.2.2 hdg hlocks
/-- two names of one array class -/
theorem ty_one {i j : Nat} {c1 c2 : ClassId} {t : FieldType} (hK : va_K D cl ty s) (h1 : ty[i]? = some (c1, t)) (h2 : ty[j]? = some (c2, t)) : c1 = c2 := by
  have e1 := (hK.2 i _ h1).2
  have e2 := (hK.2 j _ h2).2
  cases t with
  | object C =>
    obtain ⟨_, _, -, -, -, e1⟩ := e1
    obtain ⟨_, _, -, -, -, e2⟩ := e2
    exact Option.some.inj (e1.symm.trans e2)
  | _ => exact Option.some.inj (e1.symm.trans e2)
end MyRows2
theorem nar_0 : narrow .boolean (.int 0) = .int 0 := by decide +kernel
theorem nar_1 : narrow .boolean (.int 1) = .int 1 := by decide +kernel
-- words of a call
theorem gdV {own C : String} {idx n : Nat} {y : MethodName} {c : ByteArray} {r : Option FieldType} (h1 : Cond.methodLink own idx y ∈ gw) (h2 : Cond.instanceMethod y ∈ gw) (h3 : Cond.selects C y y ∈ gw) (h4 : Cond.initialized C ∈ gw) (h5 : Cond.code y c n r ∈ gw) : GoodIn gw (wsV own idx C y (Cond.code y c n r :: gw)) := by
  intro w hw
  have : w ∈ gw := by
    rcases List.mem_append.mp hw with h | h
    · simp only [List.mem_cons, List.not_mem_nil, or_false] at h
      rcases h with rfl | rfl | rfl | rfl
      · exact h1
      · exact h2
      · exact h3
      · exact h4
    · rcases List.mem_cons.mp h with rfl | h
      · exact h5
      · exact h
  exact ⟨this, gw_good this⟩
theorem gdS {own : String} {idx n : Nat} {y : MethodName} {c : ByteArray} {r : Option FieldType} (h1 : Cond.methodLink own idx y ∈ gw) (h2 : Cond.static y ∈ gw) (h4 : Cond.initialized own ∈ gw) (h5 : Cond.code y c n r ∈ gw) : GoodIn gw (wsS own idx y (Cond.code y c n r :: gw)) := by
  intro w hw
  have : w ∈ gw := by
    rcases List.mem_append.mp hw with h | h
    · simp only [List.mem_cons, List.not_mem_nil, or_false] at h
      rcases h with rfl | rfl | rfl
      · exact h1
      · exact h2
      · exact h4
    · rcases List.mem_cons.mp h with rfl | h
      · exact h5
      · exact h
  exact ⟨this, gw_good this⟩
theorem gdI {n : Nat} {y : MethodName} {c : ByteArray} {r : Option FieldType} (h5 : Cond.code y c n r ∈ gw) : GoodIn gw (Cond.code y c n r :: gw) := by
  intro w hw
  have : w ∈ gw := by
    rcases List.mem_cons.mp hw with rfl | h
    · exact h5
    · exact h
  exact ⟨this, gw_good this⟩

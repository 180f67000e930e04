-- A CALL THAT THROWS, AND ITS CATCHING BY A ROW OF THIS METHOD'S TABLE
/-- one row whose class the pool links: it takes the object, or the search goes on behind it -/
theorem kRow {Q : Handler → Pre} {E : CtlPost} {e : Env} {d : Bool} {acts : List Action} {s : State} {f : JFrame} {a : Addr} {x : ExceptionTableEntry} {t : List ExceptionTableEntry} {c : ClassId} {cell : Cell} (b : Bool) (hx : covers x f.pc = true) (h0 : x.catchType ≠ 0)
    (hl : s.vm.ClassLinks e.platform f.method.cls x.catchType c) (hcell : s.heap[a]? = some cell) (hobj : ∀ k, cell.vm ≠ .statics k) (hk : ∃ k, s.vm.classes[cell.cls]? = some k) (hc : ∃ k, s.vm.classes[c]? = some k) (hb : s.vm.assignable cell.cls c = b) :
    wp (findHandler.go f a (x :: t)) Q E e d acts s ↔ (if b = true then Q (.found x.handlerPc) d acts (s.setVm (s.vm.noted f.method.cls x.catchType (.cls c))) else wp (findHandler.go f a t) Q E e d acts (s.setVm (s.vm.noted f.method.cls x.catchType (.cls c)))) := by
  obtain ⟨h1, h2⟩ := (resolveClass_links e.toSetting hl).op (op := VmOp.resolveClass f.method.cls x.catchType) rfl
  have hA : s.vm.Alike (s.vm.noted f.method.cls x.catchType (.cls c)) := (Vm.Alike.refl s.vm).noted _ _ _
  obtain ⟨ka, hka⟩ := hk
  obtain ⟨kb, hkb⟩ := hc
  obtain ⟨ka', hka', -⟩ := hA.2.2 _ _ hka
  obtain ⟨kb', hkb', -⟩ := hA.2.2 _ _ hkb
  have hb' : (s.vm.noted f.method.cls x.catchType (.cls c)).assignable cell.cls c = b := by rw [hA.assignable]; exact hb
  simp only [covers] at hx
  cases b <;> simp [findHandler.go, hx, h0, h1, h2, hcell, hobj, hka', hkb', hb', VmOp.dirties, VmOp.acts]
theorem kSearch {e : Env} {s0 : State} {f : JFrame} {a : Addr} {cell : Cell} (hobj : ∀ k, cell.vm ≠ .statics k) (hk0 : ∃ k, s0.vm.classes[cell.cls]? = some k) {x : ExceptionTableEntry} {rest : List ExceptionTableEntry} {c : ClassId}
    (hx : covers x f.pc = true) (h0 : x.catchType ≠ 0) (hl : s0.vm.ClassLinks e.platform f.method.cls x.catchType c) (hfit : s0.vm.assignable cell.cls c = true) :
    ∀ (pre : List ExceptionTableEntry) (S : State), s0.WarmedH S.vm → S.heap[a]? = some cell → (∀ y ∈ pre, covers y f.pc = true ∧ y.catchType ≠ 0 ∧ ∃ c2, s0.vm.ClassLinks e.platform f.method.cls y.catchType c2 ∧ s0.vm.assignable cell.cls c2 = false) →
      ∃ vm2, s0.WarmedH vm2 ∧ ∀ (Q : Handler → Pre) (E : CtlPost) (d : Bool) (acts : List Action), wp (findHandler.go f a (pre ++ x :: rest)) Q E e d acts S ↔ Q (.found x.handlerPc) d acts (S.setVm vm2) := by
  intro pre
  induction pre with
  | nil =>
    intro S hW hcell _
    obtain ⟨k0, hk0⟩ := hk0
    obtain ⟨k1, hk1, -⟩ := hW.alike.2.2 _ _ hk0
    obtain ⟨dk, _, _, kt, hd, _, _, _, _, hkt, _, hopen⟩ := hl.here
    obtain ⟨kt2, hkt2, -⟩ := hW.alike.2.2 _ _ hkt
    refine ⟨_, hW.noted hd hopen (State.rightAt_cls hl), fun Q E d acts => ?_⟩
    rw [List.nil_append, kRow true hx h0 (hW.classLinks hl) hcell hobj ⟨k1, hk1⟩ ⟨kt2, hkt2⟩ (by rw [hW.alike.assignable]; exact hfit), if_pos rfl]
  | cons y ys ih =>
    intro S hW hcell hp
    obtain ⟨h1, h2, c2, h3, h4⟩ := hp y List.mem_cons_self
    obtain ⟨k0, hk0⟩ := hk0
    obtain ⟨k1, hk1, -⟩ := hW.alike.2.2 _ _ hk0
    obtain ⟨dk, _, _, kt, hd, _, _, _, _, hkt, _, hopen⟩ := h3.here
    obtain ⟨kt2, hkt2, -⟩ := hW.alike.2.2 _ _ hkt
    obtain ⟨vm2, hW2, hq⟩ := ih (S.setVm (S.vm.noted f.method.cls y.catchType (.cls c2))) (hW.noted hd hopen (State.rightAt_cls h3)) hcell (fun z hz => hp z (List.mem_cons_of_mem _ hz))
    refine ⟨vm2, hW2, fun Q E d acts => ?_⟩
    rw [List.cons_append, kRow false h1 h2 (hW.classLinks h3) hcell hobj ⟨k1, hk1⟩ ⟨kt2, hkt2⟩ (by rw [hW.alike.assignable]; exact h4), if_neg (by decide)]
    exact hq Q E d acts
section MyCatch
variable {p : Program} {l : Launch} {e : Env} {R : Room} {s : State} {m : MethodId} {args : Array Value} {below : List Frame} {meth : Method} {c : Code} {T : State} {locs : List Loc} {cells slots : Nat}
/-- the note of a throw over this method's frame: the search ends at the row x -/
theorem kCaught (X : Stand p l e R s m args below meth c T locs cells slots) {a : Addr} {g : JFrame} (hg : g.method = m) {cell : Cell} (hcell : T.heap[a]? = some cell) (hv : cell.vm = .none) {own E : String} (hown : s.vm.findClass own = some m.cls) (hE : s.vm.findClass E = some cell.cls)
    (pre : List ExceptionTableEntry) (x : ExceptionTableEntry) (suf : List ExceptionTableEntry) (htab : c.exceptionTable.toList = pre ++ x :: suf) (hx : covers x g.pc = true) (h0 : x.catchType ≠ 0) {n0 : String} (hlink : (Cond.classLink own x.catchType n0).before args s = true) (hyes : (Cond.castable E n0).before args s = true)
    (hpre : ∀ y ∈ pre, covers y g.pc = true ∧ y.catchType ≠ 0 ∧ ∃ n1 : String, (Cond.classLink own y.catchType n1).before args s = true ∧ (Cond.not (.castable E n1)).before args s = true) :
    ∃ vm2, Stand p l e R s m args below meth c (T.setVm vm2) locs cells slots ∧ ∀ target, Steps p.tables e below ((T.setVm vm2).setTop { g with pc := x.handlerPc, stack := [.ref a] }) target → Steps p.tables e below ((T.setTop g).pushFrame (.throwing a)) target := by
  subst hg
  have hpl : e.platform.magicAccessors = ({} : Platform).magicAccessors := by rw [X.admits.platform]
  obtain ⟨cE, cN, q1, q2, q3⟩ := Cond.castable_spec hyes
  cases Option.some.inj (q1.symm.trans hE)
  obtain ⟨cL, r1, r2⟩ := Cond.classLink_spec hown hlink e.platform hpl
  cases Option.some.inj (q2.symm.trans r1)
  have hk0 : ∃ k, s.vm.classes[cell.cls]? = some k := by obtain ⟨k, hk, -⟩ := Vm.findClass_spec hE; exact ⟨k, hk⟩
  have hobj : ∀ k, cell.vm ≠ .statics k := fun k z => by rw [hv] at z; cases z
  have hcell2 : ((T.setTop g).pushFrame (.throwing a)).heap[a]? = some cell := hcell
  obtain ⟨vm2, hW2, hq⟩ := kSearch (e := e) (s0 := s) (f := g) (a := a) (rest := suf) hobj hk0 hx h0 r2 q3 pre ((T.setTop g).pushFrame (.throwing a)) X.warmed hcell2 (fun y hy => by
    obtain ⟨z1, z2, n1, z3, z4⟩ := hpre y hy
    obtain ⟨c2, w1, w2⟩ := Cond.classLink_spec hown z3 e.platform hpl
    have hn := Cond.holds_not_iff.mp z4
    simp only [Cond.value, hE, w1] at hn
    exact ⟨z1, z2, c2, w2, Option.some.inj hn⟩)
  refine ⟨vm2, X.noted hW2, fun target hrest => ?_⟩
  obtain ⟨hgo, hw⟩ := X.here.throwing a
  refine Steps.head hgo hw ?_
  have hst : (stepThrowing e ((T.setTop g).pushFrame (.throwing a)) a (.java g :: T.frames.tail)).Is ((((T.setTop g).pushFrame (.throwing a)).setVm vm2).setFrames (.java { g with pc := x.handlerPc, stack := [.ref a] } :: T.frames.tail)) [] := by
    simp only [stepThrowing, searchFrame, vmDo]
    generalize hr : Sem.go _ e false [] ((T.setTop g).pushFrame (.throwing a)) = res
    have hfind : ∀ (Q : Handler → Pre) (E : CtlPost) (d : Bool) (acts : List Action), wp (findHandler g a) Q E e d acts ((T.setTop g).pushFrame (.throwing a)) ↔ Q (.found x.handlerPc) d acts (((T.setTop g).pushFrame (.throwing a)).setVm vm2) := by
      intro Q E d acts
      rw [W.findHandler_eq (s := (T.setTop g).pushFrame (.throwing a)) X.method' X.code, htab]
      exact hq Q E d acts
    obtain ⟨as, rfl, ha⟩ := Sem.eq_ok_of hr (a := Handler.found x.handlerPc) (s' := ((T.setTop g).pushFrame (.throwing a)).setVm vm2) (acts' := []) (by simp [hfind])
    exact ⟨rfl, ha⟩
  obtain ⟨g0, hg0⟩ := Option.isSome_iff_exists.mp X.here.top
  obtain ⟨r, hr⟩ := State.topJava?_eq_some.mp hg0
  rw [stepThread_throwing (frames_entered X.here.top _), hst.1]
  have hr2 : (T.setVm vm2).frames = .java g0 :: r := hr
  rw [State.setTop_of_frames _ hr2] at hrest
  have e1 : ∀ (u : State) (F G : List Frame), ((u.setFrames F).setVm vm2).setFrames G = (u.setVm vm2).setFrames G := fun u F G => by
    have : (u.setFrames F).setVm vm2 = (u.setVm vm2).setFrames F := rfl
    rw [this, State.setFrames_setFrames]
  rw [hr, List.tail_cons, State.pushFrame, e1, State.setTop_of_frames _ hr, e1]
  exact hrest
end MyCatch

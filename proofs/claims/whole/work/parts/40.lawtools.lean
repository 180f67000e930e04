-- THE LAW'S HELPERS: methods with a table of handlers, called and entered
def kNot (C T : String) (U : State) : Prop := ∃ c t : ClassId, U.vm.findClass C = some c ∧ U.vm.findClass T = some t ∧ U.vm.assignable c t = false
theorem kNot.moved {C T : String} {u U : State} (h : u.vm.Alike U.vm) (hk : kNot C T u) : kNot C T U := by
  obtain ⟨c, t, h1, h2, h3⟩ := hk
  exact ⟨c, t, by rw [h.findClass]; exact h1, by rw [h.findClass]; exact h2, by rw [h.assignable]; exact h3⟩
theorem kNot.of {C T : String} {args : Array Value} {s : State} (h : (Cond.not (.castable C T)).before args s = true) : kNot C T s := by
  have hn := Cond.holds_not_iff.mp h
  simp only [Cond.value] at hn
  cases h1 : s.vm.findClass C with
  | none => simp [h1] at hn
  | some c =>
    cases h2 : s.vm.findClass T with
    | none => simp [h1, h2] at hn
    | some t =>
      simp only [h1, h2] at hn
      exact ⟨c, t, h1, h2, by simpa using hn⟩
theorem kNot.use {C T : String} {args : Array Value} {s : State} (h : kNot C T s) : (Cond.not (.castable C T)).before args s = true := by
  obtain ⟨c, t, h1, h2, h3⟩ := h
  refine Cond.holds_not_iff.mpr ?_
  simp [Cond.value, h1, h2, h3]
def gNC (G : (Nat → Prop) → State → Prop) : Prop := ∀ (A : Nat → Prop) (U : State), G A U → kNot "java/lang/IllegalStateException" "java/lang/IllegalArgumentException" U
theorem gdSW {own : String} {idx n : Nat} {y : MethodName} {c : ByteArray} {r : Option FieldType} {hh : List (Nat × Nat × Nat × Nat)} (h1 : Cond.methodLink own idx y ∈ gw) (h2 : Cond.static y ∈ gw) (h4 : Cond.initialized own ∈ gw) (h5 : Cond.codeWith y c n r hh ∈ gw) : GoodIn gw (wsS own idx y (Cond.codeWith y c n r hh :: gw)) := by
  intro w hw
  have : w ∈ gw := by
    rcases List.mem_append.mp hw with h | h
    · simp only [List.mem_cons, List.not_mem_nil, or_false] at h
      rcases h with rfl | rfl | rfl
      · exact h1
      · exact h2
      · exact h4
    · rcases List.mem_cons.mp h with rfl | h
      · exact h5
      · exact h
  exact ⟨this, gw_good this⟩
section MyLawCall
variable {p : Program} {l : Launch} {e : Env} {R : Room} {s : State} {m : MethodId} {args : Array Value} {below : List Frame} {meth : Method} {c : Code} {H : Heap} {locs : List Loc} {cells slots : Nat} {Q : State → Prop} {cc bytes : ByteArray} {pc : Nat} {ls : Array Slot} {Ts ws ws' : List Cond} {nL maxL index n mc ms : Nat} {own : String} {y : MethodName} {ret : Option FieldType} {hh : List (Nat × Nat × Nat × Nat)} {rm : Room} {Pc : Array Value → State → Prop} {Qc : Array Value → State → Outcome → State → Prop} {free : Addr → Prop} {As rest : List Value} {g : JFrame} {T : State}
def kCSW (R : Room) (s : State) (args : Array Value) (own : String) (index : Nat) (y : MethodName) (bytes : ByteArray) (maxL : Nat) (ret : Option FieldType) (hh : List (Nat × Nat × Nat × Nat)) (ws : List Cond) (rm : Room) (mc ms n : Nat) : Prop :=
  rm.cells = mc ∧ rm.slots = ms ∧ rm.frames + 1 ≤ R.frames ∧ 8 + (maxL + 11) + rm.locals ≤ R.locals ∧ (∀ w ∈ ws, ∀ (a' : Array Value) (U : State), s.WarmedH U.vm → w.before a' U = true) ∧ Cond.codeWith y bytes maxL ret hh ∈ ws ∧
  (Cond.codeWith y bytes maxL ret hh).before args s = true ∧ (Cond.initialized y.cls).before args s = true ∧ (y.cls ≠ "java/lang/invoke/MethodHandle" ∧ y.cls ≠ "java/lang/invoke/VarHandle") ∧ (∀ sig, parseMethodDescriptor y.desc = some sig → n = sig.parameters.length) ∧ (Cond.methodLink own index y).before args s = true ∧ (Cond.static y).before args s = true
theorem kcwS (n : Nat) (ht : ∀ w ∈ Ts, w.before args s = true) (hT : GoodIn Ts (wsS own index y ws)) (hw : ws = Cond.codeWith y bytes maxL ret hh :: ws') (hrc : rm.cells = mc) (hrs : rm.slots = ms)
    (hd : y.cls = own ∧ y.cls ≠ "java/lang/invoke/MethodHandle" ∧ y.cls ≠ "java/lang/invoke/VarHandle" ∧ (parseMethodDescriptor y.desc).map (fun d => d.parameters.length) = some n) (hR : rm.frames + 1 ≤ R.frames ∧ 8 + (maxL + 11) + rm.locals ≤ R.locals) :
    kCSW R s args own index y bytes maxL ret hh ws rm mc ms n := by
  obtain ⟨hC, hd⟩ := hd
  have ok : ∀ w ∈ wsS own index y ws, w.before args s = true := fun w h => ht w (hT w h).1
  have hc : Cond.codeWith y bytes maxL ret hh ∈ ws := by rw [hw]; exact List.mem_cons_self
  have hG : GoodIn Ts ws := fun w h => hT w (by unfold wsS; exact List.mem_append_right _ h)
  refine ⟨hrc, hrs, hR.1, hR.2, pay_in ht hG, hc, ht _ (hG _ hc).1, by rw [hC]; exact ok _ (by simp [wsS]), ⟨hd.1, hd.2.1⟩, fun sig h => ?_, ok _ (by simp [wsS]), ok _ (by simp [wsS])⟩
  have h2 := hd.2.2
  rw [h] at h2
  exact (Option.some.inj h2).symm
theorem krunSW (S : CallFix p m c cc nL s args Ts own) (hM : Met l y ws rm Pc Qc mc ms free) (cw : kCSW R s args own index y bytes maxL ret hh ws rm mc ms n) (hp : PreS s H Pc As)
    (hg : g.method = m) (hn : As.length = n) (hsize : g.locals.size = nL) (hstack : g.stack = As.reverse ++ rest) (hW : 2 * g.monitorRoom + (rest.map fun v => v.category).sum ≤ 8) (hdg : decode cc g.pc = .ok (.invokestatic index, 3)) (hf : cells + mc ≤ R.cells ∧ slots + ms ≤ R.slots) :
    va_Run p l e R s m args below meth c H locs cells slots mc ms g rest (Qc As.toArray) (free) := by
  obtain ⟨hrc, hrs, hfr, hlo, hws, hcw, hcode, hini, hy, hlen, hlink, hstat⟩ := cw
  have hK : Back l R p e below s args y 3 8 (PreOf R mc ms Pc) (PostOf Qc mc ms free) := va_backW (hh := hh) (bytes := bytes) (maxL := maxL) (ret := ret) hM hp.1 hrc hrs hfr hlo hws hcw (fun a' U hW => word_at hW (Or.inl (by first | rfl | simp [Cond.onTables, Cond.keeps, Cond.steady])) hini)
  obtain ⟨hx, hb, hml, ho, -⟩ := S
  intro T hT X
  obtain ⟨mk, methM, cM, hnamed, hmethM, -, -, -, -, -, -, hsigM⟩ := Cond.codeWith_spec hcode
  have hstatic : methM.isStatic = true := Cond.static_spec hnamed hmethM hstat
  obtain ⟨kP, hkP, -⟩ := className_of_methodNamed hnamed
  have hinitP : kP.init = .initialized := Cond.initialized_spec (findClass_of_methodNamed hnamed) hkP hini
  have hdg2 : decode c.code g.pc = .ok (.invokestatic index, 3) := by rw [hb]; exact hdg
  obtain ⟨vm1, X1, hstep1⟩ := X.invokestatic hx ho hlink hnamed hmethM hstatic hkP hinitP hy (g := g) hg (argsL := As) (rest := rest) (hn.trans (hlen _ hsigM)) hstack hdg2
  obtain ⟨v, ⟨U', l2, c2, s2⟩, X', ⟨g', mk', t, L, e1, e2, hq, h1, hL, h2, h3⟩, hsteps⟩ := hK m meth c ⟨T.setVm vm1, locs, cells, slots⟩ { g with stack := rest } (.invokestatic index) mk As.toArray X1 hg (hsize.trans hml.symm) hdg2 hW (X1.named hnamed) ⟨hf.1, hf.2, hp.2 (T.setVm vm1) hT X1.warmed⟩
  dsimp only [Pt.U, Pt.locs, Pt.cells, Pt.slots] at X' e1 e2 h1 h2 h3 hsteps
  subst h1; subst h2; subst h3
  exact ⟨v, (T.setVm vm1).calling g' mk' As.toArray, t, U', L, hT, X', hL, e1, e2, hq, fun target h => hstep1 _ fun acts => by rw [doInvoke_state]; exact hsteps.trans h⟩
theorem kHand1 {E n0 : String} {a1 b1 h1 t1 : Nat} {q : List (Nat × Nat × Nat × Nat)} (htab : c.exceptionTable.toList.map (fun h => (h.startPc, h.endPc, h.handlerPc, h.catchType)) = (a1, b1, h1, t1) :: q) (hcov : a1 ≤ pc ∧ pc < b1) (ht : t1 ≠ 0) (hl : (Cond.classLink own t1 n0).before args s = true) (hc : (Cond.castable E n0).before args s = true) : kHand c args s own E pc h1 := by
  cases hL : c.exceptionTable.toList with
  | nil => rw [hL] at htab; cases htab
  | cons x xs =>
    rw [hL, List.map_cons, List.cons.injEq] at htab
    obtain ⟨e1, -⟩ := htab
    obtain ⟨rfl, rfl, rfl, rfl⟩ : x.startPc = a1 ∧ x.endPc = b1 ∧ x.handlerPc = h1 ∧ x.catchType = t1 := by
      simp only [Prod.mk.injEq] at e1; exact e1
    exact ⟨[], x, xs, n0, hL, by simp [covers, hcov.1, hcov.2], ht, hl, hc, fun y hy => (nomatch hy), rfl⟩
theorem kHand2 {E n0 n1 : String} {a0 b0 h0 t0 a1 b1 h1 t1 : Nat} {q : List (Nat × Nat × Nat × Nat)} (htab : c.exceptionTable.toList.map (fun h => (h.startPc, h.endPc, h.handlerPc, h.catchType)) = (a0, b0, h0, t0) :: (a1, b1, h1, t1) :: q) (hcov0 : a0 ≤ pc ∧ pc < b0) (ht0 : t0 ≠ 0) (hcov : a1 ≤ pc ∧ pc < b1) (ht : t1 ≠ 0) (hl0 : (Cond.classLink own t0 n1).before args s = true) (hc0 : (Cond.not (.castable E n1)).before args s = true) (hl : (Cond.classLink own t1 n0).before args s = true) (hc : (Cond.castable E n0).before args s = true) : kHand c args s own E pc h1 := by
  cases hL : c.exceptionTable.toList with
  | nil => rw [hL] at htab; cases htab
  | cons z zs =>
    rw [hL, List.map_cons, List.cons.injEq] at htab
    obtain ⟨e0, htab⟩ := htab
    obtain ⟨rfl, rfl, rfl, rfl⟩ : z.startPc = a0 ∧ z.endPc = b0 ∧ z.handlerPc = h0 ∧ z.catchType = t0 := by
      simp only [Prod.mk.injEq] at e0; exact e0
    cases zs with
    | nil => cases htab
    | cons x xs =>
      rw [List.map_cons, List.cons.injEq] at htab
      obtain ⟨e1, -⟩ := htab
      obtain ⟨rfl, rfl, rfl, rfl⟩ : x.startPc = a1 ∧ x.endPc = b1 ∧ x.handlerPc = h1 ∧ x.catchType = t1 := by
        simp only [Prod.mk.injEq] at e1; exact e1
      refine ⟨[z], x, xs, n0, hL, by simp [covers, hcov.1, hcov.2], ht, hl, hc, fun y hy => ?_, rfl⟩
      rcases List.mem_singleton.mp hy with rfl
      exact ⟨by simp [covers, hcov0.1, hcov0.2], ht0, n1, hl0, hc0⟩
end MyLawCall
section MyLawEntry
variable {l : Launch} {y : MethodName} {ws ws' : List Cond} {rm : Room} {D : va_G} {cl : List vw_C} {ty : List (ClassId × FieldType)} {G : (Nat → Prop) → State → Prop} {av : List Value} {sz : Nat} {w : va_W} {Qc : Nat → Array Value → State → Outcome → State → Prop} {mc ms : Nat} {cc : ByteArray} {maxL : Nat} {ret : Option FieldType} {hh : List (Nat × Nat × Nat × Nat)}
theorem kmW (hy : plainName y.cls = true) (hw : ws = Cond.codeWith y cc maxL ret hh :: ws') (hle : (lg_sl av).length ≤ maxL)
    (body : ∀ (p : Program) (e : Env) (s : State) (m : MethodId) (args : Array Value) (below : List Frame) (meth : Method) (c : Code) (Q : State → Prop), Q = MQ below (Qc s.heap.size) args s mc ms (va_A w s.heap.size) → p.tables.exec = Jvm.exec → c.code = cc → meth.sig.returnType = ret → (∀ w ∈ ws, w.before args s = true) → s.vm.findClass y.cls = some m.cls → meth.locks = false → c.maxLocals = maxL → c.exceptionTable.toList.map (fun h => (h.startPc, h.endPc, h.handlerPc, h.catchType)) = hh → ∀ (H : Heap) (locs : List Loc) (A : Nat → Prop), A = va_A w s.heap.size → (∀ q : Nat, s.heap.size ≤ q → A q) → va_P D cl w H → va_K D cl ty s → va_D A w → va_S A s.heap H locs → G A s → ∀ ls : Array Slot, lv_has ls maxL (lv_args 0 av) →
      W p l e rm s m args below meth c H locs 0 0 Q (F0 m 0 ls [])) : Met l y ws rm (kq D cl ty G av sz w) (Qc sz) mc ms (va_A w sz) := by
  refine va_MetW (cc := cc) (maxL := maxL) (ret := ret) (hh := hh) hy hw ?_
  intro p e s m args below meth c s₁ B hml hv
  have htab : c.exceptionTable.toList.map (fun h => (h.startPc, h.endPc, h.handlerPc, h.catchType)) = hh := by
    obtain ⟨m9, meth9, c9, hn9, h1, h2, -, -, h5, -, -, -⟩ := Cond.codeWith_spec (atoms_spec (ws := ws) B.pre _ (by rw [hw]; exact List.mem_cons_self))
    cases hn9.symm.trans B.named
    cases Option.some.inj (h1.symm.trans B.method)
    cases Option.some.inj (h2.symm.trans (Stand.of_body B).code)
    exact h5
  obtain ⟨rfl, hsz, hP, hK, hD0, hG⟩ := hv
  subst hsz
  have hl := lv_entry av (n := maxL) hle
  rw [lg_entry_eq]
  exact body p e s m _ below meth c _ rfl B.exec B.bytes B.returns (atoms_spec (ws := ws) B.pre) (findClass_of_methodNamed B.named) B.notSynchronized hml htab s.heap [] _ rfl (fun q h => Or.inr h) hP hK (hD0.self (sz := s.heap.size)) va_S.rf hG _ hl
end MyLawEntry
/-- what a throw of the class needs of the law's table -/
theorem gHand {G : (Nat → Prop) → State → Prop} (hGt : gTh G) {A : Nat → Prop} {s : State} (h : G A s) {args : Array Value} : (Cond.castable "java/lang/IllegalArgumentException" "java/lang/IllegalArgumentException").before args s = true ∧ (Cond.castable "java/lang/IllegalStateException" "java/lang/IllegalStateException").before args s = true :=
  ⟨va_Nw.use (A := args) rfl (hGt A s h).2.2.1, va_Nw.use (A := args) rfl (hGt A s h).2.2.2.1⟩
theorem gHandN {G : (Nat → Prop) → State → Prop} (hGc : gNC G) {A : Nat → Prop} {s : State} (h : G A s) {args : Array Value} : (Cond.not (.castable "java/lang/IllegalStateException" "java/lang/IllegalArgumentException")).before args s = true := (hGc A s h).use

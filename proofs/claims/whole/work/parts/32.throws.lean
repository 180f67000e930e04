-- METHODS THAT ANSWER OR THROW: my own rows, over Stand.newCold, ldcString and ctorThrowS of the library
/-- a static of a class, outside of the cells A: where it lies, and that it holds a reference or null -/
def kZ (C n d : String) (A : Nat → Prop) (U : State) (H : Heap) : Prop := ∃ (c : ClassId) (k : Class) (i : Nat) (f : Field) (a : Nat) (cell : Cell) (v : Value), U.vm.findClass C = some c ∧ U.fieldFound? C n d = some (c, k, i, f) ∧ f.isStatic = true ∧ k.statics = some a ∧ H[a]? = some cell ∧ cell.vm.isStatics = true ∧ cell.cls = c ∧ cell.slots[f.slot]? = some v ∧ v.isRef = true ∧ k.staticTypes[f.slot]? = some f.type ∧ ¬ A a
theorem kZ.moved {C n d : String} {A : Nat → Prop} {u U : State} {H : Heap} (hvm : u.vm.Alike U.vm) (h : kZ C n d A u H) : kZ C n d A U H := by
  obtain ⟨c, k, i, f, a, cell, v, h0, h1, h2, h3, h4, h5, h6, h7, h8, h9, h10⟩ := h
  obtain ⟨k', hi', he⟩ := State.fieldFound?_setVm hvm h1
  exact ⟨c, k', i, f, a, cell, v, by rw [hvm.findClass]; exact h0, hi', h2, by rw [he]; exact h3, h4, h5, h6, h7, h8, by rw [he]; exact h9, h10⟩
theorem kZ.kept {C n d : String} {A : Nat → Prop} {U : State} {H H1 : Heap} (h : kZ C n d A U H) (hq : ∀ a : Nat, a < H.size → ¬ A a → H1[a]? = H[a]?) : kZ C n d A U H1 := by
  obtain ⟨c, k, i, f, a, cell, v, h0, h1, h2, h3, h4, h5, h6, h7, h8, h9, h10⟩ := h
  exact ⟨c, k, i, f, a, cell, v, h0, h1, h2, h3, (hq a (Array.getElem?_eq_some_iff.mp h4).1 h10).trans h4, h5, h6, h7, h8, h9, h10⟩
theorem kZ.narrow {C n d : String} {A B : Nat → Prop} {U : State} {H : Heap} (h : kZ C n d A U H) (hAB : ∀ q, B q → A q) : kZ C n d B U H := by
  obtain ⟨c, k, i, f, a, cell, v, h0, h1, h2, h3, h4, h5, h6, h7, h8, h9, h10⟩ := h
  exact ⟨c, k, i, f, a, cell, v, h0, h1, h2, h3, h4, h5, h6, h7, h8, h9, fun z => h10 (hAB a z)⟩
theorem kZ.of {args : Array Value} {s : State} {C n d : String} {A : Nat → Prop} (hl : (Cond.laysStatic C n d).before args s = true) (h : (Cond.isRef (.static C n d)).before args s = true) (hA : ∀ a : Nat, a < s.heap.size → ¬ A a) : kZ C n d A s s.heap := by
  obtain ⟨c, k, i, f, a, cell, hc, hi, hst, ha, hcell, hs, hcls, hlt, hty⟩ := Cond.laysStatic_spec hl
  cases hv : (Term.static C n d).eval args s none [] s with
  | none => simp [Cond.before, Cond.holds, Cond.value, hv] at h
  | some w =>
    obtain ⟨hst', a', cell', ha', hcell', -, hslot⟩ := Term.static_spec hi hv
    cases ha.symm.trans ha'
    cases hcell.symm.trans hcell'
    refine ⟨c, k, i, f, a, cell, w, hc, hi, hst, ha, hcell, hs, hcls, hslot, ?_, hty, hA a (Array.getElem?_eq_some_iff.mp hcell).1⟩
    simp only [Cond.before, Cond.holds, Cond.value, hv] at h
    cases w <;> first | rfl | (simp at h)
theorem kZ.lays {args : Array Value} {s : State} {C n d : String} {A : Nat → Prop} (h : kZ C n d A s s.heap) : (Cond.laysStatic C n d).before args s = true := by
  obtain ⟨c, k, i, f, a, cell, v, h0, h1, h2, h3, h4, h5, h6, h7, h8, h9, h10⟩ := h
  have hlt : f.slot < cell.slots.size := (Array.getElem?_eq_some_iff.mp h7).1
  simp [Cond.before, Cond.holds, Cond.value, h0, h1, h2, h3, h4, h5, h6, h9, hlt]
theorem kZ.isRef {args : Array Value} {s : State} {C n d : String} {A : Nat → Prop} (h : kZ C n d A s s.heap) : (Cond.isRef (.static C n d)).before args s = true := by
  obtain ⟨c, k, i, f, a, cell, v, h0, h1, h2, h3, h4, h5, h6, h7, h8, h9, h10⟩ := h
  have he : (Term.static C n d).eval args s none [] s = some v := by
    simp [Term.eval, State.fieldNamed?, h1, h2, h3, h4, h5, h7]
  simp only [Cond.before, Cond.holds, Cond.value, he]
  cases v <;> simp_all [Value.isRef]
def declW : List Cond := [.declares ⟨"java/lang/RuntimeException", "<init>", "(Ljava/lang/String;)V"⟩, .declares ⟨"java/lang/Exception", "<init>", "(Ljava/lang/String;)V"⟩, .declares ⟨"java/lang/Throwable", "<init>", "(Ljava/lang/String;)V"⟩]
def gThr (A : Nat → Prop) (U : State) : Prop := kZ "java/lang/Throwable" "UNASSIGNED_STACK" "[Ljava/lang/StackTraceElement;" A U U.heap ∧ kZ "java/lang/Throwable" "SUPPRESSED_SENTINEL" "Ljava/util/List;" A U U.heap ∧ va_Nw (.castable "java/lang/IllegalArgumentException" "java/lang/IllegalArgumentException") U ∧ va_Nw (.castable "java/lang/IllegalStateException" "java/lang/IllegalStateException") U ∧ ∀ w ∈ declW, va_Nw w U
def gTh (G : (Nat → Prop) → State → Prop) : Prop := ∀ (A : Nat → Prop) (U : State), G A U → gThr A U
def kxn (k : Nat) (E : String) : Prop := (k = 1 ∧ E = "java/lang/IllegalArgumentException") ∨ (k = 2 ∧ E = "java/lang/IllegalStateException")
/-- a method's end: k = 0 an answer, else a throw -/
def kTQ (D : va_G) (cl : List vw_C) (ty : List (ClassId × FieldType)) (w : va_W) (k : Nat) (r : Int32) (w1 : va_W) (mc ms sz : Nat) : Array Value → State → Outcome → State → Prop := fun a st o t =>
  (k = 0 ∧ kqi D cl ty w r w1 sz a st o t ∧ ∃ L, FrameEnd st o t L mc ms ∧ ∀ q ∈ L, va_A w sz q.base) ∨
  ∃ (q : Addr) (E : String) (ce : Cell) (L : List Loc), o = .threw q ∧ kxn k E ∧ t.heap[q]? = some ce ∧ ce.vm = .none ∧ st.vm.findClass E = some ce.cls ∧ st.WarmedH t.vm ∧ st.sameButNew ({ t with vm := st.vm } : State) L mc ms ∧ (∀ z ∈ L, va_A w sz z.base) ∧ kw D cl ty w sz w1 t ∧ va_F (va_A w sz) st t
def kT (l : Launch) (y : MethodName) (ws : List Cond) (rm : Room) (D : va_G) (cl : List vw_C) (ty : List (ClassId × FieldType)) (G : (Nat → Prop) → State → Prop) (av : List Value) (w : va_W) (k : Nat) (r : Int32) (w1 : va_W) (mc ms sz : Nat) : Prop :=
  MetFree l y (headSpec ws rm) (kq D cl ty G av sz w) (fun _ _ _ _ _ => True) (kTQ D cl ty w k r w1 mc ms sz)
def kTZ (below : List Frame) (Qx : Array Value → State → Outcome → State → Prop) (args : Array Value) (s : State) : State → Prop := fun t => ∃ o, t.status = .running ∧ Ended t below o ∧ Qx args s o t
theorem kT.met {l : Launch} {y : MethodName} {ws : List Cond} {rm : Room} {D : va_G} {cl : List vw_C} {ty : List (ClassId × FieldType)} {G : (Nat → Prop) → State → Prop} {av : List Value} {w : va_W} {r : Int32} {w1 : va_W} {mc ms sz : Nat} (h : kT l y ws rm D cl ty G av w 0 r w1 mc ms sz) : Met l y ws rm (kq D cl ty G av sz w) (kqi D cl ty w r w1 sz) mc ms (va_A w sz) := by
  refine MetFree.mono h (fun _ _ h => h) (fun _ _ _ _ _ h => h) (fun a st o t _ hq => ?_)
  rcases hq with ⟨-, h1, h2⟩ | ⟨q, E, ce, L, -, hk, -⟩
  · exact ⟨h1, h2⟩
  · rcases hk with ⟨hk, -⟩ | ⟨hk, -⟩ <;> cases hk
section MyT
variable {l : Launch} {y : MethodName} {ws ws' : List Cond} {rm : Room} {D : va_G} {cl : List vw_C} {ty : List (ClassId × FieldType)} {G : (Nat → Prop) → State → Prop} {av : List Value} {sz : Nat} {w : va_W} {k : Nat} {r : Int32} {w1 : va_W} {mc ms : Nat} {cc : ByteArray} {maxL : Nat} {ret : Option FieldType}
theorem kmT (hy : plainName y.cls = true) (hw : ws = Cond.code y cc maxL ret :: ws') (hle : (lg_sl av).length ≤ maxL)
    (body : ∀ (p : Program) (e : Env) (s : State) (m : MethodId) (args : Array Value) (below : List Frame) (meth : Method) (c : Code) (Q : State → Prop), Q = kTZ below (kTQ D cl ty w k r w1 mc ms s.heap.size) args s → p.tables.exec = Jvm.exec → c.code = cc → meth.sig.returnType = ret → (∀ w ∈ ws, w.before args s = true) → s.vm.findClass y.cls = some m.cls → meth.locks = false → c.maxLocals = maxL → c.exceptionTable.toList = [] → ∀ (H : Heap) (locs : List Loc) (A : Nat → Prop), A = va_A w s.heap.size → (∀ q : Nat, s.heap.size ≤ q → A q) → va_P D cl w H → va_K D cl ty s → va_D A w → va_S A s.heap H locs → G A s → ∀ ls : Array Slot, lv_has ls maxL (lv_args 0 av) →
      W p l e rm s m args below meth c H locs 0 0 Q (F0 m 0 ls [])) : kT l y ws rm D cl ty G av w k r w1 mc ms sz := by
  refine MetFree.of_bodyS (code := cc) (maxLocals := maxL) (ret := ret) hy ?_ ?_
  · intro args s m h hn
    obtain ⟨meth, c, h1, h2, h3, h4, h5, h6, -, -⟩ := Cond.code_spec hn (atoms_spec (ws := ws) h _ (by rw [hw]; exact List.mem_cons_self))
    exact ⟨meth, c, h1, h2, h3, h4, h5, h6⟩
  · intro p e s m args below meth c s₁ B hml hP _
    obtain ⟨rfl, hsz, hP, hK, hD0, hG⟩ := hP
    subst hsz
    have hh0 : s₁.heap = s.heap := by rw [B.state]; rfl
    have hl := lv_entry av (n := maxL) hle
    have ht : c.exceptionTable.toList = [] := by
      obtain ⟨meth9, c9, h1, h2, -, -, -, -, h7, -⟩ := Cond.code_spec B.named (atoms_spec (ws := ws) B.pre _ (by rw [hw]; exact List.mem_cons_self))
      cases Option.some.inj (h1.symm.trans B.method)
      cases Option.some.inj (h2.symm.trans (Stand.of_body B).code)
      rw [Array.isEmpty_iff.mp h7]
    have K := body p e s m _ below meth c _ rfl B.exec B.bytes B.returns (atoms_spec (ws := ws) B.pre) (findClass_of_methodNamed B.named) B.notSynchronized hml ht s.heap [] _ rfl (fun q h => Or.inr h) hP hK (hD0.self (sz := s.heap.size)) va_S.rf hG _ hl
    rw [← lg_entry_eq] at K
    obtain ⟨t, a1, o, b1, b2, b3⟩ := K s₁ hh0 (Stand.of_body B)
    exact ⟨t, o, a1, b1, b2, b3⟩
end MyT
section MyT2
variable {p : Program} {l : Launch} {e : Env} {R : Room} {s : State} {m : MethodId} {args : Array Value} {below : List Frame} {meth : Method} {c : Code} {H : Heap} {locs : List Loc} {cells slots : Nat} {Q : State → Prop} {cc : ByteArray} {pc : Nat} {ls : Array Slot} {rest : List Value} {D : va_G} {cl : List vw_C} {A : Nat → Prop} {ty : List (ClassId × FieldType)} {G : (Nat → Prop) → State → Prop} {w w1 : va_W} {mc ms : Nat}
theorem kTi {v : Int32} (hx : p.tables.exec = Jvm.exec) (hb : c.code = cc) (hr : meth.sig.returnType = some .int) (hlocks : meth.locks = false) (hAe : A = va_A w s.heap.size) (hP : va_P D cl w1 H) (hK : va_K D cl ty s) (hD : va_D A w1) (hS : va_S A s.heap H locs) (hc : cells ≤ mc) (hs : slots ≤ ms) (hdg : decode cc pc = .ok (.ireturn, 1)) :
    W p l e R s m args below meth c H locs cells slots (kTZ below (kTQ D cl ty w 0 v w1 mc ms s.heap.size) args s) (F0 m pc ls [.int v]) := by
  intro T hT X
  obtain ⟨t, a1, o, b1, b2, b3, b4⟩ := W.widen (k := mc) (n := ms) hc hs (kri (w := w) (w1 := w1) hx hb hr hlocks hAe hP hK hD hS hdg) T hT X
  exact ⟨t, a1, o, b1, b2, Or.inl ⟨rfl, b3, b4⟩⟩
theorem kTz {v : Int32} {rt : FieldType} (hx : p.tables.exec = Jvm.exec) (hb : c.code = cc) (hr : meth.sig.returnType = some rt) (hn : narrow rt (.int v) = .int v) (hlocks : meth.locks = false) (hAe : A = va_A w s.heap.size) (hP : va_P D cl w1 H) (hK : va_K D cl ty s) (hD : va_D A w1) (hS : va_S A s.heap H locs) (hc : cells ≤ mc) (hs : slots ≤ ms) (hdg : decode cc pc = .ok (.ireturn, 1)) :
    W p l e R s m args below meth c H locs cells slots (kTZ below (kTQ D cl ty w 0 v w1 mc ms s.heap.size) args s) (F0 m pc ls [.int v]) := by
  intro T hT X
  obtain ⟨t, a1, o, b1, b2, b3, b4⟩ := W.widen (k := mc) (n := ms) hc hs (krz (w := w) (w1 := w1) hx hb hr hn hlocks hAe hP hK hD hS hdg) T hT X
  exact ⟨t, a1, o, b1, b2, Or.inl ⟨rfl, b3, b4⟩⟩
/-- the frame that stands here, seen as one that is entered here -/
theorem kHere {T : State} (X : Stand p l e R s m args below meth c T locs cells slots) {R2 : Room} (hf : R2.frames ≤ R.frames) (hl : R2.locals ≤ R.locals) (hc : cells + R2.cells ≤ R.cells) (hs : slots + R2.slots ≤ R.slots) :
    Stand p l e R2 ((T.setVm s.vm).setFrames (.invoking m args :: below)) m args below meth c T [] 0 0 := by
  have ht : (T.setVm s.vm).topJava?.isSome := X.here.top
  obtain ⟨g0, hg0⟩ := Option.isSome_iff_exists.mp ht
  obtain ⟨r0, hr0⟩ := State.topJava?_eq_some.mp hg0
  obtain ⟨th, hth, -⟩ := State.frames_cons hr0
  have hfr : ((T.setVm s.vm).setFrames (.invoking m args :: below)).frames = .invoking m args :: below := State.frames_setFrames _ (State.cur_lt_of_top ht)
  have hme : e.platform.stackLimits (T.setVm s.vm).me = e.platform.stackLimits s.me := X.limits
  have hby : (T.setVm s.vm).me.stackBytes = s.me.stackBytes := X.bytes
  have huse : ((T.setVm s.vm).setFrames (.invoking m args :: below)).localsInUse = s.localsInUse := by
    rw [State.localsInUse_invoking hfr (meth := meth) (c := c) X.method X.code, State.localsInUse_invoking X.frames X.method X.code]
  have hroom : ((T.setVm s.vm).setFrames (.invoking m args :: below)).hasRoom e.platform R2 = true := by
    have h := X.room
    have n1 := X.heapSize
    have n2 := X.used
    simp only [State.hasRoom, Bool.and_eq_true, decide_eq_true_eq] at h ⊢
    obtain ⟨⟨⟨⟨q1, q2, q3, q4, q5, q6⟩, q7⟩, q8⟩, -⟩ := h
    rw [X.frames, List.length_cons] at q2 q3
    simp only [hfr, huse, List.length_cons, State.stackLimits_setFrames, State.stackBytes_setFrames, hme, hby]
    refine ⟨⟨⟨⟨by omega, by omega, by omega, by omega, by omega, q6⟩, ?_⟩, ?_⟩, X.book⟩
    · show T.heap.size + R2.cells ≤ e.platform.maxCells; omega
    · show T.slotsUsed + R2.slots ≤ e.platform.maxSlots; omega
  have hnone : ((T.heap.toList.drop T.heap.size).map (·.slots.size)).sum = 0 := by
    rw [List.drop_eq_nil_of_le (Nat.le_of_eq Array.length_toList)]; rfl
  refine ⟨X.admits, X.cas, X.clock, hfr, hroom, X.hears, X.method, X.code, X.here, X.tail, X.warmed, ?_, ?_, ?_, Nat.le_refl _, Nat.le_refl _, ?_, ?_, fun a c9 h9 => ⟨c9, h9, rfl, rfl, fun _ _ => rfl⟩⟩
  · rw [State.stackLimits_setFrames]; rfl
  · rw [State.stackBytes_setFrames]; rfl
  · show T.setVm s.vm = { ((T.setVm s.vm).setFrames (.invoking m args :: below)).setFrames (T.setVm s.vm).frames with heap := T.heap, slotsUsed := T.slotsUsed }
    rw [State.setFrames_setFrames, State.setFrames_self hth]
    rfl
  · show T.slotsUsed = T.slotsUsed + ((T.heap.toList.drop T.heap.size).map (·.slots.size)).sum
    rw [hnone]; rfl
  · show ((T.heap.toList.drop T.heap.size).map (·.slots.size)).sum ≤ 0
    rw [hnone]; exact Nat.le_refl _
end MyT2

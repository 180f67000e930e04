section MyT3
variable {p : Program} {l : Launch} {e : Env} {R : Room} {s : State} {m : MethodId} {args : Array Value} {below : List Frame} {meth : Method} {c : Code} {H : Heap} {locs : List Loc} {cells slots : Nat} {Q : State → Prop} {cc : ByteArray} {pc : Nat} {ls : Array Slot} {rest : List Value} {D : va_G} {cl : List vw_C} {A : Nat → Prop} {ty : List (ClassId × FieldType)} {G : (Nat → Prop) → State → Prop} {w w1 : va_W} {mc ms : Nat}
/-- nothing written: every old cell is as it was -/
theorem kSame {s U : State} {k n : Nat} (h : s.sameButNew U [] k n) : s.heap.size ≤ U.heap.size ∧ ∀ q : Nat, q < s.heap.size → U.heap[q]? = s.heap[q]? := by
  obtain ⟨-, h2, -, -, -, h6⟩ := h
  refine ⟨h2, fun q hq => ?_⟩
  obtain ⟨c9, e1, e2, -, e4⟩ := h6 q _ (Array.getElem?_eq_getElem hq)
  have hs : c9.slots = (s.heap[q]).slots := Array.ext_getElem? fun i => e4 i (fun hm => nomatch hm)
  rw [hs] at e2
  rw [e1, Array.getElem?_eq_getElem hq]
  exact congrArg some e2
/-- the words of a throw, at a state with these tables and this heap -/
def kOwn (own : String) (ic : Nat) (cls : String) (names : List String) : Prop := ∀ w ∈ Bundle.ownAtoms own ic cls names, (w ∈ gw ∧ w.onTables = true) ∨ w ∈ declW ∨ w = .castable cls cls ∨ w = .laysStatic "java/lang/Throwable" "UNASSIGNED_STACK" "[Ljava/lang/StackTraceElement;" ∨ w = .laysStatic "java/lang/Throwable" "SUPPRESSED_SENTINEL" "Ljava/util/List;" ∨ w = .isRef (.static "java/lang/Throwable" "UNASSIGNED_STACK" "[Ljava/lang/StackTraceElement;") ∨ w = .isRef (.static "java/lang/Throwable" "SUPPRESSED_SENTINEL" "Ljava/util/List;")
theorem kThrow {own cls text : String} {names : List String} {ik is ic k sa : Nat} (hx : p.tables.exec = Jvm.exec) (hb : c.code = cc) (hst : l.stackTraces = false)
    (hts : ∀ w ∈ gw, w.before args s = true) (hT : gThr A s) (hk : kxn k cls) (hfit : Bundle.fit cls = true ∧ ∀ n ∈ names, Bundle.fit n = true) (hown : s.vm.findClass own = some m.cls) (hwords : kOwn own ic cls names)
    (hlk : Cond.classLink own ik cls ∈ gw) (hini : Cond.initialized cls ∈ gw) (hins : Cond.instantiable cls 6 ∈ gw) (hstr : vk_R own is text sa s) (htab : c.exceptionTable.toList = []) (hsize : ls.size = c.maxLocals) (hlocks : meth.locks = false)
    (hAe : A = va_A w s.heap.size) (hP : va_P D cl w1 H) (hK : va_K D cl ty s) (hD : va_D A w1) (hS : va_S A s.heap H locs)
    (hRf : names.length + 3 < R.frames) (hRl : (rest.map fun v => v.category).sum + (13 * (names.length + 1) + 43) ≤ R.locals) (hRc : cells + 1 ≤ R.cells) (hRs : slots + 6 ≤ R.slots) (hmc : cells + 1 ≤ mc) (hms : slots + 6 ≤ ms)
    (d0 : decode cc pc = .ok (.new ik, 3)) (d3 : decode cc (pc + 3) = .ok (.dup, 1)) (d4 : decode cc (pc + 4) = .ok (.ldc is, 2)) (d6 : decode cc (pc + 6) = .ok (.invokespecial ic, 3)) (d9 : decode cc (pc + 9) = .ok (.athrow, 1)) :
    W p l e R s m args below meth c H locs cells slots (kTZ below (kTQ D cl ty w k 0 w1 mc ms s.heap.size) args s) (F0 m pc ls rest) := by
  intro T hTH X
  have htr : e.platform.stackTraces = false := (show e.platform.stackTraces = l.stackTraces by rw [X.admits.platform]).trans hst
  have Y := kHere X (R2 := { frames := R.frames, locals := R.locals, cells := 1, slots := 6 }) (Nat.le_refl _) (Nat.le_refl _) hRc hRs
  generalize hs2 : (T.setVm s.vm).setFrames (.invoking m args :: below) = s2 at Y
  have hvm : s.vm = s2.vm := by rw [← hs2]; rfl
  have hhp : s2.heap = H := by rw [← hs2]; exact hTH
  have hold : ∀ q : Nat, q < s.heap.size → ¬ A q → s2.heap[q]? = s.heap[q]? := by rw [hhp]; exact hS.2.1
  have hW0 : s.WarmedH s2.vm := by rw [← hvm]; exact State.WarmedH.refl s
  have hg2 : ∀ w ∈ gw, w.onTables = true → w.before args s2 = true := fun w hw ho => va_tabs ho hvm (hts w hw)
  have zU : kZ "java/lang/Throwable" "UNASSIGNED_STACK" "[Ljava/lang/StackTraceElement;" A s2 s2.heap := kZ.moved hW0.alike (hT.1.kept hold)
  have zN : kZ "java/lang/Throwable" "SUPPRESSED_SENTINEL" "Ljava/util/List;" A s2 s2.heap := kZ.moved hW0.alike (hT.2.1.kept hold)
  have hcast : (Cond.castable cls cls).before args s2 = true := by
    rcases hk with ⟨-, rfl⟩ | ⟨-, rfl⟩
    · exact va_Nw.use (A := args) rfl (va_Nw.same rfl hvm hT.2.2.1)
    · exact va_Nw.use (A := args) rfl (va_Nw.same rfl hvm hT.2.2.2.1)
  have hall : ∀ w ∈ Bundle.ownAtoms own ic cls names, w.before args s2 = true := by
    intro w hw
    rcases hwords w hw with ⟨h1, h2⟩ | hdec | rfl | rfl | rfl | rfl | rfl
    · exact hg2 w h1 h2
    · have ho : w.onTables = true := by
        simp only [declW, List.mem_cons, List.not_mem_nil, or_false] at hdec
        rcases hdec with rfl | rfl | rfl <;> rfl
      exact va_Nw.use (A := args) ho (va_Nw.same ho hvm (hT.2.2.2.2 w hdec))
    · exact hcast
    · exact zU.lays
    · exact zN.lays
    · exact zU.isRef
    · exact zN.isRef
  have hown2 : s2.vm.findClass own = some m.cls := by rw [← hvm]; exact hown
  obtain ⟨vm1, cX, kX, hfX, hkX, -, -, X1, st1⟩ := Y.newCold hx (own := own) (C := cls) (index := ik) (n := 6) hown2 (hg2 _ hlk rfl) (hg2 _ hins rfl) (hg2 _ hini rfl) (g := F0 m pc ls rest) rfl (by rw [hb]; exact d0) (Nat.le_refl _) (Nat.le_refl _)
  generalize hT1 : (T.setVm vm1).pushCell { cls := cX, slots := kX.instanceTypes.map defaultValue, vm := .none } = T1 at X1 st1
  have hcellA : T1.heap[T.heap.size]? = some { cls := cX, slots := kX.instanceTypes.map defaultValue, vm := .none } := by rw [← hT1]; exact State.heap_pushCell_size _ _
  have d3' : decode c.code (pc + 3) = .ok (.dup, 1) := by rw [hb]; exact d3
  have d4' : decode c.code (pc + 4) = .ok (.ldc is, 2) := by rw [hb]; exact d4
  have hcat : (Value.ref T.heap.size).category = 1 := rfl
  have hstr2 : vk_R own is text sa s2 := vk_R.warm hW0 hstr
  obtain ⟨U, hsteps, hrun, hend, hW, hsame, ce, hce, hO⟩ := X1.ctorThrowS hx htr (own := own) (cls := cls) (names := names) (ic := ic) hown2 hfit.1 hfit.2 hall (fun x hx => nomatch hx) hfX hkX hcellA (by rw [hhp, hTH]; exact Nat.le_refl _) (msg := .ref sa) rfl
    (g := { method := m, pc := pc + 6, locals := ls, stack := .ref sa :: .ref T.heap.size :: .ref T.heap.size :: rest, locked := none }) rfl hsize rfl rfl (rest := rest) rfl
    (by rw [hb]; exact d6) (by rw [hb]; exact d9) (by rw [htab]; exact fun x hx => nomatch hx) hRf (by simp only [List.map_cons, List.sum_cons, hcat]; omega) hlocks
  obtain ⟨f1, f2⟩ := kSame hsame
  rw [hhp] at f1 f2
  have f2' : ∀ q : Nat, q < H.size → U.heap[q]? = H[q]? := f2
  have hWs : s.WarmedH U.vm := State.WarmedH.trans hW0 hW
  have hcl : s.vm.findClass cls = some ce.cls := by
    have h9 := hO.cls
    rw [← hvm] at h9
    exact h9
  have hsm : s.sameButNew ({ U with vm := s.vm } : State) locs mc ms := by
    subst hs2
    obtain ⟨e1, e2⟩ := hsame
    rw [State.setFrames_setFrames] at e1
    have h2 : (T.setVm s.vm).sameButNew ({ U with vm := s.vm } : State) [] (0 + 1) (0 + 6) := ⟨e1, e2⟩
    have h3 := X.same.trans h2
    rw [List.append_nil] at h3
    exact h3.mono hmc hms
  subst hAe
  refine ⟨U, ?_, .threw T.heap.size, hrun, hend, Or.inr ⟨T.heap.size, cls, ce, locs, rfl, hk, hce, hO.vm, hcl, hWs, hsm, hS.2.2, ⟨hP.kept (fun j q hj => f2' q.1 ((hP j q hj).lt)), va_K.moved hWs.alike hK, hD⟩, Nat.le_trans hS.1 f1, fun q h1 h2 => ?_⟩⟩
  · refine st1 _ ?_
    show Steps p.tables e below (T1.setTop { method := m, pc := pc + 3, locals := ls, stack := .ref T.heap.size :: rest, locked := none }) _
    jvm_step X1.here [X1.here.top, hx, d3', Value.category]
    exact X1.ldcString hx (own := own) (text := text) (index := is) (a := sa) hown2 hstr2.1 hstr2.2
      (g := { method := m, pc := pc + 4, locals := ls, stack := .ref T.heap.size :: .ref T.heap.size :: rest, locked := none }) rfl d4' _ hsteps
  · rw [f2' q (Nat.lt_of_lt_of_le h1 hS.1)]
    exact hS.2.1 q h1 h2
end MyT3
set_option maxRecDepth 100000 in
theorem own_IAE : kOwn "AlarmMatrix" 70 "java/lang/IllegalArgumentException" ["java/lang/RuntimeException", "java/lang/Exception"] := by unfold kOwn; decide +kernel
set_option maxRecDepth 100000 in
theorem own_ISE : kOwn "AlarmMatrix" 81 "java/lang/IllegalStateException" ["java/lang/RuntimeException", "java/lang/Exception"] := by unfold kOwn; decide +kernel
theorem fit_IAE : Bundle.fit "java/lang/IllegalArgumentException" = true ∧ ∀ n ∈ ["java/lang/RuntimeException", "java/lang/Exception"], Bundle.fit n = true := by decide +kernel
theorem fit_ISE : Bundle.fit "java/lang/IllegalStateException" = true ∧ ∀ n ∈ ["java/lang/RuntimeException", "java/lang/Exception"], Bundle.fit n = true := by decide +kernel

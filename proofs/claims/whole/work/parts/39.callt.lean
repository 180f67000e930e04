section MyCallT
variable {p : Program} {l : Launch} {e : Env} {R : Room} {s : State} {m : MethodId} {args : Array Value} {below : List Frame} {meth : Method} {c : Code} {H : Heap} {locs : List Loc} {cells slots : Nat} {Q : State → Prop} {cc : ByteArray} {pc : Nat} {ls : Array Slot} {rest : List Value} {D : va_G} {cl : List vw_C} {A : Nat → Prop} {ty : List (ClassId × FieldType)} {G : (Nat → Prop) → State → Prop} {ws wc wr w1 : va_W} {mc ms : Nat}
/-- the row of the table that takes what is thrown; those ahead of it are passed -/
def kHand (c : Code) (args : Array Value) (s : State) (own E : String) (pc hpc : Nat) : Prop := ∃ (pre : List ExceptionTableEntry) (x : ExceptionTableEntry) (suf : List ExceptionTableEntry) (n0 : String), c.exceptionTable.toList = pre ++ x :: suf ∧ covers x pc = true ∧ x.catchType ≠ 0 ∧ (Cond.classLink own x.catchType n0).before args s = true ∧ (Cond.castable E n0).before args s = true ∧ (∀ y ∈ pre, covers y pc = true ∧ y.catchType ≠ 0 ∧ ∃ n1 : String, (Cond.classLink own y.catchType n1).before args s = true ∧ (Cond.not (.castable E n1)).before args s = true) ∧ x.handlerPc = hpc
set_option maxHeartbeats 1000000 in
theorem kcT {own C : String} {index nL n k maxL hpc b : Nat} {y : MethodName} {bytes : ByteArray} {ret : Option FieldType} {cw : List Cond} {rm : Room} {r : Int32} {As : List Value} {Ts : List Cond} (S : CallFix p m c cc nL s args Ts own) (hM : kT l y cw rm D cl ty G (.ref b :: As) wc k r w1 mc ms H.size) (hk : k ≠ 0) (hcall : CallW R s args own C index y bytes maxL ret cw rm mc ms n) (hp : PreV s H C b (kq D cl ty G (.ref b :: As) H.size wc) As)
    (hn : As.length = n) (hsize : ls.size = nL) (hroom : 2 * (F0 m pc ls rest).monitorRoom + (rest.map fun v => v.category).sum ≤ 8) (hdg : decode cc pc = .ok (.invokevirtual index, 3)) (hf : cells + mc ≤ R.cells ∧ slots + ms ≤ R.slots)
    (hP : va_P D cl ws H) (hD : va_D A ws) (hS : va_S A s.heap H locs) (hA : ∀ q, s.heap.size ≤ q → A q) (isC isR : List Nat) (hC : isC.map (fun i => ws[i]?) = wc.map some) (hR : isR.map (fun i => ws[i]?) = wr.map some) (hnd : va_nd isR = true) (hdis : ∀ i ∈ isR, i ∉ isC)
    (hcatch : ∀ E, kxn k E → kHand c args s own E pc hpc)
    (kk : ∀ (q : Nat) (H1 : Heap) (locs1 : List Loc), va_P D cl (wr ++ w1) H1 → va_D A (wr ++ w1) → va_S A s.heap H1 locs1 → W p l e R s m args below meth c H1 locs1 (cells + mc) (slots + ms) Q (F0 m hpc ls [.ref q])) :
    W p l e R s m args below meth c H locs cells slots Q (F0 m pc ls (As.reverse ++ .ref b :: rest)) := by
  intro T hT X
  obtain ⟨hx, hb, hml, hown, -⟩ := S
  obtain ⟨⟨hrc, hrs, hfr, hlo, hws, hcw, hcode, hini, hy, hlen, hlink⟩, hinst, hsel⟩ := hcall
  obtain ⟨hblind, ⟨cellB, hcB, hoB, hclB⟩, hPc⟩ := hp
  obtain ⟨mk, methM, hnamed, hmethM, hstM, habM⟩ := Cond.instanceMethod_spec hinst
  obtain ⟨methM2, cM, hmethM2, hcM, -, hmaxM, -, -, -, hsigM⟩ := Cond.code_spec hnamed hcode
  cases hmethM.symm.trans hmethM2
  obtain ⟨c2, r2, m2, q1, q2, q3, q4, kP, hkP, hkPi⟩ := Cond.selects_spec hsel
  cases hclB.symm.trans q1
  cases (State.methodFound?_of_named hnamed hy).symm.trans q2
  cases hnamed.symm.trans q3
  have hselP : selectMethod e.platform s.vm cellB.cls mk = .method mk := by rw [Launch.admits_selectMethod X.admits]; exact q4
  have hdg2 : decode c.code pc = .ok (.invokevirtual index, 3) := by rw [hb]; exact hdg
  obtain ⟨vm1, X1, hstep1⟩ := X.invokevirtual hx hown hlink hnamed hmethM hstM hkP hkPi hy (a := b) (cell := cellB) (by rw [hT]; exact hcB)
    (fun z h => by rw [h] at hoB; cases hoB) hselP hmethM habM hkP hkPi (g := F0 m pc ls (As.reverse ++ .ref b :: rest)) rfl (argsL := As) (rest := rest) (hn.trans (hlen _ hsigM)) rfl hdg2
  generalize hU : T.setVm vm1 = U at X1 hstep1
  have hUH : U.heap = H := by rw [← hU]; exact hT
  have hUvm : s.WarmedH U.vm := X1.warmed
  obtain ⟨g, hg⟩ : ∃ g, g = F0 m pc ls rest := ⟨_, rfl⟩
  have hgm : g.method = m := by rw [hg]
  have hhere : At U g.method c below := by rw [hgm]; exact X1.here
  obtain ⟨mid, hmid⟩ := hhere.above
  have hframes : (U.setTop g).frames = (.java g :: mid) ++ below := by rw [State.frames_setTop' g hhere.top, hmid]; rfl
  have hnamedU := X1.named hnamed
  have hcodeU : (Cond.code y bytes maxL ret).before (Value.ref b :: As).toArray U = true := hws _ hcw _ _ hUvm
  have hiniU : (Cond.initialized y.cls).before (Value.ref b :: As).toArray U = true := word_at hUvm (Or.inl (by first | rfl | simp [Cond.onTables, Cond.keeps, Cond.steady])) hini
  obtain ⟨methY, cY, hmY, hcY, -, hlY, -, -, -, -⟩ := Cond.code_spec hnamedU hcodeU
  obtain ⟨kY, hkY, -⟩ := className_of_methodNamed hnamedU
  have hinitY : kY.init = .initialized := Cond.initialized_spec (findClass_of_methodNamed hnamedU) hkY hiniU
  have happ : (headSpec cw rm).appliesLoose y e.platform (U.calling g mk (Value.ref b :: As).toArray) = true :=
    Spec.appliesLoose_calling (g := g) hhere (by rw [hg]; exact hdg2) hnamedU hkY hinitY
      (X1.room_calling (g := g) (R' := (headSpec cw rm).room) (by rw [hg]; exact hsize.trans hml.symm) hmY hcY hfr (by
        have : (headSpec cw rm).room.locals = rm.locals := rfl
        have h8 := hroom
        have h7 : (F0 m pc ls rest).stack = rest := rfl
        rw [hg, h7, this, hlY]
        omega) (by rw [show (headSpec cw rm).room.cells = mc from hrc]; exact hf.1) (by rw [show (headSpec cw rm).room.slots = ms from hrs]; exact hf.2)) (atoms_intro fun w hw => hws w hw _ _ hUvm)
  obtain ⟨o, s2, hsteps, -, hend, hq⟩ := Steps.callFree hM p X.admits X.cas X.clock (acts := []) hframes happ (hblind _ _ _ _ (hPc U hUH hUvm)) trivial
  rcases hq with ⟨h0, -⟩ | ⟨q, E, ce, L, rfl, hkE, hce, hcv, hcl, hW2, hsm, hL, hkw, hFF⟩
  · exact absurd h0 hk
  rw [State.frames_setTop' g hhere.top] at hend
  obtain ⟨g0, hg0⟩ := Option.isSome_iff_exists.mp hhere.top
  obtain ⟨r0, hr0⟩ := State.topJava?_eq_some.mp hg0
  have hW3 : U.WarmedH s2.vm := hW2
  obtain ⟨e2, b2, b3, b4, b5, b6⟩ := id hsm
  have e3 : s2 = ({ (U.calling g mk (Value.ref b :: As).toArray).setFrames s2.frames with heap := s2.heap, slotsUsed := s2.slotsUsed } : State).setVm s2.vm := by
    have h9 : s2 = ({ s2 with vm := (U.calling g mk (Value.ref b :: As).toArray).vm } : State).setVm s2.vm := rfl
    exact h9.trans (congrArg (fun z : State => z.setVm s2.vm) e2)
  have hf2 : s2.frames = .throwing q :: .java g :: U.frames.tail := hend
  obtain ⟨T2, hT2⟩ : ∃ z, z = ({ U with heap := s2.heap, slotsUsed := s2.slotsUsed } : State).setVm s2.vm := ⟨_, rfl⟩
  have hr2 : T2.frames = .java g0 :: r0 := by rw [hT2]; exact hr0
  have hs2 : s2 = (T2.setTop g).pushFrame (.throwing q) := by
    rw [State.pushFrame, State.frames_setTop _ hr2, State.setTop_of_frames _ hr2, State.setFrames_setFrames, hT2]
    refine e3.trans ?_
    rw [hf2, State.calling_eq hhere.top, State.setFrames_setFrames, hr0]
    rfl
  have hsame : U.sameButNew ({ U with heap := s2.heap, slotsUsed := s2.slotsUsed } : State) L mc ms := by
    refine ⟨?_, b2, b3, b4, b5, b6⟩
    obtain ⟨th, hth, -⟩ := State.frames_cons hr0
    show ({ U with heap := s2.heap, slotsUsed := s2.slotsUsed } : State) = { U.setFrames U.frames with heap := s2.heap, slotsUsed := s2.slotsUsed }
    rw [State.setFrames_self hth]
  have X2 : Stand p l e R s m args below meth c T2 (locs ++ L) (cells + mc) (slots + ms) := by
    subst hT2
    subst hgm
    exact ⟨X1.admits, X1.cas, X1.clock, X1.frames, X1.room, X1.hears, X1.method, X1.code, (X1.here.setHeapUsed s2.heap s2.slotsUsed).setVm hW3.alike, X1.tail, State.WarmedH.trans X1.warmed hW3, X1.limits, X1.bytes, X1.same.trans (hsame.setVm s.vm)⟩
  have hT2H : T2.heap = s2.heap := by rw [hT2]; rfl
  have hclE : s.vm.findClass E = some ce.cls := by
    have h9 : U.vm.findClass E = some ce.cls := hcl
    rw [hUvm.alike.findClass] at h9
    exact h9
  obtain ⟨pre, x, suf, n0, k1, k2, k3, k4, k5, k6, k7⟩ := hcatch E hkE
  obtain ⟨vm3, X3, st3⟩ := kCaught X2 (a := q) (g := g) hgm (by rw [hT2H]; exact hce) hcv hown hclE pre x suf k1 (by rw [hg]; exact k2) k3 k4 k5 (fun z hz => by
    obtain ⟨j1, j2, j3⟩ := k6 z hz
    exact ⟨by rw [hg]; exact j1, j2, j3⟩)
  have hF := va_free (wc := wc) hD hS hA isC hC
  obtain ⟨hP1, -, hD1⟩ := hkw
  obtain ⟨hz, hkeep⟩ := hFF
  have hz2 : H.size ≤ s2.heap.size := by rw [← hUH]; exact hz
  have hkeep2 : ∀ q : Nat, q < H.size → ¬ va_A wc H.size q → s2.heap[q]? = H[q]? := by rw [← hUH] at *; exact hkeep
  obtain ⟨hP2, hD2⟩ := va_join (wr := wr) (w1 := w1) hP hD isC isR hC hR hnd hdis hkeep2 hF hP1 hD1
  have hS2 : va_S A s.heap s2.heap (locs ++ L) := ⟨Nat.le_trans hS.1 hz2, fun q h1 h2 => by
    rw [hkeep2 q (Nat.lt_of_lt_of_le h1 hS.1) (fun z => h2 (hF q z))]; exact hS.2.1 q h1 h2, fun z hz => by
    rcases List.mem_append.mp hz with h | h
    · exact hS.2.2 z h
    · exact hF _ (hL z h)⟩
  obtain ⟨t, a1, b1⟩ := kk q s2.heap (locs ++ L) hP2 hD2 hS2 (T2.setVm vm3) hT2H X3
  refine ⟨t, hstep1 _ fun acts => ?_, b1⟩
  rw [doInvoke_state]
  have hst : Steps p.tables e below (doInvoke e (U.setTop g) [] mk (Value.ref b :: As).toArray).1 s2 := hsteps
  have hgo : Steps p.tables e below ((T2.setTop g).pushFrame (.throwing q)) t := st3 t (by rw [k7, hg]; exact a1)
  rw [← hs2] at hgo
  rw [hg] at hst
  exact hst.trans hgo
end MyCallT

-- WORLDS IN ANOTHER ORDER
section MyPerm
variable {p : Program} {l : Launch} {e : Env} {R : Room} {s : State} {m : MethodId} {args : Array Value} {below : List Frame} {meth : Method} {c : Code} {H : Heap} {locs : List Loc} {cells slots : Nat} {Q : State → Prop} {cc : ByteArray} {pc : Nat} {ls : Array Slot} {st0 rest : List Value} {D : va_G} {cl : List vw_C} {A : Nat → Prop} {ty : List (ClassId × FieldType)} {G : (Nat → Prop) → State → Prop} {w w' wc wr w1 : va_W} {mc ms : Nat} {a : Array Value}
theorem va_P.perm (h : va_P D cl w H) (hp : w.Perm w') : va_P D cl w' H := by
  intro k q hk
  obtain ⟨i, hi⟩ := List.getElem?_of_mem (hp.mem_iff.mpr (List.mem_of_getElem? hk))
  exact h i q hi
theorem va_D_iff : va_D A w ↔ (w.map Prod.fst).Nodup ∧ ∀ q ∈ w, A q.1 := by
  constructor
  · intro h
    refine ⟨List.pairwise_iff_getElem.mpr (fun i j hi hj hij he => ?_), fun q hq => ?_⟩
    · have hj2 : j < w.length := by rw [List.length_map] at hj; exact hj
      have hi2 : i < w.length := Nat.lt_trans hij hj2
      rw [List.getElem_map, List.getElem_map] at he
      have := h.1 i j _ _ (List.getElem?_eq_getElem hi2) (List.getElem?_eq_getElem hj2) he
      omega
    · obtain ⟨i, hi⟩ := List.getElem?_of_mem hq
      exact h.2 i q hi
  · intro h
    refine ⟨fun i j p q hi hj hpq => ?_, fun k q hk => h.2 q (List.mem_of_getElem? hk)⟩
    have hn := List.pairwise_iff_getElem.mp h.1
    obtain ⟨hi2, hi3⟩ := List.getElem?_eq_some_iff.mp hi
    obtain ⟨hj2, hj3⟩ := List.getElem?_eq_some_iff.mp hj
    have hi4 : i < (w.map Prod.fst).length := by rw [List.length_map]; exact hi2
    have hj4 : j < (w.map Prod.fst).length := by rw [List.length_map]; exact hj2
    have he : (w.map Prod.fst)[i] = (w.map Prod.fst)[j] := by rw [List.getElem_map, List.getElem_map, hi3, hj3]; exact hpq
    rcases Nat.lt_trichotomy i j with h1 | h1 | h1
    · exact absurd he (hn i j hi4 hj4 h1)
    · exact h1
    · exact absurd he.symm (hn j i hj4 hi4 h1)
theorem va_D.perm (h : va_D A w) (hp : w.Perm w') : va_D A w' := by
  rw [va_D_iff] at h ⊢
  exact ⟨(hp.map Prod.fst).nodup_iff.mp h.1, fun q hq => h.2 q (hp.mem_iff.mpr hq)⟩
theorem ix_C : (List.range wc.length).map (fun i => (wc ++ wr)[i]?) = wc.map some := by
  apply List.ext_getElem?
  intro i
  rw [List.getElem?_map, List.getElem?_map]
  by_cases h : i < wc.length
  · rw [List.getElem?_range h, Option.map_some, List.getElem?_append_left h, List.getElem?_eq_getElem h]; rfl
  · rw [List.getElem?_eq_none (by rw [List.length_range]; omega), List.getElem?_eq_none (by omega)]; rfl
theorem ix_R : ((List.range wr.length).map (fun k => k + wc.length)).map (fun i => (wc ++ wr)[i]?) = wr.map some := by
  apply List.ext_getElem?
  intro i
  rw [List.getElem?_map, List.getElem?_map, List.getElem?_map]
  by_cases h : i < wr.length
  · rw [List.getElem?_range h, Option.map_some, Option.map_some, List.getElem?_append_right (by omega), List.getElem?_eq_getElem h, Nat.add_sub_cancel, List.getElem?_eq_getElem h]; rfl
  · rw [List.getElem?_eq_none (by rw [List.length_range]; omega), List.getElem?_eq_none (by omega)]; rfl
theorem nd_of {l : List Nat} (h : l.Nodup) : va_nd l = true := by
  induction l with
  | nil => rfl
  | cons a l ih =>
    rw [List.nodup_cons] at h
    simp only [va_nd, ih h.2, h.1, not_false_eq_true, decide_true, Bool.and_self]
theorem nd_C {n : Nat} : va_nd (List.range n) = true := nd_of List.nodup_range
theorem nd_R {n k : Nat} : va_nd ((List.range n).map (fun j => j + k)) = true := by
  refine nd_of (List.pairwise_iff_getElem.mpr (fun i j hi hj hij he => ?_))
  rw [List.getElem_map, List.getElem_map, List.getElem_range, List.getElem_range] at he
  omega
theorem dis_R {n k : Nat} : ∀ i ∈ (List.range n).map (fun j => j + k), i ∉ List.range k := by
  intro i hi h
  obtain ⟨j, -, rfl⟩ := List.mem_map.mp hi
  rw [List.mem_range] at h
  omega
theorem kpVP {C : String} {b : Nat} {As : List Value} {q : vw_C} {q0 ci : Nat} {fs : List Value} (hG : gok G) (hP : va_P D cl (wc ++ wr) H) (hK : va_K D cl ty s) (hD : va_D A (wc ++ wr)) (hS : va_S A s.heap H locs) (hA : ∀ q, s.heap.size ≤ q → A q) (hGA : G A s) (hc : cl[ci]? = some q) (he : wc[q0]? = some (b, .inr (ci, fs))) (hq : q.1 = C) :
    PreV s H C b (kq D cl ty G (.ref b :: As) H.size wc) As := kpV hG hP hK hD hS hA hGA (List.range wc.length) nd_C ix_C hc he hq
theorem kpSP {As : List Value} (hG : gok G) (hP : va_P D cl (wc ++ wr) H) (hK : va_K D cl ty s) (hD : va_D A (wc ++ wr)) (hS : va_S A s.heap H locs) (hA : ∀ q, s.heap.size ≤ q → A q) (hGA : G A s) :
    PreS s H (kq D cl ty G As H.size wc) As := kpS hG hP hK hD hS hA hGA (List.range wc.length) nd_C ix_C
theorem kciP {r : Int32} (hP : va_P D cl (wc ++ wr) H) (hD : va_D A (wc ++ wr)) (hS : va_S A s.heap H locs) (hA : ∀ q, s.heap.size ≤ q → A q)
    (hr : va_Run p l e R s m args below meth c H locs cells slots mc ms (F0 m pc ls st0) rest (kqi D cl ty wc r w1 H.size a) (va_A wc H.size))
    (kk : ∀ (H1 : Heap) (locs1 : List Loc), va_P D cl (w1 ++ wr) H1 → va_D A (w1 ++ wr) → va_S A s.heap H1 locs1 → W p l e R s m args below meth c H1 locs1 (cells + mc) (slots + ms) Q (F0 m (pc + 3) ls (.int r :: rest))) : W p l e R s m args below meth c H locs cells slots Q (F0 m pc ls st0) :=
  kci hP hD hS hA (List.range wc.length) ((List.range wr.length).map (fun k => k + wc.length)) ix_C ix_R nd_R dis_R hr (fun H1 locs1 h1 h2 h3 => kk H1 locs1 (h1.perm List.perm_append_comm) (h2.perm List.perm_append_comm) h3)
theorem kcTP {own C : String} {index nL n k maxL hpc b : Nat} {y : MethodName} {bytes : ByteArray} {ret : Option FieldType} {cw : List Cond} {rm : Room} {r : Int32} {As : List Value} {Ts : List Cond} (S : CallFix p m c cc nL s args Ts own) (hM : kT l y cw rm D cl ty G (.ref b :: As) wc k r w1 mc ms H.size) (hk : k ≠ 0) (hcall : CallW R s args own C index y bytes maxL ret cw rm mc ms n) (hp : PreV s H C b (kq D cl ty G (.ref b :: As) H.size wc) As)
    (hn : As.length = n) (hsize : ls.size = nL) (hroom : 2 * (F0 m pc ls rest).monitorRoom + (rest.map fun v => v.category).sum ≤ 8) (hdg : decode cc pc = .ok (.invokevirtual index, 3)) (hf : cells + mc ≤ R.cells ∧ slots + ms ≤ R.slots)
    (hP : va_P D cl (wc ++ wr) H) (hD : va_D A (wc ++ wr)) (hS : va_S A s.heap H locs) (hA : ∀ q, s.heap.size ≤ q → A q)
    (hcatch : ∀ E, kxn k E → kHand c args s own E pc hpc)
    (kk : ∀ (q : Nat) (H1 : Heap) (locs1 : List Loc), va_P D cl (w1 ++ wr) H1 → va_D A (w1 ++ wr) → va_S A s.heap H1 locs1 → W p l e R s m args below meth c H1 locs1 (cells + mc) (slots + ms) Q (F0 m hpc ls [.ref q])) :
    W p l e R s m args below meth c H locs cells slots Q (F0 m pc ls (As.reverse ++ .ref b :: rest)) :=
  kcT S hM hk hcall hp hn hsize hroom hdg hf hP hD hS hA (List.range wc.length) ((List.range wr.length).map (fun k => k + wc.length)) ix_C ix_R nd_R dis_R hcatch (fun q H1 locs1 h1 h2 h3 => kk q H1 locs1 (h1.perm List.perm_append_comm) (h2.perm List.perm_append_comm) h3)
/-- a call's start, on an object of which the callee asks no cells -/
theorem kpVe {C : String} {b : Nat} {As : List Value} {q : vw_C} {q0 ci : Nat} {fs : List Value} (hG : gok G) (hP : va_P D cl w H) (hK : va_K D cl ty s) (hD : va_D A w) (hS : va_S A s.heap H locs) (hA : ∀ q, s.heap.size ≤ q → A q) (hGA : G A s) (hc : cl[ci]? = some q) (he : w[q0]? = some (b, .inr (ci, fs))) (hq : q.1 = C) :
    PreV s H C b (kq D cl ty G (.ref b :: As) H.size ([] : va_W)) As := by
  obtain ⟨h1, h2⟩ := kpS (As := .ref b :: As) (wc := ([] : va_W)) hG hP hK hD hS hA hGA [] (by decide) rfl
  subst hq
  exact ⟨h1, va_recv hK hP hc he, h2⟩
end MyPerm
theorem perm8_0 {α : Type} (A0 A1 A2 A3 A4 A5 A6 A7 : List α) : (A0 ++ A1 ++ A2 ++ A3 ++ A4 ++ A5 ++ A6 ++ A7).Perm (A0 ++ (A1 ++ A2 ++ A3 ++ A4 ++ A5 ++ A6 ++ A7)) := by
  classical
  refine List.perm_iff_count.mpr (fun a => ?_)
  simp only [List.count_append]
  omega
theorem perm8_1 {α : Type} (A0 A1 A2 A3 A4 A5 A6 A7 : List α) : (A0 ++ A1 ++ A2 ++ A3 ++ A4 ++ A5 ++ A6 ++ A7).Perm (A1 ++ (A0 ++ A2 ++ A3 ++ A4 ++ A5 ++ A6 ++ A7)) := by
  classical
  refine List.perm_iff_count.mpr (fun a => ?_)
  simp only [List.count_append]
  omega
theorem perm8_2 {α : Type} (A0 A1 A2 A3 A4 A5 A6 A7 : List α) : (A0 ++ A1 ++ A2 ++ A3 ++ A4 ++ A5 ++ A6 ++ A7).Perm (A2 ++ (A1 ++ A0 ++ A3 ++ A4 ++ A5 ++ A6 ++ A7)) := by
  classical
  refine List.perm_iff_count.mpr (fun a => ?_)
  simp only [List.count_append]
  omega
theorem perm8_3 {α : Type} (A0 A1 A2 A3 A4 A5 A6 A7 : List α) : (A0 ++ A1 ++ A2 ++ A3 ++ A4 ++ A5 ++ A6 ++ A7).Perm (A3 ++ (A1 ++ A2 ++ A0 ++ A4 ++ A5 ++ A6 ++ A7)) := by
  classical
  refine List.perm_iff_count.mpr (fun a => ?_)
  simp only [List.count_append]
  omega
theorem perm8_4 {α : Type} (A0 A1 A2 A3 A4 A5 A6 A7 : List α) : (A0 ++ A1 ++ A2 ++ A3 ++ A4 ++ A5 ++ A6 ++ A7).Perm (A4 ++ (A1 ++ A2 ++ A3 ++ A0 ++ A5 ++ A6 ++ A7)) := by
  classical
  refine List.perm_iff_count.mpr (fun a => ?_)
  simp only [List.count_append]
  omega
theorem perm8_5 {α : Type} (A0 A1 A2 A3 A4 A5 A6 A7 : List α) : (A0 ++ A1 ++ A2 ++ A3 ++ A4 ++ A5 ++ A6 ++ A7).Perm (A5 ++ (A1 ++ A2 ++ A3 ++ A4 ++ A0 ++ A6 ++ A7)) := by
  classical
  refine List.perm_iff_count.mpr (fun a => ?_)
  simp only [List.count_append]
  omega
theorem perm8_6 {α : Type} (A0 A1 A2 A3 A4 A5 A6 A7 : List α) : (A0 ++ A1 ++ A2 ++ A3 ++ A4 ++ A5 ++ A6 ++ A7).Perm (A6 ++ (A1 ++ A2 ++ A3 ++ A4 ++ A5 ++ A0 ++ A7)) := by
  classical
  refine List.perm_iff_count.mpr (fun a => ?_)
  simp only [List.count_append]
  omega
theorem perm8_7 {α : Type} (A0 A1 A2 A3 A4 A5 A6 A7 : List α) : (A0 ++ A1 ++ A2 ++ A3 ++ A4 ++ A5 ++ A6 ++ A7).Perm (A7 ++ (A1 ++ A2 ++ A3 ++ A4 ++ A5 ++ A6 ++ A0)) := by
  classical
  refine List.perm_iff_count.mpr (fun a => ?_)
  simp only [List.count_append]
  omega

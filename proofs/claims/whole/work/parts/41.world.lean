-- THE CLASS AS ONE WORLD, AND THE LAW'S HELPERS OVER IT
def up (x : Nat → St) (k : Nat) (z : St) : Nat → St := fun j => bif Nat.beq j k then z else x j
def sw (j : Nat) : Nat → Nat
  | 0 => j
  | i + 1 => bif Nat.beq (i + 1) j then 0 else i + 1
abbrev wd_C (g : Nat → ClassId) (h : Nat) (u : Nat → Nat → Nat) (x : Nat → St) (n : Nat) : va_W := wd_AM g h (u 0) (x 0) ++ wd_Text g ((u 0) 0) (u 1) (x 1) ++ wd_Points g ((u 0) 1) (u 2) (x 2) n ++ wd_LA g ((u 0) 2) (u 3) ++ wd_LS g (u 3) (fun j => u (10 + j)) (fun j => x (10 + j)) ++ wd_Events g ((u 0) 3) (u 4) (x 4) ++ wd_Plan g ((u 0) 4) (u 5) (x 5) ++ wd_Zones g ((u 5) 0) (u 6) (x 6) ++ wd_Acts g ((u 5) 1) (u 7) (x 7) ++ wd_Plan g ((u 0) 5) (u 8) (x 8) ++ wd_Zones g ((u 8) 0) (u 9) (x 9) ++ wd_Acts g ((u 8) 1) (u 18) (x 18)
abbrev wd_LO (g : Nat → ClassId) (u : Nat → Nat → Nat) (x : Nat → St) (j : Nat) : va_W := wd_Loop g (u 3 (sw j 1)) (u (10 + sw j 1)) (x (10 + sw j 1)) ++ wd_Loop g (u 3 (sw j 2)) (u (10 + sw j 2)) (x (10 + sw j 2)) ++ wd_Loop g (u 3 (sw j 3)) (u (10 + sw j 3)) (x (10 + sw j 3)) ++ wd_Loop g (u 3 (sw j 4)) (u (10 + sw j 4)) (x (10 + sw j 4)) ++ wd_Loop g (u 3 (sw j 5)) (u (10 + sw j 5)) (x (10 + sw j 5)) ++ wd_Loop g (u 3 (sw j 6)) (u (10 + sw j 6)) (x (10 + sw j 6)) ++ wd_Loop g (u 3 (sw j 7)) (u (10 + sw j 7)) (x (10 + sw j 7))
abbrev wd_D (g : Nat → ClassId) (h : Nat) (u : Nat → Nat → Nat) (x : Nat → St) (n j : Nat) (y z : St) : va_W := wd_AM g h (u 0) (x 0) ++ wd_Text g ((u 0) 0) (u 1) (x 1) ++ wd_Points g ((u 0) 1) (u 2) z n ++ wd_LA g ((u 0) 2) (u 3) ++ wd_Loop g (u 3 j) (u (10 + j)) y ++ wd_LO g u x j ++ wd_Events g ((u 0) 3) (u 4) (x 4) ++ wd_Plan g ((u 0) 4) (u 5) (x 5) ++ wd_Zones g ((u 5) 0) (u 6) (x 6) ++ wd_Acts g ((u 5) 1) (u 7) (x 7) ++ wd_Plan g ((u 0) 5) (u 8) (x 8) ++ wd_Zones g ((u 8) 0) (u 9) (x 9) ++ wd_Acts g ((u 8) 1) (u 18) (x 18)
abbrev wd_O (g : Nat → ClassId) (ho : Nat) (f : Nat → Int64) : va_W := [(ho, .inl (g 4, 1, .inr (.inl f)))]
def ot (k : Nat) (r : Int32) (f : Nat → Int64) : Nat → Int64 := match k with
  | 0 => vp_updL f (0 : Int32).toNatClampNeg r.toInt64
  | _ + 1 => f
def oz (k : Nat) (r : Int32) (f : Nat → Int64) : Nat → Int64 := match k with
  | 0 => vp_updL f (0 : Int32).toNatClampNeg (if r = 0 then 0 else 1)
  | _ + 1 => f
theorem ls_perm0 (g : Nat → ClassId) (u : Nat → Nat → Nat) (x : Nat → St) (j : Nat) (hj : j < 8) : (wd_LS g (u 3) (fun i => u (10 + i)) (fun i => x (10 + i))).Perm (wd_Loop g (u 3 j) (u (10 + j)) (x (10 + j)) ++ wd_LO g u x j) := by
  rcases (show j = 0 ∨ j = 1 ∨ j = 2 ∨ j = 3 ∨ j = 4 ∨ j = 5 ∨ j = 6 ∨ j = 7 by omega) with rfl | rfl | rfl | rfl | rfl | rfl | rfl | rfl
  · exact perm8_0 _ _ _ _ _ _ _ _
  · exact perm8_1 _ _ _ _ _ _ _ _
  · exact perm8_2 _ _ _ _ _ _ _ _
  · exact perm8_3 _ _ _ _ _ _ _ _
  · exact perm8_4 _ _ _ _ _ _ _ _
  · exact perm8_5 _ _ _ _ _ _ _ _
  · exact perm8_6 _ _ _ _ _ _ _ _
  · exact perm8_7 _ _ _ _ _ _ _ _
theorem ls_perm (g : Nat → ClassId) (u : Nat → Nat → Nat) (x : Nat → St) (j : Nat) (y z : St) (hj : j < 8) : (wd_LS g (u 3) (fun i => u (10 + i)) (fun i => up (up x 2 z) (10 + j) y (10 + i))).Perm (wd_Loop g (u 3 j) (u (10 + j)) y ++ wd_LO g u x j) := by
  rcases (show j = 0 ∨ j = 1 ∨ j = 2 ∨ j = 3 ∨ j = 4 ∨ j = 5 ∨ j = 6 ∨ j = 7 by omega) with rfl | rfl | rfl | rfl | rfl | rfl | rfl | rfl
  · exact perm8_0 _ _ _ _ _ _ _ _
  · exact perm8_1 _ _ _ _ _ _ _ _
  · exact perm8_2 _ _ _ _ _ _ _ _
  · exact perm8_3 _ _ _ _ _ _ _ _
  · exact perm8_4 _ _ _ _ _ _ _ _
  · exact perm8_5 _ _ _ _ _ _ _ _
  · exact perm8_6 _ _ _ _ _ _ _ _
  · exact perm8_7 _ _ _ _ _ _ _ _
theorem pmD {α : Type} (B0 B1 B2 B3 B5 B6 B7 B8 B9 B10 B11 L L1 L2 : List α) (h : L.Perm (L1 ++ L2)) : (B0 ++ B1 ++ B2 ++ B3 ++ L ++ B5 ++ B6 ++ B7 ++ B8 ++ B9 ++ B10 ++ B11).Perm (B0 ++ B1 ++ B2 ++ B3 ++ L1 ++ L2 ++ B5 ++ B6 ++ B7 ++ B8 ++ B9 ++ B10 ++ B11) := by
  classical
  refine List.perm_iff_count.mpr (fun a => ?_)
  have h9 := h.count_eq a
  simp only [List.count_append] at h9 ⊢
  omega
theorem kswap {D : va_G} {cl : List vw_C} {A : Nat → Prop} {H : Heap} {w : va_W} (g : Nat → ClassId) (h : Nat) (u : Nat → Nat → Nat) (x : Nat → St) (n j : Nat) (hj : j < 8) (hP : va_P D cl (w ++ wd_C g h u x n) H) (hD : va_D A (w ++ wd_C g h u x n)) : va_P D cl (w ++ wd_D g h u x n j (x (10 + j)) (x 2)) H ∧ va_D A (w ++ wd_D g h u x n j (x (10 + j)) (x 2)) :=
  have hp : (w ++ wd_C g h u x n).Perm (w ++ wd_D g h u x n j (x (10 + j)) (x 2)) := List.Perm.append_left w (pmD _ _ _ _ _ _ _ _ _ _ _ _ _ _ (ls_perm0 g u x j hj))
  ⟨hP.perm hp, hD.perm hp⟩
theorem kback {D : va_G} {cl : List vw_C} {A : Nat → Prop} {H : Heap} {w : va_W} (g : Nat → ClassId) (h : Nat) (u : Nat → Nat → Nat) (x : Nat → St) (n j : Nat) (y z : St) (hj : j < 8) (hP : va_P D cl (w ++ wd_D g h u x n j y z) H) (hD : va_D A (w ++ wd_D g h u x n j y z)) : va_P D cl (w ++ wd_C g h u (up (up x 2 z) (10 + j) y) n) H ∧ va_D A (w ++ wd_C g h u (up (up x 2 z) (10 + j) y) n) := by
  have hp : (w ++ wd_C g h u (up (up x 2 z) (10 + j) y) n).Perm (w ++ wd_D g h u x n j y z) := by
    have hl := ls_perm g u x j y z hj
    rcases (show j = 0 ∨ j = 1 ∨ j = 2 ∨ j = 3 ∨ j = 4 ∨ j = 5 ∨ j = 6 ∨ j = 7 by omega) with rfl | rfl | rfl | rfl | rfl | rfl | rfl | rfl <;> exact List.Perm.append_left w (pmD _ _ _ _ _ _ _ _ _ _ _ _ _ _ hl)
  exact ⟨hP.perm hp.symm, hD.perm hp.symm⟩

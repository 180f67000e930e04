-- the String constants, by their places in the tables: owner, entry, text; bytes
def nS : Nat := 44
def refS : List (String × Nat × String) := [("AlarmMatrix$Reader", 44, "zone"), ("AlarmMatrix$Reader", 85, "needs"), ("AlarmMatrix$Reader", 90, "of"), ("AlarmMatrix$Reader", 103, ";"), ("AlarmMatrix$Reader", 53, "act"), ("AlarmMatrix$Reader", 122, "kind"), ("AlarmMatrix$Reader", 124, "rank"), ("AlarmMatrix$Reader", 126, "delay"), ("AlarmMatrix$Reader", 58, "when"), ("AlarmMatrix$Reader", 137, "&"), ("AlarmMatrix$Reader", 139, "does"), ("AlarmMatrix$Reader", 63, "hold"), ("AlarmMatrix", 68, "no such character"), ("AlarmMatrix", 79, "the text is full"), ("AlarmMatrix", 90, "no such sentence, or a number out of its bounds"), ("AlarmMatrix", 241, "zone"), ("AlarmMatrix", 247, "needs"), ("AlarmMatrix", 249, "of"), ("AlarmMatrix", 257, "act"), ("AlarmMatrix", 259, "kind"), ("AlarmMatrix", 261, "rank"), ("AlarmMatrix", 263, "delay"), ("AlarmMatrix", 265, "when"), ("AlarmMatrix", 267, "does"), ("AlarmMatrix", 269, "&"), ("AlarmMatrix", 271, "hold"), ("AlarmMatrix", 273, ";"), ("AlarmMatrix", 99, "the text would be too long"), ("AlarmMatrix", 101, "the text has not so many characters"), ("AlarmMatrix", 121, "no such point, or a value out of its bounds"), ("AlarmMatrix", 126, "no such point"), ("AlarmMatrix", 133, "no such point, or a second out of its bounds"), ("AlarmMatrix", 141, "no such loop or point"), ("AlarmMatrix", 150, "the point is in a loop, or the loop is full"), ("AlarmMatrix", 159, "no such loop or place"), ("AlarmMatrix", 168, "no such loop"), ("AlarmMatrix", 173, "no such place"), ("AlarmMatrix", 179, "not so many ticks at once"), ("AlarmMatrix", 181, "TIME would be too late"), ("AlarmMatrix", 197, "a person does not do that"), ("AlarmMatrix", 211, "no such act, or nothing such of it"), ("AlarmMatrix", 223, "no such zone, or nothing such of it"), ("AlarmMatrix", 226, "no such row, or nothing such of it"), ("AlarmMatrix", 232, "no such event, or nothing such of it")]
def bytS : List (List Int32) := [[122, 111, 110, 101], [110, 101, 101, 100, 115], [111, 102], [59], [97, 99, 116], [107, 105, 110, 100], [114, 97, 110, 107], [100, 101, 108, 97, 121], [119, 104, 101, 110], [38], [100, 111, 101, 115], [104, 111, 108, 100], [110, 111, 32, 115, 117, 99, 104, 32, 99, 104, 97, 114, 97, 99, 116, 101, 114], [116, 104, 101, 32, 116, 101, 120, 116, 32, 105, 115, 32, 102, 117, 108, 108], [110, 111, 32, 115, 117, 99, 104, 32, 115, 101, 110, 116, 101, 110, 99, 101, 44, 32, 111, 114, 32, 97, 32, 110, 117, 109, 98, 101, 114, 32, 111, 117, 116, 32, 111, 102, 32, 105, 116, 115, 32, 98, 111, 117, 110, 100, 115], [122, 111, 110, 101], [110, 101, 101, 100, 115], [111, 102], [97, 99, 116], [107, 105, 110, 100], [114, 97, 110, 107], [100, 101, 108, 97, 121], [119, 104, 101, 110], [100, 111, 101, 115], [38], [104, 111, 108, 100], [59], [116, 104, 101, 32, 116, 101, 120, 116, 32, 119, 111, 117, 108, 100, 32, 98, 101, 32, 116, 111, 111, 32, 108, 111, 110, 103], [116, 104, 101, 32, 116, 101, 120, 116, 32, 104, 97, 115, 32, 110, 111, 116, 32, 115, 111, 32, 109, 97, 110, 121, 32, 99, 104, 97, 114, 97, 99, 116, 101, 114, 115], [110, 111, 32, 115, 117, 99, 104, 32, 112, 111, 105, 110, 116, 44, 32, 111, 114, 32, 97, 32, 118, 97, 108, 117, 101, 32, 111, 117, 116, 32, 111, 102, 32, 105, 116, 115, 32, 98, 111, 117, 110, 100, 115], [110, 111, 32, 115, 117, 99, 104, 32, 112, 111, 105, 110, 116], [110, 111, 32, 115, 117, 99, 104, 32, 112, 111, 105, 110, 116, 44, 32, 111, 114, 32, 97, 32, 115, 101, 99, 111, 110, 100, 32, 111, 117, 116, 32, 111, 102, 32, 105, 116, 115, 32, 98, 111, 117, 110, 100, 115], [110, 111, 32, 115, 117, 99, 104, 32, 108, 111, 111, 112, 32, 111, 114, 32, 112, 111, 105, 110, 116], [116, 104, 101, 32, 112, 111, 105, 110, 116, 32, 105, 115, 32, 105, 110, 32, 97, 32, 108, 111, 111, 112, 44, 32, 111, 114, 32, 116, 104, 101, 32, 108, 111, 111, 112, 32, 105, 115, 32, 102, 117, 108, 108], [110, 111, 32, 115, 117, 99, 104, 32, 108, 111, 111, 112, 32, 111, 114, 32, 112, 108, 97, 99, 101], [110, 111, 32, 115, 117, 99, 104, 32, 108, 111, 111, 112], [110, 111, 32, 115, 117, 99, 104, 32, 112, 108, 97, 99, 101], [110, 111, 116, 32, 115, 111, 32, 109, 97, 110, 121, 32, 116, 105, 99, 107, 115, 32, 97, 116, 32, 111, 110, 99, 101], [84, 73, 77, 69, 32, 119, 111, 117, 108, 100, 32, 98, 101, 32, 116, 111, 111, 32, 108, 97, 116, 101], [97, 32, 112, 101, 114, 115, 111, 110, 32, 100, 111, 101, 115, 32, 110, 111, 116, 32, 100, 111, 32, 116, 104, 97, 116], [110, 111, 32, 115, 117, 99, 104, 32, 97, 99, 116, 44, 32, 111, 114, 32, 110, 111, 116, 104, 105, 110, 103, 32, 115, 117, 99, 104, 32, 111, 102, 32, 105, 116], [110, 111, 32, 115, 117, 99, 104, 32, 122, 111, 110, 101, 44, 32, 111, 114, 32, 110, 111, 116, 104, 105, 110, 103, 32, 115, 117, 99, 104, 32, 111, 102, 32, 105, 116], [110, 111, 32, 115, 117, 99, 104, 32, 114, 111, 119, 44, 32, 111, 114, 32, 110, 111, 116, 104, 105, 110, 103, 32, 115, 117, 99, 104, 32, 111, 102, 32, 105, 116], [110, 111, 32, 115, 117, 99, 104, 32, 101, 118, 101, 110, 116, 44, 32, 111, 114, 32, 110, 111, 116, 104, 105, 110, 103, 32, 115, 117, 99, 104, 32, 111, 102, 32, 105, 116]]
def lnS (i : Nat) : Nat := (bytS.getD i []).length
def chS (i k : Nat) : Int32 := (((bytS.getD i []).getD k 0 &&& 255).toUInt32 % 65536).toInt32
theorem lnS_lt : ∀ i, i < nS → lnS i < 2 ^ 31 := by decide +kernel
def sS (adK adV : Nat → Nat) (A : Nat → Prop) (U : State) : Prop :=
  (∀ i : Nat, i < nS → va_O "java/lang/String" (adK i) A U U.heap ∧ va_OF "java/lang/String" "coder" "B" (.int 0) (adK i) A U U.heap ∧ va_OF "java/lang/String" "value" "[B" (.ref (adV i)) (adK i) A U U.heap ∧ va_T .byte (adV i) (lnS i) (fun j => .int ((bytS.getD i []).getD j 0)) A U U.heap) ∧
  va_Z "java/lang/String" "COMPACT_STRINGS" "Z" (.int 1) A U U.heap ∧ va_Zq "jdk/internal/util/Preconditions" "SIOOBE_FORMATTER" "Ljava/util/function/BiFunction;" A U U.heap ∧
  ∀ i : Nat, i < nS → vk_R (refS.getD i ("", 0, "")).1 (refS.getD i ("", 0, "")).2.1 (refS.getD i ("", 0, "")).2.2 (adK i) U
def gSt (adK adV : Nat → Nat) (G : (Nat → Prop) → State → Prop) : Prop := ∀ (A : Nat → Prop) (U : State), G A U → sS adK adV A U
section MyStr
variable {p : Program} {l : Launch} {e : Env} {R : Room} {s : State} {m : MethodId} {args : Array Value} {below : List Frame} {meth : Method} {c : Code} {H : Heap} {locs : List Loc} {cells slots : Nat} {Q : State → Prop} {cc : ByteArray} {pc : Nat} {ls : Array Slot} {rest : List Value} {D : va_G} {cl : List vw_C} {A : Nat → Prop} {ty : List (ClassId × FieldType)} {G : (Nat → Prop) → State → Prop} {ws : va_W}
/-- a call's start, on a String constant -/
theorem kpK {b : Nat} {C : String} {As : List Value} (hG : gok G) (ho : va_O C b A s s.heap) (hP : va_P D cl ws H) (hK : va_K D cl ty s) (hD : va_D A ws) (hS : va_S A s.heap H locs) (hA : ∀ q, s.heap.size ≤ q → A q) (hGA : G A s) :
    PreV s H C b (kq D cl ty G (.ref b :: As) H.size []) As := by
  obtain ⟨cell, h1, h2, h3, h4⟩ := ho
  have hlt : b < s.heap.size := (Array.getElem?_eq_some_iff.mp h1).1
  have hr : ∃ cellB : Cell, H[b]? = some cellB ∧ cellB.vm.isStatics = false ∧ s.vm.findClass C = some cellB.cls := ⟨cell, (hS.2.1 b hlt h4).trans h1, h2, h3⟩
  have h := kpS (wc := []) (As := .ref b :: As) hG hP hK hD hS hA hGA [] rfl rfl
  exact ⟨h.1, hr, h.2⟩
end MyStr
def flI (f : Nat → Int32) (n : Nat) (v : Int32) : Nat → Int32 := fun j => bif Nat.blt j n then v else f j
abbrev b_fill : ByteArray := prog_22_method_103_code
abbrev y_fill : MethodName := ⟨"java/util/Arrays", "fill", "([II)V"⟩
theorem d_fill_0 : decode b_fill 0 = .ok (.iconst 0, 1) := by decide +kernel
theorem d_fill_1 : decode b_fill 1 = .ok (.istore_n 2, 1) := by decide +kernel
theorem d_fill_2 : decode b_fill 2 = .ok (.aload_n 0, 1) := by decide +kernel
theorem d_fill_3 : decode b_fill 3 = .ok (.arraylength, 1) := by decide +kernel
theorem d_fill_4 : decode b_fill 4 = .ok (.istore_n 3, 1) := by decide +kernel
theorem d_fill_5 : decode b_fill 5 = .ok (.iload_n 2, 1) := by decide +kernel
theorem d_fill_6 : decode b_fill 6 = .ok (.iload_n 3, 1) := by decide +kernel
theorem d_fill_7 : decode b_fill 7 = .ok (.if_icmp .ge 13, 3) := by decide +kernel
theorem d_fill_10 : decode b_fill 10 = .ok (.aload_n 0, 1) := by decide +kernel
theorem d_fill_11 : decode b_fill 11 = .ok (.iload_n 2, 1) := by decide +kernel
theorem d_fill_12 : decode b_fill 12 = .ok (.iload_n 1, 1) := by decide +kernel
theorem d_fill_13 : decode b_fill 13 = .ok (.iastore, 1) := by decide +kernel
theorem d_fill_14 : decode b_fill 14 = .ok (.iinc 2 1, 3) := by decide +kernel
theorem d_fill_17 : decode b_fill 17 = .ok (.goto (-12), 3) := by decide +kernel
theorem d_fill_20 : decode b_fill 20 = .ok (.return_, 1) := by decide +kernel
abbrev b_Str_length : ByteArray := prog_18_method_54_code
abbrev y_Str_length : MethodName := ⟨"java/lang/String", "length", "()I"⟩
theorem d_Str_length_0 : decode b_Str_length 0 = .ok (.aload_n 0, 1) := by decide +kernel
theorem d_Str_length_1 : decode b_Str_length 1 = .ok (.getfield 9, 3) := by decide +kernel
theorem d_Str_length_4 : decode b_Str_length 4 = .ok (.arraylength, 1) := by decide +kernel
theorem d_Str_length_5 : decode b_Str_length 5 = .ok (.aload_n 0, 1) := by decide +kernel
theorem d_Str_length_6 : decode b_Str_length 6 = .ok (.invokevirtual 335, 3) := by decide +kernel
theorem d_Str_length_9 : decode b_Str_length 9 = .ok (.ishr, 1) := by decide +kernel
theorem d_Str_length_10 : decode b_Str_length 10 = .ok (.ireturn, 1) := by decide +kernel
abbrev b_Str_coder : ByteArray := prog_18_method_152_code
abbrev y_Str_coder : MethodName := ⟨"java/lang/String", "coder", "()B"⟩
theorem d_Str_coder_0 : decode b_Str_coder 0 = .ok (.getstatic 38, 3) := by decide +kernel
theorem d_Str_coder_3 : decode b_Str_coder 3 = .ok (.ifCond .eq 10, 3) := by decide +kernel
theorem d_Str_coder_6 : decode b_Str_coder 6 = .ok (.aload_n 0, 1) := by decide +kernel
theorem d_Str_coder_7 : decode b_Str_coder 7 = .ok (.getfield 15, 3) := by decide +kernel
theorem d_Str_coder_10 : decode b_Str_coder 10 = .ok (.goto 4, 3) := by decide +kernel
theorem d_Str_coder_13 : decode b_Str_coder 13 = .ok (.iconst 1, 1) := by decide +kernel
theorem d_Str_coder_14 : decode b_Str_coder 14 = .ok (.ireturn, 1) := by decide +kernel
abbrev b_Str_isLatin1 : ByteArray := prog_18_method_154_code
abbrev y_Str_isLatin1 : MethodName := ⟨"java/lang/String", "isLatin1", "()Z"⟩
theorem d_Str_isLatin1_0 : decode b_Str_isLatin1 0 = .ok (.getstatic 38, 3) := by decide +kernel
theorem d_Str_isLatin1_3 : decode b_Str_isLatin1 3 = .ok (.ifCond .eq 14, 3) := by decide +kernel
theorem d_Str_isLatin1_6 : decode b_Str_isLatin1 6 = .ok (.aload_n 0, 1) := by decide +kernel
theorem d_Str_isLatin1_7 : decode b_Str_isLatin1 7 = .ok (.getfield 15, 3) := by decide +kernel
theorem d_Str_isLatin1_10 : decode b_Str_isLatin1 10 = .ok (.ifCond .ne 7, 3) := by decide +kernel
theorem d_Str_isLatin1_13 : decode b_Str_isLatin1 13 = .ok (.iconst 1, 1) := by decide +kernel
theorem d_Str_isLatin1_14 : decode b_Str_isLatin1 14 = .ok (.goto 4, 3) := by decide +kernel
theorem d_Str_isLatin1_17 : decode b_Str_isLatin1 17 = .ok (.iconst 0, 1) := by decide +kernel
theorem d_Str_isLatin1_18 : decode b_Str_isLatin1 18 = .ok (.ireturn, 1) := by decide +kernel
abbrev b_Str_charAt : ByteArray := prog_18_method_56_code
abbrev y_Str_charAt : MethodName := ⟨"java/lang/String", "charAt", "(I)C"⟩
theorem d_Str_charAt_0 : decode b_Str_charAt 0 = .ok (.aload_n 0, 1) := by decide +kernel
theorem d_Str_charAt_1 : decode b_Str_charAt 1 = .ok (.invokevirtual 492, 3) := by decide +kernel
theorem d_Str_charAt_4 : decode b_Str_charAt 4 = .ok (.ifCond .eq 12, 3) := by decide +kernel
theorem d_Str_charAt_7 : decode b_Str_charAt 7 = .ok (.aload_n 0, 1) := by decide +kernel
theorem d_Str_charAt_8 : decode b_Str_charAt 8 = .ok (.getfield 9, 3) := by decide +kernel
theorem d_Str_charAt_11 : decode b_Str_charAt 11 = .ok (.iload_n 1, 1) := by decide +kernel
theorem d_Str_charAt_12 : decode b_Str_charAt 12 = .ok (.invokestatic 495, 3) := by decide +kernel
theorem d_Str_charAt_15 : decode b_Str_charAt 15 = .ok (.ireturn, 1) := by decide +kernel
theorem d_Str_charAt_16 : decode b_Str_charAt 16 = .ok (.aload_n 0, 1) := by decide +kernel
theorem d_Str_charAt_17 : decode b_Str_charAt 17 = .ok (.getfield 9, 3) := by decide +kernel
theorem d_Str_charAt_20 : decode b_Str_charAt 20 = .ok (.iload_n 1, 1) := by decide +kernel
theorem d_Str_charAt_21 : decode b_Str_charAt 21 = .ok (.invokestatic 498, 3) := by decide +kernel
theorem d_Str_charAt_24 : decode b_Str_charAt 24 = .ok (.ireturn, 1) := by decide +kernel
abbrev b_Lat_charAt : ByteArray := prog_19_method_2_code
abbrev y_Lat_charAt : MethodName := ⟨"java/lang/StringLatin1", "charAt", "([BI)C"⟩
theorem d_Lat_charAt_0 : decode b_Lat_charAt 0 = .ok (.iload_n 1, 1) := by decide +kernel
theorem d_Lat_charAt_1 : decode b_Lat_charAt 1 = .ok (.aload_n 0, 1) := by decide +kernel
theorem d_Lat_charAt_2 : decode b_Lat_charAt 2 = .ok (.arraylength, 1) := by decide +kernel
theorem d_Lat_charAt_3 : decode b_Lat_charAt 3 = .ok (.invokestatic 9, 3) := by decide +kernel
theorem d_Lat_charAt_6 : decode b_Lat_charAt 6 = .ok (.aload_n 0, 1) := by decide +kernel
theorem d_Lat_charAt_7 : decode b_Lat_charAt 7 = .ok (.iload_n 1, 1) := by decide +kernel
theorem d_Lat_charAt_8 : decode b_Lat_charAt 8 = .ok (.baload, 1) := by decide +kernel
theorem d_Lat_charAt_9 : decode b_Lat_charAt 9 = .ok (.sipush 255, 3) := by decide +kernel
theorem d_Lat_charAt_12 : decode b_Lat_charAt 12 = .ok (.iand, 1) := by decide +kernel
theorem d_Lat_charAt_13 : decode b_Lat_charAt 13 = .ok (.i2c, 1) := by decide +kernel
theorem d_Lat_charAt_14 : decode b_Lat_charAt 14 = .ok (.ireturn, 1) := by decide +kernel
abbrev b_Str_checkIndex : ByteArray := prog_18_method_155_code
abbrev y_Str_checkIndex : MethodName := ⟨"java/lang/String", "checkIndex", "(II)V"⟩
theorem d_Str_checkIndex_0 : decode b_Str_checkIndex 0 = .ok (.iload_n 0, 1) := by decide +kernel
theorem d_Str_checkIndex_1 : decode b_Str_checkIndex 1 = .ok (.iload_n 1, 1) := by decide +kernel
theorem d_Str_checkIndex_2 : decode b_Str_checkIndex 2 = .ok (.getstatic 1053, 3) := by decide +kernel
theorem d_Str_checkIndex_5 : decode b_Str_checkIndex 5 = .ok (.invokestatic 1059, 3) := by decide +kernel
theorem d_Str_checkIndex_8 : decode b_Str_checkIndex 8 = .ok (.pop, 1) := by decide +kernel
theorem d_Str_checkIndex_9 : decode b_Str_checkIndex 9 = .ok (.return_, 1) := by decide +kernel
abbrev b_Pre_checkIndex : ByteArray := prog_23_method_11_code
abbrev y_Pre_checkIndex : MethodName := ⟨"jdk/internal/util/Preconditions", "checkIndex", "(IILjava/util/function/BiFunction;)I"⟩
theorem d_Pre_checkIndex_0 : decode b_Pre_checkIndex 0 = .ok (.iload_n 0, 1) := by decide +kernel
theorem d_Pre_checkIndex_1 : decode b_Pre_checkIndex 1 = .ok (.ifCond .lt 8, 3) := by decide +kernel
theorem d_Pre_checkIndex_4 : decode b_Pre_checkIndex 4 = .ok (.iload_n 0, 1) := by decide +kernel
theorem d_Pre_checkIndex_5 : decode b_Pre_checkIndex 5 = .ok (.iload_n 1, 1) := by decide +kernel
theorem d_Pre_checkIndex_6 : decode b_Pre_checkIndex 6 = .ok (.if_icmp .lt 10, 3) := by decide +kernel
theorem d_Pre_checkIndex_9 : decode b_Pre_checkIndex 9 = .ok (.aload_n 2, 1) := by decide +kernel
theorem d_Pre_checkIndex_10 : decode b_Pre_checkIndex 10 = .ok (.iload_n 0, 1) := by decide +kernel
theorem d_Pre_checkIndex_11 : decode b_Pre_checkIndex 11 = .ok (.iload_n 1, 1) := by decide +kernel
theorem d_Pre_checkIndex_12 : decode b_Pre_checkIndex 12 = .ok (.invokestatic 95, 3) := by decide +kernel
theorem d_Pre_checkIndex_15 : decode b_Pre_checkIndex 15 = .ok (.athrow, 1) := by decide +kernel
theorem d_Pre_checkIndex_16 : decode b_Pre_checkIndex 16 = .ok (.iload_n 0, 1) := by decide +kernel
theorem d_Pre_checkIndex_17 : decode b_Pre_checkIndex 17 = .ok (.ireturn, 1) := by decide +kernel
abbrev rm_fill : Room := { frames := 0, cells := 0, slots := 0, locals := 0 }
set_option maxHeartbeats 4000000 in
set_option maxRecDepth 100000 in
theorem c_fill {G : (Nat → Prop) → State → Prop} (hG : gok G)  (l : Launch) (dC : Nat → ClassId) (dI : Nat → Nat → Nat) (g : Nat → ClassId) (sz : Nat) (a n : Nat) (f : Nat → Int32) (v : Int32) (hn : n < 2 ^ 31) : Met l y_fill (.code y_fill b_fill 4 none :: gw) rm_fill (kq (dC, dI) vwCl (tyv g) G [.ref a, .int v] sz ([(a, .inl (g 0, n, .inl f))])) (kqv (dC, dI) vwCl (tyv g) [(a, .inl (g 0, n, .inl f))] [(a, .inl (g 0, n, .inl (flI f n v)))] sz) 0 0 (va_A ([(a, .inl (g 0, n, .inl f))]) sz) := by
  refine km (Qc := fun sz => kqv (dC, dI) vwCl (tyv g) [(a, .inl (g 0, n, .inl f))] [(a, .inl (g 0, n, .inl (flI f n v)))] sz) (cc := b_fill) (maxL := 4) (ret := none) (by decide) rfl (Nat.le_of_ble_eq_true rfl) ?_
  intro p e s m args below meth c Q hQ hx hb hr hts hown hlocks hml hnm H locs A hAe hA hP hK hD hS hGA ls hl
  have hts : ∀ w ∈ gw, w.before args s = true := fun w h => hts w (List.mem_cons_of_mem _ h)
  have hown : s.vm.findClass "java/util/Arrays" = some m.cls := hown
  have hl : lv_has ls 4 [(0, .ref a), (1, .int v)] := hl
  refine lv_iconst (v := (0 : Int32)) hx hb d_fill_0 (by decide) ?_
  refine lv_istore_n (lv' := [(2, .int (0 : Int32)), (0, .ref a), (1, .int v)]) hx hb d_fill_1 rfl hl (by decide) rfl (fun ls hl => ?_)
  refine lv_aload_n hx hb d_fill_2 rfl (lv_at hl 1 rfl) ?_
  refine va_alen (v := nI n) hx hb hK hP 0 0 rfl rfl rfl d_fill_3 ?_
  refine lv_istore_n (lv' := [(3, .int (nI n)), (2, .int (0 : Int32)), (0, .ref a), (1, .int v)]) hx hb d_fill_4 rfl hl (by decide) rfl (fun ls hl => ?_)
  have L : ∀ (k i : Nat) (H : Heap) (locs : List Loc) (ls : Array Slot), i ≤ n → n < i + k → va_P (dC, dI) vwCl [(a, .inl (g 0, n, .inl (flI f i v)))] H → va_D A [(a, .inl (g 0, n, .inl (flI f i v)))] → va_S A s.heap H locs → lv_has ls 4 [(0, .ref a), (1, .int v), (2, .int (nI i)), (3, .int (nI n))] → W p l e rm_fill s m args below meth c H locs 0 0 Q (F0 m 5 ls []) := by
    intro k
    induction k with
    | zero => intro i H locs ls h1 h2; exact absurd h2 (by omega)
    | succ k ih =>
      intro i H locs ls h1 h2 hP hD hS hl
      refine lv_iload_n hx hb d_fill_5 rfl (lv_at hl 2 rfl) ?_
      refine lv_iload_n hx hb d_fill_6 rfl (lv_at hl 3 rfl) ?_
      refine lv_icmp_ge (tgt := 20) hx hb d_fill_7 (by decide) (fun hc => ?_) (fun hc => ?_)
      · have e : i = n := by
          have := (nI_leI (a := n) (b := i) hn (by omega)).mp hc
          omega
        subst e
        rw [hQ]
        exact krv hx hb hr hlocks hAe hP hK hD hS d_fill_20
      · have hi : i < n := by
          rcases Nat.lt_or_ge i n with q | q
          · exact q
          · exact absurd (nI_le q (by omega)) hc
        refine lv_aload_n hx hb d_fill_10 rfl (lv_at hl 0 rfl) ?_
        refine lv_iload_n hx hb d_fill_11 rfl (lv_at hl 2 rfl) ?_
        refine lv_iload_n hx hb d_fill_12 rfl (lv_at hl 1 rfl) ?_
        refine va_iast (f := flI f i v) hx hb hK hP hD hS 0 0 rfl rfl (vp_in_nI hi (by omega)) d_fill_13 (fun H locs hP hD hS => ?_)
        have ef : upd (flI f i v) (nI i).toNatClampNeg v = flI f (i + 1) v := by
          rw [nI_clamp (by omega)]
          funext j
          unfold upd flI
          by_cases hj : j = i
          · subst hj
            rw [if_pos rfl]
            have : Nat.blt j (j + 1) = true := Nat.blt_eq.mpr (by omega)
            rw [this]; rfl
          · rw [if_neg hj]
            by_cases hji : j < i
            · have q1 : Nat.blt j i = true := Nat.blt_eq.mpr hji
              have q2 : Nat.blt j (i + 1) = true := Nat.blt_eq.mpr (by omega)
              rw [q1, q2]
            · have q1 : Nat.blt j i = false := by
                cases hb2 : Nat.blt j i
                · rfl
                · exact absurd (Nat.blt_eq.mp hb2) hji
              have q2 : Nat.blt j (i + 1) = false := by
                cases hb2 : Nat.blt j (i + 1)
                · rfl
                · exact absurd (Nat.blt_eq.mp hb2) (by omega)
              rw [q1, q2]
        have hP : va_P (dC, dI) vwCl [(a, .inl (g 0, n, .inl (flI f (i + 1) v)))] H := by rw [← ef]; exact hP
        have hD : va_D A [(a, .inl (g 0, n, .inl (flI f (i + 1) v)))] := by rw [← ef]; exact hD
        refine lv_iinc (v := nI (i + 1)) (lv' := [(2, .int (nI (i + 1))), (0, .ref a), (1, .int v), (3, .int (nI n))]) hx hb d_fill_14 hl (k := 2) rfl (nI_succ i).symm (by decide) rfl (fun ls hl => ?_)
        refine lv_goto (tgt := 5) hx hb d_fill_17 (by decide) ?_
        exact ih (i + 1) H locs ls (by omega) (by omega) hP hD hS (lv_sub hl [1, 2, 0, 3] rfl)
  have e0 : f = flI f 0 v := rfl
  exact L (n + 1) 0 H locs ls (by omega) (by omega) (by rw [← e0]; exact hP) (by rw [← e0]; exact hD) hS (lv_sub hl [2, 3, 1, 0] rfl)
abbrev rm_Str_coder : Room := { frames := 0, cells := 0, slots := 0, locals := 0 }
set_option maxHeartbeats 4000000 in
set_option maxRecDepth 100000 in
theorem c_Str_coder {G : (Nat → Prop) → State → Prop} (hG : gok G) {adK adV : Nat → Nat} (hGs : gSt adK adV G) (l : Launch) (dC : Nat → ClassId) (dI : Nat → Nat → Nat) (g : Nat → ClassId) (sz : Nat) (i : Nat) (hi : i < nS) : Met l y_Str_coder (.code y_Str_coder b_Str_coder 1 (some .byte) :: gw) rm_Str_coder (kq (dC, dI) vwCl (tyv g) G [.ref (adK i)] sz (([] : va_W))) (kqi (dC, dI) vwCl (tyv g) ([] : va_W) 0 ([] : va_W) sz) 0 0 (va_A (([] : va_W)) sz) := by
  refine km (Qc := fun sz => kqi (dC, dI) vwCl (tyv g) ([] : va_W) 0 ([] : va_W) sz) (cc := b_Str_coder) (maxL := 1) (ret := (some .byte)) (by decide) rfl (Nat.le_of_ble_eq_true rfl) ?_
  intro p e s m args below meth c Q hQ hx hb hr hts hown hlocks hml hnm H locs A hAe hA hP hK hD hS hGA ls hl
  have hts : ∀ w ∈ gw, w.before args s = true := fun w h => hts w (List.mem_cons_of_mem _ h)
  have hown : s.vm.findClass "java/lang/String" = some m.cls := hown
  have hl : lv_has ls 1 [(0, .ref (adK i))] := hl
  obtain ⟨hs1, hs2, hs3, hs4⟩ := hGs A s hGA
  refine va_gets hx hb hs2 hS hown (hts _ k2_99) (fun _ h => h) d_Str_coder_0 ?_
  refine lv_if_eq (tgt := 13) hx hb d_Str_coder_3 (by decide) (fun hc => absurd hc (by decide)) (fun hc => ?_)
  refine lv_aload_n hx hb d_Str_coder_6 rfl (lv_at hl 0 rfl) ?_
  refine vk_getf hx hb (hs1 i hi).2.1 hS hown (hts _ k6_152) (fun _ h => h) d_Str_coder_7 ?_
  refine lv_goto (tgt := 14) hx hb d_Str_coder_10 (by decide) ?_
  rw [hQ]
  exact krz hx hb hr (by decide +kernel) hlocks hAe hP hK hD hS d_Str_coder_14
abbrev rm_Str_length : Room := { frames := 1, cells := 0, slots := 0, locals := 20 }
set_option maxHeartbeats 4000000 in
set_option maxRecDepth 100000 in
theorem c_Str_length {G : (Nat → Prop) → State → Prop} (hG : gok G) {adK adV : Nat → Nat} (hGs : gSt adK adV G) (l : Launch) (dC : Nat → ClassId) (dI : Nat → Nat → Nat) (g : Nat → ClassId) (sz : Nat) (i : Nat) (hi : i < nS) : Met l y_Str_length (.code y_Str_length b_Str_length 1 (some .int) :: gw) rm_Str_length (kq (dC, dI) vwCl (tyv g) G [.ref (adK i)] sz (([] : va_W))) (kqi (dC, dI) vwCl (tyv g) ([] : va_W) (nI (lnS i)) ([] : va_W) sz) 0 0 (va_A (([] : va_W)) sz) := by
  refine km (Qc := fun sz => kqi (dC, dI) vwCl (tyv g) ([] : va_W) (nI (lnS i)) ([] : va_W) sz) (cc := b_Str_length) (maxL := 1) (ret := (some .int)) (by decide) rfl (Nat.le_of_ble_eq_true rfl) ?_
  intro p e s m args below meth c Q hQ hx hb hr hts hown hlocks hml hnm H locs A hAe hA hP hK hD hS hGA ls hl
  have hts : ∀ w ∈ gw, w.before args s = true := fun w h => hts w (List.mem_cons_of_mem _ h)
  have hown : s.vm.findClass "java/lang/String" = some m.cls := hown
  have hl : lv_has ls 1 [(0, .ref (adK i))] := hl
  obtain ⟨hs1, hs2, hs3, hs4⟩ := hGs A s hGA
  refine lv_aload_n hx hb d_Str_length_0 rfl (lv_at hl 0 rfl) ?_
  refine vk_getf hx hb (hs1 i hi).2.2.1 hS hown (hts _ k6_151) (fun _ h => h) d_Str_length_1 ?_
  refine va_tlen (v := nI (lnS i)) hx hb (hs1 i hi).2.2.2 hS rfl d_Str_length_4 ?_
  refine lv_aload_n hx hb d_Str_length_5 rfl (lv_at hl 0 rfl) ?_
  refine kci (wc := []) (wr := []) (w1 := []) hP hD hS hA [] [] rfl rfl (by decide) (by decide) (va_runV (As := []) (rest := [.int (nI (lnS i))]) ⟨hx, hb, hml, hown, hts⟩ (c_Str_coder hG hGs l dC dI g H.size i hi) (cwV 0 hts (gdV k2_95 k2_96 k2_97 k1_16 k2_98) rfl rfl rfl (by decide +kernel) ⟨Nat.le_of_ble_eq_true rfl, Nat.le_of_ble_eq_true rfl⟩) (kpK hG (hs1 i hi).1 hP hK hD hS hA hGA) rfl rfl hl.1 rfl (lv_room (Nat.le_of_ble_eq_true rfl)) d_Str_length_6 ⟨Nat.le_of_ble_eq_true rfl, Nat.le_of_ble_eq_true rfl⟩) (fun H locs hP hD hS => ?_)
  refine lv_ishr hx hb d_Str_length_9 ?_
  have e : nI (lnS i) >>> ((0 : Int32) &&& 31) = nI (lnS i) := sc_shr0 (lnS_lt i hi)
  rw [e, hQ]
  exact kri hx hb hr hlocks hAe hP hK hD hS d_Str_length_10
abbrev rm_Str_isLatin1 : Room := { frames := 0, cells := 0, slots := 0, locals := 0 }
set_option maxHeartbeats 4000000 in
set_option maxRecDepth 100000 in
theorem c_Str_isLatin1 {G : (Nat → Prop) → State → Prop} (hG : gok G) {adK adV : Nat → Nat} (hGs : gSt adK adV G) (l : Launch) (dC : Nat → ClassId) (dI : Nat → Nat → Nat) (g : Nat → ClassId) (sz : Nat) (i : Nat) (hi : i < nS) : Met l y_Str_isLatin1 (.code y_Str_isLatin1 b_Str_isLatin1 1 (some .boolean) :: gw) rm_Str_isLatin1 (kq (dC, dI) vwCl (tyv g) G [.ref (adK i)] sz (([] : va_W))) (kqi (dC, dI) vwCl (tyv g) ([] : va_W) 1 ([] : va_W) sz) 0 0 (va_A (([] : va_W)) sz) := by
  refine km (Qc := fun sz => kqi (dC, dI) vwCl (tyv g) ([] : va_W) 1 ([] : va_W) sz) (cc := b_Str_isLatin1) (maxL := 1) (ret := (some .boolean)) (by decide) rfl (Nat.le_of_ble_eq_true rfl) ?_
  intro p e s m args below meth c Q hQ hx hb hr hts hown hlocks hml hnm H locs A hAe hA hP hK hD hS hGA ls hl
  have hts : ∀ w ∈ gw, w.before args s = true := fun w h => hts w (List.mem_cons_of_mem _ h)
  have hown : s.vm.findClass "java/lang/String" = some m.cls := hown
  have hl : lv_has ls 1 [(0, .ref (adK i))] := hl
  obtain ⟨hs1, hs2, hs3, hs4⟩ := hGs A s hGA
  refine va_gets hx hb hs2 hS hown (hts _ k2_99) (fun _ h => h) d_Str_isLatin1_0 ?_
  refine lv_if_eq (tgt := 17) hx hb d_Str_isLatin1_3 (by decide) (fun hc => absurd hc (by decide)) (fun hc => ?_)
  refine lv_aload_n hx hb d_Str_isLatin1_6 rfl (lv_at hl 0 rfl) ?_
  refine vk_getf hx hb (hs1 i hi).2.1 hS hown (hts _ k6_152) (fun _ h => h) d_Str_isLatin1_7 ?_
  refine lv_if_ne (tgt := 17) hx hb d_Str_isLatin1_10 (by decide) (fun hc => absurd rfl hc) (fun hc => ?_)
  refine lv_iconst (v := (1 : Int32)) hx hb d_Str_isLatin1_13 (by decide) ?_
  refine lv_goto (tgt := 18) hx hb d_Str_isLatin1_14 (by decide) ?_
  rw [hQ]
  exact krz hx hb hr nar_1 hlocks hAe hP hK hD hS d_Str_isLatin1_18
abbrev rm_Pre_checkIndex : Room := { frames := 0, cells := 0, slots := 0, locals := 0 }
set_option maxHeartbeats 4000000 in
set_option maxRecDepth 100000 in
theorem c_Pre_checkIndex {G : (Nat → Prop) → State → Prop} (hG : gok G)  (l : Launch) (dC : Nat → ClassId) (dI : Nat → Nat → Nat) (g : Nat → ClassId) (sz : Nat) (x n : Nat) (hx0 : x < n) (hn : n < 2 ^ 31) (v : Value) (hv : v.category = 1) : Met l y_Pre_checkIndex (.code y_Pre_checkIndex b_Pre_checkIndex 3 (some .int) :: gw) rm_Pre_checkIndex (kq (dC, dI) vwCl (tyv g) G [.int (nI x), .int (nI n), v] sz (([] : va_W))) (kqi (dC, dI) vwCl (tyv g) ([] : va_W) (nI x) ([] : va_W) sz) 0 0 (va_A (([] : va_W)) sz) := by
  refine km (Qc := fun sz => kqi (dC, dI) vwCl (tyv g) ([] : va_W) (nI x) ([] : va_W) sz) (cc := b_Pre_checkIndex) (maxL := 3) (ret := (some .int)) (by decide) rfl (by cases v <;> simp [lg_sl, Value.category] at hv ⊢) ?_
  intro p e s m args below meth c Q hQ hx hb hr hts hown hlocks hml hnm H locs A hAe hA hP hK hD hS hGA ls hl
  have hts : ∀ w ∈ gw, w.before args s = true := fun w h => hts w (List.mem_cons_of_mem _ h)
  have hown : s.vm.findClass "jdk/internal/util/Preconditions" = some m.cls := hown
  have hl : lv_has ls 3 [(0, .int (nI x)), (1, .int (nI n))] := ⟨hl.1, hl.2.1, fun q hq => hl.2.2 q (by
    simp only [List.mem_cons, List.not_mem_nil, or_false] at hq
    rcases hq with rfl | rfl
    · exact List.mem_cons_self
    · exact List.mem_cons_of_mem _ List.mem_cons_self)⟩
  refine lv_iload_n hx hb d_Pre_checkIndex_0 rfl (lv_at hl 0 rfl) ?_
  refine lv_if_lt (tgt := 9) hx hb d_Pre_checkIndex_1 (by decide) (fun hc => absurd hc (nI_pos (by omega))) (fun hc => ?_)
  refine lv_iload_n hx hb d_Pre_checkIndex_4 rfl (lv_at hl 0 rfl) ?_
  refine lv_iload_n hx hb d_Pre_checkIndex_5 rfl (lv_at hl 1 rfl) ?_
  refine lv_icmp_lt (tgt := 16) hx hb d_Pre_checkIndex_6 (by decide) (fun hc => ?_) (fun hc => absurd (nI_lt hx0 hn) hc)
  refine lv_iload_n hx hb d_Pre_checkIndex_16 rfl (lv_at hl 0 rfl) ?_
  rw [hQ]
  exact kri hx hb hr hlocks hAe hP hK hD hS d_Pre_checkIndex_17
abbrev rm_Str_checkIndex : Room := { frames := 1, cells := 0, slots := 0, locals := 22 }
set_option maxHeartbeats 4000000 in
set_option maxRecDepth 100000 in
theorem c_Str_checkIndex {G : (Nat → Prop) → State → Prop} (hG : gok G) {adK adV : Nat → Nat} (hGs : gSt adK adV G) (l : Launch) (dC : Nat → ClassId) (dI : Nat → Nat → Nat) (g : Nat → ClassId) (sz : Nat) (x n : Nat) (hx0 : x < n) (hn : n < 2 ^ 31) : Met l y_Str_checkIndex (.code y_Str_checkIndex b_Str_checkIndex 2 none :: gw) rm_Str_checkIndex (kq (dC, dI) vwCl (tyv g) G [.int (nI x), .int (nI n)] sz (([] : va_W))) (kqv (dC, dI) vwCl (tyv g) ([] : va_W) ([] : va_W) sz) 0 0 (va_A (([] : va_W)) sz) := by
  refine km (Qc := fun sz => kqv (dC, dI) vwCl (tyv g) ([] : va_W) ([] : va_W) sz) (cc := b_Str_checkIndex) (maxL := 2) (ret := none) (by decide) rfl (Nat.le_of_ble_eq_true rfl) ?_
  intro p e s m args below meth c Q hQ hx hb hr hts hown hlocks hml hnm H locs A hAe hA hP hK hD hS hGA ls hl
  have hts : ∀ w ∈ gw, w.before args s = true := fun w h => hts w (List.mem_cons_of_mem _ h)
  have hown : s.vm.findClass "java/lang/String" = some m.cls := hown
  have hl : lv_has ls 2 [(0, .int (nI x)), (1, .int (nI n))] := hl
  obtain ⟨hs1, hs2, hs3, hs4⟩ := hGs A s hGA
  refine lv_iload_n hx hb d_Str_checkIndex_0 rfl (lv_at hl 0 rfl) ?_
  refine lv_iload_n hx hb d_Str_checkIndex_1 rfl (lv_at hl 1 rfl) ?_
  rcases hs3 with h3 | ⟨t, h3⟩
  · refine va_gets hx hb h3 hS hown (hts _ k2_115) (fun _ h => h) d_Str_checkIndex_2 ?_
    refine kci (wc := []) (wr := []) (w1 := []) hP hD hS hA [] [] rfl rfl (by decide) (by decide) (va_runS (As := [.int (nI x), .int (nI n), .null]) (rest := []) ⟨hx, hb, hml, hown, hts⟩ (c_Pre_checkIndex hG l dC dI g H.size x n hx0 hn (.null) rfl) ⟨callB_of 3 hts (gdI k2_119) rfl rfl rfl (hts _ k1_18) (hts _ k2_117) (by decide +kernel) ⟨Nat.le_of_ble_eq_true rfl, Nat.le_of_ble_eq_true rfl⟩, hts _ k2_118⟩ (kpS hG hP hK hD hS hA hGA [] (by decide) rfl) rfl rfl hl.1 rfl (lv_room (Nat.le_of_ble_eq_true rfl)) d_Str_checkIndex_5 ⟨Nat.le_of_ble_eq_true rfl, Nat.le_of_ble_eq_true rfl⟩) (fun H locs hP hD hS => ?_)
    refine lv_pop hx hb d_Str_checkIndex_8 rfl ?_
    rw [hQ]
    exact krv hx hb hr hlocks hAe hP hK hD hS d_Str_checkIndex_9
  · refine va_gets hx hb h3 hS hown (hts _ k2_115) (fun _ h => h) d_Str_checkIndex_2 ?_
    refine kci (wc := []) (wr := []) (w1 := []) hP hD hS hA [] [] rfl rfl (by decide) (by decide) (va_runS (As := [.int (nI x), .int (nI n), .ref t]) (rest := []) ⟨hx, hb, hml, hown, hts⟩ (c_Pre_checkIndex hG l dC dI g H.size x n hx0 hn (.ref t) rfl) ⟨callB_of 3 hts (gdI k2_119) rfl rfl rfl (hts _ k1_18) (hts _ k2_117) (by decide +kernel) ⟨Nat.le_of_ble_eq_true rfl, Nat.le_of_ble_eq_true rfl⟩, hts _ k2_118⟩ (kpS hG hP hK hD hS hA hGA [] (by decide) rfl) rfl rfl hl.1 rfl (lv_room (Nat.le_of_ble_eq_true rfl)) d_Str_checkIndex_5 ⟨Nat.le_of_ble_eq_true rfl, Nat.le_of_ble_eq_true rfl⟩) (fun H locs hP hD hS => ?_)
    refine lv_pop hx hb d_Str_checkIndex_8 rfl ?_
    rw [hQ]
    exact krv hx hb hr hlocks hAe hP hK hD hS d_Str_checkIndex_9
abbrev rm_Lat_charAt : Room := { frames := 2, cells := 0, slots := 0, locals := 43 }
set_option maxHeartbeats 4000000 in
set_option maxRecDepth 100000 in
theorem c_Lat_charAt {G : (Nat → Prop) → State → Prop} (hG : gok G) {adK adV : Nat → Nat} (hGs : gSt adK adV G) (l : Launch) (dC : Nat → ClassId) (dI : Nat → Nat → Nat) (g : Nat → ClassId) (sz : Nat) (i : Nat) (hi : i < nS) (x : Nat) (hx0 : x < lnS i) : Met l y_Lat_charAt (.code y_Lat_charAt b_Lat_charAt 2 (some .char) :: gw) rm_Lat_charAt (kq (dC, dI) vwCl (tyv g) G [.ref (adV i), .int (nI x)] sz (([] : va_W))) (kqi (dC, dI) vwCl (tyv g) ([] : va_W) (chS i x) ([] : va_W) sz) 0 0 (va_A (([] : va_W)) sz) := by
  refine km (Qc := fun sz => kqi (dC, dI) vwCl (tyv g) ([] : va_W) (chS i x) ([] : va_W) sz) (cc := b_Lat_charAt) (maxL := 2) (ret := (some .char)) (by decide) rfl (Nat.le_of_ble_eq_true rfl) ?_
  intro p e s m args below meth c Q hQ hx hb hr hts hown hlocks hml hnm H locs A hAe hA hP hK hD hS hGA ls hl
  have hts : ∀ w ∈ gw, w.before args s = true := fun w h => hts w (List.mem_cons_of_mem _ h)
  have hown : s.vm.findClass "java/lang/StringLatin1" = some m.cls := hown
  have hl : lv_has ls 2 [(0, .ref (adV i)), (1, .int (nI x))] := hl
  obtain ⟨hs1, hs2, hs3, hs4⟩ := hGs A s hGA
  have hn := lnS_lt i hi
  refine lv_iload_n hx hb d_Lat_charAt_0 rfl (lv_at hl 1 rfl) ?_
  refine lv_aload_n hx hb d_Lat_charAt_1 rfl (lv_at hl 0 rfl) ?_
  refine va_tlen (v := nI (lnS i)) hx hb (hs1 i hi).2.2.2 hS rfl d_Lat_charAt_2 ?_
  refine kcv (wc := []) (wr := []) (w1 := []) hP hD hS hA [] [] rfl rfl (by decide) (by decide) (va_runS (As := [.int (nI x), .int (nI (lnS i))]) (rest := []) ⟨hx, hb, hml, hown, hts⟩ (c_Str_checkIndex hG hGs l dC dI g H.size x (lnS i) hx0 hn) ⟨callB_of 2 hts (gdI k2_114) rfl rfl rfl (hts _ k1_16) (hts _ k2_112) (by decide +kernel) ⟨Nat.le_of_ble_eq_true rfl, Nat.le_of_ble_eq_true rfl⟩, hts _ k2_113⟩ (kpS hG hP hK hD hS hA hGA [] (by decide) rfl) rfl rfl hl.1 rfl (lv_room (Nat.le_of_ble_eq_true rfl)) d_Lat_charAt_3 ⟨Nat.le_of_ble_eq_true rfl, Nat.le_of_ble_eq_true rfl⟩) (fun H locs hP hD hS => ?_)
  refine lv_aload_n hx hb d_Lat_charAt_6 rfl (lv_at hl 0 rfl) ?_
  refine lv_iload_n hx hb d_Lat_charAt_7 rfl (lv_at hl 1 rfl) ?_
  refine va_tb (v := .int ((bytS.getD i []).getD x 0)) hx hb (hs1 i hi).2.2.2 hS (vp_in_nI hx0 hn) (by rw [nI_clamp (by omega)]) d_Lat_charAt_8 ?_
  refine lv_sipush (v := (255 : Int32)) hx hb d_Lat_charAt_9 (by decide) ?_
  refine lv_iand hx hb d_Lat_charAt_12 ?_
  refine lv_i2c (v := chS i x) hx hb d_Lat_charAt_13 rfl ?_
  rw [hQ]
  exact krz hx hb hr (pk_nc _) hlocks hAe hP hK hD hS d_Lat_charAt_14
abbrev rm_Str_charAt : Room := { frames := 3, cells := 0, slots := 0, locals := 64 }
set_option maxHeartbeats 4000000 in
set_option maxRecDepth 100000 in
theorem c_Str_charAt {G : (Nat → Prop) → State → Prop} (hG : gok G) {adK adV : Nat → Nat} (hGs : gSt adK adV G) (l : Launch) (dC : Nat → ClassId) (dI : Nat → Nat → Nat) (g : Nat → ClassId) (sz : Nat) (i : Nat) (hi : i < nS) (x : Nat) (hx0 : x < lnS i) : Met l y_Str_charAt (.code y_Str_charAt b_Str_charAt 2 (some .char) :: gw) rm_Str_charAt (kq (dC, dI) vwCl (tyv g) G [.ref (adK i), .int (nI x)] sz (([] : va_W))) (kqi (dC, dI) vwCl (tyv g) ([] : va_W) (chS i x) ([] : va_W) sz) 0 0 (va_A (([] : va_W)) sz) := by
  refine km (Qc := fun sz => kqi (dC, dI) vwCl (tyv g) ([] : va_W) (chS i x) ([] : va_W) sz) (cc := b_Str_charAt) (maxL := 2) (ret := (some .char)) (by decide) rfl (Nat.le_of_ble_eq_true rfl) ?_
  intro p e s m args below meth c Q hQ hx hb hr hts hown hlocks hml hnm H locs A hAe hA hP hK hD hS hGA ls hl
  have hts : ∀ w ∈ gw, w.before args s = true := fun w h => hts w (List.mem_cons_of_mem _ h)
  have hown : s.vm.findClass "java/lang/String" = some m.cls := hown
  have hl : lv_has ls 2 [(0, .ref (adK i)), (1, .int (nI x))] := hl
  obtain ⟨hs1, hs2, hs3, hs4⟩ := hGs A s hGA
  have hn := lnS_lt i hi
  refine lv_aload_n hx hb d_Str_charAt_0 rfl (lv_at hl 0 rfl) ?_
  refine kci (wc := []) (wr := []) (w1 := []) hP hD hS hA [] [] rfl rfl (by decide) (by decide) (va_runV (As := []) (rest := []) ⟨hx, hb, hml, hown, hts⟩ (c_Str_isLatin1 hG hGs l dC dI g H.size i hi) (cwV 0 hts (gdV k2_105 k2_106 k2_107 k1_16 k2_108) rfl rfl rfl (by decide +kernel) ⟨Nat.le_of_ble_eq_true rfl, Nat.le_of_ble_eq_true rfl⟩) (kpK hG (hs1 i hi).1 hP hK hD hS hA hGA) rfl rfl hl.1 rfl (lv_room (Nat.le_of_ble_eq_true rfl)) d_Str_charAt_1 ⟨Nat.le_of_ble_eq_true rfl, Nat.le_of_ble_eq_true rfl⟩) (fun H locs hP hD hS => ?_)
  refine lv_if_eq (tgt := 16) hx hb d_Str_charAt_4 (by decide) (fun hc => absurd hc (by decide)) (fun hc => ?_)
  refine lv_aload_n hx hb d_Str_charAt_7 rfl (lv_at hl 0 rfl) ?_
  refine vk_getf hx hb (hs1 i hi).2.2.1 hS hown (hts _ k6_151) (fun _ h => h) d_Str_charAt_8 ?_
  refine lv_iload_n hx hb d_Str_charAt_11 rfl (lv_at hl 1 rfl) ?_
  refine kci (wc := []) (wr := []) (w1 := []) hP hD hS hA [] [] rfl rfl (by decide) (by decide) (va_runS (As := [.ref (adV i), .int (nI x)]) (rest := []) ⟨hx, hb, hml, hown, hts⟩ (c_Lat_charAt hG hGs l dC dI g H.size i hi x hx0) ⟨callB_of 2 hts (gdI k2_111) rfl rfl rfl (hts _ k1_17) (hts _ k2_109) (by decide +kernel) ⟨Nat.le_of_ble_eq_true rfl, Nat.le_of_ble_eq_true rfl⟩, hts _ k2_110⟩ (kpS hG hP hK hD hS hA hGA [] (by decide) rfl) rfl rfl hl.1 rfl (lv_room (Nat.le_of_ble_eq_true rfl)) d_Str_charAt_12 ⟨Nat.le_of_ble_eq_true rfl, Nat.le_of_ble_eq_true rfl⟩) (fun H locs hP hD hS => ?_)
  rw [hQ]
  exact krz hx hb hr (pk_nc _) hlocks hAe hP hK hD hS d_Str_charAt_15
theorem c_Str_charAtI {G : (Nat → Prop) → State → Prop} (hG : gok G) {adK adV : Nat → Nat} (hGs : gSt adK adV G) (l : Launch) (dC : Nat → ClassId) (dI : Nat → Nat → Nat) (g : Nat → ClassId) (sz : Nat) (i : Nat) (hi : i < nS) (x : Int32) (hx0 : vp_in x (lnS i)) : Met l y_Str_charAt (.code y_Str_charAt b_Str_charAt 2 (some .char) :: gw) rm_Str_charAt (kq (dC, dI) vwCl (tyv g) G [.ref (adK i), .int x] sz ([] : va_W)) (kqi (dC, dI) vwCl (tyv g) ([] : va_W) (chS i x.toNatClampNeg) ([] : va_W) sz) 0 0 (va_A ([] : va_W) sz) := by
  obtain ⟨j, hj, rfl⟩ := vp_in_of hx0 (lnS_lt i hi)
  have h := c_Str_charAt hG hGs l dC dI g sz i hi j hj
  have hn := lnS_lt i hi
  rw [nI_clamp (by omega)]
  exact h
section MyLdc
variable {p : Program} {l : Launch} {e : Env} {R : Room} {s : State} {m : MethodId} {args : Array Value} {below : List Frame} {meth : Method} {c : Code} {H : Heap} {locs : List Loc} {cells slots : Nat} {Q : State → Prop} {cc : ByteArray} {pc : Nat} {ls : Array Slot} {rest : List Value}
theorem kldcW (hexec : p.tables.exec = Jvm.exec) (hb : c.code = cc) {own tx : String} {index q : Nat} (hown : s.vm.findClass own = some m.cls) (hZ : vk_R own index tx q s) (hdg : decode cc pc = .ok (.ldc_w index, 3))
    (k : W p l e R s m args below meth c H locs cells slots Q (F0 m (pc + 3) ls (.ref q :: rest))) : W p l e R s m args below meth c H locs cells slots Q (F0 m pc ls rest) := by
  intro T hT X
  obtain ⟨t, a1, b1⟩ := k T hT X
  exact ⟨t, X.ldcStringW hexec hown (text := tx) (a := q) hZ.1 hZ.2 (g := F0 m pc ls rest) rfl (by rw [hb]; exact hdg) t a1, b1⟩
end MyLdc

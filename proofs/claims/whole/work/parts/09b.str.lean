def RJ3 : String := "jdk/internal/util/Preconditions"
abbrev cJ3_checkIndex_8e157 : ByteArray := prog_30_method_11_code
def yJ3_checkIndex_8e157 : MethodName := ⟨RJ3, "checkIndex", "(IILjava/util/function/BiFunction;)I"⟩
theorem dJ3_checkIndex_8e157_0 : decode cJ3_checkIndex_8e157 0 = .ok (.iload_n 0, 1) := by decide +kernel
theorem dJ3_checkIndex_8e157_1 : decode cJ3_checkIndex_8e157 1 = .ok (.ifCond .lt 8, 3) := by decide +kernel
theorem dJ3_checkIndex_8e157_4 : decode cJ3_checkIndex_8e157 4 = .ok (.iload_n 0, 1) := by decide +kernel
theorem dJ3_checkIndex_8e157_5 : decode cJ3_checkIndex_8e157 5 = .ok (.iload_n 1, 1) := by decide +kernel
theorem dJ3_checkIndex_8e157_6 : decode cJ3_checkIndex_8e157 6 = .ok (.if_icmp .lt 10, 3) := by decide +kernel
theorem dJ3_checkIndex_8e157_9 : decode cJ3_checkIndex_8e157 9 = .ok (.aload_n 2, 1) := by decide +kernel
theorem dJ3_checkIndex_8e157_10 : decode cJ3_checkIndex_8e157 10 = .ok (.iload_n 0, 1) := by decide +kernel
theorem dJ3_checkIndex_8e157_11 : decode cJ3_checkIndex_8e157 11 = .ok (.iload_n 1, 1) := by decide +kernel
theorem dJ3_checkIndex_8e157_12 : decode cJ3_checkIndex_8e157 12 = .ok (.invokestatic 95, 3) := by decide +kernel
theorem dJ3_checkIndex_8e157_15 : decode cJ3_checkIndex_8e157 15 = .ok (.athrow, 1) := by decide +kernel
theorem dJ3_checkIndex_8e157_16 : decode cJ3_checkIndex_8e157 16 = .ok (.iload_n 0, 1) := by decide +kernel
theorem dJ3_checkIndex_8e157_17 : decode cJ3_checkIndex_8e157 17 = .ok (.ireturn, 1) := by decide +kernel
theorem wd_400 : (Jvm.Cond.code ({ cls := "java/lang/String", name := "indexOf", desc := "(II)I" } : Jvm.MethodName) prog_22_method_80_code (3 : Nat) (Option.some Jvm.ClassFile.FieldType.int)) ∈ wT0 := wT0_in (List.mem_append_right _ (List.mem_of_getElem? (i := 400) (by decide +kernel))) rfl
theorem wd_397 : (Jvm.Cond.methodLink "java/lang/String" (633 : Nat) ({ cls := "java/lang/String", name := "indexOf", desc := "(II)I" } : Jvm.MethodName)) ∈ wT0 := wT0_in (List.mem_append_right _ (List.mem_of_getElem? (i := 397) (by decide +kernel))) rfl
theorem wd_398 : (Jvm.Cond.instanceMethod ({ cls := "java/lang/String", name := "indexOf", desc := "(II)I" } : Jvm.MethodName)) ∈ wT0 := wT0_in (List.mem_append_right _ (List.mem_of_getElem? (i := 398) (by decide +kernel))) rfl
theorem wd_399 : (Jvm.Cond.selects "java/lang/String" ({ cls := "java/lang/String", name := "indexOf", desc := "(II)I" } : Jvm.MethodName) ({ cls := "java/lang/String", name := "indexOf", desc := "(II)I" } : Jvm.MethodName)) ∈ wT0 := wT0_in (List.mem_append_right _ (List.mem_of_getElem? (i := 399) (by decide +kernel))) rfl
theorem wd_404 : (Jvm.Cond.code ({ cls := "java/lang/String", name := "isLatin1", desc := "()Z" } : Jvm.MethodName) prog_22_method_154_code (1 : Nat) (Option.some Jvm.ClassFile.FieldType.boolean)) ∈ wT0 := wT0_in (List.mem_append_right _ (List.mem_of_getElem? (i := 404) (by decide +kernel))) rfl
theorem wd_401 : (Jvm.Cond.methodLink "java/lang/String" (492 : Nat) ({ cls := "java/lang/String", name := "isLatin1", desc := "()Z" } : Jvm.MethodName)) ∈ wT0 := wT0_in (List.mem_append_right _ (List.mem_of_getElem? (i := 401) (by decide +kernel))) rfl
theorem wd_402 : (Jvm.Cond.instanceMethod ({ cls := "java/lang/String", name := "isLatin1", desc := "()Z" } : Jvm.MethodName)) ∈ wT0 := wT0_in (List.mem_append_right _ (List.mem_of_getElem? (i := 402) (by decide +kernel))) rfl
theorem wd_403 : (Jvm.Cond.selects "java/lang/String" ({ cls := "java/lang/String", name := "isLatin1", desc := "()Z" } : Jvm.MethodName) ({ cls := "java/lang/String", name := "isLatin1", desc := "()Z" } : Jvm.MethodName)) ∈ wT0 := wT0_in (List.mem_append_right _ (List.mem_of_getElem? (i := 403) (by decide +kernel))) rfl
theorem wd_410 : (Jvm.Cond.code ({ cls := "java/lang/String", name := "length", desc := "()I" } : Jvm.MethodName) prog_22_method_54_code (1 : Nat) (Option.some Jvm.ClassFile.FieldType.int)) ∈ wT0 := wT0_in (List.mem_append_right _ (List.mem_of_getElem? (i := 410) (by decide +kernel))) rfl
theorem wd_407 : (Jvm.Cond.methodLink "java/lang/String" (505 : Nat) ({ cls := "java/lang/String", name := "length", desc := "()I" } : Jvm.MethodName)) ∈ wT0 := wT0_in (List.mem_append_right _ (List.mem_of_getElem? (i := 407) (by decide +kernel))) rfl
theorem wd_408 : (Jvm.Cond.instanceMethod ({ cls := "java/lang/String", name := "length", desc := "()I" } : Jvm.MethodName)) ∈ wT0 := wT0_in (List.mem_append_right _ (List.mem_of_getElem? (i := 408) (by decide +kernel))) rfl
theorem wd_409 : (Jvm.Cond.selects "java/lang/String" ({ cls := "java/lang/String", name := "length", desc := "()I" } : Jvm.MethodName) ({ cls := "java/lang/String", name := "length", desc := "()I" } : Jvm.MethodName)) ∈ wT0 := wT0_in (List.mem_append_right _ (List.mem_of_getElem? (i := 409) (by decide +kernel))) rfl
theorem wd_414 : (Jvm.Cond.code ({ cls := "java/lang/String", name := "coder", desc := "()B" } : Jvm.MethodName) prog_22_method_152_code (1 : Nat) (Option.some Jvm.ClassFile.FieldType.byte)) ∈ wT0 := wT0_in (List.mem_append_right _ (List.mem_of_getElem? (i := 414) (by decide +kernel))) rfl
theorem wd_411 : (Jvm.Cond.methodLink "java/lang/String" (335 : Nat) ({ cls := "java/lang/String", name := "coder", desc := "()B" } : Jvm.MethodName)) ∈ wT0 := wT0_in (List.mem_append_right _ (List.mem_of_getElem? (i := 411) (by decide +kernel))) rfl
theorem wd_412 : (Jvm.Cond.instanceMethod ({ cls := "java/lang/String", name := "coder", desc := "()B" } : Jvm.MethodName)) ∈ wT0 := wT0_in (List.mem_append_right _ (List.mem_of_getElem? (i := 412) (by decide +kernel))) rfl
theorem wd_413 : (Jvm.Cond.selects "java/lang/String" ({ cls := "java/lang/String", name := "coder", desc := "()B" } : Jvm.MethodName) ({ cls := "java/lang/String", name := "coder", desc := "()B" } : Jvm.MethodName)) ∈ wT0 := wT0_in (List.mem_append_right _ (List.mem_of_getElem? (i := 413) (by decide +kernel))) rfl
theorem wd_417 : (Jvm.Cond.code ({ cls := "java/lang/StringLatin1", name := "indexOf", desc := "([BIII)I" } : Jvm.MethodName) prog_23_method_22_code (4 : Nat) (Option.some Jvm.ClassFile.FieldType.int)) ∈ wT0 := wT0_in (List.mem_append_right _ (List.mem_of_getElem? (i := 417) (by decide +kernel))) rfl
theorem wd_415 : (Jvm.Cond.methodLink "java/lang/String" (637 : Nat) ({ cls := "java/lang/StringLatin1", name := "indexOf", desc := "([BIII)I" } : Jvm.MethodName)) ∈ wT0 := wT0_in (List.mem_append_right _ (List.mem_of_getElem? (i := 415) (by decide +kernel))) rfl
theorem wd_416 : (Jvm.Cond.static ({ cls := "java/lang/StringLatin1", name := "indexOf", desc := "([BIII)I" } : Jvm.MethodName)) ∈ wT0 := wT0_in (List.mem_append_right _ (List.mem_of_getElem? (i := 416) (by decide +kernel))) rfl
theorem wd_420 : (Jvm.Cond.code ({ cls := "java/lang/StringLatin1", name := "canEncode", desc := "(I)Z" } : Jvm.MethodName) prog_23_method_4_code (1 : Nat) (Option.some Jvm.ClassFile.FieldType.boolean)) ∈ wT0 := wT0_in (List.mem_append_right _ (List.mem_of_getElem? (i := 420) (by decide +kernel))) rfl
theorem wd_418 : (Jvm.Cond.methodLink "java/lang/StringLatin1" (88 : Nat) ({ cls := "java/lang/StringLatin1", name := "canEncode", desc := "(I)Z" } : Jvm.MethodName)) ∈ wT0 := wT0_in (List.mem_append_right _ (List.mem_of_getElem? (i := 418) (by decide +kernel))) rfl
theorem wd_419 : (Jvm.Cond.static ({ cls := "java/lang/StringLatin1", name := "canEncode", desc := "(I)Z" } : Jvm.MethodName)) ∈ wT0 := wT0_in (List.mem_append_right _ (List.mem_of_getElem? (i := 419) (by decide +kernel))) rfl
theorem wd_429 : (Jvm.Cond.code ({ cls := "java/lang/StringLatin1", name := "indexOfChar", desc := "([BIII)I" } : Jvm.MethodName) prog_23_method_23_code (6 : Nat) (Option.some Jvm.ClassFile.FieldType.int)) ∈ wT0 := wT0_in (List.mem_append_right _ (List.mem_of_getElem? (i := 429) (by decide +kernel))) rfl
theorem wd_427 : (Jvm.Cond.methodLink "java/lang/StringLatin1" (95 : Nat) ({ cls := "java/lang/StringLatin1", name := "indexOfChar", desc := "([BIII)I" } : Jvm.MethodName)) ∈ wT0 := wT0_in (List.mem_append_right _ (List.mem_of_getElem? (i := 427) (by decide +kernel))) rfl
theorem wd_428 : (Jvm.Cond.static ({ cls := "java/lang/StringLatin1", name := "indexOfChar", desc := "([BIII)I" } : Jvm.MethodName)) ∈ wT0 := wT0_in (List.mem_append_right _ (List.mem_of_getElem? (i := 428) (by decide +kernel))) rfl
theorem wd_499 : (Jvm.Cond.code ({ cls := "java/lang/StringLatin1", name := "charAt", desc := "([BI)C" } : Jvm.MethodName) prog_23_method_2_code (2 : Nat) (Option.some Jvm.ClassFile.FieldType.char)) ∈ wT0 := wT0_in (List.mem_append_right _ (List.mem_of_getElem? (i := 499) (by decide +kernel))) rfl
theorem wd_497 : (Jvm.Cond.methodLink "java/lang/String" (495 : Nat) ({ cls := "java/lang/StringLatin1", name := "charAt", desc := "([BI)C" } : Jvm.MethodName)) ∈ wT0 := wT0_in (List.mem_append_right _ (List.mem_of_getElem? (i := 497) (by decide +kernel))) rfl
theorem wd_498 : (Jvm.Cond.static ({ cls := "java/lang/StringLatin1", name := "charAt", desc := "([BI)C" } : Jvm.MethodName)) ∈ wT0 := wT0_in (List.mem_append_right _ (List.mem_of_getElem? (i := 498) (by decide +kernel))) rfl
theorem wd_502 : (Jvm.Cond.code ({ cls := "java/lang/String", name := "checkIndex", desc := "(II)V" } : Jvm.MethodName) prog_22_method_155_code (2 : Nat) (Option.none : Option Jvm.ClassFile.FieldType)) ∈ wT0 := wT0_in (List.mem_append_right _ (List.mem_of_getElem? (i := 502) (by decide +kernel))) rfl
theorem wd_500 : (Jvm.Cond.methodLink "java/lang/StringLatin1" (9 : Nat) ({ cls := "java/lang/String", name := "checkIndex", desc := "(II)V" } : Jvm.MethodName)) ∈ wT0 := wT0_in (List.mem_append_right _ (List.mem_of_getElem? (i := 500) (by decide +kernel))) rfl
theorem wd_501 : (Jvm.Cond.static ({ cls := "java/lang/String", name := "checkIndex", desc := "(II)V" } : Jvm.MethodName)) ∈ wT0 := wT0_in (List.mem_append_right _ (List.mem_of_getElem? (i := 501) (by decide +kernel))) rfl
theorem wd_505 : (Jvm.Cond.code ({ cls := "jdk/internal/util/Preconditions", name := "checkIndex", desc := "(IILjava/util/function/BiFunction;)I" } : Jvm.MethodName) prog_30_method_11_code (3 : Nat) (Option.some Jvm.ClassFile.FieldType.int)) ∈ wT0 := wT0_in (List.mem_append_right _ (List.mem_of_getElem? (i := 505) (by decide +kernel))) rfl
theorem wd_503 : (Jvm.Cond.methodLink "java/lang/String" (1059 : Nat) ({ cls := "jdk/internal/util/Preconditions", name := "checkIndex", desc := "(IILjava/util/function/BiFunction;)I" } : Jvm.MethodName)) ∈ wT0 := wT0_in (List.mem_append_right _ (List.mem_of_getElem? (i := 503) (by decide +kernel))) rfl
theorem wd_504 : (Jvm.Cond.static ({ cls := "jdk/internal/util/Preconditions", name := "checkIndex", desc := "(IILjava/util/function/BiFunction;)I" } : Jvm.MethodName)) ∈ wT0 := wT0_in (List.mem_append_right _ (List.mem_of_getElem? (i := 504) (by decide +kernel))) rfl
theorem wd_17 : (Jvm.Cond.initialized "jdk/internal/util/Preconditions") ∈ wT0 := wT0_in (List.mem_append_right _ (List.mem_of_getElem? (i := 17) (by decide +kernel))) rfl
theorem wd_396 : (Jvm.Cond.code ({ cls := "java/lang/String", name := "indexOf", desc := "(I)I" } : Jvm.MethodName) prog_22_method_79_code (2 : Nat) (Option.some Jvm.ClassFile.FieldType.int)) ∈ wT0 := wT0_in (List.mem_append_right _ (List.mem_of_getElem? (i := 396) (by decide +kernel))) rfl
theorem wd_394 : (Jvm.Cond.instanceMethod ({ cls := "java/lang/String", name := "indexOf", desc := "(I)I" } : Jvm.MethodName)) ∈ wT0 := wT0_in (List.mem_append_right _ (List.mem_of_getElem? (i := 394) (by decide +kernel))) rfl
theorem wd_395 : (Jvm.Cond.selects "java/lang/String" ({ cls := "java/lang/String", name := "indexOf", desc := "(I)I" } : Jvm.MethodName) ({ cls := "java/lang/String", name := "indexOf", desc := "(I)I" } : Jvm.MethodName)) ∈ wT0 := wT0_in (List.mem_append_right _ (List.mem_of_getElem? (i := 395) (by decide +kernel))) rfl
theorem wd_496 : (Jvm.Cond.code ({ cls := "java/lang/String", name := "charAt", desc := "(I)C" } : Jvm.MethodName) prog_22_method_56_code (2 : Nat) (Option.some Jvm.ClassFile.FieldType.char)) ∈ wT0 := wT0_in (List.mem_append_right _ (List.mem_of_getElem? (i := 496) (by decide +kernel))) rfl
theorem wd_494 : (Jvm.Cond.instanceMethod ({ cls := "java/lang/String", name := "charAt", desc := "(I)C" } : Jvm.MethodName)) ∈ wT0 := wT0_in (List.mem_append_right _ (List.mem_of_getElem? (i := 494) (by decide +kernel))) rfl
theorem wd_495 : (Jvm.Cond.selects "java/lang/String" ({ cls := "java/lang/String", name := "charAt", desc := "(I)C" } : Jvm.MethodName) ({ cls := "java/lang/String", name := "charAt", desc := "(I)C" } : Jvm.MethodName)) ∈ wT0 := wT0_in (List.mem_append_right _ (List.mem_of_getElem? (i := 495) (by decide +kernel))) rfl
theorem wd_1816 : (Jvm.Cond.fieldLink "java/lang/String" (9 : Nat) "java/lang/String" "value" "[B") ∈ wT0 := wT0_in (List.mem_append_right _ (List.mem_of_getElem? (i := 1816) (by decide +kernel))) rfl
theorem wd_1815 : (Jvm.Cond.fieldLink "java/lang/String" (15 : Nat) "java/lang/String" "coder" "B") ∈ wT0 := wT0_in (List.mem_append_right _ (List.mem_of_getElem? (i := 1815) (by decide +kernel))) rfl
theorem wd_405 : (Jvm.Cond.fieldLink "java/lang/String" (38 : Nat) "java/lang/String" "COMPACT_STRINGS" "Z") ∈ wT0 := wT0_in (List.mem_append_right _ (List.mem_of_getElem? (i := 405) (by decide +kernel))) rfl
theorem wd_448 : (Jvm.Cond.fieldLink "java/lang/String" (1053 : Nat) "jdk/internal/util/Preconditions" "SIOOBE_FORMATTER" "Ljava/util/function/BiFunction;") ∈ wT0 := wT0_in (List.mem_append_right _ (List.mem_of_getElem? (i := 448) (by decide +kernel))) rfl
theorem wd_421 : (Jvm.Cond.methodLink "java/lang/StringLatin1" (92 : Nat) ({ cls := "java/lang/Math", name := "max", desc := "(II)I" } : Jvm.MethodName)) ∈ wT0 := wT0_in (List.mem_append_right _ (List.mem_of_getElem? (i := 421) (by decide +kernel))) rfl
theorem wd_424 : (Jvm.Cond.methodLink "java/lang/StringLatin1" (38 : Nat) ({ cls := "java/lang/Math", name := "min", desc := "(II)I" } : Jvm.MethodName)) ∈ wT0 := wT0_in (List.mem_append_right _ (List.mem_of_getElem? (i := 424) (by decide +kernel))) rfl
/-! TEXTS OF THE CLASS: their cells are not of the world; 100000 + i the text, 200000 + i its bytes -/
def wslen (i : Nat) : Int32 := Int32.ofNat (wSl.getD i 0)
def wsbyt (i j : Nat) : Int32 := (wSb.getD i []).getD j 0
def wVs (own : String) (idx : Nat) (y : MethodName) (bytes : ByteArray) (mL : Nat) (ret : Option FieldType) (n : Nat) : Prop :=
  y.cls = "java/lang/String" ∧ (y.cls ≠ "java/lang/invoke/MethodHandle" ∧ y.cls ≠ "java/lang/invoke/VarHandle" ∧ (parseMethodDescriptor y.desc).map (fun d => d.parameters.length) = some n) ∧ Cond.code y bytes mL ret ∈ wT0 ∧ Cond.methodLink own idx y ∈ wT0 ∧ Cond.instanceMethod y ∈ wT0 ∧ Cond.selects y.cls y y ∈ wT0 ∧ Cond.initialized y.cls ∈ wT0
section WS
variable {p : Program} {l : Launch} {e : Env} {R : Room} {s : State} {m : MethodId} {args : Array Value} {below : List Frame} {meth : Method} {c : Code} {ck cn : Nat} {Q : State → Prop} {own : String} {cc : ByteArray} {nL : Nat} {D : va_G} {dA : Nat → ClassId} {b0 : Nat} {ad : Nat → Nat} {S : List wSh} {pc q : Nat} {ls : List (Option Value)} {st : List Value} {h : wSt}
theorem w_callVS (X : wCx p s m args meth c own cc nL D dA b0 ad) {d mL n idx i : Nat} {y : MethodName} {bytes : ByteArray} {ret : Option FieldType} {As st0 : List Value} {F : Option Value → wSt → Prop} (hd : decode cc pc = .ok (.invokevirtual idx, 3)) (hp : pc + 3 = q) (hl : wVs own idx y bytes mL ret n) (hC : wC l y bytes mL ret d S (.ref (100000 + i) :: As) h F) (hi : i < 25) (hst : st0 = As.reverse ++ .ref (100000 + i) :: st) (hn : As.length = n) (hrm : (st.map fun v => v.category).sum ≤ 8) (hR : d + 1 ≤ R.frames ∧ 8 + (mL + 11) + 64 * d ≤ R.locals) (hf : ck ≤ R.cells ∧ cn ≤ R.slots) (kk : ∀ (r : Option Value) (h2 : wSt), F r h2 → wM p l e R s m args below meth c ck cn Q nL D dA b0 ad S q ls (r.toList ++ st) h2) : wM p l e R s m args below meth c ck cn Q nL D dA b0 ad S pc ls st0 h := by
  subst hp
  obtain ⟨hcl, hy, h1, h2, h3, h4, h5⟩ := hl
  refine w_run (a := (Value.ref (ad (100000 + i)) :: As.map (wv ad)).toArray) (F := F) (fun H locs arr hP hD hS hL => ?_) kk
  refine va_runV ⟨X.1, X.2.1, X.2.2.1, X.2.2.2.1, X.2.2.2.2.1⟩ (hC D dA b0 ad) ⟨w_callB X hy h1 h2 h5 hR, X.2.2.2.2.1 _ h3, X.2.2.2.2.1 _ h4⟩ ⟨wP_blind D dA b0 ad S h _, by rw [hcl]; exact vk_recv (i := i) X.2.2.2.2.2.2.2.2.1 hi hS, fun U hU hW => ⟨rfl, w_pre X hP hD hS hU hW⟩⟩ rfl (by rw [List.length_map]; exact hn) hL.1 ?_ ?_ hd ⟨by omega, by omega⟩
  · show st0.map (wv ad) = _
    rw [hst, List.map_append, List.map_reverse]
    rfl
  · exact lv_room (m := m) (pc := pc) (ls := arr) (rest := st0.map (wv ad)) (by rw [w_cats]; exact hrm)
theorem w_sval (X : wCx p s m args meth c own cc nL D dA b0 ad) {i idx : Nat} (hd : decode cc pc = .ok (.getfield idx, 3)) (hp : pc + 3 = q) (hl : Cond.fieldLink own idx "java/lang/String" "value" "[B" ∈ wT0) (hi : i < 25) (k : wM p l e R s m args below meth c ck cn Q nL D dA b0 ad S q ls (.ref (200000 + i) :: st) h) : wM p l e R s m args below meth c ck cn Q nL D dA b0 ad S pc ls (.ref (100000 + i) :: st) h := by
  subst hp
  exact fun H locs arr hP hD hS hL => vk_getf X.1 X.2.1 (X.2.2.2.2.2.2.2.2.1.1 i hi).2.2.1 hS X.2.2.2.1 (X.2.2.2.2.1 _ hl) (fun _ h9 => h9) hd (k H locs arr hP hD hS hL)
theorem w_scod (X : wCx p s m args meth c own cc nL D dA b0 ad) {i idx : Nat} (hd : decode cc pc = .ok (.getfield idx, 3)) (hp : pc + 3 = q) (hl : Cond.fieldLink own idx "java/lang/String" "coder" "B" ∈ wT0) (hi : i < 25) (k : wM p l e R s m args below meth c ck cn Q nL D dA b0 ad S q ls (.int 0 :: st) h) : wM p l e R s m args below meth c ck cn Q nL D dA b0 ad S pc ls (.ref (100000 + i) :: st) h := by
  subst hp
  exact fun H locs arr hP hD hS hL => vk_getf X.1 X.2.1 (X.2.2.2.2.2.2.2.2.1.1 i hi).2.1 hS X.2.2.2.1 (X.2.2.2.2.1 _ hl) (fun _ h9 => h9) hd (k H locs arr hP hD hS hL)
theorem w_slen (X : wCx p s m args meth c own cc nL D dA b0 ad) {i : Nat} (hd : decode cc pc = .ok (.arraylength, 1)) (hp : pc + 1 = q) (hi : i < 25) (k : wM p l e R s m args below meth c ck cn Q nL D dA b0 ad S q ls (.int (wslen i) :: st) h) : wM p l e R s m args below meth c ck cn Q nL D dA b0 ad S pc ls (.ref (200000 + i) :: st) h := by
  subst hp
  exact fun H locs arr hP hD hS hL => va_tlen X.1 X.2.1 (X.2.2.2.2.2.2.2.2.1.1 i hi).2.2.2 hS rfl hd (k H locs arr hP hD hS hL)
theorem w_sbld (X : wCx p s m args meth c own cc nL D dA b0 ad) {i j : Nat} {x : Int32} (hd : decode cc pc = .ok (.baload, 1)) (hp : pc + 1 = q) (hj : x.toNatClampNeg = j) (hi : i < 25) (hin : vp_in x (wSl.getD i 0)) (k : wM p l e R s m args below meth c ck cn Q nL D dA b0 ad S q ls (.int (wsbyt i j) :: st) h) : wM p l e R s m args below meth c ck cn Q nL D dA b0 ad S pc ls (.int x :: .ref (200000 + i) :: st) h := by
  subst hp
  subst hj
  exact fun H locs arr hP hD hS hL => va_tb X.1 X.2.1 (X.2.2.2.2.2.2.2.2.1.1 i hi).2.2.2 hS hin rfl hd (k H locs arr hP hD hS hL)
theorem w_compact (X : wCx p s m args meth c own cc nL D dA b0 ad) {idx : Nat} (hd : decode cc pc = .ok (.getstatic idx, 3)) (hp : pc + 3 = q) (hl : Cond.fieldLink own idx "java/lang/String" "COMPACT_STRINGS" "Z" ∈ wT0) (k : wM p l e R s m args below meth c ck cn Q nL D dA b0 ad S q ls (.int 1 :: st) h) : wM p l e R s m args below meth c ck cn Q nL D dA b0 ad S pc ls st h := by
  subst hp
  exact fun H locs arr hP hD hS hL => va_gets X.1 X.2.1 X.2.2.2.2.2.2.2.2.2.2.1 hS X.2.2.2.1 (X.2.2.2.2.1 _ hl) (fun _ h9 => h9) hd (k H locs arr hP hD hS hL)
theorem w_former (X : wCx p s m args meth c own cc nL D dA b0 ad) {idx : Nat} (hd : decode cc pc = .ok (.getstatic idx, 3)) (hp : pc + 3 = q) (hl : Cond.fieldLink own idx "jdk/internal/util/Preconditions" "SIOOBE_FORMATTER" "Ljava/util/function/BiFunction;" ∈ wT0) (k : wM p l e R s m args below meth c ck cn Q nL D dA b0 ad S q ls (wsv ad :: st) h) : wM p l e R s m args below meth c ck cn Q nL D dA b0 ad S pc ls st h := by
  subst hp
  exact fun H locs arr hP hD hS hL => va_gets X.1 X.2.1 X.2.2.2.2.2.2.2.2.2.2.2.1 hS X.2.2.2.1 (X.2.2.2.2.1 _ hl) (fun _ h9 => h9) hd (k H locs arr hP hD hS hL)
theorem wsv_cat (ad : Nat → Nat) : (wsv ad).category = 1 := by unfold wsv; split <;> rfl
theorem w_nret (X : wCx p s m args meth c own cc nL D dA b0 ad) {F : Option Value → wSt → Prop} {v : Int32} {ty : FieldType} (hd : decode cc pc = .ok (.ireturn, 1)) (hr : meth.sig.returnType = some ty) (hn : narrow ty (.int v) = .int v) (hF : F (some (.int v)) h) : wM p l e R s m args below meth c 0 0 (wE below args s D dA b0 ad S F) nL D dA b0 ad S pc ls [.int v] h := by
  intro H locs arr hP hD hS hL
  exact W.zret X.1 X.2.1 hr hn (fun t ht hW => ⟨⟨some (.int v), h, rfl, hF, by rw [ht]; exact hP, hD⟩, hS.F ht⟩) hS.2.2 hd X.2.2.2.2.2.2.2.1
end WS
theorem vs_J0_633 : wVs RJ0 633 yJ0_indexOf_7cf53 cJ0_indexOf_7cf53 3 (some .int) 2 := ⟨rfl, by decide +kernel, wd_400, wd_397, wd_398, wd_399, wd_13⟩
theorem vs_J0_492 : wVs RJ0 492 yJ0_isLatin1_aae02 cJ0_isLatin1_aae02 1 (some .boolean) 0 := ⟨rfl, by decide +kernel, wd_404, wd_401, wd_402, wd_403, wd_13⟩
theorem vs_J0_505 : wVs RJ0 505 yJ0_length_8abf5 cJ0_length_8abf5 1 (some .int) 0 := ⟨rfl, by decide +kernel, wd_410, wd_407, wd_408, wd_409, wd_13⟩
theorem vs_J0_335 : wVs RJ0 335 yJ0_coder_7d493 cJ0_coder_7d493 1 (some .byte) 0 := ⟨rfl, by decide +kernel, wd_414, wd_411, wd_412, wd_413, wd_13⟩
theorem sl_J0_637 : wSl1 RJ0 637 yJ1_indexOf_4cfef cJ1_indexOf_4cfef 4 (some .int) 4 := ⟨by decide +kernel, wd_417, wd_415, wd_416, wd_14⟩
theorem sl_J1_88 : wSl1 RJ1 88 yJ1_canEncode_9a6ad cJ1_canEncode_9a6ad 1 (some .boolean) 1 := ⟨by decide +kernel, wd_420, wd_418, wd_419, wd_14⟩
theorem sl_J1_95 : wSl1 RJ1 95 yJ1_indexOfChar_4cfef cJ1_indexOfChar_4cfef 6 (some .int) 4 := ⟨by decide +kernel, wd_429, wd_427, wd_428, wd_14⟩
theorem sl_J0_495 : wSl1 RJ0 495 yJ1_charAt_3b067 cJ1_charAt_3b067 2 (some .char) 2 := ⟨by decide +kernel, wd_499, wd_497, wd_498, wd_14⟩
theorem sl_J1_9 : wSl1 RJ1 9 yJ0_checkIndex_df160 cJ0_checkIndex_df160 2 none 2 := ⟨by decide +kernel, wd_502, wd_500, wd_501, wd_13⟩
theorem sl_J0_1059 : wSl1 RJ0 1059 yJ3_checkIndex_8e157 cJ3_checkIndex_8e157 3 (some .int) 3 := ⟨by decide +kernel, wd_505, wd_503, wd_504, wd_17⟩
theorem vs_X7_40 : wVs RX7 40 yJ0_indexOf_0f7a4 cJ0_indexOf_0f7a4 2 (some .int) 1 := ⟨rfl, by decide +kernel, wd_396, wd_393, wd_394, wd_395, wd_13⟩
theorem vs_X7_55 : wVs RX7 55 yJ0_length_8abf5 cJ0_length_8abf5 1 (some .int) 0 := ⟨rfl, by decide +kernel, wd_410, wd_492, wd_408, wd_409, wd_13⟩
theorem vs_X7_58 : wVs RX7 58 yJ0_charAt_5068e cJ0_charAt_5068e 2 (some .char) 1 := ⟨rfl, by decide +kernel, wd_496, wd_493, wd_494, wd_495, wd_13⟩

section WJ
variable {p : Program} {l : Launch} {e : Env} {s : State} {m : MethodId} {args : Array Value} {below : List Frame} {meth : Method} {c : Code} {D : va_G} {dA : Nat → ClassId} {b0 : Nat} {ad : Nat → Nat} {F : Option Value → wSt → Prop}
theorem kJ3_checkIndex (l : Launch) {h : wSt} {x y : Int32} {v : Value} (hv : v.category = 1) (h0 : ¬ x < 0) (h1 : x < y) : wC l yJ3_checkIndex_8e157 cJ3_checkIndex_8e157 3 (some .int) 1 S0 [.int x, .int y, v] h (wFI (fun a b => x = a ∧ h = b)) := by
  have hw : wlo [.int x, .int y, v] = [some (.int x), some (.int y), some v] := by
    show some (Value.int x) :: some (Value.int y) :: (if v.category = 2 then some v :: none :: wlo [] else some v :: wlo []) = _
    rw [if_neg (by rw [hv]; decide)]
    rfl
  refine w_meth2 0 (by decide) (by rw [hw]; exact Nat.le_refl 3) (ls := [some (.int x), some (.int y), some v]) (by rw [hw]; rfl) ?_
  intro p e s m args below meth c D dA b0 ad X hr
  refine w_iload_n X dJ3_checkIndex_8e157_0 rfl rfl rfl ?_
  refine w_if_lt X dJ3_checkIndex_8e157_1 rfl (t := 9) rfl (fun hc => absurd hc h0) (fun _ => ?_)
  refine w_iload_n X dJ3_checkIndex_8e157_4 rfl rfl rfl ?_
  refine w_iload_n X dJ3_checkIndex_8e157_5 rfl rfl rfl ?_
  refine w_icmp_lt X dJ3_checkIndex_8e157_6 rfl (t := 16) rfl (fun _ => ?_) (fun hc => absurd h1 hc)
  refine w_iload_n X dJ3_checkIndex_8e157_16 rfl rfl rfl ?_
  exact w_iret X dJ3_checkIndex_8e157_17 hr ⟨x, rfl, rfl, rfl⟩
def fJ0_checkIndex_df160 (h : wSt) (x0 x1 : Int32) : Option Unit := if ¬ x0 < 0 ∧ x0 < x1 then some () else none
theorem kJ0_checkIndex_df160 (l : Launch) {h : wSt} {x0 x1 : Int32} {res : Unit} (hf : fJ0_checkIndex_df160 h x0 x1 = some res) : wC l yJ0_checkIndex_df160 cJ0_checkIndex_df160 2 none 2 S0 [.int x0, .int x1] h (wFV (fun b => h = b)) := by
  have hg : ¬ x0 < 0 ∧ x0 < x1 := by
    unfold fJ0_checkIndex_df160 at hf
    by_cases hc : ¬ x0 < 0 ∧ x0 < x1
    · exact hc
    · rw [if_neg hc] at hf; cases hf
  refine w_meth2 0 (by decide) (Nat.le_of_ble_eq_true rfl) (ls := [some (.int x0), some (.int x1)]) rfl ?_
  intro p e s m args below meth c D dA b0 ad X hr
  refine w_iload_n X dJ0_checkIndex_df160_0 rfl rfl rfl ?_
  refine w_iload_n X dJ0_checkIndex_df160_1 rfl rfl rfl ?_
  refine w_former X dJ0_checkIndex_df160_2 rfl wd_448 ?_
  refine w_callS X dJ0_checkIndex_df160_5 rfl sl_J0_1059 (kJ3_checkIndex l (wsv_cat ad) hg.1 hg.2) (As := [.int x0, .int x1, wsv ad]) (st := []) rfl rfl (Nat.le_of_ble_eq_true rfl) ⟨Nat.le_of_ble_eq_true rfl, Nat.le_of_ble_eq_true rfl⟩ ⟨Nat.zero_le _, Nat.zero_le _⟩ (fun r h2 hF => ?_)
  obtain ⟨_, rfl, rfl, rfl⟩ := hF
  refine w_pop X dJ0_checkIndex_df160_8 rfl rfl ?_
  exact w_vret X dJ0_checkIndex_df160_9 hr ⟨rfl, rfl⟩
end WJ
